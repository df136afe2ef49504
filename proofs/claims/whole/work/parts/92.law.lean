/-! the law's calls, one by one -/
abbrev qln (g : qG) : Nat := g.2.2.2.2.2.2.1
abbrev qx (g : qG) (j : Nat) : Int32 := g.2.2.2.2.2.2.2 j
/-- the law, whatever the machine calls it -/
abbrev kLn (nm : String) : qKt := (⟨RL, nm, kL_law.1.desc⟩, kL_law.2)
theorem isF_not1 {n : Nat} {h : Int32} (e : ¬ isF n h = 0) : isF n h = 1 := isF_1 e
set_option maxHeartbeats 2000000 in
theorem op_feed (g : qG) {nm : String} {Z : List Frame → Array Value → State → State → Prop} (hl : qln g < 2 ^ 31) {i : Nat} (hi : i + 6 ≤ qln g) (NEXT : ∀ M σ, qG0 M σ → qT g (kLn nm) room_1 Z 1210 [some (.ref 1000000), some (.ref 0), some (.ref 280), some (.int (nI i))] [] 333 M (333, 23035)) {M : qM} {σ : qSt} (hG : qG0 M σ) : qT g (kLn nm) room_1 Z 184 [some (.ref 1000000), some (.ref 0), some (.ref 280), some (.int (nI i))] [] 333 M (333, 23035) := by
  obtain ⟨t, pl, π, c, η, τ⟩ := σ
  obtain ⟨hM, ⟨p, p2, hC⟩, ⟨L, hD⟩, ⟨okt, okp, okc⟩, okco, okh, okto⟩ := hG
  obtain ⟨⟨hp, hp2, hpp⟩, ⟨⟨hr, hr2⟩, hP, hW, hpl, hwd⟩, hT, ⟨hS, hH⟩, hHd, ⟨hTo, hEx⟩, hRw⟩ := id hC
  refine qi_aload_n (i := 1) (x := 0) dL_law_184 rfl rfl ?_
  refine qi_aload_n (i := 0) (x := 1000000) dL_law_185 rfl rfl ?_
  refine qi_iload_n (i := 3) (x := nI i) dL_law_186 rfl rfl ?_
  refine qi_iconst (v := 1) dL_law_187 rfl ?_
  refine qi_iadd dL_law_188 ?_
  refine qe_top (y := nI (i + 1)) (nI_add _ _) ?_
  refine qi_sldN (j := i + 1) (x := qx g (i + 1)) dL_law_189 rfl (show i + 1 < qln g by omega) hl rfl ?_
  refine qi_aload_n (i := 0) (x := 1000000) dL_law_190 rfl rfl ?_
  refine qi_iload_n (i := 3) (x := nI i) dL_law_191 rfl rfl ?_
  refine qi_iconst (v := 2) dL_law_192 rfl ?_
  refine qi_iadd dL_law_193 ?_
  refine qe_top (y := nI (i + 2)) (nI_add _ _) ?_
  refine qi_sldN (j := i + 2) (x := qx g (i + 2)) dL_law_194 rfl (show i + 2 < qln g by omega) hl rfl ?_
  refine qi_aload_n (i := 0) (x := 1000000) dL_law_195 rfl rfl ?_
  refine qi_iload_n (i := 3) (x := nI i) dL_law_196 rfl rfl ?_
  refine qi_iconst (v := 3) dL_law_197 rfl ?_
  refine qi_iadd dL_law_198 ?_
  refine qe_top (y := nI (i + 3)) (nI_add _ _) ?_
  refine qi_sldN (j := i + 3) (x := qx g (i + 3)) dL_law_199 rfl (show i + 3 < qln g by omega) hl rfl ?_
  refine qi_aload_n (i := 0) (x := 1000000) dL_law_200 rfl rfl ?_
  refine qi_iload_n (i := 3) (x := nI i) dL_law_201 rfl rfl ?_
  refine qi_iconst (v := 4) dL_law_202 rfl ?_
  refine qi_iadd dL_law_203 ?_
  refine qe_top (y := nI (i + 4)) (nI_add _ _) ?_
  refine qi_sldN (j := i + 4) (x := qx g (i + 4)) dL_law_204 rfl (show i + 4 < qln g by omega) hl rfl ?_
  refine qi_aload_n (i := 0) (x := 1000000) dL_law_205 rfl rfl ?_
  refine qi_iload_n (i := 3) (x := nI i) dL_law_206 rfl rfl ?_
  refine qi_iconst (v := 5) dL_law_207 rfl ?_
  refine qi_iadd dL_law_208 ?_
  refine qe_top (y := nI (i + 5)) (nI_add _ _) ?_
  refine qi_sldN (j := i + 5) (x := qx g (i + 5)) dL_law_209 rfl (show i + 5 < qln g by omega) hl rfl ?_
  refine qi_callVI (K' := kX11_feed) (As := [.int (qx g (i + 1)), .int (qx g (i + 2)), .int (qx g (i + 3)), .int (qx g (i + 4)), .int (qx g (i + 5))]) mlL_13 okX11_feed dL_law_210 (c_X11_feed g hM hT okt.1 (qx g (i + 1)) (qx g (i + 2)) (qx g (i + 3)) (qx g (i + 4)) (qx g (i + 5))) rfl (by decide) rfl (by decide) rfl rfl (Nat.le_of_ble_eq_true rfl) ⟨(Nat.le_of_ble_eq_true rfl), (Nat.le_of_ble_eq_true rfl)⟩ ⟨Nat.le_of_ble_eq_true rfl, Nat.le_of_ble_eq_true rfl⟩ (fun r1 M1 ⟨e1, hT1, hf1⟩ => ?_)
  have C1 : qCs M1 p p2 ((dFeed (qx g (i + 1)) (qx g (i + 2)) (qx g (i + 3)) (qx g (i + 4)) (qx g (i + 5)) t).2, pl, π, c, η, τ) := hC.tape hf1 hT1
  have X1 : qFX M M1 := qFX.of hM hf1 (fun b j z => by unfold STc at z; omega)
  have hM1 := X1.1
  have D1 := hD.cls X1
  obtain ⟨⟨dP, dCl, dpl, dky⟩, dT, dC, dH, dTo⟩ := id D1
  refine qi_aload_n (i := 2) (x := 280) dL_law_213 rfl rfl ?_
  refine qi_aload_n (i := 0) (x := 1000000) dL_law_214 rfl rfl ?_
  refine qi_iload_n (i := 3) (x := nI i) dL_law_215 rfl rfl ?_
  refine qi_iconst (v := 1) dL_law_216 rfl ?_
  refine qi_iadd dL_law_217 ?_
  refine qe_top (y := nI (i + 1)) (nI_add _ _) ?_
  refine qi_sldN (j := i + 1) (x := qx g (i + 1)) dL_law_218 rfl (show i + 1 < qln g by omega) hl rfl ?_
  refine qi_aload_n (i := 0) (x := 1000000) dL_law_219 rfl rfl ?_
  refine qi_iload_n (i := 3) (x := nI i) dL_law_220 rfl rfl ?_
  refine qi_iconst (v := 2) dL_law_221 rfl ?_
  refine qi_iadd dL_law_222 ?_
  refine qe_top (y := nI (i + 2)) (nI_add _ _) ?_
  refine qi_sldN (j := i + 2) (x := qx g (i + 2)) dL_law_223 rfl (show i + 2 < qln g by omega) hl rfl ?_
  refine qi_aload_n (i := 0) (x := 1000000) dL_law_224 rfl rfl ?_
  refine qi_iload_n (i := 3) (x := nI i) dL_law_225 rfl rfl ?_
  refine qi_iconst (v := 3) dL_law_226 rfl ?_
  refine qi_iadd dL_law_227 ?_
  refine qe_top (y := nI (i + 3)) (nI_add _ _) ?_
  refine qi_sldN (j := i + 3) (x := qx g (i + 3)) dL_law_228 rfl (show i + 3 < qln g by omega) hl rfl ?_
  refine qi_aload_n (i := 0) (x := 1000000) dL_law_229 rfl rfl ?_
  refine qi_iload_n (i := 3) (x := nI i) dL_law_230 rfl rfl ?_
  refine qi_iconst (v := 4) dL_law_231 rfl ?_
  refine qi_iadd dL_law_232 ?_
  refine qe_top (y := nI (i + 4)) (nI_add _ _) ?_
  refine qi_sldN (j := i + 4) (x := qx g (i + 4)) dL_law_233 rfl (show i + 4 < qln g by omega) hl rfl ?_
  refine qi_aload_n (i := 0) (x := 1000000) dL_law_234 rfl rfl ?_
  refine qi_iload_n (i := 3) (x := nI i) dL_law_235 rfl rfl ?_
  refine qi_iconst (v := 5) dL_law_236 rfl ?_
  refine qi_iadd dL_law_237 ?_
  refine qe_top (y := nI (i + 5)) (nI_add _ _) ?_
  refine qi_sldN (j := i + 5) (x := qx g (i + 5)) dL_law_238 rfl (show i + 5 < qln g by omega) hl rfl ?_
  refine qi_callVI (K' := kX12_feed) (As := [.int (qx g (i + 1)), .int (qx g (i + 2)), .int (qx g (i + 3)), .int (qx g (i + 4)), .int (qx g (i + 5))]) mlL_17 okX12_feed dL_law_239 (c_X12_feed g hM1 dT okt.1 (qx g (i + 1)) (qx g (i + 2)) (qx g (i + 3)) (qx g (i + 4)) (qx g (i + 5))) rfl (by decide) rfl (by decide) rfl rfl (Nat.le_of_ble_eq_true rfl) ⟨(Nat.le_of_ble_eq_true rfl), (Nat.le_of_ble_eq_true rfl)⟩ ⟨Nat.le_of_ble_eq_true rfl, Nat.le_of_ble_eq_true rfl⟩ (fun r2 M2 ⟨e2, dT2, hf2⟩ => ?_)
  have D2 : qDs M2 L ((dFeed (qx g (i + 1)) (qx g (i + 2)) (qx g (i + 3)) (qx g (i + 4)) (qx g (i + 5)) t).2, pl, π, c, η, τ) := D1.tape hf2 dT2
  have F2 := hf2.mono (S' := fun b _ => 280 ≤ b) (fun b j z => by unfold STp at z; omega)
  have hM2 := hM1.fr hf2
  have C2 := C1.ref F2 (fun b j z => z)
  refine qi_icmp_eq (tgt := 1210) dL_law_242 (by decide) (fun z => ?_) (fun z => False.elim (z (e1.trans e2.symm)))
  exact NEXT M2 ((dFeed (qx g (i + 1)) (qx g (i + 2)) (qx g (i + 3)) (qx g (i + 4)) (qx g (i + 5)) t).2, pl, π, c, η, τ) ⟨hM2, ⟨p, p2, C2⟩, ⟨L, D2⟩, ⟨⟨okt.feed, okp, okc⟩, okco, okh, okto⟩⟩
set_option maxHeartbeats 2000000 in
theorem op_back (g : qG) {nm : String} {Z : List Frame → Array Value → State → State → Prop} (hl : qln g < 2 ^ 31) {i : Nat} (hi : i + 6 ≤ qln g) (NEXT : ∀ M σ, qG0 M σ → qT g (kLn nm) room_1 Z 1210 [some (.ref 1000000), some (.ref 0), some (.ref 280), some (.int (nI i))] [] 333 M (333, 23035)) {M : qM} {σ : qSt} (hG : qG0 M σ) : qT g (kLn nm) room_1 Z 247 [some (.ref 1000000), some (.ref 0), some (.ref 280), some (.int (nI i))] [] 333 M (333, 23035) := by
  obtain ⟨t, pl, π, c, η, τ⟩ := σ
  obtain ⟨hM, ⟨p, p2, hC⟩, ⟨L, hD⟩, ⟨okt, okp, okc⟩, okco, okh, okto⟩ := hG
  obtain ⟨⟨hp, hp2, hpp⟩, ⟨⟨hr, hr2⟩, hP, hW, hpl, hwd⟩, hT, ⟨hS, hH⟩, hHd, ⟨hTo, hEx⟩, hRw⟩ := id hC
  refine qi_aload_n (i := 1) (x := 0) dL_law_247 rfl rfl ?_
  refine qi_aload_n (i := 0) (x := 1000000) dL_law_248 rfl rfl ?_
  refine qi_iload_n (i := 3) (x := nI i) dL_law_249 rfl rfl ?_
  refine qi_iconst (v := 1) dL_law_250 rfl ?_
  refine qi_iadd dL_law_251 ?_
  refine qe_top (y := nI (i + 1)) (nI_add _ _) ?_
  refine qi_sldN (j := i + 1) (x := qx g (i + 1)) dL_law_252 rfl (show i + 1 < qln g by omega) hl rfl ?_
  refine qi_callVI (K' := kX11_back) (As := [.int (qx g (i + 1))]) mlL_18 okX11_back dL_law_253 (c_X11_back g hM hT okt.1 (qx g (i + 1))) rfl (by decide) rfl (by decide) rfl rfl (Nat.le_of_ble_eq_true rfl) ⟨(Nat.le_of_ble_eq_true rfl), (Nat.le_of_ble_eq_true rfl)⟩ ⟨Nat.le_of_ble_eq_true rfl, Nat.le_of_ble_eq_true rfl⟩ (fun r1 M1 ⟨e1, hT1, hf1⟩ => ?_)
  have C1 : qCs M1 p p2 ((dBack (qx g (i + 1)) t).2, pl, π, c, η, τ) := hC.tape hf1 hT1
  have X1 : qFX M M1 := qFX.of hM hf1 (fun b j z => by unfold STc at z; omega)
  have hM1 := X1.1
  have D1 := hD.cls X1
  obtain ⟨⟨dP, dCl, dpl, dky⟩, dT, dC, dH, dTo⟩ := id D1
  refine qi_aload_n (i := 2) (x := 280) dL_law_256 rfl rfl ?_
  refine qi_aload_n (i := 0) (x := 1000000) dL_law_257 rfl rfl ?_
  refine qi_iload_n (i := 3) (x := nI i) dL_law_258 rfl rfl ?_
  refine qi_iconst (v := 1) dL_law_259 rfl ?_
  refine qi_iadd dL_law_260 ?_
  refine qe_top (y := nI (i + 1)) (nI_add _ _) ?_
  refine qi_sldN (j := i + 1) (x := qx g (i + 1)) dL_law_261 rfl (show i + 1 < qln g by omega) hl rfl ?_
  refine qi_callVI (K' := kX12_back) (As := [.int (qx g (i + 1))]) mlL_22 okX12_back dL_law_262 (c_X12_back g hM1 dT okt.1 (qx g (i + 1))) rfl (by decide) rfl (by decide) rfl rfl (Nat.le_of_ble_eq_true rfl) ⟨(Nat.le_of_ble_eq_true rfl), (Nat.le_of_ble_eq_true rfl)⟩ ⟨Nat.le_of_ble_eq_true rfl, Nat.le_of_ble_eq_true rfl⟩ (fun r2 M2 ⟨e2, dT2, hf2⟩ => ?_)
  have D2 : qDs M2 L ((dBack (qx g (i + 1)) t).2, pl, π, c, η, τ) := D1.tape hf2 dT2
  have F2 := hf2.mono (S' := fun b _ => 280 ≤ b) (fun b j z => by unfold STp at z; omega)
  have hM2 := hM1.fr hf2
  have C2 := C1.ref F2 (fun b j z => z)
  refine qi_icmp_eq (tgt := 1210) dL_law_265 (by decide) (fun z => ?_) (fun z => False.elim (z (e1.trans e2.symm)))
  exact NEXT M2 ((dBack (qx g (i + 1)) t).2, pl, π, c, η, τ) ⟨hM2, ⟨p, p2, C2⟩, ⟨L, D2⟩, ⟨⟨okt.back, okp, okc⟩, okco, okh, okto⟩⟩
set_option maxHeartbeats 2000000 in
theorem op_place (g : qG) {nm : String} {Z : List Frame → Array Value → State → State → Prop} (hl : qln g < 2 ^ 31) {i : Nat} (hi : i + 6 ≤ qln g) (NEXT : ∀ M σ, qG0 M σ → qT g (kLn nm) room_1 Z 1210 [some (.ref 1000000), some (.ref 0), some (.ref 280), some (.int (nI i))] [] 333 M (333, 23035)) {M : qM} {σ : qSt} (hG : qG0 M σ) : qT g (kLn nm) room_1 Z 283 [some (.ref 1000000), some (.ref 0), some (.ref 280), some (.int (nI i))] [] 333 M (333, 23035) := by
  obtain ⟨t, pl, π, c, η, τ⟩ := σ
  obtain ⟨hM, ⟨p, p2, hC⟩, ⟨L, hD⟩, ⟨okt, okp, okc⟩, okco, okh, okto⟩ := hG
  obtain ⟨⟨hp, hp2, hpp⟩, ⟨⟨hr, hr2⟩, hP, hW, hpl, hwd⟩, hT, ⟨hS, hH⟩, hHd, ⟨hTo, hEx⟩, hRw⟩ := id hC
  refine qi_aload_n (i := 1) (x := 0) dL_law_283 rfl rfl ?_
  refine qi_callVI (K' := kX11_place) (As := []) mlL_28 okX11_place dL_law_284 (c_X11_place g hpl) rfl (by decide) rfl (by decide) rfl rfl (Nat.le_of_ble_eq_true rfl) ⟨(Nat.le_of_ble_eq_true rfl), (Nat.le_of_ble_eq_true rfl)⟩ ⟨Nat.le_of_ble_eq_true rfl, Nat.le_of_ble_eq_true rfl⟩ (fun r1 M1 ⟨e1, em1⟩ => ?_)
  have hM1 : qRf M1 := em1 ▸ hM
  have D1 : qDs M1 L (t, pl, π, c, η, τ) := em1 ▸ hD
  have C1 : qCs M1 p p2 (t, pl, π, c, η, τ) := em1 ▸ hC
  obtain ⟨⟨dP, dCl, dpl, dky⟩, dT, dC, dH, dTo⟩ := id D1
  refine qi_aload_n (i := 2) (x := 280) dL_law_287 rfl rfl ?_
  refine qi_callVI (K' := kX12_place) (As := []) mlL_31 okX12_place dL_law_288 (c_X12_place g hM1 dpl) rfl (by decide) rfl (by decide) rfl rfl (Nat.le_of_ble_eq_true rfl) ⟨(Nat.le_of_ble_eq_true rfl), (Nat.le_of_ble_eq_true rfl)⟩ ⟨Nat.le_of_ble_eq_true rfl, Nat.le_of_ble_eq_true rfl⟩ (fun r2 M2 ⟨e2, em2⟩ => ?_)
  have hM2 : qRf M2 := em2 ▸ hM1
  have D2 : qDs M2 L (t, pl, π, c, η, τ) := em2 ▸ D1
  have C2 : qCs M2 p p2 (t, pl, π, c, η, τ) := em2 ▸ C1
  refine qi_icmp_eq (tgt := 1210) dL_law_291 (by decide) (fun z => ?_) (fun z => False.elim (z (e1.trans e2.symm)))
  exact NEXT M2 (t, pl, π, c, η, τ) ⟨hM2, ⟨p, p2, C2⟩, ⟨L, D2⟩, ⟨⟨okt, okp, okc⟩, okco, okh, okto⟩⟩
set_option maxHeartbeats 2000000 in
theorem op_heir (g : qG) {nm : String} {Z : List Frame → Array Value → State → State → Prop} (hl : qln g < 2 ^ 31) {i : Nat} (hi : i + 6 ≤ qln g) (NEXT : ∀ M σ, qG0 M σ → qT g (kLn nm) room_1 Z 1210 [some (.ref 1000000), some (.ref 0), some (.ref 280), some (.int (nI i))] [] 333 M (333, 23035)) {M : qM} {σ : qSt} (hG : qG0 M σ) : qT g (kLn nm) room_1 Z 296 [some (.ref 1000000), some (.ref 0), some (.ref 280), some (.int (nI i))] [] 333 M (333, 23035) := by
  obtain ⟨t, pl, π, c, η, τ⟩ := σ
  obtain ⟨hM, ⟨p, p2, hC⟩, ⟨L, hD⟩, ⟨okt, okp, okc⟩, okco, okh, okto⟩ := hG
  obtain ⟨⟨hp, hp2, hpp⟩, ⟨⟨hr, hr2⟩, hP, hW, hpl, hwd⟩, hT, ⟨hS, hH⟩, hHd, ⟨hTo, hEx⟩, hRw⟩ := id hC
  refine qi_aload_n (i := 1) (x := 0) dL_law_296 rfl rfl ?_
  refine qi_aload_n (i := 0) (x := 1000000) dL_law_297 rfl rfl ?_
  refine qi_iload_n (i := 3) (x := nI i) dL_law_298 rfl rfl ?_
  refine qi_iconst (v := 1) dL_law_299 rfl ?_
  refine qi_iadd dL_law_300 ?_
  refine qe_top (y := nI (i + 1)) (nI_add _ _) ?_
  refine qi_sldN (j := i + 1) (x := qx g (i + 1)) dL_law_301 rfl (show i + 1 < qln g by omega) hl rfl ?_
  refine qi_aload_n (i := 0) (x := 1000000) dL_law_302 rfl rfl ?_
  refine qi_iload_n (i := 3) (x := nI i) dL_law_303 rfl rfl ?_
  refine qi_iconst (v := 2) dL_law_304 rfl ?_
  refine qi_iadd dL_law_305 ?_
  refine qe_top (y := nI (i + 2)) (nI_add _ _) ?_
  refine qi_sldN (j := i + 2) (x := qx g (i + 2)) dL_law_306 rfl (show i + 2 < qln g by omega) hl rfl ?_
  refine qi_callVI (K' := kX11_heir) (As := [.int (qx g (i + 1)), .int (qx g (i + 2))]) mlL_32 okX11_heir dL_law_307 (c_X11_heir g hM hp hr hP okp hS (qx g (i + 1)) (qx g (i + 2))) rfl (by decide) rfl (by decide) rfl rfl (Nat.le_of_ble_eq_true rfl) ⟨(Nat.le_of_ble_eq_true rfl), (Nat.le_of_ble_eq_true rfl)⟩ ⟨Nat.le_of_ble_eq_true rfl, Nat.le_of_ble_eq_true rfl⟩ (fun r1 M1 ⟨e1, em1⟩ => ?_)
  have hM1 : qRf M1 := em1 ▸ hM
  have D1 : qDs M1 L (t, pl, π, c, η, τ) := em1 ▸ hD
  have C1 : qCs M1 p p2 (t, pl, π, c, η, τ) := em1 ▸ hC
  obtain ⟨⟨dP, dCl, dpl, dky⟩, dT, dC, dH, dTo⟩ := id D1
  refine qi_aload_n (i := 2) (x := 280) dL_law_310 rfl rfl ?_
  refine qi_aload_n (i := 0) (x := 1000000) dL_law_311 rfl rfl ?_
  refine qi_iload_n (i := 3) (x := nI i) dL_law_312 rfl rfl ?_
  refine qi_iconst (v := 1) dL_law_313 rfl ?_
  refine qi_iadd dL_law_314 ?_
  refine qe_top (y := nI (i + 1)) (nI_add _ _) ?_
  refine qi_sldN (j := i + 1) (x := qx g (i + 1)) dL_law_315 rfl (show i + 1 < qln g by omega) hl rfl ?_
  refine qi_aload_n (i := 0) (x := 1000000) dL_law_316 rfl rfl ?_
  refine qi_iload_n (i := 3) (x := nI i) dL_law_317 rfl rfl ?_
  refine qi_iconst (v := 2) dL_law_318 rfl ?_
  refine qi_iadd dL_law_319 ?_
  refine qe_top (y := nI (i + 2)) (nI_add _ _) ?_
  refine qi_sldN (j := i + 2) (x := qx g (i + 2)) dL_law_320 rfl (show i + 2 < qln g by omega) hl rfl ?_
  refine qi_callVI (K' := kX12_heir) (As := [.int (qx g (i + 1)), .int (qx g (i + 2))]) mlL_36 okX12_heir dL_law_321 (c_X12_heir g hM1 dP okp dC.1 okco.1 (qx g (i + 1)) (qx g (i + 2))) rfl (by decide) rfl (by decide) rfl rfl (Nat.le_of_ble_eq_true rfl) ⟨(Nat.le_of_ble_eq_true rfl), (Nat.le_of_ble_eq_true rfl)⟩ ⟨Nat.le_of_ble_eq_true rfl, Nat.le_of_ble_eq_true rfl⟩ (fun r2 M2 ⟨e2, hf2⟩ => ?_)
  have D2 : qDs M2 L (t, pl, π, c, η, τ) := D1.q (hf2.mono (fun b j z => SM_dq z))
  have F2 := hf2.mono (S' := fun b _ => 280 ≤ b) (fun b j z => SDq_ge (SM_dq z))
  have hM2 := hM1.fr hf2
  have C2 := C1.ref F2 (fun b j z => z)
  refine qi_icmp_eq (tgt := 1210) dL_law_324 (by decide) (fun z => ?_) (fun z => False.elim (z (e1.trans e2.symm)))
  exact NEXT M2 (t, pl, π, c, η, τ) ⟨hM2, ⟨p, p2, C2⟩, ⟨L, D2⟩, ⟨⟨okt, okp, okc⟩, okco, okh, okto⟩⟩
set_option maxHeartbeats 2000000 in
theorem op_drops (g : qG) {nm : String} {Z : List Frame → Array Value → State → State → Prop} (hl : qln g < 2 ^ 31) {i : Nat} (hi : i + 6 ≤ qln g) (NEXT : ∀ M σ, qG0 M σ → qT g (kLn nm) room_1 Z 1210 [some (.ref 1000000), some (.ref 0), some (.ref 280), some (.int (nI i))] [] 333 M (333, 23035)) {M : qM} {σ : qSt} (hG : qG0 M σ) : qT g (kLn nm) room_1 Z 329 [some (.ref 1000000), some (.ref 0), some (.ref 280), some (.int (nI i))] [] 333 M (333, 23035) := by
  obtain ⟨t, pl, π, c, η, τ⟩ := σ
  obtain ⟨hM, ⟨p, p2, hC⟩, ⟨L, hD⟩, ⟨okt, okp, okc⟩, okco, okh, okto⟩ := hG
  obtain ⟨⟨hp, hp2, hpp⟩, ⟨⟨hr, hr2⟩, hP, hW, hpl, hwd⟩, hT, ⟨hS, hH⟩, hHd, ⟨hTo, hEx⟩, hRw⟩ := id hC
  refine qi_aload_n (i := 1) (x := 0) dL_law_329 rfl rfl ?_
  refine qi_aload_n (i := 0) (x := 1000000) dL_law_330 rfl rfl ?_
  refine qi_iload_n (i := 3) (x := nI i) dL_law_331 rfl rfl ?_
  refine qi_iconst (v := 1) dL_law_332 rfl ?_
  refine qi_iadd dL_law_333 ?_
  refine qe_top (y := nI (i + 1)) (nI_add _ _) ?_
  refine qi_sldN (j := i + 1) (x := qx g (i + 1)) dL_law_334 rfl (show i + 1 < qln g by omega) hl rfl ?_
  refine qi_aload_n (i := 0) (x := 1000000) dL_law_335 rfl rfl ?_
  refine qi_iload_n (i := 3) (x := nI i) dL_law_336 rfl rfl ?_
  refine qi_iconst (v := 2) dL_law_337 rfl ?_
  refine qi_iadd dL_law_338 ?_
  refine qe_top (y := nI (i + 2)) (nI_add _ _) ?_
  refine qi_sldN (j := i + 2) (x := qx g (i + 2)) dL_law_339 rfl (show i + 2 < qln g by omega) hl rfl ?_
  refine qi_callVI (K' := kX11_drops) (As := [.int (qx g (i + 1)), .int (qx g (i + 2))]) mlL_37 okX11_drops dL_law_340 (c_X11_drops g hM hp hr hP okp hS (qx g (i + 1)) (qx g (i + 2))) rfl (by decide) rfl (by decide) rfl rfl (Nat.le_of_ble_eq_true rfl) ⟨(Nat.le_of_ble_eq_true rfl), (Nat.le_of_ble_eq_true rfl)⟩ ⟨Nat.le_of_ble_eq_true rfl, Nat.le_of_ble_eq_true rfl⟩ (fun r1 M1 ⟨e1, em1⟩ => ?_)
  have hM1 : qRf M1 := em1 ▸ hM
  have D1 : qDs M1 L (t, pl, π, c, η, τ) := em1 ▸ hD
  have C1 : qCs M1 p p2 (t, pl, π, c, η, τ) := em1 ▸ hC
  obtain ⟨⟨dP, dCl, dpl, dky⟩, dT, dC, dH, dTo⟩ := id D1
  refine qi_aload_n (i := 2) (x := 280) dL_law_343 rfl rfl ?_
  refine qi_aload_n (i := 0) (x := 1000000) dL_law_344 rfl rfl ?_
  refine qi_iload_n (i := 3) (x := nI i) dL_law_345 rfl rfl ?_
  refine qi_iconst (v := 1) dL_law_346 rfl ?_
  refine qi_iadd dL_law_347 ?_
  refine qe_top (y := nI (i + 1)) (nI_add _ _) ?_
  refine qi_sldN (j := i + 1) (x := qx g (i + 1)) dL_law_348 rfl (show i + 1 < qln g by omega) hl rfl ?_
  refine qi_aload_n (i := 0) (x := 1000000) dL_law_349 rfl rfl ?_
  refine qi_iload_n (i := 3) (x := nI i) dL_law_350 rfl rfl ?_
  refine qi_iconst (v := 2) dL_law_351 rfl ?_
  refine qi_iadd dL_law_352 ?_
  refine qe_top (y := nI (i + 2)) (nI_add _ _) ?_
  refine qi_sldN (j := i + 2) (x := qx g (i + 2)) dL_law_353 rfl (show i + 2 < qln g by omega) hl rfl ?_
  refine qi_callVI (K' := kX12_drops) (As := [.int (qx g (i + 1)), .int (qx g (i + 2))]) mlL_40 okX12_drops dL_law_354 (c_X12_drops g hM1 dP okp dC.1 (qx g (i + 1)) (qx g (i + 2))) rfl (by decide) rfl (by decide) rfl rfl (Nat.le_of_ble_eq_true rfl) ⟨(Nat.le_of_ble_eq_true rfl), (Nat.le_of_ble_eq_true rfl)⟩ ⟨Nat.le_of_ble_eq_true rfl, Nat.le_of_ble_eq_true rfl⟩ (fun r2 M2 ⟨e2, em2⟩ => ?_)
  have hM2 : qRf M2 := em2 ▸ hM1
  have D2 : qDs M2 L (t, pl, π, c, η, τ) := em2 ▸ D1
  have C2 : qCs M2 p p2 (t, pl, π, c, η, τ) := em2 ▸ C1
  refine qi_icmp_eq (tgt := 1210) dL_law_357 (by decide) (fun z => ?_) (fun z => False.elim (z (e1.trans e2.symm)))
  exact NEXT M2 (t, pl, π, c, η, τ) ⟨hM2, ⟨p, p2, C2⟩, ⟨L, D2⟩, ⟨⟨okt, okp, okc⟩, okco, okh, okto⟩⟩
set_option maxHeartbeats 2000000 in
theorem op_salt (g : qG) {nm : String} {Z : List Frame → Array Value → State → State → Prop} (hl : qln g < 2 ^ 31) {i : Nat} (hi : i + 6 ≤ qln g) (NEXT : ∀ M σ, qG0 M σ → qT g (kLn nm) room_1 Z 1210 [some (.ref 1000000), some (.ref 0), some (.ref 280), some (.int (nI i))] [] 333 M (333, 23035)) {M : qM} {σ : qSt} (hG : qG0 M σ) : qT g (kLn nm) room_1 Z 362 [some (.ref 1000000), some (.ref 0), some (.ref 280), some (.int (nI i))] [] 333 M (333, 23035) := by
  obtain ⟨t, pl, π, c, η, τ⟩ := σ
  obtain ⟨hM, ⟨p, p2, hC⟩, ⟨L, hD⟩, ⟨okt, okp, okc⟩, okco, okh, okto⟩ := hG
  obtain ⟨⟨hp, hp2, hpp⟩, ⟨⟨hr, hr2⟩, hP, hW, hpl, hwd⟩, hT, ⟨hS, hH⟩, hHd, ⟨hTo, hEx⟩, hRw⟩ := id hC
  refine qi_aload_n (i := 1) (x := 0) dL_law_362 rfl rfl ?_
  refine qi_callVI (K' := kX11_salt) (As := []) mlL_41 okX11_salt dL_law_363 (c_X11_salt g hM hS) rfl (by decide) rfl (by decide) rfl rfl (Nat.le_of_ble_eq_true rfl) ⟨(Nat.le_of_ble_eq_true rfl), (Nat.le_of_ble_eq_true rfl)⟩ ⟨Nat.le_of_ble_eq_true rfl, Nat.le_of_ble_eq_true rfl⟩ (fun r1 M1 ⟨e1, em1⟩ => ?_)
  have hM1 : qRf M1 := em1 ▸ hM
  have D1 : qDs M1 L (t, pl, π, c, η, τ) := em1 ▸ hD
  have C1 : qCs M1 p p2 (t, pl, π, c, η, τ) := em1 ▸ hC
  obtain ⟨⟨dP, dCl, dpl, dky⟩, dT, dC, dH, dTo⟩ := id D1
  refine qi_aload_n (i := 2) (x := 280) dL_law_366 rfl rfl ?_
  refine qi_callVI (K' := kX12_salt) (As := []) mlL_44 okX12_salt dL_law_367 (c_X12_salt g hM1 dC.1) rfl (by decide) rfl (by decide) rfl rfl (Nat.le_of_ble_eq_true rfl) ⟨(Nat.le_of_ble_eq_true rfl), (Nat.le_of_ble_eq_true rfl)⟩ ⟨Nat.le_of_ble_eq_true rfl, Nat.le_of_ble_eq_true rfl⟩ (fun r2 M2 ⟨e2, em2⟩ => ?_)
  have hM2 : qRf M2 := em2 ▸ hM1
  have D2 : qDs M2 L (t, pl, π, c, η, τ) := em2 ▸ D1
  have C2 : qCs M2 p p2 (t, pl, π, c, η, τ) := em2 ▸ C1
  refine qi_icmp_eq (tgt := 1210) dL_law_370 (by decide) (fun z => ?_) (fun z => False.elim (z (e1.trans e2.symm)))
  exact NEXT M2 (t, pl, π, c, η, τ) ⟨hM2, ⟨p, p2, C2⟩, ⟨L, D2⟩, ⟨⟨okt, okp, okc⟩, okco, okh, okto⟩⟩
set_option maxHeartbeats 2000000 in
theorem op_owns (g : qG) {nm : String} {Z : List Frame → Array Value → State → State → Prop} (hl : qln g < 2 ^ 31) {i : Nat} (hi : i + 6 ≤ qln g) (NEXT : ∀ M σ, qG0 M σ → qT g (kLn nm) room_1 Z 1210 [some (.ref 1000000), some (.ref 0), some (.ref 280), some (.int (nI i))] [] 333 M (333, 23035)) {M : qM} {σ : qSt} (hG : qG0 M σ) : qT g (kLn nm) room_1 Z 375 [some (.ref 1000000), some (.ref 0), some (.ref 280), some (.int (nI i))] [] 333 M (333, 23035) := by
  obtain ⟨t, pl, π, c, η, τ⟩ := σ
  obtain ⟨hM, ⟨p, p2, hC⟩, ⟨L, hD⟩, ⟨okt, okp, okc⟩, okco, okh, okto⟩ := hG
  obtain ⟨⟨hp, hp2, hpp⟩, ⟨⟨hr, hr2⟩, hP, hW, hpl, hwd⟩, hT, ⟨hS, hH⟩, hHd, ⟨hTo, hEx⟩, hRw⟩ := id hC
  by_cases hz : qx g (i + 2) = 0
  ·
    refine qi_aload_n (i := 1) (x := 0) dL_law_375 rfl rfl ?_
    refine qi_aload_n (i := 0) (x := 1000000) dL_law_376 rfl rfl ?_
    refine qi_iload_n (i := 3) (x := nI i) dL_law_377 rfl rfl ?_
    refine qi_iconst (v := 1) dL_law_378 rfl ?_
    refine qi_iadd dL_law_379 ?_
    refine qe_top (y := nI (i + 1)) (nI_add _ _) ?_
    refine qi_sldN (j := i + 1) (x := qx g (i + 1)) dL_law_380 rfl (show i + 1 < qln g by omega) hl rfl ?_
    refine qi_aload_n (i := 0) (x := 1000000) dL_law_381 rfl rfl ?_
    refine qi_iload_n (i := 3) (x := nI i) dL_law_382 rfl rfl ?_
    refine qi_iconst (v := 2) dL_law_383 rfl ?_
    refine qi_iadd dL_law_384 ?_
    refine qe_top (y := nI (i + 2)) (nI_add _ _) ?_
    refine qi_sldN (j := i + 2) (x := qx g (i + 2)) dL_law_385 rfl (show i + 2 < qln g by omega) hl rfl ?_
    refine qi_if_eq (tgt := 393) dL_law_386 (by decide) (fun z => ?_) (fun z => False.elim (z hz))
    refine qi_iconst (v := 0) dL_law_393 rfl ?_
    refine qi_callVI (K' := kX11_owns) (As := [.int (qx g (i + 1)), .int 0]) mlL_45 okX11_owns dL_law_394 (c_X11_owns g hM hp hr hP okp hS okco.1 (qx g (i + 1)) 0) rfl (by decide) rfl (by decide) rfl rfl (Nat.le_of_ble_eq_true rfl) ⟨(Nat.le_of_ble_eq_true rfl), (Nat.le_of_ble_eq_true rfl)⟩ ⟨Nat.le_of_ble_eq_true rfl, Nat.le_of_ble_eq_true rfl⟩ (fun r1 M1 ⟨e1, em1⟩ => ?_)
    have hM1 : qRf M1 := em1 ▸ hM
    have D1 : qDs M1 L (t, pl, π, c, η, τ) := em1 ▸ hD
    have C1 : qCs M1 p p2 (t, pl, π, c, η, τ) := em1 ▸ hC
    obtain ⟨⟨dP, dCl, dpl, dky⟩, dT, dC, dH, dTo⟩ := id D1
    refine qi_aload_n (i := 2) (x := 280) dL_law_397 rfl rfl ?_
    refine qi_aload_n (i := 0) (x := 1000000) dL_law_398 rfl rfl ?_
    refine qi_iload_n (i := 3) (x := nI i) dL_law_399 rfl rfl ?_
    refine qi_iconst (v := 1) dL_law_400 rfl ?_
    refine qi_iadd dL_law_401 ?_
    refine qe_top (y := nI (i + 1)) (nI_add _ _) ?_
    refine qi_sldN (j := i + 1) (x := qx g (i + 1)) dL_law_402 rfl (show i + 1 < qln g by omega) hl rfl ?_
    refine qi_aload_n (i := 0) (x := 1000000) dL_law_403 rfl rfl ?_
    refine qi_iload_n (i := 3) (x := nI i) dL_law_404 rfl rfl ?_
    refine qi_iconst (v := 2) dL_law_405 rfl ?_
    refine qi_iadd dL_law_406 ?_
    refine qe_top (y := nI (i + 2)) (nI_add _ _) ?_
    refine qi_sldN (j := i + 2) (x := qx g (i + 2)) dL_law_407 rfl (show i + 2 < qln g by omega) hl rfl ?_
    refine qi_if_eq (tgt := 415) dL_law_408 (by decide) (fun z => ?_) (fun z => False.elim (z hz))
    refine qi_iconst (v := 0) dL_law_415 rfl ?_
    refine qi_callVI (K' := kX12_owns) (As := [.int (qx g (i + 1)), .int 0]) mlL_49 okX12_owns dL_law_416 (c_X12_owns g hM1 dP okp dC.1 okco.1 (qx g (i + 1)) 0) rfl (by decide) rfl (by decide) rfl rfl (Nat.le_of_ble_eq_true rfl) ⟨(Nat.le_of_ble_eq_true rfl), (Nat.le_of_ble_eq_true rfl)⟩ ⟨Nat.le_of_ble_eq_true rfl, Nat.le_of_ble_eq_true rfl⟩ (fun r2 M2 ⟨e2, hf2⟩ => ?_)
    have D2 : qDs M2 L (t, pl, π, c, η, τ) := D1.q (hf2.mono (fun b j z => SM_dq z))
    have F2 := hf2.mono (S' := fun b _ => 280 ≤ b) (fun b j z => SDq_ge (SM_dq z))
    have hM2 := hM1.fr hf2
    have C2 := C1.ref F2 (fun b j z => z)
    refine qi_icmp_eq (tgt := 1210) dL_law_419 (by decide) (fun z => ?_) (fun z => False.elim (z (e1.trans e2.symm)))
    exact NEXT M2 (t, pl, π, c, η, τ) ⟨hM2, ⟨p, p2, C2⟩, ⟨L, D2⟩, ⟨⟨okt, okp, okc⟩, okco, okh, okto⟩⟩
  ·
    refine qi_aload_n (i := 1) (x := 0) dL_law_375 rfl rfl ?_
    refine qi_aload_n (i := 0) (x := 1000000) dL_law_376 rfl rfl ?_
    refine qi_iload_n (i := 3) (x := nI i) dL_law_377 rfl rfl ?_
    refine qi_iconst (v := 1) dL_law_378 rfl ?_
    refine qi_iadd dL_law_379 ?_
    refine qe_top (y := nI (i + 1)) (nI_add _ _) ?_
    refine qi_sldN (j := i + 1) (x := qx g (i + 1)) dL_law_380 rfl (show i + 1 < qln g by omega) hl rfl ?_
    refine qi_aload_n (i := 0) (x := 1000000) dL_law_381 rfl rfl ?_
    refine qi_iload_n (i := 3) (x := nI i) dL_law_382 rfl rfl ?_
    refine qi_iconst (v := 2) dL_law_383 rfl ?_
    refine qi_iadd dL_law_384 ?_
    refine qe_top (y := nI (i + 2)) (nI_add _ _) ?_
    refine qi_sldN (j := i + 2) (x := qx g (i + 2)) dL_law_385 rfl (show i + 2 < qln g by omega) hl rfl ?_
    refine qi_if_eq (tgt := 393) dL_law_386 (by decide) (fun z => False.elim (hz z)) (fun z => ?_)
    refine qi_iconst (v := 1) dL_law_389 rfl ?_
    refine qi_goto (tgt := 394) dL_law_390 (by decide) ?_
    refine qi_callVI (K' := kX11_owns) (As := [.int (qx g (i + 1)), .int 1]) mlL_45 okX11_owns dL_law_394 (c_X11_owns g hM hp hr hP okp hS okco.1 (qx g (i + 1)) 1) rfl (by decide) rfl (by decide) rfl rfl (Nat.le_of_ble_eq_true rfl) ⟨(Nat.le_of_ble_eq_true rfl), (Nat.le_of_ble_eq_true rfl)⟩ ⟨Nat.le_of_ble_eq_true rfl, Nat.le_of_ble_eq_true rfl⟩ (fun r1 M1 ⟨e1, em1⟩ => ?_)
    have hM1 : qRf M1 := em1 ▸ hM
    have D1 : qDs M1 L (t, pl, π, c, η, τ) := em1 ▸ hD
    have C1 : qCs M1 p p2 (t, pl, π, c, η, τ) := em1 ▸ hC
    obtain ⟨⟨dP, dCl, dpl, dky⟩, dT, dC, dH, dTo⟩ := id D1
    refine qi_aload_n (i := 2) (x := 280) dL_law_397 rfl rfl ?_
    refine qi_aload_n (i := 0) (x := 1000000) dL_law_398 rfl rfl ?_
    refine qi_iload_n (i := 3) (x := nI i) dL_law_399 rfl rfl ?_
    refine qi_iconst (v := 1) dL_law_400 rfl ?_
    refine qi_iadd dL_law_401 ?_
    refine qe_top (y := nI (i + 1)) (nI_add _ _) ?_
    refine qi_sldN (j := i + 1) (x := qx g (i + 1)) dL_law_402 rfl (show i + 1 < qln g by omega) hl rfl ?_
    refine qi_aload_n (i := 0) (x := 1000000) dL_law_403 rfl rfl ?_
    refine qi_iload_n (i := 3) (x := nI i) dL_law_404 rfl rfl ?_
    refine qi_iconst (v := 2) dL_law_405 rfl ?_
    refine qi_iadd dL_law_406 ?_
    refine qe_top (y := nI (i + 2)) (nI_add _ _) ?_
    refine qi_sldN (j := i + 2) (x := qx g (i + 2)) dL_law_407 rfl (show i + 2 < qln g by omega) hl rfl ?_
    refine qi_if_eq (tgt := 415) dL_law_408 (by decide) (fun z => False.elim (hz z)) (fun z => ?_)
    refine qi_iconst (v := 1) dL_law_411 rfl ?_
    refine qi_goto (tgt := 416) dL_law_412 (by decide) ?_
    refine qi_callVI (K' := kX12_owns) (As := [.int (qx g (i + 1)), .int 1]) mlL_49 okX12_owns dL_law_416 (c_X12_owns g hM1 dP okp dC.1 okco.1 (qx g (i + 1)) 1) rfl (by decide) rfl (by decide) rfl rfl (Nat.le_of_ble_eq_true rfl) ⟨(Nat.le_of_ble_eq_true rfl), (Nat.le_of_ble_eq_true rfl)⟩ ⟨Nat.le_of_ble_eq_true rfl, Nat.le_of_ble_eq_true rfl⟩ (fun r2 M2 ⟨e2, hf2⟩ => ?_)
    have D2 : qDs M2 L (t, pl, π, c, η, τ) := D1.q (hf2.mono (fun b j z => SM_dq z))
    have F2 := hf2.mono (S' := fun b _ => 280 ≤ b) (fun b j z => SDq_ge (SM_dq z))
    have hM2 := hM1.fr hf2
    have C2 := C1.ref F2 (fun b j z => z)
    refine qi_icmp_eq (tgt := 1210) dL_law_419 (by decide) (fun z => ?_) (fun z => False.elim (z (e1.trans e2.symm)))
    exact NEXT M2 (t, pl, π, c, η, τ) ⟨hM2, ⟨p, p2, C2⟩, ⟨L, D2⟩, ⟨⟨okt, okp, okc⟩, okco, okh, okto⟩⟩
set_option maxHeartbeats 2000000 in
theorem op_claim (g : qG) {nm : String} {Z : List Frame → Array Value → State → State → Prop} (hl : qln g < 2 ^ 31) {i : Nat} (hi : i + 6 ≤ qln g) (NEXT : ∀ M σ, qG0 M σ → qT g (kLn nm) room_1 Z 1210 [some (.ref 1000000), some (.ref 0), some (.ref 280), some (.int (nI i))] [] 333 M (333, 23035)) {M : qM} {σ : qSt} (hG : qG0 M σ) : qT g (kLn nm) room_1 Z 424 [some (.ref 1000000), some (.ref 0), some (.ref 280), some (.int (nI i))] [] 333 M (333, 23035) := by
  obtain ⟨t, pl, π, c, η, τ⟩ := σ
  obtain ⟨hM, ⟨p, p2, hC⟩, ⟨L, hD⟩, ⟨okt, okp, okc⟩, okco, okh, okto⟩ := hG
  obtain ⟨⟨hp, hp2, hpp⟩, ⟨⟨hr, hr2⟩, hP, hW, hpl, hwd⟩, hT, ⟨hS, hH⟩, hHd, ⟨hTo, hEx⟩, hRw⟩ := id hC
  by_cases hz : qx g (i + 2) = 0
  ·
    refine qi_aload_n (i := 1) (x := 0) dL_law_424 rfl rfl ?_
    refine qi_aload_n (i := 0) (x := 1000000) dL_law_425 rfl rfl ?_
    refine qi_iload_n (i := 3) (x := nI i) dL_law_426 rfl rfl ?_
    refine qi_iconst (v := 1) dL_law_427 rfl ?_
    refine qi_iadd dL_law_428 ?_
    refine qe_top (y := nI (i + 1)) (nI_add _ _) ?_
    refine qi_sldN (j := i + 1) (x := qx g (i + 1)) dL_law_429 rfl (show i + 1 < qln g by omega) hl rfl ?_
    refine qi_aload_n (i := 0) (x := 1000000) dL_law_430 rfl rfl ?_
    refine qi_iload_n (i := 3) (x := nI i) dL_law_431 rfl rfl ?_
    refine qi_iconst (v := 2) dL_law_432 rfl ?_
    refine qi_iadd dL_law_433 ?_
    refine qe_top (y := nI (i + 2)) (nI_add _ _) ?_
    refine qi_sldN (j := i + 2) (x := qx g (i + 2)) dL_law_434 rfl (show i + 2 < qln g by omega) hl rfl ?_
    refine qi_if_eq (tgt := 442) dL_law_435 (by decide) (fun z => ?_) (fun z => False.elim (z hz))
    refine qi_iconst (v := 0) dL_law_442 rfl ?_
    refine qi_callVJ (K' := kX11_claim) (As := [.int (qx g (i + 1)), .int 0]) mlL_50 okX11_claim dL_law_443 (c_X11_claim g hM hp hr hW okp okc hS okco.1 (qx g (i + 1)) 0) rfl (by decide) rfl (by decide) rfl rfl (Nat.le_of_ble_eq_true rfl) ⟨(Nat.le_of_ble_eq_true rfl), (Nat.le_of_ble_eq_true rfl)⟩ ⟨Nat.le_of_ble_eq_true rfl, Nat.le_of_ble_eq_true rfl⟩ (fun r1 M1 ⟨e1, em1⟩ => ?_)
    have hM1 : qRf M1 := em1 ▸ hM
    have D1 : qDs M1 L (t, pl, π, c, η, τ) := em1 ▸ hD
    have C1 : qCs M1 p p2 (t, pl, π, c, η, τ) := em1 ▸ hC
    obtain ⟨⟨dP, dCl, dpl, dky⟩, dT, dC, dH, dTo⟩ := id D1
    refine qi_aload_n (i := 2) (x := 280) dL_law_446 rfl rfl ?_
    refine qi_aload_n (i := 0) (x := 1000000) dL_law_447 rfl rfl ?_
    refine qi_iload_n (i := 3) (x := nI i) dL_law_448 rfl rfl ?_
    refine qi_iconst (v := 1) dL_law_449 rfl ?_
    refine qi_iadd dL_law_450 ?_
    refine qe_top (y := nI (i + 1)) (nI_add _ _) ?_
    refine qi_sldN (j := i + 1) (x := qx g (i + 1)) dL_law_451 rfl (show i + 1 < qln g by omega) hl rfl ?_
    refine qi_aload_n (i := 0) (x := 1000000) dL_law_452 rfl rfl ?_
    refine qi_iload_n (i := 3) (x := nI i) dL_law_453 rfl rfl ?_
    refine qi_iconst (v := 2) dL_law_454 rfl ?_
    refine qi_iadd dL_law_455 ?_
    refine qe_top (y := nI (i + 2)) (nI_add _ _) ?_
    refine qi_sldN (j := i + 2) (x := qx g (i + 2)) dL_law_456 rfl (show i + 2 < qln g by omega) hl rfl ?_
    refine qi_if_eq (tgt := 464) dL_law_457 (by decide) (fun z => ?_) (fun z => False.elim (z hz))
    refine qi_iconst (v := 0) dL_law_464 rfl ?_
    refine qi_callVJ (K' := kX12_claim) (As := [.int (qx g (i + 1)), .int 0]) mlL_54 okX12_claim dL_law_465 (c_X12_claim g hM1 dP dCl okp okc dC.1 okco.1 (qx g (i + 1)) 0) rfl (by decide) rfl (by decide) rfl rfl (Nat.le_of_ble_eq_true rfl) ⟨(Nat.le_of_ble_eq_true rfl), (Nat.le_of_ble_eq_true rfl)⟩ ⟨Nat.le_of_ble_eq_true rfl, Nat.le_of_ble_eq_true rfl⟩ (fun r2 M2 ⟨e2, hf2⟩ => ?_)
    have D2 : qDs M2 L (t, pl, π, c, η, τ) := D1.q (hf2.mono (fun b j z => SM_dq z))
    have F2 := hf2.mono (S' := fun b _ => 280 ≤ b) (fun b j z => SDq_ge (SM_dq z))
    have hM2 := hM1.fr hf2
    have C2 := C1.ref F2 (fun b j z => z)
    refine qi_lcmp dL_law_468 ?_
    refine qi_if_eq (tgt := 1210) dL_law_469 (by decide) (fun z => ?_) (fun z => False.elim (z ((lg_cmp_eq _ _).mpr (e1.trans e2.symm))))
    exact NEXT M2 (t, pl, π, c, η, τ) ⟨hM2, ⟨p, p2, C2⟩, ⟨L, D2⟩, ⟨⟨okt, okp, okc⟩, okco, okh, okto⟩⟩
  ·
    refine qi_aload_n (i := 1) (x := 0) dL_law_424 rfl rfl ?_
    refine qi_aload_n (i := 0) (x := 1000000) dL_law_425 rfl rfl ?_
    refine qi_iload_n (i := 3) (x := nI i) dL_law_426 rfl rfl ?_
    refine qi_iconst (v := 1) dL_law_427 rfl ?_
    refine qi_iadd dL_law_428 ?_
    refine qe_top (y := nI (i + 1)) (nI_add _ _) ?_
    refine qi_sldN (j := i + 1) (x := qx g (i + 1)) dL_law_429 rfl (show i + 1 < qln g by omega) hl rfl ?_
    refine qi_aload_n (i := 0) (x := 1000000) dL_law_430 rfl rfl ?_
    refine qi_iload_n (i := 3) (x := nI i) dL_law_431 rfl rfl ?_
    refine qi_iconst (v := 2) dL_law_432 rfl ?_
    refine qi_iadd dL_law_433 ?_
    refine qe_top (y := nI (i + 2)) (nI_add _ _) ?_
    refine qi_sldN (j := i + 2) (x := qx g (i + 2)) dL_law_434 rfl (show i + 2 < qln g by omega) hl rfl ?_
    refine qi_if_eq (tgt := 442) dL_law_435 (by decide) (fun z => False.elim (hz z)) (fun z => ?_)
    refine qi_iconst (v := 1) dL_law_438 rfl ?_
    refine qi_goto (tgt := 443) dL_law_439 (by decide) ?_
    refine qi_callVJ (K' := kX11_claim) (As := [.int (qx g (i + 1)), .int 1]) mlL_50 okX11_claim dL_law_443 (c_X11_claim g hM hp hr hW okp okc hS okco.1 (qx g (i + 1)) 1) rfl (by decide) rfl (by decide) rfl rfl (Nat.le_of_ble_eq_true rfl) ⟨(Nat.le_of_ble_eq_true rfl), (Nat.le_of_ble_eq_true rfl)⟩ ⟨Nat.le_of_ble_eq_true rfl, Nat.le_of_ble_eq_true rfl⟩ (fun r1 M1 ⟨e1, em1⟩ => ?_)
    have hM1 : qRf M1 := em1 ▸ hM
    have D1 : qDs M1 L (t, pl, π, c, η, τ) := em1 ▸ hD
    have C1 : qCs M1 p p2 (t, pl, π, c, η, τ) := em1 ▸ hC
    obtain ⟨⟨dP, dCl, dpl, dky⟩, dT, dC, dH, dTo⟩ := id D1
    refine qi_aload_n (i := 2) (x := 280) dL_law_446 rfl rfl ?_
    refine qi_aload_n (i := 0) (x := 1000000) dL_law_447 rfl rfl ?_
    refine qi_iload_n (i := 3) (x := nI i) dL_law_448 rfl rfl ?_
    refine qi_iconst (v := 1) dL_law_449 rfl ?_
    refine qi_iadd dL_law_450 ?_
    refine qe_top (y := nI (i + 1)) (nI_add _ _) ?_
    refine qi_sldN (j := i + 1) (x := qx g (i + 1)) dL_law_451 rfl (show i + 1 < qln g by omega) hl rfl ?_
    refine qi_aload_n (i := 0) (x := 1000000) dL_law_452 rfl rfl ?_
    refine qi_iload_n (i := 3) (x := nI i) dL_law_453 rfl rfl ?_
    refine qi_iconst (v := 2) dL_law_454 rfl ?_
    refine qi_iadd dL_law_455 ?_
    refine qe_top (y := nI (i + 2)) (nI_add _ _) ?_
    refine qi_sldN (j := i + 2) (x := qx g (i + 2)) dL_law_456 rfl (show i + 2 < qln g by omega) hl rfl ?_
    refine qi_if_eq (tgt := 464) dL_law_457 (by decide) (fun z => False.elim (hz z)) (fun z => ?_)
    refine qi_iconst (v := 1) dL_law_460 rfl ?_
    refine qi_goto (tgt := 465) dL_law_461 (by decide) ?_
    refine qi_callVJ (K' := kX12_claim) (As := [.int (qx g (i + 1)), .int 1]) mlL_54 okX12_claim dL_law_465 (c_X12_claim g hM1 dP dCl okp okc dC.1 okco.1 (qx g (i + 1)) 1) rfl (by decide) rfl (by decide) rfl rfl (Nat.le_of_ble_eq_true rfl) ⟨(Nat.le_of_ble_eq_true rfl), (Nat.le_of_ble_eq_true rfl)⟩ ⟨Nat.le_of_ble_eq_true rfl, Nat.le_of_ble_eq_true rfl⟩ (fun r2 M2 ⟨e2, hf2⟩ => ?_)
    have D2 : qDs M2 L (t, pl, π, c, η, τ) := D1.q (hf2.mono (fun b j z => SM_dq z))
    have F2 := hf2.mono (S' := fun b _ => 280 ≤ b) (fun b j z => SDq_ge (SM_dq z))
    have hM2 := hM1.fr hf2
    have C2 := C1.ref F2 (fun b j z => z)
    refine qi_lcmp dL_law_468 ?_
    refine qi_if_eq (tgt := 1210) dL_law_469 (by decide) (fun z => ?_) (fun z => False.elim (z ((lg_cmp_eq _ _).mpr (e1.trans e2.symm))))
    exact NEXT M2 (t, pl, π, c, η, τ) ⟨hM2, ⟨p, p2, C2⟩, ⟨L, D2⟩, ⟨⟨okt, okp, okc⟩, okco, okh, okto⟩⟩
set_option maxHeartbeats 2000000 in
theorem op_ranked (g : qG) {nm : String} {Z : List Frame → Array Value → State → State → Prop} (hl : qln g < 2 ^ 31) {i : Nat} (hi : i + 6 ≤ qln g) (NEXT : ∀ M σ, qG0 M σ → qT g (kLn nm) room_1 Z 1210 [some (.ref 1000000), some (.ref 0), some (.ref 280), some (.int (nI i))] [] 333 M (333, 23035)) {M : qM} {σ : qSt} (hG : qG0 M σ) : qT g (kLn nm) room_1 Z 474 [some (.ref 1000000), some (.ref 0), some (.ref 280), some (.int (nI i))] [] 333 M (333, 23035) := by
  obtain ⟨t, pl, π, c, η, τ⟩ := σ
  obtain ⟨hM, ⟨p, p2, hC⟩, ⟨L, hD⟩, ⟨okt, okp, okc⟩, okco, okh, okto⟩ := hG
  obtain ⟨⟨hp, hp2, hpp⟩, ⟨⟨hr, hr2⟩, hP, hW, hpl, hwd⟩, hT, ⟨hS, hH⟩, hHd, ⟨hTo, hEx⟩, hRw⟩ := id hC
  refine qi_aload_n (i := 1) (x := 0) dL_law_474 rfl rfl ?_
  refine qi_aload_n (i := 0) (x := 1000000) dL_law_475 rfl rfl ?_
  refine qi_iload_n (i := 3) (x := nI i) dL_law_476 rfl rfl ?_
  refine qi_iconst (v := 1) dL_law_477 rfl ?_
  refine qi_iadd dL_law_478 ?_
  refine qe_top (y := nI (i + 1)) (nI_add _ _) ?_
  refine qi_sldN (j := i + 1) (x := qx g (i + 1)) dL_law_479 rfl (show i + 1 < qln g by omega) hl rfl ?_
  refine qi_callVI (K' := kX11_ranked) (As := [.int (qx g (i + 1))]) mlL_55 okX11_ranked dL_law_480 (c_X11_ranked g hM hp hr hP okp hS (qx g (i + 1))) rfl (by decide) rfl (by decide) rfl rfl (Nat.le_of_ble_eq_true rfl) ⟨(Nat.le_of_ble_eq_true rfl), (Nat.le_of_ble_eq_true rfl)⟩ ⟨Nat.le_of_ble_eq_true rfl, Nat.le_of_ble_eq_true rfl⟩ (fun r1 M1 ⟨e1, em1⟩ => ?_)
  have hM1 : qRf M1 := em1 ▸ hM
  have D1 : qDs M1 L (t, pl, π, c, η, τ) := em1 ▸ hD
  have C1 : qCs M1 p p2 (t, pl, π, c, η, τ) := em1 ▸ hC
  obtain ⟨⟨dP, dCl, dpl, dky⟩, dT, dC, dH, dTo⟩ := id D1
  refine qi_aload_n (i := 2) (x := 280) dL_law_483 rfl rfl ?_
  refine qi_aload_n (i := 0) (x := 1000000) dL_law_484 rfl rfl ?_
  refine qi_iload_n (i := 3) (x := nI i) dL_law_485 rfl rfl ?_
  refine qi_iconst (v := 1) dL_law_486 rfl ?_
  refine qi_iadd dL_law_487 ?_
  refine qe_top (y := nI (i + 1)) (nI_add _ _) ?_
  refine qi_sldN (j := i + 1) (x := qx g (i + 1)) dL_law_488 rfl (show i + 1 < qln g by omega) hl rfl ?_
  refine qi_callVI (K' := kX12_ranked) (As := [.int (qx g (i + 1))]) mlL_58 okX12_ranked dL_law_489 (c_X12_ranked g hM1 dP okp dC.1 (qx g (i + 1))) rfl (by decide) rfl (by decide) rfl rfl (Nat.le_of_ble_eq_true rfl) ⟨(Nat.le_of_ble_eq_true rfl), (Nat.le_of_ble_eq_true rfl)⟩ ⟨Nat.le_of_ble_eq_true rfl, Nat.le_of_ble_eq_true rfl⟩ (fun r2 M2 ⟨e2, hf2⟩ => ?_)
  have D2 : qDs M2 L (t, pl, π, c, η, τ) := D1.q (hf2.mono (fun b j z => SM_dq z))
  have F2 := hf2.mono (S' := fun b _ => 280 ≤ b) (fun b j z => SDq_ge (SM_dq z))
  have hM2 := hM1.fr hf2
  have C2 := C1.ref F2 (fun b j z => z)
  refine qi_icmp_eq (tgt := 1210) dL_law_492 (by decide) (fun z => ?_) (fun z => False.elim (z (e1.trans e2.symm)))
  exact NEXT M2 (t, pl, π, c, η, τ) ⟨hM2, ⟨p, p2, C2⟩, ⟨L, D2⟩, ⟨⟨okt, okp, okc⟩, okco, okh, okto⟩⟩
set_option maxHeartbeats 2000000 in
theorem op_run (g : qG) {nm : String} {Z : List Frame → Array Value → State → State → Prop} (hl : qln g < 2 ^ 31) {i : Nat} (hi : i + 6 ≤ qln g) (NEXT : ∀ M σ, qG0 M σ → qT g (kLn nm) room_1 Z 1210 [some (.ref 1000000), some (.ref 0), some (.ref 280), some (.int (nI i))] [] 333 M (333, 23035)) {M : qM} {σ : qSt} (hG : qG0 M σ) : qT g (kLn nm) room_1 Z 497 [some (.ref 1000000), some (.ref 0), some (.ref 280), some (.int (nI i))] [] 333 M (333, 23035) := by
  obtain ⟨t, pl, π, c, η, τ⟩ := σ
  obtain ⟨hM, ⟨p, p2, hC⟩, ⟨L, hD⟩, ⟨okt, okp, okc⟩, okco, okh, okto⟩ := hG
  obtain ⟨⟨hp, hp2, hpp⟩, ⟨⟨hr, hr2⟩, hP, hW, hpl, hwd⟩, hT, ⟨hS, hH⟩, hHd, ⟨hTo, hEx⟩, hRw⟩ := id hC
  refine qi_aload_n (i := 1) (x := 0) dL_law_497 rfl rfl ?_
  refine qi_aload_n (i := 0) (x := 1000000) dL_law_498 rfl rfl ?_
  refine qi_iload_n (i := 3) (x := nI i) dL_law_499 rfl rfl ?_
  refine qi_iconst (v := 1) dL_law_500 rfl ?_
  refine qi_iadd dL_law_501 ?_
  refine qe_top (y := nI (i + 1)) (nI_add _ _) ?_
  refine qi_sldN (j := i + 1) (x := qx g (i + 1)) dL_law_502 rfl (show i + 1 < qln g by omega) hl rfl ?_
  refine qi_callVI (K' := kX11_run) (As := [.int (qx g (i + 1))]) mlL_59 okX11_run dL_law_503 (c_X11_run g hM hp hr hP okp hS hH okco.1 (qx g (i + 1))) rfl (by decide) rfl (by decide) rfl rfl (Nat.le_of_ble_eq_true rfl) ⟨(Nat.le_of_ble_eq_true rfl), (Nat.le_of_ble_eq_true rfl)⟩ ⟨Nat.le_of_ble_eq_true rfl, Nat.le_of_ble_eq_true rfl⟩ (fun r1 M1 ⟨e1, hS1, hH1, hf1⟩ => ?_)
  have C1 : qCs M1 p p2 (t, pl, π, (dRun π (qx g (i + 1)) c).2, η, τ) := hC.core hf1 (fun b j z => z) ⟨hS1, hH1⟩
  have X1 : qFX M M1 := qFX.of hM hf1 (fun b j z => SDo_lt (p := p) hp (z))
  have hM1 := X1.1
  have D1 := hD.cls X1
  obtain ⟨⟨dP, dCl, dpl, dky⟩, dT, dC, dH, dTo⟩ := id D1
  refine qi_aload_n (i := 2) (x := 280) dL_law_506 rfl rfl ?_
  refine qi_aload_n (i := 0) (x := 1000000) dL_law_507 rfl rfl ?_
  refine qi_iload_n (i := 3) (x := nI i) dL_law_508 rfl rfl ?_
  refine qi_iconst (v := 1) dL_law_509 rfl ?_
  refine qi_iadd dL_law_510 ?_
  refine qe_top (y := nI (i + 1)) (nI_add _ _) ?_
  refine qi_sldN (j := i + 1) (x := qx g (i + 1)) dL_law_511 rfl (show i + 1 < qln g by omega) hl rfl ?_
  refine qi_callVI (K' := kX12_run) (As := [.int (qx g (i + 1))]) mlL_62 okX12_run dL_law_512 (c_X12_run g hM1 dP okp dC okco (qx g (i + 1))) rfl (by decide) rfl (by decide) rfl rfl (Nat.le_of_ble_eq_true rfl) ⟨(Nat.le_of_ble_eq_true rfl), (Nat.le_of_ble_eq_true rfl)⟩ ⟨Nat.le_of_ble_eq_true rfl, Nat.le_of_ble_eq_true rfl⟩ (fun r2 M2 ⟨e2, dC2, hf2⟩ => ?_)
  have D2 : qDs M2 L (t, pl, π, (dRun π (qx g (i + 1)) c).2, η, τ) := D1.core hf2 (fun b j z => z) dC2
  have F2 := hf2.mono (S' := fun b _ => 280 ≤ b) (fun b j z => SQ_ge (z))
  have hM2 := hM1.fr hf2
  have C2 := C1.ref F2 (fun b j z => z)
  refine qi_icmp_eq (tgt := 1210) dL_law_515 (by decide) (fun z => ?_) (fun z => False.elim (z (e1.trans e2.symm)))
  exact NEXT M2 (t, pl, π, (dRun π (qx g (i + 1)) c).2, η, τ) ⟨hM2, ⟨p, p2, C2⟩, ⟨L, D2⟩, ⟨⟨okt, okp, okc⟩, okco.run okp (qx g (i + 1)), okh, okto⟩⟩
set_option maxHeartbeats 2000000 in
theorem op_tells (g : qG) {nm : String} {Z : List Frame → Array Value → State → State → Prop} (hl : qln g < 2 ^ 31) {i : Nat} (hi : i + 6 ≤ qln g) (NEXT : ∀ M σ, qG0 M σ → qT g (kLn nm) room_1 Z 1210 [some (.ref 1000000), some (.ref 0), some (.ref 280), some (.int (nI i))] [] 333 M (333, 23035)) {M : qM} {σ : qSt} (hG : qG0 M σ) : qT g (kLn nm) room_1 Z 520 [some (.ref 1000000), some (.ref 0), some (.ref 280), some (.int (nI i))] [] 333 M (333, 23035) := by
  obtain ⟨t, pl, π, c, η, τ⟩ := σ
  obtain ⟨hM, ⟨p, p2, hC⟩, ⟨L, hD⟩, ⟨okt, okp, okc⟩, okco, okh, okto⟩ := hG
  obtain ⟨⟨hp, hp2, hpp⟩, ⟨⟨hr, hr2⟩, hP, hW, hpl, hwd⟩, hT, ⟨hS, hH⟩, hHd, ⟨hTo, hEx⟩, hRw⟩ := id hC
  refine qi_aload_n (i := 1) (x := 0) dL_law_520 rfl rfl ?_
  refine qi_aload_n (i := 0) (x := 1000000) dL_law_521 rfl rfl ?_
  refine qi_iload_n (i := 3) (x := nI i) dL_law_522 rfl rfl ?_
  refine qi_iconst (v := 1) dL_law_523 rfl ?_
  refine qi_iadd dL_law_524 ?_
  refine qe_top (y := nI (i + 1)) (nI_add _ _) ?_
  refine qi_sldN (j := i + 1) (x := qx g (i + 1)) dL_law_525 rfl (show i + 1 < qln g by omega) hl rfl ?_
  refine qi_callVI (K' := kX11_tells) (As := [.int (qx g (i + 1))]) mlL_63 okX11_tells dL_law_526 (c_X11_tells g hM hp hr hP okp hS (qx g (i + 1))) rfl (by decide) rfl (by decide) rfl rfl (Nat.le_of_ble_eq_true rfl) ⟨(Nat.le_of_ble_eq_true rfl), (Nat.le_of_ble_eq_true rfl)⟩ ⟨Nat.le_of_ble_eq_true rfl, Nat.le_of_ble_eq_true rfl⟩ (fun r1 M1 ⟨e1, hf1⟩ => ?_)
  have C1 : qCs M1 p p2 (t, pl, π, c, η, τ) := hC.q (hf1.mono (fun b j z => z))
  have X1 : qFX M M1 := qFX.of hM (hf1.mono (fun b j z => z)) (fun b j z => SQx_lt (p := p) hp z)
  have hM1 := X1.1
  have D1 := hD.cls X1
  obtain ⟨⟨dP, dCl, dpl, dky⟩, dT, dC, dH, dTo⟩ := id D1
  refine qi_aload_n (i := 2) (x := 280) dL_law_529 rfl rfl ?_
  refine qi_aload_n (i := 0) (x := 1000000) dL_law_530 rfl rfl ?_
  refine qi_iload_n (i := 3) (x := nI i) dL_law_531 rfl rfl ?_
  refine qi_iconst (v := 1) dL_law_532 rfl ?_
  refine qi_iadd dL_law_533 ?_
  refine qe_top (y := nI (i + 1)) (nI_add _ _) ?_
  refine qi_sldN (j := i + 1) (x := qx g (i + 1)) dL_law_534 rfl (show i + 1 < qln g by omega) hl rfl ?_
  refine qi_callVI (K' := kX12_tells) (As := [.int (qx g (i + 1))]) mlL_66 okX12_tells dL_law_535 (c_X12_tells g hM1 dP okp dC.1 (qx g (i + 1))) rfl (by decide) rfl (by decide) rfl rfl (Nat.le_of_ble_eq_true rfl) ⟨(Nat.le_of_ble_eq_true rfl), (Nat.le_of_ble_eq_true rfl)⟩ ⟨Nat.le_of_ble_eq_true rfl, Nat.le_of_ble_eq_true rfl⟩ (fun r2 M2 ⟨e2, hf2⟩ => ?_)
  have D2 : qDs M2 L (t, pl, π, c, η, τ) := D1.q (hf2.mono (fun b j z => SM_dq z))
  have F2 := hf2.mono (S' := fun b _ => 280 ≤ b) (fun b j z => SDq_ge (SM_dq z))
  have hM2 := hM1.fr hf2
  have C2 := C1.ref F2 (fun b j z => z)
  refine qi_icmp_eq (tgt := 1210) dL_law_538 (by decide) (fun z => ?_) (fun z => False.elim (z (e1.trans e2.symm)))
  exact NEXT M2 (t, pl, π, c, η, τ) ⟨hM2, ⟨p, p2, C2⟩, ⟨L, D2⟩, ⟨⟨okt, okp, okc⟩, okco, okh, okto⟩⟩
set_option maxHeartbeats 2000000 in
theorem op_merge (g : qG) {nm : String} {Z : List Frame → Array Value → State → State → Prop} (hl : qln g < 2 ^ 31) {i : Nat} (hi : i + 6 ≤ qln g) (NEXT : ∀ M σ, qG0 M σ → qT g (kLn nm) room_1 Z 1210 [some (.ref 1000000), some (.ref 0), some (.ref 280), some (.int (nI i))] [] 333 M (333, 23035)) {M : qM} {σ : qSt} (hG : qG0 M σ) : qT g (kLn nm) room_1 Z 543 [some (.ref 1000000), some (.ref 0), some (.ref 280), some (.int (nI i))] [] 333 M (333, 23035) := by
  obtain ⟨t, pl, π, c, η, τ⟩ := σ
  obtain ⟨hM, ⟨p, p2, hC⟩, ⟨L, hD⟩, ⟨okt, okp, okc⟩, okco, okh, okto⟩ := hG
  obtain ⟨⟨hp, hp2, hpp⟩, ⟨⟨hr, hr2⟩, hP, hW, hpl, hwd⟩, hT, ⟨hS, hH⟩, hHd, ⟨hTo, hEx⟩, hRw⟩ := id hC
  refine qi_aload_n (i := 1) (x := 0) dL_law_543 rfl rfl ?_
  refine qi_aload_n (i := 0) (x := 1000000) dL_law_544 rfl rfl ?_
  refine qi_iload_n (i := 3) (x := nI i) dL_law_545 rfl rfl ?_
  refine qi_iconst (v := 1) dL_law_546 rfl ?_
  refine qi_iadd dL_law_547 ?_
  refine qe_top (y := nI (i + 1)) (nI_add _ _) ?_
  refine qi_sldN (j := i + 1) (x := qx g (i + 1)) dL_law_548 rfl (show i + 1 < qln g by omega) hl rfl ?_
  refine qi_aload_n (i := 0) (x := 1000000) dL_law_549 rfl rfl ?_
  refine qi_iload_n (i := 3) (x := nI i) dL_law_550 rfl rfl ?_
  refine qi_iconst (v := 2) dL_law_551 rfl ?_
  refine qi_iadd dL_law_552 ?_
  refine qe_top (y := nI (i + 2)) (nI_add _ _) ?_
  refine qi_sldN (j := i + 2) (x := qx g (i + 2)) dL_law_553 rfl (show i + 2 < qln g by omega) hl rfl ?_
  refine qi_callVI (K' := kX11_merge) (As := [.int (qx g (i + 1)), .int (qx g (i + 2))]) mlL_67 okX11_merge dL_law_554 (c_X11_merge g hM hp hr hP okp hS hH (qx g (i + 1)) (qx g (i + 2))) rfl (by decide) rfl (by decide) rfl rfl (Nat.le_of_ble_eq_true rfl) ⟨(Nat.le_of_ble_eq_true rfl), (Nat.le_of_ble_eq_true rfl)⟩ ⟨Nat.le_of_ble_eq_true rfl, Nat.le_of_ble_eq_true rfl⟩ (fun r1 M1 ⟨e1, hS1, hH1, hf1⟩ => ?_)
  have C1 : qCs M1 p p2 (t, pl, π, (dMerge π (qx g (i + 1)) (qx g (i + 2)) c).2, η, τ) := hC.core hf1 (fun b j z => z) ⟨hS1, hH1⟩
  have X1 : qFX M M1 := qFX.of hM hf1 (fun b j z => SDo_lt (p := p) hp (z))
  have hM1 := X1.1
  have D1 := hD.cls X1
  obtain ⟨⟨dP, dCl, dpl, dky⟩, dT, dC, dH, dTo⟩ := id D1
  refine qi_aload_n (i := 2) (x := 280) dL_law_557 rfl rfl ?_
  refine qi_aload_n (i := 0) (x := 1000000) dL_law_558 rfl rfl ?_
  refine qi_iload_n (i := 3) (x := nI i) dL_law_559 rfl rfl ?_
  refine qi_iconst (v := 1) dL_law_560 rfl ?_
  refine qi_iadd dL_law_561 ?_
  refine qe_top (y := nI (i + 1)) (nI_add _ _) ?_
  refine qi_sldN (j := i + 1) (x := qx g (i + 1)) dL_law_562 rfl (show i + 1 < qln g by omega) hl rfl ?_
  refine qi_aload_n (i := 0) (x := 1000000) dL_law_563 rfl rfl ?_
  refine qi_iload_n (i := 3) (x := nI i) dL_law_564 rfl rfl ?_
  refine qi_iconst (v := 2) dL_law_565 rfl ?_
  refine qi_iadd dL_law_566 ?_
  refine qe_top (y := nI (i + 2)) (nI_add _ _) ?_
  refine qi_sldN (j := i + 2) (x := qx g (i + 2)) dL_law_567 rfl (show i + 2 < qln g by omega) hl rfl ?_
  refine qi_callVI (K' := kX12_merge) (As := [.int (qx g (i + 1)), .int (qx g (i + 2))]) mlL_70 okX12_merge dL_law_568 (c_X12_merge g hM1 dP okp dC (qx g (i + 1)) (qx g (i + 2))) rfl (by decide) rfl (by decide) rfl rfl (Nat.le_of_ble_eq_true rfl) ⟨(Nat.le_of_ble_eq_true rfl), (Nat.le_of_ble_eq_true rfl)⟩ ⟨Nat.le_of_ble_eq_true rfl, Nat.le_of_ble_eq_true rfl⟩ (fun r2 M2 ⟨e2, dC2, hf2⟩ => ?_)
  have D2 : qDs M2 L (t, pl, π, (dMerge π (qx g (i + 1)) (qx g (i + 2)) c).2, η, τ) := D1.core hf2 (fun b j z => z) dC2
  have F2 := hf2.mono (S' := fun b _ => 280 ≤ b) (fun b j z => SQ_ge (z))
  have hM2 := hM1.fr hf2
  have C2 := C1.ref F2 (fun b j z => z)
  refine qi_icmp_eq (tgt := 1210) dL_law_571 (by decide) (fun z => ?_) (fun z => False.elim (z (e1.trans e2.symm)))
  exact NEXT M2 (t, pl, π, (dMerge π (qx g (i + 1)) (qx g (i + 2)) c).2, η, τ) ⟨hM2, ⟨p, p2, C2⟩, ⟨L, D2⟩, ⟨⟨okt, okp, okc⟩, okco.merge okp (qx g (i + 1)) (qx g (i + 2)), okh, okto⟩⟩
set_option maxHeartbeats 2000000 in
theorem op_split (g : qG) {nm : String} {Z : List Frame → Array Value → State → State → Prop} (hl : qln g < 2 ^ 31) {i : Nat} (hi : i + 6 ≤ qln g) (NEXT : ∀ M σ, qG0 M σ → qT g (kLn nm) room_1 Z 1210 [some (.ref 1000000), some (.ref 0), some (.ref 280), some (.int (nI i))] [] 333 M (333, 23035)) {M : qM} {σ : qSt} (hG : qG0 M σ) : qT g (kLn nm) room_1 Z 576 [some (.ref 1000000), some (.ref 0), some (.ref 280), some (.int (nI i))] [] 333 M (333, 23035) := by
  obtain ⟨t, pl, π, c, η, τ⟩ := σ
  obtain ⟨hM, ⟨p, p2, hC⟩, ⟨L, hD⟩, ⟨okt, okp, okc⟩, okco, okh, okto⟩ := hG
  obtain ⟨⟨hp, hp2, hpp⟩, ⟨⟨hr, hr2⟩, hP, hW, hpl, hwd⟩, hT, ⟨hS, hH⟩, hHd, ⟨hTo, hEx⟩, hRw⟩ := id hC
  refine qi_aload_n (i := 1) (x := 0) dL_law_576 rfl rfl ?_
  refine qi_aload_n (i := 0) (x := 1000000) dL_law_577 rfl rfl ?_
  refine qi_iload_n (i := 3) (x := nI i) dL_law_578 rfl rfl ?_
  refine qi_iconst (v := 1) dL_law_579 rfl ?_
  refine qi_iadd dL_law_580 ?_
  refine qe_top (y := nI (i + 1)) (nI_add _ _) ?_
  refine qi_sldN (j := i + 1) (x := qx g (i + 1)) dL_law_581 rfl (show i + 1 < qln g by omega) hl rfl ?_
  refine qi_aload_n (i := 0) (x := 1000000) dL_law_582 rfl rfl ?_
  refine qi_iload_n (i := 3) (x := nI i) dL_law_583 rfl rfl ?_
  refine qi_iconst (v := 2) dL_law_584 rfl ?_
  refine qi_iadd dL_law_585 ?_
  refine qe_top (y := nI (i + 2)) (nI_add _ _) ?_
  refine qi_sldN (j := i + 2) (x := qx g (i + 2)) dL_law_586 rfl (show i + 2 < qln g by omega) hl rfl ?_
  refine qi_aload_n (i := 0) (x := 1000000) dL_law_587 rfl rfl ?_
  refine qi_iload_n (i := 3) (x := nI i) dL_law_588 rfl rfl ?_
  refine qi_iconst (v := 3) dL_law_589 rfl ?_
  refine qi_iadd dL_law_590 ?_
  refine qe_top (y := nI (i + 3)) (nI_add _ _) ?_
  refine qi_sldN (j := i + 3) (x := qx g (i + 3)) dL_law_591 rfl (show i + 3 < qln g by omega) hl rfl ?_
  refine qi_aload_n (i := 0) (x := 1000000) dL_law_592 rfl rfl ?_
  refine qi_iload_n (i := 3) (x := nI i) dL_law_593 rfl rfl ?_
  refine qi_iconst (v := 4) dL_law_594 rfl ?_
  refine qi_iadd dL_law_595 ?_
  refine qe_top (y := nI (i + 4)) (nI_add _ _) ?_
  refine qi_sldN (j := i + 4) (x := qx g (i + 4)) dL_law_596 rfl (show i + 4 < qln g by omega) hl rfl ?_
  refine qi_callVI (K' := kX11_split) (As := [.int (qx g (i + 1)), .int (qx g (i + 2)), .int (qx g (i + 3)), .int (qx g (i + 4))]) mlL_71 okX11_split dL_law_597 (c_X11_split g hM hp hr hP okp hS hH (qx g (i + 1)) (qx g (i + 2)) (qx g (i + 3)) (qx g (i + 4))) rfl (by decide) rfl (by decide) rfl rfl (Nat.le_of_ble_eq_true rfl) ⟨(Nat.le_of_ble_eq_true rfl), (Nat.le_of_ble_eq_true rfl)⟩ ⟨Nat.le_of_ble_eq_true rfl, Nat.le_of_ble_eq_true rfl⟩ (fun r1 M1 ⟨e1, hS1, hH1, hf1⟩ => ?_)
  have C1 : qCs M1 p p2 (t, pl, π, (dSplit π (qx g (i + 1)) (qx g (i + 2)) (qx g (i + 3)) (qx g (i + 4)) c).2, η, τ) := hC.core hf1 (fun b j z => z) ⟨hS1, hH1⟩
  have X1 : qFX M M1 := qFX.of hM hf1 (fun b j z => SDo_lt (p := p) hp (z))
  have hM1 := X1.1
  have D1 := hD.cls X1
  obtain ⟨⟨dP, dCl, dpl, dky⟩, dT, dC, dH, dTo⟩ := id D1
  refine qi_aload_n (i := 2) (x := 280) dL_law_600 rfl rfl ?_
  refine qi_aload_n (i := 0) (x := 1000000) dL_law_601 rfl rfl ?_
  refine qi_iload_n (i := 3) (x := nI i) dL_law_602 rfl rfl ?_
  refine qi_iconst (v := 1) dL_law_603 rfl ?_
  refine qi_iadd dL_law_604 ?_
  refine qe_top (y := nI (i + 1)) (nI_add _ _) ?_
  refine qi_sldN (j := i + 1) (x := qx g (i + 1)) dL_law_605 rfl (show i + 1 < qln g by omega) hl rfl ?_
  refine qi_aload_n (i := 0) (x := 1000000) dL_law_606 rfl rfl ?_
  refine qi_iload_n (i := 3) (x := nI i) dL_law_607 rfl rfl ?_
  refine qi_iconst (v := 2) dL_law_608 rfl ?_
  refine qi_iadd dL_law_609 ?_
  refine qe_top (y := nI (i + 2)) (nI_add _ _) ?_
  refine qi_sldN (j := i + 2) (x := qx g (i + 2)) dL_law_610 rfl (show i + 2 < qln g by omega) hl rfl ?_
  refine qi_aload_n (i := 0) (x := 1000000) dL_law_611 rfl rfl ?_
  refine qi_iload_n (i := 3) (x := nI i) dL_law_612 rfl rfl ?_
  refine qi_iconst (v := 3) dL_law_613 rfl ?_
  refine qi_iadd dL_law_614 ?_
  refine qe_top (y := nI (i + 3)) (nI_add _ _) ?_
  refine qi_sldN (j := i + 3) (x := qx g (i + 3)) dL_law_615 rfl (show i + 3 < qln g by omega) hl rfl ?_
  refine qi_aload_n (i := 0) (x := 1000000) dL_law_616 rfl rfl ?_
  refine qi_iload_n (i := 3) (x := nI i) dL_law_617 rfl rfl ?_
  refine qi_iconst (v := 4) dL_law_618 rfl ?_
  refine qi_iadd dL_law_619 ?_
  refine qe_top (y := nI (i + 4)) (nI_add _ _) ?_
  refine qi_sldN (j := i + 4) (x := qx g (i + 4)) dL_law_620 rfl (show i + 4 < qln g by omega) hl rfl ?_
  refine qi_callVI (K' := kX12_split) (As := [.int (qx g (i + 1)), .int (qx g (i + 2)), .int (qx g (i + 3)), .int (qx g (i + 4))]) mlL_75 okX12_split dL_law_621 (c_X12_split g hM1 dP okp dC (qx g (i + 1)) (qx g (i + 2)) (qx g (i + 3)) (qx g (i + 4))) rfl (by decide) rfl (by decide) rfl rfl (Nat.le_of_ble_eq_true rfl) ⟨(Nat.le_of_ble_eq_true rfl), (Nat.le_of_ble_eq_true rfl)⟩ ⟨Nat.le_of_ble_eq_true rfl, Nat.le_of_ble_eq_true rfl⟩ (fun r2 M2 ⟨e2, dC2, hf2⟩ => ?_)
  have D2 : qDs M2 L (t, pl, π, (dSplit π (qx g (i + 1)) (qx g (i + 2)) (qx g (i + 3)) (qx g (i + 4)) c).2, η, τ) := D1.core hf2 (fun b j z => z) dC2
  have F2 := hf2.mono (S' := fun b _ => 280 ≤ b) (fun b j z => SQ_ge (z))
  have hM2 := hM1.fr hf2
  have C2 := C1.ref F2 (fun b j z => z)
  refine qi_icmp_eq (tgt := 1210) dL_law_624 (by decide) (fun z => ?_) (fun z => False.elim (z (e1.trans e2.symm)))
  exact NEXT M2 (t, pl, π, (dSplit π (qx g (i + 1)) (qx g (i + 2)) (qx g (i + 3)) (qx g (i + 4)) c).2, η, τ) ⟨hM2, ⟨p, p2, C2⟩, ⟨L, D2⟩, ⟨⟨okt, okp, okc⟩, okco.split okp (qx g (i + 1)) (qx g (i + 2)) (qx g (i + 3)) (qx g (i + 4)), okh, okto⟩⟩
set_option maxHeartbeats 2000000 in
theorem op_spoon (g : qG) {nm : String} {Z : List Frame → Array Value → State → State → Prop} (hl : qln g < 2 ^ 31) {i : Nat} (hi : i + 6 ≤ qln g) (NEXT : ∀ M σ, qG0 M σ → qT g (kLn nm) room_1 Z 1210 [some (.ref 1000000), some (.ref 0), some (.ref 280), some (.int (nI i))] [] 333 M (333, 23035)) {M : qM} {σ : qSt} (hG : qG0 M σ) : qT g (kLn nm) room_1 Z 629 [some (.ref 1000000), some (.ref 0), some (.ref 280), some (.int (nI i))] [] 333 M (333, 23035) := by
  obtain ⟨t, pl, π, c, η, τ⟩ := σ
  obtain ⟨hM, ⟨p, p2, hC⟩, ⟨L, hD⟩, ⟨okt, okp, okc⟩, okco, okh, okto⟩ := hG
  obtain ⟨⟨hp, hp2, hpp⟩, ⟨⟨hr, hr2⟩, hP, hW, hpl, hwd⟩, hT, ⟨hS, hH⟩, hHd, ⟨hTo, hEx⟩, hRw⟩ := id hC
  refine qi_aload_n (i := 1) (x := 0) dL_law_629 rfl rfl ?_
  refine qi_aload_n (i := 0) (x := 1000000) dL_law_630 rfl rfl ?_
  refine qi_iload_n (i := 3) (x := nI i) dL_law_631 rfl rfl ?_
  refine qi_iconst (v := 1) dL_law_632 rfl ?_
  refine qi_iadd dL_law_633 ?_
  refine qe_top (y := nI (i + 1)) (nI_add _ _) ?_
  refine qi_sldN (j := i + 1) (x := qx g (i + 1)) dL_law_634 rfl (show i + 1 < qln g by omega) hl rfl ?_
  refine qi_callVI (K' := kX11_spoon) (As := [.int (qx g (i + 1))]) mlL_76 okX11_spoon dL_law_635 (c_X11_spoon g hM (p := p) okp hS hH okco.1 (qx g (i + 1))) rfl (by decide) rfl (by decide) rfl rfl (Nat.le_of_ble_eq_true rfl) ⟨(Nat.le_of_ble_eq_true rfl), (Nat.le_of_ble_eq_true rfl)⟩ ⟨Nat.le_of_ble_eq_true rfl, Nat.le_of_ble_eq_true rfl⟩ (fun r1 M1 ⟨e1, hS1, hH1, hf1⟩ => ?_)
  have C1 : qCs M1 p p2 (t, pl, π, (dSpoon (qx g (i + 1)) c).2, η, τ) := hC.core hf1 (fun b j z => z) ⟨hS1, hH1⟩
  have X1 : qFX M M1 := qFX.of hM hf1 (fun b j z => SDo_lt (p := p) hp (z))
  have hM1 := X1.1
  have D1 := hD.cls X1
  obtain ⟨⟨dP, dCl, dpl, dky⟩, dT, dC, dH, dTo⟩ := id D1
  refine qi_aload_n (i := 2) (x := 280) dL_law_638 rfl rfl ?_
  refine qi_aload_n (i := 0) (x := 1000000) dL_law_639 rfl rfl ?_
  refine qi_iload_n (i := 3) (x := nI i) dL_law_640 rfl rfl ?_
  refine qi_iconst (v := 1) dL_law_641 rfl ?_
  refine qi_iadd dL_law_642 ?_
  refine qe_top (y := nI (i + 1)) (nI_add _ _) ?_
  refine qi_sldN (j := i + 1) (x := qx g (i + 1)) dL_law_643 rfl (show i + 1 < qln g by omega) hl rfl ?_
  refine qi_callVI (K' := kX12_spoon) (As := [.int (qx g (i + 1))]) mlL_79 okX12_spoon dL_law_644 (c_X12_spoon g hM1 dP okp dC okco (qx g (i + 1))) rfl (by decide) rfl (by decide) rfl rfl (Nat.le_of_ble_eq_true rfl) ⟨(Nat.le_of_ble_eq_true rfl), (Nat.le_of_ble_eq_true rfl)⟩ ⟨Nat.le_of_ble_eq_true rfl, Nat.le_of_ble_eq_true rfl⟩ (fun r2 M2 ⟨e2, dC2, hf2⟩ => ?_)
  have D2 : qDs M2 L (t, pl, π, (dSpoon (qx g (i + 1)) c).2, η, τ) := D1.core hf2 (fun b j z => z) dC2
  have F2 := hf2.mono (S' := fun b _ => 280 ≤ b) (fun b j z => SQ_ge (z))
  have hM2 := hM1.fr hf2
  have C2 := C1.ref F2 (fun b j z => z)
  refine qi_icmp_eq (tgt := 1210) dL_law_647 (by decide) (fun z => ?_) (fun z => False.elim (z (e1.trans e2.symm)))
  exact NEXT M2 (t, pl, π, (dSpoon (qx g (i + 1)) c).2, η, τ) ⟨hM2, ⟨p, p2, C2⟩, ⟨L, D2⟩, ⟨⟨okt, okp, okc⟩, okco.spoon okp (qx g (i + 1)), okh, okto⟩⟩
set_option maxHeartbeats 2000000 in
theorem op_undo (g : qG) {nm : String} {Z : List Frame → Array Value → State → State → Prop} (hl : qln g < 2 ^ 31) {i : Nat} (hi : i + 6 ≤ qln g) (NEXT : ∀ M σ, qG0 M σ → qT g (kLn nm) room_1 Z 1210 [some (.ref 1000000), some (.ref 0), some (.ref 280), some (.int (nI i))] [] 333 M (333, 23035)) {M : qM} {σ : qSt} (hG : qG0 M σ) : qT g (kLn nm) room_1 Z 652 [some (.ref 1000000), some (.ref 0), some (.ref 280), some (.int (nI i))] [] 333 M (333, 23035) := by
  obtain ⟨t, pl, π, c, η, τ⟩ := σ
  obtain ⟨hM, ⟨p, p2, hC⟩, ⟨L, hD⟩, ⟨okt, okp, okc⟩, okco, okh, okto⟩ := hG
  obtain ⟨⟨hp, hp2, hpp⟩, ⟨⟨hr, hr2⟩, hP, hW, hpl, hwd⟩, hT, ⟨hS, hH⟩, hHd, ⟨hTo, hEx⟩, hRw⟩ := id hC
  refine qi_aload_n (i := 1) (x := 0) dL_law_652 rfl rfl ?_
  refine qi_callVI (K' := kX11_undo) (As := []) mlL_80 okX11_undo dL_law_653 (c_X11_undo g hM hS hH) rfl (by decide) rfl (by decide) rfl rfl (Nat.le_of_ble_eq_true rfl) ⟨(Nat.le_of_ble_eq_true rfl), (Nat.le_of_ble_eq_true rfl)⟩ ⟨Nat.le_of_ble_eq_true rfl, Nat.le_of_ble_eq_true rfl⟩ (fun r1 M1 ⟨e1, hS1, hH1, hf1⟩ => ?_)
  have C1 : qCs M1 p p2 (t, pl, π, (dUndo c).2, η, τ) := hC.core hf1 (fun b j z => SUn_do z) ⟨hS1, hH1⟩
  have X1 : qFX M M1 := qFX.of hM hf1 (fun b j z => SDo_lt (p := p) hp (SUn_do z))
  have hM1 := X1.1
  have D1 := hD.cls X1
  obtain ⟨⟨dP, dCl, dpl, dky⟩, dT, dC, dH, dTo⟩ := id D1
  refine qi_aload_n (i := 2) (x := 280) dL_law_656 rfl rfl ?_
  refine qi_callVI (K' := kX12_undo) (As := []) mlL_84 okX12_undo dL_law_657 (c_X12_undo g hM1 dC.1 dC.2) rfl (by decide) rfl (by decide) rfl rfl (Nat.le_of_ble_eq_true rfl) ⟨(Nat.le_of_ble_eq_true rfl), (Nat.le_of_ble_eq_true rfl)⟩ ⟨Nat.le_of_ble_eq_true rfl, Nat.le_of_ble_eq_true rfl⟩ (fun r2 M2 ⟨e2, dN2, dH2, hf2⟩ => ?_)
  have dC2 : qCore M2 (dUndo c).2 ∧ r2 = (dUndo c).1 := by
    unfold dUndo
    by_cases z : c.2.1 = 0
    · rw [if_pos z] at e2 dN2 ⊢
      exact ⟨⟨dN2, by show c.2.1 ≤ 30; omega, by rw [dH2.2.1, z], fun i k hi => absurd hi (by show ¬ i < c.2.1; omega)⟩, e2⟩
    · rw [if_neg z] at e2 dN2 ⊢
      exact ⟨⟨dN2, dH2⟩, e2⟩
  obtain ⟨dC2, e2⟩ := dC2
  have D2 : qDs M2 L (t, pl, π, (dUndo c).2, η, τ) := D1.core hf2 (fun b j z => SU_SQ z) dC2
  have F2 := hf2.mono (S' := fun b _ => 280 ≤ b) (fun b j z => SQ_ge (SU_SQ z))
  have hM2 := hM1.fr hf2
  have C2 := C1.ref F2 (fun b j z => z)
  refine qi_icmp_eq (tgt := 1210) dL_law_660 (by decide) (fun z => ?_) (fun z => False.elim (z (e1.trans e2.symm)))
  exact NEXT M2 (t, pl, π, (dUndo c).2, η, τ) ⟨hM2, ⟨p, p2, C2⟩, ⟨L, D2⟩, ⟨⟨okt, okp, okc⟩, okco.undo, okh, okto⟩⟩
set_option maxHeartbeats 2000000 in
theorem op_enough (g : qG) {nm : String} {Z : List Frame → Array Value → State → State → Prop} (hl : qln g < 2 ^ 31) {i : Nat} (hi : i + 6 ≤ qln g) (NEXT : ∀ M σ, qG0 M σ → qT g (kLn nm) room_1 Z 1210 [some (.ref 1000000), some (.ref 0), some (.ref 280), some (.int (nI i))] [] 333 M (333, 23035)) {M : qM} {σ : qSt} (hG : qG0 M σ) : qT g (kLn nm) room_1 Z 665 [some (.ref 1000000), some (.ref 0), some (.ref 280), some (.int (nI i))] [] 333 M (333, 23035) := by
  obtain ⟨t, pl, π, c, η, τ⟩ := σ
  obtain ⟨hM, ⟨p, p2, hC⟩, ⟨L, hD⟩, ⟨okt, okp, okc⟩, okco, okh, okto⟩ := hG
  obtain ⟨⟨hp, hp2, hpp⟩, ⟨⟨hr, hr2⟩, hP, hW, hpl, hwd⟩, hT, ⟨hS, hH⟩, hHd, ⟨hTo, hEx⟩, hRw⟩ := id hC
  refine qi_aload_n (i := 1) (x := 0) dL_law_665 rfl rfl ?_
  refine qi_aload_n (i := 0) (x := 1000000) dL_law_666 rfl rfl ?_
  refine qi_iload_n (i := 3) (x := nI i) dL_law_667 rfl rfl ?_
  refine qi_iconst (v := 1) dL_law_668 rfl ?_
  refine qi_iadd dL_law_669 ?_
  refine qe_top (y := nI (i + 1)) (nI_add _ _) ?_
  refine qi_sldN (j := i + 1) (x := qx g (i + 1)) dL_law_670 rfl (show i + 1 < qln g by omega) hl rfl ?_
  refine qi_callVI (K' := kX11_enough) (As := [.int (qx g (i + 1))]) mlL_85 okX11_enough dL_law_671 (c_X11_enough g hM hp hr hP okp hS okco.1 (qx g (i + 1))) rfl (by decide) rfl (by decide) rfl rfl (Nat.le_of_ble_eq_true rfl) ⟨(Nat.le_of_ble_eq_true rfl), (Nat.le_of_ble_eq_true rfl)⟩ ⟨Nat.le_of_ble_eq_true rfl, Nat.le_of_ble_eq_true rfl⟩ (fun r1 M1 ⟨e1, hf1⟩ => ?_)
  have C1 : qCs M1 p p2 (t, pl, π, c, η, τ) := hC.q (hf1.mono (fun b j z => z))
  have X1 : qFX M M1 := qFX.of hM (hf1.mono (fun b j z => z)) (fun b j z => SQx_lt (p := p) hp z)
  have hM1 := X1.1
  have D1 := hD.cls X1
  obtain ⟨⟨dP, dCl, dpl, dky⟩, dT, dC, dH, dTo⟩ := id D1
  refine qi_aload_n (i := 2) (x := 280) dL_law_674 rfl rfl ?_
  refine qi_aload_n (i := 0) (x := 1000000) dL_law_675 rfl rfl ?_
  refine qi_iload_n (i := 3) (x := nI i) dL_law_676 rfl rfl ?_
  refine qi_iconst (v := 1) dL_law_677 rfl ?_
  refine qi_iadd dL_law_678 ?_
  refine qe_top (y := nI (i + 1)) (nI_add _ _) ?_
  refine qi_sldN (j := i + 1) (x := qx g (i + 1)) dL_law_679 rfl (show i + 1 < qln g by omega) hl rfl ?_
  refine qi_callVI (K' := kX12_enough) (As := [.int (qx g (i + 1))]) mlL_88 okX12_enough dL_law_680 (c_X12_enough g hM1 dP okp dC.1 okco.1 (qx g (i + 1))) rfl (by decide) rfl (by decide) rfl rfl (Nat.le_of_ble_eq_true rfl) ⟨(Nat.le_of_ble_eq_true rfl), (Nat.le_of_ble_eq_true rfl)⟩ ⟨Nat.le_of_ble_eq_true rfl, Nat.le_of_ble_eq_true rfl⟩ (fun r2 M2 ⟨e2, hf2⟩ => ?_)
  have D2 : qDs M2 L (t, pl, π, c, η, τ) := D1.q (hf2.mono (fun b j z => SM_dq z))
  have F2 := hf2.mono (S' := fun b _ => 280 ≤ b) (fun b j z => SDq_ge (SM_dq z))
  have hM2 := hM1.fr hf2
  have C2 := C1.ref F2 (fun b j z => z)
  refine qi_icmp_eq (tgt := 1210) dL_law_683 (by decide) (fun z => ?_) (fun z => False.elim (z (e1.trans e2.symm)))
  exact NEXT M2 (t, pl, π, c, η, τ) ⟨hM2, ⟨p, p2, C2⟩, ⟨L, D2⟩, ⟨⟨okt, okp, okc⟩, okco, okh, okto⟩⟩
set_option maxHeartbeats 2000000 in
theorem op_salty (g : qG) {nm : String} {Z : List Frame → Array Value → State → State → Prop} (hl : qln g < 2 ^ 31) {i : Nat} (hi : i + 6 ≤ qln g) (NEXT : ∀ M σ, qG0 M σ → qT g (kLn nm) room_1 Z 1210 [some (.ref 1000000), some (.ref 0), some (.ref 280), some (.int (nI i))] [] 333 M (333, 23035)) {M : qM} {σ : qSt} (hG : qG0 M σ) : qT g (kLn nm) room_1 Z 688 [some (.ref 1000000), some (.ref 0), some (.ref 280), some (.int (nI i))] [] 333 M (333, 23035) := by
  obtain ⟨t, pl, π, c, η, τ⟩ := σ
  obtain ⟨hM, ⟨p, p2, hC⟩, ⟨L, hD⟩, ⟨okt, okp, okc⟩, okco, okh, okto⟩ := hG
  obtain ⟨⟨hp, hp2, hpp⟩, ⟨⟨hr, hr2⟩, hP, hW, hpl, hwd⟩, hT, ⟨hS, hH⟩, hHd, ⟨hTo, hEx⟩, hRw⟩ := id hC
  refine qi_aload_n (i := 1) (x := 0) dL_law_688 rfl rfl ?_
  refine qi_aload_n (i := 0) (x := 1000000) dL_law_689 rfl rfl ?_
  refine qi_iload_n (i := 3) (x := nI i) dL_law_690 rfl rfl ?_
  refine qi_iconst (v := 1) dL_law_691 rfl ?_
  refine qi_iadd dL_law_692 ?_
  refine qe_top (y := nI (i + 1)) (nI_add _ _) ?_
  refine qi_sldN (j := i + 1) (x := qx g (i + 1)) dL_law_693 rfl (show i + 1 < qln g by omega) hl rfl ?_
  refine qi_callVI (K' := kX11_salty) (As := [.int (qx g (i + 1))]) mlL_89 okX11_salty dL_law_694 (c_X11_salty g hM hp hr hP okp hS okco.1 (qx g (i + 1))) rfl (by decide) rfl (by decide) rfl rfl (Nat.le_of_ble_eq_true rfl) ⟨(Nat.le_of_ble_eq_true rfl), (Nat.le_of_ble_eq_true rfl)⟩ ⟨Nat.le_of_ble_eq_true rfl, Nat.le_of_ble_eq_true rfl⟩ (fun r1 M1 ⟨e1, hf1⟩ => ?_)
  have C1 : qCs M1 p p2 (t, pl, π, c, η, τ) := hC.q (hf1.mono (fun b j z => z))
  have X1 : qFX M M1 := qFX.of hM (hf1.mono (fun b j z => z)) (fun b j z => SQx_lt (p := p) hp z)
  have hM1 := X1.1
  have D1 := hD.cls X1
  obtain ⟨⟨dP, dCl, dpl, dky⟩, dT, dC, dH, dTo⟩ := id D1
  refine qi_aload_n (i := 2) (x := 280) dL_law_697 rfl rfl ?_
  refine qi_aload_n (i := 0) (x := 1000000) dL_law_698 rfl rfl ?_
  refine qi_iload_n (i := 3) (x := nI i) dL_law_699 rfl rfl ?_
  refine qi_iconst (v := 1) dL_law_700 rfl ?_
  refine qi_iadd dL_law_701 ?_
  refine qe_top (y := nI (i + 1)) (nI_add _ _) ?_
  refine qi_sldN (j := i + 1) (x := qx g (i + 1)) dL_law_702 rfl (show i + 1 < qln g by omega) hl rfl ?_
  refine qi_callVI (K' := kX12_salty) (As := [.int (qx g (i + 1))]) mlL_92 okX12_salty dL_law_703 (c_X12_salty g hM1 dP okp dC.1 okco.1 (qx g (i + 1))) rfl (by decide) rfl (by decide) rfl rfl (Nat.le_of_ble_eq_true rfl) ⟨(Nat.le_of_ble_eq_true rfl), (Nat.le_of_ble_eq_true rfl)⟩ ⟨Nat.le_of_ble_eq_true rfl, Nat.le_of_ble_eq_true rfl⟩ (fun r2 M2 ⟨e2, hf2⟩ => ?_)
  have D2 : qDs M2 L (t, pl, π, c, η, τ) := D1.q (hf2.mono (fun b j z => SM_dq z))
  have F2 := hf2.mono (S' := fun b _ => 280 ≤ b) (fun b j z => SDq_ge (SM_dq z))
  have hM2 := hM1.fr hf2
  have C2 := C1.ref F2 (fun b j z => z)
  refine qi_icmp_eq (tgt := 1210) dL_law_706 (by decide) (fun z => ?_) (fun z => False.elim (z (e1.trans e2.symm)))
  exact NEXT M2 (t, pl, π, c, η, τ) ⟨hM2, ⟨p, p2, C2⟩, ⟨L, D2⟩, ⟨⟨okt, okp, okc⟩, okco, okh, okto⟩⟩
set_option maxHeartbeats 2000000 in
theorem op_crossed (g : qG) {nm : String} {Z : List Frame → Array Value → State → State → Prop} (hl : qln g < 2 ^ 31) {i : Nat} (hi : i + 6 ≤ qln g) (NEXT : ∀ M σ, qG0 M σ → qT g (kLn nm) room_1 Z 1210 [some (.ref 1000000), some (.ref 0), some (.ref 280), some (.int (nI i))] [] 333 M (333, 23035)) {M : qM} {σ : qSt} (hG : qG0 M σ) : qT g (kLn nm) room_1 Z 711 [some (.ref 1000000), some (.ref 0), some (.ref 280), some (.int (nI i))] [] 333 M (333, 23035) := by
  obtain ⟨t, pl, π, c, η, τ⟩ := σ
  obtain ⟨hM, ⟨p, p2, hC⟩, ⟨L, hD⟩, ⟨okt, okp, okc⟩, okco, okh, okto⟩ := hG
  obtain ⟨⟨hp, hp2, hpp⟩, ⟨⟨hr, hr2⟩, hP, hW, hpl, hwd⟩, hT, ⟨hS, hH⟩, hHd, ⟨hTo, hEx⟩, hRw⟩ := id hC
  refine qi_aload_n (i := 1) (x := 0) dL_law_711 rfl rfl ?_
  refine qi_aload_n (i := 0) (x := 1000000) dL_law_712 rfl rfl ?_
  refine qi_iload_n (i := 3) (x := nI i) dL_law_713 rfl rfl ?_
  refine qi_iconst (v := 1) dL_law_714 rfl ?_
  refine qi_iadd dL_law_715 ?_
  refine qe_top (y := nI (i + 1)) (nI_add _ _) ?_
  refine qi_sldN (j := i + 1) (x := qx g (i + 1)) dL_law_716 rfl (show i + 1 < qln g by omega) hl rfl ?_
  refine qi_aload_n (i := 0) (x := 1000000) dL_law_717 rfl rfl ?_
  refine qi_iload_n (i := 3) (x := nI i) dL_law_718 rfl rfl ?_
  refine qi_iconst (v := 2) dL_law_719 rfl ?_
  refine qi_iadd dL_law_720 ?_
  refine qe_top (y := nI (i + 2)) (nI_add _ _) ?_
  refine qi_sldN (j := i + 2) (x := qx g (i + 2)) dL_law_721 rfl (show i + 2 < qln g by omega) hl rfl ?_
  refine qi_aload_n (i := 0) (x := 1000000) dL_law_722 rfl rfl ?_
  refine qi_iload_n (i := 3) (x := nI i) dL_law_723 rfl rfl ?_
  refine qi_iconst (v := 3) dL_law_724 rfl ?_
  refine qi_iadd dL_law_725 ?_
  refine qe_top (y := nI (i + 3)) (nI_add _ _) ?_
  refine qi_sldN (j := i + 3) (x := qx g (i + 3)) dL_law_726 rfl (show i + 3 < qln g by omega) hl rfl ?_
  refine qi_callVI (K' := kX11_crossed) (As := [.int (qx g (i + 1)), .int (qx g (i + 2)), .int (qx g (i + 3))]) mlL_93 okX11_crossed dL_law_727 (c_X11_crossed g hM hp hr hP okp hS okco.1 (qx g (i + 1)) (qx g (i + 2)) (qx g (i + 3))) rfl (by decide) rfl (by decide) rfl rfl (Nat.le_of_ble_eq_true rfl) ⟨(Nat.le_of_ble_eq_true rfl), (Nat.le_of_ble_eq_true rfl)⟩ ⟨Nat.le_of_ble_eq_true rfl, Nat.le_of_ble_eq_true rfl⟩ (fun r1 M1 ⟨e1, hf1⟩ => ?_)
  have C1 : qCs M1 p p2 (t, pl, π, c, η, τ) := hC.q (hf1.mono (fun b j z => z))
  have X1 : qFX M M1 := qFX.of hM (hf1.mono (fun b j z => z)) (fun b j z => SQx_lt (p := p) hp z)
  have hM1 := X1.1
  have D1 := hD.cls X1
  obtain ⟨⟨dP, dCl, dpl, dky⟩, dT, dC, dH, dTo⟩ := id D1
  refine qi_aload_n (i := 2) (x := 280) dL_law_730 rfl rfl ?_
  refine qi_aload_n (i := 0) (x := 1000000) dL_law_731 rfl rfl ?_
  refine qi_iload_n (i := 3) (x := nI i) dL_law_732 rfl rfl ?_
  refine qi_iconst (v := 1) dL_law_733 rfl ?_
  refine qi_iadd dL_law_734 ?_
  refine qe_top (y := nI (i + 1)) (nI_add _ _) ?_
  refine qi_sldN (j := i + 1) (x := qx g (i + 1)) dL_law_735 rfl (show i + 1 < qln g by omega) hl rfl ?_
  refine qi_aload_n (i := 0) (x := 1000000) dL_law_736 rfl rfl ?_
  refine qi_iload_n (i := 3) (x := nI i) dL_law_737 rfl rfl ?_
  refine qi_iconst (v := 2) dL_law_738 rfl ?_
  refine qi_iadd dL_law_739 ?_
  refine qe_top (y := nI (i + 2)) (nI_add _ _) ?_
  refine qi_sldN (j := i + 2) (x := qx g (i + 2)) dL_law_740 rfl (show i + 2 < qln g by omega) hl rfl ?_
  refine qi_aload_n (i := 0) (x := 1000000) dL_law_741 rfl rfl ?_
  refine qi_iload_n (i := 3) (x := nI i) dL_law_742 rfl rfl ?_
  refine qi_iconst (v := 3) dL_law_743 rfl ?_
  refine qi_iadd dL_law_744 ?_
  refine qe_top (y := nI (i + 3)) (nI_add _ _) ?_
  refine qi_sldN (j := i + 3) (x := qx g (i + 3)) dL_law_745 rfl (show i + 3 < qln g by omega) hl rfl ?_
  refine qi_callVI (K' := kX12_crossed) (As := [.int (qx g (i + 1)), .int (qx g (i + 2)), .int (qx g (i + 3))]) mlL_97 okX12_crossed dL_law_746 (c_X12_crossed g hM1 dP okp dC.1 okco.1 (qx g (i + 1)) (qx g (i + 2)) (qx g (i + 3))) rfl (by decide) rfl (by decide) rfl rfl (Nat.le_of_ble_eq_true rfl) ⟨(Nat.le_of_ble_eq_true rfl), (Nat.le_of_ble_eq_true rfl)⟩ ⟨Nat.le_of_ble_eq_true rfl, Nat.le_of_ble_eq_true rfl⟩ (fun r2 M2 ⟨e2, hf2⟩ => ?_)
  have D2 : qDs M2 L (t, pl, π, c, η, τ) := D1.q (hf2.mono (fun b j z => SM_dq z))
  have F2 := hf2.mono (S' := fun b _ => 280 ≤ b) (fun b j z => SDq_ge (SM_dq z))
  have hM2 := hM1.fr hf2
  have C2 := C1.ref F2 (fun b j z => z)
  refine qi_icmp_eq (tgt := 1210) dL_law_749 (by decide) (fun z => ?_) (fun z => False.elim (z (e1.trans e2.symm)))
  exact NEXT M2 (t, pl, π, c, η, τ) ⟨hM2, ⟨p, p2, C2⟩, ⟨L, D2⟩, ⟨⟨okt, okp, okc⟩, okco, okh, okto⟩⟩
set_option maxHeartbeats 2000000 in
theorem op_league (g : qG) {nm : String} {Z : List Frame → Array Value → State → State → Prop} (hl : qln g < 2 ^ 31) {i : Nat} (hi : i + 6 ≤ qln g) (NEXT : ∀ M σ, qG0 M σ → qT g (kLn nm) room_1 Z 1210 [some (.ref 1000000), some (.ref 0), some (.ref 280), some (.int (nI i))] [] 333 M (333, 23035)) {M : qM} {σ : qSt} (hG : qG0 M σ) : qT g (kLn nm) room_1 Z 754 [some (.ref 1000000), some (.ref 0), some (.ref 280), some (.int (nI i))] [] 333 M (333, 23035) := by
  obtain ⟨t, pl, π, c, η, τ⟩ := σ
  obtain ⟨hM, ⟨p, p2, hC⟩, ⟨L, hD⟩, ⟨okt, okp, okc⟩, okco, okh, okto⟩ := hG
  obtain ⟨⟨hp, hp2, hpp⟩, ⟨⟨hr, hr2⟩, hP, hW, hpl, hwd⟩, hT, ⟨hS, hH⟩, hHd, ⟨hTo, hEx⟩, hRw⟩ := id hC
  refine qi_aload_n (i := 1) (x := 0) dL_law_754 rfl rfl ?_
  refine qi_callVI (K' := kX11_league) (As := []) mlL_98 okX11_league dL_law_755 (c_X11_league g hM hp hr hP okp hS) rfl (by decide) rfl (by decide) rfl rfl (Nat.le_of_ble_eq_true rfl) ⟨(Nat.le_of_ble_eq_true rfl), (Nat.le_of_ble_eq_true rfl)⟩ ⟨Nat.le_of_ble_eq_true rfl, Nat.le_of_ble_eq_true rfl⟩ (fun r1 M1 ⟨e1, em1⟩ => ?_)
  have hM1 : qRf M1 := em1 ▸ hM
  have D1 : qDs M1 L (t, pl, π, c, η, τ) := em1 ▸ hD
  have C1 : qCs M1 p p2 (t, pl, π, c, η, τ) := em1 ▸ hC
  obtain ⟨⟨dP, dCl, dpl, dky⟩, dT, dC, dH, dTo⟩ := id D1
  refine qi_aload_n (i := 2) (x := 280) dL_law_758 rfl rfl ?_
  refine qi_callVI (K' := kX12_league) (As := []) mlL_101 okX12_league dL_law_759 (c_X12_league g hM1 dP okp dC.1) rfl (by decide) rfl (by decide) rfl rfl (Nat.le_of_ble_eq_true rfl) ⟨(Nat.le_of_ble_eq_true rfl), (Nat.le_of_ble_eq_true rfl)⟩ ⟨Nat.le_of_ble_eq_true rfl, Nat.le_of_ble_eq_true rfl⟩ (fun r2 M2 ⟨e2, hf2⟩ => ?_)
  have D2 : qDs M2 L (t, pl, π, c, η, τ) := D1.q (hf2.mono (fun b j z => SM_dq z))
  have F2 := hf2.mono (S' := fun b _ => 280 ≤ b) (fun b j z => SDq_ge (SM_dq z))
  have hM2 := hM1.fr hf2
  have C2 := C1.ref F2 (fun b j z => z)
  refine qi_icmp_eq (tgt := 1210) dL_law_762 (by decide) (fun z => ?_) (fun z => False.elim (z (e1.trans e2.symm)))
  exact NEXT M2 (t, pl, π, c, η, τ) ⟨hM2, ⟨p, p2, C2⟩, ⟨L, D2⟩, ⟨⟨okt, okp, okc⟩, okco, okh, okto⟩⟩
set_option maxHeartbeats 2000000 in
theorem op_power (g : qG) {nm : String} {Z : List Frame → Array Value → State → State → Prop} (hl : qln g < 2 ^ 31) {i : Nat} (hi : i + 6 ≤ qln g) (NEXT : ∀ M σ, qG0 M σ → qT g (kLn nm) room_1 Z 1210 [some (.ref 1000000), some (.ref 0), some (.ref 280), some (.int (nI i))] [] 333 M (333, 23035)) {M : qM} {σ : qSt} (hG : qG0 M σ) : qT g (kLn nm) room_1 Z 767 [some (.ref 1000000), some (.ref 0), some (.ref 280), some (.int (nI i))] [] 333 M (333, 23035) := by
  obtain ⟨t, pl, π, c, η, τ⟩ := σ
  obtain ⟨hM, ⟨p, p2, hC⟩, ⟨L, hD⟩, ⟨okt, okp, okc⟩, okco, okh, okto⟩ := hG
  obtain ⟨⟨hp, hp2, hpp⟩, ⟨⟨hr, hr2⟩, hP, hW, hpl, hwd⟩, hT, ⟨hS, hH⟩, hHd, ⟨hTo, hEx⟩, hRw⟩ := id hC
  refine qi_aload_n (i := 1) (x := 0) dL_law_767 rfl rfl ?_
  refine qi_aload_n (i := 0) (x := 1000000) dL_law_768 rfl rfl ?_
  refine qi_iload_n (i := 3) (x := nI i) dL_law_769 rfl rfl ?_
  refine qi_iconst (v := 1) dL_law_770 rfl ?_
  refine qi_iadd dL_law_771 ?_
  refine qe_top (y := nI (i + 1)) (nI_add _ _) ?_
  refine qi_sldN (j := i + 1) (x := qx g (i + 1)) dL_law_772 rfl (show i + 1 < qln g by omega) hl rfl ?_
  refine qi_callVI (K' := kX11_power) (As := [.int (qx g (i + 1))]) mlL_102 okX11_power dL_law_773 (c_X11_power g hM hp hr hP okp hS (qx g (i + 1))) rfl (by decide) rfl (by decide) rfl rfl (Nat.le_of_ble_eq_true rfl) ⟨(Nat.le_of_ble_eq_true rfl), (Nat.le_of_ble_eq_true rfl)⟩ ⟨Nat.le_of_ble_eq_true rfl, Nat.le_of_ble_eq_true rfl⟩ (fun r1 M1 ⟨e1, em1⟩ => ?_)
  have hM1 : qRf M1 := em1 ▸ hM
  have D1 : qDs M1 L (t, pl, π, c, η, τ) := em1 ▸ hD
  have C1 : qCs M1 p p2 (t, pl, π, c, η, τ) := em1 ▸ hC
  obtain ⟨⟨dP, dCl, dpl, dky⟩, dT, dC, dH, dTo⟩ := id D1
  refine qi_aload_n (i := 2) (x := 280) dL_law_776 rfl rfl ?_
  refine qi_aload_n (i := 0) (x := 1000000) dL_law_777 rfl rfl ?_
  refine qi_iload_n (i := 3) (x := nI i) dL_law_778 rfl rfl ?_
  refine qi_iconst (v := 1) dL_law_779 rfl ?_
  refine qi_iadd dL_law_780 ?_
  refine qe_top (y := nI (i + 1)) (nI_add _ _) ?_
  refine qi_sldN (j := i + 1) (x := qx g (i + 1)) dL_law_781 rfl (show i + 1 < qln g by omega) hl rfl ?_
  refine qi_callVI (K' := kX12_power) (As := [.int (qx g (i + 1))]) mlL_105 okX12_power dL_law_782 (c_X12_power g hM1 dP okp dC.1 (qx g (i + 1))) rfl (by decide) rfl (by decide) rfl rfl (Nat.le_of_ble_eq_true rfl) ⟨(Nat.le_of_ble_eq_true rfl), (Nat.le_of_ble_eq_true rfl)⟩ ⟨Nat.le_of_ble_eq_true rfl, Nat.le_of_ble_eq_true rfl⟩ (fun r2 M2 ⟨e2, hf2⟩ => ?_)
  have D2 : qDs M2 L (t, pl, π, c, η, τ) := D1.q (hf2.mono (fun b j z => SM_dq z))
  have F2 := hf2.mono (S' := fun b _ => 280 ≤ b) (fun b j z => SDq_ge (SM_dq z))
  have hM2 := hM1.fr hf2
  have C2 := C1.ref F2 (fun b j z => z)
  refine qi_icmp_eq (tgt := 1210) dL_law_785 (by decide) (fun z => ?_) (fun z => False.elim (z (e1.trans e2.symm)))
  exact NEXT M2 (t, pl, π, c, η, τ) ⟨hM2, ⟨p, p2, C2⟩, ⟨L, D2⟩, ⟨⟨okt, okp, okc⟩, okco, okh, okto⟩⟩
set_option maxHeartbeats 2000000 in
theorem op_without (g : qG) {nm : String} {Z : List Frame → Array Value → State → State → Prop} (hl : qln g < 2 ^ 31) {i : Nat} (hi : i + 6 ≤ qln g) (NEXT : ∀ M σ, qG0 M σ → qT g (kLn nm) room_1 Z 1210 [some (.ref 1000000), some (.ref 0), some (.ref 280), some (.int (nI i))] [] 333 M (333, 23035)) {M : qM} {σ : qSt} (hG : qG0 M σ) : qT g (kLn nm) room_1 Z 790 [some (.ref 1000000), some (.ref 0), some (.ref 280), some (.int (nI i))] [] 333 M (333, 23035) := by
  obtain ⟨t, pl, π, c, η, τ⟩ := σ
  obtain ⟨hM, ⟨p, p2, hC⟩, ⟨L, hD⟩, ⟨okt, okp, okc⟩, okco, okh, okto⟩ := hG
  obtain ⟨⟨hp, hp2, hpp⟩, ⟨⟨hr, hr2⟩, hP, hW, hpl, hwd⟩, hT, ⟨hS, hH⟩, hHd, ⟨hTo, hEx⟩, hRw⟩ := id hC
  refine qi_aload_n (i := 1) (x := 0) dL_law_790 rfl rfl ?_
  refine qi_aload_n (i := 0) (x := 1000000) dL_law_791 rfl rfl ?_
  refine qi_iload_n (i := 3) (x := nI i) dL_law_792 rfl rfl ?_
  refine qi_iconst (v := 1) dL_law_793 rfl ?_
  refine qi_iadd dL_law_794 ?_
  refine qe_top (y := nI (i + 1)) (nI_add _ _) ?_
  refine qi_sldN (j := i + 1) (x := qx g (i + 1)) dL_law_795 rfl (show i + 1 < qln g by omega) hl rfl ?_
  refine qi_aload_n (i := 0) (x := 1000000) dL_law_796 rfl rfl ?_
  refine qi_iload_n (i := 3) (x := nI i) dL_law_797 rfl rfl ?_
  refine qi_iconst (v := 2) dL_law_798 rfl ?_
  refine qi_iadd dL_law_799 ?_
  refine qe_top (y := nI (i + 2)) (nI_add _ _) ?_
  refine qi_sldN (j := i + 2) (x := qx g (i + 2)) dL_law_800 rfl (show i + 2 < qln g by omega) hl rfl ?_
  refine qi_aload_n (i := 0) (x := 1000000) dL_law_801 rfl rfl ?_
  refine qi_iload_n (i := 3) (x := nI i) dL_law_802 rfl rfl ?_
  refine qi_iconst (v := 3) dL_law_803 rfl ?_
  refine qi_iadd dL_law_804 ?_
  refine qe_top (y := nI (i + 3)) (nI_add _ _) ?_
  refine qi_sldN (j := i + 3) (x := qx g (i + 3)) dL_law_805 rfl (show i + 3 < qln g by omega) hl rfl ?_
  refine qi_callVI (K' := kX11_without) (As := [.int (qx g (i + 1)), .int (qx g (i + 2)), .int (qx g (i + 3))]) mlL_106 okX11_without dL_law_806 (c_X11_without g hM hp hr hP okp hS okco.1 (qx g (i + 1)) (qx g (i + 2)) (qx g (i + 3))) rfl (by decide) rfl (by decide) rfl rfl (Nat.le_of_ble_eq_true rfl) ⟨(Nat.le_of_ble_eq_true rfl), (Nat.le_of_ble_eq_true rfl)⟩ ⟨Nat.le_of_ble_eq_true rfl, Nat.le_of_ble_eq_true rfl⟩ (fun r1 M1 ⟨e1, hf1⟩ => ?_)
  have C1 : qCs M1 p p2 (t, pl, π, c, η, τ) := hC.q (hf1.mono (fun b j z => z))
  have X1 : qFX M M1 := qFX.of hM (hf1.mono (fun b j z => z)) (fun b j z => SQx_lt (p := p) hp z)
  have hM1 := X1.1
  have D1 := hD.cls X1
  obtain ⟨⟨dP, dCl, dpl, dky⟩, dT, dC, dH, dTo⟩ := id D1
  refine qi_aload_n (i := 2) (x := 280) dL_law_809 rfl rfl ?_
  refine qi_aload_n (i := 0) (x := 1000000) dL_law_810 rfl rfl ?_
  refine qi_iload_n (i := 3) (x := nI i) dL_law_811 rfl rfl ?_
  refine qi_iconst (v := 1) dL_law_812 rfl ?_
  refine qi_iadd dL_law_813 ?_
  refine qe_top (y := nI (i + 1)) (nI_add _ _) ?_
  refine qi_sldN (j := i + 1) (x := qx g (i + 1)) dL_law_814 rfl (show i + 1 < qln g by omega) hl rfl ?_
  refine qi_aload_n (i := 0) (x := 1000000) dL_law_815 rfl rfl ?_
  refine qi_iload_n (i := 3) (x := nI i) dL_law_816 rfl rfl ?_
  refine qi_iconst (v := 2) dL_law_817 rfl ?_
  refine qi_iadd dL_law_818 ?_
  refine qe_top (y := nI (i + 2)) (nI_add _ _) ?_
  refine qi_sldN (j := i + 2) (x := qx g (i + 2)) dL_law_819 rfl (show i + 2 < qln g by omega) hl rfl ?_
  refine qi_aload_n (i := 0) (x := 1000000) dL_law_820 rfl rfl ?_
  refine qi_iload_n (i := 3) (x := nI i) dL_law_821 rfl rfl ?_
  refine qi_iconst (v := 3) dL_law_822 rfl ?_
  refine qi_iadd dL_law_823 ?_
  refine qe_top (y := nI (i + 3)) (nI_add _ _) ?_
  refine qi_sldN (j := i + 3) (x := qx g (i + 3)) dL_law_824 rfl (show i + 3 < qln g by omega) hl rfl ?_
  refine qi_callVI (K' := kX12_without) (As := [.int (qx g (i + 1)), .int (qx g (i + 2)), .int (qx g (i + 3))]) mlL_109 okX12_without dL_law_825 (c_X12_without g hM1 dP okp dC.1 okco.1 (qx g (i + 1)) (qx g (i + 2)) (qx g (i + 3))) rfl (by decide) rfl (by decide) rfl rfl (Nat.le_of_ble_eq_true rfl) ⟨(Nat.le_of_ble_eq_true rfl), (Nat.le_of_ble_eq_true rfl)⟩ ⟨Nat.le_of_ble_eq_true rfl, Nat.le_of_ble_eq_true rfl⟩ (fun r2 M2 ⟨e2, hf2⟩ => ?_)
  have D2 : qDs M2 L (t, pl, π, c, η, τ) := D1.q (hf2.mono (fun b j z => SM_dq z))
  have F2 := hf2.mono (S' := fun b _ => 280 ≤ b) (fun b j z => SDq_ge (SM_dq z))
  have hM2 := hM1.fr hf2
  have C2 := C1.ref F2 (fun b j z => z)
  refine qi_icmp_eq (tgt := 1210) dL_law_828 (by decide) (fun z => ?_) (fun z => False.elim (z (e1.trans e2.symm)))
  exact NEXT M2 (t, pl, π, c, η, τ) ⟨hM2, ⟨p, p2, C2⟩, ⟨L, D2⟩, ⟨⟨okt, okp, okc⟩, okco, okh, okto⟩⟩
set_option maxHeartbeats 2000000 in
theorem op_asked (g : qG) {nm : String} {Z : List Frame → Array Value → State → State → Prop} (hl : qln g < 2 ^ 31) {i : Nat} (hi : i + 6 ≤ qln g) (NEXT : ∀ M σ, qG0 M σ → qT g (kLn nm) room_1 Z 1210 [some (.ref 1000000), some (.ref 0), some (.ref 280), some (.int (nI i))] [] 333 M (333, 23035)) {M : qM} {σ : qSt} (hG : qG0 M σ) : qT g (kLn nm) room_1 Z 833 [some (.ref 1000000), some (.ref 0), some (.ref 280), some (.int (nI i))] [] 333 M (333, 23035) := by
  obtain ⟨t, pl, π, c, η, τ⟩ := σ
  obtain ⟨hM, ⟨p, p2, hC⟩, ⟨L, hD⟩, ⟨okt, okp, okc⟩, okco, okh, okto⟩ := hG
  obtain ⟨⟨hp, hp2, hpp⟩, ⟨⟨hr, hr2⟩, hP, hW, hpl, hwd⟩, hT, ⟨hS, hH⟩, hHd, ⟨hTo, hEx⟩, hRw⟩ := id hC
  refine qi_aload_n (i := 1) (x := 0) dL_law_833 rfl rfl ?_
  refine qi_aload_n (i := 0) (x := 1000000) dL_law_834 rfl rfl ?_
  refine qi_iload_n (i := 3) (x := nI i) dL_law_835 rfl rfl ?_
  refine qi_iconst (v := 1) dL_law_836 rfl ?_
  refine qi_iadd dL_law_837 ?_
  refine qe_top (y := nI (i + 1)) (nI_add _ _) ?_
  refine qi_sldN (j := i + 1) (x := qx g (i + 1)) dL_law_838 rfl (show i + 1 < qln g by omega) hl rfl ?_
  refine qi_aload_n (i := 0) (x := 1000000) dL_law_839 rfl rfl ?_
  refine qi_iload_n (i := 3) (x := nI i) dL_law_840 rfl rfl ?_
  refine qi_iconst (v := 2) dL_law_841 rfl ?_
  refine qi_iadd dL_law_842 ?_
  refine qe_top (y := nI (i + 2)) (nI_add _ _) ?_
  refine qi_sldN (j := i + 2) (x := qx g (i + 2)) dL_law_843 rfl (show i + 2 < qln g by omega) hl rfl ?_
  refine qi_callVI (K' := kX11_asked) (As := [.int (qx g (i + 1)), .int (qx g (i + 2))]) mlL_110 okX11_asked dL_law_844 (c_X11_asked g hM hp hr hP okp (qx g (i + 1)) (qx g (i + 2))) rfl (by decide) rfl (by decide) rfl rfl (Nat.le_of_ble_eq_true rfl) ⟨(Nat.le_of_ble_eq_true rfl), (Nat.le_of_ble_eq_true rfl)⟩ ⟨Nat.le_of_ble_eq_true rfl, Nat.le_of_ble_eq_true rfl⟩ (fun r1 M1 ⟨e1, hf1⟩ => ?_)
  have C1 : qCs M1 p p2 (t, pl, π, c, η, τ) := hC.q (hf1.mono (fun b j z => SAk_q (p := p) z))
  have X1 : qFX M M1 := qFX.of hM (hf1.mono (fun b j z => SAk_q (p := p) z)) (fun b j z => SQx_lt (p := p) hp z)
  have hM1 := X1.1
  have D1 := hD.cls X1
  obtain ⟨⟨dP, dCl, dpl, dky⟩, dT, dC, dH, dTo⟩ := id D1
  refine qi_aload_n (i := 2) (x := 280) dL_law_847 rfl rfl ?_
  refine qi_aload_n (i := 0) (x := 1000000) dL_law_848 rfl rfl ?_
  refine qi_iload_n (i := 3) (x := nI i) dL_law_849 rfl rfl ?_
  refine qi_iconst (v := 1) dL_law_850 rfl ?_
  refine qi_iadd dL_law_851 ?_
  refine qe_top (y := nI (i + 1)) (nI_add _ _) ?_
  refine qi_sldN (j := i + 1) (x := qx g (i + 1)) dL_law_852 rfl (show i + 1 < qln g by omega) hl rfl ?_
  refine qi_aload_n (i := 0) (x := 1000000) dL_law_853 rfl rfl ?_
  refine qi_iload_n (i := 3) (x := nI i) dL_law_854 rfl rfl ?_
  refine qi_iconst (v := 2) dL_law_855 rfl ?_
  refine qi_iadd dL_law_856 ?_
  refine qe_top (y := nI (i + 2)) (nI_add _ _) ?_
  refine qi_sldN (j := i + 2) (x := qx g (i + 2)) dL_law_857 rfl (show i + 2 < qln g by omega) hl rfl ?_
  refine qi_callVI (K' := kX12_asked) (As := [.int (qx g (i + 1)), .int (qx g (i + 2))]) mlL_113 okX12_asked dL_law_858 (c_X12_asked g hM1 dP okp (qx g (i + 1)) (qx g (i + 2))) rfl (by decide) rfl (by decide) rfl rfl (Nat.le_of_ble_eq_true rfl) ⟨(Nat.le_of_ble_eq_true rfl), (Nat.le_of_ble_eq_true rfl)⟩ ⟨Nat.le_of_ble_eq_true rfl, Nat.le_of_ble_eq_true rfl⟩ (fun r2 M2 ⟨e2, hf2⟩ => ?_)
  have D2 : qDs M2 L (t, pl, π, c, η, τ) := D1.q (hf2.mono (fun b j z => SA_dq z))
  have F2 := hf2.mono (S' := fun b _ => 280 ≤ b) (fun b j z => SDq_ge (SA_dq z))
  have hM2 := hM1.fr hf2
  have C2 := C1.ref F2 (fun b j z => z)
  refine qi_icmp_eq (tgt := 1210) dL_law_861 (by decide) (fun z => ?_) (fun z => False.elim (z (e1.trans e2.symm)))
  exact NEXT M2 (t, pl, π, c, η, τ) ⟨hM2, ⟨p, p2, C2⟩, ⟨L, D2⟩, ⟨⟨okt, okp, okc⟩, okco, okh, okto⟩⟩
set_option maxHeartbeats 2000000 in
theorem op_gives (g : qG) {nm : String} {Z : List Frame → Array Value → State → State → Prop} (hl : qln g < 2 ^ 31) {i : Nat} (hi : i + 6 ≤ qln g) (NEXT : ∀ M σ, qG0 M σ → qT g (kLn nm) room_1 Z 1210 [some (.ref 1000000), some (.ref 0), some (.ref 280), some (.int (nI i))] [] 333 M (333, 23035)) {M : qM} {σ : qSt} (hG : qG0 M σ) : qT g (kLn nm) room_1 Z 866 [some (.ref 1000000), some (.ref 0), some (.ref 280), some (.int (nI i))] [] 333 M (333, 23035) := by
  obtain ⟨t, pl, π, c, η, τ⟩ := σ
  obtain ⟨hM, ⟨p, p2, hC⟩, ⟨L, hD⟩, ⟨okt, okp, okc⟩, okco, okh, okto⟩ := hG
  obtain ⟨⟨hp, hp2, hpp⟩, ⟨⟨hr, hr2⟩, hP, hW, hpl, hwd⟩, hT, ⟨hS, hH⟩, hHd, ⟨hTo, hEx⟩, hRw⟩ := id hC
  refine qi_aload_n (i := 1) (x := 0) dL_law_866 rfl rfl ?_
  refine qi_aload_n (i := 0) (x := 1000000) dL_law_867 rfl rfl ?_
  refine qi_iload_n (i := 3) (x := nI i) dL_law_868 rfl rfl ?_
  refine qi_iconst (v := 1) dL_law_869 rfl ?_
  refine qi_iadd dL_law_870 ?_
  refine qe_top (y := nI (i + 1)) (nI_add _ _) ?_
  refine qi_sldN (j := i + 1) (x := qx g (i + 1)) dL_law_871 rfl (show i + 1 < qln g by omega) hl rfl ?_
  refine qi_aload_n (i := 0) (x := 1000000) dL_law_872 rfl rfl ?_
  refine qi_iload_n (i := 3) (x := nI i) dL_law_873 rfl rfl ?_
  refine qi_iconst (v := 2) dL_law_874 rfl ?_
  refine qi_iadd dL_law_875 ?_
  refine qe_top (y := nI (i + 2)) (nI_add _ _) ?_
  refine qi_sldN (j := i + 2) (x := qx g (i + 2)) dL_law_876 rfl (show i + 2 < qln g by omega) hl rfl ?_
  refine qi_callVI (K' := kX11_gives) (As := [.int (qx g (i + 1)), .int (qx g (i + 2))]) mlL_114 okX11_gives dL_law_877 (c_X11_gives g hM hp hr hP okp (qx g (i + 1)) (qx g (i + 2))) rfl (by decide) rfl (by decide) rfl rfl (Nat.le_of_ble_eq_true rfl) ⟨(Nat.le_of_ble_eq_true rfl), (Nat.le_of_ble_eq_true rfl)⟩ ⟨Nat.le_of_ble_eq_true rfl, Nat.le_of_ble_eq_true rfl⟩ (fun r1 M1 ⟨e1, hf1⟩ => ?_)
  have C1 : qCs M1 p p2 (t, pl, π, c, η, τ) := hC.q (hf1.mono (fun b j z => SAk_q (p := p) z))
  have X1 : qFX M M1 := qFX.of hM (hf1.mono (fun b j z => SAk_q (p := p) z)) (fun b j z => SQx_lt (p := p) hp z)
  have hM1 := X1.1
  have D1 := hD.cls X1
  obtain ⟨⟨dP, dCl, dpl, dky⟩, dT, dC, dH, dTo⟩ := id D1
  refine qi_aload_n (i := 2) (x := 280) dL_law_880 rfl rfl ?_
  refine qi_aload_n (i := 0) (x := 1000000) dL_law_881 rfl rfl ?_
  refine qi_iload_n (i := 3) (x := nI i) dL_law_882 rfl rfl ?_
  refine qi_iconst (v := 1) dL_law_883 rfl ?_
  refine qi_iadd dL_law_884 ?_
  refine qe_top (y := nI (i + 1)) (nI_add _ _) ?_
  refine qi_sldN (j := i + 1) (x := qx g (i + 1)) dL_law_885 rfl (show i + 1 < qln g by omega) hl rfl ?_
  refine qi_aload_n (i := 0) (x := 1000000) dL_law_886 rfl rfl ?_
  refine qi_iload_n (i := 3) (x := nI i) dL_law_887 rfl rfl ?_
  refine qi_iconst (v := 2) dL_law_888 rfl ?_
  refine qi_iadd dL_law_889 ?_
  refine qe_top (y := nI (i + 2)) (nI_add _ _) ?_
  refine qi_sldN (j := i + 2) (x := qx g (i + 2)) dL_law_890 rfl (show i + 2 < qln g by omega) hl rfl ?_
  refine qi_callVI (K' := kX12_gives) (As := [.int (qx g (i + 1)), .int (qx g (i + 2))]) mlL_117 okX12_gives dL_law_891 (c_X12_gives g hM1 dP okp (qx g (i + 1)) (qx g (i + 2))) rfl (by decide) rfl (by decide) rfl rfl (Nat.le_of_ble_eq_true rfl) ⟨(Nat.le_of_ble_eq_true rfl), (Nat.le_of_ble_eq_true rfl)⟩ ⟨Nat.le_of_ble_eq_true rfl, Nat.le_of_ble_eq_true rfl⟩ (fun r2 M2 ⟨e2, hf2⟩ => ?_)
  have D2 : qDs M2 L (t, pl, π, c, η, τ) := D1.q (hf2.mono (fun b j z => SA_dq z))
  have F2 := hf2.mono (S' := fun b _ => 280 ≤ b) (fun b j z => SDq_ge (SA_dq z))
  have hM2 := hM1.fr hf2
  have C2 := C1.ref F2 (fun b j z => z)
  refine qi_icmp_eq (tgt := 1210) dL_law_894 (by decide) (fun z => ?_) (fun z => False.elim (z (e1.trans e2.symm)))
  exact NEXT M2 (t, pl, π, c, η, τ) ⟨hM2, ⟨p, p2, C2⟩, ⟨L, D2⟩, ⟨⟨okt, okp, okc⟩, okco, okh, okto⟩⟩
set_option maxHeartbeats 2000000 in
theorem op_thimble (g : qG) {nm : String} {Z : List Frame → Array Value → State → State → Prop} (hl : qln g < 2 ^ 31) {i : Nat} (hi : i + 6 ≤ qln g) (NEXT : ∀ M σ, qG0 M σ → qT g (kLn nm) room_1 Z 1210 [some (.ref 1000000), some (.ref 0), some (.ref 280), some (.int (nI i))] [] 333 M (333, 23035)) {M : qM} {σ : qSt} (hG : qG0 M σ) : qT g (kLn nm) room_1 Z 899 [some (.ref 1000000), some (.ref 0), some (.ref 280), some (.int (nI i))] [] 333 M (333, 23035) := by
  obtain ⟨t, pl, π, c, η, τ⟩ := σ
  obtain ⟨hM, ⟨p, p2, hC⟩, ⟨L, hD⟩, ⟨okt, okp, okc⟩, okco, okh, okto⟩ := hG
  obtain ⟨⟨hp, hp2, hpp⟩, ⟨⟨hr, hr2⟩, hP, hW, hpl, hwd⟩, hT, ⟨hS, hH⟩, hHd, ⟨hTo, hEx⟩, hRw⟩ := id hC
  refine qi_aload_n (i := 1) (x := 0) dL_law_899 rfl rfl ?_
  refine qi_aload_n (i := 0) (x := 1000000) dL_law_900 rfl rfl ?_
  refine qi_iload_n (i := 3) (x := nI i) dL_law_901 rfl rfl ?_
  refine qi_iconst (v := 1) dL_law_902 rfl ?_
  refine qi_iadd dL_law_903 ?_
  refine qe_top (y := nI (i + 1)) (nI_add _ _) ?_
  refine qi_sldN (j := i + 1) (x := qx g (i + 1)) dL_law_904 rfl (show i + 1 < qln g by omega) hl rfl ?_
  refine qi_aload_n (i := 0) (x := 1000000) dL_law_905 rfl rfl ?_
  refine qi_iload_n (i := 3) (x := nI i) dL_law_906 rfl rfl ?_
  refine qi_iconst (v := 2) dL_law_907 rfl ?_
  refine qi_iadd dL_law_908 ?_
  refine qe_top (y := nI (i + 2)) (nI_add _ _) ?_
  refine qi_sldN (j := i + 2) (x := qx g (i + 2)) dL_law_909 rfl (show i + 2 < qln g by omega) hl rfl ?_
  refine qi_aload_n (i := 0) (x := 1000000) dL_law_910 rfl rfl ?_
  refine qi_iload_n (i := 3) (x := nI i) dL_law_911 rfl rfl ?_
  refine qi_iconst (v := 3) dL_law_912 rfl ?_
  refine qi_iadd dL_law_913 ?_
  refine qe_top (y := nI (i + 3)) (nI_add _ _) ?_
  refine qi_sldN (j := i + 3) (x := qx g (i + 3)) dL_law_914 rfl (show i + 3 < qln g by omega) hl rfl ?_
  refine qi_callVJ (K' := kX11_thimble) (As := [.int (qx g (i + 1)), .int (qx g (i + 2)), .int (qx g (i + 3))]) mlL_118 okX11_thimble dL_law_915 (c_X11_thimble g hM hp hr hP okp hRw (qx g (i + 1)) (qx g (i + 2)) (qx g (i + 3))) rfl (by decide) rfl (by decide) rfl rfl (Nat.le_of_ble_eq_true rfl) ⟨(Nat.le_of_ble_eq_true rfl), (Nat.le_of_ble_eq_true rfl)⟩ ⟨Nat.le_of_ble_eq_true rfl, Nat.le_of_ble_eq_true rfl⟩ (fun r1 M1 ⟨e1, hR1, hf1⟩ => ?_)
  have C1 : qCs M1 p p2 (t, pl, π, c, η, τ) := hC.rx hf1 hR1
  have X1 : qFX M M1 := qFX.of hM hf1 (fun b j z => by unfold SRx at z; omega)
  have hM1 := X1.1
  have D1 := hD.cls X1
  obtain ⟨⟨dP, dCl, dpl, dky⟩, dT, dC, dH, dTo⟩ := id D1
  refine qi_aload_n (i := 2) (x := 280) dL_law_918 rfl rfl ?_
  refine qi_aload_n (i := 0) (x := 1000000) dL_law_919 rfl rfl ?_
  refine qi_iload_n (i := 3) (x := nI i) dL_law_920 rfl rfl ?_
  refine qi_iconst (v := 1) dL_law_921 rfl ?_
  refine qi_iadd dL_law_922 ?_
  refine qe_top (y := nI (i + 1)) (nI_add _ _) ?_
  refine qi_sldN (j := i + 1) (x := qx g (i + 1)) dL_law_923 rfl (show i + 1 < qln g by omega) hl rfl ?_
  refine qi_aload_n (i := 0) (x := 1000000) dL_law_924 rfl rfl ?_
  refine qi_iload_n (i := 3) (x := nI i) dL_law_925 rfl rfl ?_
  refine qi_iconst (v := 2) dL_law_926 rfl ?_
  refine qi_iadd dL_law_927 ?_
  refine qe_top (y := nI (i + 2)) (nI_add _ _) ?_
  refine qi_sldN (j := i + 2) (x := qx g (i + 2)) dL_law_928 rfl (show i + 2 < qln g by omega) hl rfl ?_
  refine qi_aload_n (i := 0) (x := 1000000) dL_law_929 rfl rfl ?_
  refine qi_iload_n (i := 3) (x := nI i) dL_law_930 rfl rfl ?_
  refine qi_iconst (v := 3) dL_law_931 rfl ?_
  refine qi_iadd dL_law_932 ?_
  refine qe_top (y := nI (i + 3)) (nI_add _ _) ?_
  refine qi_sldN (j := i + 3) (x := qx g (i + 3)) dL_law_933 rfl (show i + 3 < qln g by omega) hl rfl ?_
  refine qi_callVJ (K' := kX12_thimble) (As := [.int (qx g (i + 1)), .int (qx g (i + 2)), .int (qx g (i + 3))]) mlL_122 okX12_thimble dL_law_934 (c_X12_thimble g hM1 dP okp (qx g (i + 1)) (qx g (i + 2)) (qx g (i + 3))) rfl (by decide) rfl (by decide) rfl rfl (Nat.le_of_ble_eq_true rfl) ⟨(Nat.le_of_ble_eq_true rfl), (Nat.le_of_ble_eq_true rfl)⟩ ⟨Nat.le_of_ble_eq_true rfl, Nat.le_of_ble_eq_true rfl⟩ (fun r2 M2 ⟨e2, hf2⟩ => ?_)
  have D2 : qDs M2 L (t, pl, π, c, η, τ) := D1.q (hf2.mono (fun b j z => SRw_dq z))
  have F2 := hf2.mono (S' := fun b _ => 280 ≤ b) (fun b j z => SDq_ge (SRw_dq z))
  have hM2 := hM1.fr hf2
  have C2 := C1.ref F2 (fun b j z => z)
  refine qi_lcmp dL_law_937 ?_
  refine qi_if_eq (tgt := 1210) dL_law_938 (by decide) (fun z => ?_) (fun z => False.elim (z ((lg_cmp_eq _ _).mpr (e1.trans e2.symm))))
  exact NEXT M2 (t, pl, π, c, η, τ) ⟨hM2, ⟨p, p2, C2⟩, ⟨L, D2⟩, ⟨⟨okt, okp, okc⟩, okco, okh, okto⟩⟩
set_option maxHeartbeats 2000000 in
theorem op_surely (g : qG) {nm : String} {Z : List Frame → Array Value → State → State → Prop} (hl : qln g < 2 ^ 31) {i : Nat} (hi : i + 6 ≤ qln g) (NEXT : ∀ M σ, qG0 M σ → qT g (kLn nm) room_1 Z 1210 [some (.ref 1000000), some (.ref 0), some (.ref 280), some (.int (nI i))] [] 333 M (333, 23035)) {M : qM} {σ : qSt} (hG : qG0 M σ) : qT g (kLn nm) room_1 Z 943 [some (.ref 1000000), some (.ref 0), some (.ref 280), some (.int (nI i))] [] 333 M (333, 23035) := by
  obtain ⟨t, pl, π, c, η, τ⟩ := σ
  obtain ⟨hM, ⟨p, p2, hC⟩, ⟨L, hD⟩, ⟨okt, okp, okc⟩, okco, okh, okto⟩ := hG
  obtain ⟨⟨hp, hp2, hpp⟩, ⟨⟨hr, hr2⟩, hP, hW, hpl, hwd⟩, hT, ⟨hS, hH⟩, hHd, ⟨hTo, hEx⟩, hRw⟩ := id hC
  refine qi_aload_n (i := 1) (x := 0) dL_law_943 rfl rfl ?_
  refine qi_aload_n (i := 0) (x := 1000000) dL_law_944 rfl rfl ?_
  refine qi_iload_n (i := 3) (x := nI i) dL_law_945 rfl rfl ?_
  refine qi_iconst (v := 1) dL_law_946 rfl ?_
  refine qi_iadd dL_law_947 ?_
  refine qe_top (y := nI (i + 1)) (nI_add _ _) ?_
  refine qi_sldN (j := i + 1) (x := qx g (i + 1)) dL_law_948 rfl (show i + 1 < qln g by omega) hl rfl ?_
  refine qi_aload_n (i := 0) (x := 1000000) dL_law_949 rfl rfl ?_
  refine qi_iload_n (i := 3) (x := nI i) dL_law_950 rfl rfl ?_
  refine qi_iconst (v := 2) dL_law_951 rfl ?_
  refine qi_iadd dL_law_952 ?_
  refine qe_top (y := nI (i + 2)) (nI_add _ _) ?_
  refine qi_sldN (j := i + 2) (x := qx g (i + 2)) dL_law_953 rfl (show i + 2 < qln g by omega) hl rfl ?_
  refine qi_aload_n (i := 0) (x := 1000000) dL_law_954 rfl rfl ?_
  refine qi_iload_n (i := 3) (x := nI i) dL_law_955 rfl rfl ?_
  refine qi_iconst (v := 3) dL_law_956 rfl ?_
  refine qi_iadd dL_law_957 ?_
  refine qe_top (y := nI (i + 3)) (nI_add _ _) ?_
  refine qi_sldN (j := i + 3) (x := qx g (i + 3)) dL_law_958 rfl (show i + 3 < qln g by omega) hl rfl ?_
  refine qi_callVI (K' := kX11_surely) (As := [.int (qx g (i + 1)), .int (qx g (i + 2)), .int (qx g (i + 3))]) mlL_123 okX11_surely dL_law_959 (c_X11_surely g hM hp hr hP okp hRw (qx g (i + 1)) (qx g (i + 2)) (qx g (i + 3))) rfl (by decide) rfl (by decide) rfl rfl (Nat.le_of_ble_eq_true rfl) ⟨(Nat.le_of_ble_eq_true rfl), (Nat.le_of_ble_eq_true rfl)⟩ ⟨Nat.le_of_ble_eq_true rfl, Nat.le_of_ble_eq_true rfl⟩ (fun r1 M1 ⟨e1, hR1, hf1⟩ => ?_)
  have C1 : qCs M1 p p2 (t, pl, π, c, η, τ) := hC.rx hf1 hR1
  have X1 : qFX M M1 := qFX.of hM hf1 (fun b j z => by unfold SRx at z; omega)
  have hM1 := X1.1
  have D1 := hD.cls X1
  obtain ⟨⟨dP, dCl, dpl, dky⟩, dT, dC, dH, dTo⟩ := id D1
  refine qi_aload_n (i := 2) (x := 280) dL_law_962 rfl rfl ?_
  refine qi_aload_n (i := 0) (x := 1000000) dL_law_963 rfl rfl ?_
  refine qi_iload_n (i := 3) (x := nI i) dL_law_964 rfl rfl ?_
  refine qi_iconst (v := 1) dL_law_965 rfl ?_
  refine qi_iadd dL_law_966 ?_
  refine qe_top (y := nI (i + 1)) (nI_add _ _) ?_
  refine qi_sldN (j := i + 1) (x := qx g (i + 1)) dL_law_967 rfl (show i + 1 < qln g by omega) hl rfl ?_
  refine qi_aload_n (i := 0) (x := 1000000) dL_law_968 rfl rfl ?_
  refine qi_iload_n (i := 3) (x := nI i) dL_law_969 rfl rfl ?_
  refine qi_iconst (v := 2) dL_law_970 rfl ?_
  refine qi_iadd dL_law_971 ?_
  refine qe_top (y := nI (i + 2)) (nI_add _ _) ?_
  refine qi_sldN (j := i + 2) (x := qx g (i + 2)) dL_law_972 rfl (show i + 2 < qln g by omega) hl rfl ?_
  refine qi_aload_n (i := 0) (x := 1000000) dL_law_973 rfl rfl ?_
  refine qi_iload_n (i := 3) (x := nI i) dL_law_974 rfl rfl ?_
  refine qi_iconst (v := 3) dL_law_975 rfl ?_
  refine qi_iadd dL_law_976 ?_
  refine qe_top (y := nI (i + 3)) (nI_add _ _) ?_
  refine qi_sldN (j := i + 3) (x := qx g (i + 3)) dL_law_977 rfl (show i + 3 < qln g by omega) hl rfl ?_
  refine qi_callVI (K' := kX12_surely) (As := [.int (qx g (i + 1)), .int (qx g (i + 2)), .int (qx g (i + 3))]) mlL_126 okX12_surely dL_law_978 (c_X12_surely g hM1 dP okp (qx g (i + 1)) (qx g (i + 2)) (qx g (i + 3))) rfl (by decide) rfl (by decide) rfl rfl (Nat.le_of_ble_eq_true rfl) ⟨(Nat.le_of_ble_eq_true rfl), (Nat.le_of_ble_eq_true rfl)⟩ ⟨Nat.le_of_ble_eq_true rfl, Nat.le_of_ble_eq_true rfl⟩ (fun r2 M2 ⟨e2, hf2⟩ => ?_)
  have D2 : qDs M2 L (t, pl, π, c, η, τ) := D1.q (hf2.mono (fun b j z => SRw_dq z))
  have F2 := hf2.mono (S' := fun b _ => 280 ≤ b) (fun b j z => SDq_ge (SRw_dq z))
  have hM2 := hM1.fr hf2
  have C2 := C1.ref F2 (fun b j z => z)
  refine qi_icmp_eq (tgt := 1210) dL_law_981 (by decide) (fun z => ?_) (fun z => False.elim (z (e1.trans e2.symm)))
  exact NEXT M2 (t, pl, π, c, η, τ) ⟨hM2, ⟨p, p2, C2⟩, ⟨L, D2⟩, ⟨⟨okt, okp, okc⟩, okco, okh, okto⟩⟩
set_option maxHeartbeats 2000000 in
theorem op_firstRow (g : qG) {nm : String} {Z : List Frame → Array Value → State → State → Prop} (hl : qln g < 2 ^ 31) {i : Nat} (hi : i + 6 ≤ qln g) (NEXT : ∀ M σ, qG0 M σ → qT g (kLn nm) room_1 Z 1210 [some (.ref 1000000), some (.ref 0), some (.ref 280), some (.int (nI i))] [] 333 M (333, 23035)) {M : qM} {σ : qSt} (hG : qG0 M σ) : qT g (kLn nm) room_1 Z 986 [some (.ref 1000000), some (.ref 0), some (.ref 280), some (.int (nI i))] [] 333 M (333, 23035) := by
  obtain ⟨t, pl, π, c, η, τ⟩ := σ
  obtain ⟨hM, ⟨p, p2, hC⟩, ⟨L, hD⟩, ⟨okt, okp, okc⟩, okco, okh, okto⟩ := hG
  obtain ⟨⟨hp, hp2, hpp⟩, ⟨⟨hr, hr2⟩, hP, hW, hpl, hwd⟩, hT, ⟨hS, hH⟩, hHd, ⟨hTo, hEx⟩, hRw⟩ := id hC
  refine qi_aload_n (i := 1) (x := 0) dL_law_986 rfl rfl ?_
  refine qi_aload_n (i := 0) (x := 1000000) dL_law_987 rfl rfl ?_
  refine qi_iload_n (i := 3) (x := nI i) dL_law_988 rfl rfl ?_
  refine qi_iconst (v := 1) dL_law_989 rfl ?_
  refine qi_iadd dL_law_990 ?_
  refine qe_top (y := nI (i + 1)) (nI_add _ _) ?_
  refine qi_sldN (j := i + 1) (x := qx g (i + 1)) dL_law_991 rfl (show i + 1 < qln g by omega) hl rfl ?_
  refine qi_aload_n (i := 0) (x := 1000000) dL_law_992 rfl rfl ?_
  refine qi_iload_n (i := 3) (x := nI i) dL_law_993 rfl rfl ?_
  refine qi_iconst (v := 2) dL_law_994 rfl ?_
  refine qi_iadd dL_law_995 ?_
  refine qe_top (y := nI (i + 2)) (nI_add _ _) ?_
  refine qi_sldN (j := i + 2) (x := qx g (i + 2)) dL_law_996 rfl (show i + 2 < qln g by omega) hl rfl ?_
  refine qi_aload_n (i := 0) (x := 1000000) dL_law_997 rfl rfl ?_
  refine qi_iload_n (i := 3) (x := nI i) dL_law_998 rfl rfl ?_
  refine qi_iconst (v := 3) dL_law_999 rfl ?_
  refine qi_iadd dL_law_1000 ?_
  refine qe_top (y := nI (i + 3)) (nI_add _ _) ?_
  refine qi_sldN (j := i + 3) (x := qx g (i + 3)) dL_law_1001 rfl (show i + 3 < qln g by omega) hl rfl ?_
  refine qi_aload_n (i := 0) (x := 1000000) dL_law_1002 rfl rfl ?_
  refine qi_iload_n (i := 3) (x := nI i) dL_law_1003 rfl rfl ?_
  refine qi_iconst (v := 4) dL_law_1004 rfl ?_
  refine qi_iadd dL_law_1005 ?_
  refine qe_top (y := nI (i + 4)) (nI_add _ _) ?_
  refine qi_sldN (j := i + 4) (x := qx g (i + 4)) dL_law_1006 rfl (show i + 4 < qln g by omega) hl rfl ?_
  refine qi_callVI (K' := kX11_firstRow) (As := [.int (qx g (i + 1)), .int (qx g (i + 2)), .int (qx g (i + 3)), .int (qx g (i + 4))]) mlL_127 okX11_firstRow dL_law_1007 (c_X11_firstRow g hM hp hr hP okp hRw (qx g (i + 1)) (qx g (i + 2)) (qx g (i + 3)) (qx g (i + 4))) rfl (by decide) rfl (by decide) rfl rfl (Nat.le_of_ble_eq_true rfl) ⟨(Nat.le_of_ble_eq_true rfl), (Nat.le_of_ble_eq_true rfl)⟩ ⟨Nat.le_of_ble_eq_true rfl, Nat.le_of_ble_eq_true rfl⟩ (fun r1 M1 ⟨e1, hR1, hf1⟩ => ?_)
  have C1 : qCs M1 p p2 (t, pl, π, c, η, τ) := hC.rx hf1 hR1
  have X1 : qFX M M1 := qFX.of hM hf1 (fun b j z => by unfold SRx at z; omega)
  have hM1 := X1.1
  have D1 := hD.cls X1
  obtain ⟨⟨dP, dCl, dpl, dky⟩, dT, dC, dH, dTo⟩ := id D1
  refine qi_aload_n (i := 2) (x := 280) dL_law_1010 rfl rfl ?_
  refine qi_aload_n (i := 0) (x := 1000000) dL_law_1011 rfl rfl ?_
  refine qi_iload_n (i := 3) (x := nI i) dL_law_1012 rfl rfl ?_
  refine qi_iconst (v := 1) dL_law_1013 rfl ?_
  refine qi_iadd dL_law_1014 ?_
  refine qe_top (y := nI (i + 1)) (nI_add _ _) ?_
  refine qi_sldN (j := i + 1) (x := qx g (i + 1)) dL_law_1015 rfl (show i + 1 < qln g by omega) hl rfl ?_
  refine qi_aload_n (i := 0) (x := 1000000) dL_law_1016 rfl rfl ?_
  refine qi_iload_n (i := 3) (x := nI i) dL_law_1017 rfl rfl ?_
  refine qi_iconst (v := 2) dL_law_1018 rfl ?_
  refine qi_iadd dL_law_1019 ?_
  refine qe_top (y := nI (i + 2)) (nI_add _ _) ?_
  refine qi_sldN (j := i + 2) (x := qx g (i + 2)) dL_law_1020 rfl (show i + 2 < qln g by omega) hl rfl ?_
  refine qi_aload_n (i := 0) (x := 1000000) dL_law_1021 rfl rfl ?_
  refine qi_iload_n (i := 3) (x := nI i) dL_law_1022 rfl rfl ?_
  refine qi_iconst (v := 3) dL_law_1023 rfl ?_
  refine qi_iadd dL_law_1024 ?_
  refine qe_top (y := nI (i + 3)) (nI_add _ _) ?_
  refine qi_sldN (j := i + 3) (x := qx g (i + 3)) dL_law_1025 rfl (show i + 3 < qln g by omega) hl rfl ?_
  refine qi_aload_n (i := 0) (x := 1000000) dL_law_1026 rfl rfl ?_
  refine qi_iload_n (i := 3) (x := nI i) dL_law_1027 rfl rfl ?_
  refine qi_iconst (v := 4) dL_law_1028 rfl ?_
  refine qi_iadd dL_law_1029 ?_
  refine qe_top (y := nI (i + 4)) (nI_add _ _) ?_
  refine qi_sldN (j := i + 4) (x := qx g (i + 4)) dL_law_1030 rfl (show i + 4 < qln g by omega) hl rfl ?_
  refine qi_callVI (K' := kX12_firstRow) (As := [.int (qx g (i + 1)), .int (qx g (i + 2)), .int (qx g (i + 3)), .int (qx g (i + 4))]) mlL_130 okX12_firstRow dL_law_1031 (c_X12_firstRow g hM1 dP okp (qx g (i + 1)) (qx g (i + 2)) (qx g (i + 3)) (qx g (i + 4))) rfl (by decide) rfl (by decide) rfl rfl (Nat.le_of_ble_eq_true rfl) ⟨(Nat.le_of_ble_eq_true rfl), (Nat.le_of_ble_eq_true rfl)⟩ ⟨Nat.le_of_ble_eq_true rfl, Nat.le_of_ble_eq_true rfl⟩ (fun r2 M2 ⟨e2, hf2⟩ => ?_)
  have D2 : qDs M2 L (t, pl, π, c, η, τ) := D1.q (hf2.mono (fun b j z => SRw_dq z))
  have F2 := hf2.mono (S' := fun b _ => 280 ≤ b) (fun b j z => SDq_ge (SRw_dq z))
  have hM2 := hM1.fr hf2
  have C2 := C1.ref F2 (fun b j z => z)
  refine qi_icmp_eq (tgt := 1210) dL_law_1034 (by decide) (fun z => ?_) (fun z => False.elim (z (e1.trans e2.symm)))
  exact NEXT M2 (t, pl, π, c, η, τ) ⟨hM2, ⟨p, p2, C2⟩, ⟨L, D2⟩, ⟨⟨okt, okp, okc⟩, okco, okh, okto⟩⟩
set_option maxHeartbeats 2000000 in
theorem op_tell (g : qG) {nm : String} {Z : List Frame → Array Value → State → State → Prop} (hl : qln g < 2 ^ 31) {i : Nat} (hi : i + 6 ≤ qln g) (NEXT : ∀ M σ, qG0 M σ → qT g (kLn nm) room_1 Z 1210 [some (.ref 1000000), some (.ref 0), some (.ref 280), some (.int (nI i))] [] 333 M (333, 23035)) {M : qM} {σ : qSt} (hG : qG0 M σ) : qT g (kLn nm) room_1 Z 1039 [some (.ref 1000000), some (.ref 0), some (.ref 280), some (.int (nI i))] [] 333 M (333, 23035) := by
  obtain ⟨t, pl, π, c, η, τ⟩ := σ
  obtain ⟨hM, ⟨p, p2, hC⟩, ⟨L, hD⟩, ⟨okt, okp, okc⟩, okco, okh, okto⟩ := hG
  obtain ⟨⟨hp, hp2, hpp⟩, ⟨⟨hr, hr2⟩, hP, hW, hpl, hwd⟩, hT, ⟨hS, hH⟩, hHd, ⟨hTo, hEx⟩, hRw⟩ := id hC
  refine qi_aload_n (i := 1) (x := 0) dL_law_1039 rfl rfl ?_
  refine qi_aload_n (i := 0) (x := 1000000) dL_law_1040 rfl rfl ?_
  refine qi_iload_n (i := 3) (x := nI i) dL_law_1041 rfl rfl ?_
  refine qi_iconst (v := 1) dL_law_1042 rfl ?_
  refine qi_iadd dL_law_1043 ?_
  refine qe_top (y := nI (i + 1)) (nI_add _ _) ?_
  refine qi_sldN (j := i + 1) (x := qx g (i + 1)) dL_law_1044 rfl (show i + 1 < qln g by omega) hl rfl ?_
  refine qi_aload_n (i := 0) (x := 1000000) dL_law_1045 rfl rfl ?_
  refine qi_iload_n (i := 3) (x := nI i) dL_law_1046 rfl rfl ?_
  refine qi_iconst (v := 2) dL_law_1047 rfl ?_
  refine qi_iadd dL_law_1048 ?_
  refine qe_top (y := nI (i + 2)) (nI_add _ _) ?_
  refine qi_sldN (j := i + 2) (x := qx g (i + 2)) dL_law_1049 rfl (show i + 2 < qln g by omega) hl rfl ?_
  refine qi_callVI (K' := kX11_tell) (As := [.int (qx g (i + 1)), .int (qx g (i + 2))]) mlL_131 okX11_tell dL_law_1050 (c_X11_tell g hM (π := π) hTo okto hEx (qx g (i + 1)) (qx g (i + 2))) rfl (by decide) rfl (by decide) rfl rfl (Nat.le_of_ble_eq_true rfl) ⟨(Nat.le_of_ble_eq_true rfl), (Nat.le_of_ble_eq_true rfl)⟩ ⟨Nat.le_of_ble_eq_true rfl, Nat.le_of_ble_eq_true rfl⟩ (fun r1 M1 ⟨e1, hT1, hE1, hf1⟩ => ?_)
  have C1 : qCs M1 p p2 (t, pl, π, c, η, (dTell (qx g (i + 1)) (qx g (i + 2)) τ).2) := hC.told hf1 ⟨hT1, hE1⟩
  have X1 : qFX M M1 := qFX.of hM hf1 (fun b j z => by unfold STd at z; omega)
  have hM1 := X1.1
  have D1 := hD.cls X1
  obtain ⟨⟨dP, dCl, dpl, dky⟩, dT, dC, dH, dTo⟩ := id D1
  refine qi_aload_n (i := 2) (x := 280) dL_law_1053 rfl rfl ?_
  refine qi_aload_n (i := 0) (x := 1000000) dL_law_1054 rfl rfl ?_
  refine qi_iload_n (i := 3) (x := nI i) dL_law_1055 rfl rfl ?_
  refine qi_iconst (v := 1) dL_law_1056 rfl ?_
  refine qi_iadd dL_law_1057 ?_
  refine qe_top (y := nI (i + 1)) (nI_add _ _) ?_
  refine qi_sldN (j := i + 1) (x := qx g (i + 1)) dL_law_1058 rfl (show i + 1 < qln g by omega) hl rfl ?_
  refine qi_aload_n (i := 0) (x := 1000000) dL_law_1059 rfl rfl ?_
  refine qi_iload_n (i := 3) (x := nI i) dL_law_1060 rfl rfl ?_
  refine qi_iconst (v := 2) dL_law_1061 rfl ?_
  refine qi_iadd dL_law_1062 ?_
  refine qe_top (y := nI (i + 2)) (nI_add _ _) ?_
  refine qi_sldN (j := i + 2) (x := qx g (i + 2)) dL_law_1063 rfl (show i + 2 < qln g by omega) hl rfl ?_
  refine qi_callVI (K' := kX12_tell_) (As := [.int (qx g (i + 1)), .int (qx g (i + 2))]) mlL_134 okX12_tell_ dL_law_1064 (c_X12_tell_ g hM1 dTo okto (qx g (i + 1)) (qx g (i + 2))) rfl (by decide) rfl (by decide) rfl rfl (Nat.le_of_ble_eq_true rfl) ⟨(Nat.le_of_ble_eq_true rfl), (Nat.le_of_ble_eq_true rfl)⟩ ⟨Nat.le_of_ble_eq_true rfl, Nat.le_of_ble_eq_true rfl⟩ (fun r2 M2 ⟨e2, dT2, hf2⟩ => ?_)
  have D2 : qDs M2 L (t, pl, π, c, η, (dTell (qx g (i + 1)) (qx g (i + 2)) τ).2) := D1.told hf2 dT2
  have F2 := hf2.mono (S' := fun b _ => 280 ≤ b) (fun b j z => by unfold STo at z; omega)
  have hM2 := hM1.fr hf2
  have C2 := C1.ref F2 (fun b j z => z)
  refine qi_icmp_eq (tgt := 1210) dL_law_1067 (by decide) (fun z => ?_) (fun z => False.elim (z (e1.trans e2.symm)))
  exact NEXT M2 (t, pl, π, c, η, (dTell (qx g (i + 1)) (qx g (i + 2)) τ).2) ⟨hM2, ⟨p, p2, C2⟩, ⟨L, D2⟩, ⟨⟨okt, okp, okc⟩, okco, okh, okto.tell⟩⟩
set_option maxHeartbeats 2000000 in
theorem op_forget (g : qG) {nm : String} {Z : List Frame → Array Value → State → State → Prop} (hl : qln g < 2 ^ 31) {i : Nat} (hi : i + 6 ≤ qln g) (NEXT : ∀ M σ, qG0 M σ → qT g (kLn nm) room_1 Z 1210 [some (.ref 1000000), some (.ref 0), some (.ref 280), some (.int (nI i))] [] 333 M (333, 23035)) {M : qM} {σ : qSt} (hG : qG0 M σ) : qT g (kLn nm) room_1 Z 1072 [some (.ref 1000000), some (.ref 0), some (.ref 280), some (.int (nI i))] [] 333 M (333, 23035) := by
  obtain ⟨t, pl, π, c, η, τ⟩ := σ
  obtain ⟨hM, ⟨p, p2, hC⟩, ⟨L, hD⟩, ⟨okt, okp, okc⟩, okco, okh, okto⟩ := hG
  obtain ⟨⟨hp, hp2, hpp⟩, ⟨⟨hr, hr2⟩, hP, hW, hpl, hwd⟩, hT, ⟨hS, hH⟩, hHd, ⟨hTo, hEx⟩, hRw⟩ := id hC
  refine qi_aload_n (i := 1) (x := 0) dL_law_1072 rfl rfl ?_
  refine qi_callVI (K' := kX11_forget) (As := []) mlL_135 okX11_forget dL_law_1073 (c_X11_forget g hM (π := π) hTo) rfl (by decide) rfl (by decide) rfl rfl (Nat.le_of_ble_eq_true rfl) ⟨(Nat.le_of_ble_eq_true rfl), (Nat.le_of_ble_eq_true rfl)⟩ ⟨Nat.le_of_ble_eq_true rfl, Nat.le_of_ble_eq_true rfl⟩ (fun r1 M1 ⟨e1, hT1, hE1, hf1⟩ => ?_)
  have C1 : qCs M1 p p2 (t, pl, π, c, η, (0, τ.2)) := hC.told hf1 ⟨hT1, hE1⟩
  have X1 : qFX M M1 := qFX.of hM hf1 (fun b j z => by unfold STd at z; omega)
  have hM1 := X1.1
  have D1 := hD.cls X1
  obtain ⟨⟨dP, dCl, dpl, dky⟩, dT, dC, dH, dTo⟩ := id D1
  refine qi_aload_n (i := 2) (x := 280) dL_law_1076 rfl rfl ?_
  refine qi_callVI (K' := kX12_forget) (As := []) mlL_138 okX12_forget dL_law_1077 (c_X12_forget g hM1 dTo) rfl (by decide) rfl (by decide) rfl rfl (Nat.le_of_ble_eq_true rfl) ⟨(Nat.le_of_ble_eq_true rfl), (Nat.le_of_ble_eq_true rfl)⟩ ⟨Nat.le_of_ble_eq_true rfl, Nat.le_of_ble_eq_true rfl⟩ (fun r2 M2 ⟨e2, dT2, hf2⟩ => ?_)
  have D2 : qDs M2 L (t, pl, π, c, η, (0, τ.2)) := D1.told hf2 dT2
  have F2 := hf2.mono (S' := fun b _ => 280 ≤ b) (fun b j z => by unfold STo at z; omega)
  have hM2 := hM1.fr hf2
  have C2 := C1.ref F2 (fun b j z => z)
  refine qi_icmp_eq (tgt := 1210) dL_law_1080 (by decide) (fun z => ?_) (fun z => False.elim (z (e1.trans e2.symm)))
  exact NEXT M2 (t, pl, π, c, η, (0, τ.2)) ⟨hM2, ⟨p, p2, C2⟩, ⟨L, D2⟩, ⟨⟨okt, okp, okc⟩, okco, okh, ⟨Nat.zero_le _, fun i hi => absurd hi (Nat.not_lt_zero _)⟩⟩⟩
set_option maxHeartbeats 2000000 in
theorem op_forged (g : qG) {nm : String} {Z : List Frame → Array Value → State → State → Prop} (hl : qln g < 2 ^ 31) {i : Nat} (hi : i + 6 ≤ qln g) (NEXT : ∀ M σ, qG0 M σ → qT g (kLn nm) room_1 Z 1210 [some (.ref 1000000), some (.ref 0), some (.ref 280), some (.int (nI i))] [] 333 M (333, 23035)) {M : qM} {σ : qSt} (hG : qG0 M σ) : qT g (kLn nm) room_1 Z 1085 [some (.ref 1000000), some (.ref 0), some (.ref 280), some (.int (nI i))] [] 333 M (333, 23035) := by
  obtain ⟨t, pl, π, c, η, τ⟩ := σ
  obtain ⟨hM, ⟨p, p2, hC⟩, ⟨L, hD⟩, ⟨okt, okp, okc⟩, okco, okh, okto⟩ := hG
  obtain ⟨⟨hp, hp2, hpp⟩, ⟨⟨hr, hr2⟩, hP, hW, hpl, hwd⟩, hT, ⟨hS, hH⟩, hHd, ⟨hTo, hEx⟩, hRw⟩ := id hC
  refine qi_aload_n (i := 1) (x := 0) dL_law_1085 rfl rfl ?_
  refine qi_aload_n (i := 0) (x := 1000000) dL_law_1086 rfl rfl ?_
  refine qi_iload_n (i := 3) (x := nI i) dL_law_1087 rfl rfl ?_
  refine qi_iconst (v := 1) dL_law_1088 rfl ?_
  refine qi_iadd dL_law_1089 ?_
  refine qe_top (y := nI (i + 1)) (nI_add _ _) ?_
  refine qi_sldN (j := i + 1) (x := qx g (i + 1)) dL_law_1090 rfl (show i + 1 < qln g by omega) hl rfl ?_
  refine qi_callVI (K' := kX11_forged) (As := [.int (qx g (i + 1))]) mlL_139 okX11_forged dL_law_1091 (c_X11_forged g hM hp hr hP okp hTo okto (qx g (i + 1))) rfl (by decide) rfl (by decide) rfl rfl (Nat.le_of_ble_eq_true rfl) ⟨(Nat.le_of_ble_eq_true rfl), (Nat.le_of_ble_eq_true rfl)⟩ ⟨Nat.le_of_ble_eq_true rfl, Nat.le_of_ble_eq_true rfl⟩ (fun r1 M1 ⟨e1, hf1⟩ => ?_)
  have C1 : qCs M1 p p2 (t, pl, π, c, η, τ) := hC.q (hf1.mono (fun b j z => z))
  have X1 : qFX M M1 := qFX.of hM (hf1.mono (fun b j z => z)) (fun b j z => SQx_lt (p := p) hp z)
  have hM1 := X1.1
  have D1 := hD.cls X1
  obtain ⟨⟨dP, dCl, dpl, dky⟩, dT, dC, dH, dTo⟩ := id D1
  refine qi_aload_n (i := 2) (x := 280) dL_law_1094 rfl rfl ?_
  refine qi_aload_n (i := 0) (x := 1000000) dL_law_1095 rfl rfl ?_
  refine qi_iload_n (i := 3) (x := nI i) dL_law_1096 rfl rfl ?_
  refine qi_iconst (v := 1) dL_law_1097 rfl ?_
  refine qi_iadd dL_law_1098 ?_
  refine qe_top (y := nI (i + 1)) (nI_add _ _) ?_
  refine qi_sldN (j := i + 1) (x := qx g (i + 1)) dL_law_1099 rfl (show i + 1 < qln g by omega) hl rfl ?_
  refine qi_callVI (K' := kX12_forged) (As := [.int (qx g (i + 1))]) mlL_142 okX12_forged dL_law_1100 (c_X12_forged g hM1 dP okp dTo okto (qx g (i + 1))) rfl (by decide) rfl (by decide) rfl rfl (Nat.le_of_ble_eq_true rfl) ⟨(Nat.le_of_ble_eq_true rfl), (Nat.le_of_ble_eq_true rfl)⟩ ⟨Nat.le_of_ble_eq_true rfl, Nat.le_of_ble_eq_true rfl⟩ (fun r2 M2 ⟨e2, hf2⟩ => ?_)
  have D2 : qDs M2 L (t, pl, π, c, η, τ) := D1.q (hf2.mono (fun b j z => SM_dq z))
  have F2 := hf2.mono (S' := fun b _ => 280 ≤ b) (fun b j z => SDq_ge (SM_dq z))
  have hM2 := hM1.fr hf2
  have C2 := C1.ref F2 (fun b j z => z)
  refine qi_icmp_eq (tgt := 1210) dL_law_1103 (by decide) (fun z => ?_) (fun z => False.elim (z (e1.trans e2.symm)))
  exact NEXT M2 (t, pl, π, c, η, τ) ⟨hM2, ⟨p, p2, C2⟩, ⟨L, D2⟩, ⟨⟨okt, okp, okc⟩, okco, okh, okto⟩⟩
set_option maxHeartbeats 2000000 in
theorem op_explains (g : qG) {nm : String} {Z : List Frame → Array Value → State → State → Prop} (hl : qln g < 2 ^ 31) {i : Nat} (hi : i + 6 ≤ qln g) (NEXT : ∀ M σ, qG0 M σ → qT g (kLn nm) room_1 Z 1210 [some (.ref 1000000), some (.ref 0), some (.ref 280), some (.int (nI i))] [] 333 M (333, 23035)) {M : qM} {σ : qSt} (hG : qG0 M σ) : qT g (kLn nm) room_1 Z 1108 [some (.ref 1000000), some (.ref 0), some (.ref 280), some (.int (nI i))] [] 333 M (333, 23035) := by
  obtain ⟨t, pl, π, c, η, τ⟩ := σ
  obtain ⟨hM, ⟨p, p2, hC⟩, ⟨L, hD⟩, ⟨okt, okp, okc⟩, okco, okh, okto⟩ := hG
  obtain ⟨⟨hp, hp2, hpp⟩, ⟨⟨hr, hr2⟩, hP, hW, hpl, hwd⟩, hT, ⟨hS, hH⟩, hHd, ⟨hTo, hEx⟩, hRw⟩ := id hC
  refine qi_aload_n (i := 1) (x := 0) dL_law_1108 rfl rfl ?_
  refine qi_aload_n (i := 0) (x := 1000000) dL_law_1109 rfl rfl ?_
  refine qi_iload_n (i := 3) (x := nI i) dL_law_1110 rfl rfl ?_
  refine qi_iconst (v := 1) dL_law_1111 rfl ?_
  refine qi_iadd dL_law_1112 ?_
  refine qe_top (y := nI (i + 1)) (nI_add _ _) ?_
  refine qi_sldN (j := i + 1) (x := qx g (i + 1)) dL_law_1113 rfl (show i + 1 < qln g by omega) hl rfl ?_
  refine qi_aload_n (i := 0) (x := 1000000) dL_law_1114 rfl rfl ?_
  refine qi_iload_n (i := 3) (x := nI i) dL_law_1115 rfl rfl ?_
  refine qi_iconst (v := 2) dL_law_1116 rfl ?_
  refine qi_iadd dL_law_1117 ?_
  refine qe_top (y := nI (i + 2)) (nI_add _ _) ?_
  refine qi_sldN (j := i + 2) (x := qx g (i + 2)) dL_law_1118 rfl (show i + 2 < qln g by omega) hl rfl ?_
  refine qi_callVI (K' := kX11_explains) (As := [.int (qx g (i + 1)), .int (qx g (i + 2))]) mlL_143 okX11_explains dL_law_1119 (c_X11_explains g hM hp hr hP okp hTo okto hEx (qx g (i + 1)) (qx g (i + 2))) rfl (by decide) rfl (by decide) rfl rfl (Nat.le_of_ble_eq_true rfl) ⟨(Nat.le_of_ble_eq_true rfl), (Nat.le_of_ble_eq_true rfl)⟩ ⟨Nat.le_of_ble_eq_true rfl, Nat.le_of_ble_eq_true rfl⟩ (fun r1 M1 ⟨e1, hE1, hf1⟩ => ?_)
  have C1 : qCs M1 p p2 (t, pl, π, c, η, τ) := hC.ex hf1 hE1
  have X1 : qFX M M1 := qFX.of hM hf1 (fun b j z => SEx_lt hp z)
  have hM1 := X1.1
  have D1 := hD.cls X1
  obtain ⟨⟨dP, dCl, dpl, dky⟩, dT, dC, dH, dTo⟩ := id D1
  refine qi_aload_n (i := 2) (x := 280) dL_law_1122 rfl rfl ?_
  refine qi_aload_n (i := 0) (x := 1000000) dL_law_1123 rfl rfl ?_
  refine qi_iload_n (i := 3) (x := nI i) dL_law_1124 rfl rfl ?_
  refine qi_iconst (v := 1) dL_law_1125 rfl ?_
  refine qi_iadd dL_law_1126 ?_
  refine qe_top (y := nI (i + 1)) (nI_add _ _) ?_
  refine qi_sldN (j := i + 1) (x := qx g (i + 1)) dL_law_1127 rfl (show i + 1 < qln g by omega) hl rfl ?_
  refine qi_aload_n (i := 0) (x := 1000000) dL_law_1128 rfl rfl ?_
  refine qi_iload_n (i := 3) (x := nI i) dL_law_1129 rfl rfl ?_
  refine qi_iconst (v := 2) dL_law_1130 rfl ?_
  refine qi_iadd dL_law_1131 ?_
  refine qe_top (y := nI (i + 2)) (nI_add _ _) ?_
  refine qi_sldN (j := i + 2) (x := qx g (i + 2)) dL_law_1132 rfl (show i + 2 < qln g by omega) hl rfl ?_
  refine qi_callVI (K' := kX12_explains) (As := [.int (qx g (i + 1)), .int (qx g (i + 2))]) mlL_146 okX12_explains dL_law_1133 (c_X12_explains g hM1 dP okp dTo okto (qx g (i + 1)) (qx g (i + 2))) rfl (by decide) rfl (by decide) rfl rfl (Nat.le_of_ble_eq_true rfl) ⟨(Nat.le_of_ble_eq_true rfl), (Nat.le_of_ble_eq_true rfl)⟩ ⟨Nat.le_of_ble_eq_true rfl, Nat.le_of_ble_eq_true rfl⟩ (fun r2 M2 ⟨e2, hf2⟩ => ?_)
  have D2 : qDs M2 L (t, pl, π, c, η, τ) := D1.q (hf2.mono (fun b j z => SM_dq z))
  have F2 := hf2.mono (S' := fun b _ => 280 ≤ b) (fun b j z => SDq_ge (SM_dq z))
  have hM2 := hM1.fr hf2
  have C2 := C1.ref F2 (fun b j z => z)
  refine qi_icmp_eq (tgt := 1210) dL_law_1136 (by decide) (fun z => ?_) (fun z => False.elim (z (e1.trans e2.symm)))
  exact NEXT M2 (t, pl, π, c, η, τ) ⟨hM2, ⟨p, p2, C2⟩, ⟨L, D2⟩, ⟨⟨okt, okp, okc⟩, okco, okh, okto⟩⟩
set_option maxHeartbeats 2000000 in
theorem op_hold (g : qG) {nm : String} {Z : List Frame → Array Value → State → State → Prop} (hl : qln g < 2 ^ 31) {i : Nat} (hi : i + 6 ≤ qln g) (NEXT : ∀ M σ, qG0 M σ → qT g (kLn nm) room_1 Z 1210 [some (.ref 1000000), some (.ref 0), some (.ref 280), some (.int (nI i))] [] 333 M (333, 23035)) {M : qM} {σ : qSt} (hG : qG0 M σ) : qT g (kLn nm) room_1 Z 1141 [some (.ref 1000000), some (.ref 0), some (.ref 280), some (.int (nI i))] [] 333 M (333, 23035) := by
  obtain ⟨t, pl, π, c, η, τ⟩ := σ
  obtain ⟨hM, ⟨p, p2, hC⟩, ⟨L, hD⟩, ⟨okt, okp, okc⟩, okco, okh, okto⟩ := hG
  obtain ⟨⟨hp, hp2, hpp⟩, ⟨⟨hr, hr2⟩, hP, hW, hpl, hwd⟩, hT, ⟨hS, hH⟩, hHd, ⟨hTo, hEx⟩, hRw⟩ := id hC
  refine qi_aload_n (i := 1) (x := 0) dL_law_1141 rfl rfl ?_
  refine qi_aload_n (i := 0) (x := 1000000) dL_law_1142 rfl rfl ?_
  refine qi_iload_n (i := 3) (x := nI i) dL_law_1143 rfl rfl ?_
  refine qi_iconst (v := 1) dL_law_1144 rfl ?_
  refine qi_iadd dL_law_1145 ?_
  refine qe_top (y := nI (i + 1)) (nI_add _ _) ?_
  refine qi_sldN (j := i + 1) (x := qx g (i + 1)) dL_law_1146 rfl (show i + 1 < qln g by omega) hl rfl ?_
  refine qi_callVI (K' := kX11_hold) (As := [.int (qx g (i + 1))]) mlL_147 okX11_hold dL_law_1147 (c_X11_hold g hM hS hHd (qx g (i + 1))) rfl (by decide) rfl (by decide) rfl rfl (Nat.le_of_ble_eq_true rfl) ⟨(Nat.le_of_ble_eq_true rfl), (Nat.le_of_ble_eq_true rfl)⟩ ⟨Nat.le_of_ble_eq_true rfl, Nat.le_of_ble_eq_true rfl⟩ (fun r1 M1 ⟨e1, hHd1, hf1⟩ => ?_)
  have C1 : qCs M1 p p2 (t, pl, π, c, (dHold (qx g (i + 1)) c.1 η).2, τ) := hC.held hf1 hHd1
  have X1 : qFX M M1 := qFX.of hM hf1 (fun b j z => by unfold SKp at z; omega)
  have hM1 := X1.1
  have D1 := hD.cls X1
  obtain ⟨⟨dP, dCl, dpl, dky⟩, dT, dC, dH, dTo⟩ := id D1
  refine qi_aload_n (i := 2) (x := 280) dL_law_1150 rfl rfl ?_
  refine qi_aload_n (i := 0) (x := 1000000) dL_law_1151 rfl rfl ?_
  refine qi_iload_n (i := 3) (x := nI i) dL_law_1152 rfl rfl ?_
  refine qi_iconst (v := 1) dL_law_1153 rfl ?_
  refine qi_iadd dL_law_1154 ?_
  refine qe_top (y := nI (i + 1)) (nI_add _ _) ?_
  refine qi_sldN (j := i + 1) (x := qx g (i + 1)) dL_law_1155 rfl (show i + 1 < qln g by omega) hl rfl ?_
  refine qi_callVI (K' := kX12_hold) (As := [.int (qx g (i + 1))]) mlL_151 okX12_hold dL_law_1156 (c_X12_hold g hM1 dC.1 dH (qx g (i + 1))) rfl (by decide) rfl (by decide) rfl rfl (Nat.le_of_ble_eq_true rfl) ⟨(Nat.le_of_ble_eq_true rfl), (Nat.le_of_ble_eq_true rfl)⟩ ⟨Nat.le_of_ble_eq_true rfl, Nat.le_of_ble_eq_true rfl⟩ (fun r2 M2 ⟨e2, dh0, dh1, hf2⟩ => ?_)
  have dC2 : qHeld M2 (dHold (qx g (i + 1)) c.1 η).2.1 (dHold (qx g (i + 1)) c.1 η).2.2 ∧ r2 = (dHold (qx g (i + 1)) c.1 η).1 := by
    unfold dHold
    by_cases z : isF 3 (qx g (i + 1)) = 0
    · rw [if_pos z]
      rw [dh0 z]
      exact ⟨dH, e2.trans z⟩
    · rw [if_neg z]
      obtain ⟨k, hk, ek⟩ := isF_of (n := 3) (by omega) z
      have q := dh1 k ek hk
      rw [ek, nI_clamp (by omega)]
      exact ⟨q, e2.trans (isF_1 z)⟩
  obtain ⟨dH2, e2⟩ := dC2
  have D2 : qDs M2 L (t, pl, π, c, (dHold (qx g (i + 1)) c.1 η).2, τ) := D1.held hf2 dH2
  have F2 := hf2.mono (S' := fun b _ => 280 ≤ b) (fun b j z => by unfold SH at z; omega)
  have hM2 := hM1.fr hf2
  have C2 := C1.ref F2 (fun b j z => z)
  refine qi_icmp_eq (tgt := 1210) dL_law_1159 (by decide) (fun z => ?_) (fun z => False.elim (z (e1.trans e2.symm)))
  exact NEXT M2 (t, pl, π, c, (dHold (qx g (i + 1)) c.1 η).2, τ) ⟨hM2, ⟨p, p2, C2⟩, ⟨L, D2⟩, ⟨⟨okt, okp, okc⟩, okco, ok_hold okco.1 okh (qx g (i + 1)), okto⟩⟩
set_option maxHeartbeats 2000000 in
theorem op_restore (g : qG) {nm : String} {Z : List Frame → Array Value → State → State → Prop} (hl : qln g < 2 ^ 31) {i : Nat} (hi : i + 6 ≤ qln g) (NEXT : ∀ M σ, qG0 M σ → qT g (kLn nm) room_1 Z 1210 [some (.ref 1000000), some (.ref 0), some (.ref 280), some (.int (nI i))] [] 333 M (333, 23035)) {M : qM} {σ : qSt} (hG : qG0 M σ) : qT g (kLn nm) room_1 Z 1164 [some (.ref 1000000), some (.ref 0), some (.ref 280), some (.int (nI i))] [] 333 M (333, 23035) := by
  obtain ⟨t, pl, π, c, η, τ⟩ := σ
  obtain ⟨hM, ⟨p, p2, hC⟩, ⟨L, hD⟩, ⟨okt, okp, okc⟩, okco, okh, okto⟩ := hG
  obtain ⟨⟨hp, hp2, hpp⟩, ⟨⟨hr, hr2⟩, hP, hW, hpl, hwd⟩, hT, ⟨hS, hH⟩, hHd, ⟨hTo, hEx⟩, hRw⟩ := id hC
  refine qi_aload_n (i := 1) (x := 0) dL_law_1164 rfl rfl ?_
  refine qi_aload_n (i := 0) (x := 1000000) dL_law_1165 rfl rfl ?_
  refine qi_iload_n (i := 3) (x := nI i) dL_law_1166 rfl rfl ?_
  refine qi_iconst (v := 1) dL_law_1167 rfl ?_
  refine qi_iadd dL_law_1168 ?_
  refine qe_top (y := nI (i + 1)) (nI_add _ _) ?_
  refine qi_sldN (j := i + 1) (x := qx g (i + 1)) dL_law_1169 rfl (show i + 1 < qln g by omega) hl rfl ?_
  refine qi_callVI (K' := kX11_restore) (As := [.int (qx g (i + 1))]) mlL_152 okX11_restore dL_law_1170 (c_X11_restore g hM hS hH hHd (qx g (i + 1))) rfl (by decide) rfl (by decide) rfl rfl (Nat.le_of_ble_eq_true rfl) ⟨(Nat.le_of_ble_eq_true rfl), (Nat.le_of_ble_eq_true rfl)⟩ ⟨Nat.le_of_ble_eq_true rfl, Nat.le_of_ble_eq_true rfl⟩ (fun r1 M1 ⟨e1, hS1, hH1, hf1⟩ => ?_)
  have C1 : qCs M1 p p2 (t, pl, π, (dRestore (qx g (i + 1)) c η).2, η, τ) := hC.core hf1 (fun b j z => SUn_do z) ⟨hS1, hH1⟩
  have X1 : qFX M M1 := qFX.of hM hf1 (fun b j z => SDo_lt (p := p) hp (SUn_do z))
  have hM1 := X1.1
  have D1 := hD.cls X1
  obtain ⟨⟨dP, dCl, dpl, dky⟩, dT, dC, dH, dTo⟩ := id D1
  refine qi_aload_n (i := 2) (x := 280) dL_law_1173 rfl rfl ?_
  refine qi_aload_n (i := 0) (x := 1000000) dL_law_1174 rfl rfl ?_
  refine qi_iload_n (i := 3) (x := nI i) dL_law_1175 rfl rfl ?_
  refine qi_iconst (v := 1) dL_law_1176 rfl ?_
  refine qi_iadd dL_law_1177 ?_
  refine qe_top (y := nI (i + 1)) (nI_add _ _) ?_
  refine qi_sldN (j := i + 1) (x := qx g (i + 1)) dL_law_1178 rfl (show i + 1 < qln g by omega) hl rfl ?_
  refine qi_callVI (K' := kX12_restore) (As := [.int (qx g (i + 1))]) mlL_155 okX12_restore dL_law_1179 (c_X12_restore g hM1 dC dH (qx g (i + 1))) rfl (by decide) rfl (by decide) rfl rfl (Nat.le_of_ble_eq_true rfl) ⟨(Nat.le_of_ble_eq_true rfl), (Nat.le_of_ble_eq_true rfl)⟩ ⟨Nat.le_of_ble_eq_true rfl, Nat.le_of_ble_eq_true rfl⟩ (fun r2 M2 ⟨e2, dC2, hf2⟩ => ?_)
  have D2 : qDs M2 L (t, pl, π, (dRestore (qx g (i + 1)) c η).2, η, τ) := D1.core hf2 (fun b j z => SU_SQ z) dC2
  have F2 := hf2.mono (S' := fun b _ => 280 ≤ b) (fun b j z => SQ_ge (SU_SQ z))
  have hM2 := hM1.fr hf2
  have C2 := C1.ref F2 (fun b j z => z)
  refine qi_icmp_eq (tgt := 1210) dL_law_1182 (by decide) (fun z => ?_) (fun z => False.elim (z (e1.trans e2.symm)))
  exact NEXT M2 (t, pl, π, (dRestore (qx g (i + 1)) c η).2, η, τ) ⟨hM2, ⟨p, p2, C2⟩, ⟨L, D2⟩, ⟨⟨okt, okp, okc⟩, okco.restore okh (fun s hs => (hHd.1 s hs).2) (qx g (i + 1)), okh, okto⟩⟩
set_option maxHeartbeats 2000000 in
theorem op_count (g : qG) {nm : String} {Z : List Frame → Array Value → State → State → Prop} (hl : qln g < 2 ^ 31) {i : Nat} (hi : i + 6 ≤ qln g) (NEXT : ∀ M σ, qG0 M σ → qT g (kLn nm) room_1 Z 1210 [some (.ref 1000000), some (.ref 0), some (.ref 280), some (.int (nI i))] [] 333 M (333, 23035)) {M : qM} {σ : qSt} (hG : qG0 M σ) : qT g (kLn nm) room_1 Z 1187 [some (.ref 1000000), some (.ref 0), some (.ref 280), some (.int (nI i))] [] 333 M (333, 23035) := by
  obtain ⟨t, pl, π, c, η, τ⟩ := σ
  obtain ⟨hM, ⟨p, p2, hC⟩, ⟨L, hD⟩, ⟨okt, okp, okc⟩, okco, okh, okto⟩ := hG
  obtain ⟨⟨hp, hp2, hpp⟩, ⟨⟨hr, hr2⟩, hP, hW, hpl, hwd⟩, hT, ⟨hS, hH⟩, hHd, ⟨hTo, hEx⟩, hRw⟩ := id hC
  obtain ⟨nx, -, -, hu, -⟩ := id hH
  refine qi_aload_n (i := 1) (x := 0) dL_law_1187 rfl rfl ?_
  refine qi_aload_n (i := 0) (x := 1000000) dL_law_1188 rfl rfl ?_
  refine qi_iload_n (i := 3) (x := nI i) dL_law_1189 rfl rfl ?_
  refine qi_iconst (v := 1) dL_law_1190 rfl ?_
  refine qi_iadd dL_law_1191 ?_
  refine qe_top (y := nI (i + 1)) (nI_add _ _) ?_
  refine qi_sldN (j := i + 1) (x := qx g (i + 1)) dL_law_1192 rfl (show i + 1 < qln g by omega) hl rfl ?_
  refine qi_callVI (K' := kX11_count) (As := [.int (qx g (i + 1))]) mlL_156 okX11_count dL_law_1193 (c_X11_count g hM (σ := (t, pl, π, c, η, τ)) hp hr hP hW.1 hS hu hHd hTo.1 hT.1 (qx g (i + 1))) rfl (by decide) rfl (by decide) rfl rfl (Nat.le_of_ble_eq_true rfl) ⟨(Nat.le_of_ble_eq_true rfl), (Nat.le_of_ble_eq_true rfl)⟩ ⟨Nat.le_of_ble_eq_true rfl, Nat.le_of_ble_eq_true rfl⟩ (fun r1 M1 ⟨e1, em1⟩ => ?_)
  have hM1 : qRf M1 := em1 ▸ hM
  have D1 : qDs M1 L (t, pl, π, c, η, τ) := em1 ▸ hD
  have C1 : qCs M1 p p2 (t, pl, π, c, η, τ) := em1 ▸ hC
  obtain ⟨⟨dP, dCl, dpl, dky⟩, dT, dC, dH, dTo⟩ := id D1
  refine qi_aload_n (i := 2) (x := 280) dL_law_1196 rfl rfl ?_
  refine qi_aload_n (i := 0) (x := 1000000) dL_law_1197 rfl rfl ?_
  refine qi_iload_n (i := 3) (x := nI i) dL_law_1198 rfl rfl ?_
  refine qi_iconst (v := 1) dL_law_1199 rfl ?_
  refine qi_iadd dL_law_1200 ?_
  refine qe_top (y := nI (i + 1)) (nI_add _ _) ?_
  refine qi_sldN (j := i + 1) (x := qx g (i + 1)) dL_law_1201 rfl (show i + 1 < qln g by omega) hl rfl ?_
  refine qi_callVI (K' := kX12_count) (As := [.int (qx g (i + 1))]) mlL_159 okX12_count dL_law_1202 (c_X12_count g hM1 (σ := (t, pl, π, c, η, τ)) dP okp dC okco.1 dH dTo.1 dT.1 (qx g (i + 1))) rfl (by decide) rfl (by decide) rfl rfl (Nat.le_of_ble_eq_true rfl) ⟨(Nat.le_of_ble_eq_true rfl), (Nat.le_of_ble_eq_true rfl)⟩ ⟨Nat.le_of_ble_eq_true rfl, Nat.le_of_ble_eq_true rfl⟩ (fun r2 M2 ⟨e2, hf2⟩ => ?_)
  have D2 : qDs M2 L (t, pl, π, c, η, τ) := D1.q (hf2.mono (fun b j z => SM_dq z))
  have F2 := hf2.mono (S' := fun b _ => 280 ≤ b) (fun b j z => SDq_ge (SM_dq z))
  have hM2 := hM1.fr hf2
  have C2 := C1.ref F2 (fun b j z => z)
  refine qi_icmp_eq (tgt := 1210) dL_law_1205 (by decide) (fun z => ?_) (fun z => False.elim (z (e1.trans e2.symm)))
  exact NEXT M2 (t, pl, π, c, η, τ) ⟨hM2, ⟨p, p2, C2⟩, ⟨L, D2⟩, ⟨⟨okt, okp, okc⟩, okco, okh, okto⟩⟩
