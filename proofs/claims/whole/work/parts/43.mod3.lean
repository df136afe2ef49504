/-! ThimbleSeaModel: tellsBy, tellsNow -/
theorem clampE {most w : Int32} (hm : ¬ most < 0) : maxI 0 (minI most w) = if w < 0 then 0 else if most < w then most else w := by
  unfold maxI minI
  have h0 : (0 : Int32).toInt = 0 := by decide
  have hm' : 0 ≤ most.toInt := by have := Int32.not_lt.mp hm; have := Int32.le_iff_toInt_le.mp this; omega
  by_cases h1 : w < most
  · have a1 := Int32.lt_iff_toInt_lt.mp h1
    rw [if_pos h1, if_neg (fun z => by have := Int32.lt_iff_toInt_lt.mp z; omega : ¬ most < w)]
    by_cases h2 : w < 0
    · have a2 := Int32.lt_iff_toInt_lt.mp h2
      rw [if_pos h2, if_neg (fun z => by have := Int32.lt_iff_toInt_lt.mp z; omega)]
    · rw [if_neg h2]
      by_cases h3 : (0 : Int32) < w
      · rw [if_pos h3]
      · rw [if_neg h3]
        apply Int32.toInt_inj.mp
        have a2 := Int32.le_iff_toInt_le.mp (Int32.not_lt.mp h2)
        have a3 := Int32.le_iff_toInt_le.mp (Int32.not_lt.mp h3)
        omega
  · have a1 := Int32.le_iff_toInt_le.mp (Int32.not_lt.mp h1)
    rw [if_neg h1, if_neg (fun z => by have := Int32.lt_iff_toInt_lt.mp z; omega : ¬ w < 0)]
    have h4 : (if most < w then most else w) = most := by
      by_cases h5 : most < w
      · rw [if_pos h5]
      · rw [if_neg h5]
        apply Int32.toInt_inj.mp
        have a3 := Int32.le_iff_toInt_le.mp (Int32.not_lt.mp h5)
        omega
    rw [h4]
    by_cases h3 : (0 : Int32) < most
    · rw [if_pos h3]
    · rw [if_neg h3]
      apply Int32.toInt_inj.mp
      have a3 := Int32.le_iff_toInt_le.mp (Int32.not_lt.mp h3)
      omega
theorem clamp0 {most : Int32} (hm : ¬ most < 0) : maxI 0 (minI most 0) = 0 := by
  rw [clampE hm, if_neg (by decide), if_neg hm]
theorem ST_SV {b j : Nat} (h : ST b j) : SV b j := by
  unfold ST at h
  unfold SV
  omega
theorem qRow.frV {M M' : qM} {ρ : Nat → Int32} (h : qRow M ρ) (hf : qFr SV M M') : qRow M' ρ := fun k hk => (hf.1 _ _ (by unfold SV; omega)).trans (h k hk)
set_option maxHeartbeats 1000000 in
theorem c_X12_tellsBy (g : qG) {M : qM} (hM : qRf M) {ρ : Nat → Int32} (hR : qRow M ρ) {L k : Nat} {π : qPl} (hP : qPlanM M L π) (hok : okPl π) (hk : k < 17) {f : (Nat → Int32) → Int32} (hf : (M.1 309 (17 * L + k) = 0 ∧ M.1 310 (17 * L + k) = 0 ∧ ∀ v, f v = 0) ∨ qLawM M (17 * L + k) f) (share sent which : Int32) {most : Int32} (hm : ¬ most < 0) : qI g 2 kX12_tellsBy [.ref 280, .int (nI k), .int share, .int sent, .int which, .int most] M (fun r M' => r = maxI 0 (minI most (f (varsF (ρ 64) (allF ρ) (ρ 65) share sent (lotF (nI (π.1 5)) (20 * ρ 64 + which))))) ∧ qFr SV M M') := by
  obtain ⟨v, hve⟩ : ∃ v, v = varsF (ρ 64) (allF ρ) (ρ 65) share sent (lotF (nI (π.1 5)) (20 * ρ 64 + which)) := ⟨_, rfl⟩
  rw [← hve]
  have hL := hP.1.1
  have eL : M.1 280 18 = nI L := hP.1.2
  have eS : M.1 308 L = nI (π.1 5) := hP.2.1.2.2.2.2.2
  -- the loop over the branches
  have K : ∀ n b y M1 x9 x10 (fi : Int32), b + n = y → y ≤ 260 → (∀ i, i < 6 → M1.1 319 i = v i) → M1.1 280 57 = 0 → qFr SV M M1 → runB M v n b = some (f v) → qT g kX12_tellsBy (qR 2 0 0) (qZI g (fun r M' => r = maxI 0 (minI most (f v)) ∧ qFr SV M M')) 125 [some (.ref 280), some (.int (nI k)), some (.int share), some (.int sent), some (.int which), some (.int most), some (.int fi), some (.int (nI y)), some (.int (nI b)), x9, x10] [] 333 M1 (0, 0) := by
    intro n
    induction n with
    | zero => intro b y M1 x9 x10 fi e1 e2 e3 e4 e5 e6; simp [runB] at e6
    | succ n ih =>
      intro b y M1 x9 x10 fi hby hy hv hz hfr hr
      have hM1 := hM.fr hfr
      have eo : ∀ c j, c ≠ 319 → c ≠ 320 → c ≠ 280 → M1.1 c j = M.1 c j := fun c j h1 h2 h3 => hfr.1 _ _ (by unfold SV; omega)
      have e316 : M1.1 316 = M.1 316 := funext fun j => eo 316 j (by omega) (by omega) (by omega)
      have e317 : M1.1 317 = M.1 317 := funext fun j => eo 317 j (by omega) (by omega) (by omega)
      rw [runB_s] at hr
      by_cases hlim : b < 260 ∧ ¬ M.1 314 b < 0 ∧ ¬ M.1 315 b < 0
      · rw [if_pos hlim] at hr
        obtain ⟨t4, ht4, et4⟩ := nI_of hlim.2.1
        obtain ⟨t5, ht5, et5⟩ := nI_of hlim.2.2
        have b4 : brAt M 314 b = t4 := by unfold brAt; rw [et4, nI_clamp ht4]
        have b5 : brAt M 315 b = t5 := by unfold brAt; rw [et5, nI_clamp ht5]
        rw [b4, b5] at hr
        cases hw : cellsP M v t4 t5 with
        | none => rw [hw] at hr; cases hr
        | some w =>
          rw [hw] at hr
          simp only at hr
          have h45 : t4 ≤ t5 := by
            unfold cellsP at hw
            by_cases z : t4 ≤ t5
            · exact z
            · rw [if_neg z] at hw
              cases hw
          have hrun45 : runP (M.1 316) (M.1 317) v (t5 - t4) t4 [] = some w := by
            unfold cellsP at hw
            rwa [if_pos h45] at hw
          -- the term
          have TT : ∀ M2 y9 y10, (∀ i, i < 6 → M2.1 319 i = v i) → M2.1 280 57 = 0 → qFr SV M M2 → w.getD 0 = f v → qT g kX12_tellsBy (qR 2 0 0) (qZI g (fun r M' => r = maxI 0 (minI most (f v)) ∧ qFr SV M M')) 201 [some (.ref 280), some (.int (nI k)), some (.int share), some (.int sent), some (.int which), some (.int most), some (.int fi), some (.int (nI y)), some (.int (nI b)), y9, y10] [] 333 M2 (0, 0) := by
            intro M2 y9 y10 hv2 hz2 hf2 hwf
            have hM2 := hM.fr hf2
            have eo2 : ∀ c j, c ≠ 319 → c ≠ 320 → c ≠ 280 → M2.1 c j = M.1 c j := fun c j h1 h2 h3 => hf2.1 _ _ (by unfold SV; omega)
            refine qi_aload_n (i := 0) (x := 280) dX12_tellsBy_201 rfl rfl ?_
            refine qi_aload_n (i := 0) (x := 280) dX12_tellsBy_202 rfl rfl ?_
            refine qi_getR (x := 314) flX12_119 dX12_tellsBy_203 rfl (by decide) (hM2 280 48 314 rfl) ?_
            refine qi_iload (i := 8) (x := nI b) dX12_tellsBy_206 rfl ?_
            refine qi_ialdN (x := M2.1 314 b) (j := b) dX12_tellsBy_208 rfl (by decide) rfl (by omega) (by decide) rfl ?_
            refine qe_top (y := nI t4) ((eo2 314 b (by omega) (by omega) (by omega)).trans et4) ?_
            refine qi_aload_n (i := 0) (x := 280) dX12_tellsBy_209 rfl rfl ?_
            refine qi_getR (x := 315) flX12_122 dX12_tellsBy_210 rfl (by decide) (hM2 280 49 315 rfl) ?_
            refine qi_iload (i := 8) (x := nI b) dX12_tellsBy_213 rfl ?_
            refine qi_ialdN (x := M2.1 315 b) (j := b) dX12_tellsBy_215 rfl (by decide) rfl (by omega) (by decide) rfl ?_
            refine qe_top (y := nI t5) ((eo2 315 b (by omega) (by omega) (by omega)).trans et5) ?_
            refine qi_callVI (K' := kX12_termOf) (As := [.int (nI t4), .int (nI t5)]) mlX12_358 okX12_termOf dX12_tellsBy_216 (c_X12_termOf g (res := w) hM2 hv2 hz2 h45 ht5 (by rw [show M2.1 316 = M.1 316 from funext fun j => eo2 316 j (by omega) (by omega) (by omega), show M2.1 317 = M.1 317 from funext fun j => eo2 317 j (by omega) (by omega) (by omega)]; exact hrun45)) rfl (by decide) rfl (by decide) rfl rfl (Nat.le_of_ble_eq_true rfl) ⟨(Nat.le_of_ble_eq_true rfl), (Nat.le_of_ble_eq_true rfl)⟩ ⟨Nat.le_refl _, Nat.le_refl _⟩ (fun x M3 ⟨ex, eb, hf3⟩ => ?_)
            have hM3 := hM2.fr hf3
            have hfe : qFr SV M M3 := hf2.tr (hf3.mono (fun _ _ => ST_SV))
            refine qi_istore (i := 9) (L2 := [some (.ref 280), some (.int (nI k)), some (.int share), some (.int sent), some (.int which), some (.int most), some (.int fi), some (.int (nI y)), some (.int (nI b)), some (.int x), y10]) dX12_tellsBy_219 (Nat.le_of_ble_eq_true rfl) rfl ?_
            refine qi_aload_n (i := 0) (x := 280) dX12_tellsBy_221 rfl rfl ?_
            refine qi_getI (x := M3.1 280 57) flX12_334 dX12_tellsBy_222 rfl (by decide) rfl ?_
            refine qi_if_ne (tgt := 233) dX12_tellsBy_225 (by decide) (fun c1 => ?_) (fun c1 => ?_)
            · have hwn : w = none := by
                cases w with
                | none => rfl
                | some q => exact absurd (by rw [eb]; rfl) c1
              refine qi_iconst (v := 0) dX12_tellsBy_233 rfl ?_
              refine qi_goto (tgt := 251) dX12_tellsBy_234 (by decide) ?_
              exact qi_retI rfl rfl dX12_tellsBy_251 (⟨by rw [← hwf, hwn]; exact (clamp0 hm).symm, hfe⟩)
            · refine qi_iload (i := 9) (x := x) dX12_tellsBy_228 rfl ?_
              have hxf : x = f v := by rw [ex, hwf]
              refine qi_if_ge (tgt := 237) dX12_tellsBy_230 (by decide) (fun c2 => ?_) (fun c2 => ?_)
              · refine qi_iload (i := 9) (x := x) dX12_tellsBy_237 rfl ?_
                refine qi_iload (i := 5) (x := most) dX12_tellsBy_239 rfl ?_
                have c2' : ¬ x < 0 := Int32.not_lt.mpr c2
                refine qi_icmp_le (tgt := 249) dX12_tellsBy_241 (by decide) (fun c3 => ?_) (fun c3 => ?_)
                · refine qi_iload (i := 9) (x := x) dX12_tellsBy_249 rfl ?_
                  exact qi_retI rfl rfl dX12_tellsBy_251 (⟨by rw [← hxf, clampE hm, if_neg c2', if_neg (Int32.not_lt.mpr c3)], hfe⟩)
                · refine qi_iload (i := 5) (x := most) dX12_tellsBy_244 rfl ?_
                  refine qi_goto (tgt := 251) dX12_tellsBy_246 (by decide) ?_
                  exact qi_retI rfl rfl dX12_tellsBy_251 (⟨by rw [← hxf, clampE hm, if_neg c2', if_pos (Int32.not_le.mp c3)], hfe⟩)
              · refine qi_iconst (v := 0) dX12_tellsBy_233 rfl ?_
                refine qi_goto (tgt := 251) dX12_tellsBy_234 (by decide) ?_
                exact qi_retI rfl rfl dX12_tellsBy_251 (⟨by rw [← hxf, clampE hm, if_pos (Int32.not_le.mp c2)], hfe⟩)
          refine qi_iload (i := 8) (x := nI b) dX12_tellsBy_125 rfl ?_
          refine qi_iload (i := 7) (x := nI y) dX12_tellsBy_127 rfl ?_
          refine qi_icmp_ge (tgt := 258) dX12_tellsBy_129 (by decide) (fun _h => absurd ((nI_leI (a := y) (b := b) (by omega) (by omega)).mp _h) (by omega)) (fun _hc => ?_)
          refine qi_aload_n (i := 0) (x := 280) dX12_tellsBy_132 rfl rfl ?_
          refine qi_getR (x := 311) flX12_109 dX12_tellsBy_133 rfl (by decide) (hM1 280 45 311 rfl) ?_
          refine qi_iload (i := 8) (x := nI b) dX12_tellsBy_136 rfl ?_
          refine qi_zaldN (x := M1.1 311 b) (j := b) dX12_tellsBy_138 rfl (by decide) rfl (by omega) (by decide) rfl ?_
          refine qe_top (y := M.1 311 b) (eo 311 b (by omega) (by omega) (by omega)) ?_
          refine qi_if_eq (tgt := 201) dX12_tellsBy_139 (by decide) (fun c1 => ?_) (fun c1 => ?_)
          · rw [if_pos c1] at hr
            exact TT M1 _ _ hv hz hfr (Option.some.inj hr)
          · rw [if_neg c1] at hr
            by_cases hl2 : M.1 312 b < 0 ∨ M.1 313 b < 0
            · rw [if_pos hl2] at hr
              cases hr
            · rw [if_neg hl2] at hr
              obtain ⟨t2, ht2, et2⟩ := nI_of (fun z => hl2 (Or.inl z))
              obtain ⟨t3, ht3, et3⟩ := nI_of (fun z => hl2 (Or.inr z))
              have b2 : brAt M 312 b = t2 := by unfold brAt; rw [et2, nI_clamp ht2]
              have b3 : brAt M 313 b = t3 := by unfold brAt; rw [et3, nI_clamp ht3]
              rw [b2, b3] at hr
              cases hw1 : cellsP M v t2 t3 with
              | none => rw [hw1] at hr; simp at hr
              | some w1 =>
                cases hw2 : cellsP M v t3 t4 with
                | none => rw [hw1, hw2] at hr; cases w1 <;> simp at hr
                | some w2 =>
                  rw [hw1, hw2] at hr
                  have h23 : t2 ≤ t3 ∧ runP (M.1 316) (M.1 317) v (t3 - t2) t2 [] = some w1 := by
                    unfold cellsP at hw1
                    by_cases z : t2 ≤ t3
                    · rw [if_pos z] at hw1
                      exact ⟨z, hw1⟩
                    · rw [if_neg z] at hw1
                      cases hw1
                  have h34 : t3 ≤ t4 ∧ runP (M.1 316) (M.1 317) v (t4 - t3) t3 [] = some w2 := by
                    unfold cellsP at hw2
                    by_cases z : t3 ≤ t4
                    · rw [if_pos z] at hw2
                      exact ⟨z, hw2⟩
                    · rw [if_neg z] at hw2
                      cases hw2
                  refine qi_aload_n (i := 0) (x := 280) dX12_tellsBy_142 rfl rfl ?_
                  refine qi_aload_n (i := 0) (x := 280) dX12_tellsBy_143 rfl rfl ?_
                  refine qi_getR (x := 312) flX12_113 dX12_tellsBy_144 rfl (by decide) (hM1 280 46 312 rfl) ?_
                  refine qi_iload (i := 8) (x := nI b) dX12_tellsBy_147 rfl ?_
                  refine qi_ialdN (x := M1.1 312 b) (j := b) dX12_tellsBy_149 rfl (by decide) rfl (by omega) (by decide) rfl ?_
                  refine qe_top (y := nI t2) ((eo 312 b (by omega) (by omega) (by omega)).trans et2) ?_
                  refine qi_aload_n (i := 0) (x := 280) dX12_tellsBy_150 rfl rfl ?_
                  refine qi_getR (x := 313) flX12_116 dX12_tellsBy_151 rfl (by decide) (hM1 280 47 313 rfl) ?_
                  refine qi_iload (i := 8) (x := nI b) dX12_tellsBy_154 rfl ?_
                  refine qi_ialdN (x := M1.1 313 b) (j := b) dX12_tellsBy_156 rfl (by decide) rfl (by omega) (by decide) rfl ?_
                  refine qe_top (y := nI t3) ((eo 313 b (by omega) (by omega) (by omega)).trans et3) ?_
                  refine qi_callVI (K' := kX12_termOf) (As := [.int (nI t2), .int (nI t3)]) mlX12_358 okX12_termOf dX12_tellsBy_157 (c_X12_termOf g (res := w1) hM1 hv hz h23.1 ht3 (by rw [e316, e317]; exact h23.2)) rfl (by decide) rfl (by decide) rfl rfl (Nat.le_of_ble_eq_true rfl) ⟨(Nat.le_of_ble_eq_true rfl), (Nat.le_of_ble_eq_true rfl)⟩ ⟨Nat.le_refl _, Nat.le_refl _⟩ (fun x1 M2 ⟨ex1, eb1, hf2⟩ => ?_)
                  have hM2 := hM1.fr hf2
                  have hfr2 : qFr SV M M2 := hfr.tr (hf2.mono (fun _ _ => ST_SV))
                  have eo2 : ∀ c j, c ≠ 319 → c ≠ 320 → c ≠ 280 → M2.1 c j = M.1 c j := fun c j h1 h2 h3 => hfr2.1 _ _ (by unfold SV; omega)
                  have hv2 : ∀ i, i < 6 → M2.1 319 i = v i := fun i hi => (hf2.1 _ _ (by unfold ST; omega)).trans (hv i hi)
                  refine qi_istore (i := 9) (L2 := [some (.ref 280), some (.int (nI k)), some (.int share), some (.int sent), some (.int which), some (.int most), some (.int fi), some (.int (nI y)), some (.int (nI b)), some (.int x1), x10]) dX12_tellsBy_160 (Nat.le_of_ble_eq_true rfl) rfl ?_
                  refine qi_aload_n (i := 0) (x := 280) dX12_tellsBy_162 rfl rfl ?_
                  refine qi_aload_n (i := 0) (x := 280) dX12_tellsBy_163 rfl rfl ?_
                  refine qi_getR (x := 313) flX12_116 dX12_tellsBy_164 rfl (by decide) (hM2 280 47 313 rfl) ?_
                  refine qi_iload (i := 8) (x := nI b) dX12_tellsBy_167 rfl ?_
                  refine qi_ialdN (x := M2.1 313 b) (j := b) dX12_tellsBy_169 rfl (by decide) rfl (by omega) (by decide) rfl ?_
                  refine qe_top (y := nI t3) ((eo2 313 b (by omega) (by omega) (by omega)).trans et3) ?_
                  refine qi_aload_n (i := 0) (x := 280) dX12_tellsBy_170 rfl rfl ?_
                  refine qi_getR (x := 314) flX12_119 dX12_tellsBy_171 rfl (by decide) (hM2 280 48 314 rfl) ?_
                  refine qi_iload (i := 8) (x := nI b) dX12_tellsBy_174 rfl ?_
                  refine qi_ialdN (x := M2.1 314 b) (j := b) dX12_tellsBy_176 rfl (by decide) rfl (by omega) (by decide) rfl ?_
                  refine qe_top (y := nI t4) ((eo2 314 b (by omega) (by omega) (by omega)).trans et4) ?_
                  refine qi_callVI (K' := kX12_termOf) (As := [.int (nI t3), .int (nI t4)]) mlX12_358 okX12_termOf dX12_tellsBy_177 (c_X12_termOf g (res := w2) hM2 hv2 eb1 h34.1 ht4 (by rw [show M2.1 316 = M.1 316 from funext fun j => eo2 316 j (by omega) (by omega) (by omega), show M2.1 317 = M.1 317 from funext fun j => eo2 317 j (by omega) (by omega) (by omega)]; exact h34.2)) rfl (by decide) rfl (by decide) rfl rfl (Nat.le_of_ble_eq_true rfl) ⟨(Nat.le_of_ble_eq_true rfl), (Nat.le_of_ble_eq_true rfl)⟩ ⟨Nat.le_refl _, Nat.le_refl _⟩ (fun x2 M3 ⟨ex2, eb2, hf3⟩ => ?_)
                  have hM3 := hM2.fr hf3
                  have hfr3 : qFr SV M M3 := hfr2.tr (hf3.mono (fun _ _ => ST_SV))
                  have hv3 : ∀ i, i < 6 → M3.1 319 i = v i := fun i hi => (hf3.1 _ _ (by unfold ST; omega)).trans (hv2 i hi)
                  refine qi_istore (i := 10) (L2 := [some (.ref 280), some (.int (nI k)), some (.int share), some (.int sent), some (.int which), some (.int most), some (.int fi), some (.int (nI y)), some (.int (nI b)), some (.int x1), some (.int x2)]) dX12_tellsBy_180 (Nat.le_of_ble_eq_true rfl) rfl ?_
                  refine qi_aload_n (i := 0) (x := 280) dX12_tellsBy_182 rfl rfl ?_
                  refine qi_getI (x := M3.1 280 57) flX12_334 dX12_tellsBy_183 rfl (by decide) rfl ?_
                  by_cases hbr : w1 = none ∨ w2 = none
                  · have hr0 : (0 : Int32) = f v := by
                      rcases hbr with h | h <;> rw [h] at hr <;> (cases w1 <;> cases w2 <;> first | exact Option.some.inj hr | simp at h)
                    have hb1 : M3.1 280 57 = 1 := by
                      rw [eb2]
                      rcases hbr with h | h <;> rw [h]
                      · cases w2 <;> rfl
                      · rfl
                    refine qi_if_eq (tgt := 191) dX12_tellsBy_186 (by decide) (fun h => False.elim (absurd h (by rw [hb1]; decide))) (fun h => ?_)
                    refine qi_iconst (v := 0) dX12_tellsBy_189 rfl ?_
                    exact qi_retI rfl rfl dX12_tellsBy_190 (⟨by rw [← hr0]; exact (clamp0 hm).symm, hfr3⟩)
                  · obtain ⟨q1, rfl⟩ : ∃ q, w1 = some q := by
                      cases w1 with
                      | none => exact absurd (Or.inl rfl) hbr
                      | some q => exact ⟨q, rfl⟩
                    obtain ⟨q2, rfl⟩ : ∃ q, w2 = some q := by
                      cases w2 with
                      | none => exact absurd (Or.inr rfl) hbr
                      | some q => exact ⟨q, rfl⟩
                    have hz3 : M3.1 280 57 = 0 := by rw [eb2]; rfl
                    have hr1 : (if q1 < q2 then some (w.getD 0) else runB M v n (b + 1)) = some (f v) := hr
                    have e1 : x1 = q1 := ex1
                    have e2 : x2 = q2 := ex2
                    refine qi_if_eq (tgt := 191) dX12_tellsBy_186 (by decide) (fun h => ?_) (fun h => False.elim (h hz3))
                    refine qi_iload (i := 9) (x := x1) dX12_tellsBy_191 rfl ?_
                    refine qi_iload (i := 10) (x := x2) dX12_tellsBy_193 rfl ?_
                    refine qi_icmp_lt (tgt := 201) dX12_tellsBy_195 (by decide) (fun c5 => ?_) (fun c5 => ?_)
                    · rw [e1, e2] at c5
                      rw [if_pos c5] at hr1
                      exact TT M3 _ _ hv3 hz3 hfr3 (Option.some.inj hr1)
                    · rw [e1, e2] at c5
                      rw [if_neg c5] at hr1
                      refine qi_goto (tgt := 252) dX12_tellsBy_198 (by decide) ?_
                      refine qi_iinc (i := 8) (x := nI b) (v := nI (b + 1)) (L2 := [some (.ref 280), some (.int (nI k)), some (.int share), some (.int sent), some (.int which), some (.int most), some (.int fi), some (.int (nI y)), some (.int (nI (b + 1))), some (.int x1), some (.int x2)]) dX12_tellsBy_252 rfl (nI_1 b) (Nat.le_of_ble_eq_true rfl) rfl ?_
                      refine qi_goto (tgt := 125) dX12_tellsBy_255 (by decide) ?_
                      exact ih (b + 1) y M3 _ _ _ (by omega) hy hv3 hz3 hfr3 hr1
      · rw [if_neg hlim] at hr
        cases hr
  have hlen : ∃ fi ly : Nat, M.1 309 (17 * L + k) = nI fi ∧ M.1 310 (17 * L + k) = nI ly ∧ ly ≤ 260 ∧ fi ≤ ly ∧ ((fi = ly ∧ f v = 0) ∨ runB M v (ly - fi) fi = some (f v)) := by
    rcases hf with ⟨h1, h2, h3⟩ | ⟨x, y, h1, h2, h3, h4, h5⟩
    · exact ⟨0, 0, h1, h2, by omega, by omega, Or.inl ⟨rfl, h3 v⟩⟩
    · exact ⟨x, y, h1, h2, h4, h3, Or.inr (h5 v)⟩
  obtain ⟨fi, ly, ef, el, hly, hfl, hcase⟩ := hlen
  refine qI.of (j := 5) (pn_RX12) rfl ?_
  show qT g kX12_tellsBy (qR 2 0 0) (qZI g (fun r M' => r = maxI 0 (minI most (f v)) ∧ qFr SV M M')) 0 [some (.ref 280), some (.int (nI k)), some (.int share), some (.int sent), some (.int which), some (.int most), none, none, none, none, none] [] 333 M (0, 0)
  refine qi_aload_n (i := 0) (x := 280) dX12_tellsBy_0 rfl rfl ?_
  refine qi_getR (x := 309) flX12_103 dX12_tellsBy_1 rfl (by decide) (hM 280 42 309 rfl) ?_
  refine qi_bipush (v := 17) dX12_tellsBy_4 rfl ?_
  refine qi_aload_n (i := 0) (x := 280) dX12_tellsBy_6 rfl rfl ?_
  refine qi_getI (x := M.1 280 18) flX12_248 dX12_tellsBy_7 rfl (by decide) rfl ?_
  refine qe_top (y := nI L) eL ?_
  refine qi_imul dX12_tellsBy_10 ?_
  refine qi_iload_n (i := 1) (x := nI k) dX12_tellsBy_11 rfl rfl ?_
  refine qi_iadd dX12_tellsBy_12 ?_
  refine qe_top (y := nI (17 * L + k)) (by rw [show (17 : Int32) = nI 17 from rfl, pk_mul, nI_add]) ?_
  refine qi_ialdN (x := M.1 309 (17 * L + k)) (j := 17 * L + k) dX12_tellsBy_13 rfl (by decide) rfl (by omega) (by decide) rfl ?_
  refine qe_top (y := nI fi) ef ?_
  refine qi_istore (i := 6) (L2 := [some (.ref 280), some (.int (nI k)), some (.int share), some (.int sent), some (.int which), some (.int most), some (.int (nI fi)), none, none, none, none]) dX12_tellsBy_14 (Nat.le_of_ble_eq_true rfl) rfl ?_
  refine qi_aload_n (i := 0) (x := 280) dX12_tellsBy_16 rfl rfl ?_
  refine qi_getR (x := 310) flX12_106 dX12_tellsBy_17 rfl (by decide) (hM 280 43 310 rfl) ?_
  refine qi_bipush (v := 17) dX12_tellsBy_20 rfl ?_
  refine qi_aload_n (i := 0) (x := 280) dX12_tellsBy_22 rfl rfl ?_
  refine qi_getI (x := M.1 280 18) flX12_248 dX12_tellsBy_23 rfl (by decide) rfl ?_
  refine qe_top (y := nI L) eL ?_
  refine qi_imul dX12_tellsBy_26 ?_
  refine qi_iload_n (i := 1) (x := nI k) dX12_tellsBy_27 rfl rfl ?_
  refine qi_iadd dX12_tellsBy_28 ?_
  refine qe_top (y := nI (17 * L + k)) (by rw [show (17 : Int32) = nI 17 from rfl, pk_mul, nI_add]) ?_
  refine qi_ialdN (x := M.1 310 (17 * L + k)) (j := 17 * L + k) dX12_tellsBy_29 rfl (by decide) rfl (by omega) (by decide) rfl ?_
  refine qe_top (y := nI ly) el ?_
  refine qi_istore (i := 7) (L2 := [some (.ref 280), some (.int (nI k)), some (.int share), some (.int sent), some (.int which), some (.int most), some (.int (nI fi)), some (.int (nI ly)), none, none, none]) dX12_tellsBy_30 (Nat.le_of_ble_eq_true rfl) rfl ?_
  refine qi_aload_n (i := 0) (x := 280) dX12_tellsBy_32 rfl rfl ?_
  refine qi_getR (x := 319) flX12_134 dX12_tellsBy_33 rfl (by decide) (hM 280 55 319 rfl) ?_
  refine qi_iconst (v := 0) dX12_tellsBy_36 rfl ?_
  refine qi_aload_n (i := 0) (x := 280) dX12_tellsBy_37 rfl rfl ?_
  refine qi_getR (x := 322) flX12_143 dX12_tellsBy_38 rfl (by decide) (hM 280 59 322 rfl) ?_
  refine qi_bipush (v := 64) dX12_tellsBy_41 rfl ?_
  refine qi_ialdN (x := M.1 322 64) (j := 64) dX12_tellsBy_43 rfl (by decide) rfl (by omega) (by decide) rfl ?_
  refine qe_top (y := ρ 64) (hR 64 (by omega)) ?_
  refine qi_iastN (j := 0) dX12_tellsBy_44 rfl (by decide) rfl (by omega) (by decide) ?_
  refine qi_aload_n (i := 0) (x := 280) dX12_tellsBy_45 rfl rfl ?_
  refine qi_getR (x := 319) flX12_134 dX12_tellsBy_46 rfl (by decide) (hM 280 55 319 rfl) ?_
  refine qi_iconst (v := 1) dX12_tellsBy_49 rfl ?_
  refine qi_aload_n (i := 0) (x := 280) dX12_tellsBy_50 rfl rfl ?_
  generalize eMa : wI M 319 0 (ρ 64) = Ma
  have hfa : qFr SV M Ma := by rw [← eMa]; exact qFr.rf.wI (Or.inl rfl)
  have hMa : qRf Ma := hM.fr hfa
  refine qi_callPVI (v := allF ρ) (K' := kX12_allDrops) (As := []) mlX12_352 okX12_allDrops dX12_tellsBy_51 (c_X12_allDrops g hMa (hR.frV hfa)) rfl (by decide) rfl (by decide) rfl rfl (Nat.le_of_ble_eq_true rfl) ⟨(Nat.le_of_ble_eq_true rfl), (Nat.le_of_ble_eq_true rfl)⟩ ⟨Nat.le_refl _, Nat.le_refl _⟩ ?_
  have ra : ∀ j, j < 66 → Ma.1 322 j = ρ j := hR.frV hfa
  have oa : ∀ c j, c ≠ 319 → Ma.1 c j = M.1 c j := fun c j h => by rw [← eMa]; exact wI_a h
  have a0 : Ma.1 319 0 = ρ 64 := by rw [← eMa]; exact wI_s _ _ _ _
  refine qi_iastN (j := 1) dX12_tellsBy_54 rfl (by decide) rfl (by omega) (by decide) ?_
  refine qi_aload_n (i := 0) (x := 280) dX12_tellsBy_55 rfl rfl ?_
  refine qi_getR (x := 319) flX12_134 dX12_tellsBy_56 rfl (by decide) (hMa 280 55 319 rfl) ?_
  refine qi_iconst (v := 2) dX12_tellsBy_59 rfl ?_
  refine qi_aload_n (i := 0) (x := 280) dX12_tellsBy_60 rfl rfl ?_
  refine qi_getR (x := 322) flX12_143 dX12_tellsBy_61 rfl (by decide) (hMa 280 59 322 rfl) ?_
  refine qi_bipush (v := 65) dX12_tellsBy_64 rfl ?_
  refine qi_ialdN (x := (wI Ma 319 1 (allF ρ)).1 322 65) (j := 65) dX12_tellsBy_66 rfl (by decide) rfl (by omega) (by decide) rfl ?_
  refine qe_top (y := ρ 65) (by rw [wI_a (by omega)]; exact ra 65 (by omega)) ?_
  refine qi_iastN (j := 2) dX12_tellsBy_67 rfl (by decide) rfl (by omega) (by decide) ?_
  refine qi_aload_n (i := 0) (x := 280) dX12_tellsBy_68 rfl rfl ?_
  refine qi_getR (x := 319) flX12_134 dX12_tellsBy_69 rfl (by decide) (hMa 280 55 319 rfl) ?_
  refine qi_iconst (v := 3) dX12_tellsBy_72 rfl ?_
  refine qi_iload_n (i := 2) (x := share) dX12_tellsBy_73 rfl rfl ?_
  refine qi_iastN (j := 3) dX12_tellsBy_74 rfl (by decide) rfl (by omega) (by decide) ?_
  refine qi_aload_n (i := 0) (x := 280) dX12_tellsBy_75 rfl rfl ?_
  refine qi_getR (x := 319) flX12_134 dX12_tellsBy_76 rfl (by decide) (hMa 280 55 319 rfl) ?_
  refine qi_iconst (v := 4) dX12_tellsBy_79 rfl ?_
  refine qi_iload_n (i := 3) (x := sent) dX12_tellsBy_80 rfl rfl ?_
  refine qi_iastN (j := 4) dX12_tellsBy_81 rfl (by decide) rfl (by omega) (by decide) ?_
  refine qi_aload_n (i := 0) (x := 280) dX12_tellsBy_82 rfl rfl ?_
  refine qi_getR (x := 319) flX12_134 dX12_tellsBy_83 rfl (by decide) (hMa 280 55 319 rfl) ?_
  refine qi_iconst (v := 5) dX12_tellsBy_86 rfl ?_
  refine qi_aload_n (i := 0) (x := 280) dX12_tellsBy_87 rfl rfl ?_
  refine qi_getR (x := 308) flX12_100 dX12_tellsBy_88 rfl (by decide) (hMa 280 41 308 rfl) ?_
  refine qi_aload_n (i := 0) (x := 280) dX12_tellsBy_91 rfl rfl ?_
  refine qi_getI (x := (wI (wI (wI (wI Ma 319 1 (allF ρ)) 319 2 (ρ 65)) 319 3 share) 319 4 sent).1 280 18) flX12_248 dX12_tellsBy_92 rfl (by decide) rfl ?_
  refine qe_top (y := nI L) (by simp only [wI_1]; rw [if_neg (by omega), if_neg (by omega), if_neg (by omega), if_neg (by omega), oa _ _ (by omega)]; exact eL) ?_
  refine qi_ialdN (x := (wI (wI (wI (wI Ma 319 1 (allF ρ)) 319 2 (ρ 65)) 319 3 share) 319 4 sent).1 308 L) (j := L) dX12_tellsBy_95 rfl (by decide) rfl (by omega) (by decide) rfl ?_
  refine qe_top (y := nI (π.1 5)) (by simp only [wI_1]; rw [if_neg (by omega), if_neg (by omega), if_neg (by omega), if_neg (by omega), oa _ _ (by omega)]; exact eS) ?_
  refine qi_bipush (v := 20) dX12_tellsBy_96 rfl ?_
  refine qi_aload_n (i := 0) (x := 280) dX12_tellsBy_98 rfl rfl ?_
  refine qi_getR (x := 322) flX12_143 dX12_tellsBy_99 rfl (by decide) (hMa 280 59 322 rfl) ?_
  refine qi_bipush (v := 64) dX12_tellsBy_102 rfl ?_
  refine qi_ialdN (x := (wI (wI (wI (wI Ma 319 1 (allF ρ)) 319 2 (ρ 65)) 319 3 share) 319 4 sent).1 322 64) (j := 64) dX12_tellsBy_104 rfl (by decide) rfl (by omega) (by decide) rfl ?_
  refine qe_top (y := ρ 64) (by simp only [wI_1]; rw [if_neg (by omega), if_neg (by omega), if_neg (by omega), if_neg (by omega)]; exact ra 64 (by omega)) ?_
  refine qi_imul dX12_tellsBy_105 ?_
  refine qi_iload (i := 4) (x := which) dX12_tellsBy_106 rfl ?_
  refine qi_iadd dX12_tellsBy_108 ?_
  refine qi_sipush (v := 1000) dX12_tellsBy_109 rfl ?_
  refine qi_callPSI (v := lotF (nI (π.1 5)) (20 * ρ 64 + which)) (K' := kX12_lot) (As := [.int (nI (π.1 5)), .int ((20 * (ρ 64)) + which), .int 1000]) mlX12_355 okX12_lot dX12_tellsBy_112 (c_X12_lot g (nI (π.1 5)) (20 * ρ 64 + which)) rfl rfl (Nat.le_of_ble_eq_true rfl) ⟨(Nat.le_of_ble_eq_true rfl), (Nat.le_of_ble_eq_true rfl)⟩ ⟨Nat.le_refl _, Nat.le_refl _⟩ ?_
  refine qi_iastN (j := 5) dX12_tellsBy_115 rfl (by decide) rfl (by omega) (by decide) ?_
  refine qi_aload_n (i := 0) (x := 280) dX12_tellsBy_116 rfl rfl ?_
  refine qi_iconst (v := 0) dX12_tellsBy_117 rfl ?_
  refine qi_putI flX12_334 q_cls12 (ty12_57 _ (Or.inl rfl)) dX12_tellsBy_118 rfl (by decide) ?_
  refine qi_iload (i := 6) (x := nI fi) dX12_tellsBy_121 rfl ?_
  refine qi_istore (i := 8) (L2 := [some (.ref 280), some (.int (nI k)), some (.int share), some (.int sent), some (.int which), some (.int most), some (.int (nI fi)), some (.int (nI ly)), some (.int (nI fi)), none, none]) dX12_tellsBy_123 (Nat.le_of_ble_eq_true rfl) rfl ?_
  generalize eMb : wI (wI (wI (wI (wI (wI Ma 319 1 (allF ρ)) 319 2 (ρ 65)) 319 3 share) 319 4 sent) 319 5 (lotF (nI (π.1 5)) (20 * ρ 64 + which))) 280 57 0 = Mb
  have hfb : qFr SV M Mb := by
    rw [← eMb]
    refine ((((((hfa.wI ?_).wI ?_).wI ?_).wI ?_).wI ?_).wI ?_) <;> unfold SV <;> omega
  have hvb : ∀ i, i < 6 → Mb.1 319 i = v i := by
    intro i hi
    rw [← eMb, hve]
    rcases (show i = 0 ∨ i = 1 ∨ i = 2 ∨ i = 3 ∨ i = 4 ∨ i = 5 by omega) with rfl | rfl | rfl | rfl | rfl | rfl <;> simp [wI_1, varsF, a0]
  have hzb : Mb.1 280 57 = 0 := by rw [← eMb]; exact wI_s _ _ _ _
  have hMb := hM.fr hfb
  rcases hcase with ⟨e1, e2⟩ | e1
  · skip
    refine qi_iload (i := 8) (x := nI fi) dX12_tellsBy_125 rfl ?_
    refine qi_iload (i := 7) (x := nI ly) dX12_tellsBy_127 rfl ?_
    refine qi_icmp_ge (tgt := 258) dX12_tellsBy_129 (by decide) (fun _hc => ?_) (fun _h => absurd ((nI_leI (a := ly) (b := fi) (by omega) (by omega)).mpr (by omega)) _h)
    refine qi_iconst (v := 0) dX12_tellsBy_258 rfl ?_
    exact qi_retI rfl rfl dX12_tellsBy_259 (⟨by rw [e2]; exact (clamp0 hm).symm, hfb⟩)
  · exact K (ly - fi) fi ly Mb _ _ _ (by omega) hly hvb hzb hfb e1
theorem SV_SM {b j : Nat} (h : SV b j) : SM b j := by
  unfold SV at h
  unfold SM
  omega
theorem qPlanM.fr {M M' : qM} {L : Nat} {π : qPl} (h : qPlanM M L π) (hf : qFr SM M M') : qPlanM M' L π := by
  have e : ∀ c j, (c ≠ 319 ∧ c ≠ 320 ∧ c ≠ 322 ∧ c ≠ 323 ∧ c ≠ 324 ∧ (c = 280 → j ≠ 57 ∧ j ≠ 60 ∧ j ≠ 61)) → M'.1 c j = M.1 c j := fun c j hc => hf.1 c j (by unfold SM; omega)
  have er : ∀ c, (c ≠ 319 ∧ c ≠ 320 ∧ c ≠ 322 ∧ c ≠ 323 ∧ c ≠ 324 ∧ c ≠ 280) → M'.1 c = M.1 c := fun c hc => funext fun j => e c j (by omega)
  have eC : ∀ v i j, cellsP M' v i j = cellsP M v i j := fun v i j => by unfold cellsP; rw [er 316 (by omega), er 317 (by omega)]
  have eB : ∀ v n b, runB M' v n b = runB M v n b := by
    intro v n
    induction n with
    | zero => intro b; rfl
    | succ n ih =>
      intro b
      rw [runB_s, runB_s]
      simp only [brAt, eC, ih, er 311 (by omega), er 312 (by omega), er 313 (by omega), er 314 (by omega), er 315 (by omega)]
  have eL : ∀ i f, qLawM M i f → qLawM M' i f := fun i f ⟨x, y, h1, h2, h3, h4, h5⟩ => ⟨x, y, by rw [er 309 (by omega)]; exact h1, by rw [er 310 (by omega)]; exact h2, h3, h4, fun v => by rw [eB]; exact h5 v⟩
  obtain ⟨⟨a1, a2⟩, ⟨b1, b2, b3, b4, b5, b6⟩, c1, c2, c3, d1, d2⟩ := h
  refine ⟨⟨a1, by rw [e _ _ (by omega)]; exact a2⟩, ⟨by rw [e _ _ (by omega)]; exact b1, by rw [e _ _ (by omega)]; exact b2, by rw [e _ _ (by omega)]; exact b3, by rw [e _ _ (by omega)]; exact b4, by rw [e _ _ (by omega)]; exact b5, by rw [e _ _ (by omega)]; exact b6⟩, fun c i hc hi => by rw [e _ _ (by omega)]; exact c1 c i hc hi, fun c i hc hi => by rw [e _ _ (by omega)]; exact c2 c i hc hi, fun c i hc hi => by rw [e _ _ (by omega)]; exact c3 c i hc hi, fun k hk => eL _ _ (d1 k hk), ?_⟩
  rcases d2 with ⟨x, y, z⟩ | x
  · exact Or.inl ⟨by rw [e _ _ (by omega)]; exact x, by rw [e _ _ (by omega)]; exact y, z⟩
  · exact Or.inr (eL _ _ x)
/-- who is away in this week -/
def awayF (sil sw week : Int32) : Int32 := if sw = -1 ∨ sw = week then sil else -1
set_option maxHeartbeats 1000000 in
theorem c_X12_tellsNow (g : qG) {M : qM} (hM : qRf M) {ρ : Nat → Int32} (hR : qRow M ρ) {L k : Nat} {π : qPl} (hP : qPlanM M L π) (hok : okPl π) (hk : k < π.1 2) {sil sw : Int32} (hsil : M.1 280 60 = sil) (hsw : M.1 280 61 = sw) : qI g 3 kX12_tellsNow [.ref 280, .int (nI k)] M (fun r M' => r = (if nI (π.2.1 6 k) = awayF sil sw (ρ 64) then 0 else tellF π ρ k) ∧ qFr SV M M') := by
  have hL := hP.1.1
  have hk2 := hok.2.2.1
  have hkk := (hok.2.2.2.2.2.2.2.2 k hk).1
  have hh8 := hok.2.1
  have e6 := hP.2.2.2.2.1 0 k (by omega) hk
  have T : ¬ nI (π.2.1 6 k) = awayF sil sw (ρ 64) → qT g kX12_tellsNow (qR 3 0 0) (qZI g (fun r M' => r = (if nI (π.2.1 6 k) = awayF sil sw (ρ 64) then 0 else tellF π ρ k) ∧ qFr SV M M')) 47 [some (.ref 280), some (.int (nI k)), some (.int (nI (π.2.1 6 k)))] [] 333 M (0, 0) := by
    intro hn
    rw [if_neg hn]
    refine qi_aload_n (i := 0) (x := 280) dX12_tellsNow_47 rfl rfl ?_
    refine qi_iload_n (i := 1) (x := nI k) dX12_tellsNow_48 rfl rfl ?_
    refine qi_aload_n (i := 0) (x := 280) dX12_tellsNow_49 rfl rfl ?_
    refine qi_getR (x := 322) flX12_143 dX12_tellsNow_50 rfl (by decide) (hM 280 59 322 rfl) ?_
    refine qi_bipush (v := 48) dX12_tellsNow_53 rfl ?_
    refine qi_iload_n (i := 2) (x := nI (π.2.1 6 k)) dX12_tellsNow_55 rfl rfl ?_
    refine qi_iadd dX12_tellsNow_56 ?_
    refine qe_top (y := nI (48 + π.2.1 6 k)) (by rw [show (48 : Int32) = nI 48 from rfl, nI_add]) ?_
    refine qi_ialdN (x := M.1 322 (48 + π.2.1 6 k)) (j := 48 + π.2.1 6 k) dX12_tellsNow_57 rfl (by decide) rfl (by omega) (by decide) rfl ?_
    refine qe_top (y := ρ (48 + π.2.1 6 k)) (hR _ (by omega)) ?_
    refine qi_aload_n (i := 0) (x := 280) dX12_tellsNow_58 rfl rfl ?_
    refine qi_getR (x := 322) flX12_143 dX12_tellsNow_59 rfl (by decide) (hM 280 59 322 rfl) ?_
    refine qi_bipush (v := 56) dX12_tellsNow_62 rfl ?_
    refine qi_iload_n (i := 2) (x := nI (π.2.1 6 k)) dX12_tellsNow_64 rfl rfl ?_
    refine qi_iadd dX12_tellsNow_65 ?_
    refine qe_top (y := nI (56 + π.2.1 6 k)) (by rw [show (56 : Int32) = nI 56 from rfl, nI_add]) ?_
    refine qi_ialdN (x := M.1 322 (56 + π.2.1 6 k)) (j := 56 + π.2.1 6 k) dX12_tellsNow_66 rfl (by decide) rfl (by omega) (by decide) rfl ?_
    refine qe_top (y := ρ (56 + π.2.1 6 k)) (hR _ (by omega)) ?_
    refine qi_iload_n (i := 1) (x := nI k) dX12_tellsNow_67 rfl rfl ?_
    refine qi_bipush (v := 99) dX12_tellsNow_68 rfl ?_
    refine qi_callVI (K' := kX12_tellsBy) (As := [.int (nI k), .int (ρ (48 + π.2.1 6 k)), .int (ρ (56 + π.2.1 6 k)), .int (nI k), .int 99]) mlX12_361 okX12_tellsBy dX12_tellsNow_70 (c_X12_tellsBy g hM hR hP hok (by omega) (Or.inr (hP.2.2.2.2.2.1 k hk)) _ _ _ (by decide)) rfl (by decide) rfl (by decide) rfl rfl (Nat.le_of_ble_eq_true rfl) ⟨(Nat.le_of_ble_eq_true rfl), (Nat.le_of_ble_eq_true rfl)⟩ ⟨Nat.le_refl _, Nat.le_refl _⟩ (fun x M2 ⟨ex, hf2⟩ => ?_)
    exact qi_retI rfl rfl dX12_tellsNow_73 (⟨ex, hf2⟩)
  refine qI.of (j := 1) (pn_RX12) rfl ?_
  show qT g kX12_tellsNow (qR 3 0 0) (qZI g (fun r M' => r = (if nI (π.2.1 6 k) = awayF sil sw (ρ 64) then 0 else tellF π ρ k) ∧ qFr SV M M')) 0 [some (.ref 280), some (.int (nI k)), none] [] 333 M (0, 0)
  refine qi_aload_n (i := 0) (x := 280) dX12_tellsNow_0 rfl rfl ?_
  refine qi_getR (x := 300) flX12_76 dX12_tellsNow_1 rfl (by decide) (hM 280 33 300 rfl) ?_
  refine qi_bipush (v := 16) dX12_tellsNow_4 rfl ?_
  refine qi_aload_n (i := 0) (x := 280) dX12_tellsNow_6 rfl rfl ?_
  refine qi_getI (x := M.1 280 18) flX12_248 dX12_tellsNow_7 rfl (by decide) rfl ?_
  refine qe_top (y := nI L) hP.1.2 ?_
  refine qi_imul dX12_tellsNow_10 ?_
  refine qi_iload_n (i := 1) (x := nI k) dX12_tellsNow_11 rfl rfl ?_
  refine qi_iadd dX12_tellsNow_12 ?_
  refine qe_top (y := nI (16 * L + k)) (by rw [show (16 : Int32) = nI 16 from rfl, pk_mul, nI_add]) ?_
  refine qi_ialdN (x := M.1 300 (16 * L + k)) (j := 16 * L + k) dX12_tellsNow_13 rfl (by decide) rfl (by omega) (by decide) rfl ?_
  refine qe_top (y := nI (π.2.1 6 k)) e6 ?_
  refine qi_istore_n (i := 2) (L2 := [some (.ref 280), some (.int (nI k)), some (.int (nI (π.2.1 6 k)))]) dX12_tellsNow_14 rfl (Nat.le_of_ble_eq_true rfl) rfl ?_
  refine qi_iload_n (i := 2) (x := nI (π.2.1 6 k)) dX12_tellsNow_15 rfl rfl ?_
  refine qi_aload_n (i := 0) (x := 280) dX12_tellsNow_16 rfl rfl ?_
  refine qi_getI (x := M.1 280 60) flX12_342 dX12_tellsNow_17 rfl (by decide) rfl ?_
  refine qe_top (y := sil) hsil ?_
  have mne : ¬ nI (π.2.1 6 k) = -1 := nI_m1 (by omega)
  refine qi_icmp_ne (tgt := 47) dX12_tellsNow_20 (by decide) (fun c1 => ?_) (fun c1 => ?_)
  · refine T (fun z => ?_)
    unfold awayF at z
    split at z
    · exact c1 z
    · exact mne z
  · refine qi_aload_n (i := 0) (x := 280) dX12_tellsNow_23 rfl rfl ?_
    refine qi_getI (x := M.1 280 61) flX12_345 dX12_tellsNow_24 rfl (by decide) rfl ?_
    refine qe_top (y := sw) hsw ?_
    refine qi_iconst (v := -1) dX12_tellsNow_27 rfl ?_
    refine qi_icmp_eq (tgt := 45) dX12_tellsNow_28 (by decide) (fun c2 => ?_) (fun c2 => ?_)
    · refine qi_iconst (v := 0) dX12_tellsNow_45 rfl ?_
      exact qi_retI rfl rfl dX12_tellsNow_46 (⟨by unfold awayF; rw [if_pos (Or.inl c2), if_pos c1], qFr.rf⟩)
    · refine qi_aload_n (i := 0) (x := 280) dX12_tellsNow_31 rfl rfl ?_
      refine qi_getI (x := M.1 280 61) flX12_345 dX12_tellsNow_32 rfl (by decide) rfl ?_
      refine qe_top (y := sw) hsw ?_
      refine qi_aload_n (i := 0) (x := 280) dX12_tellsNow_35 rfl rfl ?_
      refine qi_getR (x := 322) flX12_143 dX12_tellsNow_36 rfl (by decide) (hM 280 59 322 rfl) ?_
      refine qi_bipush (v := 64) dX12_tellsNow_39 rfl ?_
      refine qi_ialdN (x := M.1 322 64) (j := 64) dX12_tellsNow_41 rfl (by decide) rfl (by omega) (by decide) rfl ?_
      refine qe_top (y := ρ 64) (hR 64 (by omega)) ?_
      refine qi_icmp_ne (tgt := 47) dX12_tellsNow_42 (by decide) (fun c3 => ?_) (fun c3 => ?_)
      · refine T (fun z => ?_)
        unfold awayF at z
        rw [if_neg (fun q => q.elim c2 c3)] at z
        exact mne z
      · refine qi_iconst (v := 0) dX12_tellsNow_45 rfl ?_
        exact qi_retI rfl rfl dX12_tellsNow_46 (⟨by unfold awayF; rw [if_pos (Or.inr c3), if_pos c1], qFr.rf⟩)
