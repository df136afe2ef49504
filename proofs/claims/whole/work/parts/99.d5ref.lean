/-! the reference's expression -/
set_option maxHeartbeats 2000000 in
theorem c_X12_expression (g : qG) {T : qTk} (hT : okTk T) {M : qM} {S a0 : Nat} {s : Nat × Nat} {N : qNm} {nc ck : Nat} (h0 : qYK M S T a0 s N nc) (ho0 : M.1 280 12 = 0) {cd : Nat} (hcd : cd = 420 * S + ck) (hc0 : M.1 280 50 = nI cd) (hck : ck ≤ a0) : qV g 3 kX12_expression [.ref 280] M (fun M' => qPy S T (exQ T 6 a0) (okX S T s N nc cd) M' ∧ qFr (SE S cd) M M') := by
  generalize hR : exQ T 6 a0 = res
  have hS2 := h0.1.2.2.1
  have hM := h0.1.1
  have MS : ∀ {M1 M2 : qM}, qFr SYt M1 M2 → qFr (SE S cd) M1 M2 := fun h => h.mono (fun b j z => by unfold SYt at z; unfold SE; omega)
  have E88 : ∀ e M1, res = .error e → qYF M1 S T e → qFr (SE S cd) M M1 → qT g kX12_expression (qR 3 0 0) (qZV g (fun M' => qPy S T res (okX S T s N nc cd) M' ∧ qFr (SE S cd) M M')) 88 [some (.ref 280), some (.int 0), some (.int 1)] [] 333 M1 (0, 0) := by
    intro e M1 he hF ff
    have hn := hF.n
    refine qi_aload_n (i := 0) (x := 280) dX12_expression_88 rfl rfl ?_
    refine qi_getI (x := nI e.1) flX12_218 dX12_expression_89 rfl (by decide) hF.2.2.1 ?_
    refine qi_if_le (tgt := 96) dX12_expression_92 (by decide) (fun _h => absurd ((nI_leI (a := e.1) (b := 0) (by omega) (by omega)).mp _h) (by omega)) (fun _hc => ?_)
    exact qi_retV rfl dX12_expression_95 (⟨qPy_ie he hF, ff⟩)
  have E23 : ∀ e M1, res = .error e → qYF M1 S T e → qFr (SE S cd) M M1 → qT g kX12_expression (qR 3 0 0) (qZV g (fun M' => qPy S T res (okX S T s N nc cd) M' ∧ qFr (SE S cd) M M')) 23 [some (.ref 280), some (.int 0), some (.int 1)] [] 333 M1 (0, 0) := by
    intro e M1 he hF ff
    refine qi_aload_n (i := 0) (x := 280) dX12_expression_23 rfl rfl ?_
    refine qi_bipush (v := 6) dX12_expression_24 rfl ?_
    refine qi_callPVI (v := 0) (K' := kX12_is) (As := [.int 6]) mlX12_236 okX12_is dX12_expression_26 (c_X12_isF g hF 6) rfl (by decide) rfl (by decide) rfl rfl (Nat.le_of_ble_eq_true rfl) ⟨(Nat.le_of_ble_eq_true rfl), (Nat.le_of_ble_eq_true rfl)⟩ ⟨Nat.le_refl _, Nat.le_refl _⟩ ?_
    refine qi_if_eq (tgt := 84) dX12_expression_29 (by decide) (fun z => ?_) (fun z => False.elim ((z rfl)))
    refine qi_aload_n (i := 0) (x := 280) dX12_expression_84 rfl rfl ?_
    refine qi_callVV (K' := kX12_unit) (As := []) mlX12_327 okX12_unit dX12_expression_85 (c_X12_unitF g hF) rfl (by decide) rfl (by decide) rfl rfl (Nat.le_of_ble_eq_true rfl) ⟨(Nat.le_of_ble_eq_true rfl), (Nat.le_of_ble_eq_true rfl)⟩ ⟨Nat.le_refl _, Nat.le_refl _⟩ (fun M2 e2 => ?_)
    rw [e2]
    exact E88 e M1 he hF ff
  have E12 : ∀ e M1, res = .error e → qYF M1 S T e → qFr (SE S cd) M M1 → qT g kX12_expression (qR 3 0 0) (qZV g (fun M' => qPy S T res (okX S T s N nc cd) M' ∧ qFr (SE S cd) M M')) 12 [some (.ref 280), some (.int 0), some (.int 1)] [] 333 M1 (0, 0) := by
    intro e M1 he hF ff
    have hn := hF.n
    refine qi_iload_n (i := 2) (x := 1) dX12_expression_12 rfl rfl ?_
    refine qi_if_eq (tgt := 272) dX12_expression_13 (by decide) (fun _h => absurd ((nI_eq (a := 1) (b := 0) (by omega) (by omega)).mp _h) (by omega)) (fun _hc => ?_)
    refine qi_aload_n (i := 0) (x := 280) dX12_expression_16 rfl rfl ?_
    refine qi_getI (x := nI e.1) flX12_218 dX12_expression_17 rfl (by decide) hF.2.2.1 ?_
    refine qi_if_ne (tgt := 272) dX12_expression_20 (by decide) (fun _hc => ?_) (fun _h => absurd ((nI_eq (a := e.1) (b := 0) (by omega) (by omega)).mp _h) (by omega))
    exact qi_retV rfl dX12_expression_272 (⟨qPy_ie he hF, ff⟩)
  have E204 : ∀ e M1 W n x2, res = .error e → qYF M1 S T e → wtS M1 W → okW W → W.length ≤ 64 → M1.1 280 50 = nI (cd + n) → ck + n + W.length ≤ 420 → qFr (SE S cd) M M1 → qT g kX12_expression (qR 3 0 0) (qZV g (fun M' => qPy S T res (okX S T s N nc cd) M' ∧ qFr (SE S cd) M M')) 204 [some (.ref 280), some (.int 0), x2] [] 333 M1 (0, 0) := by
    intro e M1 W n x2 he hF hw hok hl hc hb ff
    obtain ⟨B, R, hW, hR6, hB⟩ := dec_W W
    have hl2 : B.length + R.length = W.length := by rw [hW, List.length_append, List.length_reverse]
    subst hW
    have hM1 := hF.1.1
    refine qi_aload_n (i := 0) (x := 280) dX12_expression_204 rfl rfl ?_
    refine qi_iconst (v := 0) dX12_expression_205 rfl ?_
    refine qi_callVV (K' := kX12_comesOut) (As := [.int 0]) mlX12_330 okX12_comesOut dX12_expression_206 (c_X12_comesOut g hM1 (Or.inl rfl) hw (by omega) hok.lt (hB.imp id (fun ⟨B', h⟩ => ⟨B', 6, h, Or.inl rfl⟩)) (fun r hr z => z.elim (fun z => hR6 r hr z) (fun z => absurd z.1 (by decide))) hc (by omega)) rfl (by decide) rfl (by decide) rfl rfl (Nat.le_of_ble_eq_true rfl) ⟨(Nat.le_of_ble_eq_true rfl), (Nat.le_of_ble_eq_true rfl)⟩ ⟨Nat.le_refl _, Nat.le_refl _⟩ (fun M2 ⟨w2, c2, r2, f2⟩ => ?_)
    exact qi_retV rfl dX12_expression_209 (⟨qPy_ie he (hF.fr f2 (fun b j z => by unfold SCo at z; omega)), ff.tr (f2.mono (fun b j z => by unfold SCo at z; unfold SE; omega))⟩)
  have E96 : ∀ e M1 W n o, res = .error e → qYF M1 S T e → wtS M1 W → okW W → W.length ≤ 64 → M1.1 280 50 = nI (cd + n) → ck + n + W.length ≤ 420 → M1.1 280 12 = nI o → o ≤ 7 → qFr (SE S cd) M M1 → qT g kX12_expression (qR 3 0 0) (qZV g (fun M' => qPy S T res (okX S T s N nc cd) M' ∧ qFr (SE S cd) M M')) 96 [some (.ref 280), some (.int 0), some (.int 1)] [] 333 M1 (0, 0) := by
    intro e M1 W n o he hF hw hok hl hc hb hop ho7 ff
    refine qi_aload_n (i := 0) (x := 280) dX12_expression_96 rfl rfl ?_
    refine qi_bipush (v := 7) dX12_expression_97 rfl ?_
    refine qi_callPVI (v := 0) (K' := kX12_is) (As := [.int 7]) mlX12_236 okX12_is dX12_expression_99 (c_X12_isF g hF 7) rfl (by decide) rfl (by decide) rfl rfl (Nat.le_of_ble_eq_true rfl) ⟨(Nat.le_of_ble_eq_true rfl), (Nat.le_of_ble_eq_true rfl)⟩ ⟨Nat.le_refl _, Nat.le_refl _⟩ ?_
    refine qi_if_eq (tgt := 145) dX12_expression_102 (by decide) (fun z => ?_) (fun z => False.elim ((z rfl)))
    refine qi_aload_n (i := 0) (x := 280) dX12_expression_145 rfl rfl ?_
    refine qi_bipush (v := 8) dX12_expression_146 rfl ?_
    refine qi_callPVI (v := 0) (K' := kX12_is) (As := [.int 8]) mlX12_236 okX12_is dX12_expression_148 (c_X12_isF g hF 8) rfl (by decide) rfl (by decide) rfl rfl (Nat.le_of_ble_eq_true rfl) ⟨(Nat.le_of_ble_eq_true rfl), (Nat.le_of_ble_eq_true rfl)⟩ ⟨Nat.le_refl _, Nat.le_refl _⟩ ?_
    refine qi_if_ne (tgt := 181) dX12_expression_151 (by decide) (fun z => False.elim ((z rfl))) (fun z => ?_)
    refine qi_aload_n (i := 0) (x := 280) dX12_expression_154 rfl rfl ?_
    refine qi_bipush (v := 9) dX12_expression_155 rfl ?_
    refine qi_callPVI (v := 0) (K' := kX12_is) (As := [.int 9]) mlX12_236 okX12_is dX12_expression_157 (c_X12_isF g hF 9) rfl (by decide) rfl (by decide) rfl rfl (Nat.le_of_ble_eq_true rfl) ⟨(Nat.le_of_ble_eq_true rfl), (Nat.le_of_ble_eq_true rfl)⟩ ⟨Nat.le_refl _, Nat.le_refl _⟩ ?_
    refine qi_if_ne (tgt := 181) dX12_expression_160 (by decide) (fun z => False.elim ((z rfl))) (fun z => ?_)
    refine qi_aload_n (i := 0) (x := 280) dX12_expression_163 rfl rfl ?_
    refine qi_bipush (v := 10) dX12_expression_164 rfl ?_
    refine qi_callPVI (v := 0) (K' := kX12_is) (As := [.int 10]) mlX12_236 okX12_is dX12_expression_166 (c_X12_isF g hF 10) rfl (by decide) rfl (by decide) rfl rfl (Nat.le_of_ble_eq_true rfl) ⟨(Nat.le_of_ble_eq_true rfl), (Nat.le_of_ble_eq_true rfl)⟩ ⟨Nat.le_refl _, Nat.le_refl _⟩ ?_
    refine qi_if_ne (tgt := 181) dX12_expression_169 (by decide) (fun z => False.elim ((z rfl))) (fun z => ?_)
    refine qi_aload_n (i := 0) (x := 280) dX12_expression_172 rfl rfl ?_
    refine qi_bipush (v := 15) dX12_expression_173 rfl ?_
    refine qi_callPVI (v := 0) (K' := kX12_is) (As := [.int 15]) mlX12_236 okX12_is dX12_expression_175 (c_X12_isF g hF 15) rfl (by decide) rfl (by decide) rfl rfl (Nat.le_of_ble_eq_true rfl) ⟨(Nat.le_of_ble_eq_true rfl), (Nat.le_of_ble_eq_true rfl)⟩ ⟨Nat.le_refl _, Nat.le_refl _⟩ ?_
    refine qi_if_eq (tgt := 185) dX12_expression_178 (by decide) (fun z => ?_) (fun z => False.elim ((z rfl)))
    refine qi_iconst (v := 0) dX12_expression_185 rfl ?_
    refine qi_istore_n (i := 2) (L2 := [some (.ref 280), some (.int 0), some (.int 0)]) dX12_expression_186 rfl (Nat.le_of_ble_eq_true rfl) rfl ?_
    refine qi_iload_n (i := 2) (x := 0) dX12_expression_187 rfl rfl ?_
    refine qi_if_ne (tgt := 210) dX12_expression_188 (by decide) (fun _h => absurd ((nI_eq (a := 0) (b := 0) (by omega) (by omega)).mpr (by omega)) _h) (fun _hc => ?_)
    refine qi_aload_n (i := 0) (x := 280) dX12_expression_191 rfl rfl ?_
    refine qi_getI (x := nI o) flX12_245 dX12_expression_192 rfl (by decide) hop ?_
    refine qi_iload_n (i := 1) (x := 0) dX12_expression_195 rfl rfl ?_
    by_cases c : o ≤ 0
    ·
      refine qi_icmp_le (tgt := 204) dX12_expression_196 (by decide) (fun _hc => ?_) (fun _h => absurd ((nI_leI (a := o) (b := 0) (by omega) (by omega)).mpr (by omega)) _h)
      exact E204 e M1 W n _ he hF hw hok hl hc hb ff
    ·
      refine qi_icmp_le (tgt := 204) dX12_expression_196 (by decide) (fun _h => absurd ((nI_leI (a := o) (b := 0) (by omega) (by omega)).mp _h) (by omega)) (fun _hc => ?_)
      refine qi_aload_n (i := 0) (x := 280) dX12_expression_199 rfl rfl ?_
      refine qi_iconst (v := 1) dX12_expression_200 rfl ?_
      refine qi_callVV (K' := kX12_fail) (As := [.int 1]) mlX12_233 okX12_fail dX12_expression_201 (c_X12_failF g hF 1) rfl (by decide) rfl (by decide) rfl rfl (Nat.le_of_ble_eq_true rfl) ⟨(Nat.le_of_ble_eq_true rfl), (Nat.le_of_ble_eq_true rfl)⟩ ⟨Nat.le_refl _, Nat.le_refl _⟩ (fun M2 e2 => ?_)
      rw [e2]
      exact E204 e M1 W n _ he hF hw hok hl hc hb ff
  have MOR : ∀ a M1, qYK M1 S T a s N nc → ((kAt T a = 43 ∨ kAt T a = 45 ∨ kAt T a = 42 ∨ kAt T a = 47) → qT g kX12_expression (qR 3 0 0) (qZV g (fun M' => qPy S T res (okX S T s N nc cd) M' ∧ qFr (SE S cd) M M')) 187 [some (.ref 280), some (.int 0), some (.int 1)] [] 333 M1 (0, 0)) → (¬ (kAt T a = 43 ∨ kAt T a = 45 ∨ kAt T a = 42 ∨ kAt T a = 47) → qT g kX12_expression (qR 3 0 0) (qZV g (fun M' => qPy S T res (okX S T s N nc cd) M' ∧ qFr (SE S cd) M M')) 187 [some (.ref 280), some (.int 0), some (.int 0)] [] 333 M1 (0, 0)) → qT g kX12_expression (qR 3 0 0) (qZV g (fun M' => qPy S T res (okX S T s N nc cd) M' ∧ qFr (SE S cd) M M')) 145 [some (.ref 280), some (.int 0), some (.int 1)] [] 333 M1 (0, 0) := by
    intro a M1 hK h1 h2
    have YES : (kAt T a = 43 ∨ kAt T a = 45 ∨ kAt T a = 42 ∨ kAt T a = 47) → qT g kX12_expression (qR 3 0 0) (qZV g (fun M' => qPy S T res (okX S T s N nc cd) M' ∧ qFr (SE S cd) M M')) 181 [some (.ref 280), some (.int 0), some (.int 1)] [] 333 M1 (0, 0) := by
      intro hy
      refine qi_iconst (v := 1) dX12_expression_181 rfl ?_
      refine qi_goto (tgt := 186) dX12_expression_182 (by decide) ?_
      refine qi_istore_n (i := 2) (L2 := [some (.ref 280), some (.int 0), some (.int 1)]) dX12_expression_186 rfl (Nat.le_of_ble_eq_true rfl) rfl ?_
      exact h1 hy
    refine qi_aload_n (i := 0) (x := 280) dX12_expression_145 rfl rfl ?_
    refine qi_bipush (v := 8) dX12_expression_146 rfl ?_
    refine qi_callPVI (v := (if kAt T a = 43 then 1 else 0)) (K' := kX12_is) (As := [.int 8]) mlX12_236 okX12_is dX12_expression_148 (c_X12_is g hT hK (k := 43) (by decide)) rfl (by decide) rfl (by decide) rfl rfl (Nat.le_of_ble_eq_true rfl) ⟨(Nat.le_of_ble_eq_true rfl), (Nat.le_of_ble_eq_true rfl)⟩ ⟨Nat.le_refl _, Nat.le_refl _⟩ ?_
    by_cases c43 : kAt T a = 43
    ·
      rw [if_pos c43]
      refine qi_if_ne (tgt := 181) dX12_expression_151 (by decide) (fun z => ?_) (fun z => False.elim ((by cases z)))
      exact YES (Or.inl c43)
    rw [if_neg c43]
    refine qi_if_ne (tgt := 181) dX12_expression_151 (by decide) (fun z => False.elim ((z rfl))) (fun z => ?_)
    refine qi_aload_n (i := 0) (x := 280) dX12_expression_154 rfl rfl ?_
    refine qi_bipush (v := 9) dX12_expression_155 rfl ?_
    refine qi_callPVI (v := (if kAt T a = 45 then 1 else 0)) (K' := kX12_is) (As := [.int 9]) mlX12_236 okX12_is dX12_expression_157 (c_X12_is g hT hK (k := 45) (by decide)) rfl (by decide) rfl (by decide) rfl rfl (Nat.le_of_ble_eq_true rfl) ⟨(Nat.le_of_ble_eq_true rfl), (Nat.le_of_ble_eq_true rfl)⟩ ⟨Nat.le_refl _, Nat.le_refl _⟩ ?_
    by_cases c45 : kAt T a = 45
    ·
      rw [if_pos c45]
      refine qi_if_ne (tgt := 181) dX12_expression_160 (by decide) (fun z => ?_) (fun z => False.elim ((by cases z)))
      exact YES (Or.inr (Or.inl c45))
    rw [if_neg c45]
    refine qi_if_ne (tgt := 181) dX12_expression_160 (by decide) (fun z => False.elim ((z rfl))) (fun z => ?_)
    refine qi_aload_n (i := 0) (x := 280) dX12_expression_163 rfl rfl ?_
    refine qi_bipush (v := 10) dX12_expression_164 rfl ?_
    refine qi_callPVI (v := (if kAt T a = 42 then 1 else 0)) (K' := kX12_is) (As := [.int 10]) mlX12_236 okX12_is dX12_expression_166 (c_X12_is g hT hK (k := 42) (by decide)) rfl (by decide) rfl (by decide) rfl rfl (Nat.le_of_ble_eq_true rfl) ⟨(Nat.le_of_ble_eq_true rfl), (Nat.le_of_ble_eq_true rfl)⟩ ⟨Nat.le_refl _, Nat.le_refl _⟩ ?_
    by_cases c42 : kAt T a = 42
    ·
      rw [if_pos c42]
      refine qi_if_ne (tgt := 181) dX12_expression_169 (by decide) (fun z => ?_) (fun z => False.elim ((by cases z)))
      exact YES (Or.inr (Or.inr (Or.inl c42)))
    rw [if_neg c42]
    refine qi_if_ne (tgt := 181) dX12_expression_169 (by decide) (fun z => False.elim ((z rfl))) (fun z => ?_)
    refine qi_aload_n (i := 0) (x := 280) dX12_expression_172 rfl rfl ?_
    refine qi_bipush (v := 15) dX12_expression_173 rfl ?_
    refine qi_callPVI (v := (if kAt T a = 47 then 1 else 0)) (K' := kX12_is) (As := [.int 15]) mlX12_236 okX12_is dX12_expression_175 (c_X12_is g hT hK (k := 47) (by decide)) rfl (by decide) rfl (by decide) rfl rfl (Nat.le_of_ble_eq_true rfl) ⟨(Nat.le_of_ble_eq_true rfl), (Nat.le_of_ble_eq_true rfl)⟩ ⟨Nat.le_refl _, Nat.le_refl _⟩ ?_
    by_cases c47 : kAt T a = 47
    ·
      rw [if_pos c47]
      refine qi_if_eq (tgt := 185) dX12_expression_178 (by decide) (fun z => False.elim ((by cases z))) (fun z => ?_)
      exact YES (Or.inr (Or.inr (Or.inr c47)))
    rw [if_neg c47]
    refine qi_if_eq (tgt := 185) dX12_expression_178 (by decide) (fun z => ?_) (fun z => False.elim ((z rfl)))
    refine qi_iconst (v := 0) dX12_expression_185 rfl ?_
    refine qi_istore_n (i := 2) (L2 := [some (.ref 280), some (.int 0), some (.int 0)]) dX12_expression_186 rfl (Nat.le_of_ble_eq_true rfl) rfl ?_
    exact h2 (by omega)
  have PUSH : ∀ a1 k W1 o acc2 M1, kAt T a1 = k → ¬ k = 0 → qEX M1 S T a1 s N nc W1 o cd acc2 → W1.length < 64 → qFr (SE S cd) M M1 → (∀ e, acQ T k a1 = .error e → res = .error e) → (∀ a2 M2, acQ T k a1 = .ok a2 → qEX M2 S T a2 s N nc (W1 ++ [kmQ k]) o cd acc2 → qFr (SE S cd) M M2 → qT g kX12_expression (qR 3 0 0) (qZV g (fun M' => qPy S T res (okX S T s N nc cd) M' ∧ qFr (SE S cd) M M')) 23 [some (.ref 280), some (.int 0), some (.int 1)] [] 333 M2 (0, 0)) → qT g kX12_expression (qR 3 0 0) (qZV g (fun M' => qPy S T res (okX S T s N nc cd) M' ∧ qFr (SE S cd) M M')) 237 [some (.ref 280), some (.int 0), some (.int 1)] [] 333 M1 (0, 0) := by
    intro a1 k W1 o acc2 M1 hk hk0 hX hl ff he ho
    obtain ⟨hG, ⟨h2, h3, h4, h5⟩, -⟩ := id hX.1
    obtain ⟨hM1, hE, -, -⟩ := id hG
    have hv := (hE a1 h3 h2).1
    rw [hk] at hv
    have hwt := hX.2.1.1
    refine qi_aload_n (i := 0) (x := 280) dX12_expression_237 rfl rfl ?_
    refine qi_getR (x := 318) flX12_131 dX12_expression_238 rfl (by decide) (hM1 280 53 318 rfl) ?_
    refine qi_aload_n (i := 0) (x := 280) dX12_expression_241 rfl rfl ?_
    refine qi_getI (x := nI W1.length) flX12_321 dX12_expression_242 rfl (by decide) hwt ?_
    refine qi_aload_n (i := 0) (x := 280) dX12_expression_245 rfl rfl ?_
    refine qi_getR (x := 283) flX12_20 dX12_expression_246 rfl (by decide) (hM1 280 5 283 rfl) ?_
    refine qi_aload_n (i := 0) (x := 280) dX12_expression_249 rfl rfl ?_
    refine qi_getI (x := nI a1) flX12_221 dX12_expression_250 rfl (by decide) h4 ?_
    refine qi_ialdN (x := nI (kmQ k)) (j := a1) dX12_expression_253 rfl (by decide) rfl (by omega) (by decide) hv ?_
    refine qi_iastN (j := W1.length) dX12_expression_254 rfl (by decide) rfl (by omega) (by decide) ?_
    refine qi_aload_n (i := 0) (x := 280) dX12_expression_255 rfl rfl ?_
    refine qi_dup dX12_expression_256 ?_
    refine qi_getI (x := nI W1.length) flX12_321 dX12_expression_257 rfl (by decide) ((wI_a (by decide)).trans hwt) ?_
    refine qi_iconst (v := 1) dX12_expression_260 rfl ?_
    refine qi_iadd dX12_expression_261 ?_
    refine qe_top (y := nI (W1.length + 1)) (nI_1 _) ?_
    refine qi_putI flX12_321 q_cls12 (ty12_54 _) dX12_expression_262 rfl (by decide) ?_
    refine qi_aload_n (i := 0) (x := 280) dX12_expression_265 rfl rfl ?_
    have hX2 := hX.push (kmQ k)
    have f2 : qFr (SE S cd) M (wI (wI M1 318 W1.length (nI (kmQ k))) 280 54 (nI (W1.length + 1))) := (ff.wI (by unfold SE; omega)).wI (by unfold SE; omega)
    refine qi_callVV (K' := kX12_goesOn) (As := []) mlX12_239 okX12_goesOn dX12_expression_266 (c_X12_goesOn g hX2.1 hk hk0) rfl (by decide) rfl (by decide) rfl rfl (Nat.le_of_ble_eq_true rfl) ⟨(Nat.le_of_ble_eq_true rfl), (Nat.le_of_ble_eq_true rfl)⟩ ⟨Nat.le_refl _, Nat.le_refl _⟩ (fun M3 ⟨k3, f3⟩ => ?_)
    have f4 := f2.tr (MS f3)
    refine qi_goto (tgt := 12) dX12_expression_269 (by decide) ?_
    cases hA : acQ T k a1 with
    | error e =>
      exact E12 e M3 (he e hA) (qPy_e hA k3) f4
    | ok a2 =>
      have kK := qPy_o hA k3
      refine qi_iload_n (i := 2) (x := 1) dX12_expression_12 rfl rfl ?_
      refine qi_if_eq (tgt := 272) dX12_expression_13 (by decide) (fun _h => absurd ((nI_eq (a := 1) (b := 0) (by omega) (by omega)).mp _h) (by omega)) (fun _hc => ?_)
      refine qi_aload_n (i := 0) (x := 280) dX12_expression_16 rfl rfl ?_
      refine qi_getI (x := nI 0) flX12_218 dX12_expression_17 rfl (by decide) kK.2.1.2.2.2 ?_
      refine qi_if_ne (tgt := 272) dX12_expression_20 (by decide) (fun _h => absurd ((nI_eq (a := 0) (b := 0) (by omega) (by omega)).mpr (by omega)) _h) (fun _hc => ?_)
      exact ho a2 M3 hA (hX2.step kK f3) f4
  have NC : ∀ a o M1, qYK M1 S T a s N nc → M1.1 280 12 = nI o → o ≤ 6 → (kAt T a = 41 → o = 0) → qT g kX12_expression (qR 3 0 0) (qZV g (fun M' => qPy S T res (okX S T s N nc cd) M' ∧ qFr (SE S cd) M M')) 145 [some (.ref 280), some (.int 0), some (.int 1)] [] 333 M1 (0, 0) → qT g kX12_expression (qR 3 0 0) (qZV g (fun M' => qPy S T res (okX S T s N nc cd) M' ∧ qFr (SE S cd) M M')) 96 [some (.ref 280), some (.int 0), some (.int 1)] [] 333 M1 (0, 0) := by
    intro a o M1 hK hop ho6 h41 hk
    refine qi_aload_n (i := 0) (x := 280) dX12_expression_96 rfl rfl ?_
    refine qi_bipush (v := 7) dX12_expression_97 rfl ?_
    refine qi_callPVI (v := (if kAt T a = 41 then 1 else 0)) (K' := kX12_is) (As := [.int 7]) mlX12_236 okX12_is dX12_expression_99 (c_X12_is g hT hK (k := 41) (by decide)) rfl (by decide) rfl (by decide) rfl rfl (Nat.le_of_ble_eq_true rfl) ⟨(Nat.le_of_ble_eq_true rfl), (Nat.le_of_ble_eq_true rfl)⟩ ⟨Nat.le_refl _, Nat.le_refl _⟩ ?_
    by_cases c : kAt T a = 41
    ·
      rw [if_pos c]
      have o0 := h41 c
      refine qi_if_eq (tgt := 145) dX12_expression_102 (by decide) (fun z => False.elim ((by cases z))) (fun z => ?_)
      refine qi_aload_n (i := 0) (x := 280) dX12_expression_105 rfl rfl ?_
      refine qi_getI (x := nI o) flX12_245 dX12_expression_106 rfl (by decide) hop ?_
      refine qi_iload_n (i := 1) (x := 0) dX12_expression_109 rfl rfl ?_
      refine qi_icmp_le (tgt := 145) dX12_expression_110 (by decide) (fun _hc => ?_) (fun _h => absurd ((nI_leI (a := o) (b := 0) (by omega) (by omega)).mpr (by omega)) _h)
      exact hk
    ·
      rw [if_neg c]
      refine qi_if_eq (tgt := 145) dX12_expression_102 (by decide) (fun z => ?_) (fun z => False.elim ((z rfl)))
      exact hk
  have STR : ∀ a x M1, qYK M1 S T a s N nc → ((kAt T a = 42 ∨ kAt T a = 47) ∧ x = 1 ∨ ¬ (kAt T a = 42 ∨ kAt T a = 47) ∧ x = 0) → qT g kX12_expression (qR 3 0 0) (qZV g (fun M' => qPy S T res (okX S T s N nc cd) M' ∧ qFr (SE S cd) M M')) 234 [some (.ref 280), some (.int 0), some (.int 1)] [.int x, .ref 280] 333 M1 (0, 0) → qT g kX12_expression (qR 3 0 0) (qZV g (fun M' => qPy S T res (okX S T s N nc cd) M' ∧ qFr (SE S cd) M M')) 187 [some (.ref 280), some (.int 0), some (.int 1)] [] 333 M1 (0, 0) := by
    intro a x M1 hK hx hk
    refine qi_iload_n (i := 2) (x := 1) dX12_expression_187 rfl rfl ?_
    refine qi_if_ne (tgt := 210) dX12_expression_188 (by decide) (fun z => ?_) (fun z => False.elim ((by cases z)))
    refine qi_aload_n (i := 0) (x := 280) dX12_expression_210 rfl rfl ?_
    refine qi_aload_n (i := 0) (x := 280) dX12_expression_211 rfl rfl ?_
    refine qi_bipush (v := 10) dX12_expression_212 rfl ?_
    refine qi_callPVI (v := (if kAt T a = 42 then 1 else 0)) (K' := kX12_is) (As := [.int 10]) mlX12_236 okX12_is dX12_expression_214 (c_X12_is g hT hK (k := 42) (by decide)) rfl (by decide) rfl (by decide) rfl rfl (Nat.le_of_ble_eq_true rfl) ⟨(Nat.le_of_ble_eq_true rfl), (Nat.le_of_ble_eq_true rfl)⟩ ⟨Nat.le_refl _, Nat.le_refl _⟩ ?_
    by_cases c42 : kAt T a = 42
    ·
      rw [if_pos c42]
      have ex : x = 1 := by
        rcases hx with h | h
        · exact h.2
        · exact absurd (Or.inl c42) h.1
      subst ex
      refine qi_if_ne (tgt := 229) dX12_expression_217 (by decide) (fun z => ?_) (fun z => False.elim ((by cases z)))
      refine qi_iconst (v := 1) dX12_expression_229 rfl ?_
      refine qi_goto (tgt := 234) dX12_expression_230 (by decide) ?_
      exact hk
    rw [if_neg c42]
    refine qi_if_ne (tgt := 229) dX12_expression_217 (by decide) (fun z => False.elim ((z rfl))) (fun z => ?_)
    refine qi_aload_n (i := 0) (x := 280) dX12_expression_220 rfl rfl ?_
    refine qi_bipush (v := 15) dX12_expression_221 rfl ?_
    refine qi_callPVI (v := (if kAt T a = 47 then 1 else 0)) (K' := kX12_is) (As := [.int 15]) mlX12_236 okX12_is dX12_expression_223 (c_X12_is g hT hK (k := 47) (by decide)) rfl (by decide) rfl (by decide) rfl rfl (Nat.le_of_ble_eq_true rfl) ⟨(Nat.le_of_ble_eq_true rfl), (Nat.le_of_ble_eq_true rfl)⟩ ⟨Nat.le_refl _, Nat.le_refl _⟩ ?_
    by_cases c47 : kAt T a = 47
    ·
      rw [if_pos c47]
      have ex : x = 1 := by
        rcases hx with h | h
        · exact h.2
        · exact absurd (Or.inr c47) h.1
      subst ex
      refine qi_if_eq (tgt := 233) dX12_expression_226 (by decide) (fun z => False.elim ((by cases z))) (fun z => ?_)
      refine qi_iconst (v := 1) dX12_expression_229 rfl ?_
      refine qi_goto (tgt := 234) dX12_expression_230 (by decide) ?_
      exact hk
    rw [if_neg c47]
    have ex : x = 0 := by
      rcases hx with h | h
      · omega
      · exact h.2
    subst ex
    refine qi_if_eq (tgt := 233) dX12_expression_226 (by decide) (fun z => ?_) (fun z => False.elim ((z rfl)))
    refine qi_iconst (v := 0) dX12_expression_233 rfl ?_
    exact hk
  have LP : ∀ n, n ≤ 6 → unC S T s N nc cd ck res (fun M1 => qFr (SE S cd) M M1) (fun M1 => qT g kX12_expression (qR 3 0 0) (qZV g (fun M' => qPy S T res (okX S T s N nc cd) M' ∧ qFr (SE S cd) M M')) 23 [some (.ref 280), some (.int 0), some (.int 1)] [] 333 M1 (0, 0)) (fun M1 => qT g kX12_expression (qR 3 0 0) (qZV g (fun M' => qPy S T res (okX S T s N nc cd) M' ∧ qFr (SE S cd) M M')) 96 [some (.ref 280), some (.int 0), some (.int 1)] [] 333 M1 (0, 0)) n → loC S T s N nc cd ck res (fun M1 => qFr (SE S cd) M M1) (fun M1 => qT g kX12_expression (qR 3 0 0) (qZV g (fun M' => qPy S T res (okX S T s N nc cd) M' ∧ qFr (SE S cd) M M')) 23 [some (.ref 280), some (.int 0), some (.int 1)] [] 333 M1 (0, 0)) (fun M1 => qT g kX12_expression (qR 3 0 0) (qZV g (fun M' => qPy S T res (okX S T s N nc cd) M' ∧ qFr (SE S cd) M M')) 96 [some (.ref 280), some (.int 0), some (.int 1)] [] 333 M1 (0, 0)) n := by
    intro n hn hU m
    induction m with
    | zero =>
      intro a ad mu W accP accS M1 had hmu hX hok hen hl hb ff hm
      have := hX.1.2.1.1
      omega
    | succ m ih =>
      intro a ad mu W accP accS M1 had hmu hX hok hen hl hb ff hm hE hO
      have l1 := wl_len ad
      have l2 := wl_len mu
      have lW : (W ++ (wl ad ++ wl mu)).length = W.length + (wl ad).length + (wl mu).length := by rw [List.length_append, List.length_append]; omega
      have okw : okW (W ++ (wl ad ++ wl mu)) := hok.app ((okW.wl had.k).app (okW.wl hmu.k))
      refine hU a (W ++ (wl ad ++ wl mu)) (accP ++ accS) M1 hX okw (by omega) hb ff (fun e he => hE e (by rw [loQ_s, bQ_e he])) (fun v hv M2 hX2 ff2 => ?_)
      obtain ⟨u1, u2, u3⟩ := exS_ok hT hv
      have hK2 := hX2.1
      have hop2 := hX2.2.2.1
      have la : (accP ++ accS ++ v.2).length = (accP ++ accS).length + v.2.length := List.length_append
      have hL : loQ T (unQ T (exS T n)) (m + 1) a ad mu accS = (if kAt T v.1 = 42 ∨ kAt T v.1 = 47 then bQ (acQ T (kAt T v.1) v.1) (fun a2 => loQ T (unQ T (exS T n)) m a2 ad (kAt T v.1) (accS ++ v.2 ++ sgL mu))
      else if kAt T v.1 = 43 ∨ kAt T v.1 = 45 then bQ (acQ T (kAt T v.1) v.1) (fun a2 => loQ T (unQ T (exS T n)) m a2 (kAt T v.1) 0 (accS ++ v.2 ++ sgL mu ++ sgL ad))
      else .ok (v.1, accS ++ v.2 ++ sgL mu ++ sgL ad)) := by rw [loQ_s, bQ_o hv]
      show qT g kX12_expression (qR 3 0 0) (qZV g (fun M' => qPy S T res (okX S T s N nc cd) M' ∧ qFr (SE S cd) M M')) 96 [some (.ref 280), some (.int 0), some (.int 1)] [] 333 M2 (0, 0)
      by_cases cm : kAt T v.1 = 42 ∨ kAt T v.1 = 47
      ·
        rw [if_pos cm] at hL
        have hB : qEX M2 S T v.1 s N nc ((W ++ wl ad) ++ (wl mu).reverse) (6 - n) cd (accP ++ accS ++ v.2) := by
          rw [wl_rev, List.append_assoc]
          exact hX2
        have lB : (W ++ wl ad).length = W.length + (wl ad).length := List.length_append
        have hst : W ++ wl ad = [] ∨ ∃ B' w, W ++ wl ad = B' ++ [w] ∧ stQ 1 w := by
          rcases had with h | h | h
          · subst h
            rcases hen with h | ⟨W', h⟩
            · exact Or.inl (by rw [h]; rfl)
            · exact Or.inr ⟨W', 6, by rw [h]; exact List.append_nil _, Or.inl rfl⟩
          · subst h
            exact Or.inr ⟨W, 8, rfl, Or.inr ⟨rfl, Or.inl rfl⟩⟩
          · subst h
            exact Or.inr ⟨W, 9, rfl, Or.inr ⟨rfl, Or.inr rfl⟩⟩
        refine NC v.1 (6 - n) M2 hK2 hop2 (by omega) (fun z => by omega) (MOR v.1 M2 hK2 (fun _ => STR v.1 1 M2 hK2 (Or.inl ⟨cm, rfl⟩) ?_) (fun z => absurd (by omega) z))
        refine qi_callVV (K' := kX12_comesOut) (As := [.int 1]) mlX12_330 okX12_comesOut dX12_expression_234 (c_X12_comesOut g hK2.1.1 (Or.inr rfl) hB.2.1 (by omega) (by rw [wl_rev, List.append_assoc]; exact okw.lt) hst (wlM_st hmu) hB.2.2.2.1 (by omega)) rfl (by decide) rfl (by decide) rfl rfl (Nat.le_of_ble_eq_true rfl) ⟨(Nat.le_of_ble_eq_true rfl), (Nat.le_of_ble_eq_true rfl)⟩ ⟨Nat.le_refl _, Nat.le_refl _⟩ (fun M3 ⟨w3, c3, r3, f3⟩ => ?_)
        have hX3 := hB.out w3 c3 r3 f3
        rw [(wl_em hmu.k).1] at hX3
        have ff3 : qFr (SE S cd) M M3 := ff2.tr (f3.mono (fun b j z => by unfold SCo at z; unfold SE; omega))
        have l5 : (accP ++ accS ++ v.2 ++ sgL mu).length = (accP ++ accS).length + v.2.length + (wl mu).length := by rw [List.length_append, la, (wl_em hmu.k).2]; rfl
        refine PUSH v.1 (kAt T v.1) (W ++ wl ad) (6 - n) _ M3 rfl (by omega) hX3 (by omega) ff3 (fun e he => hE e (by rw [hL, bQ_e he])) (fun a2 M4 ha hX4 f4 => ?_)
        rw [bQ_o ha] at hL
        have i4 := ac_ok ha
        have ek : wl (kAt T v.1) = [kmQ (kAt T v.1)] := if_neg (by omega)
        have hX5 : qEX M4 S T a2 s N nc (W ++ (wl ad ++ wl (kAt T v.1))) (6 - n) cd (accP ++ (accS ++ v.2 ++ sgL mu)) := by
          rw [ek, ← List.append_assoc, ← List.append_assoc, ← List.append_assoc]
          exact hX4
        refine ih a2 ad (kAt T v.1) W accP (accS ++ v.2 ++ sgL mu) M4 had (Or.inr cm) hX5 hok hen hl ?_ f4 (by omega) (fun e he => hE e (by rw [hL, he])) (fun v2 h2 => hO v2 (by rw [hL, h2]))
        have e1 : accP ++ (accS ++ v.2 ++ sgL mu) = accP ++ accS ++ v.2 ++ sgL mu := by simp [List.append_assoc]
        have lz : (W ++ (wl ad ++ [kmQ (kAt T v.1)])).length = W.length + (wl ad).length + 1 := by
          rw [List.length_append, List.length_append]
          exact (Nat.add_assoc _ _ _).symm
        rw [e1, l5, ek, lz]
        omega
      rw [if_neg cm] at hL
      by_cases cp : kAt T v.1 = 43 ∨ kAt T v.1 = 45
      ·
        rw [if_pos cp] at hL
        have hB : qEX M2 S T v.1 s N nc (W ++ (wl mu ++ wl ad).reverse) (6 - n) cd (accP ++ accS ++ v.2) := by
          rw [wl_rev2]
          exact hX2
        have lR : (wl mu ++ wl ad).length = (wl mu).length + (wl ad).length := List.length_append
        have hst : W = [] ∨ ∃ B' w, W = B' ++ [w] ∧ stQ 0 w := hen.imp id (fun ⟨W', h⟩ => ⟨W', 6, h, Or.inl rfl⟩)
        refine NC v.1 (6 - n) M2 hK2 hop2 (by omega) (fun z => by omega) (MOR v.1 M2 hK2 (fun _ => STR v.1 0 M2 hK2 (Or.inr ⟨cm, rfl⟩) ?_) (fun z => absurd (by omega) z))
        refine qi_callVV (K' := kX12_comesOut) (As := [.int 0]) mlX12_330 okX12_comesOut dX12_expression_234 (c_X12_comesOut g hK2.1.1 (Or.inl rfl) hB.2.1 (by omega) (by rw [wl_rev2]; exact okw.lt) hst (fun r hr z => z.elim (fun z => by rcases List.mem_append.mp hr with h | h; have := wl_ok hmu.k r h; omega; have := wl_ok had.k r h; omega) (fun z => absurd z.1 (by decide))) hB.2.2.2.1 (by omega)) rfl (by decide) rfl (by decide) rfl rfl (Nat.le_of_ble_eq_true rfl) ⟨(Nat.le_of_ble_eq_true rfl), (Nat.le_of_ble_eq_true rfl)⟩ ⟨Nat.le_refl _, Nat.le_refl _⟩ (fun M3 ⟨w3, c3, r3, f3⟩ => ?_)
        have hX3 := hB.out w3 c3 r3 f3
        rw [List.map_append, (wl_em hmu.k).1, (wl_em had.k).1] at hX3
        have ff3 : qFr (SE S cd) M M3 := ff2.tr (f3.mono (fun b j z => by unfold SCo at z; unfold SE; omega))
        have l5 : (accP ++ accS ++ v.2 ++ (sgL mu ++ sgL ad)).length = (accP ++ accS).length + v.2.length + (wl mu).length + (wl ad).length := by rw [List.length_append, show (sgL mu ++ sgL ad).length = (wl mu).length + (wl ad).length by rw [List.length_append, show (sgL mu).length = (wl mu).length from (wl_em hmu.k).2.symm, show (sgL ad).length = (wl ad).length from (wl_em had.k).2.symm]]; omega
        refine PUSH v.1 (kAt T v.1) W (6 - n) _ M3 rfl (by omega) hX3 (by omega) ff3 (fun e he => hE e (by rw [hL, bQ_e he])) (fun a2 M4 ha hX4 f4 => ?_)
        rw [bQ_o ha] at hL
        have i4 := ac_ok ha
        have ek : wl (kAt T v.1) = [kmQ (kAt T v.1)] := if_neg (by omega)
        have ea : accP ++ (accS ++ v.2 ++ sgL mu ++ sgL ad) = accP ++ accS ++ v.2 ++ (sgL mu ++ sgL ad) := by simp [List.append_assoc]
        have hX5 : qEX M4 S T a2 s N nc (W ++ (wl (kAt T v.1) ++ wl 0)) (6 - n) cd (accP ++ (accS ++ v.2 ++ sgL mu ++ sgL ad)) := by
          rw [ek, ea]
          exact hX4
        refine ih a2 (kAt T v.1) 0 W accP (accS ++ v.2 ++ sgL mu ++ sgL ad) M4 (Or.inr cp) (Or.inl rfl) hX5 hok hen hl ?_ f4 (by omega) (fun e he => hE e (by rw [hL, he])) (fun v2 h2 => hO v2 (by rw [hL, h2]))
        have lz : (W ++ ([kmQ (kAt T v.1)] ++ wl 0)).length = W.length + 1 := by
          rw [List.length_append]
          rfl
        rw [ea, l5, ek, lz]
        omega
      rw [if_neg cp] at hL
      refine hO _ hL M2 ad mu (accP ++ accS ++ v.2) had hmu hX2 ?_ ?_ (by show ck + (accP ++ accS ++ v.2).length + _ ≤ v.1; omega) ff2
      · show accP ++ accS ++ v.2 ++ sgL mu ++ sgL ad = accP ++ (accS ++ v.2 ++ sgL mu ++ sgL ad)
        simp [List.append_assoc]
      · show ¬ (kAt T v.1 = 43 ∨ kAt T v.1 = 45 ∨ kAt T v.1 = 42 ∨ kAt T v.1 = 47)
        omega
  have UN : ∀ n, n ≤ 6 → (∀ k, n = k + 1 → loC S T s N nc cd ck res (fun M1 => qFr (SE S cd) M M1) (fun M1 => qT g kX12_expression (qR 3 0 0) (qZV g (fun M' => qPy S T res (okX S T s N nc cd) M' ∧ qFr (SE S cd) M M')) 23 [some (.ref 280), some (.int 0), some (.int 1)] [] 333 M1 (0, 0)) (fun M1 => qT g kX12_expression (qR 3 0 0) (qZV g (fun M' => qPy S T res (okX S T s N nc cd) M' ∧ qFr (SE S cd) M M')) 96 [some (.ref 280), some (.int 0), some (.int 1)] [] 333 M1 (0, 0)) k) → unC S T s N nc cd ck res (fun M1 => qFr (SE S cd) M M1) (fun M1 => qT g kX12_expression (qR 3 0 0) (qZV g (fun M' => qPy S T res (okX S T s N nc cd) M' ∧ qFr (SE S cd) M M')) 23 [some (.ref 280), some (.int 0), some (.int 1)] [] 333 M1 (0, 0)) (fun M1 => qT g kX12_expression (qR 3 0 0) (qZV g (fun M' => qPy S T res (okX S T s N nc cd) M' ∧ qFr (SE S cd) M M')) 96 [some (.ref 280), some (.int 0), some (.int 1)] [] 333 M1 (0, 0)) n := by
    intro n hn hLP a W acc M1 hX hok hl hb ff hE hO
    obtain ⟨hG, ⟨h2, h3, h4, h5⟩, -⟩ := id hX.1
    obtain ⟨hM1, hEt, -, -⟩ := id hG
    have hop := hX.2.2.1
    have hwt := hX.2.1.1
    show qT g kX12_expression (qR 3 0 0) (qZV g (fun M' => qPy S T res (okX S T s N nc cd) M' ∧ qFr (SE S cd) M M')) 23 [some (.ref 280), some (.int 0), some (.int 1)] [] 333 M1 (0, 0)
    refine qi_aload_n (i := 0) (x := 280) dX12_expression_23 rfl rfl ?_
    refine qi_bipush (v := 6) dX12_expression_24 rfl ?_
    refine qi_callPVI (v := (if kAt T a = 40 then 1 else 0)) (K' := kX12_is) (As := [.int 6]) mlX12_236 okX12_is dX12_expression_26 (c_X12_is g hT hX.1 (k := 40) (by decide)) rfl (by decide) rfl (by decide) rfl rfl (Nat.le_of_ble_eq_true rfl) ⟨(Nat.le_of_ble_eq_true rfl), (Nat.le_of_ble_eq_true rfl)⟩ ⟨Nat.le_refl _, Nat.le_refl _⟩ ?_
    by_cases c40 : kAt T a = 40
    ·
      rw [if_pos c40]
      refine qi_if_eq (tgt := 84) dX12_expression_29 (by decide) (fun z => False.elim ((by cases z))) (fun z => ?_)
      refine qi_aload_n (i := 0) (x := 280) dX12_expression_32 rfl rfl ?_
      refine qi_getI (x := nI (6 - n)) flX12_245 dX12_expression_33 rfl (by decide) hop ?_
      refine qi_bipush (v := 6) dX12_expression_36 rfl ?_
      -- behind the ( : its token taken, or the fault
      have AFTF : ∀ e M2 o, res = .error e → qYF M2 S T e → wtS M2 W → M2.1 280 12 = nI o → qFr (SE S cd) M M2 → qT g kX12_expression (qR 3 0 0) (qZV g (fun M' => qPy S T res (okX S T s N nc cd) M' ∧ qFr (SE S cd) M M')) 60 [some (.ref 280), some (.int 0), some (.int 1)] [] 333 M2 (0, 0) := by
        intro e M2 o he hF hw ho2 f2
        have hM2 := hF.1.1
        have hw2 := hw.1
        refine qi_aload_n (i := 0) (x := 280) dX12_expression_60 rfl rfl ?_
        refine qi_getR (x := 318) flX12_131 dX12_expression_61 rfl (by decide) (hM2 280 53 318 rfl) ?_
        refine qi_aload_n (i := 0) (x := 280) dX12_expression_64 rfl rfl ?_
        refine qi_getI (x := nI W.length) flX12_321 dX12_expression_65 rfl (by decide) hw2 ?_
        refine qi_bipush (v := 6) dX12_expression_68 rfl ?_
        refine qi_iastN (j := W.length) dX12_expression_70 rfl (by decide) rfl (by omega) (by decide) ?_
        refine qi_aload_n (i := 0) (x := 280) dX12_expression_71 rfl rfl ?_
        refine qi_dup dX12_expression_72 ?_
        refine qi_getI (x := nI W.length) flX12_321 dX12_expression_73 rfl (by decide) ((wI_a (by decide)).trans hw2) ?_
        refine qi_iconst (v := 1) dX12_expression_76 rfl ?_
        refine qi_iadd dX12_expression_77 ?_
        refine qe_top (y := nI (W.length + 1)) (nI_1 _) ?_
        refine qi_putI flX12_321 q_cls12 (ty12_54 _) dX12_expression_78 rfl (by decide) ?_
        refine qi_goto (tgt := 23) dX12_expression_81 (by decide) ?_
        have FF : qFr (fun b j => b = 318 ∨ (b = 280 ∧ j = 54)) M2 (wI (wI M2 318 W.length 6) 280 54 (nI (W.length + 1))) := (qFr.rf.wI (by omega)).wI (by omega)
        exact E23 e _ he (hF.fr FF (fun b j z => by omega)) (f2.tr (FF.mono (fun b j z => by unfold SE; omega)))
      cases hn0 : n with
      | zero =>
        subst hn0
        have he : res = .error (2, a) := hE (2, a) (by unfold unQ exS; rw [if_neg (by omega), if_neg (by omega), if_pos c40])
        refine qi_icmp_ne (tgt := 46) dX12_expression_38 (by decide) (fun _h => absurd ((nI_eq (a := 6 - 0) (b := 6) (by omega) (by omega)).mpr (by omega)) _h) (fun _hc => ?_)
        refine qi_aload_n (i := 0) (x := 280) dX12_expression_41 rfl rfl ?_
        refine qi_iconst (v := 2) dX12_expression_42 rfl ?_
        refine qi_callVV (K' := kX12_fail) (As := [.int 2]) mlX12_233 okX12_fail dX12_expression_43 (c_X12_fail g hX.1 (k := 2) (Or.inr rfl)) rfl (by decide) rfl (by decide) rfl rfl (Nat.le_of_ble_eq_true rfl) ⟨(Nat.le_of_ble_eq_true rfl), (Nat.le_of_ble_eq_true rfl)⟩ ⟨Nat.le_refl _, Nat.le_refl _⟩ (fun M2 ⟨e2, f2⟩ => ?_)
        have ho2 : M2.1 280 12 = nI 6 := (f2.1 _ _ (by unfold SYt; omega)).trans hop
        have hM2 := e2.1.1
        refine qi_aload_n (i := 0) (x := 280) dX12_expression_46 rfl rfl ?_
        refine qi_dup dX12_expression_47 ?_
        refine qi_getI (x := nI 6) flX12_245 dX12_expression_48 rfl (by decide) ho2 ?_
        refine qi_iconst (v := 1) dX12_expression_51 rfl ?_
        refine qi_iadd dX12_expression_52 ?_
        refine qe_top (y := nI 7) rfl ?_
        refine qi_putI flX12_245 q_cls12 (ty12_12 _) dX12_expression_53 rfl (by decide) ?_
        refine qi_aload_n (i := 0) (x := 280) dX12_expression_56 rfl rfl ?_
        have FF : qFr (fun b j => b = 280 ∧ j = 12) M2 (wI M2 280 12 (nI 7)) := qFr.rf.wI ⟨rfl, rfl⟩
        have e3 := e2.fr FF (fun b j z => by omega)
        refine qi_callVV (K' := kX12_goesOn) (As := []) mlX12_239 okX12_goesOn dX12_expression_57 (c_X12_goesOnF g e3) rfl (by decide) rfl (by decide) rfl rfl (Nat.le_of_ble_eq_true rfl) ⟨(Nat.le_of_ble_eq_true rfl), (Nat.le_of_ble_eq_true rfl)⟩ ⟨Nat.le_refl _, Nat.le_refl _⟩ (fun M4 ⟨e4, f4⟩ => ?_)
        exact AFTF (2, a) M4 7 he e4 (((hX.2.1.fr f2 (fun b j z => by unfold SYt at z; omega)).fr FF (fun b j z => by omega)).fr f4 (fun b j z => by unfold SYt at z; omega)) ((f4.1 _ _ (by unfold SYt; omega)).trans (wI_s _ _ _ _)) (((ff.tr (MS f2)).tr (FF.mono (fun b j z => by unfold SE; omega))).tr (MS f4))
      | succ k =>
        subst hn0
        have hq : unQ T (exS T (k + 1)) a = bQ (acQ T 40 a) (fun a1 => bQ (exQ T k a1) (fun r => bQ (acQ T 41 r.1) (fun a3 => .ok (a3, r.2)))) := by
          unfold unQ exS
          rw [if_neg (by omega), if_neg (by omega), if_pos c40]
        rw [hq] at hE hO
        have eo : 6 - (k + 1) + 1 = 6 - k := by omega
        refine qi_icmp_ne (tgt := 46) dX12_expression_38 (by decide) (fun _hc => ?_) (fun _h => absurd ((nI_eq (a := 6 - (k + 1)) (b := 6) (by omega) (by omega)).mp _h) (by omega))
        refine qi_aload_n (i := 0) (x := 280) dX12_expression_46 rfl rfl ?_
        refine qi_dup dX12_expression_47 ?_
        refine qi_getI (x := nI (6 - (k + 1))) flX12_245 dX12_expression_48 rfl (by decide) hop ?_
        refine qi_iconst (v := 1) dX12_expression_51 rfl ?_
        refine qi_iadd dX12_expression_52 ?_
        refine qe_top (y := nI (6 - k)) ((nI_1 _).trans (by rw [eo])) ?_
        refine qi_putI flX12_245 q_cls12 (ty12_12 _) dX12_expression_53 rfl (by decide) ?_
        refine qi_aload_n (i := 0) (x := 280) dX12_expression_56 rfl rfl ?_
        have hX2 := hX.opn (6 - k)
        have ff2 : qFr (SE S cd) M (wI M1 280 12 (nI (6 - k))) := ff.wI (by unfold SE; omega)
        refine qi_callVV (K' := kX12_goesOn) (As := []) mlX12_239 okX12_goesOn dX12_expression_57 (c_X12_goesOn g hX2.1 c40 (by decide)) rfl (by decide) rfl (by decide) rfl rfl (Nat.le_of_ble_eq_true rfl) ⟨(Nat.le_of_ble_eq_true rfl), (Nat.le_of_ble_eq_true rfl)⟩ ⟨Nat.le_refl _, Nat.le_refl _⟩ (fun M3 ⟨k3, f3⟩ => ?_)
        have ff3 := ff2.tr (MS f3)
        cases hA : acQ T 40 a with
        | error e =>
          rw [bQ_e hA] at hE
          exact AFTF e M3 (6 - k) (hE e rfl) (qPy_e hA k3) (hX2.2.1.fr f3 (fun b j z => by unfold SYt at z; omega)) ((f3.1 _ _ (by unfold SYt; omega)).trans hX2.2.2.1) ff3
        | ok a1 =>
          rw [bQ_o hA] at hE hO
          have i1 := ac_ok hA
          have hX3 := hX2.step (qPy_o hA k3) f3
          have hM3 := hX3.1.1.1
          have hw3 := hX3.2.1.1
          have lW6 : (W ++ [6]).length = W.length + 1 := by rw [List.length_append]; rfl
          refine qi_aload_n (i := 0) (x := 280) dX12_expression_60 rfl rfl ?_
          refine qi_getR (x := 318) flX12_131 dX12_expression_61 rfl (by decide) (hM3 280 53 318 rfl) ?_
          refine qi_aload_n (i := 0) (x := 280) dX12_expression_64 rfl rfl ?_
          refine qi_getI (x := nI W.length) flX12_321 dX12_expression_65 rfl (by decide) hw3 ?_
          refine qi_bipush (v := 6) dX12_expression_68 rfl ?_
          refine qi_iastN (j := W.length) dX12_expression_70 rfl (by decide) rfl (by omega) (by decide) ?_
          refine qi_aload_n (i := 0) (x := 280) dX12_expression_71 rfl rfl ?_
          refine qi_dup dX12_expression_72 ?_
          refine qi_getI (x := nI W.length) flX12_321 dX12_expression_73 rfl (by decide) ((wI_a (by decide)).trans hw3) ?_
          refine qi_iconst (v := 1) dX12_expression_76 rfl ?_
          refine qi_iadd dX12_expression_77 ?_
          refine qe_top (y := nI (W.length + 1)) (nI_1 _) ?_
          refine qi_putI flX12_321 q_cls12 (ty12_54 _) dX12_expression_78 rfl (by decide) ?_
          refine qi_goto (tgt := 23) dX12_expression_81 (by decide) ?_
          have hX4 := hX3.push 6
          have ff4 : qFr (SE S cd) M (wI (wI M3 318 W.length (nI 6)) 280 54 (nI (W.length + 1))) := (ff3.wI (by unfold SE; omega)).wI (by unfold SE; omega)
          refine hLP k rfl 401 a1 0 0 (W ++ [6]) acc [] _ (Or.inl rfl) (Or.inl rfl) ?_ (hok.app okW.six) (Or.inr ⟨W, rfl⟩) (by omega) ?_ ff4 (by omega) (fun e he => hE e ?_) (fun v hv M5 ad' mu' acc1 had hmu hX5 eacc hop5 hb5 ff5 => ?_)
          · show qEX _ S T a1 s N nc (W ++ [6] ++ ([] ++ [])) (6 - k) cd (acc ++ [])
            rw [List.append_nil, List.append_nil, List.append_nil]
            exact hX4
          · show ck + (acc ++ []).length + (W ++ [6] ++ ([] ++ [])).length ≤ a1
            rw [List.append_nil, List.append_nil, List.append_nil, lW6]
            omega
          · have : exQ T k a1 = .error e := by rw [exQ_s]; exact he
            rw [bQ_e this]
          have hv2 : exQ T k a1 = .ok v := by rw [exQ_s]; exact hv
          rw [bQ_o hv2] at hE hO
          obtain ⟨hG5, ⟨g2, g3, g4, g5⟩, -⟩ := id hX5.1
          have hM5 := hG5.1
          have hop5b := hX5.2.2.1
          have la := wl_len ad'
          have lm := wl_len mu'
          have lW5 : (W ++ [6] ++ (wl ad' ++ wl mu')).length = W.length + 1 + (wl ad').length + (wl mu').length := by rw [List.length_append, lW6, List.length_append]; omega
          have okw5 : okW (W ++ [6] ++ (wl ad' ++ wl mu')) := (hok.app okW.six).app ((okW.wl had.k).app (okW.wl hmu.k))
          show qT g kX12_expression (qR 3 0 0) (qZV g (fun M' => qPy S T res (okX S T s N nc cd) M' ∧ qFr (SE S cd) M M')) 96 [some (.ref 280), some (.int 0), some (.int 1)] [] 333 M5 (0, 0)
          by_cases c41 : kAt T v.1 = 41
          ·
            have hB : qEX M5 S T v.1 s N nc ((W ++ [6]) ++ (wl mu' ++ wl ad').reverse) (6 - k) cd acc1 := by
              rw [wl_rev2]
              exact hX5
            have lR : (wl mu' ++ wl ad').length = (wl mu').length + (wl ad').length := List.length_append
            refine qi_aload_n (i := 0) (x := 280) dX12_expression_96 rfl rfl ?_
            refine qi_bipush (v := 7) dX12_expression_97 rfl ?_
            refine qi_callPVI (v := (if kAt T v.1 = 41 then 1 else 0)) (K' := kX12_is) (As := [.int 7]) mlX12_236 okX12_is dX12_expression_99 (c_X12_is g hT hX5.1 (k := 41) (by decide)) rfl (by decide) rfl (by decide) rfl rfl (Nat.le_of_ble_eq_true rfl) ⟨(Nat.le_of_ble_eq_true rfl), (Nat.le_of_ble_eq_true rfl)⟩ ⟨Nat.le_refl _, Nat.le_refl _⟩ ?_
            rw [if_pos c41]
            refine qi_if_eq (tgt := 145) dX12_expression_102 (by decide) (fun z => False.elim ((by cases z))) (fun z => ?_)
            refine qi_aload_n (i := 0) (x := 280) dX12_expression_105 rfl rfl ?_
            refine qi_getI (x := nI (6 - k)) flX12_245 dX12_expression_106 rfl (by decide) hop5b ?_
            refine qi_iload_n (i := 1) (x := 0) dX12_expression_109 rfl rfl ?_
            refine qi_icmp_le (tgt := 145) dX12_expression_110 (by decide) (fun _h => absurd ((nI_leI (a := 6 - k) (b := 0) (by omega) (by omega)).mp _h) (by omega)) (fun _hc => ?_)
            refine qi_aload_n (i := 0) (x := 280) dX12_expression_113 rfl rfl ?_
            refine qi_iconst (v := 0) dX12_expression_114 rfl ?_
            refine qi_callVV (K' := kX12_comesOut) (As := [.int 0]) mlX12_330 okX12_comesOut dX12_expression_115 (c_X12_comesOut g hM5 (Or.inl rfl) hB.2.1 (by omega) (by rw [wl_rev2]; exact okw5.lt) (Or.inr ⟨W, 6, rfl, Or.inl rfl⟩) (fun r hr z => z.elim (fun z => by rcases List.mem_append.mp hr with h | h; have := wl_ok hmu.k r h; omega; have := wl_ok had.k r h; omega) (fun z => absurd z.1 (by decide))) hB.2.2.2.1 (by omega)) rfl (by decide) rfl (by decide) rfl rfl (Nat.le_of_ble_eq_true rfl) ⟨(Nat.le_of_ble_eq_true rfl), (Nat.le_of_ble_eq_true rfl)⟩ ⟨Nat.le_refl _, Nat.le_refl _⟩ (fun M6 ⟨w6, c6, r6, f6⟩ => ?_)
            have hX6 := hB.out w6 c6 r6 f6
            rw [List.map_append, (wl_em hmu.k).1, (wl_em had.k).1, ← List.append_assoc, eacc] at hX6
            have hX7 := hX6.pop
            have hw6 := w6.1
            have lacc : (acc ++ v.2).length + (W ++ [6]).length ≤ acc1.length + (W ++ [6] ++ (wl ad' ++ wl mu')).length := by
              rw [← eacc, List.length_append, List.length_append, lW5, lW6, show (sgL mu').length = (wl mu').length from (wl_em hmu.k).2.symm, show (sgL ad').length = (wl ad').length from (wl_em had.k).2.symm]
              omega
            have ff6 : qFr (SE S cd) M M6 := ff5.tr (f6.mono (fun b j z => by unfold SCo at z; unfold SE; omega))
            have hM6 := hX6.1.1.1
            have hop6 := hX6.2.2.1
            refine qi_aload_n (i := 0) (x := 280) dX12_expression_118 rfl rfl ?_
            refine qi_dup dX12_expression_119 ?_
            refine qi_getI (x := nI (W.length + 1)) flX12_321 dX12_expression_120 rfl (by decide) (hw6.trans (by rw [lW6])) ?_
            refine qi_iconst (v := 1) dX12_expression_123 rfl ?_
            refine qi_isub dX12_expression_124 ?_
            refine qe_top (y := nI W.length) (nI_pred _) ?_
            refine qi_putI flX12_321 q_cls12 (ty12_54 _) dX12_expression_125 rfl (by decide) ?_
            refine qi_aload_n (i := 0) (x := 280) dX12_expression_128 rfl rfl ?_
            refine qi_dup dX12_expression_129 ?_
            refine qi_getI (x := nI (6 - k)) flX12_245 dX12_expression_130 rfl (by decide) ((wI_k (by decide)).trans hop6) ?_
            refine qi_iconst (v := 1) dX12_expression_133 rfl ?_
            refine qi_isub dX12_expression_134 ?_
            refine qe_top (y := nI (6 - (k + 1))) (by rw [show 6 - k = 6 - (k + 1) + 1 by omega]; exact nI_pred _) ?_
            refine qi_putI flX12_245 q_cls12 (ty12_12 _) dX12_expression_135 rfl (by decide) ?_
            refine qi_aload_n (i := 0) (x := 280) dX12_expression_138 rfl rfl ?_
            have hX8 := hX7.opn (6 - (k + 1))
            have ff8 : qFr (SE S cd) M (wI (wI M6 280 54 (nI W.length)) 280 12 (nI (6 - (k + 1)))) := (ff6.wI (by unfold SE; omega)).wI (by unfold SE; omega)
            refine qi_callVV (K' := kX12_goesOn) (As := []) mlX12_239 okX12_goesOn dX12_expression_139 (c_X12_goesOn g hX8.1 c41 (by decide)) rfl (by decide) rfl (by decide) rfl rfl (Nat.le_of_ble_eq_true rfl) ⟨(Nat.le_of_ble_eq_true rfl), (Nat.le_of_ble_eq_true rfl)⟩ ⟨Nat.le_refl _, Nat.le_refl _⟩ (fun M9 ⟨k9, f9⟩ => ?_)
            have ff9 := ff8.tr (MS f9)
            refine qi_goto (tgt := 96) dX12_expression_142 (by decide) ?_
            cases hC : acQ T 41 v.1 with
            | error e =>
              rw [bQ_e hC] at hE
              exact E96 e M9 W (acc ++ v.2).length (6 - (k + 1)) (hE e rfl) (qPy_e hC k9) (hX8.2.1.fr f9 (fun b j z => by unfold SYt at z; omega)) hok (by omega) ((f9.1 _ _ (by unfold SYt; omega)).trans hX8.2.2.2.1) (by omega) ((f9.1 _ _ (by unfold SYt; omega)).trans hX8.2.2.1) (by omega) ff9
            | ok a3 =>
              rw [bQ_o hC] at hO
              exact hO (a3, v.2) rfl M9 (hX8.step (qPy_o hC k9) f9) ff9
          ·
            have he : res = .error (1, v.1) := hE (1, v.1) (bQ_e (by unfold acQ; rw [if_pos c41]))
            refine NC v.1 (6 - k) M5 hX5.1 hop5b (by omega) (fun z => absurd z c41) (MOR v.1 M5 hX5.1 (fun z => absurd z hop5) (fun _ => ?_))
            refine qi_iload_n (i := 2) (x := 0) dX12_expression_187 rfl rfl ?_
            refine qi_if_ne (tgt := 210) dX12_expression_188 (by decide) (fun _h => absurd ((nI_eq (a := 0) (b := 0) (by omega) (by omega)).mpr (by omega)) _h) (fun _hc => ?_)
            refine qi_aload_n (i := 0) (x := 280) dX12_expression_191 rfl rfl ?_
            refine qi_getI (x := nI (6 - k)) flX12_245 dX12_expression_192 rfl (by decide) hop5b ?_
            refine qi_iload_n (i := 1) (x := 0) dX12_expression_195 rfl rfl ?_
            refine qi_icmp_le (tgt := 204) dX12_expression_196 (by decide) (fun _h => absurd ((nI_leI (a := 6 - k) (b := 0) (by omega) (by omega)).mp _h) (by omega)) (fun _hc => ?_)
            refine qi_aload_n (i := 0) (x := 280) dX12_expression_199 rfl rfl ?_
            refine qi_iconst (v := 1) dX12_expression_200 rfl ?_
            refine qi_callVV (K' := kX12_fail) (As := [.int 1]) mlX12_233 okX12_fail dX12_expression_201 (c_X12_fail g hX5.1 (k := 1) (Or.inl rfl)) rfl (by decide) rfl (by decide) rfl rfl (Nat.le_of_ble_eq_true rfl) ⟨(Nat.le_of_ble_eq_true rfl), (Nat.le_of_ble_eq_true rfl)⟩ ⟨Nat.le_refl _, Nat.le_refl _⟩ (fun M6 ⟨e6, f6⟩ => ?_)
            exact E204 (1, v.1) M6 _ acc1.length _ he e6 (hX5.2.1.fr f6 (fun b j z => by unfold SYt at z; omega)) okw5 (by omega) ((f6.1 _ _ (by unfold SYt; omega)).trans hX5.2.2.2.1) (by omega) (ff5.tr (MS f6))
    ·
      rw [if_neg c40]
      have hc := hX.2.2.2.1
      refine qi_if_eq (tgt := 84) dX12_expression_29 (by decide) (fun z => ?_) (fun z => False.elim ((z rfl)))
      refine qi_aload_n (i := 0) (x := 280) dX12_expression_84 rfl rfl ?_
      refine qi_callVV (K' := kX12_unit) (As := []) mlX12_327 okX12_unit dX12_expression_85 (c_X12_unit g hT hX.1 c40 hc (by omega) (U := exS T n)) rfl (by decide) rfl (by decide) rfl rfl (Nat.le_of_ble_eq_true rfl) ⟨(Nat.le_of_ble_eq_true rfl), (Nat.le_of_ble_eq_true rfl)⟩ ⟨Nat.le_refl _, Nat.le_refl _⟩ (fun M2 ⟨k2, f2⟩ => ?_)
      have ff2 : qFr (SE S cd) M M2 := ff.tr (f2.mono (fun b j z => by unfold SUn2 SYt at z; unfold SE; omega))
      cases hA : unQ T (exS T n) a with
      | error e =>
        exact E88 e M2 (hE e hA) (qPy_e hA k2) ff2
      | ok v =>
        obtain ⟨k3, c3, r3⟩ := qPy_o hA k2
        have hz := k3.2.1.2.2.2
        refine qi_aload_n (i := 0) (x := 280) dX12_expression_88 rfl rfl ?_
        refine qi_getI (x := nI 0) flX12_218 dX12_expression_89 rfl (by decide) hz ?_
        refine qi_if_le (tgt := 96) dX12_expression_92 (by decide) (fun _hc => ?_) (fun _h => absurd ((nI_leI (a := 0) (b := 0) (by omega) (by omega)).mpr (by omega)) _h)
        exact hO v hA M2 (hX.code k3 c3 r3 f2) ff2
  have ALL : ∀ n, n ≤ 6 → unC S T s N nc cd ck res (fun M1 => qFr (SE S cd) M M1) (fun M1 => qT g kX12_expression (qR 3 0 0) (qZV g (fun M' => qPy S T res (okX S T s N nc cd) M' ∧ qFr (SE S cd) M M')) 23 [some (.ref 280), some (.int 0), some (.int 1)] [] 333 M1 (0, 0)) (fun M1 => qT g kX12_expression (qR 3 0 0) (qZV g (fun M' => qPy S T res (okX S T s N nc cd) M' ∧ qFr (SE S cd) M M')) 96 [some (.ref 280), some (.int 0), some (.int 1)] [] 333 M1 (0, 0)) n := by
    intro n
    induction n with
    | zero =>
      intro hn
      exact UN 0 hn (fun k h => absurd h (by omega))
    | succ n ih =>
      intro hn
      refine UN (n + 1) hn (fun k e => ?_)
      obtain rfl : n = k := by omega
      exact LP n (by omega) (ih (by omega))
  have hz0 := h0.2.1.2.2.2
  refine qV.of (j := 2) (pn_RX12) rfl ?_
  show qT g kX12_expression (qR 3 0 0) (qZV g (fun M' => qPy S T res (okX S T s N nc cd) M' ∧ qFr (SE S cd) M M')) 0 [some (.ref 280), none, none] [] 333 M (0, 0)
  refine qi_aload_n (i := 0) (x := 280) dX12_expression_0 rfl rfl ?_
  refine qi_iconst (v := 0) dX12_expression_1 rfl ?_
  refine qi_putI flX12_321 q_cls12 (ty12_54 _) dX12_expression_2 rfl (by decide) ?_
  refine qi_aload_n (i := 0) (x := 280) dX12_expression_5 rfl rfl ?_
  refine qi_getI (x := 0) flX12_245 dX12_expression_6 rfl (by decide) ((wI_k (by decide)).trans ho0) ?_
  refine qi_istore_n (i := 1) (L2 := [some (.ref 280), some (.int 0), none]) dX12_expression_9 rfl (Nat.le_of_ble_eq_true rfl) rfl ?_
  refine qi_iconst (v := 1) dX12_expression_10 rfl ?_
  refine qi_istore_n (i := 2) (L2 := [some (.ref 280), some (.int 0), some (.int 1)]) dX12_expression_11 rfl (Nat.le_of_ble_eq_true rfl) rfl ?_
  refine qi_iload_n (i := 2) (x := 1) dX12_expression_12 rfl rfl ?_
  refine qi_if_eq (tgt := 272) dX12_expression_13 (by decide) (fun _h => absurd ((nI_eq (a := 1) (b := 0) (by omega) (by omega)).mp _h) (by omega)) (fun _hc => ?_)
  refine qi_aload_n (i := 0) (x := 280) dX12_expression_16 rfl rfl ?_
  refine qi_getI (x := nI 0) flX12_218 dX12_expression_17 rfl (by decide) ((wI_k (by decide)).trans hz0) ?_
  refine qi_if_ne (tgt := 272) dX12_expression_20 (by decide) (fun _h => absurd ((nI_eq (a := 0) (b := 0) (by omega) (by omega)).mpr (by omega)) _h) (fun _hc => ?_)
  have F0 : qFr (fun b j => b = 280 ∧ j = 54) M (wI M 280 54 0) := qFr.rf.wI ⟨rfl, rfl⟩
  refine LP 6 (Nat.le_refl _) (ALL 6 (Nat.le_refl _)) 401 a0 0 0 [] [] [] _ (Or.inl rfl) (Or.inl rfl) ⟨h0.fr F0 (fun b j z => by omega), ⟨wI_s _ _ _ _, fun i hi => absurd hi (Nat.not_lt_zero _)⟩, (wI_k (by decide)).trans ho0, (wI_k (by decide)).trans hc0, cellR_n⟩ (fun w hw => (nomatch hw)) (Or.inl rfl) (by decide) (by show ck + 0 + 0 ≤ a0; omega) (F0.mono (fun b j z => by unfold SE; omega)) (by omega) (fun e he => by rw [← hR, exQ_s]; exact he) (fun v hv M2 ad' mu' acc1 had hmu hX2 eacc hop2 hb2 ff2 => ?_)
  have hv2 : res = .ok v := by rw [← hR, exQ_s]; exact hv
  have hop2b := hX2.2.2.1
  have hB : qEX M2 S T v.1 s N nc ([] ++ (wl mu' ++ wl ad').reverse) (6 - 6) cd acc1 := by
    rw [wl_rev2]
    exact hX2
  have la := wl_len ad'
  have lm := wl_len mu'
  have lR : (wl mu' ++ wl ad').length = (wl mu').length + (wl ad').length := List.length_append
  have bb := hX2.1.2.1.1
  have l0 : ([] ++ (wl ad' ++ wl mu') : List Nat).length = (wl ad').length + (wl mu').length := by rw [List.nil_append, List.length_append]
  show qT g kX12_expression (qR 3 0 0) (qZV g (fun M' => qPy S T res (okX S T s N nc cd) M' ∧ qFr (SE S cd) M M')) 96 [some (.ref 280), some (.int 0), some (.int 1)] [] 333 M2 (0, 0)
  refine NC v.1 0 M2 hX2.1 hop2b (by omega) (fun _ => rfl) (MOR v.1 M2 hX2.1 (fun z => absurd z hop2) (fun _ => ?_))
  refine qi_iload_n (i := 2) (x := 0) dX12_expression_187 rfl rfl ?_
  refine qi_if_ne (tgt := 210) dX12_expression_188 (by decide) (fun _h => absurd ((nI_eq (a := 0) (b := 0) (by omega) (by omega)).mpr (by omega)) _h) (fun _hc => ?_)
  refine qi_aload_n (i := 0) (x := 280) dX12_expression_191 rfl rfl ?_
  refine qi_getI (x := nI 0) flX12_245 dX12_expression_192 rfl (by decide) hop2b ?_
  refine qi_iload_n (i := 1) (x := 0) dX12_expression_195 rfl rfl ?_
  refine qi_icmp_le (tgt := 204) dX12_expression_196 (by decide) (fun _hc => ?_) (fun _h => absurd ((nI_leI (a := 0) (b := 0) (by omega) (by omega)).mpr (by omega)) _h)
  refine qi_aload_n (i := 0) (x := 280) dX12_expression_204 rfl rfl ?_
  refine qi_iconst (v := 0) dX12_expression_205 rfl ?_
  refine qi_callVV (K' := kX12_comesOut) (As := [.int 0]) mlX12_330 okX12_comesOut dX12_expression_206 (c_X12_comesOut g hX2.1.1.1 (Or.inl rfl) hB.2.1 (by show 0 + (wl mu' ++ wl ad').length ≤ 64; omega) (fun w hw => by rw [List.nil_append, wl_rev2] at hw; rcases List.mem_append.mp hw with h | h; have := wl_ok had.k w h; omega; have := wl_ok hmu.k w h; omega) (Or.inl rfl) (fun r hr z => z.elim (fun z => by rcases List.mem_append.mp hr with h | h; have := wl_ok hmu.k r h; omega; have := wl_ok had.k r h; omega) (fun z => absurd z.1 (by decide))) hB.2.2.2.1 (by omega)) rfl (by decide) rfl (by decide) rfl rfl (Nat.le_of_ble_eq_true rfl) ⟨(Nat.le_of_ble_eq_true rfl), (Nat.le_of_ble_eq_true rfl)⟩ ⟨Nat.le_refl _, Nat.le_refl _⟩ (fun M6 ⟨w6, c6, r6, f6⟩ => ?_)
  have hX6 := hB.out w6 c6 r6 f6
  rw [List.map_append, (wl_em hmu.k).1, (wl_em had.k).1, ← List.append_assoc, eacc, List.nil_append] at hX6
  exact qi_retV rfl dX12_expression_209 (⟨qPy_io hv2 ⟨hX6.1, hX6.2.2.1, hX6.2.2.2.1, hX6.2.2.2.2⟩, ff2.tr (f6.mono (fun b j z => by unfold SCo at z; unfold SE; omega))⟩)
