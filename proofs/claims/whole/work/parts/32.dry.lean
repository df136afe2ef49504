/-! ThimbleSea$Sea.dryUp, takeOut -/
set_option maxHeartbeats 8000000 in
theorem c_X6_dryUp (g : qG) {a n : Nat} {ρ : Nat → Int32} {r : Nat → Nat} {M : qM} (hs : qIsS a) (hM : qRf M) (hS : qSea M a ρ) (hr : ∀ k, k < 40 → ρ k = nI (r k)) (hA : sumN r 40 ≤ 9999) (hn : n ≤ sumN r 40) : qV g 0 kX6_dryUp [.ref a, .int (nI n)] M (fun M' => qSea M' a (dryR ρ r n) ∧ qFr (SS a) M M') := by
  have hla := hs.2.2.2.2.2.2
  have eA := allF_nat hr
  obtain ⟨h1, h2, h3, h4, h5, h6, h7⟩ := id hS
  have hrk : ∀ k, k < 40 → r k ≤ 9999 := fun k hk => Nat.le_trans (sumN_get 40 k hk) hA
  have hrn : ∀ k, k < 40 → r k * n ≤ 99980001 := fun k hk => Nat.mul_le_mul (hrk k hk) (Nat.le_trans hn hA)
  generalize hAe : sumN r 40 = A at *
  -- the end, with the picks done
  have KE : ∀ M1 x3 x4 x5, 0 < A → qFr (SS a) M M1 → (∀ k, k < 40 → M1.1 (a + 1) k = dryR ρ r n k) → (∀ k, M1.1 (a + 3) k = M.1 (a + 3) k) → (∀ k, M1.1 (a + 4) k = M.1 (a + 4) k) → (∀ k, M1.1 (a + 5) k = M.1 (a + 5) k) → (∀ k, M1.1 a k = M.1 a k) → qT g kX6_dryUp (qR 0 0 0) (qZV g (fun M' => qSea M' a (dryR ρ r n) ∧ qFr (SS a) M M')) 150 [some (.ref a), some (.int (nI n)), some (.int (nI (lackN r n A))), x3, x4, x5] [] 333 M1 (0, 0) := by
    intro M1 x3 x4 x5 h0 hf e1 e3 e4 e5 e6
    have hM1 := hM.fr hf
    refine qi_aload_n (i := 0) (x := a) dX6_dryUp_150 rfl rfl ?_
    refine qi_dup dX6_dryUp_151 ?_
    refine qi_getI (x := M1.1 a 5) flX6_27 dX6_dryUp_152 hs.1 (by have := hs.2.2.2.2.2.2; omega) rfl ?_
    refine qi_iload_n (i := 1) (x := nI n) dX6_dryUp_155 rfl rfl ?_
    refine qi_isub dX6_dryUp_156 ?_
    refine qi_putI flX6_27 q_cls6 (ty6_5 _) dX6_dryUp_157 hs.1 (by have := hs.2.2.2.2.2.2; omega) ?_
    refine qi_retV rfl dX6_dryUp_160 (?_)
    have out : ∀ j, 40 ≤ j → dryR ρ r n j = ρ j := fun j hj => by unfold dryR; rw [if_neg (by omega)]
    refine ⟨⟨fun k hk => ?_, fun k hk => ?_, fun k hk => ?_, fun k hk => ?_, ?_, ?_, ?_⟩, hf.wI (by unfold SS; omega)⟩
    · rw [wI_a (by omega)]; exact e1 k hk
    · rw [wI_a (by omega), e3, out _ (by omega)]; exact h2 k hk
    · rw [wI_a (by omega), e4, out _ (by omega)]; exact h3 k hk
    · rw [wI_a (by omega), e5, out _ (by omega)]; exact h4 k hk
    · rw [wI_s, e6, h5, allF_dry (by rw [hAe]; exact h0)]
    · rw [wI_k (by omega), e6, h6, out _ (by omega)]
    · rw [wI_k (by omega), e6, h7, out _ (by omega)]
  -- the picks
  have KP : ∀ m i M1 x4 x5, 0 < A → i + m = lackN r n A → qFr (SS a) M M1 → (∀ k, k < 40 → M1.1 (a + 1) k = ρ k - nI (gN r n A k) - nI (dryX (tN r n A) i k)) → (∀ k, k < 40 → M1.1 (a + 2) k = nI (dryT (tN r n A) i k)) → (∀ k, M1.1 (a + 3) k = M.1 (a + 3) k) → (∀ k, M1.1 (a + 4) k = M.1 (a + 4) k) → (∀ k, M1.1 (a + 5) k = M.1 (a + 5) k) → (∀ k, M1.1 a k = M.1 a k) → qT g kX6_dryUp (qR 0 0 0) (qZV g (fun M' => qSea M' a (dryR ρ r n) ∧ qFr (SS a) M M')) 80 [some (.ref a), some (.int (nI n)), some (.int (nI (lackN r n A))), some (.int (nI i)), x4, x5] [] 333 M1 (0, 0) := by
    intro m
    induction m with
    | zero =>
      intro i M1 x4 x5 h0 e hf e1 e2 e3 e4 e5 e6
      have hL : lackN r n A ≤ 9999 := by unfold lackN; omega
      have hM1 := hM.fr hf
      refine qi_iload_n (i := 3) (x := nI i) dX6_dryUp_80 rfl rfl ?_
      refine qi_iload_n (i := 2) (x := nI (lackN r n A)) dX6_dryUp_81 rfl rfl ?_
      refine qi_icmp_ge (tgt := 150) dX6_dryUp_82 (by decide) (fun _hc => ?_) (fun _h => absurd ((nI_leI (a := lackN r n A) (b := i) (by omega) (by omega)).mpr (by omega)) _h)
      refine KE M1 _ _ _ h0 hf (fun k hk => ?_) e3 e4 e5 e6
      rw [e1 k hk]
      unfold dryR
      rw [if_pos hk, hAe, show i = lackN r n A by omega]
    | succ m ih =>
      intro i M1 x4 x5 h0 e hf e1 e2 e3 e4 e5 e6
      have hL : lackN r n A ≤ 9999 := by unfold lackN; omega
      have hM1 := hM.fr hf
      have hT : ∀ k, k < 40 → dryT (tN r n A) i k < 10000 := fun k hk => Nat.lt_of_le_of_lt (dryT_le _ i k) (by have := Nat.mod_lt (r k * n) h0; unfold tN; omega)
      generalize hU : dryT (tN r n A) i = U at *
      have KA : ∀ m2 j, j + m2 = 40 → 1 ≤ j → qT g kX6_dryUp (qR 0 0 0) (qZV g (fun M' => qSea M' a (dryR ρ r n) ∧ qFr (SS a) M M')) 91 [some (.ref a), some (.int (nI n)), some (.int (nI (lackN r n A))), some (.int (nI i)), some (.int (nI (amax U (j - 1)))), some (.int (nI j))] [] 333 M1 (0, 0) := by
        intro m2
        induction m2 with
        | zero =>
          intro j e7 e8
          have hb := amax_le U (j - 1)
          refine qi_iload (i := 5) (x := nI j) dX6_dryUp_91 rfl ?_
          refine qi_bipush (v := 40) dX6_dryUp_93 rfl ?_
          refine qi_icmp_ge (tgt := 125) dX6_dryUp_95 (by decide) (fun _hc => ?_) (fun _h => absurd ((nI_leI (a := 40) (b := j) (by omega) (by omega)).mpr (by omega)) _h)
          refine qi_aload_n (i := 0) (x := a) dX6_dryUp_125 rfl rfl ?_
          refine qi_getR (x := a + 1) flX6_9 dX6_dryUp_126 hs.1 (by have := hs.2.2.2.2.2.2; omega) (hM1 a 0 (a + 1) (qref_6_0 hs.1)) ?_
          refine qi_iload (i := 4) (x := nI (amax U (j - 1))) dX6_dryUp_129 rfl ?_
          refine qi_dup2 dX6_dryUp_131 ?_
          refine qi_ialdN (x := M1.1 (a + 1) (amax U (j - 1))) (j := amax U (j - 1)) dX6_dryUp_132 hs.2.1 (by have := hs.2.2.2.2.2.2; omega) rfl (by omega) (by decide) rfl ?_
          refine qi_iconst (v := 1) dX6_dryUp_133 rfl ?_
          refine qi_isub dX6_dryUp_134 ?_
          refine qi_iastN (j := amax U (j - 1)) dX6_dryUp_135 hs.2.1 (by have := hs.2.2.2.2.2.2; omega) rfl (by omega) (by decide) ?_
          refine qi_aload_n (i := 0) (x := a) dX6_dryUp_136 rfl rfl ?_
          refine qi_getR (x := a + 2) flX6_15 dX6_dryUp_137 hs.1 (by have := hs.2.2.2.2.2.2; omega) (hM1 a 1 (a + 2) (qref_6_1 hs.1)) ?_
          refine qi_iload (i := 4) (x := nI (amax U (j - 1))) dX6_dryUp_140 rfl ?_
          refine qi_iconst (v := 0) dX6_dryUp_142 rfl ?_
          refine qi_iastN (j := amax U (j - 1)) dX6_dryUp_143 hs.2.2.1 (by have := hs.2.2.2.2.2.2; omega) rfl (by omega) (by decide) ?_
          refine qi_iinc (i := 3) (x := nI i) (v := nI (i + 1)) (L2 := [some (.ref a), some (.int (nI n)), some (.int (nI (lackN r n A))), some (.int (nI (i + 1))), some (.int (nI (amax U (j - 1)))), some (.int (nI j))]) dX6_dryUp_144 rfl (nI_1 i) (Nat.le_of_ble_eq_true rfl) rfl ?_
          refine qi_goto (tgt := 80) dX6_dryUp_147 (by decide) ?_
          rw [show j - 1 = 39 by omega]
          have hb2 := amax_le U 39
          refine ih (i + 1) _ _ _ h0 (by omega) ((hf.wI (by unfold SS; omega)).wI (by unfold SS; omega)) (fun k hk => ?_) (fun k hk => ?_) (fun k => ?_) (fun k => ?_) (fun k => ?_) (fun k => ?_)
          · have q1 := e1 k hk
            have q2 : dryX (tN r n A) (i + 1) k = dryX (tN r n A) i k + (if k = amax U 39 then 1 else 0) := by rw [← hU]; rfl
            rw [wI_a (by omega), wI_1, q2]
            by_cases hkb : k = amax U 39
            · subst hkb
              rw [if_pos ⟨rfl, rfl⟩, if_pos rfl, q1, ← nI_1]
              grind
            · rw [if_neg (fun z => hkb z.2), if_neg hkb, q1, Nat.add_zero]
          · have q1 := e2 k hk
            have q2 : dryT (tN r n A) (i + 1) k = if k = amax U 39 then 0 else U k := by rw [← hU]; rfl
            rw [wI_1, q2]
            by_cases hkb : k = amax U 39
            · rw [if_pos ⟨rfl, hkb⟩, if_pos hkb]; rfl
            · rw [if_neg (fun z => hkb z.2), if_neg hkb, wI_a (by omega), q1]
          · rw [wI_a (by omega), wI_a (by omega)]; exact e3 k
          · rw [wI_a (by omega), wI_a (by omega)]; exact e4 k
          · rw [wI_a (by omega), wI_a (by omega)]; exact e5 k
          · rw [wI_a (by omega), wI_a (by omega)]; exact e6 k
        | succ m2 ih2 =>
          intro j e7 e8
          have hb := amax_le U (j - 1)
          have q0 : amax U (j + 1 - 1) = if U (amax U (j - 1)) < U j then j else amax U (j - 1) := by
            rw [show j + 1 - 1 = (j - 1) + 1 by omega]
            show (if U (amax U (j - 1)) < U (j - 1 + 1) then j - 1 + 1 else amax U (j - 1)) = _
            rw [show j - 1 + 1 = j by omega]
          have A1 := ih2 (j + 1) (by omega) (by omega)
          rw [q0] at A1
          have hTj := hT j (by omega)
          have hTb := hT (amax U (j - 1)) (by omega)
          refine qi_iload (i := 5) (x := nI j) dX6_dryUp_91 rfl ?_
          refine qi_bipush (v := 40) dX6_dryUp_93 rfl ?_
          refine qi_icmp_ge (tgt := 125) dX6_dryUp_95 (by decide) (fun _h => absurd ((nI_leI (a := 40) (b := j) (by omega) (by omega)).mp _h) (by omega)) (fun _hc => ?_)
          refine qi_aload_n (i := 0) (x := a) dX6_dryUp_98 rfl rfl ?_
          refine qi_getR (x := a + 2) flX6_15 dX6_dryUp_99 hs.1 (by have := hs.2.2.2.2.2.2; omega) (hM1 a 1 (a + 2) (qref_6_1 hs.1)) ?_
          refine qi_iload (i := 5) (x := nI j) dX6_dryUp_102 rfl ?_
          refine qi_ialdN (x := M1.1 (a + 2) j) (j := j) dX6_dryUp_104 hs.2.2.1 (by have := hs.2.2.2.2.2.2; omega) rfl (by omega) (by decide) rfl ?_
          refine qe_top (y := nI (U j)) (e2 j (by omega)) ?_
          refine qi_aload_n (i := 0) (x := a) dX6_dryUp_105 rfl rfl ?_
          refine qi_getR (x := a + 2) flX6_15 dX6_dryUp_106 hs.1 (by have := hs.2.2.2.2.2.2; omega) (hM1 a 1 (a + 2) (qref_6_1 hs.1)) ?_
          refine qi_iload (i := 4) (x := nI (amax U (j - 1))) dX6_dryUp_109 rfl ?_
          refine qi_ialdN (x := M1.1 (a + 2) (amax U (j - 1))) (j := amax U (j - 1)) dX6_dryUp_111 hs.2.2.1 (by have := hs.2.2.2.2.2.2; omega) rfl (by omega) (by decide) rfl ?_
          refine qe_top (y := nI (U (amax U (j - 1)))) (e2 _ (by omega)) ?_
          refine qi_icmp_le (tgt := 119) dX6_dryUp_112 (by decide) (fun _h => ?_) (fun _h => ?_)
          · have c : (U j) ≤ (U (amax U (j - 1))) := (nI_leI (a := U j) (b := U (amax U (j - 1))) (by omega) (by omega)).mp _h
            refine qi_iinc (i := 5) (x := nI j) (v := nI (j + 1)) (L2 := [some (.ref a), some (.int (nI n)), some (.int (nI (lackN r n A))), some (.int (nI i)), some (.int (nI (amax U (j - 1)))), some (.int (nI (j + 1)))]) dX6_dryUp_119 rfl (nI_1 j) (Nat.le_of_ble_eq_true rfl) rfl ?_
            refine qi_goto (tgt := 91) dX6_dryUp_122 (by decide) ?_
            rw [if_neg (by omega)] at A1
            exact A1
          · have c : ¬ ((U j) ≤ (U (amax U (j - 1)))) := fun z => _h ((nI_leI (a := U j) (b := U (amax U (j - 1))) (by omega) (by omega)).mpr z)
            refine qi_iload (i := 5) (x := nI j) dX6_dryUp_115 rfl ?_
            refine qi_istore (i := 4) (L2 := [some (.ref a), some (.int (nI n)), some (.int (nI (lackN r n A))), some (.int (nI i)), some (.int (nI j)), some (.int (nI j))]) dX6_dryUp_117 (Nat.le_of_ble_eq_true rfl) rfl ?_
            refine qi_iinc (i := 5) (x := nI j) (v := nI (j + 1)) (L2 := [some (.ref a), some (.int (nI n)), some (.int (nI (lackN r n A))), some (.int (nI i)), some (.int (nI j)), some (.int (nI (j + 1)))]) dX6_dryUp_119 rfl (nI_1 j) (Nat.le_of_ble_eq_true rfl) rfl ?_
            refine qi_goto (tgt := 91) dX6_dryUp_122 (by decide) ?_
            rw [if_pos (by omega)] at A1
            exact A1
      refine qi_iload_n (i := 3) (x := nI i) dX6_dryUp_80 rfl rfl ?_
      refine qi_iload_n (i := 2) (x := nI (lackN r n A)) dX6_dryUp_81 rfl rfl ?_
      refine qi_icmp_ge (tgt := 150) dX6_dryUp_82 (by decide) (fun _h => absurd ((nI_leI (a := lackN r n A) (b := i) (by omega) (by omega)).mp _h) (by omega)) (fun _hc => ?_)
      refine qi_iconst (v := 0) dX6_dryUp_85 rfl ?_
      refine qi_istore (i := 4) (L2 := [some (.ref a), some (.int (nI n)), some (.int (nI (lackN r n A))), some (.int (nI i)), some (.int 0), x5]) dX6_dryUp_86 (Nat.le_of_ble_eq_true rfl) rfl ?_
      refine qi_iconst (v := 1) dX6_dryUp_88 rfl ?_
      refine qi_istore (i := 5) (L2 := [some (.ref a), some (.int (nI n)), some (.int (nI (lackN r n A))), some (.int (nI i)), some (.int 0), some (.int 1)]) dX6_dryUp_89 (Nat.le_of_ble_eq_true rfl) rfl ?_
      exact KA 39 1 (by omega) (by omega)
  -- the whole parts
  have KG : ∀ m j M1 x4 x5, 0 < A → j + m = 40 → qFr (SS a) M M1 → (∀ k, k < 40 → M1.1 (a + 1) k = if k < j then ρ k - nI (gN r n A k) else ρ k) → (∀ k, k < j → M1.1 (a + 2) k = nI (tN r n A k)) → (∀ k, M1.1 (a + 3) k = M.1 (a + 3) k) → (∀ k, M1.1 (a + 4) k = M.1 (a + 4) k) → (∀ k, M1.1 (a + 5) k = M.1 (a + 5) k) → (∀ k, M1.1 a k = M.1 a k) → qT g kX6_dryUp (qR 0 0 0) (qZV g (fun M' => qSea M' a (dryR ρ r n) ∧ qFr (SS a) M M')) 16 [some (.ref a), some (.int (nI n)), some (.int (nI n - sumF (fun k => nI (gN r n A k)) j)), some (.int (nI j)), x4, x5] [] 333 M1 (0, 0) := by
    intro m
    induction m with
    | zero =>
      intro j M1 x4 x5 h0 e hf e1 e2 e3 e4 e5 e6
      have hM1 := hM.fr hf
      refine qi_iload_n (i := 3) (x := nI j) dX6_dryUp_16 rfl rfl ?_
      refine qi_bipush (v := 40) dX6_dryUp_17 rfl ?_
      refine qi_icmp_ge (tgt := 78) dX6_dryUp_19 (by decide) (fun _hc => ?_) (fun _h => absurd ((nI_leI (a := 40) (b := j) (by omega) (by omega)).mpr (by omega)) _h)
      refine qi_iconst (v := 0) dX6_dryUp_78 rfl ?_
      refine qi_istore_n (i := 3) (L2 := [some (.ref a), some (.int (nI n)), some (.int (nI n - sumF (fun k => nI (gN r n A k)) j)), some (.int 0), x4, x5]) dX6_dryUp_79 rfl (Nat.le_of_ble_eq_true rfl) rfl ?_
      rw [show j = 40 by omega, sumF_nI, pk_sub (g_le hAe h0)]
      refine KP (lackN r n A) 0 M1 _ _ h0 (by omega) hf (fun k hk => ?_) (fun k hk => e2 k (by omega)) e3 e4 e5 e6
      rw [e1 k hk, if_pos (by omega)]
      show _ = _ - nI 0
      rw [show nI 0 = (0 : Int32) from rfl]
      grind
    | succ m ih =>
      intro j M1 x4 x5 h0 e hf e1 e2 e3 e4 e5 e6
      have hM1 := hM.fr hf
      have q1 : M1.1 (a + 1) j = nI (r j) := by rw [e1 j (by omega), if_neg (by omega)]; exact hr j (by omega)
      have q2 : M1.1 a 5 = nI A := by rw [e6, h5, eA]
      have hA0 : ¬ nI A = 0 := nI_ne0 h0 (by omega)
      have q3 : nI (r j) * nI n = nI (r j * n) := pk_mul _ _
      have q4 := hrn j (by omega)
      refine qi_iload_n (i := 3) (x := nI j) dX6_dryUp_16 rfl rfl ?_
      refine qi_bipush (v := 40) dX6_dryUp_17 rfl ?_
      refine qi_icmp_ge (tgt := 78) dX6_dryUp_19 (by decide) (fun _h => absurd ((nI_leI (a := 40) (b := j) (by omega) (by omega)).mp _h) (by omega)) (fun _hc => ?_)
      refine qi_aload_n (i := 0) (x := a) dX6_dryUp_22 rfl rfl ?_
      refine qi_getR (x := a + 1) flX6_9 dX6_dryUp_23 hs.1 (by have := hs.2.2.2.2.2.2; omega) (hM1 a 0 (a + 1) (qref_6_0 hs.1)) ?_
      refine qi_iload_n (i := 3) (x := nI j) dX6_dryUp_26 rfl rfl ?_
      refine qi_ialdN (x := M1.1 (a + 1) j) (j := j) dX6_dryUp_27 hs.2.1 (by have := hs.2.2.2.2.2.2; omega) rfl (by omega) (by decide) rfl ?_
      refine qi_iload_n (i := 1) (x := nI n) dX6_dryUp_28 rfl rfl ?_
      refine qi_imul dX6_dryUp_29 ?_
      refine qe_top (y := nI (r j * n)) (by rw [q1, q3]) ?_
      refine qi_aload_n (i := 0) (x := a) dX6_dryUp_30 rfl rfl ?_
      refine qi_getI (x := M1.1 a 5) flX6_27 dX6_dryUp_31 hs.1 (by have := hs.2.2.2.2.2.2; omega) rfl ?_
      refine qe_top (y := nI A) q2 ?_
      refine qi_idiv dX6_dryUp_34 hA0 ?_
      refine qe_top (y := nI (gN r n A j)) (pk_div (by omega) h0 (by omega)) ?_
      refine qi_istore (i := 4) (L2 := [some (.ref a), some (.int (nI n)), some (.int (nI n - sumF (fun k => nI (gN r n A k)) j)), some (.int (nI j)), some (.int (nI (gN r n A j))), x5]) dX6_dryUp_35 (Nat.le_of_ble_eq_true rfl) rfl ?_
      refine qi_aload_n (i := 0) (x := a) dX6_dryUp_37 rfl rfl ?_
      refine qi_getR (x := a + 2) flX6_15 dX6_dryUp_38 hs.1 (by have := hs.2.2.2.2.2.2; omega) (hM1 a 1 (a + 2) (qref_6_1 hs.1)) ?_
      refine qi_iload_n (i := 3) (x := nI j) dX6_dryUp_41 rfl rfl ?_
      refine qi_aload_n (i := 0) (x := a) dX6_dryUp_42 rfl rfl ?_
      refine qi_getR (x := a + 1) flX6_9 dX6_dryUp_43 hs.1 (by have := hs.2.2.2.2.2.2; omega) (hM1 a 0 (a + 1) (qref_6_0 hs.1)) ?_
      refine qi_iload_n (i := 3) (x := nI j) dX6_dryUp_46 rfl rfl ?_
      refine qi_ialdN (x := M1.1 (a + 1) j) (j := j) dX6_dryUp_47 hs.2.1 (by have := hs.2.2.2.2.2.2; omega) rfl (by omega) (by decide) rfl ?_
      refine qi_iload_n (i := 1) (x := nI n) dX6_dryUp_48 rfl rfl ?_
      refine qi_imul dX6_dryUp_49 ?_
      refine qe_top (y := nI (r j * n)) (by rw [q1, q3]) ?_
      refine qi_aload_n (i := 0) (x := a) dX6_dryUp_50 rfl rfl ?_
      refine qi_getI (x := M1.1 a 5) flX6_27 dX6_dryUp_51 hs.1 (by have := hs.2.2.2.2.2.2; omega) rfl ?_
      refine qe_top (y := nI A) q2 ?_
      refine qi_irem dX6_dryUp_54 hA0 ?_
      refine qe_top (y := nI (tN r n A j)) (pk_rem (by omega) h0 (by omega)) ?_
      refine qi_iastN (j := j) dX6_dryUp_55 hs.2.2.1 (by have := hs.2.2.2.2.2.2; omega) rfl (by omega) (by decide) ?_
      refine qi_aload_n (i := 0) (x := a) dX6_dryUp_56 rfl rfl ?_
      refine qi_getR (x := a + 1) flX6_9 dX6_dryUp_57 hs.1 (by have := hs.2.2.2.2.2.2; omega) (hM1 a 0 (a + 1) (qref_6_0 hs.1)) ?_
      refine qi_iload_n (i := 3) (x := nI j) dX6_dryUp_60 rfl rfl ?_
      refine qi_dup2 dX6_dryUp_61 ?_
      refine qi_ialdN (x := (wI M1 (a + 2) j (nI (tN r n A j))).1 (a + 1) j) (j := j) dX6_dryUp_62 hs.2.1 (by have := hs.2.2.2.2.2.2; omega) rfl (by omega) (by decide) rfl ?_
      refine qi_iload (i := 4) (x := nI (gN r n A j)) dX6_dryUp_63 rfl ?_
      refine qi_isub dX6_dryUp_65 ?_
      refine qi_iastN (j := j) dX6_dryUp_66 hs.2.1 (by have := hs.2.2.2.2.2.2; omega) rfl (by omega) (by decide) ?_
      refine qi_iload_n (i := 2) (x := nI n - sumF (fun k => nI (gN r n A k)) j) dX6_dryUp_67 rfl rfl ?_
      refine qi_iload (i := 4) (x := nI (gN r n A j)) dX6_dryUp_68 rfl ?_
      refine qi_isub dX6_dryUp_70 ?_
      refine qi_istore_n (i := 2) (L2 := [some (.ref a), some (.int (nI n)), some (.int ((nI n - sumF (fun k => nI (gN r n A k)) j) - (nI (gN r n A j)))), some (.int (nI j)), some (.int (nI (gN r n A j))), x5]) dX6_dryUp_71 rfl (Nat.le_of_ble_eq_true rfl) rfl ?_
      refine qi_iinc (i := 3) (x := nI j) (v := nI (j + 1)) (L2 := [some (.ref a), some (.int (nI n)), some (.int ((nI n - sumF (fun k => nI (gN r n A k)) j) - (nI (gN r n A j)))), some (.int (nI (j + 1))), some (.int (nI (gN r n A j))), x5]) dX6_dryUp_72 rfl (nI_1 j) (Nat.le_of_ble_eq_true rfl) rfl ?_
      refine qi_goto (tgt := 16) dX6_dryUp_75 (by decide) ?_
      rw [show nI n - sumF (fun k => nI (gN r n A k)) j - nI (gN r n A j) = nI n - sumF (fun k => nI (gN r n A k)) (j + 1) from by show _ = nI n - (sumF (fun k => nI (gN r n A k)) j + nI (gN r n A j)); grind]
      refine ih (j + 1) _ _ _ h0 (by omega) ((hf.wI (by unfold SS; omega)).wI (by unfold SS; omega)) (fun k hk => ?_) (fun k hk => ?_) (fun k => ?_) (fun k => ?_) (fun k => ?_) (fun k => ?_)
      · have q5 := e1 k hk
        simp only [wI_1]
        grind
      · have q5 := e2 k
        simp only [wI_1]
        grind
      · rw [wI_a (by omega), wI_a (by omega)]; exact e3 k
      · rw [wI_a (by omega), wI_a (by omega)]; exact e4 k
      · rw [wI_a (by omega), wI_a (by omega)]; exact e5 k
      · rw [wI_a (by omega), wI_a (by omega)]; exact e6 k
  refine qV.of (j := 4) (pn_RX6) rfl ?_
  show qT g kX6_dryUp (qR 0 0 0) (qZV g (fun M' => qSea M' a (dryR ρ r n) ∧ qFr (SS a) M M')) 0 [some (.ref a), some (.int (nI n)), none, none, none, none] [] 333 M (0, 0)
  refine qi_aload_n (i := 0) (x := a) dX6_dryUp_0 rfl rfl ?_
  refine qi_getI (x := M.1 a 5) flX6_27 dX6_dryUp_1 hs.1 (by have := hs.2.2.2.2.2.2; omega) rfl ?_
  refine qe_top (y := nI A) (by rw [h5, eA]) ?_
  refine qi_if_le (tgt := 11) dX6_dryUp_4 (by decide) (fun _h => ?_) (fun _h => ?_)
  · have c : A ≤ 0 := (nI_leI (a := A) (b := 0) (by omega) (by omega)).mp _h
    have hn0 : n = 0 := by omega
    exact qi_retV rfl dX6_dryUp_11 (⟨by rw [hn0, dryR_0]; exact hS, qFr.rf⟩)
  · have c : ¬ (A ≤ 0) := fun z => _h ((nI_leI (a := A) (b := 0) (by omega) (by omega)).mpr z)
    refine qi_iload_n (i := 1) (x := nI n) dX6_dryUp_7 rfl rfl ?_
    refine qi_if_gt (tgt := 12) dX6_dryUp_8 (by decide) (fun _h => ?_) (fun _h => ?_)
    · have c2 : 0 < n := (nI_ltI (a := 0) (b := n) (by omega) (by omega)).mp _h
      refine qi_iload_n (i := 1) (x := nI n) dX6_dryUp_12 rfl rfl ?_
      refine qi_istore_n (i := 2) (L2 := [some (.ref a), some (.int (nI n)), some (.int (nI n)), none, none, none]) dX6_dryUp_13 rfl (Nat.le_of_ble_eq_true rfl) rfl ?_
      refine qi_iconst (v := 0) dX6_dryUp_14 rfl ?_
      refine qi_istore_n (i := 3) (L2 := [some (.ref a), some (.int (nI n)), some (.int (nI n)), some (.int 0), none, none]) dX6_dryUp_15 rfl (Nat.le_of_ble_eq_true rfl) rfl ?_
      have A1 := KG 40 0 M none none (by omega) (by omega) qFr.rf (fun k hk => by rw [if_neg (by omega)]; exact h1 k hk) (fun k hk => absurd hk (Nat.not_lt_zero _)) (fun _ => rfl) (fun _ => rfl) (fun _ => rfl) (fun _ => rfl)
      rw [show nI n - sumF (fun k => nI (gN r n A k)) 0 = nI n from by show nI n - 0 = nI n; grind] at A1
      exact A1
    · have c2 : ¬ (0 < n) := fun z => _h ((nI_ltI (a := 0) (b := n) (by omega) (by omega)).mpr z)
      have hn0 : n = 0 := by omega
      exact qi_retV rfl dX6_dryUp_11 (⟨by rw [hn0, dryR_0]; exact hS, qFr.rf⟩)
