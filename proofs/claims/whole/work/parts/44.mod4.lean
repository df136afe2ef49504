/-! ThimbleSeaModel: lessens, weekGoes -/
def SG : Nat → Nat → Prop := fun b _ => b = 322 ∨ b = 323 ∨ b = 324
set_option maxHeartbeats 1000000 in
theorem c_X12_lessens (g : qG) {M : qM} (hM : qRf M) {ρ : Nat → Int32} (hR : qRow M ρ) {r : Nat → Nat} (hr : ∀ k, k < 40 → ρ k = nI (r k)) (hA : sumN r 40 ≤ 9999) {n : Nat} (hn : n ≤ sumN r 40) : qV g 1 kX12_lessens [.ref 280, .int (nI n)] M (fun M' => qRow M' (dryR ρ r n) ∧ qFr SG M M') := by
  have eA := allF_nat hr
  have hrk : ∀ k, k < 40 → r k ≤ 9999 := fun k hk => Nat.le_trans (sumN_get 40 k hk) hA
  have hrn : ∀ k, k < 40 → r k * n ≤ 99980001 := fun k hk => Nat.mul_le_mul (hrk k hk) (Nat.le_trans hn hA)
  generalize hAe : sumN r 40 = A at *
  have hL : lackN r n A ≤ 9999 := by unfold lackN; omega
  -- the end: the rows
  have KE : ∀ m j M1 x5 x6, 0 < A → j + m = 40 → qFr SG M M1 → (∀ k, k < 66 → M1.1 322 k = if k < j then dryR ρ r n k else ρ k) → (∀ k, k < 40 → M1.1 323 k = nI (gN r n A k + dryX (tN r n A) (lackN r n A) k)) → qT g kX12_lessens (qR 1 0 0) (qZV g (fun M' => qRow M' (dryR ρ r n) ∧ qFr SG M M')) 160 [some (.ref 280), some (.int (nI n)), some (.int (nI A)), some (.int (nI (lackN r n A))), some (.int (nI j)), x5, x6] [] 333 M1 (0, 0) := by
    intro m
    induction m with
    | zero =>
      intro j M1 x5 x6 h0 e hf e1 e2
      have hM1 := hM.fr hf
      refine qi_iload (i := 4) (x := nI j) dX12_lessens_160 rfl ?_
      refine qi_bipush (v := 40) dX12_lessens_162 rfl ?_
      refine qi_icmp_ge (tgt := 190) dX12_lessens_164 (by decide) (fun _hc => ?_) (fun _h => absurd ((nI_leI (a := 40) (b := j) (by omega) (by omega)).mpr (by omega)) _h)
      refine qi_retV rfl dX12_lessens_190 (?_)
      refine ⟨fun k hk => ?_, hf⟩
      rw [e1 k hk]
      by_cases hk4 : k < 40
      · rw [if_pos (by omega)]
      · rw [if_neg (by omega)]
        unfold dryR
        rw [if_neg hk4]
    | succ m ih =>
      intro j M1 x5 x6 h0 e hf e1 e2
      have hM1 := hM.fr hf
      have q1 := e1 j (by omega)
      have q2 := e2 j (by omega)
      rw [if_neg (by omega)] at q1
      have q3 : ρ j - nI (gN r n A j + dryX (tN r n A) (lackN r n A) j) = dryR ρ r n j := by
        unfold dryR
        rw [if_pos (by omega), hAe, ← nI_add]
        grind
      refine qi_iload (i := 4) (x := nI j) dX12_lessens_160 rfl ?_
      refine qi_bipush (v := 40) dX12_lessens_162 rfl ?_
      refine qi_icmp_ge (tgt := 190) dX12_lessens_164 (by decide) (fun _h => absurd ((nI_leI (a := 40) (b := j) (by omega) (by omega)).mp _h) (by omega)) (fun _hc => ?_)
      refine qi_aload_n (i := 0) (x := 280) dX12_lessens_167 rfl rfl ?_
      refine qi_getR (x := 322) flX12_143 dX12_lessens_168 rfl (by decide) (hM1 280 59 322 rfl) ?_
      refine qi_iload (i := 4) (x := nI j) dX12_lessens_171 rfl ?_
      refine qi_dup2 dX12_lessens_173 ?_
      refine qi_ialdN (x := M1.1 322 j) (j := j) dX12_lessens_174 rfl (by decide) rfl (by omega) (by decide) rfl ?_
      refine qi_aload_n (i := 0) (x := 280) dX12_lessens_175 rfl rfl ?_
      refine qi_getR (x := 323) flX12_146 dX12_lessens_176 rfl (by decide) (hM1 280 62 323 rfl) ?_
      refine qi_iload (i := 4) (x := nI j) dX12_lessens_179 rfl ?_
      refine qi_ialdN (x := M1.1 323 j) (j := j) dX12_lessens_181 rfl (by decide) rfl (by omega) (by decide) rfl ?_
      refine qi_isub dX12_lessens_182 ?_
      refine qe_top (y := dryR ρ r n j) (by rw [q1, q2, q3]) ?_
      refine qi_iastN (j := j) dX12_lessens_183 rfl (by decide) rfl (by omega) (by decide) ?_
      refine qi_iinc (i := 4) (x := nI j) (v := nI (j + 1)) (L2 := [some (.ref 280), some (.int (nI n)), some (.int (nI A)), some (.int (nI (lackN r n A))), some (.int (nI (j + 1))), x5, x6]) dX12_lessens_184 rfl (nI_1 j) (Nat.le_of_ble_eq_true rfl) rfl ?_
      refine qi_goto (tgt := 160) dX12_lessens_187 (by decide) ?_
      refine ih (j + 1) _ _ _ h0 (by omega) (hf.wI (Or.inl rfl)) (fun k hk => ?_) (fun k hk => by rw [wI_a (by omega)]; exact e2 k hk)
      by_cases hkj : k = j
      · rw [hkj, wI_s, if_pos (by omega)]
      · rw [wI_k hkj, e1 k hk]
        by_cases hk2 : k < j
        · rw [if_pos hk2, if_pos (by omega)]
        · rw [if_neg hk2, if_neg (by omega)]
  -- the picks
  have KP : ∀ m i M1 x5 x6, 0 < A → i + m = lackN r n A → qFr SG M M1 → (∀ k, k < 66 → M1.1 322 k = ρ k) → (∀ k, k < 40 → M1.1 323 k = nI (gN r n A k + dryX (tN r n A) i k)) → (∀ k, k < 40 → (M1.2.1 324 k).toInt = leftZ (tN r n A) i k) → qT g kX12_lessens (qR 1 0 0) (qZV g (fun M' => qRow M' (dryR ρ r n) ∧ qFr SG M M')) 83 [some (.ref 280), some (.int (nI n)), some (.int (nI A)), some (.int (nI (lackN r n A))), some (.int (nI i)), x5, x6] [] 333 M1 (0, 0) := by
    intro m
    induction m with
    | zero =>
      intro i M1 x5 x6 h0 e hf e1 e2 e3
      have hM1 := hM.fr hf
      refine qi_iload (i := 4) (x := nI i) dX12_lessens_83 rfl ?_
      refine qi_iload_n (i := 3) (x := nI (lackN r n A)) dX12_lessens_85 rfl rfl ?_
      refine qi_icmp_ge (tgt := 157) dX12_lessens_86 (by decide) (fun _hc => ?_) (fun _h => absurd ((nI_leI (a := lackN r n A) (b := i) (by omega) (by omega)).mpr (by omega)) _h)
      refine qi_iconst (v := 0) dX12_lessens_157 rfl ?_
      refine qi_istore (i := 4) (L2 := [some (.ref 280), some (.int (nI n)), some (.int (nI A)), some (.int (nI (lackN r n A))), some (.int 0), x5, x6]) dX12_lessens_158 (Nat.le_of_ble_eq_true rfl) rfl ?_
      refine KE 40 0 M1 _ _ h0 (by omega) hf (fun k hk => by rw [if_neg (by omega)]; exact e1 k hk) (fun k hk => ?_)
      rw [e2 k hk, show i = lackN r n A by omega]
    | succ m ih =>
      intro i M1 x5 x6 h0 e hf e1 e2 e3
      have hM1 := hM.fr hf
      have hpick := pickZ (r := r) (n := n) (A := A) (i := i) hAe h0 hn (by omega)
      have hb39 := (aZ_spec (leftZ (tN r n A) i) 39).1
      have hZ : ∀ k, leftZ (tN r n A) (i + 1) k = if k = aZ (leftZ (tN r n A) i) 39 then -1 else leftZ (tN r n A) i k := fun k => by rw [leftZ_s, hpick]
      have hXs : ∀ k, dryX (tN r n A) (i + 1) k = dryX (tN r n A) i k + (if k = aZ (leftZ (tN r n A) i) 39 then 1 else 0) := fun k => by rw [hpick]; rfl
      generalize leftZ (tN r n A) i = z at *
      have KA : ∀ m2 j, j + m2 = 40 → 1 ≤ j → qT g kX12_lessens (qR 1 0 0) (qZV g (fun M' => qRow M' (dryR ρ r n) ∧ qFr SG M M')) 95 [some (.ref 280), some (.int (nI n)), some (.int (nI A)), some (.int (nI (lackN r n A))), some (.int (nI i)), some (.int (nI (aZ z (j - 1)))), some (.int (nI j))] [] 333 M1 (0, 0) := by
        intro m2
        induction m2 with
        | zero =>
          intro j e7 e8
          have hb := (aZ_spec z (j - 1)).1
          refine qi_iload (i := 6) (x := nI j) dX12_lessens_95 rfl ?_
          refine qi_bipush (v := 40) dX12_lessens_97 rfl ?_
          refine qi_icmp_ge (tgt := 130) dX12_lessens_99 (by decide) (fun _hc => ?_) (fun _h => absurd ((nI_leI (a := 40) (b := j) (by omega) (by omega)).mpr (by omega)) _h)
          refine qi_aload_n (i := 0) (x := 280) dX12_lessens_130 rfl rfl ?_
          refine qi_getR (x := 323) flX12_146 dX12_lessens_131 rfl (by decide) (hM1 280 62 323 rfl) ?_
          refine qi_iload (i := 5) (x := nI (aZ z (j - 1))) dX12_lessens_134 rfl ?_
          refine qi_dup2 dX12_lessens_136 ?_
          refine qi_ialdN (x := M1.1 323 (aZ z (j - 1))) (j := aZ z (j - 1)) dX12_lessens_137 rfl (by decide) rfl (by omega) (by decide) rfl ?_
          refine qi_iconst (v := 1) dX12_lessens_138 rfl ?_
          refine qi_iadd dX12_lessens_139 ?_
          refine qi_iastN (j := aZ z (j - 1)) dX12_lessens_140 rfl (by decide) rfl (by omega) (by decide) ?_
          refine qi_aload_n (i := 0) (x := 280) dX12_lessens_141 rfl rfl ?_
          refine qi_getR (x := 324) flX12_149 dX12_lessens_142 rfl (by decide) (hM1 280 63 324 rfl) ?_
          refine qi_iload (i := 5) (x := nI (aZ z (j - 1))) dX12_lessens_145 rfl ?_
          refine qi_ldc2 dX12_lessens_147 cnX12_365 ?_
          refine qi_lastN (j := aZ z (j - 1)) dX12_lessens_150 rfl (by decide) rfl (by omega) (by decide) ?_
          refine qi_iinc (i := 4) (x := nI i) (v := nI (i + 1)) (L2 := [some (.ref 280), some (.int (nI n)), some (.int (nI A)), some (.int (nI (lackN r n A))), some (.int (nI (i + 1))), some (.int (nI (aZ z (j - 1)))), some (.int (nI j))]) dX12_lessens_151 rfl (nI_1 i) (Nat.le_of_ble_eq_true rfl) rfl ?_
          refine qi_goto (tgt := 83) dX12_lessens_154 (by decide) ?_
          rw [show j - 1 = 39 by omega]
          refine ih (i + 1) _ _ _ h0 (by omega) ((hf.wI (by unfold SG; omega)).wJ (by unfold SG; omega)) (fun k hk => by rw [wJ_1, wI_a (by omega)]; exact e1 k hk) (fun k hk => ?_) (fun k hk => ?_)
          · rw [wJ_1, wI_1, hXs]
            by_cases hkb : k = aZ z 39
            · subst hkb
              rw [if_pos ⟨rfl, rfl⟩, if_pos rfl, e2 _ hk, nI_1]
              congr 1
            · rw [if_neg (fun q => hkb q.2), if_neg hkb, e2 k hk, Nat.add_zero]
          · rw [wJ_2, hZ]
            by_cases hkb : k = aZ z 39
            · rw [if_pos ⟨rfl, hkb⟩, if_pos hkb]; decide
            · rw [if_neg (fun q => hkb q.2), if_neg hkb, wI_2]; exact e3 k hk
        | succ m2 ih2 =>
          intro j e7 e8
          have hb := (aZ_spec z (j - 1)).1
          have q0 : aZ z (j + 1 - 1) = if z (aZ z (j - 1)) < z j then j else aZ z (j - 1) := by
            rw [show j + 1 - 1 = (j - 1) + 1 by omega]
            show (if z (aZ z (j - 1)) < z (j - 1 + 1) then j - 1 + 1 else aZ z (j - 1)) = _
            rw [show j - 1 + 1 = j by omega]
          have A1 := ih2 (j + 1) (by omega) (by omega)
          rw [q0] at A1
          have z1 := e3 j (by omega)
          have z2 := e3 (aZ z (j - 1)) (by omega)
          refine qi_iload (i := 6) (x := nI j) dX12_lessens_95 rfl ?_
          refine qi_bipush (v := 40) dX12_lessens_97 rfl ?_
          refine qi_icmp_ge (tgt := 130) dX12_lessens_99 (by decide) (fun _h => absurd ((nI_leI (a := 40) (b := j) (by omega) (by omega)).mp _h) (by omega)) (fun _hc => ?_)
          refine qi_aload_n (i := 0) (x := 280) dX12_lessens_102 rfl rfl ?_
          refine qi_getR (x := 324) flX12_149 dX12_lessens_103 rfl (by decide) (hM1 280 63 324 rfl) ?_
          refine qi_iload (i := 6) (x := nI j) dX12_lessens_106 rfl ?_
          refine qi_laldN (x := M1.2.1 324 j) (j := j) dX12_lessens_108 rfl (by decide) rfl (by omega) (by decide) rfl ?_
          refine qi_aload_n (i := 0) (x := 280) dX12_lessens_109 rfl rfl ?_
          refine qi_getR (x := 324) flX12_149 dX12_lessens_110 rfl (by decide) (hM1 280 63 324 rfl) ?_
          refine qi_iload (i := 5) (x := nI (aZ z (j - 1))) dX12_lessens_113 rfl ?_
          refine qi_laldN (x := M1.2.1 324 (aZ z (j - 1))) (j := aZ z (j - 1)) dX12_lessens_115 rfl (by decide) rfl (by omega) (by decide) rfl ?_
          refine qi_lcmp dX12_lessens_116 ?_
          refine qi_if_le (tgt := 124) dX12_lessens_117 (by decide) (fun c => ?_) (fun c => ?_)
          · refine qi_iinc (i := 6) (x := nI j) (v := nI (j + 1)) (L2 := [some (.ref 280), some (.int (nI n)), some (.int (nI A)), some (.int (nI (lackN r n A))), some (.int (nI i)), some (.int (nI (aZ z (j - 1)))), some (.int (nI (j + 1)))]) dX12_lessens_124 rfl (nI_1 j) (Nat.le_of_ble_eq_true rfl) rfl ?_
            refine qi_goto (tgt := 95) dX12_lessens_127 (by decide) ?_
            have c' := lg_le.mp c
            rw [if_neg (by omega)] at A1
            exact A1
          · refine qi_iload (i := 6) (x := nI j) dX12_lessens_120 rfl ?_
            refine qi_istore (i := 5) (L2 := [some (.ref 280), some (.int (nI n)), some (.int (nI A)), some (.int (nI (lackN r n A))), some (.int (nI i)), some (.int (nI j)), some (.int (nI j))]) dX12_lessens_122 (Nat.le_of_ble_eq_true rfl) rfl ?_
            refine qi_iinc (i := 6) (x := nI j) (v := nI (j + 1)) (L2 := [some (.ref 280), some (.int (nI n)), some (.int (nI A)), some (.int (nI (lackN r n A))), some (.int (nI i)), some (.int (nI j)), some (.int (nI (j + 1)))]) dX12_lessens_124 rfl (nI_1 j) (Nat.le_of_ble_eq_true rfl) rfl ?_
            refine qi_goto (tgt := 95) dX12_lessens_127 (by decide) ?_
            have c' : ¬ _ := fun q => c (lg_le.mpr q)
            rw [if_pos (by omega)] at A1
            exact A1
      refine qi_iload (i := 4) (x := nI i) dX12_lessens_83 rfl ?_
      refine qi_iload_n (i := 3) (x := nI (lackN r n A)) dX12_lessens_85 rfl rfl ?_
      refine qi_icmp_ge (tgt := 157) dX12_lessens_86 (by decide) (fun _h => absurd ((nI_leI (a := lackN r n A) (b := i) (by omega) (by omega)).mp _h) (by omega)) (fun _hc => ?_)
      refine qi_iconst (v := 0) dX12_lessens_89 rfl ?_
      refine qi_istore (i := 5) (L2 := [some (.ref 280), some (.int (nI n)), some (.int (nI A)), some (.int (nI (lackN r n A))), some (.int (nI i)), some (.int 0), x6]) dX12_lessens_90 (Nat.le_of_ble_eq_true rfl) rfl ?_
      refine qi_iconst (v := 1) dX12_lessens_92 rfl ?_
      refine qi_istore (i := 6) (L2 := [some (.ref 280), some (.int (nI n)), some (.int (nI A)), some (.int (nI (lackN r n A))), some (.int (nI i)), some (.int 0), some (.int 1)]) dX12_lessens_93 (Nat.le_of_ble_eq_true rfl) rfl ?_
      exact KA 39 1 (by omega) (by omega)
  -- the whole parts
  have KG : ∀ m j M1 x5 x6, 0 < A → j + m = 40 → qFr SG M M1 → (∀ k, k < 66 → M1.1 322 k = ρ k) → (∀ k, k < j → M1.1 323 k = nI (gN r n A k)) → (∀ k, k < j → M1.2.1 324 k = lN (tN r n A k)) → qT g kX12_lessens (qR 1 0 0) (qZV g (fun M' => qRow M' (dryR ρ r n) ∧ qFr SG M M')) 19 [some (.ref 280), some (.int (nI n)), some (.int (nI A)), some (.int (nI n - sumF (fun k => nI (gN r n A k)) j)), some (.int (nI j)), x5, x6] [] 333 M1 (0, 0) := by
    intro m
    induction m with
    | zero =>
      intro j M1 x5 x6 h0 e hf e1 e2 e3
      have hM1 := hM.fr hf
      refine qi_iload (i := 4) (x := nI j) dX12_lessens_19 rfl ?_
      refine qi_bipush (v := 40) dX12_lessens_21 rfl ?_
      refine qi_icmp_ge (tgt := 80) dX12_lessens_23 (by decide) (fun _hc => ?_) (fun _h => absurd ((nI_leI (a := 40) (b := j) (by omega) (by omega)).mpr (by omega)) _h)
      refine qi_iconst (v := 0) dX12_lessens_80 rfl ?_
      refine qi_istore (i := 4) (L2 := [some (.ref 280), some (.int (nI n)), some (.int (nI A)), some (.int (nI n - sumF (fun k => nI (gN r n A k)) j)), some (.int 0), x5, x6]) dX12_lessens_81 (Nat.le_of_ble_eq_true rfl) rfl ?_
      rw [show j = 40 by omega, sumF_nI, pk_sub (g_le hAe h0)]
      refine KP (lackN r n A) 0 M1 _ _ h0 (by omega) hf e1 (fun k hk => ?_) (fun k hk => ?_)
      · rw [e2 k (by omega)]; rfl
      · rw [e3 k (by omega)]
        have : tN r n A k < A := Nat.mod_lt _ h0
        rw [lN_toInt (by omega)]
        rfl
    | succ m ih =>
      intro j M1 x5 x6 h0 e hf e1 e2 e3
      have hM1 := hM.fr hf
      have q1 : M1.1 322 j = nI (r j) := (e1 j (by omega)).trans (hr j (by omega))
      have q4 := hrn j (by omega)
      have q5 := hrk j (by omega)
      have hA0 : ¬ lN A = 0 := by
        intro q
        have := (lN_eq (a := A) (b := 0) (by omega) (by omega)).mp q
        omega
      have eAl : (nI A).toInt64 = lN A := nI_l (by omega)
      have enl : (nI n).toInt64 = lN n := nI_l (by omega)
      refine qi_iload (i := 4) (x := nI j) dX12_lessens_19 rfl ?_
      refine qi_bipush (v := 40) dX12_lessens_21 rfl ?_
      refine qi_icmp_ge (tgt := 80) dX12_lessens_23 (by decide) (fun _h => absurd ((nI_leI (a := 40) (b := j) (by omega) (by omega)).mp _h) (by omega)) (fun _hc => ?_)
      refine qi_iload_n (i := 1) (x := nI n) dX12_lessens_26 rfl rfl ?_
      refine qi_i2l dX12_lessens_27 ?_
      refine qi_aload_n (i := 0) (x := 280) dX12_lessens_28 rfl rfl ?_
      refine qi_getR (x := 322) flX12_143 dX12_lessens_29 rfl (by decide) (hM1 280 59 322 rfl) ?_
      refine qi_iload (i := 4) (x := nI j) dX12_lessens_32 rfl ?_
      refine qi_ialdN (x := M1.1 322 j) (j := j) dX12_lessens_34 rfl (by decide) rfl (by omega) (by decide) rfl ?_
      refine qe_top (y := nI (r j)) q1 ?_
      refine qi_i2l dX12_lessens_35 ?_
      refine qi_lmul dX12_lessens_36 ?_
      refine qe_topJ (y := lN (r j * n)) (by rw [enl, nI_l (by omega), lN_mul, Nat.mul_comm]) ?_
      refine qi_lstore (i := 5) (L2 := [some (.ref 280), some (.int (nI n)), some (.int (nI A)), some (.int (nI n - sumF (fun k => nI (gN r n A k)) j)), some (.int (nI j)), some (.long (lN (r j * n))), none]) dX12_lessens_37 (Nat.le_of_ble_eq_true rfl) rfl ?_
      refine qi_aload_n (i := 0) (x := 280) dX12_lessens_39 rfl rfl ?_
      refine qi_getR (x := 323) flX12_146 dX12_lessens_40 rfl (by decide) (hM1 280 62 323 rfl) ?_
      refine qi_iload (i := 4) (x := nI j) dX12_lessens_43 rfl ?_
      refine qi_lload (i := 5) (x := lN (r j * n)) dX12_lessens_45 rfl ?_
      refine qi_iload_n (i := 2) (x := nI A) dX12_lessens_47 rfl rfl ?_
      refine qi_i2l dX12_lessens_48 ?_
      refine qe_topJ (y := lN A) eAl ?_
      refine qi_ldiv dX12_lessens_49 hA0 ?_
      refine qe_topJ (y := lN (gN r n A j)) (pk_lDiv (by omega) h0 (by omega)) ?_
      refine qi_l2i dX12_lessens_50 ?_
      refine qe_top (y := nI (gN r n A j)) (lN_i _) ?_
      refine qi_iastN (j := j) dX12_lessens_51 rfl (by decide) rfl (by omega) (by decide) ?_
      refine qi_aload_n (i := 0) (x := 280) dX12_lessens_52 rfl rfl ?_
      refine qi_getR (x := 324) flX12_149 dX12_lessens_53 rfl (by decide) (hM1 280 63 324 rfl) ?_
      refine qi_iload (i := 4) (x := nI j) dX12_lessens_56 rfl ?_
      refine qi_lload (i := 5) (x := lN (r j * n)) dX12_lessens_58 rfl ?_
      refine qi_iload_n (i := 2) (x := nI A) dX12_lessens_60 rfl rfl ?_
      refine qi_i2l dX12_lessens_61 ?_
      refine qe_topJ (y := lN A) eAl ?_
      refine qi_lrem dX12_lessens_62 hA0 ?_
      refine qe_topJ (y := lN (tN r n A j)) (pk_lRem (by omega) h0 (by omega)) ?_
      refine qi_lastN (j := j) dX12_lessens_63 rfl (by decide) rfl (by omega) (by decide) ?_
      refine qi_iload_n (i := 3) (x := nI n - sumF (fun k => nI (gN r n A k)) j) dX12_lessens_64 rfl rfl ?_
      refine qi_aload_n (i := 0) (x := 280) dX12_lessens_65 rfl rfl ?_
      refine qi_getR (x := 323) flX12_146 dX12_lessens_66 rfl (by decide) (hM1 280 62 323 rfl) ?_
      refine qi_iload (i := 4) (x := nI j) dX12_lessens_69 rfl ?_
      refine qi_ialdN (x := (wJ (wI M1 323 j (nI (gN r n A j))) 324 j (lN (tN r n A j))).1 323 j) (j := j) dX12_lessens_71 rfl (by decide) rfl (by omega) (by decide) rfl ?_
      refine qe_top (y := nI (gN r n A j)) (by rw [wJ_1, wI_s]) ?_
      refine qi_isub dX12_lessens_72 ?_
      refine qi_istore_n (i := 3) (L2 := [some (.ref 280), some (.int (nI n)), some (.int (nI A)), some (.int ((nI n - sumF (fun k => nI (gN r n A k)) j) - (nI (gN r n A j)))), some (.int (nI j)), some (.long (lN (r j * n))), none]) dX12_lessens_73 rfl (Nat.le_of_ble_eq_true rfl) rfl ?_
      refine qi_iinc (i := 4) (x := nI j) (v := nI (j + 1)) (L2 := [some (.ref 280), some (.int (nI n)), some (.int (nI A)), some (.int ((nI n - sumF (fun k => nI (gN r n A k)) j) - (nI (gN r n A j)))), some (.int (nI (j + 1))), some (.long (lN (r j * n))), none]) dX12_lessens_74 rfl (nI_1 j) (Nat.le_of_ble_eq_true rfl) rfl ?_
      refine qi_goto (tgt := 19) dX12_lessens_77 (by decide) ?_
      rw [show nI n - sumF (fun k => nI (gN r n A k)) j - nI (gN r n A j) = nI n - sumF (fun k => nI (gN r n A k)) (j + 1) from by show _ = nI n - (sumF (fun k => nI (gN r n A k)) j + nI (gN r n A j)); grind]
      refine ih (j + 1) _ _ _ h0 (by omega) ((hf.wI (by unfold SG; omega)).wJ (by unfold SG; omega)) (fun k hk => by rw [wJ_1, wI_a (by omega)]; exact e1 k hk) (fun k hk => ?_) (fun k hk => ?_)
      · rw [wJ_1, wI_1]
        by_cases hkj : k = j
        · rw [if_pos ⟨rfl, hkj⟩, hkj]
        · rw [if_neg (fun q => hkj q.2)]; exact e2 k (by omega)
      · rw [wJ_2, wI_2]
        by_cases hkj : k = j
        · rw [if_pos ⟨rfl, hkj⟩, hkj]
        · rw [if_neg (fun q => hkj q.2)]; exact e3 k (by omega)
  refine qV.of (j := 5) (pn_RX12) rfl ?_
  show qT g kX12_lessens (qR 1 0 0) (qZV g (fun M' => qRow M' (dryR ρ r n) ∧ qFr SG M M')) 0 [some (.ref 280), some (.int (nI n)), none, none, none, none, none] [] 333 M (0, 0)
  refine qi_aload_n (i := 0) (x := 280) dX12_lessens_0 rfl rfl ?_
  refine qi_callPVI (v := allF ρ) (K' := kX12_allDrops) (As := []) mlX12_352 okX12_allDrops dX12_lessens_1 (c_X12_allDrops g hM hR) rfl (by decide) rfl (by decide) rfl rfl (Nat.le_of_ble_eq_true rfl) ⟨(Nat.le_of_ble_eq_true rfl), (Nat.le_of_ble_eq_true rfl)⟩ ⟨Nat.le_refl _, Nat.le_refl _⟩ ?_
  refine qe_top (y := nI A) eA ?_
  refine qi_istore_n (i := 2) (L2 := [some (.ref 280), some (.int (nI n)), some (.int (nI A)), none, none, none, none]) dX12_lessens_4 rfl (Nat.le_of_ble_eq_true rfl) rfl ?_
  refine qi_iload_n (i := 2) (x := nI A) dX12_lessens_5 rfl rfl ?_
  refine qi_if_eq (tgt := 13) dX12_lessens_6 (by decide) (fun _h => ?_) (fun _h => ?_)
  · have c : A = 0 := (nI_eq (a := A) (b := 0) (by omega) (by omega)).mp _h
    have hn0 : n = 0 := by omega
    exact qi_retV rfl dX12_lessens_13 (⟨by rw [hn0, dryR_0]; exact hR, qFr.rf⟩)
  · have c : ¬ (A = 0) := fun z => _h ((nI_eq (a := A) (b := 0) (by omega) (by omega)).mpr z)
    refine qi_iload_n (i := 1) (x := nI n) dX12_lessens_9 rfl rfl ?_
    refine qi_if_ne (tgt := 14) dX12_lessens_10 (by decide) (fun _h => ?_) (fun _h => ?_)
    · have c2 : ¬ (n = 0) := fun z => _h ((nI_eq (a := n) (b := 0) (by omega) (by omega)).mpr z)
      refine qi_iload_n (i := 1) (x := nI n) dX12_lessens_14 rfl rfl ?_
      refine qi_istore_n (i := 3) (L2 := [some (.ref 280), some (.int (nI n)), some (.int (nI A)), some (.int (nI n)), none, none, none]) dX12_lessens_15 rfl (Nat.le_of_ble_eq_true rfl) rfl ?_
      refine qi_iconst (v := 0) dX12_lessens_16 rfl ?_
      refine qi_istore (i := 4) (L2 := [some (.ref 280), some (.int (nI n)), some (.int (nI A)), some (.int (nI n)), some (.int 0), none, none]) dX12_lessens_17 (Nat.le_of_ble_eq_true rfl) rfl ?_
      have A1 := KG 40 0 M none none (by omega) (by omega) qFr.rf hR (fun k hk => absurd hk (Nat.not_lt_zero _)) (fun k hk => absurd hk (Nat.not_lt_zero _))
      rw [show nI n - sumF (fun k => nI (gN r n A k)) 0 = nI n from by show nI n - 0 = nI n; grind] at A1
      exact A1
    · have c2 : n = 0 := (nI_eq (a := n) (b := 0) (by omega) (by omega)).mp _h
      have hn0 : n = 0 := by omega
      exact qi_retV rfl dX12_lessens_13 (⟨by rw [hn0, dryR_0]; exact hR, qFr.rf⟩)
