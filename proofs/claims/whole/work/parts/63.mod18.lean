/-! ThimbleSeaModel: restore, count, feed, back, place -/
set_option maxHeartbeats 1000000 in
theorem c_X12_restore (g : qG) {M : qM} (hM : qRf M) {c : qCo} (hC : qCore M c) {η : qHd} (hH : qHeld M η.1 η.2) (s : Int32) : qI g 1 kX12_restore [.ref 280, .int s] M (fun r M' => r = (dRestore s c η).1 ∧ qCore M' (dRestore s c η).2 ∧ qFr SU M M') := by
  obtain ⟨res, hres⟩ : ∃ res, res = dRestore s c η := ⟨_, rfl⟩
  rw [← hres]
  have E : (isF 3 s = 0 ∨ η.1 s.toNatClampNeg = 0) → qT g kX12_restore (qR 1 0 0) (qZI g (fun r M' => r = res.1 ∧ qCore M' res.2 ∧ qFr SU M M')) 18 [some (.ref 280), some (.int s), none] [] 333 M (0, 0) := by
    intro hb
    unfold dRestore at hres
    rw [if_pos hb] at hres
    refine qi_iconst (v := 0) dX12_restore_18 rfl ?_
    exact qi_retI rfl (by rfl) dX12_restore_19 (⟨by rw [hres], by rw [hres]; exact hC, qFr.rf⟩)
  refine qI.of (j := 1) (pn_RX12) rfl ?_
  show qT g kX12_restore (qR 1 0 0) (qZI g (fun r M' => r = res.1 ∧ qCore M' res.2 ∧ qFr SU M M')) 0 [some (.ref 280), some (.int s), none] [] 333 M (0, 0)
  refine qi_iload_n (i := 1) (x := s) dX12_restore_0 rfl rfl ?_
  refine qi_iconst (v := 0) dX12_restore_1 rfl ?_
  refine qi_iconst (v := 2) dX12_restore_2 rfl ?_
  refine qi_callPSI (v := (if (0 : Int32) ≤ s ∧ s ≤ 2 then (1 : Int32) else 0)) (K' := kX12_in) (As := [.int s, .int 0, .int 2]) mlX12_338 okX12_in dX12_restore_3 (c_X12_in g _ _ _) rfl rfl (Nat.le_of_ble_eq_true rfl) ⟨(Nat.le_of_ble_eq_true rfl), (Nat.le_of_ble_eq_true rfl)⟩ ⟨Nat.le_refl _, Nat.le_refl _⟩ ?_
  refine qe_top (y := isF 3 s) (isF_in (n := 3) (by omega)) ?_
  refine qi_if_eq (tgt := 18) dX12_restore_6 (by decide) (fun c1 => ?_) (fun c1 => ?_)
  · exact E (Or.inl c1)
  · obtain ⟨k, hk, ek⟩ := isF_of (by omega) c1
    have hb1 := (hH.1 k hk).1
    unfold dRestore at hres
    rw [ek, nI_clamp (by omega)] at hres E
    rw [ek] at c1
    rw [ek]
    refine qi_aload_n (i := 0) (x := 280) dX12_restore_9 rfl rfl ?_
    refine qi_getR (x := 331) flX12_170 dX12_restore_10 rfl (by decide) (hM 280 75 331 rfl) ?_
    refine qi_iload_n (i := 1) (x := nI k) dX12_restore_13 rfl rfl ?_
    refine qi_zaldN (x := η.1 k) (j := k) dX12_restore_14 rfl (by decide) rfl (by omega) (by decide) hb1 ?_
    refine qi_if_ne (tgt := 20) dX12_restore_15 (by decide) (fun c2 => ?_) (fun c2 => ?_)
    · rw [if_neg (fun z => z.elim c1 c2)] at hres
      have hb : η.1 k = 1 := ((hH.1 k hk).2).resolve_left c2
      have K : ∀ m j M1, j + m = 80 → qFr SU M M1 → (∀ i, i < j → M1.1 321 i = M.1 332 (80 * k + i)) → qT g kX12_restore (qR 1 0 0) (qZI g (fun r M' => r = res.1 ∧ qCore M' res.2 ∧ qFr SU M M')) 22 [some (.ref 280), some (.int (nI k)), some (.int (nI j))] [] 333 M1 (0, 0) := by
        intro m
        induction m with
        | zero =>
          intro j M1 e hf h
          have hM1 := hM.fr hf
          refine qi_iload_n (i := 2) (x := nI j) dX12_restore_22 rfl rfl ?_
          refine qi_bipush (v := 80) dX12_restore_23 rfl ?_
          refine qi_icmp_ge (tgt := 51) dX12_restore_25 (by decide) (fun _hc => ?_) (fun _h => absurd ((nI_leI (a := 80) (b := j) (by omega) (by omega)).mpr (by omega)) _h)
          refine qi_aload_n (i := 0) (x := 280) dX12_restore_51 rfl rfl ?_
          refine qi_iconst (v := 0) dX12_restore_52 rfl ?_
          refine qi_putI flX12_269 q_cls12 (ty12_64 _) dX12_restore_53 rfl (by decide) ?_
          refine qi_iconst (v := 1) dX12_restore_56 rfl ?_
          refine qi_retI rfl (by rfl) dX12_restore_57 (⟨by rw [hres], ?_, hf.wI (by unfold SU; omega)⟩)
          rw [hres]
          exact ⟨fun i hi => by rw [wI_a (by decide), h i (by omega)]; exact hH.2 k i hk hi hb, Nat.zero_le _, wI_s _ _ _ _, fun i j hi => absurd hi (Nat.not_lt_zero _)⟩
        | succ m ih =>
          intro j M1 e hf h
          have hM1 := hM.fr hf
          have e1 : M1.1 332 (80 * k + j) = M.1 332 (80 * k + j) := hf.1 _ _ (by unfold SU; omega)
          refine qi_iload_n (i := 2) (x := nI j) dX12_restore_22 rfl rfl ?_
          refine qi_bipush (v := 80) dX12_restore_23 rfl ?_
          refine qi_icmp_ge (tgt := 51) dX12_restore_25 (by decide) (fun _h => absurd ((nI_leI (a := 80) (b := j) (by omega) (by omega)).mp _h) (by omega)) (fun _hc => ?_)
          refine qi_aload_n (i := 0) (x := 280) dX12_restore_28 rfl rfl ?_
          refine qi_getR (x := 321) flX12_140 dX12_restore_29 rfl (by decide) (hM1 280 58 321 rfl) ?_
          refine qi_iload_n (i := 2) (x := nI j) dX12_restore_32 rfl rfl ?_
          refine qi_aload_n (i := 0) (x := 280) dX12_restore_33 rfl rfl ?_
          refine qi_getR (x := 332) flX12_173 dX12_restore_34 rfl (by decide) (hM1 280 76 332 rfl) ?_
          refine qi_bipush (v := 80) dX12_restore_37 rfl ?_
          refine qi_iload_n (i := 1) (x := nI k) dX12_restore_39 rfl rfl ?_
          refine qi_imul dX12_restore_40 ?_
          refine qi_iload_n (i := 2) (x := nI j) dX12_restore_41 rfl rfl ?_
          refine qi_iadd dX12_restore_42 ?_
          refine qe_top (y := nI (80 * k + j)) (by rw [show (80 : Int32) = nI 80 from rfl, pk_mul, nI_add]) ?_
          refine qi_ialdN (x := M.1 332 (80 * k + j)) (j := 80 * k + j) dX12_restore_43 rfl (by decide) rfl (by omega) (by decide) e1 ?_
          refine qi_iastN (j := j) dX12_restore_44 rfl (by decide) rfl (by omega) (by decide) ?_
          refine qi_iinc (i := 2) (x := nI j) (v := nI (j + 1)) (L2 := [some (.ref 280), some (.int (nI k)), some (.int (nI (j + 1)))]) dX12_restore_45 rfl (nI_1 j) (Nat.le_of_ble_eq_true rfl) rfl ?_
          refine qi_goto (tgt := 22) dX12_restore_48 (by decide) ?_
          refine ih (j + 1) _ (by omega) (hf.wI (by unfold SU; omega)) (fun i hi => ?_)
          by_cases eo : i = j
          · rw [eo, wI_s]
          · rw [wI_k eo]; exact h i (by omega)
      refine qi_iconst (v := 0) dX12_restore_20 rfl ?_
      refine qi_istore_n (i := 2) (L2 := [some (.ref 280), some (.int (nI k)), some (.int 0)]) dX12_restore_21 rfl (Nat.le_of_ble_eq_true rfl) rfl ?_
      exact K 80 0 M (by omega) qFr.rf (fun i hi => absurd hi (Nat.not_lt_zero _))
    · exact E (Or.inr c2)
set_option maxHeartbeats 1000000 in
theorem c_X12_count (g : qG) {M : qM} (hM : qRf M) {σ : qSt} {L : Nat} (hP : qPlanM M L σ.2.2.1) (hok : okPl σ.2.2.1) (hC : qCore M σ.2.2.2.1) (hO : okSea σ.2.2.1 σ.2.2.2.1.1) (hH : qHeld M σ.2.2.2.2.1.1 σ.2.2.2.2.1.2) (hT : M.1 280 72 = nI σ.2.2.2.2.2.1) (ht : M.1 280 2 = nI σ.1.1) (w : Int32) : qI g 2 kX12_count [.ref 280, .int w] M (fun r M' => r = countQ σ w ∧ qFr SM M M') := by
  obtain ⟨res, hres⟩ : ∃ res, res = countQ σ w := ⟨_, rfl⟩
  rw [← hres]
  obtain ⟨t, pl, π, c, η, τ⟩ := σ
  unfold countQ at hres
  dsimp only at *
  have hL := hP.1.1
  refine qI.of (j := 0) (pn_RX12) rfl ?_
  show qT g kX12_count (qR 2 0 0) (qZI g (fun r M' => r = res ∧ qFr SM M M')) 0 [some (.ref 280), some (.int w)] [] 333 M (0, 0)
  refine qi_aload_n (i := 0) (x := 280) dX12_count_0 rfl rfl ?_
  refine qi_callVV (K' := kX12_copies) (As := []) mlX12_383 okX12_copies dX12_count_1 (c_X12_copies g hM hC.1) rfl (by decide) rfl (by decide) rfl rfl (Nat.le_of_ble_eq_true rfl) ⟨(Nat.le_of_ble_eq_true rfl), (Nat.le_of_ble_eq_true rfl)⟩ ⟨Nat.le_refl _, Nat.le_refl _⟩ (fun M2 ⟨hR2, e60, e61, _, hf2⟩ => ?_)
  have hM2 := hM.fr hf2
  have hP2 := hP.fr hf2
  have hT2 : M2.1 280 72 = nI τ.1 := (hf2.1 _ _ (by unfold SM; omega)).trans hT
  have ht2 : M2.1 280 2 = nI t.1 := (hf2.1 _ _ (by unfold SM; omega)).trans ht
  have hu2 : M2.1 280 64 = nI c.2.1 := (hf2.1 _ _ (by unfold SM; omega)).trans hC.2.2.1
  have r64 : M2.1 322 64 = c.1 64 := hR2 64 (by omega)
  have hb0 : M2.1 331 0 = η.1 0 := (hf2.1 _ _ (by unfold SM; omega)).trans (hH.1 0 (by omega)).1
  have hb1 : M2.1 331 1 = η.1 1 := (hf2.1 _ _ (by unfold SM; omega)).trans (hH.1 1 (by omega)).1
  have hb2 : M2.1 331 2 = η.1 2 := (hf2.1 _ _ (by unfold SM; omega)).trans (hH.1 2 (by omega)).1
  refine qi_iload_n (i := 1) (x := w) dX12_count_4 rfl rfl ?_
  by_cases w0 : w = 0
  · rw [if_pos w0] at hres
    rw [w0]
    refine qi_tabIn (tgt := 72) dX12_count_5 (by decide) (by decide) rfl (by decide) ?_
    refine qi_aload_n (i := 0) (x := 280) dX12_count_72 rfl rfl ?_
    refine qi_getR (x := 291) flX12_49 dX12_count_73 rfl (by decide) (hM2 280 24 291 rfl) ?_
    refine qi_aload_n (i := 0) (x := 280) dX12_count_76 rfl rfl ?_
    refine qi_getI (x := nI L) flX12_248 dX12_count_77 rfl (by decide) hP2.1.2 ?_
    refine qi_ialdN (x := nI (π.1 0)) (j := L) dX12_count_80 rfl (by decide) rfl (by omega) (by decide) hP2.2.1.1 ?_
    exact qi_retI rfl rfl dX12_count_81 (⟨hres.symm, hf2⟩)
  rw [if_neg w0] at hres
  by_cases w1 : w = 1
  · rw [if_pos w1] at hres
    rw [w1]
    refine qi_tabIn (tgt := 82) dX12_count_5 (by decide) (by decide) rfl (by decide) ?_
    refine qi_aload_n (i := 0) (x := 280) dX12_count_82 rfl rfl ?_
    refine qi_getR (x := 294) flX12_58 dX12_count_83 rfl (by decide) (hM2 280 27 294 rfl) ?_
    refine qi_aload_n (i := 0) (x := 280) dX12_count_86 rfl rfl ?_
    refine qi_getI (x := nI L) flX12_248 dX12_count_87 rfl (by decide) hP2.1.2 ?_
    refine qi_ialdN (x := nI (π.1 1)) (j := L) dX12_count_90 rfl (by decide) rfl (by omega) (by decide) hP2.2.1.2.1 ?_
    exact qi_retI rfl rfl dX12_count_91 (⟨hres.symm, hf2⟩)
  rw [if_neg w1] at hres
  by_cases w2 : w = 2
  · rw [if_pos w2] at hres
    rw [w2]
    refine qi_tabIn (tgt := 92) dX12_count_5 (by decide) (by decide) rfl (by decide) ?_
    refine qi_aload_n (i := 0) (x := 280) dX12_count_92 rfl rfl ?_
    refine qi_getR (x := 299) flX12_73 dX12_count_93 rfl (by decide) (hM2 280 32 299 rfl) ?_
    refine qi_aload_n (i := 0) (x := 280) dX12_count_96 rfl rfl ?_
    refine qi_getI (x := nI L) flX12_248 dX12_count_97 rfl (by decide) hP2.1.2 ?_
    refine qi_ialdN (x := nI (π.1 2)) (j := L) dX12_count_100 rfl (by decide) rfl (by omega) (by decide) hP2.2.1.2.2.1 ?_
    exact qi_retI rfl rfl dX12_count_101 (⟨hres.symm, hf2⟩)
  rw [if_neg w2] at hres
  by_cases w3 : w = 3
  · rw [if_pos w3] at hres
    rw [w3]
    refine qi_tabIn (tgt := 102) dX12_count_5 (by decide) (by decide) rfl (by decide) ?_
    refine qi_aload_n (i := 0) (x := 280) dX12_count_102 rfl rfl ?_
    refine qi_getR (x := 302) flX12_82 dX12_count_103 rfl (by decide) (hM2 280 35 302 rfl) ?_
    refine qi_aload_n (i := 0) (x := 280) dX12_count_106 rfl rfl ?_
    refine qi_getI (x := nI L) flX12_248 dX12_count_107 rfl (by decide) hP2.1.2 ?_
    refine qi_ialdN (x := nI (π.1 3)) (j := L) dX12_count_110 rfl (by decide) rfl (by omega) (by decide) hP2.2.1.2.2.2.1 ?_
    exact qi_retI rfl rfl dX12_count_111 (⟨hres.symm, hf2⟩)
  rw [if_neg w3] at hres
  by_cases w4 : w = 4
  · rw [if_pos w4] at hres
    rw [w4]
    refine qi_tabIn (tgt := 112) dX12_count_5 (by decide) (by decide) rfl (by decide) ?_
    refine qi_aload_n (i := 0) (x := 280) dX12_count_112 rfl rfl ?_
    refine qi_getR (x := 322) flX12_143 dX12_count_113 rfl (by decide) (hM2 280 59 322 rfl) ?_
    refine qi_bipush (v := 64) dX12_count_116 rfl ?_
    refine qi_ialdN (x := c.1 64) (j := 64) dX12_count_118 rfl (by decide) rfl (by omega) (by decide) r64 ?_
    exact qi_retI rfl rfl dX12_count_119 (⟨hres.symm, hf2⟩)
  rw [if_neg w4] at hres
  by_cases w5 : w = 5
  · rw [if_pos w5] at hres
    rw [w5]
    refine qi_tabIn (tgt := 120) dX12_count_5 (by decide) (by decide) rfl (by decide) ?_
    refine qi_aload_n (i := 0) (x := 280) dX12_count_120 rfl rfl ?_
    refine qi_callPVI (v := allF c.1) (K' := kX12_allDrops) (As := []) mlX12_352 okX12_allDrops dX12_count_121 (c_X12_allDrops g hM2 hR2) rfl (by decide) rfl (by decide) rfl rfl (Nat.le_of_ble_eq_true rfl) ⟨(Nat.le_of_ble_eq_true rfl), (Nat.le_of_ble_eq_true rfl)⟩ ⟨Nat.le_refl _, Nat.le_refl _⟩ ?_
    exact qi_retI rfl rfl dX12_count_124 (⟨hres.symm, hf2⟩)
  rw [if_neg w5] at hres
  by_cases w6 : w = 6
  · rw [if_pos w6] at hres
    rw [w6]
    refine qi_tabIn (tgt := 125) dX12_count_5 (by decide) (by decide) rfl (by decide) ?_
    refine qi_aload_n (i := 0) (x := 280) dX12_count_125 rfl rfl ?_
    refine qi_getR (x := 307) flX12_97 dX12_count_126 rfl (by decide) (hM2 280 40 307 rfl) ?_
    refine qi_aload_n (i := 0) (x := 280) dX12_count_129 rfl rfl ?_
    refine qi_getI (x := nI L) flX12_248 dX12_count_130 rfl (by decide) hP2.1.2 ?_
    refine qi_ialdN (x := nI (π.1 4)) (j := L) dX12_count_133 rfl (by decide) rfl (by omega) (by decide) hP2.2.1.2.2.2.2.1 ?_
    exact qi_retI rfl rfl dX12_count_134 (⟨hres.symm, hf2⟩)
  rw [if_neg w6] at hres
  by_cases w7 : w = 7
  · rw [if_pos w7] at hres
    rw [w7]
    refine qi_tabIn (tgt := 135) dX12_count_5 (by decide) (by decide) rfl (by decide) ?_
    refine qi_aload_n (i := 0) (x := 280) dX12_count_135 rfl rfl ?_
    refine qi_bipush (v := 40) dX12_count_136 rfl ?_
    refine qi_callPVI (v := sumO c.1 40) (K' := kX12_sumOn) (As := [.int 40]) mlX12_371 okX12_sumOn dX12_count_138 (c_X12_sumOn g hM2 hR2 (by omega : 40 ≤ 56)) rfl (by decide) rfl (by decide) rfl rfl (Nat.le_of_ble_eq_true rfl) ⟨(Nat.le_of_ble_eq_true rfl), (Nat.le_of_ble_eq_true rfl)⟩ ⟨Nat.le_refl _, Nat.le_refl _⟩ ?_
    exact qi_retI rfl rfl dX12_count_141 (⟨hres.symm, hf2⟩)
  rw [if_neg w7] at hres
  by_cases w8 : w = 8
  · rw [if_pos w8] at hres
    rw [w8]
    refine qi_tabIn (tgt := 142) dX12_count_5 (by decide) (by decide) rfl (by decide) ?_
    refine qi_aload_n (i := 0) (x := 280) dX12_count_142 rfl rfl ?_
    refine qi_getI (x := nI t.1) flX12_180 dX12_count_143 rfl (by decide) ht2 ?_
    exact qi_retI rfl rfl dX12_count_146 (⟨hres.symm, hf2⟩)
  rw [if_neg w8] at hres
  by_cases w9 : w = 9
  · rw [if_pos w9] at hres
    rw [w9]
    refine qi_tabIn (tgt := 147) dX12_count_5 (by decide) (by decide) rfl (by decide) ?_
    refine qi_aload_n (i := 0) (x := 280) dX12_count_147 rfl rfl ?_
    refine qi_getI (x := nI c.2.1) flX12_269 dX12_count_148 rfl (by decide) hu2 ?_
    exact qi_retI rfl rfl dX12_count_151 (⟨hres.symm, hf2⟩)
  rw [if_neg w9] at hres
  by_cases w10 : w = 10
  · rw [if_pos w10] at hres
    rw [w10]
    refine qi_tabIn (tgt := 152) dX12_count_5 (by decide) (by decide) rfl (by decide) ?_
    refine qi_aload_n (i := 0) (x := 280) dX12_count_152 rfl rfl ?_
    refine qi_getI (x := nI τ.1) flX12_272 dX12_count_153 rfl (by decide) hT2 ?_
    exact qi_retI rfl rfl dX12_count_156 (⟨hres.symm, hf2⟩)
  rw [if_neg w10] at hres
  by_cases w11 : w = 11
  · rw [if_pos w11] at hres
    rw [w11]
    have K200 : qT g kX12_count (qR 2 0 0) (qZI g (fun r M' => r = res ∧ qFr SM M M')) 200 [some (.ref 280), some (.int 11)] [.int (η.1 2), .int (η.1 0 + η.1 1)] 333 M2 (0, 0) := by
      refine qi_iadd dX12_count_200 ?_
      exact qi_retI rfl rfl dX12_count_201 (⟨hres.symm, hf2⟩)
    have K185 : qT g kX12_count (qR 2 0 0) (qZI g (fun r M' => r = res ∧ qFr SM M M')) 185 [some (.ref 280), some (.int 11)] [.int (η.1 1), .int (η.1 0)] 333 M2 (0, 0) := by
      refine qi_iadd dX12_count_185 ?_
      refine qi_aload_n (i := 0) (x := 280) dX12_count_186 rfl rfl ?_
      refine qi_getR (x := 331) flX12_170 dX12_count_187 rfl (by decide) (hM2 280 75 331 rfl) ?_
      refine qi_iconst (v := 2) dX12_count_190 rfl ?_
      refine qi_zaldN (x := η.1 2) (j := 2) dX12_count_191 rfl (by decide) rfl (by omega) (by decide) hb2 ?_
      refine qi_if_eq (tgt := 199) dX12_count_192 (by decide) (fun d => ?_) (fun d => ?_)
      · refine qi_iconst (v := 0) dX12_count_199 rfl ?_
        rw [d] at K200
        exact K200
      · refine qi_iconst (v := 1) dX12_count_195 rfl ?_
        refine qi_goto (tgt := 200) dX12_count_196 (by decide) ?_
        rw [((hH.1 2 (by omega)).2).resolve_left d] at K200
        exact K200
    have K171 : qT g kX12_count (qR 2 0 0) (qZI g (fun r M' => r = res ∧ qFr SM M M')) 171 [some (.ref 280), some (.int 11)] [.int (η.1 0)] 333 M2 (0, 0) := by
      refine qi_aload_n (i := 0) (x := 280) dX12_count_171 rfl rfl ?_
      refine qi_getR (x := 331) flX12_170 dX12_count_172 rfl (by decide) (hM2 280 75 331 rfl) ?_
      refine qi_iconst (v := 1) dX12_count_175 rfl ?_
      refine qi_zaldN (x := η.1 1) (j := 1) dX12_count_176 rfl (by decide) rfl (by omega) (by decide) hb1 ?_
      refine qi_if_eq (tgt := 184) dX12_count_177 (by decide) (fun d => ?_) (fun d => ?_)
      · refine qi_iconst (v := 0) dX12_count_184 rfl ?_
        rw [d] at K185
        exact K185
      · refine qi_iconst (v := 1) dX12_count_180 rfl ?_
        refine qi_goto (tgt := 185) dX12_count_181 (by decide) ?_
        rw [((hH.1 1 (by omega)).2).resolve_left d] at K185
        exact K185
    refine qi_tabIn (tgt := 157) dX12_count_5 (by decide) (by decide) rfl (by decide) ?_
    refine qi_aload_n (i := 0) (x := 280) dX12_count_157 rfl rfl ?_
    refine qi_getR (x := 331) flX12_170 dX12_count_158 rfl (by decide) (hM2 280 75 331 rfl) ?_
    refine qi_iconst (v := 0) dX12_count_161 rfl ?_
    refine qi_zaldN (x := η.1 0) (j := 0) dX12_count_162 rfl (by decide) rfl (by omega) (by decide) hb0 ?_
    refine qi_if_eq (tgt := 170) dX12_count_163 (by decide) (fun d => ?_) (fun d => ?_)
    · refine qi_iconst (v := 0) dX12_count_170 rfl ?_
      rw [d] at K171
      exact K171
    · refine qi_iconst (v := 1) dX12_count_166 rfl ?_
      refine qi_goto (tgt := 171) dX12_count_167 (by decide) ?_
      rw [((hH.1 0 (by omega)).2).resolve_left d] at K171
      exact K171
  rw [if_neg w11] at hres
  by_cases w12 : w = 12
  · rw [if_pos w12] at hres
    rw [w12]
    refine qi_tabIn (tgt := 202) dX12_count_5 (by decide) (by decide) rfl (by decide) ?_
    refine qi_aload_n (i := 0) (x := 280) dX12_count_202 rfl rfl ?_
    refine qi_callPVJ (v := saltF c.1) (K' := kX12_saltNow) (As := []) mlX12_404 okX12_saltNow dX12_count_203 (c_X12_saltNow g hM2 hR2 hok hO) rfl (by decide) rfl (by decide) rfl rfl (Nat.le_of_ble_eq_true rfl) ⟨(Nat.le_of_ble_eq_true rfl), (Nat.le_of_ble_eq_true rfl)⟩ ⟨Nat.le_refl _, Nat.le_refl _⟩ ?_
    refine qi_ldc2 dX12_count_206 cnX12_452 ?_
    refine qi_lcmp dX12_count_209 ?_
    refine qi_if_le (tgt := 219) dX12_count_210 (by decide) (fun d => ?_) (fun d => ?_)
    · rw [if_pos ((lg_cmp_le _ _).mp d)] at hres
      refine qi_aload_n (i := 0) (x := 280) dX12_count_219 rfl rfl ?_
      refine qi_callPVJ (v := saltF c.1) (K' := kX12_saltNow) (As := []) mlX12_404 okX12_saltNow dX12_count_220 (c_X12_saltNow g hM2 hR2 hok hO) rfl (by decide) rfl (by decide) rfl rfl (Nat.le_of_ble_eq_true rfl) ⟨(Nat.le_of_ble_eq_true rfl), (Nat.le_of_ble_eq_true rfl)⟩ ⟨Nat.le_refl _, Nat.le_refl _⟩ ?_
      refine qi_l2i dX12_count_223 ?_
      exact qi_retI rfl rfl dX12_count_224 (⟨hres.symm, hf2⟩)
    · rw [if_neg (fun z => d ((lg_cmp_le _ _).mpr z))] at hres
      refine qi_ldcw dX12_count_213 cnX12_370 ?_
      refine qi_goto (tgt := 224) dX12_count_216 (by decide) ?_
      exact qi_retI rfl rfl dX12_count_224 (⟨hres.symm, hf2⟩)
  rw [if_neg w12] at hres
  refine qi_tabOut (tgt := 225) dX12_count_5 (sw_out (n := 12) (by omega) (fun j hj => by rcases (show j = 0 ∨ j = 1 ∨ j = 2 ∨ j = 3 ∨ j = 4 ∨ j = 5 ∨ j = 6 ∨ j = 7 ∨ j = 8 ∨ j = 9 ∨ j = 10 ∨ j = 11 ∨ j = 12 by omega) with rfl | rfl | rfl | rfl | rfl | rfl | rfl | rfl | rfl | rfl | rfl | rfl | rfl <;> assumption)) (by decide) ?_
  refine qi_iconst (v := -1) dX12_count_225 rfl ?_
  exact qi_retI rfl rfl dX12_count_226 (⟨hres.symm, hf2⟩)
theorem int_nat (v : Int32) : (v.toInt = (v.toBitVec.toNat : Int) ∧ v.toBitVec.toNat < 2 ^ 31) ∨ (v.toInt = (v.toBitVec.toNat : Int) - 2 ^ 32 ∧ 2 ^ 31 ≤ v.toBitVec.toNat ∧ v.toBitVec.toNat < 2 ^ 32) := by
  have h1 : v.toInt = v.toBitVec.toInt := rfl
  have h2 := BitVec.toInt_eq_toNat_cond v.toBitVec
  have h3 := v.toBitVec.isLt
  rw [h1, h2]
  split
  · left
    exact ⟨rfl, by omega⟩
  · right
    exact ⟨by omega, by omega, by omega⟩
theorem by_ref (w s : Int32) (k : Nat) (hs : (s.toBitVec.smod 32).toNat = k) (hk : k = 24 ∨ k = 16 ∨ k = 8 ∨ k = 0) : (w >>> s).toInt8.toInt32 &&& 255 = nI (byF w k) := by
  rw [pk_and _ 8 rfl]
  congr 1
  generalize hx : (w >>> s).toInt8.toInt32 = x
  have e1 : x.toInt = (w >>> s).toInt.bmod 256 := by
    rw [← hx]
    simp
  have e2 := pk_shr w s k hs
  rw [e2, Int.shiftRight_eq_div_pow] at e1
  have e3 := int_nat x
  have e4 := int_nat w
  have e5 := @Int.bmod_def (w.toInt / ((2 ^ k : Nat) : Int)) 256
  unfold byF
  rw [e1, e5] at e3
  rcases hk with rfl | rfl | rfl | rfl
  all_goals
    generalize x.toBitVec.toNat = X at *
    generalize w.toBitVec.toNat = W at *
    generalize w.toInt = I at *
    have p24 : (2 : Nat) ^ 24 = 16777216 := rfl
    have p16 : (2 : Nat) ^ 16 = 65536 := rfl
    have p8 : (2 : Nat) ^ 8 = 256 := rfl
    have p0 : (2 : Nat) ^ 0 = 1 := rfl
    simp only [p24, p16, p8, p0] at *
    omega
def STp : Nat → Nat → Prop := fun b j => b = 281 ∨ (b = 280 ∧ j = 2)
theorem sh_k : (((24 : Int32) &&& 31).toBitVec.smod 32).toNat = 24 ∧ ((((24 : Int32) + (-8)) &&& 31).toBitVec.smod 32).toNat = 16 ∧ (((((24 : Int32) + (-8)) + (-8)) &&& 31).toBitVec.smod 32).toNat = 8 ∧ ((((((24 : Int32) + (-8)) + (-8)) + (-8)) &&& 31).toBitVec.smod 32).toNat = 0 := by decide +kernel
set_option maxHeartbeats 1000000 in
theorem c_X12_put (g : qG) {M : qM} (hM : qRf M) {t : qTp} (hT : qTpM M t) (h2 : t.1 + 4 ≤ 2000) (w : Int32) : qV g 0 kX12_put [.ref 280, .int w] M (fun M' => qTpM M' (putF w t) ∧ qFr STp M M') := by
  refine qV.of (j := 1) (pn_RX12) rfl ?_
  show qT g kX12_put (qR 0 0 0) (qZV g (fun M' => qTpM M' (putF w t) ∧ qFr STp M M')) 0 [some (.ref 280), some (.int w), none] [] 333 M (0, 0)
  refine qi_bipush (v := 24) dX12_put_0 rfl ?_
  refine qi_istore_n (i := 2) (L2 := [some (.ref 280), some (.int w), some (.int 24)]) dX12_put_2 rfl (Nat.le_of_ble_eq_true rfl) rfl ?_
  refine qi_iload_n (i := 2) (x := 24) dX12_put_3 rfl rfl ?_
  refine qi_if_lt (tgt := 36) dX12_put_4 (by decide) (fun z => False.elim (absurd z (by decide))) (fun z => ?_)
  refine qi_aload_n (i := 0) (x := 280) dX12_put_7 rfl rfl ?_
  refine qi_getR (x := 281) flX12_13 dX12_put_8 rfl (by decide) (hM 280 1 281 rfl) ?_
  refine qi_aload_n (i := 0) (x := 280) dX12_put_11 rfl rfl ?_
  refine qi_getI (x := nI t.1) flX12_180 dX12_put_12 rfl (by decide) hT.1 ?_
  refine qi_iload_n (i := 1) (x := w) dX12_put_15 rfl rfl ?_
  refine qi_iload_n (i := 2) (x := 24) dX12_put_16 rfl rfl ?_
  refine qi_ishr dX12_put_17 ?_
  refine qi_i2b dX12_put_18 ?_
  refine qi_bastN (j := t.1) dX12_put_19 rfl (by decide) rfl (by omega) (by decide) (pk_nb _) ?_
  refine qi_aload_n (i := 0) (x := 280) dX12_put_20 rfl rfl ?_
  refine qi_dup dX12_put_21 ?_
  refine qi_getI (x := nI t.1) flX12_180 dX12_put_22 rfl (by decide) ((wI_a (by decide)).trans hT.1) ?_
  refine qi_iconst (v := 1) dX12_put_25 rfl ?_
  refine qi_iadd dX12_put_26 ?_
  refine qe_top (y := nI (t.1 + 1)) (nI_1 _) ?_
  refine qi_putI flX12_180 q_cls12 (ty12_2 _) dX12_put_27 rfl (by decide) ?_
  refine qi_iinc (i := 2) (x := 24) (v := 24 + (-8)) (L2 := [some (.ref 280), some (.int w), some (.int (24 + (-8)))]) dX12_put_30 rfl rfl (Nat.le_of_ble_eq_true rfl) rfl ?_
  refine qi_goto (tgt := 3) dX12_put_33 (by decide) ?_
  refine qi_iload_n (i := 2) (x := 24 + (-8)) dX12_put_3 rfl rfl ?_
  refine qi_if_lt (tgt := 36) dX12_put_4 (by decide) (fun z => False.elim (absurd z (by decide))) (fun z => ?_)
  refine qi_aload_n (i := 0) (x := 280) dX12_put_7 rfl rfl ?_
  refine qi_getR (x := 281) flX12_13 dX12_put_8 rfl (by decide) (hM 280 1 281 rfl) ?_
  refine qi_aload_n (i := 0) (x := 280) dX12_put_11 rfl rfl ?_
  refine qi_getI (x := nI (t.1 + 1)) flX12_180 dX12_put_12 rfl (by decide) (wI_s _ _ _ _) ?_
  refine qi_iload_n (i := 1) (x := w) dX12_put_15 rfl rfl ?_
  refine qi_iload_n (i := 2) (x := 24 + (-8)) dX12_put_16 rfl rfl ?_
  refine qi_ishr dX12_put_17 ?_
  refine qi_i2b dX12_put_18 ?_
  refine qi_bastN (j := t.1 + 1) dX12_put_19 rfl (by decide) rfl (by omega) (by decide) (pk_nb _) ?_
  refine qi_aload_n (i := 0) (x := 280) dX12_put_20 rfl rfl ?_
  refine qi_dup dX12_put_21 ?_
  refine qi_getI (x := nI (t.1 + 1)) flX12_180 dX12_put_22 rfl (by decide) ((wI_a (by decide)).trans (wI_s _ _ _ _)) ?_
  refine qi_iconst (v := 1) dX12_put_25 rfl ?_
  refine qi_iadd dX12_put_26 ?_
  refine qe_top (y := nI (t.1 + 1 + 1)) (nI_1 _) ?_
  refine qi_putI flX12_180 q_cls12 (ty12_2 _) dX12_put_27 rfl (by decide) ?_
  refine qi_iinc (i := 2) (x := 24 + (-8)) (v := 24 + (-8) + (-8)) (L2 := [some (.ref 280), some (.int w), some (.int (24 + (-8) + (-8)))]) dX12_put_30 rfl rfl (Nat.le_of_ble_eq_true rfl) rfl ?_
  refine qi_goto (tgt := 3) dX12_put_33 (by decide) ?_
  refine qi_iload_n (i := 2) (x := 24 + (-8) + (-8)) dX12_put_3 rfl rfl ?_
  refine qi_if_lt (tgt := 36) dX12_put_4 (by decide) (fun z => False.elim (absurd z (by decide))) (fun z => ?_)
  refine qi_aload_n (i := 0) (x := 280) dX12_put_7 rfl rfl ?_
  refine qi_getR (x := 281) flX12_13 dX12_put_8 rfl (by decide) (hM 280 1 281 rfl) ?_
  refine qi_aload_n (i := 0) (x := 280) dX12_put_11 rfl rfl ?_
  refine qi_getI (x := nI (t.1 + 1 + 1)) flX12_180 dX12_put_12 rfl (by decide) (wI_s _ _ _ _) ?_
  refine qi_iload_n (i := 1) (x := w) dX12_put_15 rfl rfl ?_
  refine qi_iload_n (i := 2) (x := 24 + (-8) + (-8)) dX12_put_16 rfl rfl ?_
  refine qi_ishr dX12_put_17 ?_
  refine qi_i2b dX12_put_18 ?_
  refine qi_bastN (j := t.1 + 1 + 1) dX12_put_19 rfl (by decide) rfl (by omega) (by decide) (pk_nb _) ?_
  refine qi_aload_n (i := 0) (x := 280) dX12_put_20 rfl rfl ?_
  refine qi_dup dX12_put_21 ?_
  refine qi_getI (x := nI (t.1 + 1 + 1)) flX12_180 dX12_put_22 rfl (by decide) ((wI_a (by decide)).trans (wI_s _ _ _ _)) ?_
  refine qi_iconst (v := 1) dX12_put_25 rfl ?_
  refine qi_iadd dX12_put_26 ?_
  refine qe_top (y := nI (t.1 + 1 + 1 + 1)) (nI_1 _) ?_
  refine qi_putI flX12_180 q_cls12 (ty12_2 _) dX12_put_27 rfl (by decide) ?_
  refine qi_iinc (i := 2) (x := 24 + (-8) + (-8)) (v := 24 + (-8) + (-8) + (-8)) (L2 := [some (.ref 280), some (.int w), some (.int (24 + (-8) + (-8) + (-8)))]) dX12_put_30 rfl rfl (Nat.le_of_ble_eq_true rfl) rfl ?_
  refine qi_goto (tgt := 3) dX12_put_33 (by decide) ?_
  refine qi_iload_n (i := 2) (x := 24 + (-8) + (-8) + (-8)) dX12_put_3 rfl rfl ?_
  refine qi_if_lt (tgt := 36) dX12_put_4 (by decide) (fun z => False.elim (absurd z (by decide))) (fun z => ?_)
  refine qi_aload_n (i := 0) (x := 280) dX12_put_7 rfl rfl ?_
  refine qi_getR (x := 281) flX12_13 dX12_put_8 rfl (by decide) (hM 280 1 281 rfl) ?_
  refine qi_aload_n (i := 0) (x := 280) dX12_put_11 rfl rfl ?_
  refine qi_getI (x := nI (t.1 + 1 + 1 + 1)) flX12_180 dX12_put_12 rfl (by decide) (wI_s _ _ _ _) ?_
  refine qi_iload_n (i := 1) (x := w) dX12_put_15 rfl rfl ?_
  refine qi_iload_n (i := 2) (x := 24 + (-8) + (-8) + (-8)) dX12_put_16 rfl rfl ?_
  refine qi_ishr dX12_put_17 ?_
  refine qi_i2b dX12_put_18 ?_
  refine qi_bastN (j := t.1 + 1 + 1 + 1) dX12_put_19 rfl (by decide) rfl (by omega) (by decide) (pk_nb _) ?_
  refine qi_aload_n (i := 0) (x := 280) dX12_put_20 rfl rfl ?_
  refine qi_dup dX12_put_21 ?_
  refine qi_getI (x := nI (t.1 + 1 + 1 + 1)) flX12_180 dX12_put_22 rfl (by decide) ((wI_a (by decide)).trans (wI_s _ _ _ _)) ?_
  refine qi_iconst (v := 1) dX12_put_25 rfl ?_
  refine qi_iadd dX12_put_26 ?_
  refine qe_top (y := nI (t.1 + 1 + 1 + 1 + 1)) (nI_1 _) ?_
  refine qi_putI flX12_180 q_cls12 (ty12_2 _) dX12_put_27 rfl (by decide) ?_
  refine qi_iinc (i := 2) (x := 24 + (-8) + (-8) + (-8)) (v := 24 + (-8) + (-8) + (-8) + (-8)) (L2 := [some (.ref 280), some (.int w), some (.int (24 + (-8) + (-8) + (-8) + (-8)))]) dX12_put_30 rfl rfl (Nat.le_of_ble_eq_true rfl) rfl ?_
  refine qi_goto (tgt := 3) dX12_put_33 (by decide) ?_
  refine qi_iload_n (i := 2) (x := 24 + (-8) + (-8) + (-8) + (-8)) dX12_put_3 rfl rfl ?_
  refine qi_if_lt (tgt := 36) dX12_put_4 (by decide) (fun z => ?_) (fun z => False.elim (z (by decide)))
  refine qi_retV rfl dX12_put_36 (⟨⟨wI_s _ _ _ _, fun k hk => ?_⟩, (((((((qFr.rf.wI (Or.inl rfl)).wI (Or.inr ⟨rfl, rfl⟩)).wI (Or.inl rfl)).wI (Or.inr ⟨rfl, rfl⟩)).wI (Or.inl rfl)).wI (Or.inr ⟨rfl, rfl⟩)).wI (Or.inl rfl)).wI (Or.inr ⟨rfl, rfl⟩)⟩)
  have hk2 : k < t.1 + 4 := hk
  show (∃ z : Int8, _ = z.toInt32) ∧ _ = nI (if k = t.1 then byF w 24 else if k = t.1 + 1 then byF w 16 else if k = t.1 + 2 then byF w 8 else if k = t.1 + 3 then byF w 0 else t.2 k)
  simp only [wI_1]
  rw [if_neg (c := (281 : Nat) = 280 ∧ k = 2) (fun z => absurd z.1 (by decide))]
  by_cases k3 : k = t.1 + 3
  · rw [if_pos ⟨trivial, k3⟩, if_neg (by omega), if_neg (by omega), if_neg (by omega), if_pos k3]
    exact ⟨⟨_, rfl⟩, by_ref w _ 0 sh_k.2.2.2 (by omega)⟩
  rw [if_neg (fun z => k3 z.2), if_neg (c := (281 : Nat) = 280 ∧ k = 2) (fun z => absurd z.1 (by decide))]
  by_cases k2 : k = t.1 + 2
  · rw [if_pos ⟨trivial, k2⟩, if_neg (by omega), if_neg (by omega), if_pos k2]
    exact ⟨⟨_, rfl⟩, by_ref w _ 8 sh_k.2.2.1 (by omega)⟩
  rw [if_neg (fun z => k2 z.2), if_neg (c := (281 : Nat) = 280 ∧ k = 2) (fun z => absurd z.1 (by decide))]
  by_cases k1 : k = t.1 + 1
  · rw [if_pos ⟨trivial, k1⟩, if_neg (by omega), if_pos k1]
    exact ⟨⟨_, rfl⟩, by_ref w _ 16 sh_k.2.1 (by omega)⟩
  rw [if_neg (fun z => k1 z.2), if_neg (c := (281 : Nat) = 280 ∧ k = 2) (fun z => absurd z.1 (by decide))]
  by_cases k0 : k = t.1
  · rw [if_pos ⟨trivial, k0⟩, if_pos k0]
    exact ⟨⟨_, rfl⟩, by_ref w _ 24 sh_k.1 (by omega)⟩
  rw [if_neg (fun z => k0 z.2), if_neg k0, if_neg k1, if_neg k2, if_neg k3]
  exact hT.2 k (by omega)
set_option maxHeartbeats 1000000 in
theorem c_X12_feed (g : qG) {M : qM} (hM : qRf M) {t : qTp} (hT : qTpM M t) (h2 : t.1 ≤ 2000) (a b c d e : Int32) : qI g 1 kX12_feed [.ref 280, .int a, .int b, .int c, .int d, .int e] M (fun r M' => r = (dFeed a b c d e t).1 ∧ qTpM M' (dFeed a b c d e t).2 ∧ qFr STp M M') := by
  obtain ⟨res, hres⟩ : ∃ res, res = dFeed a b c d e t := ⟨_, rfl⟩
  rw [← hres]
  unfold dFeed at hres
  refine qI.of (j := 0) (pn_RX12) rfl ?_
  show qT g kX12_feed (qR 1 0 0) (qZI g (fun r M' => r = res.1 ∧ qTpM M' res.2 ∧ qFr STp M M')) 0 [some (.ref 280), some (.int a), some (.int b), some (.int c), some (.int d), some (.int e)] [] 333 M (0, 0)
  refine qi_aload_n (i := 0) (x := 280) dX12_feed_0 rfl rfl ?_
  refine qi_getI (x := nI t.1) flX12_180 dX12_feed_1 rfl (by decide) hT.1 ?_
  refine qi_bipush (v := 20) dX12_feed_4 rfl ?_
  refine qi_iadd dX12_feed_6 ?_
  refine qe_top (y := nI (t.1 + 20)) (nI_add t.1 20) ?_
  refine qi_sipush (v := 2000) dX12_feed_7 rfl ?_
  refine qi_icmp_le (tgt := 15) dX12_feed_10 (by decide) (fun _h => ?_) (fun _h => ?_)
  · have c1 : (t.1 + 20) ≤ 2000 := (nI_leI (a := t.1 + 20) (b := 2000) (by omega) (by omega)).mp _h
    rw [if_neg (by omega)] at hres
    have h1 : t.1 + 20 ≤ 2000 := by omega
    refine qi_aload_n (i := 0) (x := 280) dX12_feed_15 rfl rfl ?_
    refine qi_iload_n (i := 1) (x := a) dX12_feed_16 rfl rfl ?_
    refine qi_callVV (K' := kX12_put) (As := [.int a]) mlX12_183 okX12_put dX12_feed_17 (c_X12_put g hM hT (by omega) a) rfl (by decide) rfl (by decide) rfl rfl (Nat.le_of_ble_eq_true rfl) ⟨(Nat.le_of_ble_eq_true rfl), (Nat.le_of_ble_eq_true rfl)⟩ ⟨Nat.le_refl _, Nat.le_refl _⟩ (fun M1 ⟨hT1, hf1⟩ => ?_)
    have hM1 := hM.fr hf1
    refine qi_aload_n (i := 0) (x := 280) dX12_feed_20 rfl rfl ?_
    refine qi_iload_n (i := 2) (x := b) dX12_feed_21 rfl rfl ?_
    refine qi_callVV (K' := kX12_put) (As := [.int b]) mlX12_183 okX12_put dX12_feed_22 (c_X12_put g hM1 hT1 (by show t.1 + 4 + 4 ≤ 2000; omega) b) rfl (by decide) rfl (by decide) rfl rfl (Nat.le_of_ble_eq_true rfl) ⟨(Nat.le_of_ble_eq_true rfl), (Nat.le_of_ble_eq_true rfl)⟩ ⟨Nat.le_refl _, Nat.le_refl _⟩ (fun M2 ⟨hT2, hf2⟩ => ?_)
    have hM2 := hM1.fr hf2
    refine qi_aload_n (i := 0) (x := 280) dX12_feed_25 rfl rfl ?_
    refine qi_iload_n (i := 3) (x := c) dX12_feed_26 rfl rfl ?_
    refine qi_callVV (K' := kX12_put) (As := [.int c]) mlX12_183 okX12_put dX12_feed_27 (c_X12_put g hM2 hT2 (by show t.1 + 4 + 4 + 4 ≤ 2000; omega) c) rfl (by decide) rfl (by decide) rfl rfl (Nat.le_of_ble_eq_true rfl) ⟨(Nat.le_of_ble_eq_true rfl), (Nat.le_of_ble_eq_true rfl)⟩ ⟨Nat.le_refl _, Nat.le_refl _⟩ (fun M3 ⟨hT3, hf3⟩ => ?_)
    have hM3 := hM2.fr hf3
    refine qi_aload_n (i := 0) (x := 280) dX12_feed_30 rfl rfl ?_
    refine qi_iload (i := 4) (x := d) dX12_feed_31 rfl ?_
    refine qi_callVV (K' := kX12_put) (As := [.int d]) mlX12_183 okX12_put dX12_feed_33 (c_X12_put g hM3 hT3 (by show t.1 + 4 + 4 + 4 + 4 ≤ 2000; omega) d) rfl (by decide) rfl (by decide) rfl rfl (Nat.le_of_ble_eq_true rfl) ⟨(Nat.le_of_ble_eq_true rfl), (Nat.le_of_ble_eq_true rfl)⟩ ⟨Nat.le_refl _, Nat.le_refl _⟩ (fun M4 ⟨hT4, hf4⟩ => ?_)
    have hM4 := hM3.fr hf4
    refine qi_aload_n (i := 0) (x := 280) dX12_feed_36 rfl rfl ?_
    refine qi_iload (i := 5) (x := e) dX12_feed_37 rfl ?_
    refine qi_callVV (K' := kX12_put) (As := [.int e]) mlX12_183 okX12_put dX12_feed_39 (c_X12_put g hM4 hT4 (by show t.1 + 4 + 4 + 4 + 4 + 4 ≤ 2000; omega) e) rfl (by decide) rfl (by decide) rfl rfl (Nat.le_of_ble_eq_true rfl) ⟨(Nat.le_of_ble_eq_true rfl), (Nat.le_of_ble_eq_true rfl)⟩ ⟨Nat.le_refl _, Nat.le_refl _⟩ (fun M5 ⟨hT5, hf5⟩ => ?_)
    have hM5 := hM4.fr hf5
    refine qi_aload_n (i := 0) (x := 280) dX12_feed_42 rfl rfl ?_
    refine qi_getI (x := M5.1 280 2) flX12_180 dX12_feed_43 rfl (by decide) rfl ?_
    exact qi_retI rfl rfl dX12_feed_46 (⟨by rw [hres]; exact hT5.1, by rw [hres]; exact hT5, (((hf1.tr hf2).tr hf3).tr hf4).tr hf5⟩)
  · have c1 : ¬ ((t.1 + 20) ≤ 2000) := fun z => _h ((nI_leI (a := t.1 + 20) (b := 2000) (by omega) (by omega)).mpr z)
    rw [if_pos (by omega)] at hres
    refine qi_iconst (v := -1) dX12_feed_13 rfl ?_
    exact qi_retI rfl rfl dX12_feed_14 (⟨by rw [hres], by rw [hres]; exact hT, qFr.rf⟩)
set_option maxHeartbeats 1000000 in
theorem c_X12_back (g : qG) {M : qM} (hM : qRf M) {t : qTp} (hT : qTpM M t) (h2 : t.1 ≤ 2000) (n : Int32) : qI g 0 kX12_back [.ref 280, .int n] M (fun r M' => r = (dBack n t).1 ∧ qTpM M' (dBack n t).2 ∧ qFr STp M M') := by
  obtain ⟨res, hres⟩ : ∃ res, res = dBack n t := ⟨_, rfl⟩
  rw [← hres]
  unfold dBack at hres
  have E : (n < 0 ∨ nI t.1 < n) → qT g kX12_back (qR 0 0 0) (qZI g (fun r M' => r = res.1 ∧ qTpM M' res.2 ∧ qFr STp M M')) 12 [some (.ref 280), some (.int n)] [] 333 M (0, 0) := by
    intro hb
    rw [if_pos hb] at hres
    refine qi_iconst (v := -1) dX12_back_12 rfl ?_
    exact qi_retI rfl rfl dX12_back_13 (⟨by rw [hres], by rw [hres]; exact hT, qFr.rf⟩)
  refine qI.of (j := 0) (pn_RX12) rfl ?_
  show qT g kX12_back (qR 0 0 0) (qZI g (fun r M' => r = res.1 ∧ qTpM M' res.2 ∧ qFr STp M M')) 0 [some (.ref 280), some (.int n)] [] 333 M (0, 0)
  refine qi_iload_n (i := 1) (x := n) dX12_back_0 rfl rfl ?_
  refine qi_if_lt (tgt := 12) dX12_back_1 (by decide) (fun c1 => ?_) (fun c1 => ?_)
  · exact E (Or.inl c1)
  · refine qi_iload_n (i := 1) (x := n) dX12_back_4 rfl rfl ?_
    refine qi_aload_n (i := 0) (x := 280) dX12_back_5 rfl rfl ?_
    refine qi_getI (x := nI t.1) flX12_180 dX12_back_6 rfl (by decide) hT.1 ?_
    refine qi_icmp_le (tgt := 14) dX12_back_9 (by decide) (fun c2 => ?_) (fun c2 => ?_)
    · rw [if_neg (fun z => z.elim c1 (fun z => absurd z (Int32.not_lt.mpr c2)))] at hres
      obtain ⟨k, hk, ek⟩ := nI_of c1
      rw [ek, nI_leI hk (by omega)] at c2
      rw [ek, nI_clamp hk] at hres
      rw [ek]
      refine qi_aload_n (i := 0) (x := 280) dX12_back_14 rfl rfl ?_
      refine qi_dup dX12_back_15 ?_
      refine qi_getI (x := nI t.1) flX12_180 dX12_back_16 rfl (by decide) hT.1 ?_
      refine qi_iload_n (i := 1) (x := nI k) dX12_back_19 rfl rfl ?_
      refine qi_isub dX12_back_20 ?_
      refine qe_top (y := nI (t.1 - k)) (pk_sub c2) ?_
      refine qi_putI flX12_180 q_cls12 (ty12_2 _) dX12_back_21 rfl (by decide) ?_
      refine qi_aload_n (i := 0) (x := 280) dX12_back_24 rfl rfl ?_
      refine qi_getI (x := nI (t.1 - k)) flX12_180 dX12_back_25 rfl (by decide) (wI_s _ _ _ _) ?_
      exact qi_retI rfl rfl dX12_back_28 (⟨by rw [hres], by rw [hres]; exact ⟨wI_s _ _ _ _, fun j hj => by rw [wI_a (by decide)]; exact hT.2 j (by have : j < t.1 - k := hj; omega)⟩, qFr.rf.wI (Or.inr ⟨rfl, rfl⟩)⟩)
    · exact E (Or.inr (Int32.not_le.mp c2))
theorem c_X12_place (g : qG) {M : qM} (hM : qRf M) {x : Int32} (hx : M.1 280 17 = x) : qI g 0 kX12_place [.ref 280] M (fun r M' => r = x ∧ M' = M) := by
  refine qI.of (j := 0) (pn_RX12) rfl ?_
  show qT g kX12_place (qR 0 0 0) (qZI g (fun r M' => r = x ∧ M' = M)) 0 [some (.ref 280)] [] 333 M (0, 0)
  refine qi_aload_n (i := 0) (x := 280) dX12_place_0 rfl rfl ?_
  refine qi_getI (x := x) flX12_37 dX12_place_1 rfl (by decide) hx ?_
  exact qi_retI rfl rfl dX12_place_4 (⟨rfl, rfl⟩)
