/-! ThimbleSeaModel: merge, spoon -/
set_option maxHeartbeats 1500000 in
theorem c_X12_merge (g : qG) {M : qM} (hM : qRf M) {L : Nat} {π : qPl} (hP : qPlanM M L π) (hok : okPl π) {c : qCo} (hC : qCore M c) (h o : Int32) : qI g 2 kX12_merge [.ref 280, .int h, .int o] M (fun r M' => r = (dMerge π h o c).1 ∧ qCore M' (dMerge π h o c).2 ∧ qFr SQ M M') := by
  obtain ⟨res, hres⟩ : ∃ res, res = dMerge π h o c := ⟨_, rfl⟩
  rw [← hres]
  have hh8 := hok.2.1
  have no : ¬ twoF π h o → res = (-1, c) := fun z => by rw [hres]; unfold dMerge; rw [if_neg z]
  have K : ∀ h0 o0, h0 < 8 → o0 < 8 → h0 ≠ o0 → res = (dropsF c.1 h0, pushC (moveF (mergeF c.1 h0 o0) h0 o0 1 1 5) c) → ∀ m j M1, j + m = 5 → qFr SM M M1 → qRow M1 (moveF c.1 h0 o0 1 1 j) → qT g kX12_merge (qR 2 0 0) (qZI g (fun r M' => r = res.1 ∧ qCore M' res.2 ∧ qFr SQ M M')) 36 [some (.ref 280), some (.int (nI h0)), some (.int (nI o0)), some (.int (dropsF c.1 h0)), some (.int (nI j))] [] 333 M1 (0, 0) := by
    intro h0 o0 hh ho hho hr2 m
    induction m with
    | zero =>
      intro j M1 e hf hR1
      have hM1 := hM.fr hf
      obtain rfl : j = 5 := by omega
      have R : ∀ k, k < 66 → M1.1 322 k = if 5 * h0 ≤ k ∧ k < 5 * h0 + 5 then c.1 k - c.1 k else if 5 * o0 ≤ k ∧ k < 5 * o0 + 5 then c.1 k + c.1 (5 * h0 + (k - 5 * o0)) else c.1 k := fun k hk => by rw [hR1 k hk, moveF_at hho 5 k (Nat.le_refl _), partF_11, partF_11]
      have q1 := R (40 + h0) (by omega)
      have q2 := R (40 + o0) (by omega)
      have q3 := R (48 + h0) (by omega)
      have q4 := R (48 + o0) (by omega)
      rw [if_neg (by omega), if_neg (by omega)] at q1 q2 q3 q4
      refine qi_iload (i := 4) (x := nI 5) dX12_merge_36 rfl ?_
      refine qi_iconst (v := 5) dX12_merge_38 rfl ?_
      refine qi_icmp_ge (tgt := 85) dX12_merge_39 (by decide) (fun _hc => ?_) (fun _h => absurd ((nI_leI (a := 5) (b := 5) (by omega) (by omega)).mpr (by omega)) _h)
      refine qi_aload_n (i := 0) (x := 280) dX12_merge_85 rfl rfl ?_
      refine qi_getR (x := 322) flX12_143 dX12_merge_86 rfl (by decide) (hM1 280 59 322 rfl) ?_
      refine qi_bipush (v := 40) dX12_merge_89 rfl ?_
      refine qi_iload_n (i := 2) (x := nI o0) dX12_merge_91 rfl rfl ?_
      refine qi_iadd dX12_merge_92 ?_
      refine qe_top (y := nI (40 + o0)) (by rw [show (40 : Int32) = nI 40 from rfl, nI_add]) ?_
      refine qi_dup2 dX12_merge_93 ?_
      refine qi_ialdN (x := M1.1 322 (40 + o0)) (j := 40 + o0) dX12_merge_94 rfl (by decide) rfl (by omega) (by decide) rfl ?_
      refine qi_aload_n (i := 0) (x := 280) dX12_merge_95 rfl rfl ?_
      refine qi_getR (x := 322) flX12_143 dX12_merge_96 rfl (by decide) (hM1 280 59 322 rfl) ?_
      refine qi_bipush (v := 40) dX12_merge_99 rfl ?_
      refine qi_iload_n (i := 1) (x := nI h0) dX12_merge_101 rfl rfl ?_
      refine qi_iadd dX12_merge_102 ?_
      refine qe_top (y := nI (40 + h0)) (by rw [show (40 : Int32) = nI 40 from rfl, nI_add]) ?_
      refine qi_ialdN (x := M1.1 322 (40 + h0)) (j := 40 + h0) dX12_merge_103 rfl (by decide) rfl (by omega) (by decide) rfl ?_
      refine qi_iadd dX12_merge_104 ?_
      refine qi_iastN (j := 40 + o0) dX12_merge_105 rfl (by decide) rfl (by omega) (by decide) ?_
      refine qi_aload_n (i := 0) (x := 280) dX12_merge_106 rfl rfl ?_
      refine qi_getR (x := 322) flX12_143 dX12_merge_107 rfl (by decide) (hM1 280 59 322 rfl) ?_
      refine qi_bipush (v := 40) dX12_merge_110 rfl ?_
      refine qi_iload_n (i := 1) (x := nI h0) dX12_merge_112 rfl rfl ?_
      refine qi_iadd dX12_merge_113 ?_
      refine qe_top (y := nI (40 + h0)) (by rw [show (40 : Int32) = nI 40 from rfl, nI_add]) ?_
      refine qi_iconst (v := 0) dX12_merge_114 rfl ?_
      refine qi_iastN (j := 40 + h0) dX12_merge_115 rfl (by decide) rfl (by omega) (by decide) ?_
      refine qi_aload_n (i := 0) (x := 280) dX12_merge_116 rfl rfl ?_
      refine qi_getR (x := 322) flX12_143 dX12_merge_117 rfl (by decide) (hM1 280 59 322 rfl) ?_
      refine qi_bipush (v := 48) dX12_merge_120 rfl ?_
      refine qi_iload_n (i := 2) (x := nI o0) dX12_merge_122 rfl rfl ?_
      refine qi_iadd dX12_merge_123 ?_
      refine qe_top (y := nI (48 + o0)) (by rw [show (48 : Int32) = nI 48 from rfl, nI_add]) ?_
      refine qi_dup2 dX12_merge_124 ?_
      refine qi_ialdN (x := (wI (wI M1 322 (40 + o0) ((M1.1 322 (40 + o0)) + (M1.1 322 (40 + h0)))) 322 (40 + h0) 0).1 322 (48 + o0)) (j := 48 + o0) dX12_merge_125 rfl (by decide) rfl (by omega) (by decide) rfl ?_
      refine qi_aload_n (i := 0) (x := 280) dX12_merge_126 rfl rfl ?_
      refine qi_getR (x := 322) flX12_143 dX12_merge_127 rfl (by decide) (hM1 280 59 322 rfl) ?_
      refine qi_bipush (v := 48) dX12_merge_130 rfl ?_
      refine qi_iload_n (i := 1) (x := nI h0) dX12_merge_132 rfl rfl ?_
      refine qi_iadd dX12_merge_133 ?_
      refine qe_top (y := nI (48 + h0)) (by rw [show (48 : Int32) = nI 48 from rfl, nI_add]) ?_
      refine qi_ialdN (x := (wI (wI M1 322 (40 + o0) ((M1.1 322 (40 + o0)) + (M1.1 322 (40 + h0)))) 322 (40 + h0) 0).1 322 (48 + h0)) (j := 48 + h0) dX12_merge_134 rfl (by decide) rfl (by omega) (by decide) rfl ?_
      refine qi_iadd dX12_merge_135 ?_
      refine qi_iastN (j := 48 + o0) dX12_merge_136 rfl (by decide) rfl (by omega) (by decide) ?_
      refine qi_aload_n (i := 0) (x := 280) dX12_merge_137 rfl rfl ?_
      refine qi_getR (x := 322) flX12_143 dX12_merge_138 rfl (by decide) (hM1 280 59 322 rfl) ?_
      refine qi_bipush (v := 48) dX12_merge_141 rfl ?_
      refine qi_iload_n (i := 1) (x := nI h0) dX12_merge_143 rfl rfl ?_
      refine qi_iadd dX12_merge_144 ?_
      refine qe_top (y := nI (48 + h0)) (by rw [show (48 : Int32) = nI 48 from rfl, nI_add]) ?_
      refine qi_iconst (v := 0) dX12_merge_145 rfl ?_
      refine qi_iastN (j := 48 + h0) dX12_merge_146 rfl (by decide) rfl (by omega) (by decide) ?_
      generalize eM2 : wI (wI (wI (wI M1 322 (40 + o0) ((M1.1 322 (40 + o0)) + (M1.1 322 (40 + h0)))) 322 (40 + h0) 0) 322 (48 + o0) (((wI (wI M1 322 (40 + o0) ((M1.1 322 (40 + o0)) + (M1.1 322 (40 + h0)))) 322 (40 + h0) 0).1 322 (48 + o0)) + ((wI (wI M1 322 (40 + o0) ((M1.1 322 (40 + o0)) + (M1.1 322 (40 + h0)))) 322 (40 + h0) 0).1 322 (48 + h0)))) 322 (48 + h0) 0 = M2
      have hf2 : qFr SM M M2 := by
        rw [← eM2]
        exact (((hf.wI (by unfold SM; omega)).wI (by unfold SM; omega)).wI (by unfold SM; omega)).wI (by unfold SM; omega)
      have hM2 := hM.fr hf2
      have hR2 : qRow M2 (moveF (mergeF c.1 h0 o0) h0 o0 1 1 5) := by
        intro k hk
        rw [moveF_at hho 5 k (Nat.le_refl _), partF_11, partF_11]
        have q5 := R k hk
        rw [← eM2]
        simp only [wI_1, mergeF]
        grind
      have hC2 := hC.keep hf2
      refine qi_aload_n (i := 0) (x := 280) dX12_merge_147 rfl rfl ?_
      refine qi_callVV (K' := kX12_keeps) (As := []) mlX12_399 okX12_keeps dX12_merge_148 (c_X12_keeps g hM2 hC2.1 hR2 hC2.2) rfl (by decide) rfl (by decide) rfl rfl (Nat.le_of_ble_eq_true rfl) ⟨(Nat.le_of_ble_eq_true rfl), (Nat.le_of_ble_eq_true rfl)⟩ ⟨Nat.le_refl _, Nat.le_refl _⟩ (fun M3 ⟨hN3, hH3, hf3⟩ => ?_)
      refine qi_iload_n (i := 3) (x := dropsF c.1 h0) dX12_merge_151 rfl rfl ?_
      exact qi_retI rfl rfl dX12_merge_152 (⟨by rw [hr2], by rw [hr2]; exact ⟨hN3, hH3⟩, (hf2.mono (fun _ _ => SM_SQ)).tr (hf3.mono (fun _ _ => SU_SQ))⟩)
    | succ m ih =>
      intro j M1 e hf hR1
      have hM1 := hM.fr hf
      have q1 : M1.1 322 (5 * h0 + j) = c.1 (5 * h0 + j) := (hR1 _ (by omega)).trans (moveF_src hho (by omega))
      refine qi_iload (i := 4) (x := nI j) dX12_merge_36 rfl ?_
      refine qi_iconst (v := 5) dX12_merge_38 rfl ?_
      refine qi_icmp_ge (tgt := 85) dX12_merge_39 (by decide) (fun _h => absurd ((nI_leI (a := 5) (b := j) (by omega) (by omega)).mp _h) (by omega)) (fun _hc => ?_)
      refine qi_aload_n (i := 0) (x := 280) dX12_merge_42 rfl rfl ?_
      refine qi_getR (x := 322) flX12_143 dX12_merge_43 rfl (by decide) (hM1 280 59 322 rfl) ?_
      refine qi_iconst (v := 5) dX12_merge_46 rfl ?_
      refine qi_iload_n (i := 2) (x := nI o0) dX12_merge_47 rfl rfl ?_
      refine qi_imul dX12_merge_48 ?_
      refine qi_iload (i := 4) (x := nI j) dX12_merge_49 rfl ?_
      refine qi_iadd dX12_merge_51 ?_
      refine qe_top (y := nI (5 * o0 + j)) (by rw [show (5 : Int32) = nI 5 from rfl, pk_mul, nI_add]) ?_
      refine qi_dup2 dX12_merge_52 ?_
      refine qi_ialdN (x := M1.1 322 (5 * o0 + j)) (j := 5 * o0 + j) dX12_merge_53 rfl (by decide) rfl (by omega) (by decide) rfl ?_
      refine qi_aload_n (i := 0) (x := 280) dX12_merge_54 rfl rfl ?_
      refine qi_getR (x := 322) flX12_143 dX12_merge_55 rfl (by decide) (hM1 280 59 322 rfl) ?_
      refine qi_iconst (v := 5) dX12_merge_58 rfl ?_
      refine qi_iload_n (i := 1) (x := nI h0) dX12_merge_59 rfl rfl ?_
      refine qi_imul dX12_merge_60 ?_
      refine qi_iload (i := 4) (x := nI j) dX12_merge_61 rfl ?_
      refine qi_iadd dX12_merge_63 ?_
      refine qe_top (y := nI (5 * h0 + j)) (by rw [show (5 : Int32) = nI 5 from rfl, pk_mul, nI_add]) ?_
      refine qi_ialdN (x := M1.1 322 (5 * h0 + j)) (j := 5 * h0 + j) dX12_merge_64 rfl (by decide) rfl (by omega) (by decide) rfl ?_
      refine qi_iadd dX12_merge_65 ?_
      refine qi_iastN (j := 5 * o0 + j) dX12_merge_66 rfl (by decide) rfl (by omega) (by decide) ?_
      refine qi_aload_n (i := 0) (x := 280) dX12_merge_67 rfl rfl ?_
      refine qi_getR (x := 322) flX12_143 dX12_merge_68 rfl (by decide) (hM1 280 59 322 rfl) ?_
      refine qi_iconst (v := 5) dX12_merge_71 rfl ?_
      refine qi_iload_n (i := 1) (x := nI h0) dX12_merge_72 rfl rfl ?_
      refine qi_imul dX12_merge_73 ?_
      refine qi_iload (i := 4) (x := nI j) dX12_merge_74 rfl ?_
      refine qi_iadd dX12_merge_76 ?_
      refine qe_top (y := nI (5 * h0 + j)) (by rw [show (5 : Int32) = nI 5 from rfl, pk_mul, nI_add]) ?_
      refine qi_iconst (v := 0) dX12_merge_77 rfl ?_
      refine qi_iastN (j := 5 * h0 + j) dX12_merge_78 rfl (by decide) rfl (by omega) (by decide) ?_
      refine qi_iinc (i := 4) (x := nI j) (v := nI (j + 1)) (L2 := [some (.ref 280), some (.int (nI h0)), some (.int (nI o0)), some (.int (dropsF c.1 h0)), some (.int (nI (j + 1)))]) dX12_merge_79 rfl (nI_1 j) (Nat.le_of_ble_eq_true rfl) rfl ?_
      refine qi_goto (tgt := 36) dX12_merge_82 (by decide) ?_
      refine ih (j + 1) _ (by omega) ((hf.wI (by unfold SM; omega)).wI (by unfold SM; omega)) (fun k hk => ?_)
      have q3 := hR1 k hk
      have q4 := hR1 (5 * o0 + j) (by omega)
      have q5 := hR1 (5 * h0 + j) (by omega)
      show _ = (if k = 5 * h0 + j then moveF c.1 h0 o0 1 1 j k - partF c.1 1 1 (5 * h0 + j) else if k = 5 * o0 + j then moveF c.1 h0 o0 1 1 j k + partF c.1 1 1 (5 * h0 + j) else moveF c.1 h0 o0 1 1 j k)
      rw [partF_11]
      simp only [wI_1]
      grind
  have E : res = (-1, c) → qT g kX12_merge (qR 2 0 0) (qZI g (fun r M' => r = res.1 ∧ qCore M' res.2 ∧ qFr SQ M M')) 21 [some (.ref 280), some (.int h), some (.int o), none, none] [] 333 M (0, 0) := by
    intro hr
    refine qi_iconst (v := -1) dX12_merge_21 rfl ?_
    exact qi_retI rfl rfl dX12_merge_22 (⟨by rw [hr], by rw [hr]; exact hC, qFr.rf⟩)
  refine qI.of (j := 2) (pn_RX12) rfl ?_
  show qT g kX12_merge (qR 2 0 0) (qZI g (fun r M' => r = res.1 ∧ qCore M' res.2 ∧ qFr SQ M M')) 0 [some (.ref 280), some (.int h), some (.int o), none, none] [] 333 M (0, 0)
  refine qi_aload_n (i := 0) (x := 280) dX12_merge_0 rfl rfl ?_
  refine qi_iload_n (i := 1) (x := h) dX12_merge_1 rfl rfl ?_
  refine qi_callPVI (v := isF (π.1 1) h) (K' := kX12_isHeir) (As := [.int h]) mlX12_380 okX12_isHeir dX12_merge_2 (c_X12_isHeir g hM hP hok h) rfl (by decide) rfl (by decide) rfl rfl (Nat.le_of_ble_eq_true rfl) ⟨(Nat.le_of_ble_eq_true rfl), (Nat.le_of_ble_eq_true rfl)⟩ ⟨Nat.le_refl _, Nat.le_refl _⟩ ?_
  refine qi_if_eq (tgt := 21) dX12_merge_5 (by decide) (fun c1 => ?_) (fun c1 => ?_)
  · exact E (no (fun z => z.1 c1))
  · refine qi_aload_n (i := 0) (x := 280) dX12_merge_8 rfl rfl ?_
    refine qi_iload_n (i := 2) (x := o) dX12_merge_9 rfl rfl ?_
    refine qi_callPVI (v := isF (π.1 1) o) (K' := kX12_isHeir) (As := [.int o]) mlX12_380 okX12_isHeir dX12_merge_10 (c_X12_isHeir g hM hP hok o) rfl (by decide) rfl (by decide) rfl rfl (Nat.le_of_ble_eq_true rfl) ⟨(Nat.le_of_ble_eq_true rfl), (Nat.le_of_ble_eq_true rfl)⟩ ⟨Nat.le_refl _, Nat.le_refl _⟩ ?_
    refine qi_if_eq (tgt := 21) dX12_merge_13 (by decide) (fun c2 => ?_) (fun c2 => ?_)
    · exact E (no (fun z => z.2.1 c2))
    · refine qi_iload_n (i := 1) (x := h) dX12_merge_16 rfl rfl ?_
      refine qi_iload_n (i := 2) (x := o) dX12_merge_17 rfl rfl ?_
      refine qi_icmp_ne (tgt := 23) dX12_merge_18 (by decide) (fun c3 => ?_) (fun c3 => ?_)
      · refine qi_aload_n (i := 0) (x := 280) dX12_merge_23 rfl rfl ?_
        refine qi_callVV (K' := kX12_copies) (As := []) mlX12_383 okX12_copies dX12_merge_24 (c_X12_copies g hM hC.1) rfl (by decide) rfl (by decide) rfl rfl (Nat.le_of_ble_eq_true rfl) ⟨(Nat.le_of_ble_eq_true rfl), (Nat.le_of_ble_eq_true rfl)⟩ ⟨Nat.le_refl _, Nat.le_refl _⟩ (fun M2 ⟨hR2, e60, e61, _, hf2⟩ => ?_)
        have hM2 := hM.fr hf2
        obtain ⟨h0, o0, hh, ho, hho, eh, eo⟩ := two_of hok ⟨c1, c2, c3⟩
        have hr2 : res = (dropsF c.1 h0, pushC (moveF (mergeF c.1 h0 o0) h0 o0 1 1 5) c) := by
          rw [hres]
          unfold dMerge
          rw [if_pos ⟨c1, c2, c3⟩, eh, eo, nI_clamp (by omega), nI_clamp (by omega)]
        rw [eh, eo]
        refine qi_aload_n (i := 0) (x := 280) dX12_merge_27 rfl rfl ?_
        refine qi_iload_n (i := 1) (x := nI h0) dX12_merge_28 rfl rfl ?_
        refine qi_callPVI (v := dropsF c.1 h0) (K' := kX12_dropsOf) (As := [.int (nI h0)]) mlX12_377 okX12_dropsOf dX12_merge_29 (c_X12_dropsOf g hM2 hR2 (h := h0) (by omega)) rfl (by decide) rfl (by decide) rfl rfl (Nat.le_of_ble_eq_true rfl) ⟨(Nat.le_of_ble_eq_true rfl), (Nat.le_of_ble_eq_true rfl)⟩ ⟨Nat.le_refl _, Nat.le_refl _⟩ ?_
        refine qi_istore_n (i := 3) (L2 := [some (.ref 280), some (.int (nI h0)), some (.int (nI o0)), some (.int (dropsF c.1 h0)), none]) dX12_merge_32 rfl (Nat.le_of_ble_eq_true rfl) rfl ?_
        refine qi_iconst (v := 0) dX12_merge_33 rfl ?_
        refine qi_istore (i := 4) (L2 := [some (.ref 280), some (.int (nI h0)), some (.int (nI o0)), some (.int (dropsF c.1 h0)), some (.int 0)]) dX12_merge_34 (Nat.le_of_ble_eq_true rfl) rfl ?_
        exact K h0 o0 (by omega) (by omega) hho hr2 5 0 M2 (by omega) hf2 hR2
      · exact E (no (fun z => z.2.2 c3))
set_option maxHeartbeats 1500000 in
theorem c_X12_spoon (g : qG) {M : qM} (hM : qRf M) {L : Nat} {π : qPl} (hP : qPlanM M L π) (hok : okPl π) {c : qCo} (hC : qCore M c) (hO : okCore π c) (n : Int32) : qI g 2 kX12_spoon [.ref 280, .int n] M (fun r M' => r = (dSpoon n c).1 ∧ qCore M' (dSpoon n c).2 ∧ qFr SQ M M') := by
  obtain ⟨res, hres⟩ : ∃ res, res = dSpoon n c := ⟨_, rfl⟩
  rw [← hres]
  obtain ⟨A, eA, hA1, hA2⟩ := hO.1.all hok
  obtain ⟨hr1, hr2⟩ := hO.1.r hok
  have hb := hok.2.2.2.2.1
  refine qI.of (j := 2) (pn_RX12) rfl ?_
  show qT g kX12_spoon (qR 2 0 0) (qZI g (fun r M' => r = res.1 ∧ qCore M' res.2 ∧ qFr SQ M M')) 0 [some (.ref 280), some (.int n), none, none] [] 333 M (0, 0)
  refine qi_aload_n (i := 0) (x := 280) dX12_spoon_0 rfl rfl ?_
  refine qi_callVV (K' := kX12_copies) (As := []) mlX12_383 okX12_copies dX12_spoon_1 (c_X12_copies g hM hC.1) rfl (by decide) rfl (by decide) rfl rfl (Nat.le_of_ble_eq_true rfl) ⟨(Nat.le_of_ble_eq_true rfl), (Nat.le_of_ble_eq_true rfl)⟩ ⟨Nat.le_refl _, Nat.le_refl _⟩ (fun M2 ⟨hR2, e60, e61, _, hf2⟩ => ?_)
  have hM2 := hM.fr hf2
  refine qi_aload_n (i := 0) (x := 280) dX12_spoon_4 rfl rfl ?_
  refine qi_callPVI (v := allF c.1) (K' := kX12_allDrops) (As := []) mlX12_352 okX12_allDrops dX12_spoon_5 (c_X12_allDrops g hM2 hR2) rfl (by decide) rfl (by decide) rfl rfl (Nat.le_of_ble_eq_true rfl) ⟨(Nat.le_of_ble_eq_true rfl), (Nat.le_of_ble_eq_true rfl)⟩ ⟨Nat.le_refl _, Nat.le_refl _⟩ ?_
  refine qi_istore_n (i := 2) (L2 := [some (.ref 280), some (.int n), some (.int (allF c.1)), none]) dX12_spoon_8 rfl (Nat.le_of_ble_eq_true rfl) rfl ?_
  refine qi_iload_n (i := 1) (x := n) dX12_spoon_9 rfl rfl ?_
  refine qi_iconst (v := 1) dX12_spoon_10 rfl ?_
  refine qi_iload_n (i := 2) (x := allF c.1) dX12_spoon_11 rfl rfl ?_
  refine qi_callPSI (v := inF 1 (allF c.1) n) (K' := kX12_in) (As := [.int n, .int 1, .int (allF c.1)]) mlX12_338 okX12_in dX12_spoon_12 (c_X12_in g _ _ _) rfl rfl (Nat.le_of_ble_eq_true rfl) ⟨(Nat.le_of_ble_eq_true rfl), (Nat.le_of_ble_eq_true rfl)⟩ ⟨Nat.le_refl _, Nat.le_refl _⟩ ?_
  refine qi_if_ne (tgt := 20) dX12_spoon_15 (by decide) (fun c1 => ?_) (fun c1 => ?_)
  · have hin := inF_of c1
    have hn : ∃ k, 0 < k ∧ k ≤ A ∧ n = nI k := by
      rw [eA] at hin
      have a1 := Int32.le_iff_toInt_le.mp hin.1
      have a2 := Int32.le_iff_toInt_le.mp hin.2
      rw [nI_toInt (by omega)] at a2
      have a3 : (1 : Int32).toInt = 1 := by decide
      have a4 : ¬ n < 0 := fun z => by
        have a5 := Int32.lt_iff_toInt_lt.mp z
        have a6 : (0 : Int32).toInt = 0 := by decide
        omega
      obtain ⟨k, hk, e⟩ := nI_of a4
      rw [e, nI_toInt hk] at a1 a2
      exact ⟨k, by omega, by omega, e⟩
    obtain ⟨k, hk0, hkA, en⟩ := hn
    have hne : ¬ allF c.1 ≤ 0 := by
      rw [eA]
      exact nI_nle (by omega) (by omega)
    have hs : res = (spoonS c.1 k, pushC (spoonF c.1 k) c) := by
      rw [hres]
      unfold dSpoon
      rw [if_neg c1, en, nI_clamp (by omega)]
    rw [en]
    refine qi_aload_n (i := 0) (x := 280) dX12_spoon_20 rfl rfl ?_
    refine qi_getR (x := 322) flX12_143 dX12_spoon_21 rfl (by decide) (hM2 280 59 322 rfl) ?_
    refine qi_bipush (v := 65) dX12_spoon_24 rfl ?_
    refine qi_ialdN (x := M2.1 322 65) (j := 65) dX12_spoon_26 rfl (by decide) rfl (by omega) (by decide) rfl ?_
    refine qi_i2l dX12_spoon_27 ?_
    refine qi_iload_n (i := 1) (x := nI k) dX12_spoon_28 rfl rfl ?_
    refine qi_i2l dX12_spoon_29 ?_
    refine qi_lmul dX12_spoon_30 ?_
    refine qi_iload_n (i := 2) (x := allF c.1) dX12_spoon_31 rfl rfl ?_
    refine qi_i2l dX12_spoon_32 ?_
    refine qi_ldiv dX12_spoon_33 (toInt64_ne hne) ?_
    refine qi_l2i dX12_spoon_34 ?_
    refine qe_top (y := spoonS c.1 k) (by rw [hR2 65 (by omega)]; rfl) ?_
    refine qi_istore_n (i := 3) (L2 := [some (.ref 280), some (.int (nI k)), some (.int (allF c.1)), some (.int (spoonS c.1 k))]) dX12_spoon_35 rfl (Nat.le_of_ble_eq_true rfl) rfl ?_
    refine qi_aload_n (i := 0) (x := 280) dX12_spoon_36 rfl rfl ?_
    refine qi_iload_n (i := 1) (x := nI k) dX12_spoon_37 rfl rfl ?_
    refine qi_callVV (K' := kX12_lessens) (As := [.int (nI k)]) mlX12_374 okX12_lessens dX12_spoon_38 (c_X12_lessens g hM2 hR2 hr1 (by omega) (show k ≤ sumN (rOf c.1) 40 by omega)) rfl (by decide) rfl (by decide) rfl rfl (Nat.le_of_ble_eq_true rfl) ⟨(Nat.le_of_ble_eq_true rfl), (Nat.le_of_ble_eq_true rfl)⟩ ⟨Nat.le_refl _, Nat.le_refl _⟩ (fun M3 ⟨hR3, hf3⟩ => ?_)
    have hM3 := hM2.fr hf3
    have hf23 : qFr SM M M3 := hf2.tr (hf3.mono (fun _ _ z => SN_SM (SG_SN z)))
    have r65 : M3.1 322 65 = c.1 65 := (hR3 65 (by omega)).trans (by unfold dryR; rw [if_neg (by omega)])
    refine qi_aload_n (i := 0) (x := 280) dX12_spoon_41 rfl rfl ?_
    refine qi_getR (x := 322) flX12_143 dX12_spoon_42 rfl (by decide) (hM3 280 59 322 rfl) ?_
    refine qi_bipush (v := 65) dX12_spoon_45 rfl ?_
    refine qi_dup2 dX12_spoon_47 ?_
    refine qi_ialdN (x := M3.1 322 65) (j := 65) dX12_spoon_48 rfl (by decide) rfl (by omega) (by decide) rfl ?_
    refine qi_iload_n (i := 3) (x := spoonS c.1 k) dX12_spoon_49 rfl rfl ?_
    refine qi_isub dX12_spoon_50 ?_
    refine qi_iastN (j := 65) dX12_spoon_51 rfl (by decide) rfl (by omega) (by decide) ?_
    generalize eM4 : wI M3 322 65 ((M3.1 322 65) - (spoonS c.1 k)) = M4
    have hf4 : qFr SM M M4 := by
      rw [← eM4]
      exact hf23.wI (by unfold SM; omega)
    have hM4 := hM.fr hf4
    have hR4 : qRow M4 (spoonF c.1 k) := by
      intro j hj
      rw [← eM4]
      unfold spoonF
      by_cases hj2 : j = 65
      · rw [hj2, wI_s, if_pos rfl, r65]
      · rw [wI_k hj2, if_neg hj2, hR3 j hj]
        rfl
    have hC4 := hC.keep hf4
    refine qi_aload_n (i := 0) (x := 280) dX12_spoon_52 rfl rfl ?_
    refine qi_callVV (K' := kX12_keeps) (As := []) mlX12_399 okX12_keeps dX12_spoon_53 (c_X12_keeps g hM4 hC4.1 hR4 hC4.2) rfl (by decide) rfl (by decide) rfl rfl (Nat.le_of_ble_eq_true rfl) ⟨(Nat.le_of_ble_eq_true rfl), (Nat.le_of_ble_eq_true rfl)⟩ ⟨Nat.le_refl _, Nat.le_refl _⟩ (fun M5 ⟨hN5, hH5, hf5⟩ => ?_)
    refine qi_iload_n (i := 3) (x := spoonS c.1 k) dX12_spoon_56 rfl rfl ?_
    exact qi_retI rfl rfl dX12_spoon_57 (⟨by rw [hs], by rw [hs]; exact ⟨hN5, hH5⟩, (hf4.mono (fun _ _ => SM_SQ)).tr (hf5.mono (fun _ _ => SU_SQ))⟩)
  · refine qi_iconst (v := -1) dX12_spoon_18 rfl ?_
    have hs : res = (-1, c) := by
      rw [hres]
      unfold dSpoon
      rw [if_pos c1]
    exact qi_retI rfl rfl dX12_spoon_19 (⟨by rw [hs], by rw [hs]; exact hC.keep hf2, hf2.mono (fun _ _ => SM_SQ)⟩)
