/-! ThimbleSeaModel: run, merge, split, spoon -/
theorem awayF_m1 (sil week : Int32) : awayF sil (-1) week = sil := by
  unfold awayF
  rw [if_pos (Or.inl rfl)]
theorem qCore.SU {M M' : qM} {ρ' : Nat → Int32} {c : qCo} (h1 : qNow M' ρ') (h2 : qHist M' (min 30 (c.2.1 + 1)) (pushF c.1 c.2.2)) : qCore M' (pushC ρ' c) := ⟨h1, h2⟩
set_option maxHeartbeats 1000000 in
theorem c_X12_run (g : qG) {M : qM} (hM : qRf M) {L : Nat} {π : qPl} (hP : qPlanM M L π) (hok : okPl π) {c : qCo} (hC : qCore M c) (hO : okCore π c) (n : Int32) : qI g 5 kX12_run [.ref 280, .int n] M (fun r M' => r = (dRun π n c).1 ∧ qCore M' (dRun π n c).2 ∧ qFr SQ M M') := by
  obtain ⟨res, hres⟩ : ∃ res, res = dRun π n c := ⟨_, rfl⟩
  rw [← hres]
  have K : ∀ n0, n = nI n0 → n0 ≤ 200 → ¬ n0 = 0 → ∀ m j M1, j + m = n0 → qFr SM M M1 → qRow M1 (weeksF π (-1) c.1 j) → M1.1 280 60 = -1 → M1.1 280 61 = -1 → qT g kX12_run (qR 5 0 0) (qZI g (fun r M' => r = res.1 ∧ qCore M' res.2 ∧ qFr SQ M M')) 31 [some (.ref 280), some (.int (nI n0)), some (.int (nI j))] [] 333 M1 (0, 0) := by
    intro n0 hn0 h200 hnz m
    have hr2 : res = (weeksF π (-1) c.1 n0 64, pushC (weeksF π (-1) c.1 n0) c) := by
      rw [hres]
      unfold dRun
      have h1 : ¬ n = 0 := fun z => hnz ((nI_eq (a := n0) (b := 0) (by omega) (by omega)).mp (hn0.symm.trans z))
      have h2 : ¬ inF 0 200 n = 0 := by
        unfold inF
        rw [hn0, if_pos ⟨Int32.not_lt.mp (nI_nlt (Nat.zero_le _) (by omega) : ¬ nI n0 < nI 0), Int32.not_lt.mp (nI_nlt h200 (by omega) : ¬ nI 200 < nI n0)⟩]
        decide
      rw [if_neg h2, if_neg h1, hn0, nI_clamp (by omega)]
    induction m with
    | zero =>
      intro j M1 e hf hR1 e1 e2
      have hM1 := hM.fr hf
      obtain rfl : j = n0 := by omega
      have hC1 := hC.keep hf
      refine qi_iload_n (i := 2) (x := nI j) dX12_run_31 rfl rfl ?_
      refine qi_iload_n (i := 1) (x := nI j) dX12_run_32 rfl rfl ?_
      refine qi_icmp_ge (tgt := 46) dX12_run_33 (by decide) (fun _hc => ?_) (fun _h => absurd ((nI_leI (a := j) (b := j) (by omega) (by omega)).mpr (by omega)) _h)
      refine qi_aload_n (i := 0) (x := 280) dX12_run_46 rfl rfl ?_
      refine qi_callVV (K' := kX12_keeps) (As := []) mlX12_399 okX12_keeps dX12_run_47 (c_X12_keeps g hM1 hC1.1 hR1 hC1.2) rfl (by decide) rfl (by decide) rfl rfl (Nat.le_of_ble_eq_true rfl) ⟨(Nat.le_of_ble_eq_true rfl), (Nat.le_of_ble_eq_true rfl)⟩ ⟨Nat.le_refl _, Nat.le_refl _⟩ (fun M2 ⟨hN2, hH2, hf2⟩ => ?_)
      have hM2 := hM1.fr hf2
      refine qi_aload_n (i := 0) (x := 280) dX12_run_50 rfl rfl ?_
      refine qi_getR (x := 321) flX12_140 dX12_run_51 rfl (by decide) (hM2 280 58 321 rfl) ?_
      refine qi_bipush (v := 64) dX12_run_54 rfl ?_
      refine qi_ialdN (x := M2.1 321 64) (j := 64) dX12_run_56 rfl (by decide) rfl (by omega) (by decide) rfl ?_
      refine qe_top (y := weeksF π (-1) c.1 j 64) (hN2 64 (by omega)) ?_
      exact qi_retI rfl rfl dX12_run_57 (⟨by rw [hr2], by rw [hr2]; exact ⟨hN2, hH2⟩, (hf.mono (fun _ _ => SM_SQ)).tr (hf2.mono (fun _ _ => SU_SQ))⟩)
    | succ m ih =>
      intro j M1 e hf hR1 e1 e2
      have hM1 := hM.fr hf
      refine qi_iload_n (i := 2) (x := nI j) dX12_run_31 rfl rfl ?_
      refine qi_iload_n (i := 1) (x := nI n0) dX12_run_32 rfl rfl ?_
      refine qi_icmp_ge (tgt := 46) dX12_run_33 (by decide) (fun _h => absurd ((nI_leI (a := n0) (b := j) (by omega) (by omega)).mp _h) (by omega)) (fun _hc => ?_)
      refine qi_aload_n (i := 0) (x := 280) dX12_run_36 rfl rfl ?_
      refine qi_callVV (K' := kX12_weekGoes) (As := []) mlX12_396 okX12_weekGoes dX12_run_37 (c_X12_weekGoes g hM1 hR1 (hP.fr hf) hok (hO.1.weeks hok j) e1 e2) rfl (by decide) rfl (by decide) rfl rfl (Nat.le_of_ble_eq_true rfl) ⟨(Nat.le_of_ble_eq_true rfl), (Nat.le_of_ble_eq_true rfl)⟩ ⟨Nat.le_refl _, Nat.le_refl _⟩ (fun M2 ⟨hR2, hf2⟩ => ?_)
      rw [awayF_m1] at hR2
      refine qi_iinc (i := 2) (x := nI j) (v := nI (j + 1)) (L2 := [some (.ref 280), some (.int (nI n0)), some (.int (nI (j + 1)))]) dX12_run_40 rfl (nI_1 j) (Nat.le_of_ble_eq_true rfl) rfl ?_
      refine qi_goto (tgt := 31) dX12_run_43 (by decide) ?_
      exact ih (j + 1) M2 (by omega) (hf.tr (hf2.mono (fun _ _ => SN_SM))) hR2 ((hf2.1 _ _ (by unfold SN; omega)).trans e1) ((hf2.1 _ _ (by unfold SN; omega)).trans e2)
  refine qI.of (j := 1) (pn_RX12) rfl ?_
  show qT g kX12_run (qR 5 0 0) (qZI g (fun r M' => r = res.1 ∧ qCore M' res.2 ∧ qFr SQ M M')) 0 [some (.ref 280), some (.int n), none] [] 333 M (0, 0)
  refine qi_iload_n (i := 1) (x := n) dX12_run_0 rfl rfl ?_
  refine qi_iconst (v := 0) dX12_run_1 rfl ?_
  refine qi_sipush (v := 200) dX12_run_2 rfl ?_
  refine qi_callPSI (v := inF 0 200 n) (K' := kX12_in) (As := [.int n, .int 0, .int 200]) mlX12_338 okX12_in dX12_run_5 (c_X12_in g _ _ _) rfl rfl (Nat.le_of_ble_eq_true rfl) ⟨(Nat.le_of_ble_eq_true rfl), (Nat.le_of_ble_eq_true rfl)⟩ ⟨Nat.le_refl _, Nat.le_refl _⟩ ?_
  refine qi_if_ne (tgt := 13) dX12_run_8 (by decide) (fun c1 => ?_) (fun c1 => ?_)
  · refine qi_iload_n (i := 1) (x := n) dX12_run_13 rfl rfl ?_
    obtain ⟨n0, h200, hn0⟩ := inF_nat (n := 200) (by omega) c1
    refine qi_if_ne (tgt := 25) dX12_run_14 (by decide) (fun c2 => ?_) (fun c2 => ?_)
    · refine qi_aload_n (i := 0) (x := 280) dX12_run_25 rfl rfl ?_
      refine qi_callVV (K' := kX12_copies) (As := []) mlX12_383 okX12_copies dX12_run_26 (c_X12_copies g hM hC.1) rfl (by decide) rfl (by decide) rfl rfl (Nat.le_of_ble_eq_true rfl) ⟨(Nat.le_of_ble_eq_true rfl), (Nat.le_of_ble_eq_true rfl)⟩ ⟨Nat.le_refl _, Nat.le_refl _⟩ (fun M2 ⟨hR2, e60, e61, _, hf2⟩ => ?_)
      refine qi_iconst (v := 0) dX12_run_29 rfl ?_
      refine qi_istore_n (i := 2) (L2 := [some (.ref 280), some (.int n), some (.int 0)]) dX12_run_30 rfl (Nat.le_of_ble_eq_true rfl) rfl ?_
      rw [hn0]
      exact K n0 hn0 h200 (fun z => c2 (by rw [hn0, z]; rfl)) n0 0 M2 (by omega) hf2 hR2 e60 e61
    · refine qi_aload_n (i := 0) (x := 280) dX12_run_17 rfl rfl ?_
      refine qi_getR (x := 321) flX12_140 dX12_run_18 rfl (by decide) (hM 280 58 321 rfl) ?_
      refine qi_bipush (v := 64) dX12_run_21 rfl ?_
      refine qi_ialdN (x := M.1 321 64) (j := 64) dX12_run_23 rfl (by decide) rfl (by omega) (by decide) rfl ?_
      refine qe_top (y := c.1 64) (hC.1 64 (by omega)) ?_
      exact qi_retI rfl rfl dX12_run_24 (⟨by rw [hres]; unfold dRun; rw [if_neg c1, if_pos c2], by rw [hres]; unfold dRun; rw [if_neg c1, if_pos c2]; exact hC, qFr.rf⟩)
  · refine qi_iconst (v := -1) dX12_run_11 rfl ?_
    exact qi_retI rfl rfl dX12_run_12 (⟨by rw [hres]; unfold dRun; rw [if_pos c1], by rw [hres]; unfold dRun; rw [if_pos c1]; exact hC, qFr.rf⟩)
theorem two_of {π : qPl} {h o : Int32} (hok : okPl π) (t : twoF π h o) : ∃ h0 o0, h0 < π.1 1 ∧ o0 < π.1 1 ∧ h0 ≠ o0 ∧ h = nI h0 ∧ o = nI o0 := by
  have hh8 := hok.2.1
  obtain ⟨h0, hh, e1⟩ := isF_of (by omega) t.1
  obtain ⟨o0, ho, e2⟩ := isF_of (by omega) t.2.1
  exact ⟨h0, o0, hh, ho, fun z => t.2.2 (by rw [e1, e2, z]), e1, e2⟩
set_option maxHeartbeats 1500000 in
theorem c_X12_split (g : qG) {M : qM} (hM : qRf M) {L : Nat} {π : qPl} (hP : qPlanM M L π) (hok : okPl π) {c : qCo} (hC : qCore M c) (h o p q : Int32) : qI g 2 kX12_split [.ref 280, .int h, .int o, .int p, .int q] M (fun r M' => r = (dSplit π h o p q c).1 ∧ qCore M' (dSplit π h o p q c).2 ∧ qFr SQ M M') := by
  obtain ⟨res, hres⟩ : ∃ res, res = dSplit π h o p q c := ⟨_, rfl⟩
  rw [← hres]
  have hh8 := hok.2.1
  have no : ¬ (twoF π h o ∧ ¬ inF 1 99 q = 0 ∧ ¬ inF 0 q p = 0) → res = (-1, c) := fun z => by rw [hres]; unfold dSplit; rw [if_neg z]
  have K : ∀ h0 o0, h0 < 8 → o0 < 8 → h0 ≠ o0 → ¬ q = 0 → max1 q = q → res = (sumF (fun w => partF c.1 p q (5 * h0 + w)) 5, pushC (moveF c.1 h0 o0 p q 5) c) → ∀ m j M1 x7, j + m = 5 → qFr SM M M1 → qRow M1 (moveF c.1 h0 o0 p q j) → qT g kX12_split (qR 2 0 0) (qZI g (fun r M' => r = res.1 ∧ qCore M' res.2 ∧ qFr SQ M M')) 54 [some (.ref 280), some (.int (nI h0)), some (.int (nI o0)), some (.int p), some (.int q), some (.int (sumF (fun w => partF c.1 p q (5 * h0 + w)) j)), some (.int (nI j)), x7] [] 333 M1 (0, 0) := by
    intro h0 o0 hh ho hho hq0 hmx hr2 m
    induction m with
    | zero =>
      intro j M1 x7 e hf hR1
      have hM1 := hM.fr hf
      obtain rfl : j = 5 := by omega
      have hC1 := hC.keep hf
      refine qi_iload (i := 6) (x := nI 5) dX12_split_54 rfl ?_
      refine qi_iconst (v := 5) dX12_split_56 rfl ?_
      refine qi_icmp_ge (tgt := 123) dX12_split_57 (by decide) (fun _hc => ?_) (fun _h => absurd ((nI_leI (a := 5) (b := 5) (by omega) (by omega)).mpr (by omega)) _h)
      refine qi_aload_n (i := 0) (x := 280) dX12_split_123 rfl rfl ?_
      refine qi_callVV (K' := kX12_keeps) (As := []) mlX12_399 okX12_keeps dX12_split_124 (c_X12_keeps g hM1 hC1.1 hR1 hC1.2) rfl (by decide) rfl (by decide) rfl rfl (Nat.le_of_ble_eq_true rfl) ⟨(Nat.le_of_ble_eq_true rfl), (Nat.le_of_ble_eq_true rfl)⟩ ⟨Nat.le_refl _, Nat.le_refl _⟩ (fun M2 ⟨hN2, hH2, hf2⟩ => ?_)
      refine qi_iload (i := 5) (x := sumF (fun w => partF c.1 p q (5 * h0 + w)) 5) dX12_split_127 rfl ?_
      exact qi_retI rfl rfl dX12_split_129 (⟨by rw [hr2], by rw [hr2]; exact ⟨hN2, hH2⟩, (hf.mono (fun _ _ => SM_SQ)).tr (hf2.mono (fun _ _ => SU_SQ))⟩)
    | succ m ih =>
      intro j M1 x7 e hf hR1
      have hM1 := hM.fr hf
      have q1 : M1.1 322 (5 * h0 + j) = c.1 (5 * h0 + j) := (hR1 _ (by omega)).trans (moveF_src hho (by omega))
      refine qi_iload (i := 6) (x := nI j) dX12_split_54 rfl ?_
      refine qi_iconst (v := 5) dX12_split_56 rfl ?_
      refine qi_icmp_ge (tgt := 123) dX12_split_57 (by decide) (fun _h => absurd ((nI_leI (a := 5) (b := j) (by omega) (by omega)).mp _h) (by omega)) (fun _hc => ?_)
      refine qi_aload_n (i := 0) (x := 280) dX12_split_60 rfl rfl ?_
      refine qi_getR (x := 322) flX12_143 dX12_split_61 rfl (by decide) (hM1 280 59 322 rfl) ?_
      refine qi_iconst (v := 5) dX12_split_64 rfl ?_
      refine qi_iload_n (i := 1) (x := nI h0) dX12_split_65 rfl rfl ?_
      refine qi_imul dX12_split_66 ?_
      refine qi_iload (i := 6) (x := nI j) dX12_split_67 rfl ?_
      refine qi_iadd dX12_split_69 ?_
      refine qe_top (y := nI (5 * h0 + j)) (by rw [show (5 : Int32) = nI 5 from rfl, pk_mul, nI_add]) ?_
      refine qi_ialdN (x := M1.1 322 (5 * h0 + j)) (j := 5 * h0 + j) dX12_split_70 rfl (by decide) rfl (by omega) (by decide) rfl ?_
      refine qi_iload_n (i := 3) (x := p) dX12_split_71 rfl rfl ?_
      refine qi_imul dX12_split_72 ?_
      refine qi_iload (i := 4) (x := q) dX12_split_73 rfl ?_
      refine qi_idiv dX12_split_75 hq0 ?_
      refine qe_top (y := partF c.1 p q (5 * h0 + j)) (by rw [q1]; unfold partF; rw [hmx]) ?_
      refine qi_istore (i := 7) (L2 := [some (.ref 280), some (.int (nI h0)), some (.int (nI o0)), some (.int p), some (.int q), some (.int (sumF (fun w => partF c.1 p q (5 * h0 + w)) j)), some (.int (nI j)), some (.int (partF c.1 p q (5 * h0 + j)))]) dX12_split_76 (Nat.le_of_ble_eq_true rfl) rfl ?_
      refine qi_aload_n (i := 0) (x := 280) dX12_split_78 rfl rfl ?_
      refine qi_getR (x := 322) flX12_143 dX12_split_79 rfl (by decide) (hM1 280 59 322 rfl) ?_
      refine qi_iconst (v := 5) dX12_split_82 rfl ?_
      refine qi_iload_n (i := 1) (x := nI h0) dX12_split_83 rfl rfl ?_
      refine qi_imul dX12_split_84 ?_
      refine qi_iload (i := 6) (x := nI j) dX12_split_85 rfl ?_
      refine qi_iadd dX12_split_87 ?_
      refine qe_top (y := nI (5 * h0 + j)) (by rw [show (5 : Int32) = nI 5 from rfl, pk_mul, nI_add]) ?_
      refine qi_dup2 dX12_split_88 ?_
      refine qi_ialdN (x := M1.1 322 (5 * h0 + j)) (j := 5 * h0 + j) dX12_split_89 rfl (by decide) rfl (by omega) (by decide) rfl ?_
      refine qi_iload (i := 7) (x := partF c.1 p q (5 * h0 + j)) dX12_split_90 rfl ?_
      refine qi_isub dX12_split_92 ?_
      refine qi_iastN (j := 5 * h0 + j) dX12_split_93 rfl (by decide) rfl (by omega) (by decide) ?_
      refine qi_aload_n (i := 0) (x := 280) dX12_split_94 rfl rfl ?_
      refine qi_getR (x := 322) flX12_143 dX12_split_95 rfl (by decide) (hM1 280 59 322 rfl) ?_
      refine qi_iconst (v := 5) dX12_split_98 rfl ?_
      refine qi_iload_n (i := 2) (x := nI o0) dX12_split_99 rfl rfl ?_
      refine qi_imul dX12_split_100 ?_
      refine qi_iload (i := 6) (x := nI j) dX12_split_101 rfl ?_
      refine qi_iadd dX12_split_103 ?_
      refine qe_top (y := nI (5 * o0 + j)) (by rw [show (5 : Int32) = nI 5 from rfl, pk_mul, nI_add]) ?_
      refine qi_dup2 dX12_split_104 ?_
      refine qi_ialdN (x := (wI M1 322 (5 * h0 + j) ((M1.1 322 (5 * h0 + j)) - (partF c.1 p q (5 * h0 + j)))).1 322 (5 * o0 + j)) (j := 5 * o0 + j) dX12_split_105 rfl (by decide) rfl (by omega) (by decide) rfl ?_
      refine qi_iload (i := 7) (x := partF c.1 p q (5 * h0 + j)) dX12_split_106 rfl ?_
      refine qi_iadd dX12_split_108 ?_
      refine qi_iastN (j := 5 * o0 + j) dX12_split_109 rfl (by decide) rfl (by omega) (by decide) ?_
      refine qi_iload (i := 5) (x := sumF (fun w => partF c.1 p q (5 * h0 + w)) j) dX12_split_110 rfl ?_
      refine qi_iload (i := 7) (x := partF c.1 p q (5 * h0 + j)) dX12_split_112 rfl ?_
      refine qi_iadd dX12_split_114 ?_
      refine qi_istore (i := 5) (L2 := [some (.ref 280), some (.int (nI h0)), some (.int (nI o0)), some (.int p), some (.int q), some (.int ((sumF (fun w => partF c.1 p q (5 * h0 + w)) j) + (partF c.1 p q (5 * h0 + j)))), some (.int (nI j)), some (.int (partF c.1 p q (5 * h0 + j)))]) dX12_split_115 (Nat.le_of_ble_eq_true rfl) rfl ?_
      refine qi_iinc (i := 6) (x := nI j) (v := nI (j + 1)) (L2 := [some (.ref 280), some (.int (nI h0)), some (.int (nI o0)), some (.int p), some (.int q), some (.int ((sumF (fun w => partF c.1 p q (5 * h0 + w)) j) + (partF c.1 p q (5 * h0 + j)))), some (.int (nI (j + 1))), some (.int (partF c.1 p q (5 * h0 + j)))]) dX12_split_117 rfl (nI_1 j) (Nat.le_of_ble_eq_true rfl) rfl ?_
      refine qi_goto (tgt := 54) dX12_split_120 (by decide) ?_
      refine ih (j + 1) _ _ (by omega) ((hf.wI (by unfold SM; omega)).wI (by unfold SM; omega)) (fun k hk => ?_)
      have q3 := hR1 k hk
      have q4 := hR1 (5 * o0 + j) (by omega)
      have q5 := hR1 (5 * h0 + j) (by omega)
      show _ = (if k = 5 * h0 + j then moveF c.1 h0 o0 p q j k - partF c.1 p q (5 * h0 + j) else if k = 5 * o0 + j then moveF c.1 h0 o0 p q j k + partF c.1 p q (5 * h0 + j) else moveF c.1 h0 o0 p q j k)
      simp only [wI_1]
      grind
  have E : res = (-1, c) → qT g kX12_split (qR 2 0 0) (qZI g (fun r M' => r = res.1 ∧ qCore M' res.2 ∧ qFr SQ M M')) 42 [some (.ref 280), some (.int h), some (.int o), some (.int p), some (.int q), none, none, none] [] 333 M (0, 0) := by
    intro hr
    refine qi_iconst (v := -1) dX12_split_42 rfl ?_
    exact qi_retI rfl rfl dX12_split_43 (⟨by rw [hr], by rw [hr]; exact hC, qFr.rf⟩)
  refine qI.of (j := 3) (pn_RX12) rfl ?_
  show qT g kX12_split (qR 2 0 0) (qZI g (fun r M' => r = res.1 ∧ qCore M' res.2 ∧ qFr SQ M M')) 0 [some (.ref 280), some (.int h), some (.int o), some (.int p), some (.int q), none, none, none] [] 333 M (0, 0)
  refine qi_aload_n (i := 0) (x := 280) dX12_split_0 rfl rfl ?_
  refine qi_iload_n (i := 1) (x := h) dX12_split_1 rfl rfl ?_
  refine qi_callPVI (v := isF (π.1 1) h) (K' := kX12_isHeir) (As := [.int h]) mlX12_380 okX12_isHeir dX12_split_2 (c_X12_isHeir g hM hP hok h) rfl (by decide) rfl (by decide) rfl rfl (Nat.le_of_ble_eq_true rfl) ⟨(Nat.le_of_ble_eq_true rfl), (Nat.le_of_ble_eq_true rfl)⟩ ⟨Nat.le_refl _, Nat.le_refl _⟩ ?_
  refine qi_if_eq (tgt := 42) dX12_split_5 (by decide) (fun c1 => ?_) (fun c1 => ?_)
  · exact E (no (fun z => z.1.1 c1))
  · refine qi_aload_n (i := 0) (x := 280) dX12_split_8 rfl rfl ?_
    refine qi_iload_n (i := 2) (x := o) dX12_split_9 rfl rfl ?_
    refine qi_callPVI (v := isF (π.1 1) o) (K' := kX12_isHeir) (As := [.int o]) mlX12_380 okX12_isHeir dX12_split_10 (c_X12_isHeir g hM hP hok o) rfl (by decide) rfl (by decide) rfl rfl (Nat.le_of_ble_eq_true rfl) ⟨(Nat.le_of_ble_eq_true rfl), (Nat.le_of_ble_eq_true rfl)⟩ ⟨Nat.le_refl _, Nat.le_refl _⟩ ?_
    refine qi_if_eq (tgt := 42) dX12_split_13 (by decide) (fun c2 => ?_) (fun c2 => ?_)
    · exact E (no (fun z => z.1.2.1 c2))
    · refine qi_iload_n (i := 1) (x := h) dX12_split_16 rfl rfl ?_
      refine qi_iload_n (i := 2) (x := o) dX12_split_17 rfl rfl ?_
      refine qi_icmp_eq (tgt := 42) dX12_split_18 (by decide) (fun c3 => ?_) (fun c3 => ?_)
      · exact E (no (fun z => z.1.2.2 c3))
      · refine qi_iload (i := 4) (x := q) dX12_split_21 rfl ?_
        refine qi_iconst (v := 1) dX12_split_23 rfl ?_
        refine qi_bipush (v := 99) dX12_split_24 rfl ?_
        refine qi_callPSI (v := inF 1 99 q) (K' := kX12_in) (As := [.int q, .int 1, .int 99]) mlX12_338 okX12_in dX12_split_26 (c_X12_in g _ _ _) rfl rfl (Nat.le_of_ble_eq_true rfl) ⟨(Nat.le_of_ble_eq_true rfl), (Nat.le_of_ble_eq_true rfl)⟩ ⟨Nat.le_refl _, Nat.le_refl _⟩ ?_
        refine qi_if_eq (tgt := 42) dX12_split_29 (by decide) (fun c4 => ?_) (fun c4 => ?_)
        · exact E (no (fun z => z.2.1 c4))
        · refine qi_iload_n (i := 3) (x := p) dX12_split_32 rfl rfl ?_
          refine qi_iconst (v := 0) dX12_split_33 rfl ?_
          refine qi_iload (i := 4) (x := q) dX12_split_34 rfl ?_
          refine qi_callPSI (v := inF 0 q p) (K' := kX12_in) (As := [.int p, .int 0, .int q]) mlX12_338 okX12_in dX12_split_36 (c_X12_in g _ _ _) rfl rfl (Nat.le_of_ble_eq_true rfl) ⟨(Nat.le_of_ble_eq_true rfl), (Nat.le_of_ble_eq_true rfl)⟩ ⟨Nat.le_refl _, Nat.le_refl _⟩ ?_
          refine qi_if_ne (tgt := 44) dX12_split_39 (by decide) (fun c5 => ?_) (fun c5 => ?_)
          · refine qi_aload_n (i := 0) (x := 280) dX12_split_44 rfl rfl ?_
            refine qi_callVV (K' := kX12_copies) (As := []) mlX12_383 okX12_copies dX12_split_45 (c_X12_copies g hM hC.1) rfl (by decide) rfl (by decide) rfl rfl (Nat.le_of_ble_eq_true rfl) ⟨(Nat.le_of_ble_eq_true rfl), (Nat.le_of_ble_eq_true rfl)⟩ ⟨Nat.le_refl _, Nat.le_refl _⟩ (fun M2 ⟨hR2, e60, e61, _, hf2⟩ => ?_)
            have hM2 := hM.fr hf2
            obtain ⟨h0, o0, hh, ho, hho, eh, eo⟩ := two_of hok ⟨c1, c2, c3⟩
            have hq := inF_of c4
            have hq1 := Int32.le_iff_toInt_le.mp hq.1
            have hq0 : ¬ q = 0 := fun z => by
              rw [z] at hq1
              exact absurd hq1 (by decide)
            have hmx : max1 q = q := by
              unfold max1
              by_cases hl : 1 < q
              · rw [if_pos hl]
              · rw [if_neg hl]
                have := Int32.le_iff_toInt_le.mp (Int32.not_lt.mp hl)
                exact Int32.toInt_inj.mp (by omega)
            have hr2 : res = (sumF (fun w => partF c.1 p q (5 * h0 + w)) 5, pushC (moveF c.1 h0 o0 p q 5) c) := by
              rw [hres]
              unfold dSplit
              rw [if_pos ⟨⟨c1, c2, c3⟩, c4, c5⟩, eh, eo, nI_clamp (by omega), nI_clamp (by omega)]
            refine qi_iconst (v := 0) dX12_split_48 rfl ?_
            refine qi_istore (i := 5) (L2 := [some (.ref 280), some (.int h), some (.int o), some (.int p), some (.int q), some (.int 0), none, none]) dX12_split_49 (Nat.le_of_ble_eq_true rfl) rfl ?_
            refine qi_iconst (v := 0) dX12_split_51 rfl ?_
            refine qi_istore (i := 6) (L2 := [some (.ref 280), some (.int h), some (.int o), some (.int p), some (.int q), some (.int 0), some (.int 0), none]) dX12_split_52 (Nat.le_of_ble_eq_true rfl) rfl ?_
            rw [eh, eo]
            exact K h0 o0 (by omega) (by omega) hho hq0 hmx hr2 5 0 M2 none (by omega) hf2 hR2
          · exact E (no (fun z => z.2.2 c5))
