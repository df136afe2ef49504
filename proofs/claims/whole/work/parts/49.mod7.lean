/-! ThimbleSeaModel: run, merge, split, spoon -/
theorem awayF_m1 (sil week : Int32) : awayF sil (-1) week = sil := by
  unfold awayF
  rw [if_pos (Or.inl rfl)]
theorem qCore.SU {M M' : qM} {ρ' : Nat → Int32} {c : qCo} (h1 : qNow M' ρ') (h2 : qHist M' (min 30 (c.2.1 + 1)) (pushF c.1 c.2.2)) : qCore M' (pushC ρ' c) := ⟨h1, h2⟩
set_option maxHeartbeats 1000000 in
theorem c_X12_run (g : qG) {M : qM} (hM : qRf M) {L : Nat} {π : qPl} (hP : qPlanM M L π) (hok : okPl π) {c : qCo} (hC : qCore M c) (hO : okCore π c) (n : Int32) : qI g 5 kX12_run [.ref 280, .int n] M (fun r M' => r = (dRun π n c).1 ∧ qCore M' (dRun π n c).2 ∧ qFr SQ M M') := by
  obtain ⟨res, hres⟩ : ∃ res, res = dRun π n c := ⟨_, rfl⟩
  rw [← hres]
  have K : ∀ n0, n = nI n0 → n0 ≤ 200 → ¬ n0 = 0 → ∀ m j M1, j + m = n0 → qFr SM M M1 → qRow M1 (weeksF π (-1) c.1 j) → M1.1 280 60 = -1 → M1.1 280 61 = -1 → qT g kX12_run (qR 5 0 0) (qZI g (fun r M' => r = res.1 ∧ qCore M' res.2 ∧ qFr SQ M M')) 31 [some (.ref 280), some (.int (nI n0)), some (.int (nI j))] [] 333 M1 (0, 0) := by
    intro n0 hn0 h200 hnz m
    have hr2 : res = (weeksF π (-1) c.1 n0 64, pushC (weeksF π (-1) c.1 n0) c) := by
      rw [hres]
      unfold dRun
      have h1 : ¬ n = 0 := fun z => hnz ((nI_eq (a := n0) (b := 0) (by omega) (by omega)).mp (hn0.symm.trans z))
      have h2 : ¬ inF 0 200 n = 0 := by
        unfold inF
        rw [hn0, if_pos ⟨Int32.not_lt.mp (nI_nlt (Nat.zero_le _) (by omega) : ¬ nI n0 < nI 0), Int32.not_lt.mp (nI_nlt h200 (by omega) : ¬ nI 200 < nI n0)⟩]
        decide
      rw [if_neg h2, if_neg h1, hn0, nI_clamp (by omega)]
    induction m with
    | zero =>
      intro j M1 e hf hR1 e1 e2
      have hM1 := hM.fr hf
      obtain rfl : j = n0 := by omega
      have hC1 := hC.keep hf
      refine qi_iload_n (i := 2) (x := nI j) dX12_run_31 rfl rfl ?_
      refine qi_iload_n (i := 1) (x := nI j) dX12_run_32 rfl rfl ?_
      refine qi_icmp_ge (tgt := 46) dX12_run_33 (by decide) (fun _hc => ?_) (fun _h => absurd ((nI_leI (a := j) (b := j) (by omega) (by omega)).mpr (by omega)) _h)
      refine qi_aload_n (i := 0) (x := 280) dX12_run_46 rfl rfl ?_
      refine qi_callVV (K' := kX12_keeps) (As := []) mlX12_399 okX12_keeps dX12_run_47 (c_X12_keeps g hM1 hC1.1 hR1 hC1.2) rfl (by decide) rfl (by decide) rfl rfl (Nat.le_of_ble_eq_true rfl) ⟨(Nat.le_of_ble_eq_true rfl), (Nat.le_of_ble_eq_true rfl)⟩ ⟨Nat.le_refl _, Nat.le_refl _⟩ (fun M2 ⟨hN2, hH2, hf2⟩ => ?_)
      have hM2 := hM1.fr hf2
      refine qi_aload_n (i := 0) (x := 280) dX12_run_50 rfl rfl ?_
      refine qi_getR (x := 321) flX12_140 dX12_run_51 rfl (by decide) (hM2 280 58 321 rfl) ?_
      refine qi_bipush (v := 64) dX12_run_54 rfl ?_
      refine qi_ialdN (x := M2.1 321 64) (j := 64) dX12_run_56 rfl (by decide) rfl (by omega) (by decide) rfl ?_
      refine qe_top (y := weeksF π (-1) c.1 j 64) (hN2 64 (by omega)) ?_
      exact qi_retI rfl rfl dX12_run_57 (⟨by rw [hr2], by rw [hr2]; exact ⟨hN2, hH2⟩, (hf.mono (fun _ _ => SM_SQ)).tr (hf2.mono (fun _ _ => SU_SQ))⟩)
    | succ m ih =>
      intro j M1 e hf hR1 e1 e2
      have hM1 := hM.fr hf
      refine qi_iload_n (i := 2) (x := nI j) dX12_run_31 rfl rfl ?_
      refine qi_iload_n (i := 1) (x := nI n0) dX12_run_32 rfl rfl ?_
      refine qi_icmp_ge (tgt := 46) dX12_run_33 (by decide) (fun _h => absurd ((nI_leI (a := n0) (b := j) (by omega) (by omega)).mp _h) (by omega)) (fun _hc => ?_)
      refine qi_aload_n (i := 0) (x := 280) dX12_run_36 rfl rfl ?_
      refine qi_callVV (K' := kX12_weekGoes) (As := []) mlX12_396 okX12_weekGoes dX12_run_37 (c_X12_weekGoes g hM1 hR1 (hP.fr hf) hok (hO.1.weeks hok j) e1 e2) rfl (by decide) rfl (by decide) rfl rfl (Nat.le_of_ble_eq_true rfl) ⟨(Nat.le_of_ble_eq_true rfl), (Nat.le_of_ble_eq_true rfl)⟩ ⟨Nat.le_refl _, Nat.le_refl _⟩ (fun M2 ⟨hR2, hf2⟩ => ?_)
      rw [awayF_m1] at hR2
      refine qi_iinc (i := 2) (x := nI j) (v := nI (j + 1)) (L2 := [some (.ref 280), some (.int (nI n0)), some (.int (nI (j + 1)))]) dX12_run_40 rfl (nI_1 j) (Nat.le_of_ble_eq_true rfl) rfl ?_
      refine qi_goto (tgt := 31) dX12_run_43 (by decide) ?_
      exact ih (j + 1) M2 (by omega) (hf.tr (hf2.mono (fun _ _ => SN_SM))) hR2 ((hf2.1 _ _ (by unfold SN; omega)).trans e1) ((hf2.1 _ _ (by unfold SN; omega)).trans e2)
  refine qI.of (j := 1) (pn_RX12) rfl ?_
  show qT g kX12_run (qR 5 0 0) (qZI g (fun r M' => r = res.1 ∧ qCore M' res.2 ∧ qFr SQ M M')) 0 [some (.ref 280), some (.int n), none] [] 333 M (0, 0)
  refine qi_iload_n (i := 1) (x := n) dX12_run_0 rfl rfl ?_
  refine qi_iconst (v := 0) dX12_run_1 rfl ?_
  refine qi_sipush (v := 200) dX12_run_2 rfl ?_
  refine qi_callPSI (v := inF 0 200 n) (K' := kX12_in) (As := [.int n, .int 0, .int 200]) mlX12_338 okX12_in dX12_run_5 (c_X12_in g _ _ _) rfl rfl (Nat.le_of_ble_eq_true rfl) ⟨(Nat.le_of_ble_eq_true rfl), (Nat.le_of_ble_eq_true rfl)⟩ ⟨Nat.le_refl _, Nat.le_refl _⟩ ?_
  refine qi_if_ne (tgt := 13) dX12_run_8 (by decide) (fun c1 => ?_) (fun c1 => ?_)
  · refine qi_iload_n (i := 1) (x := n) dX12_run_13 rfl rfl ?_
    obtain ⟨n0, h200, hn0⟩ := inF_nat (n := 200) (by omega) c1
    refine qi_if_ne (tgt := 25) dX12_run_14 (by decide) (fun c2 => ?_) (fun c2 => ?_)
    · refine qi_aload_n (i := 0) (x := 280) dX12_run_25 rfl rfl ?_
      refine qi_callVV (K' := kX12_copies) (As := []) mlX12_383 okX12_copies dX12_run_26 (c_X12_copies g hM hC.1) rfl (by decide) rfl (by decide) rfl rfl (Nat.le_of_ble_eq_true rfl) ⟨(Nat.le_of_ble_eq_true rfl), (Nat.le_of_ble_eq_true rfl)⟩ ⟨Nat.le_refl _, Nat.le_refl _⟩ (fun M2 ⟨hR2, e60, e61, _, hf2⟩ => ?_)
      refine qi_iconst (v := 0) dX12_run_29 rfl ?_
      refine qi_istore_n (i := 2) (L2 := [some (.ref 280), some (.int n), some (.int 0)]) dX12_run_30 rfl (Nat.le_of_ble_eq_true rfl) rfl ?_
      rw [hn0]
      exact K n0 hn0 h200 (fun z => c2 (by rw [z]; rfl)) n0 0 M2 (by omega) hf2 hR2 e60 e61
    · refine qi_aload_n (i := 0) (x := 280) dX12_run_17 rfl rfl ?_
      refine qi_getR (x := 321) flX12_140 dX12_run_18 rfl (by decide) (hM 280 58 321 rfl) ?_
      refine qi_bipush (v := 64) dX12_run_21 rfl ?_
      refine qi_ialdN (x := M.1 321 64) (j := 64) dX12_run_23 rfl (by decide) rfl (by omega) (by decide) rfl ?_
      refine qe_top (y := c.1 64) (hC.1 64 (by omega)) ?_
      exact qi_retI rfl rfl dX12_run_24 (⟨by rw [hres]; unfold dRun; rw [if_neg c1, if_pos c2], by rw [hres]; unfold dRun; rw [if_neg c1, if_pos c2]; exact hC, qFr.rf⟩)
  · refine qi_iconst (v := -1) dX12_run_11 rfl ?_
    exact qi_retI rfl rfl dX12_run_12 (⟨by rw [hres]; unfold dRun; rw [if_pos c1], by rw [hres]; unfold dRun; rw [if_pos c1]; exact hC, qFr.rf⟩)
