/-! ThimbleSeaModel: sums, copies, lots -/
set_option maxHeartbeats 1000000 in
theorem c_X12_in (g : qG) {M : qM} (v lo hi : Int32) : qI g 0 kX12_in [.int v, .int lo, .int hi] M (fun r M' => r = (if lo ≤ v ∧ v ≤ hi then 1 else 0) ∧ M' = M) := by
  refine qI.of (j := 0) (pn_RX12) rfl ?_
  show qT g kX12_in (qR 0 0 0) (qZI g (fun r M' => r = (if lo ≤ v ∧ v ≤ hi then 1 else 0) ∧ M' = M)) 0 [some (.int v), some (.int lo), some (.int hi)] [] 333 M (0, 0)
  refine qi_iload_n (i := 0) (x := v) dX12_in_0 rfl rfl ?_
  refine qi_iload_n (i := 1) (x := lo) dX12_in_1 rfl rfl ?_
  refine qi_icmp_lt (tgt := 14) dX12_in_2 (by decide) (fun c => ?_) (fun c => ?_)
  · refine qi_iconst (v := 0) dX12_in_14 rfl ?_
    exact qi_retI rfl (by rfl) dX12_in_15 (⟨by rw [if_neg (fun z => absurd c (Int32.not_lt.mpr z.1))], rfl⟩)
  · refine qi_iload_n (i := 0) (x := v) dX12_in_5 rfl rfl ?_
    refine qi_iload_n (i := 2) (x := hi) dX12_in_6 rfl rfl ?_
    refine qi_icmp_gt (tgt := 14) dX12_in_7 (by decide) (fun c2 => ?_) (fun c2 => ?_)
    · refine qi_iconst (v := 0) dX12_in_14 rfl ?_
      exact qi_retI rfl (by rfl) dX12_in_15 (⟨by rw [if_neg (fun z => absurd c2 (Int32.not_lt.mpr z.2))], rfl⟩)
    · refine qi_iconst (v := 1) dX12_in_10 rfl ?_
      refine qi_goto (tgt := 15) dX12_in_11 (by decide) ?_
      exact qi_retI rfl (by rfl) dX12_in_15 (⟨by rw [if_pos ⟨Int32.not_lt.mp c, Int32.not_lt.mp c2⟩], rfl⟩)
set_option maxHeartbeats 1000000 in
theorem c_X12_dropsOf (g : qG) {M : qM} (hM : qRf M) {ρ : Nat → Int32} (hR : qRow M ρ) {h : Nat} (hh : h < 8) : qI g 0 kX12_dropsOf [.ref 280, .int (nI h)] M (fun r M' => r = dropsF ρ h ∧ M' = M) := by
  have hF : ∃ F : Nat → Int32, ∀ k, F k = ρ (5 * h + k) := ⟨_, fun _ => rfl⟩
  obtain ⟨F, hF⟩ := hF
  have eF : dropsF ρ h = sumF F 5 := sumF_congr 5 (fun k _ => (hF k).symm)
  have K : ∀ m j, j + m = 5 → qT g kX12_dropsOf (qR 0 0 0) (qZI g (fun r M' => r = (dropsF ρ h) ∧ M' = M)) 4 [some (.ref 280), some (.int (nI h)), some (.int (sumF F j)), some (.int (nI j))] [] 333 M (0, 0) := by
    intro m
    induction m with
    | zero =>
      intro j e
      refine qi_iload_n (i := 3) (x := nI j) dX12_dropsOf_4 rfl rfl ?_
      refine qi_iconst (v := 5) dX12_dropsOf_5 rfl ?_
      refine qi_icmp_ge (tgt := 28) dX12_dropsOf_6 (by decide) (fun _hc => ?_) (fun _h => absurd ((nI_leI (a := 5) (b := j) (by omega) (by omega)).mpr (by omega)) _h)
      refine qi_iload_n (i := 2) (x := sumF F j) dX12_dropsOf_28 rfl rfl ?_
      exact qi_retI rfl rfl dX12_dropsOf_29 (⟨by rw [eF, show j = 5 by omega], rfl⟩)
    | succ m ih =>
      intro j e
      refine qi_iload_n (i := 3) (x := nI j) dX12_dropsOf_4 rfl rfl ?_
      refine qi_iconst (v := 5) dX12_dropsOf_5 rfl ?_
      refine qi_icmp_ge (tgt := 28) dX12_dropsOf_6 (by decide) (fun _h => absurd ((nI_leI (a := 5) (b := j) (by omega) (by omega)).mp _h) (by omega)) (fun _hc => ?_)
      refine qi_iload_n (i := 2) (x := sumF F j) dX12_dropsOf_9 rfl rfl ?_
      refine qi_aload_n (i := 0) (x := 280) dX12_dropsOf_10 rfl rfl ?_
      refine qi_getR (x := 322) flX12_143 dX12_dropsOf_11 rfl (by decide) (hM 280 59 322 rfl) ?_
      refine qi_iconst (v := 5) dX12_dropsOf_14 rfl ?_
      refine qi_iload_n (i := 1) (x := nI h) dX12_dropsOf_15 rfl rfl ?_
      refine qi_imul dX12_dropsOf_16 ?_
      refine qi_iload_n (i := 3) (x := nI j) dX12_dropsOf_17 rfl rfl ?_
      refine qi_iadd dX12_dropsOf_18 ?_
      refine qe_top (y := nI (5 * h + j)) (by rw [show (5 : Int32) = nI 5 from rfl, pk_mul, nI_add]) ?_
      refine qi_ialdN (x := M.1 322 (5 * h + j)) (j := 5 * h + j) dX12_dropsOf_19 rfl (by decide) rfl (by omega) (by decide) rfl ?_
      refine qe_top (y := F j) (by rw [hR _ (by omega), hF]) ?_
      refine qi_iadd dX12_dropsOf_20 ?_
      refine qi_istore_n (i := 2) (L2 := [some (.ref 280), some (.int (nI h)), some (.int ((sumF F j) + (F j))), some (.int (nI j))]) dX12_dropsOf_21 rfl (Nat.le_of_ble_eq_true rfl) rfl ?_
      refine qi_iinc (i := 3) (x := nI j) (v := nI (j + 1)) (L2 := [some (.ref 280), some (.int (nI h)), some (.int ((sumF F j) + (F j))), some (.int (nI (j + 1)))]) dX12_dropsOf_22 rfl (nI_1 j) (Nat.le_of_ble_eq_true rfl) rfl ?_
      refine qi_goto (tgt := 4) dX12_dropsOf_25 (by decide) ?_
      exact ih (j + 1) (by omega)
  refine qI.of (j := 2) (pn_RX12) rfl ?_
  show qT g kX12_dropsOf (qR 0 0 0) (qZI g (fun r M' => r = (dropsF ρ h) ∧ M' = M)) 0 [some (.ref 280), some (.int (nI h)), none, none] [] 333 M (0, 0)
  refine qi_iconst (v := 0) dX12_dropsOf_0 rfl ?_
  refine qi_istore_n (i := 2) (L2 := [some (.ref 280), some (.int (nI h)), some (.int 0), none]) dX12_dropsOf_1 rfl (Nat.le_of_ble_eq_true rfl) rfl ?_
  refine qi_iconst (v := 0) dX12_dropsOf_2 rfl ?_
  refine qi_istore_n (i := 3) (L2 := [some (.ref 280), some (.int (nI h)), some (.int 0), some (.int 0)]) dX12_dropsOf_3 rfl (Nat.le_of_ble_eq_true rfl) rfl ?_
  exact K 5 0 (by omega)
set_option maxHeartbeats 1000000 in
theorem c_X12_allDrops (g : qG) {M : qM} (hM : qRf M) {ρ : Nat → Int32} (hR : qRow M ρ) : qI g 0 kX12_allDrops [.ref 280] M (fun r M' => r = allF ρ ∧ M' = M) := by
  have K : ∀ m j, j + m = 40 → qT g kX12_allDrops (qR 0 0 0) (qZI g (fun r M' => r = (allF ρ) ∧ M' = M)) 4 [some (.ref 280), some (.int (sumF ρ j)), some (.int (nI j))] [] 333 M (0, 0) := by
    intro m
    induction m with
    | zero =>
      intro j e
      refine qi_iload_n (i := 2) (x := nI j) dX12_allDrops_4 rfl rfl ?_
      refine qi_bipush (v := 40) dX12_allDrops_5 rfl ?_
      refine qi_icmp_ge (tgt := 25) dX12_allDrops_7 (by decide) (fun _hc => ?_) (fun _h => absurd ((nI_leI (a := 40) (b := j) (by omega) (by omega)).mpr (by omega)) _h)
      refine qi_iload_n (i := 1) (x := sumF ρ j) dX12_allDrops_25 rfl rfl ?_
      exact qi_retI rfl rfl dX12_allDrops_26 (⟨by rw [show j = 40 by omega]; rfl, rfl⟩)
    | succ m ih =>
      intro j e
      refine qi_iload_n (i := 2) (x := nI j) dX12_allDrops_4 rfl rfl ?_
      refine qi_bipush (v := 40) dX12_allDrops_5 rfl ?_
      refine qi_icmp_ge (tgt := 25) dX12_allDrops_7 (by decide) (fun _h => absurd ((nI_leI (a := 40) (b := j) (by omega) (by omega)).mp _h) (by omega)) (fun _hc => ?_)
      refine qi_iload_n (i := 1) (x := sumF ρ j) dX12_allDrops_10 rfl rfl ?_
      refine qi_aload_n (i := 0) (x := 280) dX12_allDrops_11 rfl rfl ?_
      refine qi_getR (x := 322) flX12_143 dX12_allDrops_12 rfl (by decide) (hM 280 59 322 rfl) ?_
      refine qi_iload_n (i := 2) (x := nI j) dX12_allDrops_15 rfl rfl ?_
      refine qi_ialdN (x := M.1 322 j) (j := j) dX12_allDrops_16 rfl (by decide) rfl (by omega) (by decide) rfl ?_
      refine qe_top (y := ρ j) (hR _ (by omega)) ?_
      refine qi_iadd dX12_allDrops_17 ?_
      refine qi_istore_n (i := 1) (L2 := [some (.ref 280), some (.int ((sumF ρ j) + (ρ j))), some (.int (nI j))]) dX12_allDrops_18 rfl (Nat.le_of_ble_eq_true rfl) rfl ?_
      refine qi_iinc (i := 2) (x := nI j) (v := nI (j + 1)) (L2 := [some (.ref 280), some (.int ((sumF ρ j) + (ρ j))), some (.int (nI (j + 1)))]) dX12_allDrops_19 rfl (nI_1 j) (Nat.le_of_ble_eq_true rfl) rfl ?_
      refine qi_goto (tgt := 4) dX12_allDrops_22 (by decide) ?_
      exact ih (j + 1) (by omega)
  refine qI.of (j := 2) (pn_RX12) rfl ?_
  show qT g kX12_allDrops (qR 0 0 0) (qZI g (fun r M' => r = (allF ρ) ∧ M' = M)) 0 [some (.ref 280), none, none] [] 333 M (0, 0)
  refine qi_iconst (v := 0) dX12_allDrops_0 rfl ?_
  refine qi_istore_n (i := 1) (L2 := [some (.ref 280), some (.int 0), none]) dX12_allDrops_1 rfl (Nat.le_of_ble_eq_true rfl) rfl ?_
  refine qi_iconst (v := 0) dX12_allDrops_2 rfl ?_
  refine qi_istore_n (i := 2) (L2 := [some (.ref 280), some (.int 0), some (.int 0)]) dX12_allDrops_3 rfl (Nat.le_of_ble_eq_true rfl) rfl ?_
  exact K 40 0 (by omega)
set_option maxHeartbeats 1000000 in
theorem c_X12_sumOn (g : qG) {M : qM} (hM : qRf M) {ρ : Nat → Int32} (hR : qRow M ρ) {o : Nat} (ho : o ≤ 56) : qI g 0 kX12_sumOn [.ref 280, .int (nI o)] M (fun r M' => r = sumO ρ o ∧ M' = M) := by
  have hF : ∃ F : Nat → Int32, ∀ k, F k = ρ (o + k) := ⟨_, fun _ => rfl⟩
  obtain ⟨F, hF⟩ := hF
  have eF : sumO ρ o = sumF F 8 := sumF_congr 8 (fun k _ => (hF k).symm)
  have K : ∀ m j, j + m = 8 → qT g kX12_sumOn (qR 0 0 0) (qZI g (fun r M' => r = (sumO ρ o) ∧ M' = M)) 4 [some (.ref 280), some (.int (nI o)), some (.int (sumF F j)), some (.int (nI j))] [] 333 M (0, 0) := by
    intro m
    induction m with
    | zero =>
      intro j e
      refine qi_iload_n (i := 3) (x := nI j) dX12_sumOn_4 rfl rfl ?_
      refine qi_bipush (v := 8) dX12_sumOn_5 rfl ?_
      refine qi_icmp_ge (tgt := 27) dX12_sumOn_7 (by decide) (fun _hc => ?_) (fun _h => absurd ((nI_leI (a := 8) (b := j) (by omega) (by omega)).mpr (by omega)) _h)
      refine qi_iload_n (i := 2) (x := sumF F j) dX12_sumOn_27 rfl rfl ?_
      exact qi_retI rfl rfl dX12_sumOn_28 (⟨by rw [eF, show j = 8 by omega], rfl⟩)
    | succ m ih =>
      intro j e
      refine qi_iload_n (i := 3) (x := nI j) dX12_sumOn_4 rfl rfl ?_
      refine qi_bipush (v := 8) dX12_sumOn_5 rfl ?_
      refine qi_icmp_ge (tgt := 27) dX12_sumOn_7 (by decide) (fun _h => absurd ((nI_leI (a := 8) (b := j) (by omega) (by omega)).mp _h) (by omega)) (fun _hc => ?_)
      refine qi_iload_n (i := 2) (x := sumF F j) dX12_sumOn_10 rfl rfl ?_
      refine qi_aload_n (i := 0) (x := 280) dX12_sumOn_11 rfl rfl ?_
      refine qi_getR (x := 322) flX12_143 dX12_sumOn_12 rfl (by decide) (hM 280 59 322 rfl) ?_
      refine qi_iload_n (i := 1) (x := nI o) dX12_sumOn_15 rfl rfl ?_
      refine qi_iload_n (i := 3) (x := nI j) dX12_sumOn_16 rfl rfl ?_
      refine qi_iadd dX12_sumOn_17 ?_
      refine qe_top (y := nI (o + j)) (nI_add _ _) ?_
      refine qi_ialdN (x := M.1 322 (o + j)) (j := o + j) dX12_sumOn_18 rfl (by decide) rfl (by omega) (by decide) rfl ?_
      refine qe_top (y := F j) (by rw [hR _ (by omega), hF]) ?_
      refine qi_iadd dX12_sumOn_19 ?_
      refine qi_istore_n (i := 2) (L2 := [some (.ref 280), some (.int (nI o)), some (.int ((sumF F j) + (F j))), some (.int (nI j))]) dX12_sumOn_20 rfl (Nat.le_of_ble_eq_true rfl) rfl ?_
      refine qi_iinc (i := 3) (x := nI j) (v := nI (j + 1)) (L2 := [some (.ref 280), some (.int (nI o)), some (.int ((sumF F j) + (F j))), some (.int (nI (j + 1)))]) dX12_sumOn_21 rfl (nI_1 j) (Nat.le_of_ble_eq_true rfl) rfl ?_
      refine qi_goto (tgt := 4) dX12_sumOn_24 (by decide) ?_
      exact ih (j + 1) (by omega)
  refine qI.of (j := 2) (pn_RX12) rfl ?_
  show qT g kX12_sumOn (qR 0 0 0) (qZI g (fun r M' => r = (sumO ρ o) ∧ M' = M)) 0 [some (.ref 280), some (.int (nI o)), none, none] [] 333 M (0, 0)
  refine qi_iconst (v := 0) dX12_sumOn_0 rfl ?_
  refine qi_istore_n (i := 2) (L2 := [some (.ref 280), some (.int (nI o)), some (.int 0), none]) dX12_sumOn_1 rfl (Nat.le_of_ble_eq_true rfl) rfl ?_
  refine qi_iconst (v := 0) dX12_sumOn_2 rfl ?_
  refine qi_istore_n (i := 3) (L2 := [some (.ref 280), some (.int (nI o)), some (.int 0), some (.int 0)]) dX12_sumOn_3 rfl (Nat.le_of_ble_eq_true rfl) rfl ?_
  exact K 8 0 (by omega)
set_option maxHeartbeats 1000000 in
theorem c_X12_mixed (g : qG) {M : qM} (h v : Int32) : qI g 0 kX12_mixed [.int h, .int v] M (fun r M' => r = mixF h v ∧ M' = M) := by
  refine qI.of (j := 1) (pn_RX12) rfl ?_
  show qT g kX12_mixed (qR 0 0 0) (qZI g (fun r M' => r = (mixF h v) ∧ M' = M)) 0 [some (.int h), some (.int v), none] [] 333 M (0, 0)
  refine qi_iload_n (i := 0) (x := h) dX12_mixed_0 rfl rfl ?_
  refine qi_iload_n (i := 1) (x := v) dX12_mixed_1 rfl rfl ?_
  refine qi_ixor dX12_mixed_2 ?_
  refine qi_ldcw dX12_mixed_3 cnX12_348 ?_
  refine qi_imul dX12_mixed_6 ?_
  refine qi_sipush (v := 12345) dX12_mixed_7 rfl ?_
  refine qi_iadd dX12_mixed_10 ?_
  refine qi_istore_n (i := 2) (L2 := [some (.int h), some (.int v), some (.int (((h ^^^ v) * 1103515245) + 12345))]) dX12_mixed_11 rfl (Nat.le_of_ble_eq_true rfl) rfl ?_
  refine qi_iload_n (i := 2) (x := ((h ^^^ v) * 1103515245) + 12345) dX12_mixed_12 rfl rfl ?_
  refine qi_iload_n (i := 2) (x := ((h ^^^ v) * 1103515245) + 12345) dX12_mixed_13 rfl rfl ?_
  refine qi_bipush (v := 15) dX12_mixed_14 rfl ?_
  refine qi_iushr dX12_mixed_16 ?_
  refine qi_ixor dX12_mixed_17 ?_
  exact qi_retI rfl rfl dX12_mixed_18 (⟨rfl, rfl⟩)
set_option maxHeartbeats 1000000 in
theorem c_X12_lot (g : qG) {M : qM} (sd wh : Int32) : qI g 1 kX12_lot [.int sd, .int wh, .int 1000] M (fun r M' => r = lotF sd wh ∧ M' = M) := by
  refine qI.of (j := 0) (pn_RX12) rfl ?_
  show qT g kX12_lot (qR 1 0 0) (qZI g (fun r M' => r = (lotF sd wh) ∧ M' = M)) 0 [some (.int sd), some (.int wh), some (.int 1000)] [] 333 M (0, 0)
  refine qi_iload_n (i := 0) (x := sd) dX12_lot_0 rfl rfl ?_
  refine qi_bipush (v := 24) dX12_lot_1 rfl ?_
  refine qi_callPSI (v := mixF sd 24) (K' := kX12_mixed) (As := [.int sd, .int 24]) mlX12_349 okX12_mixed dX12_lot_3 (c_X12_mixed g sd 24) rfl rfl (Nat.le_of_ble_eq_true rfl) ⟨(Nat.le_of_ble_eq_true rfl), (Nat.le_of_ble_eq_true rfl)⟩ ⟨Nat.le_refl _, Nat.le_refl _⟩ ?_
  refine qi_iload_n (i := 1) (x := wh) dX12_lot_6 rfl rfl ?_
  refine qi_callPSI (v := mixF (mixF sd 24) wh) (K' := kX12_mixed) (As := [.int (mixF sd 24), .int wh]) mlX12_349 okX12_mixed dX12_lot_7 (c_X12_mixed g (mixF sd 24) wh) rfl rfl (Nat.le_of_ble_eq_true rfl) ⟨(Nat.le_of_ble_eq_true rfl), (Nat.le_of_ble_eq_true rfl)⟩ ⟨Nat.le_refl _, Nat.le_refl _⟩ ?_
  refine qi_iconst (v := 1) dX12_lot_10 rfl ?_
  refine qi_iushr dX12_lot_11 ?_
  refine qi_iload_n (i := 2) (x := 1000) dX12_lot_12 rfl rfl ?_
  refine qi_irem dX12_lot_13 (by decide) ?_
  exact qi_retI rfl rfl dX12_lot_14 (⟨rfl, rfl⟩)
set_option maxHeartbeats 1000000 in
theorem c_X12_rankOf (g : qG) {M : qM} (hM : qRf M) {ρ : Nat → Int32} (hR : qRow M ρ) {L : Nat} {π : qPl} (hP : qPlanM M L π) (hok : okPl π) {h : Nat} (hh : h < 8) : qI g 1 kX12_rankOf [.ref 280, .int (nI h)] M (fun r M' => r = nI (rankN ρ (π.1 1) h) ∧ M' = M) := by
  have hL := hP.1.1
  have hn := hok.2.1
  have hP0 : ∃ P : Nat → Bool, ∀ o, P o = decide (dropsF ρ h < dropsF ρ o ∨ (dropsF ρ o = dropsF ρ h ∧ o < h)) := ⟨_, fun _ => rfl⟩
  obtain ⟨P, hPd⟩ := hP0
  have eP : rankN ρ (π.1 1) h = cntN P (π.1 1) := by unfold rankN; congr 1; funext o; exact (hPd o).symm
  have K : ∀ m o, o + m = π.1 1 → qT g kX12_rankOf (qR 1 0 0) (qZI g (fun r M' => r = (nI (rankN ρ (π.1 1) h)) ∧ M' = M)) 4 [some (.ref 280), some (.int (nI h)), some (.int (nI (cntN P o))), some (.int (nI o))] [] 333 M (0, 0) := by
    intro m
    induction m with
    | zero =>
      intro o e
      refine qi_iload_n (i := 3) (x := nI o) dX12_rankOf_4 rfl rfl ?_
      refine qi_aload_n (i := 0) (x := 280) dX12_rankOf_5 rfl rfl ?_
      refine qi_getR (x := 294) flX12_58 dX12_rankOf_6 rfl (by decide) (hM 280 27 294 rfl) ?_
      refine qi_aload_n (i := 0) (x := 280) dX12_rankOf_9 rfl rfl ?_
      refine qi_getI (x := M.1 280 18) flX12_248 dX12_rankOf_10 rfl (by decide) rfl ?_
      refine qe_top (y := nI L) hP.1.2 ?_
      refine qi_ialdN (x := M.1 294 L) (j := L) dX12_rankOf_13 rfl (by decide) rfl (by omega) (by decide) rfl ?_
      refine qe_top (y := nI (π.1 1)) hP.2.1.2.1 ?_
      refine qi_icmp_ge (tgt := 57) dX12_rankOf_14 (by decide) (fun _hc => ?_) (fun _h => absurd ((nI_leI (a := π.1 1) (b := o) (by omega) (by omega)).mpr (by omega)) _h)
      refine qi_iload_n (i := 2) (x := nI (cntN P o)) dX12_rankOf_57 rfl rfl ?_
      exact qi_retI rfl rfl dX12_rankOf_58 (⟨by rw [eP, show o = π.1 1 by omega], rfl⟩)
    | succ m ih =>
      intro o e
      have yes : P o = true → cntN P (o + 1) = cntN P o + 1 := fun z => by show cntN P o + (if P o then 1 else 0) = _; rw [z]; rfl
      have no : P o = false → cntN P (o + 1) = cntN P o := fun z => by show cntN P o + (if P o then 1 else 0) = _; rw [z]; rfl
      have A := ih (o + 1) (by omega)
      refine qi_iload_n (i := 3) (x := nI o) dX12_rankOf_4 rfl rfl ?_
      refine qi_aload_n (i := 0) (x := 280) dX12_rankOf_5 rfl rfl ?_
      refine qi_getR (x := 294) flX12_58 dX12_rankOf_6 rfl (by decide) (hM 280 27 294 rfl) ?_
      refine qi_aload_n (i := 0) (x := 280) dX12_rankOf_9 rfl rfl ?_
      refine qi_getI (x := M.1 280 18) flX12_248 dX12_rankOf_10 rfl (by decide) rfl ?_
      refine qe_top (y := nI L) hP.1.2 ?_
      refine qi_ialdN (x := M.1 294 L) (j := L) dX12_rankOf_13 rfl (by decide) rfl (by omega) (by decide) rfl ?_
      refine qe_top (y := nI (π.1 1)) hP.2.1.2.1 ?_
      refine qi_icmp_ge (tgt := 57) dX12_rankOf_14 (by decide) (fun _h => absurd ((nI_leI (a := π.1 1) (b := o) (by omega) (by omega)).mp _h) (by omega)) (fun _hc => ?_)
      refine qi_aload_n (i := 0) (x := 280) dX12_rankOf_17 rfl rfl ?_
      refine qi_iload_n (i := 3) (x := nI o) dX12_rankOf_18 rfl rfl ?_
      refine qi_callPVI (v := dropsF ρ o) (K' := kX12_dropsOf) (As := [.int (nI o)]) mlX12_377 okX12_dropsOf dX12_rankOf_19 (c_X12_dropsOf g hM hR (by omega)) rfl (by decide) rfl (by decide) rfl rfl (Nat.le_of_ble_eq_true rfl) ⟨(Nat.le_of_ble_eq_true rfl), (Nat.le_of_ble_eq_true rfl)⟩ ⟨Nat.le_refl _, Nat.le_refl _⟩ ?_
      refine qi_aload_n (i := 0) (x := 280) dX12_rankOf_22 rfl rfl ?_
      refine qi_iload_n (i := 1) (x := nI h) dX12_rankOf_23 rfl rfl ?_
      refine qi_callPVI (v := dropsF ρ h) (K' := kX12_dropsOf) (As := [.int (nI h)]) mlX12_377 okX12_dropsOf dX12_rankOf_24 (c_X12_dropsOf g hM hR hh) rfl (by decide) rfl (by decide) rfl rfl (Nat.le_of_ble_eq_true rfl) ⟨(Nat.le_of_ble_eq_true rfl), (Nat.le_of_ble_eq_true rfl)⟩ ⟨Nat.le_refl _, Nat.le_refl _⟩ ?_
      refine qi_icmp_gt (tgt := 48) dX12_rankOf_27 (by decide) (fun c1 => ?_) (fun c1 => ?_)
      · refine qi_iinc (i := 2) (x := nI (cntN P o)) (v := nI (cntN P o + 1)) (L2 := [some (.ref 280), some (.int (nI h)), some (.int (nI (cntN P o + 1))), some (.int (nI o))]) dX12_rankOf_48 rfl (nI_1 (cntN P o)) (Nat.le_of_ble_eq_true rfl) rfl ?_
        refine qi_iinc (i := 3) (x := nI o) (v := nI (o + 1)) (L2 := [some (.ref 280), some (.int (nI h)), some (.int (nI (cntN P o + 1))), some (.int (nI (o + 1)))]) dX12_rankOf_51 rfl (nI_1 o) (Nat.le_of_ble_eq_true rfl) rfl ?_
        refine qi_goto (tgt := 4) dX12_rankOf_54 (by decide) ?_
        rw [yes (by rw [hPd]; exact decide_eq_true (Or.inl c1))] at A
        exact A
      · refine qi_aload_n (i := 0) (x := 280) dX12_rankOf_30 rfl rfl ?_
        refine qi_iload_n (i := 3) (x := nI o) dX12_rankOf_31 rfl rfl ?_
        refine qi_callPVI (v := dropsF ρ o) (K' := kX12_dropsOf) (As := [.int (nI o)]) mlX12_377 okX12_dropsOf dX12_rankOf_32 (c_X12_dropsOf g hM hR (by omega)) rfl (by decide) rfl (by decide) rfl rfl (Nat.le_of_ble_eq_true rfl) ⟨(Nat.le_of_ble_eq_true rfl), (Nat.le_of_ble_eq_true rfl)⟩ ⟨Nat.le_refl _, Nat.le_refl _⟩ ?_
        refine qi_aload_n (i := 0) (x := 280) dX12_rankOf_35 rfl rfl ?_
        refine qi_iload_n (i := 1) (x := nI h) dX12_rankOf_36 rfl rfl ?_
        refine qi_callPVI (v := dropsF ρ h) (K' := kX12_dropsOf) (As := [.int (nI h)]) mlX12_377 okX12_dropsOf dX12_rankOf_37 (c_X12_dropsOf g hM hR hh) rfl (by decide) rfl (by decide) rfl rfl (Nat.le_of_ble_eq_true rfl) ⟨(Nat.le_of_ble_eq_true rfl), (Nat.le_of_ble_eq_true rfl)⟩ ⟨Nat.le_refl _, Nat.le_refl _⟩ ?_
        refine qi_icmp_ne (tgt := 51) dX12_rankOf_40 (by decide) (fun c2 => ?_) (fun c2 => ?_)
        · refine qi_iinc (i := 3) (x := nI o) (v := nI (o + 1)) (L2 := [some (.ref 280), some (.int (nI h)), some (.int (nI (cntN P o))), some (.int (nI (o + 1)))]) dX12_rankOf_51 rfl (nI_1 o) (Nat.le_of_ble_eq_true rfl) rfl ?_
          refine qi_goto (tgt := 4) dX12_rankOf_54 (by decide) ?_
          rw [no (by rw [hPd]; exact decide_eq_false (fun z => z.elim c1 (fun z => c2 z.1)))] at A
          exact A
        · refine qi_iload_n (i := 3) (x := nI o) dX12_rankOf_43 rfl rfl ?_
          refine qi_iload_n (i := 1) (x := nI h) dX12_rankOf_44 rfl rfl ?_
          refine qi_icmp_ge (tgt := 51) dX12_rankOf_45 (by decide) (fun _h => ?_) (fun _h => ?_)
          · have c3 : h ≤ o := (nI_leI (a := h) (b := o) (by omega) (by omega)).mp _h
            refine qi_iinc (i := 3) (x := nI o) (v := nI (o + 1)) (L2 := [some (.ref 280), some (.int (nI h)), some (.int (nI (cntN P o))), some (.int (nI (o + 1)))]) dX12_rankOf_51 rfl (nI_1 o) (Nat.le_of_ble_eq_true rfl) rfl ?_
            refine qi_goto (tgt := 4) dX12_rankOf_54 (by decide) ?_
            rw [no (by rw [hPd]; exact decide_eq_false (fun z => z.elim c1 (fun z => by omega)))] at A
            exact A
          · have c3 : ¬ (h ≤ o) := fun z => _h ((nI_leI (a := h) (b := o) (by omega) (by omega)).mpr z)
            refine qi_iinc (i := 2) (x := nI (cntN P o)) (v := nI (cntN P o + 1)) (L2 := [some (.ref 280), some (.int (nI h)), some (.int (nI (cntN P o + 1))), some (.int (nI o))]) dX12_rankOf_48 rfl (nI_1 (cntN P o)) (Nat.le_of_ble_eq_true rfl) rfl ?_
            refine qi_iinc (i := 3) (x := nI o) (v := nI (o + 1)) (L2 := [some (.ref 280), some (.int (nI h)), some (.int (nI (cntN P o + 1))), some (.int (nI (o + 1)))]) dX12_rankOf_51 rfl (nI_1 o) (Nat.le_of_ble_eq_true rfl) rfl ?_
            refine qi_goto (tgt := 4) dX12_rankOf_54 (by decide) ?_
            rw [yes (by rw [hPd]; exact decide_eq_true (Or.inr ⟨c2, by omega⟩))] at A
            exact A
  refine qI.of (j := 2) (pn_RX12) rfl ?_
  show qT g kX12_rankOf (qR 1 0 0) (qZI g (fun r M' => r = (nI (rankN ρ (π.1 1) h)) ∧ M' = M)) 0 [some (.ref 280), some (.int (nI h)), none, none] [] 333 M (0, 0)
  refine qi_iconst (v := 0) dX12_rankOf_0 rfl ?_
  refine qi_istore_n (i := 2) (L2 := [some (.ref 280), some (.int (nI h)), some (.int 0), none]) dX12_rankOf_1 rfl (Nat.le_of_ble_eq_true rfl) rfl ?_
  refine qi_iconst (v := 0) dX12_rankOf_2 rfl ?_
  refine qi_istore_n (i := 3) (L2 := [some (.ref 280), some (.int (nI h)), some (.int 0), some (.int 0)]) dX12_rankOf_3 rfl (Nat.le_of_ble_eq_true rfl) rfl ?_
  exact K (π.1 1) 0 (by omega)
