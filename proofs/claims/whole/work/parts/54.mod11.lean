/-! ThimbleSeaModel: ranked, tells, enough, salty -/
theorem findN_s (P : Nat → Bool) (m i : Nat) : findN P (m + 1) i = if P i then some i else findN P m (i + 1) := rfl
set_option maxHeartbeats 1000000 in
theorem c_X12_ranked (g : qG) {M : qM} (hM : qRf M) {L : Nat} {π : qPl} (hP : qPlanM M L π) (hok : okPl π) {ρ : Nat → Int32} (hN : qNow M ρ) (r : Int32) : qI g 2 kX12_ranked [.ref 280, .int r] M (fun r' M' => r' = rankedF ρ (π.1 1) r ∧ qFr SM M M') := by
  obtain ⟨res, hres⟩ : ∃ res, res = rankedF ρ (π.1 1) r := ⟨_, rfl⟩
  rw [← hres]
  have hh8 := hok.2.1
  have hL := hP.1.1
  have hP0 : ∃ P : Nat → Bool, ∀ o, P o = decide (nI (rankN ρ (π.1 1) o) = r) := ⟨_, fun _ => rfl⟩
  obtain ⟨P, hPd⟩ := hP0
  have eP : res = o2i (findN P (π.1 1) 0) := by rw [hres]; unfold rankedF; congr 2; funext o; exact (hPd o).symm
  refine qI.of (j := 1) (pn_RX12) rfl ?_
  show qT g kX12_ranked (qR 2 0 0) (qZI g (fun r' M' => r' = res ∧ qFr SM M M')) 0 [some (.ref 280), some (.int r), none] [] 333 M (0, 0)
  refine qi_aload_n (i := 0) (x := 280) dX12_ranked_0 rfl rfl ?_
  refine qi_callVV (K' := kX12_copies) (As := []) mlX12_383 okX12_copies dX12_ranked_1 (c_X12_copies g hM hN) rfl (by decide) rfl (by decide) rfl rfl (Nat.le_of_ble_eq_true rfl) ⟨(Nat.le_of_ble_eq_true rfl), (Nat.le_of_ble_eq_true rfl)⟩ ⟨Nat.le_refl _, Nat.le_refl _⟩ (fun M2 ⟨hR2, e60, e61, _, hf2⟩ => ?_)
  have hM2 := hM.fr hf2
  have hP2 := hP.fr hf2
  have K : ∀ m o, o + m = π.1 1 → findN P (π.1 1) 0 = findN P m o → qT g kX12_ranked (qR 2 0 0) (qZI g (fun r' M' => r' = res ∧ qFr SM M M')) 6 [some (.ref 280), some (.int r), some (.int (nI o))] [] 333 M2 (0, 0) := by
    intro m
    induction m with
    | zero =>
      intro o e e2
      refine qi_iload_n (i := 2) (x := nI o) dX12_ranked_6 rfl rfl ?_
      refine qi_aload_n (i := 0) (x := 280) dX12_ranked_7 rfl rfl ?_
      refine qi_getR (x := 294) flX12_58 dX12_ranked_8 rfl (by decide) (hM2 280 27 294 rfl) ?_
      refine qi_aload_n (i := 0) (x := 280) dX12_ranked_11 rfl rfl ?_
      refine qi_getI (x := M2.1 280 18) flX12_248 dX12_ranked_12 rfl (by decide) rfl ?_
      refine qe_top (y := nI L) hP2.1.2 ?_
      refine qi_ialdN (x := M2.1 294 L) (j := L) dX12_ranked_15 rfl (by decide) rfl (by omega) (by decide) rfl ?_
      refine qe_top (y := nI (π.1 1)) hP2.2.1.2.1 ?_
      refine qi_icmp_ge (tgt := 36) dX12_ranked_16 (by decide) (fun _hc => ?_) (fun _h => absurd ((nI_leI (a := π.1 1) (b := o) (by omega) (by omega)).mpr (by omega)) _h)
      refine qi_iconst (v := -1) dX12_ranked_36 rfl ?_
      exact qi_retI rfl rfl dX12_ranked_37 (⟨by rw [eP, e2]; rfl, hf2⟩)
    | succ m ih =>
      intro o e e2
      rw [findN_s P m o] at e2
      refine qi_iload_n (i := 2) (x := nI o) dX12_ranked_6 rfl rfl ?_
      refine qi_aload_n (i := 0) (x := 280) dX12_ranked_7 rfl rfl ?_
      refine qi_getR (x := 294) flX12_58 dX12_ranked_8 rfl (by decide) (hM2 280 27 294 rfl) ?_
      refine qi_aload_n (i := 0) (x := 280) dX12_ranked_11 rfl rfl ?_
      refine qi_getI (x := M2.1 280 18) flX12_248 dX12_ranked_12 rfl (by decide) rfl ?_
      refine qe_top (y := nI L) hP2.1.2 ?_
      refine qi_ialdN (x := M2.1 294 L) (j := L) dX12_ranked_15 rfl (by decide) rfl (by omega) (by decide) rfl ?_
      refine qe_top (y := nI (π.1 1)) hP2.2.1.2.1 ?_
      refine qi_icmp_ge (tgt := 36) dX12_ranked_16 (by decide) (fun _h => absurd ((nI_leI (a := π.1 1) (b := o) (by omega) (by omega)).mp _h) (by omega)) (fun _hc => ?_)
      refine qi_aload_n (i := 0) (x := 280) dX12_ranked_19 rfl rfl ?_
      refine qi_iload_n (i := 2) (x := nI o) dX12_ranked_20 rfl rfl ?_
      refine qi_callPVI (v := nI (rankN ρ (π.1 1) o)) (K' := kX12_rankOf) (As := [.int (nI o)]) mlX12_386 okX12_rankOf dX12_ranked_21 (c_X12_rankOf g hM2 hR2 hP2 hok (by omega)) rfl (by decide) rfl (by decide) rfl rfl (Nat.le_of_ble_eq_true rfl) ⟨(Nat.le_of_ble_eq_true rfl), (Nat.le_of_ble_eq_true rfl)⟩ ⟨Nat.le_refl _, Nat.le_refl _⟩ ?_
      refine qi_iload_n (i := 1) (x := r) dX12_ranked_24 rfl rfl ?_
      refine qi_icmp_ne (tgt := 30) dX12_ranked_25 (by decide) (fun c1 => ?_) (fun c1 => ?_)
      · refine qi_iinc (i := 2) (x := nI o) (v := nI (o + 1)) (L2 := [some (.ref 280), some (.int r), some (.int (nI (o + 1)))]) dX12_ranked_30 rfl (nI_1 o) (Nat.le_of_ble_eq_true rfl) rfl ?_
        refine qi_goto (tgt := 6) dX12_ranked_33 (by decide) ?_
        refine ih (o + 1) (by omega) ?_
        rw [e2, hPd, decide_eq_false c1]
        rfl
      · refine qi_iload_n (i := 2) (x := nI o) dX12_ranked_28 rfl rfl ?_
        exact qi_retI rfl rfl dX12_ranked_29 (⟨by rw [eP, e2, hPd, decide_eq_true c1]; rfl, hf2⟩)
  refine qi_iconst (v := 0) dX12_ranked_4 rfl ?_
  refine qi_istore_n (i := 2) (L2 := [some (.ref 280), some (.int r), some (.int 0)]) dX12_ranked_5 rfl (Nat.le_of_ble_eq_true rfl) rfl ?_
  exact K (π.1 1) 0 (by omega) rfl
set_option maxHeartbeats 1000000 in
theorem c_X12_tells (g : qG) {M : qM} (hM : qRf M) {L : Nat} {π : qPl} (hP : qPlanM M L π) (hok : okPl π) {ρ : Nat → Int32} (hN : qNow M ρ) (k : Int32) : qI g 4 kX12_tells [.ref 280, .int k] M (fun r M' => r = tellsQ π ρ k ∧ qFr SM M M') := by
  obtain ⟨res, hres⟩ : ∃ res, res = tellsQ π ρ k := ⟨_, rfl⟩
  rw [← hres]
  have hs16 := hok.2.2.1
  have hL := hP.1.1
  refine qI.of (j := 0) (pn_RX12) rfl ?_
  show qT g kX12_tells (qR 4 0 0) (qZI g (fun r M' => r = res ∧ qFr SM M M')) 0 [some (.ref 280), some (.int k)] [] 333 M (0, 0)
  refine qi_iload_n (i := 1) (x := k) dX12_tells_0 rfl rfl ?_
  refine qi_iconst (v := 0) dX12_tells_1 rfl ?_
  refine qi_aload_n (i := 0) (x := 280) dX12_tells_2 rfl rfl ?_
  refine qi_getR (x := 299) flX12_73 dX12_tells_3 rfl (by decide) (hM 280 32 299 rfl) ?_
  refine qi_aload_n (i := 0) (x := 280) dX12_tells_6 rfl rfl ?_
  refine qi_getI (x := M.1 280 18) flX12_248 dX12_tells_7 rfl (by decide) rfl ?_
  refine qe_top (y := nI L) hP.1.2 ?_
  refine qi_ialdN (x := M.1 299 L) (j := L) dX12_tells_10 rfl (by decide) rfl (by omega) (by decide) rfl ?_
  refine qe_top (y := nI (π.1 2)) hP.2.1.2.2.1 ?_
  refine qi_iconst (v := 1) dX12_tells_11 rfl ?_
  refine qi_isub dX12_tells_12 ?_
  refine qi_callPSI (v := (if (0 : Int32) ≤ k ∧ k ≤ nI (π.1 2) - 1 then (1 : Int32) else 0)) (K' := kX12_in) (As := [.int k, .int 0, .int ((nI (π.1 2)) - 1)]) mlX12_338 okX12_in dX12_tells_13 (c_X12_in g _ _ _) rfl rfl (Nat.le_of_ble_eq_true rfl) ⟨(Nat.le_of_ble_eq_true rfl), (Nat.le_of_ble_eq_true rfl)⟩ ⟨Nat.le_refl _, Nat.le_refl _⟩ ?_
  refine qe_top (y := isF (π.1 2) k) (isF_in (by omega)) ?_
  refine qi_if_ne (tgt := 21) dX12_tells_16 (by decide) (fun c1 => ?_) (fun c1 => ?_)
  · refine qi_aload_n (i := 0) (x := 280) dX12_tells_21 rfl rfl ?_
    refine qi_callVV (K' := kX12_copies) (As := []) mlX12_383 okX12_copies dX12_tells_22 (c_X12_copies g hM hN) rfl (by decide) rfl (by decide) rfl rfl (Nat.le_of_ble_eq_true rfl) ⟨(Nat.le_of_ble_eq_true rfl), (Nat.le_of_ble_eq_true rfl)⟩ ⟨Nat.le_refl _, Nat.le_refl _⟩ (fun M2 ⟨hR2, e60, e61, _, hf2⟩ => ?_)
    have hM2 := hM.fr hf2
    obtain ⟨j, hj, ej⟩ := isF_of (by omega) c1
    unfold tellsQ at hres
    rw [if_neg c1, ej, nI_clamp (by omega)] at hres
    rw [ej]
    refine qi_aload_n (i := 0) (x := 280) dX12_tells_25 rfl rfl ?_
    refine qi_iload_n (i := 1) (x := nI j) dX12_tells_26 rfl rfl ?_
    refine qi_callVI (K' := kX12_tellsNow) (As := [.int (nI j)]) mlX12_367 okX12_tellsNow dX12_tells_27 (c_X12_tellsNow g hM2 hR2 (hP.fr hf2) hok hj e60 e61) rfl (by decide) rfl (by decide) rfl rfl (Nat.le_of_ble_eq_true rfl) ⟨(Nat.le_of_ble_eq_true rfl), (Nat.le_of_ble_eq_true rfl)⟩ ⟨Nat.le_refl _, Nat.le_refl _⟩ (fun r M3 ⟨er, hf3⟩ => ?_)
    have hs := (hok.2.2.2.2.2.2.2.2 j hj).1
    have hh8 := hok.2.1
    exact qi_retI rfl rfl dX12_tells_30 (⟨by rw [er, hres, awayF_m1, if_neg (nI_m1 (by omega))], hf2.tr (hf3.mono (fun b j z => by unfold SV at z; unfold SM; omega))⟩)
  · refine qi_iconst (v := -1) dX12_tells_19 rfl ?_
    exact qi_retI rfl rfl dX12_tells_20 (⟨by rw [hres]; unfold tellsQ; rw [if_pos c1], qFr.rf⟩)
set_option maxHeartbeats 1000000 in
theorem c_X12_enough (g : qG) {M : qM} (hM : qRf M) {L : Nat} {π : qPl} (hP : qPlanM M L π) (hok : okPl π) {ρ : Nat → Int32} (hN : qNow M ρ) (hO : okSea π ρ) (n : Int32) : qI g 5 kX12_enough [.ref 280, .int n] M (fun r M' => r = enoughQ π ρ n ∧ qFr SM M M') := by
  obtain ⟨res, hres⟩ : ∃ res, res = enoughQ π ρ n := ⟨_, rfl⟩
  rw [← hres]
  have hP0 : ∃ P : Nat → Bool, ∀ k, P k = decide (n ≤ allF (weeksF π (-1) ρ k)) := ⟨_, fun _ => rfl⟩
  obtain ⟨P, hPd⟩ := hP0
  have eP : ¬ n < 0 → res = o2n (findN P 201 0) := fun z => by rw [hres]; unfold enoughQ; rw [if_neg z]; congr 2; funext o; exact (hPd o).symm
  have K : ¬ n < 0 → ∀ m k M2, k + m = 201 → findN P 201 0 = findN P m k → qFr SM M M2 → qRow M2 (weeksF π (-1) ρ k) → M2.1 280 60 = -1 → M2.1 280 61 = -1 → qT g kX12_enough (qR 5 0 0) (qZI g (fun r M' => r = res ∧ qFr SM M M')) 12 [some (.ref 280), some (.int n), some (.int (nI k))] [] 333 M2 (0, 0) := by
    intro hn m
    induction m with
    | zero =>
      intro k M2 e e2 hf hR e60 e61
      refine qi_iload_n (i := 2) (x := nI k) dX12_enough_12 rfl rfl ?_
      refine qi_sipush (v := 200) dX12_enough_13 rfl ?_
      refine qi_icmp_gt (tgt := 39) dX12_enough_16 (by decide) (fun _hc => ?_) (fun _h => absurd ((nI_ltI (a := 200) (b := k) (by omega) (by omega)).mpr (by omega)) _h)
      refine qi_bipush (v := -2) dX12_enough_39 rfl ?_
      exact qi_retI rfl rfl dX12_enough_41 (⟨by rw [eP hn, e2]; rfl, hf⟩)
    | succ m ih =>
      intro k M2 e e2 hf hR e60 e61
      have hM2 := hM.fr hf
      rw [findN_s P m k] at e2
      refine qi_iload_n (i := 2) (x := nI k) dX12_enough_12 rfl rfl ?_
      refine qi_sipush (v := 200) dX12_enough_13 rfl ?_
      refine qi_icmp_gt (tgt := 39) dX12_enough_16 (by decide) (fun _h => absurd ((nI_ltI (a := 200) (b := k) (by omega) (by omega)).mp _h) (by omega)) (fun _hc => ?_)
      refine qi_aload_n (i := 0) (x := 280) dX12_enough_19 rfl rfl ?_
      refine qi_callPVI (v := allF (weeksF π (-1) ρ k)) (K' := kX12_allDrops) (As := []) mlX12_352 okX12_allDrops dX12_enough_20 (c_X12_allDrops g hM2 hR) rfl (by decide) rfl (by decide) rfl rfl (Nat.le_of_ble_eq_true rfl) ⟨(Nat.le_of_ble_eq_true rfl), (Nat.le_of_ble_eq_true rfl)⟩ ⟨Nat.le_refl _, Nat.le_refl _⟩ ?_
      refine qi_iload_n (i := 1) (x := n) dX12_enough_23 rfl rfl ?_
      refine qi_icmp_lt (tgt := 29) dX12_enough_24 (by decide) (fun c1 => ?_) (fun c1 => ?_)
      · refine qi_aload_n (i := 0) (x := 280) dX12_enough_29 rfl rfl ?_
        refine qi_callVV (K' := kX12_weekGoes) (As := []) mlX12_396 okX12_weekGoes dX12_enough_30 (c_X12_weekGoes g hM2 hR (hP.fr hf) hok (hO.weeks hok k) e60 e61) rfl (by decide) rfl (by decide) rfl rfl (Nat.le_of_ble_eq_true rfl) ⟨(Nat.le_of_ble_eq_true rfl), (Nat.le_of_ble_eq_true rfl)⟩ ⟨Nat.le_refl _, Nat.le_refl _⟩ (fun M3 ⟨hR3, hf3⟩ => ?_)
        rw [awayF_m1] at hR3
        refine qi_iinc (i := 2) (x := nI k) (v := nI (k + 1)) (L2 := [some (.ref 280), some (.int n), some (.int (nI (k + 1)))]) dX12_enough_33 rfl (nI_1 k) (Nat.le_of_ble_eq_true rfl) rfl ?_
        refine qi_goto (tgt := 12) dX12_enough_36 (by decide) ?_
        refine ih (k + 1) M3 (by omega) ?_ (hf.tr (hf3.mono (fun _ _ => SN_SM))) hR3 ((hf3.1 _ _ (by unfold SN; omega)).trans e60) ((hf3.1 _ _ (by unfold SN; omega)).trans e61)
        rw [e2, hPd, decide_eq_false (Int32.not_le.mpr c1)]
        rfl
      · refine qi_iload_n (i := 2) (x := nI k) dX12_enough_27 rfl rfl ?_
        exact qi_retI rfl rfl dX12_enough_28 (⟨by rw [eP hn, e2, hPd, decide_eq_true (Int32.not_lt.mp c1)]; rfl, hf⟩)
  refine qI.of (j := 1) (pn_RX12) rfl ?_
  show qT g kX12_enough (qR 5 0 0) (qZI g (fun r M' => r = res ∧ qFr SM M M')) 0 [some (.ref 280), some (.int n), none] [] 333 M (0, 0)
  refine qi_iload_n (i := 1) (x := n) dX12_enough_0 rfl rfl ?_
  refine qi_if_ge (tgt := 6) dX12_enough_1 (by decide) (fun c0 => ?_) (fun c0 => ?_)
  · refine qi_aload_n (i := 0) (x := 280) dX12_enough_6 rfl rfl ?_
    refine qi_callVV (K' := kX12_copies) (As := []) mlX12_383 okX12_copies dX12_enough_7 (c_X12_copies g hM hN) rfl (by decide) rfl (by decide) rfl rfl (Nat.le_of_ble_eq_true rfl) ⟨(Nat.le_of_ble_eq_true rfl), (Nat.le_of_ble_eq_true rfl)⟩ ⟨Nat.le_refl _, Nat.le_refl _⟩ (fun M2 ⟨hR2, e60, e61, _, hf2⟩ => ?_)
    refine qi_iconst (v := 0) dX12_enough_10 rfl ?_
    refine qi_istore_n (i := 2) (L2 := [some (.ref 280), some (.int n), some (.int 0)]) dX12_enough_11 rfl (Nat.le_of_ble_eq_true rfl) rfl ?_
    exact K (Int32.not_lt.mpr c0) 201 0 M2 (by omega) rfl hf2 hR2 e60 e61
  · refine qi_iconst (v := -1) dX12_enough_4 rfl ?_
    exact qi_retI rfl rfl dX12_enough_5 (⟨by rw [hres]; unfold enoughQ; rw [if_pos (Int32.not_le.mp c0)], qFr.rf⟩)
set_option maxHeartbeats 1000000 in
theorem c_X12_salty (g : qG) {M : qM} (hM : qRf M) {L : Nat} {π : qPl} (hP : qPlanM M L π) (hok : okPl π) {ρ : Nat → Int32} (hN : qNow M ρ) (hO : okSea π ρ) (n : Int32) : qI g 5 kX12_salty [.ref 280, .int n] M (fun r M' => r = saltyQ π ρ n ∧ qFr SM M M') := by
  obtain ⟨res, hres⟩ : ∃ res, res = saltyQ π ρ n := ⟨_, rfl⟩
  rw [← hres]
  have hP0 : ∃ P : Nat → Bool, ∀ k, P k = decide (n.toInt64 ≤ saltF (weeksF π (-1) ρ k)) := ⟨_, fun _ => rfl⟩
  obtain ⟨P, hPd⟩ := hP0
  have eP : ¬ n < 0 → res = o2n (findN P 201 0) := fun z => by rw [hres]; unfold saltyQ; rw [if_neg z]; congr 2; funext o; exact (hPd o).symm
  have K : ¬ n < 0 → ∀ m k M2, k + m = 201 → findN P 201 0 = findN P m k → qFr SM M M2 → qRow M2 (weeksF π (-1) ρ k) → M2.1 280 60 = -1 → M2.1 280 61 = -1 → qT g kX12_salty (qR 5 0 0) (qZI g (fun r M' => r = res ∧ qFr SM M M')) 12 [some (.ref 280), some (.int n), some (.int (nI k))] [] 333 M2 (0, 0) := by
    intro hn m
    induction m with
    | zero =>
      intro k M2 e e2 hf hR e60 e61
      refine qi_iload_n (i := 2) (x := nI k) dX12_salty_12 rfl rfl ?_
      refine qi_sipush (v := 200) dX12_salty_13 rfl ?_
      refine qi_icmp_gt (tgt := 41) dX12_salty_16 (by decide) (fun _hc => ?_) (fun _h => absurd ((nI_ltI (a := 200) (b := k) (by omega) (by omega)).mpr (by omega)) _h)
      refine qi_bipush (v := -2) dX12_salty_41 rfl ?_
      exact qi_retI rfl rfl dX12_salty_43 (⟨by rw [eP hn, e2]; rfl, hf⟩)
    | succ m ih =>
      intro k M2 e e2 hf hR e60 e61
      have hM2 := hM.fr hf
      rw [findN_s P m k] at e2
      refine qi_iload_n (i := 2) (x := nI k) dX12_salty_12 rfl rfl ?_
      refine qi_sipush (v := 200) dX12_salty_13 rfl ?_
      refine qi_icmp_gt (tgt := 41) dX12_salty_16 (by decide) (fun _h => absurd ((nI_ltI (a := 200) (b := k) (by omega) (by omega)).mp _h) (by omega)) (fun _hc => ?_)
      refine qi_aload_n (i := 0) (x := 280) dX12_salty_19 rfl rfl ?_
      refine qi_callPVJ (v := saltF (weeksF π (-1) ρ k)) (K' := kX12_saltNow) (As := []) mlX12_404 okX12_saltNow dX12_salty_20 (c_X12_saltNow g hM2 hR hok (hO.weeks hok k)) rfl (by decide) rfl (by decide) rfl rfl (Nat.le_of_ble_eq_true rfl) ⟨(Nat.le_of_ble_eq_true rfl), (Nat.le_of_ble_eq_true rfl)⟩ ⟨Nat.le_refl _, Nat.le_refl _⟩ ?_
      refine qi_iload_n (i := 1) (x := n) dX12_salty_23 rfl rfl ?_
      refine qi_i2l dX12_salty_24 ?_
      refine qi_lcmp dX12_salty_25 ?_
      refine qi_if_lt (tgt := 31) dX12_salty_26 (by decide) (fun c1 => ?_) (fun c1 => ?_)
      · have c2 : ¬ n.toInt64 ≤ saltF (weeksF π (-1) ρ k) := Int64.not_le.mpr ((lg_cmp_lt _ _).mp c1)
        refine qi_aload_n (i := 0) (x := 280) dX12_salty_31 rfl rfl ?_
        refine qi_callVV (K' := kX12_weekGoes) (As := []) mlX12_396 okX12_weekGoes dX12_salty_32 (c_X12_weekGoes g hM2 hR (hP.fr hf) hok (hO.weeks hok k) e60 e61) rfl (by decide) rfl (by decide) rfl rfl (Nat.le_of_ble_eq_true rfl) ⟨(Nat.le_of_ble_eq_true rfl), (Nat.le_of_ble_eq_true rfl)⟩ ⟨Nat.le_refl _, Nat.le_refl _⟩ (fun M3 ⟨hR3, hf3⟩ => ?_)
        rw [awayF_m1] at hR3
        refine qi_iinc (i := 2) (x := nI k) (v := nI (k + 1)) (L2 := [some (.ref 280), some (.int n), some (.int (nI (k + 1)))]) dX12_salty_35 rfl (nI_1 k) (Nat.le_of_ble_eq_true rfl) rfl ?_
        refine qi_goto (tgt := 12) dX12_salty_38 (by decide) ?_
        refine ih (k + 1) M3 (by omega) ?_ (hf.tr (hf3.mono (fun _ _ => SN_SM))) hR3 ((hf3.1 _ _ (by unfold SN; omega)).trans e60) ((hf3.1 _ _ (by unfold SN; omega)).trans e61)
        rw [e2, hPd, decide_eq_false c2]
        rfl
      · have c2 : n.toInt64 ≤ saltF (weeksF π (-1) ρ k) := Int64.not_lt.mp (fun z => c1 ((lg_cmp_lt _ _).mpr z))
        refine qi_iload_n (i := 2) (x := nI k) dX12_salty_29 rfl rfl ?_
        exact qi_retI rfl rfl dX12_salty_30 (⟨by rw [eP hn, e2, hPd, decide_eq_true c2]; rfl, hf⟩)
  refine qI.of (j := 1) (pn_RX12) rfl ?_
  show qT g kX12_salty (qR 5 0 0) (qZI g (fun r M' => r = res ∧ qFr SM M M')) 0 [some (.ref 280), some (.int n), none] [] 333 M (0, 0)
  refine qi_iload_n (i := 1) (x := n) dX12_salty_0 rfl rfl ?_
  refine qi_if_ge (tgt := 6) dX12_salty_1 (by decide) (fun c0 => ?_) (fun c0 => ?_)
  · refine qi_aload_n (i := 0) (x := 280) dX12_salty_6 rfl rfl ?_
    refine qi_callVV (K' := kX12_copies) (As := []) mlX12_383 okX12_copies dX12_salty_7 (c_X12_copies g hM hN) rfl (by decide) rfl (by decide) rfl rfl (Nat.le_of_ble_eq_true rfl) ⟨(Nat.le_of_ble_eq_true rfl), (Nat.le_of_ble_eq_true rfl)⟩ ⟨Nat.le_refl _, Nat.le_refl _⟩ (fun M2 ⟨hR2, e60, e61, _, hf2⟩ => ?_)
    refine qi_iconst (v := 0) dX12_salty_10 rfl ?_
    refine qi_istore_n (i := 2) (L2 := [some (.ref 280), some (.int n), some (.int 0)]) dX12_salty_11 rfl (Nat.le_of_ble_eq_true rfl) rfl ?_
    exact K (Int32.not_lt.mpr c0) 201 0 M2 (by omega) rfl hf2 hR2 e60 e61
  · refine qi_iconst (v := -1) dX12_salty_4 rfl ?_
    exact qi_retI rfl rfl dX12_salty_5 (⟨by rw [hres]; unfold saltyQ; rw [if_pos (Int32.not_le.mp c0)], qFr.rf⟩)
