/-! ThimbleSea$Sea: more reads -/
set_option maxHeartbeats 4000000 in
theorem c_X6_dropsOf (g : qG) {a : Nat} {ρ : Nat → Int32} {M : qM} (hs : qIsS a) (hM : qRf M) (hS : qSea M a ρ) {h : Nat} (hh : h < 8) : qI g 1 kX6_dropsOf [.ref a, .int (nI h)] M (fun r M' => r = dropsF ρ h ∧ M' = M) := by
  refine qI.of (j := 0) (pn_RX6) rfl ?_
  show qT g kX6_dropsOf (qR 1 0 0) (qZI g (fun r M' => r = (dropsF ρ h) ∧ M' = M)) 0 [some (.ref a), some (.int (nI h))] [] 333 M (0, 0)
  refine qi_aload_n (i := 0) (x := a) dX6_dropsOf_0 rfl rfl ?_
  refine qi_iload_n (i := 1) (x := nI h) dX6_dropsOf_1 rfl rfl ?_
  refine qi_iconst (v := -1) dX6_dropsOf_2 rfl ?_
  refine qi_callPVI (v := selF ρ h h 0 4) (K' := kX6_dropsWithin) (As := [.int (nI h), .int (-1)]) mlX6_49 okX6_dropsWithin dX6_dropsOf_3 (c_X6_dropsWithin g hs hM hS (Or.inr ⟨rfl, rfl, hh⟩) (Or.inl ⟨rfl, rfl, rfl⟩)) hs.1 (by decide) rfl (by have := hs.2.2.2.2.2.2; omega) rfl rfl (Nat.le_of_ble_eq_true rfl) ⟨(Nat.le_of_ble_eq_true rfl), (Nat.le_of_ble_eq_true rfl)⟩ ⟨Nat.le_refl _, Nat.le_refl _⟩ ?_
  exact qi_retI rfl rfl dX6_dropsOf_6 (⟨selF_drops ρ hh, rfl⟩)
set_option maxHeartbeats 4000000 in
theorem c_X11_total (g : qG) {b len : Nat} {M : qM} (hb : qsh b = (40, len)) (hl : len < 10000) (hlt : b < 333) : qI g 0 kX11_total [.ref b] M (fun r M' => r = sumF (M.1 b) len ∧ M' = M) := by
  have K : ∀ m j, j + m = len → qT g kX11_total (qR 0 0 0) (qZI g (fun r M' => r = (sumF (M.1 b) len) ∧ M' = M)) 4 [some (.ref b), some (.int (sumF (M.1 b) j)), some (.int (nI j))] [] 333 M (0, 0) := by
    intro m
    induction m with
    | zero =>
      intro j e
      refine qi_iload_n (i := 2) (x := nI j) dX11_total_4 rfl rfl ?_
      refine qi_aload_n (i := 0) (x := b) dX11_total_5 rfl rfl ?_
      refine qi_alen (v := nI len) dX11_total_6 hb (by decide) hlt rfl ?_
      refine qi_icmp_ge (tgt := 22) dX11_total_7 (by decide) (fun _hc => ?_) (fun _h => absurd ((nI_leI (a := len) (b := j) (by omega) (by omega)).mpr (by omega)) _h)
      refine qi_iload_n (i := 1) (x := sumF (M.1 b) j) dX11_total_22 rfl rfl ?_
      exact qi_retI rfl rfl dX11_total_23 (⟨by rw [show j = len by omega], rfl⟩)
    | succ m ih =>
      intro j e
      refine qi_iload_n (i := 2) (x := nI j) dX11_total_4 rfl rfl ?_
      refine qi_aload_n (i := 0) (x := b) dX11_total_5 rfl rfl ?_
      refine qi_alen (v := nI len) dX11_total_6 hb (by decide) hlt rfl ?_
      refine qi_icmp_ge (tgt := 22) dX11_total_7 (by decide) (fun _h => absurd ((nI_leI (a := len) (b := j) (by omega) (by omega)).mp _h) (by omega)) (fun _hc => ?_)
      refine qi_iload_n (i := 1) (x := sumF (M.1 b) j) dX11_total_10 rfl rfl ?_
      refine qi_aload_n (i := 0) (x := b) dX11_total_11 rfl rfl ?_
      refine qi_iload_n (i := 2) (x := nI j) dX11_total_12 rfl rfl ?_
      refine qi_ialdN (x := M.1 b j) (j := j) dX11_total_13 hb hlt rfl (by omega) hl rfl ?_
      refine qi_iadd dX11_total_14 ?_
      refine qi_istore_n (i := 1) (L2 := [some (.ref b), some (.int ((sumF (M.1 b) j) + (M.1 b j))), some (.int (nI j))]) dX11_total_15 rfl (Nat.le_of_ble_eq_true rfl) rfl ?_
      refine qi_iinc (i := 2) (x := nI j) (v := nI (j + 1)) (L2 := [some (.ref b), some (.int ((sumF (M.1 b) j) + (M.1 b j))), some (.int (nI (j + 1)))]) dX11_total_16 rfl (nI_1 j) (Nat.le_of_ble_eq_true rfl) rfl ?_
      refine qi_goto (tgt := 4) dX11_total_19 (by decide) ?_
      exact ih (j + 1) (by omega)
  refine qI.of (j := 2) (pn_RX11) rfl ?_
  show qT g kX11_total (qR 0 0 0) (qZI g (fun r M' => r = (sumF (M.1 b) len) ∧ M' = M)) 0 [some (.ref b), none, none] [] 333 M (0, 0)
  refine qi_iconst (v := 0) dX11_total_0 rfl ?_
  refine qi_istore_n (i := 1) (L2 := [some (.ref b), some (.int 0), none]) dX11_total_1 rfl (Nat.le_of_ble_eq_true rfl) rfl ?_
  refine qi_iconst (v := 0) dX11_total_2 rfl ?_
  refine qi_istore_n (i := 2) (L2 := [some (.ref b), some (.int 0), some (.int 0)]) dX11_total_3 rfl (Nat.le_of_ble_eq_true rfl) rfl ?_
  exact K len 0 (by omega)
set_option maxHeartbeats 4000000 in
theorem c_X6_dueOf (g : qG) {a : Nat} {ρ : Nat → Int32} {M : qM} (hs : qIsS a) (hM : qRf M) (hS : qSea M a ρ) {h : Nat} (hh : h < 8) : qI g 1 kX6_dueOf [.ref a, .int (nI h)] M (fun r M' => r = dueF ρ h ∧ M' = M) := by
  refine qI.of (j := 0) (pn_RX6) rfl ?_
  show qT g kX6_dueOf (qR 1 0 0) (qZI g (fun r M' => r = (dueF ρ h) ∧ M' = M)) 0 [some (.ref a), some (.int (nI h))] [] 333 M (0, 0)
  refine qi_aload_n (i := 0) (x := a) dX6_dueOf_0 rfl rfl ?_
  refine qi_getI (x := M.1 a 5) flX6_27 dX6_dueOf_1 hs.1 (by have := hs.2.2.2.2.2.2; omega) rfl ?_
  refine qi_aload_n (i := 0) (x := a) dX6_dueOf_4 rfl rfl ?_
  refine qi_getR (x := a + 4) flX6_21 dX6_dueOf_5 hs.1 (by have := hs.2.2.2.2.2.2; omega) (hM a 3 (a + 4) (qref_6_3 hs.1)) ?_
  refine qi_iload_n (i := 1) (x := nI h) dX6_dueOf_8 rfl rfl ?_
  refine qi_ialdN (x := M.1 (a + 4) h) (j := h) dX6_dueOf_9 hs.2.2.2.2.1 (by have := hs.2.2.2.2.2.2; omega) rfl (by omega) (by decide) rfl ?_
  refine qi_imul dX6_dueOf_10 ?_
  refine qi_iconst (v := 1) dX6_dueOf_11 rfl ?_
  refine qi_aload_n (i := 0) (x := a) dX6_dueOf_12 rfl rfl ?_
  refine qi_getR (x := a + 4) flX6_21 dX6_dueOf_13 hs.1 (by have := hs.2.2.2.2.2.2; omega) (hM a 3 (a + 4) (qref_6_3 hs.1)) ?_
  refine qi_callPSNI (v := sumF (M.1 (a + 4)) 8) (K' := kX11_total) (As := [.ref (a + 4)]) mlX6_53 okX11_total dX6_dueOf_16 (c_X11_total g hs.2.2.2.2.1 (by decide) (by have := hs.2.2.2.2.2.2; omega)) rfl rfl (Nat.le_of_ble_eq_true rfl) ⟨(Nat.le_of_ble_eq_true rfl), (Nat.le_of_ble_eq_true rfl)⟩ ⟨Nat.le_refl _, Nat.le_refl _⟩ ?_
  refine qi_max mtX6_57 mt_max_s mt_i mt_max_c dX6_dueOf_19 (Nat.le_of_ble_eq_true rfl) ⟨(Nat.le_of_ble_eq_true rfl), (Nat.le_of_ble_eq_true rfl)⟩ ⟨Nat.le_refl _, Nat.le_refl _⟩ ?_
  refine qi_idiv dX6_dueOf_22 (max1_ne _) ?_
  exact qi_retI rfl rfl dX6_dueOf_23 (⟨by rw [hS.2.2.2.2.1, hS.2.2.1 h hh, show sumF (M.1 (a + 4)) 8 = sumO ρ 48 from sumF_congr 8 (fun k hk => hS.2.2.1 k hk)]; rfl, rfl⟩)
set_option maxHeartbeats 4000000 in
theorem c_X6_rankOf (g : qG) {a : Nat} {ρ : Nat → Int32} {M : qM} (hs : qIsS a) (hM : qRf M) (hS : qSea M a ρ) {h n : Nat} (hh : h < 8) (hn : n ≤ 8) : qI g 2 kX6_rankOf [.ref a, .int (nI h), .int (nI n)] M (fun r M' => r = nI (rankN ρ n h) ∧ M' = M) := by
  have hP : ∃ P : Nat → Bool, ∀ o, P o = decide (dropsF ρ h < dropsF ρ o ∨ (dropsF ρ o = dropsF ρ h ∧ o < h)) := ⟨_, fun _ => rfl⟩
  obtain ⟨P, hP⟩ := hP
  have eP : rankN ρ n h = cntN P n := by unfold rankN; congr 1; funext o; exact (hP o).symm
  have K : ∀ m o x6, o + m = n → qT g kX6_rankOf (qR 2 0 0) (qZI g (fun r M' => r = (nI (rankN ρ n h)) ∧ M' = M)) 12 [some (.ref a), some (.int (nI h)), some (.int (nI n)), some (.int (dropsF ρ h)), some (.int (nI (cntN P o))), some (.int (nI o)), x6] [] 333 M (0, 0) := by
    intro m
    induction m with
    | zero =>
      intro o x6 e
      refine qi_iload (i := 5) (x := nI o) dX6_rankOf_12 rfl ?_
      refine qi_iload_n (i := 2) (x := nI n) dX6_rankOf_14 rfl rfl ?_
      refine qi_icmp_ge (tgt := 53) dX6_rankOf_15 (by decide) (fun _hc => ?_) (fun _h => absurd ((nI_leI (a := n) (b := o) (by omega) (by omega)).mpr (by omega)) _h)
      refine qi_iload (i := 4) (x := nI (cntN P o)) dX6_rankOf_53 rfl ?_
      exact qi_retI rfl rfl dX6_rankOf_55 (⟨by rw [eP, show o = n by omega], rfl⟩)
    | succ m ih =>
      intro o x6 e
      have yes : P o = true → cntN P (o + 1) = cntN P o + 1 := fun z => by show cntN P o + (if P o then 1 else 0) = _; rw [z]; rfl
      have no : P o = false → cntN P (o + 1) = cntN P o := fun z => by show cntN P o + (if P o then 1 else 0) = _; rw [z]; rfl
      have A := ih (o + 1) (some (.int (dropsF ρ o))) (by omega)
      refine qi_iload (i := 5) (x := nI o) dX6_rankOf_12 rfl ?_
      refine qi_iload_n (i := 2) (x := nI n) dX6_rankOf_14 rfl rfl ?_
      refine qi_icmp_ge (tgt := 53) dX6_rankOf_15 (by decide) (fun _h => absurd ((nI_leI (a := n) (b := o) (by omega) (by omega)).mp _h) (by omega)) (fun _hc => ?_)
      refine qi_aload_n (i := 0) (x := a) dX6_rankOf_18 rfl rfl ?_
      refine qi_iload (i := 5) (x := nI o) dX6_rankOf_19 rfl ?_
      refine qi_callPVI (v := dropsF ρ o) (K' := kX6_dropsOf) (As := [.int (nI o)]) mlX6_62 okX6_dropsOf dX6_rankOf_21 (c_X6_dropsOf g hs hM hS (by omega)) hs.1 (by decide) rfl (by have := hs.2.2.2.2.2.2; omega) rfl rfl (Nat.le_of_ble_eq_true rfl) ⟨(Nat.le_of_ble_eq_true rfl), (Nat.le_of_ble_eq_true rfl)⟩ ⟨Nat.le_refl _, Nat.le_refl _⟩ ?_
      refine qi_istore (i := 6) (L2 := [some (.ref a), some (.int (nI h)), some (.int (nI n)), some (.int (dropsF ρ h)), some (.int (nI (cntN P o))), some (.int (nI o)), some (.int (dropsF ρ o))]) dX6_rankOf_24 (Nat.le_of_ble_eq_true rfl) rfl ?_
      refine qi_iload (i := 6) (x := dropsF ρ o) dX6_rankOf_26 rfl ?_
      refine qi_iload_n (i := 3) (x := dropsF ρ h) dX6_rankOf_28 rfl rfl ?_
      refine qi_icmp_gt (tgt := 44) dX6_rankOf_29 (by decide) (fun c1 => ?_) (fun c1 => ?_)
      · refine qi_iinc (i := 4) (x := nI (cntN P o)) (v := nI (cntN P o + 1)) (L2 := [some (.ref a), some (.int (nI h)), some (.int (nI n)), some (.int (dropsF ρ h)), some (.int (nI (cntN P o + 1))), some (.int (nI o)), some (.int (dropsF ρ o))]) dX6_rankOf_44 rfl (nI_1 (cntN P o)) (Nat.le_of_ble_eq_true rfl) rfl ?_
        refine qi_iinc (i := 5) (x := nI o) (v := nI (o + 1)) (L2 := [some (.ref a), some (.int (nI h)), some (.int (nI n)), some (.int (dropsF ρ h)), some (.int (nI (cntN P o + 1))), some (.int (nI (o + 1))), some (.int (dropsF ρ o))]) dX6_rankOf_47 rfl (nI_1 o) (Nat.le_of_ble_eq_true rfl) rfl ?_
        refine qi_goto (tgt := 12) dX6_rankOf_50 (by decide) ?_
        rw [yes (by rw [hP]; exact decide_eq_true (Or.inl c1))] at A
        exact A
      · refine qi_iload (i := 6) (x := dropsF ρ o) dX6_rankOf_32 rfl ?_
        refine qi_iload_n (i := 3) (x := dropsF ρ h) dX6_rankOf_34 rfl rfl ?_
        refine qi_icmp_ne (tgt := 47) dX6_rankOf_35 (by decide) (fun c2 => ?_) (fun c2 => ?_)
        · refine qi_iinc (i := 5) (x := nI o) (v := nI (o + 1)) (L2 := [some (.ref a), some (.int (nI h)), some (.int (nI n)), some (.int (dropsF ρ h)), some (.int (nI (cntN P o))), some (.int (nI (o + 1))), some (.int (dropsF ρ o))]) dX6_rankOf_47 rfl (nI_1 o) (Nat.le_of_ble_eq_true rfl) rfl ?_
          refine qi_goto (tgt := 12) dX6_rankOf_50 (by decide) ?_
          rw [no (by rw [hP]; exact decide_eq_false (fun z => z.elim c1 (fun z => c2 z.1)))] at A
          exact A
        · refine qi_iload (i := 5) (x := nI o) dX6_rankOf_38 rfl ?_
          refine qi_iload_n (i := 1) (x := nI h) dX6_rankOf_40 rfl rfl ?_
          refine qi_icmp_ge (tgt := 47) dX6_rankOf_41 (by decide) (fun _h => ?_) (fun _h => ?_)
          · have c3 : h ≤ o := (nI_leI (a := h) (b := o) (by omega) (by omega)).mp _h
            refine qi_iinc (i := 5) (x := nI o) (v := nI (o + 1)) (L2 := [some (.ref a), some (.int (nI h)), some (.int (nI n)), some (.int (dropsF ρ h)), some (.int (nI (cntN P o))), some (.int (nI (o + 1))), some (.int (dropsF ρ o))]) dX6_rankOf_47 rfl (nI_1 o) (Nat.le_of_ble_eq_true rfl) rfl ?_
            refine qi_goto (tgt := 12) dX6_rankOf_50 (by decide) ?_
            rw [no (by rw [hP]; exact decide_eq_false (fun z => z.elim c1 (fun z => by omega)))] at A
            exact A
          · have c3 : ¬ (h ≤ o) := fun z => _h ((nI_leI (a := h) (b := o) (by omega) (by omega)).mpr z)
            refine qi_iinc (i := 4) (x := nI (cntN P o)) (v := nI (cntN P o + 1)) (L2 := [some (.ref a), some (.int (nI h)), some (.int (nI n)), some (.int (dropsF ρ h)), some (.int (nI (cntN P o + 1))), some (.int (nI o)), some (.int (dropsF ρ o))]) dX6_rankOf_44 rfl (nI_1 (cntN P o)) (Nat.le_of_ble_eq_true rfl) rfl ?_
            refine qi_iinc (i := 5) (x := nI o) (v := nI (o + 1)) (L2 := [some (.ref a), some (.int (nI h)), some (.int (nI n)), some (.int (dropsF ρ h)), some (.int (nI (cntN P o + 1))), some (.int (nI (o + 1))), some (.int (dropsF ρ o))]) dX6_rankOf_47 rfl (nI_1 o) (Nat.le_of_ble_eq_true rfl) rfl ?_
            refine qi_goto (tgt := 12) dX6_rankOf_50 (by decide) ?_
            rw [yes (by rw [hP]; exact decide_eq_true (Or.inr ⟨c2, by omega⟩))] at A
            exact A
  refine qI.of (j := 4) (pn_RX6) rfl ?_
  show qT g kX6_rankOf (qR 2 0 0) (qZI g (fun r M' => r = (nI (rankN ρ n h)) ∧ M' = M)) 0 [some (.ref a), some (.int (nI h)), some (.int (nI n)), none, none, none, none] [] 333 M (0, 0)
  refine qi_aload_n (i := 0) (x := a) dX6_rankOf_0 rfl rfl ?_
  refine qi_iload_n (i := 1) (x := nI h) dX6_rankOf_1 rfl rfl ?_
  refine qi_callPVI (v := dropsF ρ h) (K' := kX6_dropsOf) (As := [.int (nI h)]) mlX6_62 okX6_dropsOf dX6_rankOf_2 (c_X6_dropsOf g hs hM hS hh) hs.1 (by decide) rfl (by have := hs.2.2.2.2.2.2; omega) rfl rfl (Nat.le_of_ble_eq_true rfl) ⟨(Nat.le_of_ble_eq_true rfl), (Nat.le_of_ble_eq_true rfl)⟩ ⟨Nat.le_refl _, Nat.le_refl _⟩ ?_
  refine qi_istore_n (i := 3) (L2 := [some (.ref a), some (.int (nI h)), some (.int (nI n)), some (.int (dropsF ρ h)), none, none, none]) dX6_rankOf_5 rfl (Nat.le_of_ble_eq_true rfl) rfl ?_
  refine qi_iconst (v := 0) dX6_rankOf_6 rfl ?_
  refine qi_istore (i := 4) (L2 := [some (.ref a), some (.int (nI h)), some (.int (nI n)), some (.int (dropsF ρ h)), some (.int 0), none, none]) dX6_rankOf_7 (Nat.le_of_ble_eq_true rfl) rfl ?_
  refine qi_iconst (v := 0) dX6_rankOf_9 rfl ?_
  refine qi_istore (i := 5) (L2 := [some (.ref a), some (.int (nI h)), some (.int (nI n)), some (.int (dropsF ρ h)), some (.int 0), some (.int 0), none]) dX6_rankOf_10 (Nat.le_of_ble_eq_true rfl) rfl ?_
  exact K n 0 none (by omega)
set_option maxHeartbeats 4000000 in
theorem c_X6_heirOfRank (g : qG) {a : Nat} {ρ : Nat → Int32} {M : qM} (hs : qIsS a) (hM : qRf M) (hS : qSea M a ρ) {n : Nat} (hn : n ≤ 8) (rk : Int32) : qI g 3 kX6_heirOfRank [.ref a, .int rk, .int (nI n)] M (fun r M' => r = rankedF ρ n rk ∧ M' = M) := by
  have hP : ∃ P : Nat → Bool, ∀ o, P o = decide (nI (rankN ρ n o) = rk) := ⟨_, fun _ => rfl⟩
  obtain ⟨P, hP⟩ := hP
  have eP : rankedF ρ n rk = o2i (findN P n 0) := by unfold rankedF; congr 2; funext o; exact (hP o).symm
  have K : ∀ m o, o + m = n → findN P n 0 = findN P m o → qT g kX6_heirOfRank (qR 3 0 0) (qZI g (fun r M' => r = (rankedF ρ n rk) ∧ M' = M)) 2 [some (.ref a), some (.int rk), some (.int (nI n)), some (.int (nI o))] [] 333 M (0, 0) := by
    intro m
    induction m with
    | zero =>
      intro o e e2
      refine qi_iload_n (i := 3) (x := nI o) dX6_heirOfRank_2 rfl rfl ?_
      refine qi_iload_n (i := 2) (x := nI n) dX6_heirOfRank_3 rfl rfl ?_
      refine qi_icmp_ge (tgt := 25) dX6_heirOfRank_4 (by decide) (fun _hc => ?_) (fun _h => absurd ((nI_leI (a := n) (b := o) (by omega) (by omega)).mpr (by omega)) _h)
      refine qi_iconst (v := -1) dX6_heirOfRank_25 rfl ?_
      exact qi_retI rfl rfl dX6_heirOfRank_26 (⟨by rw [eP, e2]; rfl, rfl⟩)
    | succ m ih =>
      intro o e e2
      have e3 : findN P (m + 1) o = if P o then some o else findN P m (o + 1) := rfl
      refine qi_iload_n (i := 3) (x := nI o) dX6_heirOfRank_2 rfl rfl ?_
      refine qi_iload_n (i := 2) (x := nI n) dX6_heirOfRank_3 rfl rfl ?_
      refine qi_icmp_ge (tgt := 25) dX6_heirOfRank_4 (by decide) (fun _h => absurd ((nI_leI (a := n) (b := o) (by omega) (by omega)).mp _h) (by omega)) (fun _hc => ?_)
      refine qi_aload_n (i := 0) (x := a) dX6_heirOfRank_7 rfl rfl ?_
      refine qi_iload_n (i := 3) (x := nI o) dX6_heirOfRank_8 rfl rfl ?_
      refine qi_iload_n (i := 2) (x := nI n) dX6_heirOfRank_9 rfl rfl ?_
      refine qi_callPVI (v := nI (rankN ρ n o)) (K' := kX6_rankOf) (As := [.int (nI o), .int (nI n)]) mlX6_66 okX6_rankOf dX6_heirOfRank_10 (c_X6_rankOf g hs hM hS (by omega) hn) hs.1 (by decide) rfl (by have := hs.2.2.2.2.2.2; omega) rfl rfl (Nat.le_of_ble_eq_true rfl) ⟨(Nat.le_of_ble_eq_true rfl), (Nat.le_of_ble_eq_true rfl)⟩ ⟨Nat.le_refl _, Nat.le_refl _⟩ ?_
      refine qi_iload_n (i := 1) (x := rk) dX6_heirOfRank_13 rfl rfl ?_
      refine qi_icmp_ne (tgt := 19) dX6_heirOfRank_14 (by decide) (fun c1 => ?_) (fun c1 => ?_)
      · refine qi_iinc (i := 3) (x := nI o) (v := nI (o + 1)) (L2 := [some (.ref a), some (.int rk), some (.int (nI n)), some (.int (nI (o + 1)))]) dX6_heirOfRank_19 rfl (nI_1 o) (Nat.le_of_ble_eq_true rfl) rfl ?_
        refine qi_goto (tgt := 2) dX6_heirOfRank_22 (by decide) ?_
        refine ih (o + 1) (by omega) ?_
        rw [e2, e3, show P o = false by rw [hP]; exact decide_eq_false c1]
        rfl
      · refine qi_iload_n (i := 3) (x := nI o) dX6_heirOfRank_17 rfl rfl ?_
        exact qi_retI rfl rfl dX6_heirOfRank_18 (⟨by rw [eP, e2, e3, show P o = true by rw [hP]; exact decide_eq_true c1]; rfl, rfl⟩)
  refine qI.of (j := 1) (pn_RX6) rfl ?_
  show qT g kX6_heirOfRank (qR 3 0 0) (qZI g (fun r M' => r = (rankedF ρ n rk) ∧ M' = M)) 0 [some (.ref a), some (.int rk), some (.int (nI n)), none] [] 333 M (0, 0)
  refine qi_iconst (v := 0) dX6_heirOfRank_0 rfl ?_
  refine qi_istore_n (i := 3) (L2 := [some (.ref a), some (.int rk), some (.int (nI n)), some (.int 0)]) dX6_heirOfRank_1 rfl (Nat.le_of_ble_eq_true rfl) rfl ?_
  exact K n 0 (by omega) rfl
set_option maxHeartbeats 4000000 in
theorem c_X6_saltiness (g : qG) {a : Nat} {ρ : Nat → Int32} {M : qM} (hs : qIsS a) (hS : qSea M a ρ) : qJ g 0 kX6_saltiness [.ref a] M (fun r M' => r = saltF ρ ∧ M' = M) := by
  refine qJ.of (j := 0) (pn_RX6) rfl ?_
  show qT g kX6_saltiness (qR 0 0 0) (qZJ g (fun r M' => r = (saltF ρ) ∧ M' = M)) 0 [some (.ref a)] [] 333 M (0, 0)
  refine qi_aload_n (i := 0) (x := a) dX6_saltiness_0 rfl rfl ?_
  refine qi_getI (x := M.1 a 5) flX6_27 dX6_saltiness_1 hs.1 (by have := hs.2.2.2.2.2.2; omega) rfl ?_
  refine qe_top (y := allF ρ) hS.2.2.2.2.1 ?_
  refine qi_if_le (tgt := 25) dX6_saltiness_4 (by decide) (fun c => ?_) (fun c => ?_)
  · refine qi_lconst (v := 0) dX6_saltiness_25 rfl ?_
    exact qi_retJ rfl dX6_saltiness_26 (⟨by unfold saltF; rw [if_pos c], rfl⟩)
  · skip
    refine qi_aload_n (i := 0) (x := a) dX6_saltiness_7 rfl rfl ?_
    refine qi_getI (x := M.1 a 6) flX6_31 dX6_saltiness_8 hs.1 (by have := hs.2.2.2.2.2.2; omega) rfl ?_
    refine qi_i2l dX6_saltiness_11 ?_
    refine qi_ldc2 dX6_saltiness_12 cnX6_69 ?_
    refine qi_lmul dX6_saltiness_15 ?_
    refine qi_aload_n (i := 0) (x := a) dX6_saltiness_16 rfl rfl ?_
    refine qi_getI (x := M.1 a 5) flX6_27 dX6_saltiness_17 hs.1 (by have := hs.2.2.2.2.2.2; omega) rfl ?_
    refine qi_i2l dX6_saltiness_20 ?_
    refine qi_ldiv dX6_saltiness_21 (by rw [hS.2.2.2.2.1]; exact toInt64_ne c) ?_
    refine qi_goto (tgt := 26) dX6_saltiness_22 (by decide) ?_
    exact qi_retJ rfl dX6_saltiness_26 (⟨by unfold saltF; rw [if_neg c, hS.2.2.2.2.1, hS.2.2.2.2.2.1], rfl⟩)
set_option maxHeartbeats 4000000 in
theorem c_X6_wins (g : qG) {a : Nat} {ρ : Nat → Int32} {M : qM} (hs : qIsS a) (hM : qRf M) (hS : qSea M a ρ) (b : Int32) : qI g 2 kX6_wins [.ref a, .int b] M (fun r M' => r = winsF ρ b ∧ M' = M) := by
  have hF : ∃ F : Nat → Int32, ∀ h, F h = if bitF b h = 0 then 0 else dropsF ρ h := ⟨_, fun _ => rfl⟩
  obtain ⟨F, hF⟩ := hF
  have eF : sumW ρ b = sumF F 8 := by unfold sumW; exact sumF_congr 8 (fun k _ => (hF k).symm)
  have K : ∀ m j, j + m = 8 → qT g kX6_wins (qR 2 0 0) (qZI g (fun r M' => r = (winsF ρ b) ∧ M' = M)) 4 [some (.ref a), some (.int b), some (.int (sumF F j)), some (.int (nI j))] [] 333 M (0, 0) := by
    intro m
    induction m with
    | zero =>
      intro j e
      refine qi_iload_n (i := 3) (x := nI j) dX6_wins_4 rfl rfl ?_
      refine qi_bipush (v := 8) dX6_wins_5 rfl ?_
      refine qi_icmp_ge (tgt := 32) dX6_wins_7 (by decide) (fun _hc => ?_) (fun _h => absurd ((nI_leI (a := 8) (b := j) (by omega) (by omega)).mpr (by omega)) _h)
      refine qi_iconst (v := 2) dX6_wins_32 rfl ?_
      refine qi_iload_n (i := 2) (x := sumF F j) dX6_wins_33 rfl rfl ?_
      refine qi_imul dX6_wins_34 ?_
      refine qi_aload_n (i := 0) (x := a) dX6_wins_35 rfl rfl ?_
      refine qi_getI (x := M.1 a 5) flX6_27 dX6_wins_36 hs.1 (by have := hs.2.2.2.2.2.2; omega) rfl ?_
      refine qe_top (y := allF ρ) hS.2.2.2.2.1 ?_
      refine qi_icmp_le (tgt := 46) dX6_wins_39 (by decide) (fun c => ?_) (fun c => ?_)
      · refine qi_iconst (v := 0) dX6_wins_46 rfl ?_
        exact qi_retI rfl (by rfl) dX6_wins_47 (⟨by unfold winsF; rw [eF, ← show j = 8 by omega, if_pos c], rfl⟩)
      · refine qi_iconst (v := 1) dX6_wins_42 rfl ?_
        refine qi_goto (tgt := 47) dX6_wins_43 (by decide) ?_
        exact qi_retI rfl (by rfl) dX6_wins_47 (⟨by unfold winsF; rw [eF, ← show j = 8 by omega, if_neg c], rfl⟩)
    | succ m ih =>
      intro j e
      have A := ih (j + 1) (by omega)
      refine qi_iload_n (i := 3) (x := nI j) dX6_wins_4 rfl rfl ?_
      refine qi_bipush (v := 8) dX6_wins_5 rfl ?_
      refine qi_icmp_ge (tgt := 32) dX6_wins_7 (by decide) (fun _h => absurd ((nI_leI (a := 8) (b := j) (by omega) (by omega)).mp _h) (by omega)) (fun _hc => ?_)
      refine qi_iload_n (i := 1) (x := b) dX6_wins_10 rfl rfl ?_
      refine qi_iload_n (i := 3) (x := nI j) dX6_wins_11 rfl rfl ?_
      refine qi_ishr dX6_wins_12 ?_
      refine qi_iconst (v := 1) dX6_wins_13 rfl ?_
      refine qi_iand dX6_wins_14 ?_
      refine qe_top (y := bitF b j) rfl ?_
      refine qi_if_eq (tgt := 26) dX6_wins_15 (by decide) (fun c => ?_) (fun c => ?_)
      · refine qi_iinc (i := 3) (x := nI j) (v := nI (j + 1)) (L2 := [some (.ref a), some (.int b), some (.int (sumF F j)), some (.int (nI (j + 1)))]) dX6_wins_26 rfl (nI_1 j) (Nat.le_of_ble_eq_true rfl) rfl ?_
        refine qi_goto (tgt := 4) dX6_wins_29 (by decide) ?_
        rw [show sumF F (j + 1) = sumF F j from by show sumF F j + F j = _; rw [hF, if_pos c, Int32.add_zero]] at A
        exact A
      · refine qi_iload_n (i := 2) (x := sumF F j) dX6_wins_18 rfl rfl ?_
        refine qi_aload_n (i := 0) (x := a) dX6_wins_19 rfl rfl ?_
        refine qi_iload_n (i := 3) (x := nI j) dX6_wins_20 rfl rfl ?_
        refine qi_callPVI (v := dropsF ρ j) (K' := kX6_dropsOf) (As := [.int (nI j)]) mlX6_62 okX6_dropsOf dX6_wins_21 (c_X6_dropsOf g hs hM hS (by omega)) hs.1 (by decide) rfl (by have := hs.2.2.2.2.2.2; omega) rfl rfl (Nat.le_of_ble_eq_true rfl) ⟨(Nat.le_of_ble_eq_true rfl), (Nat.le_of_ble_eq_true rfl)⟩ ⟨Nat.le_refl _, Nat.le_refl _⟩ ?_
        refine qi_iadd dX6_wins_24 ?_
        refine qi_istore_n (i := 2) (L2 := [some (.ref a), some (.int b), some (.int ((sumF F j) + (dropsF ρ j))), some (.int (nI j))]) dX6_wins_25 rfl (Nat.le_of_ble_eq_true rfl) rfl ?_
        refine qi_iinc (i := 3) (x := nI j) (v := nI (j + 1)) (L2 := [some (.ref a), some (.int b), some (.int ((sumF F j) + (dropsF ρ j))), some (.int (nI (j + 1)))]) dX6_wins_26 rfl (nI_1 j) (Nat.le_of_ble_eq_true rfl) rfl ?_
        refine qi_goto (tgt := 4) dX6_wins_29 (by decide) ?_
        rw [show sumF F (j + 1) = sumF F j + dropsF ρ j from by show sumF F j + F j = _; rw [hF, if_neg c]] at A
        exact A
  refine qI.of (j := 2) (pn_RX6) rfl ?_
  show qT g kX6_wins (qR 2 0 0) (qZI g (fun r M' => r = (winsF ρ b) ∧ M' = M)) 0 [some (.ref a), some (.int b), none, none] [] 333 M (0, 0)
  refine qi_iconst (v := 0) dX6_wins_0 rfl ?_
  refine qi_istore_n (i := 2) (L2 := [some (.ref a), some (.int b), some (.int 0), none]) dX6_wins_1 rfl (Nat.le_of_ble_eq_true rfl) rfl ?_
  refine qi_iconst (v := 0) dX6_wins_2 rfl ?_
  refine qi_istore_n (i := 3) (L2 := [some (.ref a), some (.int b), some (.int 0), some (.int 0)]) dX6_wins_3 rfl (Nat.le_of_ble_eq_true rfl) rfl ?_
  exact K 8 0 (by omega)
