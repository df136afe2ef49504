/-! ThimbleSea$Sea: reads -/
set_option maxHeartbeats 4000000 in
theorem c_X6_dropsWithin (g : qG) {a : Nat} {ρ : Nat → Int32} {M : qM} (hs : qIsS a) (hM : qRf M) (hS : qSea M a ρ) {heir water : Int32} {fh lh fw lw : Nat} (h1 : (heir = -1 ∧ fh = 0 ∧ lh = 7) ∨ (heir = nI fh ∧ lh = fh ∧ fh < 8)) (h2 : (water = -1 ∧ fw = 0 ∧ lw = 4) ∨ (water = nI fw ∧ lw = fw ∧ fw < 5)) : qI g 0 kX6_dropsWithin [.ref a, .int heir, .int water] M (fun r M' => r = selF ρ fh lh fw lw ∧ M' = M) := by
  have hlh : lh < 8 ∧ fh ≤ lh := by omega
  have hlw : lw < 5 ∧ fw ≤ lw := by omega
  have hF : ∃ F : Nat → Int32, ∀ k, F k = if fh ≤ k / 5 ∧ k / 5 ≤ lh ∧ fw ≤ k % 5 ∧ k % 5 ≤ lw then ρ k else 0 := ⟨_, fun _ => rfl⟩
  obtain ⟨F, e0⟩ := hF
  have eF : selF ρ fh lh fw lw = sumF F 40 := sumF_congr 40 (fun k _ => (e0 k).symm)
  have K54 : ∀ (m h : Nat) (x9 : Option Value), h + m = lh + 1 → fh ≤ h → ∀ (s : Int32), s = sumF F (5 * h) → qT g kX6_dropsWithin (qR 0 0 0) (qZI g (fun r M' => r = selF ρ fh lh fw lw ∧ M' = M)) 54 [some (.ref a), some (.int heir), some (.int water), some (.int (nI fh)), some (.int (nI lh)), some (.int (nI fw)), some (.int (nI lw)), some (.int s), some (.int (nI h)), x9] [] 333 M (0, 0) := by
    intro m
    induction m with
    | zero =>
      intro h x9 e1 e2 s es
      refine qi_iload (i := 8) (x := nI h) dX6_dropsWithin_54 rfl ?_
      refine qi_iload (i := 4) (x := nI lh) dX6_dropsWithin_56 rfl ?_
      refine qi_icmp_gt (tgt := 101) dX6_dropsWithin_58 (by decide) (fun _hc => ?_) (fun _h => absurd ((nI_ltI (a := lh) (b := h) (by omega) (by omega)).mpr (by omega)) _h)
      refine qi_iload (i := 7) (x := s) dX6_dropsWithin_101 rfl ?_
      exact qi_retI rfl rfl dX6_dropsWithin_103 (⟨by rw [eF, es, sumF_zero (a := 5 * h) 40 (by omega) (fun k h1 h2 => by rw [e0]; exact if_neg (by omega))], rfl⟩)
    | succ m ih =>
      intro h x9 e1 e2 s es
      refine qi_iload (i := 8) (x := nI h) dX6_dropsWithin_54 rfl ?_
      refine qi_iload (i := 4) (x := nI lh) dX6_dropsWithin_56 rfl ?_
      refine qi_icmp_gt (tgt := 101) dX6_dropsWithin_58 (by decide) (fun _h => absurd ((nI_ltI (a := lh) (b := h) (by omega) (by omega)).mp _h) (by omega)) (fun _hc => ?_)
      refine qi_iload (i := 5) (x := nI fw) dX6_dropsWithin_61 rfl ?_
      refine qi_istore (i := 9) (L2 := [some (.ref a), some (.int heir), some (.int water), some (.int (nI fh)), some (.int (nI lh)), some (.int (nI fw)), some (.int (nI lw)), some (.int s), some (.int (nI h)), some (.int (nI fw))]) dX6_dropsWithin_63 (Nat.le_of_ble_eq_true rfl) rfl ?_
      have K65 : ∀ (m2 w : Nat), w + m2 = lw + 1 → fw ≤ w → ∀ (s : Int32), s = sumF F (5 * h + w) → qT g kX6_dropsWithin (qR 0 0 0) (qZI g (fun r M' => r = selF ρ fh lh fw lw ∧ M' = M)) 65 [some (.ref a), some (.int heir), some (.int water), some (.int (nI fh)), some (.int (nI lh)), some (.int (nI fw)), some (.int (nI lw)), some (.int s), some (.int (nI h)), some (.int (nI w))] [] 333 M (0, 0) := by
        intro m2
        induction m2 with
        | zero =>
          intro w e3 e4 s es
          refine qi_iload (i := 9) (x := nI w) dX6_dropsWithin_65 rfl ?_
          refine qi_iload (i := 6) (x := nI lw) dX6_dropsWithin_67 rfl ?_
          refine qi_icmp_gt (tgt := 95) dX6_dropsWithin_69 (by decide) (fun _hc => ?_) (fun _h => absurd ((nI_ltI (a := lw) (b := w) (by omega) (by omega)).mpr (by omega)) _h)
          refine qi_iinc (i := 8) (x := nI h) (v := nI (h + 1)) (L2 := [some (.ref a), some (.int heir), some (.int water), some (.int (nI fh)), some (.int (nI lh)), some (.int (nI fw)), some (.int (nI lw)), some (.int s), some (.int (nI (h + 1))), some (.int (nI w))]) dX6_dropsWithin_95 rfl (nI_1 h) (Nat.le_of_ble_eq_true rfl) rfl ?_
          refine qi_goto (tgt := 54) dX6_dropsWithin_98 (by decide) ?_
          exact ih (h + 1) _ (by omega) (by omega) s (by rw [es, sumF_zero (a := 5 * h + w) (5 * (h + 1)) (by omega) (fun k h1 h2 => by rw [e0]; exact if_neg (by omega))])
        | succ m2 ih2 =>
          intro w e3 e4 s es
          refine qi_iload (i := 9) (x := nI w) dX6_dropsWithin_65 rfl ?_
          refine qi_iload (i := 6) (x := nI lw) dX6_dropsWithin_67 rfl ?_
          refine qi_icmp_gt (tgt := 95) dX6_dropsWithin_69 (by decide) (fun _h => absurd ((nI_ltI (a := lw) (b := w) (by omega) (by omega)).mp _h) (by omega)) (fun _hc => ?_)
          refine qi_iload (i := 7) (x := s) dX6_dropsWithin_72 rfl ?_
          refine qi_aload_n (i := 0) (x := a) dX6_dropsWithin_74 rfl rfl ?_
          refine qi_getR (x := a + 1) flX6_9 dX6_dropsWithin_75 hs.1 (by have := hs.2.2.2.2.2.2; omega) (hM a 0 (a + 1) (qref_6_0 hs.1)) ?_
          refine qi_iload (i := 8) (x := nI h) dX6_dropsWithin_78 rfl ?_
          refine qi_iconst (v := 5) dX6_dropsWithin_80 rfl ?_
          refine qi_imul dX6_dropsWithin_81 ?_
          refine qi_iload (i := 9) (x := nI w) dX6_dropsWithin_82 rfl ?_
          refine qi_iadd dX6_dropsWithin_84 ?_
          refine qe_top (y := nI (h * 5 + w)) (by rw [show (5 : Int32) = nI 5 from rfl, pk_mul, nI_add]) ?_
          refine qi_ialdN (x := M.1 (a + 1) (h * 5 + w)) (j := h * 5 + w) dX6_dropsWithin_85 hs.2.1 (by have := hs.2.2.2.2.2.2; omega) rfl (by omega) (by decide) rfl ?_
          refine qi_iadd dX6_dropsWithin_86 ?_
          refine qi_istore (i := 7) (L2 := [some (.ref a), some (.int heir), some (.int water), some (.int (nI fh)), some (.int (nI lh)), some (.int (nI fw)), some (.int (nI lw)), some (.int (s + (M.1 (a + 1) (h * 5 + w)))), some (.int (nI h)), some (.int (nI w))]) dX6_dropsWithin_87 (Nat.le_of_ble_eq_true rfl) rfl ?_
          refine qi_iinc (i := 9) (x := nI w) (v := nI (w + 1)) (L2 := [some (.ref a), some (.int heir), some (.int water), some (.int (nI fh)), some (.int (nI lh)), some (.int (nI fw)), some (.int (nI lw)), some (.int (s + (M.1 (a + 1) (h * 5 + w)))), some (.int (nI h)), some (.int (nI (w + 1)))]) dX6_dropsWithin_89 rfl (nI_1 w) (Nat.le_of_ble_eq_true rfl) rfl ?_
          refine qi_goto (tgt := 65) dX6_dropsWithin_92 (by decide) ?_
          exact ih2 (w + 1) (by omega) (by omega) _ (by
            rw [es, hS.1 (h * 5 + w) (by omega)]
            show _ = sumF F (5 * h + w) + F (5 * h + w)
            rw [e0, if_pos (by omega), Nat.mul_comm h 5])
      exact K65 (lw + 1 - fw) fw (by omega) (Nat.le_refl _) s (by rw [es, sumF_zero (a := 5 * h) (5 * h + fw) (by omega) (fun k h1 h2 => by rw [e0]; exact if_neg (by omega))])
  have K48 : qT g kX6_dropsWithin (qR 0 0 0) (qZI g (fun r M' => r = selF ρ fh lh fw lw ∧ M' = M)) 48 [some (.ref a), some (.int heir), some (.int water), some (.int (nI fh)), some (.int (nI lh)), some (.int (nI fw)), some (.int (nI lw)), none, none, none] [] 333 M (0, 0) := by
    refine qi_iconst (v := 0) dX6_dropsWithin_48 rfl ?_
    refine qi_istore (i := 7) (L2 := [some (.ref a), some (.int heir), some (.int water), some (.int (nI fh)), some (.int (nI lh)), some (.int (nI fw)), some (.int (nI lw)), some (.int 0), none, none]) dX6_dropsWithin_49 (Nat.le_of_ble_eq_true rfl) rfl ?_
    refine qi_iload_n (i := 3) (x := nI fh) dX6_dropsWithin_51 rfl rfl ?_
    refine qi_istore (i := 8) (L2 := [some (.ref a), some (.int heir), some (.int water), some (.int (nI fh)), some (.int (nI lh)), some (.int (nI fw)), some (.int (nI lw)), some (.int 0), some (.int (nI fh)), none]) dX6_dropsWithin_52 (Nat.le_of_ble_eq_true rfl) rfl ?_
    exact K54 (lh + 1 - fh) fh none (by omega) (Nat.le_refl _) 0 (by rw [sumF_zero (a := 0) (5 * fh) (Nat.zero_le _) (fun k h1 h2 => by rw [e0]; exact if_neg (by omega))]; rfl)
  have K36 : qT g kX6_dropsWithin (qR 0 0 0) (qZI g (fun r M' => r = selF ρ fh lh fw lw ∧ M' = M)) 36 [some (.ref a), some (.int heir), some (.int water), some (.int (nI fh)), some (.int (nI lh)), some (.int (nI fw)), none, none, none, none] [] 333 M (0, 0) := by
    refine qi_iload_n (i := 2) (x := water) dX6_dropsWithin_36 rfl rfl ?_
    refine qi_iconst (v := -1) dX6_dropsWithin_37 rfl ?_
    rcases h2 with ⟨e, f1, f2⟩ | ⟨e, f1, f2⟩
    · subst f2
      refine qi_icmp_ne (tgt := 45) dX6_dropsWithin_38 (by decide) (fun h => False.elim (h e)) (fun h => ?_)
      refine qi_iconst (v := 4) dX6_dropsWithin_41 rfl ?_
      refine qi_goto (tgt := 46) dX6_dropsWithin_42 (by decide) ?_
      refine qi_istore (i := 6) (L2 := [some (.ref a), some (.int heir), some (.int water), some (.int (nI fh)), some (.int (nI lh)), some (.int (nI fw)), some (.int 4), none, none, none]) dX6_dropsWithin_46 (Nat.le_of_ble_eq_true rfl) rfl ?_
      exact K48
    ·
      refine qi_icmp_ne (tgt := 45) dX6_dropsWithin_38 (by decide) (fun h => ?_) (fun h => False.elim (nI_m1 (by omega) (e.symm.trans h)))
      refine qi_iload_n (i := 2) (x := water) dX6_dropsWithin_45 rfl rfl ?_
      refine qe_top (y := nI lw) (by rw [e, f1]) ?_
      refine qi_istore (i := 6) (L2 := [some (.ref a), some (.int heir), some (.int water), some (.int (nI fh)), some (.int (nI lh)), some (.int (nI fw)), some (.int (nI lw)), none, none, none]) dX6_dropsWithin_46 (Nat.le_of_ble_eq_true rfl) rfl ?_
      exact K48
  have K24 : qT g kX6_dropsWithin (qR 0 0 0) (qZI g (fun r M' => r = selF ρ fh lh fw lw ∧ M' = M)) 24 [some (.ref a), some (.int heir), some (.int water), some (.int (nI fh)), some (.int (nI lh)), none, none, none, none, none] [] 333 M (0, 0) := by
    refine qi_iload_n (i := 2) (x := water) dX6_dropsWithin_24 rfl rfl ?_
    refine qi_iconst (v := -1) dX6_dropsWithin_25 rfl ?_
    rcases h2 with ⟨e, f1, f2⟩ | ⟨e, f1, f2⟩
    · subst f1
      refine qi_icmp_ne (tgt := 33) dX6_dropsWithin_26 (by decide) (fun h => False.elim (h e)) (fun h => ?_)
      refine qi_iconst (v := 0) dX6_dropsWithin_29 rfl ?_
      refine qi_goto (tgt := 34) dX6_dropsWithin_30 (by decide) ?_
      refine qi_istore (i := 5) (L2 := [some (.ref a), some (.int heir), some (.int water), some (.int (nI fh)), some (.int (nI lh)), some (.int 0), none, none, none, none]) dX6_dropsWithin_34 (Nat.le_of_ble_eq_true rfl) rfl ?_
      exact K36
    · 
      refine qi_icmp_ne (tgt := 33) dX6_dropsWithin_26 (by decide) (fun h => ?_) (fun h => False.elim (nI_m1 (by omega) (e.symm.trans h)))
      refine qi_iload_n (i := 2) (x := water) dX6_dropsWithin_33 rfl rfl ?_
      refine qe_top (y := nI fw) e ?_
      refine qi_istore (i := 5) (L2 := [some (.ref a), some (.int heir), some (.int water), some (.int (nI fh)), some (.int (nI lh)), some (.int (nI fw)), none, none, none, none]) dX6_dropsWithin_34 (Nat.le_of_ble_eq_true rfl) rfl ?_
      exact K36
  have K11 : qT g kX6_dropsWithin (qR 0 0 0) (qZI g (fun r M' => r = selF ρ fh lh fw lw ∧ M' = M)) 11 [some (.ref a), some (.int heir), some (.int water), some (.int (nI fh)), none, none, none, none, none, none] [] 333 M (0, 0) := by
    refine qi_iload_n (i := 1) (x := heir) dX6_dropsWithin_11 rfl rfl ?_
    refine qi_iconst (v := -1) dX6_dropsWithin_12 rfl ?_
    rcases h1 with ⟨e, f1, f2⟩ | ⟨e, f1, f2⟩
    · subst f2
      refine qi_icmp_ne (tgt := 21) dX6_dropsWithin_13 (by decide) (fun h => False.elim (h e)) (fun h => ?_)
      refine qi_bipush (v := 7) dX6_dropsWithin_16 rfl ?_
      refine qi_goto (tgt := 22) dX6_dropsWithin_18 (by decide) ?_
      refine qi_istore (i := 4) (L2 := [some (.ref a), some (.int heir), some (.int water), some (.int (nI fh)), some (.int 7), none, none, none, none, none]) dX6_dropsWithin_22 (Nat.le_of_ble_eq_true rfl) rfl ?_
      exact K24
    ·
      refine qi_icmp_ne (tgt := 21) dX6_dropsWithin_13 (by decide) (fun h => ?_) (fun h => False.elim (nI_m1 (by omega) (e.symm.trans h)))
      refine qi_iload_n (i := 1) (x := heir) dX6_dropsWithin_21 rfl rfl ?_
      refine qe_top (y := nI lh) (by rw [e, f1]) ?_
      refine qi_istore (i := 4) (L2 := [some (.ref a), some (.int heir), some (.int water), some (.int (nI fh)), some (.int (nI lh)), none, none, none, none, none]) dX6_dropsWithin_22 (Nat.le_of_ble_eq_true rfl) rfl ?_
      exact K24
  refine qI.of (j := 7) (pn_RX6) rfl ?_
  show qT g kX6_dropsWithin (qR 0 0 0) (qZI g (fun r M' => r = selF ρ fh lh fw lw ∧ M' = M)) 0 [some (.ref a), some (.int heir), some (.int water), none, none, none, none, none, none, none] [] 333 M (0, 0)
  refine qi_iload_n (i := 1) (x := heir) dX6_dropsWithin_0 rfl rfl ?_
  refine qi_iconst (v := -1) dX6_dropsWithin_1 rfl ?_
  rcases h1 with ⟨e, f1, f2⟩ | ⟨e, f1, f2⟩
  · subst f1
    refine qi_icmp_ne (tgt := 9) dX6_dropsWithin_2 (by decide) (fun h => False.elim (h e)) (fun h => ?_)
    refine qi_iconst (v := 0) dX6_dropsWithin_5 rfl ?_
    refine qi_goto (tgt := 10) dX6_dropsWithin_6 (by decide) ?_
    refine qi_istore_n (i := 3) (L2 := [some (.ref a), some (.int heir), some (.int water), some (.int 0), none, none, none, none, none, none]) dX6_dropsWithin_10 rfl (Nat.le_of_ble_eq_true rfl) rfl ?_
    exact K11
  · 
    refine qi_icmp_ne (tgt := 9) dX6_dropsWithin_2 (by decide) (fun h => ?_) (fun h => False.elim (nI_m1 (by omega) (e.symm.trans h)))
    refine qi_iload_n (i := 1) (x := heir) dX6_dropsWithin_9 rfl rfl ?_
    refine qe_top (y := nI fh) e ?_
    refine qi_istore_n (i := 3) (L2 := [some (.ref a), some (.int heir), some (.int water), some (.int (nI fh)), none, none, none, none, none, none]) dX6_dropsWithin_10 rfl (Nat.le_of_ble_eq_true rfl) rfl ?_
    exact K11
