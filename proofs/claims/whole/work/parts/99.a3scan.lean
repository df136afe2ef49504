/-! the class's scan -/
def addT (T : qTk) (k p v : Nat) : qTk := if T.1 < 401 then (T.1 + 1, T.2.1, updF T.2.2.1 T.1 k, updF T.2.2.2.1 T.1 p, updF T.2.2.2.2 T.1 v) else T
def STk : Nat → Nat → Prop := fun b j => b = 5 ∨ b = 6 ∨ b = 7 ∨ (b = 4 ∧ (j = 4 ∨ j = 5))
theorem c_X8_add (g : qG) {M : qM} (hM : qRf M) {T : qTk} (hT : qTkC M T) (k p v : Nat) : qV g 0 kX8_add [.ref 4, .int (nI k), .int (nI p), .long (lN v)] M (fun M' => qTkC M' (addT T k p v) ∧ qFr STk M M') := by
  have hN := hT.1.1
  obtain ⟨⟨t1, t2⟩, h1, h2, h3⟩ := id hT
  unfold addT
  by_cases hc : T.1 < 401
  · rw [if_pos hc]
    refine qV.of (j := 0) (pn_RX8) rfl ?_
    show qT g kX8_add (qR 0 0 0) (qZV g (fun M' => qTkC M' (T.1 + 1, T.2.1, updF T.2.2.1 T.1 k, updF T.2.2.2.1 T.1 p, updF T.2.2.2.2 T.1 v) ∧ qFr STk M M')) 0 [some (.ref 4), some (.int (nI k)), some (.int (nI p)), some (.long (lN v)), none] [] 333 M (0, 0)
    refine qi_aload_n (i := 0) (x := 4) dX8_add_0 rfl rfl ?_
    refine qi_getI (x := nI T.1) flX8_25 dX8_add_1 rfl (by decide) h1 ?_
    refine qi_aload_n (i := 0) (x := 4) dX8_add_4 rfl rfl ?_
    refine qi_getR (x := 5) flX8_9 dX8_add_5 rfl (by decide) (hM 4 0 5 rfl) ?_
    refine qi_alen (v := 401) dX8_add_8 rfl (by decide) (by decide) rfl ?_
    refine qe_top (y := nI 401) rfl ?_
    refine qi_icmp_ge (tgt := 52) dX8_add_9 (by decide) (fun _h => absurd ((nI_leI (a := 401) (b := T.1) (by omega) (by omega)).mp _h) (by omega)) (fun _hc => ?_)
    refine qi_aload_n (i := 0) (x := 4) dX8_add_12 rfl rfl ?_
    refine qi_getR (x := 5) flX8_9 dX8_add_13 rfl (by decide) (hM 4 0 5 rfl) ?_
    refine qi_aload_n (i := 0) (x := 4) dX8_add_16 rfl rfl ?_
    refine qi_getI (x := nI T.1) flX8_25 dX8_add_17 rfl (by decide) h1 ?_
    refine qi_iload_n (i := 1) (x := nI k) dX8_add_20 rfl rfl ?_
    refine qi_iastN (j := T.1) dX8_add_21 rfl (by decide) rfl (by omega) (by decide) ?_
    refine qi_aload_n (i := 0) (x := 4) dX8_add_22 rfl rfl ?_
    refine qi_getR (x := 6) flX8_15 dX8_add_23 rfl (by decide) (hM 4 1 6 rfl) ?_
    refine qi_aload_n (i := 0) (x := 4) dX8_add_26 rfl rfl ?_
    refine qi_getI (x := nI T.1) flX8_25 dX8_add_27 rfl (by decide) ((wI_a (by decide)).trans h1) ?_
    refine qi_iload_n (i := 2) (x := nI p) dX8_add_30 rfl rfl ?_
    refine qi_iastN (j := T.1) dX8_add_31 rfl (by decide) rfl (by omega) (by decide) ?_
    refine qi_aload_n (i := 0) (x := 4) dX8_add_32 rfl rfl ?_
    refine qi_getR (x := 7) flX8_18 dX8_add_33 rfl (by decide) (hM 4 2 7 rfl) ?_
    refine qi_aload_n (i := 0) (x := 4) dX8_add_36 rfl rfl ?_
    refine qi_getI (x := nI T.1) flX8_25 dX8_add_37 rfl (by decide) ((wI_a (by decide)).trans ((wI_a (by decide)).trans h1)) ?_
    refine qi_lload_n (i := 3) (x := lN v) dX8_add_40 rfl rfl ?_
    refine qi_lastN (j := T.1) dX8_add_41 rfl (by decide) rfl (by omega) (by decide) ?_
    refine qi_aload_n (i := 0) (x := 4) dX8_add_42 rfl rfl ?_
    refine qi_dup dX8_add_43 ?_
    refine qi_getI (x := nI T.1) flX8_25 dX8_add_44 rfl (by decide) ((congrFun (congrFun (wJ_1 _ _ _ _) _) _).trans ((wI_a (by decide)).trans ((wI_a (by decide)).trans h1))) ?_
    refine qi_iconst (v := 1) dX8_add_47 rfl ?_
    refine qi_iadd dX8_add_48 ?_
    refine qi_putI flX8_25 q_cls8 (ty8_4 _) dX8_add_49 rfl (by decide) ?_
    refine qi_retV rfl dX8_add_52 (?_)
    refine ⟨⟨⟨by show T.1 + 1 ≤ 401; omega, t2⟩, ?_, ?_, fun i hi => ?_⟩, ?_⟩
    · rw [wI_s]
      first | rfl | exact nI_1 T.1
    · simp only [wI_1, wJ_1]
      simp
      exact h2
    · have hi2 : i < T.1 + 1 := hi
      simp only [wI_1, wJ_1, wI_2, wJ_2, updF]
      by_cases e : i = T.1
      · subst e
        simp
      · have := h3 i (by omega)
        simp [e, this]
    · refine ((((qFr.rf.wI ?_).wI ?_).wJ ?_).wI ?_) <;> unfold STk <;> omega
  · rw [if_neg hc]
    refine qV.of (j := 0) (pn_RX8) rfl ?_
    show qT g kX8_add (qR 0 0 0) (qZV g (fun M' => qTkC M' T ∧ qFr STk M M')) 0 [some (.ref 4), some (.int (nI k)), some (.int (nI p)), some (.long (lN v)), none] [] 333 M (0, 0)
    refine qi_aload_n (i := 0) (x := 4) dX8_add_0 rfl rfl ?_
    refine qi_getI (x := nI T.1) flX8_25 dX8_add_1 rfl (by decide) h1 ?_
    refine qi_aload_n (i := 0) (x := 4) dX8_add_4 rfl rfl ?_
    refine qi_getR (x := 5) flX8_9 dX8_add_5 rfl (by decide) (hM 4 0 5 rfl) ?_
    refine qi_alen (v := 401) dX8_add_8 rfl (by decide) (by decide) rfl ?_
    refine qe_top (y := nI 401) rfl ?_
    refine qi_icmp_ge (tgt := 52) dX8_add_9 (by decide) (fun _hc => ?_) (fun _h => absurd ((nI_leI (a := 401) (b := T.1) (by omega) (by omega)).mpr (by omega)) _h)
    exact qi_retV rfl dX8_add_52 (⟨hT, qFr.rf⟩)
def kwG (v : Nat) : Nat → Nat → Nat
  | _, 0 => 2
  | w, m + 1 => if wd5 w = v then 128 + w else kwG v (w + 1) m
theorem wd5_lt : ∀ i, i < 17 → wd5 i < 2 ^ 40 := by decide
theorem c_X8_kindOf (g : qG) {M : qM} (hM : qRf M) (hw : ∀ i, i < 17 → M.2.1 8 i = lN (wd5 i)) {v : Nat} (hv : v < 2 ^ 40) : qI g 0 kX8_kindOf [.ref 4, .long (lN v)] M (fun r M' => r = nI (kwG v 0 17) ∧ M' = M) := by
  have K : ∀ m w, w + m = 17 → kwG v w m = kwG v 0 17 → qT g kX8_kindOf (qR 0 0 0) (qZI g (fun r M' => r = (nI (kwG v 0 17)) ∧ M' = M)) 2 [some (.ref 4), some (.long (lN v)), none, some (.int (nI w))] [] 333 M (0, 0) := by
    intro m
    induction m with
    | zero =>
      intro w e h
      obtain rfl : w = 17 := by omega
      refine qi_iload_n (i := 3) (x := nI 17) dX8_kindOf_2 rfl rfl ?_
      refine qi_bipush (v := 17) dX8_kindOf_3 rfl ?_
      refine qi_icmp_ge (tgt := 31) dX8_kindOf_5 (by decide) (fun z => ?_) (fun z => False.elim ((z (by decide))))
      refine qi_iconst (v := 2) dX8_kindOf_31 rfl ?_
      exact qi_retI rfl rfl dX8_kindOf_32 (⟨by rw [← h]; rfl, rfl⟩)
    | succ m ih =>
      intro w e h
      refine qi_iload_n (i := 3) (x := nI w) dX8_kindOf_2 rfl rfl ?_
      refine qi_bipush (v := 17) dX8_kindOf_3 rfl ?_
      refine qi_icmp_ge (tgt := 31) dX8_kindOf_5 (by decide) (fun _h => absurd ((nI_leI (a := 17) (b := w) (by omega) (by omega)).mp _h) (by omega)) (fun _hc => ?_)
      refine qi_aload_n (i := 0) (x := 4) dX8_kindOf_8 rfl rfl ?_
      refine qi_getR (x := 8) flX8_22 dX8_kindOf_9 rfl (by decide) (hM 4 3 8 rfl) ?_
      refine qi_iload_n (i := 3) (x := nI w) dX8_kindOf_12 rfl rfl ?_
      refine qi_laldN (x := lN (wd5 w)) (j := w) dX8_kindOf_13 rfl (by decide) rfl (by omega) (by decide) (hw w (by omega)) ?_
      refine qi_lload_n (i := 1) (x := lN v) dX8_kindOf_14 rfl rfl ?_
      refine qi_lcmp dX8_kindOf_15 ?_
      by_cases hs : wd5 w = v
      ·
        refine qi_if_ne (tgt := 25) dX8_kindOf_16 (by decide) (fun z => False.elim ((z ((lg_cmp_eq _ _).mpr (by rw [hs]))))) (fun z => ?_)
        refine qi_sipush (v := 128) dX8_kindOf_19 rfl ?_
        refine qi_iload_n (i := 3) (x := nI w) dX8_kindOf_22 rfl rfl ?_
        refine qi_iadd dX8_kindOf_23 ?_
        exact qi_retI rfl rfl dX8_kindOf_24 (⟨by rw [← h, kwG, if_pos hs]; exact nI_add 128 w, rfl⟩)
      ·
        refine qi_if_ne (tgt := 25) dX8_kindOf_16 (by decide) (fun z => ?_) (fun z => False.elim ((hs ((pk_lEQ (Nat.lt_trans (wd5_lt w (by omega)) (by decide)) (Nat.lt_trans hv (by decide))).mp ((lg_cmp_eq _ _).mp z)))))
        refine qi_iinc (i := 3) (x := nI w) (v := nI (w + 1)) (L2 := [some (.ref 4), some (.long (lN v)), none, some (.int (nI (w + 1)))]) dX8_kindOf_25 rfl (nI_1 w) (Nat.le_of_ble_eq_true rfl) rfl ?_
        refine qi_goto (tgt := 2) dX8_kindOf_28 (by decide) ?_
        exact ih (w + 1) (by omega) (by rw [← h, kwG, if_neg hs])
  refine qI.of (j := 1) (pn_RX8) rfl ?_
  show qT g kX8_kindOf (qR 0 0 0) (qZI g (fun r M' => r = (nI (kwG v 0 17)) ∧ M' = M)) 0 [some (.ref 4), some (.long (lN v)), none, none] [] 333 M (0, 0)
  refine qi_iconst (v := 0) dX8_kindOf_0 rfl ?_
  refine qi_istore_n (i := 3) (L2 := [some (.ref 4), some (.long (lN v)), none, some (.int 0)]) dX8_kindOf_1 rfl (Nat.le_of_ble_eq_true rfl) rfl ?_
  exact K 17 0 rfl rfl
theorem c_X8_isBlank (g : qG) {M : qM} {c : Nat} (hc : c < 2 ^ 31) : qI g 0 kX8_isBlank [.int (nI c)] M (fun r M' => (r = 0 ∨ r = 1) ∧ (¬ r = 0 ↔ isBq c) ∧ M' = M) := by
  unfold isBq
  have YES : (c = 9 ∨ c = 10 ∨ c = 13 ∨ c = 32) → qT g kX8_isBlank (qR 0 0 0) (qZI g (fun r M' => (r = 0 ∨ r = 1) ∧ (¬ r = 0 ↔ (c = 9 ∨ c = 10 ∨ c = 13 ∨ c = 32)) ∧ M' = M)) 24 [some (.int (nI c))] [] 333 M (0, 0) := by
    intro h
    refine qi_iconst (v := 1) dX8_isBlank_24 rfl ?_
    refine qi_goto (tgt := 29) dX8_isBlank_25 (by decide) ?_
    exact qi_retI rfl (by rfl) dX8_isBlank_29 (⟨Or.inr rfl, ⟨fun _ => h, fun _ => by decide⟩, rfl⟩)
  refine qI.of (j := 0) (pn_RX8) rfl ?_
  show qT g kX8_isBlank (qR 0 0 0) (qZI g (fun r M' => (r = 0 ∨ r = 1) ∧ (¬ r = 0 ↔ (c = 9 ∨ c = 10 ∨ c = 13 ∨ c = 32)) ∧ M' = M)) 0 [some (.int (nI c))] [] 333 M (0, 0)
  refine qi_iload_n (i := 0) (x := nI c) dX8_isBlank_0 rfl rfl ?_
  refine qi_bipush (v := 9) dX8_isBlank_1 rfl ?_
  by_cases h1 : c = 9
  ·
    refine qi_icmp_eq (tgt := 24) dX8_isBlank_3 (by decide) (fun _hc => ?_) (fun _h => absurd ((nI_eq (a := c) (b := 9) (by omega) (by omega)).mpr (by omega)) _h)
    exact YES (Or.inl h1)
  refine qi_icmp_eq (tgt := 24) dX8_isBlank_3 (by decide) (fun _h => absurd ((nI_eq (a := c) (b := 9) (by omega) (by omega)).mp _h) (by omega)) (fun _hc => ?_)
  refine qi_iload_n (i := 0) (x := nI c) dX8_isBlank_6 rfl rfl ?_
  refine qi_bipush (v := 10) dX8_isBlank_7 rfl ?_
  by_cases h2 : c = 10
  ·
    refine qi_icmp_eq (tgt := 24) dX8_isBlank_9 (by decide) (fun _hc => ?_) (fun _h => absurd ((nI_eq (a := c) (b := 10) (by omega) (by omega)).mpr (by omega)) _h)
    exact YES (Or.inr (Or.inl h2))
  refine qi_icmp_eq (tgt := 24) dX8_isBlank_9 (by decide) (fun _h => absurd ((nI_eq (a := c) (b := 10) (by omega) (by omega)).mp _h) (by omega)) (fun _hc => ?_)
  refine qi_iload_n (i := 0) (x := nI c) dX8_isBlank_12 rfl rfl ?_
  refine qi_bipush (v := 13) dX8_isBlank_13 rfl ?_
  by_cases h3 : c = 13
  ·
    refine qi_icmp_eq (tgt := 24) dX8_isBlank_15 (by decide) (fun _hc => ?_) (fun _h => absurd ((nI_eq (a := c) (b := 13) (by omega) (by omega)).mpr (by omega)) _h)
    exact YES (Or.inr (Or.inr (Or.inl h3)))
  refine qi_icmp_eq (tgt := 24) dX8_isBlank_15 (by decide) (fun _h => absurd ((nI_eq (a := c) (b := 13) (by omega) (by omega)).mp _h) (by omega)) (fun _hc => ?_)
  refine qi_iload_n (i := 0) (x := nI c) dX8_isBlank_18 rfl rfl ?_
  refine qi_bipush (v := 32) dX8_isBlank_19 rfl ?_
  by_cases h4 : c = 32
  ·
    refine qi_icmp_ne (tgt := 28) dX8_isBlank_21 (by decide) (fun _h => absurd ((nI_eq (a := c) (b := 32) (by omega) (by omega)).mpr (by omega)) _h) (fun _hc => ?_)
    exact YES (Or.inr (Or.inr (Or.inr h4)))
  refine qi_icmp_ne (tgt := 28) dX8_isBlank_21 (by decide) (fun _hc => ?_) (fun _h => absurd ((nI_eq (a := c) (b := 32) (by omega) (by omega)).mp _h) (by omega))
  refine qi_iconst (v := 0) dX8_isBlank_28 rfl ?_
  exact qi_retI rfl (by rfl) dX8_isBlank_29 (⟨Or.inl rfl, ⟨fun z => absurd rfl z, fun z => by omega⟩, rfl⟩)
