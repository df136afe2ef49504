/-! the class's scan -/
def addT (T : qTk) (k p v : Nat) : qTk := if T.1 < 401 then (T.1 + 1, T.2.1, updF T.2.2.1 T.1 k, updF T.2.2.2.1 T.1 p, updF T.2.2.2.2 T.1 v) else T
def STk : Nat → Nat → Prop := fun b j => b = 5 ∨ b = 6 ∨ b = 7 ∨ (b = 4 ∧ (j = 4 ∨ j = 5))
theorem c_X8_add (g : qG) {M : qM} (hM : qRf M) {T : qTk} (hT : qTkC M T) (k p v : Nat) : qV g 0 kX8_add [.ref 4, .int (nI k), .int (nI p), .long (lN v)] M (fun M' => qTkC M' (addT T k p v) ∧ qFr STk M M') := by
  have hN := hT.1.1
  obtain ⟨⟨t1, t2⟩, h1, h2, h3⟩ := id hT
  unfold addT
  by_cases hc : T.1 < 401
  · rw [if_pos hc]
    refine qV.of (j := 0) (pn_RX8) rfl ?_
    show qT g kX8_add (qR 0 0 0) (qZV g (fun M' => qTkC M' (T.1 + 1, T.2.1, updF T.2.2.1 T.1 k, updF T.2.2.2.1 T.1 p, updF T.2.2.2.2 T.1 v) ∧ qFr STk M M')) 0 [some (.ref 4), some (.int (nI k)), some (.int (nI p)), some (.long (lN v)), none] [] 333 M (0, 0)
    refine qi_aload_n (i := 0) (x := 4) dX8_add_0 rfl rfl ?_
    refine qi_getI (x := nI T.1) flX8_25 dX8_add_1 rfl (by decide) h1 ?_
    refine qi_aload_n (i := 0) (x := 4) dX8_add_4 rfl rfl ?_
    refine qi_getR (x := 5) flX8_9 dX8_add_5 rfl (by decide) (hM 4 0 5 rfl) ?_
    refine qi_alen (v := 401) dX8_add_8 rfl (by decide) (by decide) rfl ?_
    refine qe_top (y := nI 401) rfl ?_
    refine qi_icmp_ge (tgt := 52) dX8_add_9 (by decide) (fun _h => absurd ((nI_leI (a := 401) (b := T.1) (by omega) (by omega)).mp _h) (by omega)) (fun _hc => ?_)
    refine qi_aload_n (i := 0) (x := 4) dX8_add_12 rfl rfl ?_
    refine qi_getR (x := 5) flX8_9 dX8_add_13 rfl (by decide) (hM 4 0 5 rfl) ?_
    refine qi_aload_n (i := 0) (x := 4) dX8_add_16 rfl rfl ?_
    refine qi_getI (x := nI T.1) flX8_25 dX8_add_17 rfl (by decide) h1 ?_
    refine qi_iload_n (i := 1) (x := nI k) dX8_add_20 rfl rfl ?_
    refine qi_iastN (j := T.1) dX8_add_21 rfl (by decide) rfl (by omega) (by decide) ?_
    refine qi_aload_n (i := 0) (x := 4) dX8_add_22 rfl rfl ?_
    refine qi_getR (x := 6) flX8_15 dX8_add_23 rfl (by decide) (hM 4 1 6 rfl) ?_
    refine qi_aload_n (i := 0) (x := 4) dX8_add_26 rfl rfl ?_
    refine qi_getI (x := nI T.1) flX8_25 dX8_add_27 rfl (by decide) ((wI_a (by decide)).trans h1) ?_
    refine qi_iload_n (i := 2) (x := nI p) dX8_add_30 rfl rfl ?_
    refine qi_iastN (j := T.1) dX8_add_31 rfl (by decide) rfl (by omega) (by decide) ?_
    refine qi_aload_n (i := 0) (x := 4) dX8_add_32 rfl rfl ?_
    refine qi_getR (x := 7) flX8_18 dX8_add_33 rfl (by decide) (hM 4 2 7 rfl) ?_
    refine qi_aload_n (i := 0) (x := 4) dX8_add_36 rfl rfl ?_
    refine qi_getI (x := nI T.1) flX8_25 dX8_add_37 rfl (by decide) ((wI_a (by decide)).trans ((wI_a (by decide)).trans h1)) ?_
    refine qi_lload_n (i := 3) (x := lN v) dX8_add_40 rfl rfl ?_
    refine qi_lastN (j := T.1) dX8_add_41 rfl (by decide) rfl (by omega) (by decide) ?_
    refine qi_aload_n (i := 0) (x := 4) dX8_add_42 rfl rfl ?_
    refine qi_dup dX8_add_43 ?_
    refine qi_getI (x := nI T.1) flX8_25 dX8_add_44 rfl (by decide) ((congrFun (congrFun (wJ_1 _ _ _ _) _) _).trans ((wI_a (by decide)).trans ((wI_a (by decide)).trans h1))) ?_
    refine qi_iconst (v := 1) dX8_add_47 rfl ?_
    refine qi_iadd dX8_add_48 ?_
    refine qi_putI flX8_25 q_cls8 (ty8_4 _) dX8_add_49 rfl (by decide) ?_
    refine qi_retV rfl dX8_add_52 (?_)
    refine ⟨⟨⟨by show T.1 + 1 ≤ 401; omega, t2⟩, ?_, ?_, fun i hi => ?_⟩, ?_⟩
    · rw [wI_s]
      first | rfl | exact nI_1 T.1
    · simp only [wI_1, wJ_1]
      simp
      exact h2
    · have hi2 : i < T.1 + 1 := hi
      simp only [wI_1, wJ_1, wI_2, wJ_2, updF]
      by_cases e : i = T.1
      · subst e
        simp
      · have := h3 i (by omega)
        simp [e, this]
    · refine ((((qFr.rf.wI ?_).wI ?_).wJ ?_).wI ?_) <;> unfold STk <;> omega
  · rw [if_neg hc]
    refine qV.of (j := 0) (pn_RX8) rfl ?_
    show qT g kX8_add (qR 0 0 0) (qZV g (fun M' => qTkC M' T ∧ qFr STk M M')) 0 [some (.ref 4), some (.int (nI k)), some (.int (nI p)), some (.long (lN v)), none] [] 333 M (0, 0)
    refine qi_aload_n (i := 0) (x := 4) dX8_add_0 rfl rfl ?_
    refine qi_getI (x := nI T.1) flX8_25 dX8_add_1 rfl (by decide) h1 ?_
    refine qi_aload_n (i := 0) (x := 4) dX8_add_4 rfl rfl ?_
    refine qi_getR (x := 5) flX8_9 dX8_add_5 rfl (by decide) (hM 4 0 5 rfl) ?_
    refine qi_alen (v := 401) dX8_add_8 rfl (by decide) (by decide) rfl ?_
    refine qe_top (y := nI 401) rfl ?_
    refine qi_icmp_ge (tgt := 52) dX8_add_9 (by decide) (fun _hc => ?_) (fun _h => absurd ((nI_leI (a := 401) (b := T.1) (by omega) (by omega)).mpr (by omega)) _h)
    exact qi_retV rfl dX8_add_52 (⟨hT, qFr.rf⟩)
