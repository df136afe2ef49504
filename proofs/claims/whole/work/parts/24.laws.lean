/-! ThimbleSea$Laws: evaluation -/
set_option maxHeartbeats 4000000 in
theorem c_X1_mixed (g : qG) {M : qM} (h v : Int32) : qI g 0 kX1_mixed [.int h, .int v] M (fun r M' => r = mixF h v ∧ M' = M) := by
  refine qI.of (j := 1) (pn_RX1) rfl ?_
  show qT g kX1_mixed (qR 0 0 0) (qZI g (fun r M' => r = (mixF h v) ∧ M' = M)) 0 [some (.int h), some (.int v), none] [] 333 M (0, 0)
  refine qi_iload_n (i := 0) (x := h) dX1_mixed_0 rfl rfl ?_
  refine qi_iload_n (i := 1) (x := v) dX1_mixed_1 rfl rfl ?_
  refine qi_ixor dX1_mixed_2 ?_
  refine qi_ldc dX1_mixed_3 cnX1_60 ?_
  refine qi_imul dX1_mixed_5 ?_
  refine qi_sipush (v := 12345) dX1_mixed_6 rfl ?_
  refine qi_iadd dX1_mixed_9 ?_
  refine qi_istore_n (i := 2) (L2 := [some (.int h), some (.int v), some (.int (((h ^^^ v) * 1103515245) + 12345))]) dX1_mixed_10 rfl (Nat.le_of_ble_eq_true rfl) rfl ?_
  refine qi_iload_n (i := 2) (x := ((h ^^^ v) * 1103515245) + 12345) dX1_mixed_11 rfl rfl ?_
  refine qi_iload_n (i := 2) (x := ((h ^^^ v) * 1103515245) + 12345) dX1_mixed_12 rfl rfl ?_
  refine qi_bipush (v := 15) dX1_mixed_13 rfl ?_
  refine qi_iushr dX1_mixed_15 ?_
  refine qi_ixor dX1_mixed_16 ?_
  exact qi_retI rfl rfl dX1_mixed_17 (⟨rfl, rfl⟩)
set_option maxHeartbeats 4000000 in
theorem c_X1_put (g : qG) {q : Nat} {st : List Int32} {M : qM} (hq : qIsL q) (hM : qRf M) (hs : qStk M q st) (hl : st.length < 32) (x : Int32) : qV g 0 kX1_put [.ref q, .int x] M (fun M' => qStk M' q (x :: st) ∧ qFr (SL q) M M') := by
  have hlt := hq.2.2.2.2
  refine qV.of (j := 0) (pn_RX1) rfl ?_
  show qT g kX1_put (qR 0 0 0) (qZV g (fun M' => qStk M' q (x :: st) ∧ qFr (SL q) M M')) 0 [some (.ref q), some (.int x)] [] 333 M (0, 0)
  refine qi_aload_n (i := 0) (x := q) dX1_put_0 rfl rfl ?_
  refine qi_getI (x := M.1 q 3) flX1_21 dX1_put_1 hq.1 (by omega) rfl ?_
  refine qe_top (y := nI st.length) hs.2.1 ?_
  refine qi_bipush (v := 32) dX1_put_4 rfl ?_
  refine qi_icmp_ge (tgt := 29) dX1_put_6 (by decide) (fun _h => absurd ((nI_leI (a := 32) (b := st.length) (by omega) (by omega)).mp _h) (by omega)) (fun _hc => ?_)
  refine qi_aload_n (i := 0) (x := q) dX1_put_9 rfl rfl ?_
  refine qi_getR (x := q + 2) flX1_15 dX1_put_10 hq.1 (by omega) (hM q 1 (q + 2) (qref_1_1 hq.1)) ?_
  refine qi_aload_n (i := 0) (x := q) dX1_put_13 rfl rfl ?_
  refine qi_getI (x := M.1 q 3) flX1_21 dX1_put_14 hq.1 (by omega) rfl ?_
  refine qe_top (y := nI st.length) hs.2.1 ?_
  refine qi_iload_n (i := 1) (x := x) dX1_put_17 rfl rfl ?_
  refine qi_iastN (j := st.length) dX1_put_18 hq.2.2.1 (by omega) rfl (by omega) (by decide) ?_
  refine qi_aload_n (i := 0) (x := q) dX1_put_19 rfl rfl ?_
  refine qi_dup dX1_put_20 ?_
  refine qi_getI (x := (wI M (q + 2) st.length x).1 q 3) flX1_21 dX1_put_21 hq.1 (by omega) rfl ?_
  refine qi_iconst (v := 1) dX1_put_24 rfl ?_
  refine qi_iadd dX1_put_25 ?_
  refine qi_putI flX1_21 q_cls1 (ty1_3 _) dX1_put_26 hq.1 (by omega) ?_
  refine qi_retV rfl dX1_put_29 (?_)
  refine ⟨⟨by simp; omega, ?_, fun i hi => ?_⟩, (qFr.rf.wI (Or.inr rfl)).wI (Or.inl ⟨rfl, rfl⟩)⟩
  · rw [wI_s, wI_a (by omega), hs.2.1]
    exact nI_1 _
  · rw [wI_a (by omega)]
    rw [List.length_cons] at hi ⊢
    cases i with
    | zero => rw [show st.length + 1 - 1 - 0 = st.length by omega, wI_s]; rfl
    | succ i =>
      rw [wI_k (by omega), show st.length + 1 - 1 - (i + 1) = st.length - 1 - i by omega]
      exact hs.2.2 i (by omega)
set_option maxHeartbeats 4000000 in
theorem c_X1_pop (g : qG) {q : Nat} {st : List Int32} {x : Int32} {M : qM} (hq : qIsL q) (hM : qRf M) (hs : qStk M q (x :: st)) : qI g 0 kX1_pop [.ref q] M (fun r M' => r = x ∧ qStk M' q st ∧ qFr (SL q) M M') := by
  have hlt := hq.2.2.2.2
  have hlen : st.length + 1 ≤ 32 := by have := hs.1; rwa [List.length_cons] at this
  have h1 := hs.2.1
  rw [List.length_cons] at h1
  refine qI.of (j := 0) (pn_RX1) rfl ?_
  show qT g kX1_pop (qR 0 0 0) (qZI g (fun r M' => r = x ∧ qStk M' q st ∧ qFr (SL q) M M')) 0 [some (.ref q)] [] 333 M (0, 0)
  refine qi_aload_n (i := 0) (x := q) dX1_pop_0 rfl rfl ?_
  refine qi_getI (x := M.1 q 3) flX1_21 dX1_pop_1 hq.1 (by omega) rfl ?_
  refine qe_top (y := nI (st.length + 1)) h1 ?_
  refine qi_if_gt (tgt := 9) dX1_pop_4 (by decide) (fun _hc => ?_) (fun _h => absurd ((nI_ltI (a := 0) (b := st.length + 1) (by omega) (by omega)).mpr (by omega)) _h)
  refine qi_aload_n (i := 0) (x := q) dX1_pop_9 rfl rfl ?_
  refine qi_dup dX1_pop_10 ?_
  refine qi_getI (x := M.1 q 3) flX1_21 dX1_pop_11 hq.1 (by omega) rfl ?_
  refine qi_iconst (v := 1) dX1_pop_14 rfl ?_
  refine qi_isub dX1_pop_15 ?_
  refine qe_top (y := nI st.length) (by rw [h1]; exact nI_pred _) ?_
  refine qi_putI flX1_21 q_cls1 (ty1_3 _) dX1_pop_16 hq.1 (by omega) ?_
  refine qi_aload_n (i := 0) (x := q) dX1_pop_19 rfl rfl ?_
  refine qi_getR (x := q + 2) flX1_15 dX1_pop_20 hq.1 (by omega) (hM q 1 (q + 2) (qref_1_1 hq.1)) ?_
  refine qi_aload_n (i := 0) (x := q) dX1_pop_23 rfl rfl ?_
  refine qi_getI (x := (wI M q 3 (nI st.length)).1 q 3) flX1_21 dX1_pop_24 hq.1 (by omega) rfl ?_
  refine qe_top (y := nI st.length) (wI_s _ _ _ _) ?_
  refine qi_ialdN (x := (wI M q 3 (nI st.length)).1 (q + 2) st.length) (j := st.length) dX1_pop_27 hq.2.2.1 (by omega) rfl (by omega) (by decide) rfl ?_
  refine qi_retI rfl rfl dX1_pop_28 (?_)
  refine ⟨?_, ⟨by omega, wI_s _ _ _ _, fun i hi => ?_⟩, qFr.rf.wI (Or.inl ⟨rfl, rfl⟩)⟩
  · rw [wI_a (by omega)]
    have := hs.2.2 0 (by rw [List.length_cons]; omega)
    rw [List.length_cons, show st.length + 1 - 1 - 0 = st.length by omega] at this
    exact this
  · rw [wI_a (by omega)]
    have := hs.2.2 (i + 1) (by rw [List.length_cons]; omega)
    rw [List.length_cons, show st.length + 1 - 1 - (i + 1) = st.length - 1 - i by omega] at this
    exact this
