/-! ThimbleSea$Laws: evaluation, whole -/
set_option maxHeartbeats 4000000 in
theorem c_X1_look (g : qG) {q : Nat} {M : qM} (hq : qIsL q) (hM : qRf M) (x0 x1 x2 x3 x4 : Int32) : qV g 0 kX1_look [.ref q, .int x0, .int x1, .int x2, .int x3, .int x4] M (fun M' => (M'.1 (q + 3) 0 = x0 ∧ M'.1 (q + 3) 1 = x1 ∧ M'.1 (q + 3) 2 = x2 ∧ M'.1 (q + 3) 3 = x3 ∧ M'.1 (q + 3) 4 = x4) ∧ qFr (fun b _ => b = q + 3) M M') := by
  have hlt := hq.2.2.2.2
  refine qV.of (j := 0) (pn_RX1) rfl ?_
  show qT g kX1_look (qR 0 0 0) (qZV g (fun M' => (M'.1 (q + 3) 0 = x0 ∧ M'.1 (q + 3) 1 = x1 ∧ M'.1 (q + 3) 2 = x2 ∧ M'.1 (q + 3) 3 = x3 ∧ M'.1 (q + 3) 4 = x4) ∧ qFr (fun b _ => b = q + 3) M M')) 0 [some (.ref q), some (.int x0), some (.int x1), some (.int x2), some (.int x3), some (.int x4)] [] 333 M (0, 0)
  refine qi_aload_n (i := 0) (x := q) dX1_look_0 rfl rfl ?_
  refine qi_getR (x := q + 3) flX1_18 dX1_look_1 hq.1 (by omega) (hM q 2 (q + 3) (qref_1_2 hq.1)) ?_
  refine qi_iconst (v := 0) dX1_look_4 rfl ?_
  refine qi_iload_n (i := 1) (x := x0) dX1_look_5 rfl rfl ?_
  refine qi_iastN (j := 0) dX1_look_6 hq.2.2.2.1 (by omega) rfl (by omega) (by decide) ?_
  refine qi_aload_n (i := 0) (x := q) dX1_look_7 rfl rfl ?_
  refine qi_getR (x := q + 3) flX1_18 dX1_look_8 hq.1 (by omega) (hM q 2 (q + 3) (qref_1_2 hq.1)) ?_
  refine qi_iconst (v := 1) dX1_look_11 rfl ?_
  refine qi_iload_n (i := 2) (x := x1) dX1_look_12 rfl rfl ?_
  refine qi_iastN (j := 1) dX1_look_13 hq.2.2.2.1 (by omega) rfl (by omega) (by decide) ?_
  refine qi_aload_n (i := 0) (x := q) dX1_look_14 rfl rfl ?_
  refine qi_getR (x := q + 3) flX1_18 dX1_look_15 hq.1 (by omega) (hM q 2 (q + 3) (qref_1_2 hq.1)) ?_
  refine qi_iconst (v := 2) dX1_look_18 rfl ?_
  refine qi_iload_n (i := 3) (x := x2) dX1_look_19 rfl rfl ?_
  refine qi_iastN (j := 2) dX1_look_20 hq.2.2.2.1 (by omega) rfl (by omega) (by decide) ?_
  refine qi_aload_n (i := 0) (x := q) dX1_look_21 rfl rfl ?_
  refine qi_getR (x := q + 3) flX1_18 dX1_look_22 hq.1 (by omega) (hM q 2 (q + 3) (qref_1_2 hq.1)) ?_
  refine qi_iconst (v := 3) dX1_look_25 rfl ?_
  refine qi_iload (i := 4) (x := x3) dX1_look_26 rfl ?_
  refine qi_iastN (j := 3) dX1_look_28 hq.2.2.2.1 (by omega) rfl (by omega) (by decide) ?_
  refine qi_aload_n (i := 0) (x := q) dX1_look_29 rfl rfl ?_
  refine qi_getR (x := q + 3) flX1_18 dX1_look_30 hq.1 (by omega) (hM q 2 (q + 3) (qref_1_2 hq.1)) ?_
  refine qi_iconst (v := 4) dX1_look_33 rfl ?_
  refine qi_iload (i := 5) (x := x4) dX1_look_34 rfl ?_
  refine qi_iastN (j := 4) dX1_look_36 hq.2.2.2.1 (by omega) rfl (by omega) (by decide) ?_
  refine qi_retV rfl dX1_look_37 (?_)
  exact ⟨⟨by simp [wI_1], by simp [wI_1], by simp [wI_1], by simp [wI_1], by simp [wI_1]⟩, ((((((qFr.rf (S := fun b _ => b = q + 3)).wI rfl).wI rfl).wI rfl).wI rfl).wI rfl)⟩
set_option maxHeartbeats 4000000 in
theorem c_X1_drawFrom (g : qG) {q : Nat} {M : qM} (hq : qIsL q) (x y : Int32) : qV g 0 kX1_drawFrom [.ref q, .int x, .int y] M (fun M' => M'.1 q 4 = x ∧ M'.1 q 5 = y ∧ qFr (fun b j => b = q ∧ (j = 4 ∨ j = 5)) M M') := by
  have hlt := hq.2.2.2.2
  refine qV.of (j := 0) (pn_RX1) rfl ?_
  show qT g kX1_drawFrom (qR 0 0 0) (qZV g (fun M' => M'.1 q 4 = x ∧ M'.1 q 5 = y ∧ qFr (fun b j => b = q ∧ (j = 4 ∨ j = 5)) M M')) 0 [some (.ref q), some (.int x), some (.int y)] [] 333 M (0, 0)
  refine qi_aload_n (i := 0) (x := q) dX1_drawFrom_0 rfl rfl ?_
  refine qi_iload_n (i := 1) (x := x) dX1_drawFrom_1 rfl rfl ?_
  refine qi_putI flX1_25 q_cls1 (ty1_4 _) dX1_drawFrom_2 hq.1 (by omega) ?_
  refine qi_aload_n (i := 0) (x := q) dX1_drawFrom_5 rfl rfl ?_
  refine qi_iload_n (i := 2) (x := y) dX1_drawFrom_6 rfl rfl ?_
  refine qi_putI flX1_28 q_cls1 (ty1_5 _) dX1_drawFrom_7 hq.1 (by omega) ?_
  exact qi_retV rfl dX1_drawFrom_10 (⟨by simp [wI_1], by simp [wI_1], (qFr.rf.wI ⟨rfl, Or.inl rfl⟩).wI ⟨rfl, Or.inr rfl⟩⟩)
set_option maxHeartbeats 4000000 in
theorem c_X1_target (g : qG) {q k sz : Nat} {M : qM} (hq : qIsL q) (hM : qRf M) (hz : M.1 q 6 = nI sz) (hsz : sz ≤ 802) (hk : k < sz) : qI g 0 kX1_target [.ref q, .int (nI k)] M (fun r M' => r = M.1 (q + 1) k ∧ M' = M) := by
  have hlt := hq.2.2.2.2
  refine qI.of (j := 0) (pn_RX1) rfl ?_
  show qT g kX1_target (qR 0 0 0) (qZI g (fun r M' => r = (M.1 (q + 1) k) ∧ M' = M)) 0 [some (.ref q), some (.int (nI k))] [] 333 M (0, 0)
  refine qi_iload_n (i := 1) (x := nI k) dX1_target_0 rfl rfl ?_
  refine qi_aload_n (i := 0) (x := q) dX1_target_1 rfl rfl ?_
  refine qi_getI (x := M.1 q 6) flX1_31 dX1_target_2 hq.1 (by omega) rfl ?_
  refine qe_top (y := nI sz) hz ?_
  refine qi_icmp_ge (tgt := 17) dX1_target_5 (by decide) (fun _h => absurd ((nI_leI (a := sz) (b := k) (by omega) (by omega)).mp _h) (by omega)) (fun _hc => ?_)
  refine qi_aload_n (i := 0) (x := q) dX1_target_8 rfl rfl ?_
  refine qi_getR (x := q + 1) flX1_11 dX1_target_9 hq.1 (by omega) (hM q 0 (q + 1) (qref_1_0 hq.1)) ?_
  refine qi_iload_n (i := 1) (x := nI k) dX1_target_12 rfl rfl ?_
  refine qi_ialdN (x := M.1 (q + 1) k) (j := k) dX1_target_13 hq.2.1 (by omega) rfl (by omega) (by decide) rfl ?_
  refine qi_goto (tgt := 18) dX1_target_14 (by decide) ?_
  exact qi_retI rfl rfl dX1_target_18 (⟨rfl, rfl⟩)
set_option maxHeartbeats 4000000 in
theorem c_X1_push (g : qG) {q : Nat} {st : List Int32} {v : Nat → Int32} {M : qM} (hq : qIsL q) (hM : qRf M) (hs : qStk M q st) (hv : qVars M q v) (hl : st.length < 32) {c : Int32} (hc : -6 ≤ c) : qV g 1 kX1_push [.ref q, .int c] M (fun M' => qStk M' q (lookF v c :: st) ∧ qFr (SL q) M M') := by
  have hlt := hq.2.2.2.2
  have K : ∀ x, x = lookF v c → qT g kX1_push (qR 1 0 0) (qZV g (fun M' => qStk M' q (lookF v c :: st) ∧ qFr (SL q) M M')) 47 [some (.ref q), some (.int c), some (.int x)] [] 333 M (0, 0) := by
    intro x ex
    rw [← ex]
    refine qi_aload_n (i := 0) (x := q) dX1_push_47 rfl rfl ?_
    refine qi_iload_n (i := 2) (x := x) dX1_push_48 rfl rfl ?_
    refine qi_callVV (K' := kX1_put) (As := [.int x]) mlX1_57 okX1_put dX1_push_49 (c_X1_put g hq hM hs hl x) hq.1 (by decide) rfl (by omega) rfl rfl (Nat.le_of_ble_eq_true rfl) ⟨(Nat.le_of_ble_eq_true rfl), (Nat.le_of_ble_eq_true rfl)⟩ ⟨Nat.le_refl _, Nat.le_refl _⟩ (fun M2 h2 => ?_)
    exact qi_retV rfl dX1_push_52 (h2)
  refine qV.of (j := 1) (pn_RX1) rfl ?_
  show qT g kX1_push (qR 1 0 0) (qZV g (fun M' => qStk M' q (lookF v c :: st) ∧ qFr (SL q) M M')) 0 [some (.ref q), some (.int c), none] [] 333 M (0, 0)
  refine qi_iload_n (i := 1) (x := c) dX1_push_0 rfl rfl ?_
  refine qi_istore_n (i := 2) (L2 := [some (.ref q), some (.int c), some (.int c)]) dX1_push_1 rfl (Nat.le_of_ble_eq_true rfl) rfl ?_
  refine qi_iload_n (i := 1) (x := c) dX1_push_2 rfl rfl ?_
  refine qi_bipush (v := -6) dX1_push_3 rfl ?_
  refine qi_icmp_ne (tgt := 34) dX1_push_5 (by decide) (fun c1 => ?_) (fun c1 => ?_)
  · refine qi_iload_n (i := 1) (x := c) dX1_push_34 rfl rfl ?_
    refine qi_if_ge (tgt := 47) dX1_push_35 (by decide) (fun c2 => ?_) (fun c2 => ?_)
    · skip
      exact K _ (by unfold lookF; rw [if_neg c1, if_pos c2])
    · have h3 : ∃ i, i < 5 ∧ -1 - c = nI i := by
        have a1 := Int32.le_iff_toInt_le.mp hc
        have a2 : ¬ (0 : Int) ≤ c.toInt := fun z => c2 (Int32.le_iff_toInt_le.mpr z)
        have a3 : (-6 : Int32).toInt = -6 := by decide
        have a4 : c.toInt ≠ -6 := fun z => c1 (Int32.toInt_inj.mp (by rw [z, a3]))
        refine ⟨(-1 - c.toInt).toNat, by omega, Int32.toInt_inj.mp ?_⟩
        rw [nI_toInt (by omega), Int32.toInt_sub]
        have a5 : (-1 : Int32).toInt = -1 := by decide
        rw [a5, Int.bmod_eq_of_le (by omega) (by omega)]
        omega
      obtain ⟨i, hi, ei⟩ := h3
      refine qi_aload_n (i := 0) (x := q) dX1_push_38 rfl rfl ?_
      refine qi_getR (x := q + 3) flX1_18 dX1_push_39 hq.1 (by omega) (hM q 2 (q + 3) (qref_1_2 hq.1)) ?_
      refine qi_iconst (v := -1) dX1_push_42 rfl ?_
      refine qi_iload_n (i := 1) (x := c) dX1_push_43 rfl rfl ?_
      refine qi_isub dX1_push_44 ?_
      refine qe_top (y := nI i) ei ?_
      refine qi_ialdN (x := M.1 (q + 3) i) (j := i) dX1_push_45 hq.2.2.2.1 (by omega) rfl (by omega) (by decide) rfl ?_
      refine qi_istore_n (i := 2) (L2 := [some (.ref q), some (.int c), some (.int (M.1 (q + 3) i))]) dX1_push_46 rfl (Nat.le_of_ble_eq_true rfl) rfl ?_
      exact K _ (by unfold lookF; rw [if_neg c1, if_neg c2, ei, nI_clamp (by omega), hv.1 i hi])
  · refine qi_aload_n (i := 0) (x := q) dX1_push_8 rfl rfl ?_
    refine qi_getI (x := M.1 q 4) flX1_25 dX1_push_9 hq.1 (by omega) rfl ?_
    refine qi_bipush (v := 24) dX1_push_12 rfl ?_
    refine qi_callPSI (v := mixF (M.1 q 4) 24) (K' := kX1_mixed) (As := [.int (M.1 q 4), .int 24]) mlX1_53 okX1_mixed dX1_push_14 (c_X1_mixed g (M.1 q 4) 24) rfl rfl (Nat.le_of_ble_eq_true rfl) ⟨(Nat.le_of_ble_eq_true rfl), (Nat.le_of_ble_eq_true rfl)⟩ ⟨Nat.le_refl _, Nat.le_refl _⟩ ?_
    refine qi_aload_n (i := 0) (x := q) dX1_push_17 rfl rfl ?_
    refine qi_getI (x := M.1 q 5) flX1_28 dX1_push_18 hq.1 (by omega) rfl ?_
    refine qi_callPSI (v := mixF (mixF (M.1 q 4) 24) (M.1 q 5)) (K' := kX1_mixed) (As := [.int (mixF (M.1 q 4) 24), .int (M.1 q 5)]) mlX1_53 okX1_mixed dX1_push_21 (c_X1_mixed g (mixF (M.1 q 4) 24) (M.1 q 5)) rfl rfl (Nat.le_of_ble_eq_true rfl) ⟨(Nat.le_of_ble_eq_true rfl), (Nat.le_of_ble_eq_true rfl)⟩ ⟨Nat.le_refl _, Nat.le_refl _⟩ ?_
    refine qi_iconst (v := 1) dX1_push_24 rfl ?_
    refine qi_iushr dX1_push_25 ?_
    refine qi_sipush (v := 1000) dX1_push_26 rfl ?_
    refine qi_irem dX1_push_29 (by decide) ?_
    refine qi_istore_n (i := 2) (L2 := [some (.ref q), some (.int c), some (.int ((((mixF (mixF (M.1 q 4) 24) (M.1 q 5)).toUInt32 >>> ((1 : Int32).toUInt32 &&& Int32.toUInt32 31)).toInt32) - (((mixF (mixF (M.1 q 4) 24) (M.1 q 5)).toUInt32 >>> ((1 : Int32).toUInt32 &&& Int32.toUInt32 31)).toInt32) / 1000 * 1000))]) dX1_push_30 rfl (Nat.le_of_ble_eq_true rfl) rfl ?_
    refine qi_goto (tgt := 47) dX1_push_31 (by decide) ?_
    exact K _ (by unfold lookF; rw [if_pos c1, ← hv.2]; rfl)
set_option maxHeartbeats 4000000 in
theorem c_X1_operate (g : qG) {q : Nat} {st : List Int32} {M : qM} (hq : qIsL q) (hM : qRf M) {l r : Int32} (hs : qStk M q (l :: st)) {c : Int32} (hc : c = -7 ∨ c = -8 ∨ c = -9 ∨ (c = -10 ∧ ¬ r = 0)) : qV g 1 kX1_operate [.ref q, .int c, .int r] M (fun M' => qStk M' q (opF c l r :: st) ∧ qFr (SL q) M M') := by
  have hlt := hq.2.2.2.2
  have hlen : st.length < 32 := by have := hs.1; rw [List.length_cons] at this; omega
  refine qV.of (j := 1) (pn_RX1) rfl ?_
  show qT g kX1_operate (qR 1 0 0) (qZV g (fun M' => qStk M' q (opF c l r :: st) ∧ qFr (SL q) M M')) 0 [some (.ref q), some (.int c), some (.int r), none] [] 333 M (0, 0)
  refine qi_aload_n (i := 0) (x := q) dX1_operate_0 rfl rfl ?_
  refine qi_callVI (K' := kX1_pop) (As := []) mlX1_38 okX1_pop dX1_operate_1 (c_X1_pop g hq hM hs) hq.1 (by decide) rfl (by omega) rfl rfl (Nat.le_of_ble_eq_true rfl) ⟨(Nat.le_of_ble_eq_true rfl), (Nat.le_of_ble_eq_true rfl)⟩ ⟨Nat.le_refl _, Nat.le_refl _⟩ (fun l2 M2 ⟨e1, hs2, hf2⟩ => ?_)
  rw [e1]
  have hM2 : qRf M2 := hM.fr hf2
  refine qi_istore_n (i := 3) (L2 := [some (.ref q), some (.int c), some (.int r), some (.int l)]) dX1_operate_4 rfl (Nat.le_of_ble_eq_true rfl) rfl ?_
  refine qi_iload_n (i := 1) (x := c) dX1_operate_5 rfl rfl ?_
  refine qi_bipush (v := -7) dX1_operate_6 rfl ?_
  refine qi_icmp_ne (tgt := 21) dX1_operate_8 (by decide) (fun c1 => ?_) (fun c1 => ?_)
  · refine qi_iload_n (i := 1) (x := c) dX1_operate_21 rfl rfl ?_
    refine qi_bipush (v := -8) dX1_operate_22 rfl ?_
    refine qi_icmp_ne (tgt := 37) dX1_operate_24 (by decide) (fun c2 => ?_) (fun c2 => ?_)
    · refine qi_iload_n (i := 1) (x := c) dX1_operate_37 rfl rfl ?_
      refine qi_bipush (v := -9) dX1_operate_38 rfl ?_
      refine qi_icmp_ne (tgt := 53) dX1_operate_40 (by decide) (fun c3 => ?_) (fun c3 => ?_)
      · have hr : ¬ r = 0 := by rcases hc with h | h | h | h <;> first | exact absurd h c1 | exact absurd h c2 | exact absurd h c3 | exact h.2
        refine qi_iload_n (i := 2) (x := r) dX1_operate_53 rfl rfl ?_
        refine qi_if_eq (tgt := 64) dX1_operate_54 (by decide) (fun h => False.elim ((hr h))) (fun h => ?_)
        refine qi_aload_n (i := 0) (x := q) dX1_operate_57 rfl rfl ?_
        refine qi_iload_n (i := 3) (x := l) dX1_operate_58 rfl rfl ?_
        refine qi_iload_n (i := 2) (x := r) dX1_operate_59 rfl rfl ?_
        refine qi_idiv dX1_operate_60 hr ?_
        refine qi_callVV (K' := kX1_put) (As := [.int (l / r)]) mlX1_57 okX1_put dX1_operate_61 (c_X1_put g hq hM2 hs2 hlen (l / r)) hq.1 (by decide) rfl (by omega) rfl rfl (Nat.le_of_ble_eq_true rfl) ⟨(Nat.le_of_ble_eq_true rfl), (Nat.le_of_ble_eq_true rfl)⟩ ⟨Nat.le_refl _, Nat.le_refl _⟩ (fun M3 ⟨h3, hf3⟩ => ?_)
        exact qi_retV rfl dX1_operate_64 (⟨by unfold opF; rw [if_neg c1, if_neg c2, if_neg c3]; exact h3, hf2.tr hf3⟩)
      · refine qi_aload_n (i := 0) (x := q) dX1_operate_43 rfl rfl ?_
        refine qi_iload_n (i := 3) (x := l) dX1_operate_44 rfl rfl ?_
        refine qi_iload_n (i := 2) (x := r) dX1_operate_45 rfl rfl ?_
        refine qi_imul dX1_operate_46 ?_
        refine qi_callVV (K' := kX1_put) (As := [.int (l * r)]) mlX1_57 okX1_put dX1_operate_47 (c_X1_put g hq hM2 hs2 hlen (l * r)) hq.1 (by decide) rfl (by omega) rfl rfl (Nat.le_of_ble_eq_true rfl) ⟨(Nat.le_of_ble_eq_true rfl), (Nat.le_of_ble_eq_true rfl)⟩ ⟨Nat.le_refl _, Nat.le_refl _⟩ (fun M3 ⟨h3, hf3⟩ => ?_)
        refine qi_goto (tgt := 64) dX1_operate_50 (by decide) ?_
        exact qi_retV rfl dX1_operate_64 (⟨by unfold opF; rw [if_neg c1, if_neg c2, if_pos c3]; exact h3, hf2.tr hf3⟩)
    · refine qi_aload_n (i := 0) (x := q) dX1_operate_27 rfl rfl ?_
      refine qi_iload_n (i := 3) (x := l) dX1_operate_28 rfl rfl ?_
      refine qi_iload_n (i := 2) (x := r) dX1_operate_29 rfl rfl ?_
      refine qi_isub dX1_operate_30 ?_
      refine qi_callVV (K' := kX1_put) (As := [.int (l - r)]) mlX1_57 okX1_put dX1_operate_31 (c_X1_put g hq hM2 hs2 hlen (l - r)) hq.1 (by decide) rfl (by omega) rfl rfl (Nat.le_of_ble_eq_true rfl) ⟨(Nat.le_of_ble_eq_true rfl), (Nat.le_of_ble_eq_true rfl)⟩ ⟨Nat.le_refl _, Nat.le_refl _⟩ (fun M3 ⟨h3, hf3⟩ => ?_)
      refine qi_goto (tgt := 64) dX1_operate_34 (by decide) ?_
      exact qi_retV rfl dX1_operate_64 (⟨by unfold opF; rw [if_neg c1, if_pos c2]; exact h3, hf2.tr hf3⟩)
  · refine qi_aload_n (i := 0) (x := q) dX1_operate_11 rfl rfl ?_
    refine qi_iload_n (i := 3) (x := l) dX1_operate_12 rfl rfl ?_
    refine qi_iload_n (i := 2) (x := r) dX1_operate_13 rfl rfl ?_
    refine qi_iadd dX1_operate_14 ?_
    refine qi_callVV (K' := kX1_put) (As := [.int (l + r)]) mlX1_57 okX1_put dX1_operate_15 (c_X1_put g hq hM2 hs2 hlen (l + r)) hq.1 (by decide) rfl (by omega) rfl rfl (Nat.le_of_ble_eq_true rfl) ⟨(Nat.le_of_ble_eq_true rfl), (Nat.le_of_ble_eq_true rfl)⟩ ⟨Nat.le_refl _, Nat.le_refl _⟩ (fun M3 ⟨h3, hf3⟩ => ?_)
    refine qi_goto (tgt := 64) dX1_operate_18 (by decide) ?_
    exact qi_retV rfl dX1_operate_64 (⟨by unfold opF; rw [if_pos c1]; exact h3, hf2.tr hf3⟩)
