/-! ThimbleSeaModel: copies, begins, termOf -/
def qNow (M : qM) (ρ : Nat → Int32) : Prop := ∀ k, k < 66 → M.1 321 k = ρ k
set_option maxHeartbeats 1000000 in
theorem c_X12_copies (g : qG) {M : qM} (hM : qRf M) {ρ : Nat → Int32} (hN : qNow M ρ) : qV g 0 kX12_copies [.ref 280] M (fun M' => qRow M' ρ ∧ M'.1 280 60 = -1 ∧ M'.1 280 61 = -1 ∧ (∀ k, k < 80 → M'.1 322 k = M.1 321 k) ∧ qFr SM M M') := by
  have K : ∀ m j M1, j + m = 80 → qFr SM M M1 → (∀ k, k < j → M1.1 322 k = M.1 321 k) → qT g kX12_copies (qR 0 0 0) (qZV g (fun M' => qRow M' ρ ∧ M'.1 280 60 = -1 ∧ M'.1 280 61 = -1 ∧ (∀ k, k < 80 → M'.1 322 k = M.1 321 k) ∧ qFr SM M M')) 2 [some (.ref 280), some (.int (nI j))] [] 333 M1 (0, 0) := by
    intro m
    induction m with
    | zero =>
      intro j M1 e hf h
      have hM1 := hM.fr hf
      refine qi_iload_n (i := 1) (x := nI j) dX12_copies_2 rfl rfl ?_
      refine qi_bipush (v := 80) dX12_copies_3 rfl ?_
      refine qi_icmp_ge (tgt := 26) dX12_copies_5 (by decide) (fun _hc => ?_) (fun _h => absurd ((nI_leI (a := 80) (b := j) (by omega) (by omega)).mpr (by omega)) _h)
      refine qi_aload_n (i := 0) (x := 280) dX12_copies_26 rfl rfl ?_
      refine qi_iconst (v := -1) dX12_copies_27 rfl ?_
      refine qi_putI flX12_342 q_cls12 (ty12_60 _) dX12_copies_28 rfl (by decide) ?_
      refine qi_aload_n (i := 0) (x := 280) dX12_copies_31 rfl rfl ?_
      refine qi_iconst (v := -1) dX12_copies_32 rfl ?_
      refine qi_putI flX12_345 q_cls12 (ty12_61 _) dX12_copies_33 rfl (by decide) ?_
      refine qi_retV rfl dX12_copies_36 (?_)
      refine ⟨fun k hk => ?_, by rw [wI_k (by omega), wI_s], wI_s _ _ _ _, fun k hk => ?_, (hf.wI (by unfold SM; omega)).wI (by unfold SM; omega)⟩
      · rw [wI_a (by omega), wI_a (by omega), h k (by omega)]
        exact hN k hk
      · rw [wI_a (by omega), wI_a (by omega)]
        exact h k (by omega)
    | succ m ih =>
      intro j M1 e hf h
      have hM1 := hM.fr hf
      refine qi_iload_n (i := 1) (x := nI j) dX12_copies_2 rfl rfl ?_
      refine qi_bipush (v := 80) dX12_copies_3 rfl ?_
      refine qi_icmp_ge (tgt := 26) dX12_copies_5 (by decide) (fun _h => absurd ((nI_leI (a := 80) (b := j) (by omega) (by omega)).mp _h) (by omega)) (fun _hc => ?_)
      refine qi_aload_n (i := 0) (x := 280) dX12_copies_8 rfl rfl ?_
      refine qi_getR (x := 322) flX12_143 dX12_copies_9 rfl (by decide) (hM1 280 59 322 rfl) ?_
      refine qi_iload_n (i := 1) (x := nI j) dX12_copies_12 rfl rfl ?_
      refine qi_aload_n (i := 0) (x := 280) dX12_copies_13 rfl rfl ?_
      refine qi_getR (x := 321) flX12_140 dX12_copies_14 rfl (by decide) (hM1 280 58 321 rfl) ?_
      refine qi_iload_n (i := 1) (x := nI j) dX12_copies_17 rfl rfl ?_
      refine qi_ialdN (x := M1.1 321 j) (j := j) dX12_copies_18 rfl (by decide) rfl (by omega) (by decide) rfl ?_
      refine qi_iastN (j := j) dX12_copies_19 rfl (by decide) rfl (by omega) (by decide) ?_
      refine qi_iinc (i := 1) (x := nI j) (v := nI (j + 1)) (L2 := [some (.ref 280), some (.int (nI (j + 1)))]) dX12_copies_20 rfl (nI_1 j) (Nat.le_of_ble_eq_true rfl) rfl ?_
      refine qi_goto (tgt := 2) dX12_copies_23 (by decide) ?_
      refine ih (j + 1) _ (by omega) (hf.wI (by unfold SM; omega)) (fun k hk => ?_)
      have e1 : M1.1 321 j = M.1 321 j := hf.1 _ _ (by unfold SM; omega)
      by_cases hkj : k = j
      · rw [hkj, wI_s, e1]
      · rw [wI_k hkj]
        exact h k (by omega)
  refine qV.of (j := 1) (pn_RX12) rfl ?_
  show qT g kX12_copies (qR 0 0 0) (qZV g (fun M' => qRow M' ρ ∧ M'.1 280 60 = -1 ∧ M'.1 280 61 = -1 ∧ (∀ k, k < 80 → M'.1 322 k = M.1 321 k) ∧ qFr SM M M')) 0 [some (.ref 280), none] [] 333 M (0, 0)
  refine qi_iconst (v := 0) dX12_copies_0 rfl ?_
  refine qi_istore_n (i := 1) (L2 := [some (.ref 280), some (.int 0)]) dX12_copies_1 rfl (Nat.le_of_ble_eq_true rfl) rfl ?_
  exact K 80 0 M (by omega) qFr.rf (fun k hk => absurd hk (Nat.not_lt_zero _))
set_option maxHeartbeats 1000000 in
theorem c_X12_begins (g : qG) {M : qM} (hM : qRf M) {L : Nat} {π : qPl} (hP : qPlanM M L π) (hok : okPl π) : qV g 0 kX12_begins [.ref 280] M (fun M' => (∀ k, k < 80 → M'.1 322 k = beginF π k) ∧ M'.1 280 60 = -1 ∧ M'.1 280 61 = -1 ∧ qFr SM M M') := by
  have hL := hP.1.1
  have hh8 := hok.2.1
  have K2 : ∀ m j M1, j + m = π.1 1 → qFr SM M M1 → (∀ k, k < 80 → M1.1 322 k = if 48 ≤ k ∧ k < 48 + j then nI (π.2.1 2 (k - 48)) else 0) → qT g kX12_begins (qR 0 0 0) (qZV g (fun M' => (∀ k, k < 80 → M'.1 322 k = beginF π k) ∧ M'.1 280 60 = -1 ∧ M'.1 280 61 = -1 ∧ qFr SM M M')) 23 [some (.ref 280), some (.int (nI j))] [] 333 M1 (0, 0) := by
    intro m
    induction m with
    | zero =>
      intro j M1 e hf h
      have hM1 := hM.fr hf
      have eL : M1.1 280 18 = nI L := (hf.1 _ _ (by unfold SM; omega)).trans hP.1.2
      have eh : M1.1 294 L = nI (π.1 1) := (hf.1 _ _ (by unfold SM; omega)).trans hP.2.1.2.1
      refine qi_iload_n (i := 1) (x := nI j) dX12_begins_23 rfl rfl ?_
      refine qi_aload_n (i := 0) (x := 280) dX12_begins_24 rfl rfl ?_
      refine qi_getR (x := 294) flX12_58 dX12_begins_25 rfl (by decide) (hM1 280 27 294 rfl) ?_
      refine qi_aload_n (i := 0) (x := 280) dX12_begins_28 rfl rfl ?_
      refine qi_getI (x := M1.1 280 18) flX12_248 dX12_begins_29 rfl (by decide) rfl ?_
      refine qe_top (y := nI L) eL ?_
      refine qi_ialdN (x := M1.1 294 L) (j := L) dX12_begins_32 rfl (by decide) rfl (by omega) (by decide) rfl ?_
      refine qe_top (y := nI (π.1 1)) eh ?_
      refine qi_icmp_ge (tgt := 65) dX12_begins_33 (by decide) (fun _hc => ?_) (fun _h => absurd ((nI_leI (a := π.1 1) (b := j) (by omega) (by omega)).mpr (by omega)) _h)
      refine qi_aload_n (i := 0) (x := 280) dX12_begins_65 rfl rfl ?_
      refine qi_iconst (v := -1) dX12_begins_66 rfl ?_
      refine qi_putI flX12_342 q_cls12 (ty12_60 _) dX12_begins_67 rfl (by decide) ?_
      refine qi_aload_n (i := 0) (x := 280) dX12_begins_70 rfl rfl ?_
      refine qi_iconst (v := -1) dX12_begins_71 rfl ?_
      refine qi_putI flX12_345 q_cls12 (ty12_61 _) dX12_begins_72 rfl (by decide) ?_
      refine qi_retV rfl dX12_begins_75 (?_)
      refine ⟨fun k hk => ?_, by rw [wI_k (by omega), wI_s], wI_s _ _ _ _, (hf.wI (by unfold SM; omega)).wI (by unfold SM; omega)⟩
      rw [wI_a (by omega), wI_a (by omega), h k hk]
      unfold beginF
      rw [show j = π.1 1 by omega]
    | succ m ih =>
      intro j M1 e hf h
      have hM1 := hM.fr hf
      have eL : M1.1 280 18 = nI L := (hf.1 _ _ (by unfold SM; omega)).trans hP.1.2
      have eh : M1.1 294 L = nI (π.1 1) := (hf.1 _ _ (by unfold SM; omega)).trans hP.2.1.2.1
      have es : M1.1 295 (8 * L + j) = nI (π.2.1 2 j) := (hf.1 _ _ (by unfold SM; omega)).trans (hP.2.2.2.1 0 j (by omega) (by omega))
      refine qi_iload_n (i := 1) (x := nI j) dX12_begins_23 rfl rfl ?_
      refine qi_aload_n (i := 0) (x := 280) dX12_begins_24 rfl rfl ?_
      refine qi_getR (x := 294) flX12_58 dX12_begins_25 rfl (by decide) (hM1 280 27 294 rfl) ?_
      refine qi_aload_n (i := 0) (x := 280) dX12_begins_28 rfl rfl ?_
      refine qi_getI (x := M1.1 280 18) flX12_248 dX12_begins_29 rfl (by decide) rfl ?_
      refine qe_top (y := nI L) eL ?_
      refine qi_ialdN (x := M1.1 294 L) (j := L) dX12_begins_32 rfl (by decide) rfl (by omega) (by decide) rfl ?_
      refine qe_top (y := nI (π.1 1)) eh ?_
      refine qi_icmp_ge (tgt := 65) dX12_begins_33 (by decide) (fun _h => absurd ((nI_leI (a := π.1 1) (b := j) (by omega) (by omega)).mp _h) (by omega)) (fun _hc => ?_)
      refine qi_aload_n (i := 0) (x := 280) dX12_begins_36 rfl rfl ?_
      refine qi_getR (x := 322) flX12_143 dX12_begins_37 rfl (by decide) (hM1 280 59 322 rfl) ?_
      refine qi_bipush (v := 48) dX12_begins_40 rfl ?_
      refine qi_iload_n (i := 1) (x := nI j) dX12_begins_42 rfl rfl ?_
      refine qi_iadd dX12_begins_43 ?_
      refine qe_top (y := nI (48 + j)) (by rw [show (48 : Int32) = nI 48 from rfl, nI_add]) ?_
      refine qi_aload_n (i := 0) (x := 280) dX12_begins_44 rfl rfl ?_
      refine qi_getR (x := 295) flX12_61 dX12_begins_45 rfl (by decide) (hM1 280 28 295 rfl) ?_
      refine qi_bipush (v := 8) dX12_begins_48 rfl ?_
      refine qi_aload_n (i := 0) (x := 280) dX12_begins_50 rfl rfl ?_
      refine qi_getI (x := M1.1 280 18) flX12_248 dX12_begins_51 rfl (by decide) rfl ?_
      refine qe_top (y := nI L) eL ?_
      refine qi_imul dX12_begins_54 ?_
      refine qi_iload_n (i := 1) (x := nI j) dX12_begins_55 rfl rfl ?_
      refine qi_iadd dX12_begins_56 ?_
      refine qe_top (y := nI (8 * L + j)) (by rw [show (8 : Int32) = nI 8 from rfl, pk_mul, nI_add]) ?_
      refine qi_ialdN (x := M1.1 295 (8 * L + j)) (j := 8 * L + j) dX12_begins_57 rfl (by decide) rfl (by omega) (by decide) rfl ?_
      refine qe_top (y := nI (π.2.1 2 j)) es ?_
      refine qi_iastN (j := 48 + j) dX12_begins_58 rfl (by decide) rfl (by omega) (by decide) ?_
      refine qi_iinc (i := 1) (x := nI j) (v := nI (j + 1)) (L2 := [some (.ref 280), some (.int (nI (j + 1)))]) dX12_begins_59 rfl (nI_1 j) (Nat.le_of_ble_eq_true rfl) rfl ?_
      refine qi_goto (tgt := 23) dX12_begins_62 (by decide) ?_
      refine ih (j + 1) _ (by omega) (hf.wI (by unfold SM; omega)) (fun k hk => ?_)
      have q := h k hk
      by_cases hkj : k = 48 + j
      · rw [hkj, wI_s, if_pos (by omega), show 48 + j - 48 = j by omega]
      · rw [wI_k hkj, q]
        by_cases h48 : 48 ≤ k ∧ k < 48 + j
        · rw [if_pos h48, if_pos (by omega)]
        · rw [if_neg h48, if_neg (by omega)]
  have K : ∀ m j M1, j + m = 80 → qFr SM M M1 → (∀ k, k < j → M1.1 322 k = 0) → qT g kX12_begins (qR 0 0 0) (qZV g (fun M' => (∀ k, k < 80 → M'.1 322 k = beginF π k) ∧ M'.1 280 60 = -1 ∧ M'.1 280 61 = -1 ∧ qFr SM M M')) 2 [some (.ref 280), some (.int (nI j))] [] 333 M1 (0, 0) := by
    intro m
    induction m with
    | zero =>
      intro j M1 e hf h
      have hM1 := hM.fr hf
      refine qi_iload_n (i := 1) (x := nI j) dX12_begins_2 rfl rfl ?_
      refine qi_bipush (v := 80) dX12_begins_3 rfl ?_
      refine qi_icmp_ge (tgt := 21) dX12_begins_5 (by decide) (fun _hc => ?_) (fun _h => absurd ((nI_leI (a := 80) (b := j) (by omega) (by omega)).mpr (by omega)) _h)
      refine qi_iconst (v := 0) dX12_begins_21 rfl ?_
      refine qi_istore_n (i := 1) (L2 := [some (.ref 280), some (.int 0)]) dX12_begins_22 rfl (Nat.le_of_ble_eq_true rfl) rfl ?_
      refine K2 (π.1 1) 0 M1 (by omega) hf (fun k hk => ?_)
      rw [h k (by omega), if_neg (by omega)]
    | succ m ih =>
      intro j M1 e hf h
      have hM1 := hM.fr hf
      refine qi_iload_n (i := 1) (x := nI j) dX12_begins_2 rfl rfl ?_
      refine qi_bipush (v := 80) dX12_begins_3 rfl ?_
      refine qi_icmp_ge (tgt := 21) dX12_begins_5 (by decide) (fun _h => absurd ((nI_leI (a := 80) (b := j) (by omega) (by omega)).mp _h) (by omega)) (fun _hc => ?_)
      refine qi_aload_n (i := 0) (x := 280) dX12_begins_8 rfl rfl ?_
      refine qi_getR (x := 322) flX12_143 dX12_begins_9 rfl (by decide) (hM1 280 59 322 rfl) ?_
      refine qi_iload_n (i := 1) (x := nI j) dX12_begins_12 rfl rfl ?_
      refine qi_iconst (v := 0) dX12_begins_13 rfl ?_
      refine qi_iastN (j := j) dX12_begins_14 rfl (by decide) rfl (by omega) (by decide) ?_
      refine qi_iinc (i := 1) (x := nI j) (v := nI (j + 1)) (L2 := [some (.ref 280), some (.int (nI (j + 1)))]) dX12_begins_15 rfl (nI_1 j) (Nat.le_of_ble_eq_true rfl) rfl ?_
      refine qi_goto (tgt := 2) dX12_begins_18 (by decide) ?_
      refine ih (j + 1) _ (by omega) (hf.wI (by unfold SM; omega)) (fun k hk => ?_)
      by_cases hkj : k = j
      · rw [hkj, wI_s]
      · rw [wI_k hkj]
        exact h k (by omega)
  refine qV.of (j := 1) (pn_RX12) rfl ?_
  show qT g kX12_begins (qR 0 0 0) (qZV g (fun M' => (∀ k, k < 80 → M'.1 322 k = beginF π k) ∧ M'.1 280 60 = -1 ∧ M'.1 280 61 = -1 ∧ qFr SM M M')) 0 [some (.ref 280), none] [] 333 M (0, 0)
  refine qi_iconst (v := 0) dX12_begins_0 rfl ?_
  refine qi_istore_n (i := 1) (L2 := [some (.ref 280), some (.int 0)]) dX12_begins_1 rfl (Nat.le_of_ble_eq_true rfl) rfl ?_
  exact K 80 0 M (by omega) qFr.rf (fun k hk => absurd hk (Nat.not_lt_zero _))
def qPile (M : qM) (st : List Int32) : Prop := ∀ i, i < st.length → M.1 320 (st.length - 1 - i) = st.getD i 0
/-- what one run over the cells writes -/
def ST : Nat → Nat → Prop := fun b j => b = 320 ∨ (b = 280 ∧ j = 57)
set_option maxHeartbeats 1000000 in
theorem c_X12_termOf (g : qG) {M : qM} (hM : qRf M) {v : Nat → Int32} (hv : ∀ i, i < 6 → M.1 319 i = v i) {fl : Int32} (hb0 : M.1 280 57 = fl) {i j : Nat} (hij : i ≤ j) (hj : j < 2 ^ 31) {res : Option Int32} (hrun : runP (M.1 316) (M.1 317) v (j - i) i [] = some res) : qI g 0 kX12_termOf [.ref 280, .int (nI i), .int (nI j)] M (fun r M' => r = res.getD 0 ∧ M'.1 280 57 = (if res.isNone then 1 else fl) ∧ qFr ST M M') := by
  have K : ∀ m c st M1 x5 x6 x7, c + m = j → st.length ≤ 400 → qPile M1 st → M1.1 280 57 = fl → qFr ST M M1 → runP (M.1 316) (M.1 317) v m c st = some res → qT g kX12_termOf (qR 0 0 0) (qZI g (fun r M' => r = res.getD 0 ∧ M'.1 280 57 = (if res.isNone then 1 else fl) ∧ qFr ST M M')) 5 [some (.ref 280), some (.int (nI i)), some (.int (nI j)), some (.int (nI st.length)), some (.int (nI c)), x5, x6, x7] [] 333 M1 (0, 0) := by
    intro m
    induction m with
    | zero =>
      intro c st M1 x5 x6 x7 e hl hst hz hf hr
      have hM1 := hM.fr hf
      refine qi_iload (i := 4) (x := nI c) dX12_termOf_5 rfl ?_
      refine qi_iload_n (i := 2) (x := nI j) dX12_termOf_7 rfl rfl ?_
      refine qi_icmp_ge (tgt := 165) dX12_termOf_8 (by decide) (fun _hc => ?_) (fun _h => absurd ((nI_leI (a := j) (b := c) (by omega) (by omega)).mpr (by omega)) _h)
      match st, hst, hr with
      | [], hst, hr => simp [runP] at hr
      | [x], hst, hr =>
        have hx : M1.1 320 0 = x := hst 0 Nat.zero_lt_one
        have hres : some x = res := Option.some.inj hr
        refine qi_aload_n (i := 0) (x := 280) dX12_termOf_165 rfl rfl ?_
        refine qi_getR (x := 320) flX12_137 dX12_termOf_166 rfl (by decide) (hM1 280 56 320 rfl) ?_
        refine qi_iconst (v := 0) dX12_termOf_169 rfl ?_
        refine qi_ialdN (x := M1.1 320 0) (j := 0) dX12_termOf_170 rfl (by decide) rfl (by omega) (by decide) rfl ?_
        exact qi_retI rfl rfl dX12_termOf_171 (⟨by rw [← hres, hx]; rfl, by rw [← hres, hz]; rfl, hf⟩)
      | x :: y :: st2, hst, hr => simp [runP] at hr
    | succ m ih =>
      intro c st M1 x5 x6 x7 e hl hst hz hf hr
      have hM1 := hM.fr hf
      have eC : ∀ q, M1.1 316 q = M.1 316 q := fun q => hf.1 _ _ (by unfold ST; omega)
      have eI : ∀ q, M1.1 317 q = M.1 317 q := fun q => hf.1 _ _ (by unfold ST; omega)
      have eV : ∀ q, q < 6 → M1.1 319 q = v q := fun q hq => (hf.1 _ _ (by unfold ST; omega)).trans (hv q hq)
      rw [runP_s] at hr
      by_cases hlim : c < 840 ∧ st.length < 400
      · rw [if_pos hlim] at hr
        generalize hc : M.1 316 c = kd at hr
        have push : ∀ x, runP (M.1 316) (M.1 317) v m (c + 1) (x :: st) = some res → qT g kX12_termOf (qR 0 0 0) (qZI g (fun r M' => r = res.getD 0 ∧ M'.1 280 57 = (if res.isNone then 1 else fl) ∧ qFr ST M M')) 58 [some (.ref 280), some (.int (nI i)), some (.int (nI j)), some (.int (nI st.length)), some (.int (nI c)), some (.int kd), x6, x7] [.int x, .int (nI st.length), .ref 320] 333 M1 (0, 0) := by
          intro x hx
          refine qi_iastN (j := st.length) dX12_termOf_58 rfl (by decide) rfl (by omega) (by decide) ?_
          refine qi_iinc (i := 3) (x := nI st.length) (v := nI (st.length + 1)) (L2 := [some (.ref 280), some (.int (nI i)), some (.int (nI j)), some (.int (nI (st.length + 1))), some (.int (nI c)), some (.int kd), x6, x7]) dX12_termOf_59 rfl (nI_1 st.length) (Nat.le_of_ble_eq_true rfl) rfl ?_
          refine qi_goto (tgt := 159) dX12_termOf_62 (by decide) ?_
          refine qi_iinc (i := 4) (x := nI c) (v := nI (c + 1)) (L2 := [some (.ref 280), some (.int (nI i)), some (.int (nI j)), some (.int (nI (st.length + 1))), some (.int (nI (c + 1))), some (.int kd), x6, x7]) dX12_termOf_159 rfl (nI_1 c) (Nat.le_of_ble_eq_true rfl) rfl ?_
          refine qi_goto (tgt := 5) dX12_termOf_162 (by decide) ?_
          refine ih (c + 1) (x :: st) _ _ _ _ (by omega) (by rw [List.length_cons]; omega) (fun q hq => ?_) (by rw [wI_a (by omega)]; exact hz) (hf.wI (Or.inl rfl)) hx
          rw [List.length_cons] at hq ⊢
          cases q with
          | zero => rw [show st.length + 1 - 1 - 0 = st.length by omega, wI_s]; rfl
          | succ q =>
            rw [wI_k (by omega), show st.length + 1 - 1 - (q + 1) = st.length - 1 - q by omega]
            exact hst q (by omega)
        refine qi_iload (i := 4) (x := nI c) dX12_termOf_5 rfl ?_
        refine qi_iload_n (i := 2) (x := nI j) dX12_termOf_7 rfl rfl ?_
        refine qi_icmp_ge (tgt := 165) dX12_termOf_8 (by decide) (fun _h => absurd ((nI_leI (a := j) (b := c) (by omega) (by omega)).mp _h) (by omega)) (fun _hc => ?_)
        refine qi_aload_n (i := 0) (x := 280) dX12_termOf_11 rfl rfl ?_
        refine qi_getR (x := 316) flX12_125 dX12_termOf_12 rfl (by decide) (hM1 280 51 316 rfl) ?_
        refine qi_iload (i := 4) (x := nI c) dX12_termOf_15 rfl ?_
        refine qi_ialdN (x := M1.1 316 c) (j := c) dX12_termOf_17 rfl (by decide) rfl (by omega) (by decide) rfl ?_
        refine qe_top (y := kd) ((eC c).trans hc) ?_
        refine qi_istore (i := 5) (L2 := [some (.ref 280), some (.int (nI i)), some (.int (nI j)), some (.int (nI st.length)), some (.int (nI c)), some (.int kd), x6, x7]) dX12_termOf_18 (Nat.le_of_ble_eq_true rfl) rfl ?_
        refine qi_iload (i := 5) (x := kd) dX12_termOf_20 rfl ?_
        refine qi_iconst (v := 2) dX12_termOf_22 rfl ?_
        by_cases k0 : kd = 0
        · rw [if_pos k0] at hr
          refine qi_icmp_ge (tgt := 65) dX12_termOf_23 (by decide) (fun h => False.elim (absurd h (by rw [k0]; decide))) (fun h => ?_)
          refine qi_aload_n (i := 0) (x := 280) dX12_termOf_26 rfl rfl ?_
          refine qi_getR (x := 320) flX12_137 dX12_termOf_27 rfl (by decide) (hM1 280 56 320 rfl) ?_
          refine qi_iload_n (i := 3) (x := nI st.length) dX12_termOf_30 rfl rfl ?_
          refine qi_iload (i := 5) (x := kd) dX12_termOf_31 rfl ?_
          refine qi_if_ne (tgt := 46) dX12_termOf_33 (by decide) (fun h => False.elim (h k0)) (fun h => ?_)
          refine qi_aload_n (i := 0) (x := 280) dX12_termOf_36 rfl rfl ?_
          refine qi_getR (x := 317) flX12_128 dX12_termOf_37 rfl (by decide) (hM1 280 52 317 rfl) ?_
          refine qi_iload (i := 4) (x := nI c) dX12_termOf_40 rfl ?_
          refine qi_ialdN (x := M1.1 317 c) (j := c) dX12_termOf_42 rfl (by decide) rfl (by omega) (by decide) rfl ?_
          refine qe_top (y := M.1 317 c) (eI c) ?_
          refine qi_goto (tgt := 58) dX12_termOf_43 (by decide) ?_
          exact push _ hr
        · rw [if_neg k0] at hr
          by_cases k1 : kd = 1
          · rw [if_pos k1] at hr
            by_cases hq : ¬ M.1 317 c < 0 ∧ M.1 317 c < 6
            · rw [if_pos hq] at hr
              obtain ⟨t, ht, et⟩ := nI_of hq.1
              have ht6 : t < 6 := by
                have := hq.2
                rw [et] at this
                exact (nI_ltI (b := 6) ht (by omega)).mp this
              rw [et, nI_clamp ht] at hr
              refine qi_icmp_ge (tgt := 65) dX12_termOf_23 (by decide) (fun h => False.elim (absurd h (by rw [k1]; decide))) (fun h => ?_)
              refine qi_aload_n (i := 0) (x := 280) dX12_termOf_26 rfl rfl ?_
              refine qi_getR (x := 320) flX12_137 dX12_termOf_27 rfl (by decide) (hM1 280 56 320 rfl) ?_
              refine qi_iload_n (i := 3) (x := nI st.length) dX12_termOf_30 rfl rfl ?_
              refine qi_iload (i := 5) (x := kd) dX12_termOf_31 rfl ?_
              refine qi_if_ne (tgt := 46) dX12_termOf_33 (by decide) (fun h => ?_) (fun h => False.elim (k0 h))
              refine qi_aload_n (i := 0) (x := 280) dX12_termOf_46 rfl rfl ?_
              refine qi_getR (x := 319) flX12_134 dX12_termOf_47 rfl (by decide) (hM1 280 55 319 rfl) ?_
              refine qi_aload_n (i := 0) (x := 280) dX12_termOf_50 rfl rfl ?_
              refine qi_getR (x := 317) flX12_128 dX12_termOf_51 rfl (by decide) (hM1 280 52 317 rfl) ?_
              refine qi_iload (i := 4) (x := nI c) dX12_termOf_54 rfl ?_
              refine qi_ialdN (x := M1.1 317 c) (j := c) dX12_termOf_56 rfl (by decide) rfl (by omega) (by decide) rfl ?_
              refine qe_top (y := nI t) ((eI c).trans et) ?_
              refine qi_ialdN (x := M1.1 319 t) (j := t) dX12_termOf_57 rfl (by decide) rfl (by omega) (by decide) rfl ?_
              refine qe_top (y := v t) (eV t ht6) ?_
              exact push _ hr
            · rw [if_neg hq] at hr
              cases hr
          · rw [if_neg k1] at hr
            by_cases k2 : kd = 2 ∨ kd = 3 ∨ kd = 4 ∨ kd = 5
            · rw [if_pos k2] at hr
              match st, hst, hl, hr with
              | [], hst, hl, hr => simp at hr
              | [x], hst, hl, hr => simp at hr
              | r :: l :: st2, hst, hl, hr =>
                simp only at hr
                have hl2 : M1.1 320 st2.length = l := hst 1 (by simp)
                have hr2 : M1.1 320 (st2.length + 1) = r := hst 0 (by simp)
                rw [List.length_cons, List.length_cons] at hl
                refine qi_icmp_ge (tgt := 65) dX12_termOf_23 (by decide) (fun h => ?_) (fun h => False.elim (absurd (show (2 : Int32) ≤ kd by rcases k2 with z | z | z | z <;> rw [z] <;> decide) h))
                refine qi_iinc (i := 3) (x := nI (st2.length + 1 + 1)) (v := nI (st2.length + 1)) (L2 := [some (.ref 280), some (.int (nI i)), some (.int (nI j)), some (.int (nI (st2.length + 1))), some (.int (nI c)), some (.int kd), x6, x7]) dX12_termOf_65 rfl (pk_m1 (st2.length + 1)) (Nat.le_of_ble_eq_true rfl) rfl ?_
                refine qi_aload_n (i := 0) (x := 280) dX12_termOf_68 rfl rfl ?_
                refine qi_getR (x := 320) flX12_137 dX12_termOf_69 rfl (by decide) (hM1 280 56 320 rfl) ?_
                refine qi_iload_n (i := 3) (x := nI (st2.length + 1)) dX12_termOf_72 rfl rfl ?_
                refine qi_iconst (v := 1) dX12_termOf_73 rfl ?_
                refine qi_isub dX12_termOf_74 ?_
                refine qe_top (y := nI st2.length) (nI_pred _) ?_
                refine qi_ialdN (x := M1.1 320 st2.length) (j := st2.length) dX12_termOf_75 rfl (by decide) rfl (by omega) (by decide) rfl ?_
                refine qe_top (y := l) hl2 ?_
                refine qi_istore (i := 6) (L2 := [some (.ref 280), some (.int (nI i)), some (.int (nI j)), some (.int (nI (st2.length + 1))), some (.int (nI c)), some (.int kd), some (.int l), x7]) dX12_termOf_76 (Nat.le_of_ble_eq_true rfl) rfl ?_
                refine qi_aload_n (i := 0) (x := 280) dX12_termOf_78 rfl rfl ?_
                refine qi_getR (x := 320) flX12_137 dX12_termOf_79 rfl (by decide) (hM1 280 56 320 rfl) ?_
                refine qi_iload_n (i := 3) (x := nI (st2.length + 1)) dX12_termOf_82 rfl rfl ?_
                refine qi_ialdN (x := M1.1 320 (st2.length + 1)) (j := st2.length + 1) dX12_termOf_83 rfl (by decide) rfl (by omega) (by decide) rfl ?_
                refine qe_top (y := r) hr2 ?_
                refine qi_istore (i := 7) (L2 := [some (.ref 280), some (.int (nI i)), some (.int (nI j)), some (.int (nI (st2.length + 1))), some (.int (nI c)), some (.int kd), some (.int l), some (.int r)]) dX12_termOf_84 (Nat.le_of_ble_eq_true rfl) rfl ?_
                refine qi_iload (i := 5) (x := kd) dX12_termOf_86 rfl ?_
                refine qi_iconst (v := 5) dX12_termOf_88 rfl ?_
                have F : ¬ (kd = 5 ∧ r = 0) → qT g kX12_termOf (qR 0 0 0) (qZI g (fun r M' => r = res.getD 0 ∧ M'.1 280 57 = (if res.isNone then 1 else fl) ∧ qFr ST M M')) 104 [some (.ref 280), some (.int (nI i)), some (.int (nI j)), some (.int (nI (st2.length + 1))), some (.int (nI c)), some (.int kd), some (.int l), some (.int r)] [] 333 M1 (0, 0) := by
                  intro hn
                  rw [if_neg hn] at hr
                  have opd : ∀ x, runP (M.1 316) (M.1 317) v m (c + 1) (x :: st2) = some res → qT g kX12_termOf (qR 0 0 0) (qZI g (fun r M' => r = res.getD 0 ∧ M'.1 280 57 = (if res.isNone then 1 else fl) ∧ qFr ST M M')) 158 [some (.ref 280), some (.int (nI i)), some (.int (nI j)), some (.int (nI (st2.length + 1))), some (.int (nI c)), some (.int kd), some (.int l), some (.int r)] [.int x, .int (nI st2.length), .ref 320] 333 M1 (0, 0) := by
                    intro x hx
                    refine qi_iastN (j := st2.length) dX12_termOf_158 rfl (by decide) rfl (by omega) (by decide) ?_
                    refine qi_iinc (i := 4) (x := nI c) (v := nI (c + 1)) (L2 := [some (.ref 280), some (.int (nI i)), some (.int (nI j)), some (.int (nI (st2.length + 1))), some (.int (nI (c + 1))), some (.int kd), some (.int l), some (.int r)]) dX12_termOf_159 rfl (nI_1 c) (Nat.le_of_ble_eq_true rfl) rfl ?_
                    refine qi_goto (tgt := 5) dX12_termOf_162 (by decide) ?_
                    refine ih (c + 1) (x :: st2) _ _ _ _ (by omega) (by rw [List.length_cons]; omega) (fun q hq => ?_) (by rw [wI_a (by omega)]; exact hz) (hf.wI (Or.inl rfl)) hx
                    rw [List.length_cons] at hq ⊢
                    cases q with
                    | zero => rw [show st2.length + 1 - 1 - 0 = st2.length by omega, wI_s]; rfl
                    | succ q =>
                      rw [wI_k (by omega), show st2.length + 1 - 1 - (q + 1) = st2.length - 1 - q by omega]
                      have := hst (q + 2) (by simp; omega)
                      rw [List.length_cons, List.length_cons, show st2.length + 1 + 1 - 1 - (q + 2) = st2.length - 1 - q by omega] at this
                      exact this
                  refine qi_aload_n (i := 0) (x := 280) dX12_termOf_104 rfl rfl ?_
                  refine qi_getR (x := 320) flX12_137 dX12_termOf_105 rfl (by decide) (hM1 280 56 320 rfl) ?_
                  refine qi_iload_n (i := 3) (x := nI (st2.length + 1)) dX12_termOf_108 rfl rfl ?_
                  refine qi_iconst (v := 1) dX12_termOf_109 rfl ?_
                  refine qi_isub dX12_termOf_110 ?_
                  refine qe_top (y := nI st2.length) (nI_pred _) ?_
                  refine qi_iload (i := 5) (x := kd) dX12_termOf_111 rfl ?_
                  refine qi_iconst (v := 2) dX12_termOf_113 rfl ?_
                  refine qi_icmp_ne (tgt := 125) dX12_termOf_114 (by decide) (fun d2 => ?_) (fun d2 => ?_)
                  · refine qi_iload (i := 5) (x := kd) dX12_termOf_125 rfl ?_
                    refine qi_iconst (v := 3) dX12_termOf_127 rfl ?_
                    refine qi_icmp_ne (tgt := 139) dX12_termOf_128 (by decide) (fun d3 => ?_) (fun d3 => ?_)
                    · refine qi_iload (i := 5) (x := kd) dX12_termOf_139 rfl ?_
                      refine qi_iconst (v := 4) dX12_termOf_141 rfl ?_
                      refine qi_icmp_ne (tgt := 153) dX12_termOf_142 (by decide) (fun d4 => ?_) (fun d4 => ?_)
                      · have d5 : kd = 5 := by rcases k2 with z | z | z | z <;> first | exact absurd z d2 | exact absurd z d3 | exact absurd z d4 | exact z
                        refine qi_iload (i := 6) (x := l) dX12_termOf_153 rfl ?_
                        refine qi_iload (i := 7) (x := r) dX12_termOf_155 rfl ?_
                        refine qi_idiv dX12_termOf_157 (fun z => hn ⟨d5, z⟩) ?_
                        rw [if_neg d2, if_neg d3, if_neg d4] at hr
                        exact opd _ hr
                      · refine qi_iload (i := 6) (x := l) dX12_termOf_145 rfl ?_
                        refine qi_iload (i := 7) (x := r) dX12_termOf_147 rfl ?_
                        refine qi_imul dX12_termOf_149 ?_
                        refine qi_goto (tgt := 158) dX12_termOf_150 (by decide) ?_
                        rw [if_neg d2, if_neg d3, if_pos d4] at hr
                        exact opd _ hr
                    · refine qi_iload (i := 6) (x := l) dX12_termOf_131 rfl ?_
                      refine qi_iload (i := 7) (x := r) dX12_termOf_133 rfl ?_
                      refine qi_isub dX12_termOf_135 ?_
                      refine qi_goto (tgt := 158) dX12_termOf_136 (by decide) ?_
                      rw [if_neg d2, if_pos d3] at hr
                      exact opd _ hr
                  · refine qi_iload (i := 6) (x := l) dX12_termOf_117 rfl ?_
                    refine qi_iload (i := 7) (x := r) dX12_termOf_119 rfl ?_
                    refine qi_iadd dX12_termOf_121 ?_
                    refine qi_goto (tgt := 158) dX12_termOf_122 (by decide) ?_
                    rw [if_pos d2] at hr
                    exact opd _ hr
                refine qi_icmp_ne (tgt := 104) dX12_termOf_89 (by decide) (fun b5 => ?_) (fun b5 => ?_)
                · exact F (fun z => b5 z.1)
                · refine qi_iload (i := 7) (x := r) dX12_termOf_92 rfl ?_
                  refine qi_if_ne (tgt := 104) dX12_termOf_94 (by decide) (fun b0 => ?_) (fun b0 => ?_)
                  · exact F (fun z => b0 z.2)
                  · rw [if_pos ⟨b5, b0⟩] at hr
                    have hres : none = res := Option.some.inj hr
                    refine qi_aload_n (i := 0) (x := 280) dX12_termOf_97 rfl rfl ?_
                    refine qi_iconst (v := 1) dX12_termOf_98 rfl ?_
                    refine qi_putI flX12_334 q_cls12 (ty12_57 _ (by simp)) dX12_termOf_99 rfl (by decide) ?_
                    refine qi_iconst (v := 0) dX12_termOf_102 rfl ?_
                    exact qi_retI rfl rfl dX12_termOf_103 (⟨by rw [← hres]; rfl, by rw [← hres, wI_s]; rfl, hf.wI (Or.inr ⟨rfl, rfl⟩)⟩)
            · rw [if_neg k2] at hr
              cases hr
      · rw [if_neg hlim] at hr
        cases hr
  refine qI.of (j := 5) (pn_RX12) rfl ?_
  show qT g kX12_termOf (qR 0 0 0) (qZI g (fun r M' => r = res.getD 0 ∧ M'.1 280 57 = (if res.isNone then 1 else fl) ∧ qFr ST M M')) 0 [some (.ref 280), some (.int (nI i)), some (.int (nI j)), none, none, none, none, none] [] 333 M (0, 0)
  refine qi_iconst (v := 0) dX12_termOf_0 rfl ?_
  refine qi_istore_n (i := 3) (L2 := [some (.ref 280), some (.int (nI i)), some (.int (nI j)), some (.int 0), none, none, none, none]) dX12_termOf_1 rfl (Nat.le_of_ble_eq_true rfl) rfl ?_
  refine qi_iload_n (i := 1) (x := nI i) dX12_termOf_2 rfl rfl ?_
  refine qi_istore (i := 4) (L2 := [some (.ref 280), some (.int (nI i)), some (.int (nI j)), some (.int 0), some (.int (nI i)), none, none, none]) dX12_termOf_3 (Nat.le_of_ble_eq_true rfl) rfl ?_
  exact K (j - i) i [] M none none none (by omega) (by decide) (fun q hq => absurd hq (Nat.not_lt_zero _)) hb0 qFr.rf hrun
