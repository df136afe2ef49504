/-! ThimbleSea$Sea: begin, move, mergeInto, toldBy -/
set_option maxHeartbeats 4000000 in
theorem c_X6_begin (g : qG) {a p : Nat} {π : qPl} {M : qM} (hs : qIsS a) (hp : qIsP p) (hd : a + 5 < 242) (hM : qRf M) (hP : qPlan M p π) (hok : okPl π) : qV g 0 kX6_begin [.ref a, .ref p] M (fun M' => qSea M' a (beginF π) ∧ qFr (SS a) M M') := by
  have hla := hp.2.1
  have hh8 := hok.2.1
  have K2 : ∀ m j M1, j + m = 8 → qFr (SS a) M M1 → (∀ i, i < 40 → M1.1 (a + 1) i = 0) → (∀ i, i < j → M1.1 (a + 3) i = 0 ∧ M1.1 (a + 4) i = beginF π (48 + i) ∧ M1.1 (a + 5) i = 0) → qT g kX6_begin (qR 0 0 0) (qZV g (fun M' => qSea M' a (beginF π) ∧ qFr (SS a) M M')) 23 [some (.ref a), some (.ref p), some (.int (nI j))] [] 333 M1 (0, 0) := by
    intro m
    induction m with
    | zero =>
      intro j M1 e hf h1 h2
      have hM1 := hM.fr hf
      refine qi_iload_n (i := 2) (x := nI j) dX6_begin_23 rfl rfl ?_
      refine qi_bipush (v := 8) dX6_begin_24 rfl ?_
      refine qi_icmp_ge (tgt := 73) dX6_begin_26 (by decide) (fun _hc => ?_) (fun _h => absurd ((nI_leI (a := 8) (b := j) (by omega) (by omega)).mpr (by omega)) _h)
      refine qi_aload_n (i := 0) (x := a) dX6_begin_73 rfl rfl ?_
      refine qi_iconst (v := 0) dX6_begin_74 rfl ?_
      refine qi_putI flX6_27 q_cls6 (ty6_5 _) dX6_begin_75 hs.1 (by have := hs.2.2.2.2.2.2; omega) ?_
      refine qi_aload_n (i := 0) (x := a) dX6_begin_78 rfl rfl ?_
      refine qi_iconst (v := 0) dX6_begin_79 rfl ?_
      refine qi_putI flX6_31 q_cls6 (ty6_6 _) dX6_begin_80 hs.1 (by have := hs.2.2.2.2.2.2; omega) ?_
      refine qi_aload_n (i := 0) (x := a) dX6_begin_83 rfl rfl ?_
      refine qi_iconst (v := 0) dX6_begin_84 rfl ?_
      refine qi_putI flX6_34 q_cls6 (ty6_7 _) dX6_begin_85 hs.1 (by have := hs.2.2.2.2.2.2; omega) ?_
      refine qi_retV rfl dX6_begin_88 (?_)
      refine ⟨⟨fun k hk => ?_, fun k hk => ?_, fun k hk => ?_, fun k hk => ?_, ?_, ?_, ?_⟩, ?_⟩
      · rw [wI_a (by omega), wI_a (by omega), wI_a (by omega), h1 k hk]
        unfold beginF
        rw [if_neg (by omega)]
      · rw [wI_a (by omega), wI_a (by omega), wI_a (by omega), (h2 k (by omega)).1]
        unfold beginF
        rw [if_neg (by omega)]
      · rw [wI_a (by omega), wI_a (by omega), wI_a (by omega), (h2 k (by omega)).2.1]
      · rw [wI_a (by omega), wI_a (by omega), wI_a (by omega), (h2 k (by omega)).2.2]
        unfold beginF
        rw [if_neg (by omega)]
      · rw [wI_k (by omega), wI_k (by omega), wI_s]
        unfold allF
        rw [sumF_zero (a := 0) 40 (by omega) (fun k h1 h2 => by unfold beginF; rw [if_neg (by omega)])]
        rfl
      · rw [wI_k (by omega), wI_s]
        unfold beginF
        rw [if_neg (by omega)]
      · rw [wI_s]
        unfold beginF
        rw [if_neg (by omega)]
      · refine ((hf.wI ?_).wI ?_).wI ?_ <;> unfold SS <;> omega
    | succ m ih =>
      intro j M1 e hf h1 h2
      have hM1 := hM.fr hf
      have hP1 : qPlan M1 p π := hP.fr hf (fun i j hi z => by unfold SS at z; omega)
      have J : ∀ x, x = beginF π (48 + j) → qT g kX6_begin (qR 0 0 0) (qZV g (fun M' => qSea M' a (beginF π) ∧ qFr (SS a) M M')) 59 [some (.ref a), some (.ref p), some (.int (nI j))] [.int x, .int (nI j), .ref (a + 4)] 333 (wI M1 (a + 3) j 0) (0, 0) := by
        intro x ex
        refine qi_iastN (j := j) dX6_begin_59 hs.2.2.2.2.1 (by have := hs.2.2.2.2.2.2; omega) rfl (by omega) (by decide) ?_
        refine qi_aload_n (i := 0) (x := a) dX6_begin_60 rfl rfl ?_
        refine qi_getR (x := a + 5) flX6_24 dX6_begin_61 hs.1 (by have := hs.2.2.2.2.2.2; omega) (hM1 a 4 (a + 5) (qref_6_4 hs.1)) ?_
        refine qi_iload_n (i := 2) (x := nI j) dX6_begin_64 rfl rfl ?_
        refine qi_iconst (v := 0) dX6_begin_65 rfl ?_
        refine qi_iastN (j := j) dX6_begin_66 hs.2.2.2.2.2.1 (by have := hs.2.2.2.2.2.2; omega) rfl (by omega) (by decide) ?_
        refine qi_iinc (i := 2) (x := nI j) (v := nI (j + 1)) (L2 := [some (.ref a), some (.ref p), some (.int (nI (j + 1)))]) dX6_begin_67 rfl (nI_1 j) (Nat.le_of_ble_eq_true rfl) rfl ?_
        refine qi_goto (tgt := 23) dX6_begin_70 (by decide) ?_
        refine ih (j + 1) _ (by omega) (((hf.wI ?_).wI ?_).wI ?_) (fun i hi => ?_) (fun i hi => ?_)
        all_goals first | (unfold SS; omega) | skip
        · rw [wI_a (by omega), wI_a (by omega), wI_a (by omega)]
          exact h1 i hi
        · by_cases hij : i = j
          · subst hij
            simp only [wI_1]
            refine ⟨?_, ?_, ?_⟩ <;> grind
          · obtain ⟨b1, b2, b3⟩ := h2 i (by omega)
            simp only [wI_1]
            refine ⟨?_, ?_, ?_⟩ <;> grind
      refine qi_iload_n (i := 2) (x := nI j) dX6_begin_23 rfl rfl ?_
      refine qi_bipush (v := 8) dX6_begin_24 rfl ?_
      refine qi_icmp_ge (tgt := 73) dX6_begin_26 (by decide) (fun _h => absurd ((nI_leI (a := 8) (b := j) (by omega) (by omega)).mp _h) (by omega)) (fun _hc => ?_)
      refine qi_aload_n (i := 0) (x := a) dX6_begin_29 rfl rfl ?_
      refine qi_getR (x := a + 3) flX6_18 dX6_begin_30 hs.1 (by have := hs.2.2.2.2.2.2; omega) (hM1 a 2 (a + 3) (qref_6_2 hs.1)) ?_
      refine qi_iload_n (i := 2) (x := nI j) dX6_begin_33 rfl rfl ?_
      refine qi_iconst (v := 0) dX6_begin_34 rfl ?_
      refine qi_iastN (j := j) dX6_begin_35 hs.2.2.2.1 (by have := hs.2.2.2.2.2.2; omega) rfl (by omega) (by decide) ?_
      refine qi_aload_n (i := 0) (x := a) dX6_begin_36 rfl rfl ?_
      refine qi_getR (x := a + 4) flX6_21 dX6_begin_37 hs.1 (by have := hs.2.2.2.2.2.2; omega) (hM1 a 3 (a + 4) (qref_6_3 hs.1)) ?_
      refine qi_iload_n (i := 2) (x := nI j) dX6_begin_40 rfl rfl ?_
      refine qi_iload_n (i := 2) (x := nI j) dX6_begin_41 rfl rfl ?_
      refine qi_aload_n (i := 1) (x := p) dX6_begin_42 rfl rfl ?_
      refine qi_getI (x := (wI M1 (a + 3) j 0).1 p 12) flX6_37 dX6_begin_43 (hp.1 0 (by decide)) (by have := hp.2.2; omega) rfl ?_
      refine qe_top (y := nI (π.1 1)) (by rw [wI_a (by omega)]; exact hP1.1.2.1) ?_
      refine qi_icmp_ge (tgt := 58) dX6_begin_46 (by decide) (fun _h => ?_) (fun _h => ?_)
      · have c : (π.1 1) ≤ j := (nI_leI (a := π.1 1) (b := j) (by omega) (by omega)).mp _h
        refine qi_iconst (v := 0) dX6_begin_58 rfl ?_
        exact J _ (by unfold beginF; rw [if_neg (by omega)])
      · have c : ¬ ((π.1 1) ≤ j) := fun z => _h ((nI_leI (a := π.1 1) (b := j) (by omega) (by omega)).mpr z)
        refine qi_aload_n (i := 1) (x := p) dX6_begin_49 rfl rfl ?_
        refine qi_getR (x := p + 3) flX6_42 dX6_begin_50 (hp.1 0 (by decide)) (by have := hp.2.2; omega) (hM1 p 2 (p + 3) (qref_3_2 (hp.1 0 (by decide)))) ?_
        refine qi_iload_n (i := 2) (x := nI j) dX6_begin_53 rfl rfl ?_
        refine qi_ialdN (x := (wI M1 (a + 3) j 0).1 (p + 3) j) (j := j) dX6_begin_54 (hp.1 3 (by decide)) (by have := hp.2.2; omega) rfl (by omega) (by decide) rfl ?_
        refine qe_top (y := nI (π.2.1 2 j)) (by rw [wI_a (by omega)]; exact hP1.2.1 2 j (by omega) (show j < π.1 1 by omega)) ?_
        refine qi_goto (tgt := 59) dX6_begin_55 (by decide) ?_
        exact J _ (by unfold beginF; rw [if_pos (by omega), show 48 + j - 48 = j by omega])
  have K : ∀ m j M1, j + m = 40 → qFr (SS a) M M1 → (∀ i, i < j → M1.1 (a + 1) i = 0) → qT g kX6_begin (qR 0 0 0) (qZV g (fun M' => qSea M' a (beginF π) ∧ qFr (SS a) M M')) 2 [some (.ref a), some (.ref p), some (.int (nI j))] [] 333 M1 (0, 0) := by
    intro m
    induction m with
    | zero =>
      intro j M1 e hf h1
      have hM1 := hM.fr hf
      refine qi_iload_n (i := 2) (x := nI j) dX6_begin_2 rfl rfl ?_
      refine qi_bipush (v := 40) dX6_begin_3 rfl ?_
      refine qi_icmp_ge (tgt := 21) dX6_begin_5 (by decide) (fun _hc => ?_) (fun _h => absurd ((nI_leI (a := 40) (b := j) (by omega) (by omega)).mpr (by omega)) _h)
      refine qi_iconst (v := 0) dX6_begin_21 rfl ?_
      refine qi_istore_n (i := 2) (L2 := [some (.ref a), some (.ref p), some (.int 0)]) dX6_begin_22 rfl (Nat.le_of_ble_eq_true rfl) rfl ?_
      exact K2 8 0 M1 (by omega) hf (fun i hi => h1 i (by omega)) (fun i hi => absurd hi (Nat.not_lt_zero _))
    | succ m ih =>
      intro j M1 e hf h1
      have hM1 := hM.fr hf
      refine qi_iload_n (i := 2) (x := nI j) dX6_begin_2 rfl rfl ?_
      refine qi_bipush (v := 40) dX6_begin_3 rfl ?_
      refine qi_icmp_ge (tgt := 21) dX6_begin_5 (by decide) (fun _h => absurd ((nI_leI (a := 40) (b := j) (by omega) (by omega)).mp _h) (by omega)) (fun _hc => ?_)
      refine qi_aload_n (i := 0) (x := a) dX6_begin_8 rfl rfl ?_
      refine qi_getR (x := a + 1) flX6_9 dX6_begin_9 hs.1 (by have := hs.2.2.2.2.2.2; omega) (hM1 a 0 (a + 1) (qref_6_0 hs.1)) ?_
      refine qi_iload_n (i := 2) (x := nI j) dX6_begin_12 rfl rfl ?_
      refine qi_iconst (v := 0) dX6_begin_13 rfl ?_
      refine qi_iastN (j := j) dX6_begin_14 hs.2.1 (by have := hs.2.2.2.2.2.2; omega) rfl (by omega) (by decide) ?_
      refine qi_iinc (i := 2) (x := nI j) (v := nI (j + 1)) (L2 := [some (.ref a), some (.ref p), some (.int (nI (j + 1)))]) dX6_begin_15 rfl (nI_1 j) (Nat.le_of_ble_eq_true rfl) rfl ?_
      refine qi_goto (tgt := 2) dX6_begin_18 (by decide) ?_
      refine ih (j + 1) _ (by omega) (hf.wI (by unfold SS; omega)) (fun i hi => ?_)
      by_cases hij : i = j
      · rw [hij, wI_s]
      · rw [wI_k hij]
        exact h1 i (by omega)
  refine qV.of (j := 1) (pn_RX6) rfl ?_
  show qT g kX6_begin (qR 0 0 0) (qZV g (fun M' => qSea M' a (beginF π) ∧ qFr (SS a) M M')) 0 [some (.ref a), some (.ref p), none] [] 333 M (0, 0)
  refine qi_iconst (v := 0) dX6_begin_0 rfl ?_
  refine qi_istore_n (i := 2) (L2 := [some (.ref a), some (.ref p), some (.int 0)]) dX6_begin_1 rfl (Nat.le_of_ble_eq_true rfl) rfl ?_
  exact K 40 0 M (by omega) qFr.rf (fun i hi => absurd hi (Nat.not_lt_zero _))
set_option maxHeartbeats 4000000 in
theorem c_X6_move (g : qG) {a h o : Nat} {ρ : Nat → Int32} {M : qM} (hs : qIsS a) (hM : qRf M) (hS : qSea M a ρ) (hh : h < 8) (ho : o < 8) (hho : h ≠ o) (p q : Int32) : qI g 1 kX6_move [.ref a, .int (nI h), .int (nI o), .int p, .int q] M (fun r M' => r = sumF (fun w => partF ρ p q (5 * h + w)) 5 ∧ qSea M' a (moveF ρ h o p q 5) ∧ qFr (SS a) M M') := by
  have hla := hs.2.2.2.2.2.2
  generalize hG : (fun w => partF ρ p q (5 * h + w)) = G
  have eG : ∀ w, G w = partF ρ p q (5 * h + w) := fun w => by rw [← hG]
  have K : ∀ m j M1 x7, j + m = 5 → qFr (SS a) M M1 → qSea M1 a (moveF ρ h o p q j) → qT g kX6_move (qR 1 0 0) (qZI g (fun r M' => r = sumF G 5 ∧ qSea M' a (moveF ρ h o p q 5) ∧ qFr (SS a) M M')) 6 [some (.ref a), some (.int (nI h)), some (.int (nI o)), some (.int p), some (.int q), some (.int (sumF G j)), some (.int (nI j)), x7] [] 333 M1 (0, 0) := by
    intro m
    induction m with
    | zero =>
      intro j M1 x7 e hf hS1
      refine qi_iload (i := 6) (x := nI j) dX6_move_6 rfl ?_
      refine qi_iconst (v := 5) dX6_move_8 rfl ?_
      refine qi_icmp_ge (tgt := 79) dX6_move_9 (by decide) (fun _hc => ?_) (fun _h => absurd ((nI_leI (a := 5) (b := j) (by omega) (by omega)).mpr (by omega)) _h)
      refine qi_iload (i := 5) (x := sumF G j) dX6_move_79 rfl ?_
      obtain rfl : j = 5 := by omega
      exact qi_retI rfl rfl dX6_move_81 (⟨rfl, hS1, hf⟩)
    | succ m ih =>
      intro j M1 x7 e hf hS1
      have hM1 := hM.fr hf
      have e5 : (5 : Int32) = nI 5 := rfl
      refine qi_iload (i := 6) (x := nI j) dX6_move_6 rfl ?_
      refine qi_iconst (v := 5) dX6_move_8 rfl ?_
      refine qi_icmp_ge (tgt := 79) dX6_move_9 (by decide) (fun _h => absurd ((nI_leI (a := 5) (b := j) (by omega) (by omega)).mp _h) (by omega)) (fun _hc => ?_)
      refine qi_aload_n (i := 0) (x := a) dX6_move_12 rfl rfl ?_
      refine qi_getR (x := a + 1) flX6_9 dX6_move_13 hs.1 (by have := hs.2.2.2.2.2.2; omega) (hM1 a 0 (a + 1) (qref_6_0 hs.1)) ?_
      refine qi_iload_n (i := 1) (x := nI h) dX6_move_16 rfl rfl ?_
      refine qi_iconst (v := 5) dX6_move_17 rfl ?_
      refine qi_imul dX6_move_18 ?_
      refine qi_iload (i := 6) (x := nI j) dX6_move_19 rfl ?_
      refine qi_iadd dX6_move_21 ?_
      refine qe_top (y := nI (h * 5 + j)) (by rw [e5, pk_mul, nI_add]) ?_
      refine qi_ialdN (x := M1.1 (a + 1) (h * 5 + j)) (j := h * 5 + j) dX6_move_22 hs.2.1 (by have := hs.2.2.2.2.2.2; omega) rfl (by omega) (by decide) rfl ?_
      refine qe_top (y := ρ (5 * h + j)) (by rw [Nat.mul_comm h 5, hS1.1 _ (by omega), moveF_src hho (by omega)]) ?_
      refine qi_iload_n (i := 3) (x := p) dX6_move_23 rfl rfl ?_
      refine qi_imul dX6_move_24 ?_
      refine qi_iconst (v := 1) dX6_move_25 rfl ?_
      refine qi_iload (i := 4) (x := q) dX6_move_26 rfl ?_
      refine qi_max mtX6_57 mt_max_s mt_i mt_max_c dX6_move_28 (Nat.le_of_ble_eq_true rfl) ⟨(Nat.le_of_ble_eq_true rfl), (Nat.le_of_ble_eq_true rfl)⟩ ⟨Nat.le_refl _, Nat.le_refl _⟩ ?_
      refine qi_idiv dX6_move_31 (max1_ne q) ?_
      refine qe_top (y := G j) (eG j).symm ?_
      refine qi_istore (i := 7) (L2 := [some (.ref a), some (.int (nI h)), some (.int (nI o)), some (.int p), some (.int q), some (.int (sumF G j)), some (.int (nI j)), some (.int (G j))]) dX6_move_32 (Nat.le_of_ble_eq_true rfl) rfl ?_
      refine qi_aload_n (i := 0) (x := a) dX6_move_34 rfl rfl ?_
      refine qi_getR (x := a + 1) flX6_9 dX6_move_35 hs.1 (by have := hs.2.2.2.2.2.2; omega) (hM1 a 0 (a + 1) (qref_6_0 hs.1)) ?_
      refine qi_iload_n (i := 1) (x := nI h) dX6_move_38 rfl rfl ?_
      refine qi_iconst (v := 5) dX6_move_39 rfl ?_
      refine qi_imul dX6_move_40 ?_
      refine qi_iload (i := 6) (x := nI j) dX6_move_41 rfl ?_
      refine qi_iadd dX6_move_43 ?_
      refine qe_top (y := nI (h * 5 + j)) (by rw [e5, pk_mul, nI_add]) ?_
      refine qi_dup2 dX6_move_44 ?_
      refine qi_ialdN (x := M1.1 (a + 1) (h * 5 + j)) (j := h * 5 + j) dX6_move_45 hs.2.1 (by have := hs.2.2.2.2.2.2; omega) rfl (by omega) (by decide) rfl ?_
      refine qi_iload (i := 7) (x := G j) dX6_move_46 rfl ?_
      refine qi_isub dX6_move_48 ?_
      refine qi_iastN (j := h * 5 + j) dX6_move_49 hs.2.1 (by have := hs.2.2.2.2.2.2; omega) rfl (by omega) (by decide) ?_
      refine qi_aload_n (i := 0) (x := a) dX6_move_50 rfl rfl ?_
      refine qi_getR (x := a + 1) flX6_9 dX6_move_51 hs.1 (by have := hs.2.2.2.2.2.2; omega) (hM1 a 0 (a + 1) (qref_6_0 hs.1)) ?_
      refine qi_iload_n (i := 2) (x := nI o) dX6_move_54 rfl rfl ?_
      refine qi_iconst (v := 5) dX6_move_55 rfl ?_
      refine qi_imul dX6_move_56 ?_
      refine qi_iload (i := 6) (x := nI j) dX6_move_57 rfl ?_
      refine qi_iadd dX6_move_59 ?_
      refine qe_top (y := nI (o * 5 + j)) (by rw [e5, pk_mul, nI_add]) ?_
      refine qi_dup2 dX6_move_60 ?_
      refine qi_ialdN (x := (wI M1 (a + 1) (h * 5 + j) ((M1.1 (a + 1) (h * 5 + j)) - (G j))).1 (a + 1) (o * 5 + j)) (j := o * 5 + j) dX6_move_61 hs.2.1 (by have := hs.2.2.2.2.2.2; omega) rfl (by omega) (by decide) rfl ?_
      refine qi_iload (i := 7) (x := G j) dX6_move_62 rfl ?_
      refine qi_iadd dX6_move_64 ?_
      refine qi_iastN (j := o * 5 + j) dX6_move_65 hs.2.1 (by have := hs.2.2.2.2.2.2; omega) rfl (by omega) (by decide) ?_
      refine qi_iload (i := 5) (x := sumF G j) dX6_move_66 rfl ?_
      refine qi_iload (i := 7) (x := G j) dX6_move_68 rfl ?_
      refine qi_iadd dX6_move_70 ?_
      refine qi_istore (i := 5) (L2 := [some (.ref a), some (.int (nI h)), some (.int (nI o)), some (.int p), some (.int q), some (.int ((sumF G j) + (G j))), some (.int (nI j)), some (.int (G j))]) dX6_move_71 (Nat.le_of_ble_eq_true rfl) rfl ?_
      refine qi_iinc (i := 6) (x := nI j) (v := nI (j + 1)) (L2 := [some (.ref a), some (.int (nI h)), some (.int (nI o)), some (.int p), some (.int q), some (.int ((sumF G j) + (G j))), some (.int (nI (j + 1))), some (.int (G j))]) dX6_move_73 rfl (nI_1 j) (Nat.le_of_ble_eq_true rfl) rfl ?_
      refine qi_goto (tgt := 6) dX6_move_76 (by decide) ?_
      refine ih (j + 1) _ _ (by omega) ((hf.wI (by unfold SS; omega)).wI (by unfold SS; omega)) ?_
      obtain ⟨h1, h2, h3, h4, h5, h6, h7⟩ := hS1
      refine ⟨fun k hk => ?_, fun k hk => ?_, fun k hk => ?_, fun k hk => ?_, ?_, ?_, ?_⟩
      · have e1 := h1 k hk
        have e2 := h1 (h * 5 + j) (by omega)
        have e3 := h1 (o * 5 + j) (by omega)
        have e4 := eG j
        simp only [wI_1, moveF]
        grind
      · rw [moveF_out hh ho _ _ (by omega) (by omega), wI_a (by omega), wI_a (by omega), h2 k hk, moveF_out hh ho _ _ (by omega) (by omega)]
      · rw [moveF_out hh ho _ _ (by omega) (by omega), wI_a (by omega), wI_a (by omega), h3 k hk, moveF_out hh ho _ _ (by omega) (by omega)]
      · rw [moveF_out hh ho _ _ (by omega) (by omega), wI_a (by omega), wI_a (by omega), h4 k hk, moveF_out hh ho _ _ (by omega) (by omega)]
      · rw [allF_move hh ho hho _ (by omega), wI_a (by omega), wI_a (by omega), h5, allF_move hh ho hho _ (by omega)]
      · rw [moveF_out hh ho _ _ (by omega) (by omega), wI_a (by omega), wI_a (by omega), h6, moveF_out hh ho _ _ (by omega) (by omega)]
      · rw [moveF_out hh ho _ _ (by omega) (by omega), wI_a (by omega), wI_a (by omega), h7, moveF_out hh ho _ _ (by omega) (by omega)]
  refine qI.of (j := 3) (pn_RX6) rfl ?_
  show qT g kX6_move (qR 1 0 0) (qZI g (fun r M' => r = sumF G 5 ∧ qSea M' a (moveF ρ h o p q 5) ∧ qFr (SS a) M M')) 0 [some (.ref a), some (.int (nI h)), some (.int (nI o)), some (.int p), some (.int q), none, none, none] [] 333 M (0, 0)
  refine qi_iconst (v := 0) dX6_move_0 rfl ?_
  refine qi_istore (i := 5) (L2 := [some (.ref a), some (.int (nI h)), some (.int (nI o)), some (.int p), some (.int q), some (.int 0), none, none]) dX6_move_1 (Nat.le_of_ble_eq_true rfl) rfl ?_
  refine qi_iconst (v := 0) dX6_move_3 rfl ?_
  refine qi_istore (i := 6) (L2 := [some (.ref a), some (.int (nI h)), some (.int (nI o)), some (.int p), some (.int q), some (.int 0), some (.int 0), none]) dX6_move_4 (Nat.le_of_ble_eq_true rfl) rfl ?_
  exact K 5 0 M none (by omega) qFr.rf hS
set_option maxHeartbeats 4000000 in
theorem c_X6_mergeInto (g : qG) {a h o : Nat} {ρ : Nat → Int32} {M : qM} (hs : qIsS a) (hM : qRf M) (hS : qSea M a ρ) (hh : h < 8) (ho : o < 8) (hho : h ≠ o) : qI g 2 kX6_mergeInto [.ref a, .int (nI h), .int (nI o)] M (fun r M' => r = sumF (fun w => partF (mergeF ρ h o) 1 1 (5 * h + w)) 5 ∧ qSea M' a (moveF (mergeF ρ h o) h o 1 1 5) ∧ qFr (SS a) M M') := by
  have hla := hs.2.2.2.2.2.2
  obtain ⟨h1, h2, h3, h4, h5, h6, h7⟩ := id hS
  refine qI.of (j := 0) (pn_RX6) rfl ?_
  show qT g kX6_mergeInto (qR 2 0 0) (qZI g (fun r M' => r = sumF (fun w => partF (mergeF ρ h o) 1 1 (5 * h + w)) 5 ∧ qSea M' a (moveF (mergeF ρ h o) h o 1 1 5) ∧ qFr (SS a) M M')) 0 [some (.ref a), some (.int (nI h)), some (.int (nI o))] [] 333 M (0, 0)
  refine qi_aload_n (i := 0) (x := a) dX6_mergeInto_0 rfl rfl ?_
  refine qi_getR (x := a + 3) flX6_18 dX6_mergeInto_1 hs.1 (by have := hs.2.2.2.2.2.2; omega) (hM a 2 (a + 3) (qref_6_2 hs.1)) ?_
  refine qi_iload_n (i := 2) (x := nI o) dX6_mergeInto_4 rfl rfl ?_
  refine qi_dup2 dX6_mergeInto_5 ?_
  refine qi_ialdN (x := M.1 (a + 3) o) (j := o) dX6_mergeInto_6 hs.2.2.2.1 (by have := hs.2.2.2.2.2.2; omega) rfl (by omega) (by decide) rfl ?_
  refine qi_aload_n (i := 0) (x := a) dX6_mergeInto_7 rfl rfl ?_
  refine qi_getR (x := a + 3) flX6_18 dX6_mergeInto_8 hs.1 (by have := hs.2.2.2.2.2.2; omega) (hM a 2 (a + 3) (qref_6_2 hs.1)) ?_
  refine qi_iload_n (i := 1) (x := nI h) dX6_mergeInto_11 rfl rfl ?_
  refine qi_ialdN (x := M.1 (a + 3) h) (j := h) dX6_mergeInto_12 hs.2.2.2.1 (by have := hs.2.2.2.2.2.2; omega) rfl (by omega) (by decide) rfl ?_
  refine qi_iadd dX6_mergeInto_13 ?_
  refine qi_iastN (j := o) dX6_mergeInto_14 hs.2.2.2.1 (by have := hs.2.2.2.2.2.2; omega) rfl (by omega) (by decide) ?_
  refine qi_aload_n (i := 0) (x := a) dX6_mergeInto_15 rfl rfl ?_
  refine qi_getR (x := a + 3) flX6_18 dX6_mergeInto_16 hs.1 (by have := hs.2.2.2.2.2.2; omega) (hM a 2 (a + 3) (qref_6_2 hs.1)) ?_
  refine qi_iload_n (i := 1) (x := nI h) dX6_mergeInto_19 rfl rfl ?_
  refine qi_iconst (v := 0) dX6_mergeInto_20 rfl ?_
  refine qi_iastN (j := h) dX6_mergeInto_21 hs.2.2.2.1 (by have := hs.2.2.2.2.2.2; omega) rfl (by omega) (by decide) ?_
  refine qi_aload_n (i := 0) (x := a) dX6_mergeInto_22 rfl rfl ?_
  refine qi_getR (x := a + 4) flX6_21 dX6_mergeInto_23 hs.1 (by have := hs.2.2.2.2.2.2; omega) (hM a 3 (a + 4) (qref_6_3 hs.1)) ?_
  refine qi_iload_n (i := 2) (x := nI o) dX6_mergeInto_26 rfl rfl ?_
  refine qi_dup2 dX6_mergeInto_27 ?_
  refine qi_ialdN (x := (wI (wI M (a + 3) o ((M.1 (a + 3) o) + (M.1 (a + 3) h))) (a + 3) h 0).1 (a + 4) o) (j := o) dX6_mergeInto_28 hs.2.2.2.2.1 (by have := hs.2.2.2.2.2.2; omega) rfl (by omega) (by decide) rfl ?_
  refine qi_aload_n (i := 0) (x := a) dX6_mergeInto_29 rfl rfl ?_
  refine qi_getR (x := a + 4) flX6_21 dX6_mergeInto_30 hs.1 (by have := hs.2.2.2.2.2.2; omega) (hM a 3 (a + 4) (qref_6_3 hs.1)) ?_
  refine qi_iload_n (i := 1) (x := nI h) dX6_mergeInto_33 rfl rfl ?_
  refine qi_ialdN (x := (wI (wI M (a + 3) o ((M.1 (a + 3) o) + (M.1 (a + 3) h))) (a + 3) h 0).1 (a + 4) h) (j := h) dX6_mergeInto_34 hs.2.2.2.2.1 (by have := hs.2.2.2.2.2.2; omega) rfl (by omega) (by decide) rfl ?_
  refine qi_iadd dX6_mergeInto_35 ?_
  refine qi_iastN (j := o) dX6_mergeInto_36 hs.2.2.2.2.1 (by have := hs.2.2.2.2.2.2; omega) rfl (by omega) (by decide) ?_
  refine qi_aload_n (i := 0) (x := a) dX6_mergeInto_37 rfl rfl ?_
  refine qi_getR (x := a + 4) flX6_21 dX6_mergeInto_38 hs.1 (by have := hs.2.2.2.2.2.2; omega) (hM a 3 (a + 4) (qref_6_3 hs.1)) ?_
  refine qi_iload_n (i := 1) (x := nI h) dX6_mergeInto_41 rfl rfl ?_
  refine qi_iconst (v := 0) dX6_mergeInto_42 rfl ?_
  refine qi_iastN (j := h) dX6_mergeInto_43 hs.2.2.2.2.1 (by have := hs.2.2.2.2.2.2; omega) rfl (by omega) (by decide) ?_
  refine qi_aload_n (i := 0) (x := a) dX6_mergeInto_44 rfl rfl ?_
  refine qi_iload_n (i := 1) (x := nI h) dX6_mergeInto_45 rfl rfl ?_
  refine qi_iload_n (i := 2) (x := nI o) dX6_mergeInto_46 rfl rfl ?_
  refine qi_iconst (v := 1) dX6_mergeInto_47 rfl ?_
  refine qi_iconst (v := 1) dX6_mergeInto_48 rfl ?_
  show qT g kX6_mergeInto (qR 2 0 0) (qZI g (fun r M' => r = sumF (fun w => partF (mergeF ρ h o) 1 1 (5 * h + w)) 5 ∧ qSea M' a (moveF (mergeF ρ h o) h o 1 1 5) ∧ qFr (SS a) M M')) 49 [some (.ref a), some (.int (nI h)), some (.int (nI o))] [.int 1, .int 1, .int (nI o), .int (nI h), .ref a] 333 (wI (wI (wI (wI M (a + 3) o ((M.1 (a + 3) o) + (M.1 (a + 3) h))) (a + 3) h 0) (a + 4) o (((wI (wI M (a + 3) o ((M.1 (a + 3) o) + (M.1 (a + 3) h))) (a + 3) h 0).1 (a + 4) o) + ((wI (wI M (a + 3) o ((M.1 (a + 3) o) + (M.1 (a + 3) h))) (a + 3) h 0).1 (a + 4) h))) (a + 4) h 0) (0, 0)
  generalize hM1e : wI (wI (wI (wI M (a + 3) o ((M.1 (a + 3) o) + (M.1 (a + 3) h))) (a + 3) h 0) (a + 4) o (((wI (wI M (a + 3) o ((M.1 (a + 3) o) + (M.1 (a + 3) h))) (a + 3) h 0).1 (a + 4) o) + ((wI (wI M (a + 3) o ((M.1 (a + 3) o) + (M.1 (a + 3) h))) (a + 3) h 0).1 (a + 4) h))) (a + 4) h 0 = M1
  have hf1 : qFr (SS a) M M1 := by
    rw [← hM1e]
    refine (((qFr.rf.wI ?_).wI ?_).wI ?_).wI ?_ <;> unfold SS <;> omega
  have hM1 : qRf M1 := hM.fr hf1
  have hS1 : qSea M1 a (mergeF ρ h o) := by
    have a1 := h2 h hh
    have a2 := h2 o ho
    have a3 := h3 h hh
    have a4 := h3 o ho
    rw [← hM1e]
    refine ⟨fun k hk => ?_, fun k hk => ?_, fun k hk => ?_, fun k hk => ?_, ?_, ?_, ?_⟩
    · simp only [wI_1, mergeF]
      grind
    · have a5 := h2 k hk
      simp only [wI_1, mergeF]
      grind
    · have a5 := h3 k hk
      simp only [wI_1, mergeF]
      grind
    · simp only [wI_1, mergeF]
      grind
    · rw [allF_merge]
      simp only [wI_1]
      grind
    · simp only [wI_1, mergeF]
      grind
    · simp only [wI_1, mergeF]
      grind
  refine qi_callVI (K' := kX6_move) (As := [.int (nI h), .int (nI o), .int 1, .int 1]) mlX6_132 okX6_move dX6_mergeInto_49 (c_X6_move g hs hM1 hS1 hh ho hho 1 1) hs.1 (by decide) rfl (by have := hs.2.2.2.2.2.2; omega) rfl rfl (Nat.le_of_ble_eq_true rfl) ⟨(Nat.le_of_ble_eq_true rfl), (Nat.le_of_ble_eq_true rfl)⟩ ⟨Nat.le_refl _, Nat.le_refl _⟩ (fun r M2 ⟨e1, e2, e3⟩ => ?_)
  exact qi_retI rfl rfl dX6_mergeInto_52 (⟨e1, e2, hf1.tr e3⟩)
