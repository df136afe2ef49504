/-! ThimbleSeaModel: rows for a thimble -/
def qTh (M : qM) (t : Nat → Nat) (k : Nat) : Prop := ∀ i, i < k → M.1 327 i = nI (t i)
set_option maxHeartbeats 1000000 in
theorem c_X12_sumOf (g : qG) {M : qM} (hM : qRf M) {L : Nat} {π : qPl} (hP : qPlanM M L π) (hok : okPl π) {t : Nat → Nat} (hT : qTh M t (π.1 0)) {w : Nat} {f : Nat → Nat} (hw : (w = 0 ∧ f = fun _ => 1) ∨ (w = 1 ∧ f = π.2.1 0) ∨ (w = 2 ∧ f = π.2.1 1)) : qI g 0 kX12_sumOf [.ref 280, .int (nI w)] M (fun r M' => r = nI (sumN (fun i => t i * f i) (π.1 0)) ∧ M' = M) := by
  have hF : ∃ F : Nat → Nat, ∀ i, F i = t i * f i := ⟨_, fun _ => rfl⟩
  obtain ⟨F, hF⟩ := hF
  rw [show (fun i => t i * f i) = F from funext fun i => (hF i).symm]
  have hL := hP.1.1
  have hw5 := hok.1
  have K : ∀ m j, j + m = π.1 0 → qT g kX12_sumOf (qR 0 0 0) (qZI g (fun r M' => r = (nI (sumN F (π.1 0))) ∧ M' = M)) 4 [some (.ref 280), some (.int (nI w)), some (.int (nI (sumN F j))), some (.int (nI j))] [] 333 M (0, 0) := by
    intro m
    induction m with
    | zero =>
      intro j e
      refine qi_iload_n (i := 3) (x := nI j) dX12_sumOf_4 rfl rfl ?_
      refine qi_aload_n (i := 0) (x := 280) dX12_sumOf_5 rfl rfl ?_
      refine qi_getR (x := 291) flX12_49 dX12_sumOf_6 rfl (by decide) (hM 280 24 291 rfl) ?_
      refine qi_aload_n (i := 0) (x := 280) dX12_sumOf_9 rfl rfl ?_
      refine qi_getI (x := nI L) flX12_248 dX12_sumOf_10 rfl (by decide) hP.1.2 ?_
      refine qi_ialdN (x := nI (π.1 0)) (j := L) dX12_sumOf_13 rfl (by decide) rfl (by omega) (by decide) hP.2.1.1 ?_
      refine qi_icmp_ge (tgt := 75) dX12_sumOf_14 (by decide) (fun _hc => ?_) (fun _h => absurd ((nI_leI (a := π.1 0) (b := j) (by omega) (by omega)).mpr (by omega)) _h)
      refine qi_iload_n (i := 2) (x := nI (sumN F j)) dX12_sumOf_75 rfl rfl ?_
      exact qi_retI rfl rfl dX12_sumOf_76 (⟨by rw [show j = π.1 0 by omega], rfl⟩)
    | succ m ih =>
      intro j e
      have A := ih (j + 1) (by omega)
      have h1 := hT j (by omega)
      have s1 : M.1 292 (5 * L + j) = nI (π.2.1 0 j) := hP.2.2.1 0 j (by omega) (by omega)
      have s2 : M.1 293 (5 * L + j) = nI (π.2.1 1 j) := hP.2.2.1 1 j (by omega) (by omega)
      have K66 : qT g kX12_sumOf (qR 0 0 0) (qZI g (fun r M' => r = (nI (sumN F (π.1 0))) ∧ M' = M)) 66 [some (.ref 280), some (.int (nI w)), some (.int (nI (sumN F j))), some (.int (nI j))] [.int (nI (f j)), .int (nI (t j)), .int (nI (sumN F j))] 333 M (0, 0) := by
        refine qi_imul dX12_sumOf_66 ?_
        refine qi_iadd dX12_sumOf_67 ?_
        refine qe_top (y := nI (sumN F (j + 1))) (by rw [pk_mul, nI_add, ← hF]; rfl) ?_
        refine qi_istore_n (i := 2) (L2 := [some (.ref 280), some (.int (nI w)), some (.int (nI (sumN F (j + 1)))), some (.int (nI j))]) dX12_sumOf_68 rfl (Nat.le_of_ble_eq_true rfl) rfl ?_
        refine qi_iinc (i := 3) (x := nI j) (v := nI (j + 1)) (L2 := [some (.ref 280), some (.int (nI w)), some (.int (nI (sumN F (j + 1)))), some (.int (nI (j + 1)))]) dX12_sumOf_69 rfl (nI_1 j) (Nat.le_of_ble_eq_true rfl) rfl ?_
        refine qi_goto (tgt := 4) dX12_sumOf_72 (by decide) ?_
        exact A
      refine qi_iload_n (i := 3) (x := nI j) dX12_sumOf_4 rfl rfl ?_
      refine qi_aload_n (i := 0) (x := 280) dX12_sumOf_5 rfl rfl ?_
      refine qi_getR (x := 291) flX12_49 dX12_sumOf_6 rfl (by decide) (hM 280 24 291 rfl) ?_
      refine qi_aload_n (i := 0) (x := 280) dX12_sumOf_9 rfl rfl ?_
      refine qi_getI (x := nI L) flX12_248 dX12_sumOf_10 rfl (by decide) hP.1.2 ?_
      refine qi_ialdN (x := nI (π.1 0)) (j := L) dX12_sumOf_13 rfl (by decide) rfl (by omega) (by decide) hP.2.1.1 ?_
      refine qi_icmp_ge (tgt := 75) dX12_sumOf_14 (by decide) (fun _h => absurd ((nI_leI (a := π.1 0) (b := j) (by omega) (by omega)).mp _h) (by omega)) (fun _hc => ?_)
      refine qi_iload_n (i := 2) (x := nI (sumN F j)) dX12_sumOf_17 rfl rfl ?_
      refine qi_aload_n (i := 0) (x := 280) dX12_sumOf_18 rfl rfl ?_
      refine qi_getR (x := 327) flX12_158 dX12_sumOf_19 rfl (by decide) (hM 280 68 327 rfl) ?_
      refine qi_iload_n (i := 3) (x := nI j) dX12_sumOf_22 rfl rfl ?_
      refine qi_ialdN (x := nI (t j)) (j := j) dX12_sumOf_23 rfl (by decide) rfl (by omega) (by decide) h1 ?_
      refine qi_iload_n (i := 1) (x := nI w) dX12_sumOf_24 rfl rfl ?_
      refine qi_if_ne (tgt := 32) dX12_sumOf_25 (by decide) (fun _h => ?_) (fun _h => ?_)
      · have c1 : ¬ (w = 0) := fun z => _h ((nI_eq (a := w) (b := 0) (by omega) (by omega)).mpr z)
        refine qi_iload_n (i := 1) (x := nI w) dX12_sumOf_32 rfl rfl ?_
        refine qi_iconst (v := 1) dX12_sumOf_33 rfl ?_
        refine qi_icmp_ne (tgt := 53) dX12_sumOf_34 (by decide) (fun _h => ?_) (fun _h => ?_)
        · have c2 : ¬ (w = 1) := fun z => _h ((nI_eq (a := w) (b := 1) (by omega) (by omega)).mpr z)
          refine qi_aload_n (i := 0) (x := 280) dX12_sumOf_53 rfl rfl ?_
          refine qi_getR (x := 293) flX12_55 dX12_sumOf_54 rfl (by decide) (hM 280 26 293 rfl) ?_
          refine qi_iconst (v := 5) dX12_sumOf_57 rfl ?_
          refine qi_aload_n (i := 0) (x := 280) dX12_sumOf_58 rfl rfl ?_
          refine qi_getI (x := nI L) flX12_248 dX12_sumOf_59 rfl (by decide) hP.1.2 ?_
          refine qi_imul dX12_sumOf_62 ?_
          refine qi_iload_n (i := 3) (x := nI j) dX12_sumOf_63 rfl rfl ?_
          refine qi_iadd dX12_sumOf_64 ?_
          refine qe_top (y := nI (5 * L + j)) (by rw [show (5 : Int32) = nI 5 from rfl, pk_mul, nI_add]) ?_
          refine qi_ialdN (x := nI (π.2.1 1 j)) (j := 5 * L + j) dX12_sumOf_65 rfl (by decide) rfl (by omega) (by decide) s2 ?_
          rw [show π.2.1 1 j = f j by rcases hw with z | z | z <;> first | (exfalso; omega) | rw [z.2]]
          exact K66
        · have c2 : w = 1 := (nI_eq (a := w) (b := 1) (by omega) (by omega)).mp _h
          refine qi_aload_n (i := 0) (x := 280) dX12_sumOf_37 rfl rfl ?_
          refine qi_getR (x := 292) flX12_52 dX12_sumOf_38 rfl (by decide) (hM 280 25 292 rfl) ?_
          refine qi_iconst (v := 5) dX12_sumOf_41 rfl ?_
          refine qi_aload_n (i := 0) (x := 280) dX12_sumOf_42 rfl rfl ?_
          refine qi_getI (x := nI L) flX12_248 dX12_sumOf_43 rfl (by decide) hP.1.2 ?_
          refine qi_imul dX12_sumOf_46 ?_
          refine qi_iload_n (i := 3) (x := nI j) dX12_sumOf_47 rfl rfl ?_
          refine qi_iadd dX12_sumOf_48 ?_
          refine qe_top (y := nI (5 * L + j)) (by rw [show (5 : Int32) = nI 5 from rfl, pk_mul, nI_add]) ?_
          refine qi_ialdN (x := nI (π.2.1 0 j)) (j := 5 * L + j) dX12_sumOf_49 rfl (by decide) rfl (by omega) (by decide) s1 ?_
          refine qi_goto (tgt := 66) dX12_sumOf_50 (by decide) ?_
          rw [show π.2.1 0 j = f j by rcases hw with z | z | z <;> first | (exfalso; omega) | rw [z.2]]
          exact K66
      · have c1 : w = 0 := (nI_eq (a := w) (b := 0) (by omega) (by omega)).mp _h
        refine qi_iconst (v := 1) dX12_sumOf_28 rfl ?_
        refine qi_goto (tgt := 66) dX12_sumOf_29 (by decide) ?_
        have f1 : f j = 1 := by rcases hw with z | z | z <;> first | (exfalso; omega) | rw [z.2]
        rw [f1] at K66
        exact K66
  refine qI.of (j := 2) (pn_RX12) rfl ?_
  show qT g kX12_sumOf (qR 0 0 0) (qZI g (fun r M' => r = (nI (sumN F (π.1 0))) ∧ M' = M)) 0 [some (.ref 280), some (.int (nI w)), none, none] [] 333 M (0, 0)
  refine qi_iconst (v := 0) dX12_sumOf_0 rfl ?_
  refine qi_istore_n (i := 2) (L2 := [some (.ref 280), some (.int (nI w)), some (.int 0), none]) dX12_sumOf_1 rfl (Nat.le_of_ble_eq_true rfl) rfl ?_
  refine qi_iconst (v := 0) dX12_sumOf_2 rfl ?_
  refine qi_istore_n (i := 3) (L2 := [some (.ref 280), some (.int (nI w)), some (.int 0), some (.int 0)]) dX12_sumOf_3 rfl (Nat.le_of_ble_eq_true rfl) rfl ?_
  exact K (π.1 0) 0 (by omega)
def accM (M : qM) (W : Nat) (P : List (List Nat)) : Prop := M.2.1 280 70 = lN P.length ∧ (M.1 280 71 = if P.length = 0 then 0 else nI (sureF W P)) ∧ ∀ l Q, P = l :: Q → ∀ v, v < W → M.1 328 v = nI (l.getD v 0)
def SRo : Nat → Nat → Prop := fun b j => b = 328 ∨ (b = 280 ∧ (j = 70 ∨ j = 71))
theorem lN_0 {n : Nat} (h : n < 2 ^ 63) : lg_cmp (lN n) 0 = 0 ↔ n = 0 := (lg_cmp_eq _ _).trans (pk_lEQ (b := 0) h (by omega))
set_option maxHeartbeats 2000000 in
theorem c_X12_notesRow (g : qG) {M : qM} (hM : qRf M) {L : Nat} {π : qPl} (hP : qPlanM M L π) (hok : okPl π) {t : Nat → Nat} (hT : qTh M t (π.1 0)) (ht : ∀ i, i < π.1 0 → t i < 2 ^ 31) {P : List (List Nat)} (hA : accM M (π.1 0) P) (hl : P.length ≤ 844596301) : qV g 0 kX12_notesRow [.ref 280] M (fun M' => accM M' (π.1 0) (P ++ [pre t (π.1 0)]) ∧ qFr SRo M M') := by
  have hL := hP.1.1
  have hw5 := hok.1
  obtain ⟨A1, A2, A3⟩ := hA
  have hG : ∃ G : Nat → Bool, ∀ v, G v = (decide (v < π.1 0) && decide (0 < t v)) := ⟨_, fun _ => rfl⟩
  obtain ⟨G, hG⟩ := hG
  have hlen : (P ++ [pre t (π.1 0)]).length = P.length + 1 := by rw [List.length_append]; rfl
  have gd : ∀ v, v < π.1 0 → (pre t (π.1 0)).getD v 0 = t v := fun v hv => pre_get t _ v hv
  have sureS : sureF (π.1 0) (P ++ [pre t (π.1 0)]) = bitsF (fun v => (decide (v < π.1 0) && allP P v) && G v) := by
    unfold sureF
    refine bits_congr (fun v hv => ?_)
    rw [allP_app, hG]
    by_cases c : v < π.1 0
    · rw [gd v c, decide_eq_true c]
      simp
    · rw [decide_eq_false c]
      simp
  have E92 : ∀ M1 x, qFr SRo M M1 → M1.2.1 280 70 = lN P.length → (∀ l Q, P ++ [pre t (π.1 0)] = l :: Q → ∀ v, v < π.1 0 → M1.1 328 v = nI (l.getD v 0)) → x = nI (sureF (π.1 0) (P ++ [pre t (π.1 0)])) → ∀ x1 x2, qT g kX12_notesRow (qR 0 0 0) (qZV g (fun M' => accM M' (π.1 0) (P ++ [pre t (π.1 0)]) ∧ qFr SRo M M')) 92 [some (.ref 280), x1, x2] [.int x, .ref 280] 333 M1 (0, 0) := by
    intro M1 x hf h1 h2 hx x1 x2
    have hM1 := hM.fr hf
    refine qi_putI flX12_428 q_cls12 (ty12_71 _) dX12_notesRow_92 rfl (by decide) ?_
    refine qi_aload_n (i := 0) (x := 280) dX12_notesRow_95 rfl rfl ?_
    refine qi_dup dX12_notesRow_96 ?_
    refine qi_getJ (x := lN P.length) flX12_424 dX12_notesRow_97 rfl (by decide) h1 ?_
    refine qi_lconst (v := 1) dX12_notesRow_100 rfl ?_
    refine qi_ladd dX12_notesRow_101 ?_
    refine qe_topJ (y := lN (P.length + 1)) (pk_lAdd P.length 1) ?_
    refine qi_putJ flX12_424 q_cls12 (ty12_70 _) dX12_notesRow_102 rfl (by decide) ?_
    refine qi_retV rfl dX12_notesRow_105 (⟨⟨by rw [hlen]; exact wJ_s _ _ _ _, ?_, fun l Q hlq v hv => ?_⟩, (hf.wI (Or.inr ⟨rfl, Or.inr rfl⟩)).wJ (Or.inr ⟨rfl, Or.inl rfl⟩)⟩)
    · rw [hlen, if_neg (by omega), ← hx]
      show (wI M1 280 71 x).1 280 71 = x
      exact wI_s _ _ _ _
    · show (wI M1 280 71 x).1 328 v = _
      rw [wI_a (by decide)]
      exact h2 l Q hlq v hv
  have K72 : ∀ M1 x2, qFr SRo M M1 → M1.2.1 280 70 = lN P.length → M1.1 280 71 = M.1 280 71 → (∀ l Q, P ++ [pre t (π.1 0)] = l :: Q → ∀ v, v < π.1 0 → M1.1 328 v = nI (l.getD v 0)) → qT g kX12_notesRow (qR 0 0 0) (qZV g (fun M' => accM M' (π.1 0) (P ++ [pre t (π.1 0)]) ∧ qFr SRo M M')) 72 [some (.ref 280), some (.int (nI (bitsF G))), x2] [] 333 M1 (0, 0) := by
    intro M1 x2 hf h1 h2 h3
    have hM1 := hM.fr hf
    refine qi_aload_n (i := 0) (x := 280) dX12_notesRow_72 rfl rfl ?_
    refine qi_aload_n (i := 0) (x := 280) dX12_notesRow_73 rfl rfl ?_
    refine qi_getJ (x := lN P.length) flX12_424 dX12_notesRow_74 rfl (by decide) h1 ?_
    refine qi_lconst (v := 0) dX12_notesRow_77 rfl ?_
    refine qi_lcmp dX12_notesRow_78 ?_
    by_cases c : P.length = 0
    · have hPn : P = [] := List.length_eq_zero_iff.mp c
      refine qi_if_ne (tgt := 86) dX12_notesRow_79 (by decide) (fun z => False.elim (z ((lN_0 (by omega)).mpr c))) (fun z => ?_)
      refine qi_iload_n (i := 1) (x := nI (bitsF G)) dX12_notesRow_82 rfl rfl ?_
      refine qi_goto (tgt := 92) dX12_notesRow_83 (by decide) ?_
      refine E92 M1 _ hf h1 h3 ?_ _ _
      rw [sureS]
      congr 1
      refine bits_congr (fun v hv => ?_)
      rw [hPn, hG]
      cases decide (v < π.1 0) <;> cases decide (0 < t v) <;> rfl
    ·
      refine qi_if_ne (tgt := 86) dX12_notesRow_79 (by decide) (fun z => ?_) (fun z => False.elim (c ((lN_0 (by omega)).mp z)))
      rw [if_neg c] at A2
      have h2' : M1.1 280 71 = nI (sureF (π.1 0) P) := h2.trans A2
      refine qi_aload_n (i := 0) (x := 280) dX12_notesRow_86 rfl rfl ?_
      refine qi_getI (x := nI (sureF (π.1 0) P)) flX12_428 dX12_notesRow_87 rfl (by decide) h2' ?_
      refine qi_iload_n (i := 1) (x := nI (bitsF G)) dX12_notesRow_90 rfl rfl ?_
      refine qi_iand dX12_notesRow_91 ?_
      refine E92 M1 _ hf h1 h3 ?_ _ _
      rw [sureS]
      unfold sureF
      exact bits_and _ _
  have K38 : ∀ x2, qT g kX12_notesRow (qR 0 0 0) (qZV g (fun M' => accM M' (π.1 0) (P ++ [pre t (π.1 0)]) ∧ qFr SRo M M')) 38 [some (.ref 280), some (.int (nI (bitsF G))), x2] [] 333 M (0, 0) := by
    intro x2
    refine qi_aload_n (i := 0) (x := 280) dX12_notesRow_38 rfl rfl ?_
    refine qi_getJ (x := lN P.length) flX12_424 dX12_notesRow_39 rfl (by decide) A1 ?_
    refine qi_lconst (v := 0) dX12_notesRow_42 rfl ?_
    refine qi_lcmp dX12_notesRow_43 ?_
    by_cases c : P.length = 0
    · have hPn : P = [] := List.length_eq_zero_iff.mp c
      refine qi_if_ne (tgt := 72) dX12_notesRow_44 (by decide) (fun z => False.elim (z ((lN_0 (by omega)).mpr c))) (fun z => ?_)
      have J : ∀ m j M1, j + m = 5 → qFr (fun b _ => b = 328) M M1 → (∀ v, v < j → M1.1 328 v = M.1 327 v) → qT g kX12_notesRow (qR 0 0 0) (qZV g (fun M' => accM M' (π.1 0) (P ++ [pre t (π.1 0)]) ∧ qFr SRo M M')) 49 [some (.ref 280), some (.int (nI (bitsF G))), some (.int (nI j))] [] 333 M1 (0, 0) := by
        intro m
        induction m with
        | zero =>
          intro j M1 e hf h
          have hM1 := hM.fr hf
          refine qi_iload_n (i := 2) (x := nI j) dX12_notesRow_49 rfl rfl ?_
          refine qi_iconst (v := 5) dX12_notesRow_50 rfl ?_
          refine qi_icmp_ge (tgt := 72) dX12_notesRow_51 (by decide) (fun _hc => ?_) (fun _h => absurd ((nI_leI (a := 5) (b := j) (by omega) (by omega)).mpr (by omega)) _h)
          refine K72 M1 _ (hf.mono (fun _ _ z => Or.inl z)) ((hf.2.1 _ _ (by omega)).trans A1) (hf.1 _ _ (by omega)) (fun l Q hlq v hv => ?_)
          rw [hPn] at hlq
          cases hlq
          rw [h v (by omega), hT v hv, gd v hv]
        | succ m ih =>
          intro j M1 e hf h
          have hM1 := hM.fr hf
          have e1 : M1.1 327 j = M.1 327 j := hf.1 _ _ (by omega)
          refine qi_iload_n (i := 2) (x := nI j) dX12_notesRow_49 rfl rfl ?_
          refine qi_iconst (v := 5) dX12_notesRow_50 rfl ?_
          refine qi_icmp_ge (tgt := 72) dX12_notesRow_51 (by decide) (fun _h => absurd ((nI_leI (a := 5) (b := j) (by omega) (by omega)).mp _h) (by omega)) (fun _hc => ?_)
          refine qi_aload_n (i := 0) (x := 280) dX12_notesRow_54 rfl rfl ?_
          refine qi_getR (x := 328) flX12_161 dX12_notesRow_55 rfl (by decide) (hM1 280 69 328 rfl) ?_
          refine qi_iload_n (i := 2) (x := nI j) dX12_notesRow_58 rfl rfl ?_
          refine qi_aload_n (i := 0) (x := 280) dX12_notesRow_59 rfl rfl ?_
          refine qi_getR (x := 327) flX12_158 dX12_notesRow_60 rfl (by decide) (hM1 280 68 327 rfl) ?_
          refine qi_iload_n (i := 2) (x := nI j) dX12_notesRow_63 rfl rfl ?_
          refine qi_ialdN (x := M1.1 327 j) (j := j) dX12_notesRow_64 rfl (by decide) rfl (by omega) (by decide) rfl ?_
          refine qi_iastN (j := j) dX12_notesRow_65 rfl (by decide) rfl (by omega) (by decide) ?_
          refine qi_iinc (i := 2) (x := nI j) (v := nI (j + 1)) (L2 := [some (.ref 280), some (.int (nI (bitsF G))), some (.int (nI (j + 1)))]) dX12_notesRow_66 rfl (nI_1 j) (Nat.le_of_ble_eq_true rfl) rfl ?_
          refine qi_goto (tgt := 49) dX12_notesRow_69 (by decide) ?_
          refine ih (j + 1) _ (by omega) (hf.wI rfl) (fun v hv => ?_)
          by_cases c1 : v = j
          · rw [c1, wI_s, e1]
          · rw [wI_k c1]; exact h v (by omega)
      refine qi_iconst (v := 0) dX12_notesRow_47 rfl ?_
      refine qi_istore_n (i := 2) (L2 := [some (.ref 280), some (.int (nI (bitsF G))), some (.int 0)]) dX12_notesRow_48 rfl (Nat.le_of_ble_eq_true rfl) rfl ?_
      exact J 5 0 M (by omega) qFr.rf (fun v hv => absurd hv (Nat.not_lt_zero _))
    ·
      refine qi_if_ne (tgt := 72) dX12_notesRow_44 (by decide) (fun z => ?_) (fun z => False.elim (c ((lN_0 (by omega)).mp z)))
      refine K72 M _ qFr.rf A1 rfl (fun l Q hlq v hv => ?_)
      cases hPp : P with
      | nil => exact absurd (by rw [hPp]; rfl) c
      | cons a b =>
        rw [hPp] at hlq
        have e1 := (List.cons.inj (show a :: (b ++ [pre t (π.1 0)]) = l :: Q from hlq)).1
        rw [← e1]
        exact A3 a b hPp v hv
  have K4 : ∀ m j, j + m = π.1 0 → qT g kX12_notesRow (qR 0 0 0) (qZV g (fun M' => accM M' (π.1 0) (P ++ [pre t (π.1 0)]) ∧ qFr SRo M M')) 4 [some (.ref 280), some (.int (nI (bitsF (fun v ↦ G v && decide (v < j))))), some (.int (nI j))] [] 333 M (0, 0) := by
    intro m
    induction m with
    | zero =>
      intro j e
      have A := K38 (some (.int (nI j)))
      rw [bits_congr (f := G) (h := fun v => G v && decide (v < j)) (fun v hv => by
        show G v = (G v && decide (v < j))
        rw [hG, show π.1 0 = j by omega]
        cases decide (v < j) <;> cases decide (0 < t v) <;> rfl)] at A
      refine qi_iload_n (i := 2) (x := nI j) dX12_notesRow_4 rfl rfl ?_
      refine qi_aload_n (i := 0) (x := 280) dX12_notesRow_5 rfl rfl ?_
      refine qi_getR (x := 291) flX12_49 dX12_notesRow_6 rfl (by decide) (hM 280 24 291 rfl) ?_
      refine qi_aload_n (i := 0) (x := 280) dX12_notesRow_9 rfl rfl ?_
      refine qi_getI (x := nI L) flX12_248 dX12_notesRow_10 rfl (by decide) hP.1.2 ?_
      refine qi_ialdN (x := nI (π.1 0)) (j := L) dX12_notesRow_13 rfl (by decide) rfl (by omega) (by decide) hP.2.1.1 ?_
      refine qi_icmp_ge (tgt := 38) dX12_notesRow_14 (by decide) (fun _hc => ?_) (fun _h => absurd ((nI_leI (a := π.1 0) (b := j) (by omega) (by omega)).mpr (by omega)) _h)
      exact A
    | succ m ih =>
      intro j e
      have h1 := hT j (by omega)
      have h2 := ht j (by omega)
      have A := ih (j + 1) (by omega)
      refine qi_iload_n (i := 2) (x := nI j) dX12_notesRow_4 rfl rfl ?_
      refine qi_aload_n (i := 0) (x := 280) dX12_notesRow_5 rfl rfl ?_
      refine qi_getR (x := 291) flX12_49 dX12_notesRow_6 rfl (by decide) (hM 280 24 291 rfl) ?_
      refine qi_aload_n (i := 0) (x := 280) dX12_notesRow_9 rfl rfl ?_
      refine qi_getI (x := nI L) flX12_248 dX12_notesRow_10 rfl (by decide) hP.1.2 ?_
      refine qi_ialdN (x := nI (π.1 0)) (j := L) dX12_notesRow_13 rfl (by decide) rfl (by omega) (by decide) hP.2.1.1 ?_
      refine qi_icmp_ge (tgt := 38) dX12_notesRow_14 (by decide) (fun _h => absurd ((nI_leI (a := π.1 0) (b := j) (by omega) (by omega)).mp _h) (by omega)) (fun _hc => ?_)
      refine qi_aload_n (i := 0) (x := 280) dX12_notesRow_17 rfl rfl ?_
      refine qi_getR (x := 327) flX12_158 dX12_notesRow_18 rfl (by decide) (hM 280 68 327 rfl) ?_
      refine qi_iload_n (i := 2) (x := nI j) dX12_notesRow_21 rfl rfl ?_
      refine qi_ialdN (x := nI (t j)) (j := j) dX12_notesRow_22 rfl (by decide) rfl (by omega) (by decide) h1 ?_
      refine qi_if_le (tgt := 32) dX12_notesRow_23 (by decide) (fun _h => ?_) (fun _h => ?_)
      · have c : (t j) ≤ 0 := (nI_leI (a := t j) (b := 0) (by omega) (by omega)).mp _h
        rw [bits_congr (f := fun v => G v && decide (v < j + 1)) (h := fun v => G v && decide (v < j)) (fun v hv => by
          by_cases c1 : v = j
          · rw [c1, hG, decide_eq_false (p := 0 < t j) (by omega)]
            simp
          · rw [decide_eq_decide.mpr (show v < j + 1 ↔ v < j by omega)])] at A
        refine qi_iinc (i := 2) (x := nI j) (v := nI (j + 1)) (L2 := [some (.ref 280), some (.int (nI (bitsF (fun v ↦ G v && decide (v < j))))), some (.int (nI (j + 1)))]) dX12_notesRow_32 rfl (nI_1 j) (Nat.le_of_ble_eq_true rfl) rfl ?_
        refine qi_goto (tgt := 4) dX12_notesRow_35 (by decide) ?_
        exact A
      · have c : ¬ ((t j) ≤ 0) := fun z => _h ((nI_leI (a := t j) (b := 0) (by omega) (by omega)).mpr z)
        refine qi_iload_n (i := 1) (x := nI (bitsF (fun v ↦ G v && decide (v < j)))) dX12_notesRow_26 rfl rfl ?_
        refine qi_iconst (v := 1) dX12_notesRow_27 rfl ?_
        refine qi_iload_n (i := 2) (x := nI j) dX12_notesRow_28 rfl rfl ?_
        refine qi_ishl dX12_notesRow_29 ?_
        refine qi_ior dX12_notesRow_30 ?_
        refine qe_top (y := nI (bitsF (fun v ↦ (G v && decide (v < j)) || decide (v = j)))) (bits_or _ (by omega)) ?_
        rw [bits_congr (f := fun v => G v && decide (v < j + 1)) (h := fun v => (G v && decide (v < j)) || decide (v = j)) (fun v hv => by
          by_cases c1 : v = j
          · rw [c1, hG, decide_eq_true (p := 0 < t j) (by omega), decide_eq_true (p := j < π.1 0) (by omega)]
            simp
          · rw [decide_eq_decide.mpr (show v < j + 1 ↔ v < j by omega), decide_eq_false c1, Bool.or_false])] at A
        refine qi_istore_n (i := 1) (L2 := [some (.ref 280), some (.int (nI (bitsF (fun v ↦ (G v && decide (v < j)) || decide (v = j))))), some (.int (nI j))]) dX12_notesRow_31 rfl (Nat.le_of_ble_eq_true rfl) rfl ?_
        refine qi_iinc (i := 2) (x := nI j) (v := nI (j + 1)) (L2 := [some (.ref 280), some (.int (nI (bitsF (fun v ↦ (G v && decide (v < j)) || decide (v = j))))), some (.int (nI (j + 1)))]) dX12_notesRow_32 rfl (nI_1 j) (Nat.le_of_ble_eq_true rfl) rfl ?_
        refine qi_goto (tgt := 4) dX12_notesRow_35 (by decide) ?_
        exact A
  have A := K4 (π.1 0) 0 (by omega)
  rw [show bitsF (fun v => G v && decide (v < 0)) = 0 from (bits_congr (h := fun _ => false) (fun v _ => by simp)).trans (by decide)] at A
  refine qV.of (j := 2) (pn_RX12) rfl ?_
  show qT g kX12_notesRow (qR 0 0 0) (qZV g (fun M' => accM M' (π.1 0) (P ++ [pre t (π.1 0)]) ∧ qFr SRo M M')) 0 [some (.ref 280), none, none] [] 333 M (0, 0)
  refine qi_iconst (v := 0) dX12_notesRow_0 rfl ?_
  refine qi_istore_n (i := 1) (L2 := [some (.ref 280), some (.int 0), none]) dX12_notesRow_1 rfl (Nat.le_of_ble_eq_true rfl) rfl ?_
  refine qi_iconst (v := 0) dX12_notesRow_2 rfl ?_
  refine qi_istore_n (i := 2) (L2 := [some (.ref 280), some (.int 0), some (.int 0)]) dX12_notesRow_3 rfl (Nat.le_of_ble_eq_true rfl) rfl ?_
  exact A
set_option maxHeartbeats 2000000 in
theorem c_X12_nextNumbers (g : qG) {M : qM} (hM : qRf M) {L : Nat} {π : qPl} (hP : qPlanM M L π) (hok : okPl π) {t : Nat → Nat} {n : Nat} (hW : 0 < π.1 0) (hn : n ≤ 60) (hT : qTh M t (π.1 0 - 1)) (hs : sumN t (π.1 0 - 1) ≤ n) : qI g 0 kX12_nextNumbers [.ref 280, .int (nI n)] M (fun r M' => ((r = 0 ∧ rst (π.1 0) n t (π.1 0 - 1) = []) ∨ (r = 1 ∧ ∃ u, qTh M' u (π.1 0 - 1) ∧ sumN u (π.1 0 - 1) ≤ n ∧ rst (π.1 0) n t (π.1 0 - 1) = leaf (π.1 0) n u :: rst (π.1 0) n u (π.1 0 - 1))) ∧ qFr (fun b _ => b = 327) M M') := by
  obtain ⟨W, hWd⟩ : ∃ W, W = π.1 0 := ⟨_, rfl⟩
  rw [← hWd] at hT hs hW ⊢
  have hL := hP.1.1
  have hw5 := hok.1
  rw [← hWd] at hw5
  have K : ∀ j M1 x2 x3 x4, j ≤ W - 1 → x2 = nI j - 1 → qFr (fun b _ => b = 327) M M1 → (∀ i, i < j → M1.1 327 i = nI (t i)) → (∀ i, j ≤ i → i < W - 1 → M1.1 327 i = 0) → rst W n t (W - 1) = rst W n t j → qT g kX12_nextNumbers (qR 0 0 0) (qZI g (fun r M' => ((r = 0 ∧ rst W n t (W - 1) = []) ∨ (r = 1 ∧ ∃ u, qTh M' u (W - 1) ∧ sumN u (W - 1) ≤ n ∧ rst W n t (W - 1) = leaf W n u :: rst W n u (W - 1))) ∧ qFr (fun b _ => b = 327) M M')) 12 [some (.ref 280), some (.int (nI n)), some (.int x2), x3, x4] [] 333 M1 (0, 0) := by
    intro j
    induction j with
    | zero =>
      intro M1 x2 x3 x4 hj hx hf h1 h2 hr
      subst hx
      refine qi_iload_n (i := 2) (x := nI 0 - 1) dX12_nextNumbers_12 rfl rfl ?_
      refine qi_if_lt (tgt := 80) dX12_nextNumbers_13 (by decide) (fun z => ?_) (fun z => False.elim (z (by decide)))
      refine qi_iconst (v := 0) dX12_nextNumbers_80 rfl ?_
      exact qi_retI rfl (by rfl) dX12_nextNumbers_81 (⟨Or.inl ⟨rfl, hr⟩, hf⟩)
    | succ i ih =>
      intro M1 x2 x3 x4 hj hx hf h1 h2 hr
      rw [nI_pred] at hx
      subst hx
      have hM1 := hM.fr hf
      have hmono := sumN_mono t (a := i + 1) (b := W - 1) hj
      have hmono0 := sumN_mono t (a := i) (b := i + 1) (by omega)
      have ti := h1 i (by omega)
      have s1 : sumN t (i + 1) = sumN t i + t i := rfl
      refine qi_iload_n (i := 2) (x := nI i) dX12_nextNumbers_12 rfl rfl ?_
      refine qi_if_lt (tgt := 80) dX12_nextNumbers_13 (by decide) (fun _h => absurd ((nI_ltI (a := i) (b := 0) (by omega) (by omega)).mp _h) (by omega)) (fun _hc => ?_)
      refine qi_iconst (v := 0) dX12_nextNumbers_16 rfl ?_
      refine qi_istore_n (i := 3) (L2 := [some (.ref 280), some (.int (nI n)), some (.int (nI i)), some (.int 0), x4]) dX12_nextNumbers_17 rfl (Nat.le_of_ble_eq_true rfl) rfl ?_
      refine qi_iconst (v := 0) dX12_nextNumbers_18 rfl ?_
      refine qi_istore (i := 4) (L2 := [some (.ref 280), some (.int (nI n)), some (.int (nI i)), some (.int 0), some (.int 0)]) dX12_nextNumbers_19 (Nat.le_of_ble_eq_true rfl) rfl ?_
      have J : ∀ m k, k + m = i → qT g kX12_nextNumbers (qR 0 0 0) (qZI g (fun r M' => ((r = 0 ∧ rst W n t (W - 1) = []) ∨ (r = 1 ∧ ∃ u, qTh M' u (W - 1) ∧ sumN u (W - 1) ≤ n ∧ rst W n t (W - 1) = leaf W n u :: rst W n u (W - 1))) ∧ qFr (fun b _ => b = 327) M M')) 21 [some (.ref 280), some (.int (nI n)), some (.int (nI i)), some (.int (nI (sumN t k))), some (.int (nI k))] [] 333 M1 (0, 0) := by
        intro m
        induction m with
        | zero =>
          intro k e
          obtain rfl : k = i := by omega
          refine qi_iload (i := 4) (x := nI k) dX12_nextNumbers_21 rfl ?_
          refine qi_iload_n (i := 2) (x := nI k) dX12_nextNumbers_23 rfl rfl ?_
          refine qi_icmp_ge (tgt := 43) dX12_nextNumbers_24 (by decide) (fun _hc => ?_) (fun _h => absurd ((nI_leI (a := k) (b := k) (by omega) (by omega)).mpr (by omega)) _h)
          refine qi_iload_n (i := 3) (x := nI (sumN t k)) dX12_nextNumbers_43 rfl rfl ?_
          refine qi_aload_n (i := 0) (x := 280) dX12_nextNumbers_44 rfl rfl ?_
          refine qi_getR (x := 327) flX12_158 dX12_nextNumbers_45 rfl (by decide) (hM1 280 68 327 rfl) ?_
          refine qi_iload_n (i := 2) (x := nI k) dX12_nextNumbers_48 rfl rfl ?_
          refine qi_ialdN (x := nI (t k)) (j := k) dX12_nextNumbers_49 rfl (by decide) rfl (by omega) (by decide) ti ?_
          refine qi_iadd dX12_nextNumbers_50 ?_
          refine qe_top (y := nI (sumN t (k + 1))) (nI_add _ _) ?_
          refine qi_iload_n (i := 1) (x := nI n) dX12_nextNumbers_51 rfl rfl ?_
          refine qi_icmp_ge (tgt := 67) dX12_nextNumbers_52 (by decide) (fun _h => ?_) (fun _h => ?_)
          · have c : n ≤ (sumN t (k + 1)) := (nI_leI (a := n) (b := sumN t (k + 1)) (by omega) (by omega)).mp _h
            refine qi_aload_n (i := 0) (x := 280) dX12_nextNumbers_67 rfl rfl ?_
            refine qi_getR (x := 327) flX12_158 dX12_nextNumbers_68 rfl (by decide) (hM1 280 68 327 rfl) ?_
            refine qi_iload_n (i := 2) (x := nI k) dX12_nextNumbers_71 rfl rfl ?_
            refine qi_iconst (v := 0) dX12_nextNumbers_72 rfl ?_
            refine qi_iastN (j := k) dX12_nextNumbers_73 rfl (by decide) rfl (by omega) (by decide) ?_
            refine qi_iinc (i := 2) (x := nI k) (v := nI k + (-1)) (L2 := [some (.ref 280), some (.int (nI n)), some (.int (nI k + (-1))), some (.int (nI (sumN t k))), some (.int (nI k))]) dX12_nextNumbers_74 rfl rfl (Nat.le_of_ble_eq_true rfl) rfl ?_
            refine qi_goto (tgt := 12) dX12_nextNumbers_77 (by decide) ?_
            refine ih _ _ _ _ (by omega) (by show nI k + (-1) = nI k - 1; grind) (hf.wI rfl) (fun i hi => by rw [wI_k (by omega)]; exact h1 i (by omega)) (fun i h3 h4 => ?_) (hr.trans (none_row c))
            by_cases c1 : i = k
            · rw [c1, wI_s]
            · rw [wI_k c1]; exact h2 i (by omega) h4
          · have c : ¬ (n ≤ (sumN t (k + 1))) := fun z => _h ((nI_leI (a := n) (b := sumN t (k + 1)) (by omega) (by omega)).mpr z)
            refine qi_aload_n (i := 0) (x := 280) dX12_nextNumbers_55 rfl rfl ?_
            refine qi_getR (x := 327) flX12_158 dX12_nextNumbers_56 rfl (by decide) (hM1 280 68 327 rfl) ?_
            refine qi_iload_n (i := 2) (x := nI k) dX12_nextNumbers_59 rfl rfl ?_
            refine qi_dup2 dX12_nextNumbers_60 ?_
            refine qi_ialdN (x := nI (t k)) (j := k) dX12_nextNumbers_61 rfl (by decide) rfl (by omega) (by decide) ti ?_
            refine qi_iconst (v := 1) dX12_nextNumbers_62 rfl ?_
            refine qi_iadd dX12_nextNumbers_63 ?_
            refine qe_top (y := nI (t k + 1)) (nI_1 _) ?_
            refine qi_iastN (j := k) dX12_nextNumbers_64 rfl (by decide) rfl (by omega) (by decide) ?_
            refine qi_iconst (v := 1) dX12_nextNumbers_65 rfl ?_
            have hu : ∃ u : Nat → Nat, ∀ i, u i = if i < k + 1 then t i else 0 := ⟨_, fun _ => rfl⟩
            obtain ⟨u, hu⟩ := hu
            have e1 : ∀ i, i < k + 1 → t i = u i := fun i hi => by rw [hu, if_pos hi]
            have e2 := rst_congr (W := W) (n := n) (k + 1) e1
            have e3 := sumN_congr (f := t) (h := u) (k + 1) e1
            have nx := next_row (W := W) (n := n) (w := k) (t := u) (by omega) (by omega) (fun i h3 h4 => by rw [hu, if_neg (by omega)])
            have su : sumN (setN u k (u k + 1)) (W - 1) = sumN u (k + 1) + 1 := by
              have a1 : sumN (setN u k (u k + 1)) (k + 1) = sumN u (k + 1) + 1 := by
                show sumN (setN u k (u k + 1)) k + setN u k (u k + 1) k = sumN u k + u k + 1
                rw [sumN_congr (f := setN u k (u k + 1)) (h := u) k (fun i hi => if_neg (by omega)), show setN u k (u k + 1) k = u k + 1 from if_pos rfl]
                omega
              have a2 := sumN_add (setN u k (u k + 1)) (k + 1) (W - 1 - (k + 1))
              rw [show k + 1 + (W - 1 - (k + 1)) = W - 1 by omega] at a2
              rw [a2, a1, sumN_zero (f := fun q => setN u k (u k + 1) (k + 1 + q)) _ (fun i hi => by show (if k + 1 + i = k then _ else u (k + 1 + i)) = 0; rw [if_neg (by omega), hu, if_neg (by omega)])]
            refine qi_retI rfl (by rfl) dX12_nextNumbers_66 (⟨Or.inr ⟨rfl, setN u k (u k + 1), fun i hi => ?_, by omega, by rw [hr, e2]; exact nx⟩, hf.wI rfl⟩)
            show _ = nI (if i = k then u k + 1 else u i)
            by_cases c1 : i = k
            · rw [if_pos c1, c1, wI_s, ← e1 k (by omega)]
            · rw [if_neg c1, wI_k c1, hu]
              by_cases c2 : i < k + 1
              · rw [if_pos c2]; exact h1 i c2
              · rw [if_neg c2]; exact h2 i (by omega) hi
        | succ m ih2 =>
          intro k e
          have tk := h1 k (by omega)
          refine qi_iload (i := 4) (x := nI k) dX12_nextNumbers_21 rfl ?_
          refine qi_iload_n (i := 2) (x := nI i) dX12_nextNumbers_23 rfl rfl ?_
          refine qi_icmp_ge (tgt := 43) dX12_nextNumbers_24 (by decide) (fun _h => absurd ((nI_leI (a := i) (b := k) (by omega) (by omega)).mp _h) (by omega)) (fun _hc => ?_)
          refine qi_iload_n (i := 3) (x := nI (sumN t k)) dX12_nextNumbers_27 rfl rfl ?_
          refine qi_aload_n (i := 0) (x := 280) dX12_nextNumbers_28 rfl rfl ?_
          refine qi_getR (x := 327) flX12_158 dX12_nextNumbers_29 rfl (by decide) (hM1 280 68 327 rfl) ?_
          refine qi_iload (i := 4) (x := nI k) dX12_nextNumbers_32 rfl ?_
          refine qi_ialdN (x := nI (t k)) (j := k) dX12_nextNumbers_34 rfl (by decide) rfl (by omega) (by decide) tk ?_
          refine qi_iadd dX12_nextNumbers_35 ?_
          refine qe_top (y := nI (sumN t (k + 1))) (nI_add _ _) ?_
          refine qi_istore_n (i := 3) (L2 := [some (.ref 280), some (.int (nI n)), some (.int (nI i)), some (.int (nI (sumN t (k + 1)))), some (.int (nI k))]) dX12_nextNumbers_36 rfl (Nat.le_of_ble_eq_true rfl) rfl ?_
          refine qi_iinc (i := 4) (x := nI k) (v := nI (k + 1)) (L2 := [some (.ref 280), some (.int (nI n)), some (.int (nI i)), some (.int (nI (sumN t (k + 1)))), some (.int (nI (k + 1)))]) dX12_nextNumbers_37 rfl (nI_1 k) (Nat.le_of_ble_eq_true rfl) rfl ?_
          refine qi_goto (tgt := 21) dX12_nextNumbers_40 (by decide) ?_
          exact ih2 (k + 1) (by omega)
      exact J i 0 (by omega)
  refine qI.of (j := 3) (pn_RX12) rfl ?_
  show qT g kX12_nextNumbers (qR 0 0 0) (qZI g (fun r M' => ((r = 0 ∧ rst W n t (W - 1) = []) ∨ (r = 1 ∧ ∃ u, qTh M' u (W - 1) ∧ sumN u (W - 1) ≤ n ∧ rst W n t (W - 1) = leaf W n u :: rst W n u (W - 1))) ∧ qFr (fun b _ => b = 327) M M')) 0 [some (.ref 280), some (.int (nI n)), none, none, none] [] 333 M (0, 0)
  refine qi_aload_n (i := 0) (x := 280) dX12_nextNumbers_0 rfl rfl ?_
  refine qi_getR (x := 291) flX12_49 dX12_nextNumbers_1 rfl (by decide) (hM 280 24 291 rfl) ?_
  refine qi_aload_n (i := 0) (x := 280) dX12_nextNumbers_4 rfl rfl ?_
  refine qi_getI (x := nI L) flX12_248 dX12_nextNumbers_5 rfl (by decide) hP.1.2 ?_
  refine qi_ialdN (x := nI (π.1 0)) (j := L) dX12_nextNumbers_8 rfl (by decide) rfl (by omega) (by decide) hP.2.1.1 ?_
  refine qi_iconst (v := 2) dX12_nextNumbers_9 rfl ?_
  refine qi_isub dX12_nextNumbers_10 ?_
  refine qe_top (y := nI (W - 1) - 1) (by rw [← hWd, show (2 : Int32) = 1 + 1 from rfl, show nI (W - 1) = nI W - 1 by rw [show (1 : Int32) = nI 1 from rfl, pk_sub (by omega)]]; grind) ?_
  refine qi_istore_n (i := 2) (L2 := [some (.ref 280), some (.int (nI n)), some (.int (nI (W - 1) - 1)), none, none]) dX12_nextNumbers_11 rfl (Nat.le_of_ble_eq_true rfl) rfl ?_
  exact K (W - 1) M _ none none (Nat.le_refl _) rfl qFr.rf (fun i hi => hT i hi) (fun i h1 h2 => absurd h1 (by omega)) rfl
