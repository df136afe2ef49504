/-! the reference's reading: comesOut, unit -/
def emC (w : Nat) : Int32 := if w = 8 then -7 else if w = 9 then -8 else if w = 10 then -9 else -10
def stQ (x : Int32) (w : Nat) : Prop := w = 6 ∨ (x = 1 ∧ (w = 8 ∨ w = 9))
def wtS (M : qM) (W : List Nat) : Prop := M.1 280 54 = nI W.length ∧ ∀ i, i < W.length → M.1 318 i = nI (W.getD i 0)
def SCo (lo hi : Nat) : Nat → Nat → Prop := fun b j => (b = 280 ∧ (j = 50 ∨ j = 54)) ∨ ((b = 316 ∨ b = 317) ∧ lo ≤ j ∧ j < hi)
theorem getD_end {A : List Nat} {r : Nat} : (A ++ [r]).getD A.length 0 = r := by simp
theorem getD_ahead {A B : List Nat} {i : Nat} (h : i < A.length) : (A ++ B).getD i 0 = A.getD i 0 := by
  rw [List.getD_eq_getElem?_getD, List.getElem?_append_left h, ← List.getD_eq_getElem?_getD]
theorem wtS.fr {F : Nat → Nat → Prop} {M M' : qM} {W : List Nat} (h : wtS M W) (hf : qFr F M M') (hd : ∀ b j, F b j → b ≠ 318 ∧ (b = 280 → j ≠ 54)) : wtS M' W := ⟨(hf.1 _ _ (fun z => (hd _ _ z).2 rfl rfl)).trans h.1, fun i hi => (hf.1 _ _ (fun z => (hd _ _ z).1 rfl)).trans (h.2 i hi)⟩
theorem cellR_fr {F : Nat → Nat → Prop} {M M' : qM} {o : Nat} {es : List Int32} (h : cellR (M.1 316) (M.1 317) o es) (hf : qFr F M M') (hd : ∀ j, j < o + es.length → ¬ F 316 j ∧ ¬ F 317 j) : cellR (M'.1 316) (M'.1 317) o es := fun i hi => by
  rw [hf.1 _ _ (hd _ (by omega)).1, hf.1 _ _ (hd _ (by omega)).2]
  exact h i hi
theorem c_X12_comesOut (g : qG) {M : qM} (hM : qRf M) {x : Int32} (hx : x = 0 ∨ x = 1) {B R : List Nat} {cd : Nat} (hw : wtS M (B ++ R.reverse)) (hl : B.length + R.length ≤ 64) (hs : ∀ w, w ∈ B ++ R.reverse → w < 100) (hst : B = [] ∨ ∃ B' w, B = B' ++ [w] ∧ stQ x w) (hR : ∀ r, r ∈ R → ¬ stQ x r) (hc : M.1 280 50 = nI cd) (hcd : cd + R.length ≤ 840) : qV g 1 kX12_comesOut [.ref 280, .int x] M (fun M' => wtS M' B ∧ M'.1 280 50 = nI (cd + R.length) ∧ cellR (M'.1 316) (M'.1 317) cd (R.map emC) ∧ qFr (SCo cd (cd + R.length)) M M') := by
  have K : ∀ (R2 : List Nat) (E : List Int32) M1 x2, (∀ r, r ∈ R2 → ¬ stQ x r ∧ r < 100) → R2.length ≤ R.length → E ++ R2.map emC = R.map emC → wtS M1 (B ++ R2.reverse) → M1.1 280 50 = nI (cd + E.length) → cellR (M1.1 316) (M1.1 317) cd E → qFr (SCo cd (cd + R.length)) M M1 → qT g kX12_comesOut (qR 1 0 0) (qZV g (fun M' => wtS M' B ∧ M'.1 280 50 = nI (cd + R.length) ∧ cellR (M'.1 316) (M'.1 317) cd (R.map emC) ∧ qFr (SCo cd (cd + R.length)) M M')) 0 [some (.ref 280), some (.int x), x2] [] 333 M1 (0, 0) := by
    intro R2
    induction R2 with
    | nil =>
      intro E M1 x2 h1 h2 h3 h4 h5 h6 h7
      rw [List.map_nil, List.append_nil] at h3
      rw [List.reverse_nil, List.append_nil] at h4
      have hM1 := hM.fr h7
      have el : E.length = R.length := by rw [h3, List.length_map]
      rw [el] at h5
      rw [h3] at h6
      have hwt := h4.1
      rcases hst with hB | ⟨B', w, hB, hw2⟩
      ·
        have eb : B.length = 0 := by rw [hB]; rfl
        refine qi_aload_n (i := 0) (x := 280) dX12_comesOut_0 rfl rfl ?_
        refine qi_getI (x := nI B.length) flX12_321 dX12_comesOut_1 rfl (by decide) hwt ?_
        refine qi_if_le (tgt := 91) dX12_comesOut_4 (by decide) (fun _hc => ?_) (fun _h => absurd ((nI_leI (a := B.length) (b := 0) (by omega) (by omega)).mpr (by omega)) _h)
        exact qi_retV rfl dX12_comesOut_91 (⟨h4, h5, h6, h7⟩)
      ·
        have eb : B.length = B'.length + 1 := by rw [hB, List.length_append]; rfl
        have ew : M1.1 318 B'.length = nI w := by
          rw [h4.2 B'.length (by omega), hB, getD_end]
        have hw3 : w < 100 := hs w (by rw [hB]; simp)
        have OUT : qT g kX12_comesOut (qR 1 0 0) (qZV g (fun M' => wtS M' B ∧ M'.1 280 50 = nI (cd + R.length) ∧ cellR (M'.1 316) (M'.1 317) cd (R.map emC) ∧ qFr (SCo cd (cd + R.length)) M M')) 41 [some (.ref 280), some (.int x), some (.int (nI w))] [] 333 M1 (0, 0) := by
          exact qi_retV rfl dX12_comesOut_41 (⟨h4, h5, h6, h7⟩)
        refine qi_aload_n (i := 0) (x := 280) dX12_comesOut_0 rfl rfl ?_
        refine qi_getI (x := nI B.length) flX12_321 dX12_comesOut_1 rfl (by decide) hwt ?_
        refine qi_if_le (tgt := 91) dX12_comesOut_4 (by decide) (fun _h => absurd ((nI_leI (a := B.length) (b := 0) (by omega) (by omega)).mp _h) (by omega)) (fun _hc => ?_)
        refine qi_aload_n (i := 0) (x := 280) dX12_comesOut_7 rfl rfl ?_
        refine qi_getR (x := 318) flX12_131 dX12_comesOut_8 rfl (by decide) (hM1 280 53 318 rfl) ?_
        refine qi_aload_n (i := 0) (x := 280) dX12_comesOut_11 rfl rfl ?_
        refine qi_getI (x := nI B.length) flX12_321 dX12_comesOut_12 rfl (by decide) hwt ?_
        refine qi_iconst (v := 1) dX12_comesOut_15 rfl ?_
        refine qi_isub dX12_comesOut_16 ?_
        refine qe_top (y := nI B'.length) (by rw [eb]; exact nI_pred _) ?_
        refine qi_ialdN (x := nI w) (j := B'.length) dX12_comesOut_17 rfl (by decide) rfl (by omega) (by decide) ew ?_
        refine qi_istore_n (i := 2) (L2 := [some (.ref 280), some (.int x), some (.int (nI w))]) dX12_comesOut_18 rfl (Nat.le_of_ble_eq_true rfl) rfl ?_
        refine qi_iload_n (i := 2) (x := nI w) dX12_comesOut_19 rfl rfl ?_
        refine qi_bipush (v := 6) dX12_comesOut_20 rfl ?_
        by_cases c6 : w = 6
        ·
          refine qi_icmp_eq (tgt := 41) dX12_comesOut_22 (by decide) (fun _hc => ?_) (fun _h => absurd ((nI_eq (a := w) (b := 6) (by omega) (by omega)).mpr (by omega)) _h)
          exact OUT
        rcases hw2 with hw2 | ⟨hx1, hw2⟩
        · exact absurd hw2 c6
        subst hx1
        refine qi_icmp_eq (tgt := 41) dX12_comesOut_22 (by decide) (fun _h => absurd ((nI_eq (a := w) (b := 6) (by omega) (by omega)).mp _h) (by omega)) (fun _hc => ?_)
        refine qi_iload_n (i := 1) (x := 1) dX12_comesOut_25 rfl rfl ?_
        refine qi_if_eq (tgt := 42) dX12_comesOut_26 (by decide) (fun z => False.elim ((by cases z))) (fun z => ?_)
        refine qi_iload_n (i := 2) (x := nI w) dX12_comesOut_29 rfl rfl ?_
        refine qi_bipush (v := 8) dX12_comesOut_30 rfl ?_
        by_cases c8 : w = 8
        ·
          refine qi_icmp_eq (tgt := 41) dX12_comesOut_32 (by decide) (fun _hc => ?_) (fun _h => absurd ((nI_eq (a := w) (b := 8) (by omega) (by omega)).mpr (by omega)) _h)
          exact OUT
        refine qi_icmp_eq (tgt := 41) dX12_comesOut_32 (by decide) (fun _h => absurd ((nI_eq (a := w) (b := 8) (by omega) (by omega)).mp _h) (by omega)) (fun _hc => ?_)
        refine qi_iload_n (i := 2) (x := nI w) dX12_comesOut_35 rfl rfl ?_
        refine qi_bipush (v := 9) dX12_comesOut_36 rfl ?_
        refine qi_icmp_ne (tgt := 42) dX12_comesOut_38 (by decide) (fun _h => absurd ((nI_eq (a := w) (b := 9) (by omega) (by omega)).mpr (by omega)) _h) (fun _hc => ?_)
        exact OUT
    | cons r R3 ih =>
      intro E M1 x2 h1 h2 h3 h4 h5 h6 h7
      rw [List.length_cons] at h2
      have hM1 := hM.fr h7
      obtain ⟨hr, hr100⟩ := h1 r List.mem_cons_self
      rw [List.reverse_cons, ← List.append_assoc] at h4
      have lb : (B ++ R3.reverse).length = B.length + R3.length := by rw [List.length_append, List.length_reverse]
      have lb2 : (B ++ R3.reverse ++ [r]).length = B.length + R3.length + 1 := by rw [List.length_append, lb]; rfl
      have hwt : M1.1 280 54 = nI (B.length + R3.length + 1) := h4.1.trans (by rw [lb2])
      have ew : M1.1 318 (B.length + R3.length) = nI r := by
        rw [h4.2 _ (by omega), ← lb, getD_end]
      have el : E.length + (R3.length + 1) = R.length := by
        have := congrArg List.length h3
        rw [List.length_append, List.length_map, List.length_map, List.length_cons] at this
        exact this
      have AFT : ∀ k, k = (rcC (emC r)).1 → qT g kX12_comesOut (qR 1 0 0) (qZV g (fun M' => wtS M' B ∧ M'.1 280 50 = nI (cd + R.length) ∧ cellR (M'.1 316) (M'.1 317) cd (R.map emC) ∧ qFr (SCo cd (cd + R.length)) M M')) 84 [some (.ref 280), some (.int x), some (.int (nI r))] [.int k, .ref 280] 333 (wI M1 280 54 (nI (B.length + R3.length))) (0, 0) := by
        intro k hk
        have hc1 : (wI M1 280 54 (nI (B.length + R3.length))).1 280 50 = nI (cd + E.length) := (wI_k (by decide)).trans h5
        refine qi_iconst (v := 0) dX12_comesOut_84 rfl ?_
        have hMw : qRf (wI M1 280 54 (nI (B.length + R3.length))) := hM1
        refine qi_callVV (K' := kX12_emit) (As := [.int k, .int 0]) mlX12_324 okX12_emit dX12_comesOut_85 (c_X12_emit g hMw hc1 (by omega) k 0) rfl (by decide) rfl (by decide) rfl rfl (Nat.le_of_ble_eq_true rfl) ⟨(Nat.le_of_ble_eq_true rfl), (Nat.le_of_ble_eq_true rfl)⟩ ⟨Nat.le_refl _, Nat.le_refl _⟩ (fun M2 e2 => ?_)
        refine qi_goto (tgt := 0) dX12_comesOut_88 (by decide) ?_
        have F12 : qFr (SCo (cd + E.length) (cd + E.length + 1)) M1 M2 := by
          rw [e2]
          exact (((qFr.rf.wI (by unfold SCo; omega)).wI (by unfold SCo; omega)).wI (by unfold SCo; omega)).wI (by unfold SCo; omega)
        have le : (E ++ [emC r]).length = E.length + 1 := by rw [List.length_append]; rfl
        refine ih (E ++ [emC r]) M2 _ (fun q hq => h1 q (List.mem_cons_of_mem _ hq)) (by omega) (by rw [← h3, List.append_assoc]; rfl) ⟨?_, fun i hi => ?_⟩ ?_ ?_ (h7.tr (F12.mono (fun b j z => by unfold SCo at z ⊢; omega)))
        · rw [e2, wI_k (by decide), wI_a (by decide), wI_a (by decide), wI_s, lb]
        · rw [lb] at hi
          rw [F12.1 _ _ (by unfold SCo; omega), h4.2 i (by omega), getD_ahead (by omega)]
        · rw [e2, wI_s, le]
          rfl
        · refine cellR_a.mpr ⟨cellR_fr h6 F12 (fun j hj => by unfold SCo; omega), fun i hi => ?_⟩
          have hi2 : i < 1 := hi
          obtain rfl : i = 0 := by omega
          have e0 : (rcC (emC r)).2 = 0 := by
            unfold emC
            split
            · rfl
            · split
              · rfl
              · split <;> rfl
          rw [e2]
          simp only [wI_1]
          simp
          exact ⟨hk, e0.symm⟩
      have GO : qT g kX12_comesOut (qR 1 0 0) (qZV g (fun M' => wtS M' B ∧ M'.1 280 50 = nI (cd + R.length) ∧ cellR (M'.1 316) (M'.1 317) cd (R.map emC) ∧ qFr (SCo cd (cd + R.length)) M M')) 42 [some (.ref 280), some (.int x), some (.int (nI r))] [] 333 M1 (0, 0) := by
        refine qi_aload_n (i := 0) (x := 280) dX12_comesOut_42 rfl rfl ?_
        refine qi_dup dX12_comesOut_43 ?_
        refine qi_getI (x := nI (B.length + R3.length + 1)) flX12_321 dX12_comesOut_44 rfl (by decide) hwt ?_
        refine qi_iconst (v := 1) dX12_comesOut_47 rfl ?_
        refine qi_isub dX12_comesOut_48 ?_
        refine qe_top (y := nI (B.length + R3.length)) (nI_pred _) ?_
        refine qi_putI flX12_321 q_cls12 (ty12_54 _) dX12_comesOut_49 rfl (by decide) ?_
        refine qi_aload_n (i := 0) (x := 280) dX12_comesOut_52 rfl rfl ?_
        refine qi_iload_n (i := 2) (x := nI r) dX12_comesOut_53 rfl rfl ?_
        refine qi_bipush (v := 8) dX12_comesOut_54 rfl ?_
        by_cases c8 : r = 8
        ·
          have A := AFT 2 (by rw [c8]; rfl)
          refine qi_icmp_ne (tgt := 63) dX12_comesOut_56 (by decide) (fun _h => absurd ((nI_eq (a := r) (b := 8) (by omega) (by omega)).mpr (by omega)) _h) (fun _hc => ?_)
          refine qi_iconst (v := 2) dX12_comesOut_59 rfl ?_
          refine qi_goto (tgt := 84) dX12_comesOut_60 (by decide) ?_
          exact A
        refine qi_icmp_ne (tgt := 63) dX12_comesOut_56 (by decide) (fun _hc => ?_) (fun _h => absurd ((nI_eq (a := r) (b := 8) (by omega) (by omega)).mp _h) (by omega))
        refine qi_iload_n (i := 2) (x := nI r) dX12_comesOut_63 rfl rfl ?_
        refine qi_bipush (v := 9) dX12_comesOut_64 rfl ?_
        by_cases c9 : r = 9
        ·
          have A := AFT 3 (by rw [c9]; rfl)
          refine qi_icmp_ne (tgt := 73) dX12_comesOut_66 (by decide) (fun _h => absurd ((nI_eq (a := r) (b := 9) (by omega) (by omega)).mpr (by omega)) _h) (fun _hc => ?_)
          refine qi_iconst (v := 3) dX12_comesOut_69 rfl ?_
          refine qi_goto (tgt := 84) dX12_comesOut_70 (by decide) ?_
          exact A
        refine qi_icmp_ne (tgt := 73) dX12_comesOut_66 (by decide) (fun _hc => ?_) (fun _h => absurd ((nI_eq (a := r) (b := 9) (by omega) (by omega)).mp _h) (by omega))
        refine qi_iload_n (i := 2) (x := nI r) dX12_comesOut_73 rfl rfl ?_
        refine qi_bipush (v := 10) dX12_comesOut_74 rfl ?_
        by_cases c10 : r = 10
        ·
          have A := AFT 4 (by rw [c10]; rfl)
          refine qi_icmp_ne (tgt := 83) dX12_comesOut_76 (by decide) (fun _h => absurd ((nI_eq (a := r) (b := 10) (by omega) (by omega)).mpr (by omega)) _h) (fun _hc => ?_)
          refine qi_iconst (v := 4) dX12_comesOut_79 rfl ?_
          refine qi_goto (tgt := 84) dX12_comesOut_80 (by decide) ?_
          exact A
        have A := AFT 5 (by unfold emC; rw [if_neg c8, if_neg c9, if_neg c10]; rfl)
        refine qi_icmp_ne (tgt := 83) dX12_comesOut_76 (by decide) (fun _hc => ?_) (fun _h => absurd ((nI_eq (a := r) (b := 10) (by omega) (by omega)).mp _h) (by omega))
        refine qi_iconst (v := 5) dX12_comesOut_83 rfl ?_
        exact A
      unfold stQ at hr
      refine qi_aload_n (i := 0) (x := 280) dX12_comesOut_0 rfl rfl ?_
      refine qi_getI (x := nI (B.length + R3.length + 1)) flX12_321 dX12_comesOut_1 rfl (by decide) hwt ?_
      refine qi_if_le (tgt := 91) dX12_comesOut_4 (by decide) (fun _h => absurd ((nI_leI (a := B.length + R3.length + 1) (b := 0) (by omega) (by omega)).mp _h) (by omega)) (fun _hc => ?_)
      refine qi_aload_n (i := 0) (x := 280) dX12_comesOut_7 rfl rfl ?_
      refine qi_getR (x := 318) flX12_131 dX12_comesOut_8 rfl (by decide) (hM1 280 53 318 rfl) ?_
      refine qi_aload_n (i := 0) (x := 280) dX12_comesOut_11 rfl rfl ?_
      refine qi_getI (x := nI (B.length + R3.length + 1)) flX12_321 dX12_comesOut_12 rfl (by decide) hwt ?_
      refine qi_iconst (v := 1) dX12_comesOut_15 rfl ?_
      refine qi_isub dX12_comesOut_16 ?_
      refine qe_top (y := nI (B.length + R3.length)) (nI_pred _) ?_
      refine qi_ialdN (x := nI r) (j := B.length + R3.length) dX12_comesOut_17 rfl (by decide) rfl (by omega) (by decide) ew ?_
      refine qi_istore_n (i := 2) (L2 := [some (.ref 280), some (.int x), some (.int (nI r))]) dX12_comesOut_18 rfl (Nat.le_of_ble_eq_true rfl) rfl ?_
      refine qi_iload_n (i := 2) (x := nI r) dX12_comesOut_19 rfl rfl ?_
      refine qi_bipush (v := 6) dX12_comesOut_20 rfl ?_
      refine qi_icmp_eq (tgt := 41) dX12_comesOut_22 (by decide) (fun _h => absurd ((nI_eq (a := r) (b := 6) (by omega) (by omega)).mp _h) (by omega)) (fun _hc => ?_)
      refine qi_iload_n (i := 1) (x := x) dX12_comesOut_25 rfl rfl ?_
      rcases hx with hx0 | hx1
      ·
        subst hx0
        refine qi_if_eq (tgt := 42) dX12_comesOut_26 (by decide) (fun z => ?_) (fun z => False.elim ((z rfl)))
        exact GO
      ·
        subst hx1
        have c8 : ¬ r = 8 := fun z => hr (Or.inr ⟨rfl, Or.inl z⟩)
        have c9 : ¬ r = 9 := fun z => hr (Or.inr ⟨rfl, Or.inr z⟩)
        refine qi_if_eq (tgt := 42) dX12_comesOut_26 (by decide) (fun z => False.elim ((by cases z))) (fun z => ?_)
        refine qi_iload_n (i := 2) (x := nI r) dX12_comesOut_29 rfl rfl ?_
        refine qi_bipush (v := 8) dX12_comesOut_30 rfl ?_
        refine qi_icmp_eq (tgt := 41) dX12_comesOut_32 (by decide) (fun _h => absurd ((nI_eq (a := r) (b := 8) (by omega) (by omega)).mp _h) (by omega)) (fun _hc => ?_)
        refine qi_iload_n (i := 2) (x := nI r) dX12_comesOut_35 rfl rfl ?_
        refine qi_bipush (v := 9) dX12_comesOut_36 rfl ?_
        refine qi_icmp_ne (tgt := 42) dX12_comesOut_38 (by decide) (fun _hc => ?_) (fun _h => absurd ((nI_eq (a := r) (b := 9) (by omega) (by omega)).mp _h) (by omega))
        exact GO
  refine qV.of (j := 1) (pn_RX12) rfl ?_
  show qT g kX12_comesOut (qR 1 0 0) (qZV g (fun M' => wtS M' B ∧ M'.1 280 50 = nI (cd + R.length) ∧ cellR (M'.1 316) (M'.1 317) cd (R.map emC) ∧ qFr (SCo cd (cd + R.length)) M M')) 0 [some (.ref 280), some (.int x), none] [] 333 M (0, 0)
  exact K R [] M _ (fun r hr => ⟨hR r hr, hs r (List.mem_append_right _ (List.mem_reverse.mpr hr))⟩) (Nat.le_refl _) rfl hw hc cellR_n qFr.rf
def SUn2 (cd : Nat) : Nat → Nat → Prop := fun b j => SYt b j ∨ (b = 280 ∧ j = 50) ∨ ((b = 316 ∨ b = 317) ∧ j = cd)
theorem km_var : ∀ k, k < 145 → (31 ≤ kmQ k ∧ kmQ k ≤ 36 ↔ 139 ≤ k ∧ k ≤ 144) := by decide +kernel
theorem vaC_rc : ∀ j, j < 6 → rcC (vaC (139 + j)) = (1, nI (kmQ (139 + j)) - 31) := by decide
theorem rc_nat {v : Nat} (h : v ≤ 9999) : rcC (nI v) = (0, nI v) := if_pos (nI_pos' (by omega))
theorem c_X12_unitF (g : qG) {M : qM} {S : Nat} {T : qTk} {e : qE} (h : qYF M S T e) : qV g 2 kX12_unit [.ref 280] M (fun M' => M' = M) := by
  have hn := h.n
  refine qV.of (j := 0) (pn_RX12) rfl ?_
  show qT g kX12_unit (qR 2 0 0) (qZV g (fun M' => M' = M)) 0 [some (.ref 280)] [] 333 M (0, 0)
  refine qi_aload_n (i := 0) (x := 280) dX12_unit_0 rfl rfl ?_
  refine qi_iconst (v := 2) dX12_unit_1 rfl ?_
  refine qi_callPVI (v := 0) (K' := kX12_is) (As := [.int 2]) mlX12_236 okX12_is dX12_unit_2 (c_X12_isF g h 2) rfl (by decide) rfl (by decide) rfl rfl (Nat.le_of_ble_eq_true rfl) ⟨(Nat.le_of_ble_eq_true rfl), (Nat.le_of_ble_eq_true rfl)⟩ ⟨Nat.le_refl _, Nat.le_refl _⟩ ?_
  refine qi_if_eq (tgt := 29) dX12_unit_5 (by decide) (fun z => ?_) (fun z => False.elim ((z rfl)))
  refine qi_aload_n (i := 0) (x := 280) dX12_unit_29 rfl rfl ?_
  refine qi_getI (x := nI e.1) flX12_218 dX12_unit_30 rfl (by decide) h.2.2.1 ?_
  refine qi_if_ne (tgt := 88) dX12_unit_33 (by decide) (fun _hc => ?_) (fun _h => absurd ((nI_eq (a := e.1) (b := 0) (by omega) (by omega)).mp _h) (by omega))
  refine qi_aload_n (i := 0) (x := 280) dX12_unit_88 rfl rfl ?_
  refine qi_iconst (v := 1) dX12_unit_89 rfl ?_
  refine qi_callVV (K' := kX12_fail) (As := [.int 1]) mlX12_233 okX12_fail dX12_unit_90 (c_X12_failF g h 1) rfl (by decide) rfl (by decide) rfl rfl (Nat.le_of_ble_eq_true rfl) ⟨(Nat.le_of_ble_eq_true rfl), (Nat.le_of_ble_eq_true rfl)⟩ ⟨Nat.le_refl _, Nat.le_refl _⟩ (fun M1 e1 => ?_)
  exact qi_retV rfl dX12_unit_93 (e1)
theorem c_X12_unit (g : qG) {M : qM} {S : Nat} {T : qTk} {a : Nat} {s : Nat × Nat} {N : qNm} {nc : Nat} (hT : okTk T) (h : qYK M S T a s N nc) (h40 : ¬ kAt T a = 40) {cd : Nat} (hc : M.1 280 50 = nI cd) (hb : cd < 840) {U : Option qEx} : qV g 2 kX12_unit [.ref 280] M (fun M' => qPy S T (unQ T U a) (fun v M' => qYK M' S T v.1 s N nc ∧ M'.1 280 50 = nI (cd + v.2.length) ∧ cellR (M'.1 316) (M'.1 317) cd v.2) M' ∧ qFr (SUn2 cd) M M') := by
  generalize hR : unQ T U a = res
  unfold unQ at hR
  obtain ⟨hG, ⟨h2, h3, h4, h5⟩, ⟨h6, h7, h8⟩, hN⟩ := id h
  obtain ⟨hM, hE, -, -⟩ := id hG
  have hv := hE a h3 h2
  have hz := kAt_z hT a
  have hvar := km_var (kAt T a) (by omega)
  have hkl := km_lt (kAt T a) (by omega)
  have EM : ∀ c M1 k, kAt T a = k → ¬ k = 0 → M1 = wI (wI (wI M 316 cd (rcC c).1) 317 cd (rcC c).2) 280 50 (nI (cd + 1)) → qYK M1 S T a s N nc ∧ M1.1 280 50 = nI (cd + 1) ∧ cellR (M1.1 316) (M1.1 317) cd [c] ∧ qFr (SUn2 cd) M M1 := by
    intro c M1 k hk hk0 e1
    have F : qFr (SUn2 cd) M M1 := by
      rw [e1]
      exact ((qFr.rf.wI (by unfold SUn2; omega)).wI (by unfold SUn2; omega)).wI (by unfold SUn2; omega)
    have F2 : qFr (fun b j => (b = 280 ∧ j = 50) ∨ b = 316 ∨ b = 317) M M1 := by
      rw [e1]
      exact ((qFr.rf.wI (by omega)).wI (by omega)).wI (by omega)
    refine ⟨h.fr F2 (fun b j z => by omega), by rw [e1, wI_s], fun i hi => ?_, F⟩
    have hi2 : i < 1 := hi
    obtain rfl : i = 0 := by omega
    rw [e1]
    simp [wI_1]
  refine qV.of (j := 0) (pn_RX12) rfl ?_
  show qT g kX12_unit (qR 2 0 0) (qZV g (fun M' => qPy S T res (fun v M' => qYK M' S T v.1 s N nc ∧ M'.1 280 50 = nI (cd + v.2.length) ∧ cellR (M'.1 316) (M'.1 317) cd v.2) M' ∧ qFr (SUn2 cd) M M')) 0 [some (.ref 280)] [] 333 M (0, 0)
  refine qi_aload_n (i := 0) (x := 280) dX12_unit_0 rfl rfl ?_
  refine qi_iconst (v := 2) dX12_unit_1 rfl ?_
  refine qi_callPVI (v := (if kAt T a = 3 then 1 else 0)) (K' := kX12_is) (As := [.int 2]) mlX12_236 okX12_is dX12_unit_2 (c_X12_is g hT h (k := 3) (by decide)) rfl (by decide) rfl (by decide) rfl rfl (Nat.le_of_ble_eq_true rfl) ⟨(Nat.le_of_ble_eq_true rfl), (Nat.le_of_ble_eq_true rfl)⟩ ⟨Nat.le_refl _, Nat.le_refl _⟩ ?_
  by_cases c3 : kAt T a = 3
  ·
    rw [if_pos c3] at hR
    have hvb := vAt_le hT c3
    rw [if_pos c3]
    refine qi_if_eq (tgt := 29) dX12_unit_5 (by decide) (fun z => False.elim ((by cases z))) (fun z => ?_)
    refine qi_aload_n (i := 0) (x := 280) dX12_unit_8 rfl rfl ?_
    refine qi_iconst (v := 0) dX12_unit_9 rfl ?_
    refine qi_aload_n (i := 0) (x := 280) dX12_unit_10 rfl rfl ?_
    refine qi_getR (x := 285) flX12_27 dX12_unit_11 rfl (by decide) (hM 280 7 285 rfl) ?_
    refine qi_aload_n (i := 0) (x := 280) dX12_unit_14 rfl rfl ?_
    refine qi_getI (x := nI a) flX12_221 dX12_unit_15 rfl (by decide) h4 ?_
    refine qi_ialdN (x := nI (vAt T a)) (j := a) dX12_unit_18 rfl (by decide) rfl (by omega) (by decide) (hv.2.2.1 c3) ?_
    refine qi_callVV (K' := kX12_emit) (As := [.int 0, .int (nI (vAt T a))]) mlX12_324 okX12_emit dX12_unit_19 (c_X12_emit g hM hc hb 0 (nI (vAt T a))) rfl (by decide) rfl (by decide) rfl rfl (Nat.le_of_ble_eq_true rfl) ⟨(Nat.le_of_ble_eq_true rfl), (Nat.le_of_ble_eq_true rfl)⟩ ⟨Nat.le_refl _, Nat.le_refl _⟩ (fun M1 e1 => ?_)
    obtain ⟨k1, z1, cl1, F1⟩ := EM (nI (vAt T a)) M1 3 c3 (by decide) (by rw [e1, rc_nat hvb])
    refine qi_aload_n (i := 0) (x := 280) dX12_unit_22 rfl rfl ?_
    refine qi_callVV (K' := kX12_goesOn) (As := []) mlX12_239 okX12_goesOn dX12_unit_23 (c_X12_goesOn g k1 c3 (by decide)) rfl (by decide) rfl (by decide) rfl rfl (Nat.le_of_ble_eq_true rfl) ⟨(Nat.le_of_ble_eq_true rfl), (Nat.le_of_ble_eq_true rfl)⟩ ⟨Nat.le_refl _, Nat.le_refl _⟩ (fun M2 ⟨k2, f2⟩ => ?_)
    have F2 : qFr (SUn2 cd) M M2 := F1.tr (f2.mono (fun b j z => Or.inl z))
    refine qi_goto (tgt := 93) dX12_unit_26 (by decide) ?_
    cases hA : acQ T 3 a with
    | error e =>
      rw [bQ_e hA] at hR
      exact qi_retV rfl dX12_unit_93 (⟨qPy_ie hR.symm (qPy_e hA k2), F2⟩)
    | ok a1 =>
      rw [bQ_o hA] at hR
      exact qi_retV rfl dX12_unit_93 (⟨qPy_io hR.symm ⟨qPy_o hA k2, (f2.1 _ _ (by unfold SYt; omega)).trans z1, cellR_fr cl1 f2 (fun j _ => by unfold SYt; omega)⟩, F2⟩)
  rw [if_neg c3] at hR
  rw [if_neg c3]
  have BAD : ¬ (139 ≤ kAt T a ∧ kAt T a ≤ 144) → qT g kX12_unit (qR 2 0 0) (qZV g (fun M' => qPy S T res (fun v M' => qYK M' S T v.1 s N nc ∧ M'.1 280 50 = nI (cd + v.2.length) ∧ cellR (M'.1 316) (M'.1 317) cd v.2) M' ∧ qFr (SUn2 cd) M M')) 88 [some (.ref 280)] [] 333 M (0, 0) := by
    intro hn
    rw [if_neg hn, if_neg h40] at hR
    refine qi_aload_n (i := 0) (x := 280) dX12_unit_88 rfl rfl ?_
    refine qi_iconst (v := 1) dX12_unit_89 rfl ?_
    refine qi_callVV (K' := kX12_fail) (As := [.int 1]) mlX12_233 okX12_fail dX12_unit_90 (c_X12_fail g h (k := 1) (Or.inl rfl)) rfl (by decide) rfl (by decide) rfl rfl (Nat.le_of_ble_eq_true rfl) ⟨(Nat.le_of_ble_eq_true rfl), (Nat.le_of_ble_eq_true rfl)⟩ ⟨Nat.le_refl _, Nat.le_refl _⟩ (fun M1 ⟨e1, f1⟩ => ?_)
    exact qi_retV rfl dX12_unit_93 (⟨qPy_ie hR.symm e1, f1.mono (fun b j z => Or.inl z)⟩)
  refine qi_if_eq (tgt := 29) dX12_unit_5 (by decide) (fun z => ?_) (fun z => False.elim ((z rfl)))
  refine qi_aload_n (i := 0) (x := 280) dX12_unit_29 rfl rfl ?_
  refine qi_getI (x := nI 0) flX12_218 dX12_unit_30 rfl (by decide) h5 ?_
  refine qi_if_ne (tgt := 88) dX12_unit_33 (by decide) (fun _h => absurd ((nI_eq (a := 0) (b := 0) (by omega) (by omega)).mpr (by omega)) _h) (fun _hc => ?_)
  refine qi_aload_n (i := 0) (x := 280) dX12_unit_36 rfl rfl ?_
  refine qi_getR (x := 283) flX12_20 dX12_unit_37 rfl (by decide) (hM 280 5 283 rfl) ?_
  refine qi_aload_n (i := 0) (x := 280) dX12_unit_40 rfl rfl ?_
  refine qi_getI (x := nI a) flX12_221 dX12_unit_41 rfl (by decide) h4 ?_
  refine qi_ialdN (x := nI (kmQ (kAt T a))) (j := a) dX12_unit_44 rfl (by decide) rfl (by omega) (by decide) hv.1 ?_
  refine qi_bipush (v := 31) dX12_unit_45 rfl ?_
  by_cases d1 : 31 ≤ kmQ (kAt T a)
  ·
    refine qi_icmp_lt (tgt := 88) dX12_unit_47 (by decide) (fun _h => absurd ((nI_ltI (a := kmQ (kAt T a)) (b := 31) (by omega) (by omega)).mp _h) (by omega)) (fun _hc => ?_)
    refine qi_aload_n (i := 0) (x := 280) dX12_unit_50 rfl rfl ?_
    refine qi_getR (x := 283) flX12_20 dX12_unit_51 rfl (by decide) (hM 280 5 283 rfl) ?_
    refine qi_aload_n (i := 0) (x := 280) dX12_unit_54 rfl rfl ?_
    refine qi_getI (x := nI a) flX12_221 dX12_unit_55 rfl (by decide) h4 ?_
    refine qi_ialdN (x := nI (kmQ (kAt T a))) (j := a) dX12_unit_58 rfl (by decide) rfl (by omega) (by decide) hv.1 ?_
    refine qi_bipush (v := 36) dX12_unit_59 rfl ?_
    by_cases d2 : kmQ (kAt T a) ≤ 36
    ·
      have hk := hvar.mp ⟨d1, d2⟩
      rw [if_pos hk] at hR
      have erc : rcC (vaC (kAt T a)) = (1, nI (kmQ (kAt T a)) - 31) := by
        have := vaC_rc (kAt T a - 139) (by omega)
        rw [show 139 + (kAt T a - 139) = kAt T a by omega] at this
        exact this
      refine qi_icmp_gt (tgt := 88) dX12_unit_61 (by decide) (fun _h => absurd ((nI_ltI (a := 36) (b := kmQ (kAt T a)) (by omega) (by omega)).mp _h) (by omega)) (fun _hc => ?_)
      refine qi_aload_n (i := 0) (x := 280) dX12_unit_64 rfl rfl ?_
      refine qi_iconst (v := 1) dX12_unit_65 rfl ?_
      refine qi_aload_n (i := 0) (x := 280) dX12_unit_66 rfl rfl ?_
      refine qi_getR (x := 283) flX12_20 dX12_unit_67 rfl (by decide) (hM 280 5 283 rfl) ?_
      refine qi_aload_n (i := 0) (x := 280) dX12_unit_70 rfl rfl ?_
      refine qi_getI (x := nI a) flX12_221 dX12_unit_71 rfl (by decide) h4 ?_
      refine qi_ialdN (x := nI (kmQ (kAt T a))) (j := a) dX12_unit_74 rfl (by decide) rfl (by omega) (by decide) hv.1 ?_
      refine qi_bipush (v := 31) dX12_unit_75 rfl ?_
      refine qi_isub dX12_unit_77 ?_
      refine qi_callVV (K' := kX12_emit) (As := [.int 1, .int ((nI (kmQ (kAt T a))) - 31)]) mlX12_324 okX12_emit dX12_unit_78 (c_X12_emit g hM hc hb 1 (nI (kmQ (kAt T a)) - 31)) rfl (by decide) rfl (by decide) rfl rfl (Nat.le_of_ble_eq_true rfl) ⟨(Nat.le_of_ble_eq_true rfl), (Nat.le_of_ble_eq_true rfl)⟩ ⟨Nat.le_refl _, Nat.le_refl _⟩ (fun M1 e1 => ?_)
      obtain ⟨k1, z1, cl1, F1⟩ := EM (vaC (kAt T a)) M1 (kAt T a) rfl (by omega) (by rw [e1, erc])
      refine qi_aload_n (i := 0) (x := 280) dX12_unit_81 rfl rfl ?_
      refine qi_callVV (K' := kX12_goesOn) (As := []) mlX12_239 okX12_goesOn dX12_unit_82 (c_X12_goesOn g k1 rfl (by omega)) rfl (by decide) rfl (by decide) rfl rfl (Nat.le_of_ble_eq_true rfl) ⟨(Nat.le_of_ble_eq_true rfl), (Nat.le_of_ble_eq_true rfl)⟩ ⟨Nat.le_refl _, Nat.le_refl _⟩ (fun M2 ⟨k2, f2⟩ => ?_)
      have F2 : qFr (SUn2 cd) M M2 := F1.tr (f2.mono (fun b j z => Or.inl z))
      refine qi_goto (tgt := 93) dX12_unit_85 (by decide) ?_
      cases hA : acQ T (kAt T a) a with
      | error e =>
        rw [bQ_e hA] at hR
        exact qi_retV rfl dX12_unit_93 (⟨qPy_ie hR.symm (qPy_e hA k2), F2⟩)
      | ok a1 =>
        rw [bQ_o hA] at hR
        exact qi_retV rfl dX12_unit_93 (⟨qPy_io hR.symm ⟨qPy_o hA k2, (f2.1 _ _ (by unfold SYt; omega)).trans z1, cellR_fr cl1 f2 (fun j _ => by unfold SYt; omega)⟩, F2⟩)
    ·
      refine qi_icmp_gt (tgt := 88) dX12_unit_61 (by decide) (fun _hc => ?_) (fun _h => absurd ((nI_ltI (a := 36) (b := kmQ (kAt T a)) (by omega) (by omega)).mpr (by omega)) _h)
      exact BAD (fun z => d2 (hvar.mpr z).2)
  ·
    refine qi_icmp_lt (tgt := 88) dX12_unit_47 (by decide) (fun _hc => ?_) (fun _h => absurd ((nI_ltI (a := kmQ (kAt T a)) (b := 31) (by omega) (by omega)).mpr (by omega)) _h)
    exact BAD (fun z => d1 (hvar.mpr z).1)
