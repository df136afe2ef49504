/-! the reference's term; branches as they are read -/
theorem c_X12_expressionF (g : qG) {M : qM} {S : Nat} {T : qTk} {e : qE} (h : qYF M S T e) : qV g 3 kX12_expression [.ref 280] M (fun M' => qYF M' S T e ∧ qFr (fun b j => b = 280 ∧ j = 54) M M') := by
  have hn := h.n
  refine qV.of (j := 2) (pn_RX12) rfl ?_
  show qT g kX12_expression (qR 3 0 0) (qZV g (fun M' => qYF M' S T e ∧ qFr (fun b j => b = 280 ∧ j = 54) M M')) 0 [some (.ref 280), none, none] [] 333 M (0, 0)
  refine qi_aload_n (i := 0) (x := 280) dX12_expression_0 rfl rfl ?_
  refine qi_iconst (v := 0) dX12_expression_1 rfl ?_
  refine qi_putI flX12_321 q_cls12 (ty12_54 _) dX12_expression_2 rfl (by decide) ?_
  refine qi_aload_n (i := 0) (x := 280) dX12_expression_5 rfl rfl ?_
  refine qi_getI (x := (wI M 280 54 0).1 280 12) flX12_245 dX12_expression_6 rfl (by decide) rfl ?_
  refine qi_istore_n (i := 1) (L2 := [some (.ref 280), some (.int ((wI M 280 54 0).1 280 12)), none]) dX12_expression_9 rfl (Nat.le_of_ble_eq_true rfl) rfl ?_
  refine qi_iconst (v := 1) dX12_expression_10 rfl ?_
  refine qi_istore_n (i := 2) (L2 := [some (.ref 280), some (.int ((wI M 280 54 0).1 280 12)), some (.int 1)]) dX12_expression_11 rfl (Nat.le_of_ble_eq_true rfl) rfl ?_
  refine qi_iload_n (i := 2) (x := 1) dX12_expression_12 rfl rfl ?_
  refine qi_if_eq (tgt := 272) dX12_expression_13 (by decide) (fun _h => absurd ((nI_eq (a := 1) (b := 0) (by omega) (by omega)).mp _h) (by omega)) (fun _hc => ?_)
  refine qi_aload_n (i := 0) (x := 280) dX12_expression_16 rfl rfl ?_
  refine qi_getI (x := nI e.1) flX12_218 dX12_expression_17 rfl (by decide) ((wI_k (by decide)).trans h.2.2.1) ?_
  refine qi_if_ne (tgt := 272) dX12_expression_20 (by decide) (fun _hc => ?_) (fun _h => absurd ((nI_eq (a := e.1) (b := 0) (by omega) (by omega)).mp _h) (by omega))
  have F : qFr (fun b j => b = 280 ∧ j = 54) M (wI M 280 54 0) := qFr.rf.wI ⟨rfl, rfl⟩
  exact qi_retV rfl dX12_expression_272 (⟨h.fr F (fun b j z => by omega), F⟩)
def STm (S cd bn : Nat) : Nat → Nat → Prop := fun b j => SE S cd b j ∨ (b = 280 ∧ j = 44) ∨ ((b = 314 ∨ b = 315) ∧ j = bn)
def STf (bn : Nat) : Nat → Nat → Prop := fun b j => (b = 280 ∧ (j = 44 ∨ j = 54)) ∨ ((b = 314 ∨ b = 315) ∧ j = bn)
theorem c_X12_termF (g : qG) {M : qM} {S : Nat} {T : qTk} {e : qE} (h : qYF M S T e) {bn : Nat} (hb : M.1 280 44 = nI bn) (hbn : bn < 260) : qV g 4 kX12_term [.ref 280] M (fun M' => qYF M' S T e ∧ M'.1 280 44 = nI (bn + 1) ∧ qFr (STf bn) M M') := by
  have hn := h.n
  have hM := h.1.1
  refine qV.of (j := 0) (pn_RX12) rfl ?_
  show qT g kX12_term (qR 4 0 0) (qZV g (fun M' => qYF M' S T e ∧ M'.1 280 44 = nI (bn + 1) ∧ qFr (STf bn) M M')) 0 [some (.ref 280)] [] 333 M (0, 0)
  refine qi_aload_n (i := 0) (x := 280) dX12_term_0 rfl rfl ?_
  refine qi_getR (x := 314) flX12_119 dX12_term_1 rfl (by decide) (hM 280 48 314 rfl) ?_
  refine qi_aload_n (i := 0) (x := 280) dX12_term_4 rfl rfl ?_
  refine qi_getI (x := nI bn) flX12_257 dX12_term_5 rfl (by decide) hb ?_
  refine qi_aload_n (i := 0) (x := 280) dX12_term_8 rfl rfl ?_
  refine qi_getI (x := M.1 280 50) flX12_260 dX12_term_9 rfl (by decide) rfl ?_
  refine qi_iastN (j := bn) dX12_term_12 rfl (by decide) rfl (by omega) (by decide) ?_
  refine qi_aload_n (i := 0) (x := 280) dX12_term_13 rfl rfl ?_
  refine qi_getI (x := nI e.1) flX12_218 dX12_term_14 rfl (by decide) ((wI_a (by decide)).trans h.2.2.1) ?_
  refine qi_if_ne (tgt := 24) dX12_term_17 (by decide) (fun _hc => ?_) (fun _h => absurd ((nI_eq (a := e.1) (b := 0) (by omega) (by omega)).mp _h) (by omega))
  refine qi_aload_n (i := 0) (x := 280) dX12_term_24 rfl rfl ?_
  refine qi_getR (x := 315) flX12_122 dX12_term_25 rfl (by decide) (hM 280 49 315 rfl) ?_
  refine qi_aload_n (i := 0) (x := 280) dX12_term_28 rfl rfl ?_
  refine qi_getI (x := nI bn) flX12_257 dX12_term_29 rfl (by decide) ((wI_a (by decide)).trans hb) ?_
  refine qi_aload_n (i := 0) (x := 280) dX12_term_32 rfl rfl ?_
  refine qi_getI (x := (wI M 314 bn (M.1 280 50)).1 280 50) flX12_260 dX12_term_33 rfl (by decide) rfl ?_
  refine qi_iastN (j := bn) dX12_term_36 rfl (by decide) rfl (by omega) (by decide) ?_
  refine qi_aload_n (i := 0) (x := 280) dX12_term_37 rfl rfl ?_
  refine qi_dup dX12_term_38 ?_
  refine qi_getI (x := nI bn) flX12_257 dX12_term_39 rfl (by decide) ((wI_a (by decide)).trans ((wI_a (by decide)).trans hb)) ?_
  refine qi_iconst (v := 1) dX12_term_42 rfl ?_
  refine qi_iadd dX12_term_43 ?_
  refine qe_top (y := nI (bn + 1)) (nI_1 _) ?_
  refine qi_putI flX12_257 q_cls12 (ty12_44 _) dX12_term_44 rfl (by decide) ?_
  generalize e2 : wI (wI (wI M 314 bn (M.1 280 50)) 315 bn ((wI M 314 bn (M.1 280 50)).1 280 50)) 280 44 (nI (bn + 1)) = M2
  have F : qFr (STf bn) M M2 := by
    rw [← e2]
    exact ((qFr.rf.wI (by unfold STf; omega)).wI (by unfold STf; omega)).wI (by unfold STf; omega)
  exact qi_retV rfl dX12_term_47 (⟨h.fr F (fun b j z => by unfold STf at z; omega), by rw [← e2, wI_s], F⟩)
theorem c_X12_term (g : qG) {T : qTk} (hT : okTk T) {M : qM} {S a0 : Nat} {s : Nat × Nat} {N : qNm} {nc ck : Nat} (h0 : qYK M S T a0 s N nc) (ho0 : M.1 280 12 = 0) {cd : Nat} (hcd : cd = 420 * S + ck) (hc0 : M.1 280 50 = nI cd) (hck : ck ≤ a0) {bn : Nat} (hb : M.1 280 44 = nI bn) (hbn : bn < 260) : qV g 4 kX12_term [.ref 280] M (fun M' => qPy S T (exQ T 6 a0) (fun v M' => okX S T s N nc cd v M' ∧ M'.1 314 bn = nI cd ∧ M'.1 315 bn = nI (cd + v.2.length)) M' ∧ M'.1 280 44 = nI (bn + 1) ∧ qFr (STm S cd bn) M M') := by
  generalize hR : exQ T 6 a0 = res
  have hM := h0.1.1
  have hz := h0.2.1.2.2.2
  refine qV.of (j := 0) (pn_RX12) rfl ?_
  show qT g kX12_term (qR 4 0 0) (qZV g (fun M' => qPy S T res (fun v M' => okX S T s N nc cd v M' ∧ M'.1 314 bn = nI cd ∧ M'.1 315 bn = nI (cd + v.2.length)) M' ∧ M'.1 280 44 = nI (bn + 1) ∧ qFr (STm S cd bn) M M')) 0 [some (.ref 280)] [] 333 M (0, 0)
  refine qi_aload_n (i := 0) (x := 280) dX12_term_0 rfl rfl ?_
  refine qi_getR (x := 314) flX12_119 dX12_term_1 rfl (by decide) (hM 280 48 314 rfl) ?_
  refine qi_aload_n (i := 0) (x := 280) dX12_term_4 rfl rfl ?_
  refine qi_getI (x := nI bn) flX12_257 dX12_term_5 rfl (by decide) hb ?_
  refine qi_aload_n (i := 0) (x := 280) dX12_term_8 rfl rfl ?_
  refine qi_getI (x := nI cd) flX12_260 dX12_term_9 rfl (by decide) hc0 ?_
  refine qi_iastN (j := bn) dX12_term_12 rfl (by decide) rfl (by omega) (by decide) ?_
  refine qi_aload_n (i := 0) (x := 280) dX12_term_13 rfl rfl ?_
  refine qi_getI (x := nI 0) flX12_218 dX12_term_14 rfl (by decide) ((wI_a (by decide)).trans hz) ?_
  refine qi_if_ne (tgt := 24) dX12_term_17 (by decide) (fun _h => absurd ((nI_eq (a := 0) (b := 0) (by omega) (by omega)).mpr (by omega)) _h) (fun _hc => ?_)
  refine qi_aload_n (i := 0) (x := 280) dX12_term_20 rfl rfl ?_
  have Fa : qFr (fun b j => b = 314 ∧ j = bn) M (wI M 314 bn (nI cd)) := qFr.rf.wI ⟨rfl, rfl⟩
  have hA := h0.fr Fa (fun b j z => by omega)
  have hoA : (wI M 314 bn (nI cd)).1 280 12 = 0 := (wI_a (by decide)).trans ho0
  have hcA : (wI M 314 bn (nI cd)).1 280 50 = nI cd := (wI_a (by decide)).trans hc0
  refine qi_callVV (K' := kX12_expression) (As := []) mlX12_315 okX12_expression dX12_term_21 (c_X12_expression g hT hA hoA hcd hcA hck) rfl (by decide) rfl (by decide) rfl rfl (Nat.le_of_ble_eq_true rfl) ⟨(Nat.le_of_ble_eq_true rfl), (Nat.le_of_ble_eq_true rfl)⟩ ⟨Nat.le_refl _, Nat.le_refl _⟩ (fun M1 ⟨k1, f1⟩ => ?_)
  rw [hR] at k1
  have hb1 : M1.1 280 44 = nI bn := (f1.1 _ _ (by unfold SE; omega)).trans ((wI_a (by decide)).trans hb)
  have h314 : M1.1 314 bn = nI cd := (f1.1 _ _ (by unfold SE; omega)).trans (wI_s _ _ _ _)
  have F1 : qFr (STm S cd bn) M M1 := (Fa.mono (fun b j z => by unfold STm; omega)).tr (f1.mono (fun b j z => Or.inl z))
  cases res with
  | error e =>
    have kF : qYF M1 S T e := k1
    have hM1 := kF.1.1
    refine qi_aload_n (i := 0) (x := 280) dX12_term_24 rfl rfl ?_
    refine qi_getR (x := 315) flX12_122 dX12_term_25 rfl (by decide) (hM1 280 49 315 rfl) ?_
    refine qi_aload_n (i := 0) (x := 280) dX12_term_28 rfl rfl ?_
    refine qi_getI (x := nI bn) flX12_257 dX12_term_29 rfl (by decide) hb1 ?_
    refine qi_aload_n (i := 0) (x := 280) dX12_term_32 rfl rfl ?_
    refine qi_getI (x := M1.1 280 50) flX12_260 dX12_term_33 rfl (by decide) rfl ?_
    refine qi_iastN (j := bn) dX12_term_36 rfl (by decide) rfl (by omega) (by decide) ?_
    refine qi_aload_n (i := 0) (x := 280) dX12_term_37 rfl rfl ?_
    refine qi_dup dX12_term_38 ?_
    refine qi_getI (x := nI bn) flX12_257 dX12_term_39 rfl (by decide) ((wI_a (by decide)).trans hb1) ?_
    refine qi_iconst (v := 1) dX12_term_42 rfl ?_
    refine qi_iadd dX12_term_43 ?_
    refine qe_top (y := nI (bn + 1)) (nI_1 _) ?_
    refine qi_putI flX12_257 q_cls12 (ty12_44 _) dX12_term_44 rfl (by decide) ?_
    generalize e2 : wI (wI M1 315 bn (M1.1 280 50)) 280 44 (nI (bn + 1)) = M2
    have F : qFr (STf bn) M1 M2 := by
      rw [← e2]
      exact (qFr.rf.wI (by unfold STf; omega)).wI (by unfold STf; omega)
    exact qi_retV rfl dX12_term_47 (⟨kF.fr F (fun b j z => by unfold STf at z; omega), by rw [← e2, wI_s], F1.tr (F.mono (fun b j z => by unfold STf at z; unfold STm SE; omega))⟩)
  | ok v =>
    obtain ⟨kK, o1, c1, r1⟩ := k1
    have hM1 := kK.1.1
    refine qi_aload_n (i := 0) (x := 280) dX12_term_24 rfl rfl ?_
    refine qi_getR (x := 315) flX12_122 dX12_term_25 rfl (by decide) (hM1 280 49 315 rfl) ?_
    refine qi_aload_n (i := 0) (x := 280) dX12_term_28 rfl rfl ?_
    refine qi_getI (x := nI bn) flX12_257 dX12_term_29 rfl (by decide) hb1 ?_
    refine qi_aload_n (i := 0) (x := 280) dX12_term_32 rfl rfl ?_
    refine qi_getI (x := nI (cd + v.2.length)) flX12_260 dX12_term_33 rfl (by decide) c1 ?_
    refine qi_iastN (j := bn) dX12_term_36 rfl (by decide) rfl (by omega) (by decide) ?_
    refine qi_aload_n (i := 0) (x := 280) dX12_term_37 rfl rfl ?_
    refine qi_dup dX12_term_38 ?_
    refine qi_getI (x := nI bn) flX12_257 dX12_term_39 rfl (by decide) ((wI_a (by decide)).trans hb1) ?_
    refine qi_iconst (v := 1) dX12_term_42 rfl ?_
    refine qi_iadd dX12_term_43 ?_
    refine qe_top (y := nI (bn + 1)) (nI_1 _) ?_
    refine qi_putI flX12_257 q_cls12 (ty12_44 _) dX12_term_44 rfl (by decide) ?_
    generalize e2 : wI (wI M1 315 bn (nI (cd + v.2.length))) 280 44 (nI (bn + 1)) = M2
    have F : qFr (fun b j => (b = 280 ∧ j = 44) ∨ (b = 315 ∧ j = bn)) M1 M2 := by
      rw [← e2]
      exact (qFr.rf.wI (by omega)).wI (by omega)
    exact qi_retV rfl dX12_term_47 (⟨⟨⟨kK.fr F (fun b j z => by omega), (F.1 _ _ (by omega)).trans o1, (F.1 _ _ (by omega)).trans c1, cellR_fr r1 F (fun j _ => by omega)⟩, (F.1 _ _ (by omega)).trans h314, by rw [← e2, wI_a (by decide), wI_s]⟩, by rw [← e2, wI_s], F1.tr (F.mono (fun b j z => by unfold STm; omega))⟩)
def qBrs (M : qM) : Nat → Nat → List qBr → Prop
  | _, _, [] => True
  | b, o, br :: bs => qBrM M b o br ∧ qBrs M (b + 1) (o + brT br) bs
theorem qBrs_snoc {M : qM} {br : qBr} : ∀ (bs : List qBr) (b o : Nat), qBrs M b o bs → qBrM M (b + bs.length) (o + lwT bs []) br → qBrs M b o (bs ++ [br])
  | [], b, o, _, h => ⟨h, trivial⟩
  | x :: bs, b, o, h, h2 => ⟨h.1, qBrs_snoc bs (b + 1) (o + brT x) h.2 (by
    have e : o + lwT (x :: bs) [] = o + brT x + lwT bs [] := by
      show o + (brT x + lwT bs []) = _
      omega
    rw [e, List.length_cons, show b + (bs.length + 1) = b + 1 + bs.length by omega] at h2
    exact h2)⟩
theorem qBrs_last {M : qM} {last : List Int32} : ∀ (bs : List qBr) (b o : Nat), qBrs M b o bs → qLsM M (b + bs.length) (o + lwT bs []) last → qLwM M b o bs last
  | [], b, o, _, h => h
  | x :: bs, b, o, h, h2 => ⟨h.1, qBrs_last bs (b + 1) (o + brT x) h.2 (by
    have e : o + lwT (x :: bs) [] = o + brT x + lwT bs [] := by
      show o + (brT x + lwT bs []) = _
      omega
    rw [e, List.length_cons, show b + (bs.length + 1) = b + 1 + bs.length by omega] at h2
    exact h2)⟩
theorem qBrM.fr {F : Nat → Nat → Prop} {M M' : qM} {b o : Nat} {br : qBr} (h : qBrM M b o br) (hf : qFr F M M') (h1 : ∀ c, 311 ≤ c → c ≤ 315 → ¬ F c b) (h2 : ∀ j, j < o + brT br → ¬ F 316 j ∧ ¬ F 317 j) : qBrM M' b o br := by
  obtain ⟨⟨a1, a2, a3, a4, a5⟩, c1, c2, c3⟩ := h
  have ht : brT br = br.1.length + br.2.1.length + br.2.2.length := rfl
  exact ⟨⟨(hf.1 _ _ (h1 311 (by decide) (by decide))).trans a1, (hf.1 _ _ (h1 312 (by decide) (by decide))).trans a2, (hf.1 _ _ (h1 313 (by decide) (by decide))).trans a3, (hf.1 _ _ (h1 314 (by decide) (by decide))).trans a4, (hf.1 _ _ (h1 315 (by decide) (by decide))).trans a5⟩, cellR_fr c1 hf (fun j hj => h2 j (by omega)), cellR_fr c2 hf (fun j hj => h2 j (by omega)), cellR_fr c3 hf (fun j hj => h2 j (by omega))⟩
theorem qBrs.fr {F : Nat → Nat → Prop} {M M' : qM} (hf : qFr F M M') : ∀ (bs : List qBr) (b o : Nat), qBrs M b o bs → (∀ c i, 311 ≤ c → c ≤ 315 → i < b + bs.length → ¬ F c i) → (∀ j, j < o + lwT bs [] → ¬ F 316 j ∧ ¬ F 317 j) → qBrs M' b o bs
  | [], b, o, _, _, _ => trivial
  | x :: bs, b, o, h, h1, h2 => by
    rw [List.length_cons] at h1
    have e : lwT (x :: bs) [] = brT x + lwT bs [] := rfl
    rw [e] at h2
    exact ⟨h.1.fr hf (fun c c1 c2 => h1 c b c1 c2 (by omega)) (fun j hj => h2 j (by omega)), qBrs.fr hf bs (b + 1) (o + brT x) h.2 (fun c i c1 c2 hi => h1 c i c1 c2 (by omega)) (fun j hj => h2 j (by omega))⟩
theorem lwT_snoc (br : qBr) : ∀ bs : List qBr, lwT (bs ++ [br]) [] = lwT bs [] + brT br
  | [] => by
    show brT br + 0 = 0 + brT br
    omega
  | x :: bs => by
    show brT x + lwT (bs ++ [br]) [] = brT x + lwT bs [] + brT br
    rw [lwT_snoc br bs]
    omega
