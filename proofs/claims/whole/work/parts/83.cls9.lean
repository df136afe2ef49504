/-! ThimbleSea$Rows -/
def accC (M : qM) (W : Nat) (P : List (List Nat)) : Prop := M.2.1 218 3 = lN P.length ∧ M.1 218 2 = nI (sureF W P) ∧ ∀ l Q, P = l :: Q → ∀ v, v < W → M.1 220 v = nI (l.getD v 0)
def SKr : Nat → Nat → Prop := fun b j => b = 220 ∨ (b = 218 ∧ (j = 2 ∨ j = 3))
def SRc : Nat → Nat → Prop := fun b j => b = 219 ∨ SKr b j
set_option maxHeartbeats 2000000 in
theorem c_X5_keepRows (g : qG) {M : qM} (hM : qRf M) {W q cnt : Nat} {f : Nat → Bool} {t : Nat → Nat} (hW : W ≤ 5) (hq : q < 2 ^ 40) (hcnt : cnt < 2 ^ 31) (hfw : ∀ v, f v = true → v < W) (ht : ∀ v, v < W → M.1 219 v = nI (t v) ∧ t v < 2 ^ 31) (h3 : M.2.1 218 3 = lN q) (h2 : M.1 218 2 = nI (bitsF f)) : qV g 0 kX5_keepRows [.ref 218, .int (nI cnt)] M (fun M' => M'.2.1 218 3 = lN (q + cnt) ∧ M'.1 218 2 = nI (bitsF (fun v => f v && decide (0 < t v))) ∧ (∀ v, v < 5 → M'.1 220 v = if q = 0 then M.1 219 v else M.1 220 v) ∧ qFr SKr M M') := by
  have K : ∀ m w M1, w + m = 5 → qFr SKr M M1 → M1.2.1 218 3 = lN q → M1.1 218 2 = nI (bitsF (fun v => f v && (decide (w ≤ v) || decide (0 < t v)))) → (∀ v, v < 5 → M1.1 220 v = if q = 0 ∧ v < w then M.1 219 v else M.1 220 v) → qT g kX5_keepRows (qR 0 0 0) (qZV g (fun M' => M'.2.1 218 3 = lN (q + cnt) ∧ M'.1 218 2 = nI (bitsF (fun v => f v && decide (0 < t v))) ∧ (∀ v, v < 5 → M'.1 220 v = if q = 0 then M.1 219 v else M.1 220 v) ∧ qFr SKr M M')) 2 [some (.ref 218), some (.int (nI cnt)), some (.int (nI w))] [] 333 M1 (0, 0) := by
    intro m
    induction m with
    | zero =>
      intro w M1 e hf g3 g2 g1
      obtain rfl : w = 5 := by omega
      have hM1 := hM.fr hf
      refine qi_iload_n (i := 2) (x := nI 5) dX5_keepRows_2 rfl rfl ?_
      refine qi_iconst (v := 5) dX5_keepRows_3 rfl ?_
      refine qi_icmp_ge (tgt := 57) dX5_keepRows_4 (by decide) (fun _hc => ?_) (fun _h => absurd ((nI_leI (a := 5) (b := 5) (by omega) (by omega)).mpr (by omega)) _h)
      refine qi_aload_n (i := 0) (x := 218) dX5_keepRows_57 rfl rfl ?_
      refine qi_dup dX5_keepRows_58 ?_
      refine qi_getJ (x := lN q) flX5_22 dX5_keepRows_59 rfl (by decide) g3 ?_
      refine qi_iload_n (i := 1) (x := nI cnt) dX5_keepRows_62 rfl rfl ?_
      refine qi_i2l dX5_keepRows_63 ?_
      refine qe_topJ (y := lN cnt) (nI_l hcnt) ?_
      refine qi_ladd dX5_keepRows_64 ?_
      refine qe_topJ (y := lN (q + cnt)) (pk_lAdd _ _) ?_
      refine qi_putJ flX5_22 q_cls5 (ty5_3 _) dX5_keepRows_65 rfl (by decide) ?_
      refine qi_retV rfl dX5_keepRows_68 (⟨wJ_s _ _ _ _, ?_, fun v hv => ?_, hf.wJ (Or.inr ⟨rfl, Or.inr rfl⟩)⟩)
      · show M1.1 218 2 = _
        rw [g2]
        exact congrArg nI (bits_congr (fun v hv => by rw [decide_eq_false (p := 5 ≤ v) (by omega), Bool.false_or]))
      · show M1.1 220 v = _
        rw [g1 v hv]
        by_cases c : q = 0
        · rw [if_pos ⟨c, hv⟩, if_pos c]
        · rw [if_neg (fun z => c z.1), if_neg c]
    | succ m ih =>
      intro w M1 e hf g3 g2 g1
      have hM1 := hM.fr hf
      have e219 : ∀ M2, qFr SKr M M2 → M2.1 219 w = M.1 219 w := fun M2 h2 => h2.1 _ _ (by unfold SKr; omega)
      have K51 : ∀ M2, qFr SKr M M2 → M2.2.1 218 3 = lN q → M2.1 218 2 = nI (bitsF (fun v => f v && (decide (w + 1 ≤ v) || decide (0 < t v)))) → (∀ v, v < 5 → M2.1 220 v = if q = 0 ∧ v < w + 1 then M.1 219 v else M.1 220 v) → qT g kX5_keepRows (qR 0 0 0) (qZV g (fun M' => M'.2.1 218 3 = lN (q + cnt) ∧ M'.1 218 2 = nI (bitsF (fun v => f v && decide (0 < t v))) ∧ (∀ v, v < 5 → M'.1 220 v = if q = 0 then M.1 219 v else M.1 220 v) ∧ qFr SKr M M')) 51 [some (.ref 218), some (.int (nI cnt)), some (.int (nI w))] [] 333 M2 (0, 0) := by
        intro M2 hf2 g3 g2 g1
        refine qi_iinc (i := 2) (x := nI w) (v := nI (w + 1)) (L2 := [some (.ref 218), some (.int (nI cnt)), some (.int (nI (w + 1)))]) dX5_keepRows_51 rfl (nI_1 w) (Nat.le_of_ble_eq_true rfl) rfl ?_
        refine qi_goto (tgt := 2) dX5_keepRows_54 (by decide) ?_
        exact ih (w + 1) M2 (by omega) hf2 g3 g2 g1
      have K28 : ∀ M2, qFr SKr M M2 → M2.2.1 218 3 = lN q → M2.1 218 2 = nI (bitsF (fun v => f v && (decide (w ≤ v) || decide (0 < t v)))) → (∀ v, v < 5 → M2.1 220 v = if q = 0 ∧ v < w + 1 then M.1 219 v else M.1 220 v) → qT g kX5_keepRows (qR 0 0 0) (qZV g (fun M' => M'.2.1 218 3 = lN (q + cnt) ∧ M'.1 218 2 = nI (bitsF (fun v => f v && decide (0 < t v))) ∧ (∀ v, v < 5 → M'.1 220 v = if q = 0 then M.1 219 v else M.1 220 v) ∧ qFr SKr M M')) 28 [some (.ref 218), some (.int (nI cnt)), some (.int (nI w))] [] 333 M2 (0, 0) := by
        intro M2 hf2 g3 g2 g1
        have hM2 := hM.fr hf2
        have ew := e219 M2 hf2
        refine qi_aload_n (i := 0) (x := 218) dX5_keepRows_28 rfl rfl ?_
        refine qi_getR (x := 219) flX5_9 dX5_keepRows_29 rfl (by decide) (hM2 218 0 219 rfl) ?_
        refine qi_iload_n (i := 2) (x := nI w) dX5_keepRows_32 rfl rfl ?_
        refine qi_ialdN (x := M.1 219 w) (j := w) dX5_keepRows_33 rfl (by decide) rfl (by omega) (by decide) ew ?_
        refine qi_if_ne (tgt := 51) dX5_keepRows_34 (by decide) (fun c => ?_) (fun c => ?_)
        · refine K51 M2 hf2 g3 ?_ g1
          rw [g2]
          congr 1
          refine bits_congr (fun v hv => ?_)
          by_cases d : v = w
          · subst d
            by_cases d2 : v < W
            · have q1 := ht v d2
              rw [q1.1] at c
              have : 0 < t v := Nat.pos_of_ne_zero (fun z => c (by rw [z]; rfl))
              rw [decide_eq_true this, Bool.or_true, Bool.or_true]
            · have : f v = false := by
                cases hf : f v with
                | false => rfl
                | true => exact absurd (hfw v hf) d2
              rw [this]
              rfl
          · rw [decide_eq_decide.mpr (show w ≤ v ↔ w + 1 ≤ v by omega)]
        · refine qi_aload_n (i := 0) (x := 218) dX5_keepRows_37 rfl rfl ?_
          refine qi_dup dX5_keepRows_38 ?_
          refine qi_getI (x := nI (bitsF (fun v ↦ f v && (decide (w ≤ v) || decide (0 < t v))))) flX5_18 dX5_keepRows_39 rfl (by decide) g2 ?_
          refine qi_iconst (v := 1) dX5_keepRows_42 rfl ?_
          refine qi_iload_n (i := 2) (x := nI w) dX5_keepRows_43 rfl rfl ?_
          refine qi_ishl dX5_keepRows_44 ?_
          refine qi_iconst (v := -1) dX5_keepRows_45 rfl ?_
          refine qi_ixor dX5_keepRows_46 ?_
          refine qi_iand dX5_keepRows_47 ?_
          refine qe_top (y := nI (bitsF (fun v ↦ (f v && (decide (w ≤ v) || decide (0 < t v))) && decide (v ≠ w)))) (bits_clr _ (by omega)) ?_
          refine qi_putI flX5_18 q_cls5 (ty5_2 _) dX5_keepRows_48 rfl (by decide) ?_
          refine K51 _ (hf2.wI (Or.inr ⟨rfl, Or.inl rfl⟩)) g3 ?_ (fun v hv => by rw [wI_a (by decide)]; exact g1 v hv)
          rw [wI_s]
          congr 1
          refine bits_congr (fun v hv => ?_)
          by_cases d : v = w
          · subst d
            rw [decide_eq_false (p := v ≠ v) (by simp), Bool.and_false, decide_eq_false (p := v + 1 ≤ v) (by omega), Bool.false_or]
            by_cases d2 : v < W
            · have q1 := ht v d2
              rw [q1.1] at c
              have : t v = 0 := (nI_eq (b := 0) q1.2 (by omega)).mp c
              rw [decide_eq_false (p := 0 < t v) (by omega), Bool.and_false]
            · have : f v = false := by
                cases hf : f v with
                | false => rfl
                | true => exact absurd (hfw v hf) d2
              rw [this]
              rfl
          · rw [decide_eq_decide.mpr (show w ≤ v ↔ w + 1 ≤ v by omega), decide_eq_true (p := v ≠ w) d, Bool.and_true]
      have ew1 := e219 M1 hf
      refine qi_iload_n (i := 2) (x := nI w) dX5_keepRows_2 rfl rfl ?_
      refine qi_iconst (v := 5) dX5_keepRows_3 rfl ?_
      refine qi_icmp_ge (tgt := 57) dX5_keepRows_4 (by decide) (fun _h => absurd ((nI_leI (a := 5) (b := w) (by omega) (by omega)).mp _h) (by omega)) (fun _hc => ?_)
      refine qi_aload_n (i := 0) (x := 218) dX5_keepRows_7 rfl rfl ?_
      refine qi_getJ (x := lN q) flX5_22 dX5_keepRows_8 rfl (by decide) g3 ?_
      refine qi_lconst (v := 0) dX5_keepRows_11 rfl ?_
      refine qi_lcmp dX5_keepRows_12 ?_
      by_cases q0 : q = 0
      ·
        refine qi_if_ne (tgt := 28) dX5_keepRows_13 (by decide) (fun z => False.elim (z ((lN_0 (by omega)).mpr q0))) (fun z => ?_)
        refine qi_aload_n (i := 0) (x := 218) dX5_keepRows_16 rfl rfl ?_
        refine qi_getR (x := 220) flX5_15 dX5_keepRows_17 rfl (by decide) (hM1 218 1 220 rfl) ?_
        refine qi_iload_n (i := 2) (x := nI w) dX5_keepRows_20 rfl rfl ?_
        refine qi_aload_n (i := 0) (x := 218) dX5_keepRows_21 rfl rfl ?_
        refine qi_getR (x := 219) flX5_9 dX5_keepRows_22 rfl (by decide) (hM1 218 0 219 rfl) ?_
        refine qi_iload_n (i := 2) (x := nI w) dX5_keepRows_25 rfl rfl ?_
        refine qi_ialdN (x := M.1 219 w) (j := w) dX5_keepRows_26 rfl (by decide) rfl (by omega) (by decide) ew1 ?_
        refine qi_iastN (j := w) dX5_keepRows_27 rfl (by decide) rfl (by omega) (by decide) ?_
        refine K28 _ (hf.wI (Or.inl rfl)) g3 (by rw [wI_a (by decide)]; exact g2) (fun v hv => ?_)
        by_cases d : v = w
        · rw [d, wI_s, if_pos ⟨q0, by omega⟩]
        · rw [wI_k d, g1 v hv]
          by_cases d2 : v < w
          · rw [if_pos ⟨q0, d2⟩, if_pos ⟨q0, by omega⟩]
          · rw [if_neg (fun z => d2 z.2), if_neg (fun z => by omega)]
      ·
        refine qi_if_ne (tgt := 28) dX5_keepRows_13 (by decide) (fun z => ?_) (fun z => False.elim (q0 ((lN_0 (by omega)).mp z)))
        refine K28 M1 hf g3 g2 (fun v hv => ?_)
        rw [g1 v hv, if_neg (fun z => q0 z.1), if_neg (fun z => q0 z.1)]
  refine qV.of (j := 1) (pn_RX5) rfl ?_
  show qT g kX5_keepRows (qR 0 0 0) (qZV g (fun M' => M'.2.1 218 3 = lN (q + cnt) ∧ M'.1 218 2 = nI (bitsF (fun v => f v && decide (0 < t v))) ∧ (∀ v, v < 5 → M'.1 220 v = if q = 0 then M.1 219 v else M.1 220 v) ∧ qFr SKr M M')) 0 [some (.ref 218), some (.int (nI cnt)), none] [] 333 M (0, 0)
  refine qi_iconst (v := 0) dX5_keepRows_0 rfl ?_
  refine qi_istore_n (i := 2) (L2 := [some (.ref 218), some (.int (nI cnt)), some (.int 0)]) dX5_keepRows_1 rfl (Nat.le_of_ble_eq_true rfl) rfl ?_
  refine K 5 0 M (by omega) qFr.rf h3 ?_ (fun v hv => by rw [if_neg (fun z => by omega)])
  rw [h2]
  congr 1
  exact bits_congr (fun v hv => by rw [decide_eq_true (p := 0 ≤ v) (by omega), Bool.true_or, Bool.and_true])
theorem upL_filter (OK : List Nat → Bool) (f : Nat → List (List Nat)) : ∀ c x, (upL f c x).filter OK = upL (fun y => (f y).filter OK) c x
  | 0, _ => rfl
  | c + 1, x => by
    show (f x ++ upL f c (x + 1)).filter OK = (f x).filter OK ++ upL (fun y => (f y).filter OK) c (x + 1)
    rw [List.filter_append, upL_filter OK f c (x + 1)]
theorem upL_one {f : Nat → List (List Nat)} {b : Nat} : ∀ c x, x ≤ b → b < x + c → (∀ y, y < x + c → y ≠ b → f y = []) → upL f c x = f b
  | 0, x, h1, h2, _ => absurd h2 (by omega)
  | c + 1, x, h1, h2, h3 => by
    show f x ++ upL f c (x + 1) = f b
    by_cases e : x = b
    · subst e
      rw [upL_nil c (x + 1) (fun y a1 a2 => h3 y (by omega) (by omega)), List.append_nil]
    · rw [h3 x (by omega) e, List.nil_append, upL_one c (x + 1) (by omega) (by omega) (fun y a1 a2 => h3 y (by omega) a2)]
theorem upL_all {F : Nat → List Nat} (OK : List Nat → Bool) : ∀ c x, (∀ y, x ≤ y → y < x + c → OK (F y) = true) → (upL (fun y => [F y].filter OK) c x) = upL (fun y => [F y]) c x
  | 0, _, _ => rfl
  | c + 1, x, h => by
    show [F x].filter OK ++ upL (fun y => [F y].filter OK) c (x + 1) = [F x] ++ upL (fun y => [F y]) c (x + 1)
    rw [upL_all OK c (x + 1) (fun y a1 a2 => h y (by omega) (by omega)), List.filter_cons_of_pos (h x (Nat.le_refl _) (by omega))]
    rfl
theorem upL_len1 {F : Nat → List Nat} : ∀ c x, (upL (fun y => [F y]) c x).length = c
  | 0, _ => rfl
  | c + 1, x => by
    show ([F x] ++ upL (fun y => [F y]) c (x + 1)).length = c + 1
    rw [List.length_append, upL_len1 c (x + 1)]
    show 1 + c = c + 1
    omega
theorem upL_all1 {F : Nat → List Nat} {p : List Nat → Bool} : ∀ c x, (upL (fun y => [F y]) c x).all p = true ↔ ∀ y, x ≤ y → y < x + c → p (F y) = true
  | 0, x => ⟨fun _ y h1 h2 => absurd h2 (by omega), fun _ => rfl⟩
  | c + 1, x => by
    show ([F x] ++ upL (fun y => [F y]) c (x + 1)).all p = true ↔ _
    rw [List.all_append, Bool.and_eq_true, upL_all1 c (x + 1)]
    constructor
    · intro ⟨h1, h2⟩ y a1 a2
      by_cases e : y = x
      · rw [e]
        have : (p (F x) && true) = true := h1
        rwa [Bool.and_true] at this
      · exact h2 y (by omega) (by omega)
    · intro h
      refine ⟨?_, fun y a1 a2 => h y (by omega) (by omega)⟩
      show (p (F x) && true) = true
      rw [Bool.and_true]
      exact h x (Nat.le_refl _) (by omega)
