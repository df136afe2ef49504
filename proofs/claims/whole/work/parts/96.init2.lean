/-! the constructors with loops, and those above them -/
def zJ5 : Nat → Nat → Int64 := fun a k => if a = 8 then lN (wd5 k) else 0
theorem zN5 {n t N : Nat} (hs : qsh n = (40 + t, N)) (h : n ≠ 13 ∧ n ≠ 14 ∧ n ≠ 8) : zN zJ5 n := fun k => ⟨(zN_of hs ⟨h.1, h.2.1⟩ k).1, if_neg h.2.2, (zN_of hs ⟨h.1, h.2.1⟩ k).2.2⟩
theorem wN_z {M : qM} {n : Nat} (k : Nat) : (wN M n).1 n k = 0 ∧ (wN M n).2.1 n k = 0 := ⟨if_pos rfl, if_pos rfl⟩
theorem qUp.J {J J' : Nat → Nat → Int64} {lo hi : Nat} {M M' : qM} (h : qUp J lo hi M M') (e : ∀ a k, lo ≤ a → a < hi → J a k = J' a k) : qUp J' lo hi M M' := ⟨h.1, fun a k h1 h2 => ⟨(h.2 a k h1 h2).1, (h.2 a k h1 h2).2.1.trans (e a k h1 h2), (h.2 a k h1 h2).2.2⟩⟩
theorem qFr.wI0 {S : Nat → Nat → Prop} {M M0 : qM} {a k : Nat} {x : Int32} (h : qFr S M0 M) (e : M.1 a k = x) : qFr S M0 (fun b j => if b = a ∧ j = k then x else M.1 b j, M.2) := h.tr ⟨fun b j _ => by
  by_cases c : b = a ∧ j = k
  · show (if b = a ∧ j = k then x else M.1 b j) = _
    rw [if_pos c, c.1, c.2, e]
  · show (if b = a ∧ j = k then x else M.1 b j) = _
    rw [if_neg c], fun _ _ _ => rfl, rfl⟩
theorem qi_callVN {g : qG} {K K' : qKt} {R : Room} {Z : List Frame → Array Value → State → State → Prop} {pc n d k idx : Nat} {L : List (Option Value)} {st stk As : List Value} {M : qM} {cs : Nat × Nat} {b c : Nat} {Q : qM → Prop} (hlk : qLV K.1.cls idx K') (hok : qok K' k) (hd : decode K.2.1 pc = .ok (.invokevirtual idx, 3)) (hm : qN g d K' (.ref b :: As) n M 0 0 n Q) (hb : qsh b = (c, 0)) (hc : c < 40) (hbc : (q_cl[c]?).map (fun q => q.1) = some K'.1.cls) (hbn : b < n) (hstk : stk = As.reverse ++ .ref b :: st) (hk : As.length = k) (hst : (st.map fun v => v.category).sum ≤ 8) (hR : d + 1 ≤ R.frames ∧ 8 + (K'.2.2.1 + 11) + 40 * d ≤ R.locals) (hcs : cs.1 ≤ R.cells ∧ cs.2 ≤ R.slots) (kk : ∀ M', Q M' → qT g K R Z (pc + 3) L st n M' cs) : qT g K R Z pc L stk n M cs := by
  subst hstk
  refine q_V hlk hok hd hm hb hc hbc hbn hk hst hR hcs (fun v n' M' hq => ?_)
  obtain ⟨rfl, rfl, hq⟩ := hq
  exact kk M' hq
/-- the walk over the words -/
def wkS : Nat → Nat × List Nat
  | 0 => (0, List.replicate 17 0)
  | i + 1 => if chQ 0 i = 32 then ((wkS i).1 + 1, (wkS i).2) else ((wkS i).1, (wkS i).2.set (wkS i).1 ((wkS i).2.getD (wkS i).1 0 * 32 + ((chQ 0 i).toNatClampNeg - 96)))
def wlQ (x : Int64) (c : Int32) : Int64 := (x <<< ((5 : Int32).toInt64 &&& 63)) ||| (c - 97 + 1).toInt64
theorem wk_all : ∀ i, i < 85 → (wkS i).1 < 17 ∧ (¬ chQ 0 i = 32 → wlQ (lN ((wkS i).2.getD (wkS i).1 0)) (chQ 0 i) = lN ((wkS i).2.getD (wkS i).1 0 * 32 + ((chQ 0 i).toNatClampNeg - 96))) ∧ (wkS i).2.length = 17 := by decide +kernel
theorem wk_end : ∀ k, k < 17 → (wkS 85).2.getD k 0 = wd5 k := by decide +kernel
theorem getD_set {l : List Nat} {w v k : Nat} (h : w < l.length) : (l.set w v).getD k 0 = if k = w then v else l.getD k 0 := by
  rw [List.getD_eq_getElem?_getD, List.getElem?_set]
  by_cases c : w = k
  · subst c
    simp [h]
  · rw [if_neg c, if_neg (fun z => c z.symm), List.getD_eq_getElem?_getD]
theorem wk_len : (wkS 85).2.length = 17 := by decide +kernel
theorem wd5_out {k : Nat} (h : 17 ≤ k) : wd5 k = 0 := by
  unfold wd5
  rw [List.getD_eq_getElem?_getD, List.getElem?_eq_none (by simpa using h)]
  rfl
theorem c_X8_withLetter (g : qG) {n : Nat} {M : qM} (x : Int64) (c : Int32) : qPz g 0 kX8_withLetter [.long x, .int c] n M (some (.long (wlQ x c))) := by
  refine qPz.of (j := 0) (pn_RX8) rfl ?_
  show qT g kX8_withLetter (qR 0 0 0) (qZ g (fun r n' M' => n' = n ∧ r = (some (.long (wlQ x c))) ∧ M' = M) 0 0) 0 [some (.long x), none, some (.int c)] [] n M (0, 0)
  refine qi_lload_n (i := 0) (x := x) dX8_withLetter_0 rfl rfl ?_
  refine qi_iconst (v := 5) dX8_withLetter_1 rfl ?_
  refine qi_lshl dX8_withLetter_2 ?_
  refine qi_iload_n (i := 2) (x := c) dX8_withLetter_3 rfl rfl ?_
  refine qi_bipush (v := 97) dX8_withLetter_4 rfl ?_
  refine qi_isub dX8_withLetter_6 ?_
  refine qi_iconst (v := 1) dX8_withLetter_7 rfl ?_
  refine qi_iadd dX8_withLetter_8 ?_
  refine qi_i2l dX8_withLetter_9 ?_
  refine qi_lor dX8_withLetter_10 ?_
  exact qi_lreturn rfl dX8_withLetter_11 ⟨by decide, by decide⟩ ⟨rfl, rfl, rfl⟩
set_option maxHeartbeats 4000000 in
theorem c_X8_init (g : qG) {M : qM} (hz : ∀ k, M.1 4 k = 0 ∧ M.2.1 4 k = 0) : qN g 4 kX8_init [.ref 4] (5) M 4 1220 9 (fun M' => qUp zJ5 4 9 M M') := by
  refine qN.of (j := 2) (pn_RX8) rfl ?_
  show qT g kX8_init (qR 4 4 1220) (qZ g (fun v n' M' => n' = 9 ∧ v = none ∧ qUp zJ5 4 9 M M') 4 1220) 0 [some (.ref 4), none, none] [] 5 M (0, 0)
  have u0 : qUI J0 4 (5) M M (fun _ => 0) (fun _ => none) := qUI.st hz
  refine qi_aload_n (i := 0) (x := 4) dX8_init_0 rfl rfl ?_
  refine qi_objInit oiX8_3 oi_i oi_c dX8_init_1 (Nat.le_of_ble_eq_true rfl) ⟨by decide, by decide⟩ ?_
  refine qi_aload_n (i := 0) (x := 4) dX8_init_4 rfl rfl ?_
  refine qi_sipush (v := 401) dX8_init_5 rfl ?_
  refine qi_newa (N := 401) (t := 0) (ty := .int) dX8_init_8 rfl (by omega) rfl (by decide) ac_int (by decide) (by decide) (by decide) (by decide) (by decide) ?_
  refine qi_putR (x := 5) flX8_9 q_cls8 ty8_0 (fun _ => ⟨rfl, rfl⟩) dX8_init_10 rfl (by decide) ?_
  have u1 := u0.arr (zN_of (t := 0) (N := 401) rfl (by omega)) 0
  generalize wR (wN M 5) 4 0 (some 5) = M1 at u1 ⊢
  refine qi_aload_n (i := 0) (x := 4) dX8_init_13 rfl rfl ?_
  refine qi_sipush (v := 401) dX8_init_14 rfl ?_
  refine qi_newa (N := 401) (t := 0) (ty := .int) dX8_init_17 rfl (by omega) rfl (by decide) ac_int (by decide) (by decide) (by decide) (by decide) (by decide) ?_
  refine qi_putR (x := 6) flX8_15 q_cls8 ty8_1 (fun _ => ⟨rfl, rfl⟩) dX8_init_19 rfl (by decide) ?_
  have u2 := u1.arr (zN_of (t := 0) (N := 401) rfl (by omega)) 1
  generalize wR (wN M1 6) 4 1 (some 6) = M2 at u2 ⊢
  refine qi_aload_n (i := 0) (x := 4) dX8_init_22 rfl rfl ?_
  refine qi_sipush (v := 401) dX8_init_23 rfl ?_
  refine qi_newa (N := 401) (t := 1) (ty := .long) dX8_init_26 rfl (by omega) rfl (by decide) ac_long (by decide) (by decide) (by decide) (by decide) (by decide) ?_
  refine qi_putR (x := 7) flX8_18 q_cls8 ty8_2 (fun _ => ⟨rfl, rfl⟩) dX8_init_28 rfl (by decide) ?_
  have u3 := u2.arr (zN_of (t := 1) (N := 401) rfl (by omega)) 2
  generalize wR (wN M2 7) 4 2 (some 7) = M3 at u3 ⊢
  refine qi_aload_n (i := 0) (x := 4) dX8_init_31 rfl rfl ?_
  refine qi_bipush (v := 17) dX8_init_32 rfl ?_
  refine qi_newa (N := 17) (t := 1) (ty := .long) dX8_init_34 rfl (by omega) rfl (by decide) ac_long (by decide) (by decide) (by decide) (by decide) (by decide) ?_
  refine qi_putR (x := 8) flX8_22 q_cls8 ty8_3 (fun _ => ⟨rfl, rfl⟩) dX8_init_36 rfl (by decide) ?_
  have u4 := u3.arr (zN_of (t := 1) (N := 17) rfl (by omega)) 3
  generalize wR (wN M3 8) 4 3 (some 8) = M4 at u4 ⊢
  refine qi_aload_n (i := 0) (x := 4) dX8_init_39 rfl rfl ?_
  refine qi_iconst (v := 0) dX8_init_40 rfl ?_
  refine qi_putI flX8_25 q_cls8 (ty8_4 _) dX8_init_41 rfl (by decide) ?_
  have u5 := u4.int 4 (0)
  generalize wI M4 4 4 0 = M5 at u5 ⊢
  refine qi_aload_n (i := 0) (x := 4) dX8_init_44 rfl rfl ?_
  refine qi_iconst (v := 0) dX8_init_45 rfl ?_
  refine qi_putI flX8_29 q_cls8 (ty8_5 _) dX8_init_46 rfl (by decide) ?_
  have u6 := u5.int 5 (0)
  generalize wI M5 4 5 0 = M6 at u6 ⊢
  have hfin : qUp J0 4 9 M M6 := by
    refine qUI.fin u6 (fun k => ?_) (fun k x h => ?_) (fun _ => rfl)
    · unfold zI
      rw [show qsh 4 = (8, 0) from rfl]
      show _ = zc 8 k
      simp only [updF, zc]
      try grind
    · unfold q_ref at h
      rw [show qsh 4 = (8, 0) from rfl] at h
      match k, h with
      | 0, h => exact h
      | 1, h => exact h
      | 2, h => exact h
      | 3, h => exact h
      | 4, h => exact h
      | 5, h => exact h
      | j + 6, h => exact (by have h2 : (none : Option Nat) = some x := h; cases h2)
  have hw : M6.2.2 4 3 = some 8 := (u6.2.2.2 3).2.2 8 rfl
  have hi : (0 : Nat) < 2 := by decide
  have hz8 : ∀ k, M6.2.1 8 k = 0 := fun k => (hfin.2 8 k (by decide) (by decide)).2.1
  have LOOP : ∀ m i w M1, i + m = 85 → w = (wkS i).1 → (∀ a k, M1.1 a k = M6.1 a k) → M1.2.2 = M6.2.2 → (∀ a k, ¬ a = 8 → M1.2.1 a k = M6.2.1 a k) → (∀ k, M1.2.1 8 k = lN ((wkS i).2.getD k 0)) → qT g kX8_init (qR 4 4 1220) (qZ g (fun v n' M' => n' = 9 ∧ v = none ∧ qUp zJ5 4 9 M M') 4 1220) 53 [some (.ref 4), some (.int (nI w)), some (.int (nI i))] [] 9 M1 (4, 1220) := by
    intro m
    induction m with
    | zero =>
      intro i w M1 e ew h1 h2 h3 h4
      obtain rfl : i = 85 := by omega
      refine qi_iload_n (i := 2) (x := nI 85) dX8_init_53 rfl rfl ?_
      refine qi_sldc0 rfl dX8_init_54 ?_
      refine qi_callzT (K' := kJ0_length_8abf5) (As := []) mlX8_34 okJ0_length_8abf5 dX8_init_56 (c_slength g (by decide)) hi rfl rfl rfl (Nat.le_of_ble_eq_true rfl) ⟨(Nat.le_of_ble_eq_true rfl), (Nat.le_of_ble_eq_true rfl)⟩ ⟨Nat.le_refl _, Nat.le_refl _⟩ ?_
      show qT g kX8_init (qR 4 4 1220) (qZ g (fun v n' M' => n' = 9 ∧ v = none ∧ qUp zJ5 4 9 M M') 4 1220) 59 [some (.ref 4), some (.int (nI w)), some (.int (nI 85))] [.int (nI (qlen.getD 0 0)), .int (nI 85)] 9 M1 (4, 1220)
      refine qi_icmp_ge (tgt := 112) dX8_init_59 (by decide) (fun z => ?_) (fun z => False.elim ((z (by decide))))
      refine qi_retN rfl dX8_init_112 (by decide) (?_)
      refine ⟨fun a k ha => ?_, fun a k ha hb => ?_⟩
      · obtain ⟨q1, q2, q3⟩ := hfin.1 a k ha
        exact ⟨(h1 a k).trans q1, (h3 a k (by omega)).trans q2, by rw [h2]; exact q3⟩
      · obtain ⟨q1, q2, q3⟩ := hfin.2 a k ha hb
        refine ⟨(h1 a k).trans q1, ?_, by rw [h2]; exact q3⟩
        by_cases c : a = 8
        · subst c
          rw [h4 k]
          show _ = lN (wd5 k)
          by_cases hk : k < 17
          · rw [wk_end k hk]
          · rw [wd5_out (by omega), List.getD_eq_getElem?_getD, List.getElem?_eq_none (by rw [wk_len]; omega)]
            rfl
        · rw [h3 a k c, q2]
          exact (if_neg c).symm
    | succ m ih =>
      intro i w M1 e ew h1 h2 h3 h4
      obtain ⟨w1, w2, w3⟩ := wk_all i (by omega)
      rw [← ew] at w1 w2
      have hw1 : M1.2.2 4 3 = some 8 := by rw [h2]; exact hw
      refine qi_iload_n (i := 2) (x := nI i) dX8_init_53 rfl rfl ?_
      refine qi_sldc0 rfl dX8_init_54 ?_
      refine qi_callzT (K' := kJ0_length_8abf5) (As := []) mlX8_34 okJ0_length_8abf5 dX8_init_56 (c_slength g (by decide)) hi rfl rfl rfl (Nat.le_of_ble_eq_true rfl) ⟨(Nat.le_of_ble_eq_true rfl), (Nat.le_of_ble_eq_true rfl)⟩ ⟨Nat.le_refl _, Nat.le_refl _⟩ ?_
      show qT g kX8_init (qR 4 4 1220) (qZ g (fun v n' M' => n' = 9 ∧ v = none ∧ qUp zJ5 4 9 M M') 4 1220) 59 [some (.ref 4), some (.int (nI w)), some (.int (nI i))] [.int (nI (qlen.getD 0 0)), .int (nI i)] 9 M1 (4, 1220)
      refine qe_top (y := nI 85) rfl ?_
      refine qi_icmp_ge (tgt := 112) dX8_init_59 (by decide) (fun _h => absurd ((nI_leI (a := 85) (b := i) (by omega) (by omega)).mp _h) (by omega)) (fun _hc => ?_)
      refine qi_iload_n (i := 1) (x := nI w) dX8_init_62 rfl rfl ?_
      refine qi_bipush (v := 17) dX8_init_63 rfl ?_
      refine qi_icmp_ge (tgt := 112) dX8_init_65 (by decide) (fun _h => absurd ((nI_leI (a := 17) (b := w) (by omega) (by omega)).mp _h) (by omega)) (fun _hc => ?_)
      refine qi_sldc0 rfl dX8_init_68 ?_
      refine qi_iload_n (i := 2) (x := nI i) dX8_init_70 rfl rfl ?_
      refine qi_callzT (K' := kJ0_charAt_5068e) (As := [.int (nI i)]) mlX8_40 okJ0_charAt_5068e dX8_init_71 (c_charAt g (i := 0) (j := i) (by decide) (show i < 85 by omega)) hi rfl rfl rfl (Nat.le_of_ble_eq_true rfl) ⟨(Nat.le_of_ble_eq_true rfl), (Nat.le_of_ble_eq_true rfl)⟩ ⟨Nat.le_refl _, Nat.le_refl _⟩ ?_
      show qT g kX8_init (qR 4 4 1220) (qZ g (fun v n' M' => n' = 9 ∧ v = none ∧ qUp zJ5 4 9 M M') 4 1220) 74 [some (.ref 4), some (.int (nI w)), some (.int (nI i))] [.int (chQ 0 i)] 9 M1 (4, 1220)
      refine qi_bipush (v := 32) dX8_init_74 rfl ?_
      by_cases hc : chQ 0 i = 32
      ·
        refine qi_icmp_ne (tgt := 85) dX8_init_76 (by decide) (fun z => False.elim ((z hc))) (fun z => ?_)
        refine qi_iinc (i := 1) (x := nI w) (v := nI (w + 1)) (L2 := [some (.ref 4), some (.int (nI (w + 1))), some (.int (nI i))]) dX8_init_79 rfl (nI_1 w) (Nat.le_of_ble_eq_true rfl) rfl ?_
        refine qi_goto (tgt := 106) dX8_init_82 (by decide) ?_
        refine qi_iinc (i := 2) (x := nI i) (v := nI (i + 1)) (L2 := [some (.ref 4), some (.int (nI (w + 1))), some (.int (nI (i + 1)))]) dX8_init_106 rfl (nI_1 i) (Nat.le_of_ble_eq_true rfl) rfl ?_
        refine qi_goto (tgt := 53) dX8_init_109 (by decide) ?_
        have ee : wkS (i + 1) = ((wkS i).1 + 1, (wkS i).2) := if_pos hc
        refine ih (i + 1) (w + 1) M1 (by omega) (by rw [ee, ew]) h1 h2 h3 (fun k => ?_)
        rw [ee]
        exact h4 k
      ·
        refine qi_icmp_ne (tgt := 85) dX8_init_76 (by decide) (fun z => ?_) (fun z => False.elim ((hc z)))
        refine qi_aload_n (i := 0) (x := 4) dX8_init_85 rfl rfl ?_
        refine qi_getR (x := 8) flX8_22 dX8_init_86 rfl (by decide) hw1 ?_
        refine qi_iload_n (i := 1) (x := nI w) dX8_init_89 rfl rfl ?_
        refine qi_aload_n (i := 0) (x := 4) dX8_init_90 rfl rfl ?_
        refine qi_getR (x := 8) flX8_22 dX8_init_91 rfl (by decide) hw1 ?_
        refine qi_iload_n (i := 1) (x := nI w) dX8_init_94 rfl rfl ?_
        refine qi_laldN (x := M1.2.1 8 w) (j := w) dX8_init_95 rfl (by decide) rfl (by omega) (by decide) rfl ?_
        refine qi_sldc0 rfl dX8_init_96 ?_
        refine qi_iload_n (i := 2) (x := nI i) dX8_init_98 rfl rfl ?_
        refine qi_callzT (K' := kJ0_charAt_5068e) (As := [.int (nI i)]) mlX8_40 okJ0_charAt_5068e dX8_init_99 (c_charAt g (i := 0) (j := i) (by decide) (show i < 85 by omega)) hi rfl rfl rfl (Nat.le_of_ble_eq_true rfl) ⟨(Nat.le_of_ble_eq_true rfl), (Nat.le_of_ble_eq_true rfl)⟩ ⟨Nat.le_refl _, Nat.le_refl _⟩ ?_
        show qT g kX8_init (qR 4 4 1220) (qZ g (fun v n' M' => n' = 9 ∧ v = none ∧ qUp zJ5 4 9 M M') 4 1220) 102 [some (.ref 4), some (.int (nI w)), some (.int (nI i))] [.int (chQ 0 i), .long (M1.2.1 8 w), .int (nI w), .ref 8] 9 M1 (4, 1220)
        refine qi_callzS (K' := kX8_withLetter) (As := [.long (M1.2.1 8 w), .int (chQ 0 i)]) mlX8_44 okX8_withLetter dX8_init_102 (c_X8_withLetter g (M1.2.1 8 w) (chQ 0 i)) rfl rfl (Nat.le_of_ble_eq_true rfl) ⟨(Nat.le_of_ble_eq_true rfl), (Nat.le_of_ble_eq_true rfl)⟩ ⟨Nat.le_refl _, Nat.le_refl _⟩ ?_
        show qT g kX8_init (qR 4 4 1220) (qZ g (fun v n' M' => n' = 9 ∧ v = none ∧ qUp zJ5 4 9 M M') 4 1220) 105 [some (.ref 4), some (.int (nI w)), some (.int (nI i))] [.long (wlQ (M1.2.1 8 w) (chQ 0 i)), .int (nI w), .ref 8] 9 M1 (4, 1220)
        refine qi_lastN (j := w) dX8_init_105 rfl (by decide) rfl (by omega) (by decide) ?_
        refine qi_iinc (i := 2) (x := nI i) (v := nI (i + 1)) (L2 := [some (.ref 4), some (.int (nI w)), some (.int (nI (i + 1)))]) dX8_init_106 rfl (nI_1 i) (Nat.le_of_ble_eq_true rfl) rfl ?_
        refine qi_goto (tgt := 53) dX8_init_109 (by decide) ?_
        have ee : wkS (i + 1) = ((wkS i).1, (wkS i).2.set (wkS i).1 ((wkS i).2.getD (wkS i).1 0 * 32 + ((chQ 0 i).toNatClampNeg - 96))) := if_neg hc
        rw [← ew] at ee
        refine ih (i + 1) w _ (by omega) (by rw [ee]) h1 h2 (fun a k ha => ?_) (fun k => ?_)
        · simp only [wJ]
          rw [if_neg (fun z => ha z.1)]
          exact h3 a k ha
        · rw [ee]
          show _ = lN (((wkS i).2.set w ((wkS i).2.getD w 0 * 32 + ((chQ 0 i).toNatClampNeg - 96))).getD k 0)
          rw [getD_set (by omega)]
          simp only [wJ]
          by_cases hk : k = w
          · rw [if_pos ⟨trivial, hk⟩, if_pos hk, h4 w]
            exact w2 hc
          · rw [if_neg (fun z => hk z.2), if_neg hk]
            exact h4 k
  refine qi_iconst (v := 0) dX8_init_49 rfl ?_
  refine qi_istore_n (i := 1) (L2 := [some (.ref 4), some (.int 0), none]) dX8_init_50 rfl (Nat.le_of_ble_eq_true rfl) rfl ?_
  refine qi_iconst (v := 0) dX8_init_51 rfl ?_
  refine qi_istore_n (i := 2) (L2 := [some (.ref 4), some (.int 0), some (.int 0)]) dX8_init_52 rfl (Nat.le_of_ble_eq_true rfl) rfl ?_
  exact LOOP 85 0 0 M6 rfl rfl (fun _ _ => rfl) rfl (fun _ _ _ => rfl) (fun k => by
    rw [hz8 k]
    show (0 : Int64) = lN ((List.replicate 17 0).getD k 0)
    rw [show (List.replicate 17 0).getD k 0 = 0 by rw [List.getD_eq_getElem?_getD, List.getElem?_replicate]; split <;> rfl]
    rfl)
set_option maxHeartbeats 4000000 in
theorem c_X4_init (g : qG) {M : qM} (hz : ∀ k, M.1 3 k = 0 ∧ M.2.1 3 k = 0) : qN g 5 kX4_init [.ref 3] (4) M 8 1283 12 (fun M' => qUp zJ5 3 12 M M') := by
  refine qN.of (j := 0) (pn_RX4) rfl ?_
  show qT g kX4_init (qR 5 8 1283) (qZ g (fun v n' M' => n' = 12 ∧ v = none ∧ qUp zJ5 3 12 M M') 8 1283) 0 [some (.ref 3)] [] 4 M (0, 0)
  have u0 : qUI zJ5 3 (4) M M (fun _ => 0) (fun _ => none) := qUI.st hz
  refine qi_aload_n (i := 0) (x := 3) dX4_init_0 rfl rfl ?_
  refine qi_objInit oiX4_3 oi_i oi_c dX4_init_1 (Nat.le_of_ble_eq_true rfl) ⟨by decide, by decide⟩ ?_
  refine qi_aload_n (i := 0) (x := 3) dX4_init_4 rfl rfl ?_
  refine qi_new (c := 8) (N := 6) (ty := tyX8) dX4_init_5 rfl (by omega) rfl rfl (by decide) q_in8 tyX8_ok (by decide +kernel) clX4_9 inX8 itX8 (by decide) (by decide) ?_
  refine qi_dup dX4_init_8 ?_
  refine qi_callI (b := 4) (n2 := 9) (K' := kX8_init) (As := []) mlX4_11 okX8_init dX4_init_9 (c_X8_init g (wN_z)) rfl rfl (Nat.le_of_ble_eq_true rfl) ⟨(Nat.le_of_ble_eq_true rfl), (Nat.le_of_ble_eq_true rfl)⟩ ⟨(Nat.le_of_ble_eq_true rfl), (Nat.le_of_ble_eq_true rfl)⟩ (fun N0 hN0 => ?_)
  show qT g kX4_init (qR 5 8 1283) (qZ g (fun v n' M' => n' = 12 ∧ v = none ∧ qUp zJ5 3 12 M M') 8 1283) 12 [some (.ref 3)] [.ref 4, .ref 3] 9 N0 (5, 1226)
  refine qi_putR (x := 4) flX4_12 q_cls4 ty4_0 (fun _ => ⟨rfl, rfl⟩) dX4_init_12 rfl (by decide) ?_
  have u1 := u0.cal hN0 (by omega) 0
  generalize wR N0 3 0 (some 4) = M1 at u1 ⊢
  refine qi_aload_n (i := 0) (x := 3) dX4_init_15 rfl rfl ?_
  refine qi_bipush (v := 19) dX4_init_16 rfl ?_
  refine qi_newa (N := 19) (t := 1) (ty := .long) dX4_init_18 rfl (by omega) rfl (by decide) ac_long (by decide) (by decide) (by decide) (by decide) (by decide) ?_
  refine qi_putR (x := 9) flX4_18 q_cls4 ty4_1 (fun _ => ⟨rfl, rfl⟩) dX4_init_20 rfl (by decide) ?_
  have u2 := u1.arr (zN5 (t := 1) (N := 19) rfl (by omega)) 1
  generalize wR (wN M1 9) 3 1 (some 9) = M2 at u2 ⊢
  refine qi_aload_n (i := 0) (x := 3) dX4_init_23 rfl rfl ?_
  refine qi_bipush (v := 19) dX4_init_24 rfl ?_
  refine qi_newa (N := 19) (t := 0) (ty := .int) dX4_init_26 rfl (by omega) rfl (by decide) ac_int (by decide) (by decide) (by decide) (by decide) (by decide) ?_
  refine qi_putR (x := 10) flX4_22 q_cls4 ty4_2 (fun _ => ⟨rfl, rfl⟩) dX4_init_28 rfl (by decide) ?_
  have u3 := u2.arr (zN5 (t := 0) (N := 19) rfl (by omega)) 2
  generalize wR (wN M2 10) 3 2 (some 10) = M3 at u3 ⊢
  refine qi_aload_n (i := 0) (x := 3) dX4_init_31 rfl rfl ?_
  refine qi_bipush (v := 19) dX4_init_32 rfl ?_
  refine qi_newa (N := 19) (t := 0) (ty := .int) dX4_init_34 rfl (by omega) rfl (by decide) ac_int (by decide) (by decide) (by decide) (by decide) (by decide) ?_
  refine qi_putR (x := 11) flX4_26 q_cls4 ty4_3 (fun _ => ⟨rfl, rfl⟩) dX4_init_36 rfl (by decide) ?_
  have u4 := u3.arr (zN5 (t := 0) (N := 19) rfl (by omega)) 3
  generalize wR (wN M3 11) 3 3 (some 11) = M4 at u4 ⊢
  refine qi_aload_n (i := 0) (x := 3) dX4_init_39 rfl rfl ?_
  refine qi_iconst (v := 0) dX4_init_40 rfl ?_
  refine qi_putI flX4_29 q_cls4 (ty4_4 _) dX4_init_41 rfl (by decide) ?_
  have u5 := u4.int 4 (0)
  generalize wI M4 3 4 0 = M5 at u5 ⊢
  refine qi_aload_n (i := 0) (x := 3) dX4_init_44 rfl rfl ?_
  refine qi_null dX4_init_45 ?_
  refine qi_putN flX4_33 q_cls4 tyn4_5 (fun h => by cases h) dX4_init_46 rfl (by decide) ?_
  have u6 := u5.nul 5
  generalize wR M5 3 5 none = M6 at u6 ⊢
  refine qi_aload_n (i := 0) (x := 3) dX4_init_49 rfl rfl ?_
  refine qi_iconst (v := 0) dX4_init_50 rfl ?_
  refine qi_putI flX4_37 q_cls4 (ty4_6 _) dX4_init_51 rfl (by decide) ?_
  have u7 := u6.int 6 (0)
  generalize wI M6 3 6 0 = M7 at u7 ⊢
  refine qi_aload_n (i := 0) (x := 3) dX4_init_54 rfl rfl ?_
  refine qi_iconst (v := 0) dX4_init_55 rfl ?_
  refine qi_putI flX4_40 q_cls4 (ty4_7 _) dX4_init_56 rfl (by decide) ?_
  have u8 := u7.int 7 (0)
  generalize wI M7 3 7 0 = M8 at u8 ⊢
  refine qi_aload_n (i := 0) (x := 3) dX4_init_59 rfl rfl ?_
  refine qi_iconst (v := 0) dX4_init_60 rfl ?_
  refine qi_putI flX4_43 q_cls4 (ty4_8 _) dX4_init_61 rfl (by decide) ?_
  have u9 := u8.int 8 (0)
  generalize wI M8 3 8 0 = M9 at u9 ⊢
  refine qi_aload_n (i := 0) (x := 3) dX4_init_64 rfl rfl ?_
  refine qi_iconst (v := 0) dX4_init_65 rfl ?_
  refine qi_putI flX4_46 q_cls4 (ty4_9 _) dX4_init_66 rfl (by decide) ?_
  have u10 := u9.int 9 (0)
  generalize wI M9 3 9 0 = M10 at u10 ⊢
  refine qi_aload_n (i := 0) (x := 3) dX4_init_69 rfl rfl ?_
  refine qi_iconst (v := -1) dX4_init_70 rfl ?_
  refine qi_putI flX4_49 q_cls4 (ty4_10 _) dX4_init_71 rfl (by decide) ?_
  have u11 := u10.int 10 (-1)
  generalize wI M10 3 10 (-1) = M11 at u11 ⊢
  refine qi_aload_n (i := 0) (x := 3) dX4_init_74 rfl rfl ?_
  refine qi_iconst (v := -1) dX4_init_75 rfl ?_
  refine qi_putI flX4_52 q_cls4 (ty4_11 _) dX4_init_76 rfl (by decide) ?_
  have u12 := u11.int 11 (-1)
  generalize wI M11 3 11 (-1) = M12 at u12 ⊢
  refine qi_retN rfl dX4_init_79 (by decide) (?_)
  refine qUI.fin u12 (fun k => ?_) (fun k x h => ?_) (fun _ => rfl)
  · unfold zI
    rw [show qsh 3 = (4, 0) from rfl]
    show _ = zc 4 k
    simp only [updF, zc]
    try grind
  · unfold q_ref at h
    rw [show qsh 3 = (4, 0) from rfl] at h
    match k, h with
    | 0, h => exact h
    | 1, h => exact h
    | 2, h => exact h
    | 3, h => exact h
    | 4, h => exact h
    | 5, h => exact h
    | 6, h => exact h
    | 7, h => exact h
    | 8, h => exact h
    | 9, h => exact h
    | 10, h => exact h
    | 11, h => exact h
    | j + 12, h => exact (by have h2 : (none : Option Nat) = some x := h; cases h2)
/-- the memory's cells while its seas are made -/
def qMI (M0 M : qM) (n i j : Nat) : Prop := (∀ a k, a < 12 → qSm M0 M a k) ∧ (∀ a k, 12 ≤ a → a < n → M.1 a k = 0 ∧ M.2.1 a k = 0) ∧ (∀ a k x, 12 ≤ a → a < n → a ≠ 13 → a ≠ 14 → q_ref a k = some x → M.2.2 a k = some x) ∧ (∀ k, k < i → M.2.2 13 k = some (16 + 6 * k)) ∧ ∀ k, k < j → M.2.2 14 k = some (196 + 6 * k)
theorem zI_sea {n a k : Nat} (hs : qIsS n) (h1 : n ≤ a) (h2 : a < n + 6) : zI a k = 0 := by
  obtain ⟨s0, s1, s2, s3, s4, s5, -⟩ := hs
  unfold zI
  rcases (by omega : a = n ∨ a = n + 1 ∨ a = n + 2 ∨ a = n + 3 ∨ a = n + 4 ∨ a = n + 5) with e | e | e | e | e | e <;> rw [e]
  · rw [s0]
    rfl
  · rw [s1]
    rfl
  · rw [s2]
    rfl
  · rw [s3]
    rfl
  · rw [s4]
    rfl
  · rw [s5]
    rfl
theorem qMI.sea {M0 M M2 : qM} {n i j : Nat} (h : qMI M0 M n i j) (hn : 15 < n) (hs : qIsS n) (hu : qUp J0 n (n + 6) (wN M n) M2) : qMI M0 M2 (n + 6) i j := by
  obtain ⟨h1, h2, h3, h4, h5⟩ := h
  have e : ∀ a k, a < n → qSm M M2 a k := fun a k ha => by
    have h := hu.1 a k ha
    unfold qSm at *
    simp only [wN] at h
    rw [if_neg (by omega), if_neg (by omega), if_neg (by omega)] at h
    exact h
  refine ⟨fun a k ha => ?_, fun a k ha hb => ?_, fun a k x ha hb a1 a2 hx => ?_, fun k hk => ?_, fun k hk => ?_⟩
  · have h := h1 a k ha
    have h' := e a k (by omega)
    exact ⟨h'.1.trans h.1, h'.2.1.trans h.2.1, h'.2.2.trans h.2.2⟩
  · by_cases c : a < n
    · have h' := e a k c
      have h := h2 a k ha c
      exact ⟨h'.1.trans h.1, h'.2.1.trans h.2⟩
    · obtain ⟨q1, q2, -⟩ := hu.2 a k (by omega) hb
      exact ⟨q1.trans (zI_sea hs (by omega) hb), q2⟩
  · by_cases c : a < n
    · exact (e a k c).2.2.trans (h3 a k x ha c a1 a2 hx)
    · exact (hu.2 a k (by omega) hb).2.2 x hx
  · exact (e 13 k (by omega)).2.2.trans (h4 k hk)
  · exact (e 14 k (by omega)).2.2.trans (h5 k hk)
theorem qMI.e1 {M0 M : qM} {n i j : Nat} (h : qMI M0 M n i j) : qMI M0 (wR M 13 i (some (16 + 6 * i))) n (i + 1) j := by
  obtain ⟨h1, h2, h3, h4, h5⟩ := h
  refine ⟨fun a k ha => ?_, h2, fun a k x ha hb a1 a2 hx => ?_, fun k hk => ?_, fun k hk => ?_⟩
  · have h := h1 a k ha
    unfold qSm at *
    simp only [wR]
    rw [if_neg (by omega)]
    exact h
  · simp only [wR]
    rw [if_neg (by omega)]
    exact h3 a k x ha hb a1 a2 hx
  · simp only [wR]
    by_cases c : k = i
    · rw [if_pos ⟨trivial, c⟩, c]
    · rw [if_neg (by omega)]
      exact h4 k (by omega)
  · simp only [wR]
    rw [if_neg (by omega)]
    exact h5 k hk
theorem qMI.e2 {M0 M : qM} {n i j : Nat} (h : qMI M0 M n i j) : qMI M0 (wR M 14 j (some (196 + 6 * j))) n i (j + 1) := by
  obtain ⟨h1, h2, h3, h4, h5⟩ := h
  refine ⟨fun a k ha => ?_, h2, fun a k x ha hb a1 a2 hx => ?_, fun k hk => ?_, fun k hk => ?_⟩
  · have h := h1 a k ha
    unfold qSm at *
    simp only [wR]
    rw [if_neg (by omega)]
    exact h
  · simp only [wR]
    rw [if_neg (by omega)]
    exact h3 a k x ha hb a1 a2 hx
  · simp only [wR]
    rw [if_neg (by omega)]
    exact h4 k hk
  · simp only [wR]
    by_cases c : k = j
    · rw [if_pos ⟨trivial, c⟩, c]
    · rw [if_neg (by omega)]
      exact h5 k (by omega)
theorem qe_ncs {g : qG} {K : qKt} {R : Room} {Z : List Frame → Array Value → State → State → Prop} {pc n n' : Nat} {L : List (Option Value)} {st : List Value} {M : qM} {cs cs' : Nat × Nat} (h1 : n = n') (h2 : cs.1 = cs'.1) (h3 : cs.2 = cs'.2) (kk : qT g K R Z pc L st n' M cs') : qT g K R Z pc L st n M cs := by
  obtain ⟨a, b⟩ := cs
  obtain ⟨a', b'⟩ := cs'
  subst h1
  cases h2
  cases h3
  exact kk
set_option maxHeartbeats 4000000 in
theorem c_X2_init (g : qG) {M : qM} (hz : ∀ k, M.1 12 k = 0 ∧ M.2.1 12 k = 0) : qN g 2 kX2_init [.ref 12] 13 M 201 3732 214 (fun M' => qUp J0 12 214 M M') := by
  have END : ∀ M1, qMI M M1 214 30 3 → qUp J0 12 214 M M1 := by
    intro M1 h
    obtain ⟨h1, h2, h3, h4, h5⟩ := h
    refine ⟨h1, fun a k ha hb => ⟨(h2 a k ha hb).1.trans ?_, (h2 a k ha hb).2, fun x hx => ?_⟩⟩
    · have key : ∀ a, a < 214 → 12 ≤ a → (qsh a).1 = 2 ∨ (qsh a).1 = 6 ∨ (qsh a).1 = 40 ∨ (qsh a).1 = 43 ∨ (qsh a).1 = 44 := by decide +kernel
      unfold zI
      rcases key a hb ha with e | e | e | e | e <;> rw [e] <;> rfl
    · by_cases c : a = 13
      · subst c
        have hx2 : (if k < 30 then some (16 + 6 * k) else none) = some x := hx
        by_cases ck : k < 30
        · rw [if_pos ck] at hx2
          rw [h4 k ck]
          exact hx2
        · rw [if_neg ck] at hx2
          cases hx2
      · by_cases c2 : a = 14
        · subst c2
          have hx2 : (if k < 3 then some (196 + 6 * k) else none) = some x := hx
          by_cases ck : k < 3
          · rw [if_pos ck] at hx2
            rw [h5 k ck]
            exact hx2
          · rw [if_neg ck] at hx2
            cases hx2
        · exact h3 a k x ha hb c c2 hx
  have L2 : ∀ m j M1, j + m = 3 → qMI M M1 (196 + 6 * j) 30 j → qT g kX2_init (qR 2 201 3732) (qZ g (fun v n' M' => n' = 214 ∧ v = none ∧ qUp J0 12 214 M M') 201 3732) 67 [some (.ref 12), some (.int (nI j))] [] (196 + 6 * j) M1 (183 + 6 * j, 3396 + 112 * j) := by
    intro m
    induction m with
    | zero =>
      intro j M1 e h
      obtain rfl : j = 3 := by omega
      refine qi_iload_n (i := 1) (x := nI 3) dX2_init_67 rfl rfl ?_
      refine qi_iconst (v := 3) dX2_init_68 rfl ?_
      refine qi_icmp_ge (tgt := 91) dX2_init_69 (by decide) (fun z => ?_) (fun z => False.elim ((z (by decide))))
      exact qi_retN rfl dX2_init_91 (by decide) ((END M1 h))
    | succ m ih =>
      intro j M1 e h
      have hs : qIsS (196 + 6 * j) := qIsS_slot (by omega)
      have hr : M1.2.2 12 1 = some 14 := h.2.2.1 12 1 14 (by omega) (by omega) (by omega) (by omega) rfl
      refine qi_iload_n (i := 1) (x := nI j) dX2_init_67 rfl rfl ?_
      refine qi_iconst (v := 3) dX2_init_68 rfl ?_
      refine qi_icmp_ge (tgt := 91) dX2_init_69 (by decide) (fun _h => absurd ((nI_leI (a := 3) (b := j) (by omega) (by omega)).mp _h) (by omega)) (fun _hc => ?_)
      refine qi_aload_n (i := 0) (x := 12) dX2_init_72 rfl rfl ?_
      refine qi_getR (x := 14) flX2_17 dX2_init_73 rfl (by omega) hr ?_
      refine qi_iload_n (i := 1) (x := nI j) dX2_init_76 rfl rfl ?_
      refine qi_new (c := 6) (N := 8) (ty := tyX6) dX2_init_77 hs.1 (by omega) rfl rfl (by decide) q_in6 tyX6_ok (by decide +kernel) clX2_9 inX6 itX6 (by simp only [qR]; omega) (by simp only [qR]; omega) ?_
      refine qi_dup dX2_init_80 ?_
      refine qi_callIN (b := 196 + 6 * j) (n2 := 196 + 6 * j + 6) (K' := kX6_init) (As := []) mlX2_31 okX6_init dX2_init_81 (c_X6_init g (b := 196 + 6 * j) hs (by omega) (by have := hs.2.2.2.2.2.2; omega) wN_z) rfl rfl (Nat.le_of_ble_eq_true rfl) ⟨(Nat.le_of_ble_eq_true rfl), (Nat.le_of_ble_eq_true rfl)⟩ ⟨by simp only [qR]; omega, by simp only [qR]; omega⟩ (fun M2 hu => ?_)
      have h2 := (h.sea (by omega) hs hu).e2
      refine qi_aastN (j := j) dX2_init_84 rfl (by omega) rfl (by omega) (by decide) hs.1 (by omega) ?_
      refine qi_iinc (i := 1) (x := nI j) (v := nI (j + 1)) (L2 := [some (.ref 12), some (.int (nI (j + 1)))]) dX2_init_85 rfl (nI_1 j) (Nat.le_of_ble_eq_true rfl) rfl ?_
      refine qi_goto (tgt := 67) dX2_init_88 (by decide) ?_
      refine qe_ncs (n' := 196 + 6 * (j + 1)) (cs' := (183 + 6 * (j + 1), 3396 + 112 * (j + 1))) (by omega) (by simp only; omega) (by simp only; omega) ?_
      exact ih (j + 1) _ (by omega) (by rw [show 196 + 6 * (j + 1) = 196 + 6 * j + 6 by omega]; exact h2)
  have L1 : ∀ m i M1, i + m = 30 → qMI M M1 (16 + 6 * i) i 0 → qT g kX2_init (qR 2 201 3732) (qZ g (fun v n' M' => n' = 214 ∧ v = none ∧ qUp J0 12 214 M M') 201 3732) 40 [some (.ref 12), some (.int (nI i))] [] (16 + 6 * i) M1 (3 + 6 * i, 36 + 112 * i) := by
    intro m
    induction m with
    | zero =>
      intro i M1 e h
      obtain rfl : i = 30 := by omega
      refine qi_iload_n (i := 1) (x := nI 30) dX2_init_40 rfl rfl ?_
      refine qi_bipush (v := 30) dX2_init_41 rfl ?_
      refine qi_icmp_ge (tgt := 65) dX2_init_43 (by decide) (fun z => ?_) (fun z => False.elim ((z (by decide))))
      refine qi_iconst (v := 0) dX2_init_65 rfl ?_
      refine qi_istore_n (i := 1) (L2 := [some (.ref 12), some (.int 0)]) dX2_init_66 rfl (Nat.le_of_ble_eq_true rfl) rfl ?_
      exact L2 3 0 M1 rfl h
    | succ m ih =>
      intro i M1 e h
      have hs : qIsS (16 + 6 * i) := qIsS_mem (by omega)
      have hr : M1.2.2 12 0 = some 13 := h.2.2.1 12 0 13 (by omega) (by omega) (by omega) (by omega) rfl
      refine qi_iload_n (i := 1) (x := nI i) dX2_init_40 rfl rfl ?_
      refine qi_bipush (v := 30) dX2_init_41 rfl ?_
      refine qi_icmp_ge (tgt := 65) dX2_init_43 (by decide) (fun _h => absurd ((nI_leI (a := 30) (b := i) (by omega) (by omega)).mp _h) (by omega)) (fun _hc => ?_)
      refine qi_aload_n (i := 0) (x := 12) dX2_init_46 rfl rfl ?_
      refine qi_getR (x := 13) flX2_11 dX2_init_47 rfl (by omega) hr ?_
      refine qi_iload_n (i := 1) (x := nI i) dX2_init_50 rfl rfl ?_
      refine qi_new (c := 6) (N := 8) (ty := tyX6) dX2_init_51 hs.1 (by omega) rfl rfl (by decide) q_in6 tyX6_ok (by decide +kernel) clX2_9 inX6 itX6 (by simp only [qR]; omega) (by simp only [qR]; omega) ?_
      refine qi_dup dX2_init_54 ?_
      refine qi_callIN (b := 16 + 6 * i) (n2 := 16 + 6 * i + 6) (K' := kX6_init) (As := []) mlX2_31 okX6_init dX2_init_55 (c_X6_init g (b := 16 + 6 * i) hs (by omega) (by have := hs.2.2.2.2.2.2; omega) wN_z) rfl rfl (Nat.le_of_ble_eq_true rfl) ⟨(Nat.le_of_ble_eq_true rfl), (Nat.le_of_ble_eq_true rfl)⟩ ⟨by simp only [qR]; omega, by simp only [qR]; omega⟩ (fun M2 hu => ?_)
      have h2 := (h.sea (by omega) hs hu).e1
      refine qi_aastN (j := i) dX2_init_58 rfl (by omega) rfl (by omega) (by decide) hs.1 (by omega) ?_
      refine qi_iinc (i := 1) (x := nI i) (v := nI (i + 1)) (L2 := [some (.ref 12), some (.int (nI (i + 1)))]) dX2_init_59 rfl (nI_1 i) (Nat.le_of_ble_eq_true rfl) rfl ?_
      refine qi_goto (tgt := 40) dX2_init_62 (by decide) ?_
      refine qe_ncs (n' := 16 + 6 * (i + 1)) (cs' := (3 + 6 * (i + 1), 36 + 112 * (i + 1))) (by omega) (by simp only; omega) (by simp only; omega) ?_
      exact ih (i + 1) _ (by omega) (by rw [show 16 + 6 * (i + 1) = 16 + 6 * i + 6 by omega]; exact h2)
  refine qN.of (j := 1) (pn_RX2) rfl ?_
  show qT g kX2_init (qR 2 201 3732) (qZ g (fun v n' M' => n' = 214 ∧ v = none ∧ qUp J0 12 214 M M') 201 3732) 0 [some (.ref 12), none] [] 13 M (0, 0)
  refine qi_aload_n (i := 0) (x := 12) dX2_init_0 rfl rfl ?_
  refine qi_objInit oiX2_3 oi_i oi_c dX2_init_1 (Nat.le_of_ble_eq_true rfl) ⟨by decide, by decide⟩ ?_
  refine qi_aload_n (i := 0) (x := 12) dX2_init_4 rfl rfl ?_
  refine qi_bipush (v := 30) dX2_init_5 rfl ?_
  refine qi_newq (N := 30) dX2_init_7 rfl (by decide) clX2_9 (by decide) (by decide) (by decide) (by decide) (by decide) ?_
  refine qi_putR (x := 13) flX2_11 q_cls2 ty2_0 (fun _ => ⟨rfl, rfl⟩) dX2_init_10 rfl (by decide) ?_
  refine qi_aload_n (i := 0) (x := 12) dX2_init_13 rfl rfl ?_
  refine qi_iconst (v := 3) dX2_init_14 rfl ?_
  refine qi_newq (N := 3) dX2_init_15 rfl (by decide) clX2_9 (by decide) (by decide) (by decide) (by decide) (by decide) ?_
  refine qi_putR (x := 14) flX2_17 q_cls2 ty2_1 (fun _ => ⟨rfl, rfl⟩) dX2_init_18 rfl (by decide) ?_
  refine qi_aload_n (i := 0) (x := 12) dX2_init_21 rfl rfl ?_
  refine qi_iconst (v := 3) dX2_init_22 rfl ?_
  refine qi_newa (N := 3) (t := 3) (ty := .boolean) dX2_init_23 rfl (by decide) rfl (by decide) ac_boolean (by decide) (by decide) (by decide) (by decide) (by decide) ?_
  refine qi_putR (x := 15) flX2_20 q_cls2 ty2_2 (fun _ => ⟨rfl, rfl⟩) dX2_init_25 rfl (by decide) ?_
  refine qi_aload_n (i := 0) (x := 12) dX2_init_28 rfl rfl ?_
  refine qi_iconst (v := 0) dX2_init_29 rfl ?_
  refine qi_putI flX2_24 q_cls2 (ty2_3 _) dX2_init_30 rfl (by decide) ?_
  refine qi_aload_n (i := 0) (x := 12) dX2_init_33 rfl rfl ?_
  refine qi_iconst (v := 0) dX2_init_34 rfl ?_
  refine qi_putI flX2_28 q_cls2 (ty2_4 _) dX2_init_35 rfl (by decide) ?_
  refine qi_iconst (v := 0) dX2_init_38 rfl ?_
  refine qi_istore_n (i := 1) (L2 := [some (.ref 12), some (.int 0)]) dX2_init_39 rfl (Nat.le_of_ble_eq_true rfl) rfl ?_
  refine L1 30 0 _ rfl ?_
  refine ⟨fun a k ha => ?_, fun a k h1 h2 => ?_, fun a k x h1 h2 h3 h4 h5 => ?_, fun k hk => absurd hk (by omega), fun k hk => absurd hk (by omega)⟩
  · simp only [qSm, wI, wR, wN]
    simp [show a ≠ 12 by omega, show a ≠ 13 by omega, show a ≠ 14 by omega, show a ≠ 15 by omega]
  · rcases (by omega : a = 12 ∨ a = 13 ∨ a = 14 ∨ a = 15) with rfl | rfl | rfl | rfl <;> simp [wI, wR, wN, hz]
  · rcases (by omega : a = 12 ∨ a = 15) with rfl | rfl
    · match k, h5 with
      | 0, h5 => exact h5
      | 1, h5 => exact h5
      | 2, h5 => exact h5
      | 3, h5 => exact (by have h2 : (none : Option Nat) = some x := h5; cases h2)
      | 4, h5 => exact (by have h2 : (none : Option Nat) = some x := h5; cases h2)
      | j + 5, h5 => exact (by have h2 : (none : Option Nat) = some x := h5; cases h2)
    · have h2 : (none : Option Nat) = some x := h5
      cases h2
theorem qFr.wz {M M0 : qM} {a k : Nat} {x : Int32} (h : qFr (fun _ _ => False) M0 M) (e : M0.1 a k = x) : qFr (fun _ _ => False) M0 (fun b j => if b = a ∧ j = k then x else M.1 b j, M.2) := h.wI0 ((h.1 _ _ (fun z => z)).trans e)
theorem c_X10_clear0 (g : qG) {M : qM} (h5 : M.1 256 5 = 0) (h4 : M.1 256 4 = 0) : qN g 0 kX10_clear [.ref 256] 280 M 0 0 280 (fun M' => qFr (fun _ _ => False) M M') := by
  refine qN.of (j := 0) (pn_RX10) rfl ?_
  show qT g kX10_clear (qR 0 0 0) (qZ g (fun v n' M' => n' = 280 ∧ v = none ∧ qFr (fun _ _ => False) M M') 0 0) 0 [some (.ref 256)] [] 280 M (0, 0)
  refine qi_aload_n (i := 0) (x := 256) dX10_clear_0 rfl rfl ?_
  refine qi_iconst (v := 0) dX10_clear_1 rfl ?_
  refine qi_putI flX10_28 q_cls10 (ty10_5 _) dX10_clear_2 rfl (by decide) ?_
  refine qi_aload_n (i := 0) (x := 256) dX10_clear_5 rfl rfl ?_
  refine qi_iconst (v := 0) dX10_clear_6 rfl ?_
  refine qi_putI flX10_24 q_cls10 (ty10_4 _) dX10_clear_7 rfl (by decide) ?_
  exact qi_retN rfl dX10_clear_10 (by decide) (((qFr.rf.wz h5).wz h4))
set_option maxHeartbeats 1000000 in
theorem c_X3_clear0 (g : qG) {M : qM} (hz : ∀ a k, a < 280 → M.1 a k = zI a k) (hR : ∀ a k x, a < 280 → q_ref a k = some x → M.2.2 a k = some x) : qN g 1 kX3_clear [.ref 242] 280 M 0 0 280 (fun M' => qFr (fun _ _ => False) M M') := by
  refine qN.of (j := 0) (pn_RX3) rfl ?_
  show qT g kX3_clear (qR 1 0 0) (qZ g (fun v n' M' => n' = 280 ∧ v = none ∧ qFr (fun _ _ => False) M M') 0 0) 0 [some (.ref 242)] [] 280 M (0, 0)
  refine qi_aload_n (i := 0) (x := 242) dX3_clear_0 rfl rfl ?_
  refine qi_iconst (v := 0) dX3_clear_1 rfl ?_
  refine qi_putI flX3_53 q_cls3 (ty3_11 _) dX3_clear_2 rfl (by decide) ?_
  refine qi_aload_n (i := 0) (x := 242) dX3_clear_5 rfl rfl ?_
  refine qi_iconst (v := 0) dX3_clear_6 rfl ?_
  refine qi_putI flX3_57 q_cls3 (ty3_12 _) dX3_clear_7 rfl (by decide) ?_
  refine qi_aload_n (i := 0) (x := 242) dX3_clear_10 rfl rfl ?_
  refine qi_iconst (v := 0) dX3_clear_11 rfl ?_
  refine qi_putI flX3_60 q_cls3 (ty3_13 _) dX3_clear_12 rfl (by decide) ?_
  refine qi_aload_n (i := 0) (x := 242) dX3_clear_15 rfl rfl ?_
  refine qi_iconst (v := -1) dX3_clear_16 rfl ?_
  refine qi_putI flX3_63 q_cls3 (ty3_14 _) dX3_clear_17 rfl (by decide) ?_
  refine qi_aload_n (i := 0) (x := 242) dX3_clear_20 rfl rfl ?_
  refine qi_sipush (v := 999) dX3_clear_21 rfl ?_
  refine qi_putI flX3_66 q_cls3 (ty3_15 _) dX3_clear_24 rfl (by decide) ?_
  refine qi_aload_n (i := 0) (x := 242) dX3_clear_27 rfl rfl ?_
  refine qi_iconst (v := 0) dX3_clear_28 rfl ?_
  refine qi_putI flX3_69 q_cls3 (ty3_16 _) dX3_clear_29 rfl (by decide) ?_
  refine qi_aload_n (i := 0) (x := 242) dX3_clear_32 rfl rfl ?_
  refine qi_getR (x := 252) flX3_42 dX3_clear_33 rfl (by decide) (hR 242 9 252 (by decide) rfl) ?_
  refine qi_iconst (v := 0) dX3_clear_36 rfl ?_
  refine qi_putI flX3_72 q_cls1 (ty1_6 _) dX3_clear_37 rfl (by decide) ?_
  refine qi_aload_n (i := 0) (x := 242) dX3_clear_40 rfl rfl ?_
  refine qi_getR (x := 256) flX3_49 dX3_clear_41 rfl (by decide) (hR 242 10 256 (by decide) rfl) ?_
  have q := (((((((qFr.rf (S := fun _ _ => False) (M := M)).wz (hz 242 11 (by decide))).wz (hz 242 12 (by decide))).wz (hz 242 13 (by decide))).wz (hz 242 14 (by decide))).wz (hz 242 15 (by decide))).wz (hz 242 16 (by decide))).wz (hz 252 6 (by decide))
  refine qi_callVN (K' := kX10_clear) (As := []) mlX3_75 okX10_clear dX3_clear_44 (c_X10_clear0 g ((q.1 _ _ (fun z ↦ z)).trans (hz 256 5 (by decide))) ((q.1 _ _ (fun z ↦ z)).trans (hz 256 4 (by decide)))) rfl (by decide) rfl (by decide) rfl rfl (Nat.le_of_ble_eq_true rfl) ⟨(Nat.le_of_ble_eq_true rfl), (Nat.le_of_ble_eq_true rfl)⟩ ⟨(Nat.le_of_ble_eq_true rfl), (Nat.le_of_ble_eq_true rfl)⟩ (fun M1 h1 => ?_)
  exact qi_retN rfl dX3_clear_47 (by decide) ((q.tr h1))
set_option maxHeartbeats 1000000 in
theorem c_X6_begin0 (g : qG) {M : qM} (hz : ∀ a k, a < 280 → M.1 a k = zI a k) (hR : ∀ a k x, a < 280 → q_ref a k = some x → M.2.2 a k = some x) : qN g 0 kX6_begin [.ref 224, .ref 242] 280 M 0 0 280 (fun M' => qFr (fun _ _ => False) M M') := by
  have L2 : ∀ m j M1, j + m = 8 → qFr (fun _ _ => False) M M1 → qT g kX6_begin (qR 0 0 0) (qZ g (fun v n' M' => n' = 280 ∧ v = none ∧ qFr (fun _ _ => False) M M') 0 0) 23 [some (.ref 224), some (.ref 242), some (.int (nI j))] [] 280 M1 (0, 0) := by
    intro m
    induction m with
    | zero =>
      intro j M1 e h
      obtain rfl : j = 8 := by omega
      refine qi_iload_n (i := 2) (x := nI 8) dX6_begin_23 rfl rfl ?_
      refine qi_bipush (v := 8) dX6_begin_24 rfl ?_
      refine qi_icmp_ge (tgt := 73) dX6_begin_26 (by decide) (fun z => ?_) (fun z => False.elim ((z (by decide))))
      refine qi_aload_n (i := 0) (x := 224) dX6_begin_73 rfl rfl ?_
      refine qi_iconst (v := 0) dX6_begin_74 rfl ?_
      refine qi_putI flX6_27 q_cls6 (ty6_5 _) dX6_begin_75 rfl (by decide) ?_
      refine qi_aload_n (i := 0) (x := 224) dX6_begin_78 rfl rfl ?_
      refine qi_iconst (v := 0) dX6_begin_79 rfl ?_
      refine qi_putI flX6_31 q_cls6 (ty6_6 _) dX6_begin_80 rfl (by decide) ?_
      refine qi_aload_n (i := 0) (x := 224) dX6_begin_83 rfl rfl ?_
      refine qi_iconst (v := 0) dX6_begin_84 rfl ?_
      refine qi_putI flX6_34 q_cls6 (ty6_7 _) dX6_begin_85 rfl (by decide) ?_
      exact qi_retN rfl dX6_begin_88 (by decide) ((((h.wz (hz 224 5 (by decide))).wz (hz 224 6 (by decide))).wz (hz 224 7 (by decide))))
    | succ m ih =>
      intro j M1 e h
      have r : ∀ a k x, a < 280 → q_ref a k = some x → M1.2.2 a k = some x := fun a k x ha hx => by rw [h.2.2]; exact hR a k x ha hx
      refine qi_iload_n (i := 2) (x := nI j) dX6_begin_23 rfl rfl ?_
      refine qi_bipush (v := 8) dX6_begin_24 rfl ?_
      refine qi_icmp_ge (tgt := 73) dX6_begin_26 (by decide) (fun _h => absurd ((nI_leI (a := 8) (b := j) (by omega) (by omega)).mp _h) (by omega)) (fun _hc => ?_)
      refine qi_aload_n (i := 0) (x := 224) dX6_begin_29 rfl rfl ?_
      refine qi_getR (x := 227) flX6_18 dX6_begin_30 rfl (by decide) (r 224 2 227 (by decide) rfl) ?_
      refine qi_iload_n (i := 2) (x := nI j) dX6_begin_33 rfl rfl ?_
      refine qi_iconst (v := 0) dX6_begin_34 rfl ?_
      refine qi_iastN (j := j) dX6_begin_35 rfl (by decide) rfl (by omega) (by decide) ?_
      refine qi_aload_n (i := 0) (x := 224) dX6_begin_36 rfl rfl ?_
      refine qi_getR (x := 228) flX6_21 dX6_begin_37 rfl (by decide) (r 224 3 228 (by decide) rfl) ?_
      refine qi_iload_n (i := 2) (x := nI j) dX6_begin_40 rfl rfl ?_
      refine qi_iload_n (i := 2) (x := nI j) dX6_begin_41 rfl rfl ?_
      refine qi_aload_n (i := 1) (x := 242) dX6_begin_42 rfl rfl ?_
      refine qi_getI (x := nI 0) flX6_37 dX6_begin_43 rfl (by decide) ((wI_a (by decide)).trans ((h.1 _ _ (fun z ↦ z)).trans (hz 242 12 (by decide)))) ?_
      refine qi_icmp_ge (tgt := 58) dX6_begin_46 (by decide) (fun _hc => ?_) (fun _h => absurd ((nI_leI (a := 0) (b := j) (by omega) (by omega)).mpr (by omega)) _h)
      refine qi_iconst (v := 0) dX6_begin_58 rfl ?_
      refine qi_iastN (j := j) dX6_begin_59 rfl (by decide) rfl (by omega) (by decide) ?_
      refine qi_aload_n (i := 0) (x := 224) dX6_begin_60 rfl rfl ?_
      refine qi_getR (x := 229) flX6_24 dX6_begin_61 rfl (by decide) (r 224 4 229 (by decide) rfl) ?_
      refine qi_iload_n (i := 2) (x := nI j) dX6_begin_64 rfl rfl ?_
      refine qi_iconst (v := 0) dX6_begin_65 rfl ?_
      refine qi_iastN (j := j) dX6_begin_66 rfl (by decide) rfl (by omega) (by decide) ?_
      refine qi_iinc (i := 2) (x := nI j) (v := nI (j + 1)) (L2 := [some (.ref 224), some (.ref 242), some (.int (nI (j + 1)))]) dX6_begin_67 rfl (nI_1 j) (Nat.le_of_ble_eq_true rfl) rfl ?_
      refine qi_goto (tgt := 23) dX6_begin_70 (by decide) ?_
      exact ih (j + 1) _ (by omega) (((h.wz (hz 227 j (by decide))).wz (hz 228 j (by decide))).wz (hz 229 j (by decide)))
  have L1 : ∀ m j M1, j + m = 40 → qFr (fun _ _ => False) M M1 → qT g kX6_begin (qR 0 0 0) (qZ g (fun v n' M' => n' = 280 ∧ v = none ∧ qFr (fun _ _ => False) M M') 0 0) 2 [some (.ref 224), some (.ref 242), some (.int (nI j))] [] 280 M1 (0, 0) := by
    intro m
    induction m with
    | zero =>
      intro j M1 e h
      obtain rfl : j = 40 := by omega
      refine qi_iload_n (i := 2) (x := nI 40) dX6_begin_2 rfl rfl ?_
      refine qi_bipush (v := 40) dX6_begin_3 rfl ?_
      refine qi_icmp_ge (tgt := 21) dX6_begin_5 (by decide) (fun z => ?_) (fun z => False.elim ((z (by decide))))
      refine qi_iconst (v := 0) dX6_begin_21 rfl ?_
      refine qi_istore_n (i := 2) (L2 := [some (.ref 224), some (.ref 242), some (.int 0)]) dX6_begin_22 rfl (Nat.le_of_ble_eq_true rfl) rfl ?_
      exact L2 8 0 M1 rfl h
    | succ m ih =>
      intro j M1 e h
      have r : ∀ a k x, a < 280 → q_ref a k = some x → M1.2.2 a k = some x := fun a k x ha hx => by rw [h.2.2]; exact hR a k x ha hx
      refine qi_iload_n (i := 2) (x := nI j) dX6_begin_2 rfl rfl ?_
      refine qi_bipush (v := 40) dX6_begin_3 rfl ?_
      refine qi_icmp_ge (tgt := 21) dX6_begin_5 (by decide) (fun _h => absurd ((nI_leI (a := 40) (b := j) (by omega) (by omega)).mp _h) (by omega)) (fun _hc => ?_)
      refine qi_aload_n (i := 0) (x := 224) dX6_begin_8 rfl rfl ?_
      refine qi_getR (x := 225) flX6_9 dX6_begin_9 rfl (by decide) (r 224 0 225 (by decide) rfl) ?_
      refine qi_iload_n (i := 2) (x := nI j) dX6_begin_12 rfl rfl ?_
      refine qi_iconst (v := 0) dX6_begin_13 rfl ?_
      refine qi_iastN (j := j) dX6_begin_14 rfl (by decide) rfl (by omega) (by decide) ?_
      refine qi_iinc (i := 2) (x := nI j) (v := nI (j + 1)) (L2 := [some (.ref 224), some (.ref 242), some (.int (nI (j + 1)))]) dX6_begin_15 rfl (nI_1 j) (Nat.le_of_ble_eq_true rfl) rfl ?_
      refine qi_goto (tgt := 2) dX6_begin_18 (by decide) ?_
      exact ih (j + 1) _ (by omega) (h.wz (hz 225 j (by decide)))
  refine qN.of (j := 1) (pn_RX6) rfl ?_
  show qT g kX6_begin (qR 0 0 0) (qZ g (fun v n' M' => n' = 280 ∧ v = none ∧ qFr (fun _ _ => False) M M') 0 0) 0 [some (.ref 224), some (.ref 242), none] [] 280 M (0, 0)
  refine qi_iconst (v := 0) dX6_begin_0 rfl ?_
  refine qi_istore_n (i := 2) (L2 := [some (.ref 224), some (.ref 242), some (.int 0)]) dX6_begin_1 rfl (Nat.le_of_ble_eq_true rfl) rfl ?_
  exact L1 40 0 M rfl qFr.rf
set_option maxHeartbeats 4000000 in
theorem c_X11_init (g : qG) {M : qM} (hz : ∀ k, M.1 0 k = 0 ∧ M.2.1 0 k = 0) : qN g 6 kX11_init [.ref 0] (1) M 279 10398 280 (fun M' => (qUp zJ5 0 280 M M' ∧ M'.2.2 0 9 = some 242 ∧ M'.2.2 0 10 = some 261)) := by
  refine qN.of (j := 0) (pn_RX11) rfl ?_
  show qT g kX11_init (qR 6 279 10398) (qZ g (fun v n' M' => n' = 280 ∧ v = none ∧ (qUp zJ5 0 280 M M' ∧ M'.2.2 0 9 = some 242 ∧ M'.2.2 0 10 = some 261)) 279 10398) 0 [some (.ref 0)] [] 1 M (0, 0)
  have u0 : qUI zJ5 0 (1) M M (fun _ => 0) (fun _ => none) := qUI.st hz
  refine qi_aload_n (i := 0) (x := 0) dX11_init_0 rfl rfl ?_
  refine qi_objInit oiX11_3 oi_i oi_c dX11_init_1 (Nat.le_of_ble_eq_true rfl) ⟨by decide, by decide⟩ ?_
  refine qi_aload_n (i := 0) (x := 0) dX11_init_4 rfl rfl ?_
  refine qi_new (c := 7) (N := 2) (ty := tyX7) dX11_init_5 rfl (by omega) rfl rfl (by decide) q_in7 tyX7_ok (by decide +kernel) clX11_9 inX7 itX7 (by decide) (by decide) ?_
  refine qi_dup dX11_init_8 ?_
  refine qi_callIN (b := 1) (n2 := 3) (K' := kX7_init) (As := []) mlX11_11 okX7_init dX11_init_9 (c_X7_init g (wN_z)) rfl rfl (Nat.le_of_ble_eq_true rfl) ⟨(Nat.le_of_ble_eq_true rfl), (Nat.le_of_ble_eq_true rfl)⟩ ⟨(Nat.le_of_ble_eq_true rfl), (Nat.le_of_ble_eq_true rfl)⟩ (fun N0 hN0 => ?_)
  show qT g kX11_init (qR 6 279 10398) (qZ g (fun v n' M' => n' = 280 ∧ v = none ∧ (qUp zJ5 0 280 M M' ∧ M'.2.2 0 9 = some 242 ∧ M'.2.2 0 10 = some 261)) 279 10398) 12 [some (.ref 0)] [.ref 1, .ref 0] 3 N0 (2, 2002)
  refine qi_putR (x := 1) flX11_12 q_cls11 ty11_0 (fun _ => ⟨rfl, rfl⟩) dX11_init_12 rfl (by decide) ?_
  have u1 := u0.cal (hN0.J (fun a k h1 h2 ↦ (if_neg (by omega)).symm)) (by omega) 0
  generalize wR N0 0 0 (some 1) = M1 at u1 ⊢
  refine qi_aload_n (i := 0) (x := 0) dX11_init_15 rfl rfl ?_
  refine qi_new (c := 4) (N := 12) (ty := tyX4) dX11_init_16 rfl (by omega) rfl rfl (by decide) q_in4 tyX4_ok (by decide +kernel) clX11_16 inX4 itX4 (by decide) (by decide) ?_
  refine qi_dup dX11_init_19 ?_
  refine qi_callIN (b := 3) (n2 := 12) (K' := kX4_init) (As := []) mlX11_18 okX4_init dX11_init_20 (c_X4_init g (wN_z)) rfl rfl (Nat.le_of_ble_eq_true rfl) ⟨(Nat.le_of_ble_eq_true rfl), (Nat.le_of_ble_eq_true rfl)⟩ ⟨(Nat.le_of_ble_eq_true rfl), (Nat.le_of_ble_eq_true rfl)⟩ (fun N1 hN1 => ?_)
  show qT g kX11_init (qR 6 279 10398) (qZ g (fun v n' M' => n' = 280 ∧ v = none ∧ (qUp zJ5 0 280 M M' ∧ M'.2.2 0 9 = some 242 ∧ M'.2.2 0 10 = some 261)) 279 10398) 23 [some (.ref 0)] [.ref 3, .ref 0] 12 N1 (11, 3297)
  refine qi_putR (x := 3) flX11_19 q_cls11 ty11_1 (fun _ => ⟨rfl, rfl⟩) dX11_init_23 rfl (by decide) ?_
  have u2 := u1.cal hN1 (by omega) 1
  generalize wR N1 0 1 (some 3) = M2 at u2 ⊢
  refine qi_aload_n (i := 0) (x := 0) dX11_init_26 rfl rfl ?_
  refine qi_new (c := 2) (N := 5) (ty := tyX2) dX11_init_27 rfl (by omega) rfl rfl (by decide) q_in2 tyX2_ok (by decide +kernel) clX11_23 inX2 itX2 (by decide) (by decide) ?_
  refine qi_dup dX11_init_30 ?_
  refine qi_callI (b := 12) (n2 := 214) (K' := kX2_init) (As := []) mlX11_25 okX2_init dX11_init_31 (c_X2_init g (wN_z)) rfl rfl (Nat.le_of_ble_eq_true rfl) ⟨(Nat.le_of_ble_eq_true rfl), (Nat.le_of_ble_eq_true rfl)⟩ ⟨(Nat.le_of_ble_eq_true rfl), (Nat.le_of_ble_eq_true rfl)⟩ (fun N2 hN2 => ?_)
  show qT g kX11_init (qR 6 279 10398) (qZ g (fun v n' M' => n' = 280 ∧ v = none ∧ (qUp zJ5 0 280 M M' ∧ M'.2.2 0 9 = some 242 ∧ M'.2.2 0 10 = some 261)) 279 10398) 34 [some (.ref 0)] [.ref 12, .ref 0] 214 N2 (213, 7034)
  refine qi_putR (x := 12) flX11_26 q_cls11 ty11_2 (fun _ => ⟨rfl, rfl⟩) dX11_init_34 rfl (by decide) ?_
  have u3 := u2.cal (hN2.J (fun a k h1 h2 ↦ (if_neg (by omega)).symm)) (by omega) 2
  generalize wR N2 0 2 (some 12) = M3 at u3 ⊢
  refine qi_aload_n (i := 0) (x := 0) dX11_init_37 rfl rfl ?_
  refine qi_new (c := 9) (N := 5) (ty := tyX9) dX11_init_38 rfl (by omega) rfl rfl (by decide) q_in9 tyX9_ok (by decide +kernel) clX11_30 inX9 itX9 (by decide) (by decide) ?_
  refine qi_dup dX11_init_41 ?_
  refine qi_callIN (b := 214) (n2 := 218) (K' := kX9_init) (As := []) mlX11_32 okX9_init dX11_init_42 (c_X9_init g (wN_z)) rfl rfl (Nat.le_of_ble_eq_true rfl) ⟨(Nat.le_of_ble_eq_true rfl), (Nat.le_of_ble_eq_true rfl)⟩ ⟨(Nat.le_of_ble_eq_true rfl), (Nat.le_of_ble_eq_true rfl)⟩ (fun N3 hN3 => ?_)
  show qT g kX11_init (qR 6 279 10398) (qZ g (fun v n' M' => n' = 280 ∧ v = none ∧ (qUp zJ5 0 280 M M' ∧ M'.2.2 0 9 = some 242 ∧ M'.2.2 0 10 = some 261)) 279 10398) 45 [some (.ref 0)] [.ref 214, .ref 0] 218 N3 (217, 7879)
  refine qi_putR (x := 214) flX11_33 q_cls11 ty11_3 (fun _ => ⟨rfl, rfl⟩) dX11_init_45 rfl (by decide) ?_
  have u4 := u3.cal (hN3.J (fun a k h1 h2 ↦ (if_neg (by omega)).symm)) (by omega) 3
  generalize wR N3 0 3 (some 214) = M4 at u4 ⊢
  refine qi_aload_n (i := 0) (x := 0) dX11_init_48 rfl rfl ?_
  refine qi_new (c := 5) (N := 7) (ty := tyX5) dX11_init_49 rfl (by omega) rfl rfl (by decide) q_in5 tyX5_ok (by decide +kernel) clX11_37 inX5 itX5 (by decide) (by decide) ?_
  refine qi_dup dX11_init_52 ?_
  refine qi_callIN (b := 218) (n2 := 221) (K' := kX5_init) (As := []) mlX11_39 okX5_init dX11_init_53 (c_X5_init g (wN_z)) rfl rfl (Nat.le_of_ble_eq_true rfl) ⟨(Nat.le_of_ble_eq_true rfl), (Nat.le_of_ble_eq_true rfl)⟩ ⟨(Nat.le_of_ble_eq_true rfl), (Nat.le_of_ble_eq_true rfl)⟩ (fun N4 hN4 => ?_)
  show qT g kX11_init (qR 6 279 10398) (qZ g (fun v n' M' => n' = 280 ∧ v = none ∧ (qUp zJ5 0 280 M M' ∧ M'.2.2 0 9 = some 242 ∧ M'.2.2 0 10 = some 261)) 279 10398) 56 [some (.ref 0)] [.ref 218, .ref 0] 221 N4 (220, 7896)
  refine qi_putR (x := 218) flX11_40 q_cls11 ty11_4 (fun _ => ⟨rfl, rfl⟩) dX11_init_56 rfl (by decide) ?_
  have u5 := u4.cal (hN4.J (fun a k h1 h2 ↦ (if_neg (by omega)).symm)) (by omega) 4
  generalize wR N4 0 4 (some 218) = M5 at u5 ⊢
  refine qi_aload_n (i := 0) (x := 0) dX11_init_59 rfl rfl ?_
  refine qi_new (c := 0) (N := 4) (ty := tyX0) dX11_init_60 rfl (by omega) rfl rfl (by decide) q_in0 tyX0_ok (by decide +kernel) clX11_44 inX0 itX0 (by decide) (by decide) ?_
  refine qi_dup dX11_init_63 ?_
  refine qi_callIN (b := 221) (n2 := 224) (K' := kX0_init) (As := []) mlX11_46 okX0_init dX11_init_64 (c_X0_init g (wN_z)) rfl rfl (Nat.le_of_ble_eq_true rfl) ⟨(Nat.le_of_ble_eq_true rfl), (Nat.le_of_ble_eq_true rfl)⟩ ⟨(Nat.le_of_ble_eq_true rfl), (Nat.le_of_ble_eq_true rfl)⟩ (fun N5 hN5 => ?_)
  show qT g kX11_init (qR 6 279 10398) (qZ g (fun v n' M' => n' = 280 ∧ v = none ∧ (qUp zJ5 0 280 M M' ∧ M'.2.2 0 9 = some 242 ∧ M'.2.2 0 10 = some 261)) 279 10398) 67 [some (.ref 0)] [.ref 221, .ref 0] 224 N5 (223, 7916)
  refine qi_putR (x := 221) flX11_47 q_cls11 ty11_5 (fun _ => ⟨rfl, rfl⟩) dX11_init_67 rfl (by decide) ?_
  have u6 := u5.cal (hN5.J (fun a k h1 h2 ↦ (if_neg (by omega)).symm)) (by omega) 5
  generalize wR N5 0 5 (some 221) = M6 at u6 ⊢
  refine qi_aload_n (i := 0) (x := 0) dX11_init_70 rfl rfl ?_
  refine qi_new (c := 6) (N := 8) (ty := tyX6) dX11_init_71 rfl (by omega) rfl rfl (by decide) q_in6 tyX6_ok (by decide +kernel) clX11_51 inX6 itX6 (by decide) (by decide) ?_
  refine qi_dup dX11_init_74 ?_
  refine qi_callIN (b := 224) (n2 := 230) (K' := kX6_init) (As := []) mlX11_53 okX6_init dX11_init_75 (c_X6_init g qIsS_sea (by decide) (by decide) (wN_z)) rfl rfl (Nat.le_of_ble_eq_true rfl) ⟨(Nat.le_of_ble_eq_true rfl), (Nat.le_of_ble_eq_true rfl)⟩ ⟨(Nat.le_of_ble_eq_true rfl), (Nat.le_of_ble_eq_true rfl)⟩ (fun N6 hN6 => ?_)
  show qT g kX11_init (qR 6 279 10398) (qZ g (fun v n' M' => n' = 280 ∧ v = none ∧ (qUp zJ5 0 280 M M' ∧ M'.2.2 0 9 = some 242 ∧ M'.2.2 0 10 = some 261)) 279 10398) 78 [some (.ref 0)] [.ref 224, .ref 0] 230 N6 (229, 8028)
  refine qi_putR (x := 224) flX11_54 q_cls11 ty11_6 (fun _ => ⟨rfl, rfl⟩) dX11_init_78 rfl (by decide) ?_
  have u7 := u6.cal (hN6.J (fun a k h1 h2 ↦ (if_neg (by omega)).symm)) (by omega) 6
  generalize wR N6 0 6 (some 224) = M7 at u7 ⊢
  refine qi_aload_n (i := 0) (x := 0) dX11_init_81 rfl rfl ?_
  refine qi_new (c := 6) (N := 8) (ty := tyX6) dX11_init_82 rfl (by omega) rfl rfl (by decide) q_in6 tyX6_ok (by decide +kernel) clX11_51 inX6 itX6 (by decide) (by decide) ?_
  refine qi_dup dX11_init_85 ?_
  refine qi_callIN (b := 230) (n2 := 236) (K' := kX6_init) (As := []) mlX11_53 okX6_init dX11_init_86 (c_X6_init g qIsS_trial (by decide) (by decide) (wN_z)) rfl rfl (Nat.le_of_ble_eq_true rfl) ⟨(Nat.le_of_ble_eq_true rfl), (Nat.le_of_ble_eq_true rfl)⟩ ⟨(Nat.le_of_ble_eq_true rfl), (Nat.le_of_ble_eq_true rfl)⟩ (fun N7 hN7 => ?_)
  show qT g kX11_init (qR 6 279 10398) (qZ g (fun v n' M' => n' = 280 ∧ v = none ∧ (qUp zJ5 0 280 M M' ∧ M'.2.2 0 9 = some 242 ∧ M'.2.2 0 10 = some 261)) 279 10398) 89 [some (.ref 0)] [.ref 230, .ref 0] 236 N7 (235, 8140)
  refine qi_putR (x := 230) flX11_58 q_cls11 ty11_7 (fun _ => ⟨rfl, rfl⟩) dX11_init_89 rfl (by decide) ?_
  have u8 := u7.cal (hN7.J (fun a k h1 h2 ↦ (if_neg (by omega)).symm)) (by omega) 7
  generalize wR N7 0 7 (some 230) = M8 at u8 ⊢
  refine qi_aload_n (i := 0) (x := 0) dX11_init_92 rfl rfl ?_
  refine qi_new (c := 6) (N := 8) (ty := tyX6) dX11_init_93 rfl (by omega) rfl rfl (by decide) q_in6 tyX6_ok (by decide +kernel) clX11_51 inX6 itX6 (by decide) (by decide) ?_
  refine qi_dup dX11_init_96 ?_
  refine qi_callIN (b := 236) (n2 := 242) (K' := kX6_init) (As := []) mlX11_53 okX6_init dX11_init_97 (c_X6_init g qIsS_other (by decide) (by decide) (wN_z)) rfl rfl (Nat.le_of_ble_eq_true rfl) ⟨(Nat.le_of_ble_eq_true rfl), (Nat.le_of_ble_eq_true rfl)⟩ ⟨(Nat.le_of_ble_eq_true rfl), (Nat.le_of_ble_eq_true rfl)⟩ (fun N8 hN8 => ?_)
  show qT g kX11_init (qR 6 279 10398) (qZ g (fun v n' M' => n' = 280 ∧ v = none ∧ (qUp zJ5 0 280 M M' ∧ M'.2.2 0 9 = some 242 ∧ M'.2.2 0 10 = some 261)) 279 10398) 100 [some (.ref 0)] [.ref 236, .ref 0] 242 N8 (241, 8252)
  refine qi_putR (x := 236) flX11_61 q_cls11 ty11_8 (fun _ => ⟨rfl, rfl⟩) dX11_init_100 rfl (by decide) ?_
  have u9 := u8.cal (hN8.J (fun a k h1 h2 ↦ (if_neg (by omega)).symm)) (by omega) 8
  generalize wR N8 0 8 (some 236) = M9 at u9 ⊢
  refine qi_aload_n (i := 0) (x := 0) dX11_init_103 rfl rfl ?_
  refine qi_new (c := 3) (N := 17) (ty := tyX3) dX11_init_104 rfl (by omega) rfl rfl (by decide) q_in3 tyX3_ok (by decide +kernel) clX11_64 inX3 itX3 (by decide) (by decide) ?_
  refine qi_dup dX11_init_107 ?_
  refine qi_callIN (b := 242) (n2 := 261) (K' := kX3_init) (As := []) mlX11_66 okX3_init dX11_init_108 (c_X3_init g qIsP_1 (wN_z)) rfl rfl (Nat.le_of_ble_eq_true rfl) ⟨(Nat.le_of_ble_eq_true rfl), (Nat.le_of_ble_eq_true rfl)⟩ ⟨(Nat.le_of_ble_eq_true rfl), (Nat.le_of_ble_eq_true rfl)⟩ (fun N9 hN9 => ?_)
  show qT g kX11_init (qR 6 279 10398) (qZ g (fun v n' M' => n' = 280 ∧ v = none ∧ (qUp zJ5 0 280 M M' ∧ M'.2.2 0 9 = some 242 ∧ M'.2.2 0 10 = some 261)) 279 10398) 111 [some (.ref 0)] [.ref 242, .ref 0] 261 N9 (260, 9325)
  refine qi_putR (x := 242) flX11_67 q_cls11 ty11_9 (fun h => by cases h) dX11_init_111 rfl (by decide) ?_
  have u10 := u9.cal (hN9.J (fun a k h1 h2 ↦ (if_neg (by omega)).symm)) (by omega) 9
  generalize wR N9 0 9 (some 242) = M10 at u10 ⊢
  refine qi_aload_n (i := 0) (x := 0) dX11_init_114 rfl rfl ?_
  refine qi_new (c := 3) (N := 17) (ty := tyX3) dX11_init_115 rfl (by omega) rfl rfl (by decide) q_in3 tyX3_ok (by decide +kernel) clX11_64 inX3 itX3 (by decide) (by decide) ?_
  refine qi_dup dX11_init_118 ?_
  refine qi_callIN (b := 261) (n2 := 280) (K' := kX3_init) (As := []) mlX11_66 okX3_init dX11_init_119 (c_X3_init g qIsP_2 (wN_z)) rfl rfl (Nat.le_of_ble_eq_true rfl) ⟨(Nat.le_of_ble_eq_true rfl), (Nat.le_of_ble_eq_true rfl)⟩ ⟨(Nat.le_of_ble_eq_true rfl), (Nat.le_of_ble_eq_true rfl)⟩ (fun N10 hN10 => ?_)
  show qT g kX11_init (qR 6 279 10398) (qZ g (fun v n' M' => n' = 280 ∧ v = none ∧ (qUp zJ5 0 280 M M' ∧ M'.2.2 0 9 = some 242 ∧ M'.2.2 0 10 = some 261)) 279 10398) 122 [some (.ref 0)] [.ref 261, .ref 0] 280 N10 (279, 10398)
  refine qi_putR (x := 261) flX11_71 q_cls11 ty11_10 (fun h => by cases h) dX11_init_122 rfl (by decide) ?_
  have u11 := u10.cal (hN10.J (fun a k h1 h2 ↦ (if_neg (by omega)).symm)) (by omega) 10
  generalize wR N10 0 10 (some 261) = M11 at u11 ⊢
  refine qi_aload_n (i := 0) (x := 0) dX11_init_125 rfl rfl ?_
  refine qi_iconst (v := -1) dX11_init_126 rfl ?_
  refine qi_putI flX11_74 q_cls11 (ty11_11 _) dX11_init_127 rfl (by decide) ?_
  have u12 := u11.int 11 (-1)
  generalize wI M11 0 11 (-1) = M12 at u12 ⊢
  have hfin : qUp zJ5 0 280 M M12 := by
    refine qUI.fin u12 (fun k => ?_) (fun k x h => ?_) (fun _ => rfl)
    · unfold zI
      rw [show qsh 0 = (11, 0) from rfl]
      show _ = zc 11 k
      simp only [updF, zc]
      try grind
    · unfold q_ref at h
      rw [show qsh 0 = (11, 0) from rfl] at h
      match k, h with
      | 0, h => exact h
      | 1, h => exact h
      | 2, h => exact h
      | 3, h => exact h
      | 4, h => exact h
      | 5, h => exact h
      | 6, h => exact h
      | 7, h => exact h
      | 8, h => exact h
      | 9, h => exact (by have h2 : (none : Option Nat) = some x := h; cases h2)
      | 10, h => exact (by have h2 : (none : Option Nat) = some x := h; cases h2)
      | 11, h => exact h
      | j + 12, h => exact (by have h2 : (none : Option Nat) = some x := h; cases h2)
  have hr9 : M12.2.2 0 9 = some 242 := (u12.2.2.2 9).2.2 242 rfl
  have hr10 : M12.2.2 0 10 = some 261 := (u12.2.2.2 10).2.2 261 rfl
  have hr6 : M12.2.2 0 6 = some 224 := (u12.2.2.2 6).2.2 224 rfl
  have z1 : ∀ a k, a < 280 → M12.1 a k = zI a k := fun a k ha => (hfin.2 a k (Nat.zero_le _) ha).1
  have z2 : ∀ a k x, a < 280 → q_ref a k = some x → M12.2.2 a k = some x := fun a k x ha hx => (hfin.2 a k (Nat.zero_le _) ha).2.2 x hx
  refine qi_aload_n (i := 0) (x := 0) dX11_init_130 rfl rfl ?_
  refine qi_getR (x := 242) flX11_67 dX11_init_131 rfl (by decide) hr9 ?_
  refine qi_callVN (K' := kX3_clear) (As := []) mlX11_78 okX3_clear dX11_init_134 (c_X3_clear0 g z1 z2) rfl (by decide) rfl (by decide) rfl rfl (Nat.le_of_ble_eq_true rfl) ⟨(Nat.le_of_ble_eq_true rfl), (Nat.le_of_ble_eq_true rfl)⟩ ⟨(Nat.le_of_ble_eq_true rfl), (Nat.le_of_ble_eq_true rfl)⟩ (fun P1 k1 => ?_)
  have z3 : ∀ a k, a < 280 → P1.1 a k = zI a k := fun a k ha => (k1.1 _ _ (fun z => z)).trans (z1 a k ha)
  have z4 : ∀ a k x, a < 280 → q_ref a k = some x → P1.2.2 a k = some x := fun a k x ha hx => by rw [k1.2.2]; exact z2 a k x ha hx
  have hp9 : P1.2.2 0 9 = some 242 := by rw [k1.2.2]; exact hr9
  have hp6 : P1.2.2 0 6 = some 224 := by rw [k1.2.2]; exact hr6
  refine qi_aload_n (i := 0) (x := 0) dX11_init_137 rfl rfl ?_
  refine qi_getR (x := 224) flX11_54 dX11_init_138 rfl (by decide) hp6 ?_
  refine qi_aload_n (i := 0) (x := 0) dX11_init_141 rfl rfl ?_
  refine qi_getR (x := 242) flX11_67 dX11_init_142 rfl (by decide) hp9 ?_
  refine qi_callVN (K' := kX6_begin) (As := [.ref 242]) mlX11_81 okX6_begin dX11_init_145 (c_X6_begin0 g z3 z4) rfl (by decide) rfl (by decide) rfl rfl (Nat.le_of_ble_eq_true rfl) ⟨(Nat.le_of_ble_eq_true rfl), (Nat.le_of_ble_eq_true rfl)⟩ ⟨(Nat.le_of_ble_eq_true rfl), (Nat.le_of_ble_eq_true rfl)⟩ (fun P2 k2 => ?_)
  have kk := k1.tr k2
  refine qi_retN rfl dX11_init_148 (by decide) (?_)
  refine ⟨⟨fun a k ha => absurd ha (Nat.not_lt_zero _), fun a k h1 h2 => ?_⟩, by rw [kk.2.2]; exact hr9, by rw [kk.2.2]; exact hr10⟩
  obtain ⟨q1, q2, q3⟩ := hfin.2 a k h1 h2
  exact ⟨(kk.1 _ _ (fun z => z)).trans q1, (kk.2.1 _ _ (fun z => z)).trans q2, fun x hx => by rw [kk.2.2]; exact q3 x hx⟩
