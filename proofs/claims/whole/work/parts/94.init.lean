/-! the classes can be made -/
theorem inX11 : Cond.instantiable RX11 12 ∈ qgood := (List.mem_filter.mpr ⟨List.mem_append_right _ (List.mem_of_getElem? (i := 23) (by decide +kernel)), rfl⟩)
theorem inX7 : Cond.instantiable RX7 2 ∈ qgood := (List.mem_filter.mpr ⟨List.mem_append_right _ (List.mem_of_getElem? (i := 31) (by decide +kernel)), rfl⟩)
theorem inX4 : Cond.instantiable RX4 12 ∈ qgood := (List.mem_filter.mpr ⟨List.mem_append_right _ (List.mem_of_getElem? (i := 47) (by decide +kernel)), rfl⟩)
theorem inX8 : Cond.instantiable RX8 6 ∈ qgood := (List.mem_filter.mpr ⟨List.mem_append_right _ (List.mem_of_getElem? (i := 53) (by decide +kernel)), rfl⟩)
theorem inX2 : Cond.instantiable RX2 5 ∈ qgood := (List.mem_filter.mpr ⟨List.mem_append_right _ (List.mem_of_getElem? (i := 170) (by decide +kernel)), rfl⟩)
theorem inX6 : Cond.instantiable RX6 8 ∈ qgood := (List.mem_filter.mpr ⟨List.mem_append_right _ (List.mem_of_getElem? (i := 177) (by decide +kernel)), rfl⟩)
theorem inX9 : Cond.instantiable RX9 5 ∈ qgood := (List.mem_filter.mpr ⟨List.mem_append_right _ (List.mem_of_getElem? (i := 234) (by decide +kernel)), rfl⟩)
theorem inX5 : Cond.instantiable RX5 7 ∈ qgood := (List.mem_filter.mpr ⟨List.mem_append_right _ (List.mem_of_getElem? (i := 257) (by decide +kernel)), rfl⟩)
theorem inX0 : Cond.instantiable RX0 4 ∈ qgood := (List.mem_filter.mpr ⟨List.mem_append_right _ (List.mem_of_getElem? (i := 288) (by decide +kernel)), rfl⟩)
theorem inX3 : Cond.instantiable RX3 17 ∈ qgood := (List.mem_filter.mpr ⟨List.mem_append_right _ (List.mem_of_getElem? (i := 312) (by decide +kernel)), rfl⟩)
theorem inX1 : Cond.instantiable RX1 7 ∈ qgood := (List.mem_filter.mpr ⟨List.mem_append_right _ (List.mem_of_getElem? (i := 318) (by decide +kernel)), rfl⟩)
theorem inX10 : Cond.instantiable RX10 6 ∈ qgood := (List.mem_filter.mpr ⟨List.mem_append_right _ (List.mem_of_getElem? (i := 348) (by decide +kernel)), rfl⟩)
theorem inX12 : Cond.instantiable RX12 77 ∈ qgood := (List.mem_filter.mpr ⟨List.mem_append_right _ (List.mem_of_getElem? (i := 1122) (by decide +kernel)), rfl⟩)
/-! the constructors: what every cell holds when it has just been made -/
def zc (c k : Nat) : Int32 := match c with
  | 0 => if k = 2 then -1 else 0
  | 3 => if k = 14 then -1 else if k = 15 then 999 else 0
  | 4 => if k = 10 then -1 else if k = 11 then -1 else 0
  | 5 => if k = 4 then -1 else 0
  | 9 => if k = 3 then -1 else 0
  | 11 => if k = 11 then -1 else 0
  | 12 => if k = 17 then -1 else 0
  | _ => 0
def zI (a k : Nat) : Int32 := zc (qsh a).1 k
def qCmp (J : Nat → Nat → Int64) (M : qM) (a k : Nat) : Prop := M.1 a k = zI a k ∧ M.2.1 a k = J a k ∧ ∀ x, q_ref a k = some x → M.2.2 a k = some x
def qSm (M M' : qM) (a k : Nat) : Prop := M'.1 a k = M.1 a k ∧ M'.2.1 a k = M.2.1 a k ∧ M'.2.2 a k = M.2.2 a k
def qUp (J : Nat → Nat → Int64) (lo hi : Nat) (M M' : qM) : Prop := (∀ a k, a < lo → qSm M M' a k) ∧ ∀ a k, lo ≤ a → a < hi → qCmp J M' a k
def updF {α : Type} (f : Nat → α) (k : Nat) (x : α) : Nat → α := fun j => if j = k then x else f j
def qUI (J : Nat → Nat → Int64) (b n : Nat) (M0 M : qM) (I : Nat → Int32) (R : Nat → Option Nat) : Prop := b < n ∧ (∀ a k, a < b → qSm M0 M a k) ∧ (∀ a k, b < a → a < n → qCmp J M a k) ∧ ∀ k, M.1 b k = I k ∧ M.2.1 b k = 0 ∧ ∀ x, R k = some x → M.2.2 b k = some x
def zN (J : Nat → Nat → Int64) (n : Nat) : Prop := ∀ k, zI n k = 0 ∧ J n k = 0 ∧ q_ref n k = none
def J0 : Nat → Nat → Int64 := fun _ _ => 0
theorem zN_of {n t N : Nat} (hs : qsh n = (40 + t, N)) (h : n ≠ 13 ∧ n ≠ 14) : zN J0 n := by
  intro k
  refine ⟨?_, rfl, ?_⟩
  · unfold zI
    rw [hs]
    show zc (40 + t) k = 0
    rw [Nat.add_comm]
    rfl
  · unfold q_ref
    rw [hs, if_neg (by show ¬ 40 + t < 40; omega), if_neg h.1, if_neg h.2]
section Ini
variable {J : Nat → Nat → Int64} {b n : Nat} {M0 M : qM} {I : Nat → Int32} {R : Nat → Option Nat}
theorem qSm.rf {a k : Nat} : qSm M M a k := ⟨rfl, rfl, rfl⟩
theorem qUI.st (h : ∀ k, M.1 b k = 0 ∧ M.2.1 b k = 0) : qUI J b (b + 1) M M (fun _ => 0) (fun _ => none) := ⟨Nat.lt_succ_self _, fun _ _ _ => qSm.rf, fun a k h1 h2 => absurd h1 (by omega), fun k => ⟨(h k).1, (h k).2, fun x hx => by cases hx⟩⟩
theorem qUI.arr (h : qUI J b n M0 M I R) (hz : zN J n) (f : Nat) : qUI J b (n + 1) M0 (wR (wN M n) b f (some n)) I (updF R f (some n)) := by
  obtain ⟨h1, h2, h3, h4⟩ := h
  refine ⟨by omega, fun a k ha => ?_, fun a k ha hb => ?_, fun k => ?_⟩
  · have h := h2 a k ha
    unfold qSm at *
    simp only [wR, wN]
    rw [if_neg (by omega), if_neg (by omega), if_neg (by omega), if_neg (by omega)]
    exact h
  · by_cases e : a = n
    · subst e
      obtain ⟨z1, z2, z3⟩ := hz k
      unfold qCmp
      simp only [wR, wN]
      rw [if_pos trivial, if_pos trivial, z1, z2, z3]
      exact ⟨rfl, rfl, fun x hx => by cases hx⟩
    · have h := h3 a k ha (by omega)
      unfold qCmp at *
      simp only [wR, wN]
      rw [if_neg e, if_neg e, if_neg (by omega), if_neg e]
      exact h
  · obtain ⟨g1, g2, g3⟩ := h4 k
    simp only [wR, wN, updF]
    rw [if_neg (by omega), if_neg (by omega)]
    refine ⟨g1, g2, fun x hx => ?_⟩
    by_cases e : k = f
    · rw [if_pos e] at hx
      rw [if_pos ⟨trivial, e⟩]
      exact hx
    · rw [if_neg e] at hx
      rw [if_neg (fun z => e z.2), if_neg (by omega)]
      exact g3 x hx
theorem qUI.int (h : qUI J b n M0 M I R) (f : Nat) (x : Int32) : qUI J b n M0 (wI M b f x) (updF I f x) R := by
  obtain ⟨h1, h2, h3, h4⟩ := h
  refine ⟨h1, fun a k ha => ?_, fun a k ha hb => ?_, fun k => ?_⟩
  · have h := h2 a k ha
    unfold qSm at *
    simp only [wI]
    rw [if_neg (by omega)]
    exact h
  · have h := h3 a k ha hb
    unfold qCmp at *
    simp only [wI]
    rw [if_neg (by omega)]
    exact h
  · obtain ⟨g1, g2, g3⟩ := h4 k
    simp only [wI, updF]
    refine ⟨?_, g2, g3⟩
    by_cases e : k = f
    · rw [if_pos e, if_pos ⟨trivial, e⟩]
    · rw [if_neg e, if_neg (fun z => e z.2)]
      exact g1
theorem qUI.lng (h : qUI J b n M0 M I R) (f : Nat) : qUI J b n M0 (wJ M b f 0) I R := by
  obtain ⟨h1, h2, h3, h4⟩ := h
  refine ⟨h1, fun a k ha => ?_, fun a k ha hb => ?_, fun k => ?_⟩
  · have h := h2 a k ha
    unfold qSm at *
    simp only [wJ]
    rw [if_neg (by omega)]
    exact h
  · have h := h3 a k ha hb
    unfold qCmp at *
    simp only [wJ]
    rw [if_neg (by omega)]
    exact h
  · obtain ⟨g1, g2, g3⟩ := h4 k
    simp only [wJ]
    refine ⟨g1, ?_, g3⟩
    by_cases e : k = f
    · rw [if_pos ⟨trivial, e⟩]
    · rw [if_neg (fun z => e z.2)]
      exact g2
theorem qUI.nul (h : qUI J b n M0 M I R) (f : Nat) : qUI J b n M0 (wR M b f none) I (updF R f none) := by
  obtain ⟨h1, h2, h3, h4⟩ := h
  refine ⟨h1, fun a k ha => ?_, fun a k ha hb => ?_, fun k => ?_⟩
  · have h := h2 a k ha
    unfold qSm at *
    simp only [wR]
    rw [if_neg (by omega)]
    exact h
  · have h := h3 a k ha hb
    unfold qCmp at *
    simp only [wR]
    rw [if_neg (by omega)]
    exact h
  · obtain ⟨g1, g2, g3⟩ := h4 k
    simp only [wR, updF]
    refine ⟨g1, g2, fun x hx => ?_⟩
    by_cases e : k = f
    · rw [if_pos e] at hx
      cases hx
    · rw [if_neg e] at hx
      rw [if_neg (fun z => e z.2)]
      exact g3 x hx
theorem qUI.cal {n2 : Nat} {M' : qM} (h : qUI J b n M0 M I R) (hu : qUp J n n2 (wN M n) M') (hn : n < n2) (f : Nat) : qUI J b n2 M0 (wR M' b f (some n)) I (updF R f (some n)) := by
  obtain ⟨h1, h2, h3, h4⟩ := h
  obtain ⟨u1, u2⟩ := hu
  have e : ∀ a k, a < n → qSm M M' a k := fun a k ha => by
    have h := u1 a k ha
    unfold qSm at *
    simp only [wN] at h
    rw [if_neg (by omega), if_neg (by omega), if_neg (by omega)] at h
    exact h
  refine ⟨by omega, fun a k ha => ?_, fun a k ha hb => ?_, fun k => ?_⟩
  · have h := h2 a k ha
    have h' := e a k (by omega)
    unfold qSm at *
    simp only [wR]
    rw [if_neg (by omega)]
    exact ⟨h'.1.trans h.1, h'.2.1.trans h.2.1, h'.2.2.trans h.2.2⟩
  · have h : qCmp J M' a k := by
      by_cases c : n ≤ a
      · exact u2 a k c hb
      · have h := h3 a k ha (by omega)
        have h' := e a k (by omega)
        unfold qCmp qSm at *
        exact ⟨h'.1.trans h.1, h'.2.1.trans h.2.1, fun x hx => h'.2.2.trans (h.2.2 x hx)⟩
    unfold qCmp at *
    simp only [wR]
    rw [if_neg (by omega)]
    exact h
  · obtain ⟨g1, g2, g3⟩ := h4 k
    have h' := e b k h1
    unfold qSm at h'
    simp only [wR, updF]
    refine ⟨h'.1.trans g1, h'.2.1.trans g2, fun x hx => ?_⟩
    by_cases e : k = f
    · rw [if_pos e] at hx
      rw [if_pos ⟨trivial, e⟩]
      exact hx
    · rw [if_neg e] at hx
      rw [if_neg (fun z => e z.2)]
      exact h'.2.2.trans (g3 x hx)
theorem qUI.fin (h : qUI J b n M0 M I R) (e1 : ∀ k, I k = zI b k) (e2 : ∀ k x, q_ref b k = some x → R k = some x) (e3 : ∀ k, J b k = 0) : qUp J b n M0 M := by
  obtain ⟨h1, h2, h3, h4⟩ := h
  refine ⟨h2, fun a k ha hb => ?_⟩
  by_cases c : b = a
  · subst c
    obtain ⟨g1, g2, g3⟩ := h4 k
    exact ⟨g1.trans (e1 k), g2.trans (e3 k).symm, fun x hx => g3 x (e2 k x hx)⟩
  · exact h3 a k (by omega) hb
end Ini
set_option maxHeartbeats 4000000 in
theorem c_X7_init (g : qG) {M : qM} (hz : ∀ k, M.1 1 k = 0 ∧ M.2.1 1 k = 0) : qN g 1 kX7_init [.ref 1] (2) M 1 2000 3 (fun M' => qUp J0 1 3 M M') := by
  refine qN.of (j := 0) (pn_RX7) rfl ?_
  show qT g kX7_init (qR 1 1 2000) (qZ g (fun v n' M' => n' = 3 ∧ v = none ∧ qUp J0 1 3 M M') 1 2000) 0 [some (.ref 1)] [] 2 M (0, 0)
  have u0 : qUI J0 1 (2) M M (fun _ => 0) (fun _ => none) := qUI.st hz
  refine qi_aload_n (i := 0) (x := 1) dX7_init_0 rfl rfl ?_
  refine qi_objInit oiX7_3 oi_i oi_c dX7_init_1 (Nat.le_of_ble_eq_true rfl) ⟨by decide, by decide⟩ ?_
  refine qi_aload_n (i := 0) (x := 1) dX7_init_4 rfl rfl ?_
  refine qi_sipush (v := 2000) dX7_init_5 rfl ?_
  refine qi_newa (N := 2000) (t := 0) (ty := .int) dX7_init_8 rfl (by omega) rfl (by decide) ac_int (by decide) (by decide) (by decide) (by decide) (by decide) ?_
  refine qi_putR (x := 2) flX7_9 q_cls7 ty7_0 (fun _ => ⟨rfl, rfl⟩) dX7_init_10 rfl (by decide) ?_
  have u1 := u0.arr (zN_of (t := 0) (N := 2000) rfl (by omega)) 0
  generalize wR (wN M 2) 1 0 (some 2) = M1 at u1 ⊢
  refine qi_aload_n (i := 0) (x := 1) dX7_init_13 rfl rfl ?_
  refine qi_iconst (v := 0) dX7_init_14 rfl ?_
  refine qi_putI flX7_15 q_cls7 (ty7_1 _) dX7_init_15 rfl (by decide) ?_
  have u2 := u1.int 1 (0)
  generalize wI M1 1 1 0 = M2 at u2 ⊢
  refine qi_retN rfl dX7_init_18 (by decide) (?_)
  refine qUI.fin u2 (fun k => ?_) (fun k x h => ?_) (fun _ => rfl)
  · unfold zI
    rw [show qsh 1 = (7, 0) from rfl]
    show _ = zc 7 k
    simp only [updF, zc]
    try grind
  · unfold q_ref at h
    rw [show qsh 1 = (7, 0) from rfl] at h
    match k, h with
    | 0, h => exact h
    | 1, h => exact h
    | j + 2, h => exact (by have h2 : (none : Option Nat) = some x := h; cases h2)
set_option maxHeartbeats 4000000 in
theorem c_X9_init (g : qG) {M : qM} (hz : ∀ k, M.1 214 k = 0 ∧ M.2.1 214 k = 0) : qN g 1 kX9_init [.ref 214] (215) M 3 840 218 (fun M' => qUp J0 214 218 M M') := by
  refine qN.of (j := 0) (pn_RX9) rfl ?_
  show qT g kX9_init (qR 1 3 840) (qZ g (fun v n' M' => n' = 218 ∧ v = none ∧ qUp J0 214 218 M M') 3 840) 0 [some (.ref 214)] [] 215 M (0, 0)
  have u0 : qUI J0 214 (215) M M (fun _ => 0) (fun _ => none) := qUI.st hz
  refine qi_aload_n (i := 0) (x := 214) dX9_init_0 rfl rfl ?_
  refine qi_objInit oiX9_3 oi_i oi_c dX9_init_1 (Nat.le_of_ble_eq_true rfl) ⟨by decide, by decide⟩ ?_
  refine qi_aload_n (i := 0) (x := 214) dX9_init_4 rfl rfl ?_
  refine qi_bipush (v := 20) dX9_init_5 rfl ?_
  refine qi_newa (N := 20) (t := 0) (ty := .int) dX9_init_7 rfl (by omega) rfl (by decide) ac_int (by decide) (by decide) (by decide) (by decide) (by decide) ?_
  refine qi_putR (x := 215) flX9_9 q_cls9 ty9_0 (fun _ => ⟨rfl, rfl⟩) dX9_init_9 rfl (by decide) ?_
  have u1 := u0.arr (zN_of (t := 0) (N := 20) rfl (by omega)) 0
  generalize wR (wN M 215) 214 0 (some 215) = M1 at u1 ⊢
  refine qi_aload_n (i := 0) (x := 214) dX9_init_12 rfl rfl ?_
  refine qi_bipush (v := 20) dX9_init_13 rfl ?_
  refine qi_newa (N := 20) (t := 0) (ty := .int) dX9_init_15 rfl (by omega) rfl (by decide) ac_int (by decide) (by decide) (by decide) (by decide) (by decide) ?_
  refine qi_putR (x := 216) flX9_15 q_cls9 ty9_1 (fun _ => ⟨rfl, rfl⟩) dX9_init_17 rfl (by decide) ?_
  have u2 := u1.arr (zN_of (t := 0) (N := 20) rfl (by omega)) 1
  generalize wR (wN M1 216) 214 1 (some 216) = M2 at u2 ⊢
  refine qi_aload_n (i := 0) (x := 214) dX9_init_20 rfl rfl ?_
  refine qi_sipush (v := 800) dX9_init_21 rfl ?_
  refine qi_newa (N := 800) (t := 3) (ty := .boolean) dX9_init_24 rfl (by omega) rfl (by decide) ac_boolean (by decide) (by decide) (by decide) (by decide) (by decide) ?_
  refine qi_putR (x := 217) flX9_18 q_cls9 ty9_2 (fun _ => ⟨rfl, rfl⟩) dX9_init_26 rfl (by decide) ?_
  have u3 := u2.arr (zN_of (t := 3) (N := 800) rfl (by omega)) 2
  generalize wR (wN M2 217) 214 2 (some 217) = M3 at u3 ⊢
  refine qi_aload_n (i := 0) (x := 214) dX9_init_29 rfl rfl ?_
  refine qi_iconst (v := -1) dX9_init_30 rfl ?_
  refine qi_putI flX9_22 q_cls9 (ty9_3 _) dX9_init_31 rfl (by decide) ?_
  have u4 := u3.int 3 (-1)
  generalize wI M3 214 3 (-1) = M4 at u4 ⊢
  refine qi_aload_n (i := 0) (x := 214) dX9_init_34 rfl rfl ?_
  refine qi_iconst (v := 0) dX9_init_35 rfl ?_
  refine qi_putI flX9_26 q_cls9 (ty9_4 _) dX9_init_36 rfl (by decide) ?_
  have u5 := u4.int 4 (0)
  generalize wI M4 214 4 0 = M5 at u5 ⊢
  refine qi_retN rfl dX9_init_39 (by decide) (?_)
  refine qUI.fin u5 (fun k => ?_) (fun k x h => ?_) (fun _ => rfl)
  · unfold zI
    rw [show qsh 214 = (9, 0) from rfl]
    show _ = zc 9 k
    simp only [updF, zc]
    try grind
  · unfold q_ref at h
    rw [show qsh 214 = (9, 0) from rfl] at h
    match k, h with
    | 0, h => exact h
    | 1, h => exact h
    | 2, h => exact h
    | 3, h => exact h
    | 4, h => exact h
    | j + 5, h => exact (by have h2 : (none : Option Nat) = some x := h; cases h2)
set_option maxHeartbeats 4000000 in
theorem c_X5_init (g : qG) {M : qM} (hz : ∀ k, M.1 218 k = 0 ∧ M.2.1 218 k = 0) : qN g 1 kX5_init [.ref 218] (219) M 2 10 221 (fun M' => qUp J0 218 221 M M') := by
  refine qN.of (j := 0) (pn_RX5) rfl ?_
  show qT g kX5_init (qR 1 2 10) (qZ g (fun v n' M' => n' = 221 ∧ v = none ∧ qUp J0 218 221 M M') 2 10) 0 [some (.ref 218)] [] 219 M (0, 0)
  have u0 : qUI J0 218 (219) M M (fun _ => 0) (fun _ => none) := qUI.st hz
  refine qi_aload_n (i := 0) (x := 218) dX5_init_0 rfl rfl ?_
  refine qi_objInit oiX5_3 oi_i oi_c dX5_init_1 (Nat.le_of_ble_eq_true rfl) ⟨by decide, by decide⟩ ?_
  refine qi_aload_n (i := 0) (x := 218) dX5_init_4 rfl rfl ?_
  refine qi_iconst (v := 5) dX5_init_5 rfl ?_
  refine qi_newa (N := 5) (t := 0) (ty := .int) dX5_init_6 rfl (by omega) rfl (by decide) ac_int (by decide) (by decide) (by decide) (by decide) (by decide) ?_
  refine qi_putR (x := 219) flX5_9 q_cls5 ty5_0 (fun _ => ⟨rfl, rfl⟩) dX5_init_8 rfl (by decide) ?_
  have u1 := u0.arr (zN_of (t := 0) (N := 5) rfl (by omega)) 0
  generalize wR (wN M 219) 218 0 (some 219) = M1 at u1 ⊢
  refine qi_aload_n (i := 0) (x := 218) dX5_init_11 rfl rfl ?_
  refine qi_iconst (v := 5) dX5_init_12 rfl ?_
  refine qi_newa (N := 5) (t := 0) (ty := .int) dX5_init_13 rfl (by omega) rfl (by decide) ac_int (by decide) (by decide) (by decide) (by decide) (by decide) ?_
  refine qi_putR (x := 220) flX5_15 q_cls5 ty5_1 (fun _ => ⟨rfl, rfl⟩) dX5_init_15 rfl (by decide) ?_
  have u2 := u1.arr (zN_of (t := 0) (N := 5) rfl (by omega)) 1
  generalize wR (wN M1 220) 218 1 (some 220) = M2 at u2 ⊢
  refine qi_aload_n (i := 0) (x := 218) dX5_init_18 rfl rfl ?_
  refine qi_iconst (v := 0) dX5_init_19 rfl ?_
  refine qi_putI flX5_18 q_cls5 (ty5_2 _) dX5_init_20 rfl (by decide) ?_
  have u3 := u2.int 2 (0)
  generalize wI M2 218 2 0 = M3 at u3 ⊢
  refine qi_aload_n (i := 0) (x := 218) dX5_init_23 rfl rfl ?_
  refine qi_lconst (v := 0) dX5_init_24 rfl ?_
  refine qi_putJ flX5_22 q_cls5 (ty5_3 _) dX5_init_25 rfl (by decide) ?_
  have u4 := u3.lng 3
  generalize wJ M3 218 3 0 = M4 at u4 ⊢
  refine qi_aload_n (i := 0) (x := 218) dX5_init_28 rfl rfl ?_
  refine qi_iconst (v := -1) dX5_init_29 rfl ?_
  refine qi_putI flX5_26 q_cls5 (ty5_4 _) dX5_init_30 rfl (by decide) ?_
  have u5 := u4.int 4 (-1)
  generalize wI M4 218 4 (-1) = M5 at u5 ⊢
  refine qi_aload_n (i := 0) (x := 218) dX5_init_33 rfl rfl ?_
  refine qi_iconst (v := 0) dX5_init_34 rfl ?_
  refine qi_putI flX5_29 q_cls5 (ty5_5 _) dX5_init_35 rfl (by decide) ?_
  have u6 := u5.int 5 (0)
  generalize wI M5 218 5 0 = M6 at u6 ⊢
  refine qi_aload_n (i := 0) (x := 218) dX5_init_38 rfl rfl ?_
  refine qi_iconst (v := 0) dX5_init_39 rfl ?_
  refine qi_putI flX5_32 q_cls5 (ty5_6 _) dX5_init_40 rfl (by decide) ?_
  have u7 := u6.int 6 (0)
  generalize wI M6 218 6 0 = M7 at u7 ⊢
  refine qi_retN rfl dX5_init_43 (by decide) (?_)
  refine qUI.fin u7 (fun k => ?_) (fun k x h => ?_) (fun _ => rfl)
  · unfold zI
    rw [show qsh 218 = (5, 0) from rfl]
    show _ = zc 5 k
    simp only [updF, zc]
    try grind
  · unfold q_ref at h
    rw [show qsh 218 = (5, 0) from rfl] at h
    match k, h with
    | 0, h => exact h
    | 1, h => exact h
    | 2, h => exact h
    | 3, h => exact h
    | 4, h => exact h
    | 5, h => exact h
    | 6, h => exact h
    | j + 7, h => exact (by have h2 : (none : Option Nat) = some x := h; cases h2)
set_option maxHeartbeats 4000000 in
theorem c_X0_init (g : qG) {M : qM} (hz : ∀ k, M.1 221 k = 0 ∧ M.2.1 221 k = 0) : qN g 1 kX0_init [.ref 221] (222) M 2 16 224 (fun M' => qUp J0 221 224 M M') := by
  refine qN.of (j := 0) (pn_RX0) rfl ?_
  show qT g kX0_init (qR 1 2 16) (qZ g (fun v n' M' => n' = 224 ∧ v = none ∧ qUp J0 221 224 M M') 2 16) 0 [some (.ref 221)] [] 222 M (0, 0)
  have u0 : qUI J0 221 (222) M M (fun _ => 0) (fun _ => none) := qUI.st hz
  refine qi_aload_n (i := 0) (x := 221) dX0_init_0 rfl rfl ?_
  refine qi_objInit oiX0_3 oi_i oi_c dX0_init_1 (Nat.le_of_ble_eq_true rfl) ⟨by decide, by decide⟩ ?_
  refine qi_aload_n (i := 0) (x := 221) dX0_init_4 rfl rfl ?_
  refine qi_bipush (v := 8) dX0_init_5 rfl ?_
  refine qi_newa (N := 8) (t := 0) (ty := .int) dX0_init_7 rfl (by omega) rfl (by decide) ac_int (by decide) (by decide) (by decide) (by decide) (by decide) ?_
  refine qi_putR (x := 222) flX0_9 q_cls0 ty0_0 (fun _ => ⟨rfl, rfl⟩) dX0_init_9 rfl (by decide) ?_
  have u1 := u0.arr (zN_of (t := 0) (N := 8) rfl (by omega)) 0
  generalize wR (wN M 222) 221 0 (some 222) = M1 at u1 ⊢
  refine qi_aload_n (i := 0) (x := 221) dX0_init_12 rfl rfl ?_
  refine qi_bipush (v := 8) dX0_init_13 rfl ?_
  refine qi_newa (N := 8) (t := 0) (ty := .int) dX0_init_15 rfl (by omega) rfl (by decide) ac_int (by decide) (by decide) (by decide) (by decide) (by decide) ?_
  refine qi_putR (x := 223) flX0_15 q_cls0 ty0_1 (fun _ => ⟨rfl, rfl⟩) dX0_init_17 rfl (by decide) ?_
  have u2 := u1.arr (zN_of (t := 0) (N := 8) rfl (by omega)) 1
  generalize wR (wN M1 223) 221 1 (some 223) = M2 at u2 ⊢
  refine qi_aload_n (i := 0) (x := 221) dX0_init_20 rfl rfl ?_
  refine qi_iconst (v := -1) dX0_init_21 rfl ?_
  refine qi_putI flX0_18 q_cls0 (ty0_2 _) dX0_init_22 rfl (by decide) ?_
  have u3 := u2.int 2 (-1)
  generalize wI M2 221 2 (-1) = M3 at u3 ⊢
  refine qi_aload_n (i := 0) (x := 221) dX0_init_25 rfl rfl ?_
  refine qi_iconst (v := 0) dX0_init_26 rfl ?_
  refine qi_putI flX0_22 q_cls0 (ty0_3 _) dX0_init_27 rfl (by decide) ?_
  have u4 := u3.int 3 (0)
  generalize wI M3 221 3 0 = M4 at u4 ⊢
  refine qi_retN rfl dX0_init_30 (by decide) (?_)
  refine qUI.fin u4 (fun k => ?_) (fun k x h => ?_) (fun _ => rfl)
  · unfold zI
    rw [show qsh 221 = (0, 0) from rfl]
    show _ = zc 0 k
    simp only [updF, zc]
    try grind
  · unfold q_ref at h
    rw [show qsh 221 = (0, 0) from rfl] at h
    match k, h with
    | 0, h => exact h
    | 1, h => exact h
    | 2, h => exact h
    | 3, h => exact h
    | j + 4, h => exact (by have h2 : (none : Option Nat) = some x := h; cases h2)
set_option maxHeartbeats 4000000 in
theorem c_X6_init (g : qG) {b : Nat} (hs : qIsS b) (hb : 14 < b) (hb2 : b < 280) {M : qM} (hz : ∀ k, M.1 b k = 0 ∧ M.2.1 b k = 0) : qN g 1 kX6_init [.ref b] (b + 1) M 5 104 (b + 6) (fun M' => qUp J0 b (b + 6) M M') := by
  refine qN.of (j := 0) (pn_RX6) rfl ?_
  show qT g kX6_init (qR 1 5 104) (qZ g (fun v n' M' => n' = b + 6 ∧ v = none ∧ qUp J0 b (b + 6) M M') 5 104) 0 [some (.ref b)] [] (b + 1) M (0, 0)
  have u0 : qUI J0 b (b + 1) M M (fun _ => 0) (fun _ => none) := qUI.st hz
  refine qi_aload_n (i := 0) (x := b) dX6_init_0 rfl rfl ?_
  refine qi_objInit oiX6_3 oi_i oi_c dX6_init_1 (Nat.le_of_ble_eq_true rfl) ⟨by decide, by decide⟩ ?_
  refine qi_aload_n (i := 0) (x := b) dX6_init_4 rfl rfl ?_
  refine qi_bipush (v := 40) dX6_init_5 rfl ?_
  refine qi_newa (N := 40) (t := 0) (ty := .int) dX6_init_7 hs.2.1 (by omega) rfl (by decide) ac_int (by decide) (by decide) (by decide) (by decide) (by decide) ?_
  refine qi_putR (x := b + 1) flX6_9 q_cls6 ty6_0 (fun _ => ⟨rfl, rfl⟩) dX6_init_9 hs.1 (by omega) ?_
  have u1 := u0.arr (zN_of (t := 0) (N := 40) hs.2.1 (by omega)) 0
  generalize wR (wN M (b + 1)) b 0 (some (b + 1)) = M1 at u1 ⊢
  refine qi_aload_n (i := 0) (x := b) dX6_init_12 rfl rfl ?_
  refine qi_bipush (v := 40) dX6_init_13 rfl ?_
  refine qi_newa (N := 40) (t := 0) (ty := .int) dX6_init_15 hs.2.2.1 (by omega) rfl (by decide) ac_int (by decide) (by decide) (by decide) (by decide) (by decide) ?_
  refine qi_putR (x := b + 2) flX6_15 q_cls6 ty6_1 (fun _ => ⟨rfl, rfl⟩) dX6_init_17 hs.1 (by omega) ?_
  have u2 := u1.arr (zN_of (t := 0) (N := 40) hs.2.2.1 (by omega)) 1
  generalize wR (wN M1 (b + 2)) b 1 (some (b + 2)) = M2 at u2 ⊢
  refine qi_aload_n (i := 0) (x := b) dX6_init_20 rfl rfl ?_
  refine qi_bipush (v := 8) dX6_init_21 rfl ?_
  refine qi_newa (N := 8) (t := 0) (ty := .int) dX6_init_23 hs.2.2.2.1 (by omega) rfl (by decide) ac_int (by decide) (by decide) (by decide) (by decide) (by decide) ?_
  refine qi_putR (x := b + 3) flX6_18 q_cls6 ty6_2 (fun _ => ⟨rfl, rfl⟩) dX6_init_25 hs.1 (by omega) ?_
  have u3 := u2.arr (zN_of (t := 0) (N := 8) hs.2.2.2.1 (by omega)) 2
  generalize wR (wN M2 (b + 3)) b 2 (some (b + 3)) = M3 at u3 ⊢
  refine qi_aload_n (i := 0) (x := b) dX6_init_28 rfl rfl ?_
  refine qi_bipush (v := 8) dX6_init_29 rfl ?_
  refine qi_newa (N := 8) (t := 0) (ty := .int) dX6_init_31 hs.2.2.2.2.1 (by omega) rfl (by decide) ac_int (by decide) (by decide) (by decide) (by decide) (by decide) ?_
  refine qi_putR (x := b + 4) flX6_21 q_cls6 ty6_3 (fun _ => ⟨rfl, rfl⟩) dX6_init_33 hs.1 (by omega) ?_
  have u4 := u3.arr (zN_of (t := 0) (N := 8) hs.2.2.2.2.1 (by omega)) 3
  generalize wR (wN M3 (b + 4)) b 3 (some (b + 4)) = M4 at u4 ⊢
  refine qi_aload_n (i := 0) (x := b) dX6_init_36 rfl rfl ?_
  refine qi_bipush (v := 8) dX6_init_37 rfl ?_
  refine qi_newa (N := 8) (t := 0) (ty := .int) dX6_init_39 hs.2.2.2.2.2.1 (by omega) rfl (by decide) ac_int (by decide) (by decide) (by decide) (by decide) (by decide) ?_
  refine qi_putR (x := b + 5) flX6_24 q_cls6 ty6_4 (fun _ => ⟨rfl, rfl⟩) dX6_init_41 hs.1 (by omega) ?_
  have u5 := u4.arr (zN_of (t := 0) (N := 8) hs.2.2.2.2.2.1 (by omega)) 4
  generalize wR (wN M4 (b + 5)) b 4 (some (b + 5)) = M5 at u5 ⊢
  refine qi_aload_n (i := 0) (x := b) dX6_init_44 rfl rfl ?_
  refine qi_iconst (v := 0) dX6_init_45 rfl ?_
  refine qi_putI flX6_27 q_cls6 (ty6_5 _) dX6_init_46 hs.1 (by omega) ?_
  have u6 := u5.int 5 (0)
  generalize wI M5 b 5 0 = M6 at u6 ⊢
  refine qi_aload_n (i := 0) (x := b) dX6_init_49 rfl rfl ?_
  refine qi_iconst (v := 0) dX6_init_50 rfl ?_
  refine qi_putI flX6_31 q_cls6 (ty6_6 _) dX6_init_51 hs.1 (by omega) ?_
  have u7 := u6.int 6 (0)
  generalize wI M6 b 6 0 = M7 at u7 ⊢
  refine qi_aload_n (i := 0) (x := b) dX6_init_54 rfl rfl ?_
  refine qi_iconst (v := 0) dX6_init_55 rfl ?_
  refine qi_putI flX6_34 q_cls6 (ty6_7 _) dX6_init_56 hs.1 (by omega) ?_
  have u8 := u7.int 7 (0)
  generalize wI M7 b 7 0 = M8 at u8 ⊢
  refine qi_retN rfl dX6_init_59 (by decide) (?_)
  refine qUI.fin u8 (fun k => ?_) (fun k x h => ?_) (fun _ => rfl)
  · unfold zI
    rw [show qsh b = (6, 0) from hs.1]
    show _ = zc 6 k
    simp only [updF, zc]
    try grind
  · unfold q_ref at h
    rw [show qsh b = (6, 0) from hs.1] at h
    match k, h with
    | 0, h => exact h
    | 1, h => exact h
    | 2, h => exact h
    | 3, h => exact h
    | 4, h => exact h
    | 5, h => exact h
    | 6, h => exact h
    | 7, h => exact h
    | j + 8, h => exact (by have h2 : (none : Option Nat) = some x := h; cases h2)
set_option maxHeartbeats 4000000 in
theorem c_X1_init (g : qG) {p : Nat} (hp : qIsP p) {M : qM} (hz : ∀ k, M.1 (p + 10) k = 0 ∧ M.2.1 (p + 10) k = 0) : qN g 1 kX1_init [.ref (p + 10)] (p + 11) M 3 839 (p + 14) (fun M' => qUp J0 (p + 10) (p + 14) M M') := by
  have hp1 := hp.2.1
  have hp2 := hp.2.2
  refine qN.of (j := 0) (pn_RX1) rfl ?_
  show qT g kX1_init (qR 1 3 839) (qZ g (fun v n' M' => n' = p + 14 ∧ v = none ∧ qUp J0 (p + 10) (p + 14) M M') 3 839) 0 [some (.ref (p + 10))] [] (p + 11) M (0, 0)
  have u0 : qUI J0 (p + 10) (p + 11) M M (fun _ => 0) (fun _ => none) := qUI.st hz
  refine qi_aload_n (i := 0) (x := p + 10) dX1_init_0 rfl rfl ?_
  refine qi_objInit oiX1_3 oi_i oi_c dX1_init_1 (Nat.le_of_ble_eq_true rfl) ⟨by decide, by decide⟩ ?_
  refine qi_aload_n (i := 0) (x := p + 10) dX1_init_4 rfl rfl ?_
  refine qi_sipush (v := 802) dX1_init_5 rfl ?_
  refine qi_newa (N := 802) (t := 0) (ty := .int) dX1_init_8 (hp.1 11 (by decide)) (by omega) rfl (by decide) ac_int (by decide) (by decide) (by decide) (by decide) (by decide) ?_
  refine qi_putR (x := p + 11) flX1_11 q_cls1 ty1_0 (fun _ => ⟨rfl, rfl⟩) dX1_init_10 (hp.1 10 (by decide)) (by omega) ?_
  have u1 := u0.arr (zN_of (t := 0) (N := 802) (hp.1 11 (by decide)) (by omega)) 0
  generalize wR (wN M (p + 11)) (p + 10) 0 (some (p + 11)) = M1 at u1 ⊢
  refine qi_aload_n (i := 0) (x := p + 10) dX1_init_13 rfl rfl ?_
  refine qi_bipush (v := 32) dX1_init_14 rfl ?_
  refine qi_newa (N := 32) (t := 0) (ty := .int) dX1_init_16 (hp.1 12 (by decide)) (by omega) rfl (by decide) ac_int (by decide) (by decide) (by decide) (by decide) (by decide) ?_
  refine qi_putR (x := p + 12) flX1_15 q_cls1 ty1_1 (fun _ => ⟨rfl, rfl⟩) dX1_init_18 (hp.1 10 (by decide)) (by omega) ?_
  have u2 := u1.arr (zN_of (t := 0) (N := 32) (hp.1 12 (by decide)) (by omega)) 1
  generalize wR (wN M1 (p + 12)) (p + 10) 1 (some (p + 12)) = M2 at u2 ⊢
  refine qi_aload_n (i := 0) (x := p + 10) dX1_init_21 rfl rfl ?_
  refine qi_iconst (v := 5) dX1_init_22 rfl ?_
  refine qi_newa (N := 5) (t := 0) (ty := .int) dX1_init_23 (hp.1 13 (by decide)) (by omega) rfl (by decide) ac_int (by decide) (by decide) (by decide) (by decide) (by decide) ?_
  refine qi_putR (x := p + 13) flX1_18 q_cls1 ty1_2 (fun _ => ⟨rfl, rfl⟩) dX1_init_25 (hp.1 10 (by decide)) (by omega) ?_
  have u3 := u2.arr (zN_of (t := 0) (N := 5) (hp.1 13 (by decide)) (by omega)) 2
  generalize wR (wN M2 (p + 13)) (p + 10) 2 (some (p + 13)) = M3 at u3 ⊢
  refine qi_aload_n (i := 0) (x := p + 10) dX1_init_28 rfl rfl ?_
  refine qi_iconst (v := 0) dX1_init_29 rfl ?_
  refine qi_putI flX1_21 q_cls1 (ty1_3 _) dX1_init_30 (hp.1 10 (by decide)) (by omega) ?_
  have u4 := u3.int 3 (0)
  generalize wI M3 (p + 10) 3 0 = M4 at u4 ⊢
  refine qi_aload_n (i := 0) (x := p + 10) dX1_init_33 rfl rfl ?_
  refine qi_iconst (v := 0) dX1_init_34 rfl ?_
  refine qi_putI flX1_25 q_cls1 (ty1_4 _) dX1_init_35 (hp.1 10 (by decide)) (by omega) ?_
  have u5 := u4.int 4 (0)
  generalize wI M4 (p + 10) 4 0 = M5 at u5 ⊢
  refine qi_aload_n (i := 0) (x := p + 10) dX1_init_38 rfl rfl ?_
  refine qi_iconst (v := 0) dX1_init_39 rfl ?_
  refine qi_putI flX1_28 q_cls1 (ty1_5 _) dX1_init_40 (hp.1 10 (by decide)) (by omega) ?_
  have u6 := u5.int 5 (0)
  generalize wI M5 (p + 10) 5 0 = M6 at u6 ⊢
  refine qi_aload_n (i := 0) (x := p + 10) dX1_init_43 rfl rfl ?_
  refine qi_iconst (v := 0) dX1_init_44 rfl ?_
  refine qi_putI flX1_31 q_cls1 (ty1_6 _) dX1_init_45 (hp.1 10 (by decide)) (by omega) ?_
  have u7 := u6.int 6 (0)
  generalize wI M6 (p + 10) 6 0 = M7 at u7 ⊢
  refine qi_retN rfl dX1_init_48 (by decide) (?_)
  refine qUI.fin u7 (fun k => ?_) (fun k x h => ?_) (fun _ => rfl)
  · unfold zI
    rw [show qsh (p + 10) = (1, 0) from (hp.1 10 (by decide))]
    show _ = zc 1 k
    simp only [updF, zc]
    try grind
  · unfold q_ref at h
    rw [show qsh (p + 10) = (1, 0) from (hp.1 10 (by decide))] at h
    match k, h with
    | 0, h => exact h
    | 1, h => exact h
    | 2, h => exact h
    | 3, h => exact h
    | 4, h => exact h
    | 5, h => exact h
    | 6, h => exact h
    | j + 7, h => exact (by have h2 : (none : Option Nat) = some x := h; cases h2)
set_option maxHeartbeats 4000000 in
theorem c_X10_init (g : qG) {p : Nat} (hp : qIsP p) {M : qM} (hz : ∀ k, M.1 (p + 14) k = 0 ∧ M.2.1 (p + 14) k = 0) : qN g 1 kX10_init [.ref (p + 14)] (p + 15) M 4 114 (p + 19) (fun M' => qUp J0 (p + 14) (p + 19) M M') := by
  have hp1 := hp.2.1
  have hp2 := hp.2.2
  refine qN.of (j := 0) (pn_RX10) rfl ?_
  show qT g kX10_init (qR 1 4 114) (qZ g (fun v n' M' => n' = p + 19 ∧ v = none ∧ qUp J0 (p + 14) (p + 19) M M') 4 114) 0 [some (.ref (p + 14))] [] (p + 15) M (0, 0)
  have u0 : qUI J0 (p + 14) (p + 15) M M (fun _ => 0) (fun _ => none) := qUI.st hz
  refine qi_aload_n (i := 0) (x := p + 14) dX10_init_0 rfl rfl ?_
  refine qi_objInit oiX10_3 oi_i oi_c dX10_init_1 (Nat.le_of_ble_eq_true rfl) ⟨by decide, by decide⟩ ?_
  refine qi_aload_n (i := 0) (x := p + 14) dX10_init_4 rfl rfl ?_
  refine qi_bipush (v := 36) dX10_init_5 rfl ?_
  refine qi_newa (N := 36) (t := 0) (ty := .int) dX10_init_7 (hp.1 15 (by decide)) (by omega) rfl (by decide) ac_int (by decide) (by decide) (by decide) (by decide) (by decide) ?_
  refine qi_putR (x := p + 15) flX10_9 q_cls10 ty10_0 (fun _ => ⟨rfl, rfl⟩) dX10_init_9 (hp.1 14 (by decide)) (by omega) ?_
  have u1 := u0.arr (zN_of (t := 0) (N := 36) (hp.1 15 (by decide)) (by omega)) 0
  generalize wR (wN M (p + 15)) (p + 14) 0 (some (p + 15)) = M1 at u1 ⊢
  refine qi_aload_n (i := 0) (x := p + 14) dX10_init_12 rfl rfl ?_
  refine qi_bipush (v := 36) dX10_init_13 rfl ?_
  refine qi_newa (N := 36) (t := 0) (ty := .int) dX10_init_15 (hp.1 16 (by decide)) (by omega) rfl (by decide) ac_int (by decide) (by decide) (by decide) (by decide) (by decide) ?_
  refine qi_putR (x := p + 16) flX10_15 q_cls10 ty10_1 (fun _ => ⟨rfl, rfl⟩) dX10_init_17 (hp.1 14 (by decide)) (by omega) ?_
  have u2 := u1.arr (zN_of (t := 0) (N := 36) (hp.1 16 (by decide)) (by omega)) 1
  generalize wR (wN M1 (p + 16)) (p + 14) 1 (some (p + 16)) = M2 at u2 ⊢
  refine qi_aload_n (i := 0) (x := p + 14) dX10_init_20 rfl rfl ?_
  refine qi_bipush (v := 36) dX10_init_21 rfl ?_
  refine qi_newa (N := 36) (t := 0) (ty := .int) dX10_init_23 (hp.1 17 (by decide)) (by omega) rfl (by decide) ac_int (by decide) (by decide) (by decide) (by decide) (by decide) ?_
  refine qi_putR (x := p + 17) flX10_18 q_cls10 ty10_2 (fun _ => ⟨rfl, rfl⟩) dX10_init_25 (hp.1 14 (by decide)) (by omega) ?_
  have u3 := u2.arr (zN_of (t := 0) (N := 36) (hp.1 17 (by decide)) (by omega)) 2
  generalize wR (wN M2 (p + 17)) (p + 14) 2 (some (p + 17)) = M3 at u3 ⊢
  refine qi_aload_n (i := 0) (x := p + 14) dX10_init_28 rfl rfl ?_
  refine qi_bipush (v := 6) dX10_init_29 rfl ?_
  refine qi_newa (N := 6) (t := 0) (ty := .int) dX10_init_31 (hp.1 18 (by decide)) (by omega) rfl (by decide) ac_int (by decide) (by decide) (by decide) (by decide) (by decide) ?_
  refine qi_putR (x := p + 18) flX10_21 q_cls10 ty10_3 (fun _ => ⟨rfl, rfl⟩) dX10_init_33 (hp.1 14 (by decide)) (by omega) ?_
  have u4 := u3.arr (zN_of (t := 0) (N := 6) (hp.1 18 (by decide)) (by omega)) 3
  generalize wR (wN M3 (p + 18)) (p + 14) 3 (some (p + 18)) = M4 at u4 ⊢
  refine qi_aload_n (i := 0) (x := p + 14) dX10_init_36 rfl rfl ?_
  refine qi_iconst (v := 0) dX10_init_37 rfl ?_
  refine qi_putI flX10_24 q_cls10 (ty10_4 _) dX10_init_38 (hp.1 14 (by decide)) (by omega) ?_
  have u5 := u4.int 4 (0)
  generalize wI M4 (p + 14) 4 0 = M5 at u5 ⊢
  refine qi_aload_n (i := 0) (x := p + 14) dX10_init_41 rfl rfl ?_
  refine qi_iconst (v := 0) dX10_init_42 rfl ?_
  refine qi_putI flX10_28 q_cls10 (ty10_5 _) dX10_init_43 (hp.1 14 (by decide)) (by omega) ?_
  have u6 := u5.int 5 (0)
  generalize wI M5 (p + 14) 5 0 = M6 at u6 ⊢
  refine qi_retN rfl dX10_init_46 (by decide) (?_)
  refine qUI.fin u6 (fun k => ?_) (fun k x h => ?_) (fun _ => rfl)
  · unfold zI
    rw [show qsh (p + 14) = (10, 0) from (hp.1 14 (by decide))]
    show _ = zc 10 k
    simp only [updF, zc]
    try grind
  · unfold q_ref at h
    rw [show qsh (p + 14) = (10, 0) from (hp.1 14 (by decide))] at h
    match k, h with
    | 0, h => exact h
    | 1, h => exact h
    | 2, h => exact h
    | 3, h => exact h
    | 4, h => exact h
    | 5, h => exact h
    | j + 6, h => exact (by have h2 : (none : Option Nat) = some x := h; cases h2)
set_option maxHeartbeats 4000000 in
theorem c_X3_init (g : qG) {p : Nat} (hp : qIsP p) {M : qM} (hz : ∀ k, M.1 p k = 0 ∧ M.2.1 p k = 0) : qN g 2 kX3_init [.ref p] (p + 1) M 18 1056 (p + 19) (fun M' => qUp J0 p (p + 19) M M') := by
  have hp1 := hp.2.1
  have hp2 := hp.2.2
  refine qN.of (j := 0) (pn_RX3) rfl ?_
  show qT g kX3_init (qR 2 18 1056) (qZ g (fun v n' M' => n' = p + 19 ∧ v = none ∧ qUp J0 p (p + 19) M M') 18 1056) 0 [some (.ref p)] [] (p + 1) M (0, 0)
  have u0 : qUI J0 p (p + 1) M M (fun _ => 0) (fun _ => none) := qUI.st hz
  refine qi_aload_n (i := 0) (x := p) dX3_init_0 rfl rfl ?_
  refine qi_objInit oiX3_3 oi_i oi_c dX3_init_1 (Nat.le_of_ble_eq_true rfl) ⟨by decide, by decide⟩ ?_
  refine qi_aload_n (i := 0) (x := p) dX3_init_4 rfl rfl ?_
  refine qi_iconst (v := 5) dX3_init_5 rfl ?_
  refine qi_newa (N := 5) (t := 0) (ty := .int) dX3_init_6 (hp.1 1 (by decide)) (by omega) rfl (by decide) ac_int (by decide) (by decide) (by decide) (by decide) (by decide) ?_
  refine qi_putR (x := p + 1) flX3_9 q_cls3 ty3_0 (fun _ => ⟨rfl, rfl⟩) dX3_init_8 (hp.1 0 (by decide)) (by omega) ?_
  have u1 := u0.arr (zN_of (t := 0) (N := 5) (hp.1 1 (by decide)) (by omega)) 0
  generalize wR (wN M (p + 1)) p 0 (some (p + 1)) = M1 at u1 ⊢
  refine qi_aload_n (i := 0) (x := p) dX3_init_11 rfl rfl ?_
  refine qi_iconst (v := 5) dX3_init_12 rfl ?_
  refine qi_newa (N := 5) (t := 0) (ty := .int) dX3_init_13 (hp.1 2 (by decide)) (by omega) rfl (by decide) ac_int (by decide) (by decide) (by decide) (by decide) (by decide) ?_
  refine qi_putR (x := p + 2) flX3_15 q_cls3 ty3_1 (fun _ => ⟨rfl, rfl⟩) dX3_init_15 (hp.1 0 (by decide)) (by omega) ?_
  have u2 := u1.arr (zN_of (t := 0) (N := 5) (hp.1 2 (by decide)) (by omega)) 1
  generalize wR (wN M1 (p + 2)) p 1 (some (p + 2)) = M2 at u2 ⊢
  refine qi_aload_n (i := 0) (x := p) dX3_init_18 rfl rfl ?_
  refine qi_bipush (v := 8) dX3_init_19 rfl ?_
  refine qi_newa (N := 8) (t := 0) (ty := .int) dX3_init_21 (hp.1 3 (by decide)) (by omega) rfl (by decide) ac_int (by decide) (by decide) (by decide) (by decide) (by decide) ?_
  refine qi_putR (x := p + 3) flX3_18 q_cls3 ty3_2 (fun _ => ⟨rfl, rfl⟩) dX3_init_23 (hp.1 0 (by decide)) (by omega) ?_
  have u3 := u2.arr (zN_of (t := 0) (N := 8) (hp.1 3 (by decide)) (by omega)) 2
  generalize wR (wN M2 (p + 3)) p 2 (some (p + 3)) = M3 at u3 ⊢
  refine qi_aload_n (i := 0) (x := p) dX3_init_26 rfl rfl ?_
  refine qi_bipush (v := 8) dX3_init_27 rfl ?_
  refine qi_newa (N := 8) (t := 0) (ty := .int) dX3_init_29 (hp.1 4 (by decide)) (by omega) rfl (by decide) ac_int (by decide) (by decide) (by decide) (by decide) (by decide) ?_
  refine qi_putR (x := p + 4) flX3_21 q_cls3 ty3_3 (fun _ => ⟨rfl, rfl⟩) dX3_init_31 (hp.1 0 (by decide)) (by omega) ?_
  have u4 := u3.arr (zN_of (t := 0) (N := 8) (hp.1 4 (by decide)) (by omega)) 3
  generalize wR (wN M3 (p + 4)) p 3 (some (p + 4)) = M4 at u4 ⊢
  refine qi_aload_n (i := 0) (x := p) dX3_init_34 rfl rfl ?_
  refine qi_bipush (v := 8) dX3_init_35 rfl ?_
  refine qi_newa (N := 8) (t := 0) (ty := .int) dX3_init_37 (hp.1 5 (by decide)) (by omega) rfl (by decide) ac_int (by decide) (by decide) (by decide) (by decide) (by decide) ?_
  refine qi_putR (x := p + 5) flX3_24 q_cls3 ty3_4 (fun _ => ⟨rfl, rfl⟩) dX3_init_39 (hp.1 0 (by decide)) (by omega) ?_
  have u5 := u4.arr (zN_of (t := 0) (N := 8) (hp.1 5 (by decide)) (by omega)) 4
  generalize wR (wN M4 (p + 5)) p 4 (some (p + 5)) = M5 at u5 ⊢
  refine qi_aload_n (i := 0) (x := p) dX3_init_42 rfl rfl ?_
  refine qi_bipush (v := 8) dX3_init_43 rfl ?_
  refine qi_newa (N := 8) (t := 0) (ty := .int) dX3_init_45 (hp.1 6 (by decide)) (by omega) rfl (by decide) ac_int (by decide) (by decide) (by decide) (by decide) (by decide) ?_
  refine qi_putR (x := p + 6) flX3_27 q_cls3 ty3_5 (fun _ => ⟨rfl, rfl⟩) dX3_init_47 (hp.1 0 (by decide)) (by omega) ?_
  have u6 := u5.arr (zN_of (t := 0) (N := 8) (hp.1 6 (by decide)) (by omega)) 5
  generalize wR (wN M5 (p + 6)) p 5 (some (p + 6)) = M6 at u6 ⊢
  refine qi_aload_n (i := 0) (x := p) dX3_init_50 rfl rfl ?_
  refine qi_bipush (v := 16) dX3_init_51 rfl ?_
  refine qi_newa (N := 16) (t := 0) (ty := .int) dX3_init_53 (hp.1 7 (by decide)) (by omega) rfl (by decide) ac_int (by decide) (by decide) (by decide) (by decide) (by decide) ?_
  refine qi_putR (x := p + 7) flX3_30 q_cls3 ty3_6 (fun _ => ⟨rfl, rfl⟩) dX3_init_55 (hp.1 0 (by decide)) (by omega) ?_
  have u7 := u6.arr (zN_of (t := 0) (N := 16) (hp.1 7 (by decide)) (by omega)) 6
  generalize wR (wN M6 (p + 7)) p 6 (some (p + 7)) = M7 at u7 ⊢
  refine qi_aload_n (i := 0) (x := p) dX3_init_58 rfl rfl ?_
  refine qi_bipush (v := 16) dX3_init_59 rfl ?_
  refine qi_newa (N := 16) (t := 0) (ty := .int) dX3_init_61 (hp.1 8 (by decide)) (by omega) rfl (by decide) ac_int (by decide) (by decide) (by decide) (by decide) (by decide) ?_
  refine qi_putR (x := p + 8) flX3_33 q_cls3 ty3_7 (fun _ => ⟨rfl, rfl⟩) dX3_init_63 (hp.1 0 (by decide)) (by omega) ?_
  have u8 := u7.arr (zN_of (t := 0) (N := 16) (hp.1 8 (by decide)) (by omega)) 7
  generalize wR (wN M7 (p + 8)) p 7 (some (p + 8)) = M8 at u8 ⊢
  refine qi_aload_n (i := 0) (x := p) dX3_init_66 rfl rfl ?_
  refine qi_bipush (v := 16) dX3_init_67 rfl ?_
  refine qi_newa (N := 16) (t := 0) (ty := .int) dX3_init_69 (hp.1 9 (by decide)) (by omega) rfl (by decide) ac_int (by decide) (by decide) (by decide) (by decide) (by decide) ?_
  refine qi_putR (x := p + 9) flX3_36 q_cls3 ty3_8 (fun _ => ⟨rfl, rfl⟩) dX3_init_71 (hp.1 0 (by decide)) (by omega) ?_
  have u9 := u8.arr (zN_of (t := 0) (N := 16) (hp.1 9 (by decide)) (by omega)) 8
  generalize wR (wN M8 (p + 9)) p 8 (some (p + 9)) = M9 at u9 ⊢
  refine qi_aload_n (i := 0) (x := p) dX3_init_74 rfl rfl ?_
  refine qi_new (c := 1) (N := 7) (ty := tyX1) dX3_init_75 (hp.1 10 (by decide)) (by omega) rfl rfl (by decide) q_in1 tyX1_ok (by decide +kernel) clX3_39 inX1 itX1 (by decide) (by decide) ?_
  refine qi_dup dX3_init_78 ?_
  refine qi_callIN (b := p + 10) (n2 := p + 14) (K' := kX1_init) (As := []) mlX3_41 okX1_init dX3_init_79 (c_X1_init g hp (fun _ ↦ ⟨if_pos rfl, if_pos rfl⟩)) rfl rfl (Nat.le_of_ble_eq_true rfl) ⟨(Nat.le_of_ble_eq_true rfl), (Nat.le_of_ble_eq_true rfl)⟩ ⟨(Nat.le_of_ble_eq_true rfl), (Nat.le_of_ble_eq_true rfl)⟩ (fun N9 hN9 => ?_)
  show qT g kX3_init (qR 2 18 1056) (qZ g (fun v n' M' => n' = p + 19 ∧ v = none ∧ qUp J0 p (p + 19) M M') 18 1056) 82 [some (.ref p)] [.ref (p + 10), .ref p] (p + 14) N9 (13, 936)
  refine qi_putR (x := p + 10) flX3_42 q_cls3 ty3_9 (fun _ => ⟨rfl, rfl⟩) dX3_init_82 (hp.1 0 (by decide)) (by omega) ?_
  have u10 := u9.cal hN9 (by omega) 9
  generalize wR N9 p 9 (some (p + 10)) = M10 at u10 ⊢
  refine qi_aload_n (i := 0) (x := p) dX3_init_85 rfl rfl ?_
  refine qi_new (c := 10) (N := 6) (ty := tyX10) dX3_init_86 (hp.1 14 (by decide)) (by omega) rfl rfl (by decide) q_in10 tyX10_ok (by decide +kernel) clX3_46 inX10 itX10 (by decide) (by decide) ?_
  refine qi_dup dX3_init_89 ?_
  refine qi_callIN (b := p + 14) (n2 := p + 19) (K' := kX10_init) (As := []) mlX3_48 okX10_init dX3_init_90 (c_X10_init g hp (fun _ ↦ ⟨if_pos rfl, if_pos rfl⟩)) rfl rfl (Nat.le_of_ble_eq_true rfl) ⟨(Nat.le_of_ble_eq_true rfl), (Nat.le_of_ble_eq_true rfl)⟩ ⟨(Nat.le_of_ble_eq_true rfl), (Nat.le_of_ble_eq_true rfl)⟩ (fun N10 hN10 => ?_)
  show qT g kX3_init (qR 2 18 1056) (qZ g (fun v n' M' => n' = p + 19 ∧ v = none ∧ qUp J0 p (p + 19) M M') 18 1056) 93 [some (.ref p)] [.ref (p + 14), .ref p] (p + 19) N10 (18, 1056)
  refine qi_putR (x := p + 14) flX3_49 q_cls3 ty3_10 (fun _ => ⟨rfl, rfl⟩) dX3_init_93 (hp.1 0 (by decide)) (by omega) ?_
  have u11 := u10.cal hN10 (by omega) 10
  generalize wR N10 p 10 (some (p + 14)) = M11 at u11 ⊢
  refine qi_aload_n (i := 0) (x := p) dX3_init_96 rfl rfl ?_
  refine qi_iconst (v := 0) dX3_init_97 rfl ?_
  refine qi_putI flX3_53 q_cls3 (ty3_11 _) dX3_init_98 (hp.1 0 (by decide)) (by omega) ?_
  have u12 := u11.int 11 (0)
  generalize wI M11 p 11 0 = M12 at u12 ⊢
  refine qi_aload_n (i := 0) (x := p) dX3_init_101 rfl rfl ?_
  refine qi_iconst (v := 0) dX3_init_102 rfl ?_
  refine qi_putI flX3_57 q_cls3 (ty3_12 _) dX3_init_103 (hp.1 0 (by decide)) (by omega) ?_
  have u13 := u12.int 12 (0)
  generalize wI M12 p 12 0 = M13 at u13 ⊢
  refine qi_aload_n (i := 0) (x := p) dX3_init_106 rfl rfl ?_
  refine qi_iconst (v := 0) dX3_init_107 rfl ?_
  refine qi_putI flX3_60 q_cls3 (ty3_13 _) dX3_init_108 (hp.1 0 (by decide)) (by omega) ?_
  have u14 := u13.int 13 (0)
  generalize wI M13 p 13 0 = M14 at u14 ⊢
  refine qi_aload_n (i := 0) (x := p) dX3_init_111 rfl rfl ?_
  refine qi_iconst (v := -1) dX3_init_112 rfl ?_
  refine qi_putI flX3_63 q_cls3 (ty3_14 _) dX3_init_113 (hp.1 0 (by decide)) (by omega) ?_
  have u15 := u14.int 14 (-1)
  generalize wI M14 p 14 (-1) = M15 at u15 ⊢
  refine qi_aload_n (i := 0) (x := p) dX3_init_116 rfl rfl ?_
  refine qi_sipush (v := 999) dX3_init_117 rfl ?_
  refine qi_putI flX3_66 q_cls3 (ty3_15 _) dX3_init_120 (hp.1 0 (by decide)) (by omega) ?_
  have u16 := u15.int 15 (999)
  generalize wI M15 p 15 999 = M16 at u16 ⊢
  refine qi_aload_n (i := 0) (x := p) dX3_init_123 rfl rfl ?_
  refine qi_iconst (v := 0) dX3_init_124 rfl ?_
  refine qi_putI flX3_69 q_cls3 (ty3_16 _) dX3_init_125 (hp.1 0 (by decide)) (by omega) ?_
  have u17 := u16.int 16 (0)
  generalize wI M16 p 16 0 = M17 at u17 ⊢
  refine qi_retN rfl dX3_init_128 (by decide) (?_)
  refine qUI.fin u17 (fun k => ?_) (fun k x h => ?_) (fun _ => rfl)
  · unfold zI
    rw [show qsh p = (3, 0) from (hp.1 0 (by decide))]
    show _ = zc 3 k
    simp only [updF, zc]
    try grind
  · unfold q_ref at h
    rw [show qsh p = (3, 0) from (hp.1 0 (by decide))] at h
    match k, h with
    | 0, h => exact h
    | 1, h => exact h
    | 2, h => exact h
    | 3, h => exact h
    | 4, h => exact h
    | 5, h => exact h
    | 6, h => exact h
    | 7, h => exact h
    | 8, h => exact h
    | 9, h => exact h
    | 10, h => exact h
    | 11, h => exact h
    | 12, h => exact h
    | 13, h => exact h
    | 14, h => exact h
    | 15, h => exact h
    | 16, h => exact h
    | j + 17, h => exact (by have h2 : (none : Option Nat) = some x := h; cases h2)
