/-! a small machine over the cells that the law makes: a memory of ints, longs, references by address and place; judgements over it -/
abbrev qM : Type := (Nat → Nat → Int32) × (Nat → Nat → Int64) × (Nat → Nat → Option Nat)
abbrev qG : Type := Launch × Nat × (Nat → ClassId) × (Nat → Nat → Nat) × (Nat → ClassId) × (Nat → Nat) × Nat × (Nat → Int32)
abbrev qKt : Type := MethodName × ByteArray × Nat × Option FieldType
def qL (g : qG) : Launch := g.1
def qB (g : qG) : Nat := g.2.1
def qD (g : qG) : va_G := (g.2.2.1, g.2.2.2.1)
def qcA (g : qG) (t : Nat) : ClassId := g.2.2.2.2.1 t
def qext (g : qG) (t : Nat) : Nat := g.2.2.2.2.2.1 t
def qad (g : qG) (a : Nat) : Nat := if a < 1000000 then qB g + a else qext g (a - 1000000)
def qv (g : qG) : Value → Value
  | .ref a => .ref (qad g a)
  | v => v
def qtys (g : qG) : List (ClassId × FieldType) := [(qcA g 0, .int), (qcA g 1, .long), (qcA g 2, .byte), (qcA g 3, .boolean), (qcA g 4, .object RX6)]
def qfv (g : qG) (c i : Nat) (M : qM) (k : Nat) : Value := if qft c k = 0 then .int (M.1 i k) else if qft c k = 1 then .long (M.2.1 i k) else va_rf ((M.2.2 i k).map (qad g))
def qel (g : qG) (M : qM) (i : Nat) : va_E :=
  if (qsh i).1 = 40 then .inl (qcA g 0, (qsh i).2, .inl (M.1 i))
  else if (qsh i).1 = 41 then .inl (qcA g 1, (qsh i).2, .inr (.inl (M.2.1 i)))
  else if (qsh i).1 = 42 then .inl (qcA g 2, (qsh i).2, .inl (M.1 i))
  else if (qsh i).1 = 43 then .inl (qcA g 3, (qsh i).2, .inl (M.1 i))
  else if (qsh i).1 = 44 then .inl (qcA g 4, (qsh i).2, .inr (.inr (.inr (.inr (fun j => (M.2.2 i j).map (qad g))))))
  else .inr ((qsh i).1, (List.range (qnf (qsh i).1)).map (qfv g (qsh i).1 i M))
def qH (g : qG) (n : Nat) (M : qM) (H : Heap) : Prop := H.size = qB g + n ∧ n ≤ 1000000 ∧ ∀ i, i < n → va_at (qD g) q_cl (qB g + i, qel g M i) H
/-- writes -/
def wI (M : qM) (a k : Nat) (x : Int32) : qM := (fun b j => if b = a ∧ j = k then x else M.1 b j, M.2)
def wJ (M : qM) (a k : Nat) (x : Int64) : qM := (M.1, fun b j => if b = a ∧ j = k then x else M.2.1 b j, M.2.2)
def wR (M : qM) (a k : Nat) (x : Option Nat) : qM := (M.1, M.2.1, fun b j => if b = a ∧ j = k then x else M.2.2 b j)
def wN (M : qM) (a : Nat) : qM := (fun b j => if b = a then 0 else M.1 b j, fun b j => if b = a then 0 else M.2.1 b j, fun b j => if b = a then none else M.2.2 b j)
/-- the locals by their places -/
def qat : List (Option Value) → Nat → Option Value
  | [], _ => none
  | x :: _, 0 => x
  | _ :: r, i + 1 => qat r i
def qlv (g : qG) : Nat → List (Option Value) → List (Nat × Value)
  | _, [] => []
  | i, none :: r => qlv g (i + 1) r
  | i, some v :: r => (i, qv g v) :: qlv g (i + 1) r
def qwide : Option Value → Option Value
  | some (.long _) => none
  | some (.double _) => none
  | x => x
def qst1 : List (Option Value) → Nat → Value → List (Option Value)
  | [], _, _ => []
  | _ :: r, 0, v => some v :: r
  | x :: r, 1, v => qwide x :: qst1 r 0 v
  | x :: r, i + 2, v => x :: qst1 r (i + 1) v
def qst2 : List (Option Value) → Nat → Value → List (Option Value)
  | [], _, _ => []
  | _ :: r, 0, v => some v :: (match r with
    | [] => []
    | _ :: r' => none :: r')
  | x :: r, 1, v => qwide x :: qst2 r 0 v
  | x :: r, i + 2, v => x :: qst2 r (i + 1) v
theorem qv_cat (g : qG) (v : Value) : (qv g v).category = v.category := by cases v <;> rfl
theorem qwide_s {x : Option Value} {w : Value} (h : qwide x = some w) : x = some w ∧ w.category = 1 := by
  cases x with
  | none => simp [qwide] at h
  | some v => cases v <;> simp [qwide] at h <;> subst h <;> exact ⟨rfl, rfl⟩
theorem qlv_mem (g : qG) : ∀ (L : List (Option Value)) (i k : Nat) (v : Value), qat L i = some v → (k + i, qv g v) ∈ qlv g k L
  | [], i, k, v, h => by simp [qat] at h
  | none :: r, 0, k, v, h => by simp [qat] at h
  | some w :: r, 0, k, v, h => by
    simp only [qat, Option.some.injEq] at h
    subst h
    simp [qlv]
  | none :: r, i + 1, k, v, h => by
    have := qlv_mem g r i (k + 1) v h
    rw [show k + (i + 1) = k + 1 + i by omega]
    exact this
  | some w :: r, i + 1, k, v, h => by
    have := qlv_mem g r i (k + 1) v h
    rw [show k + (i + 1) = k + 1 + i by omega]
    exact List.mem_cons_of_mem _ this
theorem qlv_inv (g : qG) : ∀ (L : List (Option Value)) (k : Nat) (q : Nat × Value), q ∈ qlv g k L → ∃ (i : Nat) (v : Value), q = (k + i, qv g v) ∧ qat L i = some v
  | [], k, q, h => by simp [qlv] at h
  | none :: r, k, q, h => by
    obtain ⟨i, v, h1, h2⟩ := qlv_inv g r (k + 1) q h
    exact ⟨i + 1, v, by rw [h1, show k + (i + 1) = k + 1 + i by omega], h2⟩
  | some w :: r, k, q, h => by
    rcases List.mem_cons.mp h with h | h
    · exact ⟨0, w, h, rfl⟩
    · obtain ⟨i, v, h1, h2⟩ := qlv_inv g r (k + 1) q h
      exact ⟨i + 1, v, by rw [h1, show k + (i + 1) = k + 1 + i by omega], h2⟩
theorem qst1_s : ∀ (L : List (Option Value)) (i : Nat) (v : Value) (j : Nat) (w : Value), qat (qst1 L i v) j = some w → (j = i ∧ w = v) ∨ (j ≠ i ∧ qat L j = some w ∧ (j + 1 = i → w.category = 1))
  | [], i, v, j, w, h => by simp [qst1, qat] at h
  | x :: r, 0, v, 0, w, h => by
    simp only [qst1, qat, Option.some.injEq] at h
    exact Or.inl ⟨rfl, h.symm⟩
  | x :: r, 0, v, j + 1, w, h => Or.inr ⟨by omega, h, fun e => by omega⟩
  | x :: r, 1, v, 0, w, h => by
    obtain ⟨h1, h2⟩ := qwide_s (x := x) h
    exact Or.inr ⟨by omega, h1, fun _ => h2⟩
  | x :: r, 1, v, j + 1, w, h => by
    rcases qst1_s r 0 v j w h with ⟨h1, h2⟩ | ⟨h1, h2, h3⟩
    · exact Or.inl ⟨by omega, h2⟩
    · exact Or.inr ⟨by omega, h2, fun e => h3 (by omega)⟩
  | x :: r, i + 2, v, 0, w, h => Or.inr ⟨by omega, h, fun e => by omega⟩
  | x :: r, i + 2, v, j + 1, w, h => by
    rcases qst1_s r (i + 1) v j w h with ⟨h1, h2⟩ | ⟨h1, h2, h3⟩
    · exact Or.inl ⟨by omega, h2⟩
    · exact Or.inr ⟨by omega, h2, fun e => h3 (by omega)⟩
theorem qst2_s : ∀ (L : List (Option Value)) (i : Nat) (v : Value) (j : Nat) (w : Value), qat (qst2 L i v) j = some w → (j = i ∧ w = v) ∨ (j ≠ i ∧ j ≠ i + 1 ∧ qat L j = some w ∧ (j + 1 = i → w.category = 1))
  | [], i, v, j, w, h => by simp [qst2, qat] at h
  | x :: r, 0, v, 0, w, h => by
    simp only [qst2, qat, Option.some.injEq] at h
    exact Or.inl ⟨rfl, h.symm⟩
  | [x], 0, v, j + 1, w, h => by simp [qst2, qat] at h
  | x :: y :: r, 0, v, 1, w, h => by simp [qst2, qat] at h
  | x :: y :: r, 0, v, j + 2, w, h => Or.inr ⟨by omega, by omega, h, fun e => by omega⟩
  | x :: r, 1, v, 0, w, h => by
    obtain ⟨h1, h2⟩ := qwide_s (x := x) h
    exact Or.inr ⟨by omega, by omega, h1, fun _ => h2⟩
  | x :: r, 1, v, j + 1, w, h => by
    rcases qst2_s r 0 v j w h with ⟨h1, h2⟩ | ⟨h1, h2, h3, h4⟩
    · exact Or.inl ⟨by omega, h2⟩
    · exact Or.inr ⟨by omega, by omega, h3, fun e => h4 (by omega)⟩
  | x :: r, i + 2, v, 0, w, h => Or.inr ⟨by omega, by omega, h, fun e => by omega⟩
  | x :: r, i + 2, v, j + 1, w, h => by
    rcases qst2_s r (i + 1) v j w h with ⟨h1, h2⟩ | ⟨h1, h2, h3, h4⟩
    · exact Or.inl ⟨by omega, h2⟩
    · exact Or.inr ⟨by omega, by omega, h3, fun e => h4 (by omega)⟩
theorem q_at {g : qG} {ls : Array Slot} {nL : Nat} {L : List (Option Value)} (h : lv_has ls nL (qlv g 0 L)) {i : Nat} {v : Value} (hi : qat L i = some v) : ls[i]? = some (.val (qv g v)) := by
  have h1 := h.2.2 _ (qlv_mem g L i 0 v hi)
  rw [Nat.zero_add] at h1
  exact h1
theorem q_st1 {g : qG} {ls' : Array Slot} {nL : Nat} {L : List (Option Value)} {i : Nat} {v : Value} (h : lv_has ls' nL ((i, qv g v) :: (qlv g 0 L).filter (fun q => !(q.1 == i) && !(q.1 + 1 == i && q.2.category == 2)))) : lv_has ls' nL (qlv g 0 (qst1 L i v)) := by
  refine ⟨h.1, h.2.1, fun q hq => h.2.2 q ?_⟩
  obtain ⟨j, w, rfl, hj⟩ := qlv_inv g _ _ _ hq
  rw [Nat.zero_add]
  rcases qst1_s L i v j w hj with ⟨h1, h2⟩ | ⟨h1, h2, h3⟩
  · rw [h1, h2]
    exact List.mem_cons_self
  · refine List.mem_cons_of_mem _ (List.mem_filter.mpr ⟨?_, ?_⟩)
    · have := qlv_mem g L j 0 w h2
      rwa [Nat.zero_add] at this
    · by_cases e : j + 1 = i
      · simp [h1, qv_cat, h3 e]
      · simp [h1, e]
theorem q_st2 {g : qG} {ls' : Array Slot} {nL : Nat} {L : List (Option Value)} {i : Nat} {v : Value} (h : lv_has ls' nL ((i, qv g v) :: (qlv g 0 L).filter (fun q => !(q.1 == i) && (!(q.1 == i + 1) && !(q.1 + 1 == i && q.2.category == 2))))) : lv_has ls' nL (qlv g 0 (qst2 L i v)) := by
  refine ⟨h.1, h.2.1, fun q hq => h.2.2 q ?_⟩
  obtain ⟨j, w, rfl, hj⟩ := qlv_inv g _ _ _ hq
  rw [Nat.zero_add]
  rcases qst2_s L i v j w hj with ⟨h1, h2⟩ | ⟨h1, h1b, h2, h3⟩
  · rw [h1, h2]
    exact List.mem_cons_self
  · refine List.mem_cons_of_mem _ (List.mem_filter.mpr ⟨?_, ?_⟩)
    · have := qlv_mem g L j 0 w h2
      rwa [Nat.zero_add] at this
    · by_cases e : j + 1 = i
      · simp [h1, h1b, qv_cat, h3 e]
      · simp [h1, h1b, e]
/-- the heap -/
theorem qH.ad {g : qG} {n : Nat} {M : qM} {H : Heap} (h : qH g n M H) {a : Nat} (ha : a < n) : qad g a = qB g + a := by
  unfold qad
  rw [if_pos (Nat.lt_of_lt_of_le ha h.2.1)]
theorem qH.one {g : qG} {n : Nat} {M : qM} {H : Heap} (h : qH g n M H) {a : Nat} (ha : a < n) : va_P (qD g) q_cl [(qB g + a, qel g M a)] H := by
  intro k q hk
  have hz : k < 1 := (List.getElem?_eq_some_iff.mp hk).1
  rw [show k = 0 by omega] at hk
  cases hk
  exact h.2.2 a ha
theorem qH.put {g : qG} {n : Nat} {M M' : qM} {H H1 : Heap} (h : qH g n M H) {a : Nat} (e : va_at (qD g) q_cl (qB g + a, qel g M' a) H1) (z : H1.size = H.size) (oq : ∀ q : Nat, q ≠ qB g + a → H1[q]? = H[q]?) (hM : ∀ i, i ≠ a → qel g M' i = qel g M i) : qH g n M' H1 := by
  refine ⟨by rw [z]; exact h.1, h.2.1, fun i hi => ?_⟩
  by_cases hia : i = a
  · subst hia
    exact e
  · rw [hM i hia]
    exact (h.2.2 i hi).kept (oq _ (fun q => hia (by omega)))
theorem qel_i {g : qG} {M : qM} {a len : Nat} (h : qsh a = (40, len)) : qel g M a = .inl (qcA g 0, len, .inl (M.1 a)) := by simp [qel, h]
theorem qel_j {g : qG} {M : qM} {a len : Nat} (h : qsh a = (41, len)) : qel g M a = .inl (qcA g 1, len, .inr (.inl (M.2.1 a))) := by simp [qel, h]
theorem qel_b {g : qG} {M : qM} {a len : Nat} (h : qsh a = (42, len)) : qel g M a = .inl (qcA g 2, len, .inl (M.1 a)) := by simp [qel, h]
theorem qel_z {g : qG} {M : qM} {a len : Nat} (h : qsh a = (43, len)) : qel g M a = .inl (qcA g 3, len, .inl (M.1 a)) := by simp [qel, h]
theorem qel_r {g : qG} {M : qM} {a len : Nat} (h : qsh a = (44, len)) : qel g M a = .inl (qcA g 4, len, .inr (.inr (.inr (.inr (fun j => (M.2.2 a j).map (qad g)))))) := by simp [qel, h]
theorem qel_o {g : qG} {M : qM} {a c : Nat} (h : qsh a = (c, 0)) (hc : c < 40) : qel g M a = .inr (c, (List.range (qnf c)).map (qfv g c a M)) := by
  have h1 : (qsh a).1 = c := by rw [h]
  simp only [qel, h1]
  rw [if_neg (by omega), if_neg (by omega), if_neg (by omega), if_neg (by omega), if_neg (by omega)]
theorem qel_wI {g : qG} {M : qM} {a k : Nat} {x : Int32} {i : Nat} (h : i ≠ a) : qel g (wI M a k x) i = qel g M i := by
  have e : (wI M a k x).1 i = M.1 i := by funext j; simp [wI, h]
  have e2 : qfv g (qsh i).1 i (wI M a k x) = qfv g (qsh i).1 i M := by funext j; simp only [qfv, e]; rfl
  simp only [qel, e, e2]
  rfl
theorem qel_wJ {g : qG} {M : qM} {a k : Nat} {x : Int64} {i : Nat} (h : i ≠ a) : qel g (wJ M a k x) i = qel g M i := by
  have e : (wJ M a k x).2.1 i = M.2.1 i := by funext j; simp [wJ, h]
  have e2 : qfv g (qsh i).1 i (wJ M a k x) = qfv g (qsh i).1 i M := by funext j; simp only [qfv, e]; rfl
  simp only [qel, e, e2]
  rfl
theorem qel_wR {g : qG} {M : qM} {a k : Nat} {x : Option Nat} {i : Nat} (h : i ≠ a) : qel g (wR M a k x) i = qel g M i := by
  have e : (wR M a k x).2.2 i = M.2.2 i := by funext j; simp [wR, h]
  have e2 : qfv g (qsh i).1 i (wR M a k x) = qfv g (qsh i).1 i M := by funext j; simp only [qfv, e]; rfl
  simp only [qel, e, e2]
  rfl
theorem qel_wN {g : qG} {M : qM} {a i : Nat} (h : i ≠ a) : qel g (wN M a) i = qel g M i := by
  have e1 : (wN M a).1 i = M.1 i := by funext j; simp [wN, h]
  have e3 : (wN M a).2.1 i = M.2.1 i := by funext j; simp [wN, h]
  have e4 : (wN M a).2.2 i = M.2.2 i := by funext j; simp [wN, h]
  have e2 : qfv g (qsh i).1 i (wN M a) = qfv g (qsh i).1 i M := by funext j; simp only [qfv, e1, e3, e4]
  simp only [qel, e1, e2, e3, e4]
