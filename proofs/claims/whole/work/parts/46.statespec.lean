/-! what stays between two calls -/
/-- a heir, a water, … of so many -/
def isF (n : Nat) (h : Int32) : Int32 := if 0 ≤ h ∧ h < nI n then 1 else 0
theorem isF_of {n : Nat} {h : Int32} (hn : n < 2 ^ 31) (e : ¬ isF n h = 0) : ∃ k, k < n ∧ h = nI k := by
  unfold isF at e
  by_cases c : 0 ≤ h ∧ h < nI n
  · obtain ⟨k, hk, rfl⟩ := nI_of (Int32.not_lt.mpr c.1)
    exact ⟨k, (nI_ltI hk hn).mp c.2, rfl⟩
  · rw [if_neg c] at e
    exact absurd rfl e
theorem isF_1 {n : Nat} {h : Int32} (e : ¬ isF n h = 0) : isF n h = 1 := by
  unfold isF at e ⊢
  by_cases c : 0 ≤ h ∧ h < nI n
  · rw [if_pos c]
  · rw [if_neg c] at e
    exact absurd rfl e
/-- in bounds, as the reference asks -/
theorem isF_in {n : Nat} {h : Int32} (hn : n < 2 ^ 31) : (if (0 : Int32) ≤ h ∧ h ≤ nI n - 1 then (1 : Int32) else 0) = isF n h := by
  unfold isF
  have h0 : (0 : Int32).toInt = 0 := by decide
  have e1 : (nI n).toInt = n := nI_toInt hn
  have e2 : (nI n - 1).toInt = (n : Int) - 1 := by
    cases n with
    | zero => decide
    | succ m =>
      rw [show (1 : Int32) = nI 1 from rfl, pk_sub (by omega), nI_toInt (by omega)]
      omega
  by_cases c : 0 ≤ h ∧ h < nI n
  · rw [if_pos c, if_pos ⟨c.1, Int32.le_iff_toInt_le.mpr (by have := Int32.lt_iff_toInt_lt.mp c.2; omega)⟩]
  · rw [if_neg c, if_neg (fun q => c ⟨q.1, Int32.lt_iff_toInt_lt.mpr (by have := Int32.le_iff_toInt_le.mp q.2; omega)⟩)]
/-- the doings that can be undone, the last one first -/
def pushF (ρ : Nat → Int32) (H : Nat → Nat → Int32) : Nat → Nat → Int32 := fun i => if i = 0 then ρ else H (i - 1)
def qHist (M : qM) (u : Nat) (H : Nat → Nat → Int32) : Prop := u ≤ 30 ∧ M.1 280 64 = nI u ∧ ∀ i k, i < u → k < 66 → M.1 325 (80 * (u - 1 - i) + k) = H i k
/-- the slots -/
def qHeld (M : qM) (B : Nat → Int32) (HR : Nat → Nat → Int32) : Prop := (∀ s, s < 3 → M.1 331 s = B s ∧ (B s = 0 ∨ B s = 1)) ∧ ∀ s k, s < 3 → k < 66 → B s = 1 → M.1 332 (80 * s + k) = HR s k
def setF (s : Nat) (ρ : Nat → Int32) (HR : Nat → Nat → Int32) : Nat → Nat → Int32 := fun i => if i = s then ρ else HR i
def set1 (s : Nat) (x : Int32) (B : Nat → Int32) : Nat → Int32 := fun i => if i = s then x else B i
theorem nb_of {x : Int32} (h : x = 0 ∨ x = 1) : narrow .boolean (.int x) = .int x := by
  rcases h with rfl | rfl <;> rfl
theorem isF_01 (n : Nat) (h : Int32) : isF n h = 0 ∨ isF n h = 1 := by
  unfold isF
  split
  · exact Or.inr rfl
  · exact Or.inl rfl
