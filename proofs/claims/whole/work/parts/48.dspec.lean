/-! what is done: run, merge, split, spoon -/
/-- the numbers now, and what can be undone -/
abbrev qCo := (Nat → Int32) × Nat × (Nat → Nat → Int32)
def qCore (M : qM) (c : qCo) : Prop := qNow M c.1 ∧ qHist M c.2.1 c.2.2
def pushC (ρ' : Nat → Int32) (c : qCo) : qCo := (ρ', min 30 (c.2.1 + 1), pushF c.1 c.2.2)
def okCore (π : qPl) (c : qCo) : Prop := okSea π c.1 ∧ ∀ i, i < c.2.1 → okSea π (c.2.2 i)
theorem okCore.push {π : qPl} {c : qCo} {ρ' : Nat → Int32} (h : okCore π c) (h' : okSea π ρ') : okCore π (pushC ρ' c) := by
  refine ⟨h', fun i hi => ?_⟩
  show okSea π (pushF c.1 c.2.2 i)
  have hi2 : i < min 30 (c.2.1 + 1) := hi
  unfold pushF
  by_cases e : i = 0
  · rw [if_pos e]; exact h.1
  · rw [if_neg e]; exact h.2 _ (by omega)
/-- what the reference's doings write -/
def SQ : Nat → Nat → Prop := fun b j => SM b j ∨ SU b j
theorem qCore.keep {M M' : qM} {c : qCo} (h : qCore M c) (hf : qFr SM M M') : qCore M' c := by
  refine ⟨fun k hk => (hf.1 _ _ (by unfold SM; omega)).trans (h.1 k hk), h.2.1, (hf.1 _ _ (by unfold SM; omega)).trans h.2.2.1, fun i k hi hk => (hf.1 _ _ (by unfold SM; omega)).trans (h.2.2.2 i k hi hk)⟩
theorem SM_SQ {b j : Nat} (h : SM b j) : SQ b j := Or.inl h
theorem SU_SQ {b j : Nat} (h : SU b j) : SQ b j := Or.inr h
def inF (lo hi v : Int32) : Int32 := if lo ≤ v ∧ v ≤ hi then 1 else 0
theorem inF_01 (lo hi v : Int32) : inF lo hi v = 0 ∨ inF lo hi v = 1 := by
  unfold inF
  split
  · exact Or.inr rfl
  · exact Or.inl rfl
theorem inF_of {lo hi v : Int32} (h : ¬ inF lo hi v = 0) : lo ≤ v ∧ v ≤ hi := by
  unfold inF at h
  by_cases c : lo ≤ v ∧ v ≤ hi
  · exact c
  · rw [if_neg c] at h; exact absurd rfl h
/-- between 0 and so many: a number -/
theorem inF_nat {n : Nat} {v : Int32} (hn : n < 2 ^ 31) (h : ¬ inF 0 (nI n) v = 0) : ∃ k, k ≤ n ∧ v = nI k := by
  have c := inF_of h
  obtain ⟨k, hk, rfl⟩ := nI_of (Int32.not_lt.mpr c.1)
  refine ⟨k, ?_, rfl⟩
  have e := Int32.le_iff_toInt_le.mp c.2
  rw [nI_toInt hk, nI_toInt hn] at e
  omega
def dRun (π : qPl) (n : Int32) (c : qCo) : Int32 × qCo := if inF 0 200 n = 0 then (-1, c) else if n = 0 then (c.1 64, c) else (weeksF π (-1) c.1 n.toNatClampNeg 64, pushC (weeksF π (-1) c.1 n.toNatClampNeg) c)
abbrev twoF (π : qPl) (h o : Int32) : Prop := ¬ isF (π.1 1) h = 0 ∧ ¬ isF (π.1 1) o = 0 ∧ ¬ h = o
def dMerge (π : qPl) (h o : Int32) (c : qCo) : Int32 × qCo := if twoF π h o then (dropsF c.1 h.toNatClampNeg, pushC (moveF (mergeF c.1 h.toNatClampNeg o.toNatClampNeg) h.toNatClampNeg o.toNatClampNeg 1 1 5) c) else (-1, c)
def dSplit (π : qPl) (h o p q : Int32) (c : qCo) : Int32 × qCo := if twoF π h o ∧ ¬ inF 1 99 q = 0 ∧ ¬ inF 0 q p = 0 then (sumF (fun w => partF c.1 p q (5 * h.toNatClampNeg + w)) 5, pushC (moveF c.1 h.toNatClampNeg o.toNatClampNeg p q 5) c) else (-1, c)
def dSpoon (n : Int32) (c : qCo) : Int32 × qCo := if inF 1 (allF c.1) n = 0 then (-1, c) else (spoonS c.1 n.toNatClampNeg, pushC (spoonF c.1 n.toNatClampNeg) c)
theorem moveF_at {ρ : Nat → Int32} {h o : Nat} {p q : Int32} (hho : h ≠ o) : ∀ n j, n ≤ 5 → moveF ρ h o p q n j = if 5 * h ≤ j ∧ j < 5 * h + n then ρ j - partF ρ p q j else if 5 * o ≤ j ∧ j < 5 * o + n then ρ j + partF ρ p q (5 * h + (j - 5 * o)) else ρ j
  | 0, j, _ => by
    rw [if_neg (by omega), if_neg (by omega)]
    rfl
  | n + 1, j, hn => by
    have ih := moveF_at (ρ := ρ) (p := p) (q := q) hho n j (by omega)
    show (if j = 5 * h + n then moveF ρ h o p q n j - partF ρ p q (5 * h + n) else if j = 5 * o + n then moveF ρ h o p q n j + partF ρ p q (5 * h + n) else moveF ρ h o p q n j) = _
    rw [ih]
    by_cases c1 : j = 5 * h + n
    · rw [if_pos c1, if_neg (by omega), if_neg (by omega), if_pos (by omega), c1]
    · rw [if_neg c1]
      by_cases c2 : j = 5 * o + n
      · rw [if_pos c2, if_neg (by omega), if_neg (by omega), if_neg (by omega), if_pos (by omega), show 5 * h + (j - 5 * o) = 5 * h + n by omega]
      · rw [if_neg c2]
        by_cases c3 : 5 * h ≤ j ∧ j < 5 * h + n
        · rw [if_pos c3, if_pos (by omega)]
        · rw [if_neg c3, if_neg (c := 5 * h ≤ j ∧ j < 5 * h + (n + 1)) (by omega)]
          by_cases c4 : 5 * o ≤ j ∧ j < 5 * o + n
          · rw [if_pos c4, if_pos (by omega)]
          · rw [if_neg c4, if_neg (by omega)]
theorem partF_11 (ρ : Nat → Int32) (k : Nat) : partF ρ 1 1 k = ρ k := by
  unfold partF
  rw [show max1 1 = 1 from rfl, show ρ k * 1 = ρ k by grind]
  exact Int32.div_one
