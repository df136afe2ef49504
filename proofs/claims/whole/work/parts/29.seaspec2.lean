/-! beginnings and moves -/
def beginF (π : qPl) : Nat → Int32 := fun j => if 48 ≤ j ∧ j < 48 + π.1 1 then nI (π.2.1 2 (j - 48)) else 0
def partF (ρ : Nat → Int32) (p q : Int32) (k : Nat) : Int32 := ρ k * p / max1 q
def moveF (ρ : Nat → Int32) (h o : Nat) (p q : Int32) : Nat → Nat → Int32
  | 0 => ρ
  | n + 1 => fun j => if j = 5 * h + n then moveF ρ h o p q n j - partF ρ p q (5 * h + n) else if j = 5 * o + n then moveF ρ h o p q n j + partF ρ p q (5 * h + n) else moveF ρ h o p q n j
theorem moveF_keep {ρ : Nat → Int32} {h o : Nat} {p q : Int32} (hho : h ≠ o) : ∀ n j, n ≤ 5 → (5 * h + n ≤ j ∨ j < 5 * h) → (5 * o + n ≤ j ∨ j < 5 * o) → moveF ρ h o p q n j = ρ j
  | 0, _, _, _, _ => rfl
  | n + 1, j, hn, h1, h2 => by
    show (if j = 5 * h + n then _ else if j = 5 * o + n then _ else _) = _
    rw [if_neg (by omega), if_neg (by omega)]
    exact moveF_keep hho n j (by omega) (by omega) (by omega)
theorem moveF_src {ρ : Nat → Int32} {h o : Nat} {p q : Int32} (hho : h ≠ o) {n : Nat} (hn : n < 5) : moveF ρ h o p q n (5 * h + n) = ρ (5 * h + n) :=
  moveF_keep hho n _ (by omega) (by omega) (by omega)
theorem allF_two {f h : Nat → Int32} {c d : Nat} {x : Int32} (hc : c < 40) (hd : d < 40) (hcd : c ≠ d) (e1 : f c = h c - x) (e2 : f d = h d + x) (e3 : ∀ k, k < 40 → k ≠ c → k ≠ d → f k = h k) : allF f = allF h := by
  unfold allF
  rw [sumF_one (c := d) (h := fun k => if k = c then h c - x else h k) 40 hd (fun k hk hkd => by
    show f k = if k = c then h c - x else h k
    by_cases hkc : k = c
    · rw [if_pos hkc, hkc]
      exact e1
    · rw [if_neg hkc]
      exact e3 k hk hkc hkd)]
  rw [sumF_one (f := fun k => if k = c then h c - x else h k) (c := c) (h := h) 40 hc (fun k hk hkc => if_neg hkc)]
  simp only [if_true, if_neg (Ne.symm hcd), e2]
  grind
theorem allF_move {ρ : Nat → Int32} {h o : Nat} {p q : Int32} (hh : h < 8) (ho : o < 8) (hho : h ≠ o) : ∀ n, n ≤ 5 → allF (moveF ρ h o p q n) = allF ρ
  | 0, _ => rfl
  | n + 1, hn => by
    refine Eq.trans ?_ (allF_move (ρ := ρ) (p := p) (q := q) hh ho hho n (by omega))
    refine allF_two (c := 5 * h + n) (d := 5 * o + n) (x := partF ρ p q (5 * h + n)) (by omega) (by omega) (by omega) ?_ ?_ (fun k hk h1 h2 => ?_)
    · show (if 5 * h + n = 5 * h + n then _ else _) = _
      rw [if_pos rfl]
    · show (if 5 * o + n = 5 * h + n then _ else if 5 * o + n = 5 * o + n then _ else _) = _
      rw [if_neg (by omega), if_pos rfl]
    · show (if k = 5 * h + n then _ else if k = 5 * o + n then _ else _) = _
      rw [if_neg h1, if_neg h2]
theorem moveF_out {ρ : Nat → Int32} {h o : Nat} {p q : Int32} (hh : h < 8) (ho : o < 8) : ∀ n j, n ≤ 5 → 40 ≤ j → moveF ρ h o p q n j = ρ j
  | 0, _, _, _ => rfl
  | n + 1, j, hn, hj => by
    show (if j = 5 * h + n then _ else if j = 5 * o + n then _ else _) = _
    rw [if_neg (by omega), if_neg (by omega)]
    exact moveF_out hh ho n j (by omega) hj
/-- islands and shares of one heir are another's -/
def mergeF (ρ : Nat → Int32) (h o : Nat) : Nat → Int32 := fun j => if j = 40 + h then 0 else if j = 40 + o then ρ (40 + o) + ρ (40 + h) else if j = 48 + h then 0 else if j = 48 + o then ρ (48 + o) + ρ (48 + h) else ρ j
theorem allF_merge (ρ : Nat → Int32) (h o : Nat) : allF (mergeF ρ h o) = allF ρ := sumF_congr 40 (fun k hk => by unfold mergeF; rw [if_neg (by omega), if_neg (by omega), if_neg (by omega), if_neg (by omega)])
