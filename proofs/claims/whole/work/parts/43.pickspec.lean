/-! the reference's picks are the class's -/
def aZ (z : Nat → Int) : Nat → Nat
  | 0 => 0
  | n + 1 => if z (aZ z n) < z (n + 1) then n + 1 else aZ z n
theorem aZ_spec (z : Nat → Int) : ∀ n, aZ z n ≤ n ∧ (∀ k, k ≤ n → z k ≤ z (aZ z n)) ∧ (∀ k, k < aZ z n → z k < z (aZ z n))
  | 0 => ⟨Nat.le_refl _, fun k hk => by rw [Nat.le_zero.mp hk]; exact Int.le_refl _, fun k hk => absurd hk (Nat.not_lt_zero _)⟩
  | n + 1 => by
    obtain ⟨h1, h2, h3⟩ := aZ_spec z n
    have e : aZ z (n + 1) = if z (aZ z n) < z (n + 1) then n + 1 else aZ z n := rfl
    by_cases hc : z (aZ z n) < z (n + 1)
    · rw [e, if_pos hc]
      refine ⟨Nat.le_refl _, fun k hk => ?_, fun k hk => ?_⟩
      · by_cases hk2 : k = n + 1
        · rw [hk2]; exact Int.le_refl _
        · have := h2 k (by omega)
          omega
      · have := h2 k (by omega)
        omega
    · rw [e, if_neg hc]
      refine ⟨by omega, fun k hk => ?_, h3⟩
      by_cases hk2 : k = n + 1
      · rw [hk2]; omega
      · exact h2 k (by omega)
theorem aZ_uni {z : Nat → Int} {n b : Nat} (hb : b ≤ n) (h1 : ∀ k, k ≤ n → z k ≤ z b) (h2 : ∀ k, k < b → z k < z b) : aZ z n = b := by
  obtain ⟨g1, g2, g3⟩ := aZ_spec z n
  have e1 := h1 _ g1
  have e2 := g2 b hb
  rcases Nat.lt_trichotomy (aZ z n) b with h | h | h
  · have := h2 _ h
    omega
  · exact h
  · have := g3 _ h
    omega
theorem amax_aZ (t : Nat → Nat) : ∀ n, amax t n = aZ (fun k => (t k : Int)) n
  | 0 => rfl
  | n + 1 => by
    have e1 : amax t (n + 1) = if t (amax t n) < t (n + 1) then n + 1 else amax t n := rfl
    have e2 : aZ (fun k => (t k : Int)) (n + 1) = if (t (aZ (fun k => (t k : Int)) n) : Int) < (t (n + 1) : Int) then n + 1 else aZ (fun k => (t k : Int)) n := rfl
    rw [e1, e2, ← amax_aZ t n]
    by_cases h : t (amax t n) < t (n + 1)
    · rw [if_pos h, if_pos (by omega)]
    · rw [if_neg h, if_neg (by omega)]
def leftZ (t : Nat → Nat) (i k : Nat) : Int := if dryX t i k = 0 then (dryT t i k : Int) else -1
theorem pickZ {r : Nat → Nat} {n A i : Nat} (hA : sumN r 40 = A) (h0 : 0 < A) (hn : n ≤ A) (hi : i < lackN r n A) : aZ (leftZ (tN r n A) i) 39 = amax (dryT (tN r n A) i) 39 := by
  have hp := dry_pos hA h0 hi
  obtain ⟨g1, g2, g3⟩ := aZ_spec (fun k => (dryT (tN r n A) i k : Int)) 39
  rw [← amax_aZ] at g1 g2 g3
  generalize hb : amax (dryT (tN r n A) i) 39 = b at *
  have hx : dryX (tN r n A) i b = 0 := by
    rcases (dryX_bound hA h0 hn i (by omega) b (by omega)).2 with h | h <;> omega
  have eb : leftZ (tN r n A) i b = (dryT (tN r n A) i b : Int) := by unfold leftZ; rw [if_pos hx]
  have le : ∀ k, leftZ (tN r n A) i k ≤ (dryT (tN r n A) i k : Int) := fun k => by unfold leftZ; split <;> omega
  refine aZ_uni g1 (fun k hk => ?_) (fun k hk => ?_)
  · have := le k
    have := g2 k hk
    omega
  · have := le k
    have := g3 k hk
    omega
theorem leftZ_s {t : Nat → Nat} {i k : Nat} : leftZ t (i + 1) k = if k = amax (dryT t i) 39 then -1 else leftZ t i k := by
  unfold leftZ
  have e1 : dryX t (i + 1) k = dryX t i k + (if k = amax (dryT t i) 39 then 1 else 0) := rfl
  have e2 : dryT t (i + 1) k = if k = amax (dryT t i) 39 then 0 else dryT t i k := rfl
  rw [e1, e2]
  by_cases h : k = amax (dryT t i) 39
  · rw [if_pos h, if_pos h, if_pos h, if_neg (by omega)]
  · rw [if_neg h, if_neg h, if_neg h, Nat.add_zero]
theorem lg_le {x y : Int64} : lg_cmp x y ≤ 0 ↔ x.toInt ≤ y.toInt := by
  unfold lg_cmp
  by_cases h1 : x > y
  · rw [if_pos h1]
    have := Int64.lt_iff_toInt_lt.mp h1
    constructor
    · intro h; exact absurd h (by decide)
    · intro h; omega
  · rw [if_neg h1]
    have h2 : x.toInt ≤ y.toInt := Int64.le_iff_toInt_le.mp (Int64.not_lt.mp h1)
    refine ⟨fun _ => h2, fun _ => ?_⟩
    split <;> decide
