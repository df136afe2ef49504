/-! what dries -/
def sumN (f : Nat → Nat) : Nat → Nat
  | 0 => 0
  | n + 1 => sumN f n + f n
theorem sumN_congr {f h : Nat → Nat} : ∀ n, (∀ k, k < n → f k = h k) → sumN f n = sumN h n
  | 0, _ => rfl
  | n + 1, e => by
    show sumN f n + f n = sumN h n + h n
    rw [sumN_congr n (fun k hk => e k (by omega)), e n (by omega)]
theorem sumN_get {f : Nat → Nat} : ∀ n k, k < n → f k ≤ sumN f n
  | 0, _, h => absurd h (Nat.not_lt_zero _)
  | n + 1, k, h => by
    show _ ≤ sumN f n + f n
    by_cases hk : k = n
    · rw [hk]; omega
    · have := sumN_get (f := f) n k (by omega)
      omega
theorem sumN_zero {f : Nat → Nat} : ∀ n, (∀ k, k < n → f k = 0) → sumN f n = 0
  | 0, _ => rfl
  | n + 1, e => by
    show sumN f n + f n = 0
    rw [sumN_zero n (fun k hk => e k (by omega)), e n (by omega)]
theorem sumF_nI (f : Nat → Nat) : ∀ n, sumF (fun k => nI (f k)) n = nI (sumN f n)
  | 0 => rfl
  | n + 1 => by
    show sumF _ n + nI (f n) = nI (sumN f n + f n)
    rw [sumF_nI f n, nI_add]
def gN (r : Nat → Nat) (n A k : Nat) : Nat := r k * n / A
def tN (r : Nat → Nat) (n A k : Nat) : Nat := r k * n % A
theorem gt_sum (r : Nat → Nat) (n A : Nat) : ∀ m, A * sumN (gN r n A) m + sumN (tN r n A) m = n * sumN r m
  | 0 => by simp [sumN]
  | m + 1 => by
    have h1 := gt_sum r n A m
    have h2 := Nat.div_add_mod (r m * n) A
    show A * (sumN (gN r n A) m + gN r n A m) + (sumN (tN r n A) m + tN r n A m) = n * (sumN r m + r m)
    rw [Nat.mul_add, Nat.mul_add, ← h1]
    have h3 : A * gN r n A m + tN r n A m = r m * n := h2
    rw [Nat.mul_comm n (r m)]
    omega
theorem g_le {r : Nat → Nat} {n A : Nat} (hA : sumN r 40 = A) (h0 : 0 < A) : sumN (gN r n A) 40 ≤ n := by
  have h1 := gt_sum r n A 40
  rw [hA, Nat.mul_comm n A] at h1
  exact Nat.le_of_mul_le_mul_left (by omega) h0
def lackN (r : Nat → Nat) (n A : Nat) : Nat := n - sumN (gN r n A) 40
theorem lack_t {r : Nat → Nat} {n A : Nat} (hA : sumN r 40 = A) (h0 : 0 < A) : A * lackN r n A = sumN (tN r n A) 40 := by
  have h1 := gt_sum r n A 40
  have h2 := g_le (n := n) hA h0
  rw [hA, Nat.mul_comm n A] at h1
  unfold lackN
  rw [Nat.mul_sub]
  omega
/-- the first of the greatest among places 0 .. n -/
def amax (t : Nat → Nat) : Nat → Nat
  | 0 => 0
  | n + 1 => if t (amax t n) < t (n + 1) then n + 1 else amax t n
theorem amax_le (t : Nat → Nat) : ∀ n, amax t n ≤ n
  | 0 => Nat.le_refl _
  | n + 1 => by
    show (if t (amax t n) < t (n + 1) then n + 1 else amax t n) ≤ n + 1
    have := amax_le t n
    by_cases hlt : t (amax t n) < t (n + 1)
    · rw [if_pos hlt]; exact Nat.le_refl _
    · rw [if_neg hlt]; omega
theorem amax_ge (t : Nat → Nat) : ∀ n k, k ≤ n → t k ≤ t (amax t n)
  | 0, k, h => by rw [Nat.le_zero.mp h]; exact Nat.le_refl _
  | n + 1, k, h => by
    show _ ≤ t (if t (amax t n) < t (n + 1) then n + 1 else amax t n)
    have h0 := amax_ge t n
    by_cases hlt : t (amax t n) < t (n + 1)
    · rw [if_pos hlt]
      by_cases hk : k = n + 1
      · rw [hk]; exact Nat.le_refl _
      · have := h0 k (by omega)
        omega
    · rw [if_neg hlt]
      by_cases hk : k = n + 1
      · rw [hk]; omega
      · exact h0 k (by omega)
def dryT (t : Nat → Nat) : Nat → Nat → Nat
  | 0 => t
  | i + 1 => fun k => if k = amax (dryT t i) 39 then 0 else dryT t i k
def dryX (t : Nat → Nat) : Nat → Nat → Nat
  | 0 => fun _ => 0
  | i + 1 => fun k => dryX t i k + (if k = amax (dryT t i) 39 then 1 else 0)
theorem dryT_le (t : Nat → Nat) : ∀ i k, dryT t i k ≤ t k
  | 0, _ => Nat.le_refl _
  | i + 1, k => by
    show (if k = _ then 0 else dryT t i k) ≤ t k
    have := dryT_le t i k
    split <;> omega
theorem sumN_one {f h : Nat → Nat} {c : Nat} : ∀ n, c < n → (∀ k, k < n → k ≠ c → f k = h k) → sumN f n + h c = sumN h n + f c
  | 0, hc, _ => absurd hc (Nat.not_lt_zero _)
  | n + 1, hc, e => by
    show sumN f n + f n + h c = sumN h n + h n + f c
    by_cases hn : c = n
    · subst hn
      rw [sumN_congr c (fun k hk => e k (by omega) (by omega))]
      omega
    · have h1 := sumN_one n (by omega) (fun k hk => e k (by omega))
      rw [e n (by omega) (fun z => hn z.symm)]
      omega
theorem dryX_sum (t : Nat → Nat) : ∀ i, sumN (dryX t i) 40 = i
  | 0 => sumN_zero 40 (fun _ _ => rfl)
  | i + 1 => by
    have h1 := dryX_sum t i
    have hb := amax_le (dryT t i) 39
    have h2 := sumN_one (f := dryX t (i + 1)) (h := dryX t i) (c := amax (dryT t i) 39) 40 (by omega) (fun k hk hkc => by show dryX t i k + (if k = _ then 1 else 0) = _; rw [if_neg hkc, Nat.add_zero])
    have h3 : dryX t (i + 1) (amax (dryT t i) 39) = dryX t i (amax (dryT t i) 39) + 1 := by show dryX t i _ + (if _ = _ then 1 else 0) = _; rw [if_pos rfl]
    omega
/-- each that is picked has a rest: the sum of the rests is enough -/
theorem dryT_sum {t : Nat → Nat} {A : Nat} (ht : ∀ k, k < 40 → t k < A) : ∀ i, sumN t 40 ≤ sumN (dryT t i) 40 + i * (A - 1)
  | 0 => by simp [dryT]
  | i + 1 => by
    have h1 := dryT_sum ht i
    have hb := amax_le (dryT t i) 39
    have h2 := sumN_one (f := dryT t (i + 1)) (h := dryT t i) (c := amax (dryT t i) 39) 40 (by omega) (fun k hk hkc => by show (if k = _ then 0 else _) = _; rw [if_neg hkc])
    have h3 : dryT t (i + 1) (amax (dryT t i) 39) = 0 := by show (if _ = _ then 0 else _) = 0; rw [if_pos rfl]
    have h4 := dryT_le t i (amax (dryT t i) 39)
    have h5 := ht (amax (dryT t i) 39) (by omega)
    rw [Nat.succ_mul]
    omega
theorem dry_pos {r : Nat → Nat} {n A i : Nat} (hA : sumN r 40 = A) (h0 : 0 < A) (hi : i < lackN r n A) : 0 < dryT (tN r n A) i (amax (dryT (tN r n A) i) 39) := by
  have h1 := dryT_sum (t := tN r n A) (A := A) (fun k _ => Nat.mod_lt _ h0) i
  rw [← lack_t hA h0] at h1
  apply Nat.pos_of_ne_zero
  intro hz
  have h2 : sumN (dryT (tN r n A) i) 40 = 0 := sumN_zero 40 (fun k hk => by have := amax_ge (dryT (tN r n A) i) 39 k (by omega); omega)
  rw [h2, Nat.zero_add] at h1
  have h3 : A * (i + 1) ≤ A * lackN r n A := Nat.mul_le_mul_left A hi
  have h4 : i * (A - 1) ≤ i * A := Nat.mul_le_mul_left i (Nat.sub_le _ _)
  rw [Nat.mul_add, Nat.mul_comm A i] at h3
  omega
/-- a sea behind n drops that dry: r its drops -/
def dryR (ρ : Nat → Int32) (r : Nat → Nat) (n : Nat) : Nat → Int32 := fun j => if j < 40 then ρ j - nI (gN r n (sumN r 40) j) - nI (dryX (tN r n (sumN r 40)) (lackN r n (sumN r 40)) j) else ρ j
theorem sumF_sub (f h : Nat → Int32) : ∀ n, sumF (fun k => f k - h k) n = sumF f n - sumF h n
  | 0 => by simp [sumF]
  | n + 1 => by
    show sumF _ n + (f n - h n) = sumF f n + f n - (sumF h n + h n)
    rw [sumF_sub f h n]
    grind
theorem allF_dry {ρ : Nat → Int32} {r : Nat → Nat} {n : Nat} (h0 : 0 < sumN r 40) : allF (dryR ρ r n) = allF ρ - nI n := by
  unfold allF
  rw [sumF_congr (h := fun k => (ρ k - nI (gN r n (sumN r 40) k)) - nI (dryX (tN r n (sumN r 40)) (lackN r n (sumN r 40)) k)) 40 (fun k hk => by unfold dryR; rw [if_pos hk]), sumF_sub, sumF_sub, sumF_nI, sumF_nI, dryX_sum]
  have h1 := g_le (r := r) (n := n) rfl h0
  have h2 : nI n = nI (sumN (gN r n (sumN r 40)) 40) + nI (lackN r n (sumN r 40)) := by
    rw [nI_add]
    congr 1
    unfold lackN
    omega
  rw [h2]
  grind
theorem dryR_0 {ρ : Nat → Int32} {r : Nat → Nat} : dryR ρ r 0 = ρ := by
  funext j
  unfold dryR
  split
  · have h1 : lackN r 0 (sumN r 40) = 0 := by unfold lackN; omega
    rw [h1]
    show ρ j - nI (r j * 0 / sumN r 40) - nI 0 = ρ j
    rw [Nat.mul_zero, Nat.zero_div]
    show ρ j - 0 - 0 = ρ j
    grind
  · rfl
theorem allF_nat {ρ : Nat → Int32} {r : Nat → Nat} (hr : ∀ k, k < 40 → ρ k = nI (r k)) : allF ρ = nI (sumN r 40) := by
  unfold allF
  rw [sumF_congr 40 hr, sumF_nI]
