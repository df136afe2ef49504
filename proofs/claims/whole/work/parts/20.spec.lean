/-! what the classes compute, in numbers of 32 bits -/
def sumF (f : Nat → Int32) : Nat → Int32
  | 0 => 0
  | n + 1 => sumF f n + f n
theorem sumF_congr {f h : Nat → Int32} : ∀ n, (∀ k, k < n → f k = h k) → sumF f n = sumF h n
  | 0, _ => rfl
  | n + 1, e => by
    show sumF f n + f n = sumF h n + h n
    rw [sumF_congr n (fun k hk => e k (by omega)), e n (by omega)]
theorem sumF_zero {f : Nat → Int32} {a : Nat} : ∀ b, a ≤ b → (∀ k, a ≤ k → k < b → f k = 0) → sumF f b = sumF f a
  | 0, h, _ => by rw [Nat.le_zero.mp h]
  | b + 1, h, e => by
    by_cases hb : a = b + 1
    · rw [hb]
    · show sumF f b + f b = _
      rw [e b (by omega) (by omega), sumF_zero b (by omega) (fun k h1 h2 => e k h1 (by omega)), Int32.add_zero]
theorem sumF_add (f : Nat → Int32) (a : Nat) : ∀ b, sumF f (a + b) = sumF f a + sumF (fun k => f (a + k)) b
  | 0 => (Int32.add_zero _).symm
  | b + 1 => by
    show sumF f (a + b) + f (a + b) = sumF f a + (sumF (fun k => f (a + k)) b + f (a + b))
    rw [sumF_add f a b, Int32.add_assoc]
/-- the drops of the chosen heirs and waters -/
def selF (ρ : Nat → Int32) (fh lh fw lw : Nat) : Int32 := sumF (fun k => if fh ≤ k / 5 ∧ k / 5 ≤ lh ∧ fw ≤ k % 5 ∧ k % 5 ≤ lw then ρ k else 0) 40
def dropsF (ρ : Nat → Int32) (h : Nat) : Int32 := sumF (fun w => ρ (5 * h + w)) 5
def allF (ρ : Nat → Int32) : Int32 := sumF ρ 40
theorem selF_drops (ρ : Nat → Int32) {h : Nat} (hh : h < 8) : selF ρ h h 0 4 = dropsF ρ h := by
  unfold selF dropsF
  rw [sumF_zero (a := 5 * h + 5) 40 (by omega) (fun k h1 h2 => if_neg (by omega)), sumF_add, sumF_zero (a := 0) (5 * h) (Nat.zero_le _) (fun k h1 h2 => if_neg (by omega))]
  rw [show sumF _ 0 = (0 : Int32) from rfl, Int32.zero_add]
  exact sumF_congr 5 (fun k hk => if_pos (by omega))
theorem selF_all (ρ : Nat → Int32) : selF ρ 0 7 0 4 = allF ρ := by
  unfold selF allF
  exact sumF_congr 40 (fun k hk => if_pos (by omega))
theorem nI_m1 {n : Nat} (h : n < 2 ^ 31) : ¬ nI n = -1 := by
  intro e
  have h1 := nI_toInt h
  rw [e] at h1
  have h2 : (-1 : Int32).toInt = -1 := by decide
  omega
/-- a class's sea at a holds the numbers ρ: drops, islands, shares, sent, week, salt -/
def qIsS (a : Nat) : Prop := qsh a = (6, 0) ∧ qsh (a + 1) = (40, 40) ∧ qsh (a + 2) = (40, 40) ∧ qsh (a + 3) = (40, 8) ∧ qsh (a + 4) = (40, 8) ∧ qsh (a + 5) = (40, 8) ∧ a + 5 < 280
def qSea (M : qM) (a : Nat) (ρ : Nat → Int32) : Prop := (∀ k, k < 40 → M.1 (a + 1) k = ρ k) ∧ (∀ k, k < 8 → M.1 (a + 3) k = ρ (40 + k)) ∧ (∀ k, k < 8 → M.1 (a + 4) k = ρ (48 + k)) ∧ (∀ k, k < 8 → M.1 (a + 5) k = ρ (56 + k)) ∧ M.1 a 5 = allF ρ ∧ M.1 a 6 = ρ 65 ∧ M.1 a 7 = ρ 64
theorem qIsS_mem {i : Nat} (h : i < 33) : qIsS (16 + 6 * i) := (show ∀ i, i < 33 → (qsh (16 + 6 * i) = (6, 0) ∧ qsh (16 + 6 * i + 1) = (40, 40) ∧ qsh (16 + 6 * i + 2) = (40, 40) ∧ qsh (16 + 6 * i + 3) = (40, 8) ∧ qsh (16 + 6 * i + 4) = (40, 8) ∧ qsh (16 + 6 * i + 5) = (40, 8) ∧ 16 + 6 * i + 5 < 280) by decide +kernel) i h
theorem qIsS_sea : qIsS 224 := ⟨rfl, rfl, rfl, rfl, rfl, rfl, by decide⟩
theorem qIsS_trial : qIsS 230 := ⟨rfl, rfl, rfl, rfl, rfl, rfl, by decide⟩
theorem qIsS_other : qIsS 236 := ⟨rfl, rfl, rfl, rfl, rfl, rfl, by decide⟩
theorem qSea.fr {S : Nat → Nat → Prop} {M M' : qM} {a : Nat} {ρ : Nat → Int32} (h : qSea M a ρ) (hf : qFr S M M') (hd : ∀ j k, j < 6 → ¬ S (a + j) k) : qSea M' a ρ := by
  obtain ⟨h1, h2, h3, h4, h5, h6, h7⟩ := h
  have e := hf.1
  have e0 : ∀ j, M'.1 a j = M.1 a j := fun j => e a j (hd 0 j (by omega))
  exact ⟨fun k hk => by rw [e _ _ (hd 1 k (by omega))]; exact h1 k hk, fun k hk => by rw [e _ _ (hd 3 k (by omega))]; exact h2 k hk, fun k hk => by rw [e _ _ (hd 4 k (by omega))]; exact h3 k hk, fun k hk => by rw [e _ _ (hd 5 k (by omega))]; exact h4 k hk, by rw [e0]; exact h5, by rw [e0]; exact h6, by rw [e0]; exact h7⟩
def sumO (ρ : Nat → Int32) (o : Nat) : Int32 := sumF (fun k => ρ (o + k)) 8
def cntN (P : Nat → Bool) : Nat → Nat
  | 0 => 0
  | n + 1 => cntN P n + (if P n then 1 else 0)
theorem cntN_le (P : Nat → Bool) : ∀ n, cntN P n ≤ n
  | 0 => Nat.le_refl _
  | n + 1 => by
    have := cntN_le P n
    show cntN P n + _ ≤ _
    split <;> omega
def findN (P : Nat → Bool) : Nat → Nat → Option Nat
  | 0, _ => none
  | m + 1, i => if P i then some i else findN P m (i + 1)
def o2i : Option Nat → Int32
  | some k => nI k
  | none => -1
def rankN (ρ : Nat → Int32) (hs h : Nat) : Nat := cntN (fun o => decide (dropsF ρ h < dropsF ρ o ∨ (dropsF ρ o = dropsF ρ h ∧ o < h))) hs
def rankedF (ρ : Nat → Int32) (hs : Nat) (r : Int32) : Int32 := o2i (findN (fun h => decide (nI (rankN ρ hs h) = r)) hs 0)
def bitF (b : Int32) (h : Nat) : Int32 := (b >>> (nI h &&& 31)) &&& 1
def sumW (ρ : Nat → Int32) (b : Int32) : Int32 := sumF (fun h => if bitF b h = 0 then 0 else dropsF ρ h) 8
def winsF (ρ : Nat → Int32) (b : Int32) : Int32 := if 2 * sumW ρ b ≤ allF ρ then 0 else 1
def saltF (ρ : Nat → Int32) : Int64 := if allF ρ ≤ 0 then 0 else (ρ 65).toInt64 * 1000 / (allF ρ).toInt64
def max1 (x : Int32) : Int32 := if 1 < x then x else 1
def dueF (ρ : Nat → Int32) (h : Nat) : Int32 := allF ρ * ρ (48 + h) / max1 (sumO ρ 48)
theorem max1_ne (x : Int32) : ¬ max1 x = 0 := by
  unfold max1
  split
  · intro e
    rename_i h
    rw [e] at h
    exact absurd h (by decide)
  · decide
theorem toInt64_ne {x : Int32} (h : ¬ x ≤ 0) : ¬ x.toInt64 = 0 := by
  intro e
  apply h
  have h1 : x.toInt64.toInt = x.toInt := by simp
  rw [e] at h1
  have h2 : (0 : Int64).toInt = 0 := by decide
  apply Int32.le_iff_toInt_le.mpr
  have h3 : (0 : Int32).toInt = 0 := by decide
  omega
