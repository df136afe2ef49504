/-! what the classes compute, in numbers of 32 bits -/
def sumF (f : Nat → Int32) : Nat → Int32
  | 0 => 0
  | n + 1 => sumF f n + f n
theorem sumF_congr {f h : Nat → Int32} : ∀ n, (∀ k, k < n → f k = h k) → sumF f n = sumF h n
  | 0, _ => rfl
  | n + 1, e => by
    show sumF f n + f n = sumF h n + h n
    rw [sumF_congr n (fun k hk => e k (by omega)), e n (by omega)]
theorem sumF_zero {f : Nat → Int32} {a : Nat} : ∀ b, a ≤ b → (∀ k, a ≤ k → k < b → f k = 0) → sumF f b = sumF f a
  | 0, h, _ => by rw [Nat.le_zero.mp h]
  | b + 1, h, e => by
    by_cases hb : a = b + 1
    · rw [hb]
    · show sumF f b + f b = _
      rw [e b (by omega) (by omega), sumF_zero b (by omega) (fun k h1 h2 => e k h1 (by omega)), Int32.add_zero]
theorem sumF_add (f : Nat → Int32) (a : Nat) : ∀ b, sumF f (a + b) = sumF f a + sumF (fun k => f (a + k)) b
  | 0 => (Int32.add_zero _).symm
  | b + 1 => by
    show sumF f (a + b) + f (a + b) = sumF f a + (sumF (fun k => f (a + k)) b + f (a + b))
    rw [sumF_add f a b, Int32.add_assoc]
/-- the drops of the chosen heirs and waters -/
def selF (ρ : Nat → Int32) (fh lh fw lw : Nat) : Int32 := sumF (fun k => if fh ≤ k / 5 ∧ k / 5 ≤ lh ∧ fw ≤ k % 5 ∧ k % 5 ≤ lw then ρ k else 0) 40
def dropsF (ρ : Nat → Int32) (h : Nat) : Int32 := sumF (fun w => ρ (5 * h + w)) 5
def allF (ρ : Nat → Int32) : Int32 := sumF ρ 40
theorem selF_drops (ρ : Nat → Int32) {h : Nat} (hh : h < 8) : selF ρ h h 0 4 = dropsF ρ h := by
  unfold selF dropsF
  rw [sumF_zero (a := 5 * h + 5) 40 (by omega) (fun k h1 h2 => if_neg (by omega)), sumF_add, sumF_zero (a := 0) (5 * h) (Nat.zero_le _) (fun k h1 h2 => if_neg (by omega))]
  rw [show sumF _ 0 = (0 : Int32) from rfl, Int32.zero_add]
  exact sumF_congr 5 (fun k hk => if_pos (by omega))
theorem selF_all (ρ : Nat → Int32) : selF ρ 0 7 0 4 = allF ρ := by
  unfold selF allF
  exact sumF_congr 40 (fun k hk => if_pos (by omega))
theorem nI_m1 {n : Nat} (h : n < 2 ^ 31) : ¬ nI n = -1 := by
  intro e
  have h1 := nI_toInt h
  rw [e] at h1
  have h2 : (-1 : Int32).toInt = -1 := by decide
  omega
/-- a class's sea at a holds the numbers ρ: drops, islands, shares, sent, week, salt -/
def qIsS (a : Nat) : Prop := qsh a = (6, 0) ∧ qsh (a + 1) = (40, 40) ∧ qsh (a + 2) = (40, 40) ∧ qsh (a + 3) = (40, 8) ∧ qsh (a + 4) = (40, 8) ∧ qsh (a + 5) = (40, 8) ∧ a + 5 < 280
def qSea (M : qM) (a : Nat) (ρ : Nat → Int32) : Prop := (∀ k, k < 40 → M.1 (a + 1) k = ρ k) ∧ (∀ k, k < 8 → M.1 (a + 3) k = ρ (40 + k)) ∧ (∀ k, k < 8 → M.1 (a + 4) k = ρ (48 + k)) ∧ (∀ k, k < 8 → M.1 (a + 5) k = ρ (56 + k)) ∧ M.1 a 5 = allF ρ ∧ M.1 a 6 = ρ 65 ∧ M.1 a 7 = ρ 64
theorem qIsS_mem {i : Nat} (h : i < 33) : qIsS (16 + 6 * i) := (show ∀ i, i < 33 → (qsh (16 + 6 * i) = (6, 0) ∧ qsh (16 + 6 * i + 1) = (40, 40) ∧ qsh (16 + 6 * i + 2) = (40, 40) ∧ qsh (16 + 6 * i + 3) = (40, 8) ∧ qsh (16 + 6 * i + 4) = (40, 8) ∧ qsh (16 + 6 * i + 5) = (40, 8) ∧ 16 + 6 * i + 5 < 280) by decide +kernel) i h
theorem qIsS_sea : qIsS 224 := ⟨rfl, rfl, rfl, rfl, rfl, rfl, by decide⟩
theorem qIsS_trial : qIsS 230 := ⟨rfl, rfl, rfl, rfl, rfl, rfl, by decide⟩
theorem qIsS_other : qIsS 236 := ⟨rfl, rfl, rfl, rfl, rfl, rfl, by decide⟩
theorem qSea.fr {S : Nat → Prop} {M M' : qM} {a : Nat} {ρ : Nat → Int32} (h : qSea M a ρ) (hf : qFr S M M') (hd : ∀ j, j < 6 → ¬ S (a + j)) : qSea M' a ρ := by
  obtain ⟨h1, h2, h3, h4, h5, h6, h7⟩ := h
  have e := hf.1
  have e0 : ∀ j, M'.1 a j = M.1 a j := fun j => e a j (hd 0 (by omega))
  exact ⟨fun k hk => by rw [e _ _ (hd 1 (by omega))]; exact h1 k hk, fun k hk => by rw [e _ _ (hd 3 (by omega))]; exact h2 k hk, fun k hk => by rw [e _ _ (hd 4 (by omega))]; exact h3 k hk, fun k hk => by rw [e _ _ (hd 5 (by omega))]; exact h4 k hk, by rw [e0]; exact h5, by rw [e0]; exact h6, by rw [e0]; exact h7⟩
