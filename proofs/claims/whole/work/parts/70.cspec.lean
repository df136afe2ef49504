/-! the class between two calls -/
def SQx (p : Nat) : Nat → Nat → Prop := fun b j => (221 ≤ b ∧ b ≤ 223) ∨ (230 ≤ b ∧ b ≤ 241) ∨ SP p b j
def qWill (M : qM) (p : Nat) (π : qPl) : Prop := M.1 (p + 14) 5 = nI (π.1 3) ∧ (∀ k, k < π.1 3 → M.1 (p + 18) k = nI (sumN (π.2.1 8) (k + 1))) ∧ ∀ k i, k < π.1 3 → i < π.2.1 8 k → M.1 (p + 15) (sumN (π.2.1 8) k + i) = nI (π.2.1 9 (6 * k + i)) ∧ M.1 (p + 16) (sumN (π.2.1 8) k + i) = nI (π.2.1 10 (6 * k + i)) ∧ M.1 (p + 17) (sumN (π.2.1 8) k + i) = nI (π.2.1 11 (6 * k + i))
theorem qWill.fr {S : Nat → Nat → Prop} {M M' : qM} {p : Nat} {π : qPl} (h : qWill M p π) (hf : qFr S M M') (hd : ∀ i j, S (p + i) j → i < 14 ∨ 18 < i) : qWill M' p π := by
  have e : ∀ i j, 14 ≤ i → i ≤ 18 → M'.1 (p + i) j = M.1 (p + i) j := fun i j h1 h2 => hf.1 _ _ (fun z => by have := hd i j z; omega)
  obtain ⟨h1, h2, h3⟩ := h
  exact ⟨(e 14 5 (by omega) (by omega)).trans h1, fun k hk => (e 18 k (by omega) (by omega)).trans (h2 k hk), fun k i hk hi => ⟨(e 15 _ (by omega) (by omega)).trans (h3 k i hk hi).1, (e 16 _ (by omega) (by omega)).trans (h3 k i hk hi).2.1, (e 17 _ (by omega) (by omega)).trans (h3 k i hk hi).2.2⟩⟩
theorem and_bit : ∀ s, s < 256 → ∀ h, h < 8 → ((nI s &&& ((1 : Int32) <<< (nI h &&& 31)) = 0) ↔ bitF (nI s) h = 0) := by decide +kernel
/-- how many bits are set, as the JDK counts -/
def bc1 (x : Int32) : Int32 := x - (ushF x 1 &&& 1431655765)
def bc2 (x : Int32) : Int32 := (x &&& 858993459) + (ushF x 2 &&& 858993459)
def bc3 (x : Int32) : Int32 := (x + ushF x 4) &&& 252645135
def bc4 (x : Int32) : Int32 := x + ushF x 8
def bc5 (x : Int32) : Int32 := x + ushF x 16
theorem bc_is : ∀ s, s < 256 → (bc5 (bc4 (bc3 (bc2 (bc1 (nI s)))))) &&& 63 = nI (popN s) := by decide +kernel
