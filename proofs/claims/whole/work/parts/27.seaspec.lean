/-! plans, and what happens to a sea -/
abbrev qPl : Type := (Nat → Nat) × (Nat → Nat → Nat) × (Nat → (Nat → Int32) → Int32)
def qIsP (p : Nat) : Prop := (∀ i, i < 19 → qsh (p + i) = qsh (242 + i)) ∧ 242 ≤ p ∧ p + 18 < 280
theorem qIsP_1 : qIsP 242 := ⟨fun _ _ => rfl, by decide, by decide⟩
theorem qIsP_2 : qIsP 261 := ⟨by decide +kernel, by decide, by decide⟩
theorem qIsP.l {p : Nat} (h : qIsP p) : qIsL (p + 10) := ⟨h.1 10 (by decide), h.1 11 (by decide), h.1 12 (by decide), h.1 13 (by decide), by have := h.2.2; omega⟩
def lenP (π : qPl) (c : Nat) : Nat := if c < 2 then π.1 0 else if c < 6 then π.1 1 else π.1 2
/-- a law stands in the cells from a place on -/
def qLaw (M : qM) (q pl : Nat) (f : (Nat → Int32) → Int32) : Prop := pl ≤ 802 ∧ ∀ sz, M.1 q 6 = nI sz → sz ≤ 802 → ∀ v, runC (M.1 (q + 1)) sz v 802 pl [] = some (f v)
/-- a class's plan at p tells π; what the weeks use of it -/
def qPlan (M : qM) (p : Nat) (π : qPl) : Prop :=
  (M.1 p 11 = nI (π.1 0) ∧ M.1 p 12 = nI (π.1 1) ∧ M.1 p 13 = nI (π.1 2) ∧ M.1 p 15 = nI (π.1 4) ∧ M.1 p 16 = nI (π.1 5)) ∧
  (∀ c i, c < 8 → i < lenP π c → M.1 (p + (1 + c)) i = nI (π.2.1 c i)) ∧
  (∃ sz, sz ≤ 802 ∧ M.1 (p + 10) 6 = nI sz) ∧
  (∀ k, k < π.1 2 → ∃ pl, M.1 (p + 9) k = nI pl ∧ qLaw M (p + 10) pl (π.2.2 k)) ∧
  ((M.1 p 14 = -1 ∧ ∀ v, π.2.2 16 v = 0) ∨ ∃ pl, M.1 p 14 = nI pl ∧ qLaw M (p + 10) pl (π.2.2 16))
/-- the numbers of a plan keep the document's bounds -/
def okPl (π : qPl) : Prop := π.1 0 ≤ 5 ∧ π.1 1 ≤ 8 ∧ π.1 2 ≤ 16 ∧ π.1 3 ≤ 6 ∧ π.1 4 ≤ 9999 ∧ π.1 5 ≤ 9999 ∧ (∀ i, i < π.1 0 → π.2.1 0 i ≤ 99 ∧ π.2.1 1 i ≤ 9) ∧ (∀ i, i < π.1 1 → π.2.1 2 i ≤ 99 ∧ π.2.1 3 i ≤ 99 ∧ π.2.1 4 i ≤ 999 ∧ π.2.1 5 i ≤ 999) ∧ (∀ k, k < π.1 2 → π.2.1 6 k < π.1 1 ∧ π.2.1 7 k < π.1 0)
/-- what a week writes of the plan's machine -/
def SP (p : Nat) : Nat → Nat → Prop := fun b j => (b = p + 10 ∧ (j = 3 ∨ j = 4 ∨ j = 5)) ∨ b = p + 12 ∨ b = p + 13
def SS (a : Nat) : Nat → Nat → Prop := fun b _ => a ≤ b ∧ b ≤ a + 5
theorem qLaw.fr {S : Nat → Nat → Prop} {M M' : qM} {q pl : Nat} {f : (Nat → Int32) → Int32} (h : qLaw M q pl f) (hf : qFr S M M') (h6 : ¬ S q 6) (hc : ∀ j, ¬ S (q + 1) j) : qLaw M' q pl f := by
  refine ⟨h.1, fun sz hz hs v => ?_⟩
  rw [show M'.1 (q + 1) = M.1 (q + 1) from funext fun j => hf.1 _ _ (hc j)]
  exact h.2 sz (by rw [← hf.1 _ _ h6]; exact hz) hs v
theorem qPlan.fr {S : Nat → Nat → Prop} {M M' : qM} {p : Nat} {π : qPl} (h : qPlan M p π) (hf : qFr S M M') (hd : ∀ i j, i < 19 → S (p + i) j → (i = 10 ∧ j ≠ 6) ∨ 12 ≤ i) : qPlan M' p π := by
  obtain ⟨⟨h1, h2, h3, h4, h5⟩, h6, ⟨sz, h7, h7b⟩, h8, h9⟩ := h
  have e : ∀ i j, i < 12 → (i = 10 → j = 6) → M'.1 (p + i) j = M.1 (p + i) j := fun i j hi hj => hf.1 _ _ (fun z => by rcases hd i j (by omega) z with ⟨h, h'⟩ | h <;> omega)
  have e0 : ∀ j, M'.1 p j = M.1 p j := fun j => e 0 j (by omega) (by omega)
  have hl : ∀ pl f, qLaw M (p + 10) pl f → qLaw M' (p + 10) pl f := fun pl f hl => hl.fr hf (fun z => by rcases hd 10 6 (by omega) z with ⟨h, h'⟩ | h <;> omega) (fun j z => by rcases hd 11 j (by omega) z with ⟨h, h'⟩ | h <;> omega)
  refine ⟨⟨by rw [e0]; exact h1, by rw [e0]; exact h2, by rw [e0]; exact h3, by rw [e0]; exact h4, by rw [e0]; exact h5⟩, fun c i hc hi => by rw [e _ _ (by omega) (by omega)]; exact h6 c i hc hi, ⟨sz, h7, by rw [e _ _ (by omega) (by omega)]; exact h7b⟩, fun k hk => ?_, ?_⟩
  · obtain ⟨pl, a1, a2⟩ := h8 k hk
    exact ⟨pl, by rw [e 9 k (by omega) (by omega)]; exact a1, hl _ _ a2⟩
  · rcases h9 with ⟨a1, a2⟩ | ⟨pl, a1, a2⟩
    · exact Or.inl ⟨by rw [e0]; exact a1, a2⟩
    · exact Or.inr ⟨pl, by rw [e0]; exact a1, hl _ _ a2⟩
def minI (x y : Int32) : Int32 := if y < x then y else x
def maxI (x y : Int32) : Int32 := if x < y then y else x
/-- drops come in: of heir h, water w, of this salt, n drops, into a basin -/
def comesF (basin : Int32) (n : Int32) (ρ : Nat → Int32) : Int32 := minI n (basin - allF ρ)
def letInF (basin : Int32) (h w : Nat) (salt : Int32) (n : Int32) (ρ : Nat → Int32) : Nat → Int32 := fun j => if j = 5 * h + w then ρ j + comesF basin n ρ else if j = 40 + h then ρ j + (n - comesF basin n ρ) else if j = 56 + h then ρ j + comesF basin n ρ else if j = 65 then minI 1000000000 (ρ 65 + comesF basin n ρ * salt) else ρ j
/-- the variables of a law -/
def varsF (week level salt share sent lot : Int32) (i : Nat) : Int32 := if i = 0 then week else if i = 1 then level else if i = 2 then salt else if i = 3 then share else if i = 4 then sent else lot
def tellF (π : qPl) (ρ : Nat → Int32) (k : Nat) : Int32 := maxI 0 (minI 99 (π.2.2 k (varsF (ρ 64) (allF ρ) (ρ 65) (ρ (48 + π.2.1 6 k)) (ρ (56 + π.2.1 6 k)) (lotF (nI (π.1 5)) (20 * ρ 64 + nI k)))))
def dryTellF (π : qPl) (ρ : Nat → Int32) : Int32 := maxI 0 (minI (allF ρ) (π.2.2 16 (varsF (ρ 64) (allF ρ) (ρ 65) (sumO ρ 48) (sumO ρ 56) (lotF (nI (π.1 5)) (20 * ρ 64 + 19)))))
theorem sumF_one {f h : Nat → Int32} {c : Nat} : ∀ n, c < n → (∀ k, k < n → k ≠ c → f k = h k) → sumF f n = sumF h n + (f c - h c)
  | 0, hc, _ => absurd hc (Nat.not_lt_zero _)
  | n + 1, hc, e => by
    show sumF f n + f n = sumF h n + h n + (f c - h c)
    by_cases hn : c = n
    · subst hn
      rw [sumF_congr c (fun k hk => e k (by omega) (by omega))]
      grind
    · rw [sumF_one n (by omega) (fun k hk => e k (by omega)), e n (by omega) (fun z => hn z.symm)]
      grind
theorem allF_letIn (basin : Int32) {h w : Nat} (hh : h < 8) (hw : w < 5) (salt n : Int32) (ρ : Nat → Int32) : allF (letInF basin h w salt n ρ) = allF ρ + comesF basin n ρ := by
  unfold allF
  rw [sumF_one (c := 5 * h + w) (h := ρ) 40 (by omega) (fun k hk hkc => by unfold letInF; rw [if_neg hkc, if_neg (by omega), if_neg (by omega), if_neg (by omega)])]
  unfold letInF
  rw [if_pos rfl]
  grind
