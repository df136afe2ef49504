/-! what the queries answer -/
def heirQ (π : qPl) (ρ : Nat → Int32) (h w : Int32) : Int32 := if isF (π.1 1) h = 0 then -1 else if w = 0 then dropsF ρ h.toNatClampNeg else if w = 1 then ρ (40 + h.toNatClampNeg) else if w = 2 then ρ (48 + h.toNatClampNeg) else if w = 3 then ρ (56 + h.toNatClampNeg) else if w = 4 then dueF ρ h.toNatClampNeg else if w = 5 then nI (rankN ρ (π.1 1) h.toNatClampNeg) else -1
def fromQ (h : Int32) : Nat := if h = -1 then 0 else h.toNatClampNeg
def toQ (l : Nat) (h : Int32) : Nat := if h = -1 then l else h.toNatClampNeg
abbrev badQ (n : Nat) (h : Int32) : Prop := ¬ h = -1 ∧ isF n h = 0
def dropsQ (π : qPl) (ρ : Nat → Int32) (h w : Int32) : Int32 := if badQ (π.1 1) h ∨ badQ (π.1 0) w then -1 else selF ρ (fromQ h) (toQ 7 h) (fromQ w) (toQ 4 w)
theorem goodQ {n l : Nat} {h : Int32} (hn : n ≤ l + 1) (hl : l < 8) (e : ¬ badQ n h) : (h = -1 ∧ fromQ h = 0 ∧ toQ l h = l) ∨ (h = nI (fromQ h) ∧ toQ l h = fromQ h ∧ fromQ h < l + 1) := by
  unfold fromQ toQ
  by_cases c : h = -1
  · left
    rw [if_pos c, if_pos c]
    exact ⟨c, rfl, rfl⟩
  · right
    rw [if_neg c, if_neg c]
    obtain ⟨k, hk, ek⟩ := isF_of (by omega) (fun z => e ⟨c, z⟩)
    rw [ek, nI_clamp (by omega)]
    exact ⟨rfl, rfl, by omega⟩
/-- drops of a heir as a number -/
def dN (ρ : Nat → Int32) (h : Nat) : Nat := sumN (fun w => rOf ρ (5 * h + w)) 5
theorem sumN_add (f : Nat → Nat) (a : Nat) : ∀ b, sumN f (a + b) = sumN f a + sumN (fun k => f (a + k)) b
  | 0 => rfl
  | b + 1 => by
    show sumN f (a + b) + f (a + b) = sumN f a + (sumN (fun k => f (a + k)) b + f (a + b))
    rw [sumN_add f a b]
    omega
theorem sumN_mono (f : Nat → Nat) {a b : Nat} (h : a ≤ b) : sumN f a ≤ sumN f b := by
  obtain ⟨c, rfl⟩ := Nat.exists_eq_add_of_le h
  rw [sumN_add]
  omega
theorem dN_le (ρ : Nat → Int32) {h : Nat} (hh : h < 8) : dN ρ h ≤ sumN (rOf ρ) 40 := by
  have h1 := sumN_mono (rOf ρ) (a := 5 * h + 5) (b := 40) (by omega)
  rw [sumN_add] at h1
  unfold dN
  omega
theorem okSea.drop {π : qPl} {ρ : Nat → Int32} (h : okSea π ρ) (hok : okPl π) {k : Nat} (hk : k < 8) : dropsF ρ k = nI (dN ρ k) := by
  obtain ⟨h1, h2⟩ := h.r hok
  unfold dropsF dN
  rw [sumF_congr (h := fun w => nI (rOf ρ (5 * k + w))) 5 (fun w hw => h1 _ (by omega)), sumF_nI]
theorem okSea.share {π : qPl} {ρ : Nat → Int32} (h : okSea π ρ) : ∃ s : Nat → Nat, (∀ h, h < 8 → ρ (48 + h) = nI (s h)) ∧ sumO ρ 48 = nI (sumN s 8) ∧ sumN s 8 ≤ 792 := by
  obtain ⟨r, s, z, -, -, h3, h4, -⟩ := h
  refine ⟨s, h3, ?_, h4⟩
  unfold sumO
  rw [sumF_congr (h := fun k => nI (s k)) 8 h3, sumF_nI]
def ownsQ (π : qPl) (ρ : Nat → Int32) (h b : Int32) : Int32 := if isF (π.1 1) h = 0 then -1 else if dropsF ρ h.toNatClampNeg = 0 then (if b = 0 then 0 else 1) else nI ((if b = 0 then dN ρ h.toNatClampNeg else sumN (rOf ρ) 40) / Nat.gcd (dN ρ h.toNatClampNeg) (sumN (rOf ρ) 40))
/-- claims: so much of so much of what so many have, summed and lessened -/
def claimF (π : qPl) (ρ : Nat → Int32) (k : Nat) : Nat → Nat × Nat
  | 0 => (0, 1)
  | i + 1 => (((claimF π ρ k i).1 * π.2.1 10 (6 * k + i) + (claimF π ρ k i).2 * π.2.1 9 (6 * k + i) * dN ρ (π.2.1 11 (6 * k + i))) / Nat.gcd ((claimF π ρ k i).1 * π.2.1 10 (6 * k + i) + (claimF π ρ k i).2 * π.2.1 9 (6 * k + i) * dN ρ (π.2.1 11 (6 * k + i))) ((claimF π ρ k i).2 * π.2.1 10 (6 * k + i)), ((claimF π ρ k i).2 * π.2.1 10 (6 * k + i)) / Nat.gcd ((claimF π ρ k i).1 * π.2.1 10 (6 * k + i) + (claimF π ρ k i).2 * π.2.1 9 (6 * k + i) * dN ρ (π.2.1 11 (6 * k + i))) ((claimF π ρ k i).2 * π.2.1 10 (6 * k + i)))
def claimQ (π : qPl) (ρ : Nat → Int32) (k b : Int32) : Int64 := if isF (π.1 3) k = 0 then -1 else if b = 0 then lN (claimF π ρ k.toNatClampNeg (π.2.1 8 k.toNatClampNeg)).1 else lN (claimF π ρ k.toNatClampNeg (π.2.1 8 k.toNatClampNeg)).2
/-- the claims' numbers keep the document's bounds -/
def okCl (π : qPl) : Prop := ∀ k, k < π.1 3 → π.2.1 8 k ≤ 6 ∧ ∀ i, i < π.2.1 8 k → π.2.1 9 (6 * k + i) ≤ 99 ∧ (1 ≤ π.2.1 10 (6 * k + i) ∧ π.2.1 10 (6 * k + i) ≤ 99) ∧ π.2.1 11 (6 * k + i) < π.1 1
/-- the reference's claims, on the side L -/
def qClM (M : qM) (L : Nat) (π : qPl) : Prop := ∀ k, k < π.1 3 → M.1 303 (6 * L + k) = nI (π.2.1 8 k) ∧ ∀ i, i < π.2.1 8 k → M.1 304 (6 * (6 * L + k) + i) = nI (π.2.1 9 (6 * k + i)) ∧ M.1 305 (6 * (6 * L + k) + i) = nI (π.2.1 10 (6 * k + i)) ∧ M.1 306 (6 * (6 * L + k) + i) = nI (π.2.1 11 (6 * k + i))
theorem claimF_ok {π : qPl} {ρ : Nat → Int32} {k : Nat} (hc : okCl π) (hk : k < π.1 3) (hb : ∀ h, h < π.1 1 → dN ρ h ≤ 9999) : ∀ i, i ≤ π.2.1 8 k → 1 ≤ (claimF π ρ k i).2 ∧ (claimF π ρ k i).2 ≤ 99 ^ i ∧ (claimF π ρ k i).1 ≤ i * 989901 * (claimF π ρ k i).2
  | 0, _ => ⟨Nat.le_refl _, Nat.le_refl _, Nat.zero_le _⟩
  | i + 1, hi => by
    obtain ⟨h1, h2, h3⟩ := claimF_ok hc hk hb i (by omega)
    obtain ⟨g1, g2⟩ := hc k hk
    obtain ⟨g3, ⟨g4, g5⟩, g6⟩ := g2 i (by omega)
    have g7 := hb _ g6
    show 1 ≤ _ / _ ∧ _ / _ ≤ _ ∧ _ / _ ≤ _ * (_ / _)
    generalize hu : (claimF π ρ k i).1 = u at *
    generalize hl : (claimF π ρ k i).2 = l at *
    generalize π.2.1 10 (6 * k + i) = w at *
    generalize π.2.1 9 (6 * k + i) = p at *
    generalize dN ρ (π.2.1 11 (6 * k + i)) = d at *
    generalize hN : u * w + l * p * d = N
    generalize hD : l * w = D
    have hD1 : 1 ≤ D := by rw [← hD]; exact Nat.mul_pos (by omega) (by omega)
    have hDle : D ≤ 99 ^ (i + 1) := by rw [← hD, Nat.pow_succ]; exact Nat.mul_le_mul h2 g5
    have hg : 0 < Nat.gcd N D := Nat.gcd_pos_of_pos_right _ (by omega)
    have hdvd := Nat.gcd_dvd_right N D
    have hpd : l * p * d ≤ 989901 * l := by
      have e1 : p * d ≤ 99 * 9999 := Nat.mul_le_mul g3 g7
      have e2 : l * (p * d) ≤ l * (99 * 9999) := Nat.mul_le_mul_left l e1
      rw [Nat.mul_assoc]
      omega
    have hNle : N ≤ (i + 1) * 989901 * D := by
      rw [← hN, ← hD]
      have e1 : u * w ≤ i * 989901 * l * w := Nat.mul_le_mul_right w h3
      have e2 : 989901 * l ≤ 989901 * l * w := Nat.le_mul_of_pos_right _ (by omega)
      have e3 : (i + 1) * 989901 * (l * w) = i * 989901 * l * w + 989901 * l * w := by
        rw [Nat.succ_mul, Nat.add_mul, Nat.mul_assoc (i * 989901) l w, Nat.mul_assoc 989901 l w]
      omega
    refine ⟨Nat.div_pos (Nat.le_of_dvd (by omega) hdvd) hg, Nat.le_trans (Nat.div_le_self _ _) hDle, ?_⟩
    apply Nat.le_trans (Nat.div_le_div_right hNle)
    rw [Nat.mul_div_assoc _ hdvd]
    exact Nat.le_refl _
theorem gcd_less {N D g : Nat} (hN : g ∣ N) (hD : g ∣ D) (hg : 0 < g) : N / g / Nat.gcd (N / g) (D / g) = N / Nat.gcd N D := by
  rw [Nat.gcd_div hN hD, Nat.div_div_eq_div_mul]
  rw [Nat.mul_comm, Nat.div_mul_cancel (Nat.dvd_gcd hN hD)]
def tellsQ (π : qPl) (ρ : Nat → Int32) (k : Int32) : Int32 := if isF (π.1 2) k = 0 then -1 else tellF π ρ k.toNatClampNeg
def o2n : Option Nat → Int32
  | some k => nI k
  | none => -2
def enoughQ (π : qPl) (ρ : Nat → Int32) (n : Int32) : Int32 := if n < 0 then -1 else o2n (findN (fun k => decide (n ≤ allF (weeksF π (-1) ρ k))) 201 0)
def saltyQ (π : qPl) (ρ : Nat → Int32) (t : Int32) : Int32 := if t < 0 then -1 else o2n (findN (fun k => decide (t.toInt64 ≤ saltF (weeksF π (-1) ρ k))) 201 0)
/-- who crosses, if anybody does: whoever is first -/
def topN (ρ : Nat → Int32) (hs : Nat) : Option Nat := findN (fun h => decide (rankN ρ hs h = 0)) hs 0
def crossO (ρ : Nat → Int32) (hs : Nat) (p q : Int32) : Option Nat := match topN ρ hs with
  | none => none
  | some h => if 0 < allF ρ ∧ allF ρ * p ≤ dropsF ρ h * q then some h else none
def findO (f : Nat → Option Nat) : Nat → Nat → Option (Nat × Nat)
  | 0, _ => none
  | m + 1, i => match f i with
    | some h => some (i, h)
    | none => findO f m (i + 1)
abbrev crossOk (p q w : Int32) : Prop := ¬ inF 1 99 q = 0 ∧ ¬ inF 1 q p = 0 ∧ ¬ inF 0 1 w = 0
def crossedQ (π : qPl) (ρ : Nat → Int32) (p q w : Int32) : Int32 := if crossOk p q w then (match findO (fun k => crossO (weeksF π (-1) ρ k) (π.1 1) p q) 201 0 with
  | some (k, h) => if w = 0 then nI k else nI h
  | none => -2) else -1
