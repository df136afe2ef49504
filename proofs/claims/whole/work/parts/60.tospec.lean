/-! levels that were told; what is held; the tape -/
abbrev qTo : Type := Nat × (Nat → Nat) × (Nat → Nat)
def okTo (τ : qTo) : Prop := τ.1 ≤ 20 ∧ ∀ i, i < τ.1 → τ.2.1 i ≤ 99 ∧ τ.2.2 i ≤ 9999
def qToM (M : qM) (τ : qTo) : Prop := M.1 280 72 = nI τ.1 ∧ ∀ i, i < τ.1 → M.1 329 i = nI (τ.2.1 i) ∧ M.1 330 i = nI (τ.2.2 i)
/-- how many weeks the first k need -/
def lastF (τ : qTo) : Nat → Nat
  | 0 => 0
  | k + 1 => if lastF τ k < τ.2.1 k + 1 then τ.2.1 k + 1 else lastF τ k
theorem lastF_le {τ : qTo} (h : okTo τ) : ∀ k, k ≤ τ.1 → lastF τ k ≤ 100
  | 0, _ => Nat.zero_le _
  | k + 1, hk => by
    have h1 := lastF_le h k (by omega)
    have h2 := (h.2 k (by omega)).1
    show (if lastF τ k < τ.2.1 k + 1 then τ.2.1 k + 1 else lastF τ k) ≤ 100
    split <;> omega
def seqF (π : qPl) (a : Nat → Int32) : Nat → Nat → Int32
  | 0 => beginF π
  | w + 1 => weekF π (a w) (seqF π a w)
theorem okSea.seq {π : qPl} (hok : okPl π) (h0 : okSea π (beginF π)) (a : Nat → Int32) : ∀ w, okSea π (seqF π a w)
  | 0 => h0
  | w + 1 => (okSea.seq hok h0 a w).week hok
theorem weekF_64 {π : qPl} (hok : okPl π) (away : Int32) (ρ : Nat → Int32) : weekF π away ρ 64 = ρ 64 + 1 := by
  have h := sendsF_64 (ρ := ρ) (away := away) hok (π.1 2) (Nat.le_refl _)
  unfold weekF tickF dryF dryR
  rw [if_pos rfl]
  rw [if_neg (by omega), h]
theorem beginF_64 {π : qPl} (hok : okPl π) : beginF π 64 = 0 := by
  have := hok.2.1
  unfold beginF
  exact if_neg (by omega)
theorem seqF_64 {π : qPl} (hok : okPl π) (a : Nat → Int32) : ∀ w, seqF π a w 64 = nI w
  | 0 => beginF_64 hok
  | w + 1 => by
    show weekF π (a w) (seqF π a w) 64 = _
    rw [weekF_64 hok, seqF_64 hok a w, nI_1]
/-- the first below k -/
def fstO (P : Nat → Bool) : Nat → Option Nat
  | 0 => none
  | k + 1 => match fstO P k with
    | some i => some i
    | none => if P k then some k else none
theorem fstO_c {P : Nat → Bool} {k i : Nat} (h : fstO P k = some i) : fstO P (k + 1) = some i := by
  show (match fstO P k with
    | some i => some i
    | none => if P k then some k else none) = _
  rw [h]
theorem fstO_n {P : Nat → Bool} {k : Nat} (h : fstO P k = none) : fstO P (k + 1) = if P k then some k else none := by
  show (match fstO P k with
    | some i => some i
    | none => if P k then some k else none) = _
  rw [h]
theorem fstO_lt {P : Nat → Bool} : ∀ k i, fstO P k = some i → i < k
  | 0, i, h => by cases h
  | k + 1, i, h => by
    cases hf : fstO P k with
    | some j =>
      rw [fstO_c hf] at h
      have := Option.some.inj h
      have := fstO_lt k j hf
      omega
    | none =>
      rw [fstO_n hf] at h
      split at h
      · have := Option.some.inj h; omega
      · cases h
theorem fstO_none {P : Nat → Bool} : ∀ k, fstO P k = none → ∀ i, i < k → P i = false
  | 0, _, i, h => absurd h (Nat.not_lt_zero _)
  | k + 1, h, i, hi => by
    cases hf : fstO P k with
    | some j => rw [fstO_c hf] at h; cases h
    | none =>
      rw [fstO_n hf] at h
      by_cases e : i = k
      · subst e
        cases hp : P i with
        | false => rfl
        | true => rw [hp] at h; cases h
      · exact fstO_none k hf i (by omega)
def minO : Option Nat → Option Nat → Option Nat
  | none, y => y
  | some x, none => some x
  | some x, some y => if y < x then some y else some x
theorem minO_n (x : Option Nat) : minO x none = x := by cases x <;> rfl
/-- the first of the first k told ones that is not so behind week w -/
def oddP (τ : qTo) (w : Nat) (l : Int32) (i : Nat) : Bool := decide (τ.2.1 i = w ∧ ¬ nI (τ.2.2 i) = l)
def offF (π : qPl) (τ : qTo) (k : Nat) (a : Nat → Int32) : Nat → Option Nat
  | 0 => none
  | w + 1 => minO (offF π τ k a w) (fstO (oddP τ w (allF (seqF π a (w + 1)))) k)
theorem offF_lt {π : qPl} {τ : qTo} {k : Nat} {a : Nat → Int32} : ∀ w i, offF π τ k a w = some i → i < k
  | 0, i, h => by cases h
  | w + 1, i, h => by
    have e : offF π τ k a (w + 1) = minO (offF π τ k a w) (fstO (oddP τ w (allF (seqF π a (w + 1)))) k) := rfl
    rw [e] at h
    cases h1 : offF π τ k a w with
    | none =>
      rw [h1] at h
      exact fstO_lt _ _ h
    | some x =>
      rw [h1] at h
      have hx := offF_lt w x h1
      cases h2 : fstO (oddP τ w (allF (seqF π a (w + 1)))) k with
      | none =>
        rw [h2] at h
        have := Option.some.inj h
        omega
      | some y =>
        rw [h2] at h
        have hy := fstO_lt _ _ h2
        have h' : (if y < x then some y else some x) = some i := h
        split at h'
        · have := Option.some.inj h'; omega
        · have := Option.some.inj h'; omega
def forgedQ (π : qPl) (τ : qTo) (k : Int32) : Int32 := if inF 0 (nI τ.1) k = 0 then -1 else o2n (offF π τ k.toNatClampNeg (fun _ => -1) (lastF τ k.toNatClampNeg))
/-- a heir's absence in a week explains -/
def absF (h week : Nat) : Nat → Int32 := fun w => if w = week then nI h else -1
def explP (π : qPl) (τ : qTo) (k c : Nat) : Bool := decide (c / 100 < π.1 1 ∧ c % 100 < lastF τ k ∧ offF π τ k (absF (c / 100) (c % 100)) (lastF τ k) = none)
def nthO (P : Nat → Bool) (i : Nat) : Nat → Option Nat
  | 0 => none
  | c + 1 => match nthO P i c with
    | some x => some x
    | none => if P c then (if cntN P c = i then some c else none) else none
def explainsQ (π : qPl) (τ : qTo) (k i : Int32) : Int32 := if inF 0 (nI τ.1) k = 0 ∨ i < -1 then -1 else if i = -1 then nI (cntN (explP π τ k.toNatClampNeg) 800) else o2i (nthO (explP π τ k.toNatClampNeg) i.toNatClampNeg 800)
/-- the told ones -/
def dTell (w l : Int32) (τ : qTo) : Int32 × qTo := if τ.1 = 20 ∨ inF 0 99 w = 0 ∨ inF 0 9999 l = 0 then (-1, τ) else (nI τ.1, (τ.1 + 1, (fun i => if i = τ.1 then w.toNatClampNeg else τ.2.1 i), (fun i => if i = τ.1 then l.toNatClampNeg else τ.2.2 i)))
theorem okTo.tell {w l : Int32} {τ : qTo} (h : okTo τ) : okTo (dTell w l τ).2 := by
  unfold dTell
  by_cases c : τ.1 = 20 ∨ inF 0 99 w = 0 ∨ inF 0 9999 l = 0
  · rw [if_pos c]; exact h
  · rw [if_neg c]
    obtain ⟨a, ha, ea⟩ := inF_nat (n := 99) (by omega) (fun z => c (Or.inr (Or.inl z)))
    obtain ⟨b, hb, eb⟩ := inF_nat (n := 9999) (by omega) (fun z => c (Or.inr (Or.inr z)))
    have h1 := h.1
    refine ⟨?_, fun i hi => ?_⟩
    · show τ.1 + 1 ≤ 20
      have : ¬ τ.1 = 20 := fun z => c (Or.inl z)
      omega
    · have hi2 : i < τ.1 + 1 := hi
      show (if i = τ.1 then w.toNatClampNeg else τ.2.1 i) ≤ 99 ∧ (if i = τ.1 then l.toNatClampNeg else τ.2.2 i) ≤ 9999
      rw [ea, eb, nI_clamp (by omega), nI_clamp (by omega)]
      by_cases e : i = τ.1
      · rw [if_pos e, if_pos e]
        exact ⟨ha, hb⟩
      · rw [if_neg e, if_neg e]
        exact h.2 i (by omega)
/-- the tape: how many bytes, which -/
abbrev qTp : Type := Nat × (Nat → Nat)
def byF (w : Int32) (k : Nat) : Nat := w.toBitVec.toNat / 2 ^ k % 256
def putF (w : Int32) (t : qTp) : qTp := (t.1 + 4, fun i => if i = t.1 then byF w 24 else if i = t.1 + 1 then byF w 16 else if i = t.1 + 2 then byF w 8 else if i = t.1 + 3 then byF w 0 else t.2 i)
def dFeed (a b c d e : Int32) (t : qTp) : Int32 × qTp := if 1980 < t.1 then (-1, t) else (nI (t.1 + 20), putF e (putF d (putF c (putF b (putF a t)))))
def dBack (n : Int32) (t : qTp) : Int32 × qTp := if n < 0 ∨ nI t.1 < n then (-1, t) else (nI (t.1 - n.toNatClampNeg), (t.1 - n.toNatClampNeg, t.2))
def okTp (t : qTp) : Prop := t.1 ≤ 2000 ∧ ∀ k, k < t.1 → t.2 k < 256
def qTpM (M : qM) (t : qTp) : Prop := M.1 280 2 = nI t.1 ∧ ∀ k, k < t.1 → (∃ z : Int8, M.1 281 k = z.toInt32) ∧ M.1 281 k &&& 255 = nI (t.2 k)
/-- slots -/
abbrev qHd : Type := (Nat → Int32) × (Nat → Nat → Int32)
def dHold (s : Int32) (ρ : Nat → Int32) (η : qHd) : Int32 × qHd := if isF 3 s = 0 then (0, η) else (1, (set1 s.toNatClampNeg 1 η.1, setF s.toNatClampNeg ρ η.2))
def dRestore (s : Int32) (c : qCo) (η : qHd) : Int32 × qCo := if isF 3 s = 0 ∨ η.1 s.toNatClampNeg = 0 then (0, c) else (1, (η.2 s.toNatClampNeg, 0, c.2.2))
def dUndo (c : qCo) : Int32 × qCo := if c.2.1 = 0 then (0, c) else (1, (c.2.2 0, c.2.1 - 1, fun i => c.2.2 (i + 1)))
abbrev qSt : Type := qTp × Int32 × qPl × qCo × qHd × qTo
def countQ (σ : qSt) (w : Int32) : Int32 :=
  if w = 0 then nI (σ.2.2.1.1 0) else if w = 1 then nI (σ.2.2.1.1 1) else if w = 2 then nI (σ.2.2.1.1 2) else if w = 3 then nI (σ.2.2.1.1 3)
  else if w = 4 then σ.2.2.2.1.1 64 else if w = 5 then allF σ.2.2.2.1.1 else if w = 6 then nI (σ.2.2.1.1 4) else if w = 7 then sumO σ.2.2.2.1.1 40
  else if w = 8 then nI σ.1.1 else if w = 9 then nI σ.2.2.2.1.2.1 else if w = 10 then nI σ.2.2.2.2.2.1
  else if w = 11 then σ.2.2.2.2.1.1 0 + σ.2.2.2.2.1.1 1 + σ.2.2.2.2.1.1 2
  else if w = 12 then (if saltF σ.2.2.2.1.1 ≤ 1000000000 then (saltF σ.2.2.2.1.1).toInt32 else 1000000000) else -1
