/-! the reference's numbers -/
/-- the reference's cells, from a place on, so many of them: none: not so made; some none: divided by 0 -/
def runP (C CI : Nat → Int32) (v : Nat → Int32) : Nat → Nat → List Int32 → Option (Option Int32)
  | 0, _, st => (match st with
    | [x] => some (some x)
    | _ => none)
  | n + 1, c, st => if c < 840 ∧ st.length < 400 then
      (if C c = 0 then runP C CI v n (c + 1) (CI c :: st)
      else if C c = 1 then (if ¬ CI c < 0 ∧ CI c < 6 then runP C CI v n (c + 1) (v (CI c).toNatClampNeg :: st) else none)
      else if C c = 2 ∨ C c = 3 ∨ C c = 4 ∨ C c = 5 then (match st with
        | r :: l :: st' => if C c = 5 ∧ r = 0 then some none else runP C CI v n (c + 1) ((if C c = 2 then l + r else if C c = 3 then l - r else if C c = 4 then l * r else l / r) :: st')
        | _ => none)
      else none)
    else none
theorem runP_s (C CI : Nat → Int32) (v : Nat → Int32) (n c : Nat) (st : List Int32) : runP C CI v (n + 1) c st = (if c < 840 ∧ st.length < 400 then
      (if C c = 0 then runP C CI v n (c + 1) (CI c :: st)
      else if C c = 1 then (if ¬ CI c < 0 ∧ CI c < 6 then runP C CI v n (c + 1) (v (CI c).toNatClampNeg :: st) else none)
      else if C c = 2 ∨ C c = 3 ∨ C c = 4 ∨ C c = 5 then (match st with
        | r :: l :: st' => if C c = 5 ∧ r = 0 then some none else runP C CI v n (c + 1) ((if C c = 2 then l + r else if C c = 3 then l - r else if C c = 4 then l * r else l / r) :: st')
        | _ => none)
      else none)
    else none) := rfl
/-- a branch's cells: from i to j, numbers told by rows -/
def cellsP (M : qM) (v : Nat → Int32) (i j : Nat) : Option (Option Int32) := if i ≤ j then runP (M.1 316) (M.1 317) v (j - i) i [] else none
def brAt (M : qM) (a b : Nat) : Nat := (M.1 a b).toNatClampNeg
/-- the branches of a law from b on, so many -/
def runB (M : qM) (v : Nat → Int32) : Nat → Nat → Option Int32
  | 0, _ => none
  | n + 1, b => if b < 260 ∧ ¬ M.1 314 b < 0 ∧ ¬ M.1 315 b < 0 then
      (match cellsP M v (brAt M 314 b) (brAt M 315 b) with
      | none => none
      | some w =>
        if M.1 311 b = 0 then some (w.getD 0)
        else if M.1 312 b < 0 ∨ M.1 313 b < 0 then none
        else (match cellsP M v (brAt M 312 b) (brAt M 313 b), cellsP M v (brAt M 313 b) (brAt M 314 b) with
          | some (some x), some (some y) => if x < y then some (w.getD 0) else runB M v n (b + 1)
          | some _, some _ => some 0
          | _, _ => none))
    else none
theorem runB_s (M : qM) (v : Nat → Int32) (n b : Nat) : runB M v (n + 1) b = (if b < 260 ∧ ¬ M.1 314 b < 0 ∧ ¬ M.1 315 b < 0 then
      (match cellsP M v (brAt M 314 b) (brAt M 315 b) with
      | none => none
      | some w =>
        if M.1 311 b = 0 then some (w.getD 0)
        else if M.1 312 b < 0 ∨ M.1 313 b < 0 then none
        else (match cellsP M v (brAt M 312 b) (brAt M 313 b), cellsP M v (brAt M 313 b) (brAt M 314 b) with
          | some (some x), some (some y) => if x < y then some (w.getD 0) else runB M v n (b + 1)
          | some _, some _ => some 0
          | _, _ => none))
    else none) := rfl
/-- what the reference's weeks write -/
def SM : Nat → Nat → Prop := fun b j => b = 319 ∨ b = 320 ∨ b = 322 ∨ b = 323 ∨ b = 324 ∨ (b = 280 ∧ (j = 57 ∨ j = 60 ∨ j = 61))
/-- what a law's evaluation writes there -/
def SV : Nat → Nat → Prop := fun b j => b = 319 ∨ b = 320 ∨ (b = 280 ∧ j = 57)
def qLawM (M : qM) (i : Nat) (f : (Nat → Int32) → Int32) : Prop := ∃ x y : Nat, M.1 309 i = nI x ∧ M.1 310 i = nI y ∧ x ≤ y ∧ y ≤ 260 ∧ ∀ v, runB M v (y - x) x = some (f v)
/-- the reference's plan, on the side L, tells π -/
def qPlanM (M : qM) (L : Nat) (π : qPl) : Prop :=
  (L < 2 ∧ M.1 280 18 = nI L) ∧
  (M.1 291 L = nI (π.1 0) ∧ M.1 294 L = nI (π.1 1) ∧ M.1 299 L = nI (π.1 2) ∧ M.1 302 L = nI (π.1 3) ∧ M.1 307 L = nI (π.1 4) ∧ M.1 308 L = nI (π.1 5)) ∧
  (∀ c i, c < 2 → i < π.1 0 → M.1 (292 + c) (5 * L + i) = nI (π.2.1 c i)) ∧
  (∀ c i, c < 4 → i < π.1 1 → M.1 (295 + c) (8 * L + i) = nI (π.2.1 (2 + c) i)) ∧
  (∀ c k, c < 2 → k < π.1 2 → M.1 (300 + c) (16 * L + k) = nI (π.2.1 (6 + c) k)) ∧
  (∀ k, k < π.1 2 → qLawM M (17 * L + k) (π.2.2 k)) ∧
  ((M.1 309 (17 * L + 16) = 0 ∧ M.1 310 (17 * L + 16) = 0 ∧ ∀ v, π.2.2 16 v = 0) ∨ qLawM M (17 * L + 16) (π.2.2 16))
def qRow (M : qM) (ρ : Nat → Int32) : Prop := ∀ k, k < 66 → M.1 322 k = ρ k
