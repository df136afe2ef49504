/-! laws: what their cells compute -/
def ushF (x k : Int32) : Int32 := (x.toUInt32 >>> (k.toUInt32 &&& Int32.toUInt32 31)).toInt32
def mixW (x : Int32) : Int32 := x ^^^ ushF x 15
def mixF (h v : Int32) : Int32 := mixW ((h ^^^ v) * 1103515245 + 12345)
def remF (x y : Int32) : Int32 := x - x / y * y
def lotF (seed which : Int32) : Int32 := remF (ushF (mixF (mixF seed 24) which) 1) 1000
def lookF (v : Nat → Int32) (c : Int32) : Int32 := if c = -6 then v 5 else if 0 ≤ c then c else v ((-1 - c).toNatClampNeg)
def opF (c l r : Int32) : Int32 := if c = -7 then l + r else if c = -8 then l - r else if c = -9 then l * r else l / r
/-- the class's cells, from a place on, with a stack: the answer, where all goes well -/
def runC (C : Nat → Int32) (sz : Nat) (v : Nat → Int32) : Nat → Nat → List Int32 → Option Int32
  | 0, _, _ => none
  | f + 1, at_, st => if at_ < sz then
      (if C at_ = -12 then (match st with
        | x :: _ => some x
        | [] => none)
      else if C at_ = -11 then (match st with
        | r :: l :: st' => if l < r then runC C sz v f (at_ + 2) st' else (if at_ + 1 < sz ∧ ¬ C (at_ + 1) < 0 then runC C sz v f (C (at_ + 1)).toNatClampNeg st' else none)
        | _ => none)
      else if -6 ≤ C at_ then (if st.length < 32 then runC C sz v f (at_ + 1) (lookF v (C at_) :: st) else none)
      else if -10 ≤ C at_ then (match st with
        | r :: l :: st' => if C at_ = -10 ∧ r = 0 then some 0 else runC C sz v f (at_ + 1) (opF (C at_) l r :: st')
        | _ => none)
      else none)
    else none
theorem runC_s (C : Nat → Int32) (sz : Nat) (v : Nat → Int32) (f at_ : Nat) (st : List Int32) : runC C sz v (f + 1) at_ st = (if at_ < sz then
      (if C at_ = -12 then (match st with
        | x :: _ => some x
        | [] => none)
      else if C at_ = -11 then (match st with
        | r :: l :: st' => if l < r then runC C sz v f (at_ + 2) st' else (if at_ + 1 < sz ∧ ¬ C (at_ + 1) < 0 then runC C sz v f (C (at_ + 1)).toNatClampNeg st' else none)
        | _ => none)
      else if -6 ≤ C at_ then (if st.length < 32 then runC C sz v f (at_ + 1) (lookF v (C at_) :: st) else none)
      else if -10 ≤ C at_ then (match st with
        | r :: l :: st' => if C at_ = -10 ∧ r = 0 then some 0 else runC C sz v f (at_ + 1) (opF (C at_) l r :: st')
        | _ => none)
      else none)
    else none) := rfl
def qIsL (q : Nat) : Prop := qsh q = (1, 0) ∧ qsh (q + 1) = (40, 802) ∧ qsh (q + 2) = (40, 32) ∧ qsh (q + 3) = (40, 5) ∧ q + 3 < 280
def qStk (M : qM) (q : Nat) (st : List Int32) : Prop := st.length ≤ 32 ∧ M.1 q 3 = nI st.length ∧ ∀ i, i < st.length → M.1 (q + 2) (st.length - 1 - i) = st.getD i 0
def qVars (M : qM) (q : Nat) (v : Nat → Int32) : Prop := (∀ i, i < 5 → M.1 (q + 3) i = v i) ∧ lotF (M.1 q 4) (M.1 q 5) = v 5
/-- what a law's evaluation writes -/
def SL (q : Nat) : Nat → Nat → Prop := fun b j => (b = q ∧ j = 3) ∨ b = q + 2
theorem qVars.fr {M M' : qM} {q : Nat} {v : Nat → Int32} (h : qVars M q v) (hf : qFr (SL q) M M') : qVars M' q v := by
  refine ⟨fun i hi => ?_, ?_⟩
  · rw [hf.1 _ _ (by unfold SL; omega)]
    exact h.1 i hi
  · rw [hf.1 _ _ (by unfold SL; omega), hf.1 _ _ (by unfold SL; omega)]
    exact h.2
