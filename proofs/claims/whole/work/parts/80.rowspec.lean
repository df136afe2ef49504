/-! rows of numbers for waters -/
def upL (f : Nat → List (List Nat)) : Nat → Nat → List (List Nat)
  | 0, _ => []
  | c + 1, x => f x ++ upL f c (x + 1)
theorem upL_congr {f h : Nat → List (List Nat)} (e : ∀ x, f x = h x) (c x : Nat) : upL f c x = upL h c x := by rw [show f = h from funext e]
theorem upL_map (F : List Nat → List Nat) (f : Nat → List (List Nat)) : ∀ c x, (upL f c x).map F = upL (fun y => (f y).map F) c x
  | 0, _ => rfl
  | c + 1, x => by
    show (f x ++ upL f c (x + 1)).map F = (f x).map F ++ upL (fun y => (f y).map F) c (x + 1)
    rw [List.map_append, upL_map F f c (x + 1)]
/-- all rows of m numbers that are r together, the least first -/
def cm : Nat → Nat → List (List Nat)
  | 0, r => if r = 0 then [[]] else []
  | m + 1, r => upL (fun x => (cm m (r - x)).map (fun l => x :: l)) (r + 1) 0
def pre (t : Nat → Nat) : Nat → List Nat
  | 0 => []
  | w + 1 => pre t w ++ [t w]
def setN (t : Nat → Nat) (w x : Nat) : Nat → Nat := fun i => if i = w then x else t i
theorem pre_len (t : Nat → Nat) : ∀ w, (pre t w).length = w
  | 0 => rfl
  | w + 1 => by
    show (pre t w ++ [t w]).length = w + 1
    rw [List.length_append, pre_len t w]
    rfl
theorem pre_congr {t u : Nat → Nat} : ∀ w, (∀ i, i < w → t i = u i) → pre t w = pre u w
  | 0, _ => rfl
  | w + 1, e => by
    show pre t w ++ [t w] = pre u w ++ [u w]
    rw [pre_congr w (fun i hi => e i (by omega)), e w (by omega)]
theorem pre_set (t : Nat → Nat) (w x : Nat) : pre (setN t w x) (w + 1) = pre t w ++ [x] := by
  show pre (setN t w x) w ++ [setN t w x w] = _
  rw [pre_congr (t := setN t w x) (u := t) w (fun i hi => if_neg (by omega)), show setN t w x w = x from if_pos rfl]
theorem pre_get (t : Nat → Nat) : ∀ w i, i < w → (pre t w).getD i 0 = t i
  | 0, i, h => absurd h (Nat.not_lt_zero _)
  | w + 1, i, h => by
    show (pre t w ++ [t w]).getD i 0 = t i
    by_cases c : i < w
    · rw [List.getD_eq_getElem?_getD, List.getElem?_append_left (by rw [pre_len]; exact c), ← List.getD_eq_getElem?_getD]
      exact pre_get t w i c
    · obtain rfl : i = w := by omega
      rw [List.getD_eq_getElem?_getD, List.getElem?_append_right (by rw [pre_len]; exact Nat.le_refl _), pre_len, Nat.sub_self]
      rfl
def comp (t : Nat → Nat) (w m r : Nat) : List (List Nat) := (cm m r).map (fun l => pre t w ++ l)
theorem comp_s (t : Nat → Nat) (w m r : Nat) : comp t w (m + 1) r = upL (fun x => comp (setN t w x) (w + 1) m (r - x)) (r + 1) 0 := by
  show (upL (fun x => (cm m (r - x)).map (fun l => x :: l)) (r + 1) 0).map (fun l => pre t w ++ l) = _
  rw [upL_map]
  refine upL_congr (fun x => ?_) _ _
  unfold comp
  rw [List.map_map, pre_set]
  refine List.map_congr_left (fun l _ => ?_)
  show pre t w ++ x :: l = pre t w ++ [x] ++ l
  rw [List.append_assoc]
  rfl
theorem upL_nil {f : Nat → List (List Nat)} : ∀ c x, (∀ y, x ≤ y → y < x + c → f y = []) → upL f c x = []
  | 0, _, _ => rfl
  | c + 1, x, e => by
    show f x ++ upL f c (x + 1) = []
    rw [e x (Nat.le_refl _) (by omega), upL_nil c (x + 1) (fun y h1 h2 => e y (by omega) (by omega))]
    rfl
theorem upL_last {f : Nat → List (List Nat)} : ∀ c x, upL f (c + 1) x = upL f c x ++ f (x + c)
  | 0, x => by
    show f x ++ [] = [] ++ f x
    rw [List.append_nil, List.nil_append]
  | c + 1, x => by
    show f x ++ upL f (c + 1) (x + 1) = (f x ++ upL f c (x + 1)) ++ f (x + (c + 1))
    rw [upL_last c (x + 1), List.append_assoc, show x + 1 + c = x + (c + 1) by omega]
theorem cm_1 (r : Nat) : cm 1 r = [[r]] := by
  show upL (fun x => (cm 0 (r - x)).map (fun l => x :: l)) (r + 1) 0 = _
  rw [upL_last, upL_nil r 0 (fun y h1 h2 => by
    show (if r - y = 0 then [[]] else []).map _ = []
    rw [if_neg (by omega)]
    rfl)]
  show [] ++ (if r - (0 + r) = 0 then [[]] else []).map _ = _
  rw [if_pos (by omega)]
  show [[0 + r]] = [[r]]
  rw [Nat.zero_add]
theorem comp_1 (t : Nat → Nat) (w r : Nat) : comp t w 1 r = [pre t w ++ [r]] := by
  unfold comp
  rw [cm_1]
  rfl
theorem comp_congr {t u : Nat → Nat} {w : Nat} (e : ∀ i, i < w → t i = u i) (m r : Nat) : comp t w m r = comp u w m r := by
  unfold comp
  rw [pre_congr w e]
/-- what comes behind a row, in a set of W waters and n drops -/
def rst (W n : Nat) (t : Nat → Nat) : Nat → List (List Nat)
  | 0 => []
  | w + 1 => upL (fun x => comp (setN t w x) (w + 1) (W - 1 - w) (n - sumN t w - x)) (n - sumN t (w + 1)) (t w + 1) ++ rst W n t w
theorem rst_congr {W n : Nat} {t u : Nat → Nat} : ∀ w, (∀ i, i < w → t i = u i) → rst W n t w = rst W n u w
  | 0, _ => rfl
  | w + 1, e => by
    have e1 := sumN_congr (f := t) (h := u) w (fun i hi => e i (by omega))
    show upL (fun x => comp (setN t w x) (w + 1) (W - 1 - w) (n - sumN t w - x)) (n - (sumN t w + t w)) (t w + 1) ++ rst W n t w = upL (fun x => comp (setN u w x) (w + 1) (W - 1 - w) (n - sumN u w - x)) (n - (sumN u w + u w)) (u w + 1) ++ rst W n u w
    rw [rst_congr w (fun i hi => e i (by omega)), e w (by omega), e1]
    congr 1
    refine upL_congr (fun x => ?_) _ _
    refine comp_congr (fun i hi => ?_) _ _
    unfold setN
    by_cases c : i = w
    · rw [if_pos c, if_pos c]
    · rw [if_neg c, if_neg c]
      exact e i (by omega)
def leaf (W n : Nat) (t : Nat → Nat) : List Nat := pre t (W - 1) ++ [n - sumN t (W - 1)]
theorem first_row {W n : Nat} {t : Nat → Nat} : ∀ m w, w + m + 1 = W → (∀ i, w ≤ i → i < W - 1 → t i = 0) → comp t w (m + 1) (n - sumN t w) ++ rst W n t w = leaf W n t :: rst W n t (W - 1)
  | 0, w, e, _ => by
    obtain rfl : w = W - 1 := by omega
    rw [comp_1]
    rfl
  | m + 1, w, e, hz => by
    have z := hz w (Nat.le_refl _) (by omega)
    have ih := first_row (n := n) (t := t) m (w + 1) (by omega) (fun i h1 h2 => hz i (by omega) h2)
    rw [← ih]
    have s1 : sumN t (w + 1) = sumN t w := by
      show sumN t w + t w = _
      omega
    rw [comp_s, s1]
    show (comp (setN t w 0) (w + 1) (m + 1) (n - sumN t w - 0) ++ upL _ (n - sumN t w) (0 + 1)) ++ rst W n t w = comp t (w + 1) (m + 1) (n - sumN t w) ++ (upL (fun x => comp (setN t w x) (w + 1) (W - 1 - w) (n - sumN t w - x)) (n - sumN t (w + 1)) (t w + 1) ++ rst W n t w)
    rw [s1, z, comp_congr (t := setN t w 0) (u := t) (fun i hi => by unfold setN; by_cases c : i = w <;> simp [c, z]), Nat.sub_zero, show W - 1 - w = m + 1 by omega, List.append_assoc]
theorem next_row {W n w : Nat} {t : Nat → Nat} (hw : w + 1 < W) (hlt : sumN t (w + 1) < n) (hz : ∀ i, w < i → i < W - 1 → t i = 0) : rst W n t (w + 1) = leaf W n (setN t w (t w + 1)) :: rst W n (setN t w (t w + 1)) (W - 1) := by
  have e1 : sumN (setN t w (t w + 1)) w = sumN t w := sumN_congr w (fun i hi => if_neg (by omega))
  have e2 : sumN (setN t w (t w + 1)) (w + 1) = sumN t (w + 1) + 1 := by
    show sumN (setN t w (t w + 1)) w + setN t w (t w + 1) w = sumN t w + t w + 1
    rw [e1, show setN t w (t w + 1) w = t w + 1 from if_pos rfl]
    omega
  have e3 : sumN t (w + 1) = sumN t w + t w := rfl
  rw [← first_row (n := n) (t := setN t w (t w + 1)) (W - 1 - (w + 1)) (w + 1) (by omega) (fun i h1 h2 => by show (if i = w then _ else t i) = 0; rw [if_neg (by omega)]; exact hz i (by omega) h2)]
  have hc : ∃ c, n - sumN t (w + 1) = c + 1 := ⟨n - sumN t (w + 1) - 1, by omega⟩
  obtain ⟨c, hc⟩ := hc
  show upL (fun x => comp (setN t w x) (w + 1) (W - 1 - w) (n - sumN t w - x)) (n - sumN t (w + 1)) (t w + 1) ++ rst W n t w = comp (setN t w (t w + 1)) (w + 1) (W - 1 - (w + 1) + 1) (n - sumN (setN t w (t w + 1)) (w + 1)) ++ (upL (fun x => comp (setN (setN t w (t w + 1)) w x) (w + 1) (W - 1 - w) (n - sumN (setN t w (t w + 1)) w - x)) (n - sumN (setN t w (t w + 1)) (w + 1)) (setN t w (t w + 1) w + 1) ++ rst W n (setN t w (t w + 1)) w)
  rw [hc, e2, e1, show setN t w (t w + 1) w = t w + 1 from if_pos rfl, rst_congr (t := setN t w (t w + 1)) (u := t) w (fun i hi => if_neg (by omega)), show n - (sumN t (w + 1) + 1) = c by omega, show W - 1 - (w + 1) + 1 = W - 1 - w by omega]
  show (comp (setN t w (t w + 1)) (w + 1) (W - 1 - w) (n - sumN t w - (t w + 1)) ++ upL (fun x => comp (setN t w x) (w + 1) (W - 1 - w) (n - sumN t w - x)) c (t w + 1 + 1)) ++ rst W n t w = _
  rw [show n - sumN t w - (t w + 1) = c by omega, List.append_assoc]
  congr 2
  refine upL_congr (fun x => ?_) _ _
  refine comp_congr (fun i hi => ?_) _ _
  unfold setN
  by_cases d : i = w
  · rw [if_pos d, if_pos d]
  · rw [if_neg d, if_neg d, if_neg d]
theorem none_row {W n w : Nat} {t : Nat → Nat} (h : n ≤ sumN t (w + 1)) : rst W n t (w + 1) = rst W n t w := by
  show upL (fun x => comp (setN t w x) (w + 1) (W - 1 - w) (n - sumN t w - x)) (n - sumN t (w + 1)) (t w + 1) ++ rst W n t w = _
  rw [show n - sumN t (w + 1) = 0 by omega]
  rfl
/-- salt and colour of a row -/
def dotL (f : Nat → Nat) : Nat → List Nat → Nat
  | _, [] => 0
  | o, x :: l => x * f o + dotL f (o + 1) l
theorem dotL_app (f : Nat → Nat) : ∀ (a : List Nat) (o : Nat) (b : List Nat), dotL f o (a ++ b) = dotL f o a + dotL f (o + a.length) b
  | [], o, b => by
    show dotL f o b = 0 + dotL f (o + 0) b
    rw [Nat.zero_add]
    rfl
  | x :: a, o, b => by
    show x * f o + dotL f (o + 1) (a ++ b) = x * f o + dotL f (o + 1) a + dotL f (o + (a.length + 1)) b
    rw [dotL_app f a (o + 1) b, show o + 1 + a.length = o + (a.length + 1) by omega]
    omega
theorem dotL_pre (f t : Nat → Nat) : ∀ w, dotL f 0 (pre t w) = sumN (fun i => t i * f i) w
  | 0 => rfl
  | w + 1 => by
    show dotL f 0 (pre t w ++ [t w]) = sumN (fun i => t i * f i) w + t w * f w
    rw [dotL_app, dotL_pre f t w, pre_len, Nat.zero_add]
    rfl
def okL (f h : Nat → Nat) (s c : Nat) (l : List Nat) : Bool := decide (dotL f 0 l = s ∧ dotL h 0 l = c)
def solL (π : qPl) (n s c : Nat) : List (List Nat) := (cm (π.1 0) n).filter (okL (π.2.1 0) (π.2.1 1) s c)
/-- rows in which there is some of each: bits -/
def bitsF (f : Nat → Bool) : Nat := sumN (fun v => if f v then 2 ^ v else 0) 5
def allP (P : List (List Nat)) (v : Nat) : Bool := P.all (fun l => decide (0 < l.getD v 0))
def sureF (W : Nat) (P : List (List Nat)) : Nat := bitsF (fun v => decide (v < W) && allP P v)
abbrev badT (n s c : Int32) : Prop := inF 0 60 n = 0 ∨ s < 0 ∨ c < 0
def thimbleQ (π : qPl) (n s c : Int32) : Int64 := if badT n s c then -1 else lN (solL π n.toNatClampNeg s.toNatClampNeg c.toNatClampNeg).length
def surelyQ (π : qPl) (n s c : Int32) : Int32 := if badT n s c then -1 else if (solL π n.toNatClampNeg s.toNatClampNeg c.toNatClampNeg).length = 0 then 0 else nI (sureF (π.1 0) (solL π n.toNatClampNeg s.toNatClampNeg c.toNatClampNeg))
def firstQ (π : qPl) (n s c w : Int32) : Int32 := if badT n s c ∨ isF (π.1 0) w = 0 then -1 else match solL π n.toNatClampNeg s.toNatClampNeg c.toNatClampNeg with
  | [] => -2
  | l :: _ => nI (l.getD w.toNatClampNeg 0)
theorem bits5 (f : Nat → Bool) : bitsF f = (if f 0 then 1 else 0) + (if f 1 then 2 else 0) + (if f 2 then 4 else 0) + (if f 3 then 8 else 0) + (if f 4 then 16 else 0) := by
  show 0 + (if f 0 then 2 ^ 0 else 0) + (if f 1 then 2 ^ 1 else 0) + (if f 2 then 2 ^ 2 else 0) + (if f 3 then 2 ^ 3 else 0) + (if f 4 then 2 ^ 4 else 0) = _
  rw [Nat.zero_add]
theorem bits_clr (f : Nat → Bool) {w : Nat} (hw : w < 5) : nI (bitsF f) &&& (((1 : Int32) <<< (nI w &&& 31)) ^^^ (-1)) = nI (bitsF (fun v => f v && decide (v ≠ w))) := by
  rw [bits5, bits5]
  have key : ∀ w, w < 5 → ∀ b0 b1 b2 b3 b4 : Bool, nI ((if b0 then 1 else 0) + (if b1 then 2 else 0) + (if b2 then 4 else 0) + (if b3 then 8 else 0) + (if b4 then 16 else 0)) &&& (((1 : Int32) <<< (nI w &&& 31)) ^^^ (-1)) = nI ((if (b0 && decide (0 ≠ w)) then 1 else 0) + (if (b1 && decide (1 ≠ w)) then 2 else 0) + (if (b2 && decide (2 ≠ w)) then 4 else 0) + (if (b3 && decide (3 ≠ w)) then 8 else 0) + (if (b4 && decide (4 ≠ w)) then 16 else 0)) := by decide +kernel
  exact key w hw _ _ _ _ _
theorem bits_clr2 (f : Nat → Bool) {w u : Nat} (hw : w < 5) (hu : u < 5) : nI (bitsF f) &&& ((((1 : Int32) <<< (nI w &&& 31)) ||| ((1 : Int32) <<< (nI u &&& 31))) ^^^ (-1)) = nI (bitsF (fun v => f v && (decide (v ≠ w) && decide (v ≠ u)))) := by
  rw [bits5, bits5]
  have key : ∀ w, w < 5 → ∀ u, u < 5 → ∀ b0 b1 b2 b3 b4 : Bool, nI ((if b0 then 1 else 0) + (if b1 then 2 else 0) + (if b2 then 4 else 0) + (if b3 then 8 else 0) + (if b4 then 16 else 0)) &&& ((((1 : Int32) <<< (nI w &&& 31)) ||| ((1 : Int32) <<< (nI u &&& 31))) ^^^ (-1)) = nI ((if (b0 && (decide (0 ≠ w) && decide (0 ≠ u))) then 1 else 0) + (if (b1 && (decide (1 ≠ w) && decide (1 ≠ u))) then 2 else 0) + (if (b2 && (decide (2 ≠ w) && decide (2 ≠ u))) then 4 else 0) + (if (b3 && (decide (3 ≠ w) && decide (3 ≠ u))) then 8 else 0) + (if (b4 && (decide (4 ≠ w) && decide (4 ≠ u))) then 16 else 0)) := by decide +kernel
  exact key w hw u hu _ _ _ _ _
theorem bits_or (f : Nat → Bool) {w : Nat} (hw : w < 5) : nI (bitsF f) ||| ((1 : Int32) <<< (nI w &&& 31)) = nI (bitsF (fun v => f v || decide (v = w))) := by
  rw [bits5, bits5]
  have key : ∀ w, w < 5 → ∀ b0 b1 b2 b3 b4 : Bool, nI ((if b0 then 1 else 0) + (if b1 then 2 else 0) + (if b2 then 4 else 0) + (if b3 then 8 else 0) + (if b4 then 16 else 0)) ||| ((1 : Int32) <<< (nI w &&& 31)) = nI ((if (b0 || decide (0 = w)) then 1 else 0) + (if (b1 || decide (1 = w)) then 2 else 0) + (if (b2 || decide (2 = w)) then 4 else 0) + (if (b3 || decide (3 = w)) then 8 else 0) + (if (b4 || decide (4 = w)) then 16 else 0)) := by decide +kernel
  exact key w hw _ _ _ _ _
theorem bits_and (f h : Nat → Bool) : nI (bitsF f) &&& nI (bitsF h) = nI (bitsF (fun v => f v && h v)) := by
  rw [bits5, bits5, bits5]
  have key : ∀ b0 b1 b2 b3 b4 c0 c1 c2 c3 c4 : Bool, nI ((if b0 then 1 else 0) + (if b1 then 2 else 0) + (if b2 then 4 else 0) + (if b3 then 8 else 0) + (if b4 then 16 else 0)) &&& nI ((if c0 then 1 else 0) + (if c1 then 2 else 0) + (if c2 then 4 else 0) + (if c3 then 8 else 0) + (if c4 then 16 else 0)) = nI ((if (b0 && c0) then 1 else 0) + (if (b1 && c1) then 2 else 0) + (if (b2 && c2) then 4 else 0) + (if (b3 && c3) then 8 else 0) + (if (b4 && c4) then 16 else 0)) := by decide +kernel
  exact key _ _ _ _ _ _ _ _ _ _
theorem bits_congr {f h : Nat → Bool} (e : ∀ v, v < 5 → f v = h v) : bitsF f = bitsF h := sumN_congr 5 (fun v hv => by rw [e v hv])
theorem bits_full : ∀ W, W ≤ 5 → ((1 : Int32) <<< (nI W &&& 31)) - 1 = nI (bitsF (fun v => decide (v < W))) := by decide +kernel
theorem allP_app (P : List (List Nat)) (l : List Nat) (v : Nat) : allP (P ++ [l]) v = (allP P v && decide (0 < l.getD v 0)) := by
  unfold allP
  rw [List.all_append]
  congr 1
  exact Bool.and_true _
theorem upL_len {f : Nat → List (List Nat)} {b : Nat} : ∀ c x, (∀ y, (f y).length ≤ b) → (upL f c x).length ≤ c * b
  | 0, _, _ => Nat.zero_le _
  | c + 1, x, e => by
    show (f x ++ upL f c (x + 1)).length ≤ _
    rw [List.length_append, Nat.succ_mul]
    have := upL_len c (x + 1) e
    have := e x
    omega
theorem cm_len : ∀ m r, r ≤ 60 → (cm m r).length ≤ 61 ^ m
  | 0, r, _ => by
    show (if r = 0 then [[]] else []).length ≤ 1
    split
    · exact Nat.le_refl 1
    · exact Nat.zero_le 1
  | m + 1, r, h => by
    have q := upL_len (f := fun x => (cm m (r - x)).map (fun l => x :: l)) (b := 61 ^ m) (r + 1) 0 (fun y => by
      rw [List.length_map]
      exact cm_len m (r - y) (by omega))
    have q2 : (r + 1) * 61 ^ m ≤ 61 * 61 ^ m := Nat.mul_le_mul_right _ (by omega)
    rw [Nat.pow_succ, Nat.mul_comm (61 ^ m) 61]
    exact Nat.le_trans q q2
theorem sol_len {π : qPl} (h5 : π.1 0 ≤ 5) {n s c : Nat} (hn : n ≤ 60) : (solL π n s c).length ≤ 844596301 := by
  have h1 := List.length_filter_le (okL (π.2.1 0) (π.2.1 1) s c) (cm (π.1 0) n)
  have h2 := cm_len (π.1 0) n hn
  have h3 : 61 ^ π.1 0 ≤ 61 ^ 5 := Nat.pow_le_pow_right (by omega) h5
  have h4 : (61 : Nat) ^ 5 = 844596301 := by decide
  unfold solL
  omega
