/-! what a law's cells tell -/
def evL (v : Nat → Int32) : List Int32 → List Int32 → Option (List Int32)
  | [], st => some st
  | c :: cs, st => if -6 ≤ c then evL v cs (lookF v c :: st) else (match st with
    | r :: l :: st' => if c = -10 ∧ r = 0 then none else evL v cs (opF c l r :: st')
    | _ => none)
theorem evL_y {v : Nat → Int32} {c : Int32} {cs st : List Int32} (h : -6 ≤ c) : evL v (c :: cs) st = evL v cs (lookF v c :: st) := if_pos h
theorem evL_n {v : Nat → Int32} {c r l : Int32} {cs st : List Int32} (h : ¬ -6 ≤ c) : evL v (c :: cs) (r :: l :: st) = if c = -10 ∧ r = 0 then none else evL v cs (opF c l r :: st) := if_neg h
theorem wf_y {c : Int32} {cs : List Int32} {d e : Nat} (h : -6 ≤ c) (w : wfL (c :: cs) d e) : d < 32 ∧ wfL cs (d + 1) e := by
  have w' : if -6 ≤ c then d < 32 ∧ wfL cs (d + 1) e else -10 ≤ c ∧ 2 ≤ d ∧ wfL cs (d - 1) e := w
  rw [if_pos h] at w'
  exact w'
theorem wf_n {c : Int32} {cs : List Int32} {d e : Nat} (h : ¬ -6 ≤ c) (w : wfL (c :: cs) d e) : -10 ≤ c ∧ 2 ≤ d ∧ wfL cs (d - 1) e := by
  have w' : if -6 ≤ c then d < 32 ∧ wfL cs (d + 1) e else -10 ≤ c ∧ 2 ≤ d ∧ wfL cs (d - 1) e := w
  rw [if_neg h] at w'
  exact w'
theorem ls_two {st : List Int32} (h : 2 ≤ st.length) : ∃ r l st', st = r :: l :: st' := by
  match st, h with
  | r :: l :: st', _ => exact ⟨r, l, st', rfl⟩
theorem evL_len {v : Nat → Int32} : ∀ (es st : List Int32) (e : Nat) (st' : List Int32), wfL es st.length e → evL v es st = some st' → st'.length = e
  | [], st, e, st', w, h => by
    cases h
    exact w
  | c :: cs, st, e, st', w, h => by
    by_cases hc : -6 ≤ c
    · rw [evL_y hc] at h
      exact evL_len cs (lookF v c :: st) e st' (wf_y hc w).2 h
    · obtain ⟨w1, w2, w3⟩ := wf_n hc w
      obtain ⟨r, l, s2, rfl⟩ := ls_two w2
      rw [evL_n hc] at h
      split at h
      · cases h
      · exact evL_len cs (opF c l r :: s2) e st' w3 h
theorem evL_app {v : Nat → Int32} (s0 : List Int32) : ∀ (es st : List Int32) (e : Nat), wfL es st.length e → evL v es (st ++ s0) = (evL v es st).map (· ++ s0)
  | [], st, e, w => rfl
  | c :: cs, st, e, w => by
    by_cases hc : -6 ≤ c
    · rw [evL_y hc, evL_y hc]
      exact evL_app s0 cs (lookF v c :: st) e (wf_y hc w).2
    · obtain ⟨w1, w2, w3⟩ := wf_n hc w
      obtain ⟨r, l, s2, rfl⟩ := ls_two w2
      show evL v (c :: cs) (r :: l :: (s2 ++ s0)) = _
      rw [evL_n hc, evL_n hc]
      by_cases hz : c = -10 ∧ r = 0
      · rw [if_pos hz, if_pos hz]
        rfl
      · rw [if_neg hz, if_neg hz]
        exact evL_app s0 cs (opF c l r :: s2) e w3
def e1L (v : Nat → Int32) (es : List Int32) : Option Int32 := match evL v es [] with
  | some (x :: _) => some x
  | _ => none
theorem e1L_is {v : Nat → Int32} {es : List Int32} (w : wfL es 0 1) : evL v es [] = (e1L v es).map (fun x => [x]) := by
  unfold e1L
  cases h : evL v es [] with
  | none => rfl
  | some st =>
    have := evL_len es [] 1 st w h
    match st, this with
    | [x], _ => rfl
/-- cells from a place on -/
def cellA (C : Nat → Int32) (o : Nat) (es : List Int32) : Prop := ∀ i, i < es.length → C (o + i) = es.getD i 0
theorem cellA_c {C : Nat → Int32} {o : Nat} {c : Int32} {cs : List Int32} : cellA C o (c :: cs) ↔ C o = c ∧ cellA C (o + 1) cs := by
  constructor
  · intro h
    refine ⟨h 0 (by simp), fun i hi => ?_⟩
    have := h (i + 1) (by simp; omega)
    rw [show o + 1 + i = o + (i + 1) by omega]
    exact this
  · intro ⟨h1, h2⟩ i hi
    cases i with
    | zero => exact h1
    | succ i =>
      rw [show o + (i + 1) = o + 1 + i by omega]
      exact h2 i (by simp at hi; omega)
theorem cellA_n {C : Nat → Int32} {o : Nat} : cellA C o [] := fun i hi => absurd hi (Nat.not_lt_zero _)
theorem cellA_a {C : Nat → Int32} : ∀ {es fs : List Int32} {o : Nat}, cellA C o (es ++ fs) ↔ cellA C o es ∧ cellA C (o + es.length) fs
  | [], fs, o => ⟨fun h => ⟨cellA_n, h⟩, fun h => h.2⟩
  | c :: cs, fs, o => by
    rw [List.cons_append, cellA_c, cellA_c, cellA_a (es := cs), List.length_cons, show o + 1 + cs.length = o + (cs.length + 1) by omega, and_assoc]
theorem m10 {c : Int32} (h : -10 ≤ c) : ¬ c = -12 ∧ ¬ c = -11 := ⟨fun e => by subst e; exact absurd h (by decide), fun e => by subst e; exact absurd h (by decide)⟩
theorem m6 {c : Int32} (h : -6 ≤ c) : -10 ≤ c := by
  have h1 := Int32.le_iff_toInt_le.mp h
  apply Int32.le_iff_toInt_le.mpr
  have h2 : (-6 : Int32).toInt = -6 := by decide
  have h3 : (-10 : Int32).toInt = -10 := by decide
  omega
theorem runC_es {C : Nat → Int32} {sz : Nat} {v : Nat → Int32} : ∀ (es : List Int32) (f o : Nat) (st : List Int32) (e : Nat), cellA C o es → o + es.length ≤ sz → wfL es st.length e → runC C sz v (f + es.length) o st = (match evL v es st with
    | none => some 0
    | some st' => runC C sz v f (o + es.length) st')
  | [], f, o, st, e, _, _, _ => rfl
  | c :: cs, f, o, st, e, hc, hz, w => by
    obtain ⟨h1, h2⟩ := cellA_c.mp hc
    rw [List.length_cons] at hz ⊢
    show runC C sz v (f + cs.length + 1) o st = _
    rw [runC_s, if_pos (by omega), h1]
    by_cases h6 : -6 ≤ c
    · obtain ⟨w1, w2⟩ := wf_y h6 w
      obtain ⟨n1, n2⟩ := m10 (m6 h6)
      rw [if_neg n1, if_neg n2, if_pos h6, if_pos w1, evL_y h6, runC_es cs f (o + 1) (lookF v c :: st) e h2 (by omega) w2, show o + 1 + cs.length = o + (cs.length + 1) by omega]
    · obtain ⟨w1, w2, w3⟩ := wf_n h6 w
      obtain ⟨n1, n2⟩ := m10 w1
      obtain ⟨r, l, s2, rfl⟩ := ls_two w2
      rw [if_neg n1, if_neg n2, if_neg h6, if_pos w1, evL_n h6]
      show (if c = -10 ∧ r = 0 then some 0 else runC C sz v (f + cs.length) (o + 1) (opF c l r :: s2)) = _
      by_cases hz2 : c = -10 ∧ r = 0
      · rw [if_pos hz2, if_pos hz2]
      · rw [if_neg hz2, if_neg hz2, runC_es cs f (o + 1) (opF c l r :: s2) e h2 (by omega) w3, show o + 1 + cs.length = o + (cs.length + 1) by omega]
/-- laws -/
abbrev qBr : Type := List Int32 × List Int32 × List Int32
def brT (br : qBr) : Nat := br.1.length + br.2.1.length + br.2.2.length
def brL (b : Nat) (br : qBr) : List Int32 := br.1 ++ (br.2.1 ++ (-11 :: nI (b + brT br + 3) :: (br.2.2 ++ [-12])))
theorem brL_len (b : Nat) (br : qBr) : (brL b br).length = brT br + 3 := by
  unfold brL brT
  simp
  omega
def lwL : Nat → List qBr → List Int32 → List Int32
  | _, [], last => last ++ [-12]
  | b, br :: bs, last => brL b br ++ lwL (b + brT br + 3) bs last
def laV (v : Nat → Int32) : List qBr → List Int32 → Int32
  | [], last => (e1L v last).getD 0
  | br :: bs, last => match e1L v br.1, e1L v br.2.1 with
    | some x, some y => if x < y then (e1L v br.2.2).getD 0 else laV v bs last
    | _, _ => 0
abbrev wfE (es : List Int32) : Prop := ∀ d, d + 15 ≤ 32 → wfL es d (d + 1)
def wfB (br : qBr) : Prop := wfE br.1 ∧ wfE br.2.1 ∧ wfE br.2.2
theorem runC_last {C : Nat → Int32} {sz : Nat} {v : Nat → Int32} {es : List Int32} {f o : Nat} (hc : cellA C o (es ++ [-12])) (hz : o + es.length + 1 ≤ sz) (w : wfE es) (hf : es.length + 1 ≤ f) : runC C sz v f o [] = some ((e1L v es).getD 0) := by
  obtain ⟨c1, c2⟩ := cellA_a.mp hc
  obtain ⟨c3, -⟩ := cellA_c.mp c2
  obtain ⟨k, rfl⟩ : ∃ k, f = k + 1 + es.length := ⟨f - 1 - es.length, by omega⟩
  rw [runC_es es (k + 1) o [] 1 c1 (by omega) (w 0 (by omega)), e1L_is (w 0 (by omega))]
  cases e1L v es with
  | none => rfl
  | some x =>
    show runC C sz v (k + 1) (o + es.length) [x] = some x
    rw [runC_s, if_pos (by omega), if_pos c3]
theorem runC_law {C : Nat → Int32} {sz : Nat} {v : Nat → Int32} (hs : sz ≤ 802) {last : List Int32} (hw : wfE last) : ∀ (bs : List qBr) (f b : Nat), (∀ br, br ∈ bs → wfB br) → cellA C b (lwL b bs last) → b + (lwL b bs last).length ≤ sz → (lwL b bs last).length ≤ f → runC C sz v f b [] = some (laV v bs last)
  | [], f, b, _, hc, hz, hf => by
    have e : (lwL b [] last).length = last.length + 1 := by
      show (last ++ [-12]).length = _
      rw [List.length_append]
      rfl
    exact runC_last hc (by omega) hw (by omega)
  | br :: bs, f, b, hb, hc, hz, hf => by
    obtain ⟨wa, wb, wc⟩ := hb br List.mem_cons_self
    have el : (lwL b (br :: bs) last).length = brT br + 3 + (lwL (b + brT br + 3) bs last).length := by
      show (brL b br ++ lwL (b + brT br + 3) bs last).length = _
      rw [List.length_append, brL_len]
    rw [el] at hz hf
    obtain ⟨c1, c2⟩ := cellA_a.mp hc
    rw [brL_len, ← Nat.add_assoc] at c2
    have ih := fun f hf => runC_law (v := v) hs hw bs f (b + brT br + 3) (fun x hx => hb x (List.mem_cons_of_mem _ hx)) c2 (by omega) hf
    obtain ⟨d1, d2⟩ := cellA_a.mp c1
    obtain ⟨d3, d4⟩ := cellA_a.mp d2
    obtain ⟨d5, d6⟩ := cellA_c.mp d4
    obtain ⟨d7, d8⟩ := cellA_c.mp d6
    have ht : brT br = br.1.length + br.2.1.length + br.2.2.length := rfl
    obtain ⟨k, rfl⟩ : ∃ k, f = k + 1 + br.2.1.length + br.1.length := ⟨f - 1 - br.2.1.length - br.1.length, by omega⟩
    rw [runC_es br.1 (k + 1 + br.2.1.length) b [] 1 d1 (by omega) (wa 0 (by omega)), e1L_is (wa 0 (by omega))]
    show _ = some (match e1L v br.1, e1L v br.2.1 with
      | some x, some y => if x < y then (e1L v br.2.2).getD 0 else laV v bs last
      | _, _ => 0)
    cases e1L v br.1 with
    | none => rfl
    | some x =>
      show runC C sz v (k + 1 + br.2.1.length) (b + br.1.length) [x] = _
      have ea := evL_app (v := v) [x] br.2.1 [] 1 (wb 0 (by omega))
      rw [List.nil_append] at ea
      rw [runC_es br.2.1 (k + 1) (b + br.1.length) [x] 2 d3 (by omega) (wb 1 (by omega)), ea, e1L_is (wb 0 (by omega))]
      cases e1L v br.2.1 with
      | none => rfl
      | some y =>
        show runC C sz v (k + 1) (b + br.1.length + br.2.1.length) [y, x] = some (if x < y then (e1L v br.2.2).getD 0 else laV v bs last)
        rw [runC_s, if_pos (by omega), if_neg (by rw [d5]; decide), if_pos d5]
        show (if x < y then runC C sz v k (b + br.1.length + br.2.1.length + 2) [] else if b + br.1.length + br.2.1.length + 1 < sz ∧ ¬ C (b + br.1.length + br.2.1.length + 1) < 0 then runC C sz v k (C (b + br.1.length + br.2.1.length + 1)).toNatClampNeg [] else none) = _
        by_cases hxy : x < y
        · rw [if_pos hxy, if_pos hxy]
          exact runC_last d8 (by omega) wc (by omega)
        · rw [if_neg hxy, if_neg hxy, d7, if_pos ⟨by omega, nI_pos (by omega)⟩, nI_clamp (by omega)]
          exact ih k (by omega)
/-- the reference's cells -/
def rcC (c : Int32) : Int32 × Int32 := if 0 ≤ c then (0, c) else if -6 ≤ c then (1, -1 - c) else (-5 - c, 0)
def cellR (C CI : Nat → Int32) (o : Nat) (es : List Int32) : Prop := ∀ i, i < es.length → C (o + i) = (rcC (es.getD i 0)).1 ∧ CI (o + i) = (rcC (es.getD i 0)).2
theorem cellR_c {C CI : Nat → Int32} {o : Nat} {c : Int32} {cs : List Int32} : cellR C CI o (c :: cs) ↔ (C o = (rcC c).1 ∧ CI o = (rcC c).2) ∧ cellR C CI (o + 1) cs := by
  constructor
  · intro h
    refine ⟨h 0 (by simp), fun i hi => ?_⟩
    have := h (i + 1) (by simp; omega)
    rw [show o + 1 + i = o + (i + 1) by omega]
    exact this
  · intro ⟨h1, h2⟩ i hi
    cases i with
    | zero => exact h1
    | succ i =>
      rw [show o + (i + 1) = o + 1 + i by omega]
      exact h2 i (by simp at hi; omega)
theorem cellR_n {C CI : Nat → Int32} {o : Nat} : cellR C CI o [] := fun i hi => absurd hi (Nat.not_lt_zero _)
theorem cellR_a {C CI : Nat → Int32} : ∀ {es fs : List Int32} {o : Nat}, cellR C CI o (es ++ fs) ↔ cellR C CI o es ∧ cellR C CI (o + es.length) fs
  | [], fs, o => ⟨fun h => ⟨cellR_n, h⟩, fun h => h.2⟩
  | c :: cs, fs, o => by
    rw [List.cons_append, cellR_c, cellR_c, cellR_a (es := cs), List.length_cons, show o + 1 + cs.length = o + (cs.length + 1) by omega]
    exact and_assoc.symm
theorem six_of {c : Int32} (h : -6 ≤ c) (h0 : ¬ 0 ≤ c) : c = -6 ∨ c = -5 ∨ c = -4 ∨ c = -3 ∨ c = -2 ∨ c = -1 := by
  have h1 := Int32.le_iff_toInt_le.mp h
  have h2 : ¬ (0 : Int32).toInt ≤ c.toInt := fun z => h0 (Int32.le_iff_toInt_le.mpr z)
  have e6 : (-6 : Int32).toInt = -6 := by decide
  have e5 : (-5 : Int32).toInt = -5 := by decide
  have e4 : (-4 : Int32).toInt = -4 := by decide
  have e3 : (-3 : Int32).toInt = -3 := by decide
  have e2 : (-2 : Int32).toInt = -2 := by decide
  have e1 : (-1 : Int32).toInt = -1 := by decide
  have e0 : (0 : Int32).toInt = 0 := by decide
  simp only [← Int32.toInt_inj]
  omega
theorem four_of {c : Int32} (h : -10 ≤ c) (h0 : ¬ -6 ≤ c) : c = -10 ∨ c = -9 ∨ c = -8 ∨ c = -7 := by
  have h1 := Int32.le_iff_toInt_le.mp h
  have h2 : ¬ (-6 : Int32).toInt ≤ c.toInt := fun z => h0 (Int32.le_iff_toInt_le.mpr z)
  have e6 : (-10 : Int32).toInt = -10 := by decide
  have e5 : (-9 : Int32).toInt = -9 := by decide
  have e4 : (-8 : Int32).toInt = -8 := by decide
  have e3 : (-7 : Int32).toInt = -7 := by decide
  have e0 : (-6 : Int32).toInt = -6 := by decide
  simp only [← Int32.toInt_inj]
  omega
theorem runP_op {C CI : Nat → Int32} {v : Nat → Int32} {n o : Nat} {c r l : Int32} {s2 : List Int32} (h10 : -10 ≤ c) (h6 : ¬ -6 ≤ c) (ho : o < 840) (hs : s2.length + 2 < 400) (hC : C o = (rcC c).1) : runP C CI v (n + 1) o (r :: l :: s2) = if c = -10 ∧ r = 0 then some none else runP C CI v n (o + 1) (opF c l r :: s2) := by
  rw [runP_s, if_pos ⟨ho, hs⟩, hC]
  rcases four_of h10 h6 with h | h | h | h
  · subst h
    rw [show (rcC (-10)).1 = 5 from by decide, if_neg (by decide), if_neg (by decide), if_pos (by decide)]
    show (if (5 : Int32) = 5 ∧ r = 0 then some none else runP C CI v n (o + 1) ((if (5 : Int32) = 2 then l + r else if (5 : Int32) = 3 then l - r else if (5 : Int32) = 4 then l * r else l / r) :: s2)) = (if (-10 : Int32) = -10 ∧ r = 0 then some none else runP C CI v n (o + 1) (opF (-10) l r :: s2))
    by_cases hr : r = 0
    · rw [if_pos (c := (5 : Int32) = 5 ∧ r = 0) ⟨rfl, hr⟩, if_pos (c := (-10 : Int32) = -10 ∧ r = 0) ⟨rfl, hr⟩]
    · rw [if_neg (c := (5 : Int32) = 5 ∧ r = 0) (fun z => hr z.2), if_neg (c := (-10 : Int32) = -10 ∧ r = 0) (fun z => hr z.2)]
      rfl
  · subst h
    rw [show (rcC (-9)).1 = 4 from by decide, if_neg (by decide), if_neg (by decide), if_pos (by decide)]
    show (if (4 : Int32) = 5 ∧ r = 0 then some none else runP C CI v n (o + 1) ((if (4 : Int32) = 2 then l + r else if (4 : Int32) = 3 then l - r else if (4 : Int32) = 4 then l * r else l / r) :: s2)) = (if (-9 : Int32) = -10 ∧ r = 0 then some none else runP C CI v n (o + 1) (opF (-9) l r :: s2))
    rw [if_neg (c := (4 : Int32) = 5 ∧ r = 0) (fun z => absurd z.1 (by decide)), if_neg (c := (-9 : Int32) = -10 ∧ r = 0) (fun z => absurd z.1 (by decide))]
    rfl
  · subst h
    rw [show (rcC (-8)).1 = 3 from by decide, if_neg (by decide), if_neg (by decide), if_pos (by decide)]
    show (if (3 : Int32) = 5 ∧ r = 0 then some none else runP C CI v n (o + 1) ((if (3 : Int32) = 2 then l + r else if (3 : Int32) = 3 then l - r else if (3 : Int32) = 4 then l * r else l / r) :: s2)) = (if (-8 : Int32) = -10 ∧ r = 0 then some none else runP C CI v n (o + 1) (opF (-8) l r :: s2))
    rw [if_neg (c := (3 : Int32) = 5 ∧ r = 0) (fun z => absurd z.1 (by decide)), if_neg (c := (-8 : Int32) = -10 ∧ r = 0) (fun z => absurd z.1 (by decide))]
    rfl
  · subst h
    rw [show (rcC (-7)).1 = 2 from by decide, if_neg (by decide), if_neg (by decide), if_pos (by decide)]
    show (if (2 : Int32) = 5 ∧ r = 0 then some none else runP C CI v n (o + 1) ((if (2 : Int32) = 2 then l + r else if (2 : Int32) = 3 then l - r else if (2 : Int32) = 4 then l * r else l / r) :: s2)) = (if (-7 : Int32) = -10 ∧ r = 0 then some none else runP C CI v n (o + 1) (opF (-7) l r :: s2))
    rw [if_neg (c := (2 : Int32) = 5 ∧ r = 0) (fun z => absurd z.1 (by decide)), if_neg (c := (-7 : Int32) = -10 ∧ r = 0) (fun z => absurd z.1 (by decide))]
    rfl
theorem runP_es {C CI : Nat → Int32} {v : Nat → Int32} : ∀ (es : List Int32) (n o : Nat) (st : List Int32) (e : Nat), cellR C CI o es → o + es.length ≤ 840 → st.length ≤ 32 → wfL es st.length e → runP C CI v (n + es.length) o st = (match evL v es st with
    | none => some none
    | some st' => runP C CI v n (o + es.length) st')
  | [], n, o, st, e, _, _, _, _ => rfl
  | c :: cs, n, o, st, e, hc, hz, hst, w => by
    obtain ⟨⟨h1, h1b⟩, h2⟩ := cellR_c.mp hc
    rw [List.length_cons] at hz ⊢
    show runP C CI v (n + cs.length + 1) o st = _
    by_cases h6 : -6 ≤ c
    · obtain ⟨w1, w2⟩ := wf_y h6 w
      have ih := runP_es (v := v) cs n (o + 1) (lookF v c :: st) e h2 (by omega) (by show st.length + 1 ≤ 32; omega) w2
      rw [runP_s, if_pos ⟨by omega, by omega⟩, h1, h1b]
      rw [evL_y h6, show o + (cs.length + 1) = o + 1 + cs.length by omega, ← ih]
      by_cases h0 : 0 ≤ c
      · have er : rcC c = (0, c) := if_pos h0
        have el : lookF v c = c := by
          unfold lookF
          rw [if_neg (fun z => by subst z; exact absurd h0 (by decide)), if_pos h0]
        rw [er, el, if_pos rfl]
      · rcases six_of h6 h0 with h | h | h | h | h | h <;> subst h <;> rfl
    · obtain ⟨w1, w2, w3⟩ := wf_n h6 w
      obtain ⟨r, l, s2, rfl⟩ := ls_two w2
      have ih := runP_es (v := v) cs n (o + 1) (opF c l r :: s2) e h2 (by omega) (by simp at hst ⊢; omega) w3
      have hop := runP_op (v := v) (CI := CI) (n := n + cs.length) (r := r) (l := l) (s2 := s2) w1 h6 (by omega) (by simp at hst; omega) h1
      rw [hop, evL_n h6, show o + (cs.length + 1) = o + 1 + cs.length by omega]
      by_cases hz2 : c = -10 ∧ r = 0
      · rw [if_pos hz2, if_pos hz2]
      · rw [if_neg hz2, if_neg hz2]
        exact ih
theorem cellsP_es {M : qM} {v : Nat → Int32} {es : List Int32} {o : Nat} (hc : cellR (M.1 316) (M.1 317) o es) (hz : o + es.length ≤ 840) (w : wfE es) : cellsP M v o (o + es.length) = some (e1L v es) := by
  unfold cellsP
  have h := runP_es (v := v) es 0 o [] 1 hc hz (by simp) (w 0 (by omega))
  rw [Nat.zero_add] at h
  rw [if_pos (by omega), show o + es.length - o = es.length by omega, h, e1L_is (w 0 (by omega))]
  cases e1L v es <;> rfl
def qBrM (M : qM) (b o : Nat) (br : qBr) : Prop := (M.1 311 b = 1 ∧ M.1 312 b = nI o ∧ M.1 313 b = nI (o + br.1.length) ∧ M.1 314 b = nI (o + br.1.length + br.2.1.length) ∧ M.1 315 b = nI (o + br.1.length + br.2.1.length + br.2.2.length)) ∧ cellR (M.1 316) (M.1 317) o br.1 ∧ cellR (M.1 316) (M.1 317) (o + br.1.length) br.2.1 ∧ cellR (M.1 316) (M.1 317) (o + br.1.length + br.2.1.length) br.2.2
def qLsM (M : qM) (b o : Nat) (last : List Int32) : Prop := (M.1 311 b = 0 ∧ M.1 314 b = nI o ∧ M.1 315 b = nI (o + last.length)) ∧ cellR (M.1 316) (M.1 317) o last
def qLwM (M : qM) : Nat → Nat → List qBr → List Int32 → Prop
  | b, o, [], last => qLsM M b o last
  | b, o, br :: bs, last => qBrM M b o br ∧ qLwM M (b + 1) (o + brT br) bs last
def lwT : List qBr → List Int32 → Nat
  | [], last => last.length
  | br :: bs, last => brT br + lwT bs last
theorem runB_law {M : qM} {v : Nat → Int32} {last : List Int32} (hw : wfE last) : ∀ (bs : List qBr) (n b o : Nat), (∀ br, br ∈ bs → wfB br) → qLwM M b o bs last → b + bs.length < 260 → o + lwT bs last ≤ 840 → bs.length + 1 ≤ n → runB M v n b = some (laV v bs last)
  | [], n, b, o, _, hc, hb, hz, hn => by
    obtain ⟨⟨h1, h2, h3⟩, h4⟩ := hc
    obtain ⟨k, rfl⟩ : ∃ k, n = k + 1 := ⟨n - 1, by simp at hn; omega⟩
    have hz2 : o + last.length ≤ 840 := hz
    have e1 : brAt M 314 b = o := by unfold brAt; rw [h2]; exact nI_clamp (by omega)
    have e2 : brAt M 315 b = o + last.length := by unfold brAt; rw [h3]; exact nI_clamp (by omega)
    rw [runB_s, if_pos ⟨by simp at hb; omega, by rw [h2]; exact nI_pos (by omega), by rw [h3]; exact nI_pos (by omega)⟩, e1, e2, cellsP_es h4 hz2 hw]
    show (if M.1 311 b = 0 then some ((e1L v last).getD 0) else _) = _
    rw [if_pos h1]
    rfl
  | br :: bs, n, b, o, hb2, hc, hb, hz, hn => by
    obtain ⟨⟨⟨h1, h2, h3, h4, h5⟩, h6, h7, h8⟩, h9⟩ := hc
    obtain ⟨wa, wb, wc⟩ := hb2 br List.mem_cons_self
    obtain ⟨k, rfl⟩ : ∃ k, n = k + 1 := ⟨n - 1, by simp at hn; omega⟩
    have hz2 : o + (brT br + lwT bs last) ≤ 840 := hz
    have ht : brT br = br.1.length + br.2.1.length + br.2.2.length := rfl
    rw [List.length_cons] at hb hn
    have ih := runB_law (v := v) hw bs k (b + 1) (o + brT br) (fun x hx => hb2 x (List.mem_cons_of_mem _ hx)) h9 (by omega) (by omega) (by omega)
    have e1 : brAt M 312 b = o := by unfold brAt; rw [h2]; exact nI_clamp (by omega)
    have e2 : brAt M 313 b = o + br.1.length := by unfold brAt; rw [h3]; exact nI_clamp (by omega)
    have e3 : brAt M 314 b = o + br.1.length + br.2.1.length := by unfold brAt; rw [h4]; exact nI_clamp (by omega)
    have e4 : brAt M 315 b = o + br.1.length + br.2.1.length + br.2.2.length := by unfold brAt; rw [h5]; exact nI_clamp (by omega)
    rw [runB_s, if_pos ⟨by omega, by rw [h4]; exact nI_pos (by omega), by rw [h5]; exact nI_pos (by omega)⟩, e1, e2, e3, e4, cellsP_es h8 (by omega) wc, cellsP_es h6 (by omega) wa, cellsP_es h7 (by omega) wb]
    show (if M.1 311 b = 0 then some ((e1L v br.2.2).getD 0) else if M.1 312 b < 0 ∨ M.1 313 b < 0 then none else (match some (e1L v br.1), some (e1L v br.2.1) with
          | some (some x), some (some y) => if x < y then some ((e1L v br.2.2).getD 0) else runB M v k (b + 1)
          | some _, some _ => some 0
          | _, _ => none)) = some (match e1L v br.1, e1L v br.2.1 with
      | some x, some y => if x < y then (e1L v br.2.2).getD 0 else laV v bs last
      | _, _ => 0)
    rw [h1, if_neg (by decide), h2, h3, if_neg (fun z => by rcases z with z | z; exact nI_pos (by omega) z; exact nI_pos (by omega) z), ih]
    cases e1L v br.1 with
    | none => cases e1L v br.2.1 <;> rfl
    | some x =>
      cases e1L v br.2.1 with
      | none => rfl
      | some y =>
        show (if x < y then some ((e1L v br.2.2).getD 0) else some (laV v bs last)) = some (if x < y then (e1L v br.2.2).getD 0 else laV v bs last)
        by_cases hxy : x < y
        · rw [if_pos hxy, if_pos hxy]
        · rw [if_neg hxy, if_neg hxy]
