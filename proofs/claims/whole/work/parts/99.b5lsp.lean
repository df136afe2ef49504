/-! a law as it is read -/
def ifQ (T : qTk) : Nat → Nat → List qBr → Except qE (Nat × List qBr × List Int32)
  | 0, a, bs => if kAt T a = 136 then .error (2, a) else bQ (exQ T 6 a) (fun r => .ok (r.1, bs, r.2))
  | n + 1, a, bs => if kAt T a = 136 then
      bQ (acQ T 136 a) (fun a1 => bQ (exQ T 6 a1) (fun r1 => bQ (acQ T 60 r1.1) (fun a2 => bQ (exQ T 6 a2) (fun r2 => bQ (acQ T 137 r2.1) (fun a3 => bQ (exQ T 6 a3) (fun r3 => bQ (acQ T 138 r3.1) (fun a4 => ifQ T n a4 (bs ++ [(r1.2, r2.2, r3.2)]))))))))
      else bQ (exQ T 6 a) (fun r => .ok (r.1, bs, r.2))
theorem ifQ_y0 {T : qTk} {a : Nat} {bs : List qBr} (h : kAt T a = 136) : ifQ T 0 a bs = .error (2, a) := if_pos h
theorem ifQ_y {T : qTk} {n a : Nat} {bs : List qBr} (h : kAt T a = 136) : ifQ T (n + 1) a bs = bQ (acQ T 136 a) (fun a1 => bQ (exQ T 6 a1) (fun r1 => bQ (acQ T 60 r1.1) (fun a2 => bQ (exQ T 6 a2) (fun r2 => bQ (acQ T 137 r2.1) (fun a3 => bQ (exQ T 6 a3) (fun r3 => bQ (acQ T 138 r3.1) (fun a4 => ifQ T n a4 (bs ++ [(r1.2, r2.2, r3.2)])))))))) := if_pos h
theorem ifQ_n {T : qTk} {n a : Nat} {bs : List qBr} (h : ¬ kAt T a = 136) : ifQ T n a bs = bQ (exQ T 6 a) (fun r => .ok (r.1, bs, r.2)) := by
  cases n <;> exact if_neg h
def laQ (T : qTk) (a : Nat) : Except qE (Nat × List qBr × List Int32) := bQ (acQ T 61 a) (fun a1 => ifQ T 4 a1 [])
theorem exOk_w {a : Nat} {r : Nat × List Int32} (h : exOk 6 a r) : wfE r.2 := fun d hd => h.2.2.2 d (by omega)
abbrev ifOk (n a : Nat) (bs : List qBr) (v : Nat × List qBr × List Int32) : Prop := a < v.1 ∧ v.1 ≤ 400 ∧ (∃ bs', v.2.1 = bs ++ bs' ∧ bs'.length ≤ n ∧ (∀ br, br ∈ bs' → wfB br) ∧ lwT bs' v.2.2 + 4 * bs'.length + a ≤ v.1) ∧ wfE v.2.2
theorem if_last {T : qTk} (hT : okTk T) {n a : Nat} {bs : List qBr} {v : Nat × List qBr × List Int32} (h : bQ (exQ T 6 a) (fun r => .ok (r.1, bs, r.2)) = Except.ok v) : ifOk n a bs v := by
  obtain ⟨r, h1, h2⟩ := bQ_inv h
  have e := ex_ok hT 6 a r h1
  obtain ⟨e1, e2, e3, e4⟩ := id e
  cases h2
  exact ⟨e1, e2, ⟨[], (List.append_nil _).symm, Nat.zero_le _, fun br h => (nomatch h), by show r.2.length + 4 * 0 + a ≤ r.1; omega⟩, exOk_w e⟩
theorem if_ok {T : qTk} (hT : okTk T) : ∀ n a bs v, ifQ T n a bs = .ok v → ifOk n a bs v
  | 0, a, bs, v, h => by
    by_cases c : kAt T a = 136
    · rw [ifQ_y0 c] at h
      cases h
    · rw [ifQ_n c] at h
      exact if_last hT h
  | n + 1, a, bs, v, h => by
    by_cases c : kAt T a = 136
    · rw [ifQ_y c] at h
      obtain ⟨a1, h1, h⟩ := bQ_inv h
      obtain ⟨r1, g1, h⟩ := bQ_inv h
      obtain ⟨a2, h2, h⟩ := bQ_inv h
      obtain ⟨r2, g2, h⟩ := bQ_inv h
      obtain ⟨a3, h3, h⟩ := bQ_inv h
      obtain ⟨r3, g3, h⟩ := bQ_inv h
      obtain ⟨a4, h4, h⟩ := bQ_inv h
      have i1 := ac_ok h1
      have i2 := ac_ok h2
      have i3 := ac_ok h3
      have i4 := ac_ok h4
      have e1 := ex_ok hT 6 a1 r1 g1
      have e2 := ex_ok hT 6 a2 r2 g2
      have e3 := ex_ok hT 6 a3 r3 g3
      obtain ⟨d1, d2, ⟨bs', d3, d4, d5, d6⟩, d7⟩ := if_ok hT n a4 _ v h
      have f1 := e1.2.2.1
      have f2 := e2.2.2.1
      have f3 := e3.2.2.1
      refine ⟨by omega, d2, ⟨(r1.2, r2.2, r3.2) :: bs', by rw [d3, List.append_assoc]; rfl, by rw [List.length_cons]; omega, fun br hb => ?_, ?_⟩, d7⟩
      · rcases List.mem_cons.mp hb with hb | hb
        · rw [hb]
          exact ⟨exOk_w e1, exOk_w e2, exOk_w e3⟩
        · exact d5 br hb
      · rw [List.length_cons]
        show r1.2.length + r2.2.length + r3.2.length + lwT bs' v.2.2 + 4 * (bs'.length + 1) + a ≤ v.1
        omega
    · rw [ifQ_n c] at h
      exact if_last hT h
theorem erOk_m {a b : Nat} {e : qE} (h : erOk b e) (hab : a ≤ b) : erOk a e := ⟨h.1, h.2.1, by have := h.2.2; omega⟩
theorem if_lastE {T : qTk} (hT : okTk T) {a : Nat} (ha : a ≤ 400) {bs : List qBr} {e : qE} (h : bQ (exQ T 6 a) (fun r => .ok (r.1, bs, r.2)) = Except.error e) : erOk a e := by
  rcases bQ_inv2 h with h | ⟨v, -, h⟩
  · exact ex_er hT 6 a e ha h
  · cases h
theorem if_er {T : qTk} (hT : okTk T) : ∀ n a bs e, a ≤ 400 → ifQ T n a bs = .error e → erOk a e
  | 0, a, bs, e, ha, h => by
    by_cases c : kAt T a = 136
    · rw [ifQ_y0 c] at h
      cases h
      exact ⟨Or.inr rfl, ha, Nat.le_refl _⟩
    · rw [ifQ_n c] at h
      exact if_lastE hT ha h
  | n + 1, a, bs, e, ha, h => by
    by_cases c : kAt T a = 136
    · rw [ifQ_y c] at h
      rcases bQ_inv2 h with h | ⟨a1, h1, h⟩
      · exact ac_erOk ha h
      have i1 := ac_ok h1
      rcases bQ_inv2 h with h | ⟨r1, g1, h⟩
      · exact erOk_m (ex_er hT 6 a1 e (by omega) h) (by omega)
      have e1 := ex_ok hT 6 a1 r1 g1
      have e1a := e1.1
      have e1b := e1.2.1
      rcases bQ_inv2 h with h | ⟨a2, h2, h⟩
      · exact erOk_m (ac_erOk e1b h) (by omega)
      have i2 := ac_ok h2
      rcases bQ_inv2 h with h | ⟨r2, g2, h⟩
      · exact erOk_m (ex_er hT 6 a2 e (by omega) h) (by omega)
      have e2 := ex_ok hT 6 a2 r2 g2
      have e2a := e2.1
      have e2b := e2.2.1
      rcases bQ_inv2 h with h | ⟨a3, h3, h⟩
      · exact erOk_m (ac_erOk e2b h) (by omega)
      have i3 := ac_ok h3
      rcases bQ_inv2 h with h | ⟨r3, g3, h⟩
      · exact erOk_m (ex_er hT 6 a3 e (by omega) h) (by omega)
      have e3 := ex_ok hT 6 a3 r3 g3
      have e3a := e3.1
      have e3b := e3.2.1
      rcases bQ_inv2 h with h | ⟨a4, h4, h⟩
      · exact erOk_m (ac_erOk e3b h) (by omega)
      have i4 := ac_ok h4
      exact erOk_m (if_er hT n a4 _ e (by omega) h) (by omega)
    · rw [ifQ_n c] at h
      exact if_lastE hT ha h
theorem la_ok {T : qTk} (hT : okTk T) {a : Nat} {v : Nat × List qBr × List Int32} (h : laQ T a = .ok v) : a + 1 < v.1 ∧ v.1 ≤ 400 ∧ v.2.1.length ≤ 4 ∧ (∀ br, br ∈ v.2.1 → wfB br) ∧ lwT v.2.1 v.2.2 + 4 * v.2.1.length + a + 1 ≤ v.1 ∧ wfE v.2.2 := by
  obtain ⟨a1, h1, h⟩ := bQ_inv h
  have i1 := ac_ok h1
  obtain ⟨d1, d2, ⟨bs', d3, d4, d5, d6⟩, d7⟩ := if_ok hT 4 a1 [] v h
  rw [List.nil_append] at d3
  rw [d3]
  exact ⟨by omega, d2, d4, d5, by omega, d7⟩
theorem la_er {T : qTk} (hT : okTk T) {a : Nat} (ha : a ≤ 400) {e : qE} (h : laQ T a = .error e) : erOk a e := by
  rcases bQ_inv2 h with h | ⟨a1, h1, h⟩
  · exact ac_erOk ha h
  have i1 := ac_ok h1
  exact erOk_m (if_er hT 4 a1 [] e (by omega) h) (by omega)
/-- a law's cells, the branches ahead -/
def pfL : Nat → List qBr → List Int32
  | _, [] => []
  | b, br :: bs => brL b br ++ pfL (b + brT br + 3) bs
theorem pfL_len : ∀ (bs : List qBr) (b : Nat), (pfL b bs).length = lwT bs [] + 3 * bs.length
  | [], b => rfl
  | br :: bs, b => by
    show (brL b br ++ pfL (b + brT br + 3) bs).length = brT br + lwT bs [] + 3 * (bs.length + 1)
    rw [List.length_append, brL_len, pfL_len bs]
    omega
theorem lwT_last : ∀ (bs : List qBr) (l : List Int32), lwT bs l = lwT bs [] + l.length
  | [], l => (Nat.zero_add _).symm
  | br :: bs, l => by
    show brT br + lwT bs l = brT br + lwT bs [] + l.length
    rw [lwT_last bs l]
    omega
theorem pfL_snoc : ∀ (bs : List qBr) (b : Nat) (br : qBr), pfL b (bs ++ [br]) = pfL b bs ++ brL (b + (pfL b bs).length) br
  | [], b, br => by
    show brL b br ++ [] = [] ++ brL (b + 0) br
    rw [List.append_nil, List.nil_append, Nat.add_zero]
  | x :: bs, b, br => by
    show brL b x ++ pfL (b + brT x + 3) (bs ++ [br]) = brL b x ++ pfL (b + brT x + 3) bs ++ brL (b + (brL b x ++ pfL (b + brT x + 3) bs).length) br
    rw [pfL_snoc bs, List.append_assoc, List.length_append, brL_len]
    congr 3
    omega
theorem lwL_pf : ∀ (bs : List qBr) (b : Nat) (l : List Int32), lwL b bs l = pfL b bs ++ (l ++ [-12])
  | [], b, l => rfl
  | x :: bs, b, l => by
    show brL b x ++ lwL (b + brT x + 3) bs l = brL b x ++ pfL (b + brT x + 3) bs ++ (l ++ [-12])
    rw [lwL_pf bs, List.append_assoc]
theorem lwL_len (bs : List qBr) (b : Nat) (l : List Int32) : (lwL b bs l).length = lwT bs l + 3 * bs.length + 1 := by
  rw [lwL_pf, List.length_append, pfL_len, List.length_append, lwT_last bs l]
  show _ + (l.length + 1) = _
  omega
