/-! what a reading finds: a fault (its number, the token at which it is), or an answer -/
abbrev qE : Type := Nat × Nat
def bQ {α β : Type} (x : Except qE α) (f : α → Except qE β) : Except qE β := match x with
  | .error e => .error e
  | .ok v => f v
theorem bQ_o {α β : Type} {x : Except qE α} {v : α} {f : α → Except qE β} (h : x = .ok v) : bQ x f = f v := by rw [h]; rfl
theorem bQ_e {α β : Type} {x : Except qE α} {e : qE} {f : α → Except qE β} (h : x = .error e) : bQ x f = .error e := by rw [h]; rfl
theorem bQ_inv {α β : Type} {x : Except qE α} {f : α → Except qE β} {w : β} (h : bQ x f = .ok w) : ∃ v, x = .ok v ∧ f v = .ok w := by
  cases hx : x with
  | error e => rw [bQ_e hx] at h; cases h
  | ok v => exact ⟨v, rfl, by rw [bQ_o hx] at h; exact h⟩
theorem bQ_inv2 {α β : Type} {x : Except qE α} {f : α → Except qE β} {e : qE} (h : bQ x f = .error e) : x = .error e ∨ ∃ v, x = .ok v ∧ f v = .error e := by
  cases hx : x with
  | error e' => rw [bQ_e hx] at h; cases h; exact Or.inl rfl
  | ok v => exact Or.inr ⟨v, rfl, by rw [bQ_o hx] at h; exact h⟩
/-- a token of this kind -/
def acQ (T : qTk) (k a : Nat) : Except qE Nat := if ¬ kAt T a = k then .error (1, a) else if 400 ≤ a then .error (2, a) else .ok (a + 1)
theorem ac_ok {T : qTk} {k a a1 : Nat} (h : acQ T k a = .ok a1) : a1 = a + 1 ∧ a < 400 ∧ kAt T a = k := by
  unfold acQ at h
  split at h
  · cases h
  · split at h
    · cases h
    · rename_i h1 h2
      cases h
      exact ⟨rfl, by omega, Decidable.not_not.mp h1⟩
theorem ac_er {T : qTk} {k a : Nat} {e : qE} (h : acQ T k a = .error e) : e.2 = a ∧ ((¬ kAt T a = k ∧ e.1 = 1) ∨ (kAt T a = k ∧ 400 ≤ a ∧ e.1 = 2)) := by
  unfold acQ at h
  split at h
  · rename_i h1
    cases h
    exact ⟨rfl, Or.inl ⟨h1, rfl⟩⟩
  · split at h
    · rename_i h1 h2
      cases h
      exact ⟨rfl, Or.inr ⟨Decidable.not_not.mp h1, h2, rfl⟩⟩
    · cases h
/-- what is known of the tokens of a text -/
def okTk (T : qTk) : Prop := T.1 ≤ 401 ∧ T.2.1 ≤ 2000 ∧ (∀ i, i < T.1 → (T.2.2.1 i = 3 → T.2.2.2.2 i ≤ 9999) ∧ (T.2.2.1 i = 2 → dgQ 8 (T.2.2.2.2 i)) ∧ 0 < T.2.2.1 i ∧ T.2.2.1 i ≤ 144 ∧ kmQ (T.2.2.1 i) ≠ 99 ∧ T.2.2.2.1 i < T.2.1) ∧ ∀ i j, i < j → j < T.1 → T.2.2.2.1 i < T.2.2.2.1 j
abbrev qEx : Type := Nat → Except qE (Nat × List Int32)
def vaC (k : Nat) : Int32 := -1 - (nI k - 139)
def unQ (T : qTk) (S : Option qEx) (a : Nat) : Except qE (Nat × List Int32) :=
  if kAt T a = 3 then bQ (acQ T 3 a) (fun a1 => .ok (a1, [nI (vAt T a)]))
  else if 139 ≤ kAt T a ∧ kAt T a ≤ 144 then bQ (acQ T (kAt T a) a) (fun a1 => .ok (a1, [vaC (kAt T a)]))
  else if kAt T a = 40 then (match S with
    | none => .error (2, a)
    | some F => bQ (acQ T 40 a) (fun a1 => bQ (F a1) (fun r => bQ (acQ T 41 r.1) (fun a3 => .ok (a3, r.2)))))
  else .error (1, a)
def sgL (k : Nat) : List Int32 := if k = 43 then [-7] else if k = 45 then [-8] else if k = 42 then [-9] else if k = 47 then [-10] else []
def loQ (T : qTk) (U : qEx) : Nat → Nat → Nat → Nat → List Int32 → Except qE (Nat × List Int32)
  | 0, a, _, _, _ => .error (9, a)
  | m + 1, a, ad, mu, acc => bQ (U a) (fun r =>
      if kAt T r.1 = 42 ∨ kAt T r.1 = 47 then bQ (acQ T (kAt T r.1) r.1) (fun a2 => loQ T U m a2 ad (kAt T r.1) (acc ++ r.2 ++ sgL mu))
      else if kAt T r.1 = 43 ∨ kAt T r.1 = 45 then bQ (acQ T (kAt T r.1) r.1) (fun a2 => loQ T U m a2 (kAt T r.1) 0 (acc ++ r.2 ++ sgL mu ++ sgL ad))
      else .ok (r.1, acc ++ r.2 ++ sgL mu ++ sgL ad))
theorem loQ_s (T : qTk) (U : qEx) (m a ad mu : Nat) (acc : List Int32) : loQ T U (m + 1) a ad mu acc = bQ (U a) (fun r =>
      if kAt T r.1 = 42 ∨ kAt T r.1 = 47 then bQ (acQ T (kAt T r.1) r.1) (fun a2 => loQ T U m a2 ad (kAt T r.1) (acc ++ r.2 ++ sgL mu))
      else if kAt T r.1 = 43 ∨ kAt T r.1 = 45 then bQ (acQ T (kAt T r.1) r.1) (fun a2 => loQ T U m a2 (kAt T r.1) 0 (acc ++ r.2 ++ sgL mu ++ sgL ad))
      else .ok (r.1, acc ++ r.2 ++ sgL mu ++ sgL ad)) := rfl
def exQ (T : qTk) : Nat → qEx
  | 0 => fun a => loQ T (unQ T none) 401 a 0 0 []
  | n + 1 => fun a => loQ T (unQ T (some (exQ T n))) 401 a 0 0 []
def exS (T : qTk) : Nat → Option qEx
  | 0 => none
  | n + 1 => some (exQ T n)
theorem exQ_s (T : qTk) (n a : Nat) : exQ T n a = loQ T (unQ T (exS T n)) 401 a 0 0 [] := by cases n <;> rfl
/-- how deep the cells work -/
def wfL : List Int32 → Nat → Nat → Prop
  | [], d, e => d = e
  | c :: cs, d, e => if -6 ≤ c then d < 32 ∧ wfL cs (d + 1) e else -10 ≤ c ∧ 2 ≤ d ∧ wfL cs (d - 1) e
theorem wf_app : ∀ (es fs : List Int32) (d d1 d2 : Nat), wfL es d d1 → wfL fs d1 d2 → wfL (es ++ fs) d d2
  | [], fs, d, d1, d2, h1, h2 => by
    have e : d = d1 := h1
    rw [e]
    exact h2
  | c :: cs, fs, d, d1, d2, h1, h2 => by
    show if -6 ≤ c then d < 32 ∧ wfL (cs ++ fs) (d + 1) d2 else -10 ≤ c ∧ 2 ≤ d ∧ wfL (cs ++ fs) (d - 1) d2
    have h1' : if -6 ≤ c then d < 32 ∧ wfL cs (d + 1) d1 else -10 ≤ c ∧ 2 ≤ d ∧ wfL cs (d - 1) d1 := h1
    by_cases h : -6 ≤ c
    · rw [if_pos h] at h1' ⊢
      exact ⟨h1'.1, wf_app cs fs _ _ _ h1'.2 h2⟩
    · rw [if_neg h] at h1' ⊢
      exact ⟨h1'.1, h1'.2.1, wf_app cs fs _ _ _ h1'.2.2 h2⟩
theorem wf_one {c : Int32} {d : Nat} (h : -6 ≤ c) (hd : d < 32) : wfL [c] d (d + 1) := by
  show if -6 ≤ c then d < 32 ∧ d + 1 = d + 1 else _
  rw [if_pos h]
  exact ⟨hd, rfl⟩
def pdN (k : Nat) : Nat := (sgL k).length
abbrev opK (k : Nat) : Prop := k = 0 ∨ k = 42 ∨ k = 47 ∨ k = 43 ∨ k = 45
theorem sg_wf {k x : Nat} (hk : opK k) : wfL (sgL k) (x + 1 + pdN k) (x + 1) ∧ pdN k ≤ 1 := by
  rcases hk with h | h | h | h | h <;> subst h
  · exact ⟨rfl, Nat.zero_le _⟩
  all_goals
    refine ⟨?_, Nat.le_refl _⟩
    show if _ then _ else _
    rw [if_neg (by decide)]
    exact ⟨by decide, by show 2 ≤ x + 1 + 1; omega, rfl⟩
theorem vaC_is {k : Nat} (h1 : 139 ≤ k) (h2 : k ≤ 144) : -6 ≤ vaC k ∧ vaC k < 0 := by
  have : k = 139 ∨ k = 140 ∨ k = 141 ∨ k = 142 ∨ k = 143 ∨ k = 144 := by omega
  rcases this with h | h | h | h | h | h <;> subst h <;> exact ⟨by decide, by decide⟩
theorem nI_6 {v : Nat} (h : v ≤ 9999) : -6 ≤ nI v := by
  apply Int32.le_iff_toInt_le.mpr
  rw [nI_toInt (by omega)]
  have : (-6 : Int32).toInt = -6 := by decide
  omega
theorem vAt_le {T : qTk} (h : okTk T) {a : Nat} (hk : kAt T a = 3) : vAt T a ≤ 9999 := by
  unfold vAt
  unfold kAt at hk
  by_cases c : a < T.1
  · rw [if_pos c] at hk ⊢
    exact (h.2.2.1 a c).1 hk
  · rw [if_neg c]
    exact Nat.zero_le _
/-- what is known of an E that was read, with so many ( left -/
abbrev exOk (n a : Nat) (r : Nat × List Int32) : Prop := a < r.1 ∧ r.1 ≤ 400 ∧ r.2.length + a ≤ r.1 ∧ ∀ d, d + 2 * n + 3 ≤ 32 → wfL r.2 d (d + 1)
theorem un_ok {T : qTk} (hT : okTk T) {S : Option qEx} {n : Nat} (hS : ∀ F, S = some F → 0 < n ∧ ∀ a r, F a = .ok r → exOk (n - 1) a r) {a : Nat} {r : Nat × List Int32} (h : unQ T S a = .ok r) : a < r.1 ∧ r.1 ≤ 400 ∧ r.2.length + a ≤ r.1 ∧ ∀ d, d + 2 * n + 1 ≤ 32 → wfL r.2 d (d + 1) := by
  unfold unQ at h
  split at h
  · rename_i h3
    obtain ⟨a1, h4, h5⟩ := bQ_inv h
    obtain ⟨e1, e2, e3⟩ := ac_ok h4
    cases h5
    exact ⟨by show a < a1; omega, by show a1 ≤ 400; omega, by show 1 + a ≤ a1; omega, fun d hd => wf_one (nI_6 (vAt_le hT h3)) (by omega)⟩
  · split at h
    · rename_i h3
      obtain ⟨a1, h4, h5⟩ := bQ_inv h
      obtain ⟨e1, e2, e3⟩ := ac_ok h4
      cases h5
      have hv : -6 ≤ vaC (kAt T a) := (vaC_is h3.1 h3.2).1
      generalize vaC (kAt T a) = c at hv ⊢
      exact ⟨by show a < a1; omega, by show a1 ≤ 400; omega, by show 1 + a ≤ a1; omega, fun d hd => wf_one hv (by omega)⟩
    · split at h
      · cases hS2 : S with
        | none => rw [hS2] at h; cases h
        | some F =>
          rw [hS2] at h
          obtain ⟨hn, hF⟩ := hS F hS2
          obtain ⟨a1, h4, h5⟩ := bQ_inv h
          obtain ⟨e1, e2, e3⟩ := ac_ok h4
          obtain ⟨q, h6, h7⟩ := bQ_inv h5
          obtain ⟨f1, f2, f3, f4⟩ := hF a1 q h6
          obtain ⟨a3, h8, h9⟩ := bQ_inv h7
          obtain ⟨g1, g2, g3⟩ := ac_ok h8
          cases h9
          exact ⟨by show a < a3; omega, by show a3 ≤ 400; omega, by show q.2.length + a ≤ a3; omega, fun d hd => f4 d (by omega)⟩
      · cases h
theorem lo_ok {T : qTk} {U : qEx} {n : Nat} (hU : ∀ a r, U a = .ok r → a < r.1 ∧ r.1 ≤ 400 ∧ r.2.length + a ≤ r.1 ∧ ∀ d, d + 2 * n + 1 ≤ 32 → wfL r.2 d (d + 1)) : ∀ m a ad mu acc r, opK ad → opK mu → loQ T U m a ad mu acc = .ok r → a < r.1 ∧ r.1 ≤ 400 ∧ r.2.length + a ≤ r.1 + acc.length + pdN ad + pdN mu ∧ ∀ d, d + 2 * n + 3 ≤ 32 → wfL acc d (d + pdN ad + pdN mu) → wfL r.2 d (d + 1)
  | 0, a, ad, mu, acc, r, _, _, h => by cases h
  | m + 1, a, ad, mu, acc, r, ha, hm, h => by
    rw [loQ_s] at h
    obtain ⟨q, h1, h2⟩ := bQ_inv h
    obtain ⟨u1, u2, u3, u4⟩ := hU a q h1
    have s1 := fun x => (sg_wf (k := mu) (x := x) hm)
    have s2 := fun x => (sg_wf (k := ad) (x := x) ha)
    have w1 : ∀ d, d + 2 * n + 3 ≤ 32 → wfL acc d (d + pdN ad + pdN mu) → wfL (acc ++ q.2 ++ sgL mu) d (d + pdN ad + 1) := fun d hd hw => by
      refine wf_app _ _ _ _ _ (wf_app _ _ _ _ _ hw (u4 _ (by have := (s1 0).2; have := (s2 0).2; omega))) ?_
      rw [show d + pdN ad + pdN mu + 1 = d + pdN ad + 1 + pdN mu by omega]
      exact (s1 _).1
    have w2 : ∀ d, d + 2 * n + 3 ≤ 32 → wfL acc d (d + pdN ad + pdN mu) → wfL (acc ++ q.2 ++ sgL mu ++ sgL ad) d (d + 1) := fun d hd hw => by
      refine wf_app _ _ _ _ _ (w1 d hd hw) ?_
      rw [show d + pdN ad + 1 = d + 1 + pdN ad by omega]
      exact (s2 _).1
    have l1 : (acc ++ q.2 ++ sgL mu).length = acc.length + q.2.length + pdN mu := by rw [List.length_append, List.length_append]; rfl
    have l2 : (acc ++ q.2 ++ sgL mu ++ sgL ad).length = acc.length + q.2.length + pdN mu + pdN ad := by rw [List.length_append, l1]; rfl
    split at h2
    · rename_i hk
      obtain ⟨a2, h3, h4⟩ := bQ_inv h2
      obtain ⟨e1, e2, e3⟩ := ac_ok h3
      have hk2 : opK (kAt T q.1) := by rcases hk with h | h <;> rw [h] <;> decide
      have p1 : pdN (kAt T q.1) = 1 := by rcases hk with h | h <;> rw [h] <;> rfl
      obtain ⟨b1, b2, b3, b4⟩ := lo_ok hU m a2 ad _ _ r ha hk2 h4
      refine ⟨by omega, b2, by omega, fun d hd hw => b4 d hd ?_⟩
      rw [p1]
      exact w1 d hd hw
    · split at h2
      · rename_i hk
        obtain ⟨a2, h3, h4⟩ := bQ_inv h2
        obtain ⟨e1, e2, e3⟩ := ac_ok h3
        have hk2 : opK (kAt T q.1) := by rcases hk with h | h <;> rw [h] <;> decide
        have p1 : pdN (kAt T q.1) = 1 := by rcases hk with h | h <;> rw [h] <;> rfl
        obtain ⟨b1, b2, b3, b4⟩ := lo_ok hU m a2 _ 0 _ r hk2 (Or.inl rfl) h4
        have p0 : pdN 0 = 0 := rfl
        refine ⟨by omega, b2, by omega, fun d hd hw => b4 d hd ?_⟩
        rw [p1]
        exact w2 d hd hw
      · cases h2
        exact ⟨u1, u2, by show (acc ++ q.2 ++ sgL mu ++ sgL ad).length + a ≤ _; rw [l2]; show _ ≤ q.1 + _ + _ + _; omega, w2⟩
theorem ex_ok {T : qTk} (hT : okTk T) : ∀ n a r, exQ T n a = .ok r → exOk n a r
  | 0, a, r, h => by
    have hU : ∀ a r, unQ T none a = .ok r → a < r.1 ∧ r.1 ≤ 400 ∧ r.2.length + a ≤ r.1 ∧ ∀ d, d + 2 * 0 + 1 ≤ 32 → wfL r.2 d (d + 1) := fun a r h => un_ok (n := 0) hT (fun F z => by cases z) h
    obtain ⟨b1, b2, b3, b4⟩ := lo_ok (n := 0) hU 401 a 0 0 [] r (Or.inl rfl) (Or.inl rfl) h
    exact ⟨b1, b2, b3, fun d hd => b4 d hd rfl⟩
  | n + 1, a, r, h => by
    have hU : ∀ a r, unQ T (some (exQ T n)) a = .ok r → a < r.1 ∧ r.1 ≤ 400 ∧ r.2.length + a ≤ r.1 ∧ ∀ d, d + 2 * (n + 1) + 1 ≤ 32 → wfL r.2 d (d + 1) := fun a r h => un_ok hT (fun F z => by cases z; exact ⟨by omega, fun a r h => ex_ok hT n a r h⟩) h
    obtain ⟨b1, b2, b3, b4⟩ := lo_ok (n := n + 1) hU 401 a 0 0 [] r (Or.inl rfl) (Or.inl rfl) h
    exact ⟨b1, b2, b3, fun d hd => b4 d hd rfl⟩
/-- faults are 1 or 2, at a token that is looked at -/
abbrev erOk (a : Nat) (e : qE) : Prop := (e.1 = 1 ∨ e.1 = 2) ∧ e.2 ≤ 400 ∧ a ≤ e.2
theorem ac_erOk {T : qTk} {k a : Nat} {e : qE} (ha : a ≤ 400) (h : acQ T k a = .error e) : erOk a e := by
  obtain ⟨h1, h2⟩ := ac_er h
  exact ⟨by omega, by omega, by omega⟩
theorem un_er {T : qTk} {S : Option qEx} (hS : ∀ F, S = some F → (∀ a e, a ≤ 400 → F a = .error e → erOk a e) ∧ ∀ a r, F a = .ok r → a < r.1 ∧ r.1 ≤ 400) {a : Nat} (ha : a ≤ 400) {e : qE} (h : unQ T S a = .error e) : erOk a e := by
  unfold unQ at h
  split at h
  · rcases bQ_inv2 h with h | ⟨v, -, h⟩
    · exact ac_erOk ha h
    · cases h
  · split at h
    · rcases bQ_inv2 h with h | ⟨v, -, h⟩
      · exact ac_erOk ha h
      · cases h
    · split at h
      · cases hS2 : S with
        | none => rw [hS2] at h; cases h; exact ⟨Or.inr rfl, ha, Nat.le_refl _⟩
        | some F =>
          rw [hS2] at h
          obtain ⟨hF, hF2⟩ := hS F hS2
          rcases bQ_inv2 h with h | ⟨a1, h1, h⟩
          · exact ac_erOk ha h
          obtain ⟨e1, e2, e3⟩ := ac_ok h1
          rcases bQ_inv2 h with h | ⟨q, h2, h⟩
          · have := hF a1 e (by omega) h
            exact ⟨this.1, this.2.1, by omega⟩
          obtain ⟨f1, f2⟩ := hF2 a1 q h2
          rcases bQ_inv2 h with h | ⟨v, -, h⟩
          · have := ac_erOk f2 h
            exact ⟨this.1, this.2.1, by omega⟩
          · cases h
      · cases h
        exact ⟨Or.inl rfl, ha, Nat.le_refl _⟩
theorem lo_er {T : qTk} {U : qEx} (hU : ∀ a e, a ≤ 400 → U a = .error e → erOk a e) (hU2 : ∀ a r, U a = .ok r → a < r.1 ∧ r.1 ≤ 400) : ∀ m a ad mu acc e, a ≤ 400 → 401 ≤ a + m → loQ T U m a ad mu acc = .error e → erOk a e
  | 0, a, ad, mu, acc, e, h1, h2, h => by omega
  | m + 1, a, ad, mu, acc, e, h1, h2, h => by
    rw [loQ_s] at h
    rcases bQ_inv2 h with h | ⟨q, h3, h⟩
    · exact hU a e h1 h
    obtain ⟨f1, f2⟩ := hU2 a q h3
    split at h
    · rcases bQ_inv2 h with h | ⟨a2, h4, h⟩
      · have := ac_erOk f2 h
        exact ⟨this.1, this.2.1, by omega⟩
      · obtain ⟨e1, e2, e3⟩ := ac_ok h4
        have := lo_er hU hU2 m a2 _ _ _ e (by omega) (by omega) h
        exact ⟨this.1, this.2.1, by omega⟩
    · split at h
      · rcases bQ_inv2 h with h | ⟨a2, h4, h⟩
        · have := ac_erOk f2 h
          exact ⟨this.1, this.2.1, by omega⟩
        · obtain ⟨e1, e2, e3⟩ := ac_ok h4
          have := lo_er hU hU2 m a2 _ _ _ e (by omega) (by omega) h
          exact ⟨this.1, this.2.1, by omega⟩
      · cases h
theorem ex_er {T : qTk} (hT : okTk T) : ∀ n a e, a ≤ 400 → exQ T n a = .error e → erOk a e
  | 0, a, e, ha, h => lo_er (U := unQ T none) (fun a e ha h => un_er (fun F z => by cases z) ha h) (fun a r h => by have := un_ok (n := 0) hT (fun F z => by cases z) h; exact ⟨this.1, this.2.1⟩) 401 a 0 0 [] e ha (by omega) h
  | n + 1, a, e, ha, h => lo_er (U := unQ T (some (exQ T n))) (fun a e ha h => un_er (fun F z => by cases z; exact ⟨fun a e ha h => ex_er hT n a e ha h, fun a r h => ⟨(ex_ok hT n a r h).1, (ex_ok hT n a r h).2.1⟩⟩) ha h) (fun a r h => by have := un_ok (n := n + 1) hT (fun F z => by cases z; exact ⟨by omega, fun a r h => ex_ok hT n a r h⟩) h; exact ⟨this.1, this.2.1⟩) 401 a 0 0 [] e ha (by omega) h
