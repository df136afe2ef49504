/-! what holds of what was read -/
def okNm (N : qNm) (C : Nat → Nat) : Prop := N.1 ≤ C 0 + C 1 + C 3 ∧ (∀ i, i < N.1 → dgQ 8 (N.2.1 i) ∧ ((N.2.2.1 i = 128 ∧ N.2.2.2 i < C 0) ∨ (N.2.2.1 i = 129 ∧ N.2.2.2 i < C 1) ∨ (N.2.2.1 i = 133 ∧ N.2.2.2 i < C 3))) ∧ ∀ i j, i < j → j < N.1 → ¬ N.2.1 i = N.2.1 j
def okLw (P : qPn) : Prop := (∀ k A, P.2.2 k = some A → A.1.length ≤ 4 ∧ (∀ br, br ∈ A.1 → wfB br) ∧ wfE A.2) ∧ ∀ k, k < P.1 2 → ∃ A, P.2.2 k = some A
def okDt (P : qPn) : Prop := (P.1 4 ≤ 9999 ∧ P.1 5 ≤ 9999) ∧ (∀ i, i < P.1 0 → P.2.1 0 i ≤ 99 ∧ P.2.1 1 i ≤ 9) ∧ (∀ i, i < P.1 1 → P.2.1 2 i ≤ 99 ∧ P.2.1 3 i ≤ 99 ∧ P.2.1 4 i ≤ 999 ∧ P.2.1 5 i ≤ 999) ∧ (∀ k, k < P.1 2 → P.2.1 6 k < P.1 1 ∧ P.2.1 7 k < P.1 0) ∧ ∀ k, k < P.1 3 → ∀ i, i < P.2.1 8 k → P.2.1 9 (6 * k + i) ≤ 99 ∧ (1 ≤ P.2.1 10 (6 * k + i) ∧ P.2.1 10 (6 * k + i) ≤ 99) ∧ P.2.1 11 (6 * k + i) < P.1 1
def okSl (s : Nat × Nat) (a : Nat) : Prop := s.1 ≤ 5 ∧ (¬ s.1 = 0 → s.2 < a)
def okRs (v : qRs) : Prop := (v.1 ≤ 400 ∧ okSl v.2.1 v.1) ∧ okCn v.2.2.2 ∧ okNm v.2.2.1 v.2.2.2.1 ∧ okLw v.2.2.2 ∧ (v.2.1.1 = 0 → v.2.2.1.1 = v.2.2.2.1 0 + v.2.2.2.1 1 + v.2.2.2.1 3 ∧ okDt v.2.2.2)
theorem okSl.up {s : Nat × Nat} {a b : Nat} (h : okSl s a) (hab : a ≤ b) : okSl s b := ⟨h.1, fun z => Nat.lt_of_lt_of_le (h.2 z) hab⟩
theorem slQ_0 {s : Nat × Nat} {n i : Nat} (hn : 0 < n) : ¬ (slQ s n i).1 = 0 := by
  unfold slQ
  split
  · exact Nat.pos_iff_ne_zero.mp hn
  · assumption
theorem slQ_ok {s : Nat × Nat} {n a : Nat} (h : okSl s a) (hn : n ≤ 5) : okSl (slQ s n a) (a + 1) := by
  unfold slQ
  split
  · exact ⟨hn, fun _ => Nat.lt_succ_self a⟩
  · exact h.up (Nat.le_succ a)
theorem nuS_0 {s : Nat × Nat} {lo hi v a : Nat} (h : (nuS s lo hi v a).1 = 0) : s.1 = 0 ∧ lo ≤ v ∧ v ≤ hi ∧ nuS s lo hi v a = s := by
  unfold nuS at h ⊢
  by_cases c : v < lo ∨ hi < v
  · rw [if_pos c] at h
    exact absurd h (slQ_0 (by decide))
  · rw [if_neg c] at h ⊢
    exact ⟨h, by omega, by omega, rfl⟩
theorem nuS_ok {s : Nat × Nat} {lo hi v a : Nat} (h : okSl s a) : okSl (nuS s lo hi v a) (a + 1) := by
  unfold nuS
  split
  · exact slQ_ok h (by decide)
  · exact h.up (Nat.le_succ a)
/-- a number: all that is wanted of it -/
theorem nu_all {T : qTk} {lo hi a : Nat} {s : Nat × Nat} {v : Nat × (Nat × Nat) × Nat} (hs : okSl s a) (h : nuQ T lo hi a s = .ok v) : v.1 = a + 1 ∧ v.1 ≤ 400 ∧ okSl v.2.1 v.1 ∧ (v.2.1.1 = 0 → s.1 = 0 ∧ lo ≤ v.2.2 ∧ v.2.2 ≤ hi) := by
  obtain ⟨e1, e2, e3, e4, e5⟩ := nu_ok h
  refine ⟨e1, by omega, by rw [e4, e1]; exact nuS_ok hs, fun z => ?_⟩
  rw [e4] at z
  obtain ⟨z1, z2, z3, -⟩ := nuS_0 z
  rw [e5]
  exact ⟨z1, z2, z3⟩
theorem fn_some {N : qNm} {v i : Nat} (h : fnQ N v = some i) : i < N.1 ∧ N.2.1 i = v := by
  obtain ⟨-, h2, h3⟩ := findN_lt _ _ _ h
  exact ⟨by omega, of_decide_eq_true h3⟩
theorem findN_no {P : Nat → Bool} : ∀ m i, findN P m i = none → ∀ j, i ≤ j → j < i + m → ¬ P j = true
  | 0, i, _, j, h1, h2 => by omega
  | m + 1, i, h, j, h1, h2 => by
    rw [findN_s] at h
    by_cases c : P i = true
    · rw [if_pos c] at h
      cases h
    · rw [if_neg c] at h
      by_cases e : j = i
      · rw [e]
        exact c
      · exact findN_no m (i + 1) h j (by omega) (by omega)
theorem fn_none {N : qNm} {v : Nat} (h : fnQ N v = none) : ∀ i, i < N.1 → ¬ N.2.1 i = v := fun i hi e => findN_no _ _ h i (Nat.zero_le _) (by omega) (decide_eq_true e)
/-- a new name -/
theorem nn_all {T : qTk} (hT : okTk T) {k a : Nat} {s : Nat × Nat} {N : qNm} {C C' : Nat → Nat} {v : Nat × (Nat × Nat) × qNm} {c : Nat} (hk : (k = 128 ∧ c = 0) ∨ (k = 129 ∧ c = 1) ∨ (k = 133 ∧ c = 3)) (hs : okSl s a) (hN : okNm N C) (hC' : C' = updF C c (C c + 1)) (hb : C 0 + C 1 + C 3 < 19) (h : nnQ T k (C c) a s N = .ok v) : v.1 = a + 1 ∧ v.1 ≤ 400 ∧ okSl v.2.1 v.1 ∧ okNm v.2.2 C' ∧ (v.2.1.1 = 0 → s.1 = 0 ∧ v.2.2.1 = N.1 + 1) := by
  obtain ⟨e1, e2, e3, e4⟩ := nn_ok h
  obtain ⟨n1, n2, n3⟩ := hN
  have dg := (vAt_nm hT e3).1
  have cc : C' 0 + C' 1 + C' 3 = C 0 + C 1 + C 3 + 1 := by
    subst hC'
    rcases hk with ⟨-, h⟩ | ⟨-, h⟩ | ⟨-, h⟩ <;> subst h <;> simp [updF] <;> omega
  have cm : ∀ i, C i ≤ C' i := fun i => by
    subst hC'
    show C i ≤ if i = c then C c + 1 else C i
    split
    · rename_i e
      rw [e]
      exact Nat.le_succ _
    · exact Nat.le_refl _
  have cl : C c < C' c := by
    subst hC'
    show C c < if c = c then C c + 1 else C c
    rw [if_pos rfl]
    exact Nat.lt_succ_self _
  have old : okNm N C' := ⟨by omega, fun i hi => ⟨(n2 i hi).1, by
    have a0 := cm 0
    have a1 := cm 1
    have a3 := cm 3
    rcases (n2 i hi).2 with h | h | h
    · exact Or.inl ⟨h.1, by omega⟩
    · exact Or.inr (Or.inl ⟨h.1, by omega⟩)
    · exact Or.inr (Or.inr ⟨h.1, by omega⟩)⟩, n3⟩
  unfold nnV at e4
  cases hF : fnQ N (vAt T a) with
  | some j =>
    rw [hF] at e4
    subst e4
    exact ⟨rfl, by show a + 1 ≤ 400; omega, slQ_ok hs (by decide), old, fun z => absurd z (slQ_0 (by decide))⟩
  | none =>
    rw [hF] at e4
    have e5 : v = (a + 1, s, if N.1 < 19 then psQ N (vAt T a) k (C c) else N) := e4
    rw [if_pos (by omega)] at e5
    subst e5
    refine ⟨rfl, by show a + 1 ≤ 400; omega, hs.up (Nat.le_succ a), ⟨by show N.1 + 1 ≤ _; omega, fun i hi => ?_, fun i j hij hj => ?_⟩, fun z => ⟨z, rfl⟩⟩
    · have hi2 : i < N.1 + 1 := hi
      simp only [psQ, updF]
      by_cases e : i = N.1
      · rw [if_pos e, if_pos e, if_pos e]
        refine ⟨dg, ?_⟩
        rcases hk with ⟨h1, h2⟩ | ⟨h1, h2⟩ | ⟨h1, h2⟩
        · subst h2
          exact Or.inl ⟨h1, cl⟩
        · subst h2
          exact Or.inr (Or.inl ⟨h1, cl⟩)
        · subst h2
          exact Or.inr (Or.inr ⟨h1, cl⟩)
      · rw [if_neg e, if_neg e, if_neg e]
        exact old.2.1 i (by omega)
    · have hj2 : j < N.1 + 1 := hj
      simp only [psQ, updF]
      rw [if_neg (show ¬ i = N.1 by omega)]
      by_cases e : j = N.1
      · rw [if_pos e]
        exact fn_none hF i (by omega)
      · rw [if_neg e]
        exact n3 i j hij (by omega)
/-- an old name -/
theorem on_all {T : qTk} {k a : Nat} {s : Nat × Nat} {N : qNm} {v : Nat × (Nat × Nat) × Nat} (hs : okSl s a) (h : onQ T k a s N = .ok v) : v.1 = a + 1 ∧ v.1 ≤ 400 ∧ okSl v.2.1 v.1 ∧ (v.2.1.1 = 0 → s.1 = 0 ∧ ∃ i, i < N.1 ∧ N.2.2.1 i = k ∧ N.2.2.2 i = v.2.2) := by
  obtain ⟨e1, e2, e3, e4⟩ := on_ok h
  unfold onV at e4
  cases hF : fnQ N (vAt T a) with
  | some j =>
    rw [hF] at e4
    have e5 : v = if N.2.2.1 j = k then (a + 1, s, N.2.2.2 j) else (a + 1, slQ s 4 a, 0) := e4
    by_cases c : N.2.2.1 j = k
    · rw [if_pos c] at e5
      subst e5
      exact ⟨rfl, by show a + 1 ≤ 400; omega, hs.up (Nat.le_succ a), fun z => ⟨z, j, (fn_some hF).1, c, rfl⟩⟩
    · rw [if_neg c] at e5
      subst e5
      exact ⟨rfl, by show a + 1 ≤ 400; omega, slQ_ok hs (by decide), fun z => absurd z (slQ_0 (by decide))⟩
  | none =>
    rw [hF] at e4
    subst e4
    exact ⟨rfl, by show a + 1 ≤ 400; omega, slQ_ok hs (by decide), fun z => absurd z (slQ_0 (by decide))⟩
theorem upN {f : Nat → Nat} {k x j : Nat} : updF f k x j = if j = k then x else f j := rfl
theorem wa_ok {T : qTk} (hT : okTk T) {v w : qRs} (hv : okRs v) (h : waQ T v = .ok w) : okRs w ∧ v.1 < w.1 := by
  obtain ⟨a, s, N, P⟩ := v
  obtain ⟨⟨ha, hs⟩, hC, hN, hL, hD⟩ := hv
  unfold waQ at h
  dsimp only at h ha hs hC hN hL hD
  obtain ⟨c0, c1, c2, c3, c4⟩ := id hC
  obtain ⟨a1, h1, h⟩ := bQ_inv h
  obtain ⟨r1, h2, h⟩ := bQ_inv h
  obtain ⟨r2, h3, h⟩ := bQ_inv h
  obtain ⟨r3, h4, h⟩ := bQ_inv h
  obtain ⟨a5, h5, h⟩ := bQ_inv h
  have i1 := op_ok h1
  have hs1 : okSl s a1 := hs.up (by omega)
  obtain ⟨j1, j2, j3, j4, j5⟩ := nn_all hT (c := 0) (Or.inl ⟨rfl, rfl⟩) hs1 hN rfl (by omega) h2
  obtain ⟨k1, k2, k3, k4⟩ := nu_all j3 h3
  obtain ⟨l1, l2, l3, l4⟩ := nu_all k3 h4
  have i5 := ac_ok h5
  cases h
  refine ⟨⟨⟨by show a5 ≤ 400; omega, l3.up (by show r3.1 ≤ a5; omega)⟩, ⟨?_, c1, c2, c3, fun k hk => ?_⟩, j4, ⟨fun k A hA => hL.1 k A hA, fun k hk => hL.2 k hk⟩, fun z => ?_⟩, by show a < a5; omega⟩
  · show P.1 0 + 1 ≤ 5
    omega
  · show up2 (up2 P.2.1 0 (P.1 0) r2.2.2) 1 (P.1 0) r3.2.2 8 k ≤ 6
    simp only [up2]
    rw [if_neg (by omega), if_neg (by omega)]
    exact c4 k hk
  · obtain ⟨z3, b3, b3'⟩ := l4 z
    obtain ⟨z2, b2, b2'⟩ := k4 z3
    obtain ⟨z1, b1⟩ := j5 z2
    obtain ⟨d1, d2, d3, d4, d5, d6⟩ := hD z1
    refine ⟨by show r1.2.2.1 = P.1 0 + 1 + P.1 1 + P.1 3; omega, d2, fun i hi => ?_, fun i hi => ?_, fun k hk => ?_, fun k hk i hi => ?_⟩
    · have hi2 : i < P.1 0 + 1 := hi
      show up2 (up2 P.2.1 0 (P.1 0) r2.2.2) 1 (P.1 0) r3.2.2 0 i ≤ 99 ∧ up2 (up2 P.2.1 0 (P.1 0) r2.2.2) 1 (P.1 0) r3.2.2 1 i ≤ 9
      simp only [up2]
      by_cases e : i = P.1 0
      · rw [if_neg (by omega), if_pos ⟨trivial, e⟩, if_pos ⟨trivial, e⟩]
        exact ⟨b2', b3'⟩
      · rw [if_neg (by omega), if_neg (by omega), if_neg (by omega), if_neg (by omega)]
        exact d3 i (by omega)
    · have := d4 i hi
      show up2 (up2 P.2.1 0 (P.1 0) r2.2.2) 1 (P.1 0) r3.2.2 2 i ≤ 99 ∧ up2 (up2 P.2.1 0 (P.1 0) r2.2.2) 1 (P.1 0) r3.2.2 3 i ≤ 99 ∧ up2 (up2 P.2.1 0 (P.1 0) r2.2.2) 1 (P.1 0) r3.2.2 4 i ≤ 999 ∧ up2 (up2 P.2.1 0 (P.1 0) r2.2.2) 1 (P.1 0) r3.2.2 5 i ≤ 999
      simp only [up2]
      rw [if_neg (by omega), if_neg (by omega), if_neg (by omega), if_neg (by omega), if_neg (by omega), if_neg (by omega), if_neg (by omega), if_neg (by omega)]
      exact this
    · have := d5 k hk
      show up2 (up2 P.2.1 0 (P.1 0) r2.2.2) 1 (P.1 0) r3.2.2 6 k < P.1 1 ∧ up2 (up2 P.2.1 0 (P.1 0) r2.2.2) 1 (P.1 0) r3.2.2 7 k < P.1 0 + 1
      simp only [up2]
      rw [if_neg (by omega), if_neg (by omega), if_neg (by omega), if_neg (by omega)]
      omega
    · have e8 : up2 (up2 P.2.1 0 (P.1 0) r2.2.2) 1 (P.1 0) r3.2.2 8 k = P.2.1 8 k := by
        simp only [up2]
        rw [if_neg (by omega), if_neg (by omega)]
      have hi2 : i < up2 (up2 P.2.1 0 (P.1 0) r2.2.2) 1 (P.1 0) r3.2.2 8 k := hi
      rw [e8] at hi2
      have := d6 k hk i hi2
      show up2 (up2 P.2.1 0 (P.1 0) r2.2.2) 1 (P.1 0) r3.2.2 9 (6 * k + i) ≤ 99 ∧ (1 ≤ up2 (up2 P.2.1 0 (P.1 0) r2.2.2) 1 (P.1 0) r3.2.2 10 (6 * k + i) ∧ up2 (up2 P.2.1 0 (P.1 0) r2.2.2) 1 (P.1 0) r3.2.2 10 (6 * k + i) ≤ 99) ∧ up2 (up2 P.2.1 0 (P.1 0) r2.2.2) 1 (P.1 0) r3.2.2 11 (6 * k + i) < P.1 1
      simp only [up2]
      rw [if_neg (by omega), if_neg (by omega), if_neg (by omega), if_neg (by omega), if_neg (by omega), if_neg (by omega)]
      exact this
