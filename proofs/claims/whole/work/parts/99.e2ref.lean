/-! the reference's claims: names, frames, data -/
theorem findN_ad {P : Nat → Bool} : ∀ m i, findN P (m + 1) i = findN P m i ∨ (findN P m i = none ∧ findN P (m + 1) i = some (i + m))
  | 0, i => by
    by_cases h : P i = true
    · refine Or.inr ⟨rfl, ?_⟩
      show (if P i = true then some i else findN P 0 (i + 1)) = some i
      exact if_pos h
    · refine Or.inl ?_
      show (if P i = true then some i else findN P 0 (i + 1)) = none
      rw [if_neg h]
      rfl
  | m + 1, i => by
    by_cases h : P i = true
    · refine Or.inl ?_
      show (if P i = true then some i else findN P (m + 1) (i + 1)) = if P i = true then some i else findN P m (i + 1)
      rw [if_pos h, if_pos h]
    · have e1 : findN P (m + 1 + 1) i = findN P (m + 1) (i + 1) := if_neg h
      have e2 : findN P (m + 1) i = findN P m (i + 1) := if_neg h
      rw [e1, e2]
      rcases findN_ad (P := P) m (i + 1) with q | ⟨q1, q2⟩
      · exact Or.inl q
      · exact Or.inr ⟨q1, q2.trans (congrArg some (by omega))⟩
theorem fn_ps {N : qNm} {v0 k n v : Nat} : fnQ (psQ N v0 k n) v = fnQ N v ∨ (fnQ N v = none ∧ fnQ (psQ N v0 k n) v = some N.1) := by
  have e : findN (fun i => decide ((psQ N v0 k n).2.1 i = v)) N.1 0 = fnQ N v := findN_congr _ _ (fun j _ hj => by
    show decide ((if j = N.1 then v0 else N.2.1 j) = v) = _
    rw [if_neg (by omega)])
  have := findN_ad (P := fun i => decide ((psQ N v0 k n).2.1 i = v)) N.1 0
  rw [e] at this
  rcases this with q | ⟨q1, q2⟩
  · exact Or.inl q
  · exact Or.inr ⟨q1, q2.trans (congrArg some (Nat.zero_add _))⟩
theorem onV_ps {N : qNm} {v0 n v a a1 : Nat} {s : Nat × Nat} : onV (psQ N v0 133 n) v 129 a a1 s = onV N v 129 a a1 s := by
  unfold onV
  rcases fn_ps (N := N) (v0 := v0) (k := 133) (n := n) (v := v) with h | ⟨h1, h2⟩
  · rw [h]
    cases hF : fnQ N v with
    | none => rfl
    | some i =>
      have hj := (findN_lt _ _ _ hF).2.1
      have e1 : (psQ N v0 133 n).2.2.1 i = N.2.2.1 i := if_neg (by omega)
      have e2 : (psQ N v0 133 n).2.2.2 i = N.2.2.2 i := if_neg (by omega)
      show (if (psQ N v0 133 n).2.2.1 i = 129 then (a1, s, (psQ N v0 133 n).2.2.2 i) else (a1, slQ s 4 a, 0)) = if N.2.2.1 i = 129 then (a1, s, N.2.2.2 i) else (a1, slQ s 4 a, 0)
      rw [e1, e2]
  · rw [h1, h2]
    have e1 : (psQ N v0 133 n).2.2.1 N.1 = 133 := if_pos rfl
    show (if (psQ N v0 133 n).2.2.1 N.1 = 129 then (a1, s, (psQ N v0 133 n).2.2.2 N.1) else (a1, slQ s 4 a, 0)) = (a1, slQ s 4 a, 0)
    rw [e1]
    exact if_neg (by decide)
theorem on_ps {T : qTk} {N : qNm} {v0 n a : Nat} {s : Nat × Nat} : onQ T 129 a s (psQ N v0 133 n) = onQ T 129 a s N := by
  unfold onQ
  congr 1
  funext a1
  rw [onV_ps]
theorem on_sl {T : qTk} {N : qNm} {a a1 : Nat} {s : Nat × Nat} (h : acQ T 2 a = .ok a1) (z : ¬ s.1 = 0) : ∃ x, onQ T 129 a s N = .ok (a1, s, x) := by
  have e : slQ s 4 a = s := if_neg z
  have q : onQ T 129 a s N = .ok (onV N (vAt T a) 129 a a1 s) := bQ_o h
  rw [q]
  unfold onV
  rw [e]
  cases fnQ N (vAt T a) with
  | none => exact ⟨_, rfl⟩
  | some i =>
    by_cases c : N.2.2.1 i = 129
    · exact ⟨_, congrArg Except.ok (if_pos c)⟩
    · exact ⟨_, congrArg Except.ok (if_neg c)⟩
theorem on_cl {M : qM} {S : Nat} {T : qTk} {a : Nat} {s : Nat × Nat} {N N1 : qNm} {nc v0 n : Nat} {r : Int32} (e : s.1 = 0 → N1 = psQ N v0 133 n) (h : qPy S T (onQ T 129 a s N) (fun v M' => qYK M' S T v.1 v.2.1 N nc ∧ (v.2.1.1 = 0 → r = nI v.2.2)) M) : qPy S T (onQ T 129 a s N1) (fun v M' => qYK M' S T v.1 v.2.1 N nc ∧ (v.2.1.1 = 0 → r = nI v.2.2)) M := by
  by_cases z : s.1 = 0
  · rw [e z, on_ps]
    exact h
  · cases hA : acQ T 2 a with
    | error er =>
      have h0 : onQ T 129 a s N = .error er := bQ_e hA
      have h1 : onQ T 129 a s N1 = .error er := bQ_e hA
      exact qPy_ie h1 (qPy_e h0 h)
    | ok a1 =>
      obtain ⟨x0, h0⟩ := on_sl (N := N) hA z
      obtain ⟨x1, h1⟩ := on_sl (N := N1) hA z
      exact qPy_io h1 ⟨(qPy_o h0 h).1, fun y => absurd y z⟩
def SYk (kk : Nat) : Nat → Nat → Prop := fun b j => SYn b j ∨ (b = 303 ∧ j = kk) ∨ (304 ≤ b ∧ b ≤ 306 ∧ 6 * kk ≤ j ∧ j < 6 * kk + 6)
theorem SYk_no {kk b j : Nat} (h : (b = 280 ∧ (j = 12 ∨ j = 20 ∨ j = 44 ∨ j = 50)) ∨ (281 ≤ b ∧ b < 303) ∨ 306 < b) : ¬ SYk kk b j := by
  unfold SYk SYn SYt SYw
  omega
theorem SYk_SY {S n b j : Nat} (h : n < 6) (z : SYk (6 * S + n) b j) : SY S b j := by
  rcases z with (z | z) | ⟨z1, z2⟩ | ⟨z1, z2, z3, z4⟩
  · exact Or.inl ⟨z.1, by have := z.2; omega⟩
  · exact Or.inl ⟨z.1, by have := z.2; omega⟩
  · exact Or.inr (Or.inr (Or.inr (Or.inr (Or.inr (Or.inr (Or.inl ⟨z1, by omega, by omega⟩))))))
  · exact Or.inr (Or.inr (Or.inr (Or.inr (Or.inr (Or.inr (Or.inr (Or.inl ⟨z1, z2, by omega, by omega⟩)))))))
def SYz (S kk : Nat) : Nat → Nat → Prop := fun b j => SYk kk b j ∨ ((b = 280 ∧ j = 20) ∨ (288 ≤ b ∧ b ≤ 290)) ∨ (b = 302 ∧ j = S)
theorem SYz_no {S kk b j : Nat} (h : (b = 280 ∧ (j = 12 ∨ j = 44 ∨ j = 50)) ∨ (291 ≤ b ∧ b < 302) ∨ 306 < b) : ¬ SYz S kk b j := by
  unfold SYz SYk SYn SYt SYw
  omega
theorem SYz_lo {S kk b j : Nat} (z : SYz S kk b j) : b < 291 ∨ (b = 303 ∧ j = kk) ∨ (304 ≤ b ∧ b ≤ 306 ∧ 6 * kk ≤ j ∧ j < 6 * kk + 6) ∨ b = 302 := by
  unfold SYz SYk SYn SYt SYw at z
  omega
theorem SYz_SY {S n b j : Nat} (h : n < 6) (z : SYz S (6 * S + n) b j) : SY S b j := by
  rcases z with z | (z | z) | z
  · exact SYk_SY h z
  · exact Or.inl ⟨z.1, by have := z.2; omega⟩
  · exact Or.inr (Or.inl z)
  · exact SY_ct (by decide) z
def tmY (M : qM) (kk : Nat) (ts : List qTm) : Prop := ∀ j, j < ts.length → M.1 304 (6 * kk + j) = nI (ts.getD j (0, 0, 0)).1 ∧ M.1 305 (6 * kk + j) = nI (ts.getD j (0, 0, 0)).2.1 ∧ M.1 306 (6 * kk + j) = nI (ts.getD j (0, 0, 0)).2.2
theorem tmY.fr {F : Nat → Nat → Prop} {M M' : qM} {kk : Nat} {ts : List qTm} (h : tmY M kk ts) (hf : qFr F M M') (h1 : ∀ b j, F b j → 304 ≤ b → b ≤ 306 → j < 6 * kk ∨ 6 * kk + ts.length ≤ j) : tmY M' kk ts := fun j hj => ⟨(hf.1 _ _ (fun z => by have := h1 _ _ z (by decide) (by decide); omega)).trans (h j hj).1, (hf.1 _ _ (fun z => by have := h1 _ _ z (by decide) (by decide); omega)).trans (h j hj).2.1, (hf.1 _ _ (fun z => by have := h1 _ _ z (by decide) (by decide); omega)).trans (h j hj).2.2⟩
theorem gd_app {ts : List qTm} {t : qTm} : (∀ j, j < ts.length → (ts ++ [t]).getD j (0, 0, 0) = ts.getD j (0, 0, 0)) ∧ (ts ++ [t]).getD ts.length (0, 0, 0) = t := by
  refine ⟨fun j hj => ?_, ?_⟩
  · rw [List.getD_eq_getElem?_getD, List.getD_eq_getElem?_getD, List.getElem?_append_left hj]
  · rw [List.getD_eq_getElem?_getD, List.getElem?_append_right (Nat.le_refl _), Nat.sub_self]
    rfl
theorem tmY.app {M : qM} {kk : Nat} {ts : List qTm} {t : qTm} (h : tmY M kk ts) (h1 : M.1 304 (6 * kk + ts.length) = nI t.1) (h2 : M.1 305 (6 * kk + ts.length) = nI t.2.1) (h3 : M.1 306 (6 * kk + ts.length) = nI t.2.2) : tmY M kk (ts ++ [t]) := fun j hj => by
  have hl : (ts ++ [t]).length = ts.length + 1 := by rw [List.length_append]; rfl
  by_cases e : j = ts.length
  · rw [e, gd_app.2]
    exact ⟨h1, h2, h3⟩
  · rw [gd_app.1 j (by omega)]
    exact h j (by omega)
theorem dtY.claim {F : Nat → Nat → Prop} {M M' : qM} {S : Nat} {P : qPn} {ts : List qTm} (h : dtY M S P) (hc : okCn P) (hf : qFr F M M') (hd : ∀ b j, F b j → b < 291 ∨ (b = 303 ∧ j = 6 * S + P.1 3) ∨ (304 ≤ b ∧ b ≤ 306 ∧ 6 * (6 * S + P.1 3) ≤ j ∧ j < 6 * (6 * S + P.1 3) + 6) ∨ b = 302) (hx : M'.1 303 (6 * S + P.1 3) = nI ts.length) (ht : tmY M' (6 * S + P.1 3) ts) : dtY M' S (clP P ts) := by
  obtain ⟨⟨a1, a2⟩, a3, a4, a5, a6⟩ := h.fr hf hc.2.2.2.2 (fun b j z => by have := hd b j z; omega)
  have c4 := hc.2.2.2.2
  refine ⟨⟨a1, a2⟩, fun c i hc hi => ?_, fun c i hc hi => ?_, fun c i hc hi => ?_, fun k hk => ?_⟩
  · unfold clP
    dsimp only
    rw [tmR_o (Or.inl (by omega))]
    exact a3 c i hc hi
  · unfold clP
    dsimp only
    rw [tmR_o (Or.inl (by omega))]
    exact a4 c i hc hi
  · unfold clP
    dsimp only
    rw [tmR_o (Or.inl (by omega))]
    exact a5 c i hc hi
  · have hk2 : k < P.1 3 + 1 := hk
    unfold clP
    dsimp only
    by_cases e : k = P.1 3
    · subst e
      rw [tmR_8]
      refine ⟨hx, fun i hi => ?_⟩
      obtain ⟨v1, v2, v3⟩ := tmR_9 (f := P.2.1) (n := P.1 3) hi
      rw [v1, v2, v3]
      exact ht i hi
    · have h6 := c4 k (by omega)
      rw [tmR_o (Or.inr (Or.inr (Or.inl ⟨rfl, e⟩)))]
      refine ⟨(a6 k (by omega)).1, fun i hi => ?_⟩
      rw [tmR_o (Or.inr (Or.inr (Or.inr ⟨by omega, by omega⟩))), tmR_o (Or.inr (Or.inr (Or.inr ⟨by omega, by omega⟩))), tmR_o (Or.inr (Or.inr (Or.inr ⟨by omega, by omega⟩)))]
      exact (a6 k (by omega)).2 i hi
