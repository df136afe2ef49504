/-! faults of a text; its tokens -/
theorem ty_er {T : qTk} (hT : okTk T) {v : qRs} (hv : okRs v) {e : qE} (h : tyQ T v = .error e) : erOk v.1 e := by
  obtain ⟨a, s, N, P⟩ := v
  obtain ⟨⟨ha, hs⟩, hC, hN, hL, hD⟩ := hv
  have nuE : ∀ {lo hi b : Nat} {s : Nat × Nat}, a ≤ b → b ≤ 400 → nuQ T lo hi b s = .error e → erOk a e := fun h1 h2 h => erOk_m (nu_er h2 h) h1
  have acE : ∀ {k b : Nat}, a ≤ b → b ≤ 400 → acQ T k b = .error e → erOk a e := fun h1 h2 h => erOk_m (ac_erOk h2 h) h1
  unfold tyQ at h
  dsimp only at h ha hs hC hN hL hD ⊢
  split at h
  · unfold waQ at h
    dsimp only at h
    rcases bQ_inv2 h with h | ⟨a1, h1, h⟩
    · exact op_er ha h
    have i1 := op_ok h1
    rcases bQ_inv2 h with h | ⟨r1, h2, h⟩
    · exact erOk_m (nn_er (by omega) h) (by omega)
    have i2 := nn_ok h2
    rcases bQ_inv2 h with h | ⟨r2, h3, h⟩
    · exact nuE (by omega) (by omega) h
    have i3 := nu_ok h3
    rcases bQ_inv2 h with h | ⟨r3, h4, h⟩
    · exact nuE (by omega) (by omega) h
    have i4 := nu_ok h4
    rcases bQ_inv2 h with h | ⟨a5, h5, h⟩
    · exact acE (by omega) (by omega) h
    · cases h
  split at h
  · unfold heQ at h
    dsimp only at h
    rcases bQ_inv2 h with h | ⟨a1, h1, h⟩
    · exact op_er ha h
    have i1 := op_ok h1
    rcases bQ_inv2 h with h | ⟨r1, h2, h⟩
    · exact erOk_m (nn_er (by omega) h) (by omega)
    have i2 := nn_ok h2
    rcases bQ_inv2 h with h | ⟨r2, h3, h⟩
    · exact nuE (by omega) (by omega) h
    have i3 := nu_ok h3
    rcases bQ_inv2 h with h | ⟨r3, h4, h⟩
    · exact nuE (by omega) (by omega) h
    have i4 := nu_ok h4
    rcases bQ_inv2 h with h | ⟨r4, h5, h⟩
    · exact nuE (by omega) (by omega) h
    have i5 := nu_ok h5
    rcases bQ_inv2 h with h | ⟨r5, h6, h⟩
    · exact nuE (by omega) (by omega) h
    have i6 := nu_ok h6
    rcases bQ_inv2 h with h | ⟨a5, h7, h⟩
    · exact acE (by omega) (by omega) h
    · cases h
  split at h
  · unfold seQ at h
    dsimp only at h
    rcases bQ_inv2 h with h | ⟨a1, h1, h⟩
    · exact op_er ha h
    have i1 := op_ok h1
    rcases bQ_inv2 h with h | ⟨r1, h2, h⟩
    · exact erOk_m (on_er (by omega) h) (by omega)
    have i2 := on_ok h2
    rcases bQ_inv2 h with h | ⟨r2, h3, h⟩
    · exact erOk_m (on_er (by omega) h) (by omega)
    have i3 := on_ok h3
    rcases bQ_inv2 h with h | ⟨r3, h4, h⟩
    · exact erOk_m (la_er hT (by omega) h) (by omega)
    have i4 := la_ok hT h4
    rcases bQ_inv2 h with h | ⟨a5, h5, h⟩
    · exact acE (by omega) (by omega) h
    · cases h
  split at h
  · unfold drQ at h
    dsimp only at h
    rcases bQ_inv2 h with h | ⟨a1, h1, h⟩
    · exact acE (by omega) (by omega) h
    have i1 := ac_ok h1
    rcases bQ_inv2 h with h | ⟨r3, h4, h⟩
    · exact erOk_m (la_er hT (by omega) h) (by omega)
    have i4 := la_ok hT h4
    rcases bQ_inv2 h with h | ⟨a5, h5, h⟩
    · exact acE (by omega) (by omega) h
    · cases h
  split at h
  · unfold baQ at h
    dsimp only at h
    rcases bQ_inv2 h with h | ⟨a1, h1, h⟩
    · exact acE (by omega) (by omega) h
    have i1 := ac_ok h1
    rcases bQ_inv2 h with h | ⟨r1, h2, h⟩
    · exact nuE (by omega) (by omega) h
    have i2 := nu_ok h2
    rcases bQ_inv2 h with h | ⟨a5, h5, h⟩
    · exact acE (by omega) (by omega) h
    · cases h
  split at h
  · unfold clQ at h
    dsimp only at h
    rcases bQ_inv2 h with h | ⟨a1, h1, h⟩
    · exact op_er ha h
    have i1 := op_ok h1
    rcases bQ_inv2 h with h | ⟨r1, h2, h⟩
    · exact erOk_m (nn_er (by omega) h) (by omega)
    have i2 := nn_ok h2
    rcases bQ_inv2 h with h | ⟨a3, h3, h⟩
    · exact acE (by omega) (by omega) h
    have i3 := ac_ok h3
    rcases bQ_inv2 h with h | ⟨r, h4, h⟩
    · exact erOk_m (tl_er 7 0 a3 _ [] e rfl (by decide) rfl (by omega) h) (by omega)
    obtain ⟨c0, c1, c2, c3, c4⟩ := id hC
    obtain ⟨j1, j2, j3, j4, j5⟩ := nn_all hT (c := 3) (Or.inr (Or.inr ⟨rfl, rfl⟩)) (hs.up (show a ≤ a1 by omega)) hN rfl (by omega) h2
    obtain ⟨l1, l2, l3, l4, l5⟩ := tl_all (P := P) j4 rfl 7 0 a3 r1.2.1 [] r (j3.up (by omega)) rfl h4
    rcases bQ_inv2 h with h | ⟨a5, h5, h⟩
    · exact acE (by omega) (by omega) h
    · cases h
  split at h
  · unfold sdQ at h
    dsimp only at h
    rcases bQ_inv2 h with h | ⟨a1, h1, h⟩
    · exact acE (by omega) (by omega) h
    have i1 := ac_ok h1
    rcases bQ_inv2 h with h | ⟨r1, h2, h⟩
    · exact nuE (by omega) (by omega) h
    have i2 := nu_ok h2
    rcases bQ_inv2 h with h | ⟨a5, h5, h⟩
    · exact acE (by omega) (by omega) h
    · cases h
  · cases h
    exact ⟨Or.inl rfl, ha, Nat.le_refl _⟩
theorem re_er {T : qTk} (hT : okTk T) : ∀ m v e, okRs v → 401 ≤ v.1 + m → reQ T m v = .error e → erOk v.1 e
  | 0, v, e, hv, hm, h => by
    have := hv.1.1
    omega
  | m + 1, v, e, hv, hm, h => by
    rw [reQ_s] at h
    split at h
    · cases h
    · rcases bQ_inv2 h with h | ⟨w, h1, h⟩
      · exact ty_er hT hv h
      · obtain ⟨g1, g2⟩ := ty_ok hT hv h1
        exact erOk_m (re_er hT m w e g1 (by omega) h) (by omega)
theorem re_ok {T : qTk} (hT : okTk T) : ∀ m v w, okRs v → reQ T m v = .ok w → okRs w ∧ kAt T w.1 = 0
  | 0, v, w, hv, h => by cases h
  | m + 1, v, w, hv, h => by
    rw [reQ_s] at h
    split at h
    · rename_i c
      cases h
      exact ⟨hv, c⟩
    · obtain ⟨u, h1, h⟩ := bQ_inv h
      exact re_ok hT m u w (ty_ok hT hv h1).1 h
theorem v0_ok : okRs v0Q := by
  refine ⟨⟨Nat.zero_le _, Nat.zero_le _, fun z => absurd rfl z⟩, ⟨by decide, by decide, by decide, by decide, fun k hk => absurd hk (Nat.not_lt_zero _)⟩, ⟨Nat.zero_le _, fun i hi => absurd hi (Nat.not_lt_zero _), fun i j _ hj => absurd hj (Nat.not_lt_zero _)⟩, ⟨fun k A h => (nomatch h), fun k hk => absurd hk (Nat.not_lt_zero _)⟩, fun _ => ⟨rfl, ⟨by decide, by decide⟩, fun i hi => absurd hi (Nat.not_lt_zero _), fun i hi => absurd hi (Nat.not_lt_zero _), fun i hi => absurd hi (Nat.not_lt_zero _), fun i hi => absurd hi (Nat.not_lt_zero _)⟩⟩
/-- the tokens of a text -/
theorem kw_in (v : Nat) : ∀ m w, w + m = 17 → kwG v w m = 2 ∨ (128 ≤ kwG v w m ∧ kwG v w m ≤ 144)
  | 0, w, _ => Or.inl rfl
  | m + 1, w, e => by
    unfold kwG
    split
    · exact Or.inr (by omega)
    · exact kw_in v m (w + 1) (by omega)
abbrev okK (k : Nat) : Prop := 0 < k ∧ k ≤ 144 ∧ kmQ k ≠ 99
theorem okK_w : ∀ j, j < 17 → okK (128 + j) := by decide
theorem okK_kw {v : Nat} : okK (kwG v 0 17) := by
  rcases kw_in v 17 0 rfl with h | ⟨h1, h2⟩
  · rw [h]
    decide
  · have := okK_w (kwG v 0 17 - 128) (by omega)
    rw [show 128 + (kwG v 0 17 - 128) = kwG v 0 17 by omega] at this
    exact this
theorem okK_sg (c : Nat) : okK (sgQ c) := by
  unfold sgQ
  split
  · rename_i h
    rcases h with h | h | h | h | h | h | h | h | h <;> subst h <;> decide
  · decide
theorem sg_ne (c : Nat) : sgQ c ≠ 3 ∧ sgQ c ≠ 2 := by
  unfold sgQ
  split <;> omega
theorem vD_lt {t : qTp} {a : Nat} : ∀ n, n ≤ dnQ t a → vDQ t a n < 10 ^ n
  | 0, _ => Nat.one_pos
  | n + 1, h => by
    have ih := vD_lt (t := t) (a := a) n (by omega)
    have hl := runQ_all 2001 a n (show n < dnQ t a by omega)
    have h2 := dqB_i.mp hl
    rw [byQ_in (dqB_lt hl)] at h2
    unfold isDq at h2
    show vDQ t a n * 10 + (t.2 (a + n) - 48) < 10 ^ (n + 1)
    rw [Nat.pow_succ]
    omega
def okTs (t : qTp) (a : Nat) (T : qTk) : Prop := okTk T ∧ T.2.1 = t.1 ∧ ∀ i, i < T.1 → T.2.2.2.1 i < a
theorem okTs.add {t : qTp} {a b : Nat} {T : qTk} {k v : Nat} (h : okTs t a T) (h4 : T.1 ≤ 400) (ha : a < t.1) (hb : a < b) (hk : okK k) (h3 : k = 3 → v ≤ 9999) (h2 : k = 2 → dgQ 8 v) : okTs t b (addT T k a v) := by
  obtain ⟨⟨t1, t2, t3, t4⟩, e, p⟩ := h
  unfold addT
  rw [if_pos (by omega)]
  refine ⟨⟨show T.1 + 1 ≤ 401 by omega, t2, fun i hi => ?_, fun i j hij hj => ?_⟩, e, fun i hi => ?_⟩
  · have hi2 : i < T.1 + 1 := hi
    simp only [updF]
    by_cases c : i = T.1
    · rw [if_pos c, if_pos c, if_pos c]
      exact ⟨h3, h2, hk.1, hk.2.1, hk.2.2, by rw [e]; exact ha⟩
    · rw [if_neg c, if_neg c, if_neg c]
      exact t3 i (by omega)
  · have hj2 : j < T.1 + 1 := hj
    simp only [updF]
    rw [if_neg (show ¬ i = T.1 by omega)]
    by_cases c : j = T.1
    · rw [if_pos c]
      exact p i (by omega)
    · rw [if_neg c]
      exact t4 i j hij (by omega)
  · have hi2 : i < T.1 + 1 := hi
    simp only [updF]
    by_cases c : i = T.1
    · rw [if_pos c]
      exact hb
    · rw [if_neg c]
      exact Nat.lt_trans (p i (by omega)) hb
theorem okTs.tok {t : qTp} {a : Nat} {T : qTk} (h : okTs t a T) (h4 : T.1 ≤ 400) (ha : a < t.1) : okTs t (nxQ t a) (tkQ t a T) := by
  have hn := (nxQ_in ha).1
  unfold tkQ
  by_cases c : lqB t a = true
  · rw [if_pos c]
    refine h.add h4 ha hn ?_ (fun z => ?_) (fun z => ?_)
    · unfold wkQ
      split
      · decide
      · exact okK_kw
    · exfalso
      unfold wkQ at z
      split at z
      · exact absurd z (by decide)
      · exact kw_ne3 _ _ _ z
    · unfold wkQ at z
      unfold wvQ
      by_cases h8 : 8 < lnQ t a
      · rw [if_pos h8] at z
        exact absurd z (by decide)
      · rw [if_neg h8]
        have := (dg_add (vL_dg (t := t) (a := a) (lnQ t a) (Nat.le_refl _)) (8 - lnQ t a)).1
        rw [show lnQ t a + (8 - lnQ t a) = 8 by omega] at this
        exact this
  · rw [if_neg c]
    by_cases d : dqB t a = true
    · rw [if_pos d]
      refine h.add h4 ha hn ?_ (fun z => ?_) (fun z => ?_)
      · unfold dkQ
        split <;> decide
      · unfold dkQ at z
        by_cases h5 : 4 < dnQ t a
        · rw [if_pos h5] at z
          exact absurd z (by decide)
        · have h6 := vD_lt (t := t) (a := a) (dnQ t a) (Nat.le_refl _)
          have h7 : 10 ^ dnQ t a ≤ 10 ^ 4 := Nat.pow_le_pow_right (by decide) (by omega)
          omega
      · exfalso
        unfold dkQ at z
        split at z <;> exact absurd z (by decide)
    · rw [if_neg d]
      by_cases e : bqB t a = true
      · rw [if_pos e]
        exact ⟨h.1, h.2.1, fun i hi => Nat.lt_trans (h.2.2 i hi) hn⟩
      · rw [if_neg e]
        exact h.add h4 ha hn (okK_sg _) (fun z => absurd z (sg_ne _).1) (fun z => absurd z (sg_ne _).2)
theorem scF_ok {t : qTp} : ∀ m a T, okTs t a T → okTk (scF t m a T)
  | 0, a, T, h => h.1
  | m + 1, a, T, h => by
    by_cases c : a < t.1 ∧ T.1 ≤ 400
    · rw [scF_y c]
      exact scF_ok m _ _ (h.tok c.2 c.1)
    · rw [scF_n c]
      exact h.1
theorem sc_ok {t : qTp} (ok : okTp t) : okTk (scQ t) := scF_ok 2000 0 (T0Q t) ⟨⟨Nat.zero_le _, ok.1, fun i hi => absurd hi (Nat.not_lt_zero _), fun i j _ hj => absurd hj (Nat.not_lt_zero _)⟩, rfl, fun i hi => absurd hi (Nat.not_lt_zero _)⟩
