/-! what holds of what was read: heirs, sends, dry, basin, seed, claims -/
theorem up2_b {f : Nat → Nat → Nat} {c i x b j : Nat} (h : b ≠ c) : up2 f c i x b j = f b j := if_neg (fun z => h z.1)
theorem up2_j {f : Nat → Nat → Nat} {c i x b j : Nat} (h : j ≠ i) : up2 f c i x b j = f b j := if_neg (fun z => h z.2)
theorem up2_s {f : Nat → Nat → Nat} {c i x : Nat} : up2 f c i x c i = x := if_pos ⟨rfl, rfl⟩
theorem he_row (f : Nat → Nat → Nat) (n x y z w : Nat) : (∀ b j, b < 2 ∨ 5 < b → up2 (up2 (up2 (up2 f 2 n x) 3 n y) 4 n z) 5 n w b j = f b j) ∧ (∀ b j, j ≠ n → up2 (up2 (up2 (up2 f 2 n x) 3 n y) 4 n z) 5 n w b j = f b j) ∧ up2 (up2 (up2 (up2 f 2 n x) 3 n y) 4 n z) 5 n w 2 n = x ∧ up2 (up2 (up2 (up2 f 2 n x) 3 n y) 4 n z) 5 n w 3 n = y ∧ up2 (up2 (up2 (up2 f 2 n x) 3 n y) 4 n z) 5 n w 4 n = z ∧ up2 (up2 (up2 (up2 f 2 n x) 3 n y) 4 n z) 5 n w 5 n = w := by
  refine ⟨fun b j h => ?_, fun b j h => ?_, ?_, ?_, ?_, ?_⟩
  · rw [up2_b (by omega), up2_b (by omega), up2_b (by omega), up2_b (by omega)]
  · rw [up2_j h, up2_j h, up2_j h, up2_j h]
  · rw [up2_b (by decide), up2_b (by decide), up2_b (by decide), up2_s]
  · rw [up2_b (by decide), up2_b (by decide), up2_s]
  · rw [up2_b (by decide), up2_s]
  · rw [up2_s]
theorem he_ok {T : qTk} (hT : okTk T) {v w : qRs} (hv : okRs v) (h : heQ T v = .ok w) : okRs w ∧ v.1 < w.1 := by
  obtain ⟨a, s, N, P⟩ := v
  obtain ⟨⟨ha, hs⟩, hC, hN, hL, hD⟩ := hv
  unfold heQ at h
  dsimp only at h ha hs hC hN hL hD
  obtain ⟨c0, c1, c2, c3, c4⟩ := id hC
  obtain ⟨a1, h1, h⟩ := bQ_inv h
  obtain ⟨r1, h2, h⟩ := bQ_inv h
  obtain ⟨r2, h3, h⟩ := bQ_inv h
  obtain ⟨r3, h4, h⟩ := bQ_inv h
  obtain ⟨r4, h5, h⟩ := bQ_inv h
  obtain ⟨r5, h6, h⟩ := bQ_inv h
  obtain ⟨a5, h7, h⟩ := bQ_inv h
  have i1 := op_ok h1
  have hs1 : okSl s a1 := hs.up (by omega)
  obtain ⟨j1, j2, j3, j4, j5⟩ := nn_all hT (c := 1) (Or.inr (Or.inl ⟨rfl, rfl⟩)) hs1 hN rfl (by omega) h2
  obtain ⟨k1, k2, k3, k4⟩ := nu_all j3 h3
  obtain ⟨l1, l2, l3, l4⟩ := nu_all k3 h4
  obtain ⟨m1, m2, m3, m4⟩ := nu_all l3 h5
  obtain ⟨o1, o2, o3, o4⟩ := nu_all m3 h6
  have i5 := ac_ok h7
  obtain ⟨q1, q2, q3, q4, q5, q6⟩ := he_row P.2.1 (P.1 1) r2.2.2 r3.2.2 r4.2.2 r5.2.2
  cases h
  refine ⟨⟨⟨by show a5 ≤ 400; omega, o3.up (by show r5.1 ≤ a5; omega)⟩, ⟨c0, ?_, c2, c3, fun k hk => ?_⟩, j4, ⟨fun k A hA => hL.1 k A hA, fun k hk => hL.2 k hk⟩, fun z => ?_⟩, by show a < a5; omega⟩
  · show P.1 1 + 1 ≤ 8
    omega
  · show up2 (up2 (up2 (up2 P.2.1 2 (P.1 1) r2.2.2) 3 (P.1 1) r3.2.2) 4 (P.1 1) r4.2.2) 5 (P.1 1) r5.2.2 8 k ≤ 6
    rw [q1 8 k (by omega)]
    exact c4 k hk
  · obtain ⟨z5, b5, b5'⟩ := o4 z
    obtain ⟨z4, b4, b4'⟩ := m4 z5
    obtain ⟨z3, b3, b3'⟩ := l4 z4
    obtain ⟨z2, b2, b2'⟩ := k4 z3
    obtain ⟨z1, b1⟩ := j5 z2
    obtain ⟨d1, d2, d3, d4, d5, d6⟩ := hD z1
    refine ⟨by show r1.2.2.1 = P.1 0 + (P.1 1 + 1) + P.1 3; omega, d2, fun i hi => ?_, fun i hi => ?_, fun k hk => ?_, fun k hk i hi => ?_⟩
    · unfold heP
      dsimp only
      rw [q1 0 i (by omega), q1 1 i (by omega)]
      exact d3 i hi
    · have hi2 : i < P.1 1 + 1 := hi
      unfold heP
      dsimp only
      by_cases e : i = P.1 1
      · rw [e, q3, q4, q5, q6]
        exact ⟨b2', b3', b4', b5'⟩
      · rw [q2 2 i e, q2 3 i e, q2 4 i e, q2 5 i e]
        exact d4 i (by omega)
    · unfold heP
      dsimp only
      rw [q1 6 k (by omega), q1 7 k (by omega)]
      have := d5 k hk
      show _ < P.1 1 + 1 ∧ _ < P.1 0
      omega
    · unfold heP at hk hi ⊢
      dsimp only at hk hi ⊢
      rw [q1 8 k (by omega)] at hi
      rw [q1 9 _ (by omega), q1 10 _ (by omega), q1 11 _ (by omega)]
      have := d6 k hk i hi
      refine ⟨this.1, this.2.1, ?_⟩
      show _ < P.1 1 + 1
      omega
theorem se_ok {T : qTk} (hT : okTk T) {v w : qRs} (hv : okRs v) (h : seQ T v = .ok w) : okRs w ∧ v.1 < w.1 := by
  obtain ⟨a, s, N, P⟩ := v
  obtain ⟨⟨ha, hs⟩, hC, hN, hL, hD⟩ := hv
  unfold seQ at h
  dsimp only at h ha hs hC hN hL hD
  obtain ⟨c0, c1, c2, c3, c4⟩ := id hC
  obtain ⟨a1, h1, h⟩ := bQ_inv h
  obtain ⟨r1, h2, h⟩ := bQ_inv h
  obtain ⟨r2, h3, h⟩ := bQ_inv h
  obtain ⟨r3, h4, h⟩ := bQ_inv h
  obtain ⟨a5, h5, h⟩ := bQ_inv h
  have i1 := op_ok h1
  have hs1 : okSl s a1 := hs.up (by omega)
  obtain ⟨j1, j2, j3, j4⟩ := on_all hs1 h2
  obtain ⟨k1, k2, k3, k4⟩ := on_all j3 h3
  obtain ⟨l1, l2, l3, l4, l5, l6⟩ := la_ok hT h4
  have i5 := ac_ok h5
  cases h
  refine ⟨⟨⟨by show a5 ≤ 400; omega, k3.up (by show r2.1 ≤ a5; omega)⟩, ⟨c0, c1, ?_, c3, fun k hk => ?_⟩, hN, ⟨fun k A hA => ?_, fun k hk => ?_⟩, fun z => ?_⟩, by show a < a5; omega⟩
  · show P.1 2 + 1 ≤ 16
    omega
  · unfold seP
    dsimp only
    rw [up2_b (by decide), up2_b (by decide)]
    exact c4 k hk
  · have hA2 : (if k = P.1 2 then some r3.2 else P.2.2 k) = some A := hA
    by_cases e : k = P.1 2
    · rw [if_pos e] at hA2
      cases hA2
      exact ⟨l3, l4, l6⟩
    · rw [if_neg e] at hA2
      exact hL.1 k A hA2
  · have hk2 : k < P.1 2 + 1 := hk
    show ∃ A, (if k = P.1 2 then some r3.2 else P.2.2 k) = some A
    by_cases e : k = P.1 2
    · rw [if_pos e]
      exact ⟨_, rfl⟩
    · rw [if_neg e]
      exact hL.2 k (by omega)
  · obtain ⟨z2, i2, b2, b2', b2''⟩ := k4 z
    obtain ⟨z1, i1', b1, b1', b1''⟩ := j4 z2
    obtain ⟨d1, d2, d3, d4, d5, d6⟩ := hD z1
    have hh : r1.2.2 < P.1 1 := by
      have := (hN.2.1 i1' b1).2
      rw [b1', b1''] at this
      omega
    have hw : r2.2.2 < P.1 0 := by
      have := (hN.2.1 i2 b2).2
      rw [b2', b2''] at this
      omega
    refine ⟨d1, d2, fun i hi => ?_, fun i hi => ?_, fun k hk => ?_, fun k hk i hi => ?_⟩
    · unfold seP
      dsimp only
      rw [up2_b (by decide), up2_b (by decide), up2_b (by decide), up2_b (by decide)]
      exact d3 i hi
    · unfold seP
      dsimp only
      rw [up2_b (by decide), up2_b (by decide), up2_b (by decide), up2_b (by decide), up2_b (by decide), up2_b (by decide), up2_b (by decide), up2_b (by decide)]
      exact d4 i hi
    · have hk2 : k < P.1 2 + 1 := hk
      unfold seP
      dsimp only
      by_cases e : k = P.1 2
      · rw [e, up2_b (by decide), up2_s, up2_s]
        exact ⟨hh, hw⟩
      · rw [up2_j e, up2_j e, up2_j e, up2_j e]
        exact d5 k (by omega)
    · unfold seP at hi ⊢
      dsimp only at hi ⊢
      rw [up2_b (by decide), up2_b (by decide)] at hi
      rw [up2_b (by decide), up2_b (by decide), up2_b (by decide), up2_b (by decide), up2_b (by decide), up2_b (by decide)]
      exact d6 k hk i hi
theorem dr_ok {T : qTk} (hT : okTk T) {v w : qRs} (hv : okRs v) (h : drQ T v = .ok w) : okRs w ∧ v.1 < w.1 := by
  obtain ⟨a, s, N, P⟩ := v
  obtain ⟨⟨ha, hs⟩, hC, hN, hL, hD⟩ := hv
  unfold drQ at h
  dsimp only at h ha hs hC hN hL hD
  obtain ⟨a1, h1, h⟩ := bQ_inv h
  obtain ⟨r3, h4, h⟩ := bQ_inv h
  obtain ⟨a5, h5, h⟩ := bQ_inv h
  have i1 := ac_ok h1
  obtain ⟨l1, l2, l3, l4, l5, l6⟩ := la_ok hT h4
  have i5 := ac_ok h5
  cases h
  refine ⟨⟨⟨by show a5 ≤ 400; omega, hs.up (by show a ≤ a5; omega)⟩, hC, hN, ⟨fun k A hA => ?_, fun k hk => ?_⟩, fun z => hD z⟩, by show a < a5; omega⟩
  · have hA2 : (if k = 16 then some r3.2 else P.2.2 k) = some A := hA
    by_cases e : k = 16
    · rw [if_pos e] at hA2
      cases hA2
      exact ⟨l3, l4, l6⟩
    · rw [if_neg e] at hA2
      exact hL.1 k A hA2
  · have hk2 : k < P.1 2 := hk
    have h16 : P.1 2 ≤ 16 := hC.2.2.1
    show ∃ A, (if k = 16 then some r3.2 else P.2.2 k) = some A
    rw [if_neg (by omega)]
    exact hL.2 k hk2
theorem cn_ok {T : qTk} {k lo i : Nat} (hi : i = 4 ∨ i = 5) {v w : qRs} (hv : okRs v) (h : bQ (acQ T k v.1) (fun a1 => bQ (nuQ T lo 9999 a1 v.2.1) (fun r1 => bQ (acQ T 59 r1.1) (fun a5 => .ok (a5, r1.2.1, v.2.2.1, cnP v.2.2.2 i r1.2.2)))) = Except.ok w) : okRs w ∧ v.1 < w.1 := by
  obtain ⟨a, s, N, P⟩ := v
  obtain ⟨⟨ha, hs⟩, hC, hN, hL, hD⟩ := hv
  dsimp only at h ha hs hC hN hL hD
  obtain ⟨a1, h1, h⟩ := bQ_inv h
  obtain ⟨r1, h2, h⟩ := bQ_inv h
  obtain ⟨a5, h5, h⟩ := bQ_inv h
  have i1 := ac_ok h1
  have hs1 : okSl s a1 := hs.up (by omega)
  obtain ⟨k1, k2, k3, k4⟩ := nu_all hs1 h2
  have i5 := ac_ok h5
  cases h
  have e : ∀ j, j < 4 → (cnP P i r1.2.2).1 j = P.1 j := fun j hj => if_neg (by omega)
  have e0 := e 0 (by decide)
  have e1 := e 1 (by decide)
  have e2 := e 2 (by decide)
  have e3 := e 3 (by decide)
  refine ⟨⟨⟨by show a5 ≤ 400; omega, k3.up (by show r1.1 ≤ a5; omega)⟩, ?_, ?_, ⟨hL.1, ?_⟩, fun z => ?_⟩, by show a < a5; omega⟩
  · unfold okCn
    dsimp only
    rw [e0, e1, e2, e3]
    exact hC
  · unfold okNm
    dsimp only
    rw [e0, e1, e3]
    exact hN
  · show ∀ k, k < (cnP P i r1.2.2).1 2 → _
    rw [e2]
    exact hL.2
  · obtain ⟨z1, b1, b1'⟩ := k4 z
    obtain ⟨d1, ⟨d2, d2'⟩, d3⟩ := hD z1
    unfold okDt
    dsimp only
    rw [e0, e1, e2, e3]
    refine ⟨d1, ⟨?_, ?_⟩, d3⟩
    · rcases hi with hi | hi <;> subst hi
      · exact b1'
      · exact d2
    · rcases hi with hi | hi <;> subst hi
      · exact d2'
      · exact b1'
/-- the terms of a claim -/
abbrev okTm (P : qPn) (ts : List qTm) : Prop := ∀ t, t ∈ ts → t.1 ≤ 99 ∧ (1 ≤ t.2.1 ∧ t.2.1 ≤ 99) ∧ t.2.2 < P.1 1
theorem tm_all {T : qTk} {i a : Nat} {s : Nat × Nat} {N : qNm} {P : qPn} {C : Nat → Nat} (hN : okNm N C) (hC1 : C 1 = P.1 1) {w : Nat × (Nat × Nat) × qTm} (hs : okSl s a) (h : tmQ T i a s N = .ok w) : okSl w.2.1 w.1 ∧ (w.2.1.1 = 0 → s.1 = 0 ∧ okTm P [w.2.2]) := by
  unfold tmQ at h
  split at h
  · cases h
  · obtain ⟨r1, h1, h⟩ := bQ_inv h
    obtain ⟨a2, h2, h⟩ := bQ_inv h
    obtain ⟨r3, h3, h⟩ := bQ_inv h
    obtain ⟨r4, h4, h⟩ := bQ_inv h
    obtain ⟨k1, k2, k3, k4⟩ := nu_all hs h1
    have i2 := ac_ok h2
    obtain ⟨l1, l2, l3, l4⟩ := nu_all (k3.up (show r1.1 ≤ a2 by omega)) h3
    obtain ⟨m1, m2, m3, m4⟩ := on_all l3 h4
    cases h
    refine ⟨m3, fun z => ?_⟩
    obtain ⟨z3, j, b3, b3', b3''⟩ := m4 z
    obtain ⟨z2, b2, b2'⟩ := l4 z3
    obtain ⟨z1, b1, b1'⟩ := k4 z2
    refine ⟨z1, fun t ht => ?_⟩
    rw [List.mem_singleton] at ht
    subst ht
    refine ⟨b1', ⟨b2, b2'⟩, ?_⟩
    have := (hN.2.1 j b3).2
    rw [b3', b3'', hC1] at this
    show r4.2.2 < P.1 1
    omega
theorem tl_all {T : qTk} {N : qNm} {P : qPn} {C : Nat → Nat} (hN : okNm N C) (hC1 : C 1 = P.1 1) : ∀ m i a s ts w, okSl s a → ts.length = i → tlQ T N m i a s ts = .ok w → a < w.1 ∧ w.1 ≤ 400 ∧ w.2.2.length ≤ 6 ∧ okSl w.2.1 w.1 ∧ (w.2.1.1 = 0 → s.1 = 0 ∧ (okTm P ts → okTm P w.2.2))
  | 0, i, a, s, ts, w, _, _, h => by cases h
  | m + 1, i, a, s, ts, w, hs, hl, h => by
    rw [tlQ_s] at h
    obtain ⟨r, h1, h⟩ := bQ_inv h
    obtain ⟨j1, j2, j3, j4⟩ := tm_ok h1
    obtain ⟨k1, k2⟩ := tm_all hN hC1 hs h1
    have ln : (ts ++ [r.2.2]).length = i + 1 := by rw [List.length_append, hl]; rfl
    have app : okTm P ts → okTm P [r.2.2] → okTm P (ts ++ [r.2.2]) := fun h1 h2 t ht => by
      rcases List.mem_append.mp ht with h | h
      · exact h1 t h
      · exact h2 t h
    by_cases c : kAt T r.1 = 43
    · rw [if_pos c] at h
      obtain ⟨a2, h2, h⟩ := bQ_inv h
      have i2 := ac_ok h2
      obtain ⟨d1, d2, d3, d4, d5⟩ := tl_all hN hC1 m (i + 1) a2 r.2.1 _ w (k1.up (by omega)) ln h
      refine ⟨by omega, d2, d3, d4, fun z => ?_⟩
      obtain ⟨z1, z2⟩ := d5 z
      obtain ⟨z3, z4⟩ := k2 z1
      exact ⟨z3, fun q => z2 (app q z4)⟩
    · rw [if_neg c] at h
      cases h
      refine ⟨by show a < r.1; omega, j2, by show (ts ++ [r.2.2]).length ≤ 6; omega, k1, fun z => ?_⟩
      obtain ⟨z3, z4⟩ := k2 z
      exact ⟨z3, fun q => app q z4⟩
theorem tl_er {T : qTk} {N : qNm} : ∀ m i a s ts e, i + m = 7 → i ≤ 6 → ts.length = i → a ≤ 400 → tlQ T N m i a s ts = .error e → erOk a e
  | 0, i, a, s, ts, e, h1, h2, _, _, _ => by omega
  | m + 1, i, a, s, ts, e, h1, h2, h3, h4, h => by
    rw [tlQ_s] at h
    rcases bQ_inv2 h with h | ⟨r, g1, h⟩
    · exact tm_er h4 h
    obtain ⟨j1, j2, j3, j4⟩ := tm_ok g1
    by_cases c : kAt T r.1 = 43
    · rw [if_pos c] at h
      rcases bQ_inv2 h with h | ⟨a2, g2, h⟩
      · exact erOk_m (ac_erOk j2 h) (by omega)
      have i2 := ac_ok g2
      exact erOk_m (tl_er m (i + 1) a2 r.2.1 _ e (by omega) (by omega) (by rw [List.length_append, h3]; rfl) (by omega) h) (by omega)
    · rw [if_neg c] at h
      cases h
theorem cl_ok {T : qTk} (hT : okTk T) {v w : qRs} (hv : okRs v) (h : clQ T v = .ok w) : okRs w ∧ v.1 < w.1 := by
  obtain ⟨a, s, N, P⟩ := v
  obtain ⟨⟨ha, hs⟩, hC, hN, hL, hD⟩ := hv
  unfold clQ at h
  dsimp only at h ha hs hC hN hL hD
  obtain ⟨c0, c1, c2, c3, c4⟩ := id hC
  obtain ⟨a1, h1, h⟩ := bQ_inv h
  obtain ⟨r1, h2, h⟩ := bQ_inv h
  obtain ⟨a3, h3, h⟩ := bQ_inv h
  obtain ⟨r, h4, h⟩ := bQ_inv h
  obtain ⟨a5, h5, h⟩ := bQ_inv h
  have i1 := op_ok h1
  have hs1 : okSl s a1 := hs.up (by omega)
  obtain ⟨j1, j2, j3, j4, j5⟩ := nn_all hT (c := 3) (Or.inr (Or.inr ⟨rfl, rfl⟩)) hs1 hN rfl (by omega) h2
  have i3 := ac_ok h3
  obtain ⟨l1, l2, l3, l4, l5⟩ := tl_all (P := P) j4 rfl 7 0 a3 r1.2.1 [] r (j3.up (by omega)) rfl h4
  have i5 := ac_ok h5
  cases h
  refine ⟨⟨⟨by show a5 ≤ 400; omega, l4.up (by show r.1 ≤ a5; omega)⟩, ⟨c0, c1, c2, ?_, fun k hk => ?_⟩, j4, ⟨fun k A hA => hL.1 k A hA, fun k hk => hL.2 k hk⟩, fun z => ?_⟩, by show a < a5; omega⟩
  · show P.1 3 + 1 ≤ 6
    omega
  · have hk2 : k < P.1 3 + 1 := hk
    show tmR P.2.1 (P.1 3) r.2.2 8 k ≤ 6
    by_cases e : k = P.1 3
    · rw [e, tmR_8]
      exact l3
    · rw [tmR_o (Or.inr (Or.inr (Or.inl ⟨rfl, e⟩)))]
      exact c4 k (by omega)
  · obtain ⟨z2, b2⟩ := l5 z
    obtain ⟨z1, b1⟩ := j5 z2
    obtain ⟨d1, d2, d3, d4, d5, d6⟩ := hD z1
    have hts := b2 (fun t ht => (nomatch ht))
    refine ⟨by show r1.2.2.1 = P.1 0 + P.1 1 + (P.1 3 + 1); omega, d2, fun i hi => ?_, fun i hi => ?_, fun k hk => ?_, fun k hk i hi => ?_⟩
    · unfold clP
      dsimp only
      rw [tmR_o (by omega), tmR_o (by omega)]
      exact d3 i hi
    · unfold clP
      dsimp only
      rw [tmR_o (by omega), tmR_o (by omega), tmR_o (by omega), tmR_o (by omega)]
      exact d4 i hi
    · unfold clP
      dsimp only
      rw [tmR_o (by omega), tmR_o (by omega)]
      exact d5 k hk
    · have hk2 : k < P.1 3 + 1 := hk
      unfold clP at hi ⊢
      dsimp only at hi ⊢
      by_cases e : k = P.1 3
      · subst e
        rw [tmR_8] at hi
        obtain ⟨v1, v2, v3⟩ := tmR_9 (f := P.2.1) (n := P.1 3) hi
        rw [v1, v2, v3]
        have hm : r.2.2.getD i (0, 0, 0) ∈ r.2.2 := by
          rw [List.getD_eq_getElem?_getD, List.getElem?_eq_getElem hi]
          exact List.getElem_mem hi
        exact hts _ hm
      · rw [tmR_o (Or.inr (Or.inr (Or.inl ⟨rfl, e⟩)))] at hi
        have h6 := c4 k (by omega)
        rw [tmR_o (Or.inr (Or.inr (Or.inr ⟨by omega, by omega⟩))), tmR_o (Or.inr (Or.inr (Or.inr ⟨by omega, by omega⟩))), tmR_o (Or.inr (Or.inr (Or.inr ⟨by omega, by omega⟩)))]
        exact d6 k (by omega) i hi
theorem ty_ok {T : qTk} (hT : okTk T) {v w : qRs} (hv : okRs v) (h : tyQ T v = .ok w) : okRs w ∧ v.1 < w.1 := by
  unfold tyQ at h
  by_cases h1 : kAt T v.1 = 128
  · rw [if_pos h1] at h
    exact wa_ok hT hv h
  rw [if_neg h1] at h
  by_cases h2 : kAt T v.1 = 129
  · rw [if_pos h2] at h
    exact he_ok hT hv h
  rw [if_neg h2] at h
  by_cases h3 : kAt T v.1 = 130
  · rw [if_pos h3] at h
    exact se_ok hT hv h
  rw [if_neg h3] at h
  by_cases h4 : kAt T v.1 = 131
  · rw [if_pos h4] at h
    exact dr_ok hT hv h
  rw [if_neg h4] at h
  by_cases h5 : kAt T v.1 = 132
  · rw [if_pos h5] at h
    exact cn_ok (Or.inl rfl) hv h
  rw [if_neg h5] at h
  by_cases h6 : kAt T v.1 = 133
  · rw [if_pos h6] at h
    exact cl_ok hT hv h
  rw [if_neg h6] at h
  by_cases h7 : kAt T v.1 = 134
  · rw [if_pos h7] at h
    exact cn_ok (Or.inr rfl) hv h
  rw [if_neg h7] at h
  cases h
