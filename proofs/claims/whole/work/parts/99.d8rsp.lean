/-! the reference's plan, as it is read -/
theorem qLwM.fr {F : Nat → Nat → Prop} {M M' : qM} (hf : qFr F M M') {last : List Int32} : ∀ (bs : List qBr) (b o : Nat), qLwM M b o bs last → (∀ c i, 311 ≤ c → c ≤ 315 → b ≤ i → i ≤ b + bs.length → ¬ F c i) → (∀ j, o ≤ j → j < o + lwT bs last → ¬ F 316 j ∧ ¬ F 317 j) → qLwM M' b o bs last
  | [], b, o, h, h1, h2 => by
    obtain ⟨⟨a1, a2, a3⟩, a4⟩ := h
    have e : lwT [] last = last.length := rfl
    rw [e] at h2
    refine ⟨⟨(hf.1 _ _ (h1 311 b (by decide) (by decide) (Nat.le_refl _) (Nat.le_refl _))).trans a1, (hf.1 _ _ (h1 314 b (by decide) (by decide) (Nat.le_refl _) (Nat.le_refl _))).trans a2, (hf.1 _ _ (h1 315 b (by decide) (by decide) (Nat.le_refl _) (Nat.le_refl _))).trans a3⟩, fun i hi => ?_⟩
    rw [hf.1 _ _ (h2 (o + i) (by omega) (by omega)).1, hf.1 _ _ (h2 (o + i) (by omega) (by omega)).2]
    exact a4 i hi
  | x :: bs, b, o, h, h1, h2 => by
    obtain ⟨⟨⟨a1, a2, a3, a4, a5⟩, c1, c2, c3⟩, h3⟩ := h
    rw [List.length_cons] at h1
    have e : lwT (x :: bs) last = brT x + lwT bs last := rfl
    have ht : brT x = x.1.length + x.2.1.length + x.2.2.length := rfl
    rw [e] at h2
    have cr : ∀ {p : Nat} {es : List Int32}, o ≤ p → p + es.length ≤ o + brT x → cellR (M.1 316) (M.1 317) p es → cellR (M'.1 316) (M'.1 317) p es := fun {p es} q1 q2 hc i hi => by
      rw [hf.1 _ _ (h2 (p + i) (by omega) (by omega)).1, hf.1 _ _ (h2 (p + i) (by omega) (by omega)).2]
      exact hc i hi
    exact ⟨⟨⟨(hf.1 _ _ (h1 311 b (by decide) (by decide) (by omega) (by omega))).trans a1, (hf.1 _ _ (h1 312 b (by decide) (by decide) (by omega) (by omega))).trans a2, (hf.1 _ _ (h1 313 b (by decide) (by decide) (by omega) (by omega))).trans a3, (hf.1 _ _ (h1 314 b (by decide) (by decide) (by omega) (by omega))).trans a4, (hf.1 _ _ (h1 315 b (by decide) (by decide) (by omega) (by omega))).trans a5⟩, cr (by omega) (by omega) c1, cr (by omega) (by omega) c2, cr (by omega) (by omega) c3⟩, qLwM.fr hf bs (b + 1) (o + brT x) h3 (fun c i q1 q2 q3 q4 => h1 c i q1 q2 (by omega) (by omega)) (fun j q1 q2 => h2 j (by omega) (by omega))⟩
def lwY (M : qM) (S k ck bk : Nat) (A : qAs) : Prop := ∃ b o, M.1 309 (17 * S + k) = nI b ∧ M.1 310 (17 * S + k) = nI (b + A.1.length + 1) ∧ qLwM M b o A.1 A.2 ∧ 130 * S ≤ b ∧ b + A.1.length + 1 ≤ 130 * S + bk ∧ 420 * S ≤ o ∧ o + lwT A.1 A.2 ≤ 420 * S + ck
def dtY (M : qM) (S : Nat) (P : qPn) : Prop := (M.1 307 S = nI (P.1 4) ∧ M.1 308 S = nI (P.1 5)) ∧ (∀ c i, c < 2 → i < P.1 0 → M.1 (292 + c) (5 * S + i) = nI (P.2.1 c i)) ∧ (∀ c i, c < 4 → i < P.1 1 → M.1 (295 + c) (8 * S + i) = nI (P.2.1 (2 + c) i)) ∧ (∀ c k, c < 2 → k < P.1 2 → M.1 (300 + c) (16 * S + k) = nI (P.2.1 (6 + c) k)) ∧ ∀ k, k < P.1 3 → M.1 303 (6 * S + k) = nI (P.2.1 8 k) ∧ ∀ i, i < P.2.1 8 k → M.1 304 (6 * (6 * S + k) + i) = nI (P.2.1 9 (6 * k + i)) ∧ M.1 305 (6 * (6 * S + k) + i) = nI (P.2.1 10 (6 * k + i)) ∧ M.1 306 (6 * (6 * S + k) + i) = nI (P.2.1 11 (6 * k + i))
def ctY (M : qM) (S : Nat) (P : qPn) : Prop := M.1 291 S = nI (P.1 0) ∧ M.1 294 S = nI (P.1 1) ∧ M.1 299 S = nI (P.1 2) ∧ M.1 302 S = nI (P.1 3)
def lsY (M : qM) (S : Nat) (P : qPn) (ck bk : Nat) : Prop := (∀ k, k < P.1 2 → ∃ A, P.2.2 k = some A ∧ lwY M S k ck bk A) ∧ ((P.2.2 16 = none ∧ M.1 309 (17 * S + 16) = 0 ∧ M.1 310 (17 * S + 16) = 0) ∨ ∃ A, P.2.2 16 = some A ∧ lwY M S 16 ck bk A)
def rdY (S : Nat) (T : qTk) (w : qRs) (M : qM) : Prop := qYK M S T w.1 w.2.1 w.2.2.1 (w.2.2.2.1 0 + w.2.2.2.1 1 + w.2.2.2.1 3) ∧ M.1 280 12 = 0 ∧ ctY M S w.2.2.2 ∧ (w.2.1.1 = 0 → dtY M S w.2.2.2) ∧ ∃ ck bk, (ck ≤ w.1 ∧ 4 * bk ≤ w.1 ∧ M.1 280 50 = nI (420 * S + ck) ∧ M.1 280 44 = nI (130 * S + bk)) ∧ lsY M S w.2.2.2 ck bk
/-- what reading writes -/
def SY (S : Nat) : Nat → Nat → Prop := fun b j => (b = 280 ∧ (j = 11 ∨ j = 12 ∨ j = 13 ∨ j = 14 ∨ j = 15 ∨ j = 16 ∨ j = 20 ∨ j = 44 ∨ j = 50 ∨ j = 54)) ∨ (288 ≤ b ∧ b ≤ 290) ∨ ((b = 291 ∨ b = 294 ∨ b = 299 ∨ b = 302 ∨ b = 307 ∨ b = 308) ∧ j = S) ∨ ((b = 292 ∨ b = 293) ∧ 5 * S ≤ j ∧ j < 5 * S + 5) ∨ (295 ≤ b ∧ b ≤ 298 ∧ 8 * S ≤ j ∧ j < 8 * S + 8) ∨ ((b = 300 ∨ b = 301) ∧ 16 * S ≤ j ∧ j < 16 * S + 16) ∨ (b = 303 ∧ 6 * S ≤ j ∧ j < 6 * S + 6) ∨ (304 ≤ b ∧ b ≤ 306 ∧ 36 * S ≤ j ∧ j < 36 * S + 36) ∨ ((b = 309 ∨ b = 310) ∧ 17 * S ≤ j ∧ j < 17 * S + 17) ∨ (311 ≤ b ∧ b ≤ 315 ∧ 130 * S ≤ j ∧ j < 130 * S + 130) ∨ ((b = 316 ∨ b = 317) ∧ 420 * S ≤ j ∧ j < 420 * S + 420) ∨ b = 318
theorem lwY.fr {F : Nat → Nat → Prop} {M M' : qM} {S k ck bk : Nat} {A : qAs} (h : lwY M S k ck bk A) (hf : qFr F M M') (h1 : ∀ b j, F b j → (b = 309 ∨ b = 310 → j ≠ 17 * S + k) ∧ (311 ≤ b → b ≤ 315 → j < 130 * S ∨ 130 * S + bk ≤ j) ∧ (b = 316 ∨ b = 317 → j < 420 * S ∨ 420 * S + ck ≤ j)) : lwY M' S k ck bk A := by
  obtain ⟨b, o, a1, a2, a3, a4, a5, a6, a7⟩ := h
  exact ⟨b, o, (hf.1 _ _ (fun z => (h1 _ _ z).1 (Or.inl rfl) rfl)).trans a1, (hf.1 _ _ (fun z => (h1 _ _ z).1 (Or.inr rfl) rfl)).trans a2, a3.fr hf A.1 b o (fun c i q1 q2 q3 q4 z => by have := (h1 _ _ z).2.1 q1 q2; omega) (fun j q1 q2 => ⟨fun z => by have := (h1 _ _ z).2.2 (Or.inl rfl); omega, fun z => by have := (h1 _ _ z).2.2 (Or.inr rfl); omega⟩), a4, a5, a6, a7⟩
theorem lwY.up {M : qM} {S k ck bk ck2 bk2 : Nat} {A : qAs} (h : lwY M S k ck bk A) (h1 : ck ≤ ck2) (h2 : bk ≤ bk2) : lwY M S k ck2 bk2 A := by
  obtain ⟨b, o, a1, a2, a3, a4, a5, a6, a7⟩ := h
  exact ⟨b, o, a1, a2, a3, a4, by omega, a6, by omega⟩
theorem lsY.fr {F : Nat → Nat → Prop} {M M' : qM} {S : Nat} {P : qPn} {ck bk : Nat} (h : lsY M S P ck bk) (hn : P.1 2 ≤ 16) (hf : qFr F M M') (h1 : ∀ b j, F b j → (b = 309 ∨ b = 310 → j < 17 * S ∨ (17 * S + P.1 2 ≤ j ∧ j < 17 * S + 16) ∨ 17 * S + 16 < j) ∧ (311 ≤ b → b ≤ 315 → j < 130 * S ∨ 130 * S + bk ≤ j) ∧ (b = 316 ∨ b = 317 → j < 420 * S ∨ 420 * S + ck ≤ j)) : lsY M' S P ck bk := by
  obtain ⟨h2, h3⟩ := h
  refine ⟨fun k hk => ?_, ?_⟩
  · obtain ⟨A, a1, a2⟩ := h2 k hk
    exact ⟨A, a1, a2.fr hf (fun b j z => ⟨fun q => by have := (h1 b j z).1 q; omega, (h1 b j z).2⟩)⟩
  · rcases h3 with ⟨a1, a2, a3⟩ | ⟨A, a1, a2⟩
    · exact Or.inl ⟨a1, (hf.1 _ _ (fun z => by have := (h1 _ _ z).1 (Or.inl rfl); omega)).trans a2, (hf.1 _ _ (fun z => by have := (h1 _ _ z).1 (Or.inr rfl); omega)).trans a3⟩
    · exact Or.inr ⟨A, a1, a2.fr hf (fun b j z => ⟨fun q => by have := (h1 b j z).1 q; omega, (h1 b j z).2⟩)⟩
theorem lsY.up {M : qM} {S : Nat} {P : qPn} {ck bk ck2 bk2 : Nat} (h : lsY M S P ck bk) (h1 : ck ≤ ck2) (h2 : bk ≤ bk2) : lsY M S P ck2 bk2 := ⟨fun k hk => by
  obtain ⟨A, a1, a2⟩ := h.1 k hk
  exact ⟨A, a1, a2.up h1 h2⟩, h.2.imp id (fun ⟨A, a1, a2⟩ => ⟨A, a1, a2.up h1 h2⟩)⟩
theorem ctY.fr {F : Nat → Nat → Prop} {M M' : qM} {S : Nat} {P : qPn} (h : ctY M S P) (hf : qFr F M M') (h1 : ∀ b j, F b j → (b = 291 ∨ b = 294 ∨ b = 299 ∨ b = 302) → j ≠ S) : ctY M' S P := ⟨(hf.1 _ _ (fun z => h1 _ _ z (by omega) rfl)).trans h.1, (hf.1 _ _ (fun z => h1 _ _ z (by omega) rfl)).trans h.2.1, (hf.1 _ _ (fun z => h1 _ _ z (by omega) rfl)).trans h.2.2.1, (hf.1 _ _ (fun z => h1 _ _ z (by omega) rfl)).trans h.2.2.2⟩
theorem dtY.fr {F : Nat → Nat → Prop} {M M' : qM} {S : Nat} {P : qPn} (h : dtY M S P) (hf : qFr F M M') (h6 : ∀ k, k < P.1 3 → P.2.1 8 k ≤ 6) (h1 : ∀ b j, F b j → (b = 307 ∨ b = 308 → j ≠ S) ∧ (b = 292 ∨ b = 293 → j < 5 * S ∨ 5 * S + P.1 0 ≤ j) ∧ (295 ≤ b → b ≤ 298 → j < 8 * S ∨ 8 * S + P.1 1 ≤ j) ∧ (b = 300 ∨ b = 301 → j < 16 * S ∨ 16 * S + P.1 2 ≤ j) ∧ (b = 303 → j < 6 * S ∨ 6 * S + P.1 3 ≤ j) ∧ (304 ≤ b → b ≤ 306 → j < 36 * S ∨ 36 * S + 6 * P.1 3 ≤ j)) : dtY M' S P := by
  obtain ⟨⟨a1, a2⟩, a3, a4, a5, a6⟩ := h
  refine ⟨⟨(hf.1 _ _ (fun z => (h1 _ _ z).1 (Or.inl rfl) rfl)).trans a1, (hf.1 _ _ (fun z => (h1 _ _ z).1 (Or.inr rfl) rfl)).trans a2⟩, fun c i hc hi => (hf.1 _ _ (fun z => ?_)).trans (a3 c i hc hi), fun c i hc hi => (hf.1 _ _ (fun z => ?_)).trans (a4 c i hc hi), fun c i hc hi => (hf.1 _ _ (fun z => ?_)).trans (a5 c i hc hi), fun k hk => ⟨(hf.1 _ _ (fun z => ?_)).trans (a6 k hk).1, fun i hi => ?_⟩⟩
  · have := (h1 _ _ z).2.1 (by omega)
    omega
  · have := (h1 _ _ z).2.2.1 (by omega) (by omega)
    omega
  · have := (h1 _ _ z).2.2.2.1 (by omega)
    omega
  · have := (h1 _ _ z).2.2.2.2.1 rfl
    omega
  · have := h6 k hk
    obtain ⟨q1, q2, q3⟩ := (a6 k hk).2 i hi
    refine ⟨(hf.1 _ _ (fun z => ?_)).trans q1, (hf.1 _ _ (fun z => ?_)).trans q2, (hf.1 _ _ (fun z => ?_)).trans q3⟩
    all_goals
      have := (h1 _ _ z).2.2.2.2.2 (by omega) (by omega)
      omega
theorem qYK.nm {M : qM} {S : Nat} {T : qTk} {a : Nat} {s : Nat × Nat} {N N' : qNm} {nc : Nat} (h : qYK M S T a s N nc) (e : s.1 = 0 → N' = N) : qYK M S T a s N' nc := ⟨h.1, h.2.1, h.2.2.1, h.2.2.2.1, h.2.2.2.2.1, fun z => by rw [e z]; exact h.2.2.2.2.2 z⟩
/-- the tells behind their first tokens -/
def waR (T : qTk) (a1 : Nat) (v : qRs) : Except qE qRs := bQ (nnQ T 128 (v.2.2.2.1 0) a1 v.2.1 v.2.2.1) (fun r1 => bQ (nuQ T 0 99 r1.1 r1.2.1) (fun r2 => bQ (nuQ T 0 9 r2.1 r2.2.1) (fun r3 => bQ (acQ T 59 r3.1) (fun a5 => .ok (a5, r3.2.1, r1.2.2, waP v.2.2.2 r2.2.2 r3.2.2)))))
def heR (T : qTk) (a1 : Nat) (v : qRs) : Except qE qRs := bQ (nnQ T 129 (v.2.2.2.1 1) a1 v.2.1 v.2.2.1) (fun r1 => bQ (nuQ T 1 99 r1.1 r1.2.1) (fun r2 => bQ (nuQ T 0 99 r2.1 r2.2.1) (fun r3 => bQ (nuQ T 0 999 r3.1 r3.2.1) (fun r4 => bQ (nuQ T 0 999 r4.1 r4.2.1) (fun r5 => bQ (acQ T 59 r5.1) (fun a5 => .ok (a5, r5.2.1, r1.2.2, heP v.2.2.2 r2.2.2 r3.2.2 r4.2.2 r5.2.2)))))))
def seR (T : qTk) (a1 : Nat) (v : qRs) : Except qE qRs := bQ (onQ T 129 a1 v.2.1 v.2.2.1) (fun r1 => bQ (onQ T 128 r1.1 r1.2.1 v.2.2.1) (fun r2 => bQ (laQ T r2.1) (fun r3 => bQ (acQ T 59 r3.1) (fun a5 => .ok (a5, r2.2.1, v.2.2.1, seP v.2.2.2 r1.2.2 r2.2.2 r3.2)))))
def clR (T : qTk) (a1 : Nat) (v : qRs) : Except qE qRs := bQ (nnQ T 133 (v.2.2.2.1 3) a1 v.2.1 v.2.2.1) (fun r1 => bQ (acQ T 61 r1.1) (fun a3 => bQ (tlQ T r1.2.2 7 0 a3 r1.2.1 []) (fun r => bQ (acQ T 59 r.1) (fun a5 => .ok (a5, r.2.1, r1.2.2, clP v.2.2.2 r.2.2)))))
/-- names, old and new -/
theorem nn_r {T : qTk} {k n a : Nat} {s : Nat × Nat} {N : qNm} {a1 : Nat} (h : acQ T 2 a = .ok a1) : ∃ r, nnQ T k n a s N = .ok r ∧ r.1 = a1 ∧ ((fnQ N (vAt T a) = none → r.2.1 = s) ∧ ((∃ i, fnQ N (vAt T a) = some i) → r.2.1 = slQ s 3 a)) ∧ (r.2.1.1 = 0 → N.1 < 19 → r.2.2 = psQ N (vAt T a) k n) := by
  refine ⟨nnV N (vAt T a) k n a a1 s, bQ_o h, ?_, ⟨fun e => ?_, fun ⟨i, e⟩ => ?_⟩, ?_⟩
  · unfold nnV
    cases fnQ N (vAt T a) <;> rfl
  · unfold nnV
    rw [e]
  · unfold nnV
    rw [e]
  · unfold nnV
    cases fnQ N (vAt T a) with
    | some i => exact fun z => absurd z (slQ_0 (by decide))
    | none => exact fun _ h => if_pos h
theorem okNm.of {N : qNm} {C : Nat → Nat} (h : okNm N C) : (∀ i, i < N.1 → dgQ 8 (N.2.1 i) ∧ (N.2.2.1 i = 128 ∨ N.2.2.1 i = 129 ∨ N.2.2.1 i = 133)) ∧ ∀ i j, i < j → j < N.1 → ¬ N.2.1 i = N.2.1 j := ⟨fun i hi => ⟨(h.2.1 i hi).1, by have := (h.2.1 i hi).2; omega⟩, h.2.2⟩
