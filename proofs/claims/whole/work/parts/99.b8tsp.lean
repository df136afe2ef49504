/-! what a text tells, as it is read -/
abbrev qAs : Type := List qBr × List Int32
abbrev qPn : Type := (Nat → Nat) × (Nat → Nat → Nat) × (Nat → Option qAs)
abbrev qRs : Type := Nat × (Nat × Nat) × qNm × qPn
def up2 (f : Nat → Nat → Nat) (c i x : Nat) : Nat → Nat → Nat := fun b j => if b = c ∧ j = i then x else f b j
def opQ (T : qTk) (k n m a : Nat) : Except qE Nat := if m ≤ n then .error (2, a) else acQ T k a
def waP (P : qPn) (x y : Nat) : qPn := (updF P.1 0 (P.1 0 + 1), up2 (up2 P.2.1 0 (P.1 0) x) 1 (P.1 0) y, P.2.2)
def waQ (T : qTk) (v : qRs) : Except qE qRs :=
  bQ (opQ T 128 (v.2.2.2.1 0) 5 v.1) (fun a1 => bQ (nnQ T 128 (v.2.2.2.1 0) a1 v.2.1 v.2.2.1) (fun r1 => bQ (nuQ T 0 99 r1.1 r1.2.1) (fun r2 => bQ (nuQ T 0 9 r2.1 r2.2.1) (fun r3 => bQ (acQ T 59 r3.1) (fun a5 => .ok (a5, r3.2.1, r1.2.2, waP v.2.2.2 r2.2.2 r3.2.2))))))
def heP (P : qPn) (x y z w : Nat) : qPn := (updF P.1 1 (P.1 1 + 1), up2 (up2 (up2 (up2 P.2.1 2 (P.1 1) x) 3 (P.1 1) y) 4 (P.1 1) z) 5 (P.1 1) w, P.2.2)
def heQ (T : qTk) (v : qRs) : Except qE qRs :=
  bQ (opQ T 129 (v.2.2.2.1 1) 8 v.1) (fun a1 => bQ (nnQ T 129 (v.2.2.2.1 1) a1 v.2.1 v.2.2.1) (fun r1 => bQ (nuQ T 1 99 r1.1 r1.2.1) (fun r2 => bQ (nuQ T 0 99 r2.1 r2.2.1) (fun r3 => bQ (nuQ T 0 999 r3.1 r3.2.1) (fun r4 => bQ (nuQ T 0 999 r4.1 r4.2.1) (fun r5 => bQ (acQ T 59 r5.1) (fun a5 => .ok (a5, r5.2.1, r1.2.2, heP v.2.2.2 r2.2.2 r3.2.2 r4.2.2 r5.2.2))))))))
def seP (P : qPn) (h w : Nat) (A : qAs) : qPn := (updF P.1 2 (P.1 2 + 1), up2 (up2 P.2.1 6 (P.1 2) h) 7 (P.1 2) w, updF P.2.2 (P.1 2) (some A))
def seQ (T : qTk) (v : qRs) : Except qE qRs :=
  bQ (opQ T 130 (v.2.2.2.1 2) 16 v.1) (fun a1 => bQ (onQ T 129 a1 v.2.1 v.2.2.1) (fun r1 => bQ (onQ T 128 r1.1 r1.2.1 v.2.2.1) (fun r2 => bQ (laQ T r2.1) (fun r3 => bQ (acQ T 59 r3.1) (fun a5 => .ok (a5, r2.2.1, v.2.2.1, seP v.2.2.2 r1.2.2 r2.2.2 r3.2))))))
def drP (P : qPn) (A : qAs) : qPn := (P.1, P.2.1, updF P.2.2 16 (some A))
def drQ (T : qTk) (v : qRs) : Except qE qRs := bQ (acQ T 131 v.1) (fun a1 => bQ (laQ T a1) (fun r3 => bQ (acQ T 59 r3.1) (fun a5 => .ok (a5, v.2.1, v.2.2.1, drP v.2.2.2 r3.2))))
def cnP (P : qPn) (i x : Nat) : qPn := (updF P.1 i x, P.2)
def baQ (T : qTk) (v : qRs) : Except qE qRs := bQ (acQ T 132 v.1) (fun a1 => bQ (nuQ T 1 9999 a1 v.2.1) (fun r1 => bQ (acQ T 59 r1.1) (fun a5 => .ok (a5, r1.2.1, v.2.2.1, cnP v.2.2.2 4 r1.2.2))))
def sdQ (T : qTk) (v : qRs) : Except qE qRs := bQ (acQ T 134 v.1) (fun a1 => bQ (nuQ T 0 9999 a1 v.2.1) (fun r1 => bQ (acQ T 59 r1.1) (fun a5 => .ok (a5, r1.2.1, v.2.2.1, cnP v.2.2.2 5 r1.2.2))))
abbrev qTm : Type := Nat × Nat × Nat
def tmQ (T : qTk) (i a : Nat) (s : Nat × Nat) (N : qNm) : Except qE (Nat × (Nat × Nat) × qTm) :=
  if kAt T a = 3 ∧ 6 ≤ i then .error (2, a) else bQ (nuQ T 1 99 a s) (fun r1 => bQ (acQ T 135 r1.1) (fun a2 => bQ (nuQ T 1 99 a2 r1.2.1) (fun r3 => bQ (onQ T 129 r3.1 r3.2.1 N) (fun r4 => .ok (r4.1, r4.2.1, r1.2.2, r3.2.2, r4.2.2)))))
def tlQ (T : qTk) (N : qNm) : Nat → Nat → Nat → Nat × Nat → List qTm → Except qE (Nat × (Nat × Nat) × List qTm)
  | 0, _, a, _, _ => .error (9, a)
  | m + 1, i, a, s, ts => bQ (tmQ T i a s N) (fun r => if kAt T r.1 = 43 then bQ (acQ T 43 r.1) (fun a2 => tlQ T N m (i + 1) a2 r.2.1 (ts ++ [r.2.2])) else .ok (r.1, r.2.1, ts ++ [r.2.2]))
theorem tlQ_s (T : qTk) (N : qNm) (m i a : Nat) (s : Nat × Nat) (ts : List qTm) : tlQ T N (m + 1) i a s ts = bQ (tmQ T i a s N) (fun r => if kAt T r.1 = 43 then bQ (acQ T 43 r.1) (fun a2 => tlQ T N m (i + 1) a2 r.2.1 (ts ++ [r.2.2])) else .ok (r.1, r.2.1, ts ++ [r.2.2])) := rfl
def tmR (f : Nat → Nat → Nat) (n : Nat) (ts : List qTm) : Nat → Nat → Nat := fun b j =>
  if b = 8 ∧ j = n then ts.length
  else if b = 9 ∧ 6 * n ≤ j ∧ j < 6 * n + ts.length then (ts.getD (j - 6 * n) (0, 0, 0)).1
  else if b = 10 ∧ 6 * n ≤ j ∧ j < 6 * n + ts.length then (ts.getD (j - 6 * n) (0, 0, 0)).2.1
  else if b = 11 ∧ 6 * n ≤ j ∧ j < 6 * n + ts.length then (ts.getD (j - 6 * n) (0, 0, 0)).2.2
  else f b j
def clP (P : qPn) (ts : List qTm) : qPn := (updF P.1 3 (P.1 3 + 1), tmR P.2.1 (P.1 3) ts, P.2.2)
def clQ (T : qTk) (v : qRs) : Except qE qRs :=
  bQ (opQ T 133 (v.2.2.2.1 3) 6 v.1) (fun a1 => bQ (nnQ T 133 (v.2.2.2.1 3) a1 v.2.1 v.2.2.1) (fun r1 => bQ (acQ T 61 r1.1) (fun a3 => bQ (tlQ T r1.2.2 7 0 a3 r1.2.1 []) (fun r => bQ (acQ T 59 r.1) (fun a5 => .ok (a5, r.2.1, r1.2.2, clP v.2.2.2 r.2.2))))))
def tyQ (T : qTk) (v : qRs) : Except qE qRs := if kAt T v.1 = 128 then waQ T v else if kAt T v.1 = 129 then heQ T v else if kAt T v.1 = 130 then seQ T v else if kAt T v.1 = 131 then drQ T v else if kAt T v.1 = 132 then baQ T v else if kAt T v.1 = 133 then clQ T v else if kAt T v.1 = 134 then sdQ T v else .error (1, v.1)
def reQ (T : qTk) : Nat → qRs → Except qE qRs
  | 0, v => .error (9, v.1)
  | m + 1, v => if kAt T v.1 = 0 then .ok v else bQ (tyQ T v) (fun w => reQ T m w)
theorem reQ_s (T : qTk) (m : Nat) (v : qRs) : reQ T (m + 1) v = if kAt T v.1 = 0 then .ok v else bQ (tyQ T v) (fun w => reQ T m w) := rfl
def P0Q : qPn := (updF (fun _ => 0) 4 999, fun _ _ => 0, fun _ => none)
def v0Q : qRs := (0, (0, 0), (0, fun _ => 0, fun _ => 0, fun _ => 0), P0Q)
/-- the class's plan, as it is read -/
def lnP (P : qPn) (c : Nat) : Nat := if c < 2 then P.1 0 else if c < 6 then P.1 1 else P.1 2
def lwC (M : qM) (p pl sz : Nat) (A : qAs) : Prop := pl + (lwL pl A.1 A.2).length ≤ sz ∧ cellA (M.1 (p + 10 + 1)) pl (lwL pl A.1 A.2)
def qPY (M : qM) (p : Nat) (P : qPn) (sz : Nat) : Prop :=
  (M.1 p 11 = nI (P.1 0) ∧ M.1 p 12 = nI (P.1 1) ∧ M.1 p 15 = nI (P.1 4) ∧ M.1 p 16 = nI (P.1 5)) ∧
  (∀ c i, c < 8 → i < lnP P c → M.1 (p + (1 + c)) i = nI (P.2.1 c i)) ∧
  (M.1 (p + 10) 6 = nI sz ∧ ∀ k, k < P.1 2 → ∃ pl A, P.2.2 k = some A ∧ M.1 (p + 9) k = nI pl ∧ lwC M p pl sz A) ∧
  (M.1 (p + 14) 5 = nI (P.1 3) ∧ M.1 (p + 14) 4 = nI (sumN (P.2.1 8) (P.1 3)) ∧ (∀ k, k < P.1 3 → M.1 (p + 18) k = nI (sumN (P.2.1 8) (k + 1))) ∧
    ∀ k i, k < P.1 3 → i < P.2.1 8 k → M.1 (p + 15) (sumN (P.2.1 8) k + i) = nI (P.2.1 9 (6 * k + i)) ∧ M.1 (p + 16) (sumN (P.2.1 8) k + i) = nI (P.2.1 10 (6 * k + i)) ∧ M.1 (p + 17) (sumN (P.2.1 8) k + i) = nI (P.2.1 11 (6 * k + i)))
def qPD (M : qM) (p : Nat) (P : qPn) (sz : Nat) : Prop := (P.2.2 16 = none ∧ M.1 p 14 = -1) ∨ ∃ pl A, P.2.2 16 = some A ∧ M.1 p 14 = nI pl ∧ lwC M p pl sz A
def qPX (M : qM) (p : Nat) (P : qPn) (sz : Nat) : Prop := qPY M p P sz ∧ M.1 p 13 = nI (P.1 2) ∧ qPD M p P sz
def okCn (P : qPn) : Prop := P.1 0 ≤ 5 ∧ P.1 1 ≤ 8 ∧ P.1 2 ≤ 16 ∧ P.1 3 ≤ 6 ∧ ∀ k, k < P.1 3 → P.2.1 8 k ≤ 6
def SXp (p : Nat) : Nat → Nat → Prop := fun b j => (b = 3 ∧ 4 ≤ j) ∨ b = 9 ∨ b = 10 ∨ b = 11 ∨ (p ≤ b ∧ b ≤ p + 18)
def SLo : Nat → Nat → Prop := fun b _ => b < 12
theorem lwC.fr {S : Nat → Nat → Prop} {M M' : qM} {p pl sz : Nat} {A : qAs} (h : lwC M p pl sz A) (hf : qFr S M M') (hd : ∀ j, j < sz → ¬ S (p + 10 + 1) j) : lwC M' p pl sz A := ⟨h.1, cellA_fr h.2 hf (fun j hj => hd j (by have := h.1; omega))⟩
theorem lwC.up {M : qM} {p pl sz sz2 : Nat} {A : qAs} (h : lwC M p pl sz A) (h2 : sz ≤ sz2) : lwC M p pl sz2 A := ⟨Nat.le_trans h.1 h2, h.2⟩
/-- a frame that leaves what is told -/
theorem qPY.fr {S : Nat → Nat → Prop} {M M' : qM} {p : Nat} {P : qPn} {sz : Nat} (h : qPY M p P sz) (hf : qFr S M M') (hd : ∀ b j, S b j → p ≤ b → b ≤ p + 18 → (b = p ∧ (j = 13 ∨ j = 14)) ∨ (∃ c, c < 8 ∧ b = p + (1 + c) ∧ lnP P c ≤ j) ∨ (b = p + 9 ∧ P.1 2 ≤ j) ∨ (b = p + 11 ∧ sz ≤ j) ∨ b = p + 12 ∨ b = p + 13) : qPY M' p P sz := by
  obtain ⟨⟨h1, h2, h3, h4⟩, h5, ⟨h6, h7⟩, h8, h9, h10, h11⟩ := h
  have e0 : ∀ j, j ≠ 13 → j ≠ 14 → M'.1 p j = M.1 p j := fun j h1 h2 => hf.1 _ _ (fun z => by
    rcases hd _ _ z (by omega) (by omega) with h | ⟨c, h, h', -⟩ | h | h | h | h <;> omega)
  have e1 : ∀ c i, c < 8 → i < lnP P c → M'.1 (p + (1 + c)) i = M.1 (p + (1 + c)) i := fun c i hc hi => hf.1 _ _ (fun z => by
    rcases hd _ _ z (by omega) (by omega) with h | ⟨c', h, h', h''⟩ | h | h | h | h
    · omega
    · obtain rfl : c' = c := by omega
      omega
    all_goals omega)
  have e2 : ∀ i, i < P.1 2 → M'.1 (p + 9) i = M.1 (p + 9) i := fun i hi => hf.1 _ _ (fun z => by
    rcases hd _ _ z (by omega) (by omega) with h | ⟨c', h, h', h''⟩ | h | h | h | h <;> omega)
  have e3 : ∀ b j, p + 14 ≤ b → b ≤ p + 18 → M'.1 b j = M.1 b j := fun b j h1 h2 => hf.1 _ _ (fun z => by
    rcases hd _ _ z (by omega) (by omega) with h | ⟨c', h, h', h''⟩ | h | h | h | h <;> omega)
  have e4 : M'.1 (p + 10) 6 = M.1 (p + 10) 6 := hf.1 _ _ (fun z => by
    rcases hd _ _ z (by omega) (by omega) with h | ⟨c', h, h', h''⟩ | h | h | h | h <;> omega)
  refine ⟨⟨(e0 11 (by decide) (by decide)).trans h1, (e0 12 (by decide) (by decide)).trans h2, (e0 15 (by decide) (by decide)).trans h3, (e0 16 (by decide) (by decide)).trans h4⟩, fun c i hc hi => (e1 c i hc hi).trans (h5 c i hc hi), ⟨e4.trans h6, fun k hk => ?_⟩, (e3 _ _ (by omega) (by omega)).trans h8, (e3 _ _ (by omega) (by omega)).trans h9, fun k hk => (e3 _ _ (by omega) (by omega)).trans (h10 k hk), fun k i hk hi => ⟨(e3 _ _ (by omega) (by omega)).trans (h11 k i hk hi).1, (e3 _ _ (by omega) (by omega)).trans (h11 k i hk hi).2.1, (e3 _ _ (by omega) (by omega)).trans (h11 k i hk hi).2.2⟩⟩
  obtain ⟨pl, A, a1, a2, a3⟩ := h7 k hk
  exact ⟨pl, A, a1, (e2 k hk).trans a2, a3.fr hf (fun j hj z => by
    rcases hd _ _ z (by omega) (by omega) with h | ⟨c', h, h', h''⟩ | h | h | h | h <;> omega)⟩
theorem qPD.fr {S : Nat → Nat → Prop} {M M' : qM} {p : Nat} {P : qPn} {sz : Nat} (h : qPD M p P sz) (hf : qFr S M M') (h1 : ¬ S p 14) (hd : ∀ j, j < sz → ¬ S (p + 10 + 1) j) : qPD M' p P sz := by
  rcases h with ⟨h2, h3⟩ | ⟨pl, A, h2, h3, h4⟩
  · exact Or.inl ⟨h2, (hf.1 _ _ h1).trans h3⟩
  · exact Or.inr ⟨pl, A, h2, (hf.1 _ _ h1).trans h3, h4.fr hf hd⟩
theorem qPX.low {M M' : qM} {p : Nat} {P : qPn} {sz : Nat} (h : qPX M p P sz) (hp : 242 ≤ p) (hf : qFr SLo M M') : qPX M' p P sz := ⟨h.1.fr hf (fun b j z h1 _ => by unfold SLo at z; omega), (hf.1 _ _ (by unfold SLo; omega)).trans h.2.1, h.2.2.fr hf (by unfold SLo; omega) (fun j _ => by unfold SLo; omega)⟩
/-- a new row's number -/
theorem qPX.row {M : qM} {p : Nat} {P : qPn} {sz c i : Nat} {x : Int32} (h : qPX M p P sz) (hc : c < 8) (hi : lnP P c ≤ i) : qPX (wI M (p + (1 + c)) i x) p P sz := by
  have hf : qFr (fun b j => b = p + (1 + c) ∧ j = i) M (wI M (p + (1 + c)) i x) := qFr.rf.wI ⟨rfl, rfl⟩
  exact ⟨h.1.fr hf (fun b j z _ _ => Or.inr (Or.inl ⟨c, hc, z.1, by rw [z.2]; exact hi⟩)), (wI_a (by omega)).trans h.2.1, h.2.2.fr hf (fun z => by omega) (fun j _ z => by omega)⟩
theorem qPX.water {M : qM} {p : Nat} {P : qPn} {sz x y : Nat} (h : qPX M p P sz) (hx : M.1 (p + 1) (P.1 0) = nI x) (hy : M.1 (p + 2) (P.1 0) = nI y) : qPX (wI M p 11 (nI (P.1 0 + 1))) p (waP P x y) sz := by
  have hf : qFr (fun b j => b = p ∧ j = 11) M (wI M p 11 (nI (P.1 0 + 1))) := qFr.rf.wI ⟨rfl, rfl⟩
  obtain ⟨⟨⟨h1, h2, h3, h4⟩, h5, ⟨h6, h7⟩, h8, h9, h10, h11⟩, h12, h13⟩ := h
  have ea : ∀ b j, b ≠ p → (wI M p 11 (nI (P.1 0 + 1))).1 b j = M.1 b j := fun b j hb => wI_a hb
  have ek : ∀ j, j ≠ 11 → (wI M p 11 (nI (P.1 0 + 1))).1 p j = M.1 p j := fun j hj => wI_k hj
  refine ⟨⟨⟨wI_s _ _ _ _, (ek _ (by decide)).trans h2, (ek _ (by decide)).trans h3, (ek _ (by decide)).trans h4⟩, fun c i hc hi => ?_, ⟨(ea _ _ (by omega)).trans h6, fun k hk => ?_⟩, (ea _ _ (by omega)).trans h8, (ea _ _ (by omega)).trans h9, fun k hk => (ea _ _ (by omega)).trans (h10 k hk), fun k i hk hi => ⟨(ea _ _ (by omega)).trans (h11 k i hk hi).1, (ea _ _ (by omega)).trans (h11 k i hk hi).2.1, (ea _ _ (by omega)).trans (h11 k i hk hi).2.2⟩⟩, (ek _ (by decide)).trans h12, h13.fr hf (fun z => by omega) (fun j _ z => by omega)⟩
  · rw [ea _ _ (by omega)]
    show _ = nI (up2 (up2 P.2.1 0 (P.1 0) x) 1 (P.1 0) y c i)
    have hi2 : i < (if c < 2 then P.1 0 + 1 else if c < 6 then P.1 1 else P.1 2) := hi
    simp only [up2]
    by_cases c1 : c = 1 ∧ i = P.1 0
    · rw [if_pos c1, c1.1, c1.2]
      exact hy
    · rw [if_neg c1]
      by_cases c0 : c = 0 ∧ i = P.1 0
      · rw [if_pos c0, c0.1, c0.2]
        exact hx
      · rw [if_neg c0]
        refine h5 c i hc ?_
        unfold lnP
        by_cases d : c < 2
        · rw [if_pos d] at hi2 ⊢
          omega
        · rw [if_neg d] at hi2 ⊢
          exact hi2
  · obtain ⟨pl, A, a1, a2, a3⟩ := h7 k hk
    exact ⟨pl, A, a1, (ea _ _ (by omega)).trans a2, a3.fr hf (fun j _ z => by omega)⟩
theorem qPX.heir {M : qM} {p : Nat} {P : qPn} {sz x y z w : Nat} (h : qPX M p P sz) (hx : M.1 (p + 3) (P.1 1) = nI x) (hy : M.1 (p + 4) (P.1 1) = nI y) (hz : M.1 (p + 5) (P.1 1) = nI z) (hw : M.1 (p + 6) (P.1 1) = nI w) : qPX (wI M p 12 (nI (P.1 1 + 1))) p (heP P x y z w) sz := by
  have hf : qFr (fun b j => b = p ∧ j = 12) M (wI M p 12 (nI (P.1 1 + 1))) := qFr.rf.wI ⟨rfl, rfl⟩
  obtain ⟨⟨⟨h1, h2, h3, h4⟩, h5, ⟨h6, h7⟩, h8, h9, h10, h11⟩, h12, h13⟩ := h
  have ea : ∀ b j, b ≠ p → (wI M p 12 (nI (P.1 1 + 1))).1 b j = M.1 b j := fun b j hb => wI_a hb
  have ek : ∀ j, j ≠ 12 → (wI M p 12 (nI (P.1 1 + 1))).1 p j = M.1 p j := fun j hj => wI_k hj
  refine ⟨⟨⟨(ek _ (by decide)).trans h1, wI_s _ _ _ _, (ek _ (by decide)).trans h3, (ek _ (by decide)).trans h4⟩, fun c i hc hi => ?_, ⟨(ea _ _ (by omega)).trans h6, fun k hk => ?_⟩, (ea _ _ (by omega)).trans h8, (ea _ _ (by omega)).trans h9, fun k hk => (ea _ _ (by omega)).trans (h10 k hk), fun k i hk hi => ⟨(ea _ _ (by omega)).trans (h11 k i hk hi).1, (ea _ _ (by omega)).trans (h11 k i hk hi).2.1, (ea _ _ (by omega)).trans (h11 k i hk hi).2.2⟩⟩, (ek _ (by decide)).trans h12, h13.fr hf (fun z => by omega) (fun j _ z => by omega)⟩
  · rw [ea _ _ (by omega)]
    show _ = nI (up2 (up2 (up2 (up2 P.2.1 2 (P.1 1) x) 3 (P.1 1) y) 4 (P.1 1) z) 5 (P.1 1) w c i)
    have hi2 : i < (if c < 2 then P.1 0 else if c < 6 then P.1 1 + 1 else P.1 2) := hi
    simp only [up2]
    by_cases c5 : c = 5 ∧ i = P.1 1
    · rw [if_pos c5, c5.1, c5.2]
      exact hw
    · rw [if_neg c5]
      by_cases c4 : c = 4 ∧ i = P.1 1
      · rw [if_pos c4, c4.1, c4.2]
        exact hz
      · rw [if_neg c4]
        by_cases c3 : c = 3 ∧ i = P.1 1
        · rw [if_pos c3, c3.1, c3.2]
          exact hy
        · rw [if_neg c3]
          by_cases c2 : c = 2 ∧ i = P.1 1
          · rw [if_pos c2, c2.1, c2.2]
            exact hx
          · rw [if_neg c2]
            refine h5 c i hc ?_
            unfold lnP
            by_cases d : c < 2
            · rw [if_pos d] at hi2 ⊢
              exact hi2
            · by_cases d6 : c < 6
              · rw [if_neg d, if_pos d6] at hi2 ⊢
                omega
              · rw [if_neg d, if_neg d6] at hi2 ⊢
                exact hi2
  · obtain ⟨pl, A, a1, a2, a3⟩ := h7 k hk
    exact ⟨pl, A, a1, (ea _ _ (by omega)).trans a2, a3.fr hf (fun j _ z => by omega)⟩
theorem qPX.cnt {M : qM} {p : Nat} {P : qPn} {sz x i : Nat} (h : qPX M p P sz) (hi : i = 4 ∨ i = 5) : qPX (wI M p (i + 11) (nI x)) p (cnP P i x) sz := by
  have hf : qFr (fun b j => b = p ∧ j = i + 11) M (wI M p (i + 11) (nI x)) := qFr.rf.wI ⟨rfl, rfl⟩
  obtain ⟨⟨⟨h1, h2, h3, h4⟩, h5, ⟨h6, h7⟩, h8, h9, h10, h11⟩, h12, h13⟩ := h
  have ea : ∀ b j, b ≠ p → (wI M p (i + 11) (nI x)).1 b j = M.1 b j := fun b j hb => wI_a hb
  have ek : ∀ j, j ≠ i + 11 → (wI M p (i + 11) (nI x)).1 p j = M.1 p j := fun j hj => wI_k hj
  have eu : ∀ j, j ≠ i → updF P.1 i x j = P.1 j := fun j hj => if_neg hj
  have el : ∀ c, lnP (cnP P i x) c = lnP P c := fun c => by
    show (if c < 2 then updF P.1 i x 0 else if c < 6 then updF P.1 i x 1 else updF P.1 i x 2) = lnP P c
    rw [eu 0 (by omega), eu 1 (by omega), eu 2 (by omega)]
    rfl
  have c3 : updF P.1 i x 3 = P.1 3 := eu 3 (by omega)
  have c2 : updF P.1 i x 2 = P.1 2 := eu 2 (by omega)
  refine ⟨⟨⟨?_, ?_, ?_, ?_⟩, fun c k hc hk => (ea _ _ (by omega)).trans (h5 c k hc (by rw [el] at hk; exact hk)), ⟨(ea _ _ (by omega)).trans h6, fun k hk => ?_⟩, ?_, ?_, fun k hk => (ea _ _ (by omega)).trans (h10 k ?_), fun k j hk hj => ?_⟩, ?_, h13.fr hf (fun z => by omega) (fun j _ z => by omega)⟩
  · rw [ek _ (by omega), h1]
    exact congrArg nI (eu 0 (by omega)).symm
  · rw [ek _ (by omega), h2]
    exact congrArg nI (eu 1 (by omega)).symm
  · rcases hi with h | h <;> subst h
    · exact wI_s _ _ _ _
    · rw [ek _ (by omega), h3]
      rfl
  · rcases hi with h | h <;> subst h
    · rw [ek _ (by omega), h4]
      rfl
    · exact wI_s _ _ _ _
  · have hk2 : k < updF P.1 i x 2 := hk
    rw [c2] at hk2
    obtain ⟨pl, A, a1, a2, a3⟩ := h7 k hk2
    exact ⟨pl, A, a1, (ea _ _ (by omega)).trans a2, a3.fr hf (fun j _ z => by omega)⟩
  · rw [ea _ _ (by omega), h8]
    exact congrArg nI c3.symm
  · rw [ea _ _ (by omega), h9]
    show _ = nI (sumN (P.2.1 8) (updF P.1 i x 3))
    rw [c3]
  · have hk2 : k < updF P.1 i x 3 := hk
    rw [c3] at hk2
    exact hk2
  · have hk2 : k < updF P.1 i x 3 := hk
    rw [c3] at hk2
    exact ⟨(ea _ _ (by omega)).trans (h11 k j hk2 hj).1, (ea _ _ (by omega)).trans (h11 k j hk2 hj).2.1, (ea _ _ (by omega)).trans (h11 k j hk2 hj).2.2⟩
  · rw [ek _ (by omega), h12]
    exact congrArg nI c2.symm
