/-! the two between two calls of the law -/
def wd5 (i : Nat) : Nat := [24170674, 267570, 20101267, 4697, 2149678, 3540269, 627876, 486, 294, 663726, 176741, 758955, 12769452, 624020, 20186693, 628180, 12788].getD i 0
def wd27 (i : Nat) : Nat := [12257559, 161370, 10206127, 3427, 1096673, 1831504, 411, 377761, 249, 399641, 107681, 456500, 6491892, 375050, 10256063, 378020, 9173].getD i 0
def qXa (M : qM) (p p2 : Nat) (π : qPl) (pl : Int32) : Prop := (M.2.2 0 9 = some p ∧ M.2.2 0 10 = some p2) ∧ qPlan M p π ∧ qWill M p π ∧ M.1 0 11 = pl ∧ ∀ i, i < 17 → M.2.1 8 i = lN (wd5 i)
def qXc (M : qM) (c : qCo) : Prop := qSea M 224 c.1 ∧ qHistC M c.2.1 c.2.2
def qXe (M : qM) (π : qPl) (τ : qTo) : Prop := qToC M τ ∧ qExC M π τ
def qCs (M : qM) (p p2 : Nat) (σ : qSt) : Prop := (qIsP p ∧ qIsP p2 ∧ p ≠ p2) ∧ qXa M p p2 σ.2.2.1 σ.2.1 ∧ qTpC M σ.1 ∧ qXc M σ.2.2.2.1 ∧ qHdC M σ.2.2.2.2.1 ∧ qXe M σ.2.2.1 σ.2.2.2.2.2 ∧ qRwC M σ.2.2.1
def hfQ (L : Nat) : Nat → Nat → Prop := fun b j => (309 ≤ b ∧ b ≤ 310 ∧ 17 * L ≤ j ∧ j < 17 * L + 17) ∨ (311 ≤ b ∧ b ≤ 315 ∧ 130 * L ≤ j ∧ j < 130 * L + 130) ∨ ((b = 316 ∨ b = 317) ∧ 420 * L ≤ j ∧ j < 420 * L + 420)
theorem hfQ_b {L b j : Nat} (z : hfQ L b j) : 309 ≤ b ∧ b ≤ 317 := by
  unfold hfQ at z
  omega
/-- the laws lie in the live half -/
def hvM (M : qM) (L : Nat) (π : qPl) : Prop := ∀ M2 : qM, (∀ b j, hfQ L b j → M2.1 b j = M.1 b j) → (∀ k, k < π.1 2 → qLawM M2 (17 * L + k) (π.2.2 k)) ∧ ((M2.1 309 (17 * L + 16) = 0 ∧ M2.1 310 (17 * L + 16) = 0 ∧ ∀ v, π.2.2 16 v = 0) ∨ qLawM M2 (17 * L + 16) (π.2.2 16))
theorem hvM.ag {M M' : qM} {L : Nat} {π : qPl} (h : hvM M L π) (he : ∀ b j, hfQ L b j → M'.1 b j = M.1 b j) : hvM M' L π := fun M2 h2 => h M2 (fun b j z => (h2 b j z).trans (he b j z))
def qDa (M : qM) (L : Nat) (π : qPl) (pl : Int32) : Prop := qPlanM M L π ∧ qClM M L π ∧ M.1 280 17 = pl ∧ (∀ i, i < 17 → M.2.1 287 i = lN (wd27 i)) ∧ hvM M L π
def qDs (M : qM) (L : Nat) (σ : qSt) : Prop := qDa M L σ.2.2.1 σ.2.1 ∧ qTpM M σ.1 ∧ qCore M σ.2.2.2.1 ∧ qHeld M σ.2.2.2.2.1.1 σ.2.2.2.2.1.2 ∧ qToM M σ.2.2.2.2.2
def okSt (σ : qSt) : Prop := (okTp σ.1 ∧ okPl σ.2.2.1 ∧ okCl σ.2.2.1) ∧ okCore σ.2.2.1 σ.2.2.2.1 ∧ (∀ s, s < 3 → σ.2.2.2.2.1.1 s = 1 → okSea σ.2.2.1 (σ.2.2.2.2.1.2 s)) ∧ okTo σ.2.2.2.2.2
/-- where each part of the class's state lies -/
theorem qXa.fr {S : Nat → Nat → Prop} {M M' : qM} {p p2 : Nat} {π : qPl} {pl : Int32} (h : qXa M p p2 π pl) (hf : qFr S M M') (hd : ∀ b j, S b j → b ≠ 8 ∧ (b = 0 → j ≠ 11) ∧ (p ≤ b → b ≤ p + 18 → (b = p + 10 ∧ j ≠ 6) ∨ b = p + 12 ∨ b = p + 13)) : qXa M' p p2 π pl := by
  obtain ⟨⟨r1, r2⟩, h1, h2, h3, h4⟩ := h
  refine ⟨⟨frR hf r1, frR hf r2⟩, h1.fr hf (fun i j hi z => by have := (hd _ _ z).2.2 (by omega) (by omega); omega), h2.fr hf (fun i j z => ?_), (hf.1 _ _ (fun z => (hd _ _ z).2.1 rfl rfl)).trans h3, fun i hi => (hf.2.1 _ _ (fun z => (hd _ _ z).1 rfl)).trans (h4 i hi)⟩
  by_cases c : i ≤ 18
  · have := (hd _ _ z).2.2 (by omega) (by omega)
    omega
  · omega
theorem qTpC.fr {S : Nat → Nat → Prop} {M M' : qM} {t : qTp} (h : qTpC M t) (hf : qFr S M M') (hd : ∀ b j, S b j → b ≠ 2 ∧ (b = 1 → j ≠ 1)) : qTpC M' t := ⟨(hf.1 _ _ (fun z => (hd _ _ z).2 rfl rfl)).trans h.1, fun k hk => (hf.1 _ _ (fun z => (hd _ _ z).1 rfl)).trans (h.2 k hk)⟩
theorem qXc.fr {S : Nat → Nat → Prop} {M M' : qM} {c : qCo} (h : qXc M c) (hf : qFr S M M') (hd : ∀ b j, S b j → (b < 224 ∨ 229 < b) ∧ (b < 16 ∨ 195 < b) ∧ (b = 12 → j ≠ 3 ∧ j ≠ 4)) : qXc M' c := ⟨h.1.fr hf (fun j k hj z => by have := (hd _ _ z).1; omega), h.2.fr hf (fun b j z => (hd b j z).2)⟩
theorem qExC.fr {S : Nat → Nat → Prop} {M M' : qM} {π : qPl} {τ : qTo} (h : qExC M π τ) (hf : qFr S M M') (hd : ∀ b j, S b j → b ≠ 217 ∧ (b = 214 → j ≠ 3)) : qExC M' π τ := by
  rcases h with h | ⟨k, h1, h2, h3⟩
  · exact Or.inl ((hf.1 _ _ (fun z => (hd _ _ z).2 rfl rfl)).trans h)
  · exact Or.inr ⟨k, h1, (hf.1 _ _ (fun z => (hd _ _ z).2 rfl rfl)).trans h2, fun c hc => (hf.1 _ _ (fun z => (hd _ _ z).1 rfl)).trans (h3 c hc)⟩
theorem qXe.fr {S : Nat → Nat → Prop} {M M' : qM} {π : qPl} {τ : qTo} (h : qXe M π τ) (hf : qFr S M M') (hd : ∀ b j, S b j → b ≠ 215 ∧ b ≠ 216 ∧ b ≠ 217 ∧ (b = 214 → j ≠ 3 ∧ j ≠ 4)) : qXe M' π τ := ⟨h.1.fr hf (fun b j z => by have := hd b j z; omega), h.2.fr hf (fun b j z => by have := hd b j z; omega)⟩
theorem qRwC.fr {S : Nat → Nat → Prop} {M M' : qM} {π : qPl} (h : qRwC M π) (hf : qFr S M M') (hd : ∀ b j, S b j → b ≠ 218 ∧ b ≠ 220) : qRwC M' π := by
  have e : ∀ j, M'.1 218 j = M.1 218 j := fun j => hf.1 _ _ (fun z => (hd _ _ z).1 rfl)
  rcases h with h | ⟨n, s, c, h1, h2, h3, h4, h5, h6, h7⟩
  · exact Or.inl ((e 4).trans h)
  · exact Or.inr ⟨n, s, c, h1, h2, h3, (e 4).trans h4, (e 5).trans h5, (e 6).trans h6, (hf.2.1 _ _ (fun z => (hd _ _ z).1 rfl)).trans h7.1, (e 2).trans h7.2.1, fun l Q hl v hv => (hf.1 _ _ (fun z => (hd _ _ z).2 rfl)).trans (h7.2.2 l Q hl v hv)⟩
/-- and of the reference's -/
theorem qDa.fr {S : Nat → Nat → Prop} {M M' : qM} {L : Nat} {π : qPl} {pl : Int32} (h : qDa M L π pl) (hf : qFr S M M') (hd : ∀ b j, S b j → (b < 287 ∨ 317 < b) ∧ (b = 280 → j ≠ 17 ∧ j ≠ 18)) : qDa M' L π pl := by
  obtain ⟨h1, h2, h3, h4, h5⟩ := h
  have e : ∀ b j, 291 ≤ b → b ≤ 317 → M'.1 b j = M.1 b j := fun b j b1 b2 => hf.1 _ _ (fun z => by have := (hd _ _ z).1; omega)
  exact ⟨h1.frS hf (fun b j z => by have := hd b j z; omega), fun k hk => ⟨(e _ _ (by omega) (by omega)).trans (h2 k hk).1, fun i hi => ⟨(e _ _ (by omega) (by omega)).trans ((h2 k hk).2 i hi).1, (e _ _ (by omega) (by omega)).trans ((h2 k hk).2 i hi).2.1, (e _ _ (by omega) (by omega)).trans ((h2 k hk).2 i hi).2.2⟩⟩, (hf.1 _ _ (fun z => ((hd _ _ z).2 rfl).1 rfl)).trans h3, fun i hi => (hf.2.1 _ _ (fun z => by have := (hd _ _ z).1; omega)).trans (h4 i hi), h5.ag (fun b j z => hf.1 _ _ (fun q => by have := (hd _ _ q).1; have := hfQ_b z; omega))⟩
theorem qTpM.fr {S : Nat → Nat → Prop} {M M' : qM} {t : qTp} (h : qTpM M t) (hf : qFr S M M') (hd : ∀ b j, S b j → b ≠ 281 ∧ (b = 280 → j ≠ 2)) : qTpM M' t := by
  refine ⟨(hf.1 _ _ (fun z => (hd _ _ z).2 rfl rfl)).trans h.1, fun k hk => ?_⟩
  rw [hf.1 _ _ (fun z => (hd _ _ z).1 rfl)]
  exact h.2 k hk
theorem qCore.fr {S : Nat → Nat → Prop} {M M' : qM} {c : qCo} (h : qCore M c) (hf : qFr S M M') (hd : ∀ b j, S b j → b ≠ 321 ∧ b ≠ 325 ∧ (b = 280 → j ≠ 64)) : qCore M' c := ⟨fun k hk => (hf.1 _ _ (fun z => (hd _ _ z).1 rfl)).trans (h.1 k hk), h.2.1, (hf.1 _ _ (fun z => (hd _ _ z).2.2 rfl rfl)).trans h.2.2.1, fun i k hi hk => (hf.1 _ _ (fun z => (hd _ _ z).2.1 rfl)).trans (h.2.2.2 i k hi hk)⟩
theorem qHeld.fr {S : Nat → Nat → Prop} {M M' : qM} {B : Nat → Int32} {HR : Nat → Nat → Int32} (h : qHeld M B HR) (hf : qFr S M M') (hd : ∀ b j, S b j → b ≠ 331 ∧ b ≠ 332) : qHeld M' B HR := ⟨fun s hs => ⟨(hf.1 _ _ (fun z => (hd _ _ z).1 rfl)).trans (h.1 s hs).1, (h.1 s hs).2⟩, fun s k hs hk hb => (hf.1 _ _ (fun z => (hd _ _ z).2 rfl)).trans (h.2 s k hs hk hb)⟩
/-- nothing below (above) is written -/
def qFX (M M' : qM) : Prop := qRf M' ∧ (∀ b j, 280 ≤ b → M'.1 b j = M.1 b j) ∧ ∀ b j, 280 ≤ b → M'.2.1 b j = M.2.1 b j
theorem qFX.of {S : Nat → Nat → Prop} {M M' : qM} (hM : qRf M) (hf : qFr S M M') (hd : ∀ b j, S b j → b < 280) : qFX M M' := ⟨hM.fr hf, fun b j hb => hf.1 _ _ (fun z => by have := hd b j z; omega), fun b j hb => hf.2.1 _ _ (fun z => by have := hd b j z; omega)⟩
theorem qFX.rf {M : qM} (hM : qRf M) : qFX M M := ⟨hM, fun _ _ _ => rfl, fun _ _ _ => rfl⟩
theorem qFX.tr {M M' M2 : qM} (h : qFX M M') (h2 : qFX M' M2) : qFX M M2 := ⟨h2.1, fun b j hb => (h2.2.1 b j hb).trans (h.2.1 b j hb), fun b j hb => (h2.2.2 b j hb).trans (h.2.2 b j hb)⟩
/-- what the reference's state is depends on its own cells alone -/
def qHi (M M' : qM) : qM := (fun b j => if 280 ≤ b then M'.1 b j else M.1 b j, fun b j => if 280 ≤ b then M'.2.1 b j else M.2.1 b j, M.2.2)
theorem qPlanM.refs {A : Nat → Nat → Int32} {B : Nat → Nat → Int64} {C C' : Nat → Nat → Option Nat} {L : Nat} {π : qPl} (h : qPlanM (A, B, C) L π) : qPlanM (A, B, C') L π := by
  have eC : ∀ v i j, cellsP (A, B, C') v i j = cellsP (A, B, C) v i j := fun _ _ _ => rfl
  have eB : ∀ v n b, runB (A, B, C') v n b = runB (A, B, C) v n b := by
    intro v n
    induction n with
    | zero => intro b; rfl
    | succ n ih =>
      intro b
      rw [runB_s, runB_s]
      simp only [brAt, eC, ih]
  have eL : ∀ i f, qLawM (A, B, C) i f → qLawM (A, B, C') i f := fun i f ⟨x, y, h1, h2, h3, h4, h5⟩ => ⟨x, y, h1, h2, h3, h4, fun v => by rw [eB]; exact h5 v⟩
  obtain ⟨a, b, c1, c2, c3, d1, d2⟩ := h
  exact ⟨a, b, c1, c2, c3, fun k hk => eL _ _ (d1 k hk), d2.elim Or.inl (fun z => Or.inr (eL _ _ z))⟩
theorem qDs.cls {M M' : qM} {L : Nat} {σ : qSt} (h : qDs M L σ) (hf : qFX M M') : qDs M' L σ := by
  have e1 : ∀ b, 280 ≤ b → M'.1 b = M.1 b := fun b hb => funext fun j => hf.2.1 b j hb
  have e2 : ∀ b, 280 ≤ b → M'.2.1 b = M.2.1 b := fun b hb => funext fun j => hf.2.2 b j hb
  have hf' : qFr (fun b _ => b < 280) M (fun b j => M'.1 b j, fun b j => M'.2.1 b j, M.2.2) := ⟨fun b j hb => hf.2.1 b j (by omega), fun b j hb => hf.2.2 b j (by omega), rfl⟩
  obtain ⟨h1, h2, h3, h4, h5⟩ := h
  have g1 := h1.fr hf' (fun b j z => by omega)
  have g2 := h2.fr hf' (fun b j z => by omega)
  have g3 := h3.fr hf' (fun b j z => by omega)
  have g4 := h4.fr hf' (fun b j z => by omega)
  have g5 := h5.fr hf' (fun b j z => by omega)
  obtain ⟨N1, N2, N3⟩ := M'
  refine ⟨?_, g2, g3, g4, g5⟩
  obtain ⟨a1, a2, a3, a4⟩ := g1
  refine ⟨?_, a2, a3, a4⟩
  exact a1.refs
theorem qCs.ref {S : Nat → Nat → Prop} {M M' : qM} {p p2 : Nat} {σ : qSt} (h : qCs M p p2 σ) (hf : qFr S M M') (hd : ∀ b j, S b j → 280 ≤ b) : qCs M' p p2 σ := by
  obtain ⟨⟨i1, i2, i3⟩, h1, h2, h3, h4, h5, h6⟩ := h
  have b1 := i1.2.2
  exact ⟨⟨i1, i2, i3⟩, h1.fr hf (fun b j z => by have := hd b j z; omega), h2.fr hf (fun b j z => by have := hd b j z; omega), h3.fr hf (fun b j z => by have := hd b j z; omega), h4.fr hf (fun b j z => by have := hd b j z; omega), h5.fr hf (fun b j z => by have := hd b j z; omega), h6.fr hf (fun b j z => by have := hd b j z; omega)⟩
section Law
variable {g : qG} {K : qKt} {R : Room} {Z : List Frame → Array Value → State → State → Prop} {pc n : Nat} {L : List (Option Value)} {st : List Value} {M : qM} {cs : Nat × Nat}
theorem qi_sldN {i x : Int32} {j : Nat} (hd : decode K.2.1 pc = .ok (.iaload, 1)) (hi : i = nI j) (hj : j < g.2.2.2.2.2.2.1) (hl : g.2.2.2.2.2.2.1 < 2 ^ 31) (hx : g.2.2.2.2.2.2.2 j = x) (kk : qT g K R Z (pc + 1) L (.int x :: st) n M cs) : qT g K R Z pc L (.int i :: .ref 1000000 :: st) n M cs := qi_sld hd (pk_in j _ hj hi hl) (by rw [hi, nI_clamp (by omega)]; exact hx) kk
end Law
