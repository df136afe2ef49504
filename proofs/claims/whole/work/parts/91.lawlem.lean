/-! what each call of the law leaves -/
theorem qCs.q {M M' : qM} {p p2 : Nat} {σ : qSt} (h : qCs M p p2 σ) (hf : qFr (SQx p) M M') : qCs M' p p2 σ := by
  obtain ⟨⟨i1, i2, i3⟩, h1, h2, h3, h4, h5, h6⟩ := h
  have b1 := i1.2.1
  exact ⟨⟨i1, i2, i3⟩, h1.fr hf (fun b j z => by unfold SQx SP at z; omega), h2.fr hf (fun b j z => by unfold SQx SP at z; omega), h3.fr hf (fun b j z => by unfold SQx SP at z; omega), h4.fr hf (fun b j z => by unfold SQx SP at z; omega), h5.fr hf (fun b j z => by unfold SQx SP at z; omega), h6.fr hf (fun b j z => by unfold SQx SP at z; omega)⟩
theorem SQx_lt {p : Nat} (hp : qIsP p) {b j : Nat} (z : SQx p b j) : b < 280 := by
  have b1 := hp.2.2
  unfold SQx SP at z
  omega
theorem SAk_q {p b j : Nat} (z : SAk b j) : SQx p b j := Or.inl (by unfold SAk at z; omega)
theorem qCs.rx {M M' : qM} {p p2 : Nat} {σ : qSt} (h : qCs M p p2 σ) (hf : qFr SRx M M') (hR : qRwC M' σ.2.2.1) : qCs M' p p2 σ := by
  obtain ⟨⟨i1, i2, i3⟩, h1, h2, h3, h4, h5, h6⟩ := h
  have b1 := i1.2.1
  exact ⟨⟨i1, i2, i3⟩, h1.fr hf (fun b j z => by unfold SRx at z; omega), h2.fr hf (fun b j z => by unfold SRx at z; omega), h3.fr hf (fun b j z => by unfold SRx at z; omega), h4.fr hf (fun b j z => by unfold SRx at z; omega), h5.fr hf (fun b j z => by unfold SRx at z; omega), hR⟩
theorem qCs.ex {M M' : qM} {p p2 : Nat} {σ : qSt} (h : qCs M p p2 σ) (hf : qFr (SEx p) M M') (hE : qExC M' σ.2.2.1 σ.2.2.2.2.2) : qCs M' p p2 σ := by
  obtain ⟨⟨i1, i2, i3⟩, h1, h2, h3, h4, h5, h6⟩ := h
  have b1 := i1.2.1
  exact ⟨⟨i1, i2, i3⟩, h1.fr hf (fun b j z => by unfold SEx SQx SP at z; omega), h2.fr hf (fun b j z => by unfold SEx SQx SP at z; omega), h3.fr hf (fun b j z => by unfold SEx SQx SP at z; omega), h4.fr hf (fun b j z => by unfold SEx SQx SP at z; omega), ⟨h5.1.fr hf (fun b j z => SEx_to i1 z), hE⟩, h6.fr hf (fun b j z => by unfold SEx SQx SP at z; omega)⟩
theorem SEx_lt {p : Nat} (hp : qIsP p) {b j : Nat} (z : SEx p b j) : b < 280 := by
  have b1 := hp.2.2
  unfold SEx SQx SP at z
  omega
/-- the numbers now, and what can be undone, are others -/
theorem qCs.core {S : Nat → Nat → Prop} {M M' : qM} {p p2 : Nat} {t : qTp} {pl : Int32} {π : qPl} {c c' : qCo} {η : qHd} {τ : qTo} (h : qCs M p p2 (t, pl, π, c, η, τ)) (hf : qFr S M M') (hS : ∀ b j, S b j → SDo p b j) (h3 : qXc M' c') : qCs M' p p2 (t, pl, π, c', η, τ) := by
  obtain ⟨⟨i1, i2, i3⟩, h1, h2, -, h4, h5, h6⟩ := h
  have b1 := i1.2.1
  exact ⟨⟨i1, i2, i3⟩, h1.fr hf (fun b j z => by have z := hS b j z; unfold SDo SRm SP at z; omega), h2.fr hf (fun b j z => by have z := hS b j z; unfold SDo SRm SP at z; omega), h3, h4.fr hf (fun b j z => by have z := hS b j z; unfold SDo SRm SP at z; omega), h5.fr hf (fun b j z => by have z := hS b j z; unfold SDo SRm SP at z; omega), h6.fr hf (fun b j z => by have z := hS b j z; unfold SDo SRm SP at z; omega)⟩
theorem SDo_lt {p : Nat} (hp : qIsP p) {b j : Nat} (z : SDo p b j) : b < 280 := by
  have b1 := hp.2.2
  unfold SDo SRm SP at z
  omega
theorem SUn_do {p b j : Nat} (z : SUn b j) : SDo p b j := z.elim (fun z => Or.inl (Or.inr z)) (fun z => Or.inr (Or.inl z))
theorem qCs.held {M M' : qM} {p p2 : Nat} {t : qTp} {pl : Int32} {π : qPl} {c : qCo} {η η' : qHd} {τ : qTo} (h : qCs M p p2 (t, pl, π, c, η, τ)) (hf : qFr SKp M M') (h4 : qHdC M' η') : qCs M' p p2 (t, pl, π, c, η', τ) := by
  obtain ⟨⟨i1, i2, i3⟩, h1, h2, h3, -, h5, h6⟩ := h
  have b1 := i1.2.1
  exact ⟨⟨i1, i2, i3⟩, h1.fr hf (fun b j z => by unfold SKp at z; omega), h2.fr hf (fun b j z => by unfold SKp at z; omega), h3.fr hf (fun b j z => by unfold SKp at z; omega), h4, h5.fr hf (fun b j z => by unfold SKp at z; omega), h6.fr hf (fun b j z => by unfold SKp at z; omega)⟩
theorem qCs.told {M M' : qM} {p p2 : Nat} {t : qTp} {pl : Int32} {π : qPl} {c : qCo} {η : qHd} {τ τ' : qTo} (h : qCs M p p2 (t, pl, π, c, η, τ)) (hf : qFr STd M M') (h5 : qXe M' π τ') : qCs M' p p2 (t, pl, π, c, η, τ') := by
  obtain ⟨⟨i1, i2, i3⟩, h1, h2, h3, h4, -, h6⟩ := h
  have b1 := i1.2.1
  exact ⟨⟨i1, i2, i3⟩, h1.fr hf (fun b j z => by unfold STd at z; omega), h2.fr hf (fun b j z => by unfold STd at z; omega), h3.fr hf (fun b j z => by unfold STd at z; omega), h4.fr hf (fun b j z => by unfold STd at z; omega), h5, h6.fr hf (fun b j z => by unfold STd at z; omega)⟩
theorem qCs.tape {M M' : qM} {p p2 : Nat} {t t' : qTp} {pl : Int32} {π : qPl} {c : qCo} {η : qHd} {τ : qTo} (h : qCs M p p2 (t, pl, π, c, η, τ)) (hf : qFr STc M M') (h2 : qTpC M' t') : qCs M' p p2 (t', pl, π, c, η, τ) := by
  obtain ⟨⟨i1, i2, i3⟩, h1, -, h3, h4, h5, h6⟩ := h
  have b1 := i1.2.1
  exact ⟨⟨i1, i2, i3⟩, h1.fr hf (fun b j z => by unfold STc at z; omega), h2, h3.fr hf (fun b j z => by unfold STc at z; omega), h4.fr hf (fun b j z => by unfold STc at z; omega), h5.fr hf (fun b j z => by unfold STc at z; omega), h6.fr hf (fun b j z => by unfold STc at z; omega)⟩
/-- the reference's -/
def SDq : Nat → Nat → Prop := fun b j => (319 ≤ b ∧ b ≠ 321 ∧ b ≠ 325 ∧ b ≠ 329 ∧ b ≠ 330 ∧ b ≠ 331 ∧ b ≠ 332) ∨ (b = 280 ∧ j ≠ 2 ∧ j ≠ 17 ∧ j ≠ 18 ∧ j ≠ 64 ∧ j ≠ 72)
theorem SM_dq {b j : Nat} (z : SM b j) : SDq b j := by unfold SM at z; unfold SDq; omega
theorem SA_dq {b j : Nat} (z : SA b j) : SDq b j := by unfold SA at z; unfold SDq; omega
theorem SRw_dq {b j : Nat} (z : SRw b j) : SDq b j := by unfold SRw SRo at z; unfold SDq; omega
theorem qDs.q {M M' : qM} {L : Nat} {σ : qSt} (h : qDs M L σ) (hf : qFr SDq M M') : qDs M' L σ := by
  obtain ⟨h1, h2, h3, h4, h5⟩ := h
  exact ⟨h1.fr hf (fun b j z => by unfold SDq at z; omega), h2.fr hf (fun b j z => by unfold SDq at z; omega), h3.fr hf (fun b j z => by unfold SDq at z; omega), h4.fr hf (fun b j z => by unfold SDq at z; omega), h5.fr hf (fun b j z => by unfold SDq at z; omega)⟩
theorem SDq_ge {b j : Nat} (z : SDq b j) : 280 ≤ b := by unfold SDq at z; omega
theorem qDs.core {S : Nat → Nat → Prop} {M M' : qM} {L : Nat} {t : qTp} {pl : Int32} {π : qPl} {c c' : qCo} {η : qHd} {τ : qTo} (h : qDs M L (t, pl, π, c, η, τ)) (hf : qFr S M M') (hS : ∀ b j, S b j → SQ b j) (h3 : qCore M' c') : qDs M' L (t, pl, π, c', η, τ) := by
  obtain ⟨h1, h2, -, h4, h5⟩ := h
  exact ⟨h1.fr hf (fun b j z => by have z := hS b j z; unfold SQ SM SU at z; omega), h2.fr hf (fun b j z => by have z := hS b j z; unfold SQ SM SU at z; omega), h3, h4.fr hf (fun b j z => by have z := hS b j z; unfold SQ SM SU at z; omega), h5.fr hf (fun b j z => by have z := hS b j z; unfold SQ SM SU at z; omega)⟩
theorem SQ_ge {b j : Nat} (z : SQ b j) : 280 ≤ b := by unfold SQ SM SU at z; omega
theorem qDs.held {M M' : qM} {L : Nat} {t : qTp} {pl : Int32} {π : qPl} {c : qCo} {η η' : qHd} {τ : qTo} (h : qDs M L (t, pl, π, c, η, τ)) (hf : qFr SH M M') (h4 : qHeld M' η'.1 η'.2) : qDs M' L (t, pl, π, c, η', τ) := by
  obtain ⟨h1, h2, h3, -, h5⟩ := h
  exact ⟨h1.fr hf (fun b j z => by unfold SH at z; omega), h2.fr hf (fun b j z => by unfold SH at z; omega), h3.fr hf (fun b j z => by unfold SH at z; omega), h4, h5.fr hf (fun b j z => by unfold SH at z; omega)⟩
theorem qDs.told {M M' : qM} {L : Nat} {t : qTp} {pl : Int32} {π : qPl} {c : qCo} {η : qHd} {τ τ' : qTo} (h : qDs M L (t, pl, π, c, η, τ)) (hf : qFr STo M M') (h5 : qToM M' τ') : qDs M' L (t, pl, π, c, η, τ') := by
  obtain ⟨h1, h2, h3, h4, -⟩ := h
  exact ⟨h1.fr hf (fun b j z => by unfold STo at z; omega), h2.fr hf (fun b j z => by unfold STo at z; omega), h3.fr hf (fun b j z => by unfold STo at z; omega), h4.fr hf (fun b j z => by unfold STo at z; omega), h5⟩
theorem qDs.tape {M M' : qM} {L : Nat} {t t' : qTp} {pl : Int32} {π : qPl} {c : qCo} {η : qHd} {τ : qTo} (h : qDs M L (t, pl, π, c, η, τ)) (hf : qFr STp M M') (h2 : qTpM M' t') : qDs M' L (t', pl, π, c, η, τ) := by
  obtain ⟨h1, -, h3, h4, h5⟩ := h
  exact ⟨h1.fr hf (fun b j z => by unfold STp at z; omega), h2, h3.fr hf (fun b j z => by unfold STp at z; omega), h4.fr hf (fun b j z => by unfold STp at z; omega), h5.fr hf (fun b j z => by unfold STp at z; omega)⟩
/-- all holds -/
def qG0 (M : qM) (σ : qSt) : Prop := qRf M ∧ (∃ p p2, qCs M p p2 σ) ∧ (∃ L, qDs M L σ) ∧ okSt σ
/-- what is done keeps the bounds -/
theorem okSea.moved {π : qPl} {ρ : Nat → Int32} (h : okSea π ρ) (hok : okPl π) {h0 o0 : Nat} (hh : h0 < 8) (ho : o0 < 8) (hho : h0 ≠ o0) {p q : Nat} (hp : p ≤ q) (hq : 1 ≤ q) (hq9 : q ≤ 99) : okSea π (moveF ρ h0 o0 (nI p) (nI q) 5) := by
  have hall := allF_move (ρ := ρ) (p := nI p) (q := nI q) hh ho hho 5 (Nat.le_refl _)
  obtain ⟨A, eA, hA, hA2⟩ := h.all hok
  obtain ⟨h1, h2⟩ := h.r hok
  obtain ⟨r0, s, z, -, -, g3, g4, g5, g6⟩ := h
  have hb := hok.2.2.2.2.1
  have hmx : max1 (nI q) = nI q := by
    unfold max1
    by_cases c : (1 : Int32) < nI q
    · rw [if_pos c]
    · rw [if_neg c]
      have : ¬ 1 < q := fun y => c ((nI_ltI (a := 1) (by omega) (by omega)).mpr y)
      rw [show q = 1 by omega]
      rfl
  have hrl : ∀ k, k < 40 → rOf ρ k ≤ 9999 := fun k hk => by have := sumN_get (f := rOf ρ) 40 k hk; omega
  have hd : ∀ k, rOf ρ k * p / q ≤ rOf ρ k := fun k => by
    have e1 : rOf ρ k * p ≤ rOf ρ k * q := Nat.mul_le_mul_left _ hp
    have e2 := Nat.div_le_div_right (c := q) e1
    rwa [Nat.mul_div_cancel _ hq] at e2
  have hpart : ∀ k, k < 40 → partF ρ (nI p) (nI q) k = nI (rOf ρ k * p / q) := fun k hk => by
    have e1 : rOf ρ k * p ≤ 9999 * 99 := Nat.mul_le_mul (hrl k hk) (by omega)
    unfold partF
    rw [hmx, h1 k hk, pk_mul, pk_div (by omega) (by omega) (by omega)]
  have hr' : ∃ r' : Nat → Nat, ∀ j, r' j = if 5 * h0 ≤ j ∧ j < 5 * h0 + 5 then rOf ρ j - rOf ρ j * p / q else if 5 * o0 ≤ j ∧ j < 5 * o0 + 5 then rOf ρ j + rOf ρ (5 * h0 + (j - 5 * o0)) * p / q else rOf ρ j := ⟨_, fun _ => rfl⟩
  obtain ⟨r', hr'⟩ := hr'
  have e' : ∀ j, j < 40 → moveF ρ h0 o0 (nI p) (nI q) 5 j = nI (r' j) := fun j hj => by
    rw [moveF_at hho 5 j (Nat.le_refl _), hr']
    by_cases c1 : 5 * h0 ≤ j ∧ j < 5 * h0 + 5
    · rw [if_pos c1, if_pos c1, hpart j hj, h1 j hj, pk_sub (hd j)]
    · rw [if_neg c1, if_neg c1]
      by_cases c2 : 5 * o0 ≤ j ∧ j < 5 * o0 + 5
      · rw [if_pos c2, if_pos c2, hpart _ (by omega), h1 j hj, nI_add]
      · rw [if_neg c2, if_neg c2]
        exact h1 j hj
  have hrl' : ∀ j, j < 40 → r' j ≤ 19998 := fun j hj => by
    rw [hr']
    have := hrl j hj
    by_cases c1 : 5 * h0 ≤ j ∧ j < 5 * h0 + 5
    · rw [if_pos c1]; exact Nat.le_trans (Nat.sub_le _ _) (by omega)
    · rw [if_neg c1]
      by_cases c2 : 5 * o0 ≤ j ∧ j < 5 * o0 + 5
      · rw [if_pos c2]
        have := hd (5 * h0 + (j - 5 * o0))
        have := hrl (5 * h0 + (j - 5 * o0)) (by omega)
        omega
      · rw [if_neg c2]; omega
  have hs' : sumN r' 40 ≤ 40 * 19998 := by
    have := sumN_le (f := r') (h := fun _ => 19998) 40 hrl'
    rwa [sumN_const] at this
  have hsum : sumN r' 40 = A := by
    have e2 : allF (moveF ρ h0 o0 (nI p) (nI q) 5) = nI (sumN r' 40) := by
      unfold allF
      rw [sumF_congr 40 e', sumF_nI]
    rw [hall, eA] at e2
    exact ((nI_eq (by omega) (by omega)).mp e2).symm
  exact ⟨r', s, z, e', by omega, fun j hj => by rw [moveF_out hh ho 5 _ (Nat.le_refl _) (by omega)]; exact g3 j hj, g4, by rw [moveF_out hh ho 5 _ (Nat.le_refl _) (by omega)]; exact g5, g6⟩
theorem okSea.merged {π : qPl} {ρ : Nat → Int32} (h : okSea π ρ) (hok : okPl π) {h0 o0 : Nat} (hh : h0 < 8) (ho : o0 < 8) (hho : h0 ≠ o0) : okSea π (mergeF ρ h0 o0) := by
  obtain ⟨r, s, z, g1, g2, g3, g4, g5, g6⟩ := h
  have hu : ∃ u : Nat → Nat, ∀ j, u j = if j = h0 then 0 else s j := ⟨_, fun _ => rfl⟩
  obtain ⟨u, hu⟩ := hu
  have hv : ∃ v : Nat → Nat, ∀ j, v j = if j = h0 then 0 else if j = o0 then s o0 + s h0 else s j := ⟨_, fun _ => rfl⟩
  obtain ⟨v, hv⟩ := hv
  have s1 := sumN_one (f := u) (h := s) (c := h0) 8 hh (fun k hk hkc => by rw [hu, if_neg hkc])
  have s2 := sumN_one (f := v) (h := u) (c := o0) 8 ho (fun k hk hkc => by rw [hv, hu, if_neg hkc])
  have u1 : u h0 = 0 := by rw [hu, if_pos rfl]
  have u2 : u o0 = s o0 := by rw [hu, if_neg (fun z => hho z.symm)]
  have v2 : v o0 = s o0 + s h0 := by rw [hv, if_neg (fun z => hho z.symm), if_pos rfl]
  refine ⟨r, v, z, fun k hk => ?_, g2, fun j hj => ?_, by omega, ?_, g6⟩
  · unfold mergeF
    rw [if_neg (by omega), if_neg (by omega), if_neg (by omega), if_neg (by omega)]
    exact g1 k hk
  · unfold mergeF
    rw [if_neg (by omega), if_neg (by omega), hv]
    by_cases c1 : j = h0
    · rw [if_pos c1, if_pos (by omega)]
      rfl
    · rw [if_neg c1, if_neg (by omega)]
      by_cases c2 : j = o0
      · rw [if_pos c2, if_pos (by omega), g3 o0 ho, g3 h0 hh, nI_add]
      · rw [if_neg c2, if_neg (by omega)]
        exact g3 j hj
  · unfold mergeF
    rw [if_neg (by omega), if_neg (by omega), if_neg (by omega), if_neg (by omega)]
    exact g5
theorem okSea.spoon {π : qPl} {ρ : Nat → Int32} (h : okSea π ρ) (hok : okPl π) {n : Nat} (h0 : 0 < n) (hn : n ≤ sumN (rOf ρ) 40) : okSea π (spoonF ρ n) := by
  obtain ⟨A, eA, hA, hA2⟩ := h.all hok
  have hb := hok.2.2.2.2.1
  obtain ⟨-, -, z, -, -, -, -, e65, hz⟩ := id h
  obtain ⟨⟨r, s, y, g1, g2, g3, g4, g5, g6⟩, -⟩ := h.dry hok hn
  have hsp : spoonS ρ n = nI (z * n / A) := by
    have m1 : z * n ≤ 1000000000 * 9999 := Nat.mul_le_mul hz (by omega)
    unfold spoonS
    rw [e65, eA, nI_l (by omega), nI_l (by omega), nI_l (by omega), pk_lMul, pk_lDiv (by omega) (by omega) (by omega)]
    exact lN_i _
  have hle : z * n / A ≤ z := by
    have e1 : z * n ≤ z * A := Nat.mul_le_mul_left _ (by omega)
    have e2 := Nat.div_le_div_right (c := A) e1
    rwa [Nat.mul_div_cancel _ (by omega)] at e2
  refine ⟨r, s, z - z * n / A, fun k hk => ?_, g2, fun j hj => ?_, g4, ?_, Nat.le_trans (Nat.sub_le _ _) hz⟩
  · unfold spoonF
    rw [if_neg (by omega)]
    exact g1 k hk
  · unfold spoonF
    rw [if_neg (by omega)]
    exact g3 j hj
  · unfold spoonF
    rw [if_pos rfl, hsp, e65, pk_sub hle]
theorem okCore.run {π : qPl} {c : qCo} (h : okCore π c) (hok : okPl π) (n : Int32) : okCore π (dRun π n c).2 := by
  unfold dRun
  split
  · exact h
  · split
    · exact h
    · exact h.push (h.1.weeks hok _)
theorem okCore.merge {π : qPl} {c : qCo} (h : okCore π c) (hok : okPl π) (a b : Int32) : okCore π (dMerge π a b c).2 := by
  unfold dMerge
  by_cases t : twoF π a b
  · rw [if_pos t]
    obtain ⟨h0, o0, hh, ho, hho, eh, eo⟩ := two_of hok t
    have h8 := hok.2.1
    rw [eh, eo, nI_clamp (by omega), nI_clamp (by omega)]
    exact h.push ((h.1.merged hok (by omega) (by omega) hho).moved hok (by omega) (by omega) hho (p := 1) (q := 1) (by omega) (by omega) (by omega))
  · rw [if_neg t]
    exact h
theorem okCore.split {π : qPl} {c : qCo} (h : okCore π c) (hok : okPl π) (a b p q : Int32) : okCore π (dSplit π a b p q c).2 := by
  unfold dSplit
  by_cases t : twoF π a b ∧ ¬ inF 1 99 q = 0 ∧ ¬ inF 0 q p = 0
  · rw [if_pos t]
    obtain ⟨h0, o0, hh, ho, hho, eh, eo⟩ := two_of hok t.1
    obtain ⟨q0, hq1, hq2, eq⟩ := inF_nat1 (n := 99) (by omega) t.2.1
    have t3 := t.2.2
    rw [eq] at t3
    obtain ⟨p0, hp1, ep⟩ := inF_nat (n := q0) (by omega) t3
    have h8 := hok.2.1
    rw [eh, eo, nI_clamp (by omega), nI_clamp (by omega), ep, eq]
    exact h.push (h.1.moved hok (by omega) (by omega) hho hp1 hq1 hq2)
  · rw [if_neg t]
    exact h
theorem okCore.spoon {π : qPl} {c : qCo} (h : okCore π c) (hok : okPl π) (n : Int32) : okCore π (dSpoon n c).2 := by
  unfold dSpoon
  by_cases t : inF 1 (allF c.1) n = 0
  · rw [if_pos t]
    exact h
  · rw [if_neg t]
    obtain ⟨A, eA, hA1, hA2⟩ := h.1.all hok
    have hb := hok.2.2.2.2.1
    rw [eA] at t
    obtain ⟨k, hk1, hk2, en⟩ := inF_nat1 (n := A) (by omega) t
    rw [en, nI_clamp (by omega)]
    exact h.push (h.1.spoon hok (by omega) (by omega))
theorem okCore.undo {π : qPl} {c : qCo} (h : okCore π c) : okCore π (dUndo c).2 := by
  unfold dUndo
  by_cases t : c.2.1 = 0
  · rw [if_pos t]
    exact h
  · rw [if_neg t]
    exact ⟨h.2 0 (by omega), fun i hi => h.2 (i + 1) (by have : i < c.2.1 - 1 := hi; omega)⟩
theorem okCore.restore {π : qPl} {c : qCo} {η : qHd} (h : okCore π c) (hh : ∀ s, s < 3 → η.1 s = 1 → okSea π (η.2 s)) (h01 : ∀ s, s < 3 → η.1 s = 0 ∨ η.1 s = 1) (s : Int32) : okCore π (dRestore s c η).2 := by
  unfold dRestore
  by_cases t : isF 3 s = 0 ∨ η.1 s.toNatClampNeg = 0
  · rw [if_pos t]
    exact h
  · rw [if_neg t]
    obtain ⟨k, hk, ek⟩ := isF_of (n := 3) (by omega) (fun z => t (Or.inl z))
    rw [ek, nI_clamp (by omega)] at t ⊢
    exact ⟨hh k hk ((h01 k hk).resolve_left (fun z => t (Or.inr z))), fun i hi => absurd hi (Nat.not_lt_zero _)⟩
theorem ok_hold {π : qPl} {ρ : Nat → Int32} {η : qHd} (hρ : okSea π ρ) (hh : ∀ s, s < 3 → η.1 s = 1 → okSea π (η.2 s)) (s : Int32) : ∀ i, i < 3 → (dHold s ρ η).2.1 i = 1 → okSea π ((dHold s ρ η).2.2 i) := by
  intro i hi h1
  unfold dHold at h1 ⊢
  by_cases t : isF 3 s = 0
  · rw [if_pos t] at h1 ⊢
    exact hh i hi h1
  · rw [if_neg t] at h1 ⊢
    have h1' : set1 s.toNatClampNeg 1 η.1 i = 1 := h1
    show okSea π (setF s.toNatClampNeg ρ η.2 i)
    unfold set1 at h1'
    unfold setF
    by_cases e : i = s.toNatClampNeg
    · rw [if_pos e]
      exact hρ
    · rw [if_neg e] at h1' ⊢
      exact hh i hi h1'
theorem okTp.feed {a b c d e : Int32} {t : qTp} (h : okTp t) : okTp (dFeed a b c d e t).2 := by
  have one : ∀ (w : Int32) (u : qTp), okTp u → u.1 + 4 ≤ 2000 → okTp (putF w u) := fun w u hu h4 => by
    refine ⟨h4, fun k hk => ?_⟩
    have hk2 : k < u.1 + 4 := hk
    have hb : ∀ j, byF w j < 256 := fun j => Nat.mod_lt _ (by omega)
    show (if k = u.1 then byF w 24 else if k = u.1 + 1 then byF w 16 else if k = u.1 + 2 then byF w 8 else if k = u.1 + 3 then byF w 0 else u.2 k) < 256
    by_cases c0 : k = u.1
    · rw [if_pos c0]; exact hb _
    · rw [if_neg c0]
      by_cases c1 : k = u.1 + 1
      · rw [if_pos c1]; exact hb _
      · rw [if_neg c1]
        by_cases c2 : k = u.1 + 2
        · rw [if_pos c2]; exact hb _
        · rw [if_neg c2]
          by_cases c3 : k = u.1 + 3
          · rw [if_pos c3]; exact hb _
          · rw [if_neg c3]
            exact hu.2 k (by omega)
  unfold dFeed
  by_cases hlt : 1980 < t.1
  · rw [if_pos hlt]; exact h
  · rw [if_neg hlt]
    have h1 := one a t h (by omega)
    have h2 := one b _ h1 (by show t.1 + 4 + 4 ≤ 2000; omega)
    have h3 := one c _ h2 (by show t.1 + 4 + 4 + 4 ≤ 2000; omega)
    have h4 := one d _ h3 (by show t.1 + 4 + 4 + 4 + 4 ≤ 2000; omega)
    exact one e _ h4 (by show t.1 + 4 + 4 + 4 + 4 + 4 ≤ 2000; omega)
theorem okTp.back {n : Int32} {t : qTp} (h : okTp t) : okTp (dBack n t).2 := by
  unfold dBack
  by_cases c : n < 0 ∨ nI t.1 < n
  · rw [if_pos c]; exact h
  · rw [if_neg c]
    have h1 := h.1
    exact ⟨(by show t.1 - n.toNatClampNeg ≤ 2000; omega), fun k hk => h.2 k (by have : k < t.1 - n.toNatClampNeg := hk; omega)⟩
