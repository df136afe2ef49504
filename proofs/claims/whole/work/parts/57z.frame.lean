/-! the reference's plan stays -/
theorem qPlanM.frS {S : Nat → Nat → Prop} {M M' : qM} {L : Nat} {π : qPl} (h : qPlanM M L π) (hf : qFr S M M') (hd : ∀ b j, S b j → (b < 291 ∨ 317 < b) ∧ (b = 280 → j ≠ 18)) : qPlanM M' L π := by
  have e : ∀ c j, ((291 ≤ c ∧ c ≤ 317) ∨ (c = 280 ∧ j = 18)) → M'.1 c j = M.1 c j := fun c j hc => hf.1 c j (fun z => by have := hd c j z; omega)
  have er : ∀ c, 291 ≤ c ∧ c ≤ 317 → M'.1 c = M.1 c := fun c hc => funext fun j => e c j (by omega)
  have eC : ∀ v i j, cellsP M' v i j = cellsP M v i j := fun v i j => by unfold cellsP; rw [er 316 (by omega), er 317 (by omega)]
  have eB : ∀ v n b, runB M' v n b = runB M v n b := by
    intro v n
    induction n with
    | zero => intro b; rfl
    | succ n ih =>
      intro b
      rw [runB_s, runB_s]
      simp only [brAt, eC, ih, er 311 (by omega), er 312 (by omega), er 313 (by omega), er 314 (by omega), er 315 (by omega)]
  have eL : ∀ i f, qLawM M i f → qLawM M' i f := fun i f ⟨x, y, h1, h2, h3, h4, h5⟩ => ⟨x, y, by rw [er 309 (by omega)]; exact h1, by rw [er 310 (by omega)]; exact h2, h3, h4, fun v => by rw [eB]; exact h5 v⟩
  obtain ⟨⟨a1, a2⟩, ⟨b1, b2, b3, b4, b5, b6⟩, c1, c2, c3, d1, d2⟩ := h
  refine ⟨⟨a1, by rw [e _ _ (by omega)]; exact a2⟩, ⟨by rw [e _ _ (by omega)]; exact b1, by rw [e _ _ (by omega)]; exact b2, by rw [e _ _ (by omega)]; exact b3, by rw [e _ _ (by omega)]; exact b4, by rw [e _ _ (by omega)]; exact b5, by rw [e _ _ (by omega)]; exact b6⟩, fun c i hc hi => by rw [e _ _ (by omega)]; exact c1 c i hc hi, fun c i hc hi => by rw [e _ _ (by omega)]; exact c2 c i hc hi, fun c i hc hi => by rw [e _ _ (by omega)]; exact c3 c i hc hi, fun k hk => eL _ _ (d1 k hk), ?_⟩
  rcases d2 with ⟨x, y, z⟩ | x
  · exact Or.inl ⟨by rw [e _ _ (by omega)]; exact x, by rw [e _ _ (by omega)]; exact y, z⟩
  · exact Or.inr (eL _ _ x)
