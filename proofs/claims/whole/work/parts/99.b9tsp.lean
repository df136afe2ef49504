/-! the class's plan: sends, dry, claims -/
theorem qPY.law {M M' : qM} {p : Nat} {P : qPn} {sz sz2 : Nat} (h : qPY M p P sz) (hp : 242 ≤ p) (hf : qFr (SXe p sz) M M') (hz : M'.1 (p + 10) 6 = nI sz2) (hs : sz ≤ sz2) : qPY M' p P sz2 := by
  obtain ⟨⟨h1, h2, h3, h4⟩, h5, ⟨h6, h7⟩, h8, h9, h10, h11⟩ := h
  have ea : ∀ b j, p ≤ b → b ≠ p + 10 → b ≠ p + 10 + 1 → M'.1 b j = M.1 b j := fun b j h1 h2 h3 => hf.1 _ _ (by unfold SXe SXa SEm; omega)
  refine ⟨⟨(ea _ _ (by omega) (by omega) (by omega)).trans h1, (ea _ _ (by omega) (by omega) (by omega)).trans h2, (ea _ _ (by omega) (by omega) (by omega)).trans h3, (ea _ _ (by omega) (by omega) (by omega)).trans h4⟩, fun c i hc hi => (ea _ _ (by omega) (by omega) (by omega)).trans (h5 c i hc hi), ⟨hz, fun k hk => ?_⟩, (ea _ _ (by omega) (by omega) (by omega)).trans h8, (ea _ _ (by omega) (by omega) (by omega)).trans h9, fun k hk => (ea _ _ (by omega) (by omega) (by omega)).trans (h10 k hk), fun k i hk hi => ⟨(ea _ _ (by omega) (by omega) (by omega)).trans (h11 k i hk hi).1, (ea _ _ (by omega) (by omega) (by omega)).trans (h11 k i hk hi).2.1, (ea _ _ (by omega) (by omega) (by omega)).trans (h11 k i hk hi).2.2⟩⟩
  obtain ⟨pl, A, a1, a2, a3⟩ := h7 k hk
  exact ⟨pl, A, a1, (ea _ _ (by omega) (by omega) (by omega)).trans a2, (a3.fr hf (fun j hj => by unfold SXe SXa SEm; omega)).up hs⟩
theorem qPD.law {M M' : qM} {p : Nat} {P : qPn} {sz sz2 : Nat} (h : qPD M p P sz) (hp : 242 ≤ p) (hf : qFr (SXe p sz) M M') (hs : sz ≤ sz2) : qPD M' p P sz2 := by
  rcases h with ⟨h2, h3⟩ | ⟨pl, A, h2, h3, h4⟩
  · exact Or.inl ⟨h2, (hf.1 _ _ (by unfold SXe SXa SEm; omega)).trans h3⟩
  · exact Or.inr ⟨pl, A, h2, (hf.1 _ _ (by unfold SXe SXa SEm; omega)).trans h3, (h4.fr hf (fun j hj => by unfold SXe SXa SEm; omega)).up hs⟩
theorem qPX.ofSends {M : qM} {p : Nat} {P : qPn} {sz sz2 h w : Nat} {A : qAs} (hY : qPY M p P sz2) (h13 : M.1 p 13 = nI (P.1 2 + 1)) (hD : qPD M p P sz2) (hn : P.1 2 < 16) (e7 : M.1 (p + 7) (P.1 2) = nI h) (e8 : M.1 (p + 8) (P.1 2) = nI w) (e9 : M.1 (p + 9) (P.1 2) = nI sz) (hA : lwC M p sz sz2 A) : qPX M p (seP P h w A) sz2 := by
  obtain ⟨⟨h1, h2, h3, h4⟩, h5, ⟨h6, h7⟩, h8, h9, h10, h11⟩ := hY
  refine ⟨⟨⟨h1, h2, h3, h4⟩, fun c i hc hi => ?_, ⟨h6, fun k hk => ?_⟩, h8, h9, h10, h11⟩, h13, ?_⟩
  · show _ = nI (up2 (up2 P.2.1 6 (P.1 2) h) 7 (P.1 2) w c i)
    have hi2 : i < (if c < 2 then P.1 0 else if c < 6 then P.1 1 else P.1 2 + 1) := hi
    simp only [up2]
    by_cases c7 : c = 7 ∧ i = P.1 2
    · rw [if_pos c7, c7.1, c7.2]
      exact e8
    · rw [if_neg c7]
      by_cases c6 : c = 6 ∧ i = P.1 2
      · rw [if_pos c6, c6.1, c6.2]
        exact e7
      · rw [if_neg c6]
        refine h5 c i hc ?_
        unfold lnP
        by_cases d : c < 2
        · rw [if_pos d] at hi2 ⊢
          exact hi2
        · by_cases d6 : c < 6
          · rw [if_neg d, if_pos d6] at hi2 ⊢
            exact hi2
          · rw [if_neg d, if_neg d6] at hi2 ⊢
            omega
  · have hk2 : k < P.1 2 + 1 := hk
    by_cases e : k = P.1 2
    · subst e
      exact ⟨sz, A, if_pos rfl, e9, hA⟩
    · obtain ⟨pl, B, a1, a2, a3⟩ := h7 k (by omega)
      exact ⟨pl, B, (if_neg e).trans a1, a2, a3⟩
  · have e16 : (seP P h w A).2.2 16 = P.2.2 16 := if_neg (by omega)
    rcases hD with ⟨h2, h3⟩ | ⟨pl, B, h2, h3, h4⟩
    · exact Or.inl ⟨e16.trans h2, h3⟩
    · exact Or.inr ⟨pl, B, e16.trans h2, h3, h4⟩
theorem qPX.ofDry {M : qM} {p : Nat} {P : qPn} {sz sz2 : Nat} {A : qAs} (hY : qPY M p P sz2) (h13 : M.1 p 13 = nI (P.1 2)) (hn : P.1 2 ≤ 16) (e14 : M.1 p 14 = nI sz) (hA : lwC M p sz sz2 A) : qPX M p (drP P A) sz2 := by
  obtain ⟨h1, h5, ⟨h6, h7⟩, h8⟩ := hY
  refine ⟨⟨h1, h5, ⟨h6, fun k hk => ?_⟩, h8⟩, h13, Or.inr ⟨sz, A, show updF P.2.2 16 (some A) 16 = some A from if_pos rfl, e14, hA⟩⟩
  have hk2 : k < P.1 2 := hk
  obtain ⟨pl, B, a1, a2, a3⟩ := h7 k hk2
  exact ⟨pl, B, (if_neg (by omega)).trans a1, a2, a3⟩
/-- rows of a claim being read -/
theorem tmR_o {f : Nat → Nat → Nat} {n : Nat} {ts : List qTm} {b j : Nat} (h : b < 8 ∨ 11 < b ∨ (b = 8 ∧ j ≠ n) ∨ (9 ≤ b ∧ (j < 6 * n ∨ 6 * n + ts.length ≤ j))) : tmR f n ts b j = f b j := by
  unfold tmR
  rw [if_neg (by omega), if_neg (by omega), if_neg (by omega), if_neg (by omega)]
theorem tmR_8 {f : Nat → Nat → Nat} {n : Nat} {ts : List qTm} : tmR f n ts 8 n = ts.length := if_pos ⟨rfl, rfl⟩
theorem tmR_9 {f : Nat → Nat → Nat} {n i : Nat} {ts : List qTm} (h : i < ts.length) : tmR f n ts 9 (6 * n + i) = (ts.getD i (0, 0, 0)).1 ∧ tmR f n ts 10 (6 * n + i) = (ts.getD i (0, 0, 0)).2.1 ∧ tmR f n ts 11 (6 * n + i) = (ts.getD i (0, 0, 0)).2.2 := by
  have e : 6 * n + i - 6 * n = i := by omega
  refine ⟨?_, ?_, ?_⟩
  · unfold tmR
    rw [if_neg (by omega), if_pos ⟨rfl, by omega, by omega⟩, e]
  · unfold tmR
    rw [if_neg (by omega), if_neg (by omega), if_pos ⟨rfl, by omega, by omega⟩, e]
  · unfold tmR
    rw [if_neg (by omega), if_neg (by omega), if_neg (by omega), if_pos ⟨rfl, by omega, by omega⟩, e]
theorem tmR_sum {f : Nat → Nat → Nat} {n : Nat} {ts : List qTm} : (∀ k, k ≤ n → sumN (tmR f n ts 8) k = sumN (f 8) k) ∧ sumN (tmR f n ts 8) (n + 1) = sumN (f 8) n + ts.length := by
  have h1 : ∀ k, k ≤ n → sumN (tmR f n ts 8) k = sumN (f 8) k := fun k hk => sumN_congr k (fun i hi => tmR_o (Or.inr (Or.inr (Or.inl ⟨rfl, by omega⟩))))
  refine ⟨h1, ?_⟩
  show sumN (tmR f n ts 8) n + tmR f n ts 8 n = _
  rw [h1 n (Nat.le_refl _), tmR_8]
/-- what is left of a plan where the claims' cells change -/
theorem qPX.will {M M' : qM} {p : Nat} {P P' : qPn} {sz : Nat} (h : qPX M p P sz) (hf : qFr (fun b _ => p + 14 ≤ b ∧ b ≤ p + 18) M M') (hc : ∀ i, i ≠ 3 → P'.1 i = P.1 i) (hr : ∀ c i, c < 8 → P'.2.1 c i = P.2.1 c i) (hl : P'.2.2 = P.2.2)
    (h8 : M'.1 (p + 14) 5 = nI (P'.1 3)) (h9 : M'.1 (p + 14) 4 = nI (sumN (P'.2.1 8) (P'.1 3))) (h10 : ∀ k, k < P'.1 3 → M'.1 (p + 18) k = nI (sumN (P'.2.1 8) (k + 1))) (h11 : ∀ k i, k < P'.1 3 → i < P'.2.1 8 k → M'.1 (p + 15) (sumN (P'.2.1 8) k + i) = nI (P'.2.1 9 (6 * k + i)) ∧ M'.1 (p + 16) (sumN (P'.2.1 8) k + i) = nI (P'.2.1 10 (6 * k + i)) ∧ M'.1 (p + 17) (sumN (P'.2.1 8) k + i) = nI (P'.2.1 11 (6 * k + i))) : qPX M' p P' sz := by
  obtain ⟨⟨⟨a1, a2, a3, a4⟩, a5, ⟨a6, a7⟩, -⟩, a12, a13⟩ := h
  have ea : ∀ b j, b < p + 14 → M'.1 b j = M.1 b j := fun b j hb => hf.1 _ _ (fun z => by omega)
  have el : ∀ c, lnP P' c = lnP P c := fun c => by
    unfold lnP
    rw [hc 0 (by decide), hc 1 (by decide), hc 2 (by decide)]
  refine ⟨⟨⟨?_, ?_, ?_, ?_⟩, fun c i hc2 hi => ?_, ⟨(ea _ _ (by omega)).trans a6, fun k hk => ?_⟩, h8, h9, h10, h11⟩, ?_, ?_⟩
  · rw [ea _ _ (by omega), a1, hc 0 (by decide)]
  · rw [ea _ _ (by omega), a2, hc 1 (by decide)]
  · rw [ea _ _ (by omega), a3, hc 4 (by decide)]
  · rw [ea _ _ (by omega), a4, hc 5 (by decide)]
  · rw [ea _ _ (by omega), hr c i hc2]
    exact a5 c i hc2 (by rw [el] at hi; exact hi)
  · rw [hc 2 (by decide)] at hk
    obtain ⟨pl, A, b1, b2, b3⟩ := a7 k hk
    exact ⟨pl, A, by rw [hl]; exact b1, (ea _ _ (by omega)).trans b2, b3.fr hf (fun j _ z => by omega)⟩
  · rw [ea _ _ (by omega), a12, hc 2 (by decide)]
  · have h := a13.fr hf (fun z => by omega) (fun j _ z => by omega)
    unfold qPD at h ⊢
    rw [hl]
    exact h
theorem qPX.opn {M : qM} {p : Nat} {P : qPn} {sz : Nat} (h : qPX M p P sz) (hk6 : ∀ k, k < P.1 3 → P.2.1 8 k ≤ 6) : qPX (wI (wI M (p + 18) (P.1 3) (nI (sumN (P.2.1 8) (P.1 3)))) (p + 14) 5 (nI (P.1 3 + 1))) p (clP P []) sz := by
  obtain ⟨h8, h9, h10, h11⟩ := h.1.2.2.2
  obtain ⟨t1, t2⟩ := tmR_sum (f := P.2.1) (n := P.1 3) (ts := [])
  have e3 : (clP P []).1 3 = P.1 3 + 1 := show updF P.1 3 (P.1 3 + 1) 3 = _ from if_pos rfl
  refine h.will ((qFr.rf.wI (by omega)).wI (by omega)) (fun i hi => if_neg hi) (fun c i hc => tmR_o (Or.inl hc)) rfl ?_ ?_ (fun k hk => ?_) (fun k i hk hi => ?_)
  · rw [wI_s, e3]
  · rw [wI_k (by decide), wI_a (by omega), h9, e3]
    show _ = nI (sumN (tmR P.2.1 (P.1 3) [] 8) (P.1 3 + 1))
    rw [t2]
    rfl
  · rw [e3] at hk
    show _ = nI (sumN (tmR P.2.1 (P.1 3) [] 8) (k + 1))
    rw [wI_a (by omega)]
    by_cases e : k = P.1 3
    · rw [e, t2, wI_s]
      rfl
    · rw [wI_k e, h10 k (by omega), t1 (k + 1) (by omega)]
  · rw [e3] at hk
    have hi2 : i < tmR P.2.1 (P.1 3) [] 8 k := hi
    by_cases e : k = P.1 3
    · rw [e, tmR_8] at hi2
      exact absurd hi2 (Nat.not_lt_zero _)
    · rw [tmR_o (Or.inr (Or.inr (Or.inl ⟨rfl, e⟩)))] at hi2
      have h6 := hk6 k (by omega)
      show _ = nI (tmR P.2.1 (P.1 3) [] 9 (6 * k + i)) ∧ _ = nI (tmR P.2.1 (P.1 3) [] 10 (6 * k + i)) ∧ _ = nI (tmR P.2.1 (P.1 3) [] 11 (6 * k + i))
      have es : sumN ((clP P []).2.1 8) k = sumN (P.2.1 8) k := t1 k (by omega)
      rw [es, tmR_o (Or.inr (Or.inr (Or.inr ⟨by omega, by omega⟩))), tmR_o (Or.inr (Or.inr (Or.inr ⟨by omega, by omega⟩))), tmR_o (Or.inr (Or.inr (Or.inr ⟨by omega, by omega⟩))), wI_a (by omega), wI_a (by omega), wI_a (by omega), wI_a (by omega), wI_a (by omega), wI_a (by omega)]
      exact h11 k i (by omega) hi2
def adW (M : qM) (p tm nc : Nat) (x y z : Int32) : qM := wI (wI (wI (wI (wI M (p + 15) tm x) (p + 16) tm y) (p + 17) tm z) (p + 14) 4 (nI (tm + 1))) (p + 18) nc (nI (tm + 1))
theorem adW_r {M : qM} {p tm nc : Nat} {x y z : Int32} : (∀ j, (adW M p tm nc x y z).1 (p + 15) j = if j = tm then x else M.1 (p + 15) j) ∧ (∀ j, (adW M p tm nc x y z).1 (p + 16) j = if j = tm then y else M.1 (p + 16) j) ∧ (∀ j, (adW M p tm nc x y z).1 (p + 17) j = if j = tm then z else M.1 (p + 17) j) ∧ (∀ j, (adW M p tm nc x y z).1 (p + 18) j = if j = nc then nI (tm + 1) else M.1 (p + 18) j) ∧ (adW M p tm nc x y z).1 (p + 14) 4 = nI (tm + 1) ∧ (adW M p tm nc x y z).1 (p + 14) 5 = M.1 (p + 14) 5 := by
  unfold adW
  refine ⟨fun j => ?_, fun j => ?_, fun j => ?_, fun j => ?_, ?_, ?_⟩ <;> simp [wI_1]
theorem qPX.term {M : qM} {p : Nat} {P : qPn} {sz : Nat} {ts : List qTm} {x y z : Nat} (h : qPX M p (clP P ts) sz) (hk6 : ∀ k, k < P.1 3 → P.2.1 8 k ≤ 6) : qPX (adW M p (sumN (P.2.1 8) (P.1 3) + ts.length) (P.1 3) (nI x) (nI y) (nI z)) p (clP P (ts ++ [(x, y, z)])) sz := by
  obtain ⟨h8, h9, h10, h11⟩ := h.1.2.2.2
  obtain ⟨t1, t2⟩ := tmR_sum (f := P.2.1) (n := P.1 3) (ts := ts)
  obtain ⟨u1, u2⟩ := tmR_sum (f := P.2.1) (n := P.1 3) (ts := ts ++ [(x, y, z)])
  obtain ⟨w1, w2, w3, w4, w5, w6⟩ := adW_r (M := M) (p := p) (tm := sumN (P.2.1 8) (P.1 3) + ts.length) (nc := P.1 3) (x := nI x) (y := nI y) (z := nI z)
  have e3 : ∀ ts, (clP P ts).1 3 = P.1 3 + 1 := fun ts => show updF P.1 3 (P.1 3 + 1) 3 = _ from if_pos rfl
  have ln : (ts ++ [(x, y, z)]).length = ts.length + 1 := by rw [List.length_append]; rfl
  have el : ∀ k, k < P.1 3 → sumN (P.2.1 8) (k + 1) ≤ sumN (P.2.1 8) (P.1 3) := fun k hk => sumN_mono (P.2.1 8) (by omega)
  have hf : qFr (fun b _ => p + 14 ≤ b ∧ b ≤ p + 18) M (adW M p (sumN (P.2.1 8) (P.1 3) + ts.length) (P.1 3) (nI x) (nI y) (nI z)) := ((((qFr.rf.wI (by omega)).wI (by omega)).wI (by omega)).wI (by omega)).wI (by omega)
  refine h.will hf (fun i hi => rfl) (fun c i hc => (tmR_o (Or.inl hc)).trans (tmR_o (Or.inl hc)).symm) rfl ?_ ?_ (fun k hk => ?_) (fun k i hk hi => ?_)
  · rw [w6, h8]
    rfl
  · rw [w5, e3]
    show _ = nI (sumN (tmR P.2.1 (P.1 3) (ts ++ [(x, y, z)]) 8) (P.1 3 + 1))
    rw [u2, ln]
    rfl
  · rw [e3] at hk
    show _ = nI (sumN (tmR P.2.1 (P.1 3) (ts ++ [(x, y, z)]) 8) (k + 1))
    rw [w4]
    by_cases e : k = P.1 3
    · rw [if_pos e, e, u2, ln]
      rfl
    · rw [if_neg e, h10 k (by rw [e3]; omega), u1 (k + 1) (by omega)]
      exact congrArg nI (t1 (k + 1) (by omega))
  · rw [e3] at hk
    have hi2 : i < tmR P.2.1 (P.1 3) (ts ++ [(x, y, z)]) 8 k := hi
    show _ = nI (tmR P.2.1 (P.1 3) (ts ++ [(x, y, z)]) 9 (6 * k + i)) ∧ _ = nI (tmR P.2.1 (P.1 3) (ts ++ [(x, y, z)]) 10 (6 * k + i)) ∧ _ = nI (tmR P.2.1 (P.1 3) (ts ++ [(x, y, z)]) 11 (6 * k + i))
    have es : sumN ((clP P (ts ++ [(x, y, z)])).2.1 8) k = sumN (P.2.1 8) k := u1 k (by omega)
    have es2 : sumN ((clP P ts).2.1 8) k = sumN (P.2.1 8) k := t1 k (by omega)
    rw [es, w1, w2, w3]
    by_cases e : k = P.1 3
    · subst e
      rw [tmR_8, ln] at hi2
      obtain ⟨v1, v2, v3⟩ := tmR_9 (f := P.2.1) (n := P.1 3) (i := i) (ts := ts ++ [(x, y, z)]) (by rw [ln]; exact hi2)
      rw [v1, v2, v3]
      by_cases ei : i = ts.length
      · subst ei
        rw [if_pos rfl, if_pos rfl, if_pos rfl]
        have eg : (ts ++ [(x, y, z)]).getD ts.length (0, 0, 0) = (x, y, z) := by simp
        rw [eg]
        exact ⟨rfl, rfl, rfl⟩
      · rw [if_neg (by omega), if_neg (by omega), if_neg (by omega)]
        have hlt : i < ts.length := by omega
        have eg : (ts ++ [(x, y, z)]).getD i (0, 0, 0) = ts.getD i (0, 0, 0) := by
          rw [List.getD_eq_getElem?_getD, List.getElem?_append_left hlt, ← List.getD_eq_getElem?_getD]
        rw [eg]
        have g := h11 (P.1 3) i (by rw [e3]; omega) (by show i < tmR P.2.1 (P.1 3) ts 8 (P.1 3); rw [tmR_8]; exact hlt)
        obtain ⟨v4, v5, v6⟩ := tmR_9 (f := P.2.1) (n := P.1 3) (i := i) (ts := ts) hlt
        rw [es2] at g
        have g' : M.1 (p + 15) (sumN (P.2.1 8) (P.1 3) + i) = nI (tmR P.2.1 (P.1 3) ts 9 (6 * P.1 3 + i)) ∧ M.1 (p + 16) (sumN (P.2.1 8) (P.1 3) + i) = nI (tmR P.2.1 (P.1 3) ts 10 (6 * P.1 3 + i)) ∧ M.1 (p + 17) (sumN (P.2.1 8) (P.1 3) + i) = nI (tmR P.2.1 (P.1 3) ts 11 (6 * P.1 3 + i)) := g
        rw [v4, v5, v6] at g'
        exact g'
    · have ek : tmR P.2.1 (P.1 3) (ts ++ [(x, y, z)]) 8 k = P.2.1 8 k := tmR_o (Or.inr (Or.inr (Or.inl ⟨rfl, e⟩)))
      rw [ek] at hi2
      have h6 := hk6 k (by omega)
      have hlt := el k (by omega)
      have hs : sumN (P.2.1 8) (k + 1) = sumN (P.2.1 8) k + P.2.1 8 k := rfl
      rw [if_neg (by omega), if_neg (by omega), if_neg (by omega), tmR_o (Or.inr (Or.inr (Or.inr ⟨by omega, by omega⟩))), tmR_o (Or.inr (Or.inr (Or.inr ⟨by omega, by omega⟩))), tmR_o (Or.inr (Or.inr (Or.inr ⟨by omega, by omega⟩)))]
      have g := h11 k i (by rw [e3]; omega) (by show i < tmR P.2.1 (P.1 3) ts 8 k; rw [tmR_o (Or.inr (Or.inr (Or.inl ⟨rfl, e⟩)))]; exact hi2)
      rw [es2] at g
      have g' : M.1 (p + 15) (sumN (P.2.1 8) k + i) = nI (tmR P.2.1 (P.1 3) ts 9 (6 * k + i)) ∧ M.1 (p + 16) (sumN (P.2.1 8) k + i) = nI (tmR P.2.1 (P.1 3) ts 10 (6 * k + i)) ∧ M.1 (p + 17) (sumN (P.2.1 8) k + i) = nI (tmR P.2.1 (P.1 3) ts 11 (6 * k + i)) := g
      rw [tmR_o (Or.inr (Or.inr (Or.inr ⟨by omega, by omega⟩))), tmR_o (Or.inr (Or.inr (Or.inr ⟨by omega, by omega⟩))), tmR_o (Or.inr (Or.inr (Or.inr ⟨by omega, by omega⟩)))] at g'
      exact g'
