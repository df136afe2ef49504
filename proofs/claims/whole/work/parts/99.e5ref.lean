/-! the reference: its plan behind a reading -/
theorem qLwM.cg {R : Nat → Nat → Prop} {M M' : qM} (hf : ∀ b j, R b j → M'.1 b j = M.1 b j) {last : List Int32} : ∀ (bs : List qBr) (b o : Nat), qLwM M b o bs last → (∀ c i, 311 ≤ c → c ≤ 315 → b ≤ i → i ≤ b + bs.length → R c i) → (∀ j, o ≤ j → j < o + lwT bs last → R 316 j ∧ R 317 j) → qLwM M' b o bs last
  | [], b, o, h, h1, h2 => by
    obtain ⟨⟨a1, a2, a3⟩, a4⟩ := h
    have e : lwT [] last = last.length := rfl
    rw [e] at h2
    refine ⟨⟨(hf _ _ (h1 311 b (by decide) (by decide) (Nat.le_refl _) (Nat.le_refl _))).trans a1, (hf _ _ (h1 314 b (by decide) (by decide) (Nat.le_refl _) (Nat.le_refl _))).trans a2, (hf _ _ (h1 315 b (by decide) (by decide) (Nat.le_refl _) (Nat.le_refl _))).trans a3⟩, fun i hi => ?_⟩
    rw [hf _ _ (h2 (o + i) (by omega) (by omega)).1, hf _ _ (h2 (o + i) (by omega) (by omega)).2]
    exact a4 i hi
  | x :: bs, b, o, h, h1, h2 => by
    obtain ⟨⟨⟨a1, a2, a3, a4, a5⟩, c1, c2, c3⟩, h3⟩ := h
    rw [List.length_cons] at h1
    have e : lwT (x :: bs) last = brT x + lwT bs last := rfl
    have ht : brT x = x.1.length + x.2.1.length + x.2.2.length := rfl
    rw [e] at h2
    have cr : ∀ {p : Nat} {es : List Int32}, o ≤ p → p + es.length ≤ o + brT x → cellR (M.1 316) (M.1 317) p es → cellR (M'.1 316) (M'.1 317) p es := fun {p es} q1 q2 hc i hi => by
      rw [hf _ _ (h2 (p + i) (by omega) (by omega)).1, hf _ _ (h2 (p + i) (by omega) (by omega)).2]
      exact hc i hi
    exact ⟨⟨⟨(hf _ _ (h1 311 b (by decide) (by decide) (by omega) (by omega))).trans a1, (hf _ _ (h1 312 b (by decide) (by decide) (by omega) (by omega))).trans a2, (hf _ _ (h1 313 b (by decide) (by decide) (by omega) (by omega))).trans a3, (hf _ _ (h1 314 b (by decide) (by decide) (by omega) (by omega))).trans a4, (hf _ _ (h1 315 b (by decide) (by decide) (by omega) (by omega))).trans a5⟩, cr (by omega) (by omega) c1, cr (by omega) (by omega) c2, cr (by omega) (by omega) c3⟩, qLwM.cg hf bs (b + 1) (o + brT x) h3 (fun c i q1 q2 q3 q4 => h1 c i q1 q2 (by omega) (by omega)) (fun j q1 q2 => h2 j (by omega) (by omega))⟩
theorem lwY.hv {M M2 : qM} {S k ck bk : Nat} {A : qAs} (h : lwY M S k ck bk A) (hw : (∀ br, br ∈ A.1 → wfB br) ∧ wfE A.2) (hS : S < 2) (hk : k ≤ 16) (hc : ck ≤ 400) (hb : bk ≤ 100) (he : ∀ b j, hfQ S b j → M2.1 b j = M.1 b j) : qLawM M2 (17 * S + k) (fun v => laV v A.1 A.2) := by
  obtain ⟨b, o, a1, a2, a3, a4, a5, a6, a7⟩ := h
  refine ⟨b, b + A.1.length + 1, (he _ _ (Or.inl ⟨by decide, by decide, by omega, by omega⟩)).trans a1, (he _ _ (Or.inl ⟨by decide, by decide, by omega, by omega⟩)).trans a2, by omega, by omega, fun v => ?_⟩
  exact runB_law hw.2 A.1 (b + A.1.length + 1 - b) b o hw.1 (qLwM.cg he A.1 b o a3 (fun c i q1 q2 q3 q4 => Or.inr (Or.inl ⟨q1, q2, by omega, by omega⟩)) (fun j q1 q2 => ⟨Or.inr (Or.inr ⟨Or.inl rfl, by omega, by omega⟩), Or.inr (Or.inr ⟨Or.inr rfl, by omega, by omega⟩)⟩)) (by omega) (by omega) (by omega)
theorem lsY.hv {M : qM} {S : Nat} {P : qPn} {ck bk : Nat} (h : lsY M S P ck bk) (hL : okLw P) (hn : P.1 2 ≤ 16) (hS : S < 2) (hc : ck ≤ 400) (hb : bk ≤ 100) : hvM M S (piQ P) := by
  intro M2 he
  have hp : ∀ k A, P.2.2 k = some A → (piQ P).2.2 k = fun v => laV v A.1 A.2 := fun k A b1 => by
    unfold piQ
    dsimp only
    rw [b1]
  refine ⟨fun k hk => ?_, ?_⟩
  · have hk2 : k < P.1 2 := hk
    obtain ⟨A, a1, a2⟩ := h.1 k hk2
    rw [hp k A a1]
    exact a2.hv (hL.1 k A a1).2 hS (by omega) hc hb he
  · rcases h.2 with ⟨a1, a2, a3⟩ | ⟨A, a1, a2⟩
    · refine Or.inl ⟨(he _ _ (Or.inl ⟨by decide, by decide, by omega, by omega⟩)).trans a2, (he _ _ (Or.inl ⟨by decide, by decide, by omega, by omega⟩)).trans a3, fun v => ?_⟩
      unfold piQ
      dsimp only
      rw [a1]
    · rw [hp 16 A a1]
      exact Or.inr (a2.hv (hL.1 16 A a1).2 hS (by decide) hc hb he)
theorem rdY.plan {S : Nat} {T : qTk} {v : qRs} {M M' : qM} (h : rdY S T v M) (hv : okRs v) (h0 : v.2.1.1 = 0) (he : ∀ b j, 291 ≤ b → b ≤ 317 → M'.1 b j = M.1 b j) (e18 : M'.1 280 18 = nI S) : qPlanM M' S (piQ v.2.2.2) ∧ qClM M' S (piQ v.2.2.2) ∧ hvM M' S (piQ v.2.2.2) := by
  obtain ⟨a, s, N, P⟩ := v
  obtain ⟨hK, -, ⟨ct0, ct1, ct2, ct3⟩, hdt, ck, bk, ⟨hck, hbk, -, -⟩, hls⟩ := h
  obtain ⟨⟨ha, -⟩, ⟨c0, c1, c2, c3, c4⟩, -, hL, -⟩ := hv
  dsimp only at hK ct0 ct1 ct2 ct3 hdt hck hbk hls ha c0 c1 c2 c3 c4 hL h0 ⊢
  have hS2 := hK.1.2.2.1
  obtain ⟨⟨d1, d2⟩, d3, d4, d5, d6⟩ := hdt h0
  have v0 : hvM M S (piQ P) := hls.hv hL c2 hS2 (by omega) (by omega)
  have v1 : hvM M' S (piQ P) := v0.ag (fun b j z => he b j (by have := hfQ_b z; omega) (by have := hfQ_b z; omega))
  obtain ⟨l1, l2⟩ := v1 M' (fun _ _ _ => rfl)
  refine ⟨⟨⟨hS2, e18⟩, ⟨(he _ _ (by decide) (by decide)).trans ct0, (he _ _ (by decide) (by decide)).trans ct1, (he _ _ (by decide) (by decide)).trans ct2, (he _ _ (by decide) (by decide)).trans ct3, (he _ _ (by decide) (by decide)).trans d1, (he _ _ (by decide) (by decide)).trans d2⟩, fun c i hc hi => (he _ _ (by omega) (by omega)).trans (d3 c i hc hi), fun c i hc hi => (he _ _ (by omega) (by omega)).trans (d4 c i hc hi), fun c i hc hi => (he _ _ (by omega) (by omega)).trans (d5 c i hc hi), l1, l2⟩, fun k hk => ⟨(he _ _ (by decide) (by decide)).trans (d6 k hk).1, fun i hi => ?_⟩, v1⟩
  obtain ⟨z1, z2, z3⟩ := (d6 k hk).2 i hi
  exact ⟨(he _ _ (by decide) (by decide)).trans z1, (he _ _ (by decide) (by decide)).trans z2, (he _ _ (by decide) (by decide)).trans z3⟩
def SRd (S : Nat) : Nat → Nat → Prop := fun b j => SY S b j ∨ (b = 280 ∧ (j = 2 ∨ j = 4 ∨ j = 10 ∨ j = 17 ∨ j = 19)) ∨ (282 ≤ b ∧ b ≤ 286)
theorem SRd_a {S b j : Nat} (z : SRd S b j) : 280 ≤ b ∧ b ≤ 318 ∧ b ≠ 281 ∧ b ≠ 287 ∧ (b = 280 → j ≤ 54 ∧ j ≠ 18) := by
  unfold SRd SY at z
  omega
theorem SRd_p {S L b j : Nat} (h : S = 1 - L) (h2 : L < 2) (z : SRd S b j) : ((b = 291 ∨ b = 294 ∨ b = 299 ∨ b = 302 ∨ b = 307 ∨ b = 308) → j ≠ L) ∧ ((b = 292 ∨ b = 293) → j < 5 * L ∨ 5 * L + 5 ≤ j) ∧ (295 ≤ b → b ≤ 298 → j < 8 * L ∨ 8 * L + 8 ≤ j) ∧ ((b = 300 ∨ b = 301) → j < 16 * L ∨ 16 * L + 16 ≤ j) := by
  unfold SRd SY at z
  omega
theorem SRd_q {S L b j : Nat} (h : S = 1 - L) (h2 : L < 2) (z : SRd S b j) : (b = 303 → j < 6 * L ∨ 6 * L + 6 ≤ j) ∧ (304 ≤ b → b ≤ 306 → j < 36 * L ∨ 36 * L + 36 ≤ j) ∧ ((b = 309 ∨ b = 310) → j < 17 * L ∨ 17 * L + 17 ≤ j) ∧ (311 ≤ b → b ≤ 315 → j < 130 * L ∨ 130 * L + 130 ≤ j) ∧ ((b = 316 ∨ b = 317) → j < 420 * L ∨ 420 * L + 420 ≤ j) := by
  unfold SRd SY at z
  omega
theorem qDs.rd {M M' : qM} {L S : Nat} {t : qTp} {pl pl' : Int32} {π : qPl} {c : qCo} {η : qHd} {τ : qTo} (h : qDs M L (t, pl, π, c, η, τ)) (okp : okPl π) (okc : okCl π) (hS : S = 1 - L) (hf : qFr (SRd S) M M') (e2 : M'.1 280 2 = 0) (e17 : M'.1 280 17 = pl') : qDs M' L ((0, t.2), pl', π, c, η, τ) := by
  obtain ⟨⟨⟨⟨hL, p18⟩, ⟨p0, p1, p2, p3, p4, p5⟩, p6, p7, p8, p9, p10⟩, hCl, -, hky, hv⟩, -, hc, hh, ht⟩ := h
  dsimp only at p0 p1 p2 p3 p4 p5 p6 p7 p8 hCl hky hv hc hh ht
  obtain ⟨o0, o1, o2, o3, -⟩ := id okp
  have e : ∀ b j, 318 < b → M'.1 b j = M.1 b j := fun b j hb => hf.1 _ _ (fun z => by have := SRd_a z; omega)
  have e0 : ∀ j, 54 < j ∨ j = 18 → M'.1 280 j = M.1 280 j := fun j hj => hf.1 _ _ (fun z => by have := SRd_a z; omega)
  have eh : ∀ b j, hfQ L b j → M'.1 b j = M.1 b j := fun b j z => hf.1 _ _ (fun q => by have := SRd_q hS hL q; unfold hfQ at z; omega)
  have eL : ∀ b, (b = 291 ∨ b = 294 ∨ b = 299 ∨ b = 302 ∨ b = 307 ∨ b = 308) → M'.1 b L = M.1 b L := fun b hb => hf.1 _ _ (fun z => (SRd_p hS hL z).1 hb rfl)
  have v1 := hv.ag eh
  obtain ⟨l1, l2⟩ := v1 M' (fun _ _ _ => rfl)
  refine ⟨⟨⟨⟨hL, (e0 18 (by decide)).trans p18⟩, ⟨(eL _ (by decide)).trans p0, (eL _ (by decide)).trans p1, (eL _ (by decide)).trans p2, (eL _ (by decide)).trans p3, (eL _ (by decide)).trans p4, (eL _ (by decide)).trans p5⟩, fun c i h1 h2 => (hf.1 _ _ (fun z => ?_)).trans (p6 c i h1 h2), fun c i h1 h2 => (hf.1 _ _ (fun z => ?_)).trans (p7 c i h1 h2), fun c i h1 h2 => (hf.1 _ _ (fun z => ?_)).trans (p8 c i h1 h2), l1, l2⟩, fun k hk => ⟨(hf.1 _ _ (fun z => ?_)).trans (hCl k hk).1, fun i hi => ?_⟩, e17, fun i hi => (hf.2.1 _ _ (fun z => by have := SRd_a z; omega)).trans (hky i hi), v1⟩, ⟨e2, fun k hk => absurd hk (Nat.not_lt_zero _)⟩, hc.fr hf (fun b j z => by have := SRd_a z; omega), ⟨fun s hs => ⟨(e _ _ (by decide)).trans (hh.1 s hs).1, (hh.1 s hs).2⟩, fun s k hs hk hb => (e _ _ (by decide)).trans (hh.2 s k hs hk hb)⟩, ⟨(e0 72 (by decide)).trans ht.1, fun i hi => ⟨(e _ _ (by decide)).trans (ht.2 i hi).1, (e _ _ (by decide)).trans (ht.2 i hi).2⟩⟩⟩
  · have q := (SRd_p hS hL z).2.1 (by omega)
    have hi : i < π.1 0 := h2
    omega
  · have q := (SRd_p hS hL z).2.2.1 (by omega) (by omega)
    have hi : i < π.1 1 := h2
    omega
  · have q := (SRd_p hS hL z).2.2.2 (by omega)
    have hi : i < π.1 2 := h2
    omega
  · have q := (SRd_q hS hL z).1 rfl
    have hk2 : k < π.1 3 := hk
    omega
  · have hk2 : k < π.1 3 := hk
    have hi2 : i < π.2.1 8 k := hi
    have h6 := (okc k hk2).1
    obtain ⟨z1, z2, z3⟩ := (hCl k hk2).2 i hi2
    refine ⟨(hf.1 _ _ (fun z => ?_)).trans z1, (hf.1 _ _ (fun z => ?_)).trans z2, (hf.1 _ _ (fun z => ?_)).trans z3⟩
    all_goals
      have q := (SRd_q hS hL z).2.1 (by decide) (by decide)
      omega
