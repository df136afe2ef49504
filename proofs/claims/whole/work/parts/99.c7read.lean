/-! the class's read -/
def piQ (P : qPn) : qPl := (P.1, P.2.1, fun k v => match P.2.2 k with
  | none => 0
  | some A => laV v A.1 A.2)
theorem lwC.law {M : qM} {p pl sz : Nat} {A : qAs} (h : lwC M p pl sz A) (hz : M.1 (p + 10) 6 = nI sz) (hs : sz ≤ 802) (hw : (∀ br, br ∈ A.1 → wfB br) ∧ wfE A.2) : qLaw M (p + 10) pl (fun v => laV v A.1 A.2) := by
  have h1 := h.1
  refine ⟨by omega, fun sz2 hz2 hs2 v => ?_⟩
  have e : sz = sz2 := (nI_eq (by omega) (by omega)).mp (hz.symm.trans hz2)
  subst e
  exact runC_law hs hw.2 A.1 802 pl hw.1 h.2 h1 (by omega)
theorem qPX.plan {M : qM} {p : Nat} {P : qPn} {sz : Nat} (h : qPX M p P sz) (hL : okLw P) (hs : sz ≤ 802) : qPlan M p (piQ P) ∧ qWill M p (piQ P) := by
  obtain ⟨⟨⟨a1, a2, a3, a4⟩, a5, ⟨a6, a7⟩, a8, a9, a10, a11⟩, a12, a13⟩ := h
  refine ⟨⟨⟨a1, a2, a12, a3, a4⟩, a5, ⟨sz, hs, a6⟩, fun k hk => ?_, ?_⟩, a8, a10, a11⟩
  · obtain ⟨pl, A, b1, b2, b3⟩ := a7 k hk
    obtain ⟨c1, c2, c3⟩ := hL.1 k A b1
    have e : (piQ P).2.2 k = fun v => laV v A.1 A.2 := by
      unfold piQ
      dsimp only
      rw [b1]
    rw [e]
    exact ⟨pl, b2, b3.law a6 hs ⟨c2, c3⟩⟩
  · rcases a13 with ⟨b1, b2⟩ | ⟨pl, A, b1, b2, b3⟩
    · refine Or.inl ⟨b2, fun v => ?_⟩
      unfold piQ
      dsimp only
      rw [b1]
    · obtain ⟨c1, c2, c3⟩ := hL.1 16 A b1
      have e : (piQ P).2.2 16 = fun v => laV v A.1 A.2 := by
        unfold piQ
        dsimp only
        rw [b1]
      rw [e]
      exact Or.inr ⟨pl, b2, b3.law a6 hs ⟨c2, c3⟩⟩
theorem okRs.pl {v : qRs} (h : okRs v) (h0 : v.2.1.1 = 0) : okPl (piQ v.2.2.2) ∧ okCl (piQ v.2.2.2) := by
  obtain ⟨-, ⟨c0, c1, c2, c3, c4⟩, -, -, hD⟩ := h
  obtain ⟨d1, d2, d3, d4, d5, d6⟩ := hD h0
  exact ⟨⟨c0, c1, c2, c3, d2.1, d2.2, d3, d4, d5⟩, fun k hk => ⟨c4 k hk, d6 k hk⟩⟩
def rdV (T : qTk) (res : Except qE qRs) (σ : qSt) : Int32 × qSt := match res with
  | .error e => (nI e.1, ((0, σ.1.2), nI (pAt T e.2), σ.2.2))
  | .ok w => if w.2.1.1 = 0 then (0, ((0, σ.1.2), -1, piQ w.2.2.2, (beginF (piQ w.2.2.2), 0, σ.2.2.2.1.2.2), (fun _ => 0, σ.2.2.2.2.1.2), (0, σ.2.2.2.2.2.2))) else (nI w.2.1.1, ((0, σ.1.2), nI (pAt T w.2.1.2), σ.2.2))
theorem c_X5_clear (g : qG) {M : qM} : qV g 0 kX5_clear [.ref 218] M (fun M' => M' = wI M 218 4 (-1)) := by
  refine qV.of (j := 0) (pn_RX5) rfl ?_
  show qT g kX5_clear (qR 0 0 0) (qZV g (fun M' => M' = wI M 218 4 (-1))) 0 [some (.ref 218)] [] 333 M (0, 0)
  refine qi_aload_n (i := 0) (x := 218) dX5_clear_0 rfl rfl ?_
  refine qi_iconst (v := -1) dX5_clear_1 rfl ?_
  refine qi_putI flX5_26 q_cls5 (ty5_4 _) dX5_clear_2 rfl (by decide) ?_
  exact qi_retV rfl dX5_clear_5 (rfl)
theorem c_X2_clear (g : qG) {M : qM} (hM : qRf M) : qV g 0 kX2_clear [.ref 12] M (fun M' => M'.1 12 4 = 0 ∧ (∀ s, s < 3 → M'.1 15 s = 0) ∧ qFr (fun b j => (b = 12 ∧ j = 4) ∨ b = 15) M M') := by
  have K : ∀ m i M1, i + m = 3 → qRf M1 → M1.1 12 4 = 0 → (∀ s, s < i → M1.1 15 s = 0) → qFr (fun b j => (b = 12 ∧ j = 4) ∨ b = 15) M M1 → qT g kX2_clear (qR 0 0 0) (qZV g (fun M' => M'.1 12 4 = 0 ∧ (∀ s, s < 3 → M'.1 15 s = 0) ∧ qFr (fun b j => (b = 12 ∧ j = 4) ∨ b = 15) M M')) 7 [some (.ref 12), some (.int (nI i))] [] 333 M1 (0, 0) := by
    intro m
    induction m with
    | zero =>
      intro i M1 e hM1 h1 h2 hf
      obtain rfl : i = 3 := by omega
      refine qi_iload_n (i := 1) (x := nI 3) dX2_clear_7 rfl rfl ?_
      refine qi_iconst (v := 3) dX2_clear_8 rfl ?_
      refine qi_icmp_ge (tgt := 25) dX2_clear_9 (by decide) (fun z => ?_) (fun z => False.elim ((z (by decide))))
      exact qi_retV rfl dX2_clear_25 (⟨h1, h2, hf⟩)
    | succ m ih =>
      intro i M1 e hM1 h1 h2 hf
      refine qi_iload_n (i := 1) (x := nI i) dX2_clear_7 rfl rfl ?_
      refine qi_iconst (v := 3) dX2_clear_8 rfl ?_
      refine qi_icmp_ge (tgt := 25) dX2_clear_9 (by decide) (fun _h => absurd ((nI_leI (a := 3) (b := i) (by omega) (by omega)).mp _h) (by omega)) (fun _hc => ?_)
      refine qi_aload_n (i := 0) (x := 12) dX2_clear_12 rfl rfl ?_
      refine qi_getR (x := 15) flX2_20 dX2_clear_13 rfl (by decide) (hM1 12 2 15 rfl) ?_
      refine qi_iload_n (i := 1) (x := nI i) dX2_clear_16 rfl rfl ?_
      refine qi_iconst (v := 0) dX2_clear_17 rfl ?_
      refine qi_zastN (j := i) dX2_clear_18 rfl (by decide) rfl (by omega) (by decide) (by rfl) ?_
      refine qi_iinc (i := 1) (x := nI i) (v := nI (i + 1)) (L2 := [some (.ref 12), some (.int (nI (i + 1)))]) dX2_clear_19 rfl (nI_1 i) (Nat.le_of_ble_eq_true rfl) rfl ?_
      refine qi_goto (tgt := 7) dX2_clear_22 (by decide) ?_
      refine ih (i + 1) _ (by omega) hM1 ((wI_a (by decide)).trans h1) (fun s hs => ?_) (hf.wI (Or.inr rfl))
      by_cases c : s = i
      · subst c
        exact wI_s _ _ _ _
      · exact (wI_k c).trans (h2 s (by omega))
  refine qV.of (j := 1) (pn_RX2) rfl ?_
  show qT g kX2_clear (qR 0 0 0) (qZV g (fun M' => M'.1 12 4 = 0 ∧ (∀ s, s < 3 → M'.1 15 s = 0) ∧ qFr (fun b j => (b = 12 ∧ j = 4) ∨ b = 15) M M')) 0 [some (.ref 12), none] [] 333 M (0, 0)
  refine qi_aload_n (i := 0) (x := 12) dX2_clear_0 rfl rfl ?_
  refine qi_iconst (v := 0) dX2_clear_1 rfl ?_
  refine qi_putI flX2_28 q_cls2 (ty2_4 _) dX2_clear_2 rfl (by decide) ?_
  refine qi_iconst (v := 0) dX2_clear_5 rfl ?_
  refine qi_istore_n (i := 1) (L2 := [some (.ref 12), some (.int 0)]) dX2_clear_6 rfl (Nat.le_of_ble_eq_true rfl) rfl ?_
  exact K 3 0 _ rfl hM (wI_s _ _ _ _) (fun s hs => absurd hs (Nat.not_lt_zero _)) (qFr.rf.wI (Or.inl ⟨rfl, rfl⟩))
def SRe (p : Nat) : Nat → Nat → Prop := fun b j => SPa p b j ∨ (b = 1 ∧ j = 1) ∨ (b = 0 ∧ j = 11)
theorem rd_keep {M M' : qM} {p p2 : Nat} {t : qTp} {pl x : Int32} {π : qPl} {c : qCo} {η : qHd} {τ : qTo} (hC : qCs M p p2 (t, pl, π, c, η, τ)) (hf : qFr (SRe p2) (wR M 3 5 (some p2)) M') (h1 : M'.1 1 1 = 0) (h11 : M'.1 0 11 = x) : qCs M' p p2 ((0, t.2), x, π, c, η, τ) := by
  obtain ⟨⟨hp, hp2, hpp⟩, ⟨⟨hr, hr2⟩, hP, hW, hpl, hwd⟩, hT, hX, hHd, hE, hRw⟩ := hC
  have e2 : ∀ b j, ¬ b = 3 → (wR M 3 5 (some p2)).2.2 b j = M.2.2 b j := fun b j hb => if_neg (c := b = 3 ∧ j = 5) (fun z => hb z.1)
  have hP' : qPlan (wR M 3 5 (some p2)) p π := hP
  have hW' : qWill (wR M 3 5 (some p2)) p π := hW
  have hX' : qXc (wR M 3 5 (some p2)) c := hX
  have hHd' : qHdC (wR M 3 5 (some p2)) η := hHd
  have hE' : qXe (wR M 3 5 (some p2)) π τ := hE
  have hRw' : qRwC (wR M 3 5 (some p2)) π := hRw
  have i1 := isP_2 hp
  have i2 := isP_2 hp2
  refine ⟨⟨hp, hp2, hpp⟩, ⟨⟨?_, ?_⟩, hP'.fr hf (fun i j hi z => ?_), hW'.fr hf (fun i j z => ?_), h11, fun i hi => ?_⟩, ⟨h1, fun k hk => absurd hk (Nat.not_lt_zero _)⟩, hX'.fr hf (fun b j z => ?_), hHd'.fr hf (fun b j z => ?_), hE'.fr hf (fun b j z => ?_), hRw'.fr hf (fun b j z => ?_)⟩
  · rw [hf.2.2, e2 0 9 (by decide)]
    exact hr
  · rw [hf.2.2, e2 0 10 (by decide)]
    exact hr2
  · unfold SRe SPa at z
    omega
  · unfold SRe SPa at z
    omega
  · rw [hf.2.1 _ _ (by unfold SRe SPa; omega)]
    exact hwd i hi
  all_goals
    unfold SRe SPa at z
    omega
