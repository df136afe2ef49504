/-! the class's law -/
abbrev okLa (p : Nat) (T : qTk) (s : Nat × Nat) (N : qNm) (sz : Nat) (v : Nat × List qBr × List Int32) (M' : qM) : Prop := qXK M' p T v.1 s N ∧ M'.1 (p + 10) 6 = nI (sz + (lwL sz v.2.1 v.2.2).length) ∧ cellA (M'.1 (p + 10 + 1)) sz (lwL sz v.2.1 v.2.2)
def lawS (M : qM) (p : Nat) (T : qTk) (a : Nat) (s : Nat × Nat) (N : qNm) (sz : Nat) (cs : List Int32) : Prop := qXK M p T a s N ∧ M.1 (p + 10) 6 = nI (sz + cs.length) ∧ cellA (M.1 (p + 10 + 1)) sz cs
section LawS
variable {M M' : qM} {p : Nat} {T : qTk} {a a1 : Nat} {s : Nat × Nat} {N : qNm} {sz : Nat} {cs : List Int32}
theorem lawS.acc (h : lawS M p T a s N sz cs) (hp : 242 ≤ p) (hK : qXK M' p T a1 s N) (hf : qFr SXa M M') : lawS M' p T a1 s N sz cs := ⟨hK, (hf.1 _ _ (by unfold SXa; omega)).trans h.2.1, cellA_fr h.2.2 hf (fun j _ => by unfold SXa; omega)⟩
theorem lawS.sum {v : Nat × List Int32} (h : lawS M p T a s N sz cs) (hp : 242 ≤ p) (hE : okE p T s N (sz + cs.length) v M') (hf : qFr (SXe p (sz + cs.length)) M M') : lawS M' p T v.1 s N sz (cs ++ v.2) := ⟨hE.1, by rw [List.length_append, ← Nat.add_assoc]; exact hE.2.1, cellA_a.mpr ⟨cellA_fr h.2.2 hf (fun j hj => by unfold SXe SXa SEm; omega), hE.2.2⟩⟩
theorem lawS.emit {c : Int32} (h : lawS M p T a s N sz cs) (hp : 242 ≤ p) (h1 : M'.1 (p + 10) 6 = nI (sz + cs.length + 1)) (h2 : cellA (M'.1 (p + 10 + 1)) (sz + cs.length) [c]) (hf : qFr (SEm (p + 10) (sz + cs.length)) M M') : lawS M' p T a s N sz (cs ++ [c]) := ⟨h.1.fr hf (fun b j z => by unfold SEm at z; omega), by rw [List.length_append, ← Nat.add_assoc]; exact h1, cellA_a.mpr ⟨cellA_fr h.2.2 hf (fun j hj => by unfold SEm; omega), h2⟩⟩
theorem lawS.fill {A B : List Int32} {x y : Int32} (h : lawS M p T a s N sz (A ++ ([x] ++ B))) (hp : 242 ≤ p) : lawS (wI M (p + 10 + 1) (sz + A.length) y) p T a s N sz (A ++ ([y] ++ B)) := by
  obtain ⟨h1, h2, h3⟩ := h
  obtain ⟨g1, g2⟩ := cellA_a.mp h3
  obtain ⟨g3, g4⟩ := cellA_a.mp g2
  have g4' : cellA (M.1 (p + 10 + 1)) (sz + A.length + 1) B := g4
  refine ⟨h1.fr (S := fun b _ => b = p + 10 + 1) (qFr.rf.wI rfl) (fun b j z => by omega), ?_, cellA_a.mpr ⟨fun i hi => (wI_k (by omega)).trans (g1 i hi), cellA_a.mpr ⟨fun i hi => ?_, ?_⟩⟩⟩
  · rw [wI_a (by omega), h2]
    simp
  · have hi2 : i < 1 := hi
    obtain rfl : i = 0 := by omega
    exact wI_s _ _ _ _
  · show cellA _ (sz + A.length + 1) B
    exact fun i hi => (wI_k (by omega)).trans (g4' i hi)
end LawS
theorem c_X4_law (g : qG) {T : qTk} (hT : okTk T) {p : Nat} (hp : qIsP p) {s : Nat × Nat} {N : qNm} {M : qM} {a0 sz : Nat} (hK0 : qXK M p T a0 s N) (hz0 : M.1 (p + 10) 6 = nI sz) (hsz : sz ≤ a0) : qI g 16 kX4_law [.ref 3] M (fun r M' => qPo (laQ T a0) (okLa p T s N sz) r M' ∧ qFr (SXe p sz) M M') := by
  generalize hR : laQ T a0 = res
  have hla := hp.2.1
  have hlb := hp.2.2
  have hpl3 : qIsL (p + 10) := hp.l
  have LAST : ∀ i a bs cs M1 x3, lawS M1 p T a s N sz cs → cs = pfL sz bs → sz + cs.length + 1 ≤ a → qFr (SXe p sz) M M1 → bQ (exQ T 6 a) (fun r => .ok (r.1, bs, r.2)) = res → qT g kX4_law (qR 16 0 0) (qZI g (fun r M' => qPo res (okLa p T s N sz) r M' ∧ qFr (SXe p sz) M M')) 158 [some (.ref 3), some (.ref (p + 10)), some (.int (nI i)), x3] [] 333 M1 (0, 0) := by
    intro i a bs cs M1 x3 hL1 ecs hb hf hR
    refine qi_aload_n (i := 0) (x := 3) dX4_law_158 rfl rfl ?_
    refine qi_iconst (v := 0) dX4_law_159 rfl ?_
    refine qi_callVI (K' := kX4_sum) (As := [.int 0]) mlX4_190 okX4_sum dX4_law_160 (c_X4_sum g hT hp 6 (by decide) M1 a (sz + cs.length) hL1.1 hL1.2.1 (by omega)) rfl (by decide) rfl (by decide) rfl rfl (Nat.le_of_ble_eq_true rfl) ⟨(Nat.le_of_ble_eq_true rfl), (Nat.le_of_ble_eq_true rfl)⟩ ⟨Nat.le_refl _, Nat.le_refl _⟩ (fun r1 M2 ⟨h1, hf1⟩ => ?_)
    have F2 := hf.tr (hf1.mono (fun b j z => SXe_m (Nat.le_add_right _ _) z))
    cases hA : exQ T 6 a with
    | error e =>
      rw [bQ_e hA] at hR
      obtain ⟨q1, q2⟩ := qPo_e hA h1
      refine qi_if_ne (tgt := 168) dX4_law_163 (by decide) (fun z => False.elim ((z q1))) (fun z => ?_)
      refine qi_iconst (v := 0) dX4_law_166 rfl ?_
      exact qi_retI rfl (by rfl) dX4_law_167 (⟨qPo_ie hR.symm ⟨rfl, q2⟩, F2⟩)
    | ok v =>
      rw [bQ_o hA] at hR
      obtain ⟨q1, q2⟩ := qPo_o hA h1
      have eo := ex_ok hT 6 a v hA
      have eo1 := eo.2.1
      have eo2 := eo.2.2.1
      have hL2 := hL1.sum hla q2 hf1
      have n2 : (cs ++ v.2).length = cs.length + v.2.length := List.length_append
      refine qi_if_ne (tgt := 168) dX4_law_163 (by decide) (fun z => ?_) (fun z => False.elim ((q10 q1 z)))
      refine qi_aload_n (i := 1) (x := p + 10) dX4_law_168 rfl rfl ?_
      refine qi_bipush (v := -12) dX4_law_169 rfl ?_
      refine qi_callVV (K' := kX1_emit) (As := [.int (-12)]) mlX4_193 okX1_emit dX4_law_171 (c_X1_emit g hpl3 q2.1.1.1 hL2.2.1 (by omega) (-12)) (hp.1 10 (by decide)) (by decide) rfl (by have := hp.2.2; omega) rfl rfl (Nat.le_of_ble_eq_true rfl) ⟨(Nat.le_of_ble_eq_true rfl), (Nat.le_of_ble_eq_true rfl)⟩ ⟨Nat.le_refl _, Nat.le_refl _⟩ (fun M3 ⟨e3, e4, e5⟩ => ?_)
      have hL3 := hL2.emit hla e3 e4 e5
      refine qi_iconst (v := 1) dX4_law_174 rfl ?_
      have el : lwL sz bs v.2 = cs ++ v.2 ++ [-12] := by rw [lwL_pf, List.append_assoc, ecs]
      rw [← el] at hL3
      exact qi_retI rfl (by rfl) dX4_law_175 (⟨qPo_io hR.symm ⟨rfl, hL3⟩, F2.tr (e5.mono (fun b j z => SXe_m (sz2 := sz + (cs ++ v.2).length) (by omega) (Or.inr z)))⟩)
  have K : ∀ n i a bs cs M1 x3, i + n = 4 → lawS M1 p T a s N sz cs → cs = pfL sz bs → sz + cs.length + 1 ≤ a → qFr (SXe p sz) M M1 → ifQ T n a bs = res → qT g kX4_law (qR 16 0 0) (qZI g (fun r M' => qPo res (okLa p T s N sz) r M' ∧ qFr (SXe p sz) M M')) 21 [some (.ref 3), some (.ref (p + 10)), some (.int (nI i)), x3] [] 333 M1 (0, 0) := by
    intro n
    induction n with
    | zero =>
      intro i a bs cs M1 x3 ei hL1 ecs hb hf hR
      obtain rfl : i = 4 := by omega
      obtain ⟨⟨hM1, hpl, hTk⟩, ⟨ha, hat, hfa⟩, -⟩ := id hL1.1
      have hka := kAt_le hT a
      refine qi_iload_n (i := 2) (x := nI 4) dX4_law_21 rfl rfl ?_
      refine qi_iconst (v := 4) dX4_law_22 rfl ?_
      refine qi_icmp_gt (tgt := 158) dX4_law_23 (by decide) (fun _h => absurd ((nI_ltI (a := 4) (b := 4) (by omega) (by omega)).mp _h) (by omega)) (fun _hc => ?_)
      refine qi_aload_n (i := 0) (x := 3) dX4_law_26 rfl rfl ?_
      refine qi_getR (x := 4) flX4_12 dX4_law_27 rfl (by decide) (hM1 3 0 4 rfl) ?_
      refine qi_aload_n (i := 0) (x := 3) dX4_law_30 rfl rfl ?_
      refine qi_getI (x := nI a) flX4_37 dX4_law_31 rfl (by decide) hat ?_
      refine qi_callPVI (v := nI (kAt T a)) (K' := kX8_kindAt) (As := [.int (nI a)]) mlX4_64 okX8_kindAt dX4_law_34 (c_X8_kindAt g hM1 hTk (by omega)) rfl (by decide) rfl (by decide) rfl rfl (Nat.le_of_ble_eq_true rfl) ⟨(Nat.le_of_ble_eq_true rfl), (Nat.le_of_ble_eq_true rfl)⟩ ⟨Nat.le_refl _, Nat.le_refl _⟩ ?_
      refine qi_sipush (v := 136) dX4_law_37 rfl ?_
      by_cases hc6 : kAt T a = 136
      ·
        rw [ifQ_y0 hc6] at hR
        refine qi_icmp_ne (tgt := 158) dX4_law_40 (by decide) (fun _h => absurd ((nI_eq (a := kAt T a) (b := 136) (by omega) (by omega)).mpr (by omega)) _h) (fun _hc => ?_)
        refine qi_iload_n (i := 2) (x := nI 4) dX4_law_43 rfl rfl ?_
        refine qi_iconst (v := 4) dX4_law_44 rfl ?_
        refine qi_icmp_ne (tgt := 54) dX4_law_45 (by decide) (fun _h => absurd ((nI_eq (a := 4) (b := 4) (by omega) (by omega)).mpr (by omega)) _h) (fun _hc => ?_)
        refine qi_aload_n (i := 0) (x := 3) dX4_law_48 rfl rfl ?_
        refine qi_iconst (v := 2) dX4_law_49 rfl ?_
        refine qi_callVI (K' := kX4_refuse) (As := [.int 2]) mlX4_90 okX4_refuse dX4_law_50 (c_X4_refuse g 2) rfl (by decide) rfl (by decide) rfl rfl (Nat.le_of_ble_eq_true rfl) ⟨(Nat.le_of_ble_eq_true rfl), (Nat.le_of_ble_eq_true rfl)⟩ ⟨Nat.le_refl _, Nat.le_refl _⟩ (fun r1 M2 ⟨e1, e2⟩ => ?_)
        refine qe_top (y := 0) e1 ?_
        exact qi_retI rfl (by rfl) dX4_law_53 (⟨qPo_ie hR.symm ⟨rfl, by rw [e2]; exact ⟨wI_s _ _ _ _, (wI_k (by decide)).trans hat⟩⟩, by rw [e2]; exact hf.wI (Or.inl ⟨rfl, Or.inr rfl⟩)⟩)
      ·
        rw [ifQ_n hc6] at hR
        refine qi_icmp_ne (tgt := 158) dX4_law_40 (by decide) (fun _hc => ?_) (fun _h => absurd ((nI_eq (a := kAt T a) (b := 136) (by omega) (by omega)).mp _h) (by omega))
        exact LAST 4 a bs cs M1 x3 hL1 ecs hb hf hR
    | succ n ih =>
      intro i a bs c0 M0 x3 ei L0 ecs n0 F0 hR
      obtain ⟨⟨hM0, hpl, hTk⟩, ⟨ha, hat, hfa⟩, -⟩ := id L0.1
      have hka := kAt_le hT a
      refine qi_iload_n (i := 2) (x := nI i) dX4_law_21 rfl rfl ?_
      refine qi_iconst (v := 4) dX4_law_22 rfl ?_
      refine qi_icmp_gt (tgt := 158) dX4_law_23 (by decide) (fun _h => absurd ((nI_ltI (a := 4) (b := i) (by omega) (by omega)).mp _h) (by omega)) (fun _hc => ?_)
      refine qi_aload_n (i := 0) (x := 3) dX4_law_26 rfl rfl ?_
      refine qi_getR (x := 4) flX4_12 dX4_law_27 rfl (by decide) (hM0 3 0 4 rfl) ?_
      refine qi_aload_n (i := 0) (x := 3) dX4_law_30 rfl rfl ?_
      refine qi_getI (x := nI a) flX4_37 dX4_law_31 rfl (by decide) hat ?_
      refine qi_callPVI (v := nI (kAt T a)) (K' := kX8_kindAt) (As := [.int (nI a)]) mlX4_64 okX8_kindAt dX4_law_34 (c_X8_kindAt g hM0 hTk (by omega)) rfl (by decide) rfl (by decide) rfl rfl (Nat.le_of_ble_eq_true rfl) ⟨(Nat.le_of_ble_eq_true rfl), (Nat.le_of_ble_eq_true rfl)⟩ ⟨Nat.le_refl _, Nat.le_refl _⟩ ?_
      refine qi_sipush (v := 136) dX4_law_37 rfl ?_
      by_cases hc6 : kAt T a = 136
      ·
        rw [ifQ_y hc6] at hR
        refine qi_icmp_ne (tgt := 158) dX4_law_40 (by decide) (fun _h => absurd ((nI_eq (a := kAt T a) (b := 136) (by omega) (by omega)).mpr (by omega)) _h) (fun _hc => ?_)
        refine qi_iload_n (i := 2) (x := nI i) dX4_law_43 rfl rfl ?_
        refine qi_iconst (v := 4) dX4_law_44 rfl ?_
        refine qi_icmp_ne (tgt := 54) dX4_law_45 (by decide) (fun _hc => ?_) (fun _h => absurd ((nI_eq (a := i) (b := 4) (by omega) (by omega)).mp _h) (by omega))
        refine qi_aload_n (i := 0) (x := 3) dX4_law_54 rfl rfl ?_
        refine qi_sipush (v := 136) dX4_law_55 rfl ?_
        refine qi_callVI (K' := kX4_accept) (As := [.int 136]) mlX4_117 okX4_accept dX4_law_58 (c_X4_accept g hT L0.1 (k := 136) (by decide)) rfl (by decide) rfl (by decide) rfl rfl (Nat.le_of_ble_eq_true rfl) ⟨(Nat.le_of_ble_eq_true rfl), (Nat.le_of_ble_eq_true rfl)⟩ ⟨Nat.le_refl _, Nat.le_refl _⟩ (fun r1 M1 ⟨h1, hf1⟩ => ?_)
        have F1 := F0.tr (hf1.mono (S' := SXe p sz) (fun b j z => Or.inl z))
        cases hA1 : acQ T 136 a with
        | error e =>
          rw [bQ_e hA1] at hR
          obtain ⟨q1, q2⟩ := qPo_e hA1 h1
          refine qi_if_eq (tgt := 99) dX4_law_61 (by decide) (fun z => ?_) (fun z => False.elim ((z q1)))
          refine qi_iconst (v := 0) dX4_law_99 rfl ?_
          exact qi_retI rfl (by rfl) dX4_law_100 (⟨qPo_ie hR.symm ⟨rfl, q2⟩, F1⟩)
        | ok v1 =>
          rw [bQ_o hA1] at hR
          obtain ⟨q1, k1⟩ := qPo_o hA1 h1
          have i1 := ac_ok hA1
          have L1 := L0.acc hla k1 hf1
          refine qi_if_eq (tgt := 99) dX4_law_61 (by decide) (fun z => False.elim ((q10 q1 z))) (fun z => ?_)
          refine qi_aload_n (i := 0) (x := 3) dX4_law_64 rfl rfl ?_
          refine qi_iconst (v := 0) dX4_law_65 rfl ?_
          refine qi_callVI (K' := kX4_sum) (As := [.int 0]) mlX4_190 okX4_sum dX4_law_66 (c_X4_sum g hT hp 6 (by decide) M1 v1 (sz + c0.length) L1.1 L1.2.1 (by omega)) rfl (by decide) rfl (by decide) rfl rfl (Nat.le_of_ble_eq_true rfl) ⟨(Nat.le_of_ble_eq_true rfl), (Nat.le_of_ble_eq_true rfl)⟩ ⟨Nat.le_refl _, Nat.le_refl _⟩ (fun r2 M2 ⟨h2, hf2⟩ => ?_)
          have F2 := F1.tr (hf2.mono (S' := SXe p sz) (fun b j z => SXe_m (Nat.le_add_right _ _) z))
          cases hA2 : exQ T 6 v1 with
          | error e =>
            rw [bQ_e hA2] at hR
            obtain ⟨q1, q2⟩ := qPo_e hA2 h2
            refine qi_if_eq (tgt := 99) dX4_law_69 (by decide) (fun z => ?_) (fun z => False.elim ((z q1)))
            refine qi_iconst (v := 0) dX4_law_99 rfl ?_
            exact qi_retI rfl (by rfl) dX4_law_100 (⟨qPo_ie hR.symm ⟨rfl, q2⟩, F2⟩)
          | ok v2 =>
            rw [bQ_o hA2] at hR
            obtain ⟨q2, k2⟩ := qPo_o hA2 h2
            have i2 := ex_ok hT 6 _ _ hA2
            have j2 := i2.2.2.1
            have m2 := i2.1
            have o2 := i2.2.1
            have L2 := L1.sum hla k2 hf2
            obtain ⟨c2, ec2⟩ : ∃ x, x = c0 ++ v2.2 := ⟨_, rfl⟩
            have n2 : c2.length = c0.length + v2.2.length := by rw [ec2, List.length_append]
            rw [← ec2] at L2
            refine qi_if_eq (tgt := 99) dX4_law_69 (by decide) (fun z => False.elim ((q10 q2 z))) (fun z => ?_)
            refine qi_aload_n (i := 0) (x := 3) dX4_law_72 rfl rfl ?_
            refine qi_bipush (v := 60) dX4_law_73 rfl ?_
            refine qi_callVI (K' := kX4_accept) (As := [.int 60]) mlX4_117 okX4_accept dX4_law_75 (c_X4_accept g hT L2.1 (k := 60) (by decide)) rfl (by decide) rfl (by decide) rfl rfl (Nat.le_of_ble_eq_true rfl) ⟨(Nat.le_of_ble_eq_true rfl), (Nat.le_of_ble_eq_true rfl)⟩ ⟨Nat.le_refl _, Nat.le_refl _⟩ (fun r3 M3 ⟨h3, hf3⟩ => ?_)
            have F3 := F2.tr (hf3.mono (S' := SXe p sz) (fun b j z => Or.inl z))
            cases hA3 : acQ T 60 v2.1 with
            | error e =>
              rw [bQ_e hA3] at hR
              obtain ⟨q1, q2⟩ := qPo_e hA3 h3
              refine qi_if_eq (tgt := 99) dX4_law_78 (by decide) (fun z => ?_) (fun z => False.elim ((z q1)))
              refine qi_iconst (v := 0) dX4_law_99 rfl ?_
              exact qi_retI rfl (by rfl) dX4_law_100 (⟨qPo_ie hR.symm ⟨rfl, q2⟩, F3⟩)
            | ok v3 =>
              rw [bQ_o hA3] at hR
              obtain ⟨q3, k3⟩ := qPo_o hA3 h3
              have i3 := ac_ok hA3
              have L3 := L2.acc hla k3 hf3
              refine qi_if_eq (tgt := 99) dX4_law_78 (by decide) (fun z => False.elim ((q10 q3 z))) (fun z => ?_)
              refine qi_aload_n (i := 0) (x := 3) dX4_law_81 rfl rfl ?_
              refine qi_iconst (v := 0) dX4_law_82 rfl ?_
              refine qi_callVI (K' := kX4_sum) (As := [.int 0]) mlX4_190 okX4_sum dX4_law_83 (c_X4_sum g hT hp 6 (by decide) M3 v3 (sz + c2.length) L3.1 L3.2.1 (by omega)) rfl (by decide) rfl (by decide) rfl rfl (Nat.le_of_ble_eq_true rfl) ⟨(Nat.le_of_ble_eq_true rfl), (Nat.le_of_ble_eq_true rfl)⟩ ⟨Nat.le_refl _, Nat.le_refl _⟩ (fun r4 M4 ⟨h4, hf4⟩ => ?_)
              have F4 := F3.tr (hf4.mono (S' := SXe p sz) (fun b j z => SXe_m (Nat.le_add_right _ _) z))
              cases hA4 : exQ T 6 v3 with
              | error e =>
                rw [bQ_e hA4] at hR
                obtain ⟨q1, q2⟩ := qPo_e hA4 h4
                refine qi_if_eq (tgt := 99) dX4_law_86 (by decide) (fun z => ?_) (fun z => False.elim ((z q1)))
                refine qi_iconst (v := 0) dX4_law_99 rfl ?_
                exact qi_retI rfl (by rfl) dX4_law_100 (⟨qPo_ie hR.symm ⟨rfl, q2⟩, F4⟩)
              | ok v4 =>
                rw [bQ_o hA4] at hR
                obtain ⟨q4, k4⟩ := qPo_o hA4 h4
                have i4 := ex_ok hT 6 _ _ hA4
                have j4 := i4.2.2.1
                have m4 := i4.1
                have o4 := i4.2.1
                have L4 := L3.sum hla k4 hf4
                obtain ⟨c4, ec4⟩ : ∃ x, x = c2 ++ v4.2 := ⟨_, rfl⟩
                have n4 : c4.length = c2.length + v4.2.length := by rw [ec4, List.length_append]
                rw [← ec4] at L4
                refine qi_if_eq (tgt := 99) dX4_law_86 (by decide) (fun z => False.elim ((q10 q4 z))) (fun z => ?_)
                refine qi_aload_n (i := 0) (x := 3) dX4_law_89 rfl rfl ?_
                refine qi_sipush (v := 137) dX4_law_90 rfl ?_
                refine qi_callVI (K' := kX4_accept) (As := [.int 137]) mlX4_117 okX4_accept dX4_law_93 (c_X4_accept g hT L4.1 (k := 137) (by decide)) rfl (by decide) rfl (by decide) rfl rfl (Nat.le_of_ble_eq_true rfl) ⟨(Nat.le_of_ble_eq_true rfl), (Nat.le_of_ble_eq_true rfl)⟩ ⟨Nat.le_refl _, Nat.le_refl _⟩ (fun r5 M5 ⟨h5, hf5⟩ => ?_)
                have F5 := F4.tr (hf5.mono (S' := SXe p sz) (fun b j z => Or.inl z))
                cases hA5 : acQ T 137 v4.1 with
                | error e =>
                  rw [bQ_e hA5] at hR
                  obtain ⟨q1, q2⟩ := qPo_e hA5 h5
                  refine qi_if_ne (tgt := 101) dX4_law_96 (by decide) (fun z => False.elim ((z q1))) (fun z => ?_)
                  refine qi_iconst (v := 0) dX4_law_99 rfl ?_
                  exact qi_retI rfl (by rfl) dX4_law_100 (⟨qPo_ie hR.symm ⟨rfl, q2⟩, F5⟩)
                | ok v5 =>
                  rw [bQ_o hA5] at hR
                  obtain ⟨q5, k5⟩ := qPo_o hA5 h5
                  have i5 := ac_ok hA5
                  have L5 := L4.acc hla k5 hf5
                  refine qi_if_ne (tgt := 101) dX4_law_96 (by decide) (fun z => ?_) (fun z => False.elim ((q10 q5 z)))
                  refine qi_aload_n (i := 1) (x := p + 10) dX4_law_101 rfl rfl ?_
                  refine qi_bipush (v := -11) dX4_law_102 rfl ?_
                  refine qi_callVV (K' := kX1_emit) (As := [.int (-11)]) mlX4_193 okX1_emit dX4_law_104 (c_X1_emit g hpl3 L5.1.1.1 L5.2.1 (by omega) (-11)) (hp.1 10 (by decide)) (by decide) rfl (by have := hp.2.2; omega) rfl rfl (Nat.le_of_ble_eq_true rfl) ⟨(Nat.le_of_ble_eq_true rfl), (Nat.le_of_ble_eq_true rfl)⟩ ⟨Nat.le_refl _, Nat.le_refl _⟩ (fun M6 ⟨e6, f6, hf6⟩ => ?_)
                  have F6 := F5.tr (hf6.mono (S' := SXe p sz) (fun b j z => SXe_m (Nat.le_add_right _ _) (Or.inr z)))
                  have L6 := L5.emit hla e6 f6 hf6
                  obtain ⟨c6, ec6⟩ : ∃ x, x = c4 ++ [-11] := ⟨_, rfl⟩
                  have n6 : c6.length = c4.length + 1 := by rw [ec6, List.length_append]; rfl
                  rw [← ec6] at L6
                  refine qi_aload_n (i := 1) (x := p + 10) dX4_law_107 rfl rfl ?_
                  refine qi_getI (x := M6.1 (p + 10) 6) flX4_154 dX4_law_108 (hp.1 10 (by decide)) (by have := hp.2.2; omega) rfl ?_
                  refine qe_top (y := nI (sz + c6.length)) L6.2.1 ?_
                  refine qi_istore_n (i := 3) (L2 := [some (.ref 3), some (.ref (p + 10)), some (.int (nI i)), some (.int (nI (sz + c6.length)))]) dX4_law_111 rfl (Nat.le_of_ble_eq_true rfl) rfl ?_
                  refine qi_aload_n (i := 1) (x := p + 10) dX4_law_112 rfl rfl ?_
                  refine qi_iconst (v := 0) dX4_law_113 rfl ?_
                  refine qi_callVV (K' := kX1_emit) (As := [.int 0]) mlX4_193 okX1_emit dX4_law_114 (c_X1_emit g hpl3 L6.1.1.1 L6.2.1 (by omega) (0)) (hp.1 10 (by decide)) (by decide) rfl (by have := hp.2.2; omega) rfl rfl (Nat.le_of_ble_eq_true rfl) ⟨(Nat.le_of_ble_eq_true rfl), (Nat.le_of_ble_eq_true rfl)⟩ ⟨Nat.le_refl _, Nat.le_refl _⟩ (fun M7 ⟨e7, f7, hf7⟩ => ?_)
                  have F7 := F6.tr (hf7.mono (S' := SXe p sz) (fun b j z => SXe_m (Nat.le_add_right _ _) (Or.inr z)))
                  have L7 := L6.emit hla e7 f7 hf7
                  obtain ⟨c7, ec7⟩ : ∃ x, x = c6 ++ [0] := ⟨_, rfl⟩
                  have n7 : c7.length = c6.length + 1 := by rw [ec7, List.length_append]; rfl
                  rw [← ec7] at L7
                  refine qi_aload_n (i := 0) (x := 3) dX4_law_117 rfl rfl ?_
                  refine qi_iconst (v := 0) dX4_law_118 rfl ?_
                  refine qi_callVI (K' := kX4_sum) (As := [.int 0]) mlX4_190 okX4_sum dX4_law_119 (c_X4_sum g hT hp 6 (by decide) M7 v5 (sz + c7.length) L7.1 L7.2.1 (by omega)) rfl (by decide) rfl (by decide) rfl rfl (Nat.le_of_ble_eq_true rfl) ⟨(Nat.le_of_ble_eq_true rfl), (Nat.le_of_ble_eq_true rfl)⟩ ⟨Nat.le_refl _, Nat.le_refl _⟩ (fun r8 M8 ⟨h8, hf8⟩ => ?_)
                  have F8 := F7.tr (hf8.mono (S' := SXe p sz) (fun b j z => SXe_m (Nat.le_add_right _ _) z))
                  cases hA8 : exQ T 6 v5 with
                  | error e =>
                    rw [bQ_e hA8] at hR
                    obtain ⟨q1, q2⟩ := qPo_e hA8 h8
                    refine qi_if_eq (tgt := 135) dX4_law_122 (by decide) (fun z => ?_) (fun z => False.elim ((z q1)))
                    refine qi_iconst (v := 0) dX4_law_135 rfl ?_
                    exact qi_retI rfl (by rfl) dX4_law_136 (⟨qPo_ie hR.symm ⟨rfl, q2⟩, F8⟩)
                  | ok v8 =>
                    rw [bQ_o hA8] at hR
                    obtain ⟨q8, k8⟩ := qPo_o hA8 h8
                    have i8 := ex_ok hT 6 _ _ hA8
                    have j8 := i8.2.2.1
                    have m8 := i8.1
                    have o8 := i8.2.1
                    have L8 := L7.sum hla k8 hf8
                    obtain ⟨c8, ec8⟩ : ∃ x, x = c7 ++ v8.2 := ⟨_, rfl⟩
                    have n8 : c8.length = c7.length + v8.2.length := by rw [ec8, List.length_append]
                    rw [← ec8] at L8
                    refine qi_if_eq (tgt := 135) dX4_law_122 (by decide) (fun z => False.elim ((q10 q8 z))) (fun z => ?_)
                    refine qi_aload_n (i := 0) (x := 3) dX4_law_125 rfl rfl ?_
                    refine qi_sipush (v := 138) dX4_law_126 rfl ?_
                    refine qi_callVI (K' := kX4_accept) (As := [.int 138]) mlX4_117 okX4_accept dX4_law_129 (c_X4_accept g hT L8.1 (k := 138) (by decide)) rfl (by decide) rfl (by decide) rfl rfl (Nat.le_of_ble_eq_true rfl) ⟨(Nat.le_of_ble_eq_true rfl), (Nat.le_of_ble_eq_true rfl)⟩ ⟨Nat.le_refl _, Nat.le_refl _⟩ (fun r9 M9 ⟨h9, hf9⟩ => ?_)
                    have F9 := F8.tr (hf9.mono (S' := SXe p sz) (fun b j z => Or.inl z))
                    cases hA9 : acQ T 138 v8.1 with
                    | error e =>
                      rw [bQ_e hA9] at hR
                      obtain ⟨q1, q2⟩ := qPo_e hA9 h9
                      refine qi_if_ne (tgt := 137) dX4_law_132 (by decide) (fun z => False.elim ((z q1))) (fun z => ?_)
                      refine qi_iconst (v := 0) dX4_law_135 rfl ?_
                      exact qi_retI rfl (by rfl) dX4_law_136 (⟨qPo_ie hR.symm ⟨rfl, q2⟩, F9⟩)
                    | ok v9 =>
                      rw [bQ_o hA9] at hR
                      obtain ⟨q9, k9⟩ := qPo_o hA9 h9
                      have i9 := ac_ok hA9
                      have L9 := L8.acc hla k9 hf9
                      refine qi_if_ne (tgt := 137) dX4_law_132 (by decide) (fun z => ?_) (fun z => False.elim ((q10 q9 z)))
                      refine qi_aload_n (i := 1) (x := p + 10) dX4_law_137 rfl rfl ?_
                      refine qi_bipush (v := -12) dX4_law_138 rfl ?_
                      refine qi_callVV (K' := kX1_emit) (As := [.int (-12)]) mlX4_193 okX1_emit dX4_law_140 (c_X1_emit g hpl3 L9.1.1.1 L9.2.1 (by omega) (-12)) (hp.1 10 (by decide)) (by decide) rfl (by have := hp.2.2; omega) rfl rfl (Nat.le_of_ble_eq_true rfl) ⟨(Nat.le_of_ble_eq_true rfl), (Nat.le_of_ble_eq_true rfl)⟩ ⟨Nat.le_refl _, Nat.le_refl _⟩ (fun M10 ⟨e10, f10, hf10⟩ => ?_)
                      have F10 := F9.tr (hf10.mono (S' := SXe p sz) (fun b j z => SXe_m (Nat.le_add_right _ _) (Or.inr z)))
                      have L10 := L9.emit hla e10 f10 hf10
                      obtain ⟨c10, ec10⟩ : ∃ x, x = c8 ++ [-12] := ⟨_, rfl⟩
                      have n10 : c10.length = c8.length + 1 := by rw [ec10, List.length_append]; rfl
                      rw [← ec10] at L10
                      refine qi_aload_n (i := 1) (x := p + 10) dX4_law_143 rfl rfl ?_
                      refine qi_iload_n (i := 3) (x := nI (sz + c6.length)) dX4_law_144 rfl rfl ?_
                      refine qi_aload_n (i := 1) (x := p + 10) dX4_law_145 rfl rfl ?_
                      refine qi_getI (x := M10.1 (p + 10) 6) flX4_154 dX4_law_146 (hp.1 10 (by decide)) (by have := hp.2.2; omega) rfl ?_
                      refine qe_top (y := nI (sz + c10.length)) L10.2.1 ?_
                      refine qi_callVV (K' := kX1_fill) (As := [.int (nI (sz + c6.length)), .int (nI (sz + c10.length))]) mlX4_197 okX1_fill dX4_law_149 (c_X1_fill g hpl3 L10.1.1.1 L10.2.1 (by omega) (show sz + c6.length < sz + c10.length by omega) (nI (sz + c10.length))) (hp.1 10 (by decide)) (by decide) rfl (by have := hp.2.2; omega) rfl rfl (Nat.le_of_ble_eq_true rfl) ⟨(Nat.le_of_ble_eq_true rfl), (Nat.le_of_ble_eq_true rfl)⟩ ⟨Nat.le_refl _, Nat.le_refl _⟩ (fun M11 e11 => ?_)
                      refine qi_iinc (i := 2) (x := nI i) (v := nI (i + 1)) (L2 := [some (.ref 3), some (.ref (p + 10)), some (.int (nI (i + 1))), some (.int (nI (sz + c6.length)))]) dX4_law_152 rfl (nI_1 i) (Nat.le_of_ble_eq_true rfl) rfl ?_
                      refine qi_goto (tgt := 21) dX4_law_155 (by decide) ?_
                      have ebr : brT (v2.2, v4.2, v8.2) = v2.2.length + v4.2.length + v8.2.length := rfl
                      have ecl : c10 = c6 ++ ([0] ++ (v8.2 ++ [-12])) := by rw [ec10, ec8, ec7]; simp
                      have L11 : lawS M11 p T v9 s N sz (c6 ++ ([nI (sz + c10.length)] ++ (v8.2 ++ [-12]))) := by
                        rw [e11]
                        refine lawS.fill (x := 0) ?_ hla
                        rw [← ecl]
                        exact L10
                      have F11 : qFr (SXe p sz) M M11 := by
                        rw [e11]
                        exact F10.wI (Or.inr (Or.inr ⟨rfl, by omega⟩))
                      have epf : c6 ++ ([nI (sz + c10.length)] ++ (v8.2 ++ [-12])) = pfL sz (bs ++ [(v2.2, v4.2, v8.2)]) := by
                        rw [pfL_snoc, ← ecs]
                        unfold brL
                        rw [ebr, ec6, ec4, ec2]
                        have e9 : sz + c10.length = sz + c0.length + (v2.2.length + v4.2.length + v8.2.length) + 3 := by omega
                        rw [e9]
                        simp
                      refine ih (i + 1) v9 (bs ++ [(v2.2, v4.2, v8.2)]) _ M11 _ (by omega) L11 epf ?_ F11 hR
                      have e12 : (c6 ++ ([nI (sz + c10.length)] ++ (v8.2 ++ [-12]))).length = c10.length := by rw [ecl]; simp
                      omega
      ·
        rw [ifQ_n hc6] at hR
        refine qi_icmp_ne (tgt := 158) dX4_law_40 (by decide) (fun _hc => ?_) (fun _h => absurd ((nI_eq (a := kAt T a) (b := 136) (by omega) (by omega)).mp _h) (by omega))
        exact LAST i a bs c0 M0 x3 L0 ecs n0 F0 hR
  refine qI.of (j := 3) (pn_RX4) rfl ?_
  show qT g kX4_law (qR 16 0 0) (qZI g (fun r M' => qPo res (okLa p T s N sz) r M' ∧ qFr (SXe p sz) M M')) 0 [some (.ref 3), none, none, none] [] 333 M (0, 0)
  obtain ⟨⟨hM, hpl, hTk⟩, ⟨ha, hat, hfa⟩, -⟩ := id hK0
  refine qi_aload_n (i := 0) (x := 3) dX4_law_0 rfl rfl ?_
  refine qi_getR (x := p) flX4_33 dX4_law_1 rfl (by decide) hpl ?_
  refine qi_getR (x := p + 10) flX4_150 dX4_law_4 (hp.1 0 (by decide)) (by have := hp.2.2; omega) (hM p 9 (p + 10) (qref_3_9 (hp.1 0 (by decide)))) ?_
  refine qi_astore_n (i := 1) (L2 := [some (.ref 3), some (.ref (p + 10)), none, none]) dX4_law_7 rfl (Nat.le_of_ble_eq_true rfl) rfl ?_
  refine qi_aload_n (i := 0) (x := 3) dX4_law_8 rfl rfl ?_
  refine qi_bipush (v := 61) dX4_law_9 rfl ?_
  refine qi_callVI (K' := kX4_accept) (As := [.int 61]) mlX4_117 okX4_accept dX4_law_11 (c_X4_accept g hT hK0 (k := 61) (by decide)) rfl (by decide) rfl (by decide) rfl rfl (Nat.le_of_ble_eq_true rfl) ⟨(Nat.le_of_ble_eq_true rfl), (Nat.le_of_ble_eq_true rfl)⟩ ⟨Nat.le_refl _, Nat.le_refl _⟩ (fun r1 M1 ⟨h1, hf1⟩ => ?_)
  have F1 : qFr (SXe p sz) M M1 := hf1.mono (fun b j z => Or.inl z)
  cases hA : acQ T 61 a0 with
  | error e =>
    have hR2 : .error e = res := by rw [← hR]; unfold laQ; rw [bQ_e hA]
    obtain ⟨q1, q2⟩ := qPo_e hA h1
    refine qi_if_ne (tgt := 19) dX4_law_14 (by decide) (fun z => False.elim ((z q1))) (fun z => ?_)
    refine qi_iconst (v := 0) dX4_law_17 rfl ?_
    exact qi_retI rfl (by rfl) dX4_law_18 (⟨qPo_ie hR2.symm ⟨rfl, q2⟩, F1⟩)
  | ok a1 =>
    have hR2 : ifQ T 4 a1 [] = res := by rw [← hR]; unfold laQ; rw [bQ_o hA]
    obtain ⟨q1, q2⟩ := qPo_o hA h1
    have i1 := ac_ok hA
    refine qi_if_ne (tgt := 19) dX4_law_14 (by decide) (fun z => ?_) (fun z => False.elim ((q10 q1 z)))
    refine qi_iconst (v := 0) dX4_law_19 rfl ?_
    refine qi_istore_n (i := 2) (L2 := [some (.ref 3), some (.ref (p + 10)), some (.int 0), none]) dX4_law_20 rfl (Nat.le_of_ble_eq_true rfl) rfl ?_
    refine K 4 0 a1 [] [] M1 _ rfl ⟨q2, ?_, cellA_n⟩ rfl ?_ F1 hR2
    · rw [hf1.1 _ _ (by unfold SXa; omega), hz0]
      rfl
    · show sz + 0 + 1 ≤ a1
      omega
