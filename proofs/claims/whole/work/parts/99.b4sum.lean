/-! the class's unit and sum -/
def SXe (p sz : Nat) : Nat → Nat → Prop := fun b j => SXa b j ∨ SEm (p + 10) sz b j
theorem SXe_m {p sz sz2 : Nat} (h : sz ≤ sz2) {b j : Nat} (z : SXe p sz2 b j) : SXe p sz b j := by
  unfold SXe SXa SEm at z ⊢
  omega
theorem cellA_fr {S : Nat → Nat → Prop} {M M' : qM} {q o : Nat} {es : List Int32} (h : cellA (M.1 q) o es) (hf : qFr S M M') (hd : ∀ j, j < o + es.length → ¬ S q j) : cellA (M'.1 q) o es := fun i hi => (hf.1 _ _ (hd _ (by omega))).trans (h i hi)
abbrev okE (p : Nat) (T : qTk) (s : Nat × Nat) (N : qNm) (sz : Nat) (v : Nat × List Int32) (M' : qM) : Prop := qXK M' p T v.1 s N ∧ M'.1 (p + 10) 6 = nI (sz + v.2.length) ∧ cellA (M'.1 (p + 10 + 1)) sz v.2
def sumC (g : qG) (T : qTk) (p : Nat) (s : Nat × Nat) (N : qNm) (n : Nat) : Prop := ∀ (M : qM) (a sz : Nat), qXK M p T a s N → M.1 (p + 10) 6 = nI sz → sz ≤ a → qI g (2 * n + 3) kX4_sum [.ref 3, .int (nI (6 - n))] M (fun r M' => qPo (exQ T n a) (okE p T s N sz) r M' ∧ qFr (SXe p sz) M M')
theorem c_X4_unit (g : qG) {T : qTk} (hT : okTk T) {p : Nat} (hp : qIsP p) {s : Nat × Nat} {N : qNm} {n : Nat} (hn : n ≤ 6) (hS : ∀ k, n = k + 1 → sumC g T p s N k) {M : qM} {a sz : Nat} (hK : qXK M p T a s N) (hz : M.1 (p + 10) 6 = nI sz) (hsz : sz ≤ a) : qI g (2 * n + 2) kX4_unit [.ref 3, .int (nI (6 - n))] M (fun r M' => qPo (unQ T (exS T n) a) (okE p T s N sz) r M' ∧ qFr (SXe p sz) M M') := by
  generalize hR : unQ T (exS T n) a = res
  have hla := hp.2.1
  have hlb := hp.2.2
  have hpl3 : qIsL (p + 10) := hp.l
  obtain ⟨⟨hM, hpl, hTk⟩, ⟨ha, hat, hfa⟩, -⟩ := id hK
  have hka := kAt_le hT a
  have FA : ∀ {M2 : qM}, qFr SXa M M2 → qFr (SXe p sz) M M2 := fun h => h.mono (fun b j z => Or.inl z)
  unfold unQ at hR
  refine qI.of (j := 1) (pn_RX4) rfl ?_
  show qT g kX4_unit (qR (2 * n + 2) 0 0) (qZI g (fun r M' => qPo res (okE p T s N sz) r M' ∧ qFr (SXe p sz) M M')) 0 [some (.ref 3), some (.int (nI (6 - n))), none] [] 333 M (0, 0)
  refine qi_aload_n (i := 0) (x := 3) dX4_unit_0 rfl rfl ?_
  refine qi_getR (x := 4) flX4_12 dX4_unit_1 rfl (by decide) (hM 3 0 4 rfl) ?_
  refine qi_aload_n (i := 0) (x := 3) dX4_unit_4 rfl rfl ?_
  refine qi_getI (x := nI a) flX4_37 dX4_unit_5 rfl (by decide) hat ?_
  refine qi_callPVI (v := nI (kAt T a)) (K' := kX8_kindAt) (As := [.int (nI a)]) mlX4_64 okX8_kindAt dX4_unit_8 (c_X8_kindAt g hM hTk (by omega)) rfl (by decide) rfl (by decide) rfl rfl (Nat.le_of_ble_eq_true rfl) (hRl (by omega) (Nat.le_of_ble_eq_true rfl)) ⟨Nat.le_refl _, Nat.le_refl _⟩ ?_
  refine qi_istore_n (i := 2) (L2 := [some (.ref 3), some (.int (nI (6 - n))), some (.int (nI (kAt T a)))]) dX4_unit_11 rfl (Nat.le_of_ble_eq_true rfl) rfl ?_
  refine qi_iload_n (i := 2) (x := nI (kAt T a)) dX4_unit_12 rfl rfl ?_
  refine qi_iconst (v := 3) dX4_unit_13 rfl ?_
  by_cases h3 : kAt T a = 3
  ·
    rw [if_pos h3] at hR
    have hv := vAt_le hT h3
    refine qi_icmp_ne (tgt := 45) dX4_unit_14 (by decide) (fun _h => absurd ((nI_eq (a := kAt T a) (b := 3) (by omega) (by omega)).mpr (by omega)) _h) (fun _hc => ?_)
    refine qi_aload_n (i := 0) (x := 3) dX4_unit_17 rfl rfl ?_
    refine qi_getR (x := p) flX4_33 dX4_unit_18 rfl (by decide) hpl ?_
    refine qi_getR (x := p + 10) flX4_150 dX4_unit_21 (hp.1 0 (by decide)) (by have := hp.2.2; omega) (hM p 9 (p + 10) (qref_3_9 (hp.1 0 (by decide)))) ?_
    refine qi_aload_n (i := 0) (x := 3) dX4_unit_24 rfl rfl ?_
    refine qi_getR (x := 4) flX4_12 dX4_unit_25 rfl (by decide) (hM 3 0 4 rfl) ?_
    refine qi_aload_n (i := 0) (x := 3) dX4_unit_28 rfl rfl ?_
    refine qi_getI (x := nI a) flX4_37 dX4_unit_29 rfl (by decide) hat ?_
    refine qi_callPVJ (v := lN (vAt T a)) (K' := kX8_valueAt) (As := [.int (nI a)]) mlX4_207 okX8_valueAt dX4_unit_32 (c_X8_valueAt g hM hTk (by omega)) rfl (by decide) rfl (by decide) rfl rfl (Nat.le_of_ble_eq_true rfl) (hRl (by omega) (Nat.le_of_ble_eq_true rfl)) ⟨Nat.le_refl _, Nat.le_refl _⟩ ?_
    refine qi_l2i dX4_unit_35 ?_
    refine qe_top (y := nI (vAt T a)) (lN_i _) ?_
    refine qi_callVV (K' := kX1_emit) (As := [.int (nI (vAt T a))]) mlX4_193 okX1_emit dX4_unit_36 (c_X1_emit g hpl3 hM hz (by omega) (nI (vAt T a))) (hp.1 10 (by decide)) (by decide) rfl (by have := hp.2.2; omega) rfl rfl (Nat.le_of_ble_eq_true rfl) (hRl (by omega) (Nat.le_of_ble_eq_true rfl)) ⟨Nat.le_refl _, Nat.le_refl _⟩ (fun M1 ⟨e1, e2, e3⟩ => ?_)
    have hK1 := hK.fr e3 (fun b j z => by unfold SEm at z; omega)
    refine qi_aload_n (i := 0) (x := 3) dX4_unit_39 rfl rfl ?_
    refine qi_iconst (v := 3) dX4_unit_40 rfl ?_
    refine qi_callVI (K' := kX4_accept) (As := [.int 3]) mlX4_117 okX4_accept dX4_unit_41 (c_X4_accept g hT hK1 (k := 3) (by decide)) rfl (by decide) rfl (by decide) rfl rfl (Nat.le_of_ble_eq_true rfl) (hRl (by omega) (Nat.le_of_ble_eq_true rfl)) ⟨Nat.le_refl _, Nat.le_refl _⟩ (fun r1 M2 ⟨h1, hf1⟩ => ?_)
    have F2 : qFr (SXe p sz) M M2 := (e3.mono (fun b j z => Or.inr z)).tr (hf1.mono (fun b j z => Or.inl z))
    cases hA : acQ T 3 a with
    | error e =>
      rw [bQ_e hA] at hR
      obtain ⟨q1, q2⟩ := qPo_e hA h1
      refine qe_top (y := 0) q1 ?_
      exact qi_retI rfl (by rfl) dX4_unit_44 (⟨qPo_ie hR.symm ⟨rfl, q2⟩, F2⟩)
    | ok a1 =>
      rw [bQ_o hA] at hR
      obtain ⟨q1, q2⟩ := qPo_o hA h1
      refine qe_top (y := 1) q1 ?_
      exact qi_retI rfl (by rfl) dX4_unit_44 (⟨qPo_io hR.symm ⟨rfl, q2, (hf1.1 _ _ (by unfold SXa; omega)).trans e1, cellA_fr e2 hf1 (fun j _ => by unfold SXa; omega)⟩, F2⟩)
  rw [if_neg h3] at hR
  refine qi_icmp_ne (tgt := 45) dX4_unit_14 (by decide) (fun _hc => ?_) (fun _h => absurd ((nI_eq (a := kAt T a) (b := 3) (by omega) (by omega)).mp _h) (by omega))
  refine qi_iload_n (i := 2) (x := nI (kAt T a)) dX4_unit_45 rfl rfl ?_
  refine qi_sipush (v := 139) dX4_unit_46 rfl ?_
  have VAR : (139 ≤ kAt T a ∧ kAt T a ≤ 144) → qT g kX4_unit (qR (2 * n + 2) 0 0) (qZI g (fun r M' => qPo res (okE p T s N sz) r M' ∧ qFr (SXe p sz) M M')) 59 [some (.ref 3), some (.int (nI (6 - n))), some (.int (nI (kAt T a)))] [] 333 M (0, 0) := by
    intro hv
    rw [if_pos hv] at hR
    refine qi_aload_n (i := 0) (x := 3) dX4_unit_59 rfl rfl ?_
    refine qi_getR (x := p) flX4_33 dX4_unit_60 rfl (by decide) hpl ?_
    refine qi_getR (x := p + 10) flX4_150 dX4_unit_63 (hp.1 0 (by decide)) (by have := hp.2.2; omega) (hM p 9 (p + 10) (qref_3_9 (hp.1 0 (by decide)))) ?_
    refine qi_iconst (v := -1) dX4_unit_66 rfl ?_
    refine qi_iload_n (i := 2) (x := nI (kAt T a)) dX4_unit_67 rfl rfl ?_
    refine qi_sipush (v := 139) dX4_unit_68 rfl ?_
    refine qi_isub dX4_unit_71 ?_
    refine qi_isub dX4_unit_72 ?_
    refine qe_top (y := vaC (kAt T a)) rfl ?_
    refine qi_callVV (K' := kX1_emit) (As := [.int (vaC (kAt T a))]) mlX4_193 okX1_emit dX4_unit_73 (c_X1_emit g hpl3 hM hz (by omega) (vaC (kAt T a))) (hp.1 10 (by decide)) (by decide) rfl (by have := hp.2.2; omega) rfl rfl (Nat.le_of_ble_eq_true rfl) (hRl (by omega) (Nat.le_of_ble_eq_true rfl)) ⟨Nat.le_refl _, Nat.le_refl _⟩ (fun M1 ⟨e1, e2, e3⟩ => ?_)
    have hK1 := hK.fr e3 (fun b j z => by unfold SEm at z; omega)
    refine qi_aload_n (i := 0) (x := 3) dX4_unit_76 rfl rfl ?_
    refine qi_iload_n (i := 2) (x := nI (kAt T a)) dX4_unit_77 rfl rfl ?_
    refine qi_callVI (K' := kX4_accept) (As := [.int (nI (kAt T a))]) mlX4_117 okX4_accept dX4_unit_78 (c_X4_accept g hT hK1 (k := kAt T a) (by omega)) rfl (by decide) rfl (by decide) rfl rfl (Nat.le_of_ble_eq_true rfl) (hRl (by omega) (Nat.le_of_ble_eq_true rfl)) ⟨Nat.le_refl _, Nat.le_refl _⟩ (fun r1 M2 ⟨h1, hf1⟩ => ?_)
    have F2 : qFr (SXe p sz) M M2 := (e3.mono (fun b j z => Or.inr z)).tr (hf1.mono (fun b j z => Or.inl z))
    cases hA : acQ T (kAt T a) a with
    | error e =>
      rw [bQ_e hA] at hR
      obtain ⟨q1, q2⟩ := qPo_e hA h1
      refine qe_top (y := 0) q1 ?_
      exact qi_retI rfl (by rfl) dX4_unit_81 (⟨qPo_ie hR.symm ⟨rfl, q2⟩, F2⟩)
    | ok a1 =>
      rw [bQ_o hA] at hR
      obtain ⟨q1, q2⟩ := qPo_o hA h1
      refine qe_top (y := 1) q1 ?_
      exact qi_retI rfl (by rfl) dX4_unit_81 (⟨qPo_io hR.symm ⟨rfl, q2, (hf1.1 _ _ (by unfold SXa; omega)).trans e1, cellA_fr e2 hf1 (fun j _ => by unfold SXa; omega)⟩, F2⟩)
  have OTH : ¬ (139 ≤ kAt T a ∧ kAt T a ≤ 144) → qT g kX4_unit (qR (2 * n + 2) 0 0) (qZI g (fun r M' => qPo res (okE p T s N sz) r M' ∧ qFr (SXe p sz) M M')) 82 [some (.ref 3), some (.int (nI (6 - n))), some (.int (nI (kAt T a)))] [] 333 M (0, 0) := by
    intro hv
    rw [if_neg hv] at hR
    have ACC : ∀ S, (kAt T a = 40 → bQ (acQ T 40 a) (fun a1 => bQ (exQ T S a1) (fun r => bQ (acQ T 41 r.1) (fun a3 => .ok (a3, r.2)))) = res ∧ n = S + 1) → (¬ kAt T a = 40 → .error (1, a) = res) → qT g kX4_unit (qR (2 * n + 2) 0 0) (qZI g (fun r M' => qPo res (okE p T s N sz) r M' ∧ qFr (SXe p sz) M M')) 100 [some (.ref 3), some (.int (nI (6 - n))), some (.int (nI (kAt T a)))] [] 333 M (0, 0) := by
      intro k hy hn2
      refine qi_aload_n (i := 0) (x := 3) dX4_unit_100 rfl rfl ?_
      refine qi_bipush (v := 40) dX4_unit_101 rfl ?_
      refine qi_callVI (K' := kX4_accept) (As := [.int 40]) mlX4_117 okX4_accept dX4_unit_103 (c_X4_accept g hT hK (k := 40) (by decide)) rfl (by decide) rfl (by decide) rfl rfl (Nat.le_of_ble_eq_true rfl) (hRl (by omega) (Nat.le_of_ble_eq_true rfl)) ⟨Nat.le_refl _, Nat.le_refl _⟩ (fun r1 M1 ⟨h1, hf1⟩ => ?_)
      cases hA : acQ T 40 a with
      | error e =>
        obtain ⟨q1, q2⟩ := qPo_e hA h1
        have hR2 : .error e = res := by
          by_cases h40 : kAt T a = 40
          · rw [← (hy h40).1, bQ_e hA]
          · have hA2 := hA
            unfold acQ at hA2
            rw [if_pos h40] at hA2
            cases hA2
            exact hn2 h40
        refine qi_if_eq (tgt := 132) dX4_unit_106 (by decide) (fun z => ?_) (fun z => False.elim ((z q1)))
        refine qi_iconst (v := 0) dX4_unit_132 rfl ?_
        exact qi_retI rfl (by rfl) dX4_unit_133 (⟨qPo_ie hR2.symm ⟨rfl, q2⟩, FA hf1⟩)
      | ok a1 =>
        obtain ⟨q1, q2⟩ := qPo_o hA h1
        obtain ⟨i1, i2, i3⟩ := ac_ok hA
        obtain ⟨hR2, hnk⟩ := hy i3
        rw [bQ_o hA] at hR2
        refine qi_if_eq (tgt := 132) dX4_unit_106 (by decide) (fun z => False.elim ((q10 q1 z))) (fun z => ?_)
        refine qi_aload_n (i := 0) (x := 3) dX4_unit_109 rfl rfl ?_
        refine qi_iload_n (i := 1) (x := nI (6 - n)) dX4_unit_110 rfl rfl ?_
        refine qi_iconst (v := 1) dX4_unit_111 rfl ?_
        refine qi_iadd dX4_unit_112 ?_
        refine qe_top (y := nI (6 - k)) (by rw [show (1 : Int32) = nI 1 from rfl, nI_add]; congr 1; omega) ?_
        refine qi_callVI (K' := kX4_sum) (As := [.int (nI (6 - k))]) mlX4_190 okX4_sum dX4_unit_113 (hS k hnk M1 a1 sz q2 ((hf1.1 _ _ (by unfold SXa; omega)).trans hz) (by omega)) rfl (by decide) rfl (by decide) rfl rfl (Nat.le_of_ble_eq_true rfl) (hRl (by omega) (Nat.le_of_ble_eq_true rfl)) ⟨Nat.le_refl _, Nat.le_refl _⟩ (fun r2 M2 ⟨h2, hf2⟩ => ?_)
        have F2 : qFr (SXe p sz) M M2 := (FA hf1).tr hf2
        cases hB : exQ T k a1 with
        | error e =>
          rw [bQ_e hB] at hR2
          obtain ⟨q3, q4⟩ := qPo_e hB h2
          refine qi_if_eq (tgt := 132) dX4_unit_116 (by decide) (fun z => ?_) (fun z => False.elim ((z q3)))
          refine qi_iconst (v := 0) dX4_unit_132 rfl ?_
          exact qi_retI rfl (by rfl) dX4_unit_133 (⟨qPo_ie hR2.symm ⟨rfl, q4⟩, F2⟩)
        | ok v =>
          rw [bQ_o hB] at hR2
          obtain ⟨q3, q4, q5, q6⟩ := qPo_o hB h2
          refine qi_if_eq (tgt := 132) dX4_unit_116 (by decide) (fun z => False.elim ((q10 q3 z))) (fun z => ?_)
          refine qi_aload_n (i := 0) (x := 3) dX4_unit_119 rfl rfl ?_
          refine qi_bipush (v := 41) dX4_unit_120 rfl ?_
          refine qi_callVI (K' := kX4_accept) (As := [.int 41]) mlX4_117 okX4_accept dX4_unit_122 (c_X4_accept g hT q4 (k := 41) (by decide)) rfl (by decide) rfl (by decide) rfl rfl (Nat.le_of_ble_eq_true rfl) (hRl (by omega) (Nat.le_of_ble_eq_true rfl)) ⟨Nat.le_refl _, Nat.le_refl _⟩ (fun r3 M3 ⟨h3, hf3⟩ => ?_)
          have F3 : qFr (SXe p sz) M M3 := F2.tr (hf3.mono (fun b j z => Or.inl z))
          cases hC : acQ T 41 v.1 with
          | error e =>
            rw [bQ_e hC] at hR2
            obtain ⟨q7, q8⟩ := qPo_e hC h3
            refine qi_if_eq (tgt := 132) dX4_unit_125 (by decide) (fun z => ?_) (fun z => False.elim ((z q7)))
            refine qi_iconst (v := 0) dX4_unit_132 rfl ?_
            exact qi_retI rfl (by rfl) dX4_unit_133 (⟨qPo_ie hR2.symm ⟨rfl, q8⟩, F3⟩)
          | ok a3 =>
            rw [bQ_o hC] at hR2
            obtain ⟨q7, q8⟩ := qPo_o hC h3
            refine qi_if_eq (tgt := 132) dX4_unit_125 (by decide) (fun z => False.elim ((q10 q7 z))) (fun z => ?_)
            refine qi_iconst (v := 1) dX4_unit_128 rfl ?_
            refine qi_goto (tgt := 133) dX4_unit_129 (by decide) ?_
            exact qi_retI rfl (by rfl) dX4_unit_133 (⟨qPo_io hR2.symm ⟨rfl, q8, (hf3.1 _ _ (by unfold SXa; omega)).trans q5, cellA_fr q6 hf3 (fun j _ => by unfold SXa; omega)⟩, F3⟩)
    refine qi_iload_n (i := 2) (x := nI (kAt T a)) dX4_unit_82 rfl rfl ?_
    refine qi_bipush (v := 40) dX4_unit_83 rfl ?_
    by_cases h40 : kAt T a = 40
    ·
      rw [if_pos h40] at hR
      refine qi_icmp_ne (tgt := 100) dX4_unit_85 (by decide) (fun _h => absurd ((nI_eq (a := kAt T a) (b := 40) (by omega) (by omega)).mpr (by omega)) _h) (fun _hc => ?_)
      refine qi_iload_n (i := 1) (x := nI (6 - n)) dX4_unit_88 rfl rfl ?_
      refine qi_bipush (v := 6) dX4_unit_89 rfl ?_
      cases hn0 : n with
      | zero =>
        rw [hn0] at hR
        subst hn0
        refine qi_icmp_lt (tgt := 100) dX4_unit_91 (by decide) (fun _h => absurd ((nI_ltI (a := 6 - 0) (b := 6) (by omega) (by omega)).mp _h) (by omega)) (fun _hc => ?_)
        refine qi_aload_n (i := 0) (x := 3) dX4_unit_94 rfl rfl ?_
        refine qi_iconst (v := 2) dX4_unit_95 rfl ?_
        refine qi_callVI (K' := kX4_refuse) (As := [.int 2]) mlX4_90 okX4_refuse dX4_unit_96 (c_X4_refuse g 2) rfl (by decide) rfl (by decide) rfl rfl (Nat.le_of_ble_eq_true rfl) (hRl (by omega) (Nat.le_of_ble_eq_true rfl)) ⟨Nat.le_refl _, Nat.le_refl _⟩ (fun r1 M1 ⟨e1, e2⟩ => ?_)
        refine qe_top (y := 0) e1 ?_
        exact qi_retI rfl (by rfl) dX4_unit_99 (⟨qPo_ie hR.symm ⟨rfl, by rw [e2]; exact ⟨wI_s _ _ _ _, (wI_k (by decide)).trans hat⟩⟩, by rw [e2]; exact qFr.rf.wI (Or.inl ⟨rfl, Or.inr rfl⟩)⟩)
      | succ k =>
        rw [hn0] at hR
        subst hn0
        refine qi_icmp_lt (tgt := 100) dX4_unit_91 (by decide) (fun _hc => ?_) (fun _h => absurd ((nI_ltI (a := 6 - (k + 1)) (b := 6) (by omega) (by omega)).mpr (by omega)) _h)
        exact ACC k (fun _ => ⟨hR, rfl⟩) (fun z => absurd h40 z)
    ·
      rw [if_neg h40] at hR
      refine qi_icmp_ne (tgt := 100) dX4_unit_85 (by decide) (fun _hc => ?_) (fun _h => absurd ((nI_eq (a := kAt T a) (b := 40) (by omega) (by omega)).mp _h) (by omega))
      exact ACC 0 (fun z => absurd z h40) (fun _ => hR)
  by_cases h139 : 139 ≤ kAt T a
  ·
    refine qi_icmp_lt (tgt := 82) dX4_unit_49 (by decide) (fun _h => absurd ((nI_ltI (a := kAt T a) (b := 139) (by omega) (by omega)).mp _h) (by omega)) (fun _hc => ?_)
    refine qi_iload_n (i := 2) (x := nI (kAt T a)) dX4_unit_52 rfl rfl ?_
    refine qi_sipush (v := 144) dX4_unit_53 rfl ?_
    by_cases h144 : kAt T a ≤ 144
    ·
      refine qi_icmp_gt (tgt := 82) dX4_unit_56 (by decide) (fun _h => absurd ((nI_ltI (a := 144) (b := kAt T a) (by omega) (by omega)).mp _h) (by omega)) (fun _hc => ?_)
      exact VAR ⟨h139, h144⟩
    ·
      exact absurd hka h144
  ·
    refine qi_icmp_lt (tgt := 82) dX4_unit_49 (by decide) (fun _hc => ?_) (fun _h => absurd ((nI_ltI (a := kAt T a) (b := 139) (by omega) (by omega)).mpr (by omega)) _h)
    exact OTH (fun z => h139 z.1)
theorem c_X4_sumS (g : qG) {T : qTk} (hT : okTk T) {p : Nat} (hp : qIsP p) {s : Nat × Nat} {N : qNm} {n : Nat} (hn : n ≤ 6) (hS : ∀ k, n = k + 1 → sumC g T p s N k) : sumC g T p s N n := by
  intro M a0 sz hK0 hz0 hsz0
  generalize hR : exQ T n a0 = res
  rw [exQ_s] at hR
  have hU : ∀ a r, unQ T (exS T n) a = .ok r → a < r.1 ∧ r.1 ≤ 400 ∧ r.2.length + a ≤ r.1 := by
    intro a r h
    have := un_ok (n := n) hT (S := exS T n) (fun F z => by
      cases hn0 : n with
      | zero => rw [hn0] at z; cases z
      | succ k => rw [hn0] at z; cases z; exact ⟨by omega, fun a r h => ex_ok hT k a r h⟩) h
    exact ⟨this.1, this.2.1, this.2.2.1⟩
  have hla := hp.2.1
  have hlb := hp.2.2
  have hpl3 : qIsL (p + 10) := hp.l
  have K : ∀ m u a ad mu acc M1 x5, u + m = 401 → 401 ≤ a + m → qXK M1 p T a s N → M1.1 (p + 10) 6 = nI (sz + acc.length) → cellA (M1.1 (p + 10 + 1)) sz acc → sz + acc.length + pdN ad + pdN mu ≤ a → opK ad → opK mu → qFr (SXe p sz) M M1 → loQ T (unQ T (exS T n)) m a ad mu acc = res → qT g kX4_sum (qR (2 * n + 3) 0 0) (qZI g (fun r M' => qPo res (okE p T s N sz) r M' ∧ qFr (SXe p sz) M M')) 7 [some (.ref 3), some (.int (nI (6 - n))), some (.int (nI ad)), some (.int (nI mu)), some (.int (nI u)), x5] [] 333 M1 (0, 0) := by
    intro m
    induction m with
    | zero =>
      intro u a ad mu acc M1 x5 e1 e2 hK
      have := hK.2.1.1
      omega
    | succ m ih =>
      intro u a ad mu acc M1 x5 e1 e2 hK hz hc hb had hmu hf hL
      rw [loQ_s] at hL
      have ha := hK.2.1.1
      refine qi_iload (i := 4) (x := nI u) dX4_sum_7 rfl ?_
      refine qi_sipush (v := 400) dX4_sum_9 rfl ?_
      refine qi_icmp_gt (tgt := 132) dX4_sum_12 (by decide) (fun _h => absurd ((nI_ltI (a := 400) (b := u) (by omega) (by omega)).mp _h) (by omega)) (fun _hc => ?_)
      refine qi_aload_n (i := 0) (x := 3) dX4_sum_15 rfl rfl ?_
      refine qi_iload_n (i := 1) (x := nI (6 - n)) dX4_sum_16 rfl rfl ?_
      refine qi_callVI (K' := kX4_unit) (As := [.int (nI (6 - n))]) mlX4_201 okX4_unit dX4_sum_17 (c_X4_unit g hT hp hn hS hK hz (by omega)) rfl (by decide) rfl (by decide) rfl rfl (Nat.le_of_ble_eq_true rfl) (hRl (by omega) (Nat.le_of_ble_eq_true rfl)) ⟨Nat.le_refl _, Nat.le_refl _⟩ (fun r1 M2 ⟨h1, hf1⟩ => ?_)
      have F2 : qFr (SXe p sz) M M2 := hf.tr (hf1.mono (fun b j z => SXe_m (Nat.le_add_right _ _) z))
      cases hA : unQ T (exS T n) a with
      | error e =>
        rw [bQ_e hA] at hL
        obtain ⟨q1, q2⟩ := qPo_e hA h1
        refine qi_if_ne (tgt := 25) dX4_sum_20 (by decide) (fun z => False.elim ((z q1))) (fun z => ?_)
        refine qi_iconst (v := 0) dX4_sum_23 rfl ?_
        exact qi_retI rfl (by rfl) dX4_sum_24 (⟨qPo_ie hL.symm ⟨rfl, q2⟩, F2⟩)
      | ok v =>
        rw [bQ_o hA] at hL
        obtain ⟨q1, q2, q3, q4⟩ := qPo_o hA h1
        obtain ⟨u1, u2, u3⟩ := hU a v hA
        have cv : cellA (M2.1 (p + 10 + 1)) sz (acc ++ v.2) := cellA_a.mpr ⟨cellA_fr hc hf1 (fun j hj => by unfold SXe SXa SEm; omega), q4⟩
        have sm := (sg_wf (x := 0) hmu).2
        have sa := (sg_wf (x := 0) had).2
        obtain ⟨⟨hM2, hpl2, hTk2⟩, ⟨hv4, hat2, -⟩, -⟩ := id q2
        refine qi_if_ne (tgt := 25) dX4_sum_20 (by decide) (fun z => ?_) (fun z => False.elim ((q10 q1 z)))
        refine qi_aload_n (i := 0) (x := 3) dX4_sum_25 rfl rfl ?_
        refine qi_getR (x := p) flX4_33 dX4_sum_26 rfl (by decide) hpl2 ?_
        refine qi_getR (x := p + 10) flX4_150 dX4_sum_29 (hp.1 0 (by decide)) (by have := hp.2.2; omega) (hM2 p 9 (p + 10) (qref_3_9 (hp.1 0 (by decide)))) ?_
        refine qi_iload_n (i := 3) (x := nI mu) dX4_sum_32 rfl rfl ?_
        refine qi_callVV (K' := kX1_emitSign) (As := [.int (nI mu)]) mlX4_204 okX1_emitSign dX4_sum_33 (c_X1_emitSign g hpl3 hM2 q3 (by omega) hmu) (hp.1 10 (by decide)) (by decide) rfl (by have := hp.2.2; omega) rfl rfl (Nat.le_of_ble_eq_true rfl) (hRl (by omega) (Nat.le_of_ble_eq_true rfl)) ⟨Nat.le_refl _, Nat.le_refl _⟩ (fun M3 ⟨e3, e4, e5⟩ => ?_)
        have hK3 := q2.fr e5 (fun b j z => by unfold SEm at z; omega)
        have F3 : qFr (SXe p sz) M M3 := F2.tr (e5.mono (fun b j z => SXe_m (sz2 := sz + acc.length + v.2.length) (by omega) (Or.inr z)))
        have cv3 : cellA (M3.1 (p + 10 + 1)) sz (acc ++ v.2 ++ sgL mu) := cellA_a.mpr ⟨cellA_fr cv e5 (fun j hj => by rw [List.length_append] at hj; unfold SEm; omega), by rw [List.length_append, ← Nat.add_assoc]; exact e4⟩
        have l3 : (acc ++ v.2 ++ sgL mu).length = acc.length + v.2.length + pdN mu := by rw [List.length_append, List.length_append]; rfl
        have z3 : M3.1 (p + 10) 6 = nI (sz + (acc ++ v.2 ++ sgL mu).length) := by rw [e3, l3]; congr 1; omega
        obtain ⟨⟨hM3, hpl3b, hTk3⟩, ⟨-, hat3, -⟩, -⟩ := id hK3
        have hka := kAt_le hT v.1
        generalize hkk : kAt T v.1 = k at *
        have ACC : ∀ ad' mu' acc' M4, opK ad' → opK mu' → qXK M4 p T v.1 s N → M4.1 (p + 10) 6 = nI (sz + acc'.length) → cellA (M4.1 (p + 10 + 1)) sz acc' → sz + acc'.length + pdN ad' + pdN mu' ≤ v.1 + 1 → qFr (SXe p sz) M M4 → bQ (acQ T k v.1) (fun a2 => loQ T (unQ T (exS T n)) m a2 ad' mu' acc') = res → qT g kX4_sum (qR (2 * n + 3) 0 0) (qZI g (fun r M' => qPo res (okE p T s N sz) r M' ∧ qFr (SXe p sz) M M')) 115 [some (.ref 3), some (.int (nI (6 - n))), some (.int (nI ad')), some (.int (nI mu')), some (.int (nI u)), some (.int (nI k))] [] 333 M4 (0, 0) := by
          intro ad' mu' acc' M4 had' hmu' hK4 hz4 hc4 hb4 hf4 hL4
          refine qi_aload_n (i := 0) (x := 3) dX4_sum_115 rfl rfl ?_
          refine qi_iload (i := 5) (x := nI k) dX4_sum_116 rfl ?_
          refine qi_callVI (K' := kX4_accept) (As := [.int (nI k)]) mlX4_117 okX4_accept dX4_sum_118 (c_X4_accept g hT hK4 (k := k) hka) rfl (by decide) rfl (by decide) rfl rfl (Nat.le_of_ble_eq_true rfl) (hRl (by omega) (Nat.le_of_ble_eq_true rfl)) ⟨Nat.le_refl _, Nat.le_refl _⟩ (fun r5 M5 ⟨h5, hf5⟩ => ?_)
          have F5 : qFr (SXe p sz) M M5 := hf4.tr (hf5.mono (fun b j z => Or.inl z))
          cases hB : acQ T k v.1 with
          | error e =>
            rw [bQ_e hB] at hL4
            obtain ⟨q1, q2⟩ := qPo_e hB h5
            refine qi_if_ne (tgt := 126) dX4_sum_121 (by decide) (fun z => False.elim ((z q1))) (fun z => ?_)
            refine qi_iconst (v := 0) dX4_sum_124 rfl ?_
            exact qi_retI rfl (by rfl) dX4_sum_125 (⟨qPo_ie hL4.symm ⟨rfl, q2⟩, F5⟩)
          | ok a2 =>
            rw [bQ_o hB] at hL4
            obtain ⟨q1, q2⟩ := qPo_o hB h5
            obtain ⟨i1, i2, i3⟩ := ac_ok hB
            refine qi_if_ne (tgt := 126) dX4_sum_121 (by decide) (fun z => ?_) (fun z => False.elim ((q10 q1 z)))
            refine qi_iinc (i := 4) (x := nI u) (v := nI (u + 1)) (L2 := [some (.ref 3), some (.int (nI (6 - n))), some (.int (nI ad')), some (.int (nI mu')), some (.int (nI (u + 1))), some (.int (nI k))]) dX4_sum_126 rfl (nI_1 u) (Nat.le_of_ble_eq_true rfl) rfl ?_
            refine qi_goto (tgt := 7) dX4_sum_129 (by decide) ?_
            exact ih (u + 1) a2 ad' mu' acc' M5 _ (by omega) (by omega) q2 ((hf5.1 _ _ (by unfold SXa; omega)).trans hz4) (cellA_fr hc4 hf5 (fun j _ => by unfold SXa; omega)) (by omega) had' hmu' F5 hL4
        refine qi_iconst (v := 0) dX4_sum_36 rfl ?_
        refine qi_istore_n (i := 3) (L2 := [some (.ref 3), some (.int (nI (6 - n))), some (.int (nI ad)), some (.int 0), some (.int (nI u)), x5]) dX4_sum_37 rfl (Nat.le_of_ble_eq_true rfl) rfl ?_
        refine qi_aload_n (i := 0) (x := 3) dX4_sum_38 rfl rfl ?_
        refine qi_getR (x := 4) flX4_12 dX4_sum_39 rfl (by decide) (hM3 3 0 4 rfl) ?_
        refine qi_aload_n (i := 0) (x := 3) dX4_sum_42 rfl rfl ?_
        refine qi_getI (x := nI v.1) flX4_37 dX4_sum_43 rfl (by decide) hat3 ?_
        refine qi_callPVI (v := nI (kAt T v.1)) (K' := kX8_kindAt) (As := [.int (nI v.1)]) mlX4_64 okX8_kindAt dX4_sum_46 (c_X8_kindAt g hM3 hTk3 (by omega)) rfl (by decide) rfl (by decide) rfl rfl (Nat.le_of_ble_eq_true rfl) (hRl (by omega) (Nat.le_of_ble_eq_true rfl)) ⟨Nat.le_refl _, Nat.le_refl _⟩ ?_
        refine qe_top (y := nI k) (by rw [hkk]) ?_
        refine qi_istore (i := 5) (L2 := [some (.ref 3), some (.int (nI (6 - n))), some (.int (nI ad)), some (.int 0), some (.int (nI u)), some (.int (nI k))]) dX4_sum_49 (Nat.le_of_ble_eq_true rfl) rfl ?_
        have MU : (k = 42 ∨ k = 47) → qT g kX4_sum (qR (2 * n + 3) 0 0) (qZI g (fun r M' => qPo res (okE p T s N sz) r M' ∧ qFr (SXe p sz) M M')) 65 [some (.ref 3), some (.int (nI (6 - n))), some (.int (nI ad)), some (.int 0), some (.int (nI u)), some (.int (nI k))] [] 333 M3 (0, 0) := by
          intro hk
          rw [if_pos hk] at hL
          have p1 : pdN k = 1 := by rcases hk with h | h <;> rw [h] <;> rfl
          have A := ACC ad k _ M3 had (by rcases hk with h | h <;> rw [h] <;> decide) hK3 z3 cv3 (by omega) F3 hL
          refine qi_iload (i := 5) (x := nI k) dX4_sum_65 rfl ?_
          refine qi_istore_n (i := 3) (L2 := [some (.ref 3), some (.int (nI (6 - n))), some (.int (nI ad)), some (.int (nI k)), some (.int (nI u)), some (.int (nI k))]) dX4_sum_67 rfl (Nat.le_of_ble_eq_true rfl) rfl ?_
          refine qi_goto (tgt := 85) dX4_sum_68 (by decide) ?_
          refine qi_iload (i := 5) (x := nI k) dX4_sum_85 rfl ?_
          refine qi_bipush (v := 42) dX4_sum_87 rfl ?_
          by_cases h42 : k = 42
          ·
            refine qi_icmp_eq (tgt := 115) dX4_sum_89 (by decide) (fun _hc => ?_) (fun _h => absurd ((nI_eq (a := k) (b := 42) (by omega) (by omega)).mpr (by omega)) _h)
            exact A
          ·
            refine qi_icmp_eq (tgt := 115) dX4_sum_89 (by decide) (fun _h => absurd ((nI_eq (a := k) (b := 42) (by omega) (by omega)).mp _h) (by omega)) (fun _hc => ?_)
            refine qi_iload (i := 5) (x := nI k) dX4_sum_92 rfl ?_
            refine qi_bipush (v := 47) dX4_sum_94 rfl ?_
            refine qi_icmp_eq (tgt := 115) dX4_sum_96 (by decide) (fun _hc => ?_) (fun _h => absurd ((nI_eq (a := k) (b := 47) (by omega) (by omega)).mpr (by omega)) _h)
            exact A
        have AD : ¬ (k = 42 ∨ k = 47) → qT g kX4_sum (qR (2 * n + 3) 0 0) (qZI g (fun r M' => qPo res (okE p T s N sz) r M' ∧ qFr (SXe p sz) M M')) 71 [some (.ref 3), some (.int (nI (6 - n))), some (.int (nI ad)), some (.int 0), some (.int (nI u)), some (.int (nI k))] [] 333 M3 (0, 0) := by
          intro hk
          rw [if_neg hk] at hL
          refine qi_aload_n (i := 0) (x := 3) dX4_sum_71 rfl rfl ?_
          refine qi_getR (x := p) flX4_33 dX4_sum_72 rfl (by decide) hpl3b ?_
          refine qi_getR (x := p + 10) flX4_150 dX4_sum_75 (hp.1 0 (by decide)) (by have := hp.2.2; omega) (hM3 p 9 (p + 10) (qref_3_9 (hp.1 0 (by decide)))) ?_
          refine qi_iload_n (i := 2) (x := nI ad) dX4_sum_78 rfl rfl ?_
          refine qi_callVV (K' := kX1_emitSign) (As := [.int (nI ad)]) mlX4_204 okX1_emitSign dX4_sum_79 (c_X1_emitSign g hpl3 hM3 z3 (by omega) had) (hp.1 10 (by decide)) (by decide) rfl (by have := hp.2.2; omega) rfl rfl (Nat.le_of_ble_eq_true rfl) (hRl (by omega) (Nat.le_of_ble_eq_true rfl)) ⟨Nat.le_refl _, Nat.le_refl _⟩ (fun M4 ⟨e6, e7, e8⟩ => ?_)
          have hK4 := hK3.fr e8 (fun b j z => by unfold SEm at z; omega)
          have F4 : qFr (SXe p sz) M M4 := F3.tr (e8.mono (fun b j z => SXe_m (sz2 := sz + (acc ++ v.2 ++ sgL mu).length) (by omega) (Or.inr z)))
          have cv4 : cellA (M4.1 (p + 10 + 1)) sz (acc ++ v.2 ++ sgL mu ++ sgL ad) := cellA_a.mpr ⟨cellA_fr cv3 e8 (fun j hj => by unfold SEm; omega), e7⟩
          have l4 : (acc ++ v.2 ++ sgL mu ++ sgL ad).length = acc.length + v.2.length + pdN mu + pdN ad := by rw [List.length_append, l3]; rfl
          have z4 : M4.1 (p + 10) 6 = nI (sz + (acc ++ v.2 ++ sgL mu ++ sgL ad).length) := by rw [e6, l3, l4]; congr 1; omega
          refine qi_iload (i := 5) (x := nI k) dX4_sum_82 rfl ?_
          refine qi_istore_n (i := 2) (L2 := [some (.ref 3), some (.int (nI (6 - n))), some (.int (nI k)), some (.int 0), some (.int (nI u)), some (.int (nI k))]) dX4_sum_84 rfl (Nat.le_of_ble_eq_true rfl) rfl ?_
          refine qi_iload (i := 5) (x := nI k) dX4_sum_85 rfl ?_
          refine qi_bipush (v := 42) dX4_sum_87 rfl ?_
          refine qi_icmp_eq (tgt := 115) dX4_sum_89 (by decide) (fun _h => absurd ((nI_eq (a := k) (b := 42) (by omega) (by omega)).mp _h) (by omega)) (fun _hc => ?_)
          refine qi_iload (i := 5) (x := nI k) dX4_sum_92 rfl ?_
          refine qi_bipush (v := 47) dX4_sum_94 rfl ?_
          refine qi_icmp_eq (tgt := 115) dX4_sum_96 (by decide) (fun _h => absurd ((nI_eq (a := k) (b := 47) (by omega) (by omega)).mp _h) (by omega)) (fun _hc => ?_)
          refine qi_iload (i := 5) (x := nI k) dX4_sum_99 rfl ?_
          refine qi_bipush (v := 43) dX4_sum_101 rfl ?_
          by_cases h43 : k = 43
          ·
            rw [if_pos (Or.inl h43)] at hL
            refine qi_icmp_eq (tgt := 115) dX4_sum_103 (by decide) (fun _hc => ?_) (fun _h => absurd ((nI_eq (a := k) (b := 43) (by omega) (by omega)).mpr (by omega)) _h)
            have p1 : pdN k = 1 := by rw [h43]; rfl
            have p0 : pdN 0 = 0 := rfl
            exact ACC k 0 _ M4 (by rw [h43]; decide) (Or.inl rfl) hK4 z4 cv4 (by omega) F4 hL
          refine qi_icmp_eq (tgt := 115) dX4_sum_103 (by decide) (fun _h => absurd ((nI_eq (a := k) (b := 43) (by omega) (by omega)).mp _h) (by omega)) (fun _hc => ?_)
          refine qi_iload (i := 5) (x := nI k) dX4_sum_106 rfl ?_
          refine qi_bipush (v := 45) dX4_sum_108 rfl ?_
          by_cases h45 : k = 45
          ·
            rw [if_pos (Or.inr h45)] at hL
            refine qi_icmp_eq (tgt := 115) dX4_sum_110 (by decide) (fun _hc => ?_) (fun _h => absurd ((nI_eq (a := k) (b := 45) (by omega) (by omega)).mpr (by omega)) _h)
            have p1 : pdN k = 1 := by rw [h45]; rfl
            have p0 : pdN 0 = 0 := rfl
            exact ACC k 0 _ M4 (by rw [h45]; decide) (Or.inl rfl) hK4 z4 cv4 (by omega) F4 hL
          rw [if_neg (by omega)] at hL
          refine qi_icmp_eq (tgt := 115) dX4_sum_110 (by decide) (fun _h => absurd ((nI_eq (a := k) (b := 45) (by omega) (by omega)).mp _h) (by omega)) (fun _hc => ?_)
          refine qi_iconst (v := 1) dX4_sum_113 rfl ?_
          exact qi_retI rfl (by rfl) dX4_sum_114 (⟨qPo_io hL.symm ⟨rfl, hK4, z4, cv4⟩, F4⟩)
        refine qi_iload (i := 5) (x := nI k) dX4_sum_51 rfl ?_
        refine qi_bipush (v := 42) dX4_sum_53 rfl ?_
        by_cases h42 : k = 42
        ·
          refine qi_icmp_eq (tgt := 65) dX4_sum_55 (by decide) (fun _hc => ?_) (fun _h => absurd ((nI_eq (a := k) (b := 42) (by omega) (by omega)).mpr (by omega)) _h)
          exact MU (Or.inl h42)
        refine qi_icmp_eq (tgt := 65) dX4_sum_55 (by decide) (fun _h => absurd ((nI_eq (a := k) (b := 42) (by omega) (by omega)).mp _h) (by omega)) (fun _hc => ?_)
        refine qi_iload (i := 5) (x := nI k) dX4_sum_58 rfl ?_
        refine qi_bipush (v := 47) dX4_sum_60 rfl ?_
        by_cases h47 : k = 47
        ·
          refine qi_icmp_ne (tgt := 71) dX4_sum_62 (by decide) (fun _h => absurd ((nI_eq (a := k) (b := 47) (by omega) (by omega)).mpr (by omega)) _h) (fun _hc => ?_)
          exact MU (Or.inr h47)
        refine qi_icmp_ne (tgt := 71) dX4_sum_62 (by decide) (fun _hc => ?_) (fun _h => absurd ((nI_eq (a := k) (b := 47) (by omega) (by omega)).mp _h) (by omega))
        exact AD (by omega)
  refine qI.of (j := 4) (pn_RX4) rfl ?_
  show qT g kX4_sum (qR (2 * n + 3) 0 0) (qZI g (fun r M' => qPo res (okE p T s N sz) r M' ∧ qFr (SXe p sz) M M')) 0 [some (.ref 3), some (.int (nI (6 - n))), none, none, none, none] [] 333 M (0, 0)
  refine qi_iconst (v := 0) dX4_sum_0 rfl ?_
  refine qi_istore_n (i := 2) (L2 := [some (.ref 3), some (.int (nI (6 - n))), some (.int 0), none, none, none]) dX4_sum_1 rfl (Nat.le_of_ble_eq_true rfl) rfl ?_
  refine qi_iconst (v := 0) dX4_sum_2 rfl ?_
  refine qi_istore_n (i := 3) (L2 := [some (.ref 3), some (.int (nI (6 - n))), some (.int 0), some (.int 0), none, none]) dX4_sum_3 rfl (Nat.le_of_ble_eq_true rfl) rfl ?_
  refine qi_iconst (v := 0) dX4_sum_4 rfl ?_
  refine qi_istore (i := 4) (L2 := [some (.ref 3), some (.int (nI (6 - n))), some (.int 0), some (.int 0), some (.int 0), none]) dX4_sum_5 (Nat.le_of_ble_eq_true rfl) rfl ?_
  have p0 : pdN 0 = 0 := rfl
  exact K 401 0 a0 0 0 [] M _ rfl (by omega) hK0 hz0 cellA_n (by show sz + 0 + pdN 0 + pdN 0 ≤ a0; omega) (Or.inl rfl) (Or.inl rfl) qFr.rf hR
theorem c_X4_sum (g : qG) {T : qTk} (hT : okTk T) {p : Nat} (hp : qIsP p) {s : Nat × Nat} {N : qNm} : ∀ n, n ≤ 6 → sumC g T p s N n
  | 0, _ => c_X4_sumS g hT hp (by decide) (fun k h => absurd h (by omega))
  | n + 1, h => c_X4_sumS g hT hp h (fun k e => by
    obtain rfl : n = k := by omega
    exact c_X4_sum g hT hp n (by omega))
