/-! the class's tells -/
theorem op_ok {T : qTk} {k n m a a1 : Nat} (h : opQ T k n m a = .ok a1) : a1 = a + 1 ∧ a < 400 ∧ kAt T a = k ∧ n < m := by
  unfold opQ at h
  split at h
  · cases h
  · obtain ⟨h1, h2, h3⟩ := ac_ok h
    exact ⟨h1, h2, h3, by omega⟩
theorem op_er {T : qTk} {k n m a : Nat} (ha : a ≤ 400) {e : qE} (h : opQ T k n m a = .error e) : erOk a e := by
  unfold opQ at h
  split at h
  · cases h
    exact ⟨Or.inr rfl, ha, Nat.le_refl _⟩
  · exact ac_erOk ha h
theorem nu_ok {T : qTk} {lo hi a : Nat} {s : Nat × Nat} {v : Nat × (Nat × Nat) × Nat} (h : nuQ T lo hi a s = .ok v) : v.1 = a + 1 ∧ a < 400 ∧ kAt T a = 3 ∧ v.2.1 = nuS s lo hi (vAt T a) a ∧ v.2.2 = vAt T a := by
  obtain ⟨a1, h1, h2⟩ := bQ_inv h
  obtain ⟨e1, e2, e3⟩ := ac_ok h1
  cases h2
  exact ⟨e1, e2, e3, rfl, rfl⟩
theorem nu_er {T : qTk} {lo hi a : Nat} {s : Nat × Nat} (ha : a ≤ 400) {e : qE} (h : nuQ T lo hi a s = .error e) : erOk a e := by
  rcases bQ_inv2 h with h | ⟨v, -, h⟩
  · exact ac_erOk ha h
  · cases h
theorem nn_ok {T : qTk} {k n a : Nat} {s : Nat × Nat} {N : qNm} {v : Nat × (Nat × Nat) × qNm} (h : nnQ T k n a s N = .ok v) : v.1 = a + 1 ∧ a < 400 ∧ kAt T a = 2 ∧ v = nnV N (vAt T a) k n a (a + 1) s := by
  obtain ⟨a1, h1, h2⟩ := bQ_inv h
  obtain ⟨e1, e2, e3⟩ := ac_ok h1
  cases h2
  refine ⟨?_, e2, e3, by rw [e1]⟩
  unfold nnV
  split
  · exact e1
  · exact e1
theorem nn_er {T : qTk} {k n a : Nat} {s : Nat × Nat} {N : qNm} (ha : a ≤ 400) {e : qE} (h : nnQ T k n a s N = .error e) : erOk a e := by
  rcases bQ_inv2 h with h | ⟨v, -, h⟩
  · exact ac_erOk ha h
  · cases h
theorem on_ok {T : qTk} {k a : Nat} {s : Nat × Nat} {N : qNm} {v : Nat × (Nat × Nat) × Nat} (h : onQ T k a s N = .ok v) : v.1 = a + 1 ∧ a < 400 ∧ kAt T a = 2 ∧ v = onV N (vAt T a) k a (a + 1) s := by
  obtain ⟨a1, h1, h2⟩ := bQ_inv h
  obtain ⟨e1, e2, e3⟩ := ac_ok h1
  cases h2
  refine ⟨?_, e2, e3, by rw [e1]⟩
  unfold onV
  split
  · split
    · exact e1
    · exact e1
  · exact e1
theorem on_er {T : qTk} {k a : Nat} {s : Nat × Nat} {N : qNm} (ha : a ≤ 400) {e : qE} (h : onQ T k a s N = .error e) : erOk a e := by
  rcases bQ_inv2 h with h | ⟨v, -, h⟩
  · exact ac_erOk ha h
  · cases h
def rdX (p : Nat) (T : qTk) (w : qRs) (M' : qM) : Prop := qXK M' p T w.1 w.2.1 w.2.2.1 ∧ ∃ sz, sz ≤ w.1 ∧ qPX M' p w.2.2.2 sz

theorem c_X4_readWater (g : qG) {T : qTk} (hT : okTk T) {p : Nat} (hp : qIsP p) {M : qM} {a : Nat} {s : Nat × Nat} {N : qNm} {P : qPn} {sz : Nat} (hK : qXK M p T a s N) (hsz : sz ≤ a) (hP : qPX M p P sz) (hC : okCn P) : qI g 3 kX4_readWater [.ref 3] M (fun r M' => qPo (waQ T (a, s, N, P)) (rdX p T) r M' ∧ qFr (SXp p) M M') := by
  generalize hR : waQ T (a, s, N, P) = res
  unfold waQ at hR
  dsimp only at hR
  have hla := hp.2.1
  have hlb := hp.2.2
  have hM := hK.1.1
  have b0 := hK.2.1.1
  have F0 : qFr (SXp p) M M := qFr.rf
  obtain ⟨c0, c1, c2, c3, c4⟩ := id hC
  refine qI.of (j := 1) (pn_RX4) rfl ?_
  show qT g kX4_readWater (qR 3 0 0) (qZI g (fun r M' => qPo res (rdX p T) r M' ∧ qFr (SXp p) M M')) 0 [some (.ref 3), none] [] 333 M (0, 0)
  refine qi_aload_n (i := 0) (x := 3) dX4_readWater_0 rfl rfl ?_
  refine qi_getR (x := p) flX4_33 dX4_readWater_1 rfl (by decide) hK.1.2.1 ?_
  refine qi_getI (x := nI (P.1 0)) flX4_97 dX4_readWater_4 (hp.1 0 (by decide)) (by have := hp.2.2; omega) hP.1.1.1 ?_
  refine qi_istore_n (i := 1) (L2 := [some (.ref 3), some (.int (nI (P.1 0)))]) dX4_readWater_7 rfl (Nat.le_of_ble_eq_true rfl) rfl ?_
  refine qi_aload_n (i := 0) (x := 3) dX4_readWater_8 rfl rfl ?_
  refine qi_sipush (v := 128) dX4_readWater_9 rfl ?_
  refine qi_iload_n (i := 1) (x := nI (P.1 0)) dX4_readWater_12 rfl rfl ?_
  refine qi_iconst (v := 5) dX4_readWater_13 rfl ?_
  refine qi_callVI (K' := kX4_opens) (As := [.int 128, .int (nI (P.1 0)), .int 5]) mlX4_100 okX4_opens dX4_readWater_14 (c_X4_opens g hT hK (k := 128) (n := P.1 0) (m := 5) (by decide) (by omega) (by decide)) rfl (by decide) rfl (by decide) rfl rfl (Nat.le_of_ble_eq_true rfl) ⟨(Nat.le_of_ble_eq_true rfl), (Nat.le_of_ble_eq_true rfl)⟩ ⟨Nat.le_refl _, Nat.le_refl _⟩ (fun r1 M1 ⟨h1, hf1⟩ => ?_)
  have F1 : qFr (SXp p) M M1 := F0.tr (hf1.mono (fun b j z => by unfold SXa at z; unfold SXp; omega))
  cases hA1 : opQ T 128 (P.1 0) 5 a with
  | error e =>
    rw [bQ_e hA1] at hR
    obtain ⟨q1, q2⟩ := qPo_e hA1 h1
    refine qi_if_eq (tgt := 41) dX4_readWater_17 (by decide) (fun z => ?_) (fun z => False.elim ((z q1)))
    refine qi_iconst (v := 0) dX4_readWater_41 rfl ?_
    exact qi_retI rfl (by rfl) dX4_readWater_42 (⟨qPo_ie hR.symm ⟨rfl, q2⟩, F1⟩)
  | ok v1 =>
    rw [bQ_o hA1] at hR
    obtain ⟨q1, k1⟩ := qPo_o hA1 h1
    have i1 := op_ok hA1
    have hM1 := k1.1.1
    have b1 := k1.2.1.1
    have P1 := hP.low hla (hf1.mono (fun b j z => by unfold SXa at z; unfold SLo; omega))
    refine qi_if_eq (tgt := 41) dX4_readWater_17 (by decide) (fun z => False.elim ((q10 q1 z))) (fun z => ?_)
    have n0 := i1.2.2.2
    refine qi_aload_n (i := 0) (x := 3) dX4_readWater_20 rfl rfl ?_
    refine qi_sipush (v := 128) dX4_readWater_21 rfl ?_
    refine qi_iload_n (i := 1) (x := nI (P.1 0)) dX4_readWater_24 rfl rfl ?_
    refine qi_callVI (K' := kX4_newName) (As := [.int 128, .int (nI (P.1 0))]) mlX4_104 okX4_newName dX4_readWater_25 (c_X4_newName g hT k1 (k := 128) (n := P.1 0) (by decide)) rfl (by decide) rfl (by decide) rfl rfl (Nat.le_of_ble_eq_true rfl) ⟨(Nat.le_of_ble_eq_true rfl), (Nat.le_of_ble_eq_true rfl)⟩ ⟨Nat.le_refl _, Nat.le_refl _⟩ (fun r2 M2 ⟨h2, hf2⟩ => ?_)
    have F2 : qFr (SXp p) M M2 := F1.tr (hf2.mono (fun b j z => by unfold SXm at z; unfold SXp; omega))
    cases hA2 : nnQ T 128 (P.1 0) v1 s N with
    | error e =>
      rw [bQ_e hA2] at hR
      obtain ⟨q1, q2⟩ := qPo_e hA2 h2
      refine qi_if_eq (tgt := 41) dX4_readWater_28 (by decide) (fun z => ?_) (fun z => False.elim ((z q1)))
      refine qi_iconst (v := 0) dX4_readWater_41 rfl ?_
      exact qi_retI rfl (by rfl) dX4_readWater_42 (⟨qPo_ie hR.symm ⟨rfl, q2⟩, F2⟩)
    | ok v2 =>
      rw [bQ_o hA2] at hR
      obtain ⟨q2, k2⟩ := qPo_o hA2 h2
      have i2 := nn_ok hA2
      have hM2 := k2.1.1
      have b2 := k2.2.1.1
      have P2 := P1.low hla (hf2.mono (fun b j z => by unfold SXm at z; unfold SLo; omega))
      refine qi_if_eq (tgt := 41) dX4_readWater_28 (by decide) (fun z => False.elim ((q10 q2 z))) (fun z => ?_)
      refine qi_aload_n (i := 0) (x := 3) dX4_readWater_31 rfl rfl ?_
      refine qi_iconst (v := 0) dX4_readWater_32 rfl ?_
      refine qi_bipush (v := 99) dX4_readWater_33 rfl ?_
      refine qi_callVI (K' := kX4_number) (As := [.int 0, .int 99]) mlX4_108 okX4_number dX4_readWater_35 (c_X4_number g hT k2 (lo := 0) (hi := 99) (by decide) (by decide)) rfl (by decide) rfl (by decide) rfl rfl (Nat.le_of_ble_eq_true rfl) ⟨(Nat.le_of_ble_eq_true rfl), (Nat.le_of_ble_eq_true rfl)⟩ ⟨Nat.le_refl _, Nat.le_refl _⟩ (fun r3 M3 ⟨h3, hf3⟩ => ?_)
      have F3 : qFr (SXp p) M M3 := F2.tr (hf3.mono (fun b j z => by unfold SXn at z; unfold SXp; omega))
      cases hA3 : nuQ T 0 99 v2.1 v2.2.1 with
      | error e =>
        rw [bQ_e hA3] at hR
        obtain ⟨q1, q2⟩ := qPo_e hA3 h3
        refine qi_if_ne (tgt := 43) dX4_readWater_38 (by decide) (fun z => False.elim ((z q1))) (fun z => ?_)
        refine qi_iconst (v := 0) dX4_readWater_41 rfl ?_
        exact qi_retI rfl (by rfl) dX4_readWater_42 (⟨qPo_ie hR.symm ⟨rfl, q2⟩, F3⟩)
      | ok v3 =>
        rw [bQ_o hA3] at hR
        obtain ⟨q3, k3, l3⟩ := qPo_o hA3 h3
        have i3 := nu_ok hA3
        have hM3 := k3.1.1
        have b3 := k3.2.1.1
        have P3 := P2.low hla (hf3.mono (fun b j z => by unfold SXn at z; unfold SLo; omega))
        refine qi_if_ne (tgt := 43) dX4_readWater_38 (by decide) (fun z => ?_) (fun z => False.elim ((q10 q3 z)))
        refine qi_aload_n (i := 0) (x := 3) dX4_readWater_43 rfl rfl ?_
        refine qi_getR (x := p) flX4_33 dX4_readWater_44 rfl (by decide) k3.1.2.1 ?_
        refine qi_getR (x := p + 1) flX4_111 dX4_readWater_47 (hp.1 0 (by decide)) (by have := hp.2.2; omega) (hM3 p 0 (p + 1) (qref_3_0 (hp.1 0 (by decide)))) ?_
        refine qi_iload_n (i := 1) (x := nI (P.1 0)) dX4_readWater_50 rfl rfl ?_
        refine qi_aload_n (i := 0) (x := 3) dX4_readWater_51 rfl rfl ?_
        refine qi_getI (x := nI v3.2.2) flX4_40 dX4_readWater_52 rfl (by decide) l3 ?_
        refine qi_iastN (j := P.1 0) dX4_readWater_55 (hp.1 1 (by decide)) (by have := hp.2.2; omega) rfl (by omega) (by decide) ?_
        refine qi_aload_n (i := 0) (x := 3) dX4_readWater_56 rfl rfl ?_
        refine qi_iconst (v := 0) dX4_readWater_57 rfl ?_
        refine qi_bipush (v := 9) dX4_readWater_58 rfl ?_
        have KW1 : qXK (wI M3 (p + 1) (P.1 0) (nI v3.2.2)) p T v3.1 v3.2.1 v2.2.2 := k3.fr (S := fun b _ => 12 ≤ b) (qFr.rf.wI (show 12 ≤ p + 1 by omega)) (fun b j z => Or.inl z)
        have FW1 : qFr (SXp p) M (wI M3 (p + 1) (P.1 0) (nI v3.2.2)) := F3.wI (by unfold SXp; omega)
        have w1_0 := wI_s M3 (p + 1) (P.1 0) (nI v3.2.2)
        have PW1 : qPX (wI M3 (p + 1) (P.1 0) (nI v3.2.2)) p P sz := P3.row (c := 0) (by decide) (Nat.le_refl _)
        refine qi_callVI (K' := kX4_number) (As := [.int 0, .int 9]) mlX4_108 okX4_number dX4_readWater_60 (c_X4_number g hT KW1 (lo := 0) (hi := 9) (by decide) (by decide)) rfl (by decide) rfl (by decide) rfl rfl (Nat.le_of_ble_eq_true rfl) ⟨(Nat.le_of_ble_eq_true rfl), (Nat.le_of_ble_eq_true rfl)⟩ ⟨Nat.le_refl _, Nat.le_refl _⟩ (fun r4 M4 ⟨h4, hf4⟩ => ?_)
        have F4 : qFr (SXp p) M M4 := FW1.tr (hf4.mono (fun b j z => by unfold SXn at z; unfold SXp; omega))
        cases hA4 : nuQ T 0 9 v3.1 v3.2.1 with
        | error e =>
          rw [bQ_e hA4] at hR
          obtain ⟨q1, q2⟩ := qPo_e hA4 h4
          refine qi_if_ne (tgt := 68) dX4_readWater_63 (by decide) (fun z => False.elim ((z q1))) (fun z => ?_)
          refine qi_iconst (v := 0) dX4_readWater_66 rfl ?_
          exact qi_retI rfl (by rfl) dX4_readWater_67 (⟨qPo_ie hR.symm ⟨rfl, q2⟩, F4⟩)
        | ok v4 =>
          rw [bQ_o hA4] at hR
          obtain ⟨q4, k4, l4⟩ := qPo_o hA4 h4
          have i4 := nu_ok hA4
          have hM4 := k4.1.1
          have b4 := k4.2.1.1
          have P4 := PW1.low hla (hf4.mono (fun b j z => by unfold SXn at z; unfold SLo; omega))
          have e4_0 := (hf4.1 _ _ (by unfold SXn; omega)).trans w1_0
          refine qi_if_ne (tgt := 68) dX4_readWater_63 (by decide) (fun z => ?_) (fun z => False.elim ((q10 q4 z)))
          refine qi_aload_n (i := 0) (x := 3) dX4_readWater_68 rfl rfl ?_
          refine qi_getR (x := p) flX4_33 dX4_readWater_69 rfl (by decide) k4.1.2.1 ?_
          refine qi_getR (x := p + 2) flX4_114 dX4_readWater_72 (hp.1 0 (by decide)) (by have := hp.2.2; omega) (hM4 p 1 (p + 2) (qref_3_1 (hp.1 0 (by decide)))) ?_
          refine qi_iload_n (i := 1) (x := nI (P.1 0)) dX4_readWater_75 rfl rfl ?_
          refine qi_aload_n (i := 0) (x := 3) dX4_readWater_76 rfl rfl ?_
          refine qi_getI (x := nI v4.2.2) flX4_40 dX4_readWater_77 rfl (by decide) l4 ?_
          refine qi_iastN (j := P.1 0) dX4_readWater_80 (hp.1 2 (by decide)) (by have := hp.2.2; omega) rfl (by omega) (by decide) ?_
          refine qi_aload_n (i := 0) (x := 3) dX4_readWater_81 rfl rfl ?_
          refine qi_getR (x := p) flX4_33 dX4_readWater_82 rfl (by decide) k4.1.2.1 ?_
          refine qi_iload_n (i := 1) (x := nI (P.1 0)) dX4_readWater_85 rfl rfl ?_
          refine qi_iconst (v := 1) dX4_readWater_86 rfl ?_
          refine qi_iadd dX4_readWater_87 ?_
          have KW2 : qXK (wI M4 (p + 2) (P.1 0) (nI v4.2.2)) p T v4.1 v4.2.1 v2.2.2 := k4.fr (S := fun b _ => 12 ≤ b) (qFr.rf.wI (show 12 ≤ p + 2 by omega)) (fun b j z => Or.inl z)
          have FW2 : qFr (SXp p) M (wI M4 (p + 2) (P.1 0) (nI v4.2.2)) := F4.wI (by unfold SXp; omega)
          have w2_0 := (wI_a (M := M4) (a := p + 2) (k := P.1 0) (x := nI v4.2.2) (by omega)).trans e4_0
          have w2_1 := wI_s M4 (p + 2) (P.1 0) (nI v4.2.2)
          have PW2 : qPX (wI M4 (p + 2) (P.1 0) (nI v4.2.2)) p P sz := P4.row (c := 1) (by decide) (Nat.le_refl _)
          refine qe_top (y := nI (P.1 0 + 1)) (nI_1 _) ?_
          refine qi_putI flX4_97 q_cls3 (ty3_11 _) dX4_readWater_88 (hp.1 0 (by decide)) (by have := hp.2.2; omega) ?_
          refine qi_aload_n (i := 0) (x := 3) dX4_readWater_91 rfl rfl ?_
          refine qi_bipush (v := 59) dX4_readWater_92 rfl ?_
          have KW3 : qXK (wI (wI M4 (p + 2) (P.1 0) (nI v4.2.2)) p 11 (nI (P.1 0 + 1))) p T v4.1 v4.2.1 v2.2.2 := KW2.fr (S := fun b _ => 12 ≤ b) (qFr.rf.wI (show 12 ≤ p by omega)) (fun b j z => Or.inl z)
          have FW3 : qFr (SXp p) M (wI (wI M4 (p + 2) (P.1 0) (nI v4.2.2)) p 11 (nI (P.1 0 + 1))) := FW2.wI (by unfold SXp; omega)
          have w3_0 := (wI_a (M := wI M4 (p + 2) (P.1 0) (nI v4.2.2)) (a := p) (k := 11) (x := nI (P.1 0 + 1)) (by omega)).trans w2_0
          have w3_1 := (wI_a (M := wI M4 (p + 2) (P.1 0) (nI v4.2.2)) (a := p) (k := 11) (x := nI (P.1 0 + 1)) (by omega)).trans w2_1
          have w3_2 := wI_s (wI M4 (p + 2) (P.1 0) (nI v4.2.2)) (p) (11) (nI (P.1 0 + 1))
          have PW3 : qPX (wI (wI M4 (p + 2) (P.1 0) (nI v4.2.2)) p 11 (nI (P.1 0 + 1))) p (waP P v3.2.2 v4.2.2) sz := PW2.water w2_0 w2_1
          refine qi_callVI (K' := kX4_accept) (As := [.int 59]) mlX4_117 okX4_accept dX4_readWater_94 (c_X4_accept g hT KW3 (k := 59) (by decide)) rfl (by decide) rfl (by decide) rfl rfl (Nat.le_of_ble_eq_true rfl) ⟨(Nat.le_of_ble_eq_true rfl), (Nat.le_of_ble_eq_true rfl)⟩ ⟨Nat.le_refl _, Nat.le_refl _⟩ (fun r5 M5 ⟨h5, hf5⟩ => ?_)
          have F5 : qFr (SXp p) M M5 := FW3.tr (hf5.mono (fun b j z => by unfold SXa at z; unfold SXp; omega))
          cases hA5 : acQ T 59 v4.1 with
          | error e =>
            rw [bQ_e hA5] at hR
            obtain ⟨q1, q2⟩ := qPo_e hA5 h5
            refine qe_top (y := 0) q1 ?_
            exact qi_retI rfl (by rfl) dX4_readWater_97 (⟨qPo_ie hR.symm ⟨rfl, q2⟩, F5⟩)
          | ok v5 =>
            rw [bQ_o hA5] at hR
            obtain ⟨q5, k5⟩ := qPo_o hA5 h5
            have i5 := ac_ok hA5
            have hM5 := k5.1.1
            have b5 := k5.2.1.1
            have P5 := PW3.low hla (hf5.mono (fun b j z => by unfold SXa at z; unfold SLo; omega))
            refine qe_top (y := 1) q5 ?_
            exact qi_retI rfl (by rfl) dX4_readWater_97 (⟨qPo_io hR.symm ⟨rfl, k5, sz, by show sz ≤ v5; omega, P5⟩, F5⟩)
theorem c_X4_readHeir (g : qG) {T : qTk} (hT : okTk T) {p : Nat} (hp : qIsP p) {M : qM} {a : Nat} {s : Nat × Nat} {N : qNm} {P : qPn} {sz : Nat} (hK : qXK M p T a s N) (hsz : sz ≤ a) (hP : qPX M p P sz) (hC : okCn P) : qI g 3 kX4_readHeir [.ref 3] M (fun r M' => qPo (heQ T (a, s, N, P)) (rdX p T) r M' ∧ qFr (SXp p) M M') := by
  generalize hR : heQ T (a, s, N, P) = res
  unfold heQ at hR
  dsimp only at hR
  have hla := hp.2.1
  have hlb := hp.2.2
  have hM := hK.1.1
  have b0 := hK.2.1.1
  have F0 : qFr (SXp p) M M := qFr.rf
  obtain ⟨c0, c1, c2, c3, c4⟩ := id hC
  refine qI.of (j := 1) (pn_RX4) rfl ?_
  show qT g kX4_readHeir (qR 3 0 0) (qZI g (fun r M' => qPo res (rdX p T) r M' ∧ qFr (SXp p) M M')) 0 [some (.ref 3), none] [] 333 M (0, 0)
  refine qi_aload_n (i := 0) (x := 3) dX4_readHeir_0 rfl rfl ?_
  refine qi_getR (x := p) flX4_33 dX4_readHeir_1 rfl (by decide) hK.1.2.1 ?_
  refine qi_getI (x := nI (P.1 1)) flX4_120 dX4_readHeir_4 (hp.1 0 (by decide)) (by have := hp.2.2; omega) hP.1.1.2.1 ?_
  refine qi_istore_n (i := 1) (L2 := [some (.ref 3), some (.int (nI (P.1 1)))]) dX4_readHeir_7 rfl (Nat.le_of_ble_eq_true rfl) rfl ?_
  refine qi_aload_n (i := 0) (x := 3) dX4_readHeir_8 rfl rfl ?_
  refine qi_sipush (v := 129) dX4_readHeir_9 rfl ?_
  refine qi_iload_n (i := 1) (x := nI (P.1 1)) dX4_readHeir_12 rfl rfl ?_
  refine qi_bipush (v := 8) dX4_readHeir_13 rfl ?_
  refine qi_callVI (K' := kX4_opens) (As := [.int 129, .int (nI (P.1 1)), .int 8]) mlX4_100 okX4_opens dX4_readHeir_15 (c_X4_opens g hT hK (k := 129) (n := P.1 1) (m := 8) (by decide) (by omega) (by decide)) rfl (by decide) rfl (by decide) rfl rfl (Nat.le_of_ble_eq_true rfl) ⟨(Nat.le_of_ble_eq_true rfl), (Nat.le_of_ble_eq_true rfl)⟩ ⟨Nat.le_refl _, Nat.le_refl _⟩ (fun r1 M1 ⟨h1, hf1⟩ => ?_)
  have F1 : qFr (SXp p) M M1 := F0.tr (hf1.mono (fun b j z => by unfold SXa at z; unfold SXp; omega))
  cases hA1 : opQ T 129 (P.1 1) 8 a with
  | error e =>
    rw [bQ_e hA1] at hR
    obtain ⟨q1, q2⟩ := qPo_e hA1 h1
    refine qi_if_eq (tgt := 42) dX4_readHeir_18 (by decide) (fun z => ?_) (fun z => False.elim ((z q1)))
    refine qi_iconst (v := 0) dX4_readHeir_42 rfl ?_
    exact qi_retI rfl (by rfl) dX4_readHeir_43 (⟨qPo_ie hR.symm ⟨rfl, q2⟩, F1⟩)
  | ok v1 =>
    rw [bQ_o hA1] at hR
    obtain ⟨q1, k1⟩ := qPo_o hA1 h1
    have i1 := op_ok hA1
    have hM1 := k1.1.1
    have b1 := k1.2.1.1
    have P1 := hP.low hla (hf1.mono (fun b j z => by unfold SXa at z; unfold SLo; omega))
    refine qi_if_eq (tgt := 42) dX4_readHeir_18 (by decide) (fun z => False.elim ((q10 q1 z))) (fun z => ?_)
    have n0 := i1.2.2.2
    refine qi_aload_n (i := 0) (x := 3) dX4_readHeir_21 rfl rfl ?_
    refine qi_sipush (v := 129) dX4_readHeir_22 rfl ?_
    refine qi_iload_n (i := 1) (x := nI (P.1 1)) dX4_readHeir_25 rfl rfl ?_
    refine qi_callVI (K' := kX4_newName) (As := [.int 129, .int (nI (P.1 1))]) mlX4_104 okX4_newName dX4_readHeir_26 (c_X4_newName g hT k1 (k := 129) (n := P.1 1) (by decide)) rfl (by decide) rfl (by decide) rfl rfl (Nat.le_of_ble_eq_true rfl) ⟨(Nat.le_of_ble_eq_true rfl), (Nat.le_of_ble_eq_true rfl)⟩ ⟨Nat.le_refl _, Nat.le_refl _⟩ (fun r2 M2 ⟨h2, hf2⟩ => ?_)
    have F2 : qFr (SXp p) M M2 := F1.tr (hf2.mono (fun b j z => by unfold SXm at z; unfold SXp; omega))
    cases hA2 : nnQ T 129 (P.1 1) v1 s N with
    | error e =>
      rw [bQ_e hA2] at hR
      obtain ⟨q1, q2⟩ := qPo_e hA2 h2
      refine qi_if_eq (tgt := 42) dX4_readHeir_29 (by decide) (fun z => ?_) (fun z => False.elim ((z q1)))
      refine qi_iconst (v := 0) dX4_readHeir_42 rfl ?_
      exact qi_retI rfl (by rfl) dX4_readHeir_43 (⟨qPo_ie hR.symm ⟨rfl, q2⟩, F2⟩)
    | ok v2 =>
      rw [bQ_o hA2] at hR
      obtain ⟨q2, k2⟩ := qPo_o hA2 h2
      have i2 := nn_ok hA2
      have hM2 := k2.1.1
      have b2 := k2.2.1.1
      have P2 := P1.low hla (hf2.mono (fun b j z => by unfold SXm at z; unfold SLo; omega))
      refine qi_if_eq (tgt := 42) dX4_readHeir_29 (by decide) (fun z => False.elim ((q10 q2 z))) (fun z => ?_)
      refine qi_aload_n (i := 0) (x := 3) dX4_readHeir_32 rfl rfl ?_
      refine qi_iconst (v := 1) dX4_readHeir_33 rfl ?_
      refine qi_bipush (v := 99) dX4_readHeir_34 rfl ?_
      refine qi_callVI (K' := kX4_number) (As := [.int 1, .int 99]) mlX4_108 okX4_number dX4_readHeir_36 (c_X4_number g hT k2 (lo := 1) (hi := 99) (by decide) (by decide)) rfl (by decide) rfl (by decide) rfl rfl (Nat.le_of_ble_eq_true rfl) ⟨(Nat.le_of_ble_eq_true rfl), (Nat.le_of_ble_eq_true rfl)⟩ ⟨Nat.le_refl _, Nat.le_refl _⟩ (fun r3 M3 ⟨h3, hf3⟩ => ?_)
      have F3 : qFr (SXp p) M M3 := F2.tr (hf3.mono (fun b j z => by unfold SXn at z; unfold SXp; omega))
      cases hA3 : nuQ T 1 99 v2.1 v2.2.1 with
      | error e =>
        rw [bQ_e hA3] at hR
        obtain ⟨q1, q2⟩ := qPo_e hA3 h3
        refine qi_if_ne (tgt := 44) dX4_readHeir_39 (by decide) (fun z => False.elim ((z q1))) (fun z => ?_)
        refine qi_iconst (v := 0) dX4_readHeir_42 rfl ?_
        exact qi_retI rfl (by rfl) dX4_readHeir_43 (⟨qPo_ie hR.symm ⟨rfl, q2⟩, F3⟩)
      | ok v3 =>
        rw [bQ_o hA3] at hR
        obtain ⟨q3, k3, l3⟩ := qPo_o hA3 h3
        have i3 := nu_ok hA3
        have hM3 := k3.1.1
        have b3 := k3.2.1.1
        have P3 := P2.low hla (hf3.mono (fun b j z => by unfold SXn at z; unfold SLo; omega))
        refine qi_if_ne (tgt := 44) dX4_readHeir_39 (by decide) (fun z => ?_) (fun z => False.elim ((q10 q3 z)))
        refine qi_aload_n (i := 0) (x := 3) dX4_readHeir_44 rfl rfl ?_
        refine qi_getR (x := p) flX4_33 dX4_readHeir_45 rfl (by decide) k3.1.2.1 ?_
        refine qi_getR (x := p + 3) flX4_123 dX4_readHeir_48 (hp.1 0 (by decide)) (by have := hp.2.2; omega) (hM3 p 2 (p + 3) (qref_3_2 (hp.1 0 (by decide)))) ?_
        refine qi_iload_n (i := 1) (x := nI (P.1 1)) dX4_readHeir_51 rfl rfl ?_
        refine qi_aload_n (i := 0) (x := 3) dX4_readHeir_52 rfl rfl ?_
        refine qi_getI (x := nI v3.2.2) flX4_40 dX4_readHeir_53 rfl (by decide) l3 ?_
        refine qi_iastN (j := P.1 1) dX4_readHeir_56 (hp.1 3 (by decide)) (by have := hp.2.2; omega) rfl (by omega) (by decide) ?_
        refine qi_aload_n (i := 0) (x := 3) dX4_readHeir_57 rfl rfl ?_
        refine qi_iconst (v := 0) dX4_readHeir_58 rfl ?_
        refine qi_bipush (v := 99) dX4_readHeir_59 rfl ?_
        have KW1 : qXK (wI M3 (p + 3) (P.1 1) (nI v3.2.2)) p T v3.1 v3.2.1 v2.2.2 := k3.fr (S := fun b _ => 12 ≤ b) (qFr.rf.wI (show 12 ≤ p + 3 by omega)) (fun b j z => Or.inl z)
        have FW1 : qFr (SXp p) M (wI M3 (p + 3) (P.1 1) (nI v3.2.2)) := F3.wI (by unfold SXp; omega)
        have w1_0 := wI_s M3 (p + 3) (P.1 1) (nI v3.2.2)
        have PW1 : qPX (wI M3 (p + 3) (P.1 1) (nI v3.2.2)) p P sz := P3.row (c := 2) (by decide) (Nat.le_refl _)
        refine qi_callVI (K' := kX4_number) (As := [.int 0, .int 99]) mlX4_108 okX4_number dX4_readHeir_61 (c_X4_number g hT KW1 (lo := 0) (hi := 99) (by decide) (by decide)) rfl (by decide) rfl (by decide) rfl rfl (Nat.le_of_ble_eq_true rfl) ⟨(Nat.le_of_ble_eq_true rfl), (Nat.le_of_ble_eq_true rfl)⟩ ⟨Nat.le_refl _, Nat.le_refl _⟩ (fun r4 M4 ⟨h4, hf4⟩ => ?_)
        have F4 : qFr (SXp p) M M4 := FW1.tr (hf4.mono (fun b j z => by unfold SXn at z; unfold SXp; omega))
        cases hA4 : nuQ T 0 99 v3.1 v3.2.1 with
        | error e =>
          rw [bQ_e hA4] at hR
          obtain ⟨q1, q2⟩ := qPo_e hA4 h4
          refine qi_if_ne (tgt := 69) dX4_readHeir_64 (by decide) (fun z => False.elim ((z q1))) (fun z => ?_)
          refine qi_iconst (v := 0) dX4_readHeir_67 rfl ?_
          exact qi_retI rfl (by rfl) dX4_readHeir_68 (⟨qPo_ie hR.symm ⟨rfl, q2⟩, F4⟩)
        | ok v4 =>
          rw [bQ_o hA4] at hR
          obtain ⟨q4, k4, l4⟩ := qPo_o hA4 h4
          have i4 := nu_ok hA4
          have hM4 := k4.1.1
          have b4 := k4.2.1.1
          have P4 := PW1.low hla (hf4.mono (fun b j z => by unfold SXn at z; unfold SLo; omega))
          have e4_0 := (hf4.1 _ _ (by unfold SXn; omega)).trans w1_0
          refine qi_if_ne (tgt := 69) dX4_readHeir_64 (by decide) (fun z => ?_) (fun z => False.elim ((q10 q4 z)))
          refine qi_aload_n (i := 0) (x := 3) dX4_readHeir_69 rfl rfl ?_
          refine qi_getR (x := p) flX4_33 dX4_readHeir_70 rfl (by decide) k4.1.2.1 ?_
          refine qi_getR (x := p + 4) flX4_126 dX4_readHeir_73 (hp.1 0 (by decide)) (by have := hp.2.2; omega) (hM4 p 3 (p + 4) (qref_3_3 (hp.1 0 (by decide)))) ?_
          refine qi_iload_n (i := 1) (x := nI (P.1 1)) dX4_readHeir_76 rfl rfl ?_
          refine qi_aload_n (i := 0) (x := 3) dX4_readHeir_77 rfl rfl ?_
          refine qi_getI (x := nI v4.2.2) flX4_40 dX4_readHeir_78 rfl (by decide) l4 ?_
          refine qi_iastN (j := P.1 1) dX4_readHeir_81 (hp.1 4 (by decide)) (by have := hp.2.2; omega) rfl (by omega) (by decide) ?_
          refine qi_aload_n (i := 0) (x := 3) dX4_readHeir_82 rfl rfl ?_
          refine qi_iconst (v := 0) dX4_readHeir_83 rfl ?_
          refine qi_sipush (v := 999) dX4_readHeir_84 rfl ?_
          have KW2 : qXK (wI M4 (p + 4) (P.1 1) (nI v4.2.2)) p T v4.1 v4.2.1 v2.2.2 := k4.fr (S := fun b _ => 12 ≤ b) (qFr.rf.wI (show 12 ≤ p + 4 by omega)) (fun b j z => Or.inl z)
          have FW2 : qFr (SXp p) M (wI M4 (p + 4) (P.1 1) (nI v4.2.2)) := F4.wI (by unfold SXp; omega)
          have w2_0 := (wI_a (M := M4) (a := p + 4) (k := P.1 1) (x := nI v4.2.2) (by omega)).trans e4_0
          have w2_1 := wI_s M4 (p + 4) (P.1 1) (nI v4.2.2)
          have PW2 : qPX (wI M4 (p + 4) (P.1 1) (nI v4.2.2)) p P sz := P4.row (c := 3) (by decide) (Nat.le_refl _)
          refine qi_callVI (K' := kX4_number) (As := [.int 0, .int 999]) mlX4_108 okX4_number dX4_readHeir_87 (c_X4_number g hT KW2 (lo := 0) (hi := 999) (by decide) (by decide)) rfl (by decide) rfl (by decide) rfl rfl (Nat.le_of_ble_eq_true rfl) ⟨(Nat.le_of_ble_eq_true rfl), (Nat.le_of_ble_eq_true rfl)⟩ ⟨Nat.le_refl _, Nat.le_refl _⟩ (fun r5 M5 ⟨h5, hf5⟩ => ?_)
          have F5 : qFr (SXp p) M M5 := FW2.tr (hf5.mono (fun b j z => by unfold SXn at z; unfold SXp; omega))
          cases hA5 : nuQ T 0 999 v4.1 v4.2.1 with
          | error e =>
            rw [bQ_e hA5] at hR
            obtain ⟨q1, q2⟩ := qPo_e hA5 h5
            refine qi_if_ne (tgt := 95) dX4_readHeir_90 (by decide) (fun z => False.elim ((z q1))) (fun z => ?_)
            refine qi_iconst (v := 0) dX4_readHeir_93 rfl ?_
            exact qi_retI rfl (by rfl) dX4_readHeir_94 (⟨qPo_ie hR.symm ⟨rfl, q2⟩, F5⟩)
          | ok v5 =>
            rw [bQ_o hA5] at hR
            obtain ⟨q5, k5, l5⟩ := qPo_o hA5 h5
            have i5 := nu_ok hA5
            have hM5 := k5.1.1
            have b5 := k5.2.1.1
            have P5 := PW2.low hla (hf5.mono (fun b j z => by unfold SXn at z; unfold SLo; omega))
            have e5_0 := (hf5.1 _ _ (by unfold SXn; omega)).trans w2_0
            have e5_1 := (hf5.1 _ _ (by unfold SXn; omega)).trans w2_1
            refine qi_if_ne (tgt := 95) dX4_readHeir_90 (by decide) (fun z => ?_) (fun z => False.elim ((q10 q5 z)))
            refine qi_aload_n (i := 0) (x := 3) dX4_readHeir_95 rfl rfl ?_
            refine qi_getR (x := p) flX4_33 dX4_readHeir_96 rfl (by decide) k5.1.2.1 ?_
            refine qi_getR (x := p + 5) flX4_129 dX4_readHeir_99 (hp.1 0 (by decide)) (by have := hp.2.2; omega) (hM5 p 4 (p + 5) (qref_3_4 (hp.1 0 (by decide)))) ?_
            refine qi_iload_n (i := 1) (x := nI (P.1 1)) dX4_readHeir_102 rfl rfl ?_
            refine qi_aload_n (i := 0) (x := 3) dX4_readHeir_103 rfl rfl ?_
            refine qi_getI (x := nI v5.2.2) flX4_40 dX4_readHeir_104 rfl (by decide) l5 ?_
            refine qi_iastN (j := P.1 1) dX4_readHeir_107 (hp.1 5 (by decide)) (by have := hp.2.2; omega) rfl (by omega) (by decide) ?_
            refine qi_aload_n (i := 0) (x := 3) dX4_readHeir_108 rfl rfl ?_
            refine qi_iconst (v := 0) dX4_readHeir_109 rfl ?_
            refine qi_sipush (v := 999) dX4_readHeir_110 rfl ?_
            have KW3 : qXK (wI M5 (p + 5) (P.1 1) (nI v5.2.2)) p T v5.1 v5.2.1 v2.2.2 := k5.fr (S := fun b _ => 12 ≤ b) (qFr.rf.wI (show 12 ≤ p + 5 by omega)) (fun b j z => Or.inl z)
            have FW3 : qFr (SXp p) M (wI M5 (p + 5) (P.1 1) (nI v5.2.2)) := F5.wI (by unfold SXp; omega)
            have w3_0 := (wI_a (M := M5) (a := p + 5) (k := P.1 1) (x := nI v5.2.2) (by omega)).trans e5_0
            have w3_1 := (wI_a (M := M5) (a := p + 5) (k := P.1 1) (x := nI v5.2.2) (by omega)).trans e5_1
            have w3_2 := wI_s M5 (p + 5) (P.1 1) (nI v5.2.2)
            have PW3 : qPX (wI M5 (p + 5) (P.1 1) (nI v5.2.2)) p P sz := P5.row (c := 4) (by decide) (Nat.le_refl _)
            refine qi_callVI (K' := kX4_number) (As := [.int 0, .int 999]) mlX4_108 okX4_number dX4_readHeir_113 (c_X4_number g hT KW3 (lo := 0) (hi := 999) (by decide) (by decide)) rfl (by decide) rfl (by decide) rfl rfl (Nat.le_of_ble_eq_true rfl) ⟨(Nat.le_of_ble_eq_true rfl), (Nat.le_of_ble_eq_true rfl)⟩ ⟨Nat.le_refl _, Nat.le_refl _⟩ (fun r6 M6 ⟨h6, hf6⟩ => ?_)
            have F6 : qFr (SXp p) M M6 := FW3.tr (hf6.mono (fun b j z => by unfold SXn at z; unfold SXp; omega))
            cases hA6 : nuQ T 0 999 v5.1 v5.2.1 with
            | error e =>
              rw [bQ_e hA6] at hR
              obtain ⟨q1, q2⟩ := qPo_e hA6 h6
              refine qi_if_ne (tgt := 121) dX4_readHeir_116 (by decide) (fun z => False.elim ((z q1))) (fun z => ?_)
              refine qi_iconst (v := 0) dX4_readHeir_119 rfl ?_
              exact qi_retI rfl (by rfl) dX4_readHeir_120 (⟨qPo_ie hR.symm ⟨rfl, q2⟩, F6⟩)
            | ok v6 =>
              rw [bQ_o hA6] at hR
              obtain ⟨q6, k6, l6⟩ := qPo_o hA6 h6
              have i6 := nu_ok hA6
              have hM6 := k6.1.1
              have b6 := k6.2.1.1
              have P6 := PW3.low hla (hf6.mono (fun b j z => by unfold SXn at z; unfold SLo; omega))
              have e6_0 := (hf6.1 _ _ (by unfold SXn; omega)).trans w3_0
              have e6_1 := (hf6.1 _ _ (by unfold SXn; omega)).trans w3_1
              have e6_2 := (hf6.1 _ _ (by unfold SXn; omega)).trans w3_2
              refine qi_if_ne (tgt := 121) dX4_readHeir_116 (by decide) (fun z => ?_) (fun z => False.elim ((q10 q6 z)))
              refine qi_aload_n (i := 0) (x := 3) dX4_readHeir_121 rfl rfl ?_
              refine qi_getR (x := p) flX4_33 dX4_readHeir_122 rfl (by decide) k6.1.2.1 ?_
              refine qi_getR (x := p + 6) flX4_132 dX4_readHeir_125 (hp.1 0 (by decide)) (by have := hp.2.2; omega) (hM6 p 5 (p + 6) (qref_3_5 (hp.1 0 (by decide)))) ?_
              refine qi_iload_n (i := 1) (x := nI (P.1 1)) dX4_readHeir_128 rfl rfl ?_
              refine qi_aload_n (i := 0) (x := 3) dX4_readHeir_129 rfl rfl ?_
              refine qi_getI (x := nI v6.2.2) flX4_40 dX4_readHeir_130 rfl (by decide) l6 ?_
              refine qi_iastN (j := P.1 1) dX4_readHeir_133 (hp.1 6 (by decide)) (by have := hp.2.2; omega) rfl (by omega) (by decide) ?_
              refine qi_aload_n (i := 0) (x := 3) dX4_readHeir_134 rfl rfl ?_
              refine qi_getR (x := p) flX4_33 dX4_readHeir_135 rfl (by decide) k6.1.2.1 ?_
              refine qi_iload_n (i := 1) (x := nI (P.1 1)) dX4_readHeir_138 rfl rfl ?_
              refine qi_iconst (v := 1) dX4_readHeir_139 rfl ?_
              have KW4 : qXK (wI M6 (p + 6) (P.1 1) (nI v6.2.2)) p T v6.1 v6.2.1 v2.2.2 := k6.fr (S := fun b _ => 12 ≤ b) (qFr.rf.wI (show 12 ≤ p + 6 by omega)) (fun b j z => Or.inl z)
              have FW4 : qFr (SXp p) M (wI M6 (p + 6) (P.1 1) (nI v6.2.2)) := F6.wI (by unfold SXp; omega)
              have w4_0 := (wI_a (M := M6) (a := p + 6) (k := P.1 1) (x := nI v6.2.2) (by omega)).trans e6_0
              have w4_1 := (wI_a (M := M6) (a := p + 6) (k := P.1 1) (x := nI v6.2.2) (by omega)).trans e6_1
              have w4_2 := (wI_a (M := M6) (a := p + 6) (k := P.1 1) (x := nI v6.2.2) (by omega)).trans e6_2
              have w4_3 := wI_s M6 (p + 6) (P.1 1) (nI v6.2.2)
              have PW4 : qPX (wI M6 (p + 6) (P.1 1) (nI v6.2.2)) p P sz := P6.row (c := 5) (by decide) (Nat.le_refl _)
              refine qi_iadd dX4_readHeir_140 ?_
              refine qe_top (y := nI (P.1 1 + 1)) (nI_1 _) ?_
              refine qi_putI flX4_120 q_cls3 (ty3_12 _) dX4_readHeir_141 (hp.1 0 (by decide)) (by have := hp.2.2; omega) ?_
              refine qi_aload_n (i := 0) (x := 3) dX4_readHeir_144 rfl rfl ?_
              refine qi_bipush (v := 59) dX4_readHeir_145 rfl ?_
              have KW5 : qXK (wI (wI M6 (p + 6) (P.1 1) (nI v6.2.2)) p 12 (nI (P.1 1 + 1))) p T v6.1 v6.2.1 v2.2.2 := KW4.fr (S := fun b _ => 12 ≤ b) (qFr.rf.wI (show 12 ≤ p by omega)) (fun b j z => Or.inl z)
              have FW5 : qFr (SXp p) M (wI (wI M6 (p + 6) (P.1 1) (nI v6.2.2)) p 12 (nI (P.1 1 + 1))) := FW4.wI (by unfold SXp; omega)
              have w5_0 := (wI_a (M := wI M6 (p + 6) (P.1 1) (nI v6.2.2)) (a := p) (k := 12) (x := nI (P.1 1 + 1)) (by omega)).trans w4_0
              have w5_1 := (wI_a (M := wI M6 (p + 6) (P.1 1) (nI v6.2.2)) (a := p) (k := 12) (x := nI (P.1 1 + 1)) (by omega)).trans w4_1
              have w5_2 := (wI_a (M := wI M6 (p + 6) (P.1 1) (nI v6.2.2)) (a := p) (k := 12) (x := nI (P.1 1 + 1)) (by omega)).trans w4_2
              have w5_3 := (wI_a (M := wI M6 (p + 6) (P.1 1) (nI v6.2.2)) (a := p) (k := 12) (x := nI (P.1 1 + 1)) (by omega)).trans w4_3
              have w5_4 := wI_s (wI M6 (p + 6) (P.1 1) (nI v6.2.2)) (p) (12) (nI (P.1 1 + 1))
              have PW5 : qPX (wI (wI M6 (p + 6) (P.1 1) (nI v6.2.2)) p 12 (nI (P.1 1 + 1))) p (heP P v3.2.2 v4.2.2 v5.2.2 v6.2.2) sz := PW4.heir w4_0 w4_1 w4_2 w4_3
              refine qi_callVI (K' := kX4_accept) (As := [.int 59]) mlX4_117 okX4_accept dX4_readHeir_147 (c_X4_accept g hT KW5 (k := 59) (by decide)) rfl (by decide) rfl (by decide) rfl rfl (Nat.le_of_ble_eq_true rfl) ⟨(Nat.le_of_ble_eq_true rfl), (Nat.le_of_ble_eq_true rfl)⟩ ⟨Nat.le_refl _, Nat.le_refl _⟩ (fun r7 M7 ⟨h7, hf7⟩ => ?_)
              have F7 : qFr (SXp p) M M7 := FW5.tr (hf7.mono (fun b j z => by unfold SXa at z; unfold SXp; omega))
              cases hA7 : acQ T 59 v6.1 with
              | error e =>
                rw [bQ_e hA7] at hR
                obtain ⟨q1, q2⟩ := qPo_e hA7 h7
                refine qe_top (y := 0) q1 ?_
                exact qi_retI rfl (by rfl) dX4_readHeir_150 (⟨qPo_ie hR.symm ⟨rfl, q2⟩, F7⟩)
              | ok v7 =>
                rw [bQ_o hA7] at hR
                obtain ⟨q7, k7⟩ := qPo_o hA7 h7
                have i7 := ac_ok hA7
                have hM7 := k7.1.1
                have b7 := k7.2.1.1
                have P7 := PW5.low hla (hf7.mono (fun b j z => by unfold SXa at z; unfold SLo; omega))
                refine qe_top (y := 1) q7 ?_
                exact qi_retI rfl (by rfl) dX4_readHeir_150 (⟨qPo_io hR.symm ⟨rfl, k7, sz, by show sz ≤ v7; omega, P7⟩, F7⟩)
theorem c_X4_readBasin (g : qG) {T : qTk} (hT : okTk T) {p : Nat} (hp : qIsP p) {M : qM} {a : Nat} {s : Nat × Nat} {N : qNm} {P : qPn} {sz : Nat} (hK : qXK M p T a s N) (hsz : sz ≤ a) (hP : qPX M p P sz) (hC : okCn P) : qI g 3 kX4_readBasin [.ref 3] M (fun r M' => qPo (baQ T (a, s, N, P)) (rdX p T) r M' ∧ qFr (SXp p) M M') := by
  generalize hR : baQ T (a, s, N, P) = res
  unfold baQ at hR
  dsimp only at hR
  have hla := hp.2.1
  have hlb := hp.2.2
  have hM := hK.1.1
  have b0 := hK.2.1.1
  have F0 : qFr (SXp p) M M := qFr.rf
  obtain ⟨c0, c1, c2, c3, c4⟩ := id hC
  refine qI.of (j := 0) (pn_RX4) rfl ?_
  show qT g kX4_readBasin (qR 3 0 0) (qZI g (fun r M' => qPo res (rdX p T) r M' ∧ qFr (SXp p) M M')) 0 [some (.ref 3)] [] 333 M (0, 0)
  refine qi_aload_n (i := 0) (x := 3) dX4_readBasin_0 rfl rfl ?_
  refine qi_sipush (v := 132) dX4_readBasin_1 rfl ?_
  refine qi_callVI (K' := kX4_accept) (As := [.int 132]) mlX4_117 okX4_accept dX4_readBasin_4 (c_X4_accept g hT hK (k := 132) (by decide)) rfl (by decide) rfl (by decide) rfl rfl (Nat.le_of_ble_eq_true rfl) ⟨(Nat.le_of_ble_eq_true rfl), (Nat.le_of_ble_eq_true rfl)⟩ ⟨Nat.le_refl _, Nat.le_refl _⟩ (fun r1 M1 ⟨h1, hf1⟩ => ?_)
  have F1 : qFr (SXp p) M M1 := F0.tr (hf1.mono (fun b j z => by unfold SXa at z; unfold SXp; omega))
  cases hA1 : acQ T 132 a with
  | error e =>
    rw [bQ_e hA1] at hR
    obtain ⟨q1, q2⟩ := qPo_e hA1 h1
    refine qi_if_eq (tgt := 21) dX4_readBasin_7 (by decide) (fun z => ?_) (fun z => False.elim ((z q1)))
    refine qi_iconst (v := 0) dX4_readBasin_21 rfl ?_
    exact qi_retI rfl (by rfl) dX4_readBasin_22 (⟨qPo_ie hR.symm ⟨rfl, q2⟩, F1⟩)
  | ok v1 =>
    rw [bQ_o hA1] at hR
    obtain ⟨q1, k1⟩ := qPo_o hA1 h1
    have i1 := ac_ok hA1
    have hM1 := k1.1.1
    have b1 := k1.2.1.1
    have P1 := hP.low hla (hf1.mono (fun b j z => by unfold SXa at z; unfold SLo; omega))
    refine qi_if_eq (tgt := 21) dX4_readBasin_7 (by decide) (fun z => False.elim ((q10 q1 z))) (fun z => ?_)
    refine qi_aload_n (i := 0) (x := 3) dX4_readBasin_10 rfl rfl ?_
    refine qi_iconst (v := 1) dX4_readBasin_11 rfl ?_
    refine qi_sipush (v := 9999) dX4_readBasin_12 rfl ?_
    refine qi_callVI (K' := kX4_number) (As := [.int 1, .int 9999]) mlX4_108 okX4_number dX4_readBasin_15 (c_X4_number g hT k1 (lo := 1) (hi := 9999) (by decide) (by decide)) rfl (by decide) rfl (by decide) rfl rfl (Nat.le_of_ble_eq_true rfl) ⟨(Nat.le_of_ble_eq_true rfl), (Nat.le_of_ble_eq_true rfl)⟩ ⟨Nat.le_refl _, Nat.le_refl _⟩ (fun r2 M2 ⟨h2, hf2⟩ => ?_)
    have F2 : qFr (SXp p) M M2 := F1.tr (hf2.mono (fun b j z => by unfold SXn at z; unfold SXp; omega))
    cases hA2 : nuQ T 1 9999 v1 s with
    | error e =>
      rw [bQ_e hA2] at hR
      obtain ⟨q1, q2⟩ := qPo_e hA2 h2
      refine qi_if_ne (tgt := 23) dX4_readBasin_18 (by decide) (fun z => False.elim ((z q1))) (fun z => ?_)
      refine qi_iconst (v := 0) dX4_readBasin_21 rfl ?_
      exact qi_retI rfl (by rfl) dX4_readBasin_22 (⟨qPo_ie hR.symm ⟨rfl, q2⟩, F2⟩)
    | ok v2 =>
      rw [bQ_o hA2] at hR
      obtain ⟨q2, k2, l2⟩ := qPo_o hA2 h2
      have i2 := nu_ok hA2
      have hM2 := k2.1.1
      have b2 := k2.2.1.1
      have P2 := P1.low hla (hf2.mono (fun b j z => by unfold SXn at z; unfold SLo; omega))
      refine qi_if_ne (tgt := 23) dX4_readBasin_18 (by decide) (fun z => ?_) (fun z => False.elim ((q10 q2 z)))
      refine qi_aload_n (i := 0) (x := 3) dX4_readBasin_23 rfl rfl ?_
      refine qi_getR (x := p) flX4_33 dX4_readBasin_24 rfl (by decide) k2.1.2.1 ?_
      refine qi_aload_n (i := 0) (x := 3) dX4_readBasin_27 rfl rfl ?_
      refine qi_getI (x := nI v2.2.2) flX4_40 dX4_readBasin_28 rfl (by decide) l2 ?_
      refine qi_putI flX4_165 q_cls3 (ty3_15 _) dX4_readBasin_31 (hp.1 0 (by decide)) (by have := hp.2.2; omega) ?_
      refine qi_aload_n (i := 0) (x := 3) dX4_readBasin_34 rfl rfl ?_
      refine qi_bipush (v := 59) dX4_readBasin_35 rfl ?_
      have KW1 : qXK (wI M2 p 15 (nI v2.2.2)) p T v2.1 v2.2.1 N := k2.fr (S := fun b _ => 12 ≤ b) (qFr.rf.wI (show 12 ≤ p by omega)) (fun b j z => Or.inl z)
      have FW1 : qFr (SXp p) M (wI M2 p 15 (nI v2.2.2)) := F2.wI (by unfold SXp; omega)
      have w1_0 := wI_s M2 (p) (15) (nI v2.2.2)
      have PW1 : qPX (wI M2 p 15 (nI v2.2.2)) p (cnP P 4 v2.2.2) sz := P2.cnt (i := 4) (by decide)
      refine qi_callVI (K' := kX4_accept) (As := [.int 59]) mlX4_117 okX4_accept dX4_readBasin_37 (c_X4_accept g hT KW1 (k := 59) (by decide)) rfl (by decide) rfl (by decide) rfl rfl (Nat.le_of_ble_eq_true rfl) ⟨(Nat.le_of_ble_eq_true rfl), (Nat.le_of_ble_eq_true rfl)⟩ ⟨Nat.le_refl _, Nat.le_refl _⟩ (fun r3 M3 ⟨h3, hf3⟩ => ?_)
      have F3 : qFr (SXp p) M M3 := FW1.tr (hf3.mono (fun b j z => by unfold SXa at z; unfold SXp; omega))
      cases hA3 : acQ T 59 v2.1 with
      | error e =>
        rw [bQ_e hA3] at hR
        obtain ⟨q1, q2⟩ := qPo_e hA3 h3
        refine qe_top (y := 0) q1 ?_
        exact qi_retI rfl (by rfl) dX4_readBasin_40 (⟨qPo_ie hR.symm ⟨rfl, q2⟩, F3⟩)
      | ok v3 =>
        rw [bQ_o hA3] at hR
        obtain ⟨q3, k3⟩ := qPo_o hA3 h3
        have i3 := ac_ok hA3
        have hM3 := k3.1.1
        have b3 := k3.2.1.1
        have P3 := PW1.low hla (hf3.mono (fun b j z => by unfold SXa at z; unfold SLo; omega))
        refine qe_top (y := 1) q3 ?_
        exact qi_retI rfl (by rfl) dX4_readBasin_40 (⟨qPo_io hR.symm ⟨rfl, k3, sz, by show sz ≤ v3; omega, P3⟩, F3⟩)
theorem c_X4_readSeed (g : qG) {T : qTk} (hT : okTk T) {p : Nat} (hp : qIsP p) {M : qM} {a : Nat} {s : Nat × Nat} {N : qNm} {P : qPn} {sz : Nat} (hK : qXK M p T a s N) (hsz : sz ≤ a) (hP : qPX M p P sz) (hC : okCn P) : qI g 3 kX4_readSeed [.ref 3] M (fun r M' => qPo (sdQ T (a, s, N, P)) (rdX p T) r M' ∧ qFr (SXp p) M M') := by
  generalize hR : sdQ T (a, s, N, P) = res
  unfold sdQ at hR
  dsimp only at hR
  have hla := hp.2.1
  have hlb := hp.2.2
  have hM := hK.1.1
  have b0 := hK.2.1.1
  have F0 : qFr (SXp p) M M := qFr.rf
  obtain ⟨c0, c1, c2, c3, c4⟩ := id hC
  refine qI.of (j := 0) (pn_RX4) rfl ?_
  show qT g kX4_readSeed (qR 3 0 0) (qZI g (fun r M' => qPo res (rdX p T) r M' ∧ qFr (SXp p) M M')) 0 [some (.ref 3)] [] 333 M (0, 0)
  refine qi_aload_n (i := 0) (x := 3) dX4_readSeed_0 rfl rfl ?_
  refine qi_sipush (v := 134) dX4_readSeed_1 rfl ?_
  refine qi_callVI (K' := kX4_accept) (As := [.int 134]) mlX4_117 okX4_accept dX4_readSeed_4 (c_X4_accept g hT hK (k := 134) (by decide)) rfl (by decide) rfl (by decide) rfl rfl (Nat.le_of_ble_eq_true rfl) ⟨(Nat.le_of_ble_eq_true rfl), (Nat.le_of_ble_eq_true rfl)⟩ ⟨Nat.le_refl _, Nat.le_refl _⟩ (fun r1 M1 ⟨h1, hf1⟩ => ?_)
  have F1 : qFr (SXp p) M M1 := F0.tr (hf1.mono (fun b j z => by unfold SXa at z; unfold SXp; omega))
  cases hA1 : acQ T 134 a with
  | error e =>
    rw [bQ_e hA1] at hR
    obtain ⟨q1, q2⟩ := qPo_e hA1 h1
    refine qi_if_eq (tgt := 21) dX4_readSeed_7 (by decide) (fun z => ?_) (fun z => False.elim ((z q1)))
    refine qi_iconst (v := 0) dX4_readSeed_21 rfl ?_
    exact qi_retI rfl (by rfl) dX4_readSeed_22 (⟨qPo_ie hR.symm ⟨rfl, q2⟩, F1⟩)
  | ok v1 =>
    rw [bQ_o hA1] at hR
    obtain ⟨q1, k1⟩ := qPo_o hA1 h1
    have i1 := ac_ok hA1
    have hM1 := k1.1.1
    have b1 := k1.2.1.1
    have P1 := hP.low hla (hf1.mono (fun b j z => by unfold SXa at z; unfold SLo; omega))
    refine qi_if_eq (tgt := 21) dX4_readSeed_7 (by decide) (fun z => False.elim ((q10 q1 z))) (fun z => ?_)
    refine qi_aload_n (i := 0) (x := 3) dX4_readSeed_10 rfl rfl ?_
    refine qi_iconst (v := 0) dX4_readSeed_11 rfl ?_
    refine qi_sipush (v := 9999) dX4_readSeed_12 rfl ?_
    refine qi_callVI (K' := kX4_number) (As := [.int 0, .int 9999]) mlX4_108 okX4_number dX4_readSeed_15 (c_X4_number g hT k1 (lo := 0) (hi := 9999) (by decide) (by decide)) rfl (by decide) rfl (by decide) rfl rfl (Nat.le_of_ble_eq_true rfl) ⟨(Nat.le_of_ble_eq_true rfl), (Nat.le_of_ble_eq_true rfl)⟩ ⟨Nat.le_refl _, Nat.le_refl _⟩ (fun r2 M2 ⟨h2, hf2⟩ => ?_)
    have F2 : qFr (SXp p) M M2 := F1.tr (hf2.mono (fun b j z => by unfold SXn at z; unfold SXp; omega))
    cases hA2 : nuQ T 0 9999 v1 s with
    | error e =>
      rw [bQ_e hA2] at hR
      obtain ⟨q1, q2⟩ := qPo_e hA2 h2
      refine qi_if_ne (tgt := 23) dX4_readSeed_18 (by decide) (fun z => False.elim ((z q1))) (fun z => ?_)
      refine qi_iconst (v := 0) dX4_readSeed_21 rfl ?_
      exact qi_retI rfl (by rfl) dX4_readSeed_22 (⟨qPo_ie hR.symm ⟨rfl, q2⟩, F2⟩)
    | ok v2 =>
      rw [bQ_o hA2] at hR
      obtain ⟨q2, k2, l2⟩ := qPo_o hA2 h2
      have i2 := nu_ok hA2
      have hM2 := k2.1.1
      have b2 := k2.2.1.1
      have P2 := P1.low hla (hf2.mono (fun b j z => by unfold SXn at z; unfold SLo; omega))
      refine qi_if_ne (tgt := 23) dX4_readSeed_18 (by decide) (fun z => ?_) (fun z => False.elim ((q10 q2 z)))
      refine qi_aload_n (i := 0) (x := 3) dX4_readSeed_23 rfl rfl ?_
      refine qi_getR (x := p) flX4_33 dX4_readSeed_24 rfl (by decide) k2.1.2.1 ?_
      refine qi_aload_n (i := 0) (x := 3) dX4_readSeed_27 rfl rfl ?_
      refine qi_getI (x := nI v2.2.2) flX4_40 dX4_readSeed_28 rfl (by decide) l2 ?_
      refine qi_putI flX4_168 q_cls3 (ty3_16 _) dX4_readSeed_31 (hp.1 0 (by decide)) (by have := hp.2.2; omega) ?_
      refine qi_aload_n (i := 0) (x := 3) dX4_readSeed_34 rfl rfl ?_
      refine qi_bipush (v := 59) dX4_readSeed_35 rfl ?_
      have KW1 : qXK (wI M2 p 16 (nI v2.2.2)) p T v2.1 v2.2.1 N := k2.fr (S := fun b _ => 12 ≤ b) (qFr.rf.wI (show 12 ≤ p by omega)) (fun b j z => Or.inl z)
      have FW1 : qFr (SXp p) M (wI M2 p 16 (nI v2.2.2)) := F2.wI (by unfold SXp; omega)
      have w1_0 := wI_s M2 (p) (16) (nI v2.2.2)
      have PW1 : qPX (wI M2 p 16 (nI v2.2.2)) p (cnP P 5 v2.2.2) sz := P2.cnt (i := 5) (by decide)
      refine qi_callVI (K' := kX4_accept) (As := [.int 59]) mlX4_117 okX4_accept dX4_readSeed_37 (c_X4_accept g hT KW1 (k := 59) (by decide)) rfl (by decide) rfl (by decide) rfl rfl (Nat.le_of_ble_eq_true rfl) ⟨(Nat.le_of_ble_eq_true rfl), (Nat.le_of_ble_eq_true rfl)⟩ ⟨Nat.le_refl _, Nat.le_refl _⟩ (fun r3 M3 ⟨h3, hf3⟩ => ?_)
      have F3 : qFr (SXp p) M M3 := FW1.tr (hf3.mono (fun b j z => by unfold SXa at z; unfold SXp; omega))
      cases hA3 : acQ T 59 v2.1 with
      | error e =>
        rw [bQ_e hA3] at hR
        obtain ⟨q1, q2⟩ := qPo_e hA3 h3
        refine qe_top (y := 0) q1 ?_
        exact qi_retI rfl (by rfl) dX4_readSeed_40 (⟨qPo_ie hR.symm ⟨rfl, q2⟩, F3⟩)
      | ok v3 =>
        rw [bQ_o hA3] at hR
        obtain ⟨q3, k3⟩ := qPo_o hA3 h3
        have i3 := ac_ok hA3
        have hM3 := k3.1.1
        have b3 := k3.2.1.1
        have P3 := PW1.low hla (hf3.mono (fun b j z => by unfold SXa at z; unfold SLo; omega))
        refine qe_top (y := 1) q3 ?_
        exact qi_retI rfl (by rfl) dX4_readSeed_40 (⟨qPo_io hR.symm ⟨rfl, k3, sz, by show sz ≤ v3; omega, P3⟩, F3⟩)
