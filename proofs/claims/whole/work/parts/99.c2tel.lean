/-! the class's tells: sends, dry, claims -/
theorem qPX.sl {M : qM} {p : Nat} {P : qPn} {sz : Nat} {x : Int32} (h : qPX M p P sz) : qPX (wI M (p + 9) (P.1 2) x) p P sz := by
  have hf : qFr (fun b j => b = p + 9 ∧ j = P.1 2) M (wI M (p + 9) (P.1 2) x) := qFr.rf.wI ⟨rfl, rfl⟩
  exact ⟨h.1.fr hf (fun b j z _ _ => Or.inr (Or.inr (Or.inl ⟨z.1, by omega⟩))), (wI_a (by omega)).trans h.2.1, h.2.2.fr hf (fun z => by omega) (fun j _ z => by omega)⟩
theorem bQ_as {α β γ : Type} {x : Except qE α} {f : α → Except qE β} {h : β → Except qE γ} : bQ (bQ x f) h = bQ x (fun v => bQ (f v) h) := by
  cases x <;> rfl
theorem tm_ok {T : qTk} {i a : Nat} {s : Nat × Nat} {N : qNm} {w : Nat × (Nat × Nat) × qTm} (h : tmQ T i a s N = .ok w) : w.1 = a + 4 ∧ w.1 ≤ 400 ∧ i < 6 ∧ kAt T a = 3 := by
  unfold tmQ at h
  split at h
  · cases h
  · rename_i hn
    obtain ⟨r1, h1, h⟩ := bQ_inv h
    obtain ⟨a2, h2, h⟩ := bQ_inv h
    obtain ⟨r3, h3, h⟩ := bQ_inv h
    obtain ⟨r4, h4, h⟩ := bQ_inv h
    have i1 := nu_ok h1
    have i2 := ac_ok h2
    have i3 := nu_ok h3
    have i4 := on_ok h4
    cases h
    refine ⟨by show r4.1 = a + 4; omega, by show r4.1 ≤ 400; omega, ?_, i1.2.2.1⟩
    have := i1.2.2.1
    omega
theorem tm_er {T : qTk} {i a : Nat} {s : Nat × Nat} {N : qNm} (ha : a ≤ 400) {e : qE} (h : tmQ T i a s N = .error e) : erOk a e := by
  unfold tmQ at h
  split at h
  · cases h
    exact ⟨Or.inr rfl, ha, Nat.le_refl _⟩
  · rcases bQ_inv2 h with h | ⟨r1, h1, h⟩
    · exact nu_er ha h
    have i1 := nu_ok h1
    rcases bQ_inv2 h with h | ⟨a2, h2, h⟩
    · exact erOk_m (ac_erOk (by omega) h) (by omega)
    have i2 := ac_ok h2
    rcases bQ_inv2 h with h | ⟨r3, h3, h⟩
    · exact erOk_m (nu_er (by omega) h) (by omega)
    have i3 := nu_ok h3
    rcases bQ_inv2 h with h | ⟨r4, h4, h⟩
    · exact erOk_m (on_er (by omega) h) (by omega)
    · cases h

theorem c_X4_readSends (g : qG) {T : qTk} (hT : okTk T) {p : Nat} (hp : qIsP p) {M : qM} {a : Nat} {s : Nat × Nat} {N : qNm} {P : qPn} {sz : Nat} (hK : qXK M p T a s N) (hsz : sz ≤ a) (hP : qPX M p P sz) (hC : okCn P) : qI g 17 kX4_readSends [.ref 3] M (fun r M' => qPo (seQ T (a, s, N, P)) (rdX p T) r M' ∧ qFr (SXp p) M M') := by
  generalize hR : seQ T (a, s, N, P) = res
  unfold seQ at hR
  dsimp only at hR
  have hla := hp.2.1
  have hlb := hp.2.2
  have hM := hK.1.1
  have b0 := hK.2.1.1
  have F0 : qFr (SXp p) M M := qFr.rf
  obtain ⟨c0, c1, c2, c3, c4⟩ := id hC
  refine qI.of (j := 1) (pn_RX4) rfl ?_
  show qT g kX4_readSends (qR 17 0 0) (qZI g (fun r M' => qPo res (rdX p T) r M' ∧ qFr (SXp p) M M')) 0 [some (.ref 3), none] [] 333 M (0, 0)
  refine qi_aload_n (i := 0) (x := 3) dX4_readSends_0 rfl rfl ?_
  refine qi_getR (x := p) flX4_33 dX4_readSends_1 rfl (by decide) hK.1.2.1 ?_
  refine qi_getI (x := nI (P.1 2)) flX4_135 dX4_readSends_4 (hp.1 0 (by decide)) (by have := hp.2.2; omega) hP.2.1 ?_
  refine qi_istore_n (i := 1) (L2 := [some (.ref 3), some (.int (nI (P.1 2)))]) dX4_readSends_7 rfl (Nat.le_of_ble_eq_true rfl) rfl ?_
  refine qi_aload_n (i := 0) (x := 3) dX4_readSends_8 rfl rfl ?_
  refine qi_sipush (v := 130) dX4_readSends_9 rfl ?_
  refine qi_iload_n (i := 1) (x := nI (P.1 2)) dX4_readSends_12 rfl rfl ?_
  refine qi_bipush (v := 16) dX4_readSends_13 rfl ?_
  refine qi_callVI (K' := kX4_opens) (As := [.int 130, .int (nI (P.1 2)), .int 16]) mlX4_100 okX4_opens dX4_readSends_15 (c_X4_opens g hT hK (k := 130) (n := P.1 2) (m := 16) (by decide) (by omega) (by decide)) rfl (by decide) rfl (by decide) rfl rfl (Nat.le_of_ble_eq_true rfl) ⟨(Nat.le_of_ble_eq_true rfl), (Nat.le_of_ble_eq_true rfl)⟩ ⟨Nat.le_refl _, Nat.le_refl _⟩ (fun r1 M1 ⟨h1, hf1⟩ => ?_)
  have F1 : qFr (SXp p) M M1 := F0.tr (hf1.mono (fun b j z => by unfold SXa at z; unfold SXp; omega))
  cases hA1 : opQ T 130 (P.1 2) 16 a with
  | error e =>
    rw [bQ_e hA1] at hR
    obtain ⟨q1, q2⟩ := qPo_e hA1 h1
    refine qi_if_eq (tgt := 31) dX4_readSends_18 (by decide) (fun z => ?_) (fun z => False.elim ((z q1)))
    refine qi_iconst (v := 0) dX4_readSends_31 rfl ?_
    exact qi_retI rfl (by rfl) dX4_readSends_32 (⟨qPo_ie hR.symm ⟨rfl, q2⟩, F1⟩)
  | ok v1 =>
    rw [bQ_o hA1] at hR
    obtain ⟨q1, k1⟩ := qPo_o hA1 h1
    have i1 := op_ok hA1
    have hM1 := k1.1.1
    have b1 := k1.2.1.1
    have P1 := hP.low hla (hf1.mono (fun b j z => by unfold SXa at z; unfold SLo; omega))
    refine qi_if_eq (tgt := 31) dX4_readSends_18 (by decide) (fun z => False.elim ((q10 q1 z))) (fun z => ?_)
    have n0 := i1.2.2.2
    refine qi_aload_n (i := 0) (x := 3) dX4_readSends_21 rfl rfl ?_
    refine qi_sipush (v := 129) dX4_readSends_22 rfl ?_
    refine qi_callVI (K' := kX4_oldName) (As := [.int 129]) mlX4_138 okX4_oldName dX4_readSends_25 (c_X4_oldName g hT k1 (k := 129) (by decide)) rfl (by decide) rfl (by decide) rfl rfl (Nat.le_of_ble_eq_true rfl) ⟨(Nat.le_of_ble_eq_true rfl), (Nat.le_of_ble_eq_true rfl)⟩ ⟨Nat.le_refl _, Nat.le_refl _⟩ (fun r2 M2 ⟨h2, hf2⟩ => ?_)
    have F2 : qFr (SXp p) M M2 := F1.tr (hf2.mono (fun b j z => by unfold SXn at z; unfold SXp; omega))
    cases hA2 : onQ T 129 v1 s N with
    | error e =>
      rw [bQ_e hA2] at hR
      obtain ⟨q1, q2⟩ := qPo_e hA2 h2
      refine qi_if_ne (tgt := 33) dX4_readSends_28 (by decide) (fun z => False.elim ((z q1))) (fun z => ?_)
      refine qi_iconst (v := 0) dX4_readSends_31 rfl ?_
      exact qi_retI rfl (by rfl) dX4_readSends_32 (⟨qPo_ie hR.symm ⟨rfl, q2⟩, F2⟩)
    | ok v2 =>
      rw [bQ_o hA2] at hR
      obtain ⟨q2, k2, l2⟩ := qPo_o hA2 h2
      have i2 := on_ok hA2
      have hM2 := k2.1.1
      have b2 := k2.2.1.1
      have P2 := P1.low hla (hf2.mono (fun b j z => by unfold SXn at z; unfold SLo; omega))
      refine qi_if_ne (tgt := 33) dX4_readSends_28 (by decide) (fun z => ?_) (fun z => False.elim ((q10 q2 z)))
      refine qi_aload_n (i := 0) (x := 3) dX4_readSends_33 rfl rfl ?_
      refine qi_getR (x := p) flX4_33 dX4_readSends_34 rfl (by decide) k2.1.2.1 ?_
      refine qi_getR (x := p + 7) flX4_141 dX4_readSends_37 (hp.1 0 (by decide)) (by have := hp.2.2; omega) (hM2 p 6 (p + 7) (qref_3_6 (hp.1 0 (by decide)))) ?_
      refine qi_iload_n (i := 1) (x := nI (P.1 2)) dX4_readSends_40 rfl rfl ?_
      refine qi_aload_n (i := 0) (x := 3) dX4_readSends_41 rfl rfl ?_
      refine qi_getI (x := nI v2.2.2) flX4_40 dX4_readSends_42 rfl (by decide) l2 ?_
      refine qi_iastN (j := P.1 2) dX4_readSends_45 (hp.1 7 (by decide)) (by have := hp.2.2; omega) rfl (by omega) (by decide) ?_
      refine qi_aload_n (i := 0) (x := 3) dX4_readSends_46 rfl rfl ?_
      refine qi_sipush (v := 128) dX4_readSends_47 rfl ?_
      have KW1 : qXK (wI M2 (p + 7) (P.1 2) (nI v2.2.2)) p T v2.1 v2.2.1 N := k2.fr (S := fun b _ => 12 ≤ b) (qFr.rf.wI (show 12 ≤ p + 7 by omega)) (fun b j z => Or.inl z)
      have FW1 : qFr (SXp p) M (wI M2 (p + 7) (P.1 2) (nI v2.2.2)) := F2.wI (by unfold SXp; omega)
      have w1_0 := wI_s M2 (p + 7) (P.1 2) (nI v2.2.2)
      have PW1 : qPX (wI M2 (p + 7) (P.1 2) (nI v2.2.2)) p P sz := P2.row (c := 6) (by decide) (Nat.le_refl _)
      refine qi_callVI (K' := kX4_oldName) (As := [.int 128]) mlX4_138 okX4_oldName dX4_readSends_50 (c_X4_oldName g hT KW1 (k := 128) (by decide)) rfl (by decide) rfl (by decide) rfl rfl (Nat.le_of_ble_eq_true rfl) ⟨(Nat.le_of_ble_eq_true rfl), (Nat.le_of_ble_eq_true rfl)⟩ ⟨Nat.le_refl _, Nat.le_refl _⟩ (fun r3 M3 ⟨h3, hf3⟩ => ?_)
      have F3 : qFr (SXp p) M M3 := FW1.tr (hf3.mono (fun b j z => by unfold SXn at z; unfold SXp; omega))
      cases hA3 : onQ T 128 v2.1 v2.2.1 N with
      | error e =>
        rw [bQ_e hA3] at hR
        obtain ⟨q1, q2⟩ := qPo_e hA3 h3
        refine qi_if_ne (tgt := 58) dX4_readSends_53 (by decide) (fun z => False.elim ((z q1))) (fun z => ?_)
        refine qi_iconst (v := 0) dX4_readSends_56 rfl ?_
        exact qi_retI rfl (by rfl) dX4_readSends_57 (⟨qPo_ie hR.symm ⟨rfl, q2⟩, F3⟩)
      | ok v3 =>
        rw [bQ_o hA3] at hR
        obtain ⟨q3, k3, l3⟩ := qPo_o hA3 h3
        have i3 := on_ok hA3
        have hM3 := k3.1.1
        have b3 := k3.2.1.1
        have P3 := PW1.low hla (hf3.mono (fun b j z => by unfold SXn at z; unfold SLo; omega))
        have e3_0 := (hf3.1 _ _ (by unfold SXn; omega)).trans w1_0
        refine qi_if_ne (tgt := 58) dX4_readSends_53 (by decide) (fun z => ?_) (fun z => False.elim ((q10 q3 z)))
        refine qi_aload_n (i := 0) (x := 3) dX4_readSends_58 rfl rfl ?_
        refine qi_getR (x := p) flX4_33 dX4_readSends_59 rfl (by decide) k3.1.2.1 ?_
        refine qi_getR (x := p + 8) flX4_144 dX4_readSends_62 (hp.1 0 (by decide)) (by have := hp.2.2; omega) (hM3 p 7 (p + 8) (qref_3_7 (hp.1 0 (by decide)))) ?_
        refine qi_iload_n (i := 1) (x := nI (P.1 2)) dX4_readSends_65 rfl rfl ?_
        refine qi_aload_n (i := 0) (x := 3) dX4_readSends_66 rfl rfl ?_
        refine qi_getI (x := nI v3.2.2) flX4_40 dX4_readSends_67 rfl (by decide) l3 ?_
        refine qi_iastN (j := P.1 2) dX4_readSends_70 (hp.1 8 (by decide)) (by have := hp.2.2; omega) rfl (by omega) (by decide) ?_
        refine qi_aload_n (i := 0) (x := 3) dX4_readSends_71 rfl rfl ?_
        refine qi_getR (x := p) flX4_33 dX4_readSends_72 rfl (by decide) k3.1.2.1 ?_
        refine qi_getR (x := p + 9) flX4_147 dX4_readSends_75 (hp.1 0 (by decide)) (by have := hp.2.2; omega) (hM3 p 8 (p + 9) (qref_3_8 (hp.1 0 (by decide)))) ?_
        refine qi_iload_n (i := 1) (x := nI (P.1 2)) dX4_readSends_78 rfl rfl ?_
        refine qi_aload_n (i := 0) (x := 3) dX4_readSends_79 rfl rfl ?_
        refine qi_getR (x := p) flX4_33 dX4_readSends_80 rfl (by decide) k3.1.2.1 ?_
        refine qi_getR (x := p + 10) flX4_150 dX4_readSends_83 (hp.1 0 (by decide)) (by have := hp.2.2; omega) (hM3 p 9 (p + 10) (qref_3_9 (hp.1 0 (by decide)))) ?_
        refine qi_getI (x := (wI M3 (p + 8) (P.1 2) (nI v3.2.2)).1 (p + 10) 6) flX4_154 dX4_readSends_86 (hp.1 10 (by decide)) (by have := hp.2.2; omega) rfl ?_
        have KW2 : qXK (wI M3 (p + 8) (P.1 2) (nI v3.2.2)) p T v3.1 v3.2.1 N := k3.fr (S := fun b _ => 12 ≤ b) (qFr.rf.wI (show 12 ≤ p + 8 by omega)) (fun b j z => Or.inl z)
        have FW2 : qFr (SXp p) M (wI M3 (p + 8) (P.1 2) (nI v3.2.2)) := F3.wI (by unfold SXp; omega)
        have w2_0 := (wI_a (M := M3) (a := p + 8) (k := P.1 2) (x := nI v3.2.2) (by omega)).trans e3_0
        have w2_1 := wI_s M3 (p + 8) (P.1 2) (nI v3.2.2)
        have PW2 : qPX (wI M3 (p + 8) (P.1 2) (nI v3.2.2)) p P sz := P3.row (c := 7) (by decide) (Nat.le_refl _)
        refine qe_top (y := nI sz) PW2.1.2.2.1.1 ?_
        refine qi_iastN (j := P.1 2) dX4_readSends_89 (hp.1 9 (by decide)) (by have := hp.2.2; omega) rfl (by omega) (by decide) ?_
        refine qi_aload_n (i := 0) (x := 3) dX4_readSends_90 rfl rfl ?_
        refine qi_getR (x := p) flX4_33 dX4_readSends_91 rfl (by decide) k3.1.2.1 ?_
        refine qi_iload_n (i := 1) (x := nI (P.1 2)) dX4_readSends_94 rfl rfl ?_
        refine qi_iconst (v := 1) dX4_readSends_95 rfl ?_
        refine qi_iadd dX4_readSends_96 ?_
        have KW3 : qXK (wI (wI M3 (p + 8) (P.1 2) (nI v3.2.2)) (p + 9) (P.1 2) (nI sz)) p T v3.1 v3.2.1 N := KW2.fr (S := fun b _ => 12 ≤ b) (qFr.rf.wI (show 12 ≤ p + 9 by omega)) (fun b j z => Or.inl z)
        have FW3 : qFr (SXp p) M (wI (wI M3 (p + 8) (P.1 2) (nI v3.2.2)) (p + 9) (P.1 2) (nI sz)) := FW2.wI (by unfold SXp; omega)
        have w3_0 := (wI_a (M := wI M3 (p + 8) (P.1 2) (nI v3.2.2)) (a := p + 9) (k := P.1 2) (x := nI sz) (by omega)).trans w2_0
        have w3_1 := (wI_a (M := wI M3 (p + 8) (P.1 2) (nI v3.2.2)) (a := p + 9) (k := P.1 2) (x := nI sz) (by omega)).trans w2_1
        have w3_2 := wI_s (wI M3 (p + 8) (P.1 2) (nI v3.2.2)) (p + 9) (P.1 2) (nI sz)
        have PW3 : qPX (wI (wI M3 (p + 8) (P.1 2) (nI v3.2.2)) (p + 9) (P.1 2) (nI sz)) p P sz := PW2.sl
        refine qe_top (y := nI (P.1 2 + 1)) (nI_1 _) ?_
        refine qi_putI flX4_135 q_cls3 (ty3_13 _) dX4_readSends_97 (hp.1 0 (by decide)) (by have := hp.2.2; omega) ?_
        refine qi_aload_n (i := 0) (x := 3) dX4_readSends_100 rfl rfl ?_
        have KW4 : qXK (wI (wI (wI M3 (p + 8) (P.1 2) (nI v3.2.2)) (p + 9) (P.1 2) (nI sz)) p 13 (nI (P.1 2 + 1))) p T v3.1 v3.2.1 N := KW3.fr (S := fun b _ => 12 ≤ b) (qFr.rf.wI (show 12 ≤ p by omega)) (fun b j z => Or.inl z)
        have FW4 : qFr (SXp p) M (wI (wI (wI M3 (p + 8) (P.1 2) (nI v3.2.2)) (p + 9) (P.1 2) (nI sz)) p 13 (nI (P.1 2 + 1))) := FW3.wI (by unfold SXp; omega)
        have w4_0 := (wI_a (M := wI (wI M3 (p + 8) (P.1 2) (nI v3.2.2)) (p + 9) (P.1 2) (nI sz)) (a := p) (k := 13) (x := nI (P.1 2 + 1)) (by omega)).trans w3_0
        have w4_1 := (wI_a (M := wI (wI M3 (p + 8) (P.1 2) (nI v3.2.2)) (p + 9) (P.1 2) (nI sz)) (a := p) (k := 13) (x := nI (P.1 2 + 1)) (by omega)).trans w3_1
        have w4_2 := (wI_a (M := wI (wI M3 (p + 8) (P.1 2) (nI v3.2.2)) (p + 9) (P.1 2) (nI sz)) (a := p) (k := 13) (x := nI (P.1 2 + 1)) (by omega)).trans w3_2
        have w4_3 := wI_s (wI (wI M3 (p + 8) (P.1 2) (nI v3.2.2)) (p + 9) (P.1 2) (nI sz)) (p) (13) (nI (P.1 2 + 1))
        have Y0 : qPY (wI (wI (wI M3 (p + 8) (P.1 2) (nI v3.2.2)) (p + 9) (P.1 2) (nI sz)) p 13 (nI (P.1 2 + 1))) p P sz := PW3.1.fr (S := fun b j => b = p ∧ j = 13) (qFr.rf.wI ⟨rfl, rfl⟩) (fun b j z _ _ => Or.inl ⟨z.1, Or.inl z.2⟩)
        have D0 : qPD (wI (wI (wI M3 (p + 8) (P.1 2) (nI v3.2.2)) (p + 9) (P.1 2) (nI sz)) p 13 (nI (P.1 2 + 1))) p P sz := PW3.2.2.fr (S := fun b j => b = p ∧ j = 13) (qFr.rf.wI ⟨rfl, rfl⟩) (fun z => by omega) (fun j _ z => by omega)
        refine qi_callVI (K' := kX4_law) (As := []) mlX4_159 okX4_law dX4_readSends_101 (c_X4_law g hT hp KW4 Y0.2.2.1.1 (by omega)) rfl (by decide) rfl (by decide) rfl rfl (Nat.le_of_ble_eq_true rfl) ⟨(Nat.le_of_ble_eq_true rfl), (Nat.le_of_ble_eq_true rfl)⟩ ⟨Nat.le_refl _, Nat.le_refl _⟩ (fun r4 M4 ⟨h4, hf4⟩ => ?_)
        have F4 : qFr (SXp p) M M4 := FW4.tr (hf4.mono (fun b j z => by unfold SXe SXa SEm at z; unfold SXp; omega))
        cases hA4 : laQ T v3.1 with
        | error e =>
          rw [bQ_e hA4] at hR
          obtain ⟨q1, q2⟩ := qPo_e hA4 h4
          refine qi_if_eq (tgt := 120) dX4_readSends_104 (by decide) (fun z => ?_) (fun z => False.elim ((z q1)))
          refine qi_iconst (v := 0) dX4_readSends_120 rfl ?_
          exact qi_retI rfl (by rfl) dX4_readSends_121 (⟨qPo_ie hR.symm ⟨rfl, q2⟩, F4⟩)
        | ok v4 =>
          rw [bQ_o hA4] at hR
          obtain ⟨q4, k4, z4, cc4⟩ := qPo_o hA4 h4
          have i4 := la_ok hT hA4
          have hM4 := k4.1.1
          have b4 := k4.2.1.1
          have e4_0 := (hf4.1 _ _ (by unfold SXe SXa SEm; omega)).trans w4_0
          have e4_1 := (hf4.1 _ _ (by unfold SXe SXa SEm; omega)).trans w4_1
          have e4_2 := (hf4.1 _ _ (by unfold SXe SXa SEm; omega)).trans w4_2
          have e4_3 := (hf4.1 _ _ (by unfold SXe SXa SEm; omega)).trans w4_3
          refine qi_if_eq (tgt := 120) dX4_readSends_104 (by decide) (fun z => False.elim ((q10 q4 z))) (fun z => ?_)
          have Y1 := Y0.law hla hf4 z4 (Nat.le_add_right _ _)
          have D1 := D0.law hla hf4 (sz2 := sz + (lwL sz v4.2.1 v4.2.2).length) (Nat.le_add_right _ _)
          have PL : qPX M4 p (seP P v2.2.2 v3.2.2 v4.2) (sz + (lwL sz v4.2.1 v4.2.2).length) := qPX.ofSends Y1 e4_3 D1 n0 e4_0 e4_1 e4_2 ⟨Nat.le_refl _, cc4⟩
          have ll := lwL_len v4.2.1 sz v4.2.2
          refine qi_aload_n (i := 0) (x := 3) dX4_readSends_107 rfl rfl ?_
          refine qi_bipush (v := 59) dX4_readSends_108 rfl ?_
          refine qi_callVI (K' := kX4_accept) (As := [.int 59]) mlX4_117 okX4_accept dX4_readSends_110 (c_X4_accept g hT k4 (k := 59) (by decide)) rfl (by decide) rfl (by decide) rfl rfl (Nat.le_of_ble_eq_true rfl) ⟨(Nat.le_of_ble_eq_true rfl), (Nat.le_of_ble_eq_true rfl)⟩ ⟨Nat.le_refl _, Nat.le_refl _⟩ (fun r5 M5 ⟨h5, hf5⟩ => ?_)
          have F5 : qFr (SXp p) M M5 := F4.tr (hf5.mono (fun b j z => by unfold SXa at z; unfold SXp; omega))
          cases hA5 : acQ T 59 v4.1 with
          | error e =>
            rw [bQ_e hA5] at hR
            obtain ⟨q1, q2⟩ := qPo_e hA5 h5
            refine qi_if_eq (tgt := 120) dX4_readSends_113 (by decide) (fun z => ?_) (fun z => False.elim ((z q1)))
            refine qi_iconst (v := 0) dX4_readSends_120 rfl ?_
            exact qi_retI rfl (by rfl) dX4_readSends_121 (⟨qPo_ie hR.symm ⟨rfl, q2⟩, F5⟩)
          | ok v5 =>
            rw [bQ_o hA5] at hR
            obtain ⟨q5, k5⟩ := qPo_o hA5 h5
            have i5 := ac_ok hA5
            have hM5 := k5.1.1
            have b5 := k5.2.1.1
            have P5 := PL.low hla (hf5.mono (fun b j z => by unfold SXa at z; unfold SLo; omega))
            refine qi_if_eq (tgt := 120) dX4_readSends_113 (by decide) (fun z => False.elim ((q10 q5 z))) (fun z => ?_)
            refine qi_iconst (v := 1) dX4_readSends_116 rfl ?_
            refine qi_goto (tgt := 121) dX4_readSends_117 (by decide) ?_
            refine qi_retI rfl (by rfl) dX4_readSends_121 (⟨qPo_io hR.symm ⟨rfl, k5, _, ?_, P5⟩, F5⟩)
            show sz + (lwL sz v4.2.1 v4.2.2).length ≤ v5
            omega
theorem c_X4_readDry (g : qG) {T : qTk} (hT : okTk T) {p : Nat} (hp : qIsP p) {M : qM} {a : Nat} {s : Nat × Nat} {N : qNm} {P : qPn} {sz : Nat} (hK : qXK M p T a s N) (hsz : sz ≤ a) (hP : qPX M p P sz) (hC : okCn P) : qI g 17 kX4_readDry [.ref 3] M (fun r M' => qPo (drQ T (a, s, N, P)) (rdX p T) r M' ∧ qFr (SXp p) M M') := by
  generalize hR : drQ T (a, s, N, P) = res
  unfold drQ at hR
  dsimp only at hR
  have hla := hp.2.1
  have hlb := hp.2.2
  have hM := hK.1.1
  have b0 := hK.2.1.1
  have F0 : qFr (SXp p) M M := qFr.rf
  obtain ⟨c0, c1, c2, c3, c4⟩ := id hC
  refine qI.of (j := 0) (pn_RX4) rfl ?_
  show qT g kX4_readDry (qR 17 0 0) (qZI g (fun r M' => qPo res (rdX p T) r M' ∧ qFr (SXp p) M M')) 0 [some (.ref 3)] [] 333 M (0, 0)
  refine qi_aload_n (i := 0) (x := 3) dX4_readDry_0 rfl rfl ?_
  refine qi_getR (x := p) flX4_33 dX4_readDry_1 rfl (by decide) hK.1.2.1 ?_
  refine qi_aload_n (i := 0) (x := 3) dX4_readDry_4 rfl rfl ?_
  refine qi_getR (x := p) flX4_33 dX4_readDry_5 rfl (by decide) hK.1.2.1 ?_
  refine qi_getR (x := p + 10) flX4_150 dX4_readDry_8 (hp.1 0 (by decide)) (by have := hp.2.2; omega) (hM p 9 (p + 10) (qref_3_9 (hp.1 0 (by decide)))) ?_
  refine qi_getI (x := M.1 (p + 10) 6) flX4_154 dX4_readDry_11 (hp.1 10 (by decide)) (by have := hp.2.2; omega) rfl ?_
  refine qe_top (y := nI sz) hP.1.2.2.1.1 ?_
  refine qi_putI flX4_162 q_cls3 (ty3_14 _) dX4_readDry_14 (hp.1 0 (by decide)) (by have := hp.2.2; omega) ?_
  refine qi_aload_n (i := 0) (x := 3) dX4_readDry_17 rfl rfl ?_
  refine qi_sipush (v := 131) dX4_readDry_18 rfl ?_
  have KW1 : qXK (wI M p 14 (nI sz)) p T a s N := hK.fr (S := fun b _ => 12 ≤ b) (qFr.rf.wI (show 12 ≤ p by omega)) (fun b j z => Or.inl z)
  have FW1 : qFr (SXp p) M (wI M p 14 (nI sz)) := F0.wI (by unfold SXp; omega)
  have w1_0 := wI_s M (p) (14) (nI sz)
  have w1_1 : (wI M p 14 (nI sz)).1 p 13 = nI (P.1 2) := (wI_k (by decide)).trans hP.2.1
  have Y0 : qPY (wI M p 14 (nI sz)) p P sz := hP.1.fr (S := fun b j => b = p ∧ j = 14) (qFr.rf.wI ⟨rfl, rfl⟩) (fun b j z _ _ => Or.inl ⟨z.1, Or.inr z.2⟩)
  refine qi_callVI (K' := kX4_accept) (As := [.int 131]) mlX4_117 okX4_accept dX4_readDry_21 (c_X4_accept g hT KW1 (k := 131) (by decide)) rfl (by decide) rfl (by decide) rfl rfl (Nat.le_of_ble_eq_true rfl) ⟨(Nat.le_of_ble_eq_true rfl), (Nat.le_of_ble_eq_true rfl)⟩ ⟨Nat.le_refl _, Nat.le_refl _⟩ (fun r1 M1 ⟨h1, hf1⟩ => ?_)
  have F1 : qFr (SXp p) M M1 := FW1.tr (hf1.mono (fun b j z => by unfold SXa at z; unfold SXp; omega))
  cases hA1 : acQ T 131 a with
  | error e =>
    rw [bQ_e hA1] at hR
    obtain ⟨q1, q2⟩ := qPo_e hA1 h1
    refine qi_if_eq (tgt := 47) dX4_readDry_24 (by decide) (fun z => ?_) (fun z => False.elim ((z q1)))
    refine qi_iconst (v := 0) dX4_readDry_47 rfl ?_
    exact qi_retI rfl (by rfl) dX4_readDry_48 (⟨qPo_ie hR.symm ⟨rfl, q2⟩, F1⟩)
  | ok v1 =>
    rw [bQ_o hA1] at hR
    obtain ⟨q1, k1⟩ := qPo_o hA1 h1
    have i1 := ac_ok hA1
    have hM1 := k1.1.1
    have b1 := k1.2.1.1
    have e1_0 := (hf1.1 _ _ (by unfold SXa; omega)).trans w1_0
    have e1_1 := (hf1.1 _ _ (by unfold SXa; omega)).trans w1_1
    refine qi_if_eq (tgt := 47) dX4_readDry_24 (by decide) (fun z => False.elim ((q10 q1 z))) (fun z => ?_)
    have Y1 := Y0.fr hf1 (fun b j z h _ => by unfold SXa at z; omega)
    refine qi_aload_n (i := 0) (x := 3) dX4_readDry_27 rfl rfl ?_
    refine qi_callVI (K' := kX4_law) (As := []) mlX4_159 okX4_law dX4_readDry_28 (c_X4_law g hT hp k1 Y1.2.2.1.1 (by omega)) rfl (by decide) rfl (by decide) rfl rfl (Nat.le_of_ble_eq_true rfl) ⟨(Nat.le_of_ble_eq_true rfl), (Nat.le_of_ble_eq_true rfl)⟩ ⟨Nat.le_refl _, Nat.le_refl _⟩ (fun r2 M2 ⟨h2, hf2⟩ => ?_)
    have F2 : qFr (SXp p) M M2 := F1.tr (hf2.mono (fun b j z => by unfold SXe SXa SEm at z; unfold SXp; omega))
    cases hA2 : laQ T v1 with
    | error e =>
      rw [bQ_e hA2] at hR
      obtain ⟨q1, q2⟩ := qPo_e hA2 h2
      refine qi_if_eq (tgt := 47) dX4_readDry_31 (by decide) (fun z => ?_) (fun z => False.elim ((z q1)))
      refine qi_iconst (v := 0) dX4_readDry_47 rfl ?_
      exact qi_retI rfl (by rfl) dX4_readDry_48 (⟨qPo_ie hR.symm ⟨rfl, q2⟩, F2⟩)
    | ok v2 =>
      rw [bQ_o hA2] at hR
      obtain ⟨q2, k2, z2, cc2⟩ := qPo_o hA2 h2
      have i2 := la_ok hT hA2
      have hM2 := k2.1.1
      have b2 := k2.2.1.1
      have e2_0 := (hf2.1 _ _ (by unfold SXe SXa SEm; omega)).trans e1_0
      have e2_1 := (hf2.1 _ _ (by unfold SXe SXa SEm; omega)).trans e1_1
      refine qi_if_eq (tgt := 47) dX4_readDry_31 (by decide) (fun z => False.elim ((q10 q2 z))) (fun z => ?_)
      have Y2 := Y1.law hla hf2 z2 (Nat.le_add_right _ _)
      have PL : qPX M2 p (drP P v2.2) (sz + (lwL sz v2.2.1 v2.2.2).length) := qPX.ofDry Y2 e2_1 c2 e2_0 ⟨Nat.le_refl _, cc2⟩
      have ll := lwL_len v2.2.1 sz v2.2.2
      refine qi_aload_n (i := 0) (x := 3) dX4_readDry_34 rfl rfl ?_
      refine qi_bipush (v := 59) dX4_readDry_35 rfl ?_
      refine qi_callVI (K' := kX4_accept) (As := [.int 59]) mlX4_117 okX4_accept dX4_readDry_37 (c_X4_accept g hT k2 (k := 59) (by decide)) rfl (by decide) rfl (by decide) rfl rfl (Nat.le_of_ble_eq_true rfl) ⟨(Nat.le_of_ble_eq_true rfl), (Nat.le_of_ble_eq_true rfl)⟩ ⟨Nat.le_refl _, Nat.le_refl _⟩ (fun r3 M3 ⟨h3, hf3⟩ => ?_)
      have F3 : qFr (SXp p) M M3 := F2.tr (hf3.mono (fun b j z => by unfold SXa at z; unfold SXp; omega))
      cases hA3 : acQ T 59 v2.1 with
      | error e =>
        rw [bQ_e hA3] at hR
        obtain ⟨q1, q2⟩ := qPo_e hA3 h3
        refine qi_if_eq (tgt := 47) dX4_readDry_40 (by decide) (fun z => ?_) (fun z => False.elim ((z q1)))
        refine qi_iconst (v := 0) dX4_readDry_47 rfl ?_
        exact qi_retI rfl (by rfl) dX4_readDry_48 (⟨qPo_ie hR.symm ⟨rfl, q2⟩, F3⟩)
      | ok v3 =>
        rw [bQ_o hA3] at hR
        obtain ⟨q3, k3⟩ := qPo_o hA3 h3
        have i3 := ac_ok hA3
        have hM3 := k3.1.1
        have b3 := k3.2.1.1
        have P3 := PL.low hla (hf3.mono (fun b j z => by unfold SXa at z; unfold SLo; omega))
        refine qi_if_eq (tgt := 47) dX4_readDry_40 (by decide) (fun z => False.elim ((q10 q3 z))) (fun z => ?_)
        refine qi_iconst (v := 1) dX4_readDry_43 rfl ?_
        refine qi_goto (tgt := 48) dX4_readDry_44 (by decide) ?_
        refine qi_retI rfl (by rfl) dX4_readDry_48 (⟨qPo_io hR.symm ⟨rfl, k3, _, ?_, P3⟩, F3⟩)
        show sz + (lwL sz v2.2.1 v2.2.2).length ≤ v3
        omega
theorem c_X10_open (g : qG) {M : qM} {p : Nat} (hp : qIsP p) (hM : qRf M) {nc tm : Nat} (h5 : M.1 (p + 14) 5 = nI nc) (h4 : M.1 (p + 14) 4 = nI tm) (hn : nc < 6) : qV g 0 kX10_open [.ref (p + 14)] M (fun M' => M' = wI (wI M (p + 18) nc (nI tm)) (p + 14) 5 (nI (nc + 1))) := by
  have hla := hp.2.1
  have hlb := hp.2.2
  refine qV.of (j := 0) (pn_RX10) rfl ?_
  show qT g kX10_open (qR 0 0 0) (qZV g (fun M' => M' = wI (wI M (p + 18) nc (nI tm)) (p + 14) 5 (nI (nc + 1)))) 0 [some (.ref (p + 14))] [] 333 M (0, 0)
  refine qi_aload_n (i := 0) (x := p + 14) dX10_open_0 rfl rfl ?_
  refine qi_getI (x := nI nc) flX10_28 dX10_open_1 (hp.1 14 (by decide)) (by have := hp.2.2; omega) h5 ?_
  refine qi_bipush (v := 6) dX10_open_4 rfl ?_
  refine qi_icmp_ge (tgt := 32) dX10_open_6 (by decide) (fun _h => absurd ((nI_leI (a := 6) (b := nc) (by omega) (by omega)).mp _h) (by omega)) (fun _hc => ?_)
  refine qi_aload_n (i := 0) (x := p + 14) dX10_open_9 rfl rfl ?_
  refine qi_getR (x := p + 14 + 4) flX10_21 dX10_open_10 (hp.1 14 (by decide)) (by have := hp.2.2; omega) (hM (p + 14) 3 (p + 14 + 4) (qref_10_3 (hp.1 14 (by decide)))) ?_
  refine qi_aload_n (i := 0) (x := p + 14) dX10_open_13 rfl rfl ?_
  refine qi_getI (x := nI nc) flX10_28 dX10_open_14 (hp.1 14 (by decide)) (by have := hp.2.2; omega) h5 ?_
  refine qi_aload_n (i := 0) (x := p + 14) dX10_open_17 rfl rfl ?_
  refine qi_getI (x := nI tm) flX10_24 dX10_open_18 (hp.1 14 (by decide)) (by have := hp.2.2; omega) h4 ?_
  refine qi_iastN (j := nc) dX10_open_21 (hp.1 18 (by decide)) (by omega) rfl (by omega) (by decide) ?_
  refine qi_aload_n (i := 0) (x := p + 14) dX10_open_22 rfl rfl ?_
  refine qi_dup dX10_open_23 ?_
  refine qi_getI (x := (wI M (p + 14 + 4) nc (nI tm)).1 (p + 14) 5) flX10_28 dX10_open_24 (hp.1 14 (by decide)) (by have := hp.2.2; omega) rfl ?_
  refine qe_top (y := nI nc) ((wI_a (by omega)).trans h5) ?_
  refine qi_iconst (v := 1) dX10_open_27 rfl ?_
  refine qi_iadd dX10_open_28 ?_
  refine qe_top (y := nI (nc + 1)) (nI_1 nc) ?_
  refine qi_putI flX10_28 q_cls10 (ty10_5 _) dX10_open_29 (hp.1 14 (by decide)) (by have := hp.2.2; omega) ?_
  exact qi_retV rfl dX10_open_32 (rfl)
theorem c_X10_addTerm (g : qG) {M : qM} {p : Nat} (hp : qIsP p) (hM : qRf M) {nc tm : Nat} (h5 : M.1 (p + 14) 5 = nI (nc + 1)) (h4 : M.1 (p + 14) 4 = nI tm) (hn : nc < 6) (ht : tm < 36) (x y z : Int32) : qV g 0 kX10_addTerm [.ref (p + 14), .int x, .int y, .int z] M (fun M' => M' = adW M p tm nc x y z) := by
  have hla := hp.2.1
  have hlb := hp.2.2
  refine qV.of (j := 0) (pn_RX10) rfl ?_
  show qT g kX10_addTerm (qR 0 0 0) (qZV g (fun M' => M' = adW M p tm nc x y z)) 0 [some (.ref (p + 14)), some (.int x), some (.int y), some (.int z)] [] 333 M (0, 0)
  refine qi_aload_n (i := 0) (x := p + 14) dX10_addTerm_0 rfl rfl ?_
  refine qi_getI (x := nI (nc + 1)) flX10_28 dX10_addTerm_1 (hp.1 14 (by decide)) (by have := hp.2.2; omega) h5 ?_
  refine qi_if_le (tgt := 74) dX10_addTerm_4 (by decide) (fun _h => absurd ((nI_leI (a := nc + 1) (b := 0) (by omega) (by omega)).mp _h) (by omega)) (fun _hc => ?_)
  refine qi_aload_n (i := 0) (x := p + 14) dX10_addTerm_7 rfl rfl ?_
  refine qi_getI (x := nI tm) flX10_24 dX10_addTerm_8 (hp.1 14 (by decide)) (by have := hp.2.2; omega) h4 ?_
  refine qi_aload_n (i := 0) (x := p + 14) dX10_addTerm_11 rfl rfl ?_
  refine qi_getR (x := p + 14 + 1) flX10_9 dX10_addTerm_12 (hp.1 14 (by decide)) (by have := hp.2.2; omega) (hM (p + 14) 0 (p + 14 + 1) (qref_10_0 (hp.1 14 (by decide)))) ?_
  refine qi_alen (v := 36) dX10_addTerm_15 (hp.1 15 (by decide)) (by decide) (by omega) rfl ?_
  refine qi_icmp_ge (tgt := 74) dX10_addTerm_16 (by decide) (fun _h => absurd ((nI_leI (a := 36) (b := tm) (by omega) (by omega)).mp _h) (by omega)) (fun _hc => ?_)
  refine qi_aload_n (i := 0) (x := p + 14) dX10_addTerm_19 rfl rfl ?_
  refine qi_getR (x := p + 14 + 1) flX10_9 dX10_addTerm_20 (hp.1 14 (by decide)) (by have := hp.2.2; omega) (hM (p + 14) 0 (p + 14 + 1) (qref_10_0 (hp.1 14 (by decide)))) ?_
  refine qi_aload_n (i := 0) (x := p + 14) dX10_addTerm_23 rfl rfl ?_
  refine qi_getI (x := nI tm) flX10_24 dX10_addTerm_24 (hp.1 14 (by decide)) (by have := hp.2.2; omega) h4 ?_
  refine qi_iload_n (i := 1) (x := x) dX10_addTerm_27 rfl rfl ?_
  refine qi_iastN (j := tm) dX10_addTerm_28 (hp.1 15 (by decide)) (by omega) rfl (by omega) (by decide) ?_
  refine qi_aload_n (i := 0) (x := p + 14) dX10_addTerm_29 rfl rfl ?_
  refine qi_getR (x := p + 14 + 2) flX10_15 dX10_addTerm_30 (hp.1 14 (by decide)) (by have := hp.2.2; omega) (hM (p + 14) 1 (p + 14 + 2) (qref_10_1 (hp.1 14 (by decide)))) ?_
  refine qi_aload_n (i := 0) (x := p + 14) dX10_addTerm_33 rfl rfl ?_
  refine qi_getI (x := (wI M (p + 14 + 1) tm x).1 (p + 14) 4) flX10_24 dX10_addTerm_34 (hp.1 14 (by decide)) (by have := hp.2.2; omega) rfl ?_
  refine qe_top (y := nI tm) ((wI_a (by omega)).trans h4) ?_
  refine qi_iload_n (i := 2) (x := y) dX10_addTerm_37 rfl rfl ?_
  refine qi_iastN (j := tm) dX10_addTerm_38 (hp.1 16 (by decide)) (by omega) rfl (by omega) (by decide) ?_
  refine qi_aload_n (i := 0) (x := p + 14) dX10_addTerm_39 rfl rfl ?_
  refine qi_getR (x := p + 14 + 3) flX10_18 dX10_addTerm_40 (hp.1 14 (by decide)) (by have := hp.2.2; omega) (hM (p + 14) 2 (p + 14 + 3) (qref_10_2 (hp.1 14 (by decide)))) ?_
  refine qi_aload_n (i := 0) (x := p + 14) dX10_addTerm_43 rfl rfl ?_
  refine qi_getI (x := (wI (wI M (p + 14 + 1) tm x) (p + 14 + 2) tm y).1 (p + 14) 4) flX10_24 dX10_addTerm_44 (hp.1 14 (by decide)) (by have := hp.2.2; omega) rfl ?_
  refine qe_top (y := nI tm) ((wI_a (by omega)).trans ((wI_a (by omega)).trans h4)) ?_
  refine qi_iload_n (i := 3) (x := z) dX10_addTerm_47 rfl rfl ?_
  refine qi_iastN (j := tm) dX10_addTerm_48 (hp.1 17 (by decide)) (by omega) rfl (by omega) (by decide) ?_
  refine qi_aload_n (i := 0) (x := p + 14) dX10_addTerm_49 rfl rfl ?_
  refine qi_dup dX10_addTerm_50 ?_
  refine qi_getI (x := (wI (wI (wI M (p + 14 + 1) tm x) (p + 14 + 2) tm y) (p + 14 + 3) tm z).1 (p + 14) 4) flX10_24 dX10_addTerm_51 (hp.1 14 (by decide)) (by have := hp.2.2; omega) rfl ?_
  refine qe_top (y := nI tm) ((wI_a (by omega)).trans ((wI_a (by omega)).trans ((wI_a (by omega)).trans h4))) ?_
  refine qi_iconst (v := 1) dX10_addTerm_54 rfl ?_
  refine qi_iadd dX10_addTerm_55 ?_
  refine qe_top (y := nI (tm + 1)) (nI_1 tm) ?_
  refine qi_putI flX10_24 q_cls10 (ty10_4 _) dX10_addTerm_56 (hp.1 14 (by decide)) (by have := hp.2.2; omega) ?_
  refine qi_aload_n (i := 0) (x := p + 14) dX10_addTerm_59 rfl rfl ?_
  refine qi_getR (x := p + 14 + 4) flX10_21 dX10_addTerm_60 (hp.1 14 (by decide)) (by have := hp.2.2; omega) (hM (p + 14) 3 (p + 14 + 4) (qref_10_3 (hp.1 14 (by decide)))) ?_
  refine qi_aload_n (i := 0) (x := p + 14) dX10_addTerm_63 rfl rfl ?_
  refine qi_getI (x := (wI (wI (wI (wI M (p + 14 + 1) tm x) (p + 14 + 2) tm y) (p + 14 + 3) tm z) (p + 14) 4 (nI (tm + 1))).1 (p + 14) 5) flX10_28 dX10_addTerm_64 (hp.1 14 (by decide)) (by have := hp.2.2; omega) rfl ?_
  refine qe_top (y := nI (nc + 1)) ((wI_k (by decide)).trans ((wI_a (by omega)).trans ((wI_a (by omega)).trans ((wI_a (by omega)).trans h5)))) ?_
  refine qi_iconst (v := 1) dX10_addTerm_67 rfl ?_
  refine qi_isub dX10_addTerm_68 ?_
  refine qe_top (y := nI nc) (nI_pred nc) ?_
  refine qi_aload_n (i := 0) (x := p + 14) dX10_addTerm_69 rfl rfl ?_
  refine qi_getI (x := nI (tm + 1)) flX10_24 dX10_addTerm_70 (hp.1 14 (by decide)) (by have := hp.2.2; omega) (wI_s _ _ _ _) ?_
  refine qi_iastN (j := nc) dX10_addTerm_73 (hp.1 18 (by decide)) (by omega) rfl (by omega) (by decide) ?_
  exact qi_retV rfl dX10_addTerm_74 (rfl)
theorem c_X4_readTerm (g : qG) {T : qTk} (hT : okTk T) {p : Nat} (hp : qIsP p) {M : qM} {a : Nat} {s : Nat × Nat} {N : qNm} {P : qPn} {sz i : Nat} {ts : List qTm} (hK : qXK M p T a s N) (hP : qPX M p (clP P ts) sz) (hC : okCn P) (hn : P.1 3 < 6) (hl : ts.length = i) (hi : i ≤ 6) (hS : sumN (P.2.1 8) (P.1 3) ≤ 6 * P.1 3) : qI g 3 kX4_readTerm [.ref 3, .int (nI i)] M (fun r M' => qPo (tmQ T i a s N) (fun w M' => qXK M' p T w.1 w.2.1 N ∧ qPX M' p (clP P (ts ++ [w.2.2])) sz) r M' ∧ qFr (SXp p) M M') := by
  generalize hR : tmQ T i a s N = res
  unfold tmQ at hR
  have hla := hp.2.1
  have hlb := hp.2.2
  obtain ⟨⟨hM, hpl, hTk⟩, ⟨b0, hat, hfa⟩, -⟩ := id hK
  have hka := kAt_le hT a
  have F0 : qFr (SXp p) M M := qFr.rf
  have GO : ¬ (kAt T a = 3 ∧ 6 ≤ i) → qT g kX4_readTerm (qR 3 0 0) (qZI g (fun r M' => qPo res (fun w M' => qXK M' p T w.1 w.2.1 N ∧ qPX M' p (clP P (ts ++ [w.2.2])) sz) r M' ∧ qFr (SXp p) M M')) 27 [some (.ref 3), some (.int (nI i)), none, none] [] 333 M (0, 0) := by
    intro hno
    rw [if_neg hno] at hR
    obtain ⟨c0, c1, c2, c3, c4⟩ := id hC
    refine qi_aload_n (i := 0) (x := 3) dX4_readTerm_27 rfl rfl ?_
    refine qi_iconst (v := 1) dX4_readTerm_28 rfl ?_
    refine qi_bipush (v := 99) dX4_readTerm_29 rfl ?_
    refine qi_callVI (K' := kX4_number) (As := [.int 1, .int 99]) mlX4_108 okX4_number dX4_readTerm_31 (c_X4_number g hT hK (lo := 1) (hi := 99) (by decide) (by decide)) rfl (by decide) rfl (by decide) rfl rfl (Nat.le_of_ble_eq_true rfl) ⟨(Nat.le_of_ble_eq_true rfl), (Nat.le_of_ble_eq_true rfl)⟩ ⟨Nat.le_refl _, Nat.le_refl _⟩ (fun r1 M1 ⟨h1, hf1⟩ => ?_)
    have F1 : qFr (SXp p) M M1 := F0.tr (hf1.mono (fun b j z => by unfold SXn at z; unfold SXp; omega))
    cases hA1 : nuQ T 1 99 a s with
    | error e =>
      rw [bQ_e hA1] at hR
      obtain ⟨q1, q2⟩ := qPo_e hA1 h1
      refine qi_if_ne (tgt := 39) dX4_readTerm_34 (by decide) (fun z => False.elim ((z q1))) (fun z => ?_)
      refine qi_iconst (v := 0) dX4_readTerm_37 rfl ?_
      exact qi_retI rfl (by rfl) dX4_readTerm_38 (⟨qPo_ie hR.symm ⟨rfl, q2⟩, F1⟩)
    | ok v1 =>
      rw [bQ_o hA1] at hR
      obtain ⟨q1, k1, l1⟩ := qPo_o hA1 h1
      have i1 := nu_ok hA1
      have hM1 := k1.1.1
      have b1 := k1.2.1.1
      have P1 := hP.low hla (hf1.mono (fun b j z => by unfold SXn at z; unfold SLo; omega))
      refine qi_if_ne (tgt := 39) dX4_readTerm_34 (by decide) (fun z => ?_) (fun z => False.elim ((q10 q1 z)))
      refine qi_aload_n (i := 0) (x := 3) dX4_readTerm_39 rfl rfl ?_
      refine qi_getI (x := nI v1.2.2) flX4_40 dX4_readTerm_40 rfl (by decide) l1 ?_
      refine qi_istore_n (i := 2) (L2 := [some (.ref 3), some (.int (nI i)), some (.int (nI v1.2.2)), none]) dX4_readTerm_43 rfl (Nat.le_of_ble_eq_true rfl) rfl ?_
      refine qi_aload_n (i := 0) (x := 3) dX4_readTerm_44 rfl rfl ?_
      refine qi_sipush (v := 135) dX4_readTerm_45 rfl ?_
      refine qi_callVI (K' := kX4_accept) (As := [.int 135]) mlX4_117 okX4_accept dX4_readTerm_48 (c_X4_accept g hT k1 (k := 135) (by decide)) rfl (by decide) rfl (by decide) rfl rfl (Nat.le_of_ble_eq_true rfl) ⟨(Nat.le_of_ble_eq_true rfl), (Nat.le_of_ble_eq_true rfl)⟩ ⟨Nat.le_refl _, Nat.le_refl _⟩ (fun r2 M2 ⟨h2, hf2⟩ => ?_)
      have F2 : qFr (SXp p) M M2 := F1.tr (hf2.mono (fun b j z => by unfold SXa at z; unfold SXp; omega))
      cases hA2 : acQ T 135 v1.1 with
      | error e =>
        rw [bQ_e hA2] at hR
        obtain ⟨q1, q2⟩ := qPo_e hA2 h2
        refine qi_if_eq (tgt := 64) dX4_readTerm_51 (by decide) (fun z => ?_) (fun z => False.elim ((z q1)))
        refine qi_iconst (v := 0) dX4_readTerm_64 rfl ?_
        exact qi_retI rfl (by rfl) dX4_readTerm_65 (⟨qPo_ie hR.symm ⟨rfl, q2⟩, F2⟩)
      | ok v2 =>
        rw [bQ_o hA2] at hR
        obtain ⟨q2, k2⟩ := qPo_o hA2 h2
        have i2 := ac_ok hA2
        have hM2 := k2.1.1
        have b2 := k2.2.1.1
        have P2 := P1.low hla (hf2.mono (fun b j z => by unfold SXa at z; unfold SLo; omega))
        refine qi_if_eq (tgt := 64) dX4_readTerm_51 (by decide) (fun z => False.elim ((q10 q2 z))) (fun z => ?_)
        refine qi_aload_n (i := 0) (x := 3) dX4_readTerm_54 rfl rfl ?_
        refine qi_iconst (v := 1) dX4_readTerm_55 rfl ?_
        refine qi_bipush (v := 99) dX4_readTerm_56 rfl ?_
        refine qi_callVI (K' := kX4_number) (As := [.int 1, .int 99]) mlX4_108 okX4_number dX4_readTerm_58 (c_X4_number g hT k2 (lo := 1) (hi := 99) (by decide) (by decide)) rfl (by decide) rfl (by decide) rfl rfl (Nat.le_of_ble_eq_true rfl) ⟨(Nat.le_of_ble_eq_true rfl), (Nat.le_of_ble_eq_true rfl)⟩ ⟨Nat.le_refl _, Nat.le_refl _⟩ (fun r3 M3 ⟨h3, hf3⟩ => ?_)
        have F3 : qFr (SXp p) M M3 := F2.tr (hf3.mono (fun b j z => by unfold SXn at z; unfold SXp; omega))
        cases hA3 : nuQ T 1 99 v2 v1.2.1 with
        | error e =>
          rw [bQ_e hA3] at hR
          obtain ⟨q1, q2⟩ := qPo_e hA3 h3
          refine qi_if_ne (tgt := 66) dX4_readTerm_61 (by decide) (fun z => False.elim ((z q1))) (fun z => ?_)
          refine qi_iconst (v := 0) dX4_readTerm_64 rfl ?_
          exact qi_retI rfl (by rfl) dX4_readTerm_65 (⟨qPo_ie hR.symm ⟨rfl, q2⟩, F3⟩)
        | ok v3 =>
          rw [bQ_o hA3] at hR
          obtain ⟨q3, k3, l3⟩ := qPo_o hA3 h3
          have i3 := nu_ok hA3
          have hM3 := k3.1.1
          have b3 := k3.2.1.1
          have P3 := P2.low hla (hf3.mono (fun b j z => by unfold SXn at z; unfold SLo; omega))
          refine qi_if_ne (tgt := 66) dX4_readTerm_61 (by decide) (fun z => ?_) (fun z => False.elim ((q10 q3 z)))
          refine qi_aload_n (i := 0) (x := 3) dX4_readTerm_66 rfl rfl ?_
          refine qi_getI (x := nI v3.2.2) flX4_40 dX4_readTerm_67 rfl (by decide) l3 ?_
          refine qi_istore_n (i := 3) (L2 := [some (.ref 3), some (.int (nI i)), some (.int (nI v1.2.2)), some (.int (nI v3.2.2))]) dX4_readTerm_70 rfl (Nat.le_of_ble_eq_true rfl) rfl ?_
          refine qi_aload_n (i := 0) (x := 3) dX4_readTerm_71 rfl rfl ?_
          refine qi_sipush (v := 129) dX4_readTerm_72 rfl ?_
          refine qi_callVI (K' := kX4_oldName) (As := [.int 129]) mlX4_138 okX4_oldName dX4_readTerm_75 (c_X4_oldName g hT k3 (k := 129) (by decide)) rfl (by decide) rfl (by decide) rfl rfl (Nat.le_of_ble_eq_true rfl) ⟨(Nat.le_of_ble_eq_true rfl), (Nat.le_of_ble_eq_true rfl)⟩ ⟨Nat.le_refl _, Nat.le_refl _⟩ (fun r4 M4 ⟨h4, hf4⟩ => ?_)
          have F4 : qFr (SXp p) M M4 := F3.tr (hf4.mono (fun b j z => by unfold SXn at z; unfold SXp; omega))
          cases hA4 : onQ T 129 v3.1 v3.2.1 N with
          | error e =>
            rw [bQ_e hA4] at hR
            obtain ⟨q1, q2⟩ := qPo_e hA4 h4
            refine qi_if_ne (tgt := 83) dX4_readTerm_78 (by decide) (fun z => False.elim ((z q1))) (fun z => ?_)
            refine qi_iconst (v := 0) dX4_readTerm_81 rfl ?_
            exact qi_retI rfl (by rfl) dX4_readTerm_82 (⟨qPo_ie hR.symm ⟨rfl, q2⟩, F4⟩)
          | ok v4 =>
            rw [bQ_o hA4] at hR
            obtain ⟨q4, k4, l4⟩ := qPo_o hA4 h4
            have i4 := on_ok hA4
            have hM4 := k4.1.1
            have b4 := k4.2.1.1
            have P4 := P3.low hla (hf4.mono (fun b j z => by unfold SXn at z; unfold SLo; omega))
            refine qi_if_ne (tgt := 83) dX4_readTerm_78 (by decide) (fun z => ?_) (fun z => False.elim ((q10 q4 z)))
            have h14 := P4.1.2.2.2
            have e3 : (clP P ts).1 3 = P.1 3 + 1 := show updF P.1 3 (P.1 3 + 1) 3 = _ from if_pos rfl
            have hi6 : i < 6 := by have := i1.2.2.1; omega
            have h5 : M4.1 (p + 14) 5 = nI (P.1 3 + 1) := h14.1.trans (by rw [e3])
            have h4 : M4.1 (p + 14) 4 = nI (sumN (P.2.1 8) (P.1 3) + ts.length) := h14.2.1.trans (by rw [e3]; exact congrArg nI tmR_sum.2)
            refine qi_aload_n (i := 0) (x := 3) dX4_readTerm_83 rfl rfl ?_
            refine qi_getR (x := p) flX4_33 dX4_readTerm_84 rfl (by decide) k4.1.2.1 ?_
            refine qi_getR (x := p + 14) flX4_171 dX4_readTerm_87 (hp.1 0 (by decide)) (by have := hp.2.2; omega) (hM4 p 10 (p + 14) (qref_3_10 (hp.1 0 (by decide)))) ?_
            refine qi_iload_n (i := 2) (x := nI v1.2.2) dX4_readTerm_90 rfl rfl ?_
            refine qi_iload_n (i := 3) (x := nI v3.2.2) dX4_readTerm_91 rfl rfl ?_
            refine qi_aload_n (i := 0) (x := 3) dX4_readTerm_92 rfl rfl ?_
            refine qi_getI (x := nI v4.2.2) flX4_40 dX4_readTerm_93 rfl (by decide) l4 ?_
            refine qi_callVV (K' := kX10_addTerm) (As := [.int (nI v1.2.2), .int (nI v3.2.2), .int (nI v4.2.2)]) mlX4_186 okX10_addTerm dX4_readTerm_96 (c_X10_addTerm g hp hM4 h5 h4 hn (by omega) (nI v1.2.2) (nI v3.2.2) (nI v4.2.2)) (hp.1 14 (by decide)) (by decide) rfl (by have := hp.2.2; omega) rfl rfl (Nat.le_of_ble_eq_true rfl) ⟨(Nat.le_of_ble_eq_true rfl), (Nat.le_of_ble_eq_true rfl)⟩ ⟨Nat.le_refl _, Nat.le_refl _⟩ (fun W1 ew => ?_)
            have FA : qFr (fun b _ => p + 14 ≤ b ∧ b ≤ p + 18) M4 W1 := by
              rw [ew]
              exact ((((qFr.rf.wI (by omega)).wI (by omega)).wI (by omega)).wI (by omega)).wI (by omega)
            refine qi_iconst (v := 1) dX4_readTerm_99 rfl ?_
            refine qi_retI rfl (by rfl) dX4_readTerm_100 (⟨qPo_io hR.symm ⟨rfl, k4.fr FA (fun b j z => Or.inl (by omega)), ?_⟩, F4.tr (FA.mono (fun b j z => by unfold SXp; omega))⟩)
            rw [ew]
            exact P4.term c4
  refine qI.of (j := 2) (pn_RX4) rfl ?_
  show qT g kX4_readTerm (qR 3 0 0) (qZI g (fun r M' => qPo res (fun w M' => qXK M' p T w.1 w.2.1 N ∧ qPX M' p (clP P (ts ++ [w.2.2])) sz) r M' ∧ qFr (SXp p) M M')) 0 [some (.ref 3), some (.int (nI i)), none, none] [] 333 M (0, 0)
  refine qi_aload_n (i := 0) (x := 3) dX4_readTerm_0 rfl rfl ?_
  refine qi_getR (x := 4) flX4_12 dX4_readTerm_1 rfl (by decide) (hM 3 0 4 rfl) ?_
  refine qi_aload_n (i := 0) (x := 3) dX4_readTerm_4 rfl rfl ?_
  refine qi_getI (x := nI a) flX4_37 dX4_readTerm_5 rfl (by decide) hat ?_
  refine qi_callPVI (v := nI (kAt T a)) (K' := kX8_kindAt) (As := [.int (nI a)]) mlX4_64 okX8_kindAt dX4_readTerm_8 (c_X8_kindAt g hM hTk (by omega)) rfl (by decide) rfl (by decide) rfl rfl (Nat.le_of_ble_eq_true rfl) ⟨(Nat.le_of_ble_eq_true rfl), (Nat.le_of_ble_eq_true rfl)⟩ ⟨Nat.le_refl _, Nat.le_refl _⟩ ?_
  refine qi_iconst (v := 3) dX4_readTerm_11 rfl ?_
  by_cases h3 : kAt T a = 3
  ·
    refine qi_icmp_ne (tgt := 27) dX4_readTerm_12 (by decide) (fun _h => absurd ((nI_eq (a := kAt T a) (b := 3) (by omega) (by omega)).mpr (by omega)) _h) (fun _hc => ?_)
    refine qi_iload_n (i := 1) (x := nI i) dX4_readTerm_15 rfl rfl ?_
    refine qi_bipush (v := 6) dX4_readTerm_16 rfl ?_
    by_cases h6 : 6 ≤ i
    ·
      rw [if_pos ⟨h3, h6⟩] at hR
      refine qi_icmp_lt (tgt := 27) dX4_readTerm_18 (by decide) (fun _h => absurd ((nI_ltI (a := i) (b := 6) (by omega) (by omega)).mp _h) (by omega)) (fun _hc => ?_)
      refine qi_aload_n (i := 0) (x := 3) dX4_readTerm_21 rfl rfl ?_
      refine qi_iconst (v := 2) dX4_readTerm_22 rfl ?_
      refine qi_callVI (K' := kX4_refuse) (As := [.int 2]) mlX4_90 okX4_refuse dX4_readTerm_23 (c_X4_refuse g 2) rfl (by decide) rfl (by decide) rfl rfl (Nat.le_of_ble_eq_true rfl) ⟨(Nat.le_of_ble_eq_true rfl), (Nat.le_of_ble_eq_true rfl)⟩ ⟨Nat.le_refl _, Nat.le_refl _⟩ (fun r1 M1 ⟨e1, e2⟩ => ?_)
      refine qe_top (y := 0) e1 ?_
      exact qi_retI rfl (by rfl) dX4_readTerm_26 (⟨qPo_ie hR.symm ⟨rfl, by rw [e2]; exact ⟨wI_s _ _ _ _, (wI_k (by decide)).trans hat⟩⟩, by rw [e2]; exact qFr.rf.wI (by unfold SXp; omega)⟩)
    ·
      refine qi_icmp_lt (tgt := 27) dX4_readTerm_18 (by decide) (fun _hc => ?_) (fun _h => absurd ((nI_ltI (a := i) (b := 6) (by omega) (by omega)).mpr (by omega)) _h)
      exact GO (fun z => h6 z.2)
  ·
    refine qi_icmp_ne (tgt := 27) dX4_readTerm_12 (by decide) (fun _hc => ?_) (fun _h => absurd ((nI_eq (a := kAt T a) (b := 3) (by omega) (by omega)).mp _h) (by omega))
    exact GO (fun z => h3 z.1)
theorem c_X4_readClaim (g : qG) {T : qTk} (hT : okTk T) {p : Nat} (hp : qIsP p) {M : qM} {a : Nat} {s : Nat × Nat} {N : qNm} {P : qPn} {sz : Nat} (hK : qXK M p T a s N) (hsz : sz ≤ a) (hP : qPX M p P sz) (hC : okCn P) : qI g 4 kX4_readClaim [.ref 3] M (fun r M' => qPo (clQ T (a, s, N, P)) (rdX p T) r M' ∧ qFr (SXp p) M M') := by
  generalize hR : clQ T (a, s, N, P) = res
  unfold clQ at hR
  dsimp only at hR
  have hla := hp.2.1
  have hlb := hp.2.2
  have hM := hK.1.1
  have b0 := hK.2.1.1
  have F0 : qFr (SXp p) M M := qFr.rf
  obtain ⟨c0, c1, c2, c3, c4⟩ := id hC
  refine qI.of (j := 2) (pn_RX4) rfl ?_
  show qT g kX4_readClaim (qR 4 0 0) (qZI g (fun r M' => qPo res (rdX p T) r M' ∧ qFr (SXp p) M M')) 0 [some (.ref 3), none, none] [] 333 M (0, 0)
  refine qi_aload_n (i := 0) (x := 3) dX4_readClaim_0 rfl rfl ?_
  refine qi_getR (x := p) flX4_33 dX4_readClaim_1 rfl (by decide) hK.1.2.1 ?_
  refine qi_getR (x := p + 14) flX4_171 dX4_readClaim_4 (hp.1 0 (by decide)) (by have := hp.2.2; omega) (hM p 10 (p + 14) (qref_3_10 (hp.1 0 (by decide)))) ?_
  refine qi_getI (x := nI (P.1 3)) flX4_175 dX4_readClaim_7 (hp.1 14 (by decide)) (by have := hp.2.2; omega) hP.1.2.2.2.1 ?_
  refine qi_istore_n (i := 1) (L2 := [some (.ref 3), some (.int (nI (P.1 3))), none]) dX4_readClaim_10 rfl (Nat.le_of_ble_eq_true rfl) rfl ?_
  refine qi_aload_n (i := 0) (x := 3) dX4_readClaim_11 rfl rfl ?_
  refine qi_sipush (v := 133) dX4_readClaim_12 rfl ?_
  refine qi_iload_n (i := 1) (x := nI (P.1 3)) dX4_readClaim_15 rfl rfl ?_
  refine qi_bipush (v := 6) dX4_readClaim_16 rfl ?_
  refine qi_callVI (K' := kX4_opens) (As := [.int 133, .int (nI (P.1 3)), .int 6]) mlX4_100 okX4_opens dX4_readClaim_18 (c_X4_opens g hT hK (k := 133) (n := P.1 3) (m := 6) (by decide) (by omega) (by decide)) rfl (by decide) rfl (by decide) rfl rfl (Nat.le_of_ble_eq_true rfl) ⟨(Nat.le_of_ble_eq_true rfl), (Nat.le_of_ble_eq_true rfl)⟩ ⟨Nat.le_refl _, Nat.le_refl _⟩ (fun r1 M1 ⟨h1, hf1⟩ => ?_)
  have F1 : qFr (SXp p) M M1 := F0.tr (hf1.mono (fun b j z => by unfold SXa at z; unfold SXp; omega))
  cases hA1 : opQ T 133 (P.1 3) 6 a with
  | error e =>
    rw [bQ_e hA1] at hR
    obtain ⟨q1, q2⟩ := qPo_e hA1 h1
    refine qi_if_eq (tgt := 44) dX4_readClaim_21 (by decide) (fun z => ?_) (fun z => False.elim ((z q1)))
    refine qi_iconst (v := 0) dX4_readClaim_44 rfl ?_
    exact qi_retI rfl (by rfl) dX4_readClaim_45 (⟨qPo_ie hR.symm ⟨rfl, q2⟩, F1⟩)
  | ok v1 =>
    rw [bQ_o hA1] at hR
    obtain ⟨q1, k1⟩ := qPo_o hA1 h1
    have i1 := op_ok hA1
    have hM1 := k1.1.1
    have b1 := k1.2.1.1
    have P1 := hP.low hla (hf1.mono (fun b j z => by unfold SXa at z; unfold SLo; omega))
    refine qi_if_eq (tgt := 44) dX4_readClaim_21 (by decide) (fun z => False.elim ((q10 q1 z))) (fun z => ?_)
    have n0 := i1.2.2.2
    refine qi_aload_n (i := 0) (x := 3) dX4_readClaim_24 rfl rfl ?_
    refine qi_sipush (v := 133) dX4_readClaim_25 rfl ?_
    refine qi_iload_n (i := 1) (x := nI (P.1 3)) dX4_readClaim_28 rfl rfl ?_
    refine qi_callVI (K' := kX4_newName) (As := [.int 133, .int (nI (P.1 3))]) mlX4_104 okX4_newName dX4_readClaim_29 (c_X4_newName g hT k1 (k := 133) (n := P.1 3) (by decide)) rfl (by decide) rfl (by decide) rfl rfl (Nat.le_of_ble_eq_true rfl) ⟨(Nat.le_of_ble_eq_true rfl), (Nat.le_of_ble_eq_true rfl)⟩ ⟨Nat.le_refl _, Nat.le_refl _⟩ (fun r2 M2 ⟨h2, hf2⟩ => ?_)
    have F2 : qFr (SXp p) M M2 := F1.tr (hf2.mono (fun b j z => by unfold SXm at z; unfold SXp; omega))
    cases hA2 : nnQ T 133 (P.1 3) v1 s N with
    | error e =>
      rw [bQ_e hA2] at hR
      obtain ⟨q1, q2⟩ := qPo_e hA2 h2
      refine qi_if_eq (tgt := 44) dX4_readClaim_32 (by decide) (fun z => ?_) (fun z => False.elim ((z q1)))
      refine qi_iconst (v := 0) dX4_readClaim_44 rfl ?_
      exact qi_retI rfl (by rfl) dX4_readClaim_45 (⟨qPo_ie hR.symm ⟨rfl, q2⟩, F2⟩)
    | ok v2 =>
      rw [bQ_o hA2] at hR
      obtain ⟨q2, k2⟩ := qPo_o hA2 h2
      have i2 := nn_ok hA2
      have hM2 := k2.1.1
      have b2 := k2.2.1.1
      have P2 := P1.low hla (hf2.mono (fun b j z => by unfold SXm at z; unfold SLo; omega))
      refine qi_if_eq (tgt := 44) dX4_readClaim_32 (by decide) (fun z => False.elim ((q10 q2 z))) (fun z => ?_)
      refine qi_aload_n (i := 0) (x := 3) dX4_readClaim_35 rfl rfl ?_
      refine qi_bipush (v := 61) dX4_readClaim_36 rfl ?_
      refine qi_callVI (K' := kX4_accept) (As := [.int 61]) mlX4_117 okX4_accept dX4_readClaim_38 (c_X4_accept g hT k2 (k := 61) (by decide)) rfl (by decide) rfl (by decide) rfl rfl (Nat.le_of_ble_eq_true rfl) ⟨(Nat.le_of_ble_eq_true rfl), (Nat.le_of_ble_eq_true rfl)⟩ ⟨Nat.le_refl _, Nat.le_refl _⟩ (fun r3 M3 ⟨h3, hf3⟩ => ?_)
      have F3 : qFr (SXp p) M M3 := F2.tr (hf3.mono (fun b j z => by unfold SXa at z; unfold SXp; omega))
      cases hA3 : acQ T 61 v2.1 with
      | error e =>
        rw [bQ_e hA3] at hR
        obtain ⟨q1, q2⟩ := qPo_e hA3 h3
        refine qi_if_ne (tgt := 46) dX4_readClaim_41 (by decide) (fun z => False.elim ((z q1))) (fun z => ?_)
        refine qi_iconst (v := 0) dX4_readClaim_44 rfl ?_
        exact qi_retI rfl (by rfl) dX4_readClaim_45 (⟨qPo_ie hR.symm ⟨rfl, q2⟩, F3⟩)
      | ok v3 =>
        rw [bQ_o hA3] at hR
        obtain ⟨q3, k3⟩ := qPo_o hA3 h3
        have i3 := ac_ok hA3
        have hM3 := k3.1.1
        have b3 := k3.2.1.1
        have P3 := P2.low hla (hf3.mono (fun b j z => by unfold SXa at z; unfold SLo; omega))
        refine qi_if_ne (tgt := 46) dX4_readClaim_41 (by decide) (fun z => ?_) (fun z => False.elim ((q10 q3 z)))
        have hS : sumN (P.2.1 8) (P.1 3) ≤ 6 * P.1 3 := by
          have q : ∀ m, m ≤ P.1 3 → sumN (P.2.1 8) m ≤ 6 * m := by
            intro m
            induction m with
            | zero => intro _; exact Nat.zero_le _
            | succ m ih =>
              intro hm
              have := ih (by omega)
              have := c4 m (by omega)
              show sumN (P.2.1 8) m + P.2.1 8 m ≤ 6 * (m + 1)
              omega
          exact q _ (Nat.le_refl _)
        have K : ∀ m i a s ts M1, i + m = 7 → i ≤ 6 → ts.length = i → sz ≤ a → qXK M1 p T a s v2.2.2 → qPX M1 p (clP P ts) sz → qFr (SXp p) M M1 → bQ (tlQ T v2.2.2 m i a s ts) (fun r => bQ (acQ T 59 r.1) (fun a5 => .ok (a5, r.2.1, v2.2.2, clP P r.2.2))) = res → qT g kX4_readClaim (qR 4 0 0) (qZI g (fun r M' => qPo res (rdX p T) r M' ∧ qFr (SXp p) M M')) 58 [some (.ref 3), some (.int (nI (P.1 3))), some (.int (nI i))] [] 333 M1 (0, 0) := by
          intro m
          induction m with
          | zero =>
            intro i a s ts M1 e1 e2
            omega
          | succ m ih =>
            intro i a s ts M1 e1 e2 e3 hsa hK1 hP1 hF1 hR1
            rw [tlQ_s, bQ_as] at hR1
            have bb := hK1.2.1.1
            refine qi_iload_n (i := 2) (x := nI i) dX4_readClaim_58 rfl rfl ?_
            refine qi_bipush (v := 6) dX4_readClaim_59 rfl ?_
            refine qi_icmp_gt (tgt := 114) dX4_readClaim_61 (by decide) (fun _h => absurd ((nI_ltI (a := 6) (b := i) (by omega) (by omega)).mp _h) (by omega)) (fun _hc => ?_)
            refine qi_aload_n (i := 0) (x := 3) dX4_readClaim_64 rfl rfl ?_
            refine qi_iload_n (i := 2) (x := nI i) dX4_readClaim_65 rfl rfl ?_
            refine qi_callVI (K' := kX4_readTerm) (As := [.int (nI i)]) mlX4_183 okX4_readTerm dX4_readClaim_66 (c_X4_readTerm g hT hp hK1 hP1 hC n0 e3 e2 hS) rfl (by decide) rfl (by decide) rfl rfl (Nat.le_of_ble_eq_true rfl) ⟨(Nat.le_of_ble_eq_true rfl), (Nat.le_of_ble_eq_true rfl)⟩ ⟨Nat.le_refl _, Nat.le_refl _⟩ (fun r5 M5 ⟨h5, hf5⟩ => ?_)
            have F5 := hF1.tr hf5
            cases hA5 : tmQ T i a s v2.2.2 with
            | error e =>
              rw [bQ_e hA5] at hR1
              obtain ⟨q1, q2⟩ := qPo_e hA5 h5
              refine qi_if_ne (tgt := 74) dX4_readClaim_69 (by decide) (fun z => False.elim ((z q1))) (fun z => ?_)
              refine qi_iconst (v := 0) dX4_readClaim_72 rfl ?_
              exact qi_retI rfl (by rfl) dX4_readClaim_73 (⟨qPo_ie hR1.symm ⟨rfl, q2⟩, F5⟩)
            | ok w =>
              rw [bQ_o hA5] at hR1
              obtain ⟨q5, k5, p5⟩ := qPo_o hA5 h5
              have j5 := tm_ok hA5
              obtain ⟨⟨hM5, hpl5, hTk5⟩, ⟨b5, hat5, -⟩, -⟩ := id k5
              have hkw := kAt_le hT w.1
              have ln : (ts ++ [w.2.2]).length = i + 1 := by rw [List.length_append, e3]; rfl
              refine qi_if_ne (tgt := 74) dX4_readClaim_69 (by decide) (fun z => ?_) (fun z => False.elim ((q10 q5 z)))
              refine qi_aload_n (i := 0) (x := 3) dX4_readClaim_74 rfl rfl ?_
              refine qi_getR (x := 4) flX4_12 dX4_readClaim_75 rfl (by decide) (hM5 3 0 4 rfl) ?_
              refine qi_aload_n (i := 0) (x := 3) dX4_readClaim_78 rfl rfl ?_
              refine qi_getI (x := nI w.1) flX4_37 dX4_readClaim_79 rfl (by decide) hat5 ?_
              refine qi_callPVI (v := nI (kAt T w.1)) (K' := kX8_kindAt) (As := [.int (nI w.1)]) mlX4_64 okX8_kindAt dX4_readClaim_82 (c_X8_kindAt g hM5 hTk5 (by omega)) rfl (by decide) rfl (by decide) rfl rfl (Nat.le_of_ble_eq_true rfl) ⟨(Nat.le_of_ble_eq_true rfl), (Nat.le_of_ble_eq_true rfl)⟩ ⟨Nat.le_refl _, Nat.le_refl _⟩ ?_
              refine qi_bipush (v := 43) dX4_readClaim_85 rfl ?_
              by_cases h43 : kAt T w.1 = 43
              ·
                rw [if_pos h43, bQ_as] at hR1
                refine qi_icmp_eq (tgt := 97) dX4_readClaim_87 (by decide) (fun _hc => ?_) (fun _h => absurd ((nI_eq (a := kAt T w.1) (b := 43) (by omega) (by omega)).mpr (by omega)) _h)
                refine qi_aload_n (i := 0) (x := 3) dX4_readClaim_97 rfl rfl ?_
                refine qi_bipush (v := 43) dX4_readClaim_98 rfl ?_
                refine qi_callVI (K' := kX4_accept) (As := [.int 43]) mlX4_117 okX4_accept dX4_readClaim_100 (c_X4_accept g hT k5 (k := 43) (by decide)) rfl (by decide) rfl (by decide) rfl rfl (Nat.le_of_ble_eq_true rfl) ⟨(Nat.le_of_ble_eq_true rfl), (Nat.le_of_ble_eq_true rfl)⟩ ⟨Nat.le_refl _, Nat.le_refl _⟩ (fun r6 M6 ⟨h6, hf6⟩ => ?_)
                have F6 : qFr (SXp p) M M6 := F5.tr (hf6.mono (fun b j z => by unfold SXa at z; unfold SXp; omega))
                cases hA6 : acQ T 43 w.1 with
                | error e =>
                  rw [bQ_e hA6] at hR1
                  obtain ⟨q1, q2⟩ := qPo_e hA6 h6
                  refine qi_if_ne (tgt := 108) dX4_readClaim_103 (by decide) (fun z => False.elim ((z q1))) (fun z => ?_)
                  refine qi_iconst (v := 0) dX4_readClaim_106 rfl ?_
                  exact qi_retI rfl (by rfl) dX4_readClaim_107 (⟨qPo_ie hR1.symm ⟨rfl, q2⟩, F6⟩)
                | ok a6 =>
                  rw [bQ_o hA6] at hR1
                  obtain ⟨q6, k6⟩ := qPo_o hA6 h6
                  have j6 := ac_ok hA6
                  refine qi_if_ne (tgt := 108) dX4_readClaim_103 (by decide) (fun z => ?_) (fun z => False.elim ((q10 q6 z)))
                  refine qi_iinc (i := 2) (x := nI i) (v := nI (i + 1)) (L2 := [some (.ref 3), some (.int (nI (P.1 3))), some (.int (nI (i + 1)))]) dX4_readClaim_108 rfl (nI_1 i) (Nat.le_of_ble_eq_true rfl) rfl ?_
                  refine qi_goto (tgt := 58) dX4_readClaim_111 (by decide) ?_
                  exact ih (i + 1) a6 w.2.1 (ts ++ [w.2.2]) M6 (by omega) (by omega) ln (by omega) k6 (p5.low hla (hf6.mono (fun b j z => by unfold SXa at z; unfold SLo; omega))) F6 hR1
              ·
                rw [if_neg h43] at hR1
                have hR2 : bQ (acQ T 59 w.1) (fun a5 => .ok (a5, w.2.1, v2.2.2, clP P (ts ++ [w.2.2]))) = res := hR1
                refine qi_icmp_eq (tgt := 97) dX4_readClaim_87 (by decide) (fun _h => absurd ((nI_eq (a := kAt T w.1) (b := 43) (by omega) (by omega)).mp _h) (by omega)) (fun _hc => ?_)
                refine qi_aload_n (i := 0) (x := 3) dX4_readClaim_90 rfl rfl ?_
                refine qi_bipush (v := 59) dX4_readClaim_91 rfl ?_
                refine qi_callVI (K' := kX4_accept) (As := [.int 59]) mlX4_117 okX4_accept dX4_readClaim_93 (c_X4_accept g hT k5 (k := 59) (by decide)) rfl (by decide) rfl (by decide) rfl rfl (Nat.le_of_ble_eq_true rfl) ⟨(Nat.le_of_ble_eq_true rfl), (Nat.le_of_ble_eq_true rfl)⟩ ⟨Nat.le_refl _, Nat.le_refl _⟩ (fun r6 M6 ⟨h6, hf6⟩ => ?_)
                have F6 : qFr (SXp p) M M6 := F5.tr (hf6.mono (fun b j z => by unfold SXa at z; unfold SXp; omega))
                cases hA6 : acQ T 59 w.1 with
                | error e =>
                  rw [bQ_e hA6] at hR2
                  obtain ⟨q1, q2⟩ := qPo_e hA6 h6
                  refine qe_top (y := 0) q1 ?_
                  exact qi_retI rfl (by rfl) dX4_readClaim_96 (⟨qPo_ie hR2.symm ⟨rfl, q2⟩, F6⟩)
                | ok a6 =>
                  rw [bQ_o hA6] at hR2
                  obtain ⟨q6, k6⟩ := qPo_o hA6 h6
                  have j6 := ac_ok hA6
                  refine qe_top (y := 1) q6 ?_
                  exact qi_retI rfl (by rfl) dX4_readClaim_96 (⟨qPo_io hR2.symm ⟨rfl, k6, sz, by show sz ≤ a6; omega, p5.low hla (hf6.mono (fun b j z => by unfold SXa at z; unfold SLo; omega))⟩, F6⟩)
        refine qi_aload_n (i := 0) (x := 3) dX4_readClaim_46 rfl rfl ?_
        refine qi_getR (x := p) flX4_33 dX4_readClaim_47 rfl (by decide) k3.1.2.1 ?_
        refine qi_getR (x := p + 14) flX4_171 dX4_readClaim_50 (hp.1 0 (by decide)) (by have := hp.2.2; omega) (hM3 p 10 (p + 14) (qref_3_10 (hp.1 0 (by decide)))) ?_
        refine qi_callVV (K' := kX10_open) (As := []) mlX4_180 okX10_open dX4_readClaim_53 (c_X10_open g hp hM3 P3.1.2.2.2.1 P3.1.2.2.2.2.1 n0) (hp.1 14 (by decide)) (by decide) rfl (by have := hp.2.2; omega) rfl rfl (Nat.le_of_ble_eq_true rfl) ⟨(Nat.le_of_ble_eq_true rfl), (Nat.le_of_ble_eq_true rfl)⟩ ⟨Nat.le_refl _, Nat.le_refl _⟩ (fun W1 ew => ?_)
        have FA : qFr (fun b _ => p + 14 ≤ b ∧ b ≤ p + 18) M3 W1 := by
          rw [ew]
          exact (qFr.rf.wI (by omega)).wI (by omega)
        have PO : qPX W1 p (clP P []) sz := by
          rw [ew]
          exact P3.opn c4
        refine qi_iconst (v := 0) dX4_readClaim_56 rfl ?_
        refine qi_istore_n (i := 2) (L2 := [some (.ref 3), some (.int (nI (P.1 3))), some (.int 0)]) dX4_readClaim_57 rfl (Nat.le_of_ble_eq_true rfl) rfl ?_
        exact K 7 0 v3 v2.2.1 [] W1 rfl (by decide) rfl (by omega) (k3.fr FA (fun b j z => Or.inl (by omega))) PO (F3.tr (FA.mono (fun b j z => by unfold SXp; omega))) hR
