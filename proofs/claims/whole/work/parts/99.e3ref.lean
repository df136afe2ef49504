/-! the reference's tellClaim -/
def SYj (kk q : Nat) : Nat → Nat → Prop := fun b j => SYn b j ∨ (304 ≤ b ∧ b ≤ 306 ∧ j = q) ∨ (b = 303 ∧ j = kk)
theorem SYj_k {kk q b j : Nat} (h : 6 * kk ≤ q ∧ q < 6 * kk + 6) (z : SYj kk q b j) : SYk kk b j := by
  rcases z with z | ⟨z1, z2, z3⟩ | z
  · exact Or.inl z
  · exact Or.inr (Or.inr ⟨z1, z2, by omega, by omega⟩)
  · exact Or.inr (Or.inl z)
theorem SYj_t {kk q b j : Nat} (z : SYj kk q b j) : 304 ≤ b → b ≤ 306 → j = q := by
  unfold SYj SYn SYt SYw at z
  omega
set_option maxHeartbeats 4000000 in
theorem c_X12_tellClaim (g : qG) {T : qTk} (hT : okTk T) {M : qM} {S a : Nat} {s : Nat × Nat} {N : qNm} {P : qPn} (hY : rdY S T (a, s, N, P) M) (hs : okSl s a) (hC : okCn P) (hN : okNm N P.1) (hn : P.1 3 < 6) : qV g 4 kX12_tellClaim [.ref 280] M (fun M' => qPy S T (clR T a (a, s, N, P)) (rdY S T) M' ∧ qFr (SY S) M M') := by
  generalize hR : clR T a (a, s, N, P) = res
  unfold clR at hR
  dsimp only at hR
  obtain ⟨hK, hop, ⟨ct0, ct1, ct2, ct3⟩, hdt, ck, bk, ⟨hck, hbk, hcd, hbn⟩, hls⟩ := hY
  dsimp only at hK hop ct0 ct1 ct2 ct3 hdt hck hbk hcd hbn hls
  obtain ⟨c0, c1, c2, c3, c4⟩ := id hC
  have hS2 := hK.1.2.2.1
  have hM := hK.1.1
  have hsd := hK.1.2.2.2
  have FX : ∀ {M1 M2 : qM}, qFr (SYk (6 * S + P.1 3)) M1 M2 → qFr (SY S) M1 M2 := fun h => h.mono (fun b j z => SYk_SY hn z)
  have FN : ∀ {M1 M2 : qM}, qFr SYn M1 M2 → qFr (SYk (6 * S + P.1 3)) M1 M2 := fun h => h.mono (fun b j z => Or.inl z)
  have FT : ∀ {M1 M2 : qM}, qFr SYt M1 M2 → qFr (SYk (6 * S + P.1 3)) M1 M2 := fun h => h.mono (fun b j z => Or.inl (Or.inl z))
  have F190 : ∀ e M1 t mr x, res = .error e → qYF M1 S T e → qFr (SYk (6 * S + P.1 3)) M M1 → qT g kX12_tellClaim (qR 4 0 0) (qZV g (fun M' => qPy S T res (rdY S T) M' ∧ qFr (SY S) M M')) 190 [some (.ref 280), some (.int (nI (6 * S + P.1 3))), some (.int t), some (.int mr), x] [] 333 M1 (0, 0) := by
    intro e M1 t mr x he hF ff
    have hne := hF.n
    refine qi_aload_n (i := 0) (x := 280) dX12_tellClaim_190 rfl rfl ?_
    refine qi_iconst (v := 4) dX12_tellClaim_191 rfl ?_
    refine qi_callVV (K' := kX12_must) (As := [.int 4]) mlX12_295 okX12_must dX12_tellClaim_192 (c_X12_mustF g hF 4) rfl (by decide) rfl (by decide) rfl rfl (Nat.le_of_ble_eq_true rfl) ⟨(Nat.le_of_ble_eq_true rfl), (Nat.le_of_ble_eq_true rfl)⟩ ⟨Nat.le_refl _, Nat.le_refl _⟩ (fun M2 e2 => ?_)
    rw [e2]
    refine qi_aload_n (i := 0) (x := 280) dX12_tellClaim_195 rfl rfl ?_
    refine qi_getI (x := nI e.1) flX12_218 dX12_tellClaim_196 rfl (by decide) hF.2.2.1 ?_
    refine qi_if_le (tgt := 203) dX12_tellClaim_199 (by decide) (fun _h => absurd ((nI_leI (a := e.1) (b := 0) (by omega) (by omega)).mp _h) (by omega)) (fun _hc => ?_)
    exact qi_retV rfl dX12_tellClaim_202 (⟨qPy_ie he hF, FX ff⟩)
  have F37 : ∀ e M1 t x, res = .error e → qYF M1 S T e → qFr (SYk (6 * S + P.1 3)) M M1 → qT g kX12_tellClaim (qR 4 0 0) (qZV g (fun M' => qPy S T res (rdY S T) M' ∧ qFr (SY S) M M')) 37 [some (.ref 280), some (.int (nI (6 * S + P.1 3))), some (.int t), some (.int 1), x] [] 333 M1 (0, 0) := by
    intro e M1 t x he hF ff
    have hne := hF.n
    refine qi_iload_n (i := 3) (x := 1) dX12_tellClaim_37 rfl rfl ?_
    refine qi_if_eq (tgt := 190) dX12_tellClaim_38 (by decide) (fun z => False.elim ((by cases z))) (fun z => ?_)
    refine qi_aload_n (i := 0) (x := 280) dX12_tellClaim_41 rfl rfl ?_
    refine qi_getI (x := nI e.1) flX12_218 dX12_tellClaim_42 rfl (by decide) hF.2.2.1 ?_
    refine qi_if_ne (tgt := 190) dX12_tellClaim_45 (by decide) (fun _hc => ?_) (fun _h => absurd ((nI_eq (a := e.1) (b := 0) (by omega) (by omega)).mp _h) (by omega))
    exact F190 e M1 t 1 x he hF ff
  have F154 : ∀ e M1 t x, res = .error e → qYF M1 S T e → qFr (SYk (6 * S + P.1 3)) M M1 → qT g kX12_tellClaim (qR 4 0 0) (qZV g (fun M' => qPy S T res (rdY S T) M' ∧ qFr (SY S) M M')) 154 [some (.ref 280), some (.int (nI (6 * S + P.1 3))), some (.int t), some (.int 1), x] [] 333 M1 (0, 0) := by
    intro e M1 t x he hF ff
    have hne := hF.n
    refine qi_aload_n (i := 0) (x := 280) dX12_tellClaim_154 rfl rfl ?_
    refine qi_getI (x := nI e.1) flX12_218 dX12_tellClaim_155 rfl (by decide) hF.2.2.1 ?_
    refine qi_if_le (tgt := 162) dX12_tellClaim_158 (by decide) (fun _h => absurd ((nI_leI (a := e.1) (b := 0) (by omega) (by omega)).mp _h) (by omega)) (fun _hc => ?_)
    exact qi_retV rfl dX12_tellClaim_161 (⟨qPy_ie he hF, FX ff⟩)
  have F142 : ∀ e M1 t q, 6 * (6 * S + P.1 3) ≤ q → q < 6 * (6 * S + P.1 3) + 6 → res = .error e → qYF M1 S T e → qFr (SYk (6 * S + P.1 3)) M M1 → qT g kX12_tellClaim (qR 4 0 0) (qZV g (fun M' => qPy S T res (rdY S T) M' ∧ qFr (SY S) M M')) 142 [some (.ref 280), some (.int (nI (6 * S + P.1 3))), some (.int t), some (.int 1), some (.int (nI q))] [] 333 M1 (0, 0) := by
    intro e M1 t q hq1 hq2 he hF ff
    have hM1 := hF.1.1
    refine qi_aload_n (i := 0) (x := 280) dX12_tellClaim_142 rfl rfl ?_
    refine qi_getR (x := 306) flX12_94 dX12_tellClaim_143 rfl (by decide) (hM1 280 39 306 rfl) ?_
    refine qi_iload (i := 4) (x := nI q) dX12_tellClaim_146 rfl ?_
    refine qi_aload_n (i := 0) (x := 280) dX12_tellClaim_148 rfl rfl ?_
    refine qi_iconst (v := 1) dX12_tellClaim_149 rfl ?_
    refine qi_callVI (K' := kX12_known) (As := [.int 1]) mlX12_312 okX12_known dX12_tellClaim_150 (c_X12_knownF g hF 1) rfl (by decide) rfl (by decide) rfl rfl (Nat.le_of_ble_eq_true rfl) ⟨(Nat.le_of_ble_eq_true rfl), (Nat.le_of_ble_eq_true rfl)⟩ ⟨Nat.le_refl _, Nat.le_refl _⟩ (fun r2 M2 e2 => ?_)
    rw [e2]
    refine qi_iastN (j := q) dX12_tellClaim_153 rfl (by decide) rfl (by omega) (by decide) ?_
    have Fa : qFr (fun b j => b = 306 ∧ j = q) M1 (wI M1 306 q r2) := qFr.rf.wI ⟨rfl, rfl⟩
    exact F154 e _ t _ he (hF.fr Fa (fun b j z => by omega)) (ff.tr (Fa.mono (fun b j z => Or.inr (Or.inr ⟨by omega, by omega, by omega, by omega⟩))))
  have F128 : ∀ e M1 t q, 6 * (6 * S + P.1 3) ≤ q → q < 6 * (6 * S + P.1 3) + 6 → res = .error e → qYF M1 S T e → qFr (SYk (6 * S + P.1 3)) M M1 → qT g kX12_tellClaim (qR 4 0 0) (qZV g (fun M' => qPy S T res (rdY S T) M' ∧ qFr (SY S) M M')) 128 [some (.ref 280), some (.int (nI (6 * S + P.1 3))), some (.int t), some (.int 1), some (.int (nI q))] [] 333 M1 (0, 0) := by
    intro e M1 t q hq1 hq2 he hF ff
    have hM1 := hF.1.1
    refine qi_aload_n (i := 0) (x := 280) dX12_tellClaim_128 rfl rfl ?_
    refine qi_getR (x := 305) flX12_91 dX12_tellClaim_129 rfl (by decide) (hM1 280 38 305 rfl) ?_
    refine qi_iload (i := 4) (x := nI q) dX12_tellClaim_132 rfl ?_
    refine qi_aload_n (i := 0) (x := 280) dX12_tellClaim_134 rfl rfl ?_
    refine qi_iconst (v := 1) dX12_tellClaim_135 rfl ?_
    refine qi_bipush (v := 99) dX12_tellClaim_136 rfl ?_
    refine qi_callVI (K' := kX12_bounded) (As := [.int 1, .int 99]) mlX12_291 okX12_bounded dX12_tellClaim_138 (c_X12_boundedF g hF 1 99) rfl (by decide) rfl (by decide) rfl rfl (Nat.le_of_ble_eq_true rfl) ⟨(Nat.le_of_ble_eq_true rfl), (Nat.le_of_ble_eq_true rfl)⟩ ⟨Nat.le_refl _, Nat.le_refl _⟩ (fun r2 M2 ⟨e2, e3⟩ => ?_)
    rw [e3]
    refine qi_iastN (j := q) dX12_tellClaim_141 rfl (by decide) rfl (by omega) (by decide) ?_
    have Fa : qFr (fun b j => b = 305 ∧ j = q) M1 (wI M1 305 q r2) := qFr.rf.wI ⟨rfl, rfl⟩
    exact F142 e _ t q hq1 hq2 he (hF.fr Fa (fun b j z => by omega)) (ff.tr (Fa.mono (fun b j z => Or.inr (Or.inr ⟨by omega, by omega, by omega, by omega⟩))))
  have F122 : ∀ e M1 t q, 6 * (6 * S + P.1 3) ≤ q → q < 6 * (6 * S + P.1 3) + 6 → res = .error e → qYF M1 S T e → qFr (SYk (6 * S + P.1 3)) M M1 → qT g kX12_tellClaim (qR 4 0 0) (qZV g (fun M' => qPy S T res (rdY S T) M' ∧ qFr (SY S) M M')) 122 [some (.ref 280), some (.int (nI (6 * S + P.1 3))), some (.int t), some (.int 1), some (.int (nI q))] [] 333 M1 (0, 0) := by
    intro e M1 t q hq1 hq2 he hF ff
    refine qi_aload_n (i := 0) (x := 280) dX12_tellClaim_122 rfl rfl ?_
    refine qi_bipush (v := 26) dX12_tellClaim_123 rfl ?_
    refine qi_callVV (K' := kX12_must) (As := [.int 26]) mlX12_295 okX12_must dX12_tellClaim_125 (c_X12_mustF g hF 26) rfl (by decide) rfl (by decide) rfl rfl (Nat.le_of_ble_eq_true rfl) ⟨(Nat.le_of_ble_eq_true rfl), (Nat.le_of_ble_eq_true rfl)⟩ ⟨Nat.le_refl _, Nat.le_refl _⟩ (fun M2 e2 => ?_)
    rw [e2]
    exact F128 e M1 t q hq1 hq2 he hF ff
  refine qV.of (j := 4) (pn_RX12) rfl ?_
  show qT g kX12_tellClaim (qR 4 0 0) (qZV g (fun M' => qPy S T res (rdY S T) M' ∧ qFr (SY S) M M')) 0 [some (.ref 280), none, none, none, none] [] 333 M (0, 0)
  refine qi_bipush (v := 6) dX12_tellClaim_0 rfl ?_
  refine qi_aload_n (i := 0) (x := 280) dX12_tellClaim_2 rfl rfl ?_
  refine qi_getI (x := nI S) flX12_251 dX12_tellClaim_3 rfl (by decide) hsd ?_
  refine qi_imul dX12_tellClaim_6 ?_
  refine qe_top (y := nI (6 * S)) (pk_mul 6 S) ?_
  refine qi_aload_n (i := 0) (x := 280) dX12_tellClaim_7 rfl rfl ?_
  refine qi_getR (x := 302) flX12_82 dX12_tellClaim_8 rfl (by decide) (hM 280 35 302 rfl) ?_
  refine qi_aload_n (i := 0) (x := 280) dX12_tellClaim_11 rfl rfl ?_
  refine qi_getI (x := nI S) flX12_251 dX12_tellClaim_12 rfl (by decide) hsd ?_
  refine qi_ialdN (x := nI (P.1 3)) (j := S) dX12_tellClaim_15 rfl (by decide) rfl (by omega) (by decide) ct3 ?_
  refine qi_iadd dX12_tellClaim_16 ?_
  refine qe_top (y := nI (6 * S + P.1 3)) (nI_add _ _) ?_
  refine qi_istore_n (i := 1) (L2 := [some (.ref 280), some (.int (nI (6 * S + P.1 3))), none, none, none]) dX12_tellClaim_17 rfl (Nat.le_of_ble_eq_true rfl) rfl ?_
  refine qi_aload_n (i := 0) (x := 280) dX12_tellClaim_18 rfl rfl ?_
  refine qi_callVI (K' := kX12_named) (As := []) mlX12_304 okX12_named dX12_tellClaim_19 (c_X12_named g hT hK hs (fun _ i hi => (hN.2.1 i hi).1)) rfl (by decide) rfl (by decide) rfl rfl (Nat.le_of_ble_eq_true rfl) ⟨(Nat.le_of_ble_eq_true rfl), (Nat.le_of_ble_eq_true rfl)⟩ ⟨Nat.le_refl _, Nat.le_refl _⟩ (fun r1 M1 ⟨k1, f1⟩ => ?_)
  have ff1 := FN f1
  refine qi_istore_n (i := 2) (L2 := [some (.ref 280), some (.int (nI (6 * S + P.1 3))), some (.int r1), none, none]) dX12_tellClaim_22 rfl (Nat.le_of_ble_eq_true rfl) rfl ?_
  refine qi_aload_n (i := 0) (x := 280) dX12_tellClaim_23 rfl rfl ?_
  refine qi_iconst (v := 5) dX12_tellClaim_24 rfl ?_
  cases hA1 : acQ T 2 a with
  | error e =>
    have hq : nnQ T 133 (P.1 3) a s N = .error e := bQ_e hA1
    rw [bQ_e hq] at hR
    have kF := qPy_e hA1 k1
    have hM1 := kF.1.1
    refine qi_callVV (K' := kX12_must) (As := [.int 5]) mlX12_295 okX12_must dX12_tellClaim_25 (c_X12_mustF g kF 5) rfl (by decide) rfl (by decide) rfl rfl (Nat.le_of_ble_eq_true rfl) ⟨(Nat.le_of_ble_eq_true rfl), (Nat.le_of_ble_eq_true rfl)⟩ ⟨Nat.le_refl _, Nat.le_refl _⟩ (fun M2 e2 => ?_)
    rw [e2]
    refine qi_aload_n (i := 0) (x := 280) dX12_tellClaim_28 rfl rfl ?_
    refine qi_getR (x := 303) flX12_85 dX12_tellClaim_29 rfl (by decide) (hM1 280 36 303 rfl) ?_
    refine qi_iload_n (i := 1) (x := nI (6 * S + P.1 3)) dX12_tellClaim_32 rfl rfl ?_
    refine qi_iconst (v := 0) dX12_tellClaim_33 rfl ?_
    refine qi_iastN (j := 6 * S + P.1 3) dX12_tellClaim_34 rfl (by decide) rfl (by omega) (by decide) ?_
    refine qi_iconst (v := 1) dX12_tellClaim_35 rfl ?_
    refine qi_istore_n (i := 3) (L2 := [some (.ref 280), some (.int (nI (6 * S + P.1 3))), some (.int r1), some (.int 1), none]) dX12_tellClaim_36 rfl (Nat.le_of_ble_eq_true rfl) rfl ?_
    have Fa : qFr (fun b j => b = 303 ∧ j = 6 * S + P.1 3) M1 (wI M1 303 (6 * S + P.1 3) 0) := qFr.rf.wI ⟨rfl, rfl⟩
    exact F37 e _ _ _ hR.symm (kF.fr Fa (fun b j z => by omega)) (ff1.tr (Fa.mono (fun b j z => Or.inr (Or.inl z))))
  | ok a1 =>
    obtain ⟨k1, er1⟩ := qPy_o hA1 k1
    obtain ⟨t1, t2, t3⟩ := ac_ok hA1
    obtain ⟨v1, hv1, u1, u2, u3⟩ := nn_r (k := 133) (n := P.1 3) (s := s) (N := N) hA1
    rw [bQ_o hv1] at hR
    obtain ⟨j1, j2, j3, j4, j5⟩ := nn_all hT (c := 3) (Or.inr (Or.inr ⟨rfl, rfl⟩)) hs hN rfl (by omega) hv1
    have k1 : qYK M1 S T v1.1 v1.2.1 N (P.1 0 + P.1 1 + P.1 3) := by
      rw [u1]
      cases hF : fnQ N (vAt T a) with
      | none =>
        rw [hF] at k1
        rw [u2.1 hF]
        exact k1
      | some i =>
        rw [hF] at k1
        rw [u2.2 ⟨i, hF⟩]
        exact k1
    have back : v1.2.1.1 = 0 → s.1 = 0 ∧ v1.2.2 = psQ N (vAt T a) 133 (P.1 3) ∧ N.1 = P.1 0 + P.1 1 + P.1 3 := fun z => by
      have y1 := (j5 z).1
      have yn := (hK.2.2.2.2.2 y1).1
      exact ⟨y1, u3 z (by omega), yn⟩
    rw [er1]
    have K190 : ∀ a1 s1 ts M1 x mr, ts.length ≤ 6 → a < a1 → (s1.1 = 0 → v1.2.1.1 = 0) → qYK M1 S T a1 s1 N (P.1 0 + P.1 1 + P.1 3) → M1.1 303 (6 * S + P.1 3) = nI ts.length → (s1.1 = 0 → tmY M1 (6 * S + P.1 3) ts) → qFr (SYk (6 * S + P.1 3)) M M1 → bQ (acQ T 59 a1) (fun a5 => .ok (a5, s1, v1.2.2, clP P ts)) = res → qT g kX12_tellClaim (qR 4 0 0) (qZV g (fun M' => qPy S T res (rdY S T) M' ∧ qFr (SY S) M M')) 190 [some (.ref 280), some (.int (nI (6 * S + P.1 3))), some (.int (nI a)), some (.int mr), x] [] 333 M1 (0, 0) := by
      intro a1 s1 ts M1 x mr h6 ha hz1 hK1 hx1 ht1 ff hR1
      refine qi_aload_n (i := 0) (x := 280) dX12_tellClaim_190 rfl rfl ?_
      refine qi_iconst (v := 4) dX12_tellClaim_191 rfl ?_
      refine qi_callVV (K' := kX12_must) (As := [.int 4]) mlX12_295 okX12_must dX12_tellClaim_192 (c_X12_must g hT hK1 (k := 59) (by decide) (by decide)) rfl (by decide) rfl (by decide) rfl rfl (Nat.le_of_ble_eq_true rfl) ⟨(Nat.le_of_ble_eq_true rfl), (Nat.le_of_ble_eq_true rfl)⟩ ⟨Nat.le_refl _, Nat.le_refl _⟩ (fun M4 ⟨kk4, f4⟩ => ?_)
      have ff4 := ff.tr (FT f4)
      cases hA4 : acQ T 59 a1 with
      | error e =>
        rw [bQ_e hA4] at hR1
        have kF := qPy_e hA4 kk4
        have hne := kF.n
        refine qi_aload_n (i := 0) (x := 280) dX12_tellClaim_195 rfl rfl ?_
        refine qi_getI (x := nI e.1) flX12_218 dX12_tellClaim_196 rfl (by decide) kF.2.2.1 ?_
        refine qi_if_le (tgt := 203) dX12_tellClaim_199 (by decide) (fun _h => absurd ((nI_leI (a := e.1) (b := 0) (by omega) (by omega)).mp _h) (by omega)) (fun _hc => ?_)
        exact qi_retV rfl dX12_tellClaim_202 (⟨qPy_ie hR1.symm kF, FX ff4⟩)
      | ok v4 =>
        rw [bQ_o hA4] at hR1
        have k4 := qPy_o hA4 kk4
        have i4 := ac_ok hA4
        have hM4 := k4.1.1
        have hz4 := k4.2.1.2.2.2
        have hsd4 := k4.1.2.2.2
        have hct4 : M4.1 302 S = nI (P.1 3) := (ff4.1 _ _ (SYk_no (Or.inr (Or.inl ⟨by decide, by decide⟩)))).trans ct3
        refine qi_aload_n (i := 0) (x := 280) dX12_tellClaim_195 rfl rfl ?_
        refine qi_getI (x := nI 0) flX12_218 dX12_tellClaim_196 rfl (by decide) hz4 ?_
        refine qi_if_le (tgt := 203) dX12_tellClaim_199 (by decide) (fun _hc => ?_) (fun _h => absurd ((nI_leI (a := 0) (b := 0) (by omega) (by omega)).mpr (by omega)) _h)
        refine qi_aload_n (i := 0) (x := 280) dX12_tellClaim_203 rfl rfl ?_
        refine qi_iload_n (i := 2) (x := nI a) dX12_tellClaim_204 rfl rfl ?_
        refine qi_iconst (v := 2) dX12_tellClaim_205 rfl ?_
        refine qi_aload_n (i := 0) (x := 280) dX12_tellClaim_206 rfl rfl ?_
        refine qi_getR (x := 302) flX12_82 dX12_tellClaim_207 rfl (by decide) (hM4 280 35 302 rfl) ?_
        refine qi_aload_n (i := 0) (x := 280) dX12_tellClaim_210 rfl rfl ?_
        refine qi_getI (x := nI S) flX12_251 dX12_tellClaim_211 rfl (by decide) hsd4 ?_
        refine qi_ialdN (x := nI (P.1 3)) (j := S) dX12_tellClaim_214 rfl (by decide) rfl (by omega) (by decide) hct4 ?_
        refine qi_callVV (K' := kX12_notes) (As := [.int (nI a), .int 2, .int (nI (P.1 3))]) mlX12_308 okX12_notes dX12_tellClaim_215 (c_X12_notes g hT k4 (k := 133) (i := a) (n := P.1 3) (by omega) t3 (by omega) (fun z => by have := (k4.2.2.2.2.2 z).1; omega)) rfl (by decide) rfl (by decide) rfl rfl (Nat.le_of_ble_eq_true rfl) ⟨(Nat.le_of_ble_eq_true rfl), (Nat.le_of_ble_eq_true rfl)⟩ ⟨Nat.le_refl _, Nat.le_refl _⟩ (fun M5 ⟨k5, f5⟩ => ?_)
        have hM5 := k5.1.1
        have hsd5 := k5.1.2.2.2
        have hct5 : M5.1 302 S = nI (P.1 3) := (f5.1 _ _ (by omega)).trans hct4
        refine qi_aload_n (i := 0) (x := 280) dX12_tellClaim_218 rfl rfl ?_
        refine qi_getR (x := 302) flX12_82 dX12_tellClaim_219 rfl (by decide) (hM5 280 35 302 rfl) ?_
        refine qi_aload_n (i := 0) (x := 280) dX12_tellClaim_222 rfl rfl ?_
        refine qi_getI (x := nI S) flX12_251 dX12_tellClaim_223 rfl (by decide) hsd5 ?_
        refine qi_dup2 dX12_tellClaim_226 ?_
        refine qi_ialdN (x := nI (P.1 3)) (j := S) dX12_tellClaim_227 rfl (by decide) rfl (by omega) (by decide) hct5 ?_
        refine qi_iconst (v := 1) dX12_tellClaim_228 rfl ?_
        refine qi_iadd dX12_tellClaim_229 ?_
        refine qe_top (y := nI (P.1 3 + 1)) (nI_1 _) ?_
        refine qi_iastN (j := S) dX12_tellClaim_230 rfl (by decide) rfl (by omega) (by decide) ?_
        generalize w0 : wI M5 302 S (nI (P.1 3 + 1)) = Mw0
        have Fw0 : qFr (fun b j => b = 302 ∧ j = S) M5 Mw0 := by
          rw [← w0]
          exact qFr.rf.wI ⟨rfl, rfl⟩
        have F0 : qFr (SYz S (6 * S + P.1 3)) M Mw0 := ((ff4.mono (fun b j z => Or.inl z)).tr (f5.mono (fun b j z => Or.inr (Or.inl z)))).tr (Fw0.mono (fun b j z => Or.inr (Or.inr z)))
        have kF0 := k5.fr Fw0 (fun b j z => by omega)
        have cc : updF P.1 3 (P.1 3 + 1) 0 + updF P.1 3 (P.1 3 + 1) 1 + updF P.1 3 (P.1 3 + 1) 3 = P.1 0 + P.1 1 + P.1 3 + 1 := by simp [updF]; omega
        refine qi_retV rfl dX12_tellClaim_231 (⟨qPy_io hR1.symm ⟨?_, ?_, ⟨?_, ?_, ?_, ?_⟩, fun z => ?_, ck, bk, ⟨by show ck ≤ v4; omega, by show 4 * bk ≤ v4; omega, ?_, ?_⟩, ?_⟩, F0.mono (fun b j z => SYz_SY hn z)⟩)
        · show qYK Mw0 S T v4 s1 v1.2.2 (updF P.1 3 (P.1 3 + 1) 0 + updF P.1 3 (P.1 3 + 1) 1 + updF P.1 3 (P.1 3 + 1) 3)
          rw [cc]
          exact kF0.nm (fun z => (back (hz1 z)).2.1)
        · exact (F0.1 _ _ (SYz_no (by decide))).trans hop
        · exact (F0.1 _ _ (SYz_no (Or.inr (Or.inl ⟨by decide, by decide⟩)))).trans ct0
        · exact (F0.1 _ _ (SYz_no (Or.inr (Or.inl ⟨by decide, by decide⟩)))).trans ct1
        · exact (F0.1 _ _ (SYz_no (Or.inr (Or.inl ⟨by decide, by decide⟩)))).trans ct2
        · rw [← w0, wI_s]
          rfl
        · refine (hdt (back (hz1 z)).1).claim hC F0 (fun b j z => SYz_lo z) ?_ ?_
          · rw [Fw0.1 _ _ (by omega), f5.1 _ _ (by omega), f4.1 _ _ (SYt_hi (by decide))]
            exact hx1
          · exact (((ht1 z).fr f4 (fun b j z h1 h2 => absurd z (SYt_hi (by omega)))).fr f5 (fun b j z h1 h2 => by omega)).fr Fw0 (fun b j z h1 h2 => by omega)
        · exact (F0.1 _ _ (SYz_no (by decide))).trans hcd
        · exact (F0.1 _ _ (SYz_no (by decide))).trans hbn
        · exact hls.fr c2 F0 (fun b j z => by have := SYz_lo z; omega)
    have K : ∀ m i a1 s1 ts M1 x, i + m = 7 → ts.length = i → okSl s1 a1 → a < a1 → (s1.1 = 0 → v1.2.1.1 = 0) → qYK M1 S T a1 s1 N (P.1 0 + P.1 1 + P.1 3) → M1.1 303 (6 * S + P.1 3) = nI i → (s1.1 = 0 → tmY M1 (6 * S + P.1 3) ts) → qFr (SYk (6 * S + P.1 3)) M M1 → bQ (tlQ T v1.2.2 m i a1 s1 ts) (fun r => bQ (acQ T 59 r.1) (fun a5 => .ok (a5, r.2.1, v1.2.2, clP P r.2.2))) = res → i ≤ 6 → qT g kX12_tellClaim (qR 4 0 0) (qZV g (fun M' => qPy S T res (rdY S T) M' ∧ qFr (SY S) M M')) 37 [some (.ref 280), some (.int (nI (6 * S + P.1 3))), some (.int (nI a)), some (.int 1), x] [] 333 M1 (0, 0) := by
      intro m
      induction m with
      | zero =>
        intro i a1 s1 ts M1 x e1 e2 e3 e4 e5 e6 e7 e8 e9 e10 e11
        omega
      | succ m ih =>
        intro i a1 s1 ts M1 x e1 hl hs1 ha hz1 hK1 hx1 ht1 ff hR1 hi6
        rw [tlQ_s, bQ_as] at hR1
        have hM1 := hK1.1.1
        have hz := hK1.2.1.2.2.2
        have J : ∀ jx, jx < 6 → (i < 6 → jx = i) → ¬ (kAt T a1 = 3 ∧ 6 ≤ i) → qT g kX12_tellClaim (qR 4 0 0) (qZV g (fun M' => qPy S T res (rdY S T) M' ∧ qFr (SY S) M M')) 108 [some (.ref 280), some (.int (nI (6 * S + P.1 3))), some (.int (nI a)), some (.int 1), some (.int (nI (6 * (6 * S + P.1 3) + jx)))] [] 333 M1 (0, 0) := by
          intro jx hj6 hji hne
          refine qi_aload_n (i := 0) (x := 280) dX12_tellClaim_108 rfl rfl ?_
          refine qi_getR (x := 304) flX12_88 dX12_tellClaim_109 rfl (by decide) (hM1 280 37 304 rfl) ?_
          refine qi_iload (i := 4) (x := nI (6 * (6 * S + P.1 3) + jx)) dX12_tellClaim_112 rfl ?_
          refine qi_aload_n (i := 0) (x := 280) dX12_tellClaim_114 rfl rfl ?_
          refine qi_iconst (v := 1) dX12_tellClaim_115 rfl ?_
          refine qi_bipush (v := 99) dX12_tellClaim_116 rfl ?_
          refine qi_callVI (K' := kX12_bounded) (As := [.int 1, .int 99]) mlX12_291 okX12_bounded dX12_tellClaim_118 (c_X12_bounded g hT hK1 hs1 (lo := 1) (hi := 99) (by decide) (by decide)) rfl (by decide) rfl (by decide) rfl rfl (Nat.le_of_ble_eq_true rfl) ⟨(Nat.le_of_ble_eq_true rfl), (Nat.le_of_ble_eq_true rfl)⟩ ⟨Nat.le_refl _, Nat.le_refl _⟩ (fun r2 M2 ⟨kk2, f2⟩ => ?_)
          have ff2 := ff.tr (FN f2)
          cases hA2 : nuQ T 1 99 a1 s1 with
          | error e =>
            have htm : tmQ T i a1 s1 v1.2.2 = .error e := by
              unfold tmQ
              rw [if_neg hne]
              exact bQ_e hA2
            rw [bQ_e htm] at hR1
            have kF := qPy_e hA2 kk2
            have hM2 := kF.1.1
            refine qi_iastN (j := 6 * (6 * S + P.1 3) + jx) dX12_tellClaim_121 rfl (by decide) rfl (by omega) (by decide) ?_
            have Fa : qFr (fun b j => b = 304 ∧ j = 6 * (6 * S + P.1 3) + jx) M2 (wI M2 304 (6 * (6 * S + P.1 3) + jx) r2) := qFr.rf.wI ⟨rfl, rfl⟩
            exact F122 e _ _ _ (by omega) (by omega) hR1.symm (kF.fr Fa (fun b j z => by omega)) (ff2.tr (Fa.mono (fun b j z => Or.inr (Or.inr ⟨by omega, by omega, by omega, by omega⟩))))
          | ok v2 =>
            obtain ⟨k2, er2⟩ := qPy_o hA2 kk2
            obtain ⟨l2, m2, p2, q2⟩ := nu_all hs1 hA2
            have i1 := nu_ok hA2
            have hi : i < 6 := by
              have := i1.2.2.1
              omega
            obtain rfl : jx = i := hji hi
            have hM2 := k2.1.1
            rw [er2]
            refine qi_iastN (j := 6 * (6 * S + P.1 3) + jx) dX12_tellClaim_121 rfl (by decide) rfl (by omega) (by decide) ?_
            generalize w2 : wI M2 304 (6 * (6 * S + P.1 3) + jx) (nI v2.2.2) = Mw2
            have Fa2 : qFr (fun b j => b = 304 ∧ j = 6 * (6 * S + P.1 3) + jx) M2 Mw2 := by
              rw [← w2]
              exact qFr.rf.wI ⟨rfl, rfl⟩
            have kw2 := k2.fr Fa2 (fun b j z => by omega)
            have fw2 : qFr (SYj (6 * S + P.1 3) (6 * (6 * S + P.1 3) + jx)) M1 Mw2 := (f2.mono (fun b j z => Or.inl z)).tr (Fa2.mono (fun b j z => Or.inr (Or.inl ⟨by omega, by omega, z.2⟩)))
            have FJ : ∀ {M3 : qM}, qFr (SYj (6 * S + P.1 3) (6 * (6 * S + P.1 3) + jx)) M1 M3 → qFr (SYk (6 * S + P.1 3)) M M3 := fun h => ff.tr (h.mono (fun b j z => SYj_k ⟨by omega, by omega⟩ z))
            have x2 : Mw2.1 304 (6 * (6 * S + P.1 3) + jx) = nI v2.2.2 := by rw [← w2, wI_s]
            refine qi_aload_n (i := 0) (x := 280) dX12_tellClaim_122 rfl rfl ?_
            refine qi_bipush (v := 26) dX12_tellClaim_123 rfl ?_
            refine qi_callVV (K' := kX12_must) (As := [.int 26]) mlX12_295 okX12_must dX12_tellClaim_125 (c_X12_must g hT kw2 (k := 135) (by decide) (by decide)) rfl (by decide) rfl (by decide) rfl rfl (Nat.le_of_ble_eq_true rfl) ⟨(Nat.le_of_ble_eq_true rfl), (Nat.le_of_ble_eq_true rfl)⟩ ⟨Nat.le_refl _, Nat.le_refl _⟩ (fun M3 ⟨kk3, f3⟩ => ?_)
            have fw3 := fw2.tr (f3.mono (S' := SYj (6 * S + P.1 3) (6 * (6 * S + P.1 3) + jx)) (fun b j z => Or.inl (Or.inl z)))
            cases hA3 : acQ T 135 v2.1 with
            | error e =>
              have htm : tmQ T jx a1 s1 v1.2.2 = .error e := by
                unfold tmQ
                rw [if_neg hne, bQ_o hA2]
                exact bQ_e hA3
              rw [bQ_e htm] at hR1
              exact F128 e _ _ _ (by omega) (by omega) hR1.symm (qPy_e hA3 kk3) (FJ fw3)
            | ok a3 =>
              have k3 := qPy_o hA3 kk3
              have i3 := ac_ok hA3
              have hM3 := k3.1.1
              refine qi_aload_n (i := 0) (x := 280) dX12_tellClaim_128 rfl rfl ?_
              refine qi_getR (x := 305) flX12_91 dX12_tellClaim_129 rfl (by decide) (hM3 280 38 305 rfl) ?_
              refine qi_iload (i := 4) (x := nI (6 * (6 * S + P.1 3) + jx)) dX12_tellClaim_132 rfl ?_
              refine qi_aload_n (i := 0) (x := 280) dX12_tellClaim_134 rfl rfl ?_
              refine qi_iconst (v := 1) dX12_tellClaim_135 rfl ?_
              refine qi_bipush (v := 99) dX12_tellClaim_136 rfl ?_
              refine qi_callVI (K' := kX12_bounded) (As := [.int 1, .int 99]) mlX12_291 okX12_bounded dX12_tellClaim_138 (c_X12_bounded g hT k3 (p2.up (by omega)) (lo := 1) (hi := 99) (by decide) (by decide)) rfl (by decide) rfl (by decide) rfl rfl (Nat.le_of_ble_eq_true rfl) ⟨(Nat.le_of_ble_eq_true rfl), (Nat.le_of_ble_eq_true rfl)⟩ ⟨Nat.le_refl _, Nat.le_refl _⟩ (fun r4 M4 ⟨kk4, f4⟩ => ?_)
              have fw4 := fw3.tr (f4.mono (S' := SYj (6 * S + P.1 3) (6 * (6 * S + P.1 3) + jx)) (fun b j z => Or.inl z))
              cases hA4 : nuQ T 1 99 a3 v2.2.1 with
              | error e =>
                have htm : tmQ T jx a1 s1 v1.2.2 = .error e := by
                  unfold tmQ
                  rw [if_neg hne, bQ_o hA2, bQ_o hA3]
                  exact bQ_e hA4
                rw [bQ_e htm] at hR1
                have kF := qPy_e hA4 kk4
                have hM4 := kF.1.1
                refine qi_iastN (j := 6 * (6 * S + P.1 3) + jx) dX12_tellClaim_141 rfl (by decide) rfl (by omega) (by decide) ?_
                have Fa : qFr (fun b j => b = 305 ∧ j = 6 * (6 * S + P.1 3) + jx) M4 (wI M4 305 (6 * (6 * S + P.1 3) + jx) r4) := qFr.rf.wI ⟨rfl, rfl⟩
                exact F142 e _ _ _ (by omega) (by omega) hR1.symm (kF.fr Fa (fun b j z => by omega)) ((FJ fw4).tr (Fa.mono (fun b j z => Or.inr (Or.inr ⟨by omega, by omega, by omega, by omega⟩))))
              | ok v4 =>
                obtain ⟨k4, er4⟩ := qPy_o hA4 kk4
                obtain ⟨l4, m4, p4, q4⟩ := nu_all (p2.up (by omega)) hA4
                have hM4 := k4.1.1
                rw [er4]
                refine qi_iastN (j := 6 * (6 * S + P.1 3) + jx) dX12_tellClaim_141 rfl (by decide) rfl (by omega) (by decide) ?_
                generalize w4 : wI M4 305 (6 * (6 * S + P.1 3) + jx) (nI v4.2.2) = Mw4
                have Fa4 : qFr (fun b j => b = 305 ∧ j = 6 * (6 * S + P.1 3) + jx) M4 Mw4 := by
                  rw [← w4]
                  exact qFr.rf.wI ⟨rfl, rfl⟩
                have kw4 := k4.fr Fa4 (fun b j z => by omega)
                have fw44 : qFr (SYj (6 * S + P.1 3) (6 * (6 * S + P.1 3) + jx)) M1 Mw4 := fw4.tr (Fa4.mono (fun b j z => Or.inr (Or.inl ⟨by omega, by omega, z.2⟩)))
                have x4 : Mw4.1 305 (6 * (6 * S + P.1 3) + jx) = nI v4.2.2 := by rw [← w4, wI_s]
                have x42 : Mw4.1 304 (6 * (6 * S + P.1 3) + jx) = nI v2.2.2 := (Fa4.1 _ _ (by omega)).trans ((f4.1 _ _ (SYn_hi (by decide))).trans ((f3.1 _ _ (SYt_hi (by decide))).trans x2))
                have hMw4 := kw4.1.1
                refine qi_aload_n (i := 0) (x := 280) dX12_tellClaim_142 rfl rfl ?_
                refine qi_getR (x := 306) flX12_94 dX12_tellClaim_143 rfl (by decide) (hMw4 280 39 306 rfl) ?_
                refine qi_iload (i := 4) (x := nI (6 * (6 * S + P.1 3) + jx)) dX12_tellClaim_146 rfl ?_
                refine qi_aload_n (i := 0) (x := 280) dX12_tellClaim_148 rfl rfl ?_
                refine qi_iconst (v := 1) dX12_tellClaim_149 rfl ?_
                refine qi_callVI (K' := kX12_known) (As := [.int 1]) mlX12_312 okX12_known dX12_tellClaim_150 (c_X12_known g hT kw4 p4 (k := 129) (Or.inr rfl) (fun _ => hN.of)) rfl (by decide) rfl (by decide) rfl rfl (Nat.le_of_ble_eq_true rfl) ⟨(Nat.le_of_ble_eq_true rfl), (Nat.le_of_ble_eq_true rfl)⟩ ⟨Nat.le_refl _, Nat.le_refl _⟩ (fun r5 M5 ⟨kk5, f5⟩ => ?_)
                have fw5 := fw44.tr (f5.mono (S' := SYj (6 * S + P.1 3) (6 * (6 * S + P.1 3) + jx)) (fun b j z => Or.inl z))
                have kk6 := on_cl (N1 := v1.2.2) (v0 := vAt T a) (n := P.1 3) (fun z => (back (hz1 (q2 (q4 z).1).1)).2.1) kk5
                cases hA5 : onQ T 129 v4.1 v4.2.1 v1.2.2 with
                | error e =>
                  have htm : tmQ T jx a1 s1 v1.2.2 = .error e := by
                    unfold tmQ
                    rw [if_neg hne, bQ_o hA2, bQ_o hA3, bQ_o hA4]
                    exact bQ_e hA5
                  rw [bQ_e htm] at hR1
                  have kF := qPy_e hA5 kk6
                  have hM5 := kF.1.1
                  refine qi_iastN (j := 6 * (6 * S + P.1 3) + jx) dX12_tellClaim_153 rfl (by decide) rfl (by omega) (by decide) ?_
                  have Fa : qFr (fun b j => b = 306 ∧ j = 6 * (6 * S + P.1 3) + jx) M5 (wI M5 306 (6 * (6 * S + P.1 3) + jx) r5) := qFr.rf.wI ⟨rfl, rfl⟩
                  exact F154 e _ _ _ hR1.symm (kF.fr Fa (fun b j z => by omega)) ((FJ fw5).tr (Fa.mono (fun b j z => Or.inr (Or.inr ⟨by omega, by omega, by omega, by omega⟩))))
                | ok v5 =>
                  have htm : tmQ T jx a1 s1 v1.2.2 = .ok (v5.1, v5.2.1, v2.2.2, v4.2.2, v5.2.2) := by
                    unfold tmQ
                    rw [if_neg hne, bQ_o hA2, bQ_o hA3, bQ_o hA4, bQ_o hA5]
                  rw [bQ_o htm] at hR1
                  dsimp only at hR1
                  obtain ⟨k5, er5⟩ := qPy_o hA5 kk6
                  obtain ⟨l5, m5, p5, q5⟩ := on_all p4 hA5
                  have hM5 := k5.1.1
                  refine qi_iastN (j := 6 * (6 * S + P.1 3) + jx) dX12_tellClaim_153 rfl (by decide) rfl (by omega) (by decide) ?_
                  generalize w5 : wI M5 306 (6 * (6 * S + P.1 3) + jx) r5 = Mw5
                  have Fa5 : qFr (fun b j => b = 306 ∧ j = 6 * (6 * S + P.1 3) + jx) M5 Mw5 := by
                    rw [← w5]
                    exact qFr.rf.wI ⟨rfl, rfl⟩
                  have kw5 := k5.fr Fa5 (fun b j z => by omega)
                  have hMw5 := kw5.1.1
                  have hzw5 := kw5.2.1.2.2.2
                  have hxw5 : Mw5.1 303 (6 * S + P.1 3) = nI jx := (Fa5.1 _ _ (by omega)).trans ((f5.1 _ _ (SYn_hi (by decide))).trans ((Fa4.1 _ _ (by omega)).trans ((f4.1 _ _ (SYn_hi (by decide))).trans ((f3.1 _ _ (SYt_hi (by decide))).trans ((Fa2.1 _ _ (by omega)).trans ((f2.1 _ _ (SYn_hi (by decide))).trans hx1))))))
                  refine qi_aload_n (i := 0) (x := 280) dX12_tellClaim_154 rfl rfl ?_
                  refine qi_getI (x := nI 0) flX12_218 dX12_tellClaim_155 rfl (by decide) hzw5 ?_
                  refine qi_if_le (tgt := 162) dX12_tellClaim_158 (by decide) (fun _hc => ?_) (fun _h => absurd ((nI_leI (a := 0) (b := 0) (by omega) (by omega)).mpr (by omega)) _h)
                  refine qi_aload_n (i := 0) (x := 280) dX12_tellClaim_162 rfl rfl ?_
                  refine qi_getR (x := 303) flX12_85 dX12_tellClaim_163 rfl (by decide) (hMw5 280 36 303 rfl) ?_
                  refine qi_iload_n (i := 1) (x := nI (6 * S + P.1 3)) dX12_tellClaim_166 rfl rfl ?_
                  refine qi_dup2 dX12_tellClaim_167 ?_
                  refine qi_ialdN (x := nI jx) (j := 6 * S + P.1 3) dX12_tellClaim_168 rfl (by decide) rfl (by omega) (by decide) hxw5 ?_
                  refine qi_iconst (v := 1) dX12_tellClaim_169 rfl ?_
                  refine qi_iadd dX12_tellClaim_170 ?_
                  refine qe_top (y := nI (jx + 1)) (nI_1 _) ?_
                  refine qi_iastN (j := 6 * S + P.1 3) dX12_tellClaim_171 rfl (by decide) rfl (by omega) (by decide) ?_
                  generalize w6 : wI Mw5 303 (6 * S + P.1 3) (nI (jx + 1)) = Mw6
                  have Fa6 : qFr (fun b j => b = 303 ∧ j = 6 * S + P.1 3) Mw5 Mw6 := by
                    rw [← w6]
                    exact qFr.rf.wI ⟨rfl, rfl⟩
                  have kw6 := kw5.fr Fa6 (fun b j z => by omega)
                  have hMw6 := kw6.1.1
                  have fw6 : qFr (SYj (6 * S + P.1 3) (6 * (6 * S + P.1 3) + jx)) M1 Mw6 := (fw5.tr (Fa5.mono (fun b j z => Or.inr (Or.inl ⟨by omega, by omega, z.2⟩)))).tr (Fa6.mono (fun b j z => Or.inr (Or.inr z)))
                  have hx6 : Mw6.1 303 (6 * S + P.1 3) = nI (jx + 1) := by rw [← w6, wI_s]
                  have hl6 : (ts ++ [(v2.2.2, v4.2.2, v5.2.2)]).length = jx + 1 := by rw [List.length_append, hl]; rfl
                  have hz6 : v5.2.1.1 = 0 → s1.1 = 0 := fun z => (q2 (q4 (q5 z).1).1).1
                  have ht6 : v5.2.1.1 = 0 → tmY Mw6 (6 * S + P.1 3) (ts ++ [(v2.2.2, v4.2.2, v5.2.2)]) := fun z => by
                    refine ((ht1 (hz6 z)).fr fw6 (fun b j z h1 h2 => ?_)).app ?_ ?_ ?_
                    · have := SYj_t z h1 h2
                      omega
                    · rw [hl, Fa6.1 _ _ (by omega), Fa5.1 _ _ (by omega), f5.1 _ _ (SYn_hi (by decide))]
                      exact x42
                    · rw [hl, Fa6.1 _ _ (by omega), Fa5.1 _ _ (by omega), f5.1 _ _ (SYn_hi (by decide))]
                      exact x4
                    · rw [hl, Fa6.1 _ _ (by omega), ← w5, wI_s]
                      exact er5 z
                  refine qi_aload_n (i := 0) (x := 280) dX12_tellClaim_172 rfl rfl ?_
                  refine qi_bipush (v := 8) dX12_tellClaim_173 rfl ?_
                  refine qi_callPVI (v := (if kAt T v5.1 = 43 then 1 else 0)) (K' := kX12_is) (As := [.int 8]) mlX12_236 okX12_is dX12_tellClaim_175 (c_X12_is g hT kw6 (k := 43) (by decide)) rfl (by decide) rfl (by decide) rfl rfl (Nat.le_of_ble_eq_true rfl) ⟨(Nat.le_of_ble_eq_true rfl), (Nat.le_of_ble_eq_true rfl)⟩ ⟨Nat.le_refl _, Nat.le_refl _⟩ ?_
                  by_cases h43 : kAt T v5.1 = 43
                  ·
                    rw [if_pos h43, bQ_as] at hR1
                    rw [if_pos h43]
                    refine qi_istore_n (i := 3) (L2 := [some (.ref 280), some (.int (nI (6 * S + P.1 3))), some (.int (nI a)), some (.int 1), some (.int (nI (6 * (6 * S + P.1 3) + jx)))]) dX12_tellClaim_178 rfl (Nat.le_of_ble_eq_true rfl) rfl ?_
                    refine qi_iload_n (i := 3) (x := 1) dX12_tellClaim_179 rfl rfl ?_
                    refine qi_if_eq (tgt := 187) dX12_tellClaim_180 (by decide) (fun z => False.elim ((by cases z))) (fun z => ?_)
                    refine qi_aload_n (i := 0) (x := 280) dX12_tellClaim_183 rfl rfl ?_
                    refine qi_callVV (K' := kX12_goesOn) (As := []) mlX12_239 okX12_goesOn dX12_tellClaim_184 (c_X12_goesOn g kw6 (k := 43) h43 (by decide)) rfl (by decide) rfl (by decide) rfl rfl (Nat.le_of_ble_eq_true rfl) ⟨(Nat.le_of_ble_eq_true rfl), (Nat.le_of_ble_eq_true rfl)⟩ ⟨Nat.le_refl _, Nat.le_refl _⟩ (fun M7 ⟨kk7, f7⟩ => ?_)
                    have ff7 : qFr (SYk (6 * S + P.1 3)) M M7 := (FJ fw6).tr (FT f7)
                    refine qi_goto (tgt := 37) dX12_tellClaim_187 (by decide) ?_
                    cases hA7 : acQ T 43 v5.1 with
                    | error e =>
                      rw [bQ_e hA7] at hR1
                      exact F37 e _ _ _ hR1.symm (qPy_e hA7 kk7) ff7
                    | ok a7 =>
                      rw [bQ_o hA7] at hR1
                      have i7 := ac_ok hA7
                      exact ih (jx + 1) a7 v5.2.1 (ts ++ [(v2.2.2, v4.2.2, v5.2.2)]) M7 _ (by omega) hl6 (p5.up (by omega)) (by omega) (fun z => hz1 (hz6 z)) (qPy_o hA7 kk7) ((f7.1 _ _ (SYt_hi (by decide))).trans hx6) (fun z => (ht6 z).fr f7 (fun b j z h1 h2 => absurd z (SYt_hi (by omega)))) ff7 hR1 (by omega)
                  ·
                    rw [if_neg h43] at hR1
                    rw [if_neg h43]
                    refine qi_istore_n (i := 3) (L2 := [some (.ref 280), some (.int (nI (6 * S + P.1 3))), some (.int (nI a)), some (.int 0), some (.int (nI (6 * (6 * S + P.1 3) + jx)))]) dX12_tellClaim_178 rfl (Nat.le_of_ble_eq_true rfl) rfl ?_
                    refine qi_iload_n (i := 3) (x := 0) dX12_tellClaim_179 rfl rfl ?_
                    refine qi_if_eq (tgt := 187) dX12_tellClaim_180 (by decide) (fun z => ?_) (fun z => False.elim ((z rfl)))
                    refine qi_goto (tgt := 37) dX12_tellClaim_187 (by decide) ?_
                    refine qi_iload_n (i := 3) (x := 0) dX12_tellClaim_37 rfl rfl ?_
                    refine qi_if_eq (tgt := 190) dX12_tellClaim_38 (by decide) (fun z => ?_) (fun z => False.elim ((z rfl)))
                    exact K190 v5.1 v5.2.1 (ts ++ [(v2.2.2, v4.2.2, v5.2.2)]) Mw6 _ _ (by omega) (by omega) (fun z => hz1 (hz6 z)) kw6 (by rw [hl6]; exact hx6) ht6 (FJ fw6) hR1
        refine qi_iload_n (i := 3) (x := 1) dX12_tellClaim_37 rfl rfl ?_
        refine qi_if_eq (tgt := 190) dX12_tellClaim_38 (by decide) (fun z => False.elim ((by cases z))) (fun z => ?_)
        refine qi_aload_n (i := 0) (x := 280) dX12_tellClaim_41 rfl rfl ?_
        refine qi_getI (x := nI 0) flX12_218 dX12_tellClaim_42 rfl (by decide) hz ?_
        refine qi_if_ne (tgt := 190) dX12_tellClaim_45 (by decide) (fun _h => absurd ((nI_eq (a := 0) (b := 0) (by omega) (by omega)).mpr (by omega)) _h) (fun _hc => ?_)
        refine qi_aload_n (i := 0) (x := 280) dX12_tellClaim_48 rfl rfl ?_
        refine qi_getR (x := 303) flX12_85 dX12_tellClaim_49 rfl (by decide) (hM1 280 36 303 rfl) ?_
        refine qi_iload_n (i := 1) (x := nI (6 * S + P.1 3)) dX12_tellClaim_52 rfl rfl ?_
        refine qi_ialdN (x := nI i) (j := 6 * S + P.1 3) dX12_tellClaim_53 rfl (by decide) rfl (by omega) (by decide) hx1 ?_
        refine qi_bipush (v := 6) dX12_tellClaim_54 rfl ?_
        by_cases h6 : i = 6
        ·
          refine qi_icmp_ne (tgt := 72) dX12_tellClaim_56 (by decide) (fun _h => absurd ((nI_eq (a := i) (b := 6) (by omega) (by omega)).mpr (by omega)) _h) (fun _hc => ?_)
          refine qi_aload_n (i := 0) (x := 280) dX12_tellClaim_59 rfl rfl ?_
          refine qi_iconst (v := 2) dX12_tellClaim_60 rfl ?_
          refine qi_callPVI (v := (if kAt T a1 = 3 then 1 else 0)) (K' := kX12_is) (As := [.int 2]) mlX12_236 okX12_is dX12_tellClaim_61 (c_X12_is g hT hK1 (k := 3) (by decide)) rfl (by decide) rfl (by decide) rfl rfl (Nat.le_of_ble_eq_true rfl) ⟨(Nat.le_of_ble_eq_true rfl), (Nat.le_of_ble_eq_true rfl)⟩ ⟨Nat.le_refl _, Nat.le_refl _⟩ ?_
          by_cases h3 : kAt T a1 = 3
          ·
            rw [if_pos h3]
            refine qi_if_eq (tgt := 72) dX12_tellClaim_64 (by decide) (fun z => False.elim ((by cases z))) (fun z => ?_)
            refine qi_aload_n (i := 0) (x := 280) dX12_tellClaim_67 rfl rfl ?_
            refine qi_iconst (v := 2) dX12_tellClaim_68 rfl ?_
            refine qi_callVV (K' := kX12_fail) (As := [.int 2]) mlX12_233 okX12_fail dX12_tellClaim_69 (c_X12_fail g hK1 (k := 2) (Or.inr rfl)) rfl (by decide) rfl (by decide) rfl rfl (Nat.le_of_ble_eq_true rfl) ⟨(Nat.le_of_ble_eq_true rfl), (Nat.le_of_ble_eq_true rfl)⟩ ⟨Nat.le_refl _, Nat.le_refl _⟩ (fun M2 ⟨kF, f2⟩ => ?_)
            have htm : tmQ T i a1 s1 v1.2.2 = .error (2, a1) := by
              unfold tmQ
              exact if_pos ⟨h3, by omega⟩
            rw [bQ_e htm] at hR1
            have hne := kF.n
            refine qi_aload_n (i := 0) (x := 280) dX12_tellClaim_72 rfl rfl ?_
            refine qi_getI (x := nI 2) flX12_218 dX12_tellClaim_73 rfl (by decide) kF.2.2.1 ?_
            refine qi_if_le (tgt := 80) dX12_tellClaim_76 (by decide) (fun _h => absurd ((nI_leI (a := 2) (b := 0) (by omega) (by omega)).mp _h) (by omega)) (fun _hc => ?_)
            exact qi_retV rfl dX12_tellClaim_79 (⟨qPy_ie hR1.symm kF, FX (ff.tr (FT f2))⟩)
          ·
            rw [if_neg h3]
            refine qi_if_eq (tgt := 72) dX12_tellClaim_64 (by decide) (fun z => ?_) (fun z => False.elim ((z rfl)))
            refine qi_aload_n (i := 0) (x := 280) dX12_tellClaim_72 rfl rfl ?_
            refine qi_getI (x := nI 0) flX12_218 dX12_tellClaim_73 rfl (by decide) hz ?_
            refine qi_if_le (tgt := 80) dX12_tellClaim_76 (by decide) (fun _hc => ?_) (fun _h => absurd ((nI_leI (a := 0) (b := 0) (by omega) (by omega)).mpr (by omega)) _h)
            refine qi_bipush (v := 6) dX12_tellClaim_80 rfl ?_
            refine qi_iload_n (i := 1) (x := nI (6 * S + P.1 3)) dX12_tellClaim_82 rfl rfl ?_
            refine qi_imul dX12_tellClaim_83 ?_
            refine qe_top (y := nI (6 * (6 * S + P.1 3))) (pk_mul 6 _) ?_
            refine qi_aload_n (i := 0) (x := 280) dX12_tellClaim_84 rfl rfl ?_
            refine qi_getR (x := 303) flX12_85 dX12_tellClaim_85 rfl (by decide) (hM1 280 36 303 rfl) ?_
            refine qi_iload_n (i := 1) (x := nI (6 * S + P.1 3)) dX12_tellClaim_88 rfl rfl ?_
            refine qi_ialdN (x := nI i) (j := 6 * S + P.1 3) dX12_tellClaim_89 rfl (by decide) rfl (by omega) (by decide) hx1 ?_
            refine qi_bipush (v := 6) dX12_tellClaim_90 rfl ?_
            refine qi_icmp_ge (tgt := 104) dX12_tellClaim_92 (by decide) (fun _hc => ?_) (fun _h => absurd ((nI_leI (a := 6) (b := i) (by omega) (by omega)).mpr (by omega)) _h)
            refine qi_iconst (v := 5) dX12_tellClaim_104 rfl ?_
            refine qi_iadd dX12_tellClaim_105 ?_
            refine qe_top (y := nI (6 * (6 * S + P.1 3) + 5)) (nI_add _ 5) ?_
            refine qi_istore (i := 4) (L2 := [some (.ref 280), some (.int (nI (6 * S + P.1 3))), some (.int (nI a)), some (.int 1), some (.int (nI (6 * (6 * S + P.1 3) + 5)))]) dX12_tellClaim_106 (Nat.le_of_ble_eq_true rfl) rfl ?_
            exact J 5 (by decide) (fun z => by omega) (fun z => h3 z.1)
        ·
          refine qi_icmp_ne (tgt := 72) dX12_tellClaim_56 (by decide) (fun _hc => ?_) (fun _h => absurd ((nI_eq (a := i) (b := 6) (by omega) (by omega)).mp _h) (by omega))
          refine qi_aload_n (i := 0) (x := 280) dX12_tellClaim_72 rfl rfl ?_
          refine qi_getI (x := nI 0) flX12_218 dX12_tellClaim_73 rfl (by decide) hz ?_
          refine qi_if_le (tgt := 80) dX12_tellClaim_76 (by decide) (fun _hc => ?_) (fun _h => absurd ((nI_leI (a := 0) (b := 0) (by omega) (by omega)).mpr (by omega)) _h)
          refine qi_bipush (v := 6) dX12_tellClaim_80 rfl ?_
          refine qi_iload_n (i := 1) (x := nI (6 * S + P.1 3)) dX12_tellClaim_82 rfl rfl ?_
          refine qi_imul dX12_tellClaim_83 ?_
          refine qe_top (y := nI (6 * (6 * S + P.1 3))) (pk_mul 6 _) ?_
          refine qi_aload_n (i := 0) (x := 280) dX12_tellClaim_84 rfl rfl ?_
          refine qi_getR (x := 303) flX12_85 dX12_tellClaim_85 rfl (by decide) (hM1 280 36 303 rfl) ?_
          refine qi_iload_n (i := 1) (x := nI (6 * S + P.1 3)) dX12_tellClaim_88 rfl rfl ?_
          refine qi_ialdN (x := nI i) (j := 6 * S + P.1 3) dX12_tellClaim_89 rfl (by decide) rfl (by omega) (by decide) hx1 ?_
          refine qi_bipush (v := 6) dX12_tellClaim_90 rfl ?_
          refine qi_icmp_ge (tgt := 104) dX12_tellClaim_92 (by decide) (fun _h => absurd ((nI_leI (a := 6) (b := i) (by omega) (by omega)).mp _h) (by omega)) (fun _hc => ?_)
          refine qi_aload_n (i := 0) (x := 280) dX12_tellClaim_95 rfl rfl ?_
          refine qi_getR (x := 303) flX12_85 dX12_tellClaim_96 rfl (by decide) (hM1 280 36 303 rfl) ?_
          refine qi_iload_n (i := 1) (x := nI (6 * S + P.1 3)) dX12_tellClaim_99 rfl rfl ?_
          refine qi_ialdN (x := nI i) (j := 6 * S + P.1 3) dX12_tellClaim_100 rfl (by decide) rfl (by omega) (by decide) hx1 ?_
          refine qi_goto (tgt := 105) dX12_tellClaim_101 (by decide) ?_
          refine qi_iadd dX12_tellClaim_105 ?_
          refine qe_top (y := nI (6 * (6 * S + P.1 3) + i)) (nI_add _ _) ?_
          refine qi_istore (i := 4) (L2 := [some (.ref 280), some (.int (nI (6 * S + P.1 3))), some (.int (nI a)), some (.int 1), some (.int (nI (6 * (6 * S + P.1 3) + i)))]) dX12_tellClaim_106 (Nat.le_of_ble_eq_true rfl) rfl ?_
          exact J i (by omega) (fun _ => rfl) (fun z => by omega)
    refine qi_callVV (K' := kX12_must) (As := [.int 5]) mlX12_295 okX12_must dX12_tellClaim_25 (c_X12_must g hT k1 (k := 61) (by decide) (by decide)) rfl (by decide) rfl (by decide) rfl rfl (Nat.le_of_ble_eq_true rfl) ⟨(Nat.le_of_ble_eq_true rfl), (Nat.le_of_ble_eq_true rfl)⟩ ⟨Nat.le_refl _, Nat.le_refl _⟩ (fun M2 ⟨kk2, f2⟩ => ?_)
    have ff2 := ff1.tr (FT f2)
    cases hA2 : acQ T 61 v1.1 with
    | error e =>
      rw [bQ_e hA2] at hR
      have kF := qPy_e hA2 kk2
      have hM2 := kF.1.1
      refine qi_aload_n (i := 0) (x := 280) dX12_tellClaim_28 rfl rfl ?_
      refine qi_getR (x := 303) flX12_85 dX12_tellClaim_29 rfl (by decide) (hM2 280 36 303 rfl) ?_
      refine qi_iload_n (i := 1) (x := nI (6 * S + P.1 3)) dX12_tellClaim_32 rfl rfl ?_
      refine qi_iconst (v := 0) dX12_tellClaim_33 rfl ?_
      refine qi_iastN (j := 6 * S + P.1 3) dX12_tellClaim_34 rfl (by decide) rfl (by omega) (by decide) ?_
      refine qi_iconst (v := 1) dX12_tellClaim_35 rfl ?_
      refine qi_istore_n (i := 3) (L2 := [some (.ref 280), some (.int (nI (6 * S + P.1 3))), some (.int (nI a)), some (.int 1), none]) dX12_tellClaim_36 rfl (Nat.le_of_ble_eq_true rfl) rfl ?_
      have Fa : qFr (fun b j => b = 303 ∧ j = 6 * S + P.1 3) M2 (wI M2 303 (6 * S + P.1 3) 0) := qFr.rf.wI ⟨rfl, rfl⟩
      exact F37 e _ _ _ hR.symm (kF.fr Fa (fun b j z => by omega)) (ff2.tr (Fa.mono (fun b j z => Or.inr (Or.inl z))))
    | ok v2 =>
      rw [bQ_o hA2] at hR
      have k2 := qPy_o hA2 kk2
      have i2 := ac_ok hA2
      have hM2 := k2.1.1
      refine qi_aload_n (i := 0) (x := 280) dX12_tellClaim_28 rfl rfl ?_
      refine qi_getR (x := 303) flX12_85 dX12_tellClaim_29 rfl (by decide) (hM2 280 36 303 rfl) ?_
      refine qi_iload_n (i := 1) (x := nI (6 * S + P.1 3)) dX12_tellClaim_32 rfl rfl ?_
      refine qi_iconst (v := 0) dX12_tellClaim_33 rfl ?_
      refine qi_iastN (j := 6 * S + P.1 3) dX12_tellClaim_34 rfl (by decide) rfl (by omega) (by decide) ?_
      generalize w0 : wI M2 303 (6 * S + P.1 3) 0 = Mw0
      have Fa : qFr (fun b j => b = 303 ∧ j = 6 * S + P.1 3) M2 Mw0 := by
        rw [← w0]
        exact qFr.rf.wI ⟨rfl, rfl⟩
      refine qi_iconst (v := 1) dX12_tellClaim_35 rfl ?_
      refine qi_istore_n (i := 3) (L2 := [some (.ref 280), some (.int (nI (6 * S + P.1 3))), some (.int (nI a)), some (.int 1), none]) dX12_tellClaim_36 rfl (Nat.le_of_ble_eq_true rfl) rfl ?_
      exact K 7 0 v2 v1.2.1 [] Mw0 _ rfl rfl (j3.up (by omega)) (by omega) id (k2.fr Fa (fun b j z => by omega)) (by rw [← w0, wI_s]; rfl) (fun _ j hj => absurd hj (Nat.not_lt_zero _)) (ff2.tr (Fa.mono (fun b j z => Or.inr (Or.inl z)))) hR (by decide)
