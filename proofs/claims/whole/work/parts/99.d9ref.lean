/-! the reference's tellWater, tellHeir -/
theorem dtY.water {F : Nat → Nat → Prop} {M M' : qM} {S : Nat} {P : qPn} {x y : Nat} (h : dtY M S P) (hc : okCn P) (hf : qFr F M M') (hd : ∀ b j, F b j → b < 292 ∨ ((b = 292 ∨ b = 293) ∧ j = 5 * S + P.1 0)) (hx : M'.1 292 (5 * S + P.1 0) = nI x) (hy : M'.1 293 (5 * S + P.1 0) = nI y) : dtY M' S (waP P x y) := by
  obtain ⟨⟨a1, a2⟩, a3, a4, a5, a6⟩ := h.fr hf hc.2.2.2.2 (fun b j z => by have := hd b j z; omega)
  refine ⟨⟨a1, a2⟩, fun c i hc hi => ?_, fun c i hc hi => ?_, fun c i hc hi => ?_, fun k hk => ⟨?_, fun i hi => ?_⟩⟩
  · have hi2 : i < P.1 0 + 1 := hi
    unfold waP
    dsimp only
    by_cases e : i = P.1 0
    · have : c = 0 ∨ c = 1 := by omega
      rcases this with hc | hc <;> subst hc
      · rw [e, up2_b (by decide), up2_s]
        exact hx
      · rw [e, up2_s]
        exact hy
    · rw [up2_j e, up2_j e]
      exact a3 c i hc (by omega)
  · unfold waP
    dsimp only
    rw [up2_b (by omega), up2_b (by omega)]
    exact a4 c i hc hi
  · unfold waP
    dsimp only
    rw [up2_b (by omega), up2_b (by omega)]
    exact a5 c i hc hi
  · unfold waP
    dsimp only
    rw [up2_b (by omega), up2_b (by omega)]
    exact (a6 k hk).1
  · unfold waP at hi ⊢
    dsimp only at hi ⊢
    rw [up2_b (by omega), up2_b (by omega)] at hi
    rw [up2_b (by omega), up2_b (by omega), up2_b (by omega), up2_b (by omega), up2_b (by omega), up2_b (by omega)]
    exact (a6 k hk).2 i hi
theorem dtY.heir {F : Nat → Nat → Prop} {M M' : qM} {S : Nat} {P : qPn} {x y z w : Nat} (h : dtY M S P) (hc : okCn P) (hf : qFr F M M') (hd : ∀ b j, F b j → b < 292 ∨ (295 ≤ b ∧ b ≤ 298 ∧ j = 8 * S + P.1 1) ∨ b = 294) (hx : M'.1 295 (8 * S + P.1 1) = nI x) (hy : M'.1 296 (8 * S + P.1 1) = nI y) (hz : M'.1 297 (8 * S + P.1 1) = nI z) (hw : M'.1 298 (8 * S + P.1 1) = nI w) : dtY M' S (heP P x y z w) := by
  obtain ⟨⟨a1, a2⟩, a3, a4, a5, a6⟩ := h.fr hf hc.2.2.2.2 (fun b j z => by have := hd b j z; omega)
  obtain ⟨q1, q2, q3, q4, q5, q6⟩ := he_row P.2.1 (P.1 1) x y z w
  refine ⟨⟨a1, a2⟩, fun c i hc hi => ?_, fun c i hc hi => ?_, fun c i hc hi => ?_, fun k hk => ⟨?_, fun i hi => ?_⟩⟩
  · unfold heP
    dsimp only
    rw [q1 c i (by omega)]
    exact a3 c i hc hi
  · have hi2 : i < P.1 1 + 1 := hi
    unfold heP
    dsimp only
    by_cases e : i = P.1 1
    · have : c = 0 ∨ c = 1 ∨ c = 2 ∨ c = 3 := by omega
      rw [e]
      rcases this with hc | hc | hc | hc <;> subst hc
      · rw [q3]
        exact hx
      · rw [q4]
        exact hy
      · rw [q5]
        exact hz
      · rw [q6]
        exact hw
    · rw [q2 _ i e]
      exact a4 c i hc (by omega)
  · unfold heP
    dsimp only
    rw [q1 _ i (by omega)]
    exact a5 c i hc hi
  · unfold heP
    dsimp only
    rw [q1 8 k (by omega)]
    exact (a6 k hk).1
  · unfold heP at hi ⊢
    dsimp only at hi ⊢
    rw [q1 8 k (by omega)] at hi
    rw [q1 9 _ (by omega), q1 10 _ (by omega), q1 11 _ (by omega)]
    exact (a6 k hk).2 i hi
def SYc (S b0 b1 kk : Nat) : Nat → Nat → Prop := fun b j => SYn b j ∨ (b0 ≤ b ∧ b ≤ b1 ∧ j = kk) ∨ (b = 280 ∧ j = 20) ∨ (288 ≤ b ∧ b ≤ 290)
theorem SYc_280 {S b0 b1 kk j : Nat} (hj : j = 12 ∨ j = 44 ∨ j = 50) (hb : 280 < b0) : ¬ SYc S b0 b1 kk 280 j := by
  unfold SYc SYn SYt SYw
  omega
theorem SYc_hi {S b0 b1 kk b j : Nat} (h : 291 ≤ b) (h2 : b < b0 ∨ b1 < b) : ¬ SYc S b0 b1 kk b j := by
  unfold SYc SYn SYt SYw
  omega
theorem SYn_hi {b j : Nat} (h : 281 ≤ b) : ¬ SYn b j := by
  unfold SYn SYt SYw
  omega
theorem SYt_hi {b j : Nat} (h : 281 ≤ b) : ¬ SYt b j := by
  unfold SYt
  omega
theorem SYc_in {S b0 b1 kk ad b j : Nat} (h : b0 ≤ ad ∧ ad ≤ b1) (z : b = ad ∧ j = kk) : SYc S b0 b1 kk b j := Or.inr (Or.inl ⟨by omega, by omega, z.2⟩)
theorem SYc_nt {S b0 b1 kk b j : Nat} (z : (b = 280 ∧ j = 20) ∨ (288 ≤ b ∧ b ≤ 290)) : SYc S b0 b1 kk b j := Or.inr (Or.inr z)
theorem SYc_lo {S b0 b1 kk ct b j : Nat} (h : 291 ≤ b0) (h2 : ct = 291 ∨ ct = 294) (z : SYc S b0 b1 kk b j ∨ (b = ct ∧ j = S)) : b < 292 ∨ (b0 ≤ b ∧ b ≤ b1 ∧ j = kk) ∨ b = 294 := by
  unfold SYc SYn SYt SYw at z
  omega
theorem SYc_l1 {S b0 b1 kk b j : Nat} (z : SYc S b0 b1 kk b j ∨ (b = 291 ∧ j = S)) : b < 292 ∨ (b0 ≤ b ∧ b ≤ b1 ∧ j = kk) := by
  unfold SYc SYn SYt SYw at z
  omega
theorem lsY.c {M M' : qM} {S : Nat} {P : qPn} {ck bk b0 b1 kk ct : Nat} (h : lsY M S P ck bk) (hn : P.1 2 ≤ 16) (hf : qFr (fun b j => SYc S b0 b1 kk b j ∨ (b = ct ∧ j = S)) M M') (h1 : 291 ≤ b0) (h2 : b1 ≤ 298) (h3 : ct = 291 ∨ ct = 294) : lsY M' S P ck bk := h.fr hn hf (fun b j z => by
  have := SYc_lo h1 h3 z
  omega)
theorem SYc_wa {S n b j : Nat} (h : n < 5) (z : SYc S 292 293 (5 * S + n) b j) : SY S b j := by
  rcases z with (z | z) | ⟨z1, z2, z3⟩ | z | z
  · exact Or.inl ⟨z.1, by have := z.2; omega⟩
  · exact Or.inl ⟨z.1, by have := z.2; omega⟩
  · exact Or.inr (Or.inr (Or.inr (Or.inl ⟨by omega, by omega, by omega⟩)))
  · exact Or.inl ⟨z.1, by have := z.2; omega⟩
  · exact Or.inr (Or.inl z)
theorem SYc_he {S n b j : Nat} (h : n < 8) (z : SYc S 295 298 (8 * S + n) b j) : SY S b j := by
  rcases z with (z | z) | ⟨z1, z2, z3⟩ | z | z
  · exact Or.inl ⟨z.1, by have := z.2; omega⟩
  · exact Or.inl ⟨z.1, by have := z.2; omega⟩
  · exact Or.inr (Or.inr (Or.inr (Or.inr (Or.inl ⟨z1, z2, by omega, by omega⟩))))
  · exact Or.inl ⟨z.1, by have := z.2; omega⟩
  · exact Or.inr (Or.inl z)
theorem SY_ct {S ct b j : Nat} (h : ct = 291 ∨ ct = 294 ∨ ct = 299 ∨ ct = 302 ∨ ct = 307 ∨ ct = 308) (z : b = ct ∧ j = S) : SY S b j := Or.inr (Or.inr (Or.inl ⟨by rw [z.1]; exact h, z.2⟩))
theorem c_X12_tellWater (g : qG) {T : qTk} (hT : okTk T) {M : qM} {S a : Nat} {s : Nat × Nat} {N : qNm} {P : qPn} (hY : rdY S T (a, s, N, P) M) (hs : okSl s a) (hC : okCn P) (hN : okNm N P.1) (hn : P.1 0 < 5) : qV g 4 kX12_tellWater [.ref 280] M (fun M' => qPy S T (waR T a (a, s, N, P)) (rdY S T) M' ∧ qFr (SY S) M M') := by
  generalize hR : waR T a (a, s, N, P) = res
  unfold waR at hR
  dsimp only at hR
  obtain ⟨hK, hop, ⟨ct0, ct1, ct2, ct3⟩, hdt, ck, bk, ⟨hck, hbk, hcd, hbn⟩, hls⟩ := hY
  dsimp only at hK hop ct0 ct1 ct2 ct3 hdt hck hbk hcd hbn hls
  obtain ⟨c0, c1, c2, c3, c4⟩ := id hC
  have hS2 := hK.1.2.2.1
  have hM := hK.1.1
  have hsd := hK.1.2.2.2
  have FX : ∀ {M1 M2 : qM}, qFr (SYc S 292 293 (5 * S + P.1 0)) M1 M2 → qFr (SY S) M1 M2 := fun h => h.mono (fun b j z => SYc_wa hn z)
  have FN : ∀ {M1 M2 : qM}, qFr SYn M1 M2 → qFr (SYc S 292 293 (5 * S + P.1 0)) M1 M2 := fun h => h.mono (fun b j z => Or.inl z)
  have FT : ∀ {M1 M2 : qM}, qFr SYt M1 M2 → qFr (SYc S 292 293 (5 * S + P.1 0)) M1 M2 := fun h => h.mono (fun b j z => Or.inl (Or.inl z))
  have Wc : ∀ e M1 x, res = .error e → qYF M1 S T e → qFr (SYc S 292 293 (5 * S + P.1 0)) M M1 → qT g kX12_tellWater (qR 4 0 0) (qZV g (fun M' => qPy S T res (rdY S T) M' ∧ qFr (SY S) M M')) 53 [some (.ref 280), some (.int (nI (5 * S + P.1 0))), some (.int x)] [] 333 M1 (0, 0) := by
    intro e M1 x he hF ff
    have hn := hF.n
    refine qi_aload_n (i := 0) (x := 280) dX12_tellWater_53 rfl rfl ?_
    refine qi_getI (x := nI e.1) flX12_218 dX12_tellWater_54 rfl (by decide) hF.2.2.1 ?_
    refine qi_if_le (tgt := 61) dX12_tellWater_57 (by decide) (fun _h => absurd ((nI_leI (a := e.1) (b := 0) (by omega) (by omega)).mp _h) (by omega)) (fun _hc => ?_)
    exact qi_retV rfl dX12_tellWater_60 (⟨qPy_ie he hF, FX ff⟩)
  have Wm : ∀ e M1 x, res = .error e → qYF M1 S T e → qFr (SYc S 292 293 (5 * S + P.1 0)) M M1 → qT g kX12_tellWater (qR 4 0 0) (qZV g (fun M' => qPy S T res (rdY S T) M' ∧ qFr (SY S) M M')) 48 [some (.ref 280), some (.int (nI (5 * S + P.1 0))), some (.int x)] [] 333 M1 (0, 0) := by
    intro e M1 x he hF ff
    refine qi_aload_n (i := 0) (x := 280) dX12_tellWater_48 rfl rfl ?_
    refine qi_iconst (v := 4) dX12_tellWater_49 rfl ?_
    refine qi_callVV (K' := kX12_must) (As := [.int 4]) mlX12_295 okX12_must dX12_tellWater_50 (c_X12_mustF g hF 4) rfl (by decide) rfl (by decide) rfl rfl (Nat.le_of_ble_eq_true rfl) ⟨(Nat.le_of_ble_eq_true rfl), (Nat.le_of_ble_eq_true rfl)⟩ ⟨Nat.le_refl _, Nat.le_refl _⟩ (fun M2 e2 => ?_)
    rw [e2]
    exact Wc e M1 x he hF ff
  have W35 : ∀ e M1 x, res = .error e → qYF M1 S T e → qFr (SYc S 292 293 (5 * S + P.1 0)) M M1 → qT g kX12_tellWater (qR 4 0 0) (qZV g (fun M' => qPy S T res (rdY S T) M' ∧ qFr (SY S) M M')) 35 [some (.ref 280), some (.int (nI (5 * S + P.1 0))), some (.int x)] [] 333 M1 (0, 0) := by
    intro e M1 x he hF ff
    have hM1 := hF.1.1
    refine qi_aload_n (i := 0) (x := 280) dX12_tellWater_35 rfl rfl ?_
    refine qi_getR (x := 293) flX12_55 dX12_tellWater_36 rfl (by decide) (hM1 280 26 293 rfl) ?_
    refine qi_iload_n (i := 1) (x := nI (5 * S + P.1 0)) dX12_tellWater_39 rfl rfl ?_
    refine qi_aload_n (i := 0) (x := 280) dX12_tellWater_40 rfl rfl ?_
    refine qi_iconst (v := 0) dX12_tellWater_41 rfl ?_
    refine qi_bipush (v := 9) dX12_tellWater_42 rfl ?_
    refine qi_callVI (K' := kX12_bounded) (As := [.int 0, .int 9]) mlX12_291 okX12_bounded dX12_tellWater_44 (c_X12_boundedF g hF 0 9) rfl (by decide) rfl (by decide) rfl rfl (Nat.le_of_ble_eq_true rfl) ⟨(Nat.le_of_ble_eq_true rfl), (Nat.le_of_ble_eq_true rfl)⟩ ⟨Nat.le_refl _, Nat.le_refl _⟩ (fun r2 M2 ⟨e2, e3⟩ => ?_)
    rw [e3]
    refine qi_iastN (j := 5 * S + P.1 0) dX12_tellWater_47 rfl (by decide) rfl (by omega) (by decide) ?_
    have Fa : qFr (fun b j => b = 293 ∧ j = 5 * S + P.1 0) M1 (wI M1 293 (5 * S + P.1 0) r2) := qFr.rf.wI ⟨rfl, rfl⟩
    exact Wm e _ x he (hF.fr Fa (fun b j z => by omega)) (ff.tr (Fa.mono (fun b j z => SYc_in (by decide) z)))
  have W22 : ∀ e M1 x, res = .error e → qYF M1 S T e → qFr (SYc S 292 293 (5 * S + P.1 0)) M M1 → qT g kX12_tellWater (qR 4 0 0) (qZV g (fun M' => qPy S T res (rdY S T) M' ∧ qFr (SY S) M M')) 22 [some (.ref 280), some (.int (nI (5 * S + P.1 0))), some (.int x)] [] 333 M1 (0, 0) := by
    intro e M1 x he hF ff
    have hM1 := hF.1.1
    refine qi_aload_n (i := 0) (x := 280) dX12_tellWater_22 rfl rfl ?_
    refine qi_getR (x := 292) flX12_52 dX12_tellWater_23 rfl (by decide) (hM1 280 25 292 rfl) ?_
    refine qi_iload_n (i := 1) (x := nI (5 * S + P.1 0)) dX12_tellWater_26 rfl rfl ?_
    refine qi_aload_n (i := 0) (x := 280) dX12_tellWater_27 rfl rfl ?_
    refine qi_iconst (v := 0) dX12_tellWater_28 rfl ?_
    refine qi_bipush (v := 99) dX12_tellWater_29 rfl ?_
    refine qi_callVI (K' := kX12_bounded) (As := [.int 0, .int 99]) mlX12_291 okX12_bounded dX12_tellWater_31 (c_X12_boundedF g hF 0 99) rfl (by decide) rfl (by decide) rfl rfl (Nat.le_of_ble_eq_true rfl) ⟨(Nat.le_of_ble_eq_true rfl), (Nat.le_of_ble_eq_true rfl)⟩ ⟨Nat.le_refl _, Nat.le_refl _⟩ (fun r2 M2 ⟨e2, e3⟩ => ?_)
    rw [e3]
    refine qi_iastN (j := 5 * S + P.1 0) dX12_tellWater_34 rfl (by decide) rfl (by omega) (by decide) ?_
    have Fa : qFr (fun b j => b = 292 ∧ j = 5 * S + P.1 0) M1 (wI M1 292 (5 * S + P.1 0) r2) := qFr.rf.wI ⟨rfl, rfl⟩
    exact W35 e _ x he (hF.fr Fa (fun b j z => by omega)) (ff.tr (Fa.mono (fun b j z => SYc_in (by decide) z)))
  refine qV.of (j := 2) (pn_RX12) rfl ?_
  show qT g kX12_tellWater (qR 4 0 0) (qZV g (fun M' => qPy S T res (rdY S T) M' ∧ qFr (SY S) M M')) 0 [some (.ref 280), none, none] [] 333 M (0, 0)
  refine qi_iconst (v := 5) dX12_tellWater_0 rfl ?_
  refine qi_aload_n (i := 0) (x := 280) dX12_tellWater_1 rfl rfl ?_
  refine qi_getI (x := nI S) flX12_251 dX12_tellWater_2 rfl (by decide) hsd ?_
  refine qi_imul dX12_tellWater_5 ?_
  refine qe_top (y := nI (5 * S)) (pk_mul 5 S) ?_
  refine qi_aload_n (i := 0) (x := 280) dX12_tellWater_6 rfl rfl ?_
  refine qi_getR (x := 291) flX12_49 dX12_tellWater_7 rfl (by decide) (hM 280 24 291 rfl) ?_
  refine qi_aload_n (i := 0) (x := 280) dX12_tellWater_10 rfl rfl ?_
  refine qi_getI (x := nI S) flX12_251 dX12_tellWater_11 rfl (by decide) hsd ?_
  refine qi_ialdN (x := nI (P.1 0)) (j := S) dX12_tellWater_14 rfl (by decide) rfl (by omega) (by decide) ct0 ?_
  refine qi_iadd dX12_tellWater_15 ?_
  refine qe_top (y := nI (5 * S + P.1 0)) (nI_add _ _) ?_
  refine qi_istore_n (i := 1) (L2 := [some (.ref 280), some (.int (nI (5 * S + P.1 0))), none]) dX12_tellWater_16 rfl (Nat.le_of_ble_eq_true rfl) rfl ?_
  refine qi_aload_n (i := 0) (x := 280) dX12_tellWater_17 rfl rfl ?_
  refine qi_callVI (K' := kX12_named) (As := []) mlX12_304 okX12_named dX12_tellWater_18 (c_X12_named g hT hK hs (fun _ i hi => (hN.2.1 i hi).1)) rfl (by decide) rfl (by decide) rfl rfl (Nat.le_of_ble_eq_true rfl) ⟨(Nat.le_of_ble_eq_true rfl), (Nat.le_of_ble_eq_true rfl)⟩ ⟨Nat.le_refl _, Nat.le_refl _⟩ (fun r1 M1 ⟨k1, f1⟩ => ?_)
  have ff1 := FN f1
  refine qi_istore_n (i := 2) (L2 := [some (.ref 280), some (.int (nI (5 * S + P.1 0))), some (.int r1)]) dX12_tellWater_21 rfl (Nat.le_of_ble_eq_true rfl) rfl ?_
  cases hA1 : acQ T 2 a with
  | error e =>
    have hq : nnQ T 128 (P.1 0) a s N = .error e := bQ_e hA1
    rw [bQ_e hq] at hR
    exact W22 e M1 r1 hR.symm (qPy_e hA1 k1) ff1
  | ok a1 =>
    obtain ⟨k1, er1⟩ := qPy_o hA1 k1
    obtain ⟨t1, t2, t3⟩ := ac_ok hA1
    obtain ⟨v1, hv1, u1, u2, u3⟩ := nn_r (k := 128) (n := P.1 0) (s := s) (N := N) hA1
    rw [bQ_o hv1] at hR
    obtain ⟨j1, j2, j3, j4, j5⟩ := nn_all hT (c := 0) (Or.inl ⟨rfl, rfl⟩) hs hN rfl (by omega) hv1
    have k1 : qYK M1 S T v1.1 v1.2.1 N (P.1 0 + P.1 1 + P.1 3) := by
      rw [u1]
      cases hF : fnQ N (vAt T a) with
      | none =>
        rw [hF] at k1
        rw [u2.1 hF]
        exact k1
      | some i =>
        rw [hF] at k1
        rw [u2.2 ⟨i, hF⟩]
        exact k1
    rw [er1]
    have hM1 := k1.1.1
    refine qi_aload_n (i := 0) (x := 280) dX12_tellWater_22 rfl rfl ?_
    refine qi_getR (x := 292) flX12_52 dX12_tellWater_23 rfl (by decide) (hM1 280 25 292 rfl) ?_
    refine qi_iload_n (i := 1) (x := nI (5 * S + P.1 0)) dX12_tellWater_26 rfl rfl ?_
    refine qi_aload_n (i := 0) (x := 280) dX12_tellWater_27 rfl rfl ?_
    refine qi_iconst (v := 0) dX12_tellWater_28 rfl ?_
    refine qi_bipush (v := 99) dX12_tellWater_29 rfl ?_
    refine qi_callVI (K' := kX12_bounded) (As := [.int 0, .int 99]) mlX12_291 okX12_bounded dX12_tellWater_31 (c_X12_bounded g hT k1 j3 (lo := 0) (hi := 99) (by decide) (by decide)) rfl (by decide) rfl (by decide) rfl rfl (Nat.le_of_ble_eq_true rfl) ⟨(Nat.le_of_ble_eq_true rfl), (Nat.le_of_ble_eq_true rfl)⟩ ⟨Nat.le_refl _, Nat.le_refl _⟩ (fun r2 M2 ⟨kk2, f2⟩ => ?_)
    have ff2 := ff1.tr (FN f2)
    cases hA2 : nuQ T 0 99 v1.1 v1.2.1 with
    | error e =>
      rw [bQ_e hA2] at hR
      have kF := qPy_e hA2 kk2
      have hM2 := kF.1.1
      refine qi_iastN (j := 5 * S + P.1 0) dX12_tellWater_34 rfl (by decide) rfl (by omega) (by decide) ?_
      have Fa : qFr (fun b j => b = 292 ∧ j = 5 * S + P.1 0) M2 (wI M2 292 (5 * S + P.1 0) r2) := qFr.rf.wI ⟨rfl, rfl⟩
      exact W35 e _ _ hR.symm (kF.fr Fa (fun b j z => by omega)) (ff2.tr (Fa.mono (fun b j z => SYc_in (by decide) z)))
    | ok v2 =>
      rw [bQ_o hA2] at hR
      obtain ⟨k2, er2⟩ := qPy_o hA2 kk2
      obtain ⟨l2, m2, p2, q2⟩ := nu_all j3 hA2
      have hM2 := k2.1.1
      rw [er2]
      refine qi_iastN (j := 5 * S + P.1 0) dX12_tellWater_34 rfl (by decide) rfl (by omega) (by decide) ?_
      generalize w2 : wI M2 292 (5 * S + P.1 0) (nI v2.2.2) = Mw2
      have Fa2 : qFr (fun b j => b = 292 ∧ j = 5 * S + P.1 0) M2 Mw2 := by
        rw [← w2]
        exact qFr.rf.wI ⟨rfl, rfl⟩
      have kw2 := k2.fr Fa2 (fun b j z => by omega)
      have fw2 := ff2.tr (Fa2.mono (S' := SYc S 292 293 (5 * S + P.1 0)) (fun b j z => SYc_in (by decide) z))
      have x2 : Mw2.1 292 (5 * S + P.1 0) = nI v2.2.2 := by rw [← w2, wI_s]
      have hMw2 := kw2.1.1
      refine qi_aload_n (i := 0) (x := 280) dX12_tellWater_35 rfl rfl ?_
      refine qi_getR (x := 293) flX12_55 dX12_tellWater_36 rfl (by decide) (hMw2 280 26 293 rfl) ?_
      refine qi_iload_n (i := 1) (x := nI (5 * S + P.1 0)) dX12_tellWater_39 rfl rfl ?_
      refine qi_aload_n (i := 0) (x := 280) dX12_tellWater_40 rfl rfl ?_
      refine qi_iconst (v := 0) dX12_tellWater_41 rfl ?_
      refine qi_bipush (v := 9) dX12_tellWater_42 rfl ?_
      refine qi_callVI (K' := kX12_bounded) (As := [.int 0, .int 9]) mlX12_291 okX12_bounded dX12_tellWater_44 (c_X12_bounded g hT kw2 p2 (lo := 0) (hi := 9) (by decide) (by decide)) rfl (by decide) rfl (by decide) rfl rfl (Nat.le_of_ble_eq_true rfl) ⟨(Nat.le_of_ble_eq_true rfl), (Nat.le_of_ble_eq_true rfl)⟩ ⟨Nat.le_refl _, Nat.le_refl _⟩ (fun r3 M3 ⟨kk3, f3⟩ => ?_)
      have ff3 := fw2.tr (FN f3)
      cases hA3 : nuQ T 0 9 v2.1 v2.2.1 with
      | error e =>
        rw [bQ_e hA3] at hR
        have kF := qPy_e hA3 kk3
        have hM3 := kF.1.1
        refine qi_iastN (j := 5 * S + P.1 0) dX12_tellWater_47 rfl (by decide) rfl (by omega) (by decide) ?_
        have Fa : qFr (fun b j => b = 293 ∧ j = 5 * S + P.1 0) M3 (wI M3 293 (5 * S + P.1 0) r3) := qFr.rf.wI ⟨rfl, rfl⟩
        exact Wm e _ _ hR.symm (kF.fr Fa (fun b j z => by omega)) (ff3.tr (Fa.mono (fun b j z => SYc_in (by decide) z)))
      | ok v3 =>
        rw [bQ_o hA3] at hR
        obtain ⟨k3, er3⟩ := qPy_o hA3 kk3
        obtain ⟨l3, m3, p3, q3⟩ := nu_all p2 hA3
        have hM3 := k3.1.1
        rw [er3]
        refine qi_iastN (j := 5 * S + P.1 0) dX12_tellWater_47 rfl (by decide) rfl (by omega) (by decide) ?_
        generalize w3 : wI M3 293 (5 * S + P.1 0) (nI v3.2.2) = Mw3
        have Fa3 : qFr (fun b j => b = 293 ∧ j = 5 * S + P.1 0) M3 Mw3 := by
          rw [← w3]
          exact qFr.rf.wI ⟨rfl, rfl⟩
        have kw3 := k3.fr Fa3 (fun b j z => by omega)
        have fw3 := ff3.tr (Fa3.mono (S' := SYc S 292 293 (5 * S + P.1 0)) (fun b j z => SYc_in (by decide) z))
        have x3 : Mw3.1 293 (5 * S + P.1 0) = nI v3.2.2 := by rw [← w3, wI_s]
        have x3_2 : Mw3.1 292 (5 * S + P.1 0) = nI v2.2.2 := (Fa3.1 _ _ (by omega)).trans ((f3.1 _ _ (SYn_hi (by decide))).trans x2)
        refine qi_aload_n (i := 0) (x := 280) dX12_tellWater_48 rfl rfl ?_
        refine qi_iconst (v := 4) dX12_tellWater_49 rfl ?_
        refine qi_callVV (K' := kX12_must) (As := [.int 4]) mlX12_295 okX12_must dX12_tellWater_50 (c_X12_must g hT kw3 (k := 59) (by decide) (by decide)) rfl (by decide) rfl (by decide) rfl rfl (Nat.le_of_ble_eq_true rfl) ⟨(Nat.le_of_ble_eq_true rfl), (Nat.le_of_ble_eq_true rfl)⟩ ⟨Nat.le_refl _, Nat.le_refl _⟩ (fun M4 ⟨kk4, f4⟩ => ?_)
        have ff4 := fw3.tr (FT f4)
        cases hA4 : acQ T 59 v3.1 with
        | error e =>
          rw [bQ_e hA4] at hR
          exact Wc e M4 _ hR.symm (qPy_e hA4 kk4) ff4
        | ok v4 =>
          rw [bQ_o hA4] at hR
          have k4 := qPy_o hA4 kk4
          have i4 := ac_ok hA4
          have hM4 := k4.1.1
          have hz4 := k4.2.1.2.2.2
          have hsd4 := k4.1.2.2.2
          have hct4 : M4.1 291 S = nI (P.1 0) := (ff4.1 _ _ (SYc_hi (by decide) (by decide))).trans ct0
          refine qi_aload_n (i := 0) (x := 280) dX12_tellWater_53 rfl rfl ?_
          refine qi_getI (x := nI 0) flX12_218 dX12_tellWater_54 rfl (by decide) hz4 ?_
          refine qi_if_le (tgt := 61) dX12_tellWater_57 (by decide) (fun _hc => ?_) (fun _h => absurd ((nI_leI (a := 0) (b := 0) (by omega) (by omega)).mpr (by omega)) _h)
          refine qi_aload_n (i := 0) (x := 280) dX12_tellWater_61 rfl rfl ?_
          refine qi_iload_n (i := 2) (x := nI a) dX12_tellWater_62 rfl rfl ?_
          refine qi_iconst (v := 0) dX12_tellWater_63 rfl ?_
          refine qi_aload_n (i := 0) (x := 280) dX12_tellWater_64 rfl rfl ?_
          refine qi_getR (x := 291) flX12_49 dX12_tellWater_65 rfl (by decide) (hM4 280 24 291 rfl) ?_
          refine qi_aload_n (i := 0) (x := 280) dX12_tellWater_68 rfl rfl ?_
          refine qi_getI (x := nI S) flX12_251 dX12_tellWater_69 rfl (by decide) hsd4 ?_
          refine qi_ialdN (x := nI (P.1 0)) (j := S) dX12_tellWater_72 rfl (by decide) rfl (by omega) (by decide) hct4 ?_
          refine qi_callVV (K' := kX12_notes) (As := [.int (nI a), .int 0, .int (nI (P.1 0))]) mlX12_308 okX12_notes dX12_tellWater_73 (c_X12_notes g hT k4 (k := 128) (i := a) (n := P.1 0) (by omega) t3 (by omega) (fun z => by have := (k4.2.2.2.2.2 z).1; omega)) rfl (by decide) rfl (by decide) rfl rfl (Nat.le_of_ble_eq_true rfl) ⟨(Nat.le_of_ble_eq_true rfl), (Nat.le_of_ble_eq_true rfl)⟩ ⟨Nat.le_refl _, Nat.le_refl _⟩ (fun M5 ⟨k5, f5⟩ => ?_)
          have ff5 := ff4.tr (f5.mono (S' := SYc S 292 293 (5 * S + P.1 0)) (fun b j z => SYc_nt z))
          have hM5 := k5.1.1
          have hsd5 := k5.1.2.2.2
          have hct5 : M5.1 291 S = nI (P.1 0) := (ff5.1 _ _ (SYc_hi (by decide) (by decide))).trans ct0
          refine qi_aload_n (i := 0) (x := 280) dX12_tellWater_76 rfl rfl ?_
          refine qi_getR (x := 291) flX12_49 dX12_tellWater_77 rfl (by decide) (hM5 280 24 291 rfl) ?_
          refine qi_aload_n (i := 0) (x := 280) dX12_tellWater_80 rfl rfl ?_
          refine qi_getI (x := nI S) flX12_251 dX12_tellWater_81 rfl (by decide) hsd5 ?_
          refine qi_dup2 dX12_tellWater_84 ?_
          refine qi_ialdN (x := nI (P.1 0)) (j := S) dX12_tellWater_85 rfl (by decide) rfl (by omega) (by decide) hct5 ?_
          refine qi_iconst (v := 1) dX12_tellWater_86 rfl ?_
          refine qi_iadd dX12_tellWater_87 ?_
          refine qe_top (y := nI (P.1 0 + 1)) (nI_1 _) ?_
          refine qi_iastN (j := S) dX12_tellWater_88 rfl (by decide) rfl (by omega) (by decide) ?_
          generalize w0 : wI M5 291 S (nI (P.1 0 + 1)) = Mw0
          have Fw0 : qFr (fun b j => b = 291 ∧ j = S) M5 Mw0 := by
            rw [← w0]
            exact qFr.rf.wI ⟨rfl, rfl⟩
          have F0 : qFr (fun b j => SYc S 292 293 (5 * S + P.1 0) b j ∨ (b = 291 ∧ j = S)) M Mw0 := (ff5.mono (fun b j z => Or.inl z)).tr (Fw0.mono (fun b j z => Or.inr z))
          have kF0 := k5.fr Fw0 (fun b j z => by omega)
          have back : v3.2.1.1 = 0 → s.1 = 0 ∧ v1.2.2 = psQ N (vAt T a) 128 (P.1 0) ∧ N.1 = P.1 0 + P.1 1 + P.1 3 := fun z => by
            have y3 := (q3 z).1
            have y2 := (q2 y3).1
            have y1 := (j5 y2).1
            have yn := (hK.2.2.2.2.2 y1).1
            exact ⟨y1, u3 y2 (by omega), yn⟩
          have cc : updF P.1 0 (P.1 0 + 1) 0 + updF P.1 0 (P.1 0 + 1) 1 + updF P.1 0 (P.1 0 + 1) 3 = P.1 0 + P.1 1 + P.1 3 + 1 := by simp [updF]; omega
          refine qi_retV rfl dX12_tellWater_89 (⟨qPy_io hR.symm ⟨?_, ?_, ⟨?_, ?_, ?_, ?_⟩, fun z => ?_, ck, bk, ⟨by show ck ≤ v4; omega, by show 4 * bk ≤ v4; omega, ?_, ?_⟩, ?_⟩, F0.mono (fun b j z => z.elim (SYc_wa hn) (SY_ct (by decide)))⟩)
          · show qYK Mw0 S T v4 v3.2.1 v1.2.2 (updF P.1 0 (P.1 0 + 1) 0 + updF P.1 0 (P.1 0 + 1) 1 + updF P.1 0 (P.1 0 + 1) 3)
            rw [cc]
            exact kF0.nm (fun z => (back z).2.1)
          · exact (F0.1 _ _ (fun z => z.elim (SYc_280 (by decide) (by decide)) (fun z => absurd z.1 (by decide)))).trans hop
          · rw [← w0, wI_s]
            rfl
          · exact (F0.1 _ _ (fun z => z.elim (SYc_hi (by decide) (by decide)) (fun z => absurd z.1 (by decide)))).trans ct1
          · exact (F0.1 _ _ (fun z => z.elim (SYc_hi (by decide) (by decide)) (fun z => absurd z.1 (by decide)))).trans ct2
          · exact (F0.1 _ _ (fun z => z.elim (SYc_hi (by decide) (by decide)) (fun z => absurd z.1 (by decide)))).trans ct3
          · exact (hdt (back z).1).water hC F0 (fun b j z => by have := SYc_l1 z; omega) (by rw [Fw0.1 _ _ (by omega), f5.1 _ _ (by omega), f4.1 _ _ (SYt_hi (by decide))]; exact x3_2) (by rw [Fw0.1 _ _ (by omega), f5.1 _ _ (by omega), f4.1 _ _ (SYt_hi (by decide))]; exact x3)
          · exact (F0.1 _ _ (fun z => z.elim (SYc_280 (by decide) (by decide)) (fun z => absurd z.1 (by decide)))).trans hcd
          · exact (F0.1 _ _ (fun z => z.elim (SYc_280 (by decide) (by decide)) (fun z => absurd z.1 (by decide)))).trans hbn
          · exact hls.c c2 F0 (by decide) (by decide) (by decide)
theorem c_X12_tellHeir (g : qG) {T : qTk} (hT : okTk T) {M : qM} {S a : Nat} {s : Nat × Nat} {N : qNm} {P : qPn} (hY : rdY S T (a, s, N, P) M) (hs : okSl s a) (hC : okCn P) (hN : okNm N P.1) (hn : P.1 1 < 8) : qV g 4 kX12_tellHeir [.ref 280] M (fun M' => qPy S T (heR T a (a, s, N, P)) (rdY S T) M' ∧ qFr (SY S) M M') := by
  generalize hR : heR T a (a, s, N, P) = res
  unfold heR at hR
  dsimp only at hR
  obtain ⟨hK, hop, ⟨ct0, ct1, ct2, ct3⟩, hdt, ck, bk, ⟨hck, hbk, hcd, hbn⟩, hls⟩ := hY
  dsimp only at hK hop ct0 ct1 ct2 ct3 hdt hck hbk hcd hbn hls
  obtain ⟨c0, c1, c2, c3, c4⟩ := id hC
  have hS2 := hK.1.2.2.1
  have hM := hK.1.1
  have hsd := hK.1.2.2.2
  have FX : ∀ {M1 M2 : qM}, qFr (SYc S 295 298 (8 * S + P.1 1)) M1 M2 → qFr (SY S) M1 M2 := fun h => h.mono (fun b j z => SYc_he hn z)
  have FN : ∀ {M1 M2 : qM}, qFr SYn M1 M2 → qFr (SYc S 295 298 (8 * S + P.1 1)) M1 M2 := fun h => h.mono (fun b j z => Or.inl z)
  have FT : ∀ {M1 M2 : qM}, qFr SYt M1 M2 → qFr (SYc S 295 298 (8 * S + P.1 1)) M1 M2 := fun h => h.mono (fun b j z => Or.inl (Or.inl z))
  have Wc : ∀ e M1 x, res = .error e → qYF M1 S T e → qFr (SYc S 295 298 (8 * S + P.1 1)) M M1 → qT g kX12_tellHeir (qR 4 0 0) (qZV g (fun M' => qPy S T res (rdY S T) M' ∧ qFr (SY S) M M')) 82 [some (.ref 280), some (.int (nI (8 * S + P.1 1))), some (.int x)] [] 333 M1 (0, 0) := by
    intro e M1 x he hF ff
    have hn := hF.n
    refine qi_aload_n (i := 0) (x := 280) dX12_tellHeir_82 rfl rfl ?_
    refine qi_getI (x := nI e.1) flX12_218 dX12_tellHeir_83 rfl (by decide) hF.2.2.1 ?_
    refine qi_if_le (tgt := 90) dX12_tellHeir_86 (by decide) (fun _h => absurd ((nI_leI (a := e.1) (b := 0) (by omega) (by omega)).mp _h) (by omega)) (fun _hc => ?_)
    exact qi_retV rfl dX12_tellHeir_89 (⟨qPy_ie he hF, FX ff⟩)
  have Wm : ∀ e M1 x, res = .error e → qYF M1 S T e → qFr (SYc S 295 298 (8 * S + P.1 1)) M M1 → qT g kX12_tellHeir (qR 4 0 0) (qZV g (fun M' => qPy S T res (rdY S T) M' ∧ qFr (SY S) M M')) 77 [some (.ref 280), some (.int (nI (8 * S + P.1 1))), some (.int x)] [] 333 M1 (0, 0) := by
    intro e M1 x he hF ff
    refine qi_aload_n (i := 0) (x := 280) dX12_tellHeir_77 rfl rfl ?_
    refine qi_iconst (v := 4) dX12_tellHeir_78 rfl ?_
    refine qi_callVV (K' := kX12_must) (As := [.int 4]) mlX12_295 okX12_must dX12_tellHeir_79 (c_X12_mustF g hF 4) rfl (by decide) rfl (by decide) rfl rfl (Nat.le_of_ble_eq_true rfl) ⟨(Nat.le_of_ble_eq_true rfl), (Nat.le_of_ble_eq_true rfl)⟩ ⟨Nat.le_refl _, Nat.le_refl _⟩ (fun M2 e2 => ?_)
    rw [e2]
    exact Wc e M1 x he hF ff
  have W63 : ∀ e M1 x, res = .error e → qYF M1 S T e → qFr (SYc S 295 298 (8 * S + P.1 1)) M M1 → qT g kX12_tellHeir (qR 4 0 0) (qZV g (fun M' => qPy S T res (rdY S T) M' ∧ qFr (SY S) M M')) 63 [some (.ref 280), some (.int (nI (8 * S + P.1 1))), some (.int x)] [] 333 M1 (0, 0) := by
    intro e M1 x he hF ff
    have hM1 := hF.1.1
    refine qi_aload_n (i := 0) (x := 280) dX12_tellHeir_63 rfl rfl ?_
    refine qi_getR (x := 298) flX12_70 dX12_tellHeir_64 rfl (by decide) (hM1 280 31 298 rfl) ?_
    refine qi_iload_n (i := 1) (x := nI (8 * S + P.1 1)) dX12_tellHeir_67 rfl rfl ?_
    refine qi_aload_n (i := 0) (x := 280) dX12_tellHeir_68 rfl rfl ?_
    refine qi_iconst (v := 0) dX12_tellHeir_69 rfl ?_
    refine qi_sipush (v := 999) dX12_tellHeir_70 rfl ?_
    refine qi_callVI (K' := kX12_bounded) (As := [.int 0, .int 999]) mlX12_291 okX12_bounded dX12_tellHeir_73 (c_X12_boundedF g hF 0 999) rfl (by decide) rfl (by decide) rfl rfl (Nat.le_of_ble_eq_true rfl) ⟨(Nat.le_of_ble_eq_true rfl), (Nat.le_of_ble_eq_true rfl)⟩ ⟨Nat.le_refl _, Nat.le_refl _⟩ (fun r2 M2 ⟨e2, e3⟩ => ?_)
    rw [e3]
    refine qi_iastN (j := 8 * S + P.1 1) dX12_tellHeir_76 rfl (by decide) rfl (by omega) (by decide) ?_
    have Fa : qFr (fun b j => b = 298 ∧ j = 8 * S + P.1 1) M1 (wI M1 298 (8 * S + P.1 1) r2) := qFr.rf.wI ⟨rfl, rfl⟩
    exact Wm e _ x he (hF.fr Fa (fun b j z => by omega)) (ff.tr (Fa.mono (fun b j z => SYc_in (by decide) z)))
  have W49 : ∀ e M1 x, res = .error e → qYF M1 S T e → qFr (SYc S 295 298 (8 * S + P.1 1)) M M1 → qT g kX12_tellHeir (qR 4 0 0) (qZV g (fun M' => qPy S T res (rdY S T) M' ∧ qFr (SY S) M M')) 49 [some (.ref 280), some (.int (nI (8 * S + P.1 1))), some (.int x)] [] 333 M1 (0, 0) := by
    intro e M1 x he hF ff
    have hM1 := hF.1.1
    refine qi_aload_n (i := 0) (x := 280) dX12_tellHeir_49 rfl rfl ?_
    refine qi_getR (x := 297) flX12_67 dX12_tellHeir_50 rfl (by decide) (hM1 280 30 297 rfl) ?_
    refine qi_iload_n (i := 1) (x := nI (8 * S + P.1 1)) dX12_tellHeir_53 rfl rfl ?_
    refine qi_aload_n (i := 0) (x := 280) dX12_tellHeir_54 rfl rfl ?_
    refine qi_iconst (v := 0) dX12_tellHeir_55 rfl ?_
    refine qi_sipush (v := 999) dX12_tellHeir_56 rfl ?_
    refine qi_callVI (K' := kX12_bounded) (As := [.int 0, .int 999]) mlX12_291 okX12_bounded dX12_tellHeir_59 (c_X12_boundedF g hF 0 999) rfl (by decide) rfl (by decide) rfl rfl (Nat.le_of_ble_eq_true rfl) ⟨(Nat.le_of_ble_eq_true rfl), (Nat.le_of_ble_eq_true rfl)⟩ ⟨Nat.le_refl _, Nat.le_refl _⟩ (fun r2 M2 ⟨e2, e3⟩ => ?_)
    rw [e3]
    refine qi_iastN (j := 8 * S + P.1 1) dX12_tellHeir_62 rfl (by decide) rfl (by omega) (by decide) ?_
    have Fa : qFr (fun b j => b = 297 ∧ j = 8 * S + P.1 1) M1 (wI M1 297 (8 * S + P.1 1) r2) := qFr.rf.wI ⟨rfl, rfl⟩
    exact W63 e _ x he (hF.fr Fa (fun b j z => by omega)) (ff.tr (Fa.mono (fun b j z => SYc_in (by decide) z)))
  have W36 : ∀ e M1 x, res = .error e → qYF M1 S T e → qFr (SYc S 295 298 (8 * S + P.1 1)) M M1 → qT g kX12_tellHeir (qR 4 0 0) (qZV g (fun M' => qPy S T res (rdY S T) M' ∧ qFr (SY S) M M')) 36 [some (.ref 280), some (.int (nI (8 * S + P.1 1))), some (.int x)] [] 333 M1 (0, 0) := by
    intro e M1 x he hF ff
    have hM1 := hF.1.1
    refine qi_aload_n (i := 0) (x := 280) dX12_tellHeir_36 rfl rfl ?_
    refine qi_getR (x := 296) flX12_64 dX12_tellHeir_37 rfl (by decide) (hM1 280 29 296 rfl) ?_
    refine qi_iload_n (i := 1) (x := nI (8 * S + P.1 1)) dX12_tellHeir_40 rfl rfl ?_
    refine qi_aload_n (i := 0) (x := 280) dX12_tellHeir_41 rfl rfl ?_
    refine qi_iconst (v := 0) dX12_tellHeir_42 rfl ?_
    refine qi_bipush (v := 99) dX12_tellHeir_43 rfl ?_
    refine qi_callVI (K' := kX12_bounded) (As := [.int 0, .int 99]) mlX12_291 okX12_bounded dX12_tellHeir_45 (c_X12_boundedF g hF 0 99) rfl (by decide) rfl (by decide) rfl rfl (Nat.le_of_ble_eq_true rfl) ⟨(Nat.le_of_ble_eq_true rfl), (Nat.le_of_ble_eq_true rfl)⟩ ⟨Nat.le_refl _, Nat.le_refl _⟩ (fun r2 M2 ⟨e2, e3⟩ => ?_)
    rw [e3]
    refine qi_iastN (j := 8 * S + P.1 1) dX12_tellHeir_48 rfl (by decide) rfl (by omega) (by decide) ?_
    have Fa : qFr (fun b j => b = 296 ∧ j = 8 * S + P.1 1) M1 (wI M1 296 (8 * S + P.1 1) r2) := qFr.rf.wI ⟨rfl, rfl⟩
    exact W49 e _ x he (hF.fr Fa (fun b j z => by omega)) (ff.tr (Fa.mono (fun b j z => SYc_in (by decide) z)))
  have W23 : ∀ e M1 x, res = .error e → qYF M1 S T e → qFr (SYc S 295 298 (8 * S + P.1 1)) M M1 → qT g kX12_tellHeir (qR 4 0 0) (qZV g (fun M' => qPy S T res (rdY S T) M' ∧ qFr (SY S) M M')) 23 [some (.ref 280), some (.int (nI (8 * S + P.1 1))), some (.int x)] [] 333 M1 (0, 0) := by
    intro e M1 x he hF ff
    have hM1 := hF.1.1
    refine qi_aload_n (i := 0) (x := 280) dX12_tellHeir_23 rfl rfl ?_
    refine qi_getR (x := 295) flX12_61 dX12_tellHeir_24 rfl (by decide) (hM1 280 28 295 rfl) ?_
    refine qi_iload_n (i := 1) (x := nI (8 * S + P.1 1)) dX12_tellHeir_27 rfl rfl ?_
    refine qi_aload_n (i := 0) (x := 280) dX12_tellHeir_28 rfl rfl ?_
    refine qi_iconst (v := 1) dX12_tellHeir_29 rfl ?_
    refine qi_bipush (v := 99) dX12_tellHeir_30 rfl ?_
    refine qi_callVI (K' := kX12_bounded) (As := [.int 1, .int 99]) mlX12_291 okX12_bounded dX12_tellHeir_32 (c_X12_boundedF g hF 1 99) rfl (by decide) rfl (by decide) rfl rfl (Nat.le_of_ble_eq_true rfl) ⟨(Nat.le_of_ble_eq_true rfl), (Nat.le_of_ble_eq_true rfl)⟩ ⟨Nat.le_refl _, Nat.le_refl _⟩ (fun r2 M2 ⟨e2, e3⟩ => ?_)
    rw [e3]
    refine qi_iastN (j := 8 * S + P.1 1) dX12_tellHeir_35 rfl (by decide) rfl (by omega) (by decide) ?_
    have Fa : qFr (fun b j => b = 295 ∧ j = 8 * S + P.1 1) M1 (wI M1 295 (8 * S + P.1 1) r2) := qFr.rf.wI ⟨rfl, rfl⟩
    exact W36 e _ x he (hF.fr Fa (fun b j z => by omega)) (ff.tr (Fa.mono (fun b j z => SYc_in (by decide) z)))
  refine qV.of (j := 2) (pn_RX12) rfl ?_
  show qT g kX12_tellHeir (qR 4 0 0) (qZV g (fun M' => qPy S T res (rdY S T) M' ∧ qFr (SY S) M M')) 0 [some (.ref 280), none, none] [] 333 M (0, 0)
  refine qi_bipush (v := 8) dX12_tellHeir_0 rfl ?_
  refine qi_aload_n (i := 0) (x := 280) dX12_tellHeir_2 rfl rfl ?_
  refine qi_getI (x := nI S) flX12_251 dX12_tellHeir_3 rfl (by decide) hsd ?_
  refine qi_imul dX12_tellHeir_6 ?_
  refine qe_top (y := nI (8 * S)) (pk_mul 8 S) ?_
  refine qi_aload_n (i := 0) (x := 280) dX12_tellHeir_7 rfl rfl ?_
  refine qi_getR (x := 294) flX12_58 dX12_tellHeir_8 rfl (by decide) (hM 280 27 294 rfl) ?_
  refine qi_aload_n (i := 0) (x := 280) dX12_tellHeir_11 rfl rfl ?_
  refine qi_getI (x := nI S) flX12_251 dX12_tellHeir_12 rfl (by decide) hsd ?_
  refine qi_ialdN (x := nI (P.1 1)) (j := S) dX12_tellHeir_15 rfl (by decide) rfl (by omega) (by decide) ct1 ?_
  refine qi_iadd dX12_tellHeir_16 ?_
  refine qe_top (y := nI (8 * S + P.1 1)) (nI_add _ _) ?_
  refine qi_istore_n (i := 1) (L2 := [some (.ref 280), some (.int (nI (8 * S + P.1 1))), none]) dX12_tellHeir_17 rfl (Nat.le_of_ble_eq_true rfl) rfl ?_
  refine qi_aload_n (i := 0) (x := 280) dX12_tellHeir_18 rfl rfl ?_
  refine qi_callVI (K' := kX12_named) (As := []) mlX12_304 okX12_named dX12_tellHeir_19 (c_X12_named g hT hK hs (fun _ i hi => (hN.2.1 i hi).1)) rfl (by decide) rfl (by decide) rfl rfl (Nat.le_of_ble_eq_true rfl) ⟨(Nat.le_of_ble_eq_true rfl), (Nat.le_of_ble_eq_true rfl)⟩ ⟨Nat.le_refl _, Nat.le_refl _⟩ (fun r1 M1 ⟨k1, f1⟩ => ?_)
  have ff1 := FN f1
  refine qi_istore_n (i := 2) (L2 := [some (.ref 280), some (.int (nI (8 * S + P.1 1))), some (.int r1)]) dX12_tellHeir_22 rfl (Nat.le_of_ble_eq_true rfl) rfl ?_
  cases hA1 : acQ T 2 a with
  | error e =>
    have hq : nnQ T 129 (P.1 1) a s N = .error e := bQ_e hA1
    rw [bQ_e hq] at hR
    exact W23 e M1 r1 hR.symm (qPy_e hA1 k1) ff1
  | ok a1 =>
    obtain ⟨k1, er1⟩ := qPy_o hA1 k1
    obtain ⟨t1, t2, t3⟩ := ac_ok hA1
    obtain ⟨v1, hv1, u1, u2, u3⟩ := nn_r (k := 129) (n := P.1 1) (s := s) (N := N) hA1
    rw [bQ_o hv1] at hR
    obtain ⟨j1, j2, j3, j4, j5⟩ := nn_all hT (c := 1) (Or.inr (Or.inl ⟨rfl, rfl⟩)) hs hN rfl (by omega) hv1
    have k1 : qYK M1 S T v1.1 v1.2.1 N (P.1 0 + P.1 1 + P.1 3) := by
      rw [u1]
      cases hF : fnQ N (vAt T a) with
      | none =>
        rw [hF] at k1
        rw [u2.1 hF]
        exact k1
      | some i =>
        rw [hF] at k1
        rw [u2.2 ⟨i, hF⟩]
        exact k1
    rw [er1]
    have hM1 := k1.1.1
    refine qi_aload_n (i := 0) (x := 280) dX12_tellHeir_23 rfl rfl ?_
    refine qi_getR (x := 295) flX12_61 dX12_tellHeir_24 rfl (by decide) (hM1 280 28 295 rfl) ?_
    refine qi_iload_n (i := 1) (x := nI (8 * S + P.1 1)) dX12_tellHeir_27 rfl rfl ?_
    refine qi_aload_n (i := 0) (x := 280) dX12_tellHeir_28 rfl rfl ?_
    refine qi_iconst (v := 1) dX12_tellHeir_29 rfl ?_
    refine qi_bipush (v := 99) dX12_tellHeir_30 rfl ?_
    refine qi_callVI (K' := kX12_bounded) (As := [.int 1, .int 99]) mlX12_291 okX12_bounded dX12_tellHeir_32 (c_X12_bounded g hT k1 j3 (lo := 1) (hi := 99) (by decide) (by decide)) rfl (by decide) rfl (by decide) rfl rfl (Nat.le_of_ble_eq_true rfl) ⟨(Nat.le_of_ble_eq_true rfl), (Nat.le_of_ble_eq_true rfl)⟩ ⟨Nat.le_refl _, Nat.le_refl _⟩ (fun r2 M2 ⟨kk2, f2⟩ => ?_)
    have ff2 := ff1.tr (FN f2)
    cases hA2 : nuQ T 1 99 v1.1 v1.2.1 with
    | error e =>
      rw [bQ_e hA2] at hR
      have kF := qPy_e hA2 kk2
      have hM2 := kF.1.1
      refine qi_iastN (j := 8 * S + P.1 1) dX12_tellHeir_35 rfl (by decide) rfl (by omega) (by decide) ?_
      have Fa : qFr (fun b j => b = 295 ∧ j = 8 * S + P.1 1) M2 (wI M2 295 (8 * S + P.1 1) r2) := qFr.rf.wI ⟨rfl, rfl⟩
      exact W36 e _ _ hR.symm (kF.fr Fa (fun b j z => by omega)) (ff2.tr (Fa.mono (fun b j z => SYc_in (by decide) z)))
    | ok v2 =>
      rw [bQ_o hA2] at hR
      obtain ⟨k2, er2⟩ := qPy_o hA2 kk2
      obtain ⟨l2, m2, p2, q2⟩ := nu_all j3 hA2
      have hM2 := k2.1.1
      rw [er2]
      refine qi_iastN (j := 8 * S + P.1 1) dX12_tellHeir_35 rfl (by decide) rfl (by omega) (by decide) ?_
      generalize w2 : wI M2 295 (8 * S + P.1 1) (nI v2.2.2) = Mw2
      have Fa2 : qFr (fun b j => b = 295 ∧ j = 8 * S + P.1 1) M2 Mw2 := by
        rw [← w2]
        exact qFr.rf.wI ⟨rfl, rfl⟩
      have kw2 := k2.fr Fa2 (fun b j z => by omega)
      have fw2 := ff2.tr (Fa2.mono (S' := SYc S 295 298 (8 * S + P.1 1)) (fun b j z => SYc_in (by decide) z))
      have x2 : Mw2.1 295 (8 * S + P.1 1) = nI v2.2.2 := by rw [← w2, wI_s]
      have hMw2 := kw2.1.1
      refine qi_aload_n (i := 0) (x := 280) dX12_tellHeir_36 rfl rfl ?_
      refine qi_getR (x := 296) flX12_64 dX12_tellHeir_37 rfl (by decide) (hMw2 280 29 296 rfl) ?_
      refine qi_iload_n (i := 1) (x := nI (8 * S + P.1 1)) dX12_tellHeir_40 rfl rfl ?_
      refine qi_aload_n (i := 0) (x := 280) dX12_tellHeir_41 rfl rfl ?_
      refine qi_iconst (v := 0) dX12_tellHeir_42 rfl ?_
      refine qi_bipush (v := 99) dX12_tellHeir_43 rfl ?_
      refine qi_callVI (K' := kX12_bounded) (As := [.int 0, .int 99]) mlX12_291 okX12_bounded dX12_tellHeir_45 (c_X12_bounded g hT kw2 p2 (lo := 0) (hi := 99) (by decide) (by decide)) rfl (by decide) rfl (by decide) rfl rfl (Nat.le_of_ble_eq_true rfl) ⟨(Nat.le_of_ble_eq_true rfl), (Nat.le_of_ble_eq_true rfl)⟩ ⟨Nat.le_refl _, Nat.le_refl _⟩ (fun r3 M3 ⟨kk3, f3⟩ => ?_)
      have ff3 := fw2.tr (FN f3)
      cases hA3 : nuQ T 0 99 v2.1 v2.2.1 with
      | error e =>
        rw [bQ_e hA3] at hR
        have kF := qPy_e hA3 kk3
        have hM3 := kF.1.1
        refine qi_iastN (j := 8 * S + P.1 1) dX12_tellHeir_48 rfl (by decide) rfl (by omega) (by decide) ?_
        have Fa : qFr (fun b j => b = 296 ∧ j = 8 * S + P.1 1) M3 (wI M3 296 (8 * S + P.1 1) r3) := qFr.rf.wI ⟨rfl, rfl⟩
        exact W49 e _ _ hR.symm (kF.fr Fa (fun b j z => by omega)) (ff3.tr (Fa.mono (fun b j z => SYc_in (by decide) z)))
      | ok v3 =>
        rw [bQ_o hA3] at hR
        obtain ⟨k3, er3⟩ := qPy_o hA3 kk3
        obtain ⟨l3, m3, p3, q3⟩ := nu_all p2 hA3
        have hM3 := k3.1.1
        rw [er3]
        refine qi_iastN (j := 8 * S + P.1 1) dX12_tellHeir_48 rfl (by decide) rfl (by omega) (by decide) ?_
        generalize w3 : wI M3 296 (8 * S + P.1 1) (nI v3.2.2) = Mw3
        have Fa3 : qFr (fun b j => b = 296 ∧ j = 8 * S + P.1 1) M3 Mw3 := by
          rw [← w3]
          exact qFr.rf.wI ⟨rfl, rfl⟩
        have kw3 := k3.fr Fa3 (fun b j z => by omega)
        have fw3 := ff3.tr (Fa3.mono (S' := SYc S 295 298 (8 * S + P.1 1)) (fun b j z => SYc_in (by decide) z))
        have x3 : Mw3.1 296 (8 * S + P.1 1) = nI v3.2.2 := by rw [← w3, wI_s]
        have x3_2 : Mw3.1 295 (8 * S + P.1 1) = nI v2.2.2 := (Fa3.1 _ _ (by omega)).trans ((f3.1 _ _ (SYn_hi (by decide))).trans x2)
        have hMw3 := kw3.1.1
        refine qi_aload_n (i := 0) (x := 280) dX12_tellHeir_49 rfl rfl ?_
        refine qi_getR (x := 297) flX12_67 dX12_tellHeir_50 rfl (by decide) (hMw3 280 30 297 rfl) ?_
        refine qi_iload_n (i := 1) (x := nI (8 * S + P.1 1)) dX12_tellHeir_53 rfl rfl ?_
        refine qi_aload_n (i := 0) (x := 280) dX12_tellHeir_54 rfl rfl ?_
        refine qi_iconst (v := 0) dX12_tellHeir_55 rfl ?_
        refine qi_sipush (v := 999) dX12_tellHeir_56 rfl ?_
        refine qi_callVI (K' := kX12_bounded) (As := [.int 0, .int 999]) mlX12_291 okX12_bounded dX12_tellHeir_59 (c_X12_bounded g hT kw3 p3 (lo := 0) (hi := 999) (by decide) (by decide)) rfl (by decide) rfl (by decide) rfl rfl (Nat.le_of_ble_eq_true rfl) ⟨(Nat.le_of_ble_eq_true rfl), (Nat.le_of_ble_eq_true rfl)⟩ ⟨Nat.le_refl _, Nat.le_refl _⟩ (fun r4 M4 ⟨kk4, f4⟩ => ?_)
        have ff4 := fw3.tr (FN f4)
        cases hA4 : nuQ T 0 999 v3.1 v3.2.1 with
        | error e =>
          rw [bQ_e hA4] at hR
          have kF := qPy_e hA4 kk4
          have hM4 := kF.1.1
          refine qi_iastN (j := 8 * S + P.1 1) dX12_tellHeir_62 rfl (by decide) rfl (by omega) (by decide) ?_
          have Fa : qFr (fun b j => b = 297 ∧ j = 8 * S + P.1 1) M4 (wI M4 297 (8 * S + P.1 1) r4) := qFr.rf.wI ⟨rfl, rfl⟩
          exact W63 e _ _ hR.symm (kF.fr Fa (fun b j z => by omega)) (ff4.tr (Fa.mono (fun b j z => SYc_in (by decide) z)))
        | ok v4 =>
          rw [bQ_o hA4] at hR
          obtain ⟨k4, er4⟩ := qPy_o hA4 kk4
          obtain ⟨l4, m4, p4, q4⟩ := nu_all p3 hA4
          have hM4 := k4.1.1
          rw [er4]
          refine qi_iastN (j := 8 * S + P.1 1) dX12_tellHeir_62 rfl (by decide) rfl (by omega) (by decide) ?_
          generalize w4 : wI M4 297 (8 * S + P.1 1) (nI v4.2.2) = Mw4
          have Fa4 : qFr (fun b j => b = 297 ∧ j = 8 * S + P.1 1) M4 Mw4 := by
            rw [← w4]
            exact qFr.rf.wI ⟨rfl, rfl⟩
          have kw4 := k4.fr Fa4 (fun b j z => by omega)
          have fw4 := ff4.tr (Fa4.mono (S' := SYc S 295 298 (8 * S + P.1 1)) (fun b j z => SYc_in (by decide) z))
          have x4 : Mw4.1 297 (8 * S + P.1 1) = nI v4.2.2 := by rw [← w4, wI_s]
          have x4_2 : Mw4.1 295 (8 * S + P.1 1) = nI v2.2.2 := (Fa4.1 _ _ (by omega)).trans ((f4.1 _ _ (SYn_hi (by decide))).trans x3_2)
          have x4_3 : Mw4.1 296 (8 * S + P.1 1) = nI v3.2.2 := (Fa4.1 _ _ (by omega)).trans ((f4.1 _ _ (SYn_hi (by decide))).trans x3)
          have hMw4 := kw4.1.1
          refine qi_aload_n (i := 0) (x := 280) dX12_tellHeir_63 rfl rfl ?_
          refine qi_getR (x := 298) flX12_70 dX12_tellHeir_64 rfl (by decide) (hMw4 280 31 298 rfl) ?_
          refine qi_iload_n (i := 1) (x := nI (8 * S + P.1 1)) dX12_tellHeir_67 rfl rfl ?_
          refine qi_aload_n (i := 0) (x := 280) dX12_tellHeir_68 rfl rfl ?_
          refine qi_iconst (v := 0) dX12_tellHeir_69 rfl ?_
          refine qi_sipush (v := 999) dX12_tellHeir_70 rfl ?_
          refine qi_callVI (K' := kX12_bounded) (As := [.int 0, .int 999]) mlX12_291 okX12_bounded dX12_tellHeir_73 (c_X12_bounded g hT kw4 p4 (lo := 0) (hi := 999) (by decide) (by decide)) rfl (by decide) rfl (by decide) rfl rfl (Nat.le_of_ble_eq_true rfl) ⟨(Nat.le_of_ble_eq_true rfl), (Nat.le_of_ble_eq_true rfl)⟩ ⟨Nat.le_refl _, Nat.le_refl _⟩ (fun r5 M5 ⟨kk5, f5⟩ => ?_)
          have ff5 := fw4.tr (FN f5)
          cases hA5 : nuQ T 0 999 v4.1 v4.2.1 with
          | error e =>
            rw [bQ_e hA5] at hR
            have kF := qPy_e hA5 kk5
            have hM5 := kF.1.1
            refine qi_iastN (j := 8 * S + P.1 1) dX12_tellHeir_76 rfl (by decide) rfl (by omega) (by decide) ?_
            have Fa : qFr (fun b j => b = 298 ∧ j = 8 * S + P.1 1) M5 (wI M5 298 (8 * S + P.1 1) r5) := qFr.rf.wI ⟨rfl, rfl⟩
            exact Wm e _ _ hR.symm (kF.fr Fa (fun b j z => by omega)) (ff5.tr (Fa.mono (fun b j z => SYc_in (by decide) z)))
          | ok v5 =>
            rw [bQ_o hA5] at hR
            obtain ⟨k5, er5⟩ := qPy_o hA5 kk5
            obtain ⟨l5, m5, p5, q5⟩ := nu_all p4 hA5
            have hM5 := k5.1.1
            rw [er5]
            refine qi_iastN (j := 8 * S + P.1 1) dX12_tellHeir_76 rfl (by decide) rfl (by omega) (by decide) ?_
            generalize w5 : wI M5 298 (8 * S + P.1 1) (nI v5.2.2) = Mw5
            have Fa5 : qFr (fun b j => b = 298 ∧ j = 8 * S + P.1 1) M5 Mw5 := by
              rw [← w5]
              exact qFr.rf.wI ⟨rfl, rfl⟩
            have kw5 := k5.fr Fa5 (fun b j z => by omega)
            have fw5 := ff5.tr (Fa5.mono (S' := SYc S 295 298 (8 * S + P.1 1)) (fun b j z => SYc_in (by decide) z))
            have x5 : Mw5.1 298 (8 * S + P.1 1) = nI v5.2.2 := by rw [← w5, wI_s]
            have x5_2 : Mw5.1 295 (8 * S + P.1 1) = nI v2.2.2 := (Fa5.1 _ _ (by omega)).trans ((f5.1 _ _ (SYn_hi (by decide))).trans x4_2)
            have x5_3 : Mw5.1 296 (8 * S + P.1 1) = nI v3.2.2 := (Fa5.1 _ _ (by omega)).trans ((f5.1 _ _ (SYn_hi (by decide))).trans x4_3)
            have x5_4 : Mw5.1 297 (8 * S + P.1 1) = nI v4.2.2 := (Fa5.1 _ _ (by omega)).trans ((f5.1 _ _ (SYn_hi (by decide))).trans x4)
            refine qi_aload_n (i := 0) (x := 280) dX12_tellHeir_77 rfl rfl ?_
            refine qi_iconst (v := 4) dX12_tellHeir_78 rfl ?_
            refine qi_callVV (K' := kX12_must) (As := [.int 4]) mlX12_295 okX12_must dX12_tellHeir_79 (c_X12_must g hT kw5 (k := 59) (by decide) (by decide)) rfl (by decide) rfl (by decide) rfl rfl (Nat.le_of_ble_eq_true rfl) ⟨(Nat.le_of_ble_eq_true rfl), (Nat.le_of_ble_eq_true rfl)⟩ ⟨Nat.le_refl _, Nat.le_refl _⟩ (fun M6 ⟨kk6, f6⟩ => ?_)
            have ff6 := fw5.tr (FT f6)
            cases hA6 : acQ T 59 v5.1 with
            | error e =>
              rw [bQ_e hA6] at hR
              exact Wc e M6 _ hR.symm (qPy_e hA6 kk6) ff6
            | ok v6 =>
              rw [bQ_o hA6] at hR
              have k6 := qPy_o hA6 kk6
              have i6 := ac_ok hA6
              have hM6 := k6.1.1
              have hz6 := k6.2.1.2.2.2
              have hsd6 := k6.1.2.2.2
              have hct6 : M6.1 294 S = nI (P.1 1) := (ff6.1 _ _ (SYc_hi (by decide) (by decide))).trans ct1
              refine qi_aload_n (i := 0) (x := 280) dX12_tellHeir_82 rfl rfl ?_
              refine qi_getI (x := nI 0) flX12_218 dX12_tellHeir_83 rfl (by decide) hz6 ?_
              refine qi_if_le (tgt := 90) dX12_tellHeir_86 (by decide) (fun _hc => ?_) (fun _h => absurd ((nI_leI (a := 0) (b := 0) (by omega) (by omega)).mpr (by omega)) _h)
              refine qi_aload_n (i := 0) (x := 280) dX12_tellHeir_90 rfl rfl ?_
              refine qi_iload_n (i := 2) (x := nI a) dX12_tellHeir_91 rfl rfl ?_
              refine qi_iconst (v := 1) dX12_tellHeir_92 rfl ?_
              refine qi_aload_n (i := 0) (x := 280) dX12_tellHeir_93 rfl rfl ?_
              refine qi_getR (x := 294) flX12_58 dX12_tellHeir_94 rfl (by decide) (hM6 280 27 294 rfl) ?_
              refine qi_aload_n (i := 0) (x := 280) dX12_tellHeir_97 rfl rfl ?_
              refine qi_getI (x := nI S) flX12_251 dX12_tellHeir_98 rfl (by decide) hsd6 ?_
              refine qi_ialdN (x := nI (P.1 1)) (j := S) dX12_tellHeir_101 rfl (by decide) rfl (by omega) (by decide) hct6 ?_
              refine qi_callVV (K' := kX12_notes) (As := [.int (nI a), .int 1, .int (nI (P.1 1))]) mlX12_308 okX12_notes dX12_tellHeir_102 (c_X12_notes g hT k6 (k := 129) (i := a) (n := P.1 1) (by omega) t3 (by omega) (fun z => by have := (k6.2.2.2.2.2 z).1; omega)) rfl (by decide) rfl (by decide) rfl rfl (Nat.le_of_ble_eq_true rfl) ⟨(Nat.le_of_ble_eq_true rfl), (Nat.le_of_ble_eq_true rfl)⟩ ⟨Nat.le_refl _, Nat.le_refl _⟩ (fun M7 ⟨k7, f7⟩ => ?_)
              have ff7 := ff6.tr (f7.mono (S' := SYc S 295 298 (8 * S + P.1 1)) (fun b j z => SYc_nt z))
              have hM7 := k7.1.1
              have hsd7 := k7.1.2.2.2
              have hct7 : M7.1 294 S = nI (P.1 1) := (ff7.1 _ _ (SYc_hi (by decide) (by decide))).trans ct1
              refine qi_aload_n (i := 0) (x := 280) dX12_tellHeir_105 rfl rfl ?_
              refine qi_getR (x := 294) flX12_58 dX12_tellHeir_106 rfl (by decide) (hM7 280 27 294 rfl) ?_
              refine qi_aload_n (i := 0) (x := 280) dX12_tellHeir_109 rfl rfl ?_
              refine qi_getI (x := nI S) flX12_251 dX12_tellHeir_110 rfl (by decide) hsd7 ?_
              refine qi_dup2 dX12_tellHeir_113 ?_
              refine qi_ialdN (x := nI (P.1 1)) (j := S) dX12_tellHeir_114 rfl (by decide) rfl (by omega) (by decide) hct7 ?_
              refine qi_iconst (v := 1) dX12_tellHeir_115 rfl ?_
              refine qi_iadd dX12_tellHeir_116 ?_
              refine qe_top (y := nI (P.1 1 + 1)) (nI_1 _) ?_
              refine qi_iastN (j := S) dX12_tellHeir_117 rfl (by decide) rfl (by omega) (by decide) ?_
              generalize w0 : wI M7 294 S (nI (P.1 1 + 1)) = Mw0
              have Fw0 : qFr (fun b j => b = 294 ∧ j = S) M7 Mw0 := by
                rw [← w0]
                exact qFr.rf.wI ⟨rfl, rfl⟩
              have F0 : qFr (fun b j => SYc S 295 298 (8 * S + P.1 1) b j ∨ (b = 294 ∧ j = S)) M Mw0 := (ff7.mono (fun b j z => Or.inl z)).tr (Fw0.mono (fun b j z => Or.inr z))
              have kF0 := k7.fr Fw0 (fun b j z => by omega)
              have back : v5.2.1.1 = 0 → s.1 = 0 ∧ v1.2.2 = psQ N (vAt T a) 129 (P.1 1) ∧ N.1 = P.1 0 + P.1 1 + P.1 3 := fun z => by
                have y5 := (q5 z).1
                have y4 := (q4 y5).1
                have y3 := (q3 y4).1
                have y2 := (q2 y3).1
                have y1 := (j5 y2).1
                have yn := (hK.2.2.2.2.2 y1).1
                exact ⟨y1, u3 y2 (by omega), yn⟩
              have cc : updF P.1 1 (P.1 1 + 1) 0 + updF P.1 1 (P.1 1 + 1) 1 + updF P.1 1 (P.1 1 + 1) 3 = P.1 0 + P.1 1 + P.1 3 + 1 := by simp [updF]; omega
              refine qi_retV rfl dX12_tellHeir_118 (⟨qPy_io hR.symm ⟨?_, ?_, ⟨?_, ?_, ?_, ?_⟩, fun z => ?_, ck, bk, ⟨by show ck ≤ v6; omega, by show 4 * bk ≤ v6; omega, ?_, ?_⟩, ?_⟩, F0.mono (fun b j z => z.elim (SYc_he hn) (SY_ct (by decide)))⟩)
              · show qYK Mw0 S T v6 v5.2.1 v1.2.2 (updF P.1 1 (P.1 1 + 1) 0 + updF P.1 1 (P.1 1 + 1) 1 + updF P.1 1 (P.1 1 + 1) 3)
                rw [cc]
                exact kF0.nm (fun z => (back z).2.1)
              · exact (F0.1 _ _ (fun z => z.elim (SYc_280 (by decide) (by decide)) (fun z => absurd z.1 (by decide)))).trans hop
              · exact (F0.1 _ _ (fun z => z.elim (SYc_hi (by decide) (by decide)) (fun z => absurd z.1 (by decide)))).trans ct0
              · rw [← w0, wI_s]
                rfl
              · exact (F0.1 _ _ (fun z => z.elim (SYc_hi (by decide) (by decide)) (fun z => absurd z.1 (by decide)))).trans ct2
              · exact (F0.1 _ _ (fun z => z.elim (SYc_hi (by decide) (by decide)) (fun z => absurd z.1 (by decide)))).trans ct3
              · exact (hdt (back z).1).heir hC F0 (fun b j z => by have := SYc_lo (by decide) (by decide) z; omega) (by rw [Fw0.1 _ _ (by omega), f7.1 _ _ (by omega), f6.1 _ _ (SYt_hi (by decide))]; exact x5_2) (by rw [Fw0.1 _ _ (by omega), f7.1 _ _ (by omega), f6.1 _ _ (SYt_hi (by decide))]; exact x5_3) (by rw [Fw0.1 _ _ (by omega), f7.1 _ _ (by omega), f6.1 _ _ (SYt_hi (by decide))]; exact x5_4) (by rw [Fw0.1 _ _ (by omega), f7.1 _ _ (by omega), f6.1 _ _ (SYt_hi (by decide))]; exact x5)
              · exact (F0.1 _ _ (fun z => z.elim (SYc_280 (by decide) (by decide)) (fun z => absurd z.1 (by decide)))).trans hcd
              · exact (F0.1 _ _ (fun z => z.elim (SYc_280 (by decide) (by decide)) (fun z => absurd z.1 (by decide)))).trans hbn
              · exact hls.c c2 F0 (by decide) (by decide) (by decide)
