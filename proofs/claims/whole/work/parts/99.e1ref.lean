/-! the reference's tellSends -/
def SYs (kk : Nat) : Nat → Nat → Prop := fun b j => SYn b j ∨ ((b = 300 ∨ b = 301) ∧ j = kk)
theorem SYs_no {kk b j : Nat} (h : (b = 280 ∧ (j = 12 ∨ j = 44 ∨ j = 50)) ∨ (281 ≤ b ∧ b < 300) ∨ 301 < b) : ¬ SYs kk b j := by
  unfold SYs SYn SYt SYw
  omega
theorem SYs_SY {S n b j : Nat} (h : n < 16) (z : SYs (16 * S + n) b j) : SY S b j := by
  rcases z with (z | z) | ⟨z1, z2⟩
  · exact Or.inl ⟨z.1, by have := z.2; omega⟩
  · exact Or.inl ⟨z.1, by have := z.2; omega⟩
  · exact Or.inr (Or.inr (Or.inr (Or.inr (Or.inr (Or.inl ⟨z1, by omega, by omega⟩)))))
theorem SLw_SY {S ck bk k b j : Nat} (h : k ≤ 16) (z : SLw S ck bk k b j) : SY S b j := by
  rcases z with z | z | z | z | z
  · exact Or.inl ⟨z.1, by have := z.2; omega⟩
  · exact Or.inr (Or.inr (Or.inr (Or.inr (Or.inr (Or.inr (Or.inr (Or.inr (Or.inr (Or.inr (Or.inr z))))))))))
  · exact Or.inr (Or.inr (Or.inr (Or.inr (Or.inr (Or.inr (Or.inr (Or.inr (Or.inr (Or.inr (Or.inl ⟨z.1, by omega, z.2.2⟩))))))))))
  · exact Or.inr (Or.inr (Or.inr (Or.inr (Or.inr (Or.inr (Or.inr (Or.inr (Or.inr (Or.inl ⟨z.1, z.2.1, by omega, z.2.2.2⟩)))))))))
  · exact Or.inr (Or.inr (Or.inr (Or.inr (Or.inr (Or.inr (Or.inr (Or.inr (Or.inl ⟨z.1, by have := z.2; omega, by have := z.2; omega⟩))))))))
theorem SLw_no {S ck bk k b j : Nat} (h : (b = 280 ∧ (j = 15 ∨ j = 16 ∨ j = 19 ∨ j = 20)) ∨ (281 ≤ b ∧ b < 309) ∨ 318 < b) : ¬ SLw S ck bk k b j := by
  unfold SLw
  omega
theorem wfE_ne {es : List Int32} (h : wfE es) : 0 < es.length := by
  cases es with
  | nil => exact absurd (h 0 (by decide)) (by show ¬ 0 = 1; decide)
  | cons c cs => exact Nat.succ_pos _
theorem lwT_pos {bs : List qBr} {l : List Int32} (h : wfE l) : 0 < lwT bs l := by
  rw [lwT_last]
  have := wfE_ne h
  omega
theorem laW_b {β : Type} {T : qTk} {a : Nat} {f : Nat → List qBr × List Int32 → β} : bQ (laQ T a) (fun r3 => bQ (acQ T 59 r3.1) (fun a5 => Except.ok (f a5 r3.2))) = bQ (laW T a) (fun w => .ok (f w.1 w.2)) := by
  unfold laW
  rw [bQ_as]
  congr 1
  funext v
  rw [bQ_as]
  rfl
theorem lwY.ofLw {M : qM} {S k ck bk : Nat} {A : qAs} (h1 : M.1 309 (17 * S + k) = nI (130 * S + bk)) (h2 : M.1 310 (17 * S + k) = nI (130 * S + bk + A.1.length + 1)) (h3 : qLwM M (130 * S + bk) (420 * S + ck) A.1 A.2) : lwY M S k (ck + lwT A.1 A.2) (bk + A.1.length + 1) A := ⟨130 * S + bk, 420 * S + ck, h1, h2, h3, by omega, by omega, by omega, by omega⟩
theorem dtY.sends {F : Nat → Nat → Prop} {M M' : qM} {S : Nat} {P : qPn} {h w : Nat} {A : qAs} (hd0 : dtY M S P) (hc : okCn P) (hf : qFr F M M') (hd : ∀ b j, F b j → b < 292 ∨ ((b = 300 ∨ b = 301) ∧ j = 16 * S + P.1 2) ∨ 309 ≤ b ∨ b = 299) (hx : M'.1 300 (16 * S + P.1 2) = nI h) (hy : M'.1 301 (16 * S + P.1 2) = nI w) : dtY M' S (seP P h w A) := by
  obtain ⟨⟨a1, a2⟩, a3, a4, a5, a6⟩ := hd0.fr hf hc.2.2.2.2 (fun b j z => by have := hd b j z; omega)
  refine ⟨⟨a1, a2⟩, fun c i hc hi => ?_, fun c i hc hi => ?_, fun c i hc hi => ?_, fun k hk => ⟨?_, fun i hi => ?_⟩⟩
  · unfold seP
    dsimp only
    rw [up2_b (by omega), up2_b (by omega)]
    exact a3 c i hc hi
  · unfold seP
    dsimp only
    rw [up2_b (by omega), up2_b (by omega)]
    exact a4 c i hc hi
  · have hi2 : i < P.1 2 + 1 := hi
    unfold seP
    dsimp only
    by_cases e : i = P.1 2
    · have : c = 0 ∨ c = 1 := by omega
      rcases this with hc | hc <;> subst hc
      · rw [e, up2_b (by decide), up2_s]
        exact hx
      · rw [e, up2_s]
        exact hy
    · rw [up2_j e, up2_j e]
      exact a5 c i hc (by omega)
  · unfold seP
    dsimp only
    rw [up2_b (by omega), up2_b (by omega)]
    exact (a6 k hk).1
  · unfold seP at hi ⊢
    dsimp only at hi ⊢
    rw [up2_b (by omega), up2_b (by omega)] at hi
    rw [up2_b (by omega), up2_b (by omega), up2_b (by omega), up2_b (by omega), up2_b (by omega), up2_b (by omega)]
    exact (a6 k hk).2 i hi
set_option maxHeartbeats 2000000 in
theorem c_X12_tellSends (g : qG) {T : qTk} (hT : okTk T) {M : qM} {S a : Nat} {s : Nat × Nat} {N : qNm} {P : qPn} (hY : rdY S T (a, s, N, P) M) (hs : okSl s a) (hC : okCn P) (hN : okNm N P.1) (hn : P.1 2 < 16) : qV g 6 kX12_tellSends [.ref 280] M (fun M' => qPy S T (seR T a (a, s, N, P)) (rdY S T) M' ∧ qFr (SY S) M M') := by
  generalize hR : seR T a (a, s, N, P) = res
  unfold seR at hR
  dsimp only at hR
  obtain ⟨hK, hop, ⟨ct0, ct1, ct2, ct3⟩, hdt, ck, bk, ⟨hck, hbk, hcd, hbn⟩, hls⟩ := hY
  dsimp only at hK hop ct0 ct1 ct2 ct3 hdt hck hbk hcd hbn hls
  obtain ⟨c0, c1, c2, c3, c4⟩ := id hC
  have hS2 := hK.1.2.2.1
  have hM := hK.1.1
  have hsd := hK.1.2.2.2
  have ba := hK.2.1.1
  have hN2 : s.1 = 0 → (∀ i, i < N.1 → dgQ 8 (N.2.1 i) ∧ (N.2.2.1 i = 128 ∨ N.2.2.1 i = 129 ∨ N.2.2.1 i = 133)) ∧ ∀ i j, i < j → j < N.1 → ¬ N.2.1 i = N.2.1 j := fun _ => hN.of
  have S53 : ∀ e M1, res = .error e → qYF M1 S T e → qFr (SY S) M M1 → qT g kX12_tellSends (qR 6 0 0) (qZV g (fun M' => qPy S T res (rdY S T) M' ∧ qFr (SY S) M M')) 53 [some (.ref 280), some (.int (nI (16 * S + P.1 2)))] [] 333 M1 (0, 0) := by
    intro e M1 he hF ff
    have hn := hF.n
    refine qi_aload_n (i := 0) (x := 280) dX12_tellSends_53 rfl rfl ?_
    refine qi_getI (x := nI e.1) flX12_218 dX12_tellSends_54 rfl (by decide) hF.2.2.1 ?_
    refine qi_if_ne (tgt := 73) dX12_tellSends_57 (by decide) (fun _hc => ?_) (fun _h => absurd ((nI_eq (a := e.1) (b := 0) (by omega) (by omega)).mp _h) (by omega))
    exact qi_retV rfl dX12_tellSends_73 (⟨qPy_ie he hF, ff⟩)
  have S40 : ∀ e M1, res = .error e → qYF M1 S T e → qFr (SYs (16 * S + P.1 2)) M M1 → qT g kX12_tellSends (qR 6 0 0) (qZV g (fun M' => qPy S T res (rdY S T) M' ∧ qFr (SY S) M M')) 40 [some (.ref 280), some (.int (nI (16 * S + P.1 2)))] [] 333 M1 (0, 0) := by
    intro e M1 he hF ff
    have hM1 := hF.1.1
    have hsd1 := hF.1.2.2.2
    have hct1 : M1.1 299 S = nI (P.1 2) := (ff.1 _ _ (SYs_no (Or.inr (Or.inl ⟨by decide, by decide⟩)))).trans ct2
    have hb1 : M1.1 280 44 = nI (130 * S + bk) := (ff.1 _ _ (SYs_no (by decide))).trans hbn
    refine qi_aload_n (i := 0) (x := 280) dX12_tellSends_40 rfl rfl ?_
    refine qi_aload_n (i := 0) (x := 280) dX12_tellSends_41 rfl rfl ?_
    refine qi_getR (x := 299) flX12_73 dX12_tellSends_42 rfl (by decide) (hM1 280 32 299 rfl) ?_
    refine qi_aload_n (i := 0) (x := 280) dX12_tellSends_45 rfl rfl ?_
    refine qi_getI (x := nI S) flX12_251 dX12_tellSends_46 rfl (by decide) hsd1 ?_
    refine qi_ialdN (x := nI (P.1 2)) (j := S) dX12_tellSends_49 rfl (by decide) rfl (by omega) (by decide) hct1 ?_
    refine qi_callVV (K' := kX12_tellLaw) (As := [.int (nI (P.1 2))]) mlX12_288 okX12_tellLaw dX12_tellSends_50 (c_X12_tellLawF g hF (ck := ck) hb1 (by omega) (P.1 2)) rfl (by decide) rfl (by decide) rfl rfl (Nat.le_of_ble_eq_true rfl) ⟨(Nat.le_of_ble_eq_true rfl), (Nat.le_of_ble_eq_true rfl)⟩ ⟨Nat.le_refl _, Nat.le_refl _⟩ (fun M2 ⟨k2, f2⟩ => ?_)
    exact S53 e M2 he k2 ((ff.mono (fun b j z => SYs_SY hn z)).tr (f2.mono (fun b j z => SLw_SY (by omega) z)))
  have S29 : ∀ e M1, res = .error e → qYF M1 S T e → qFr (SYs (16 * S + P.1 2)) M M1 → qT g kX12_tellSends (qR 6 0 0) (qZV g (fun M' => qPy S T res (rdY S T) M' ∧ qFr (SY S) M M')) 29 [some (.ref 280), some (.int (nI (16 * S + P.1 2)))] [] 333 M1 (0, 0) := by
    intro e M1 he hF ff
    have hM1 := hF.1.1
    refine qi_aload_n (i := 0) (x := 280) dX12_tellSends_29 rfl rfl ?_
    refine qi_getR (x := 301) flX12_79 dX12_tellSends_30 rfl (by decide) (hM1 280 34 301 rfl) ?_
    refine qi_iload_n (i := 1) (x := nI (16 * S + P.1 2)) dX12_tellSends_33 rfl rfl ?_
    refine qi_aload_n (i := 0) (x := 280) dX12_tellSends_34 rfl rfl ?_
    refine qi_iconst (v := 0) dX12_tellSends_35 rfl ?_
    refine qi_callVI (K' := kX12_known) (As := [.int 0]) mlX12_312 okX12_known dX12_tellSends_36 (c_X12_knownF g hF 0) rfl (by decide) rfl (by decide) rfl rfl (Nat.le_of_ble_eq_true rfl) ⟨(Nat.le_of_ble_eq_true rfl), (Nat.le_of_ble_eq_true rfl)⟩ ⟨Nat.le_refl _, Nat.le_refl _⟩ (fun r2 M2 e2 => ?_)
    rw [e2]
    refine qi_iastN (j := 16 * S + P.1 2) dX12_tellSends_39 rfl (by decide) rfl (by omega) (by decide) ?_
    have Fa : qFr (fun b j => b = 301 ∧ j = 16 * S + P.1 2) M1 (wI M1 301 (16 * S + P.1 2) r2) := qFr.rf.wI ⟨rfl, rfl⟩
    exact S40 e _ he (hF.fr Fa (fun b j z => by omega)) (ff.tr (Fa.mono (fun b j z => Or.inr ⟨Or.inr z.1, z.2⟩)))
  refine qV.of (j := 1) (pn_RX12) rfl ?_
  show qT g kX12_tellSends (qR 6 0 0) (qZV g (fun M' => qPy S T res (rdY S T) M' ∧ qFr (SY S) M M')) 0 [some (.ref 280), none] [] 333 M (0, 0)
  refine qi_bipush (v := 16) dX12_tellSends_0 rfl ?_
  refine qi_aload_n (i := 0) (x := 280) dX12_tellSends_2 rfl rfl ?_
  refine qi_getI (x := nI S) flX12_251 dX12_tellSends_3 rfl (by decide) hsd ?_
  refine qi_imul dX12_tellSends_6 ?_
  refine qe_top (y := nI (16 * S)) (pk_mul 16 S) ?_
  refine qi_aload_n (i := 0) (x := 280) dX12_tellSends_7 rfl rfl ?_
  refine qi_getR (x := 299) flX12_73 dX12_tellSends_8 rfl (by decide) (hM 280 32 299 rfl) ?_
  refine qi_aload_n (i := 0) (x := 280) dX12_tellSends_11 rfl rfl ?_
  refine qi_getI (x := nI S) flX12_251 dX12_tellSends_12 rfl (by decide) hsd ?_
  refine qi_ialdN (x := nI (P.1 2)) (j := S) dX12_tellSends_15 rfl (by decide) rfl (by omega) (by decide) ct2 ?_
  refine qi_iadd dX12_tellSends_16 ?_
  refine qe_top (y := nI (16 * S + P.1 2)) (nI_add _ _) ?_
  refine qi_istore_n (i := 1) (L2 := [some (.ref 280), some (.int (nI (16 * S + P.1 2)))]) dX12_tellSends_17 rfl (Nat.le_of_ble_eq_true rfl) rfl ?_
  refine qi_aload_n (i := 0) (x := 280) dX12_tellSends_18 rfl rfl ?_
  refine qi_getR (x := 300) flX12_76 dX12_tellSends_19 rfl (by decide) (hM 280 33 300 rfl) ?_
  refine qi_iload_n (i := 1) (x := nI (16 * S + P.1 2)) dX12_tellSends_22 rfl rfl ?_
  refine qi_aload_n (i := 0) (x := 280) dX12_tellSends_23 rfl rfl ?_
  refine qi_iconst (v := 1) dX12_tellSends_24 rfl ?_
  refine qi_callVI (K' := kX12_known) (As := [.int 1]) mlX12_312 okX12_known dX12_tellSends_25 (c_X12_known g hT hK hs (k := 129) (Or.inr rfl) hN2) rfl (by decide) rfl (by decide) rfl rfl (Nat.le_of_ble_eq_true rfl) ⟨(Nat.le_of_ble_eq_true rfl), (Nat.le_of_ble_eq_true rfl)⟩ ⟨Nat.le_refl _, Nat.le_refl _⟩ (fun r1 M1 ⟨k1, f1⟩ => ?_)
  have ff1 : qFr (SYs (16 * S + P.1 2)) M M1 := f1.mono (fun b j z => Or.inl z)
  cases hA1 : onQ T 129 a s N with
  | error e =>
    rw [bQ_e hA1] at hR
    have kF := qPy_e hA1 k1
    have hM1 := kF.1.1
    refine qi_iastN (j := 16 * S + P.1 2) dX12_tellSends_28 rfl (by decide) rfl (by omega) (by decide) ?_
    have Fa : qFr (fun b j => b = 300 ∧ j = 16 * S + P.1 2) M1 (wI M1 300 (16 * S + P.1 2) r1) := qFr.rf.wI ⟨rfl, rfl⟩
    exact S29 e _ hR.symm (kF.fr Fa (fun b j z => by omega)) (ff1.tr (Fa.mono (fun b j z => Or.inr ⟨Or.inl z.1, z.2⟩)))
  | ok v1 =>
    rw [bQ_o hA1] at hR
    obtain ⟨q1, er1⟩ := qPy_o hA1 k1
    obtain ⟨j1, j2, j3, j4⟩ := on_all hs hA1
    have hM1 := q1.1.1
    refine qi_iastN (j := 16 * S + P.1 2) dX12_tellSends_28 rfl (by decide) rfl (by omega) (by decide) ?_
    generalize w1 : wI M1 300 (16 * S + P.1 2) r1 = Mw1
    have Fa1 : qFr (fun b j => b = 300 ∧ j = 16 * S + P.1 2) M1 Mw1 := by
      rw [← w1]
      exact qFr.rf.wI ⟨rfl, rfl⟩
    have kw1 := q1.fr Fa1 (fun b j z => by omega)
    have fw1 := ff1.tr (Fa1.mono (S' := SYs (16 * S + P.1 2)) (fun b j z => Or.inr ⟨Or.inl z.1, z.2⟩))
    have x1 : Mw1.1 300 (16 * S + P.1 2) = r1 := by rw [← w1, wI_s]
    have hMw1 := kw1.1.1
    refine qi_aload_n (i := 0) (x := 280) dX12_tellSends_29 rfl rfl ?_
    refine qi_getR (x := 301) flX12_79 dX12_tellSends_30 rfl (by decide) (hMw1 280 34 301 rfl) ?_
    refine qi_iload_n (i := 1) (x := nI (16 * S + P.1 2)) dX12_tellSends_33 rfl rfl ?_
    refine qi_aload_n (i := 0) (x := 280) dX12_tellSends_34 rfl rfl ?_
    refine qi_iconst (v := 0) dX12_tellSends_35 rfl ?_
    refine qi_callVI (K' := kX12_known) (As := [.int 0]) mlX12_312 okX12_known dX12_tellSends_36 (c_X12_known g hT kw1 j3 (k := 128) (Or.inl rfl) (fun z => hN2 (j4 z).1)) rfl (by decide) rfl (by decide) rfl rfl (Nat.le_of_ble_eq_true rfl) ⟨(Nat.le_of_ble_eq_true rfl), (Nat.le_of_ble_eq_true rfl)⟩ ⟨Nat.le_refl _, Nat.le_refl _⟩ (fun r2 M2 ⟨k2, f2⟩ => ?_)
    have ff2 : qFr (SYs (16 * S + P.1 2)) M M2 := fw1.tr (f2.mono (fun b j z => Or.inl z))
    cases hA2 : onQ T 128 v1.1 v1.2.1 N with
    | error e =>
      rw [bQ_e hA2] at hR
      have kF := qPy_e hA2 k2
      have hM2 := kF.1.1
      refine qi_iastN (j := 16 * S + P.1 2) dX12_tellSends_39 rfl (by decide) rfl (by omega) (by decide) ?_
      have Fa : qFr (fun b j => b = 301 ∧ j = 16 * S + P.1 2) M2 (wI M2 301 (16 * S + P.1 2) r2) := qFr.rf.wI ⟨rfl, rfl⟩
      exact S40 e _ hR.symm (kF.fr Fa (fun b j z => by omega)) (ff2.tr (Fa.mono (fun b j z => Or.inr ⟨Or.inr z.1, z.2⟩)))
    | ok v2 =>
      rw [bQ_o hA2, laW_b (f := fun a5 A => (a5, v2.2.1, N, seP P v1.2.2 v2.2.2 A))] at hR
      obtain ⟨q2, er2⟩ := qPy_o hA2 k2
      obtain ⟨l1, l2, l3, l4⟩ := on_all j3 hA2
      have hM2 := q2.1.1
      refine qi_iastN (j := 16 * S + P.1 2) dX12_tellSends_39 rfl (by decide) rfl (by omega) (by decide) ?_
      generalize w2 : wI M2 301 (16 * S + P.1 2) r2 = Mw2
      have Fa2 : qFr (fun b j => b = 301 ∧ j = 16 * S + P.1 2) M2 Mw2 := by
        rw [← w2]
        exact qFr.rf.wI ⟨rfl, rfl⟩
      have kw2 := q2.fr Fa2 (fun b j z => by omega)
      have fw2 := ff2.tr (Fa2.mono (S' := SYs (16 * S + P.1 2)) (fun b j z => Or.inr ⟨Or.inr z.1, z.2⟩))
      have x2 : Mw2.1 301 (16 * S + P.1 2) = r2 := by rw [← w2, wI_s]
      have x21 : Mw2.1 300 (16 * S + P.1 2) = r1 := (Fa2.1 _ _ (by omega)).trans ((f2.1 _ _ (SYn_hi (by decide))).trans x1)
      have hMw2 := kw2.1.1
      have hsd2 := kw2.1.2.2.2
      have hct2 : Mw2.1 299 S = nI (P.1 2) := (fw2.1 _ _ (SYs_no (Or.inr (Or.inl ⟨by decide, by decide⟩)))).trans ct2
      refine qi_aload_n (i := 0) (x := 280) dX12_tellSends_40 rfl rfl ?_
      refine qi_aload_n (i := 0) (x := 280) dX12_tellSends_41 rfl rfl ?_
      refine qi_getR (x := 299) flX12_73 dX12_tellSends_42 rfl (by decide) (hMw2 280 32 299 rfl) ?_
      refine qi_aload_n (i := 0) (x := 280) dX12_tellSends_45 rfl rfl ?_
      refine qi_getI (x := nI S) flX12_251 dX12_tellSends_46 rfl (by decide) hsd2 ?_
      refine qi_ialdN (x := nI (P.1 2)) (j := S) dX12_tellSends_49 rfl (by decide) rfl (by omega) (by decide) hct2 ?_
      refine qi_callVV (K' := kX12_tellLaw) (As := [.int (nI (P.1 2))]) mlX12_288 okX12_tellLaw dX12_tellSends_50 (c_X12_tellLaw g hT kw2 ((fw2.1 _ _ (SYs_no (by decide))).trans hop) (ck := ck) (bk := bk) (k := P.1 2) ((fw2.1 _ _ (SYs_no (by decide))).trans hcd) (by omega) ((fw2.1 _ _ (SYs_no (by decide))).trans hbn) (by omega) (by omega)) rfl (by decide) rfl (by decide) rfl rfl (Nat.le_of_ble_eq_true rfl) ⟨(Nat.le_of_ble_eq_true rfl), (Nat.le_of_ble_eq_true rfl)⟩ ⟨Nat.le_refl _, Nat.le_refl _⟩ (fun M3 ⟨k3, f3⟩ => ?_)
      have fY : qFr (SY S) M M3 := (fw2.mono (fun b j z => SYs_SY hn z)).tr (f3.mono (fun b j z => SLw_SY (by omega) z))
      cases hA3 : laW T v2.1 with
      | error e =>
        rw [bQ_e hA3] at hR
        exact S53 e M3 hR.symm (qPy_e hA3 k3) fY
      | ok v3 =>
        rw [bQ_o hA3] at hR
        obtain ⟨q3, o3, d3, b3, ⟨p3, p3'⟩, lw3⟩ := qPy_o hA3 k3
        have hM3 := q3.1.1
        have hz3 := q3.2.1.2.2.2
        have hsd3 := q3.1.2.2.2
        have hct3 : M3.1 299 S = nI (P.1 2) := (f3.1 _ _ (SLw_no (Or.inr (Or.inl ⟨by decide, by decide⟩)))).trans hct2
        obtain ⟨v4, hv4, hv5⟩ := bQ_inv hA3
        obtain ⟨a5, hv6, hv7⟩ := bQ_inv hv5
        have la := la_ok hT hv4
        have i6 := ac_ok hv6
        cases hv7
        have lp := lwT_pos (bs := v4.2.1) la.2.2.2.2.2
        refine qi_aload_n (i := 0) (x := 280) dX12_tellSends_53 rfl rfl ?_
        refine qi_getI (x := nI 0) flX12_218 dX12_tellSends_54 rfl (by decide) hz3 ?_
        refine qi_if_ne (tgt := 73) dX12_tellSends_57 (by decide) (fun _h => absurd ((nI_eq (a := 0) (b := 0) (by omega) (by omega)).mpr (by omega)) _h) (fun _hc => ?_)
        refine qi_aload_n (i := 0) (x := 280) dX12_tellSends_60 rfl rfl ?_
        refine qi_getR (x := 299) flX12_73 dX12_tellSends_61 rfl (by decide) (hM3 280 32 299 rfl) ?_
        refine qi_aload_n (i := 0) (x := 280) dX12_tellSends_64 rfl rfl ?_
        refine qi_getI (x := nI S) flX12_251 dX12_tellSends_65 rfl (by decide) hsd3 ?_
        refine qi_dup2 dX12_tellSends_68 ?_
        refine qi_ialdN (x := nI (P.1 2)) (j := S) dX12_tellSends_69 rfl (by decide) rfl (by omega) (by decide) hct3 ?_
        refine qi_iconst (v := 1) dX12_tellSends_70 rfl ?_
        refine qi_iadd dX12_tellSends_71 ?_
        refine qe_top (y := nI (P.1 2 + 1)) (nI_1 _) ?_
        refine qi_iastN (j := S) dX12_tellSends_72 rfl (by decide) rfl (by omega) (by decide) ?_
        generalize w0 : wI M3 299 S (nI (P.1 2 + 1)) = Mw0
        have Fw0 : qFr (fun b j => b = 299 ∧ j = S) M3 Mw0 := by
          rw [← w0]
          exact qFr.rf.wI ⟨rfl, rfl⟩
        have ll1 : lsY M3 S P ck bk := (hls.fr c2 fw2 (fun b j z => by unfold SYs SYn SYt SYw at z; omega)).fr c2 f3 (fun b j z => by unfold SLw at z; omega)
        have ll2 := ((ll1.fr c2 Fw0 (fun b j z => by omega)).up (ck2 := ck + lwT v4.2.1 v4.2.2) (bk2 := bk + v4.2.1.length + 1) (by omega) (by omega))
        have lwn : lwY Mw0 S (P.1 2) (ck + lwT v4.2.1 v4.2.2) (bk + v4.2.1.length + 1) v4.2 := (lwY.ofLw p3 p3' lw3).fr Fw0 (fun b j z => by omega)
        have F0 : ∀ b j, ¬ SYs (16 * S + P.1 2) b j → ¬ SLw S ck bk (P.1 2) b j → b ≠ 299 → Mw0.1 b j = M.1 b j := fun b j h1 h2 h3 => (Fw0.1 _ _ (fun z => h3 z.1)).trans ((f3.1 _ _ h2).trans (fw2.1 _ _ h1))
        refine qi_retV rfl dX12_tellSends_73 (⟨qPy_io hR.symm ⟨q3.fr Fw0 (fun b j z => by omega), (Fw0.1 _ _ (by omega)).trans o3, ⟨?_, ?_, ?_, ?_⟩, fun z => ?_, ck + lwT v4.2.1 v4.2.2, bk + v4.2.1.length + 1, ⟨by show ck + lwT v4.2.1 v4.2.2 ≤ a5; omega, by show 4 * (bk + v4.2.1.length + 1) ≤ a5; omega, ?_, ?_⟩, fun k hk => ?_, ?_⟩, fY.tr (Fw0.mono (fun b j z => SY_ct (by decide) z))⟩)
        · exact (F0 _ _ (SYs_no (Or.inr (Or.inl ⟨by decide, by decide⟩))) (SLw_no (Or.inr (Or.inl ⟨by decide, by decide⟩))) (by decide)).trans ct0
        · exact (F0 _ _ (SYs_no (Or.inr (Or.inl ⟨by decide, by decide⟩))) (SLw_no (Or.inr (Or.inl ⟨by decide, by decide⟩))) (by decide)).trans ct1
        · rw [← w0, wI_s]
          rfl
        · exact (F0 _ _ (SYs_no (Or.inr (Or.inr (by decide)))) (SLw_no (Or.inr (Or.inl ⟨by decide, by decide⟩))) (by decide)).trans ct3
        · have z1 := (l4 z).1
          have z0 := (j4 z1).1
          have e1 := er1 z1
          have e2 := er2 z
          have FF : qFr (fun b j => SYs (16 * S + P.1 2) b j ∨ SLw S ck bk (P.1 2) b j ∨ (b = 299 ∧ j = S)) M Mw0 := ((fw2.mono (fun b j z => Or.inl z)).tr (f3.mono (fun b j z => Or.inr (Or.inl z)))).tr (Fw0.mono (fun b j z => Or.inr (Or.inr z)))
          refine (hdt z0).sends hC FF (fun b j z => ?_) ?_ ?_
          · rcases z with z | z | z
            · unfold SYs SYn SYt SYw at z
              omega
            · unfold SLw at z
              omega
            · omega
          · rw [Fw0.1 _ _ (by omega), f3.1 _ _ (SLw_no (Or.inr (Or.inl ⟨by decide, by decide⟩))), x21, e1]
          · rw [Fw0.1 _ _ (by omega), f3.1 _ _ (SLw_no (Or.inr (Or.inl ⟨by decide, by decide⟩))), x2, e2]
        · rw [Fw0.1 _ _ (by omega), d3, Nat.add_assoc]
        · rw [Fw0.1 _ _ (by omega), b3]
          exact congrArg nI (by show 130 * S + bk + v4.2.1.length + 1 = 130 * S + (bk + v4.2.1.length + 1); omega)
        · have hk2 : k < P.1 2 + 1 := hk
          show ∃ A, (if k = P.1 2 then some v4.2 else P.2.2 k) = some A ∧ _
          by_cases ek : k = P.1 2
          · rw [if_pos ek, ek]
            exact ⟨_, rfl, lwn⟩
          · rw [if_neg ek]
            exact ll2.1 k (by omega)
        · show ((if 16 = P.1 2 then some v4.2 else P.2.2 16) = none ∧ _) ∨ ∃ A, (if 16 = P.1 2 then some v4.2 else P.2.2 16) = some A ∧ _
          rw [if_neg (by omega)]
          exact ll2.2
