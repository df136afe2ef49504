/-! the reference's cut, the whole -/
theorem c_X12_cut (g : qG) {M : qM} (hM : qRf M) {t : qTp} (ok : okTp t) (hx : qTxM M t) (hk : ∀ i, i < 17 → M.2.1 287 i = lN (wd27 i)) : qV g 2 kX12_cut [.ref 280] M (fun M' => qTkE M' (scQ t) ∧ qFr SCu M M') := by
  have h2000 := ok.1
  have OUT : ∀ m a T M1 x2 x3 x4 x5 x6 x7, ¬ (a < t.1 ∧ T.1 ≤ 400) → a ≤ t.1 → scF t m a T = scQ t → qTkM M1 T → T.2.1 = t.1 → qFr SCu M M1 → qT g kX12_cut (qR 2 0 0) (qZV g (fun M' => qTkE M' (scQ t) ∧ qFr SCu M M')) 7 [some (.ref 280), some (.int (nI a)), x2, x3, x4, x5, x6, x7] [] 333 M1 (0, 0) := by
    intro m a T M1 x2 x3 x4 x5 x6 x7 hn ha es hT hs hf
    rw [scF_n hn] at es
    subst es
    have hM1 := hM.fr hf
    have hx1 := hx.fr hf (fun b j z => by unfold SCu at z; omega)
    have hT1 := hT.1
    generalize scQ t = T at *
    by_cases h4 : 400 < T.1
    ·
      refine qi_aload_n (i := 0) (x := 280) dX12_cut_7 rfl rfl ?_
      refine qi_getI (x := nI T.1) flX12_196 dX12_cut_8 rfl (by decide) hT.2.1 ?_
      refine qi_sipush (v := 400) dX12_cut_11 rfl ?_
      refine qi_icmp_gt (tgt := 294) dX12_cut_14 (by decide) (fun _hc => ?_) (fun _h => absurd ((nI_ltI (a := 400) (b := T.1) (by omega) (by omega)).mpr (by omega)) _h)
      exact qi_retV rfl dX12_cut_294 (⟨hT.full h4, hf⟩)
    ·
      refine qi_aload_n (i := 0) (x := 280) dX12_cut_7 rfl rfl ?_
      refine qi_getI (x := nI T.1) flX12_196 dX12_cut_8 rfl (by decide) hT.2.1 ?_
      refine qi_sipush (v := 400) dX12_cut_11 rfl ?_
      refine qi_icmp_gt (tgt := 294) dX12_cut_14 (by decide) (fun _h => absurd ((nI_ltI (a := 400) (b := T.1) (by omega) (by omega)).mp _h) (by omega)) (fun _hc => ?_)
      refine qi_aload_n (i := 0) (x := 280) dX12_cut_17 rfl rfl ?_
      refine qi_iload_n (i := 1) (x := nI a) dX12_cut_18 rfl rfl ?_
      refine qi_callPVI (v := nI (byQ t a)) (K' := kX12_byteAt) (As := [.int (nI a)]) mlX12_199 okX12_byteAt dX12_cut_19 (c_X12_byteAt g hM1 hx1 h2000 (by omega)) rfl (by decide) rfl (by decide) rfl rfl (Nat.le_of_ble_eq_true rfl) ⟨(Nat.le_of_ble_eq_true rfl), (Nat.le_of_ble_eq_true rfl)⟩ ⟨Nat.le_refl _, Nat.le_refl _⟩ ?_
      refine qi_istore_n (i := 2) (L2 := [some (.ref 280), some (.int (nI a)), some (.int (nI (byQ t a))), x3, x4, x5, x6, x7]) dX12_cut_22 rfl (Nat.le_of_ble_eq_true rfl) rfl ?_
      refine qi_iload_n (i := 1) (x := nI a) dX12_cut_23 rfl rfl ?_
      refine qi_aload_n (i := 0) (x := 280) dX12_cut_24 rfl rfl ?_
      refine qi_getI (x := nI t.1) flX12_187 dX12_cut_25 rfl (by decide) hx1.1 ?_
      refine qi_icmp_lt (tgt := 43) dX12_cut_28 (by decide) (fun _h => absurd ((nI_ltI (a := a) (b := t.1) (by omega) (by omega)).mp _h) (by omega)) (fun _hc => ?_)
      refine qi_aload_n (i := 0) (x := 280) dX12_cut_31 rfl rfl ?_
      refine qi_iconst (v := 0) dX12_cut_32 rfl ?_
      refine qi_aload_n (i := 0) (x := 280) dX12_cut_33 rfl rfl ?_
      refine qi_getI (x := nI t.1) flX12_187 dX12_cut_34 rfl (by decide) hx1.1 ?_
      refine qi_iconst (v := 0) dX12_cut_37 rfl ?_
      refine qi_lconst (v := 0) dX12_cut_38 rfl ?_
      refine qi_callVV (K' := kX12_token) (As := [.int 0, .int (nI t.1), .int 0, .long 0]) mlX12_203 okX12_token dX12_cut_39 (c_X12_token g hM1 hT.2.1 (by omega) 0 (nI t.1) 0 0) rfl (by decide) rfl (by decide) rfl rfl (Nat.le_of_ble_eq_true rfl) ⟨(Nat.le_of_ble_eq_true rfl), (Nat.le_of_ble_eq_true rfl)⟩ ⟨Nat.le_refl _, Nat.le_refl _⟩ (fun M2 e2 => ?_)
      exact qi_retV rfl dX12_cut_42 (⟨by rw [e2, ← hs]; exact hT.fin, by rw [e2]; exact hf.tr tokW_fr⟩)
  have K : ∀ m a T M1 x2 x3 x4 x5 x6 x7, 2000 ≤ a + m → a ≤ t.1 → scF t m a T = scQ t → qTkM M1 T → T.2.1 = t.1 → qFr SCu M M1 → qT g kX12_cut (qR 2 0 0) (qZV g (fun M' => qTkE M' (scQ t) ∧ qFr SCu M M')) 7 [some (.ref 280), some (.int (nI a)), x2, x3, x4, x5, x6, x7] [] 333 M1 (0, 0) := by
    intro m
    induction m with
    | zero =>
      intro a T M1 x2 x3 x4 x5 x6 x7 e1 e2 es hT hs hf
      exact OUT 0 a T M1 _ _ _ _ _ _ (fun z => by omega) e2 es hT hs hf
    | succ m ih =>
      intro a T M1 x2 x3 x4 x5 x6 x7 e1 e2 es hT hs hf
      by_cases hc : a < t.1 ∧ T.1 ≤ 400
      ·
        rw [scF_y hc] at es
        have hn := nxQ_in hc.1
        have hM1 := hM.fr hf
        have hx1 := hx.fr hf (fun b j z => by unfold SCu at z; omega)
        have hk1 : ∀ i, i < 17 → M1.2.1 287 i = lN (wd27 i) := fun i hi => (hf.2.1 _ _ (by unfold SCu; omega)).trans (hk i hi)
        have hb := byQ_lt ok a
        have eb := byQ_in hc.1
        have h4 := hc.2
        have NXT : ∀ M2 x2 x3 x4 x5 x6 x7, qTkM M2 (tkQ t a T) → qFr SCu M1 M2 → qT g kX12_cut (qR 2 0 0) (qZV g (fun M' => qTkE M' (scQ t) ∧ qFr SCu M M')) 7 [some (.ref 280), some (.int (nI (nxQ t a))), x2, x3, x4, x5, x6, x7] [] 333 M2 (0, 0) := fun M2 x2 x3 x4 x5 x6 x7 h1 h2 => ih (nxQ t a) (tkQ t a T) M2 _ _ _ _ _ _ (by omega) hn.2 es h1 ((tkQ_s t a T).trans hs) (hf.tr h2)
        have BL : bqB t a = true → qT g kX12_cut (qR 2 0 0) (qZV g (fun M' => qTkE M' (scQ t) ∧ qFr SCu M M')) 67 [some (.ref 280), some (.int (nI a)), some (.int (nI (byQ t a))), x3, x4, x5, x6, x7] [] 333 M1 (0, 0) := by
          intro hbl
          have hb2 := bqB_i.mp hbl
          unfold isBq at hb2
          have hnl : ¬ lqB t a = true := fun z => by have := lqB_i.mp z; unfold isLq at this; omega
          have hnd : ¬ dqB t a = true := fun z => by have := dqB_i.mp z; unfold isDq at this; omega
          have en : nxQ t a = a + 1 := by unfold nxQ; rw [if_neg hnl, if_neg hnd]
          have et : tkQ t a T = T := by unfold tkQ; rw [if_neg hnl, if_neg hnd, if_pos hbl]
          rw [en, et] at NXT
          refine qi_iinc (i := 1) (x := nI a) (v := nI (a + 1)) (L2 := [some (.ref 280), some (.int (nI (a + 1))), some (.int (nI (byQ t a))), x3, x4, x5, x6, x7]) dX12_cut_67 rfl (nI_1 a) (Nat.le_of_ble_eq_true rfl) rfl ?_
          refine qi_goto (tgt := 291) dX12_cut_70 (by decide) ?_
          refine qi_goto (tgt := 7) dX12_cut_291 (by decide) ?_
          exact NXT M1 _ _ _ _ _ _ hT qFr.rf
        refine qi_aload_n (i := 0) (x := 280) dX12_cut_7 rfl rfl ?_
        refine qi_getI (x := nI T.1) flX12_196 dX12_cut_8 rfl (by decide) hT.2.1 ?_
        refine qi_sipush (v := 400) dX12_cut_11 rfl ?_
        refine qi_icmp_gt (tgt := 294) dX12_cut_14 (by decide) (fun _h => absurd ((nI_ltI (a := 400) (b := T.1) (by omega) (by omega)).mp _h) (by omega)) (fun _hc => ?_)
        refine qi_aload_n (i := 0) (x := 280) dX12_cut_17 rfl rfl ?_
        refine qi_iload_n (i := 1) (x := nI a) dX12_cut_18 rfl rfl ?_
        refine qi_callPVI (v := nI (byQ t a)) (K' := kX12_byteAt) (As := [.int (nI a)]) mlX12_199 okX12_byteAt dX12_cut_19 (c_X12_byteAt g hM1 hx1 h2000 (by omega)) rfl (by decide) rfl (by decide) rfl rfl (Nat.le_of_ble_eq_true rfl) ⟨(Nat.le_of_ble_eq_true rfl), (Nat.le_of_ble_eq_true rfl)⟩ ⟨Nat.le_refl _, Nat.le_refl _⟩ ?_
        refine qi_istore_n (i := 2) (L2 := [some (.ref 280), some (.int (nI a)), some (.int (nI (byQ t a))), x3, x4, x5, x6, x7]) dX12_cut_22 rfl (Nat.le_of_ble_eq_true rfl) rfl ?_
        refine qi_iload_n (i := 1) (x := nI a) dX12_cut_23 rfl rfl ?_
        refine qi_aload_n (i := 0) (x := 280) dX12_cut_24 rfl rfl ?_
        refine qi_getI (x := nI t.1) flX12_187 dX12_cut_25 rfl (by decide) hx1.1 ?_
        refine qi_icmp_lt (tgt := 43) dX12_cut_28 (by decide) (fun _hc => ?_) (fun _h => absurd ((nI_ltI (a := a) (b := t.1) (by omega) (by omega)).mpr (by omega)) _h)
        refine qi_iload_n (i := 2) (x := nI (byQ t a)) dX12_cut_43 rfl rfl ?_
        refine qi_bipush (v := 9) dX12_cut_44 rfl ?_
        by_cases h9 : byQ t a = 9
        ·
          refine qi_icmp_eq (tgt := 67) dX12_cut_46 (by decide) (fun _hc => ?_) (fun _h => absurd ((nI_eq (a := byQ t a) (b := 9) (by omega) (by omega)).mpr (by omega)) _h)
          exact BL (bqB_i.mpr (Or.inl h9))
        refine qi_icmp_eq (tgt := 67) dX12_cut_46 (by decide) (fun _h => absurd ((nI_eq (a := byQ t a) (b := 9) (by omega) (by omega)).mp _h) (by omega)) (fun _hc => ?_)
        refine qi_iload_n (i := 2) (x := nI (byQ t a)) dX12_cut_49 rfl rfl ?_
        refine qi_bipush (v := 10) dX12_cut_50 rfl ?_
        by_cases h10 : byQ t a = 10
        ·
          refine qi_icmp_eq (tgt := 67) dX12_cut_52 (by decide) (fun _hc => ?_) (fun _h => absurd ((nI_eq (a := byQ t a) (b := 10) (by omega) (by omega)).mpr (by omega)) _h)
          exact BL (bqB_i.mpr (Or.inr (Or.inl h10)))
        refine qi_icmp_eq (tgt := 67) dX12_cut_52 (by decide) (fun _h => absurd ((nI_eq (a := byQ t a) (b := 10) (by omega) (by omega)).mp _h) (by omega)) (fun _hc => ?_)
        refine qi_iload_n (i := 2) (x := nI (byQ t a)) dX12_cut_55 rfl rfl ?_
        refine qi_bipush (v := 13) dX12_cut_56 rfl ?_
        by_cases h13 : byQ t a = 13
        ·
          refine qi_icmp_eq (tgt := 67) dX12_cut_58 (by decide) (fun _hc => ?_) (fun _h => absurd ((nI_eq (a := byQ t a) (b := 13) (by omega) (by omega)).mpr (by omega)) _h)
          exact BL (bqB_i.mpr (Or.inr (Or.inr (Or.inl h13))))
        refine qi_icmp_eq (tgt := 67) dX12_cut_58 (by decide) (fun _h => absurd ((nI_eq (a := byQ t a) (b := 13) (by omega) (by omega)).mp _h) (by omega)) (fun _hc => ?_)
        refine qi_iload_n (i := 2) (x := nI (byQ t a)) dX12_cut_61 rfl rfl ?_
        refine qi_bipush (v := 32) dX12_cut_62 rfl ?_
        by_cases h32 : byQ t a = 32
        ·
          refine qi_icmp_ne (tgt := 73) dX12_cut_64 (by decide) (fun _h => absurd ((nI_eq (a := byQ t a) (b := 32) (by omega) (by omega)).mpr (by omega)) _h) (fun _hc => ?_)
          exact BL (bqB_i.mpr (Or.inr (Or.inr (Or.inr h32))))
        refine qi_icmp_ne (tgt := 73) dX12_cut_64 (by decide) (fun _hc => ?_) (fun _h => absurd ((nI_eq (a := byQ t a) (b := 32) (by omega) (by omega)).mp _h) (by omega))
        refine qi_iload_n (i := 2) (x := nI (byQ t a)) dX12_cut_73 rfl rfl ?_
        have hnb : ¬ bqB t a = true := fun z => by have := bqB_i.mp z; unfold isBq at this; omega
        refine qi_callSI (K' := kX12_isLetter) (As := [.int (nI (byQ t a))]) mlX12_207 okX12_isLetter dX12_cut_74 (c_X12_isLetter g (c := byQ t a) (by omega)) rfl rfl (Nat.le_of_ble_eq_true rfl) ⟨(Nat.le_of_ble_eq_true rfl), (Nat.le_of_ble_eq_true rfl)⟩ ⟨Nat.le_refl _, Nat.le_refl _⟩ (fun r1 M2 ⟨b0, b1, b2⟩ => ?_)
        rw [b2]
        by_cases hl : lqB t a = true
        ·
          have en : nxQ t a = a + lnQ t a := by unfold nxQ; rw [if_pos hl]
          have et : tkQ t a T = addT T (wkQ t a) a (wvQ t a) := by unfold tkQ; rw [if_pos hl]
          rw [en, et] at NXT
          refine qi_if_eq (tgt := 196) dX12_cut_77 (by decide) (fun z => False.elim (((b1.mpr (lqB_i.mp hl)) z))) (fun z => ?_)
          exact cut_let g hM1 ok hx1 hk1 hc.1 hT h4 hl (fun M2 y3 y4 y5 y6 y7 q1 q2 => NXT M2 _ _ _ _ _ _ q1 q2)
        refine qi_if_eq (tgt := 196) dX12_cut_77 (by decide) (fun z => ?_) (fun z => False.elim ((hl (lqB_i.mpr (b1.mp z)))))
        refine qi_iload_n (i := 2) (x := nI (byQ t a)) dX12_cut_196 rfl rfl ?_
        refine qi_callSI (K' := kX12_isDigit) (As := [.int (nI (byQ t a))]) mlX12_211 okX12_isDigit dX12_cut_197 (c_X12_isDigit g (c := byQ t a) (by omega)) rfl rfl (Nat.le_of_ble_eq_true rfl) ⟨(Nat.le_of_ble_eq_true rfl), (Nat.le_of_ble_eq_true rfl)⟩ ⟨Nat.le_refl _, Nat.le_refl _⟩ (fun r2 M3 ⟨c0, c1, c2⟩ => ?_)
        rw [c2]
        by_cases hd : dqB t a = true
        ·
          have en : nxQ t a = a + dnQ t a := by unfold nxQ; rw [if_neg hl, if_pos hd]
          have et : tkQ t a T = addT T (dkQ t a) a (vDQ t a (dnQ t a)) := by unfold tkQ; rw [if_neg hl, if_pos hd]
          rw [en, et] at NXT
          refine qi_if_eq (tgt := 275) dX12_cut_200 (by decide) (fun z => False.elim (((c1.mpr (dqB_i.mp hd)) z))) (fun z => ?_)
          exact cut_dig g hM1 ok hx1 hc.1 hT h4 (fun M2 y3 y4 y5 y6 y7 q1 q2 => NXT M2 _ _ _ _ _ _ q1 q2)
        refine qi_if_eq (tgt := 275) dX12_cut_200 (by decide) (fun z => ?_) (fun z => False.elim ((hd (dqB_i.mpr (c1.mp z)))))
        have en : nxQ t a = a + 1 := by unfold nxQ; rw [if_neg hl, if_neg hd]
        have et : tkQ t a T = addT T (sgQ (t.2 a)) a 0 := by unfold tkQ; rw [if_neg hl, if_neg hd, if_neg hnb]
        rw [en, et, ← eb] at NXT
        refine qi_iload_n (i := 1) (x := nI a) dX12_cut_275 rfl rfl ?_
        refine qi_aload_n (i := 0) (x := 280) dX12_cut_276 rfl rfl ?_
        refine qi_iload_n (i := 1) (x := nI a) dX12_cut_277 rfl rfl ?_
        refine qi_iload_n (i := 2) (x := nI (byQ t a)) dX12_cut_278 rfl rfl ?_
        refine qi_aload_n (i := 0) (x := 280) dX12_cut_279 rfl rfl ?_
        refine qi_iload_n (i := 1) (x := nI a) dX12_cut_280 rfl rfl ?_
        refine qi_iconst (v := 1) dX12_cut_281 rfl ?_
        refine qi_iadd dX12_cut_282 ?_
        refine qe_top (y := nI (a + 1)) (nI_1 a) ?_
        refine qi_callPVI (v := nI (byQ t (a + 1))) (K' := kX12_byteAt) (As := [.int (nI (a + 1))]) mlX12_199 okX12_byteAt dX12_cut_283 (c_X12_byteAt g hM1 hx1 h2000 (by omega)) rfl (by decide) rfl (by decide) rfl rfl (Nat.le_of_ble_eq_true rfl) ⟨(Nat.le_of_ble_eq_true rfl), (Nat.le_of_ble_eq_true rfl)⟩ ⟨Nat.le_refl _, Nat.le_refl _⟩ ?_
        refine qi_callVI (K' := kX12_sign) (As := [.int (nI a), .int (nI (byQ t a)), .int (nI (byQ t (a + 1)))]) mlX12_214 okX12_sign dX12_cut_286 (c_X12_sign g hM1 hT.2.1 (by omega) hb (nI a) (nI (byQ t (a + 1)))) rfl (by decide) rfl (by decide) rfl rfl (Nat.le_of_ble_eq_true rfl) ⟨(Nat.le_of_ble_eq_true rfl), (Nat.le_of_ble_eq_true rfl)⟩ ⟨Nat.le_refl _, Nat.le_refl _⟩ (fun r3 M4 ⟨f1, f2⟩ => ?_)
        refine qe_top (y := 1) f1 ?_
        refine qi_iadd dX12_cut_289 ?_
        refine qe_top (y := nI (a + 1)) (nI_1 a) ?_
        refine qi_istore_n (i := 1) (L2 := [some (.ref 280), some (.int (nI (a + 1))), some (.int (nI (byQ t a))), x3, x4, x5, x6, x7]) dX12_cut_290 rfl (Nat.le_of_ble_eq_true rfl) rfl ?_
        refine qi_goto (tgt := 7) dX12_cut_291 (by decide) ?_
        refine NXT M4 _ _ _ _ _ _ ?_ ?_
        · rw [f2]
          refine hT.add h4 (sgQ (byQ t a)) a 0 (fun _ => rfl) (fun z => ?_)
          exfalso
          unfold sgQ at z
          split at z <;> omega
        · rw [f2]
          exact tokW_fr
      ·
        exact OUT (m + 1) a T M1 _ _ _ _ _ _ hc e2 es hT hs hf
  refine qV.of (j := 7) (pn_RX12) rfl ?_
  show qT g kX12_cut (qR 2 0 0) (qZV g (fun M' => qTkE M' (scQ t) ∧ qFr SCu M M')) 0 [some (.ref 280), none, none, none, none, none, none, none] [] 333 M (0, 0)
  refine qi_aload_n (i := 0) (x := 280) dX12_cut_0 rfl rfl ?_
  refine qi_iconst (v := 0) dX12_cut_1 rfl ?_
  refine qi_putI flX12_196 q_cls12 (ty12_10 _) dX12_cut_2 rfl (by decide) ?_
  refine qi_iconst (v := 0) dX12_cut_5 rfl ?_
  refine qi_istore_n (i := 1) (L2 := [some (.ref 280), some (.int 0), none, none, none, none, none, none]) dX12_cut_6 rfl (Nat.le_of_ble_eq_true rfl) rfl ?_
  refine K 2000 0 (T0Q t) _ _ _ _ _ _ _ (by omega) (Nat.zero_le _) rfl ⟨Nat.zero_le _, wI_s _ _ _ _, fun i hi => absurd hi (Nat.not_lt_zero _)⟩ rfl (qFr.rf.wI (by unfold SCu; omega))
