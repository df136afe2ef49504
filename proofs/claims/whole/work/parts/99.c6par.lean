/-! the class's parse -/
theorem qRf.wR {M : qM} {a k : Nat} {x : Option Nat} (h : qRf M) (hn : q_ref a k = none) : qRf (wR M a k x) := by
  intro b j y hq
  show (if b = a ∧ j = k then x else M.2.2 b j) = some y
  by_cases c : b = a ∧ j = k
  · rw [c.1, c.2, hn] at hq
    cases hq
  · rw [if_neg c]
    exact h b j y hq
theorem qFr.wR {S : Nat → Nat → Prop} {M M' : qM} {a k : Nat} {x : Option Nat} (h : qFr S M M') : qFr S (wR M a k x) (wR M' a k x) := ⟨h.1, h.2.1, by
  show (fun b j => if b = a ∧ j = k then x else M'.2.2 b j) = (fun b j => if b = a ∧ j = k then x else M.2.2 b j)
  rw [h.2.2]⟩
theorem isP_2 {p : Nat} (hp : qIsP p) : p = 242 ∨ p = 261 := by
  have h0 : qsh p = (3, 0) := hp.1 0 (by decide)
  have h1 := hp.2.1
  have h2 := hp.2.2
  exact (show ∀ p, p < 280 → 242 ≤ p → qsh p = (3, 0) → p = 242 ∨ p = 261 by decide +kernel) p (by omega) h1 h0
theorem c_X10_clear (g : qG) {M : qM} {p : Nat} (hp : qIsP p) : qV g 0 kX10_clear [.ref (p + 14)] M (fun M' => M' = wI (wI M (p + 14) 5 0) (p + 14) 4 0) := by
  have hla := hp.2.1
  have hlb := hp.2.2
  refine qV.of (j := 0) (pn_RX10) rfl ?_
  show qT g kX10_clear (qR 0 0 0) (qZV g (fun M' => M' = wI (wI M (p + 14) 5 0) (p + 14) 4 0)) 0 [some (.ref (p + 14))] [] 333 M (0, 0)
  refine qi_aload_n (i := 0) (x := p + 14) dX10_clear_0 rfl rfl ?_
  refine qi_iconst (v := 0) dX10_clear_1 rfl ?_
  refine qi_putI flX10_28 q_cls10 (ty10_5 _) dX10_clear_2 (hp.1 14 (by decide)) (by have := hp.2.2; omega) ?_
  refine qi_aload_n (i := 0) (x := p + 14) dX10_clear_5 rfl rfl ?_
  refine qi_iconst (v := 0) dX10_clear_6 rfl ?_
  refine qi_putI flX10_24 q_cls10 (ty10_4 _) dX10_clear_7 (hp.1 14 (by decide)) (by have := hp.2.2; omega) ?_
  exact qi_retV rfl dX10_clear_10 (rfl)
theorem c_X3_clear (g : qG) {M : qM} {p : Nat} (hp : qIsP p) (hM : qRf M) : qV g 1 kX3_clear [.ref p] M (fun M' => qPX M' p P0Q 0 ∧ qFr (fun b _ => p ≤ b ∧ b ≤ p + 18) M M') := by
  have hla := hp.2.1
  have hlb := hp.2.2
  refine qV.of (j := 0) (pn_RX3) rfl ?_
  show qT g kX3_clear (qR 1 0 0) (qZV g (fun M' => qPX M' p P0Q 0 ∧ qFr (fun b _ => p ≤ b ∧ b ≤ p + 18) M M')) 0 [some (.ref p)] [] 333 M (0, 0)
  refine qi_aload_n (i := 0) (x := p) dX3_clear_0 rfl rfl ?_
  refine qi_iconst (v := 0) dX3_clear_1 rfl ?_
  refine qi_putI flX3_53 q_cls3 (ty3_11 _) dX3_clear_2 (hp.1 0 (by decide)) (by have := hp.2.2; omega) ?_
  refine qi_aload_n (i := 0) (x := p) dX3_clear_5 rfl rfl ?_
  refine qi_iconst (v := 0) dX3_clear_6 rfl ?_
  refine qi_putI flX3_57 q_cls3 (ty3_12 _) dX3_clear_7 (hp.1 0 (by decide)) (by have := hp.2.2; omega) ?_
  refine qi_aload_n (i := 0) (x := p) dX3_clear_10 rfl rfl ?_
  refine qi_iconst (v := 0) dX3_clear_11 rfl ?_
  refine qi_putI flX3_60 q_cls3 (ty3_13 _) dX3_clear_12 (hp.1 0 (by decide)) (by have := hp.2.2; omega) ?_
  refine qi_aload_n (i := 0) (x := p) dX3_clear_15 rfl rfl ?_
  refine qi_iconst (v := -1) dX3_clear_16 rfl ?_
  refine qi_putI flX3_63 q_cls3 (ty3_14 _) dX3_clear_17 (hp.1 0 (by decide)) (by have := hp.2.2; omega) ?_
  refine qi_aload_n (i := 0) (x := p) dX3_clear_20 rfl rfl ?_
  refine qi_sipush (v := 999) dX3_clear_21 rfl ?_
  refine qi_putI flX3_66 q_cls3 (ty3_15 _) dX3_clear_24 (hp.1 0 (by decide)) (by have := hp.2.2; omega) ?_
  refine qi_aload_n (i := 0) (x := p) dX3_clear_27 rfl rfl ?_
  refine qi_iconst (v := 0) dX3_clear_28 rfl ?_
  refine qi_putI flX3_69 q_cls3 (ty3_16 _) dX3_clear_29 (hp.1 0 (by decide)) (by have := hp.2.2; omega) ?_
  refine qi_aload_n (i := 0) (x := p) dX3_clear_32 rfl rfl ?_
  refine qi_getR (x := p + 10) flX3_42 dX3_clear_33 (hp.1 0 (by decide)) (by have := hp.2.2; omega) (hM p 9 (p + 10) (qref_3_9 (hp.1 0 (by decide)))) ?_
  refine qi_iconst (v := 0) dX3_clear_36 rfl ?_
  refine qi_putI flX3_72 q_cls1 (ty1_6 _) dX3_clear_37 (hp.1 10 (by decide)) (by have := hp.2.2; omega) ?_
  refine qi_aload_n (i := 0) (x := p) dX3_clear_40 rfl rfl ?_
  refine qi_getR (x := p + 14) flX3_49 dX3_clear_41 (hp.1 0 (by decide)) (by have := hp.2.2; omega) (hM p 10 (p + 14) (qref_3_10 (hp.1 0 (by decide)))) ?_
  refine qi_callVV (K' := kX10_clear) (As := []) mlX3_75 okX10_clear dX3_clear_44 (c_X10_clear g hp) (hp.1 14 (by decide)) (by decide) rfl (by have := hp.2.2; omega) rfl rfl (Nat.le_of_ble_eq_true rfl) ⟨(Nat.le_of_ble_eq_true rfl), (Nat.le_of_ble_eq_true rfl)⟩ ⟨Nat.le_refl _, Nat.le_refl _⟩ (fun M1 e1 => ?_)
  refine qi_retV rfl dX3_clear_47 (?_)
  rw [e1]
  refine ⟨⟨⟨⟨?_, ?_, ?_, ?_⟩, fun c i hc hi => ?_, ⟨?_, fun k hk => absurd hk (Nat.not_lt_zero _)⟩, ?_, ?_, fun k hk => absurd hk (Nat.not_lt_zero _), fun k i hk => absurd hk (Nat.not_lt_zero _)⟩, ?_, Or.inl ⟨rfl, ?_⟩⟩, ((((((((qFr.rf.wI (by omega)).wI (by omega)).wI (by omega)).wI (by omega)).wI (by omega)).wI (by omega)).wI (by omega)).wI (by omega)).wI (by omega)⟩
  · simp [wI_1]
    rfl
  · simp [wI_1]
    rfl
  · simp [wI_1]
    rfl
  · simp [wI_1]
    rfl
  · exfalso
    unfold lnP at hi
    have z0 : P0Q.1 0 = 0 := rfl
    have z1 : P0Q.1 1 = 0 := rfl
    have z2 : P0Q.1 2 = 0 := rfl
    rw [z0, z1, z2] at hi
    split at hi
    · omega
    · split at hi <;> omega
  · simp [wI_1]
    rfl
  · simp [wI_1]
    rfl
  · simp [wI_1]
    rfl
  · simp [wI_1]
    rfl
  · simp [wI_1]
def SPa (p : Nat) : Nat → Nat → Prop := fun b j => (b = 3 ∧ 4 ≤ j) ∨ (b = 4 ∧ (j = 4 ∨ j = 5)) ∨ b = 5 ∨ b = 6 ∨ b = 7 ∨ b = 9 ∨ b = 10 ∨ b = 11 ∨ (p ≤ b ∧ b ≤ p + 18)
def parP (T : qTk) (p : Nat) (res : Except qE qRs) (r : Int32) (M' : qM) : Prop := match res with
  | .error e => r = nI e.1 ∧ M'.1 3 11 = nI (pAt T e.2)
  | .ok w => r = nI w.2.1.1 ∧ M'.1 3 11 = (if w.2.1.1 = 0 then -1 else nI (pAt T w.2.1.2)) ∧ ∃ sz, sz ≤ 400 ∧ qPX M' p w.2.2.2 sz
theorem c_X4_parse (g : qG) {M : qM} (hM : qRf M) (hw : ∀ i, i < 17 → M.2.1 8 i = lN (wd5 i)) {t : qTp} (hp0 : qTpC M t) (ok : okTp t) {p : Nat} (hp : qIsP p) : qI g 18 kX4_parse [.ref 3, .ref 1, .ref p] M (fun r M' => parP (scQ t) p (reQ (scQ t) 401 v0Q) r M' ∧ qFr (SPa p) (wR M 3 5 (some p)) M') := by
  have hT := sc_ok ok
  have her := fun e => re_er (T := scQ t) hT 401 v0Q e v0_ok (by decide)
  generalize hR : reQ (scQ t) 401 v0Q = res at her ⊢
  have hla := hp.2.1
  have hlb := hp.2.2
  have ERR : ∀ e M1 x3 u, res = .error e → qRf M1 → qTkC M1 (scQ t) → qEr M1 e → qFr (SPa p) (wR M 3 5 (some p)) M1 → qT g kX4_parse (qR 18 0 0) (qZI g (fun r M' => parP (scQ t) p res r M' ∧ qFr (SPa p) (wR M 3 5 (some p)) M')) 196 [some (.ref 3), some (.ref 1), some (.ref p), x3, some (.int (nI u))] [] 333 M1 (0, 0) := by
    intro e M1 x3 u he hM1 hTk hE hf
    have eo := her e he
    refine qi_aload_n (i := 0) (x := 3) dX4_parse_196 rfl rfl ?_
    refine qi_getI (x := nI e.1) flX4_43 dX4_parse_197 rfl (by decide) hE.1 ?_
    have eo1 := eo.1
    have eo2 := eo.2.1
    refine qi_if_eq (tgt := 223) dX4_parse_200 (by decide) (fun _h => absurd ((nI_eq (a := e.1) (b := 0) (by omega) (by omega)).mp _h) (by omega)) (fun _hc => ?_)
    refine qi_aload_n (i := 0) (x := 3) dX4_parse_203 rfl rfl ?_
    refine qi_aload_n (i := 0) (x := 3) dX4_parse_204 rfl rfl ?_
    refine qi_getR (x := 4) flX4_12 dX4_parse_205 rfl (by decide) (hM1 3 0 4 rfl) ?_
    refine qi_aload_n (i := 0) (x := 3) dX4_parse_208 rfl rfl ?_
    refine qi_getI (x := nI e.2) flX4_37 dX4_parse_209 rfl (by decide) hE.2 ?_
    refine qi_callPVI (v := nI (pAt (scQ t) e.2)) (K' := kX8_placeAt) (As := [.int (nI e.2)]) mlX4_94 okX8_placeAt dX4_parse_212 (c_X8_placeAt g hM1 hTk (by omega)) rfl (by decide) rfl (by decide) rfl rfl (Nat.le_of_ble_eq_true rfl) ⟨(Nat.le_of_ble_eq_true rfl), (Nat.le_of_ble_eq_true rfl)⟩ ⟨Nat.le_refl _, Nat.le_refl _⟩ ?_
    refine qi_putI flX4_52 q_cls4 (ty4_11 _) dX4_parse_215 rfl (by decide) ?_
    refine qi_aload_n (i := 0) (x := 3) dX4_parse_218 rfl rfl ?_
    refine qi_getI (x := nI e.1) flX4_43 dX4_parse_219 rfl (by decide) ((wI_k (by decide)).trans hE.1) ?_
    refine qi_retI rfl rfl dX4_parse_222 (⟨?_, hf.wI (by unfold SPa; omega)⟩)
    rw [he]
    exact ⟨rfl, wI_s _ _ _ _⟩
  have FIN : ∀ w M1 x3 u, res = .ok w → w.1 ≤ 400 → rdX p (scQ t) w M1 → qFr (SPa p) (wR M 3 5 (some p)) M1 → qT g kX4_parse (qR 18 0 0) (qZI g (fun r M' => parP (scQ t) p res r M' ∧ qFr (SPa p) (wR M 3 5 (some p)) M')) 196 [some (.ref 3), some (.ref 1), some (.ref p), x3, some (.int (nI u))] [] 333 M1 (0, 0) := by
    intro w M1 x3 u he h4 hX hf
    obtain ⟨hK, sz, hsz, hP⟩ := hX
    obtain ⟨⟨hM1, hpl, hTk⟩, ⟨ha, hat, hfa⟩, ⟨hs1, hs2, hs3⟩, -⟩ := id hK
    refine qi_aload_n (i := 0) (x := 3) dX4_parse_196 rfl rfl ?_
    refine qi_getI (x := 0) flX4_43 dX4_parse_197 rfl (by decide) hfa ?_
    refine qi_if_eq (tgt := 223) dX4_parse_200 (by decide) (fun _hc => ?_) (fun _h => absurd ((nI_eq (a := 0) (b := 0) (by omega) (by omega)).mpr (by omega)) _h)
    refine qi_aload_n (i := 0) (x := 3) dX4_parse_223 rfl rfl ?_
    refine qi_aload_n (i := 0) (x := 3) dX4_parse_224 rfl rfl ?_
    refine qi_getI (x := M1.1 3 10) flX4_49 dX4_parse_225 rfl (by decide) rfl ?_
    refine qi_putI flX4_52 q_cls4 (ty4_11 _) dX4_parse_228 rfl (by decide) ?_
    refine qi_aload_n (i := 0) (x := 3) dX4_parse_231 rfl rfl ?_
    refine qi_getI (x := nI w.2.1.1) flX4_46 dX4_parse_232 rfl (by decide) ((wI_k (by decide)).trans hs1) ?_
    refine qi_retI rfl rfl dX4_parse_235 (⟨?_, hf.wI (by unfold SPa; omega)⟩)
    rw [he]
    exact ⟨rfl, (wI_s _ _ _ _).trans hs3, sz, by omega, hP.low hla (qFr.rf.wI (by unfold SLo; omega))⟩
  have K : ∀ m u v M1, u + m = 401 → okRs v → 401 ≤ v.1 + m → rdX p (scQ t) v M1 → qFr (SPa p) (wR M 3 5 (some p)) M1 → reQ (scQ t) m v = res → qT g kX4_parse (qR 18 0 0) (qZI g (fun r M' => parP (scQ t) p res r M' ∧ qFr (SPa p) (wR M 3 5 (some p)) M')) 50 [some (.ref 3), some (.ref 1), some (.ref p), some (.int 1), some (.int (nI u))] [] 333 M1 (0, 0) := by
    intro m
    induction m with
    | zero =>
      intro u v M1 e1 hv e2
      have := hv.1.1
      omega
    | succ m ih =>
      intro u v M1 e1 hv e2 hX hf hR1
      rw [reQ_s] at hR1
      obtain ⟨hK, sz, hsz, hP⟩ := id hX
      obtain ⟨⟨hM1, hpl, hTk⟩, ⟨ha, hat, hfa⟩, -⟩ := id hK
      have hka := kAt_le hT v.1
      refine qi_iload_n (i := 3) (x := 1) dX4_parse_50 rfl rfl ?_
      refine qi_if_eq (tgt := 196) dX4_parse_51 (by decide) (fun _h => absurd ((nI_eq (a := 1) (b := 0) (by omega) (by omega)).mp _h) (by omega)) (fun _hc => ?_)
      refine qi_iload (i := 4) (x := nI u) dX4_parse_54 rfl ?_
      refine qi_sipush (v := 400) dX4_parse_56 rfl ?_
      refine qi_icmp_gt (tgt := 196) dX4_parse_59 (by decide) (fun _h => absurd ((nI_ltI (a := 400) (b := u) (by omega) (by omega)).mp _h) (by omega)) (fun _hc => ?_)
      refine qi_aload_n (i := 0) (x := 3) dX4_parse_62 rfl rfl ?_
      refine qi_getR (x := 4) flX4_12 dX4_parse_63 rfl (by decide) (hM1 3 0 4 rfl) ?_
      refine qi_aload_n (i := 0) (x := 3) dX4_parse_66 rfl rfl ?_
      refine qi_getI (x := nI v.1) flX4_37 dX4_parse_67 rfl (by decide) hat ?_
      refine qi_callPVI (v := nI (kAt (scQ t) v.1)) (K' := kX8_kindAt) (As := [.int (nI v.1)]) mlX4_64 okX8_kindAt dX4_parse_70 (c_X8_kindAt g hM1 hTk (by omega)) rfl (by decide) rfl (by decide) rfl rfl (Nat.le_of_ble_eq_true rfl) ⟨(Nat.le_of_ble_eq_true rfl), (Nat.le_of_ble_eq_true rfl)⟩ ⟨Nat.le_refl _, Nat.le_refl _⟩ ?_
      by_cases h0 : kAt (scQ t) v.1 = 0
      ·
        rw [if_pos h0] at hR1
        refine qi_if_eq (tgt := 196) dX4_parse_73 (by decide) (fun _hc => ?_) (fun _h => absurd ((nI_eq (a := kAt (scQ t) v.1) (b := 0) (by omega) (by omega)).mpr (by omega)) _h)
        exact FIN v M1 _ u hR1.symm ha hX hf
      rw [if_neg h0] at hR1
      have NXT : ∀ r2 M2, qPo (tyQ (scQ t) v) (rdX p (scQ t)) r2 M2 → qFr (SXp p) M1 M2 → qT g kX4_parse (qR 18 0 0) (qZI g (fun r M' => parP (scQ t) p res r M' ∧ qFr (SPa p) (wR M 3 5 (some p)) M')) 190 [some (.ref 3), some (.ref 1), some (.ref p), some (.int r2), some (.int (nI u))] [] 333 M2 (0, 0) := by
        intro r2 M2 h2 hf2
        have F2 : qFr (SPa p) (wR M 3 5 (some p)) M2 := hf.tr (hf2.mono (fun b j z => by unfold SXp at z; unfold SPa; omega))
        cases hA : tyQ (scQ t) v with
        | error e =>
          rw [bQ_e hA] at hR1
          obtain ⟨q1, q2⟩ := qPo_e hA h2
          refine qi_iinc (i := 4) (x := nI u) (v := nI (u + 1)) (L2 := [some (.ref 3), some (.ref 1), some (.ref p), some (.int r2), some (.int (nI (u + 1)))]) dX4_parse_190 rfl (nI_1 u) (Nat.le_of_ble_eq_true rfl) rfl ?_
          refine qi_goto (tgt := 50) dX4_parse_193 (by decide) ?_
          refine qi_iload_n (i := 3) (x := r2) dX4_parse_50 rfl rfl ?_
          refine qi_if_eq (tgt := 196) dX4_parse_51 (by decide) (fun z => ?_) (fun z => False.elim ((z q1)))
          exact ERR e M2 _ (u + 1) hR1.symm (hM1.fr hf2) (hTk.fr hf2 (fun b j z => by unfold SXp at z; omega)) q2 F2
        | ok w =>
          rw [bQ_o hA] at hR1
          obtain ⟨q1, q2⟩ := qPo_o hA h2
          obtain ⟨g1, g2⟩ := ty_ok hT hv hA
          have I := ih (u + 1) w M2 (by omega) g1 (by omega) q2 F2 hR1
          rw [q1]
          refine qi_iinc (i := 4) (x := nI u) (v := nI (u + 1)) (L2 := [some (.ref 3), some (.ref 1), some (.ref p), some (.int 1), some (.int (nI (u + 1)))]) dX4_parse_190 rfl (nI_1 u) (Nat.le_of_ble_eq_true rfl) rfl ?_
          refine qi_goto (tgt := 50) dX4_parse_193 (by decide) ?_
          exact I
      refine qi_if_eq (tgt := 196) dX4_parse_73 (by decide) (fun _h => absurd ((nI_eq (a := kAt (scQ t) v.1) (b := 0) (by omega) (by omega)).mp _h) (by omega)) (fun _hc => ?_)
      refine qi_aload_n (i := 0) (x := 3) dX4_parse_76 rfl rfl ?_
      refine qi_getR (x := 4) flX4_12 dX4_parse_77 rfl (by decide) (hM1 3 0 4 rfl) ?_
      refine qi_aload_n (i := 0) (x := 3) dX4_parse_80 rfl rfl ?_
      refine qi_getI (x := nI v.1) flX4_37 dX4_parse_81 rfl (by decide) hat ?_
      refine qi_callPVI (v := nI (kAt (scQ t) v.1)) (K' := kX8_kindAt) (As := [.int (nI v.1)]) mlX4_64 okX8_kindAt dX4_parse_84 (c_X8_kindAt g hM1 hTk (by omega)) rfl (by decide) rfl (by decide) rfl rfl (Nat.le_of_ble_eq_true rfl) ⟨(Nat.le_of_ble_eq_true rfl), (Nat.le_of_ble_eq_true rfl)⟩ ⟨Nat.le_refl _, Nat.le_refl _⟩ ?_
      unfold tyQ at NXT
      by_cases h128 : kAt (scQ t) v.1 = 128
      ·
        rw [if_pos h128] at NXT
        refine qe_top (y := nI 128) (by rw [h128]) ?_
        refine qi_tabIn (tgt := 128) dX4_parse_87 (by decide) (by decide) rfl (by decide) ?_
        refine qi_aload_n (i := 0) (x := 3) dX4_parse_128 rfl rfl ?_
        refine qi_callVI (K' := kX4_readWater) (As := []) mlX4_68 okX4_readWater dX4_parse_129 (c_X4_readWater g hT hp hK hsz hP hv.2.1) rfl (by decide) rfl (by decide) rfl rfl (Nat.le_of_ble_eq_true rfl) ⟨(Nat.le_of_ble_eq_true rfl), (Nat.le_of_ble_eq_true rfl)⟩ ⟨Nat.le_refl _, Nat.le_refl _⟩ (fun r2 M2 ⟨h2, hf2⟩ => ?_)
        refine qi_istore_n (i := 3) (L2 := [some (.ref 3), some (.ref 1), some (.ref p), some (.int r2), some (.int (nI u))]) dX4_parse_132 rfl (Nat.le_of_ble_eq_true rfl) rfl ?_
        refine qi_goto (tgt := 190) dX4_parse_133 (by decide) ?_
        exact NXT r2 M2 h2 hf2
      rw [if_neg h128] at NXT
      by_cases h129 : kAt (scQ t) v.1 = 129
      ·
        rw [if_pos h129] at NXT
        refine qe_top (y := nI 129) (by rw [h129]) ?_
        refine qi_tabIn (tgt := 136) dX4_parse_87 (by decide) (by decide) rfl (by decide) ?_
        refine qi_aload_n (i := 0) (x := 3) dX4_parse_136 rfl rfl ?_
        refine qi_callVI (K' := kX4_readHeir) (As := []) mlX4_72 okX4_readHeir dX4_parse_137 (c_X4_readHeir g hT hp hK hsz hP hv.2.1) rfl (by decide) rfl (by decide) rfl rfl (Nat.le_of_ble_eq_true rfl) ⟨(Nat.le_of_ble_eq_true rfl), (Nat.le_of_ble_eq_true rfl)⟩ ⟨Nat.le_refl _, Nat.le_refl _⟩ (fun r2 M2 ⟨h2, hf2⟩ => ?_)
        refine qi_istore_n (i := 3) (L2 := [some (.ref 3), some (.ref 1), some (.ref p), some (.int r2), some (.int (nI u))]) dX4_parse_140 rfl (Nat.le_of_ble_eq_true rfl) rfl ?_
        refine qi_goto (tgt := 190) dX4_parse_141 (by decide) ?_
        exact NXT r2 M2 h2 hf2
      rw [if_neg h129] at NXT
      by_cases h130 : kAt (scQ t) v.1 = 130
      ·
        rw [if_pos h130] at NXT
        refine qe_top (y := nI 130) (by rw [h130]) ?_
        refine qi_tabIn (tgt := 144) dX4_parse_87 (by decide) (by decide) rfl (by decide) ?_
        refine qi_aload_n (i := 0) (x := 3) dX4_parse_144 rfl rfl ?_
        refine qi_callVI (K' := kX4_readSends) (As := []) mlX4_75 okX4_readSends dX4_parse_145 (c_X4_readSends g hT hp hK hsz hP hv.2.1) rfl (by decide) rfl (by decide) rfl rfl (Nat.le_of_ble_eq_true rfl) ⟨(Nat.le_of_ble_eq_true rfl), (Nat.le_of_ble_eq_true rfl)⟩ ⟨Nat.le_refl _, Nat.le_refl _⟩ (fun r2 M2 ⟨h2, hf2⟩ => ?_)
        refine qi_istore_n (i := 3) (L2 := [some (.ref 3), some (.ref 1), some (.ref p), some (.int r2), some (.int (nI u))]) dX4_parse_148 rfl (Nat.le_of_ble_eq_true rfl) rfl ?_
        refine qi_goto (tgt := 190) dX4_parse_149 (by decide) ?_
        exact NXT r2 M2 h2 hf2
      rw [if_neg h130] at NXT
      by_cases h131 : kAt (scQ t) v.1 = 131
      ·
        rw [if_pos h131] at NXT
        refine qe_top (y := nI 131) (by rw [h131]) ?_
        refine qi_tabIn (tgt := 152) dX4_parse_87 (by decide) (by decide) rfl (by decide) ?_
        refine qi_aload_n (i := 0) (x := 3) dX4_parse_152 rfl rfl ?_
        refine qi_callVI (K' := kX4_readDry) (As := []) mlX4_78 okX4_readDry dX4_parse_153 (c_X4_readDry g hT hp hK hsz hP hv.2.1) rfl (by decide) rfl (by decide) rfl rfl (Nat.le_of_ble_eq_true rfl) ⟨(Nat.le_of_ble_eq_true rfl), (Nat.le_of_ble_eq_true rfl)⟩ ⟨Nat.le_refl _, Nat.le_refl _⟩ (fun r2 M2 ⟨h2, hf2⟩ => ?_)
        refine qi_istore_n (i := 3) (L2 := [some (.ref 3), some (.ref 1), some (.ref p), some (.int r2), some (.int (nI u))]) dX4_parse_156 rfl (Nat.le_of_ble_eq_true rfl) rfl ?_
        refine qi_goto (tgt := 190) dX4_parse_157 (by decide) ?_
        exact NXT r2 M2 h2 hf2
      rw [if_neg h131] at NXT
      by_cases h132 : kAt (scQ t) v.1 = 132
      ·
        rw [if_pos h132] at NXT
        refine qe_top (y := nI 132) (by rw [h132]) ?_
        refine qi_tabIn (tgt := 160) dX4_parse_87 (by decide) (by decide) rfl (by decide) ?_
        refine qi_aload_n (i := 0) (x := 3) dX4_parse_160 rfl rfl ?_
        refine qi_callVI (K' := kX4_readBasin) (As := []) mlX4_81 okX4_readBasin dX4_parse_161 (c_X4_readBasin g hT hp hK hsz hP hv.2.1) rfl (by decide) rfl (by decide) rfl rfl (Nat.le_of_ble_eq_true rfl) ⟨(Nat.le_of_ble_eq_true rfl), (Nat.le_of_ble_eq_true rfl)⟩ ⟨Nat.le_refl _, Nat.le_refl _⟩ (fun r2 M2 ⟨h2, hf2⟩ => ?_)
        refine qi_istore_n (i := 3) (L2 := [some (.ref 3), some (.ref 1), some (.ref p), some (.int r2), some (.int (nI u))]) dX4_parse_164 rfl (Nat.le_of_ble_eq_true rfl) rfl ?_
        refine qi_goto (tgt := 190) dX4_parse_165 (by decide) ?_
        exact NXT r2 M2 h2 hf2
      rw [if_neg h132] at NXT
      by_cases h133 : kAt (scQ t) v.1 = 133
      ·
        rw [if_pos h133] at NXT
        refine qe_top (y := nI 133) (by rw [h133]) ?_
        refine qi_tabIn (tgt := 168) dX4_parse_87 (by decide) (by decide) rfl (by decide) ?_
        refine qi_aload_n (i := 0) (x := 3) dX4_parse_168 rfl rfl ?_
        refine qi_callVI (K' := kX4_readClaim) (As := []) mlX4_84 okX4_readClaim dX4_parse_169 (c_X4_readClaim g hT hp hK hsz hP hv.2.1) rfl (by decide) rfl (by decide) rfl rfl (Nat.le_of_ble_eq_true rfl) ⟨(Nat.le_of_ble_eq_true rfl), (Nat.le_of_ble_eq_true rfl)⟩ ⟨Nat.le_refl _, Nat.le_refl _⟩ (fun r2 M2 ⟨h2, hf2⟩ => ?_)
        refine qi_istore_n (i := 3) (L2 := [some (.ref 3), some (.ref 1), some (.ref p), some (.int r2), some (.int (nI u))]) dX4_parse_172 rfl (Nat.le_of_ble_eq_true rfl) rfl ?_
        refine qi_goto (tgt := 190) dX4_parse_173 (by decide) ?_
        exact NXT r2 M2 h2 hf2
      rw [if_neg h133] at NXT
      by_cases h134 : kAt (scQ t) v.1 = 134
      ·
        rw [if_pos h134] at NXT
        refine qe_top (y := nI 134) (by rw [h134]) ?_
        refine qi_tabIn (tgt := 176) dX4_parse_87 (by decide) (by decide) rfl (by decide) ?_
        refine qi_aload_n (i := 0) (x := 3) dX4_parse_176 rfl rfl ?_
        refine qi_callVI (K' := kX4_readSeed) (As := []) mlX4_87 okX4_readSeed dX4_parse_177 (c_X4_readSeed g hT hp hK hsz hP hv.2.1) rfl (by decide) rfl (by decide) rfl rfl (Nat.le_of_ble_eq_true rfl) ⟨(Nat.le_of_ble_eq_true rfl), (Nat.le_of_ble_eq_true rfl)⟩ ⟨Nat.le_refl _, Nat.le_refl _⟩ (fun r2 M2 ⟨h2, hf2⟩ => ?_)
        refine qi_istore_n (i := 3) (L2 := [some (.ref 3), some (.ref 1), some (.ref p), some (.int r2), some (.int (nI u))]) dX4_parse_180 rfl (Nat.le_of_ble_eq_true rfl) rfl ?_
        refine qi_goto (tgt := 190) dX4_parse_181 (by decide) ?_
        exact NXT r2 M2 h2 hf2
      rw [if_neg h134] at NXT
      refine qi_tabOut (tgt := 184) dX4_parse_87 ((by rw [nI_toInt (by omega)]; omega)) (by decide) ?_
      refine qi_aload_n (i := 0) (x := 3) dX4_parse_184 rfl rfl ?_
      refine qi_iconst (v := 1) dX4_parse_185 rfl ?_
      refine qi_callVI (K' := kX4_refuse) (As := [.int 1]) mlX4_90 okX4_refuse dX4_parse_186 (c_X4_refuse g 1) rfl (by decide) rfl (by decide) rfl rfl (Nat.le_of_ble_eq_true rfl) ⟨(Nat.le_of_ble_eq_true rfl), (Nat.le_of_ble_eq_true rfl)⟩ ⟨Nat.le_refl _, Nat.le_refl _⟩ (fun r2 M2 ⟨q1, q2⟩ => ?_)
      refine qi_istore_n (i := 3) (L2 := [some (.ref 3), some (.ref 1), some (.ref p), some (.int r2), some (.int (nI u))]) dX4_parse_189 rfl (Nat.le_of_ble_eq_true rfl) rfl ?_
      refine NXT r2 M2 ⟨q1, by rw [q2]; exact ⟨wI_s _ _ _ _, (wI_k (by decide)).trans hat⟩⟩ (by rw [q2]; exact qFr.rf.wI (by unfold SXp; omega))
  refine qI.of (j := 2) (pn_RX4) rfl ?_
  show qT g kX4_parse (qR 18 0 0) (qZI g (fun r M' => parP (scQ t) p res r M' ∧ qFr (SPa p) (wR M 3 5 (some p)) M')) 0 [some (.ref 3), some (.ref 1), some (.ref p), none, none] [] 333 M (0, 0)
  refine qi_aload_n (i := 0) (x := 3) dX4_parse_0 rfl rfl ?_
  refine qi_getR (x := 4) flX4_12 dX4_parse_1 rfl (by decide) (hM 3 0 4 rfl) ?_
  refine qi_aload_n (i := 1) (x := 1) dX4_parse_4 rfl rfl ?_
  refine qi_callVV (K' := kX8_scan) (As := [.ref 1]) mlX4_55 okX8_scan dX4_parse_5 (c_X8_scan g hM hw hp0 ok) rfl (by decide) rfl (by decide) rfl rfl (Nat.le_of_ble_eq_true rfl) ⟨(Nat.le_of_ble_eq_true rfl), (Nat.le_of_ble_eq_true rfl)⟩ ⟨Nat.le_refl _, Nat.le_refl _⟩ (fun M1 ⟨hT1, hf1⟩ => ?_)
  have hM1 := hM.fr hf1
  have hMw : qRf (wR M1 3 5 (some p)) := hM1.wR (by decide +kernel)
  have hpl : (wR M1 3 5 (some p)).2.2 3 5 = some p := show (if 3 = 3 ∧ 5 = 5 then some p else M1.2.2 3 5) = some p from if_pos ⟨rfl, rfl⟩
  have F1 : qFr (SPa p) (wR M 3 5 (some p)) (wR M1 3 5 (some p)) := hf1.wR.mono (fun b j z => by unfold STk at z; unfold SPa; omega)
  refine qi_aload_n (i := 0) (x := 3) dX4_parse_8 rfl rfl ?_
  refine qi_aload_n (i := 2) (x := p) dX4_parse_9 rfl rfl ?_
  refine qi_putR (x := p) flX4_33 q_cls4 ty4_5 (fun h => by cases h) dX4_parse_10 rfl (by decide) ?_
  refine qi_aload_n (i := 0) (x := 3) dX4_parse_13 rfl rfl ?_
  refine qi_getR (x := p) flX4_33 dX4_parse_14 rfl (by decide) hpl ?_
  refine qi_callVV (K' := kX3_clear) (As := []) mlX4_59 okX3_clear dX4_parse_17 (c_X3_clear g hp hMw) (hp.1 0 (by decide)) (by decide) rfl (by have := hp.2.2; omega) rfl rfl (Nat.le_of_ble_eq_true rfl) ⟨(Nat.le_of_ble_eq_true rfl), (Nat.le_of_ble_eq_true rfl)⟩ ⟨Nat.le_refl _, Nat.le_refl _⟩ (fun M2 ⟨hP2, hf2⟩ => ?_)
  have hM2 := hMw.fr hf2
  have F2 : qFr (SPa p) (wR M 3 5 (some p)) M2 := F1.tr (hf2.mono (fun b j z => by unfold SPa; omega))
  have hTw : qTkC (wR M1 3 5 (some p)) (scQ t) := hT1
  have hT2 := hTw.fr hf2 (fun b j z => by omega)
  refine qi_aload_n (i := 0) (x := 3) dX4_parse_20 rfl rfl ?_
  refine qi_iconst (v := 0) dX4_parse_21 rfl ?_
  refine qi_putI flX4_29 q_cls4 (ty4_4 _) dX4_parse_22 rfl (by decide) ?_
  refine qi_aload_n (i := 0) (x := 3) dX4_parse_25 rfl rfl ?_
  refine qi_iconst (v := 0) dX4_parse_26 rfl ?_
  refine qi_putI flX4_37 q_cls4 (ty4_6 _) dX4_parse_27 rfl (by decide) ?_
  refine qi_aload_n (i := 0) (x := 3) dX4_parse_30 rfl rfl ?_
  refine qi_iconst (v := 0) dX4_parse_31 rfl ?_
  refine qi_putI flX4_43 q_cls4 (ty4_8 _) dX4_parse_32 rfl (by decide) ?_
  refine qi_aload_n (i := 0) (x := 3) dX4_parse_35 rfl rfl ?_
  refine qi_iconst (v := 0) dX4_parse_36 rfl ?_
  refine qi_putI flX4_46 q_cls4 (ty4_9 _) dX4_parse_37 rfl (by decide) ?_
  refine qi_aload_n (i := 0) (x := 3) dX4_parse_40 rfl rfl ?_
  refine qi_iconst (v := -1) dX4_parse_41 rfl ?_
  refine qi_putI flX4_49 q_cls4 (ty4_10 _) dX4_parse_42 rfl (by decide) ?_
  generalize e3 : wI (wI (wI (wI (wI M2 3 4 0) 3 6 0) 3 8 0) 3 9 0) 3 10 (-1) = M3
  have F32 : qFr (fun b j => b = 3 ∧ 4 ≤ j) M2 M3 := by
    rw [← e3]
    exact ((((qFr.rf.wI (by omega)).wI (by omega)).wI (by omega)).wI (by omega)).wI (by omega)
  have K3 : qXK M3 p (scQ t) 0 (0, 0) v0Q.2.2.1 := by
    refine ⟨⟨hM2.fr F32, by rw [F32.2.2, hf2.2.2]; exact hpl, hT2.fr F32 (fun b j z => by omega)⟩, ⟨by decide, ?_, ?_⟩, ⟨?_, by decide, ?_⟩, by decide, ?_, fun i hi => absurd hi (Nat.not_lt_zero _)⟩ <;> rw [← e3] <;> simp [wI_1] <;> rfl
  refine qi_iconst (v := 1) dX4_parse_45 rfl ?_
  refine qi_istore_n (i := 3) (L2 := [some (.ref 3), some (.ref 1), some (.ref p), some (.int 1), none]) dX4_parse_46 rfl (Nat.le_of_ble_eq_true rfl) rfl ?_
  refine qi_iconst (v := 0) dX4_parse_47 rfl ?_
  refine qi_istore (i := 4) (L2 := [some (.ref 3), some (.ref 1), some (.ref p), some (.int 1), some (.int 0)]) dX4_parse_48 (Nat.le_of_ble_eq_true rfl) rfl ?_
  refine K 401 0 v0Q M3 rfl v0_ok (by decide) ⟨K3, 0, Nat.le_refl _, hP2.low hla (F32.mono (fun b j z => by unfold SLo; omega))⟩ (F2.tr (F32.mono (fun b j z => by unfold SPa; omega))) hR
