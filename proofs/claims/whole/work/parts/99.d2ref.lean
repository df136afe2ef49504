/-! the reference's reading: bounded, named, notes, known -/
def SYn : Nat → Nat → Prop := fun b j => SYt b j ∨ SYw b j
theorem SYt_n {b j : Nat} (z : SYt b j) : SYn b j := Or.inl z
theorem SYw_n {b j : Nat} (z : SYw b j) : SYn b j := Or.inr z
theorem c_X12_boundedF (g : qG) {M : qM} {S : Nat} {T : qTk} {e : qE} (h : qYF M S T e) (lo hi : Int32) : qI g 3 kX12_bounded [.ref 280, .int lo, .int hi] M (fun r M' => r = lo ∧ M' = M) := by
  have hn := h.n
  refine qI.of (j := 1) (pn_RX12) rfl ?_
  show qT g kX12_bounded (qR 3 0 0) (qZI g (fun r M' => r = lo ∧ M' = M)) 0 [some (.ref 280), some (.int lo), some (.int hi), none] [] 333 M (0, 0)
  refine qi_aload_n (i := 0) (x := 280) dX12_bounded_0 rfl rfl ?_
  refine qi_getI (x := nI e.1) flX12_218 dX12_bounded_1 rfl (by decide) h.2.2.1 ?_
  refine qi_if_gt (tgt := 15) dX12_bounded_4 (by decide) (fun _hc => ?_) (fun _h => absurd ((nI_ltI (a := 0) (b := e.1) (by omega) (by omega)).mpr (by omega)) _h)
  refine qi_aload_n (i := 0) (x := 280) dX12_bounded_15 rfl rfl ?_
  refine qi_iconst (v := 1) dX12_bounded_16 rfl ?_
  refine qi_callVV (K' := kX12_fail) (As := [.int 1]) mlX12_233 okX12_fail dX12_bounded_17 (c_X12_failF g h 1) rfl (by decide) rfl (by decide) rfl rfl (Nat.le_of_ble_eq_true rfl) ⟨(Nat.le_of_ble_eq_true rfl), (Nat.le_of_ble_eq_true rfl)⟩ ⟨Nat.le_refl _, Nat.le_refl _⟩ (fun M1 e1 => ?_)
  refine qi_iload_n (i := 1) (x := lo) dX12_bounded_20 rfl rfl ?_
  exact qi_retI rfl rfl dX12_bounded_21 (⟨rfl, e1⟩)
theorem c_X12_bounded (g : qG) {M : qM} {S : Nat} {T : qTk} {a : Nat} {s : Nat × Nat} {N : qNm} {nc : Nat} (hT : okTk T) (h : qYK M S T a s N nc) (hs : okSl s a) {lo hi : Nat} (hlo : lo < 2 ^ 31) (hhi : hi < 2 ^ 31) : qI g 3 kX12_bounded [.ref 280, .int (nI lo), .int (nI hi)] M (fun r M' => qPy S T (nuQ T lo hi a s) (fun v M' => qYK M' S T v.1 v.2.1 N nc ∧ r = nI v.2.2) M' ∧ qFr SYn M M') := by
  obtain ⟨hG, ⟨h2, h3, h4, h5⟩, ⟨h6, h7, h8⟩, hN⟩ := id h
  obtain ⟨hM, hE, -, -⟩ := id hG
  refine qI.of (j := 1) (pn_RX12) rfl ?_
  show qT g kX12_bounded (qR 3 0 0) (qZI g (fun r M' => qPy S T (nuQ T lo hi a s) (fun v M' => qYK M' S T v.1 v.2.1 N nc ∧ r = nI v.2.2) M' ∧ qFr SYn M M')) 0 [some (.ref 280), some (.int (nI lo)), some (.int (nI hi)), none] [] 333 M (0, 0)
  refine qi_aload_n (i := 0) (x := 280) dX12_bounded_0 rfl rfl ?_
  refine qi_getI (x := nI 0) flX12_218 dX12_bounded_1 rfl (by decide) h5 ?_
  refine qi_if_gt (tgt := 15) dX12_bounded_4 (by decide) (fun _h => absurd ((nI_ltI (a := 0) (b := 0) (by omega) (by omega)).mp _h) (by omega)) (fun _hc => ?_)
  refine qi_aload_n (i := 0) (x := 280) dX12_bounded_7 rfl rfl ?_
  refine qi_iconst (v := 2) dX12_bounded_8 rfl ?_
  refine qi_callPVI (v := (if kAt T a = 3 then 1 else 0)) (K' := kX12_is) (As := [.int 2]) mlX12_236 okX12_is dX12_bounded_9 (c_X12_is g hT h (k := 3) (by decide)) rfl (by decide) rfl (by decide) rfl rfl (Nat.le_of_ble_eq_true rfl) ⟨(Nat.le_of_ble_eq_true rfl), (Nat.le_of_ble_eq_true rfl)⟩ ⟨Nat.le_refl _, Nat.le_refl _⟩ ?_
  by_cases c : kAt T a = 3
  ·
    rw [if_pos c]
    have hv := (hE a h3 h2).2.2.1 c
    have hvb := vAt_le hT c
    refine qi_if_ne (tgt := 22) dX12_bounded_12 (by decide) (fun z => ?_) (fun z => False.elim ((by cases z)))
    refine qi_aload_n (i := 0) (x := 280) dX12_bounded_22 rfl rfl ?_
    refine qi_getR (x := 285) flX12_27 dX12_bounded_23 rfl (by decide) (hM 280 7 285 rfl) ?_
    refine qi_aload_n (i := 0) (x := 280) dX12_bounded_26 rfl rfl ?_
    refine qi_getI (x := nI a) flX12_221 dX12_bounded_27 rfl (by decide) h4 ?_
    refine qi_ialdN (x := nI (vAt T a)) (j := a) dX12_bounded_30 rfl (by decide) rfl (by omega) (by decide) hv ?_
    refine qi_istore_n (i := 3) (L2 := [some (.ref 280), some (.int (nI lo)), some (.int (nI hi)), some (.int (nI (vAt T a)))]) dX12_bounded_31 rfl (Nat.le_of_ble_eq_true rfl) rfl ?_
    refine qi_iload_n (i := 3) (x := nI (vAt T a)) dX12_bounded_32 rfl rfl ?_
    refine qi_iload_n (i := 1) (x := nI lo) dX12_bounded_33 rfl rfl ?_
    have ON : ∀ M1 s', qYK M1 S T a s' N nc → s' = nuS s lo hi (vAt T a) a → qFr SYn M M1 → qT g kX12_bounded (qR 3 0 0) (qZI g (fun r M' => qPy S T (nuQ T lo hi a s) (fun v M' => qYK M' S T v.1 v.2.1 N nc ∧ r = nI v.2.2) M' ∧ qFr SYn M M')) 51 [some (.ref 280), some (.int (nI lo)), some (.int (nI hi)), some (.int (nI (vAt T a)))] [] 333 M1 (0, 0) := by
      intro M1 s' k1 es f1
      refine qi_aload_n (i := 0) (x := 280) dX12_bounded_51 rfl rfl ?_
      refine qi_callVV (K' := kX12_goesOn) (As := []) mlX12_239 okX12_goesOn dX12_bounded_52 (c_X12_goesOn g k1 c (by decide)) rfl (by decide) rfl (by decide) rfl rfl (Nat.le_of_ble_eq_true rfl) ⟨(Nat.le_of_ble_eq_true rfl), (Nat.le_of_ble_eq_true rfl)⟩ ⟨Nat.le_refl _, Nat.le_refl _⟩ (fun M2 ⟨k2, f2⟩ => ?_)
      refine qi_iload_n (i := 3) (x := nI (vAt T a)) dX12_bounded_55 rfl rfl ?_
      have F2 := f1.tr (f2.mono (fun b j z => SYt_n z))
      cases hA : acQ T 3 a with
      | error e =>
        have hR : nuQ T lo hi a s = .error e := bQ_e hA
        exact qi_retI rfl rfl dX12_bounded_56 (⟨qPy_ie hR (qPy_e hA k2), F2⟩)
      | ok a1 =>
        have hR : nuQ T lo hi a s = .ok (a1, s', vAt T a) := by rw [es]; exact bQ_o hA
        exact qi_retI rfl rfl dX12_bounded_56 (⟨qPy_io hR ⟨qPy_o hA k2, rfl⟩, F2⟩)
    have WR : (vAt T a < lo ∨ hi < vAt T a) → qT g kX12_bounded (qR 3 0 0) (qZI g (fun r M' => qPy S T (nuQ T lo hi a s) (fun v M' => qYK M' S T v.1 v.2.1 N nc ∧ r = nI v.2.2) M' ∧ qFr SYn M M')) 42 [some (.ref 280), some (.int (nI lo)), some (.int (nI hi)), some (.int (nI (vAt T a)))] [] 333 M (0, 0) := by
      intro hw
      refine qi_aload_n (i := 0) (x := 280) dX12_bounded_42 rfl rfl ?_
      refine qi_iconst (v := 5) dX12_bounded_43 rfl ?_
      refine qi_aload_n (i := 0) (x := 280) dX12_bounded_44 rfl rfl ?_
      refine qi_getI (x := nI a) flX12_221 dX12_bounded_45 rfl (by decide) h4 ?_
      refine qi_callVV (K' := kX12_wrong) (As := [.int 5, .int (nI a)]) mlX12_301 okX12_wrong dX12_bounded_48 (c_X12_wrong g hT h (k := 5) (i := a) (by decide) (by decide) (Nat.le_refl _) (fun z => Or.inl (hs.2 z))) rfl (by decide) rfl (by decide) rfl rfl (Nat.le_of_ble_eq_true rfl) ⟨(Nat.le_of_ble_eq_true rfl), (Nat.le_of_ble_eq_true rfl)⟩ ⟨Nat.le_refl _, Nat.le_refl _⟩ (fun M1 ⟨k1, f1⟩ => ?_)
      exact ON M1 _ k1 (by unfold nuS; rw [if_pos hw]) (f1.mono (fun b j z => SYw_n z))
    by_cases d : vAt T a < lo
    ·
      refine qi_icmp_lt (tgt := 42) dX12_bounded_34 (by decide) (fun _hc => ?_) (fun _h => absurd ((nI_ltI (a := vAt T a) (b := lo) (by omega) (by omega)).mpr (by omega)) _h)
      exact WR (Or.inl d)
    refine qi_icmp_lt (tgt := 42) dX12_bounded_34 (by decide) (fun _h => absurd ((nI_ltI (a := vAt T a) (b := lo) (by omega) (by omega)).mp _h) (by omega)) (fun _hc => ?_)
    refine qi_iload_n (i := 3) (x := nI (vAt T a)) dX12_bounded_37 rfl rfl ?_
    refine qi_iload_n (i := 2) (x := nI hi) dX12_bounded_38 rfl rfl ?_
    by_cases d2 : vAt T a ≤ hi
    ·
      refine qi_icmp_le (tgt := 51) dX12_bounded_39 (by decide) (fun _hc => ?_) (fun _h => absurd ((nI_leI (a := vAt T a) (b := hi) (by omega) (by omega)).mpr (by omega)) _h)
      exact ON M s h (by unfold nuS; rw [if_neg (by omega)]) qFr.rf
    refine qi_icmp_le (tgt := 51) dX12_bounded_39 (by decide) (fun _h => absurd ((nI_leI (a := vAt T a) (b := hi) (by omega) (by omega)).mp _h) (by omega)) (fun _hc => ?_)
    exact WR (Or.inr (by omega))
  ·
    rw [if_neg c]
    refine qi_if_ne (tgt := 22) dX12_bounded_12 (by decide) (fun z => False.elim ((z rfl))) (fun z => ?_)
    refine qi_aload_n (i := 0) (x := 280) dX12_bounded_15 rfl rfl ?_
    refine qi_iconst (v := 1) dX12_bounded_16 rfl ?_
    refine qi_callVV (K' := kX12_fail) (As := [.int 1]) mlX12_233 okX12_fail dX12_bounded_17 (c_X12_fail g h (k := 1) (Or.inl rfl)) rfl (by decide) rfl (by decide) rfl rfl (Nat.le_of_ble_eq_true rfl) ⟨(Nat.le_of_ble_eq_true rfl), (Nat.le_of_ble_eq_true rfl)⟩ ⟨Nat.le_refl _, Nat.le_refl _⟩ (fun M1 ⟨e1, f1⟩ => ?_)
    refine qi_iload_n (i := 1) (x := nI lo) dX12_bounded_20 rfl rfl ?_
    have hA : acQ T 3 a = .error (1, a) := by unfold acQ; rw [if_pos c]
    have hR : nuQ T lo hi a s = .error (1, a) := bQ_e hA
    exact qi_retI rfl rfl dX12_bounded_21 (⟨qPy_ie hR e1, f1.mono (fun b j z => SYt_n z)⟩)
theorem c_X12_namedF (g : qG) {M : qM} {S : Nat} {T : qTk} {e : qE} (h : qYF M S T e) : qI g 3 kX12_named [.ref 280] M (fun r M' => M' = M) := by
  have hn := h.n
  obtain ⟨a, ha, h4⟩ := h.2.1
  have FIN : qT g kX12_named (qR 3 0 0) (qZI g (fun r M' => M' = M)) 55 [some (.ref 280), some (.int (nI a)), some (.int 0)] [] 333 M (0, 0) := by
    refine qi_iload_n (i := 1) (x := nI a) dX12_named_55 rfl rfl ?_
    exact qi_retI rfl rfl dX12_named_56 (rfl)
  refine qI.of (j := 2) (pn_RX12) rfl ?_
  show qT g kX12_named (qR 3 0 0) (qZI g (fun r M' => M' = M)) 0 [some (.ref 280), none, none] [] 333 M (0, 0)
  refine qi_aload_n (i := 0) (x := 280) dX12_named_0 rfl rfl ?_
  refine qi_getI (x := nI a) flX12_221 dX12_named_1 rfl (by decide) h4 ?_
  refine qi_istore_n (i := 1) (L2 := [some (.ref 280), some (.int (nI a)), none]) dX12_named_4 rfl (Nat.le_of_ble_eq_true rfl) rfl ?_
  refine qi_aload_n (i := 0) (x := 280) dX12_named_5 rfl rfl ?_
  refine qi_iconst (v := 1) dX12_named_6 rfl ?_
  refine qi_callVV (K' := kX12_must) (As := [.int 1]) mlX12_295 okX12_must dX12_named_7 (c_X12_mustF g h 1) rfl (by decide) rfl (by decide) rfl rfl (Nat.le_of_ble_eq_true rfl) ⟨(Nat.le_of_ble_eq_true rfl), (Nat.le_of_ble_eq_true rfl)⟩ ⟨Nat.le_refl _, Nat.le_refl _⟩ (fun M1 e1 => ?_)
  rw [e1]
  refine qi_iconst (v := 0) dX12_named_10 rfl ?_
  refine qi_istore_n (i := 2) (L2 := [some (.ref 280), some (.int (nI a)), some (.int 0)]) dX12_named_11 rfl (Nat.le_of_ble_eq_true rfl) rfl ?_
  refine qi_iload_n (i := 2) (x := 0) dX12_named_12 rfl rfl ?_
  refine qi_aload_n (i := 0) (x := 280) dX12_named_13 rfl rfl ?_
  refine qi_getI (x := M.1 280 20) flX12_254 dX12_named_14 rfl (by decide) rfl ?_
  refine qi_icmp_ge (tgt := 55) dX12_named_17 (by decide) (fun hc => ?_) (fun hc => ?_)
  · exact FIN
  · refine qi_aload_n (i := 0) (x := 280) dX12_named_20 rfl rfl ?_
    refine qi_getI (x := nI e.1) flX12_218 dX12_named_21 rfl (by decide) h.2.2.1 ?_
    refine qi_if_ne (tgt := 55) dX12_named_24 (by decide) (fun _hc => ?_) (fun _h => absurd ((nI_eq (a := e.1) (b := 0) (by omega) (by omega)).mp _h) (by omega))
    exact FIN
theorem c_X12_named (g : qG) {M : qM} {S : Nat} {T : qTk} {a : Nat} {s : Nat × Nat} {N : qNm} {nc : Nat} (hT : okTk T) (h : qYK M S T a s N nc) (hs : okSl s a) (hNm : s.1 = 0 → ∀ i, i < N.1 → dgQ 8 (N.2.1 i)) : qI g 3 kX12_named [.ref 280] M (fun r M' => qPy S T (acQ T 2 a) (fun a1 M' => qYK M' S T a1 (match fnQ N (vAt T a) with | some _ => slQ s 3 a | none => s) N nc ∧ r = nI a) M' ∧ qFr SYn M M') := by
  generalize hsp : (match fnQ N (vAt T a) with | some _ => slQ s 3 a | none => s) = sp
  generalize hRR : acQ T 2 a = res
  obtain ⟨hG, ⟨h2, h3, h4, h5⟩, ⟨h6, h7, h8⟩, hN⟩ := id h
  refine qI.of (j := 2) (pn_RX12) rfl ?_
  show qT g kX12_named (qR 3 0 0) (qZI g (fun r M' => qPy S T res (fun a1 M' => qYK M' S T a1 sp N nc ∧ r = nI a) M' ∧ qFr SYn M M')) 0 [some (.ref 280), none, none] [] 333 M (0, 0)
  refine qi_aload_n (i := 0) (x := 280) dX12_named_0 rfl rfl ?_
  refine qi_getI (x := nI a) flX12_221 dX12_named_1 rfl (by decide) h4 ?_
  refine qi_istore_n (i := 1) (L2 := [some (.ref 280), some (.int (nI a)), none]) dX12_named_4 rfl (Nat.le_of_ble_eq_true rfl) rfl ?_
  refine qi_aload_n (i := 0) (x := 280) dX12_named_5 rfl rfl ?_
  refine qi_iconst (v := 1) dX12_named_6 rfl ?_
  refine qi_callVV (K' := kX12_must) (As := [.int 1]) mlX12_295 okX12_must dX12_named_7 (c_X12_must g hT h (k := 2) (by decide) (by decide)) rfl (by decide) rfl (by decide) rfl rfl (Nat.le_of_ble_eq_true rfl) ⟨(Nat.le_of_ble_eq_true rfl), (Nat.le_of_ble_eq_true rfl)⟩ ⟨Nat.le_refl _, Nat.le_refl _⟩ (fun M1 ⟨k1, f1⟩ => ?_)
  have F1 : qFr SYn M M1 := f1.mono (fun b j z => SYt_n z)
  cases hA : acQ T 2 a with
  | error e =>
    have kF := qPy_e hA k1
    have hn := kF.n
    have FIN : qT g kX12_named (qR 3 0 0) (qZI g (fun r M' => qPy S T res (fun a1 M' => qYK M' S T a1 sp N nc ∧ r = nI a) M' ∧ qFr SYn M M')) 55 [some (.ref 280), some (.int (nI a)), some (.int 0)] [] 333 M1 (0, 0) := by
      refine qi_iload_n (i := 1) (x := nI a) dX12_named_55 rfl rfl ?_
      exact qi_retI rfl rfl dX12_named_56 (⟨qPy_ie (hRR.symm.trans hA) kF, F1⟩)
    refine qi_iconst (v := 0) dX12_named_10 rfl ?_
    refine qi_istore_n (i := 2) (L2 := [some (.ref 280), some (.int (nI a)), some (.int 0)]) dX12_named_11 rfl (Nat.le_of_ble_eq_true rfl) rfl ?_
    refine qi_iload_n (i := 2) (x := 0) dX12_named_12 rfl rfl ?_
    refine qi_aload_n (i := 0) (x := 280) dX12_named_13 rfl rfl ?_
    refine qi_getI (x := M1.1 280 20) flX12_254 dX12_named_14 rfl (by decide) rfl ?_
    refine qi_icmp_ge (tgt := 55) dX12_named_17 (by decide) (fun hc => ?_) (fun hc => ?_)
    · exact FIN
    · refine qi_aload_n (i := 0) (x := 280) dX12_named_20 rfl rfl ?_
      refine qi_getI (x := nI e.1) flX12_218 dX12_named_21 rfl (by decide) kF.2.2.1 ?_
      refine qi_if_ne (tgt := 55) dX12_named_24 (by decide) (fun _hc => ?_) (fun _h => absurd ((nI_eq (a := e.1) (b := 0) (by omega) (by omega)).mp _h) (by omega))
      exact FIN
  | ok a1 =>
    have kK := qPy_o hA k1
    obtain ⟨i1, i2, i3⟩ := ac_ok hA
    obtain ⟨hdg, hvv⟩ := vAt_nm hT i3
    have K : ∀ m k M2 s', k + m = nc → qYK M2 S T a1 s' N nc → (s.1 = 0 → (s' = slQ s 3 a ∧ ∃ j, j < k ∧ N.2.1 j = vAt T a) ∨ (s' = s ∧ ∀ j, j < k → ¬ N.2.1 j = vAt T a)) → (¬ s.1 = 0 → s' = s) → qFr SYn M M2 → qT g kX12_named (qR 3 0 0) (qZI g (fun r M' => qPy S T res (fun a1 M' => qYK M' S T a1 sp N nc ∧ r = nI a) M' ∧ qFr SYn M M')) 12 [some (.ref 280), some (.int (nI a)), some (.int (nI k))] [] 333 M2 (0, 0) := by
      intro m
      induction m with
      | zero =>
        intro k M2 s' e kk hz hnz ff
        have hnc := kk.2.2.2.1
        have hnc2 := kk.2.2.2.2.1
        refine qi_iload_n (i := 2) (x := nI k) dX12_named_12 rfl rfl ?_
        refine qi_aload_n (i := 0) (x := 280) dX12_named_13 rfl rfl ?_
        refine qi_getI (x := nI nc) flX12_254 dX12_named_14 rfl (by decide) hnc ?_
        refine qi_icmp_ge (tgt := 55) dX12_named_17 (by decide) (fun _hc => ?_) (fun _h => absurd ((nI_leI (a := nc) (b := k) (by omega) (by omega)).mpr (by omega)) _h)
        refine qi_iload_n (i := 1) (x := nI a) dX12_named_55 rfl rfl ?_
        have es : s' = sp := by
          rw [← hsp]
          by_cases c : s.1 = 0
          · have eN := (hN.2.2 c).1
            rcases hz c with ⟨q1, j, q2, q3⟩ | ⟨q1, q2⟩
            · cases hF : fnQ N (vAt T a) with
              | some i => exact q1
              | none => exact absurd q3 (fn_none hF j (by omega))
            · cases hF : fnQ N (vAt T a) with
              | some i => exact absurd (fn_some hF).2 (q2 i (by have := (fn_some hF).1; omega))
              | none => exact q1
          · rw [hnz c]
            have : slQ s 3 a = s := if_neg c
            cases fnQ N (vAt T a) with
            | some i => exact this.symm
            | none => rfl
        rw [es] at kk
        exact qi_retI rfl rfl dX12_named_56 (⟨qPy_io (hRR.symm.trans hA) ⟨kk, rfl⟩, ff⟩)
      | succ m ih =>
        intro k M2 s' e kk hz hnz ff
        obtain ⟨hG2, ⟨g2, g3, g4, g5⟩, ⟨g6, g7, g8⟩, hN2⟩ := id kk
        obtain ⟨hM2, hE2, -, -⟩ := id hG2
        have hnc := hN2.1
        have hnc2 := hN2.2.1
        have htn := (hE2 a (by omega) (by omega)).2.2.2 i3
        refine qi_iload_n (i := 2) (x := nI k) dX12_named_12 rfl rfl ?_
        refine qi_aload_n (i := 0) (x := 280) dX12_named_13 rfl rfl ?_
        refine qi_getI (x := nI nc) flX12_254 dX12_named_14 rfl (by decide) hnc ?_
        refine qi_icmp_ge (tgt := 55) dX12_named_17 (by decide) (fun _h => absurd ((nI_leI (a := nc) (b := k) (by omega) (by omega)).mp _h) (by omega)) (fun _hc => ?_)
        refine qi_aload_n (i := 0) (x := 280) dX12_named_20 rfl rfl ?_
        refine qi_getI (x := nI 0) flX12_218 dX12_named_21 rfl (by decide) g5 ?_
        refine qi_if_ne (tgt := 55) dX12_named_24 (by decide) (fun _h => absurd ((nI_eq (a := 0) (b := 0) (by omega) (by omega)).mpr (by omega)) _h) (fun _hc => ?_)
        refine qi_aload_n (i := 0) (x := 280) dX12_named_27 rfl rfl ?_
        refine qi_getR (x := 288) flX12_40 dX12_named_28 rfl (by decide) (hM2 280 21 288 rfl) ?_
        refine qi_iload_n (i := 2) (x := nI k) dX12_named_31 rfl rfl ?_
        refine qi_laldN (x := M2.2.1 288 k) (j := k) dX12_named_32 rfl (by decide) rfl (by omega) (by decide) rfl ?_
        refine qi_aload_n (i := 0) (x := 280) dX12_named_33 rfl rfl ?_
        refine qi_getR (x := 286) flX12_30 dX12_named_34 rfl (by decide) (hM2 280 8 286 rfl) ?_
        refine qi_iload_n (i := 1) (x := nI a) dX12_named_37 rfl rfl ?_
        refine qi_laldN (x := lN (cvQ 8 (vAt T a))) (j := a) dX12_named_38 rfl (by decide) rfl (by omega) (by decide) htn ?_
        obtain ⟨nm, hnm⟩ : ∃ x, x = M2.2.1 288 k := ⟨_, rfl⟩
        have hsi : ¬ s'.1 = 0 → s'.2 < a ∨ (s'.2 = a ∧ s'.1 ≤ 3) := by
          intro z
          by_cases c : s.1 = 0
          · rcases hz c with ⟨q1, -⟩ | ⟨q1, -⟩
            · have : s' = (3, a) := q1.trans (if_pos c)
              rw [this]
              exact Or.inr ⟨rfl, Nat.le_refl _⟩
            · rw [q1] at z
              exact absurd c z
          · rw [hnz c]
            exact Or.inl (hs.2 c)
        by_cases hz2 : M2.2.1 288 k = lN (cvQ 8 (vAt T a))
        ·
          refine qi_lcmp dX12_named_39 ?_
          refine qi_if_ne (tgt := 49) dX12_named_40 (by decide) (fun z => False.elim ((z ((lg_cmp_eq _ _).mpr hz2)))) (fun z => ?_)
          refine qi_aload_n (i := 0) (x := 280) dX12_named_43 rfl rfl ?_
          refine qi_iconst (v := 3) dX12_named_44 rfl ?_
          refine qi_iload_n (i := 1) (x := nI a) dX12_named_45 rfl rfl ?_
          refine qi_callVV (K' := kX12_wrong) (As := [.int 3, .int (nI a)]) mlX12_301 okX12_wrong dX12_named_46 (c_X12_wrong g hT kk (k := 3) (i := a) (by decide) (by decide) (by omega) hsi) rfl (by decide) rfl (by decide) rfl rfl (Nat.le_of_ble_eq_true rfl) ⟨(Nat.le_of_ble_eq_true rfl), (Nat.le_of_ble_eq_true rfl)⟩ ⟨Nat.le_refl _, Nat.le_refl _⟩ (fun M3 ⟨k3, f3⟩ => ?_)
          refine qi_iinc (i := 2) (x := nI k) (v := nI (k + 1)) (L2 := [some (.ref 280), some (.int (nI a)), some (.int (nI (k + 1)))]) dX12_named_49 rfl (nI_1 k) (Nat.le_of_ble_eq_true rfl) rfl ?_
          refine qi_goto (tgt := 12) dX12_named_52 (by decide) ?_
          refine ih (k + 1) M3 (slQ s' 3 a) (by omega) k3 (fun c => ?_) (fun c => ?_) (ff.tr (f3.mono (fun b j z => SYw_n z)))
          · left
            refine ⟨?_, k, by omega, ?_⟩
            · rcases hz c with ⟨q1, -⟩ | ⟨q1, -⟩
              · rw [q1]
                have : slQ s 3 a = (3, a) := if_pos c
                rw [this]
                rfl
              · rw [q1]
            · have q := ((hN.2.2 c).2 k (by omega)).1
              have qf : M2.2.1 288 k = M.2.1 288 k := ff.2.1 _ _ (by unfold SYn SYt SYw; omega)
              rw [qf, q] at hz2
              have b1 := cv_lt 8 _ (hNm c k (by have := (hN.2.2 c).1; omega))
              have b2 := cv_lt 8 _ hdg
              have h8 : (27 : Nat) ^ 8 < 2 ^ 63 := by decide
              exact cv_inj 8 _ _ (hNm c k (by have := (hN.2.2 c).1; omega)) hdg ((pk_lEQ (by omega) (by omega)).mp hz2)
          · rw [hnz c]
            exact if_neg c
        ·
          refine qi_lcmp dX12_named_39 ?_
          refine qi_if_ne (tgt := 49) dX12_named_40 (by decide) (fun z => ?_) (fun z => False.elim ((hz2 ((lg_cmp_eq _ _).mp z))))
          refine qi_iinc (i := 2) (x := nI k) (v := nI (k + 1)) (L2 := [some (.ref 280), some (.int (nI a)), some (.int (nI (k + 1)))]) dX12_named_49 rfl (nI_1 k) (Nat.le_of_ble_eq_true rfl) rfl ?_
          refine qi_goto (tgt := 12) dX12_named_52 (by decide) ?_
          refine ih (k + 1) M2 s' (by omega) kk (fun c => ?_) hnz ff
          rcases hz c with ⟨q1, j, q2, q3⟩ | ⟨q1, q2⟩
          · exact Or.inl ⟨q1, j, by omega, q3⟩
          · refine Or.inr ⟨q1, fun j hj => ?_⟩
            by_cases ej : j = k
            · intro z
              apply hz2
              have q := ((hN.2.2 c).2 k (by omega)).1
              have qf : M2.2.1 288 k = M.2.1 288 k := ff.2.1 _ _ (by unfold SYn SYt SYw; omega)
              rw [qf, q, ← ej, z]
            · exact q2 j (by omega)
    refine qi_iconst (v := 0) dX12_named_10 rfl ?_
    refine qi_istore_n (i := 2) (L2 := [some (.ref 280), some (.int (nI a)), some (.int 0)]) dX12_named_11 rfl (Nat.le_of_ble_eq_true rfl) rfl ?_
    refine K nc 0 M1 s (Nat.zero_add _) kK (fun c => Or.inr ⟨rfl, fun j hj => absurd hj (Nat.not_lt_zero _)⟩) (fun _ => rfl) F1
theorem c_X12_notes (g : qG) {M : qM} {S : Nat} {T : qTk} {a : Nat} {s : Nat × Nat} {N : qNm} {nc : Nat} (hT : okTk T) (h : qYK M S T a s N nc) {i k n : Nat} (hi : i < a) (hi2 : kAt T i = 2) (hnc : nc < 19) (hN19 : s.1 = 0 → N.1 < 19) : qV g 0 kX12_notes [.ref 280, .int (nI i), .int (nI (srQ k)), .int (nI n)] M (fun M' => qYK M' S T a s (psQ N (vAt T i) k n) (nc + 1) ∧ qFr (fun b j => (b = 280 ∧ j = 20) ∨ (288 ≤ b ∧ b ≤ 290)) M M') := by
  obtain ⟨hG, ⟨h2, h3, h4, h5⟩, ⟨h6, h7, h8⟩, hN⟩ := id h
  obtain ⟨hM, hE, -, -⟩ := id hG
  have hv := (hE i (by omega) (by omega)).2.2.2 hi2
  refine qV.of (j := 0) (pn_RX12) rfl ?_
  show qT g kX12_notes (qR 0 0 0) (qZV g (fun M' => qYK M' S T a s (psQ N (vAt T i) k n) (nc + 1) ∧ qFr (fun b j => (b = 280 ∧ j = 20) ∨ (288 ≤ b ∧ b ≤ 290)) M M')) 0 [some (.ref 280), some (.int (nI i)), some (.int (nI (srQ k))), some (.int (nI n))] [] 333 M (0, 0)
  refine qi_aload_n (i := 0) (x := 280) dX12_notes_0 rfl rfl ?_
  refine qi_getR (x := 288) flX12_40 dX12_notes_1 rfl (by decide) (hM 280 21 288 rfl) ?_
  refine qi_aload_n (i := 0) (x := 280) dX12_notes_4 rfl rfl ?_
  refine qi_getI (x := nI nc) flX12_254 dX12_notes_5 rfl (by decide) hN.1 ?_
  refine qi_aload_n (i := 0) (x := 280) dX12_notes_8 rfl rfl ?_
  refine qi_getR (x := 286) flX12_30 dX12_notes_9 rfl (by decide) (hM 280 8 286 rfl) ?_
  refine qi_iload_n (i := 1) (x := nI i) dX12_notes_12 rfl rfl ?_
  refine qi_laldN (x := lN (cvQ 8 (vAt T i))) (j := i) dX12_notes_13 rfl (by decide) rfl (by omega) (by decide) hv ?_
  refine qi_lastN (j := nc) dX12_notes_14 rfl (by decide) rfl (by omega) (by decide) ?_
  refine qi_aload_n (i := 0) (x := 280) dX12_notes_15 rfl rfl ?_
  refine qi_getR (x := 289) flX12_43 dX12_notes_16 rfl (by decide) (hM 280 22 289 rfl) ?_
  refine qi_aload_n (i := 0) (x := 280) dX12_notes_19 rfl rfl ?_
  refine qi_getI (x := nI nc) flX12_254 dX12_notes_20 rfl (by decide) ((congrFun (congrFun (wJ_1 _ _ _ _) _) _).trans hN.1) ?_
  refine qi_iload_n (i := 2) (x := nI (srQ k)) dX12_notes_23 rfl rfl ?_
  refine qi_iastN (j := nc) dX12_notes_24 rfl (by decide) rfl (by omega) (by decide) ?_
  refine qi_aload_n (i := 0) (x := 280) dX12_notes_25 rfl rfl ?_
  refine qi_getR (x := 290) flX12_46 dX12_notes_26 rfl (by decide) (hM 280 23 290 rfl) ?_
  refine qi_aload_n (i := 0) (x := 280) dX12_notes_29 rfl rfl ?_
  refine qi_getI (x := nI nc) flX12_254 dX12_notes_30 rfl (by decide) ((wI_a (by decide)).trans ((congrFun (congrFun (wJ_1 _ _ _ _) _) _).trans hN.1)) ?_
  refine qi_iload_n (i := 3) (x := nI n) dX12_notes_33 rfl rfl ?_
  refine qi_iastN (j := nc) dX12_notes_34 rfl (by decide) rfl (by omega) (by decide) ?_
  refine qi_aload_n (i := 0) (x := 280) dX12_notes_35 rfl rfl ?_
  refine qi_dup dX12_notes_36 ?_
  refine qi_getI (x := nI nc) flX12_254 dX12_notes_37 rfl (by decide) ((wI_a (by decide)).trans ((wI_a (by decide)).trans ((congrFun (congrFun (wJ_1 _ _ _ _) _) _).trans hN.1))) ?_
  refine qi_iconst (v := 1) dX12_notes_40 rfl ?_
  refine qi_iadd dX12_notes_41 ?_
  refine qe_top (y := nI (nc + 1)) (nI_1 nc) ?_
  refine qi_putI flX12_254 q_cls12 (ty12_20 _) dX12_notes_42 rfl (by decide) ?_
  generalize e2 : wI (wI (wI (wJ M 288 nc (lN (cvQ 8 (vAt T i)))) 289 nc (nI (srQ k))) 290 nc (nI n)) 280 20 (nI (nc + 1)) = M2
  have F : qFr (fun b j => (b = 280 ∧ j = 20) ∨ (288 ≤ b ∧ b ≤ 290)) M M2 := by
    rw [← e2]
    exact (((qFr.rf.wJ (by omega)).wI (by omega)).wI (by omega)).wI (by omega)
  refine qi_retV rfl dX12_notes_45 (⟨⟨hG.fr F (fun b j z => by omega), ⟨h2, h3, (F.1 _ _ (by omega)).trans h4, (F.1 _ _ (by omega)).trans h5⟩, ⟨(F.1 _ _ (by omega)).trans h6, h7, fun z => ⟨(F.1 _ _ (by omega)).trans (h8 z).1, (h8 z).2⟩⟩, ?_, by omega, fun z => ?_⟩, F⟩)
  · rw [← e2]
    exact wI_s _ _ _ _
  · obtain ⟨z1, z2⟩ := hN.2.2 z
    refine ⟨by show N.1 + 1 = nc + 1; omega, fun j hj => ?_⟩
    rw [← e2]
    simp only [psQ, updF, wI_1, wJ_1, wI_2, wJ_2]
    by_cases e : j = nc
    · subst e
      simp [z1]
    · have := z2 j (by omega)
      simp [e, z1]
      exact this
theorem c_X12_knownF (g : qG) {M : qM} {S : Nat} {T : qTk} {e : qE} (h : qYF M S T e) (k : Int32) : qI g 3 kX12_known [.ref 280, .int k] M (fun r M' => M' = M) := by
  have hn := h.n
  obtain ⟨a, ha, h4⟩ := h.2.1
  refine qI.of (j := 2) (pn_RX12) rfl ?_
  show qT g kX12_known (qR 3 0 0) (qZI g (fun r M' => M' = M)) 0 [some (.ref 280), some (.int k), none, none] [] 333 M (0, 0)
  refine qi_aload_n (i := 0) (x := 280) dX12_known_0 rfl rfl ?_
  refine qi_getI (x := nI a) flX12_221 dX12_known_1 rfl (by decide) h4 ?_
  refine qi_istore_n (i := 2) (L2 := [some (.ref 280), some (.int k), some (.int (nI a)), none]) dX12_known_4 rfl (Nat.le_of_ble_eq_true rfl) rfl ?_
  refine qi_aload_n (i := 0) (x := 280) dX12_known_5 rfl rfl ?_
  refine qi_iconst (v := 1) dX12_known_6 rfl ?_
  refine qi_callVV (K' := kX12_must) (As := [.int 1]) mlX12_295 okX12_must dX12_known_7 (c_X12_mustF g h 1) rfl (by decide) rfl (by decide) rfl rfl (Nat.le_of_ble_eq_true rfl) ⟨(Nat.le_of_ble_eq_true rfl), (Nat.le_of_ble_eq_true rfl)⟩ ⟨Nat.le_refl _, Nat.le_refl _⟩ (fun M1 e1 => ?_)
  rw [e1]
  refine qi_aload_n (i := 0) (x := 280) dX12_known_10 rfl rfl ?_
  refine qi_getI (x := nI e.1) flX12_218 dX12_known_11 rfl (by decide) h.2.2.1 ?_
  refine qi_if_le (tgt := 19) dX12_known_14 (by decide) (fun _h => absurd ((nI_leI (a := e.1) (b := 0) (by omega) (by omega)).mp _h) (by omega)) (fun _hc => ?_)
  refine qi_iconst (v := -1) dX12_known_17 rfl ?_
  exact qi_retI rfl rfl dX12_known_18 (rfl)
theorem srQ_lt (x : Nat) : srQ x < 3 := by
  unfold srQ
  split
  · omega
  · split <;> omega
theorem c_X12_known (g : qG) {M : qM} {S : Nat} {T : qTk} {a : Nat} {s : Nat × Nat} {N : qNm} {nc : Nat} (hT : okTk T) (h : qYK M S T a s N nc) (hs : okSl s a) {k : Nat} (hk : k = 128 ∨ k = 129) (hNm : s.1 = 0 → (∀ i, i < N.1 → dgQ 8 (N.2.1 i) ∧ (N.2.2.1 i = 128 ∨ N.2.2.1 i = 129 ∨ N.2.2.1 i = 133)) ∧ ∀ i j, i < j → j < N.1 → ¬ N.2.1 i = N.2.1 j) : qI g 3 kX12_known [.ref 280, .int (nI (srQ k))] M (fun r M' => qPy S T (onQ T k a s N) (fun v M' => qYK M' S T v.1 v.2.1 N nc ∧ (v.2.1.1 = 0 → r = nI v.2.2)) M' ∧ qFr SYn M M') := by
  generalize hRR : onQ T k a s N = res
  unfold onQ at hRR
  obtain ⟨hG, ⟨h2, h3, h4, h5⟩, ⟨h6, h7, h8⟩, hN⟩ := id h
  refine qI.of (j := 2) (pn_RX12) rfl ?_
  show qT g kX12_known (qR 3 0 0) (qZI g (fun r M' => qPy S T res (fun v M' => qYK M' S T v.1 v.2.1 N nc ∧ (v.2.1.1 = 0 → r = nI v.2.2)) M' ∧ qFr SYn M M')) 0 [some (.ref 280), some (.int (nI (srQ k))), none, none] [] 333 M (0, 0)
  refine qi_aload_n (i := 0) (x := 280) dX12_known_0 rfl rfl ?_
  refine qi_getI (x := nI a) flX12_221 dX12_known_1 rfl (by decide) h4 ?_
  refine qi_istore_n (i := 2) (L2 := [some (.ref 280), some (.int (nI (srQ k))), some (.int (nI a)), none]) dX12_known_4 rfl (Nat.le_of_ble_eq_true rfl) rfl ?_
  refine qi_aload_n (i := 0) (x := 280) dX12_known_5 rfl rfl ?_
  refine qi_iconst (v := 1) dX12_known_6 rfl ?_
  refine qi_callVV (K' := kX12_must) (As := [.int 1]) mlX12_295 okX12_must dX12_known_7 (c_X12_must g hT h (k := 2) (by decide) (by decide)) rfl (by decide) rfl (by decide) rfl rfl (Nat.le_of_ble_eq_true rfl) ⟨(Nat.le_of_ble_eq_true rfl), (Nat.le_of_ble_eq_true rfl)⟩ ⟨Nat.le_refl _, Nat.le_refl _⟩ (fun M1 ⟨k1, f1⟩ => ?_)
  have F1 : qFr SYn M M1 := f1.mono (fun b j z => SYt_n z)
  cases hA : acQ T 2 a with
  | error e =>
    rw [bQ_e hA] at hRR
    have kF := qPy_e hA k1
    have hn := kF.n
    refine qi_aload_n (i := 0) (x := 280) dX12_known_10 rfl rfl ?_
    refine qi_getI (x := nI e.1) flX12_218 dX12_known_11 rfl (by decide) kF.2.2.1 ?_
    refine qi_if_le (tgt := 19) dX12_known_14 (by decide) (fun _h => absurd ((nI_leI (a := e.1) (b := 0) (by omega) (by omega)).mp _h) (by omega)) (fun _hc => ?_)
    refine qi_iconst (v := -1) dX12_known_17 rfl ?_
    exact qi_retI rfl rfl dX12_known_18 (⟨qPy_ie hRR.symm kF, F1⟩)
  | ok a1 =>
    rw [bQ_o hA] at hRR
    have kK := qPy_o hA k1
    obtain ⟨i1, i2, i3⟩ := ac_ok hA
    obtain ⟨hdg, hvv⟩ := vAt_nm hT i3
    obtain ⟨hG2, ⟨g2, g3, g4, g5⟩, ⟨g6, g7, g8⟩, hN2⟩ := id kK
    obtain ⟨hM1, hE2, -, -⟩ := id hG2
    have hnc := hN2.1
    have hnc2 := hN2.2.1
    have htn := (hE2 a (by omega) (by omega)).2.2.2 i3
    have sl0 : ¬ s.1 = 0 → onV N (vAt T a) k a a1 s = (a1, s, (onV N (vAt T a) k a a1 s).2.2) := fun c => by
      have e : slQ s 4 a = s := if_neg c
      unfold onV
      rw [e]
      cases fnQ N (vAt T a) with
      | none => rfl
      | some i =>
        dsimp only
        split <;> rfl
    have K : ∀ m j, j + m = nc → (s.1 = 0 → ∀ i, i < j → ¬ (N.2.1 i = vAt T a ∧ N.2.2.1 i = k)) → qT g kX12_known (qR 3 0 0) (qZI g (fun r M' => qPy S T res (fun v M' => qYK M' S T v.1 v.2.1 N nc ∧ (v.2.1.1 = 0 → r = nI v.2.2)) M' ∧ qFr SYn M M')) 21 [some (.ref 280), some (.int (nI (srQ k))), some (.int (nI a)), some (.int (nI j))] [] 333 M1 (0, 0) := by
      intro m
      induction m with
      | zero =>
        intro j e hz
        obtain rfl : j = nc := by omega
        refine qi_iload_n (i := 3) (x := nI j) dX12_known_21 rfl rfl ?_
        refine qi_aload_n (i := 0) (x := 280) dX12_known_22 rfl rfl ?_
        refine qi_getI (x := nI j) flX12_254 dX12_known_23 rfl (by decide) hnc ?_
        refine qi_icmp_ge (tgt := 68) dX12_known_26 (by decide) (fun _hc => ?_) (fun _h => absurd ((nI_leI (a := j) (b := j) (by omega) (by omega)).mpr (by omega)) _h)
        refine qi_aload_n (i := 0) (x := 280) dX12_known_68 rfl rfl ?_
        refine qi_iconst (v := 4) dX12_known_69 rfl ?_
        refine qi_iload_n (i := 2) (x := nI a) dX12_known_70 rfl rfl ?_
        refine qi_callVV (K' := kX12_wrong) (As := [.int 4, .int (nI a)]) mlX12_301 okX12_wrong dX12_known_71 (c_X12_wrong g hT kK (k := 4) (i := a) (by decide) (by decide) (by omega) (fun z => Or.inl (hs.2 z))) rfl (by decide) rfl (by decide) rfl rfl (Nat.le_of_ble_eq_true rfl) ⟨(Nat.le_of_ble_eq_true rfl), (Nat.le_of_ble_eq_true rfl)⟩ ⟨Nat.le_refl _, Nat.le_refl _⟩ (fun M3 ⟨k3, f3⟩ => ?_)
        refine qi_iconst (v := -1) dX12_known_74 rfl ?_
        have ev : onV N (vAt T a) k a a1 s = (a1, slQ s 4 a, (onV N (vAt T a) k a a1 s).2.2) := by
          by_cases c : s.1 = 0
          · unfold onV
            cases hF : fnQ N (vAt T a) with
            | none => rfl
            | some i =>
              obtain ⟨q1, q2⟩ := fn_some hF
              dsimp only
              rw [if_neg (fun z => hz c i (by have := (hN2.2.2 c).1; omega) ⟨q2, z⟩)]
          · rw [sl0 c]
            have e : slQ s 4 a = s := if_neg c
            rw [e]
        rw [ev] at hRR
        exact qi_retI rfl rfl dX12_known_75 (⟨qPy_io hRR.symm ⟨k3, fun z => absurd z (slQ_0 (by decide))⟩, F1.tr (f3.mono (fun b j z => SYw_n z))⟩)
      | succ m ih =>
        intro j e hz
        have NX : (s.1 = 0 → ¬ (N.2.1 j = vAt T a ∧ N.2.2.1 j = k)) → qT g kX12_known (qR 3 0 0) (qZI g (fun r M' => qPy S T res (fun v M' => qYK M' S T v.1 v.2.1 N nc ∧ (v.2.1.1 = 0 → r = nI v.2.2)) M' ∧ qFr SYn M M')) 62 [some (.ref 280), some (.int (nI (srQ k))), some (.int (nI a)), some (.int (nI j))] [] 333 M1 (0, 0) := by
          intro hq
          refine qi_iinc (i := 3) (x := nI j) (v := nI (j + 1)) (L2 := [some (.ref 280), some (.int (nI (srQ k))), some (.int (nI a)), some (.int (nI (j + 1)))]) dX12_known_62 rfl (nI_1 j) (Nat.le_of_ble_eq_true rfl) rfl ?_
          refine qi_goto (tgt := 21) dX12_known_65 (by decide) ?_
          refine ih (j + 1) (by omega) (fun c i hi => ?_)
          by_cases ej : i = j
          · rw [ej]
            exact hq c
          · exact hz c i (by omega)
        have c1 := fun c => cv_lt 8 _ ((hNm c).1 j (by have := (hN2.2.2 c).1; omega)).1
        have c2 := cv_lt 8 _ hdg
        have h8 : (27 : Nat) ^ 8 < 2 ^ 63 := by decide
        refine qi_iload_n (i := 3) (x := nI j) dX12_known_21 rfl rfl ?_
        refine qi_aload_n (i := 0) (x := 280) dX12_known_22 rfl rfl ?_
        refine qi_getI (x := nI nc) flX12_254 dX12_known_23 rfl (by decide) hnc ?_
        refine qi_icmp_ge (tgt := 68) dX12_known_26 (by decide) (fun _h => absurd ((nI_leI (a := nc) (b := j) (by omega) (by omega)).mp _h) (by omega)) (fun _hc => ?_)
        refine qi_aload_n (i := 0) (x := 280) dX12_known_29 rfl rfl ?_
        refine qi_getR (x := 288) flX12_40 dX12_known_30 rfl (by decide) (hM1 280 21 288 rfl) ?_
        refine qi_iload_n (i := 3) (x := nI j) dX12_known_33 rfl rfl ?_
        refine qi_laldN (x := M1.2.1 288 j) (j := j) dX12_known_34 rfl (by decide) rfl (by omega) (by decide) rfl ?_
        refine qi_aload_n (i := 0) (x := 280) dX12_known_35 rfl rfl ?_
        refine qi_getR (x := 286) flX12_30 dX12_known_36 rfl (by decide) (hM1 280 8 286 rfl) ?_
        refine qi_iload_n (i := 2) (x := nI a) dX12_known_39 rfl rfl ?_
        refine qi_laldN (x := lN (cvQ 8 (vAt T a))) (j := a) dX12_known_40 rfl (by decide) rfl (by omega) (by decide) htn ?_
        by_cases hz2 : M1.2.1 288 j = lN (cvQ 8 (vAt T a))
        ·
          refine qi_lcmp dX12_known_41 ?_
          refine qi_if_ne (tgt := 62) dX12_known_42 (by decide) (fun z => False.elim ((z ((lg_cmp_eq _ _).mpr hz2)))) (fun z => ?_)
          refine qi_aload_n (i := 0) (x := 280) dX12_known_45 rfl rfl ?_
          refine qi_getR (x := 289) flX12_43 dX12_known_46 rfl (by decide) (hM1 280 22 289 rfl) ?_
          refine qi_iload_n (i := 3) (x := nI j) dX12_known_49 rfl rfl ?_
          refine qi_ialdN (x := M1.1 289 j) (j := j) dX12_known_50 rfl (by decide) rfl (by omega) (by decide) rfl ?_
          refine qi_iload_n (i := 1) (x := nI (srQ k)) dX12_known_51 rfl rfl ?_
          by_cases hz3 : M1.1 289 j = nI (srQ k)
          ·
            refine qi_icmp_ne (tgt := 62) dX12_known_52 (by decide) (fun z => False.elim ((z hz3))) (fun z => ?_)
            refine qi_aload_n (i := 0) (x := 280) dX12_known_55 rfl rfl ?_
            refine qi_getR (x := 290) flX12_46 dX12_known_56 rfl (by decide) (hM1 280 23 290 rfl) ?_
            refine qi_iload_n (i := 3) (x := nI j) dX12_known_59 rfl rfl ?_
            refine qi_ialdN (x := M1.1 290 j) (j := j) dX12_known_60 rfl (by decide) rfl (by omega) (by decide) rfl ?_
            have ev : onV N (vAt T a) k a a1 s = (a1, s, (onV N (vAt T a) k a a1 s).2.2) ∧ (s.1 = 0 → M1.1 290 j = nI (onV N (vAt T a) k a a1 s).2.2) := by
              by_cases c : s.1 = 0
              · obtain ⟨w1, w2⟩ := hN2.2.2 c
                obtain ⟨w3, w4, w5⟩ := w2 j (by omega)
                obtain ⟨n1, n2⟩ := hNm c
                have b1 := c1 c
                have en : N.2.1 j = vAt T a := by
                  rw [w3] at hz2
                  exact cv_inj 8 _ _ (n1 j (by omega)).1 hdg ((pk_lEQ (by omega) (by omega)).mp hz2)
                have ek : N.2.2.1 j = k := by
                  rw [w4] at hz3
                  have q := (n1 j (by omega)).2
                  have hlt := srQ_lt
                  have q2 := (nI_eq (Nat.lt_trans (hlt _) (by decide)) (Nat.lt_trans (hlt _) (by decide))).mp hz3
                  rcases hk with hk | hk <;> subst hk <;> rcases q with q | q | q <;> rw [q] at q2 ⊢ <;> exact absurd q2 (by decide)
                have eF : fnQ N (vAt T a) = some j := by
                  cases hF : fnQ N (vAt T a) with
                  | none => exact absurd en (fn_none hF j (by omega))
                  | some i =>
                    obtain ⟨q1, q2⟩ := fn_some hF
                    congr 1
                    by_cases hij : i < j
                    · exact absurd (q2.trans en.symm) (n2 i j hij (by omega))
                    · by_cases hji : j < i
                      · exact absurd (en.trans q2.symm) (n2 j i hji q1)
                      · omega
                have eo : onV N (vAt T a) k a a1 s = (a1, s, N.2.2.2 j) := by
                  unfold onV
                  rw [eF]
                  exact if_pos ek
                rw [eo]
                exact ⟨rfl, fun _ => w5⟩
              · exact ⟨sl0 c, fun z => absurd z c⟩
            rw [ev.1] at hRR
            exact qi_retI rfl rfl dX12_known_61 (⟨qPy_io hRR.symm ⟨kK, ev.2⟩, F1⟩)
          ·
            refine qi_icmp_ne (tgt := 62) dX12_known_52 (by decide) (fun z => ?_) (fun z => False.elim ((hz3 z)))
            exact NX (fun c z => hz3 (by rw [((hN2.2.2 c).2 j (by omega)).2.1, z.2]))
        ·
          refine qi_lcmp dX12_known_41 ?_
          refine qi_if_ne (tgt := 62) dX12_known_42 (by decide) (fun z => ?_) (fun z => False.elim ((hz2 ((lg_cmp_eq _ _).mp z))))
          exact NX (fun c z => hz2 (by rw [((hN2.2.2 c).2 j (by omega)).1, z.1]))
    refine qi_aload_n (i := 0) (x := 280) dX12_known_10 rfl rfl ?_
    refine qi_getI (x := nI 0) flX12_218 dX12_known_11 rfl (by decide) g5 ?_
    refine qi_if_le (tgt := 19) dX12_known_14 (by decide) (fun _hc => ?_) (fun _h => absurd ((nI_leI (a := 0) (b := 0) (by omega) (by omega)).mpr (by omega)) _h)
    refine qi_iconst (v := 0) dX12_known_19 rfl ?_
    refine qi_istore_n (i := 3) (L2 := [some (.ref 280), some (.int (nI (srQ k))), some (.int (nI a)), some (.int 0)]) dX12_known_20 rfl (Nat.le_of_ble_eq_true rfl) rfl ?_
    exact K nc 0 (Nat.zero_add _) (fun _ i hi => absurd hi (Nat.not_lt_zero _))
