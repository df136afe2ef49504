/-! the reader's names, numbers and slips -/
def slQ (s : Nat × Nat) (n i : Nat) : Nat × Nat := if s.1 = 0 then (n, i) else s
def nuS (s : Nat × Nat) (lo hi v a : Nat) : Nat × Nat := if v < lo ∨ hi < v then slQ s 5 a else s
def nuQ (T : qTk) (lo hi a : Nat) (s : Nat × Nat) : Except qE (Nat × (Nat × Nat) × Nat) := bQ (acQ T 3 a) (fun a1 => .ok (a1, nuS s lo hi (vAt T a) a, vAt T a))
def fnQ (N : qNm) (v : Nat) : Option Nat := findN (fun i => decide (N.2.1 i = v)) N.1 0
def psQ (N : qNm) (v k n : Nat) : qNm := (N.1 + 1, updF N.2.1 N.1 v, updF N.2.2.1 N.1 k, updF N.2.2.2 N.1 n)
def nnV (N : qNm) (v k n a a1 : Nat) (s : Nat × Nat) : Nat × (Nat × Nat) × qNm := match fnQ N v with
  | some _ => (a1, slQ s 3 a, N)
  | none => (a1, s, if N.1 < 19 then psQ N v k n else N)
def nnQ (T : qTk) (k n a : Nat) (s : Nat × Nat) (N : qNm) : Except qE (Nat × (Nat × Nat) × qNm) := bQ (acQ T 2 a) (fun a1 => .ok (nnV N (vAt T a) k n a a1 s))
def onV (N : qNm) (v k a a1 : Nat) (s : Nat × Nat) : Nat × (Nat × Nat) × Nat := match fnQ N v with
  | some i => if N.2.2.1 i = k then (a1, s, N.2.2.2 i) else (a1, slQ s 4 a, 0)
  | none => (a1, slQ s 4 a, 0)
def onQ (T : qTk) (k a : Nat) (s : Nat × Nat) (N : qNm) : Except qE (Nat × (Nat × Nat) × Nat) := bQ (acQ T 2 a) (fun a1 => .ok (onV N (vAt T a) k a a1 s))
theorem findN_congr {P Q : Nat → Bool} : ∀ m i, (∀ j, i ≤ j → j < i + m → P j = Q j) → findN P m i = findN Q m i
  | 0, _, _ => rfl
  | m + 1, i, h => by
    rw [findN_s, findN_s, h i (Nat.le_refl _) (by omega), findN_congr m (i + 1) (fun j h1 h2 => h j (by omega) (by omega))]
theorem dg_lt : ∀ n v, dgQ n v → v < 32 ^ n
  | 0, v, h => by
    have e : v = 0 := h
    rw [e]
    exact Nat.one_pos
  | n + 1, v, h => by
    have := dg_lt n (v / 32) h.2
    rw [Nat.pow_succ]
    omega
theorem vAt_nm {T : qTk} (h : okTk T) {a : Nat} (hk : kAt T a = 2) : dgQ 8 (vAt T a) ∧ vAt T a < 2 ^ 63 := by
  have e : dgQ 8 (vAt T a) := by
    unfold vAt
    unfold kAt at hk
    by_cases c : a < T.1
    · rw [if_pos c] at hk ⊢
      exact (h.2.2.1 a c).2.1 hk
    · rw [if_neg c] at hk
      exact absurd hk (by decide)
  exact ⟨e, Nat.lt_trans (dg_lt 8 _ e) (by decide)⟩
def SXs : Nat → Nat → Prop := fun b j => b = 3 ∧ (j = 9 ∨ j = 10)
def SXn : Nat → Nat → Prop := fun b j => b = 3 ∧ 6 ≤ j ∧ j ≤ 10
theorem SXa_n {b j : Nat} (z : SXa b j) : SXn b j := by unfold SXa at z; unfold SXn; omega
theorem SXs_n {b j : Nat} (z : SXs b j) : SXn b j := by unfold SXs at z; unfold SXn; omega
theorem qXK.lat {M : qM} {p : Nat} {T : qTk} {a : Nat} {s : Nat × Nat} {N : qNm} (h : qXK M p T a s N) (x : Int32) : qXK (wI M 3 7 x) p T a s N := h.fr (S := fun b j => b = 3 ∧ j = 7) (qFr.rf.wI ⟨rfl, rfl⟩) (fun b j z => Or.inr z)
theorem c_X4_noteSlip (g : qG) {M : qM} {p : Nat} {T : qTk} {a : Nat} {s : Nat × Nat} {N : qNm} (hT : okTk T) (hK : qXK M p T (a + 1) s N) {n : Nat} (hn : 0 < n) (hn5 : n ≤ 5) : qV g 1 kX4_noteSlip [.ref 3, .int (nI n)] M (fun M' => qXK M' p T (a + 1) (slQ s n a) N ∧ qFr SXs M M') := by
  obtain ⟨⟨hM, hpl, hTk⟩, ⟨ha, hat, hfa⟩, ⟨hs1, hs2, hs3⟩, hN⟩ := id hK
  refine qV.of (j := 0) (pn_RX4) rfl ?_
  show qT g kX4_noteSlip (qR 1 0 0) (qZV g (fun M' => qXK M' p T (a + 1) (slQ s n a) N ∧ qFr SXs M M')) 0 [some (.ref 3), some (.int (nI n))] [] 333 M (0, 0)
  refine qi_aload_n (i := 0) (x := 3) dX4_noteSlip_0 rfl rfl ?_
  refine qi_getI (x := nI s.1) flX4_46 dX4_noteSlip_1 rfl (by decide) hs1 ?_
  by_cases h0 : s.1 = 0
  ·
    rw [show slQ s n a = (n, a) from if_pos h0]
    refine qi_if_ne (tgt := 29) dX4_noteSlip_4 (by decide) (fun _h => absurd ((nI_eq (a := s.1) (b := 0) (by omega) (by omega)).mpr (by omega)) _h) (fun _hc => ?_)
    refine qi_aload_n (i := 0) (x := 3) dX4_noteSlip_7 rfl rfl ?_
    refine qi_iload_n (i := 1) (x := nI n) dX4_noteSlip_8 rfl rfl ?_
    refine qi_putI flX4_46 q_cls4 (ty4_9 _) dX4_noteSlip_9 rfl (by decide) ?_
    refine qi_aload_n (i := 0) (x := 3) dX4_noteSlip_12 rfl rfl ?_
    refine qi_aload_n (i := 0) (x := 3) dX4_noteSlip_13 rfl rfl ?_
    refine qi_getR (x := 4) flX4_12 dX4_noteSlip_14 rfl (by decide) (hM 3 0 4 rfl) ?_
    refine qi_aload_n (i := 0) (x := 3) dX4_noteSlip_17 rfl rfl ?_
    refine qi_getI (x := nI (a + 1)) flX4_37 dX4_noteSlip_18 rfl (by decide) ((wI_k (by decide)).trans hat) ?_
    refine qi_iconst (v := 1) dX4_noteSlip_21 rfl ?_
    refine qi_isub dX4_noteSlip_22 ?_
    refine qe_top (y := nI a) (nI_pred a) ?_
    have hM1 : qRf (wI M 3 9 (nI n)) := hM
    have hT1 : qTkC (wI M 3 9 (nI n)) T := hTk.fr (S := fun b _ => b = 3) (qFr.rf.wI rfl) (fun b j z => by omega)
    refine qi_callPVI (v := nI (pAt T a)) (K' := kX8_placeAt) (As := [.int (nI a)]) mlX4_94 okX8_placeAt dX4_noteSlip_23 (c_X8_placeAt g hM1 hT1 (by omega)) rfl (by decide) rfl (by decide) rfl rfl (Nat.le_of_ble_eq_true rfl) ⟨(Nat.le_of_ble_eq_true rfl), (Nat.le_of_ble_eq_true rfl)⟩ ⟨Nat.le_refl _, Nat.le_refl _⟩ ?_
    refine qi_putI flX4_49 q_cls4 (ty4_10 _) dX4_noteSlip_26 rfl (by decide) ?_
    refine qi_retV rfl dX4_noteSlip_29 (⟨⟨⟨hM, hpl, hTk.fr (S := fun b _ => b = 3) ((qFr.rf.wI (S := fun b _ => b = 3) rfl).wI (S := fun b _ => b = 3) rfl) (fun b j z => by omega)⟩, ⟨ha, ?_, ?_⟩, ⟨?_, hn5, ?_⟩, hN.1, ?_, fun i hi => ?_⟩, (qFr.rf.wI ⟨rfl, Or.inl rfl⟩).wI ⟨rfl, Or.inr rfl⟩⟩)
    · rw [wI_k (by decide), wI_k (by decide), hat]
    · rw [wI_k (by decide), wI_k (by decide), hfa]
    · rw [wI_k (by decide), wI_s]
    · rw [wI_s]
      show _ = if n = 0 then -1 else _
      rw [if_neg (by omega)]
    · rw [wI_k (by decide), wI_k (by decide), hN.2.1]
    · rw [wI_a (b := 10) (by decide), wI_a (b := 10) (by decide), wI_a (b := 11) (by decide), wI_a (b := 11) (by decide)]
      exact hN.2.2 i hi
  ·
    rw [show slQ s n a = s from if_neg h0]
    refine qi_if_ne (tgt := 29) dX4_noteSlip_4 (by decide) (fun _hc => ?_) (fun _h => absurd ((nI_eq (a := s.1) (b := 0) (by omega) (by omega)).mp _h) (by omega))
    exact qi_retV rfl dX4_noteSlip_29 (⟨hK, qFr.rf⟩)
theorem c_X4_indexOf (g : qG) {M : qM} {p : Nat} {T : qTk} {a : Nat} {s : Nat × Nat} {N : qNm} (hK : qXK M p T a s N) (x : Int64) : qI g 0 kX4_indexOf [.ref 3, .long x] M (fun r M' => r = o2i (findN (fun i => decide (lN (N.2.1 i) = x)) N.1 0) ∧ M' = M) := by
  obtain ⟨⟨hM, hpl, hTk⟩, -, -, hN, hN2, hN3⟩ := id hK
  have K : ∀ m i, i + m = N.1 → findN (fun i => decide (lN (N.2.1 i) = x)) m i = findN (fun i => decide (lN (N.2.1 i) = x)) N.1 0 → qT g kX4_indexOf (qR 0 0 0) (qZI g (fun r M' => r = (o2i (findN (fun i => decide (lN (N.2.1 i) = x)) N.1 0)) ∧ M' = M)) 2 [some (.ref 3), some (.long x), none, some (.int (nI i))] [] 333 M (0, 0) := by
    intro m
    induction m with
    | zero =>
      intro i e h
      obtain rfl : i = N.1 := by omega
      refine qi_iload_n (i := 3) (x := nI N.1) dX4_indexOf_2 rfl rfl ?_
      refine qi_aload_n (i := 0) (x := 3) dX4_indexOf_3 rfl rfl ?_
      refine qi_getI (x := nI N.1) flX4_29 dX4_indexOf_4 rfl (by decide) hN2 ?_
      refine qi_icmp_ge (tgt := 29) dX4_indexOf_7 (by decide) (fun _hc => ?_) (fun _h => absurd ((nI_leI (a := N.1) (b := N.1) (by omega) (by omega)).mpr (by omega)) _h)
      refine qi_iconst (v := -1) dX4_indexOf_29 rfl ?_
      exact qi_retI rfl rfl dX4_indexOf_30 (⟨by rw [← h]; rfl, rfl⟩)
    | succ m ih =>
      intro i e h
      rw [findN_s] at h
      refine qi_iload_n (i := 3) (x := nI i) dX4_indexOf_2 rfl rfl ?_
      refine qi_aload_n (i := 0) (x := 3) dX4_indexOf_3 rfl rfl ?_
      refine qi_getI (x := nI N.1) flX4_29 dX4_indexOf_4 rfl (by decide) hN2 ?_
      refine qi_icmp_ge (tgt := 29) dX4_indexOf_7 (by decide) (fun _h => absurd ((nI_leI (a := N.1) (b := i) (by omega) (by omega)).mp _h) (by omega)) (fun _hc => ?_)
      refine qi_aload_n (i := 0) (x := 3) dX4_indexOf_10 rfl rfl ?_
      refine qi_getR (x := 9) flX4_18 dX4_indexOf_11 rfl (by decide) (hM 3 1 9 rfl) ?_
      refine qi_iload_n (i := 3) (x := nI i) dX4_indexOf_14 rfl rfl ?_
      refine qi_laldN (x := lN (N.2.1 i)) (j := i) dX4_indexOf_15 rfl (by decide) rfl (by omega) (by decide) (hN3 i (by omega)).1.1 ?_
      refine qi_lload_n (i := 1) (x := x) dX4_indexOf_16 rfl rfl ?_
      refine qi_lcmp dX4_indexOf_17 ?_
      by_cases hz : lN (N.2.1 i) = x
      ·
        rw [if_pos (decide_eq_true hz)] at h
        refine qi_if_ne (tgt := 23) dX4_indexOf_18 (by decide) (fun z => False.elim ((z ((lg_cmp_eq _ _).mpr hz)))) (fun z => ?_)
        refine qi_iload_n (i := 3) (x := nI i) dX4_indexOf_21 rfl rfl ?_
        exact qi_retI rfl rfl dX4_indexOf_22 (⟨by rw [← h]; rfl, rfl⟩)
      ·
        rw [if_neg (by rw [decide_eq_true_iff]; exact hz)] at h
        refine qi_if_ne (tgt := 23) dX4_indexOf_18 (by decide) (fun z => ?_) (fun z => False.elim ((hz ((lg_cmp_eq _ _).mp z))))
        refine qi_iinc (i := 3) (x := nI i) (v := nI (i + 1)) (L2 := [some (.ref 3), some (.long x), none, some (.int (nI (i + 1)))]) dX4_indexOf_23 rfl (nI_1 i) (Nat.le_of_ble_eq_true rfl) rfl ?_
        refine qi_goto (tgt := 2) dX4_indexOf_26 (by decide) ?_
        exact ih (i + 1) (by omega) h
  refine qI.of (j := 1) (pn_RX4) rfl ?_
  show qT g kX4_indexOf (qR 0 0 0) (qZI g (fun r M' => r = (o2i (findN (fun i => decide (lN (N.2.1 i) = x)) N.1 0)) ∧ M' = M)) 0 [some (.ref 3), some (.long x), none, none] [] 333 M (0, 0)
  refine qi_iconst (v := 0) dX4_indexOf_0 rfl ?_
  refine qi_istore_n (i := 3) (L2 := [some (.ref 3), some (.long x), none, some (.int 0)]) dX4_indexOf_1 rfl (Nat.le_of_ble_eq_true rfl) rfl ?_
  exact K N.1 0 (Nat.zero_add _) rfl
theorem fn_l {M : qM} {p : Nat} {T : qTk} {a : Nat} {s : Nat × Nat} {N : qNm} (hK : qXK M p T a s N) {v : Nat} (hv : v < 2 ^ 63) : findN (fun i => decide (lN (N.2.1 i) = lN v)) N.1 0 = fnQ N v := findN_congr _ _ (fun j _ hj => decide_eq_decide.mpr (pk_lEQ (hK.2.2.2.2.2 j (by omega)).1.2 hv))
abbrev okN (p : Nat) (T : qTk) (N : qNm) (v : Nat × (Nat × Nat) × Nat) (M' : qM) : Prop := qXK M' p T v.1 v.2.1 N ∧ M'.1 3 7 = nI v.2.2
theorem c_X4_number (g : qG) {M : qM} {p : Nat} {T : qTk} {a : Nat} {s : Nat × Nat} {N : qNm} (hT : okTk T) (hK : qXK M p T a s N) {lo hi : Nat} (hlo : lo < 2 ^ 31) (hhi : hi < 2 ^ 31) : qI g 2 kX4_number [.ref 3, .int (nI lo), .int (nI hi)] M (fun r M' => qPo (nuQ T lo hi a s) (okN p T N) r M' ∧ qFr SXn M M') := by
  generalize hR : nuQ T lo hi a s = res
  unfold nuQ at hR
  obtain ⟨⟨hM, hpl, hTk⟩, ⟨ha, hat, hfa⟩, -⟩ := id hK
  refine qI.of (j := 2) (pn_RX4) rfl ?_
  show qT g kX4_number (qR 2 0 0) (qZI g (fun r M' => qPo res (okN p T N) r M' ∧ qFr SXn M M')) 0 [some (.ref 3), some (.int (nI lo)), some (.int (nI hi)), none, none] [] 333 M (0, 0)
  refine qi_aload_n (i := 0) (x := 3) dX4_number_0 rfl rfl ?_
  refine qi_getR (x := 4) flX4_12 dX4_number_1 rfl (by decide) (hM 3 0 4 rfl) ?_
  refine qi_aload_n (i := 0) (x := 3) dX4_number_4 rfl rfl ?_
  refine qi_getI (x := nI a) flX4_37 dX4_number_5 rfl (by decide) hat ?_
  refine qi_callPVJ (v := lN (vAt T a)) (K' := kX8_valueAt) (As := [.int (nI a)]) mlX4_207 okX8_valueAt dX4_number_8 (c_X8_valueAt g hM hTk (by omega)) rfl (by decide) rfl (by decide) rfl rfl (Nat.le_of_ble_eq_true rfl) ⟨(Nat.le_of_ble_eq_true rfl), (Nat.le_of_ble_eq_true rfl)⟩ ⟨Nat.le_refl _, Nat.le_refl _⟩ ?_
  refine qi_lstore_n (i := 3) (L2 := [some (.ref 3), some (.int (nI lo)), some (.int (nI hi)), some (.long (lN (vAt T a))), none]) dX4_number_11 rfl (Nat.le_of_ble_eq_true rfl) rfl ?_
  refine qi_aload_n (i := 0) (x := 3) dX4_number_12 rfl rfl ?_
  refine qi_iconst (v := 3) dX4_number_13 rfl ?_
  refine qi_callVI (K' := kX4_accept) (As := [.int 3]) mlX4_117 okX4_accept dX4_number_14 (c_X4_accept g hT hK (k := 3) (by decide)) rfl (by decide) rfl (by decide) rfl rfl (Nat.le_of_ble_eq_true rfl) ⟨(Nat.le_of_ble_eq_true rfl), (Nat.le_of_ble_eq_true rfl)⟩ ⟨Nat.le_refl _, Nat.le_refl _⟩ (fun r1 M1 ⟨h1, hf1⟩ => ?_)
  have F1 : qFr SXn M M1 := hf1.mono (fun b j z => SXa_n z)
  cases hA : acQ T 3 a with
  | error e =>
    rw [bQ_e hA] at hR
    obtain ⟨q1, q2⟩ := qPo_e hA h1
    refine qi_if_ne (tgt := 22) dX4_number_17 (by decide) (fun z => False.elim ((z q1))) (fun z => ?_)
    refine qi_iconst (v := 0) dX4_number_20 rfl ?_
    exact qi_retI rfl (by rfl) dX4_number_21 (⟨qPo_ie hR.symm ⟨rfl, q2⟩, F1⟩)
  | ok a1 =>
    rw [bQ_o hA] at hR
    obtain ⟨q1, k1⟩ := qPo_o hA h1
    obtain ⟨i1, i2, i3⟩ := ac_ok hA
    have hv := vAt_le hT i3
    have K2 : qXK (wI M1 3 7 (nI (vAt T a))) p T a1 s N := k1.lat _
    have F2 : qFr SXn M (wI M1 3 7 (nI (vAt T a))) := F1.wI ⟨rfl, by decide, by decide⟩
    refine qi_if_ne (tgt := 22) dX4_number_17 (by decide) (fun z => ?_) (fun z => False.elim ((q10 q1 z)))
    refine qi_aload_n (i := 0) (x := 3) dX4_number_22 rfl rfl ?_
    refine qi_lload_n (i := 3) (x := lN (vAt T a)) dX4_number_23 rfl rfl ?_
    refine qi_l2i dX4_number_24 ?_
    refine qe_top (y := nI (vAt T a)) (lN_i _) ?_
    refine qi_putI flX4_40 q_cls4 (ty4_7 _) dX4_number_25 rfl (by decide) ?_
    refine qi_aload_n (i := 0) (x := 3) dX4_number_28 rfl rfl ?_
    refine qi_getI (x := nI (vAt T a)) flX4_40 dX4_number_29 rfl (by decide) (wI_s _ _ _ _) ?_
    refine qi_iload_n (i := 1) (x := nI lo) dX4_number_32 rfl rfl ?_
    have SL : (vAt T a < lo ∨ hi < vAt T a) → qT g kX4_number (qR 2 0 0) (qZI g (fun r M' => qPo res (okN p T N) r M' ∧ qFr SXn M M')) 44 [some (.ref 3), some (.int (nI lo)), some (.int (nI hi)), some (.long (lN (vAt T a))), none] [] 333 (wI M1 3 7 (nI (vAt T a))) (0, 0) := by
      intro hs
      unfold nuS at hR
      rw [if_pos hs] at hR
      subst i1
      refine qi_aload_n (i := 0) (x := 3) dX4_number_44 rfl rfl ?_
      refine qi_iconst (v := 5) dX4_number_45 rfl ?_
      refine qi_callVV (K' := kX4_noteSlip) (As := [.int 5]) mlX4_211 okX4_noteSlip dX4_number_46 (c_X4_noteSlip g hT K2 (n := 5) (by decide) (by decide)) rfl (by decide) rfl (by decide) rfl rfl (Nat.le_of_ble_eq_true rfl) ⟨(Nat.le_of_ble_eq_true rfl), (Nat.le_of_ble_eq_true rfl)⟩ ⟨Nat.le_refl _, Nat.le_refl _⟩ (fun M3 ⟨k3, hf3⟩ => ?_)
      refine qi_iconst (v := 1) dX4_number_49 rfl ?_
      exact qi_retI rfl (by rfl) dX4_number_50 (⟨qPo_io hR.symm ⟨rfl, k3, (hf3.1 _ _ (by unfold SXs; omega)).trans (wI_s _ _ _ _)⟩, F2.tr (hf3.mono (fun b j z => SXs_n z))⟩)
    by_cases hl : vAt T a < lo
    ·
      refine qi_icmp_lt (tgt := 44) dX4_number_33 (by decide) (fun _hc => ?_) (fun _h => absurd ((nI_ltI (a := vAt T a) (b := lo) (by omega) (by omega)).mpr (by omega)) _h)
      exact SL (Or.inl hl)
    refine qi_icmp_lt (tgt := 44) dX4_number_33 (by decide) (fun _h => absurd ((nI_ltI (a := vAt T a) (b := lo) (by omega) (by omega)).mp _h) (by omega)) (fun _hc => ?_)
    refine qi_aload_n (i := 0) (x := 3) dX4_number_36 rfl rfl ?_
    refine qi_getI (x := nI (vAt T a)) flX4_40 dX4_number_37 rfl (by decide) (wI_s _ _ _ _) ?_
    refine qi_iload_n (i := 2) (x := nI hi) dX4_number_40 rfl rfl ?_
    by_cases hh : hi < vAt T a
    ·
      refine qi_icmp_le (tgt := 49) dX4_number_41 (by decide) (fun _h => absurd ((nI_leI (a := vAt T a) (b := hi) (by omega) (by omega)).mp _h) (by omega)) (fun _hc => ?_)
      exact SL (Or.inr hh)
    refine qi_icmp_le (tgt := 49) dX4_number_41 (by decide) (fun _hc => ?_) (fun _h => absurd ((nI_leI (a := vAt T a) (b := hi) (by omega) (by omega)).mpr (by omega)) _h)
    refine qi_iconst (v := 1) dX4_number_49 rfl ?_
    unfold nuS at hR
    rw [if_neg (fun z => z.elim hl hh)] at hR
    exact qi_retI rfl (by rfl) dX4_number_50 (⟨qPo_io hR.symm ⟨rfl, K2, wI_s _ _ _ _⟩, F2⟩)
def SXm : Nat → Nat → Prop := fun b j => (b = 3 ∧ (j = 4 ∨ (6 ≤ j ∧ j ≤ 10))) ∨ b = 9 ∨ b = 10 ∨ b = 11
theorem SXn_m {b j : Nat} (z : SXn b j) : SXm b j := by unfold SXn at z; unfold SXm; omega
theorem qXK.push {M : qM} {p : Nat} {T : qTk} {a : Nat} {s : Nat × Nat} {N : qNm} (h : qXK M p T a s N) {v k n : Nat} (hv : v < 2 ^ 63) (hk : k < 200) (hN : N.1 < 19) : qXK (wI (wI (wI (wJ M 9 N.1 (lN v)) 10 N.1 (nI k)) 11 N.1 (nI n)) 3 4 (nI (N.1 + 1))) p T a s (psQ N v k n) := by
  obtain ⟨⟨h1, h2, h3⟩, ⟨h4, h5, h6⟩, ⟨h7, h8, h9⟩, h10, h11, h12⟩ := h
  have e3 : ∀ j, j ≠ 4 → (wI (wI (wI (wJ M 9 N.1 (lN v)) 10 N.1 (nI k)) 11 N.1 (nI n)) 3 4 (nI (N.1 + 1))).1 3 j = M.1 3 j := fun j hj => by
    rw [wI_k hj, wI_a (by decide), wI_a (by decide)]
    rfl
  refine ⟨⟨h1, h2, h3.fr (S := fun b _ => b = 3 ∨ b = 9 ∨ b = 10 ∨ b = 11) ((((qFr.rf.wJ (by omega)).wI (by omega)).wI (by omega)).wI (by omega)) (fun b j z => by omega)⟩, ⟨h4, (e3 6 (by decide)).trans h5, (e3 8 (by decide)).trans h6⟩, ⟨(e3 9 (by decide)).trans h7, h8, (e3 10 (by decide)).trans h9⟩, show N.1 + 1 ≤ 19 by omega, wI_s _ _ _ _, fun i hi => ?_⟩
  have hi2 : i < N.1 + 1 := hi
  simp only [psQ, updF, wI_1, wJ_1, wI_2, wJ_2]
  by_cases e : i = N.1
  · subst e
    simp
    exact ⟨hv, hk⟩
  · have := h12 i (by omega)
    simp [e]
    exact this
theorem c_X4_newName (g : qG) {M : qM} {p : Nat} {T : qTk} {a : Nat} {s : Nat × Nat} {N : qNm} (hT : okTk T) (hK : qXK M p T a s N) {k n : Nat} (hk : k < 200) : qI g 2 kX4_newName [.ref 3, .int (nI k), .int (nI n)] M (fun r M' => qPo (nnQ T k n a s N) (fun v M' => qXK M' p T v.1 v.2.1 v.2.2) r M' ∧ qFr SXm M M') := by
  generalize hR : nnQ T k n a s N = res
  unfold nnQ at hR
  obtain ⟨⟨hM, hpl, hTk⟩, ⟨ha, hat, hfa⟩, -⟩ := id hK
  refine qI.of (j := 2) (pn_RX4) rfl ?_
  show qT g kX4_newName (qR 2 0 0) (qZI g (fun r M' => qPo res (fun v M' => qXK M' p T v.1 v.2.1 v.2.2) r M' ∧ qFr SXm M M')) 0 [some (.ref 3), some (.int (nI k)), some (.int (nI n)), none, none] [] 333 M (0, 0)
  refine qi_aload_n (i := 0) (x := 3) dX4_newName_0 rfl rfl ?_
  refine qi_getR (x := 4) flX4_12 dX4_newName_1 rfl (by decide) (hM 3 0 4 rfl) ?_
  refine qi_aload_n (i := 0) (x := 3) dX4_newName_4 rfl rfl ?_
  refine qi_getI (x := nI a) flX4_37 dX4_newName_5 rfl (by decide) hat ?_
  refine qi_callPVJ (v := lN (vAt T a)) (K' := kX8_valueAt) (As := [.int (nI a)]) mlX4_207 okX8_valueAt dX4_newName_8 (c_X8_valueAt g hM hTk (by omega)) rfl (by decide) rfl (by decide) rfl rfl (Nat.le_of_ble_eq_true rfl) ⟨(Nat.le_of_ble_eq_true rfl), (Nat.le_of_ble_eq_true rfl)⟩ ⟨Nat.le_refl _, Nat.le_refl _⟩ ?_
  refine qi_lstore_n (i := 3) (L2 := [some (.ref 3), some (.int (nI k)), some (.int (nI n)), some (.long (lN (vAt T a))), none]) dX4_newName_11 rfl (Nat.le_of_ble_eq_true rfl) rfl ?_
  refine qi_aload_n (i := 0) (x := 3) dX4_newName_12 rfl rfl ?_
  refine qi_iconst (v := 2) dX4_newName_13 rfl ?_
  refine qi_callVI (K' := kX4_accept) (As := [.int 2]) mlX4_117 okX4_accept dX4_newName_14 (c_X4_accept g hT hK (k := 2) (by decide)) rfl (by decide) rfl (by decide) rfl rfl (Nat.le_of_ble_eq_true rfl) ⟨(Nat.le_of_ble_eq_true rfl), (Nat.le_of_ble_eq_true rfl)⟩ ⟨Nat.le_refl _, Nat.le_refl _⟩ (fun r1 M1 ⟨h1, hf1⟩ => ?_)
  have F1 : qFr SXm M M1 := hf1.mono (fun b j z => SXn_m (SXa_n z))
  cases hA : acQ T 2 a with
  | error e =>
    rw [bQ_e hA] at hR
    obtain ⟨q1, q2⟩ := qPo_e hA h1
    refine qi_if_ne (tgt := 22) dX4_newName_17 (by decide) (fun z => False.elim ((z q1))) (fun z => ?_)
    refine qi_iconst (v := 0) dX4_newName_20 rfl ?_
    exact qi_retI rfl (by rfl) dX4_newName_21 (⟨qPo_ie hR.symm ⟨rfl, q2⟩, F1⟩)
  | ok a1 =>
    rw [bQ_o hA] at hR
    obtain ⟨q1, k1⟩ := qPo_o hA h1
    obtain ⟨i1, i2, i3⟩ := ac_ok hA
    obtain ⟨hdg, hv⟩ := vAt_nm hT i3
    obtain ⟨⟨hM1, hpl1, hTk1⟩, -, -, hN1, hN2, -⟩ := id k1
    refine qi_if_ne (tgt := 22) dX4_newName_17 (by decide) (fun z => ?_) (fun z => False.elim ((q10 q1 z)))
    refine qi_aload_n (i := 0) (x := 3) dX4_newName_22 rfl rfl ?_
    refine qi_lload_n (i := 3) (x := lN (vAt T a)) dX4_newName_23 rfl rfl ?_
    refine qi_callPVI (v := o2i (findN (fun i ↦ decide (lN (N.2.1 i) = lN (vAt T a))) N.1 0)) (K' := kX4_indexOf) (As := [.long (lN (vAt T a))]) mlX4_214 okX4_indexOf dX4_newName_24 (c_X4_indexOf g k1 (lN (vAt T a))) rfl (by decide) rfl (by decide) rfl rfl (Nat.le_of_ble_eq_true rfl) ⟨(Nat.le_of_ble_eq_true rfl), (Nat.le_of_ble_eq_true rfl)⟩ ⟨Nat.le_refl _, Nat.le_refl _⟩ ?_
    refine qe_top (y := o2i (fnQ N (vAt T a))) (by rw [fn_l k1 hv]) ?_
    refine qi_iconst (v := -1) dX4_newName_27 rfl ?_
    unfold nnV at hR
    cases hF : fnQ N (vAt T a) with
    | some j =>
      rw [hF] at hR
      have hj := (findN_lt _ _ _ hF).2.1
      subst i1
      refine qi_icmp_eq (tgt := 39) dX4_newName_28 (by decide) (fun z => False.elim ((nI_m1 (n := j) (by omega) z))) (fun z => ?_)
      refine qi_aload_n (i := 0) (x := 3) dX4_newName_31 rfl rfl ?_
      refine qi_iconst (v := 3) dX4_newName_32 rfl ?_
      refine qi_callVV (K' := kX4_noteSlip) (As := [.int 3]) mlX4_211 okX4_noteSlip dX4_newName_33 (c_X4_noteSlip g hT k1 (n := 3) (by decide) (by decide)) rfl (by decide) rfl (by decide) rfl rfl (Nat.le_of_ble_eq_true rfl) ⟨(Nat.le_of_ble_eq_true rfl), (Nat.le_of_ble_eq_true rfl)⟩ ⟨Nat.le_refl _, Nat.le_refl _⟩ (fun M3 ⟨k3, hf3⟩ => ?_)
      refine qi_goto (tgt := 88) dX4_newName_36 (by decide) ?_
      refine qi_iconst (v := 1) dX4_newName_88 rfl ?_
      exact qi_retI rfl (by rfl) dX4_newName_89 (⟨qPo_io hR.symm ⟨rfl, k3⟩, F1.tr (hf3.mono (fun b j z => SXn_m (SXs_n z)))⟩)
    | none =>
      rw [hF] at hR
      refine qi_icmp_eq (tgt := 39) dX4_newName_28 (by decide) (fun z => ?_) (fun z => False.elim ((z rfl)))
      refine qi_aload_n (i := 0) (x := 3) dX4_newName_39 rfl rfl ?_
      refine qi_getI (x := nI N.1) flX4_29 dX4_newName_40 rfl (by decide) hN2 ?_
      refine qi_bipush (v := 19) dX4_newName_43 rfl ?_
      by_cases h19 : N.1 < 19
      ·
        rw [if_pos h19] at hR
        refine qi_icmp_ge (tgt := 88) dX4_newName_45 (by decide) (fun _h => absurd ((nI_leI (a := 19) (b := N.1) (by omega) (by omega)).mp _h) (by omega)) (fun _hc => ?_)
        refine qi_aload_n (i := 0) (x := 3) dX4_newName_48 rfl rfl ?_
        refine qi_getR (x := 9) flX4_18 dX4_newName_49 rfl (by decide) (hM1 3 1 9 rfl) ?_
        refine qi_aload_n (i := 0) (x := 3) dX4_newName_52 rfl rfl ?_
        refine qi_getI (x := nI N.1) flX4_29 dX4_newName_53 rfl (by decide) hN2 ?_
        refine qi_lload_n (i := 3) (x := lN (vAt T a)) dX4_newName_56 rfl rfl ?_
        refine qi_lastN (j := N.1) dX4_newName_57 rfl (by decide) rfl (by omega) (by decide) ?_
        refine qi_aload_n (i := 0) (x := 3) dX4_newName_58 rfl rfl ?_
        refine qi_getR (x := 10) flX4_22 dX4_newName_59 rfl (by decide) (hM1 3 2 10 rfl) ?_
        refine qi_aload_n (i := 0) (x := 3) dX4_newName_62 rfl rfl ?_
        refine qi_getI (x := nI N.1) flX4_29 dX4_newName_63 rfl (by decide) ((congrFun (congrFun (wJ_1 _ _ _ _) _) _).trans hN2) ?_
        refine qi_iload_n (i := 1) (x := nI k) dX4_newName_66 rfl rfl ?_
        refine qi_iastN (j := N.1) dX4_newName_67 rfl (by decide) rfl (by omega) (by decide) ?_
        refine qi_aload_n (i := 0) (x := 3) dX4_newName_68 rfl rfl ?_
        refine qi_getR (x := 11) flX4_26 dX4_newName_69 rfl (by decide) (hM1 3 3 11 rfl) ?_
        refine qi_aload_n (i := 0) (x := 3) dX4_newName_72 rfl rfl ?_
        refine qi_getI (x := nI N.1) flX4_29 dX4_newName_73 rfl (by decide) ((wI_a (by decide)).trans ((congrFun (congrFun (wJ_1 _ _ _ _) _) _).trans hN2)) ?_
        refine qi_iload_n (i := 2) (x := nI n) dX4_newName_76 rfl rfl ?_
        refine qi_iastN (j := N.1) dX4_newName_77 rfl (by decide) rfl (by omega) (by decide) ?_
        refine qi_aload_n (i := 0) (x := 3) dX4_newName_78 rfl rfl ?_
        refine qi_dup dX4_newName_79 ?_
        refine qi_getI (x := nI N.1) flX4_29 dX4_newName_80 rfl (by decide) ((wI_a (by decide)).trans ((wI_a (by decide)).trans ((congrFun (congrFun (wJ_1 _ _ _ _) _) _).trans hN2))) ?_
        refine qi_iconst (v := 1) dX4_newName_83 rfl ?_
        refine qi_iadd dX4_newName_84 ?_
        refine qe_top (y := nI (N.1 + 1)) (nI_1 N.1) ?_
        refine qi_putI flX4_29 q_cls4 (ty4_4 _) dX4_newName_85 rfl (by decide) ?_
        refine qi_iconst (v := 1) dX4_newName_88 rfl ?_
        exact qi_retI rfl (by rfl) dX4_newName_89 (⟨qPo_io hR.symm ⟨rfl, k1.push hv hk h19⟩, F1.tr ((((qFr.rf.wJ (by unfold SXm; omega)).wI (by unfold SXm; omega)).wI (by unfold SXm; omega)).wI (by unfold SXm; omega))⟩)
      ·
        rw [if_neg h19] at hR
        refine qi_icmp_ge (tgt := 88) dX4_newName_45 (by decide) (fun _hc => ?_) (fun _h => absurd ((nI_leI (a := 19) (b := N.1) (by omega) (by omega)).mpr (by omega)) _h)
        refine qi_iconst (v := 1) dX4_newName_88 rfl ?_
        exact qi_retI rfl (by rfl) dX4_newName_89 (⟨qPo_io hR.symm ⟨rfl, k1⟩, F1⟩)
theorem c_X4_oldName (g : qG) {M : qM} {p : Nat} {T : qTk} {a : Nat} {s : Nat × Nat} {N : qNm} (hT : okTk T) (hK : qXK M p T a s N) {k : Nat} (hk : k < 200) : qI g 2 kX4_oldName [.ref 3, .int (nI k)] M (fun r M' => qPo (onQ T k a s N) (okN p T N) r M' ∧ qFr SXn M M') := by
  generalize hR : onQ T k a s N = res
  unfold onQ at hR
  obtain ⟨⟨hM, hpl, hTk⟩, ⟨ha, hat, hfa⟩, -⟩ := id hK
  refine qI.of (j := 1) (pn_RX4) rfl ?_
  show qT g kX4_oldName (qR 2 0 0) (qZI g (fun r M' => qPo res (okN p T N) r M' ∧ qFr SXn M M')) 0 [some (.ref 3), some (.int (nI k)), none] [] 333 M (0, 0)
  refine qi_aload_n (i := 0) (x := 3) dX4_oldName_0 rfl rfl ?_
  refine qi_aload_n (i := 0) (x := 3) dX4_oldName_1 rfl rfl ?_
  refine qi_getR (x := 4) flX4_12 dX4_oldName_2 rfl (by decide) (hM 3 0 4 rfl) ?_
  refine qi_aload_n (i := 0) (x := 3) dX4_oldName_5 rfl rfl ?_
  refine qi_getI (x := nI a) flX4_37 dX4_oldName_6 rfl (by decide) hat ?_
  refine qi_callPVJ (v := lN (vAt T a)) (K' := kX8_valueAt) (As := [.int (nI a)]) mlX4_207 okX8_valueAt dX4_oldName_9 (c_X8_valueAt g hM hTk (by omega)) rfl (by decide) rfl (by decide) rfl rfl (Nat.le_of_ble_eq_true rfl) ⟨(Nat.le_of_ble_eq_true rfl), (Nat.le_of_ble_eq_true rfl)⟩ ⟨Nat.le_refl _, Nat.le_refl _⟩ ?_
  refine qi_callPVI (v := o2i (findN (fun i ↦ decide (lN (N.2.1 i) = lN (vAt T a))) N.1 0)) (K' := kX4_indexOf) (As := [.long (lN (vAt T a))]) mlX4_214 okX4_indexOf dX4_oldName_12 (c_X4_indexOf g hK (lN (vAt T a))) rfl (by decide) rfl (by decide) rfl rfl (Nat.le_of_ble_eq_true rfl) ⟨(Nat.le_of_ble_eq_true rfl), (Nat.le_of_ble_eq_true rfl)⟩ ⟨Nat.le_refl _, Nat.le_refl _⟩ ?_
  refine qi_istore_n (i := 2) (L2 := [some (.ref 3), some (.int (nI k)), some (.int (o2i (findN (fun i ↦ decide (lN (N.2.1 i) = lN (vAt T a))) N.1 0)))]) dX4_oldName_15 rfl (Nat.le_of_ble_eq_true rfl) rfl ?_
  refine qi_aload_n (i := 0) (x := 3) dX4_oldName_16 rfl rfl ?_
  refine qi_iconst (v := 2) dX4_oldName_17 rfl ?_
  refine qi_callVI (K' := kX4_accept) (As := [.int 2]) mlX4_117 okX4_accept dX4_oldName_18 (c_X4_accept g hT hK (k := 2) (by decide)) rfl (by decide) rfl (by decide) rfl rfl (Nat.le_of_ble_eq_true rfl) ⟨(Nat.le_of_ble_eq_true rfl), (Nat.le_of_ble_eq_true rfl)⟩ ⟨Nat.le_refl _, Nat.le_refl _⟩ (fun r1 M1 ⟨h1, hf1⟩ => ?_)
  have F1 : qFr SXn M M1 := hf1.mono (fun b j z => SXa_n z)
  cases hA : acQ T 2 a with
  | error e =>
    rw [bQ_e hA] at hR
    obtain ⟨q1, q2⟩ := qPo_e hA h1
    refine qi_if_ne (tgt := 26) dX4_oldName_21 (by decide) (fun z => False.elim ((z q1))) (fun z => ?_)
    refine qi_iconst (v := 0) dX4_oldName_24 rfl ?_
    exact qi_retI rfl (by rfl) dX4_oldName_25 (⟨qPo_ie hR.symm ⟨rfl, q2⟩, F1⟩)
  | ok a1 =>
    rw [bQ_o hA] at hR
    obtain ⟨q1, k1⟩ := qPo_o hA h1
    obtain ⟨i1, i2, i3⟩ := ac_ok hA
    obtain ⟨hdg, hv⟩ := vAt_nm hT i3
    have hfn := fn_l k1 hv
    rw [hfn]
    have K2 : qXK (wI M1 3 7 0) p T a1 s N := k1.lat _
    have F2 : qFr SXn M (wI M1 3 7 0) := F1.wI ⟨rfl, by decide, by decide⟩
    obtain ⟨⟨hM1, hpl1, hTk1⟩, -, -, hN1, hN2, hN3⟩ := id k1
    unfold onV at hR
    have SL : (a1, slQ s 4 a, 0) = (match fnQ N (vAt T a) with
        | some i => if N.2.2.1 i = k then (a1, s, N.2.2.2 i) else (a1, slQ s 4 a, 0)
        | none => (a1, slQ s 4 a, 0)) → qT g kX4_oldName (qR 2 0 0) (qZI g (fun r M' => qPo res (okN p T N) r M' ∧ qFr SXn M M')) 46 [some (.ref 3), some (.int (nI k)), some (.int (o2i (fnQ N (vAt T a))))] [] 333 (wI M1 3 7 0) (0, 0) := by
      intro hs
      rw [← hs] at hR
      subst i1
      refine qi_aload_n (i := 0) (x := 3) dX4_oldName_46 rfl rfl ?_
      refine qi_iconst (v := 4) dX4_oldName_47 rfl ?_
      refine qi_callVV (K' := kX4_noteSlip) (As := [.int 4]) mlX4_211 okX4_noteSlip dX4_oldName_48 (c_X4_noteSlip g hT K2 (n := 4) (by decide) (by decide)) rfl (by decide) rfl (by decide) rfl rfl (Nat.le_of_ble_eq_true rfl) ⟨(Nat.le_of_ble_eq_true rfl), (Nat.le_of_ble_eq_true rfl)⟩ ⟨Nat.le_refl _, Nat.le_refl _⟩ (fun M3 ⟨k3, hf3⟩ => ?_)
      refine qi_goto (tgt := 64) dX4_oldName_51 (by decide) ?_
      refine qi_iconst (v := 1) dX4_oldName_64 rfl ?_
      exact qi_retI rfl (by rfl) dX4_oldName_65 (⟨qPo_io hR.symm ⟨rfl, k3, (hf3.1 _ _ (by unfold SXs; omega)).trans (wI_s _ _ _ _)⟩, F2.tr (hf3.mono (fun b j z => SXs_n z))⟩)
    refine qi_if_ne (tgt := 26) dX4_oldName_21 (by decide) (fun z => ?_) (fun z => False.elim ((q10 q1 z)))
    refine qi_aload_n (i := 0) (x := 3) dX4_oldName_26 rfl rfl ?_
    refine qi_iconst (v := 0) dX4_oldName_27 rfl ?_
    refine qi_putI flX4_40 q_cls4 (ty4_7 _) dX4_oldName_28 rfl (by decide) ?_
    refine qi_iload_n (i := 2) (x := o2i (fnQ N (vAt T a))) dX4_oldName_31 rfl rfl ?_
    refine qi_iconst (v := -1) dX4_oldName_32 rfl ?_
    cases hF : fnQ N (vAt T a) with
    | none =>
      rw [hF] at SL
      refine qi_icmp_eq (tgt := 46) dX4_oldName_33 (by decide) (fun z => ?_) (fun z => False.elim ((z rfl)))
      exact SL rfl
    | some j =>
      rw [hF] at SL hR
      have hj := (findN_lt _ _ _ hF).2.1
      obtain ⟨n1, n2, n3⟩ := hN3 j (by omega)
      have n2b := n2.2
      refine qi_icmp_eq (tgt := 46) dX4_oldName_33 (by decide) (fun z => False.elim ((nI_m1 (n := j) (by omega) z))) (fun z => ?_)
      have hM_ : qRf (wI M1 3 7 0) := hM1
      refine qi_aload_n (i := 0) (x := 3) dX4_oldName_36 rfl rfl ?_
      refine qi_getR (x := 10) flX4_22 dX4_oldName_37 rfl (by decide) (hM1 3 2 10 rfl) ?_
      refine qi_iload_n (i := 2) (x := nI j) dX4_oldName_40 rfl rfl ?_
      refine qi_ialdN (x := nI (N.2.2.1 j)) (j := j) dX4_oldName_41 rfl (by decide) rfl (by omega) (by decide) ((wI_a (by decide)).trans n2.1) ?_
      refine qi_iload_n (i := 1) (x := nI k) dX4_oldName_42 rfl rfl ?_
      by_cases hkk : N.2.2.1 j = k
      ·
        have hR2 : Except.ok (if N.2.2.1 j = k then (a1, s, N.2.2.2 j) else (a1, slQ s 4 a, 0)) = res := hR
        rw [if_pos hkk] at hR2
        refine qi_icmp_eq (tgt := 54) dX4_oldName_43 (by decide) (fun _hc => ?_) (fun _h => absurd ((nI_eq (a := N.2.2.1 j) (b := k) (by omega) (by omega)).mpr (by omega)) _h)
        refine qi_aload_n (i := 0) (x := 3) dX4_oldName_54 rfl rfl ?_
        refine qi_aload_n (i := 0) (x := 3) dX4_oldName_55 rfl rfl ?_
        refine qi_getR (x := 11) flX4_26 dX4_oldName_56 rfl (by decide) (hM1 3 3 11 rfl) ?_
        refine qi_iload_n (i := 2) (x := nI j) dX4_oldName_59 rfl rfl ?_
        refine qi_ialdN (x := nI (N.2.2.2 j)) (j := j) dX4_oldName_60 rfl (by decide) rfl (by omega) (by decide) ((wI_a (by decide)).trans n3) ?_
        refine qi_putI flX4_40 q_cls4 (ty4_7 _) dX4_oldName_61 rfl (by decide) ?_
        refine qi_iconst (v := 1) dX4_oldName_64 rfl ?_
        exact qi_retI rfl (by rfl) dX4_oldName_65 (⟨qPo_io hR2.symm ⟨rfl, K2.lat _, wI_s _ _ _ _⟩, F2.wI ⟨rfl, by decide, by decide⟩⟩)
      ·
        have S := SL (by show _ = if N.2.2.1 j = k then _ else _; rw [if_neg hkk])
        refine qi_icmp_eq (tgt := 54) dX4_oldName_43 (by decide) (fun _h => absurd ((nI_eq (a := N.2.2.1 j) (b := k) (by omega) (by omega)).mp _h) (by omega)) (fun _hc => ?_)
        exact S
theorem c_X4_opens (g : qG) {M : qM} {p : Nat} {T : qTk} {a : Nat} {s : Nat × Nat} {N : qNm} (hT : okTk T) (hK : qXK M p T a s N) {k n m : Nat} (hk : k ≤ 144) (hn : n ≤ 16) (hm : m ≤ 16) : qI g 2 kX4_opens [.ref 3, .int (nI k), .int (nI n), .int (nI m)] M (fun r M' => qPo (if m ≤ n then .error (2, a) else acQ T k a) (fun a1 M' => qXK M' p T a1 s N) r M' ∧ qFr SXa M M') := by
  refine qI.of (j := 0) (pn_RX4) rfl ?_
  show qT g kX4_opens (qR 2 0 0) (qZI g (fun r M' => qPo (if m ≤ n then .error (2, a) else acQ T k a) (fun a1 M' => qXK M' p T a1 s N) r M' ∧ qFr SXa M M')) 0 [some (.ref 3), some (.int (nI k)), some (.int (nI n)), some (.int (nI m))] [] 333 M (0, 0)
  refine qi_iload_n (i := 2) (x := nI n) dX4_opens_0 rfl rfl ?_
  refine qi_iload_n (i := 3) (x := nI m) dX4_opens_1 rfl rfl ?_
  by_cases h : m ≤ n
  ·
    rw [if_pos h]
    refine qi_icmp_lt (tgt := 13) dX4_opens_2 (by decide) (fun _h => absurd ((nI_ltI (a := n) (b := m) (by omega) (by omega)).mp _h) (by omega)) (fun _hc => ?_)
    refine qi_aload_n (i := 0) (x := 3) dX4_opens_5 rfl rfl ?_
    refine qi_iconst (v := 2) dX4_opens_6 rfl ?_
    refine qi_callVI (K' := kX4_refuse) (As := [.int 2]) mlX4_90 okX4_refuse dX4_opens_7 (c_X4_refuse g 2) rfl (by decide) rfl (by decide) rfl rfl (Nat.le_of_ble_eq_true rfl) ⟨(Nat.le_of_ble_eq_true rfl), (Nat.le_of_ble_eq_true rfl)⟩ ⟨Nat.le_refl _, Nat.le_refl _⟩ (fun r1 M1 ⟨e1, e2⟩ => ?_)
    refine qe_top (y := 0) e1 ?_
    refine qi_goto (tgt := 18) dX4_opens_10 (by decide) ?_
    exact qi_retI rfl (by rfl) dX4_opens_18 (⟨⟨rfl, by rw [e2]; exact ⟨wI_s _ _ _ _, (wI_k (by decide)).trans hK.2.1.2.1⟩⟩, by rw [e2]; exact qFr.rf.wI ⟨rfl, Or.inr rfl⟩⟩)
  ·
    rw [if_neg h]
    refine qi_icmp_lt (tgt := 13) dX4_opens_2 (by decide) (fun _hc => ?_) (fun _h => absurd ((nI_ltI (a := n) (b := m) (by omega) (by omega)).mpr (by omega)) _h)
    refine qi_aload_n (i := 0) (x := 3) dX4_opens_13 rfl rfl ?_
    refine qi_iload_n (i := 1) (x := nI k) dX4_opens_14 rfl rfl ?_
    refine qi_callVI (K' := kX4_accept) (As := [.int (nI k)]) mlX4_117 okX4_accept dX4_opens_15 (c_X4_accept g hT hK hk) rfl (by decide) rfl (by decide) rfl rfl (Nat.le_of_ble_eq_true rfl) ⟨(Nat.le_of_ble_eq_true rfl), (Nat.le_of_ble_eq_true rfl)⟩ ⟨Nat.le_refl _, Nat.le_refl _⟩ (fun r1 M1 ⟨h1, hf1⟩ => ?_)
    cases hA : acQ T k a with
    | error e =>
      obtain ⟨q1, q2⟩ := qPo_e hA h1
      refine qe_top (y := 0) q1 ?_
      exact qi_retI rfl (by rfl) dX4_opens_18 (⟨⟨rfl, q2⟩, hf1⟩)
    | ok a1 =>
      obtain ⟨q1, q2⟩ := qPo_o hA h1
      refine qe_top (y := 1) q1 ?_
      exact qi_retI rfl (by rfl) dX4_opens_18 (⟨⟨rfl, q2⟩, hf1⟩)
