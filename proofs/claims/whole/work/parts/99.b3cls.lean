/-! the class's reader: accept, refuse; its laws: emit, emitSign, fill -/
abbrev qNm : Type := Nat × (Nat → Nat) × (Nat → Nat) × (Nat → Nat)
def qXK (M : qM) (p : Nat) (T : qTk) (a : Nat) (s : Nat × Nat) (N : qNm) : Prop := (qRf M ∧ M.2.2 3 5 = some p ∧ qTkC M T) ∧ (a ≤ 400 ∧ M.1 3 6 = nI a ∧ M.1 3 8 = 0) ∧ (M.1 3 9 = nI s.1 ∧ s.1 ≤ 5 ∧ M.1 3 10 = (if s.1 = 0 then -1 else nI (pAt T s.2))) ∧ N.1 ≤ 19 ∧ M.1 3 4 = nI N.1 ∧ ∀ i, i < N.1 → (M.2.1 9 i = lN (N.2.1 i) ∧ N.2.1 i < 2 ^ 63) ∧ (M.1 10 i = nI (N.2.2.1 i) ∧ N.2.2.1 i < 200) ∧ M.1 11 i = nI (N.2.2.2 i)
theorem qTkC.fr {S : Nat → Nat → Prop} {M M' : qM} {T : qTk} (h : qTkC M T) (hf : qFr S M M') (hd : ∀ b j, S b j → (b = 4 → j ≠ 4 ∧ j ≠ 5) ∧ b ≠ 5 ∧ b ≠ 6 ∧ b ≠ 7) : qTkC M' T := by
  obtain ⟨h1, h2, h3, h4⟩ := h
  refine ⟨h1, (hf.1 _ _ (fun z => ((hd _ _ z).1 rfl).1 rfl)).trans h2, (hf.1 _ _ (fun z => ((hd _ _ z).1 rfl).2 rfl)).trans h3, fun i hi => ?_⟩
  rw [hf.1 _ _ (fun z => (hd _ _ z).2.1 rfl), hf.1 _ _ (fun z => (hd _ _ z).2.2.1 rfl), hf.2.1 _ _ (fun z => (hd _ _ z).2.2.2 rfl)]
  exact h4 i hi
theorem qXK.fr {S : Nat → Nat → Prop} {M M' : qM} {p : Nat} {T : qTk} {a : Nat} {s : Nat × Nat} {N : qNm} (h : qXK M p T a s N) (hf : qFr S M M') (hd : ∀ b j, S b j → 12 ≤ b ∨ (b = 3 ∧ j = 7)) : qXK M' p T a s N := by
  obtain ⟨⟨h1, h2, h3⟩, ⟨h4, h5, h6⟩, ⟨h7, h8, h9⟩, h10, h11, h12⟩ := h
  have e3 : ∀ j, j ≠ 7 → M'.1 3 j = M.1 3 j := fun j hj => hf.1 _ _ (fun z => by have := hd _ _ z; omega)
  refine ⟨⟨h1.fr hf, by rw [hf.2.2]; exact h2, h3.fr hf (fun b j z => by have := hd _ _ z; omega)⟩, ⟨h4, (e3 6 (by decide)).trans h5, (e3 8 (by decide)).trans h6⟩, ⟨(e3 9 (by decide)).trans h7, h8, (e3 10 (by decide)).trans h9⟩, h10, (e3 4 (by decide)).trans h11, fun i hi => ?_⟩
  rw [hf.2.1 _ _ (fun z => by have := hd _ _ z; omega), hf.1 10 _ (fun z => by have := hd _ _ z; omega), hf.1 11 _ (fun z => by have := hd _ _ z; omega)]
  exact h12 i hi
theorem qXK.at {M : qM} {p : Nat} {T : qTk} {a a1 : Nat} {s : Nat × Nat} {N : qNm} (h : qXK M p T a s N) (h4 : a1 ≤ 400) : qXK (wI M 3 6 (nI a1)) p T a1 s N := by
  obtain ⟨⟨h1, h2, h3⟩, ⟨-, h5, h6⟩, ⟨h7, h8, h9⟩, h10, h11, h12⟩ := h
  have e3 : ∀ j, j ≠ 6 → (wI M 3 6 (nI a1)).1 3 j = M.1 3 j := fun j hj => wI_k hj
  refine ⟨⟨h1, h2, h3.fr (S := fun b _ => b = 3) (qFr.rf.wI rfl) (fun b j z => by omega)⟩, ⟨h4, wI_s _ _ _ _, (e3 8 (by decide)).trans h6⟩, ⟨(e3 9 (by decide)).trans h7, h8, (e3 10 (by decide)).trans h9⟩, h10, (e3 4 (by decide)).trans h11, fun i hi => ?_⟩
  rw [wI_a (b := 10) (by decide), wI_a (b := 11) (by decide)]
  exact h12 i hi
def qEr (M' : qM) (e : qE) : Prop := M'.1 3 8 = nI e.1 ∧ M'.1 3 6 = nI e.2
def qPo {α : Type} (res : Except qE α) (ok : α → qM → Prop) (r : Int32) (M' : qM) : Prop := match res with
  | .ok v => r = 1 ∧ ok v M'
  | .error e => r = 0 ∧ qEr M' e
theorem qPo_o {α : Type} {res : Except qE α} {ok : α → qM → Prop} {r : Int32} {M' : qM} {v : α} (e : res = .ok v) (h : qPo res ok r M') : r = 1 ∧ ok v M' := by
  rw [e] at h
  exact h
theorem qPo_e {α : Type} {res : Except qE α} {ok : α → qM → Prop} {r : Int32} {M' : qM} {v : qE} (e : res = .error v) (h : qPo res ok r M') : r = 0 ∧ qEr M' v := by
  rw [e] at h
  exact h
theorem qPo_io {α : Type} {res : Except qE α} {ok : α → qM → Prop} {r : Int32} {M' : qM} {v : α} (e : res = .ok v) (h : r = 1 ∧ ok v M') : qPo res ok r M' := by
  rw [e]
  exact h
theorem qPo_ie {α : Type} {res : Except qE α} {ok : α → qM → Prop} {r : Int32} {M' : qM} {v : qE} (e : res = .error v) (h : r = 0 ∧ qEr M' v) : qPo res ok r M' := by
  rw [e]
  exact h
theorem q10 {r : Int32} (h : r = 1) (z : r = 0) : False := by
  rw [h] at z
  exact absurd z (by decide)
theorem hRl {d D m : Nat} (h : d + 1 ≤ D) (h2 : m ≤ 21) : d + 1 ≤ (qR D 0 0).frames ∧ 8 + (m + 11) + 40 * d ≤ (qR D 0 0).locals := ⟨h, by show 8 + (m + 11) + 40 * d ≤ 40 * D; omega⟩
/-- what accept writes -/
def SXa : Nat → Nat → Prop := fun b j => b = 3 ∧ (j = 6 ∨ j = 8)
theorem kAt_le {T : qTk} (h : okTk T) (a : Nat) : kAt T a ≤ 144 := by
  unfold kAt
  split
  · rename_i c
    exact (h.2.2.1 a c).2.2.2.1
  · exact Nat.zero_le _
theorem c_X4_refuse (g : qG) {M : qM} (f : Int32) : qI g 0 kX4_refuse [.ref 3, .int f] M (fun r M' => r = 0 ∧ M' = wI M 3 8 f) := by
  refine qI.of (j := 0) (pn_RX4) rfl ?_
  show qT g kX4_refuse (qR 0 0 0) (qZI g (fun r M' => r = 0 ∧ M' = wI M 3 8 f)) 0 [some (.ref 3), some (.int f)] [] 333 M (0, 0)
  refine qi_aload_n (i := 0) (x := 3) dX4_refuse_0 rfl rfl ?_
  refine qi_iload_n (i := 1) (x := f) dX4_refuse_1 rfl rfl ?_
  refine qi_putI flX4_43 q_cls4 (ty4_8 _) dX4_refuse_2 rfl (by decide) ?_
  refine qi_iconst (v := 0) dX4_refuse_5 rfl ?_
  exact qi_retI rfl (by rfl) dX4_refuse_6 (⟨rfl, rfl⟩)
theorem c_X4_accept (g : qG) {M : qM} {p : Nat} {T : qTk} {a : Nat} {s : Nat × Nat} {N : qNm} (hT : okTk T) (hK : qXK M p T a s N) {k : Nat} (hk : k ≤ 144) : qI g 1 kX4_accept [.ref 3, .int (nI k)] M (fun r M' => qPo (acQ T k a) (fun a1 M' => qXK M' p T a1 s N) r M' ∧ qFr SXa M M') := by
  obtain ⟨⟨hM, hpl, hTk⟩, ⟨ha, hat, hfa⟩, -⟩ := id hK
  have hka := kAt_le hT a
  refine qI.of (j := 0) (pn_RX4) rfl ?_
  show qT g kX4_accept (qR 1 0 0) (qZI g (fun r M' => qPo (acQ T k a) (fun a1 M' => qXK M' p T a1 s N) r M' ∧ qFr SXa M M')) 0 [some (.ref 3), some (.int (nI k))] [] 333 M (0, 0)
  refine qi_aload_n (i := 0) (x := 3) dX4_accept_0 rfl rfl ?_
  refine qi_getR (x := 4) flX4_12 dX4_accept_1 rfl (by decide) (hM 3 0 4 rfl) ?_
  refine qi_aload_n (i := 0) (x := 3) dX4_accept_4 rfl rfl ?_
  refine qi_getI (x := nI a) flX4_37 dX4_accept_5 rfl (by decide) hat ?_
  refine qi_callPVI (v := nI (kAt T a)) (K' := kX8_kindAt) (As := [.int (nI a)]) mlX4_64 okX8_kindAt dX4_accept_8 (c_X8_kindAt g hM hTk (by omega)) rfl (by decide) rfl (by decide) rfl rfl (Nat.le_of_ble_eq_true rfl) ⟨(Nat.le_of_ble_eq_true rfl), (Nat.le_of_ble_eq_true rfl)⟩ ⟨Nat.le_refl _, Nat.le_refl _⟩ ?_
  refine qi_iload_n (i := 1) (x := nI k) dX4_accept_11 rfl rfl ?_
  by_cases h1 : kAt T a = k
  ·
    refine qi_icmp_eq (tgt := 21) dX4_accept_12 (by decide) (fun _hc => ?_) (fun _h => absurd ((nI_eq (a := kAt T a) (b := k) (by omega) (by omega)).mpr (by omega)) _h)
    refine qi_aload_n (i := 0) (x := 3) dX4_accept_21 rfl rfl ?_
    refine qi_getI (x := nI a) flX4_37 dX4_accept_22 rfl (by decide) hat ?_
    refine qi_sipush (v := 400) dX4_accept_25 rfl ?_
    by_cases h2 : 400 ≤ a
    ·
      refine qi_icmp_lt (tgt := 37) dX4_accept_28 (by decide) (fun _h => absurd ((nI_ltI (a := a) (b := 400) (by omega) (by omega)).mp _h) (by omega)) (fun _hc => ?_)
      refine qi_aload_n (i := 0) (x := 3) dX4_accept_31 rfl rfl ?_
      refine qi_iconst (v := 2) dX4_accept_32 rfl ?_
      refine qi_callVI (K' := kX4_refuse) (As := [.int 2]) mlX4_90 okX4_refuse dX4_accept_33 (c_X4_refuse g 2) rfl (by decide) rfl (by decide) rfl rfl (Nat.le_of_ble_eq_true rfl) ⟨(Nat.le_of_ble_eq_true rfl), (Nat.le_of_ble_eq_true rfl)⟩ ⟨Nat.le_refl _, Nat.le_refl _⟩ (fun r1 M1 ⟨e1, e2⟩ => ?_)
      refine qe_top (y := 0) e1 ?_
      have er : acQ T k a = .error (2, a) := by unfold acQ; rw [if_neg (fun z => z h1), if_pos h2]
      exact qi_retI rfl (by rfl) dX4_accept_36 (⟨qPo_ie er ⟨rfl, by rw [e2]; exact ⟨wI_s _ _ _ _, (wI_k (by decide)).trans hat⟩⟩, by rw [e2]; exact qFr.rf.wI ⟨rfl, Or.inr rfl⟩⟩)
    ·
      refine qi_icmp_lt (tgt := 37) dX4_accept_28 (by decide) (fun _hc => ?_) (fun _h => absurd ((nI_ltI (a := a) (b := 400) (by omega) (by omega)).mpr (by omega)) _h)
      refine qi_aload_n (i := 0) (x := 3) dX4_accept_37 rfl rfl ?_
      refine qi_dup dX4_accept_38 ?_
      refine qi_getI (x := nI a) flX4_37 dX4_accept_39 rfl (by decide) hat ?_
      refine qi_iconst (v := 1) dX4_accept_42 rfl ?_
      refine qi_iadd dX4_accept_43 ?_
      refine qe_top (y := nI (a + 1)) (nI_1 a) ?_
      refine qi_putI flX4_37 q_cls4 (ty4_6 _) dX4_accept_44 rfl (by decide) ?_
      refine qi_iconst (v := 1) dX4_accept_47 rfl ?_
      have er : acQ T k a = .ok (a + 1) := by unfold acQ; rw [if_neg (fun z => z h1), if_neg h2]
      exact qi_retI rfl (by rfl) dX4_accept_48 (⟨qPo_io er ⟨rfl, hK.at (by omega)⟩, qFr.rf.wI ⟨rfl, Or.inl rfl⟩⟩)
  ·
    refine qi_icmp_eq (tgt := 21) dX4_accept_12 (by decide) (fun _h => absurd ((nI_eq (a := kAt T a) (b := k) (by omega) (by omega)).mp _h) (by omega)) (fun _hc => ?_)
    refine qi_aload_n (i := 0) (x := 3) dX4_accept_15 rfl rfl ?_
    refine qi_iconst (v := 1) dX4_accept_16 rfl ?_
    refine qi_callVI (K' := kX4_refuse) (As := [.int 1]) mlX4_90 okX4_refuse dX4_accept_17 (c_X4_refuse g 1) rfl (by decide) rfl (by decide) rfl rfl (Nat.le_of_ble_eq_true rfl) ⟨(Nat.le_of_ble_eq_true rfl), (Nat.le_of_ble_eq_true rfl)⟩ ⟨Nat.le_refl _, Nat.le_refl _⟩ (fun r1 M1 ⟨e1, e2⟩ => ?_)
    refine qe_top (y := 0) e1 ?_
    have er : acQ T k a = .error (1, a) := by unfold acQ; rw [if_pos h1]
    exact qi_retI rfl (by rfl) dX4_accept_20 (⟨qPo_ie er ⟨rfl, by rw [e2]; exact ⟨wI_s _ _ _ _, (wI_k (by decide)).trans hat⟩⟩, by rw [e2]; exact qFr.rf.wI ⟨rfl, Or.inr rfl⟩⟩)
/-- what emitting writes -/
def SEm (q sz : Nat) : Nat → Nat → Prop := fun b j => (b = q ∧ j = 6) ∨ (b = q + 1 ∧ sz ≤ j)
theorem c_X1_emit (g : qG) {q sz : Nat} {M : qM} (hq : qIsL q) (hM : qRf M) (hz : M.1 q 6 = nI sz) (hs : sz < 802) (c : Int32) : qV g 0 kX1_emit [.ref q, .int c] M (fun M' => M'.1 q 6 = nI (sz + 1) ∧ cellA (M'.1 (q + 1)) sz [c] ∧ qFr (SEm q sz) M M') := by
  have hlt := hq.2.2.2.2
  refine qV.of (j := 0) (pn_RX1) rfl ?_
  show qT g kX1_emit (qR 0 0 0) (qZV g (fun M' => M'.1 q 6 = nI (sz + 1) ∧ cellA (M'.1 (q + 1)) sz [c] ∧ qFr (SEm q sz) M M')) 0 [some (.ref q), some (.int c)] [] 333 M (0, 0)
  refine qi_aload_n (i := 0) (x := q) dX1_emit_0 rfl rfl ?_
  refine qi_getI (x := M.1 q 6) flX1_31 dX1_emit_1 hq.1 (by omega) rfl ?_
  refine qe_top (y := nI sz) hz ?_
  refine qi_sipush (v := 802) dX1_emit_4 rfl ?_
  refine qi_icmp_ge (tgt := 30) dX1_emit_7 (by decide) (fun _h => absurd ((nI_leI (a := 802) (b := sz) (by omega) (by omega)).mp _h) (by omega)) (fun _hc => ?_)
  refine qi_aload_n (i := 0) (x := q) dX1_emit_10 rfl rfl ?_
  refine qi_getR (x := q + 1) flX1_11 dX1_emit_11 hq.1 (by omega) (hM q 0 (q + 1) (qref_1_0 hq.1)) ?_
  refine qi_aload_n (i := 0) (x := q) dX1_emit_14 rfl rfl ?_
  refine qi_getI (x := M.1 q 6) flX1_31 dX1_emit_15 hq.1 (by omega) rfl ?_
  refine qe_top (y := nI sz) hz ?_
  refine qi_iload_n (i := 1) (x := c) dX1_emit_18 rfl rfl ?_
  refine qi_iastN (j := sz) dX1_emit_19 hq.2.1 (by omega) rfl (by omega) (by decide) ?_
  refine qi_aload_n (i := 0) (x := q) dX1_emit_20 rfl rfl ?_
  refine qi_dup dX1_emit_21 ?_
  refine qi_getI (x := (wI M (q + 1) sz c).1 q 6) flX1_31 dX1_emit_22 hq.1 (by omega) rfl ?_
  refine qe_top (y := nI sz) ((wI_a (by omega)).trans hz) ?_
  refine qi_iconst (v := 1) dX1_emit_25 rfl ?_
  refine qi_iadd dX1_emit_26 ?_
  refine qe_top (y := nI (sz + 1)) (nI_1 sz) ?_
  refine qi_putI flX1_31 q_cls1 (ty1_6 _) dX1_emit_27 hq.1 (by omega) ?_
  refine qi_retV rfl dX1_emit_30 (⟨wI_s _ _ _ _, fun i hi => ?_, (qFr.rf.wI (Or.inr ⟨rfl, Nat.le_refl _⟩)).wI (Or.inl ⟨rfl, rfl⟩)⟩)
  have hi2 : i < 1 := hi
  obtain rfl : i = 0 := by omega
  rw [wI_a (by omega)]
  exact wI_s _ _ _ _
theorem c_X1_emitSign (g : qG) {q sz k : Nat} {M : qM} (hq : qIsL q) (hM : qRf M) (hz : M.1 q 6 = nI sz) (hs : sz < 802) (hk : opK k) : qV g 1 kX1_emitSign [.ref q, .int (nI k)] M (fun M' => M'.1 q 6 = nI (sz + pdN k) ∧ cellA (M'.1 (q + 1)) sz (sgL k) ∧ qFr (SEm q sz) M M') := by
  have hlt := hq.2.2.2.2
  refine qV.of (j := 0) (pn_RX1) rfl ?_
  show qT g kX1_emitSign (qR 1 0 0) (qZV g (fun M' => M'.1 q 6 = nI (sz + pdN k) ∧ cellA (M'.1 (q + 1)) sz (sgL k) ∧ qFr (SEm q sz) M M')) 0 [some (.ref q), some (.int (nI k))] [] 333 M (0, 0)
  rcases hk with h | h | h | h | h <;> subst h
  ·
    refine qi_iload_n (i := 1) (x := nI 0) dX1_emitSign_0 rfl rfl ?_
    refine qi_tabOut (tgt := 76) dX1_emitSign_1 (Or.inl (by decide)) (by decide) ?_
    exact qi_retV rfl dX1_emitSign_76 (⟨hz, cellA_n, qFr.rf⟩)
  ·
    refine qi_iload_n (i := 1) (x := nI 42) dX1_emitSign_0 rfl rfl ?_
    refine qi_tabIn (tgt := 58) dX1_emitSign_1 (by decide) (by decide) rfl (by decide) ?_
    refine qi_aload_n (i := 0) (x := q) dX1_emitSign_58 rfl rfl ?_
    refine qi_bipush (v := -9) dX1_emitSign_59 rfl ?_
    refine qi_callVV (K' := kX1_emit) (As := [.int (-9)]) mlX1_34 okX1_emit dX1_emitSign_61 (c_X1_emit g hq hM hz hs (-9)) hq.1 (by decide) rfl (by omega) rfl rfl (Nat.le_of_ble_eq_true rfl) ⟨(Nat.le_of_ble_eq_true rfl), (Nat.le_of_ble_eq_true rfl)⟩ ⟨Nat.le_refl _, Nat.le_refl _⟩ (fun M1 h1 => ?_)
    refine qi_goto (tgt := 76) dX1_emitSign_64 (by decide) ?_
    exact qi_retV rfl dX1_emitSign_76 (h1)
  ·
    refine qi_iload_n (i := 1) (x := nI 47) dX1_emitSign_0 rfl rfl ?_
    refine qi_tabIn (tgt := 67) dX1_emitSign_1 (by decide) (by decide) rfl (by decide) ?_
    refine qi_aload_n (i := 0) (x := q) dX1_emitSign_67 rfl rfl ?_
    refine qi_bipush (v := -10) dX1_emitSign_68 rfl ?_
    refine qi_callVV (K' := kX1_emit) (As := [.int (-10)]) mlX1_34 okX1_emit dX1_emitSign_70 (c_X1_emit g hq hM hz hs (-10)) hq.1 (by decide) rfl (by omega) rfl rfl (Nat.le_of_ble_eq_true rfl) ⟨(Nat.le_of_ble_eq_true rfl), (Nat.le_of_ble_eq_true rfl)⟩ ⟨Nat.le_refl _, Nat.le_refl _⟩ (fun M1 h1 => ?_)
    refine qi_goto (tgt := 76) dX1_emitSign_73 (by decide) ?_
    exact qi_retV rfl dX1_emitSign_76 (h1)
  ·
    refine qi_iload_n (i := 1) (x := nI 43) dX1_emitSign_0 rfl rfl ?_
    refine qi_tabIn (tgt := 40) dX1_emitSign_1 (by decide) (by decide) rfl (by decide) ?_
    refine qi_aload_n (i := 0) (x := q) dX1_emitSign_40 rfl rfl ?_
    refine qi_bipush (v := -7) dX1_emitSign_41 rfl ?_
    refine qi_callVV (K' := kX1_emit) (As := [.int (-7)]) mlX1_34 okX1_emit dX1_emitSign_43 (c_X1_emit g hq hM hz hs (-7)) hq.1 (by decide) rfl (by omega) rfl rfl (Nat.le_of_ble_eq_true rfl) ⟨(Nat.le_of_ble_eq_true rfl), (Nat.le_of_ble_eq_true rfl)⟩ ⟨Nat.le_refl _, Nat.le_refl _⟩ (fun M1 h1 => ?_)
    refine qi_goto (tgt := 76) dX1_emitSign_46 (by decide) ?_
    exact qi_retV rfl dX1_emitSign_76 (h1)
  ·
    refine qi_iload_n (i := 1) (x := nI 45) dX1_emitSign_0 rfl rfl ?_
    refine qi_tabIn (tgt := 49) dX1_emitSign_1 (by decide) (by decide) rfl (by decide) ?_
    refine qi_aload_n (i := 0) (x := q) dX1_emitSign_49 rfl rfl ?_
    refine qi_bipush (v := -8) dX1_emitSign_50 rfl ?_
    refine qi_callVV (K' := kX1_emit) (As := [.int (-8)]) mlX1_34 okX1_emit dX1_emitSign_52 (c_X1_emit g hq hM hz hs (-8)) hq.1 (by decide) rfl (by omega) rfl rfl (Nat.le_of_ble_eq_true rfl) ⟨(Nat.le_of_ble_eq_true rfl), (Nat.le_of_ble_eq_true rfl)⟩ ⟨Nat.le_refl _, Nat.le_refl _⟩ (fun M1 h1 => ?_)
    refine qi_goto (tgt := 76) dX1_emitSign_55 (by decide) ?_
    exact qi_retV rfl dX1_emitSign_76 (h1)
theorem c_X1_fill (g : qG) {q sz k : Nat} {M : qM} (hq : qIsL q) (hM : qRf M) (hz : M.1 q 6 = nI sz) (hs : sz ≤ 802) (hk : k < sz) (c : Int32) : qV g 0 kX1_fill [.ref q, .int (nI k), .int c] M (fun M' => M' = wI M (q + 1) k c) := by
  have hlt := hq.2.2.2.2
  refine qV.of (j := 0) (pn_RX1) rfl ?_
  show qT g kX1_fill (qR 0 0 0) (qZV g (fun M' => M' = wI M (q + 1) k c)) 0 [some (.ref q), some (.int (nI k)), some (.int c)] [] 333 M (0, 0)
  refine qi_iload_n (i := 1) (x := nI k) dX1_fill_0 rfl rfl ?_
  refine qi_if_lt (tgt := 19) dX1_fill_1 (by decide) (fun z => False.elim ((nI_pos (by omega) z))) (fun z => ?_)
  refine qi_iload_n (i := 1) (x := nI k) dX1_fill_4 rfl rfl ?_
  refine qi_aload_n (i := 0) (x := q) dX1_fill_5 rfl rfl ?_
  refine qi_getI (x := M.1 q 6) flX1_31 dX1_fill_6 hq.1 (by omega) rfl ?_
  refine qe_top (y := nI sz) hz ?_
  refine qi_icmp_ge (tgt := 19) dX1_fill_9 (by decide) (fun _h => absurd ((nI_leI (a := sz) (b := k) (by omega) (by omega)).mp _h) (by omega)) (fun _hc => ?_)
  refine qi_aload_n (i := 0) (x := q) dX1_fill_12 rfl rfl ?_
  refine qi_getR (x := q + 1) flX1_11 dX1_fill_13 hq.1 (by omega) (hM q 0 (q + 1) (qref_1_0 hq.1)) ?_
  refine qi_iload_n (i := 1) (x := nI k) dX1_fill_16 rfl rfl ?_
  refine qi_iload_n (i := 2) (x := c) dX1_fill_17 rfl rfl ?_
  refine qi_iastN (j := k) dX1_fill_18 hq.2.1 (by omega) rfl (by omega) (by decide) ?_
  exact qi_retV rfl dX1_fill_19 (rfl)
