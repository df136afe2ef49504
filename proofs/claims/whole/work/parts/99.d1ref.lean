/-! the reference's reading: is, fail, goesOn, must, wrong, roomFor, emit -/
abbrev okKz (k : Nat) : Prop := k ≤ 144 ∧ kmQ k ≠ 99
theorem km_inj : ∀ x, x < 145 → ∀ k, k < 145 → kmQ x ≠ 99 → kmQ k ≠ 99 → (kmQ x = kmQ k ↔ x = k) := by decide +kernel
theorem km_lt : ∀ x, x < 145 → kmQ x < 100 := by decide +kernel
theorem kAt_z {T : qTk} (h : okTk T) (a : Nat) : okKz (kAt T a) := by
  unfold kAt
  split
  · rename_i c
    exact ⟨(h.2.2.1 a c).2.2.2.1, (h.2.2.1 a c).2.2.2.2.1⟩
  · exact ⟨by decide, by decide⟩
theorem pAt_le {T : qTk} (h : okTk T) (a : Nat) : pAt T a ≤ 2000 := by
  have h2 := h.2.1
  unfold pAt
  split
  · rename_i c
    have := (h.2.2.1 a c).2.2.2.2.2
    omega
  · exact h2
theorem pAt_lt {T : qTk} (h : okTk T) {i j : Nat} (hij : i < j) (hj : j ≤ T.1) : pAt T i < pAt T j := by
  unfold pAt
  rw [if_pos (show i < T.1 by omega)]
  split
  · rename_i c
    exact h.2.2.2 i j hij c
  · exact (h.2.2.1 i (by omega)).2.2.2.2.2
theorem kAt_in {T : qTk} {a k : Nat} (h : kAt T a = k) (hk : ¬ k = 0) : a < T.1 := by
  unfold kAt at h
  split at h
  · assumption
  · exact absurd h.symm hk
def srQ (k : Nat) : Nat := if k = 128 then 0 else if k = 129 then 1 else 2
/-- what stays all through -/
def qYG (M : qM) (S : Nat) (T : qTk) : Prop := qRf M ∧ qTkE M T ∧ S < 2 ∧ M.1 280 19 = nI S
/-- the names told -/
def qYN (M : qM) (s : Nat × Nat) (N : qNm) (nc : Nat) : Prop := M.1 280 20 = nI nc ∧ nc ≤ 19 ∧ (s.1 = 0 → N.1 = nc ∧ ∀ i, i < nc → M.2.1 288 i = lN (cvQ 8 (N.2.1 i)) ∧ M.1 289 i = nI (srQ (N.2.2.1 i)) ∧ M.1 290 i = nI (N.2.2.2 i))
def qYK (M : qM) (S : Nat) (T : qTk) (a : Nat) (s : Nat × Nat) (N : qNm) (nc : Nat) : Prop := qYG M S T ∧ (a ≤ 400 ∧ a ≤ T.1 ∧ M.1 280 11 = nI a ∧ M.1 280 13 = 0) ∧ (M.1 280 15 = nI s.1 ∧ s.1 ≤ 5 ∧ (¬ s.1 = 0 → M.1 280 16 = nI (pAt T s.2) ∧ s.2 ≤ a)) ∧ qYN M s N nc
/-- a fault -/
def qYF (M : qM) (S : Nat) (T : qTk) (e : qE) : Prop := qYG M S T ∧ (∃ a, a ≤ 400 ∧ M.1 280 11 = nI a) ∧ M.1 280 13 = nI e.1 ∧ M.1 280 14 = nI (pAt T e.2) ∧ (e.1 = 1 ∨ e.1 = 2)
theorem qYG.fr {F : Nat → Nat → Prop} {M M' : qM} {S : Nat} {T : qTk} (h : qYG M S T) (hf : qFr F M M') (hd : ∀ b j, F b j → (b < 283 ∨ 286 < b) ∧ (b = 280 → j ≠ 19)) : qYG M' S T := by
  obtain ⟨h1, h2, h3, h4⟩ := h
  refine ⟨h1.fr hf, fun i hi h5 => ?_, h3, (hf.1 _ _ (fun z => (hd _ _ z).2 rfl rfl)).trans h4⟩
  rw [hf.1 283 _ (fun z => by have := hd _ _ z; omega), hf.1 284 _ (fun z => by have := hd _ _ z; omega), hf.1 285 _ (fun z => by have := hd _ _ z; omega), hf.2.1 286 _ (fun z => by have := hd _ _ z; omega)]
  exact h2 i hi h5
theorem qYN.fr {F : Nat → Nat → Prop} {M M' : qM} {s : Nat × Nat} {N : qNm} {nc : Nat} (h : qYN M s N nc) (hf : qFr F M M') (hd : ∀ b j, F b j → (b < 288 ∨ 290 < b) ∧ (b = 280 → j ≠ 20)) : qYN M' s N nc := by
  obtain ⟨h1, h2, h3⟩ := h
  refine ⟨(hf.1 _ _ (fun z => (hd _ _ z).2 rfl rfl)).trans h1, h2, fun z => ?_⟩
  obtain ⟨h4, h5⟩ := h3 z
  refine ⟨h4, fun i hi => ?_⟩
  rw [hf.2.1 288 _ (fun z => by have := hd _ _ z; omega), hf.1 289 _ (fun z => by have := hd _ _ z; omega), hf.1 290 _ (fun z => by have := hd _ _ z; omega)]
  exact h5 i hi
theorem qYN.sl {M : qM} {s s' : Nat × Nat} {N : qNm} {nc : Nat} (h : qYN M s N nc) (hs : s'.1 = 0 → s.1 = 0) : qYN M s' N nc := ⟨h.1, h.2.1, fun z => h.2.2 (hs z)⟩
theorem qYK.fr {F : Nat → Nat → Prop} {M M' : qM} {S : Nat} {T : qTk} {a : Nat} {s : Nat × Nat} {N : qNm} {nc : Nat} (h : qYK M S T a s N nc) (hf : qFr F M M') (hd : ∀ b j, F b j → (b < 283 ∨ 290 < b ∨ b = 287) ∧ (b = 280 → j ≠ 11 ∧ j ≠ 13 ∧ j ≠ 15 ∧ j ≠ 16 ∧ j ≠ 19 ∧ j ≠ 20)) : qYK M' S T a s N nc := by
  obtain ⟨h1, ⟨h2, h3, h4, h5⟩, ⟨h6, h7, h8⟩, h9⟩ := h
  have e : ∀ j, j = 11 ∨ j = 13 ∨ j = 15 ∨ j = 16 → M'.1 280 j = M.1 280 j := fun j hj => hf.1 _ _ (fun z => by have := (hd _ _ z).2 rfl; omega)
  refine ⟨h1.fr hf (fun b j z => by have := hd b j z; omega), ⟨h2, h3, (e 11 (by omega)).trans h4, (e 13 (by omega)).trans h5⟩, ⟨(e 15 (by omega)).trans h6, h7, fun z => ⟨(e 16 (by omega)).trans (h8 z).1, (h8 z).2⟩⟩, h9.fr hf (fun b j z => by have := hd b j z; omega)⟩
theorem qYF.fr {F : Nat → Nat → Prop} {M M' : qM} {S : Nat} {T : qTk} {e : qE} (h : qYF M S T e) (hf : qFr F M M') (hd : ∀ b j, F b j → (b < 283 ∨ 286 < b) ∧ (b = 280 → j ≠ 11 ∧ j ≠ 13 ∧ j ≠ 14 ∧ j ≠ 19)) : qYF M' S T e := by
  obtain ⟨h1, ⟨a, h2, h3⟩, h4, h5, h6⟩ := h
  have e : ∀ j, j = 11 ∨ j = 13 ∨ j = 14 → M'.1 280 j = M.1 280 j := fun j hj => hf.1 _ _ (fun z => by have := (hd _ _ z).2 rfl; omega)
  exact ⟨h1.fr hf (fun b j z => by have := hd b j z; omega), ⟨a, h2, (e 11 (by omega)).trans h3⟩, (e 13 (by omega)).trans h4, (e 14 (by omega)).trans h5, h6⟩
/-- the answer of a piece of the reading -/
def qPy {α : Type} (S : Nat) (T : qTk) (res : Except qE α) (ok : α → qM → Prop) (M' : qM) : Prop := match res with
  | .ok v => ok v M'
  | .error e => qYF M' S T e
theorem qPy_o {α : Type} {S : Nat} {T : qTk} {res : Except qE α} {ok : α → qM → Prop} {M' : qM} {v : α} (e : res = .ok v) (h : qPy S T res ok M') : ok v M' := by
  rw [e] at h
  exact h
theorem qPy_e {α : Type} {S : Nat} {T : qTk} {res : Except qE α} {ok : α → qM → Prop} {M' : qM} {v : qE} (e : res = .error v) (h : qPy S T res ok M') : qYF M' S T v := by
  rw [e] at h
  exact h
theorem qPy_io {α : Type} {S : Nat} {T : qTk} {res : Except qE α} {ok : α → qM → Prop} {M' : qM} {v : α} (e : res = .ok v) (h : ok v M') : qPy S T res ok M' := by
  rw [e]
  exact h
theorem qPy_ie {α : Type} {S : Nat} {T : qTk} {res : Except qE α} {ok : α → qM → Prop} {M' : qM} {v : qE} (e : res = .error v) (h : qYF M' S T v) : qPy S T res ok M' := by
  rw [e]
  exact h
theorem qYF.n {M : qM} {S : Nat} {T : qTk} {e : qE} (h : qYF M S T e) : 0 < e.1 ∧ e.1 ≤ 2 := by
  have := h.2.2.2.2
  omega
/-- what the reading's steps write -/
def SYt : Nat → Nat → Prop := fun b j => b = 280 ∧ (j = 11 ∨ j = 13 ∨ j = 14)
def SYw : Nat → Nat → Prop := fun b j => b = 280 ∧ (j = 15 ∨ j = 16)
theorem c_X12_isF (g : qG) {M : qM} {S : Nat} {T : qTk} {e : qE} (h : qYF M S T e) (k : Int32) : qI g 0 kX12_is [.ref 280, .int k] M (fun r M' => r = 0 ∧ M' = M) := by
  have hn := h.n
  refine qI.of (j := 0) (pn_RX12) rfl ?_
  show qT g kX12_is (qR 0 0 0) (qZI g (fun r M' => r = 0 ∧ M' = M)) 0 [some (.ref 280), some (.int k)] [] 333 M (0, 0)
  refine qi_aload_n (i := 0) (x := 280) dX12_is_0 rfl rfl ?_
  refine qi_getI (x := nI e.1) flX12_218 dX12_is_1 rfl (by decide) h.2.2.1 ?_
  refine qi_if_ne (tgt := 24) dX12_is_4 (by decide) (fun _hc => ?_) (fun _h => absurd ((nI_eq (a := e.1) (b := 0) (by omega) (by omega)).mp _h) (by omega))
  refine qi_iconst (v := 0) dX12_is_24 rfl ?_
  exact qi_retI rfl (by rfl) dX12_is_25 (⟨rfl, rfl⟩)
theorem c_X12_is (g : qG) {M : qM} {S : Nat} {T : qTk} {a : Nat} {s : Nat × Nat} {N : qNm} {nc : Nat} (hT : okTk T) (h : qYK M S T a s N nc) {k : Nat} (hk : okKz k) : qI g 0 kX12_is [.ref 280, .int (nI (kmQ k))] M (fun r M' => r = (if kAt T a = k then 1 else 0) ∧ M' = M) := by
  obtain ⟨⟨hM, hE, -, -⟩, ⟨h2, h3, h4, h5⟩, -⟩ := id h
  have hz := kAt_z hT a
  have q1 := km_lt k (by omega)
  have q2 := km_lt (kAt T a) (by omega)
  have q3 := km_inj (kAt T a) (by omega) k (by omega) hz.2 hk.2
  have hv := (hE a h3 h2).1
  by_cases c : kAt T a = k
  · rw [if_pos c]
    refine qI.of (j := 0) (pn_RX12) rfl ?_
    show qT g kX12_is (qR 0 0 0) (qZI g (fun r M' => r = 1 ∧ M' = M)) 0 [some (.ref 280), some (.int (nI (kmQ k)))] [] 333 M (0, 0)
    refine qi_aload_n (i := 0) (x := 280) dX12_is_0 rfl rfl ?_
    refine qi_getI (x := nI 0) flX12_218 dX12_is_1 rfl (by decide) h5 ?_
    refine qi_if_ne (tgt := 24) dX12_is_4 (by decide) (fun _h => absurd ((nI_eq (a := 0) (b := 0) (by omega) (by omega)).mpr (by omega)) _h) (fun _hc => ?_)
    refine qi_aload_n (i := 0) (x := 280) dX12_is_7 rfl rfl ?_
    refine qi_getR (x := 283) flX12_20 dX12_is_8 rfl (by decide) (hM 280 5 283 rfl) ?_
    refine qi_aload_n (i := 0) (x := 280) dX12_is_11 rfl rfl ?_
    refine qi_getI (x := nI a) flX12_221 dX12_is_12 rfl (by decide) h4 ?_
    refine qi_ialdN (x := nI (kmQ (kAt T a))) (j := a) dX12_is_15 rfl (by decide) rfl (by omega) (by decide) hv ?_
    refine qi_iload_n (i := 1) (x := nI (kmQ k)) dX12_is_16 rfl rfl ?_
    have q4 := q3.mpr c
    refine qi_icmp_ne (tgt := 24) dX12_is_17 (by decide) (fun _h => absurd ((nI_eq (a := kmQ (kAt T a)) (b := kmQ k) (by omega) (by omega)).mpr (by omega)) _h) (fun _hc => ?_)
    refine qi_iconst (v := 1) dX12_is_20 rfl ?_
    refine qi_goto (tgt := 25) dX12_is_21 (by decide) ?_
    exact qi_retI rfl (by rfl) dX12_is_25 (⟨rfl, rfl⟩)
  · rw [if_neg c]
    refine qI.of (j := 0) (pn_RX12) rfl ?_
    show qT g kX12_is (qR 0 0 0) (qZI g (fun r M' => r = 0 ∧ M' = M)) 0 [some (.ref 280), some (.int (nI (kmQ k)))] [] 333 M (0, 0)
    refine qi_aload_n (i := 0) (x := 280) dX12_is_0 rfl rfl ?_
    refine qi_getI (x := nI 0) flX12_218 dX12_is_1 rfl (by decide) h5 ?_
    refine qi_if_ne (tgt := 24) dX12_is_4 (by decide) (fun _h => absurd ((nI_eq (a := 0) (b := 0) (by omega) (by omega)).mpr (by omega)) _h) (fun _hc => ?_)
    refine qi_aload_n (i := 0) (x := 280) dX12_is_7 rfl rfl ?_
    refine qi_getR (x := 283) flX12_20 dX12_is_8 rfl (by decide) (hM 280 5 283 rfl) ?_
    refine qi_aload_n (i := 0) (x := 280) dX12_is_11 rfl rfl ?_
    refine qi_getI (x := nI a) flX12_221 dX12_is_12 rfl (by decide) h4 ?_
    refine qi_ialdN (x := nI (kmQ (kAt T a))) (j := a) dX12_is_15 rfl (by decide) rfl (by omega) (by decide) hv ?_
    refine qi_iload_n (i := 1) (x := nI (kmQ k)) dX12_is_16 rfl rfl ?_
    have q4 : ¬ kmQ (kAt T a) = kmQ k := fun z => c (q3.mp z)
    refine qi_icmp_ne (tgt := 24) dX12_is_17 (by decide) (fun _hc => ?_) (fun _h => absurd ((nI_eq (a := kmQ (kAt T a)) (b := kmQ k) (by omega) (by omega)).mp _h) (by omega))
    refine qi_iconst (v := 0) dX12_is_24 rfl ?_
    exact qi_retI rfl (by rfl) dX12_is_25 (⟨rfl, rfl⟩)
theorem c_X12_failF (g : qG) {M : qM} {S : Nat} {T : qTk} {e : qE} (h : qYF M S T e) (k : Int32) : qV g 0 kX12_fail [.ref 280, .int k] M (fun M' => M' = M) := by
  have hn := h.n
  refine qV.of (j := 0) (pn_RX12) rfl ?_
  show qT g kX12_fail (qR 0 0 0) (qZV g (fun M' => M' = M)) 0 [some (.ref 280), some (.int k)] [] 333 M (0, 0)
  refine qi_aload_n (i := 0) (x := 280) dX12_fail_0 rfl rfl ?_
  refine qi_getI (x := nI e.1) flX12_218 dX12_fail_1 rfl (by decide) h.2.2.1 ?_
  refine qi_if_le (tgt := 8) dX12_fail_4 (by decide) (fun _h => absurd ((nI_leI (a := e.1) (b := 0) (by omega) (by omega)).mp _h) (by omega)) (fun _hc => ?_)
  exact qi_retV rfl dX12_fail_7 (rfl)
theorem c_X12_fail (g : qG) {M : qM} {S : Nat} {T : qTk} {a : Nat} {s : Nat × Nat} {N : qNm} {nc : Nat} (h : qYK M S T a s N nc) {k : Nat} (hk : k = 1 ∨ k = 2) : qV g 0 kX12_fail [.ref 280, .int (nI k)] M (fun M' => qYF M' S T (k, a) ∧ qFr SYt M M') := by
  obtain ⟨hG, ⟨h2, h3, h4, h5⟩, -⟩ := id h
  obtain ⟨hM, hE, -, -⟩ := id hG
  have hv := (hE a h3 h2).2.1
  refine qV.of (j := 0) (pn_RX12) rfl ?_
  show qT g kX12_fail (qR 0 0 0) (qZV g (fun M' => qYF M' S T (k, a) ∧ qFr SYt M M')) 0 [some (.ref 280), some (.int (nI k))] [] 333 M (0, 0)
  refine qi_aload_n (i := 0) (x := 280) dX12_fail_0 rfl rfl ?_
  refine qi_getI (x := nI 0) flX12_218 dX12_fail_1 rfl (by decide) h5 ?_
  refine qi_if_le (tgt := 8) dX12_fail_4 (by decide) (fun _hc => ?_) (fun _h => absurd ((nI_leI (a := 0) (b := 0) (by omega) (by omega)).mpr (by omega)) _h)
  refine qi_aload_n (i := 0) (x := 280) dX12_fail_8 rfl rfl ?_
  refine qi_iload_n (i := 1) (x := nI k) dX12_fail_9 rfl rfl ?_
  refine qi_putI flX12_218 q_cls12 (ty12_13 _) dX12_fail_10 rfl (by decide) ?_
  refine qi_aload_n (i := 0) (x := 280) dX12_fail_13 rfl rfl ?_
  refine qi_aload_n (i := 0) (x := 280) dX12_fail_14 rfl rfl ?_
  refine qi_getR (x := 284) flX12_24 dX12_fail_15 rfl (by decide) (hM 280 6 284 rfl) ?_
  refine qi_aload_n (i := 0) (x := 280) dX12_fail_18 rfl rfl ?_
  refine qi_getI (x := nI a) flX12_221 dX12_fail_19 rfl (by decide) ((wI_k (by decide)).trans h4) ?_
  refine qi_ialdN (x := nI (pAt T a)) (j := a) dX12_fail_22 rfl (by decide) rfl (by omega) (by decide) ((wI_a (by decide)).trans hv) ?_
  refine qi_putI flX12_224 q_cls12 (ty12_14 _) dX12_fail_23 rfl (by decide) ?_
  have F : qFr SYt M (wI (wI M 280 13 (nI k)) 280 14 (nI (pAt T a))) := (qFr.rf.wI (by unfold SYt; omega)).wI (by unfold SYt; omega)
  refine qi_retV rfl dX12_fail_26 (⟨⟨hG.fr F (fun b j z => by unfold SYt at z; omega), ⟨a, h2, ?_⟩, ?_, wI_s _ _ _ _, hk⟩, F⟩)
  · rw [wI_k (by decide), wI_k (by decide), h4]
  · rw [wI_k (by decide), wI_s]
theorem c_X12_goesOnF (g : qG) {M : qM} {S : Nat} {T : qTk} {e : qE} (h : qYF M S T e) : qV g 1 kX12_goesOn [.ref 280] M (fun M' => qYF M' S T e ∧ qFr SYt M M') := by
  obtain ⟨hG, ⟨a, ha, h4⟩, h5, h6, h7⟩ := id h
  refine qV.of (j := 0) (pn_RX12) rfl ?_
  show qT g kX12_goesOn (qR 1 0 0) (qZV g (fun M' => qYF M' S T e ∧ qFr SYt M M')) 0 [some (.ref 280)] [] 333 M (0, 0)
  refine qi_aload_n (i := 0) (x := 280) dX12_goesOn_0 rfl rfl ?_
  refine qi_getI (x := nI a) flX12_221 dX12_goesOn_1 rfl (by decide) h4 ?_
  refine qi_sipush (v := 400) dX12_goesOn_4 rfl ?_
  by_cases c : a = 400
  ·
    refine qi_icmp_ne (tgt := 18) dX12_goesOn_7 (by decide) (fun _h => absurd ((nI_eq (a := a) (b := 400) (by omega) (by omega)).mpr (by omega)) _h) (fun _hc => ?_)
    refine qi_aload_n (i := 0) (x := 280) dX12_goesOn_10 rfl rfl ?_
    refine qi_iconst (v := 2) dX12_goesOn_11 rfl ?_
    refine qi_callVV (K' := kX12_fail) (As := [.int 2]) mlX12_233 okX12_fail dX12_goesOn_12 (c_X12_failF g h 2) rfl (by decide) rfl (by decide) rfl rfl (Nat.le_of_ble_eq_true rfl) ⟨(Nat.le_of_ble_eq_true rfl), (Nat.le_of_ble_eq_true rfl)⟩ ⟨Nat.le_refl _, Nat.le_refl _⟩ (fun M1 e1 => ?_)
    refine qi_goto (tgt := 28) dX12_goesOn_15 (by decide) ?_
    exact qi_retV rfl dX12_goesOn_28 (⟨by rw [e1]; exact h, by rw [e1]; exact qFr.rf⟩)
  ·
    refine qi_icmp_ne (tgt := 18) dX12_goesOn_7 (by decide) (fun _hc => ?_) (fun _h => absurd ((nI_eq (a := a) (b := 400) (by omega) (by omega)).mp _h) (by omega))
    refine qi_aload_n (i := 0) (x := 280) dX12_goesOn_18 rfl rfl ?_
    refine qi_dup dX12_goesOn_19 ?_
    refine qi_getI (x := nI a) flX12_221 dX12_goesOn_20 rfl (by decide) h4 ?_
    refine qi_iconst (v := 1) dX12_goesOn_23 rfl ?_
    refine qi_iadd dX12_goesOn_24 ?_
    refine qe_top (y := nI (a + 1)) (nI_1 a) ?_
    refine qi_putI flX12_221 q_cls12 (ty12_11 _) dX12_goesOn_25 rfl (by decide) ?_
    have F : qFr SYt M (wI M 280 11 (nI (a + 1))) := qFr.rf.wI (by unfold SYt; omega)
    exact qi_retV rfl dX12_goesOn_28 (⟨⟨hG.fr F (fun b j z => by unfold SYt at z; omega), ⟨a + 1, by omega, wI_s _ _ _ _⟩, (wI_k (by decide)).trans h5, (wI_k (by decide)).trans h6, h7⟩, F⟩)
theorem qYK.at {M : qM} {S : Nat} {T : qTk} {a : Nat} {s : Nat × Nat} {N : qNm} {nc : Nat} (h : qYK M S T a s N nc) (h4 : a + 1 ≤ 400) (h5 : a + 1 ≤ T.1) : qYK (wI M 280 11 (nI (a + 1))) S T (a + 1) s N nc := by
  obtain ⟨h1, ⟨g2, g3, g4, g5⟩, ⟨g6, g7, g8⟩, g9⟩ := h
  have F : qFr (fun b j => b = 280 ∧ j = 11) M (wI M 280 11 (nI (a + 1))) := qFr.rf.wI ⟨rfl, rfl⟩
  exact ⟨h1.fr F (fun b j z => by omega), ⟨h4, h5, wI_s _ _ _ _, (wI_k (by decide)).trans g5⟩, ⟨(wI_k (by decide)).trans g6, g7, fun z => ⟨(wI_k (by decide)).trans (g8 z).1, by have := (g8 z).2; omega⟩⟩, g9.fr F (fun b j z => by omega)⟩
theorem c_X12_goesOn (g : qG) {M : qM} {S : Nat} {T : qTk} {a : Nat} {s : Nat × Nat} {N : qNm} {nc : Nat} (h : qYK M S T a s N nc) {k : Nat} (hk : kAt T a = k) (hk0 : ¬ k = 0) : qV g 1 kX12_goesOn [.ref 280] M (fun M' => qPy S T (acQ T k a) (fun a1 M' => qYK M' S T a1 s N nc) M' ∧ qFr SYt M M') := by
  obtain ⟨hG, ⟨h2, h3, h4, h5⟩, -⟩ := id h
  have hin := kAt_in hk hk0
  refine qV.of (j := 0) (pn_RX12) rfl ?_
  show qT g kX12_goesOn (qR 1 0 0) (qZV g (fun M' => qPy S T (acQ T k a) (fun a1 M' => qYK M' S T a1 s N nc) M' ∧ qFr SYt M M')) 0 [some (.ref 280)] [] 333 M (0, 0)
  refine qi_aload_n (i := 0) (x := 280) dX12_goesOn_0 rfl rfl ?_
  refine qi_getI (x := nI a) flX12_221 dX12_goesOn_1 rfl (by decide) h4 ?_
  refine qi_sipush (v := 400) dX12_goesOn_4 rfl ?_
  by_cases c : a = 400
  ·
    refine qi_icmp_ne (tgt := 18) dX12_goesOn_7 (by decide) (fun _h => absurd ((nI_eq (a := a) (b := 400) (by omega) (by omega)).mpr (by omega)) _h) (fun _hc => ?_)
    refine qi_aload_n (i := 0) (x := 280) dX12_goesOn_10 rfl rfl ?_
    refine qi_iconst (v := 2) dX12_goesOn_11 rfl ?_
    refine qi_callVV (K' := kX12_fail) (As := [.int 2]) mlX12_233 okX12_fail dX12_goesOn_12 (c_X12_fail g h (k := 2) (Or.inr rfl)) rfl (by decide) rfl (by decide) rfl rfl (Nat.le_of_ble_eq_true rfl) ⟨(Nat.le_of_ble_eq_true rfl), (Nat.le_of_ble_eq_true rfl)⟩ ⟨Nat.le_refl _, Nat.le_refl _⟩ (fun M1 ⟨e1, f1⟩ => ?_)
    refine qi_goto (tgt := 28) dX12_goesOn_15 (by decide) ?_
    have er : acQ T k a = .error (2, a) := by unfold acQ; rw [if_neg (fun z => z hk), if_pos (by omega)]
    exact qi_retV rfl dX12_goesOn_28 (⟨qPy_ie er e1, f1⟩)
  ·
    refine qi_icmp_ne (tgt := 18) dX12_goesOn_7 (by decide) (fun _hc => ?_) (fun _h => absurd ((nI_eq (a := a) (b := 400) (by omega) (by omega)).mp _h) (by omega))
    refine qi_aload_n (i := 0) (x := 280) dX12_goesOn_18 rfl rfl ?_
    refine qi_dup dX12_goesOn_19 ?_
    refine qi_getI (x := nI a) flX12_221 dX12_goesOn_20 rfl (by decide) h4 ?_
    refine qi_iconst (v := 1) dX12_goesOn_23 rfl ?_
    refine qi_iadd dX12_goesOn_24 ?_
    refine qe_top (y := nI (a + 1)) (nI_1 a) ?_
    refine qi_putI flX12_221 q_cls12 (ty12_11 _) dX12_goesOn_25 rfl (by decide) ?_
    have er : acQ T k a = .ok (a + 1) := by unfold acQ; rw [if_neg (fun z => z hk), if_neg (by omega)]
    exact qi_retV rfl dX12_goesOn_28 (⟨qPy_io er (h.at (by omega) (by omega)), qFr.rf.wI (by unfold SYt; omega)⟩)
theorem c_X12_mustF (g : qG) {M : qM} {S : Nat} {T : qTk} {e : qE} (h : qYF M S T e) (k : Int32) : qV g 2 kX12_must [.ref 280, .int k] M (fun M' => M' = M) := by
  refine qV.of (j := 0) (pn_RX12) rfl ?_
  show qT g kX12_must (qR 2 0 0) (qZV g (fun M' => M' = M)) 0 [some (.ref 280), some (.int k)] [] 333 M (0, 0)
  refine qi_aload_n (i := 0) (x := 280) dX12_must_0 rfl rfl ?_
  refine qi_iload_n (i := 1) (x := k) dX12_must_1 rfl rfl ?_
  refine qi_callPVI (v := 0) (K' := kX12_is) (As := [.int k]) mlX12_236 okX12_is dX12_must_2 (c_X12_isF g h k) rfl (by decide) rfl (by decide) rfl rfl (Nat.le_of_ble_eq_true rfl) ⟨(Nat.le_of_ble_eq_true rfl), (Nat.le_of_ble_eq_true rfl)⟩ ⟨Nat.le_refl _, Nat.le_refl _⟩ ?_
  refine qi_if_eq (tgt := 15) dX12_must_5 (by decide) (fun z => ?_) (fun z => False.elim ((z rfl)))
  refine qi_aload_n (i := 0) (x := 280) dX12_must_15 rfl rfl ?_
  refine qi_iconst (v := 1) dX12_must_16 rfl ?_
  refine qi_callVV (K' := kX12_fail) (As := [.int 1]) mlX12_233 okX12_fail dX12_must_17 (c_X12_failF g h 1) rfl (by decide) rfl (by decide) rfl rfl (Nat.le_of_ble_eq_true rfl) ⟨(Nat.le_of_ble_eq_true rfl), (Nat.le_of_ble_eq_true rfl)⟩ ⟨Nat.le_refl _, Nat.le_refl _⟩ (fun M1 e1 => ?_)
  exact qi_retV rfl dX12_must_20 (e1)
theorem c_X12_must (g : qG) {M : qM} {S : Nat} {T : qTk} {a : Nat} {s : Nat × Nat} {N : qNm} {nc : Nat} (hT : okTk T) (h : qYK M S T a s N nc) {k : Nat} (hk : okKz k) (hk0 : ¬ k = 0) : qV g 2 kX12_must [.ref 280, .int (nI (kmQ k))] M (fun M' => qPy S T (acQ T k a) (fun a1 M' => qYK M' S T a1 s N nc) M' ∧ qFr SYt M M') := by
  refine qV.of (j := 0) (pn_RX12) rfl ?_
  show qT g kX12_must (qR 2 0 0) (qZV g (fun M' => qPy S T (acQ T k a) (fun a1 M' => qYK M' S T a1 s N nc) M' ∧ qFr SYt M M')) 0 [some (.ref 280), some (.int (nI (kmQ k)))] [] 333 M (0, 0)
  refine qi_aload_n (i := 0) (x := 280) dX12_must_0 rfl rfl ?_
  refine qi_iload_n (i := 1) (x := nI (kmQ k)) dX12_must_1 rfl rfl ?_
  refine qi_callPVI (v := (if kAt T a = k then 1 else 0)) (K' := kX12_is) (As := [.int (nI (kmQ k))]) mlX12_236 okX12_is dX12_must_2 (c_X12_is g hT h hk) rfl (by decide) rfl (by decide) rfl rfl (Nat.le_of_ble_eq_true rfl) ⟨(Nat.le_of_ble_eq_true rfl), (Nat.le_of_ble_eq_true rfl)⟩ ⟨Nat.le_refl _, Nat.le_refl _⟩ ?_
  by_cases c : kAt T a = k
  ·
    rw [if_pos c]
    refine qi_if_eq (tgt := 15) dX12_must_5 (by decide) (fun z => False.elim ((by cases z))) (fun z => ?_)
    refine qi_aload_n (i := 0) (x := 280) dX12_must_8 rfl rfl ?_
    refine qi_callVV (K' := kX12_goesOn) (As := []) mlX12_239 okX12_goesOn dX12_must_9 (c_X12_goesOn g h c hk0) rfl (by decide) rfl (by decide) rfl rfl (Nat.le_of_ble_eq_true rfl) ⟨(Nat.le_of_ble_eq_true rfl), (Nat.le_of_ble_eq_true rfl)⟩ ⟨Nat.le_refl _, Nat.le_refl _⟩ (fun M1 h1 => ?_)
    refine qi_goto (tgt := 20) dX12_must_12 (by decide) ?_
    exact qi_retV rfl dX12_must_20 (h1)
  ·
    rw [if_neg c]
    refine qi_if_eq (tgt := 15) dX12_must_5 (by decide) (fun z => ?_) (fun z => False.elim ((z rfl)))
    refine qi_aload_n (i := 0) (x := 280) dX12_must_15 rfl rfl ?_
    refine qi_iconst (v := 1) dX12_must_16 rfl ?_
    refine qi_callVV (K' := kX12_fail) (As := [.int 1]) mlX12_233 okX12_fail dX12_must_17 (c_X12_fail g h (k := 1) (Or.inl rfl)) rfl (by decide) rfl (by decide) rfl rfl (Nat.le_of_ble_eq_true rfl) ⟨(Nat.le_of_ble_eq_true rfl), (Nat.le_of_ble_eq_true rfl)⟩ ⟨Nat.le_refl _, Nat.le_refl _⟩ (fun M1 ⟨e1, f1⟩ => ?_)
    have er : acQ T k a = .error (1, a) := by unfold acQ; rw [if_pos c]
    exact qi_retV rfl dX12_must_20 (⟨qPy_ie er e1, f1⟩)
theorem c_X12_roomFor (g : qG) {M : qM} {S : Nat} {T : qTk} {a : Nat} {s : Nat × Nat} {N : qNm} {nc : Nat} (h : qYK M S T a s N nc) {k n m : Nat} (hk : kAt T a = k) (hk0 : ¬ k = 0) (hn : n ≤ m) (hm : m ≤ 16) : qV g 2 kX12_roomFor [.ref 280, .int (nI n), .int (nI m)] M (fun M' => qPy S T (opQ T k n m a) (fun a1 M' => qYK M' S T a1 s N nc) M' ∧ qFr SYt M M') := by
  refine qV.of (j := 0) (pn_RX12) rfl ?_
  show qT g kX12_roomFor (qR 2 0 0) (qZV g (fun M' => qPy S T (opQ T k n m a) (fun a1 M' => qYK M' S T a1 s N nc) M' ∧ qFr SYt M M')) 0 [some (.ref 280), some (.int (nI n)), some (.int (nI m))] [] 333 M (0, 0)
  refine qi_iload_n (i := 1) (x := nI n) dX12_roomFor_0 rfl rfl ?_
  refine qi_iload_n (i := 2) (x := nI m) dX12_roomFor_1 rfl rfl ?_
  by_cases c : n = m
  ·
    rw [show opQ T k n m a = .error (2, a) from if_pos (show m ≤ n by omega)]
    refine qi_icmp_ne (tgt := 10) dX12_roomFor_2 (by decide) (fun _h => absurd ((nI_eq (a := n) (b := m) (by omega) (by omega)).mpr (by omega)) _h) (fun _hc => ?_)
    refine qi_aload_n (i := 0) (x := 280) dX12_roomFor_5 rfl rfl ?_
    refine qi_iconst (v := 2) dX12_roomFor_6 rfl ?_
    refine qi_callVV (K' := kX12_fail) (As := [.int 2]) mlX12_233 okX12_fail dX12_roomFor_7 (c_X12_fail g h (k := 2) (Or.inr rfl)) rfl (by decide) rfl (by decide) rfl rfl (Nat.le_of_ble_eq_true rfl) ⟨(Nat.le_of_ble_eq_true rfl), (Nat.le_of_ble_eq_true rfl)⟩ ⟨Nat.le_refl _, Nat.le_refl _⟩ (fun M1 ⟨e1, f1⟩ => ?_)
    refine qi_aload_n (i := 0) (x := 280) dX12_roomFor_10 rfl rfl ?_
    refine qi_getI (x := nI 2) flX12_218 dX12_roomFor_11 rfl (by decide) e1.2.2.1 ?_
    refine qi_if_ne (tgt := 21) dX12_roomFor_14 (by decide) (fun _hc => ?_) (fun _h => absurd ((nI_eq (a := 2) (b := 0) (by omega) (by omega)).mp _h) (by omega))
    exact qi_retV rfl dX12_roomFor_21 (⟨e1, f1⟩)
  ·
    rw [show opQ T k n m a = acQ T k a from if_neg (show ¬ m ≤ n by omega)]
    refine qi_icmp_ne (tgt := 10) dX12_roomFor_2 (by decide) (fun _hc => ?_) (fun _h => absurd ((nI_eq (a := n) (b := m) (by omega) (by omega)).mp _h) (by omega))
    refine qi_aload_n (i := 0) (x := 280) dX12_roomFor_10 rfl rfl ?_
    refine qi_getI (x := nI 0) flX12_218 dX12_roomFor_11 rfl (by decide) h.2.1.2.2.2 ?_
    refine qi_if_ne (tgt := 21) dX12_roomFor_14 (by decide) (fun _h => absurd ((nI_eq (a := 0) (b := 0) (by omega) (by omega)).mpr (by omega)) _h) (fun _hc => ?_)
    refine qi_aload_n (i := 0) (x := 280) dX12_roomFor_17 rfl rfl ?_
    refine qi_callVV (K' := kX12_goesOn) (As := []) mlX12_239 okX12_goesOn dX12_roomFor_18 (c_X12_goesOn g h hk hk0) rfl (by decide) rfl (by decide) rfl rfl (Nat.le_of_ble_eq_true rfl) ⟨(Nat.le_of_ble_eq_true rfl), (Nat.le_of_ble_eq_true rfl)⟩ ⟨Nat.le_refl _, Nat.le_refl _⟩ (fun M1 h1 => ?_)
    exact qi_retV rfl dX12_roomFor_21 (h1)
theorem c_X12_wrong (g : qG) {M : qM} {S : Nat} {T : qTk} {a : Nat} {s : Nat × Nat} {N : qNm} {nc : Nat} (hT : okTk T) (h : qYK M S T a s N nc) {k i : Nat} (hk : 0 < k) (hk5 : k ≤ 5) (hi : i ≤ a) (hsi : ¬ s.1 = 0 → s.2 < i ∨ (s.2 = i ∧ s.1 ≤ k)) : qV g 0 kX12_wrong [.ref 280, .int (nI k), .int (nI i)] M (fun M' => qYK M' S T a (slQ s k i) N nc ∧ qFr SYw M M') := by
  obtain ⟨hG, ⟨h2, h3, h4, h5⟩, ⟨h6, h7, h8⟩, hN⟩ := id h
  obtain ⟨hM, hE, -, -⟩ := id hG
  have hv := (hE i (by omega) (by omega)).2.1
  have hpi := pAt_le hT i
  have OUT : slQ s k i = s → qT g kX12_wrong (qR 0 0 0) (qZV g (fun M' => qYK M' S T a (slQ s k i) N nc ∧ qFr SYw M M')) 45 [some (.ref 280), some (.int (nI k)), some (.int (nI i)), some (.int (nI (pAt T i)))] [] 333 M (0, 0) := by
    intro e
    rw [e]
    exact qi_retV rfl dX12_wrong_45 (⟨h, qFr.rf⟩)
  refine qV.of (j := 1) (pn_RX12) rfl ?_
  show qT g kX12_wrong (qR 0 0 0) (qZV g (fun M' => qYK M' S T a (slQ s k i) N nc ∧ qFr SYw M M')) 0 [some (.ref 280), some (.int (nI k)), some (.int (nI i)), none] [] 333 M (0, 0)
  refine qi_aload_n (i := 0) (x := 280) dX12_wrong_0 rfl rfl ?_
  refine qi_getR (x := 284) flX12_24 dX12_wrong_1 rfl (by decide) (hM 280 6 284 rfl) ?_
  refine qi_iload_n (i := 2) (x := nI i) dX12_wrong_4 rfl rfl ?_
  refine qi_ialdN (x := nI (pAt T i)) (j := i) dX12_wrong_5 rfl (by decide) rfl (by omega) (by decide) hv ?_
  refine qi_istore_n (i := 3) (L2 := [some (.ref 280), some (.int (nI k)), some (.int (nI i)), some (.int (nI (pAt T i)))]) dX12_wrong_6 rfl (Nat.le_of_ble_eq_true rfl) rfl ?_
  refine qi_aload_n (i := 0) (x := 280) dX12_wrong_7 rfl rfl ?_
  refine qi_getI (x := nI 0) flX12_218 dX12_wrong_8 rfl (by decide) h5 ?_
  refine qi_if_gt (tgt := 45) dX12_wrong_11 (by decide) (fun _h => absurd ((nI_ltI (a := 0) (b := 0) (by omega) (by omega)).mp _h) (by omega)) (fun _hc => ?_)
  refine qi_aload_n (i := 0) (x := 280) dX12_wrong_14 rfl rfl ?_
  refine qi_getI (x := nI s.1) flX12_227 dX12_wrong_15 rfl (by decide) h6 ?_
  by_cases c : s.1 = 0
  ·
    have e : slQ s k i = (k, i) := if_pos c
    rw [e]
    refine qi_if_eq (tgt := 46) dX12_wrong_18 (by decide) (fun _hc => ?_) (fun _h => absurd ((nI_eq (a := s.1) (b := 0) (by omega) (by omega)).mpr (by omega)) _h)
    refine qi_aload_n (i := 0) (x := 280) dX12_wrong_46 rfl rfl ?_
    refine qi_iload_n (i := 1) (x := nI k) dX12_wrong_47 rfl rfl ?_
    refine qi_putI flX12_227 q_cls12 (ty12_15 _) dX12_wrong_48 rfl (by decide) ?_
    refine qi_aload_n (i := 0) (x := 280) dX12_wrong_51 rfl rfl ?_
    refine qi_iload_n (i := 3) (x := nI (pAt T i)) dX12_wrong_52 rfl rfl ?_
    refine qi_putI flX12_230 q_cls12 (ty12_16 _) dX12_wrong_53 rfl (by decide) ?_
    have F : qFr SYw M (wI (wI M 280 15 (nI k)) 280 16 (nI (pAt T i))) := (qFr.rf.wI (by unfold SYw; omega)).wI (by unfold SYw; omega)
    refine qi_retV rfl dX12_wrong_56 (⟨⟨hG.fr F (fun b j z => by unfold SYw at z; omega), ⟨h2, h3, ?_, ?_⟩, ⟨?_, hk5, fun _ => ⟨wI_s _ _ _ _, hi⟩⟩, (hN.fr F (fun b j z => by unfold SYw at z; omega)).sl (fun z => absurd z (by omega))⟩, F⟩)
    · rw [wI_k (by decide), wI_k (by decide), h4]
    · rw [wI_k (by decide), wI_k (by decide), h5]
    · rw [wI_k (by decide), wI_s]
  ·
    have e : slQ s k i = s := if_neg c
    have hp := (h8 c).1
    have hps := pAt_le hT s.2
    refine qi_if_eq (tgt := 46) dX12_wrong_18 (by decide) (fun _h => absurd ((nI_eq (a := s.1) (b := 0) (by omega) (by omega)).mp _h) (by omega)) (fun _hc => ?_)
    refine qi_iload_n (i := 3) (x := nI (pAt T i)) dX12_wrong_21 rfl rfl ?_
    refine qi_aload_n (i := 0) (x := 280) dX12_wrong_22 rfl rfl ?_
    refine qi_getI (x := nI (pAt T s.2)) flX12_230 dX12_wrong_23 rfl (by decide) hp ?_
    rcases hsi c with d | ⟨d, d2⟩
    ·
      have lt := pAt_lt hT d (by omega)
      refine qi_icmp_gt (tgt := 45) dX12_wrong_26 (by decide) (fun _hc => ?_) (fun _h => absurd ((nI_ltI (a := pAt T s.2) (b := pAt T i) (by omega) (by omega)).mpr (by omega)) _h)
      exact OUT e
    ·
      have e2 : pAt T s.2 = pAt T i := by rw [d]
      refine qi_icmp_gt (tgt := 45) dX12_wrong_26 (by decide) (fun _h => absurd ((nI_ltI (a := pAt T s.2) (b := pAt T i) (by omega) (by omega)).mp _h) (by omega)) (fun _hc => ?_)
      refine qi_iload_n (i := 3) (x := nI (pAt T i)) dX12_wrong_29 rfl rfl ?_
      refine qi_aload_n (i := 0) (x := 280) dX12_wrong_30 rfl rfl ?_
      refine qi_getI (x := nI (pAt T s.2)) flX12_230 dX12_wrong_31 rfl (by decide) hp ?_
      refine qi_icmp_ne (tgt := 46) dX12_wrong_34 (by decide) (fun _h => absurd ((nI_eq (a := pAt T i) (b := pAt T s.2) (by omega) (by omega)).mpr (by omega)) _h) (fun _hc => ?_)
      refine qi_iload_n (i := 1) (x := nI k) dX12_wrong_37 rfl rfl ?_
      refine qi_aload_n (i := 0) (x := 280) dX12_wrong_38 rfl rfl ?_
      refine qi_getI (x := nI s.1) flX12_227 dX12_wrong_39 rfl (by decide) h6 ?_
      refine qi_icmp_lt (tgt := 46) dX12_wrong_42 (by decide) (fun _h => absurd ((nI_ltI (a := k) (b := s.1) (by omega) (by omega)).mp _h) (by omega)) (fun _hc => ?_)
      exact OUT e
theorem c_X12_emit (g : qG) {M : qM} (hM : qRf M) {cd : Nat} (hc : M.1 280 50 = nI cd) (hb : cd < 840) (k v : Int32) : qV g 0 kX12_emit [.ref 280, .int k, .int v] M (fun M' => M' = wI (wI (wI M 316 cd k) 317 cd v) 280 50 (nI (cd + 1))) := by
  refine qV.of (j := 0) (pn_RX12) rfl ?_
  show qT g kX12_emit (qR 0 0 0) (qZV g (fun M' => M' = wI (wI (wI M 316 cd k) 317 cd v) 280 50 (nI (cd + 1)))) 0 [some (.ref 280), some (.int k), some (.int v)] [] 333 M (0, 0)
  refine qi_aload_n (i := 0) (x := 280) dX12_emit_0 rfl rfl ?_
  refine qi_getR (x := 316) flX12_125 dX12_emit_1 rfl (by decide) (hM 280 51 316 rfl) ?_
  refine qi_aload_n (i := 0) (x := 280) dX12_emit_4 rfl rfl ?_
  refine qi_getI (x := nI cd) flX12_260 dX12_emit_5 rfl (by decide) hc ?_
  refine qi_iload_n (i := 1) (x := k) dX12_emit_8 rfl rfl ?_
  refine qi_iastN (j := cd) dX12_emit_9 rfl (by decide) rfl (by omega) (by decide) ?_
  refine qi_aload_n (i := 0) (x := 280) dX12_emit_10 rfl rfl ?_
  refine qi_getR (x := 317) flX12_128 dX12_emit_11 rfl (by decide) (hM 280 52 317 rfl) ?_
  refine qi_aload_n (i := 0) (x := 280) dX12_emit_14 rfl rfl ?_
  refine qi_getI (x := nI cd) flX12_260 dX12_emit_15 rfl (by decide) ((wI_a (by decide)).trans hc) ?_
  refine qi_iload_n (i := 2) (x := v) dX12_emit_18 rfl rfl ?_
  refine qi_iastN (j := cd) dX12_emit_19 rfl (by decide) rfl (by omega) (by decide) ?_
  refine qi_aload_n (i := 0) (x := 280) dX12_emit_20 rfl rfl ?_
  refine qi_dup dX12_emit_21 ?_
  refine qi_getI (x := nI cd) flX12_260 dX12_emit_22 rfl (by decide) ((wI_a (by decide)).trans ((wI_a (by decide)).trans hc)) ?_
  refine qi_iconst (v := 1) dX12_emit_25 rfl ?_
  refine qi_iadd dX12_emit_26 ?_
  refine qe_top (y := nI (cd + 1)) (nI_1 cd) ?_
  refine qi_putI flX12_260 q_cls12 (ty12_50 _) dX12_emit_27 rfl (by decide) ?_
  exact qi_retV rfl dX12_emit_30 (rfl)
