/-! reading: bytes and tokens -/
/-- the reference's text -/
def qTxM (M : qM) (t : qTp) : Prop := M.1 280 4 = nI t.1 ∧ ∀ k, k < t.1 → (∃ z : Int8, M.1 282 k = z.toInt32) ∧ M.1 282 k &&& 255 = nI (t.2 k)
def byQ (t : qTp) (k : Nat) : Nat := if k < t.1 then t.2 k else 0
theorem c_X12_byteAt (g : qG) {M : qM} (hM : qRf M) {t : qTp} (hT : qTxM M t) (h2 : t.1 ≤ 2000) {k : Nat} (hk : k < 2 ^ 31) : qI g 0 kX12_byteAt [.ref 280, .int (nI k)] M (fun r M' => r = nI (byQ t k) ∧ M' = M) := by
  unfold byQ
  by_cases hc : k < t.1
  · rw [if_pos hc]
    refine qI.of (j := 0) (pn_RX12) rfl ?_
    show qT g kX12_byteAt (qR 0 0 0) (qZI g (fun r M' => r = (nI (t.2 k)) ∧ M' = M)) 0 [some (.ref 280), some (.int (nI k))] [] 333 M (0, 0)
    refine qi_iload_n (i := 1) (x := nI k) dX12_byteAt_0 rfl rfl ?_
    refine qi_aload_n (i := 0) (x := 280) dX12_byteAt_1 rfl rfl ?_
    refine qi_getI (x := nI t.1) flX12_187 dX12_byteAt_2 rfl (by decide) hT.1 ?_
    refine qi_icmp_ge (tgt := 21) dX12_byteAt_5 (by decide) (fun _h => absurd ((nI_leI (a := t.1) (b := k) (by omega) (by omega)).mp _h) (by omega)) (fun _hc => ?_)
    refine qi_aload_n (i := 0) (x := 280) dX12_byteAt_8 rfl rfl ?_
    refine qi_getR (x := 282) flX12_17 dX12_byteAt_9 rfl (by decide) (hM 280 3 282 rfl) ?_
    refine qi_iload_n (i := 1) (x := nI k) dX12_byteAt_12 rfl rfl ?_
    refine qi_baldN (x := M.1 282 k) (j := k) dX12_byteAt_13 rfl (by decide) rfl (by omega) (by decide) rfl ?_
    refine qi_sipush (v := 255) dX12_byteAt_14 rfl ?_
    refine qi_iand dX12_byteAt_17 ?_
    refine qi_goto (tgt := 22) dX12_byteAt_18 (by decide) ?_
    exact qi_retI rfl rfl dX12_byteAt_22 (⟨(hT.2 k hc).2, rfl⟩)
  · rw [if_neg hc]
    refine qI.of (j := 0) (pn_RX12) rfl ?_
    show qT g kX12_byteAt (qR 0 0 0) (qZI g (fun r M' => r = (nI 0) ∧ M' = M)) 0 [some (.ref 280), some (.int (nI k))] [] 333 M (0, 0)
    refine qi_iload_n (i := 1) (x := nI k) dX12_byteAt_0 rfl rfl ?_
    refine qi_aload_n (i := 0) (x := 280) dX12_byteAt_1 rfl rfl ?_
    refine qi_getI (x := nI t.1) flX12_187 dX12_byteAt_2 rfl (by decide) hT.1 ?_
    refine qi_icmp_ge (tgt := 21) dX12_byteAt_5 (by decide) (fun _hc => ?_) (fun _h => absurd ((nI_leI (a := t.1) (b := k) (by omega) (by omega)).mpr (by omega)) _h)
    refine qi_iconst (v := 0) dX12_byteAt_21 rfl ?_
    exact qi_retI rfl rfl dX12_byteAt_22 (⟨rfl, rfl⟩)
def isLq (c : Nat) : Prop := 97 ≤ c ∧ c ≤ 122
def isDq (c : Nat) : Prop := 48 ≤ c ∧ c ≤ 57
def isBq (c : Nat) : Prop := c = 9 ∨ c = 10 ∨ c = 13 ∨ c = 32
theorem c_X12_isLetter (g : qG) {M : qM} {c : Nat} (hc : c < 2 ^ 31) : qI g 0 kX12_isLetter [.int (nI c)] M (fun r M' => (r = 0 ∨ r = 1) ∧ (¬ r = 0 ↔ isLq c) ∧ M' = M) := by
  unfold isLq
  refine qI.of (j := 0) (pn_RX12) rfl ?_
  show qT g kX12_isLetter (qR 0 0 0) (qZI g (fun r M' => (r = 0 ∨ r = 1) ∧ (¬ r = 0 ↔ 97 ≤ c ∧ c ≤ 122) ∧ M' = M)) 0 [some (.int (nI c))] [] 333 M (0, 0)
  by_cases h1 : 97 ≤ c
  · by_cases h2 : c ≤ 122
    ·
      refine qi_iload_n (i := 0) (x := nI c) dX12_isLetter_0 rfl rfl ?_
      refine qi_bipush (v := 97) dX12_isLetter_1 rfl ?_
      refine qi_icmp_lt (tgt := 16) dX12_isLetter_3 (by decide) (fun _h => absurd ((nI_ltI (a := c) (b := 97) (by omega) (by omega)).mp _h) (by omega)) (fun _hc => ?_)
      refine qi_iload_n (i := 0) (x := nI c) dX12_isLetter_6 rfl rfl ?_
      refine qi_bipush (v := 122) dX12_isLetter_7 rfl ?_
      refine qi_icmp_gt (tgt := 16) dX12_isLetter_9 (by decide) (fun _h => absurd ((nI_ltI (a := 122) (b := c) (by omega) (by omega)).mp _h) (by omega)) (fun _hc => ?_)
      refine qi_iconst (v := 1) dX12_isLetter_12 rfl ?_
      refine qi_goto (tgt := 17) dX12_isLetter_13 (by decide) ?_
      exact qi_retI rfl (by rfl) dX12_isLetter_17 (⟨Or.inr rfl, ⟨fun _ => ⟨h1, h2⟩, fun _ => by decide⟩, rfl⟩)
    ·
      refine qi_iload_n (i := 0) (x := nI c) dX12_isLetter_0 rfl rfl ?_
      refine qi_bipush (v := 97) dX12_isLetter_1 rfl ?_
      refine qi_icmp_lt (tgt := 16) dX12_isLetter_3 (by decide) (fun _h => absurd ((nI_ltI (a := c) (b := 97) (by omega) (by omega)).mp _h) (by omega)) (fun _hc => ?_)
      refine qi_iload_n (i := 0) (x := nI c) dX12_isLetter_6 rfl rfl ?_
      refine qi_bipush (v := 122) dX12_isLetter_7 rfl ?_
      refine qi_icmp_gt (tgt := 16) dX12_isLetter_9 (by decide) (fun _hc => ?_) (fun _h => absurd ((nI_ltI (a := 122) (b := c) (by omega) (by omega)).mpr (by omega)) _h)
      refine qi_iconst (v := 0) dX12_isLetter_16 rfl ?_
      exact qi_retI rfl (by rfl) dX12_isLetter_17 (⟨Or.inl rfl, ⟨fun z => absurd rfl z, fun z => absurd z.2 h2⟩, rfl⟩)
  ·
    refine qi_iload_n (i := 0) (x := nI c) dX12_isLetter_0 rfl rfl ?_
    refine qi_bipush (v := 97) dX12_isLetter_1 rfl ?_
    refine qi_icmp_lt (tgt := 16) dX12_isLetter_3 (by decide) (fun _hc => ?_) (fun _h => absurd ((nI_ltI (a := c) (b := 97) (by omega) (by omega)).mpr (by omega)) _h)
    refine qi_iconst (v := 0) dX12_isLetter_16 rfl ?_
    exact qi_retI rfl (by rfl) dX12_isLetter_17 (⟨Or.inl rfl, ⟨fun z => absurd rfl z, fun z => absurd z.1 h1⟩, rfl⟩)
theorem c_X8_isLetter (g : qG) {M : qM} {c : Nat} (hc : c < 2 ^ 31) : qI g 0 kX8_isLetter [.int (nI c)] M (fun r M' => (r = 0 ∨ r = 1) ∧ (¬ r = 0 ↔ isLq c) ∧ M' = M) := by
  unfold isLq
  refine qI.of (j := 0) (pn_RX8) rfl ?_
  show qT g kX8_isLetter (qR 0 0 0) (qZI g (fun r M' => (r = 0 ∨ r = 1) ∧ (¬ r = 0 ↔ 97 ≤ c ∧ c ≤ 122) ∧ M' = M)) 0 [some (.int (nI c))] [] 333 M (0, 0)
  by_cases h1 : 97 ≤ c
  · by_cases h2 : c ≤ 122
    ·
      refine qi_iload_n (i := 0) (x := nI c) dX8_isLetter_0 rfl rfl ?_
      refine qi_bipush (v := 97) dX8_isLetter_1 rfl ?_
      refine qi_icmp_lt (tgt := 16) dX8_isLetter_3 (by decide) (fun _h => absurd ((nI_ltI (a := c) (b := 97) (by omega) (by omega)).mp _h) (by omega)) (fun _hc => ?_)
      refine qi_iload_n (i := 0) (x := nI c) dX8_isLetter_6 rfl rfl ?_
      refine qi_bipush (v := 122) dX8_isLetter_7 rfl ?_
      refine qi_icmp_gt (tgt := 16) dX8_isLetter_9 (by decide) (fun _h => absurd ((nI_ltI (a := 122) (b := c) (by omega) (by omega)).mp _h) (by omega)) (fun _hc => ?_)
      refine qi_iconst (v := 1) dX8_isLetter_12 rfl ?_
      refine qi_goto (tgt := 17) dX8_isLetter_13 (by decide) ?_
      exact qi_retI rfl (by rfl) dX8_isLetter_17 (⟨Or.inr rfl, ⟨fun _ => ⟨h1, h2⟩, fun _ => by decide⟩, rfl⟩)
    ·
      refine qi_iload_n (i := 0) (x := nI c) dX8_isLetter_0 rfl rfl ?_
      refine qi_bipush (v := 97) dX8_isLetter_1 rfl ?_
      refine qi_icmp_lt (tgt := 16) dX8_isLetter_3 (by decide) (fun _h => absurd ((nI_ltI (a := c) (b := 97) (by omega) (by omega)).mp _h) (by omega)) (fun _hc => ?_)
      refine qi_iload_n (i := 0) (x := nI c) dX8_isLetter_6 rfl rfl ?_
      refine qi_bipush (v := 122) dX8_isLetter_7 rfl ?_
      refine qi_icmp_gt (tgt := 16) dX8_isLetter_9 (by decide) (fun _hc => ?_) (fun _h => absurd ((nI_ltI (a := 122) (b := c) (by omega) (by omega)).mpr (by omega)) _h)
      refine qi_iconst (v := 0) dX8_isLetter_16 rfl ?_
      exact qi_retI rfl (by rfl) dX8_isLetter_17 (⟨Or.inl rfl, ⟨fun z => absurd rfl z, fun z => absurd z.2 h2⟩, rfl⟩)
  ·
    refine qi_iload_n (i := 0) (x := nI c) dX8_isLetter_0 rfl rfl ?_
    refine qi_bipush (v := 97) dX8_isLetter_1 rfl ?_
    refine qi_icmp_lt (tgt := 16) dX8_isLetter_3 (by decide) (fun _hc => ?_) (fun _h => absurd ((nI_ltI (a := c) (b := 97) (by omega) (by omega)).mpr (by omega)) _h)
    refine qi_iconst (v := 0) dX8_isLetter_16 rfl ?_
    exact qi_retI rfl (by rfl) dX8_isLetter_17 (⟨Or.inl rfl, ⟨fun z => absurd rfl z, fun z => absurd z.1 h1⟩, rfl⟩)
theorem c_X12_isDigit (g : qG) {M : qM} {c : Nat} (hc : c < 2 ^ 31) : qI g 0 kX12_isDigit [.int (nI c)] M (fun r M' => (r = 0 ∨ r = 1) ∧ (¬ r = 0 ↔ isDq c) ∧ M' = M) := by
  unfold isDq
  refine qI.of (j := 0) (pn_RX12) rfl ?_
  show qT g kX12_isDigit (qR 0 0 0) (qZI g (fun r M' => (r = 0 ∨ r = 1) ∧ (¬ r = 0 ↔ 48 ≤ c ∧ c ≤ 57) ∧ M' = M)) 0 [some (.int (nI c))] [] 333 M (0, 0)
  by_cases h1 : 48 ≤ c
  · by_cases h2 : c ≤ 57
    ·
      refine qi_iload_n (i := 0) (x := nI c) dX12_isDigit_0 rfl rfl ?_
      refine qi_bipush (v := 48) dX12_isDigit_1 rfl ?_
      refine qi_icmp_lt (tgt := 16) dX12_isDigit_3 (by decide) (fun _h => absurd ((nI_ltI (a := c) (b := 48) (by omega) (by omega)).mp _h) (by omega)) (fun _hc => ?_)
      refine qi_iload_n (i := 0) (x := nI c) dX12_isDigit_6 rfl rfl ?_
      refine qi_bipush (v := 57) dX12_isDigit_7 rfl ?_
      refine qi_icmp_gt (tgt := 16) dX12_isDigit_9 (by decide) (fun _h => absurd ((nI_ltI (a := 57) (b := c) (by omega) (by omega)).mp _h) (by omega)) (fun _hc => ?_)
      refine qi_iconst (v := 1) dX12_isDigit_12 rfl ?_
      refine qi_goto (tgt := 17) dX12_isDigit_13 (by decide) ?_
      exact qi_retI rfl (by rfl) dX12_isDigit_17 (⟨Or.inr rfl, ⟨fun _ => ⟨h1, h2⟩, fun _ => by decide⟩, rfl⟩)
    ·
      refine qi_iload_n (i := 0) (x := nI c) dX12_isDigit_0 rfl rfl ?_
      refine qi_bipush (v := 48) dX12_isDigit_1 rfl ?_
      refine qi_icmp_lt (tgt := 16) dX12_isDigit_3 (by decide) (fun _h => absurd ((nI_ltI (a := c) (b := 48) (by omega) (by omega)).mp _h) (by omega)) (fun _hc => ?_)
      refine qi_iload_n (i := 0) (x := nI c) dX12_isDigit_6 rfl rfl ?_
      refine qi_bipush (v := 57) dX12_isDigit_7 rfl ?_
      refine qi_icmp_gt (tgt := 16) dX12_isDigit_9 (by decide) (fun _hc => ?_) (fun _h => absurd ((nI_ltI (a := 57) (b := c) (by omega) (by omega)).mpr (by omega)) _h)
      refine qi_iconst (v := 0) dX12_isDigit_16 rfl ?_
      exact qi_retI rfl (by rfl) dX12_isDigit_17 (⟨Or.inl rfl, ⟨fun z => absurd rfl z, fun z => absurd z.2 h2⟩, rfl⟩)
  ·
    refine qi_iload_n (i := 0) (x := nI c) dX12_isDigit_0 rfl rfl ?_
    refine qi_bipush (v := 48) dX12_isDigit_1 rfl ?_
    refine qi_icmp_lt (tgt := 16) dX12_isDigit_3 (by decide) (fun _hc => ?_) (fun _h => absurd ((nI_ltI (a := c) (b := 48) (by omega) (by omega)).mpr (by omega)) _h)
    refine qi_iconst (v := 0) dX12_isDigit_16 rfl ?_
    exact qi_retI rfl (by rfl) dX12_isDigit_17 (⟨Or.inl rfl, ⟨fun z => absurd rfl z, fun z => absurd z.1 h1⟩, rfl⟩)
theorem c_X8_isDigit (g : qG) {M : qM} {c : Nat} (hc : c < 2 ^ 31) : qI g 0 kX8_isDigit [.int (nI c)] M (fun r M' => (r = 0 ∨ r = 1) ∧ (¬ r = 0 ↔ isDq c) ∧ M' = M) := by
  unfold isDq
  refine qI.of (j := 0) (pn_RX8) rfl ?_
  show qT g kX8_isDigit (qR 0 0 0) (qZI g (fun r M' => (r = 0 ∨ r = 1) ∧ (¬ r = 0 ↔ 48 ≤ c ∧ c ≤ 57) ∧ M' = M)) 0 [some (.int (nI c))] [] 333 M (0, 0)
  by_cases h1 : 48 ≤ c
  · by_cases h2 : c ≤ 57
    ·
      refine qi_iload_n (i := 0) (x := nI c) dX8_isDigit_0 rfl rfl ?_
      refine qi_bipush (v := 48) dX8_isDigit_1 rfl ?_
      refine qi_icmp_lt (tgt := 16) dX8_isDigit_3 (by decide) (fun _h => absurd ((nI_ltI (a := c) (b := 48) (by omega) (by omega)).mp _h) (by omega)) (fun _hc => ?_)
      refine qi_iload_n (i := 0) (x := nI c) dX8_isDigit_6 rfl rfl ?_
      refine qi_bipush (v := 57) dX8_isDigit_7 rfl ?_
      refine qi_icmp_gt (tgt := 16) dX8_isDigit_9 (by decide) (fun _h => absurd ((nI_ltI (a := 57) (b := c) (by omega) (by omega)).mp _h) (by omega)) (fun _hc => ?_)
      refine qi_iconst (v := 1) dX8_isDigit_12 rfl ?_
      refine qi_goto (tgt := 17) dX8_isDigit_13 (by decide) ?_
      exact qi_retI rfl (by rfl) dX8_isDigit_17 (⟨Or.inr rfl, ⟨fun _ => ⟨h1, h2⟩, fun _ => by decide⟩, rfl⟩)
    ·
      refine qi_iload_n (i := 0) (x := nI c) dX8_isDigit_0 rfl rfl ?_
      refine qi_bipush (v := 48) dX8_isDigit_1 rfl ?_
      refine qi_icmp_lt (tgt := 16) dX8_isDigit_3 (by decide) (fun _h => absurd ((nI_ltI (a := c) (b := 48) (by omega) (by omega)).mp _h) (by omega)) (fun _hc => ?_)
      refine qi_iload_n (i := 0) (x := nI c) dX8_isDigit_6 rfl rfl ?_
      refine qi_bipush (v := 57) dX8_isDigit_7 rfl ?_
      refine qi_icmp_gt (tgt := 16) dX8_isDigit_9 (by decide) (fun _hc => ?_) (fun _h => absurd ((nI_ltI (a := 57) (b := c) (by omega) (by omega)).mpr (by omega)) _h)
      refine qi_iconst (v := 0) dX8_isDigit_16 rfl ?_
      exact qi_retI rfl (by rfl) dX8_isDigit_17 (⟨Or.inl rfl, ⟨fun z => absurd rfl z, fun z => absurd z.2 h2⟩, rfl⟩)
  ·
    refine qi_iload_n (i := 0) (x := nI c) dX8_isDigit_0 rfl rfl ?_
    refine qi_bipush (v := 48) dX8_isDigit_1 rfl ?_
    refine qi_icmp_lt (tgt := 16) dX8_isDigit_3 (by decide) (fun _hc => ?_) (fun _h => absurd ((nI_ltI (a := c) (b := 48) (by omega) (by omega)).mpr (by omega)) _h)
    refine qi_iconst (v := 0) dX8_isDigit_16 rfl ?_
    exact qi_retI rfl (by rfl) dX8_isDigit_17 (⟨Or.inl rfl, ⟨fun z => absurd rfl z, fun z => absurd z.1 h1⟩, rfl⟩)
/-- the class's tokens: how many, the text's length, kinds, places, values -/
abbrev qTk : Type := Nat × Nat × (Nat → Nat) × (Nat → Nat) × (Nat → Nat)
def qTkC (M : qM) (T : qTk) : Prop := (T.1 ≤ 401 ∧ T.2.1 ≤ 2000) ∧ M.1 4 4 = nI T.1 ∧ M.1 4 5 = nI T.2.1 ∧ ∀ i, i < T.1 → M.1 5 i = nI (T.2.2.1 i) ∧ M.1 6 i = nI (T.2.2.2.1 i) ∧ M.2.1 7 i = lN (T.2.2.2.2 i)
def kAt (T : qTk) (i : Nat) : Nat := if i < T.1 then T.2.2.1 i else 0
def pAt (T : qTk) (i : Nat) : Nat := if i < T.1 then T.2.2.2.1 i else T.2.1
def vAt (T : qTk) (i : Nat) : Nat := if i < T.1 then T.2.2.2.2 i else 0
theorem c_X8_kindAt (g : qG) {M : qM} (hM : qRf M) {T : qTk} (hT : qTkC M T) {i : Nat} (hi : i < 2 ^ 31) : qI g 0 kX8_kindAt [.ref 4, .int (nI i)] M (fun r M' => r = nI (kAt T i) ∧ M' = M) := by
  unfold kAt
  have hN := hT.1.1
  by_cases hc : i < T.1
  · rw [if_pos hc]
    refine qI.of (j := 0) (pn_RX8) rfl ?_
    show qT g kX8_kindAt (qR 0 0 0) (qZI g (fun r M' => r = (nI (T.2.2.1 i)) ∧ M' = M)) 0 [some (.ref 4), some (.int (nI i))] [] 333 M (0, 0)
    refine qi_iload_n (i := 1) (x := nI i) dX8_kindAt_0 rfl rfl ?_
    refine qi_if_lt (tgt := 21) dX8_kindAt_1 (by decide) (fun z => False.elim ((nI_pos (by omega) z))) (fun z => ?_)
    refine qi_iload_n (i := 1) (x := nI i) dX8_kindAt_4 rfl rfl ?_
    refine qi_aload_n (i := 0) (x := 4) dX8_kindAt_5 rfl rfl ?_
    refine qi_getI (x := nI T.1) flX8_25 dX8_kindAt_6 rfl (by decide) hT.2.1 ?_
    refine qi_icmp_ge (tgt := 21) dX8_kindAt_9 (by decide) (fun _h => absurd ((nI_leI (a := T.1) (b := i) (by omega) (by omega)).mp _h) (by omega)) (fun _hc => ?_)
    refine qi_aload_n (i := 0) (x := 4) dX8_kindAt_12 rfl rfl ?_
    refine qi_getR (x := 5) flX8_9 dX8_kindAt_13 rfl (by decide) (hM 4 0 5 rfl) ?_
    refine qi_iload_n (i := 1) (x := nI i) dX8_kindAt_16 rfl rfl ?_
    refine qi_ialdN (x := nI (T.2.2.1 i)) (j := i) dX8_kindAt_17 rfl (by decide) rfl (by omega) (by decide) (hT.2.2.2 i hc).1 ?_
    refine qi_goto (tgt := 22) dX8_kindAt_18 (by decide) ?_
    exact qi_retI rfl rfl dX8_kindAt_22 (⟨rfl, rfl⟩)
  · rw [if_neg hc]
    refine qI.of (j := 0) (pn_RX8) rfl ?_
    show qT g kX8_kindAt (qR 0 0 0) (qZI g (fun r M' => r = (nI 0) ∧ M' = M)) 0 [some (.ref 4), some (.int (nI i))] [] 333 M (0, 0)
    refine qi_iload_n (i := 1) (x := nI i) dX8_kindAt_0 rfl rfl ?_
    refine qi_if_lt (tgt := 21) dX8_kindAt_1 (by decide) (fun z => False.elim ((nI_pos (by omega) z))) (fun z => ?_)
    refine qi_iload_n (i := 1) (x := nI i) dX8_kindAt_4 rfl rfl ?_
    refine qi_aload_n (i := 0) (x := 4) dX8_kindAt_5 rfl rfl ?_
    refine qi_getI (x := nI T.1) flX8_25 dX8_kindAt_6 rfl (by decide) hT.2.1 ?_
    refine qi_icmp_ge (tgt := 21) dX8_kindAt_9 (by decide) (fun _hc => ?_) (fun _h => absurd ((nI_leI (a := T.1) (b := i) (by omega) (by omega)).mpr (by omega)) _h)
    refine qi_iconst (v := 0) dX8_kindAt_21 rfl ?_
    exact qi_retI rfl rfl dX8_kindAt_22 (⟨rfl, rfl⟩)
theorem c_X8_placeAt (g : qG) {M : qM} (hM : qRf M) {T : qTk} (hT : qTkC M T) {i : Nat} (hi : i < 2 ^ 31) : qI g 0 kX8_placeAt [.ref 4, .int (nI i)] M (fun r M' => r = nI (pAt T i) ∧ M' = M) := by
  unfold pAt
  have hN := hT.1.1
  by_cases hc : i < T.1
  · rw [if_pos hc]
    refine qI.of (j := 0) (pn_RX8) rfl ?_
    show qT g kX8_placeAt (qR 0 0 0) (qZI g (fun r M' => r = (nI (T.2.2.2.1 i)) ∧ M' = M)) 0 [some (.ref 4), some (.int (nI i))] [] 333 M (0, 0)
    refine qi_iload_n (i := 1) (x := nI i) dX8_placeAt_0 rfl rfl ?_
    refine qi_if_lt (tgt := 21) dX8_placeAt_1 (by decide) (fun z => False.elim ((nI_pos (by omega) z))) (fun z => ?_)
    refine qi_iload_n (i := 1) (x := nI i) dX8_placeAt_4 rfl rfl ?_
    refine qi_aload_n (i := 0) (x := 4) dX8_placeAt_5 rfl rfl ?_
    refine qi_getI (x := nI T.1) flX8_25 dX8_placeAt_6 rfl (by decide) hT.2.1 ?_
    refine qi_icmp_ge (tgt := 21) dX8_placeAt_9 (by decide) (fun _h => absurd ((nI_leI (a := T.1) (b := i) (by omega) (by omega)).mp _h) (by omega)) (fun _hc => ?_)
    refine qi_aload_n (i := 0) (x := 4) dX8_placeAt_12 rfl rfl ?_
    refine qi_getR (x := 6) flX8_15 dX8_placeAt_13 rfl (by decide) (hM 4 1 6 rfl) ?_
    refine qi_iload_n (i := 1) (x := nI i) dX8_placeAt_16 rfl rfl ?_
    refine qi_ialdN (x := nI (T.2.2.2.1 i)) (j := i) dX8_placeAt_17 rfl (by decide) rfl (by omega) (by decide) (hT.2.2.2 i hc).2.1 ?_
    refine qi_goto (tgt := 25) dX8_placeAt_18 (by decide) ?_
    exact qi_retI rfl rfl dX8_placeAt_25 (⟨rfl, rfl⟩)
  · rw [if_neg hc]
    refine qI.of (j := 0) (pn_RX8) rfl ?_
    show qT g kX8_placeAt (qR 0 0 0) (qZI g (fun r M' => r = (nI T.2.1) ∧ M' = M)) 0 [some (.ref 4), some (.int (nI i))] [] 333 M (0, 0)
    refine qi_iload_n (i := 1) (x := nI i) dX8_placeAt_0 rfl rfl ?_
    refine qi_if_lt (tgt := 21) dX8_placeAt_1 (by decide) (fun z => False.elim ((nI_pos (by omega) z))) (fun z => ?_)
    refine qi_iload_n (i := 1) (x := nI i) dX8_placeAt_4 rfl rfl ?_
    refine qi_aload_n (i := 0) (x := 4) dX8_placeAt_5 rfl rfl ?_
    refine qi_getI (x := nI T.1) flX8_25 dX8_placeAt_6 rfl (by decide) hT.2.1 ?_
    refine qi_icmp_ge (tgt := 21) dX8_placeAt_9 (by decide) (fun _hc => ?_) (fun _h => absurd ((nI_leI (a := T.1) (b := i) (by omega) (by omega)).mpr (by omega)) _h)
    refine qi_aload_n (i := 0) (x := 4) dX8_placeAt_21 rfl rfl ?_
    refine qi_getI (x := nI T.2.1) flX8_29 dX8_placeAt_22 rfl (by decide) hT.2.2.1 ?_
    exact qi_retI rfl rfl dX8_placeAt_25 (⟨rfl, rfl⟩)
theorem c_X8_valueAt (g : qG) {M : qM} (hM : qRf M) {T : qTk} (hT : qTkC M T) {i : Nat} (hi : i < 2 ^ 31) : qJ g 0 kX8_valueAt [.ref 4, .int (nI i)] M (fun r M' => r = lN (vAt T i) ∧ M' = M) := by
  unfold vAt
  have hN := hT.1.1
  by_cases hc : i < T.1
  · rw [if_pos hc]
    refine qJ.of (j := 0) (pn_RX8) rfl ?_
    show qT g kX8_valueAt (qR 0 0 0) (qZJ g (fun r M' => r = (lN (T.2.2.2.2 i)) ∧ M' = M)) 0 [some (.ref 4), some (.int (nI i))] [] 333 M (0, 0)
    refine qi_iload_n (i := 1) (x := nI i) dX8_valueAt_0 rfl rfl ?_
    refine qi_if_lt (tgt := 21) dX8_valueAt_1 (by decide) (fun z => False.elim ((nI_pos (by omega) z))) (fun z => ?_)
    refine qi_iload_n (i := 1) (x := nI i) dX8_valueAt_4 rfl rfl ?_
    refine qi_aload_n (i := 0) (x := 4) dX8_valueAt_5 rfl rfl ?_
    refine qi_getI (x := nI T.1) flX8_25 dX8_valueAt_6 rfl (by decide) hT.2.1 ?_
    refine qi_icmp_ge (tgt := 21) dX8_valueAt_9 (by decide) (fun _h => absurd ((nI_leI (a := T.1) (b := i) (by omega) (by omega)).mp _h) (by omega)) (fun _hc => ?_)
    refine qi_aload_n (i := 0) (x := 4) dX8_valueAt_12 rfl rfl ?_
    refine qi_getR (x := 7) flX8_18 dX8_valueAt_13 rfl (by decide) (hM 4 2 7 rfl) ?_
    refine qi_iload_n (i := 1) (x := nI i) dX8_valueAt_16 rfl rfl ?_
    refine qi_laldN (x := lN (T.2.2.2.2 i)) (j := i) dX8_valueAt_17 rfl (by decide) rfl (by omega) (by decide) (hT.2.2.2 i hc).2.2 ?_
    refine qi_goto (tgt := 22) dX8_valueAt_18 (by decide) ?_
    exact qi_retJ rfl dX8_valueAt_22 (⟨rfl, rfl⟩)
  · rw [if_neg hc]
    refine qJ.of (j := 0) (pn_RX8) rfl ?_
    show qT g kX8_valueAt (qR 0 0 0) (qZJ g (fun r M' => r = (lN 0) ∧ M' = M)) 0 [some (.ref 4), some (.int (nI i))] [] 333 M (0, 0)
    refine qi_iload_n (i := 1) (x := nI i) dX8_valueAt_0 rfl rfl ?_
    refine qi_if_lt (tgt := 21) dX8_valueAt_1 (by decide) (fun z => False.elim ((nI_pos (by omega) z))) (fun z => ?_)
    refine qi_iload_n (i := 1) (x := nI i) dX8_valueAt_4 rfl rfl ?_
    refine qi_aload_n (i := 0) (x := 4) dX8_valueAt_5 rfl rfl ?_
    refine qi_getI (x := nI T.1) flX8_25 dX8_valueAt_6 rfl (by decide) hT.2.1 ?_
    refine qi_icmp_ge (tgt := 21) dX8_valueAt_9 (by decide) (fun _hc => ?_) (fun _h => absurd ((nI_leI (a := T.1) (b := i) (by omega) (by omega)).mpr (by omega)) _h)
    refine qi_lconst (v := 0) dX8_valueAt_21 rfl ?_
    exact qi_retJ rfl dX8_valueAt_22 (⟨rfl, rfl⟩)
