/-! runs of letters and of digits; the class's scan -/
def runQ (P : Nat → Bool) : Nat → Nat → Nat
  | 0, _ => 0
  | m + 1, k => if P k = true then runQ P m (k + 1) + 1 else 0
theorem runQ_y {P : Nat → Bool} {m k : Nat} (h : P k = true) : runQ P (m + 1) k = runQ P m (k + 1) + 1 := if_pos h
theorem runQ_n {P : Nat → Bool} {m k : Nat} (h : ¬ P k = true) : runQ P (m + 1) k = 0 := if_neg h
theorem runQ_all {P : Nat → Bool} : ∀ m a k, k < runQ P m a → P (a + k) = true
  | 0, a, k, h => absurd h (Nat.not_lt_zero _)
  | m + 1, a, k, h => by
    by_cases c : P a = true
    · rw [runQ_y c] at h
      cases k with
      | zero => exact c
      | succ k =>
        have := runQ_all (P := P) m (a + 1) k (by omega)
        rw [show a + (k + 1) = a + 1 + k by omega]
        exact this
    · rw [runQ_n c] at h
      exact absurd h (Nat.not_lt_zero _)
def lqB (t : qTp) (k : Nat) : Bool := decide (97 ≤ byQ t k ∧ byQ t k ≤ 122)
def dqB (t : qTp) (k : Nat) : Bool := decide (48 ≤ byQ t k ∧ byQ t k ≤ 57)
def bqB (t : qTp) (k : Nat) : Bool := decide (byQ t k = 9 ∨ byQ t k = 10 ∨ byQ t k = 13 ∨ byQ t k = 32)
theorem lqB_i {t : qTp} {k : Nat} : lqB t k = true ↔ isLq (byQ t k) := decide_eq_true_iff
theorem dqB_i {t : qTp} {k : Nat} : dqB t k = true ↔ isDq (byQ t k) := decide_eq_true_iff
theorem bqB_i {t : qTp} {k : Nat} : bqB t k = true ↔ isBq (byQ t k) := decide_eq_true_iff
theorem byQ_in {t : qTp} {k : Nat} (h : k < t.1) : byQ t k = t.2 k := if_pos h
theorem lqB_lt {t : qTp} {k : Nat} (h : lqB t k = true) : k < t.1 := by
  by_cases c : k < t.1
  · exact c
  · have h2 := lqB_i.mp h
    unfold isLq byQ at h2
    rw [if_neg c] at h2
    omega
theorem dqB_lt {t : qTp} {k : Nat} (h : dqB t k = true) : k < t.1 := by
  by_cases c : k < t.1
  · exact c
  · have h2 := dqB_i.mp h
    unfold isDq byQ at h2
    rw [if_neg c] at h2
    omega
def lnQ (t : qTp) (a : Nat) : Nat := runQ (lqB t) 2001 a
def dnQ (t : qTp) (a : Nat) : Nat := runQ (dqB t) 2001 a
def vLQ (t : qTp) (a : Nat) : Nat → Nat
  | 0 => 0
  | n + 1 => vLQ t a n * 32 + (t.2 (a + n) - 96)
def vDQ (t : qTp) (a : Nat) : Nat → Nat
  | 0 => 0
  | n + 1 => vDQ t a n * 10 + (t.2 (a + n) - 48)
theorem vLQ_lt {t : qTp} {a : Nat} : ∀ n, n ≤ lnQ t a → vLQ t a n < 32 ^ n
  | 0, _ => Nat.one_pos
  | n + 1, h => by
    have ih := vLQ_lt (t := t) (a := a) n (by omega)
    have hl := runQ_all 2001 a n (show n < lnQ t a by omega)
    have h2 := lqB_i.mp hl
    rw [byQ_in (lqB_lt hl)] at h2
    unfold isLq at h2
    show vLQ t a n * 32 + (t.2 (a + n) - 96) < 32 ^ (n + 1)
    rw [Nat.pow_succ]
    omega
theorem shl5 (v d : Nat) (h : d < 32) : ((BitVec.ofNat 64 v <<< 5) ||| BitVec.ofNat 64 d) = BitVec.ofNat 64 (v * 32 + d) := by
  apply BitVec.eq_of_toNat_eq
  simp only [BitVec.toNat_or, BitVec.toNat_shiftLeft, BitVec.toNat_ofNat]
  have e : (v % 2 ^ 64) <<< 5 % 2 ^ 64 = (v % 2 ^ 59) <<< 5 := by
    rw [Nat.shiftLeft_eq, Nat.shiftLeft_eq]
    omega
  rw [e, Nat.mod_eq_of_lt (show d < 2 ^ 64 by omega), ← Nat.shiftLeft_add_eq_or_of_lt (show d < 2 ^ 5 by omega), Nat.shiftLeft_eq]
  omega
theorem wl_nat (v : Nat) {c : Nat} (h1 : 97 ≤ c) (h2 : c ≤ 122) : wlQ (lN v) (nI c) = lN (v * 32 + (c - 96)) := by
  unfold wlQ
  rw [show (97 : Int32) = nI 97 from rfl, pk_sub h1, nI_1, nI_l (by omega), show c - 97 + 1 = c - 96 by omega, show ((5 : Int32).toInt64 &&& 63) = 5 from by decide]
  exact Int64.toBitVec.inj (shl5 v (c - 96) (by omega))
def wkQ (t : qTp) (a : Nat) : Nat := if 8 < lnQ t a then 1 else kwG (vLQ t a (lnQ t a)) 0 17
def wvQ (t : qTp) (a : Nat) : Nat := if 8 < lnQ t a then 0 else vLQ t a (lnQ t a)
def dkQ (t : qTp) (a : Nat) : Nat := if 4 < dnQ t a then 1 else 3
theorem c_X8_addLetters (g : qG) {M : qM} (hM : qRf M) (hw : ∀ i, i < 17 → M.2.1 8 i = lN (wd5 i)) {t : qTp} (hp : qTpC M t) (ok : okTp t) {T : qTk} (hT : qTkC M T) (hs : T.2.1 = t.1) {a : Nat} (ha : a < t.1) : qI g 1 kX8_addLetters [.ref 4, .ref 1, .int (nI a)] M (fun r M' => r = nI (a + lnQ t a) ∧ qTkC M' (addT T (wkQ t a) a (wvQ t a)) ∧ qFr STk M M') := by
  have h2000 := ok.1
  have FIN : ∀ n, n = lnQ t a → a + n ≤ t.1 → qT g kX8_addLetters (qR 1 0 0) (qZI g (fun r M' => r = nI (a + lnQ t a) ∧ qTkC M' (addT T (wkQ t a) a (wvQ t a)) ∧ qFr STk M M')) 43 [some (.ref 4), some (.ref 1), some (.int (nI a)), some (.long (lN (vLQ t a n))), none, some (.int (nI (a + n)))] [] 333 M (0, 0) := by
    intro n en hn
    refine qi_iload (i := 5) (x := nI (a + n)) dX8_addLetters_43 rfl ?_
    refine qi_iload_n (i := 2) (x := nI a) dX8_addLetters_45 rfl rfl ?_
    refine qi_isub dX8_addLetters_46 ?_
    refine qe_top (y := nI n) (by rw [pk_sub (by omega)]; congr 1; omega) ?_
    refine qi_bipush (v := 8) dX8_addLetters_47 rfl ?_
    by_cases h8 : 8 < n
    ·
      refine qi_icmp_le (tgt := 62) dX8_addLetters_49 (by decide) (fun _h => absurd ((nI_leI (a := n) (b := 8) (by omega) (by omega)).mp _h) (by omega)) (fun _hc => ?_)
      refine qi_aload_n (i := 0) (x := 4) dX8_addLetters_52 rfl rfl ?_
      refine qi_iconst (v := 1) dX8_addLetters_53 rfl ?_
      refine qi_iload_n (i := 2) (x := nI a) dX8_addLetters_54 rfl rfl ?_
      refine qi_lconst (v := 0) dX8_addLetters_55 rfl ?_
      refine qi_callVV (K' := kX8_add) (As := [.int 1, .int (nI a), .long 0]) mlX8_77 okX8_add dX8_addLetters_56 (c_X8_add g hM hT 1 a 0) rfl (by decide) rfl (by decide) rfl rfl (Nat.le_of_ble_eq_true rfl) ⟨(Nat.le_of_ble_eq_true rfl), (Nat.le_of_ble_eq_true rfl)⟩ ⟨Nat.le_refl _, Nat.le_refl _⟩ (fun M1 ⟨h1, h2⟩ => ?_)
      refine qi_goto (tgt := 73) dX8_addLetters_59 (by decide) ?_
      refine qi_iload (i := 5) (x := nI (a + n)) dX8_addLetters_73 rfl ?_
      exact qi_retI rfl rfl dX8_addLetters_75 (⟨by rw [en], by unfold wkQ wvQ; rw [← en, if_pos h8, if_pos h8]; exact h1, h2⟩)
    ·
      refine qi_icmp_le (tgt := 62) dX8_addLetters_49 (by decide) (fun _hc => ?_) (fun _h => absurd ((nI_leI (a := n) (b := 8) (by omega) (by omega)).mpr (by omega)) _h)
      refine qi_aload_n (i := 0) (x := 4) dX8_addLetters_62 rfl rfl ?_
      refine qi_aload_n (i := 0) (x := 4) dX8_addLetters_63 rfl rfl ?_
      refine qi_lload_n (i := 3) (x := lN (vLQ t a n)) dX8_addLetters_64 rfl rfl ?_
      have hv : vLQ t a n < 2 ^ 40 := Nat.lt_of_lt_of_le (vLQ_lt n (by omega)) (show 32 ^ n ≤ 2 ^ 40 from Nat.le_trans (Nat.pow_le_pow_right (by decide) (show n ≤ 8 by omega)) (by decide))
      refine qi_callPVI (v := nI (kwG (vLQ t a n) 0 17)) (K' := kX8_kindOf) (As := [.long (lN (vLQ t a n))]) mlX8_81 okX8_kindOf dX8_addLetters_65 (c_X8_kindOf g hM hw hv) rfl (by decide) rfl (by decide) rfl rfl (Nat.le_of_ble_eq_true rfl) ⟨(Nat.le_of_ble_eq_true rfl), (Nat.le_of_ble_eq_true rfl)⟩ ⟨Nat.le_refl _, Nat.le_refl _⟩ ?_
      refine qi_iload_n (i := 2) (x := nI a) dX8_addLetters_68 rfl rfl ?_
      refine qi_lload_n (i := 3) (x := lN (vLQ t a n)) dX8_addLetters_69 rfl rfl ?_
      refine qi_callVV (K' := kX8_add) (As := [.int (nI (kwG (vLQ t a n) 0 17)), .int (nI a), .long (lN (vLQ t a n))]) mlX8_77 okX8_add dX8_addLetters_70 (c_X8_add g hM hT (kwG (vLQ t a n) 0 17) a (vLQ t a n)) rfl (by decide) rfl (by decide) rfl rfl (Nat.le_of_ble_eq_true rfl) ⟨(Nat.le_of_ble_eq_true rfl), (Nat.le_of_ble_eq_true rfl)⟩ ⟨Nat.le_refl _, Nat.le_refl _⟩ (fun M1 ⟨h1, h2⟩ => ?_)
      refine qi_iload (i := 5) (x := nI (a + n)) dX8_addLetters_73 rfl ?_
      exact qi_retI rfl rfl dX8_addLetters_75 (⟨by rw [en], by unfold wkQ wvQ; rw [← en, if_neg h8, if_neg h8]; exact h1, h2⟩)
  have K : ∀ m n, runQ (lqB t) m (a + n) + n = lnQ t a → n + m = 2001 → a + n ≤ t.1 → qT g kX8_addLetters (qR 1 0 0) (qZI g (fun r M' => r = nI (a + lnQ t a) ∧ qTkC M' (addT T (wkQ t a) a (wvQ t a)) ∧ qFr STk M M')) 5 [some (.ref 4), some (.ref 1), some (.int (nI a)), some (.long (lN (vLQ t a n))), none, some (.int (nI (a + n)))] [] 333 M (0, 0) := by
    intro m
    induction m with
    | zero =>
      intro n e1 e2 e3
      omega
    | succ m ih =>
      intro n e1 e2 e3
      refine qi_iload (i := 5) (x := nI (a + n)) dX8_addLetters_5 rfl ?_
      refine qi_aload_n (i := 0) (x := 4) dX8_addLetters_7 rfl rfl ?_
      refine qi_getI (x := nI t.1) flX8_29 dX8_addLetters_8 rfl (by decide) (hT.2.2.1.trans (by rw [hs])) ?_
      by_cases hc : a + n < t.1
      ·
        refine qi_icmp_ge (tgt := 43) dX8_addLetters_11 (by decide) (fun _h => absurd ((nI_leI (a := t.1) (b := a + n) (by omega) (by omega)).mp _h) (by omega)) (fun _hc => ?_)
        refine qi_aload_n (i := 1) (x := 1) dX8_addLetters_14 rfl rfl ?_
        refine qi_iload (i := 5) (x := nI (a + n)) dX8_addLetters_15 rfl ?_
        refine qi_callPVI (v := nI (t.2 (a + n))) (K' := kX7_byteAt) (As := [.int (nI (a + n))]) mlX8_51 okX7_byteAt dX8_addLetters_17 (c_X7_byteAt g hM hp h2000 hc) rfl (by decide) rfl (by decide) rfl rfl (Nat.le_of_ble_eq_true rfl) ⟨(Nat.le_of_ble_eq_true rfl), (Nat.le_of_ble_eq_true rfl)⟩ ⟨Nat.le_refl _, Nat.le_refl _⟩ ?_
        have hb := ok.2 (a + n) hc
        refine qi_callSI (K' := kX8_isLetter) (As := [.int (nI (t.2 (a + n)))]) mlX8_55 okX8_isLetter dX8_addLetters_20 (c_X8_isLetter g (c := t.2 (a + n)) (by omega)) rfl rfl (Nat.le_of_ble_eq_true rfl) ⟨(Nat.le_of_ble_eq_true rfl), (Nat.le_of_ble_eq_true rfl)⟩ ⟨Nat.le_refl _, Nat.le_refl _⟩ (fun r1 M1 ⟨b0, b1, b2⟩ => ?_)
        rw [b2]
        rw [← byQ_in hc] at b1
        by_cases hl : lqB t (a + n) = true
        ·
          refine qi_if_eq (tgt := 43) dX8_addLetters_23 (by decide) (fun z => False.elim (((b1.mpr (lqB_i.mp hl)) z))) (fun z => ?_)
          refine qi_lload_n (i := 3) (x := lN (vLQ t a n)) dX8_addLetters_26 rfl rfl ?_
          refine qi_aload_n (i := 1) (x := 1) dX8_addLetters_27 rfl rfl ?_
          refine qi_iload (i := 5) (x := nI (a + n)) dX8_addLetters_28 rfl ?_
          refine qi_callPVI (v := nI (t.2 (a + n))) (K' := kX7_byteAt) (As := [.int (nI (a + n))]) mlX8_51 okX7_byteAt dX8_addLetters_30 (c_X7_byteAt g hM hp h2000 hc) rfl (by decide) rfl (by decide) rfl rfl (Nat.le_of_ble_eq_true rfl) ⟨(Nat.le_of_ble_eq_true rfl), (Nat.le_of_ble_eq_true rfl)⟩ ⟨Nat.le_refl _, Nat.le_refl _⟩ ?_
          refine qi_callzS (K' := kX8_withLetter) (As := [.long (lN (vLQ t a n)), .int (nI (t.2 (a + n)))]) mlX8_44 okX8_withLetter dX8_addLetters_33 (c_X8_withLetter g (lN (vLQ t a n)) (nI (t.2 (a + n)))) rfl rfl (Nat.le_of_ble_eq_true rfl) ⟨(Nat.le_of_ble_eq_true rfl), (Nat.le_of_ble_eq_true rfl)⟩ ⟨Nat.le_refl _, Nat.le_refl _⟩ ?_
          show qT g kX8_addLetters (qR 1 0 0) (qZI g (fun r M' => r = nI (a + lnQ t a) ∧ qTkC M' (addT T (wkQ t a) a (wvQ t a)) ∧ qFr STk M M')) 36 [some (.ref 4), some (.ref 1), some (.int (nI a)), some (.long (lN (vLQ t a n))), none, some (.int (nI (a + n)))] [.long (wlQ (lN (vLQ t a n)) (nI (t.2 (a + n))))] 333 M (0, 0)
          have hl2 := lqB_i.mp hl
          rw [byQ_in hc] at hl2
          refine qe_topJ (y := lN (vLQ t a n * 32 + (t.2 (a + n) - 96))) (wl_nat _ hl2.1 hl2.2) ?_
          refine qi_lstore_n (i := 3) (L2 := [some (.ref 4), some (.ref 1), some (.int (nI a)), some (.long (lN (vLQ t a n * 32 + (t.2 (a + n) - 96)))), none, some (.int (nI (a + n)))]) dX8_addLetters_36 rfl (Nat.le_of_ble_eq_true rfl) rfl ?_
          refine qi_iinc (i := 5) (x := nI (a + n)) (v := nI (a + n + 1)) (L2 := [some (.ref 4), some (.ref 1), some (.int (nI a)), some (.long (lN (vLQ t a n * 32 + (t.2 (a + n) - 96)))), none, some (.int (nI (a + n + 1)))]) dX8_addLetters_37 rfl (nI_1 (a + n)) (Nat.le_of_ble_eq_true rfl) rfl ?_
          refine qi_goto (tgt := 5) dX8_addLetters_40 (by decide) ?_
          refine ih (n + 1) ?_ (by omega) (by omega)
          rw [← e1]
          rw [runQ_y hl]
          show runQ (lqB t) m (a + n + 1) + (n + 1) = _
          omega
        ·
          refine qi_if_eq (tgt := 43) dX8_addLetters_23 (by decide) (fun z => ?_) (fun z => False.elim ((hl (lqB_i.mpr (b1.mp z)))))
          refine FIN n ?_ e3
          rw [← e1]
          rw [runQ_n hl, Nat.zero_add]
      ·
        refine qi_icmp_ge (tgt := 43) dX8_addLetters_11 (by decide) (fun _hc => ?_) (fun _h => absurd ((nI_leI (a := t.1) (b := a + n) (by omega) (by omega)).mpr (by omega)) _h)
        refine FIN n ?_ e3
        rw [← e1]
        rw [runQ_n (fun z => hc (lqB_lt z)), Nat.zero_add]
  refine qI.of (j := 3) (pn_RX8) rfl ?_
  show qT g kX8_addLetters (qR 1 0 0) (qZI g (fun r M' => r = nI (a + lnQ t a) ∧ qTkC M' (addT T (wkQ t a) a (wvQ t a)) ∧ qFr STk M M')) 0 [some (.ref 4), some (.ref 1), some (.int (nI a)), none, none, none] [] 333 M (0, 0)
  refine qi_lconst (v := 0) dX8_addLetters_0 rfl ?_
  refine qi_lstore_n (i := 3) (L2 := [some (.ref 4), some (.ref 1), some (.int (nI a)), some (.long 0), none, none]) dX8_addLetters_1 rfl (Nat.le_of_ble_eq_true rfl) rfl ?_
  refine qi_iload_n (i := 2) (x := nI a) dX8_addLetters_2 rfl rfl ?_
  refine qi_istore (i := 5) (L2 := [some (.ref 4), some (.ref 1), some (.int (nI a)), some (.long 0), none, some (.int (nI a))]) dX8_addLetters_3 (Nat.le_of_ble_eq_true rfl) rfl ?_
  exact K 2001 0 rfl rfl (by omega)
theorem c_X8_addDigits (g : qG) {M : qM} (hM : qRf M) {t : qTp} (hp : qTpC M t) (ok : okTp t) {T : qTk} (hT : qTkC M T) (hs : T.2.1 = t.1) {a : Nat} (ha : a < t.1) : qI g 1 kX8_addDigits [.ref 4, .ref 1, .int (nI a)] M (fun r M' => r = nI (a + dnQ t a) ∧ qTkC M' (addT T (dkQ t a) a (vDQ t a (dnQ t a))) ∧ qFr STk M M') := by
  have h2000 := ok.1
  have FIN : ∀ n, n = dnQ t a → a + n ≤ t.1 → qT g kX8_addDigits (qR 1 0 0) (qZI g (fun r M' => r = nI (a + dnQ t a) ∧ qTkC M' (addT T (dkQ t a) a (vDQ t a (dnQ t a))) ∧ qFr STk M M')) 50 [some (.ref 4), some (.ref 1), some (.int (nI a)), some (.long (lN (vDQ t a n))), none, some (.int (nI (a + n)))] [] 333 M (0, 0) := by
    intro n en hn
    have AFT : qT g kX8_addDigits (qR 1 0 0) (qZI g (fun r M' => r = nI (a + dnQ t a) ∧ qTkC M' (addT T (dkQ t a) a (vDQ t a (dnQ t a))) ∧ qFr STk M M')) 64 [some (.ref 4), some (.ref 1), some (.int (nI a)), some (.long (lN (vDQ t a n))), none, some (.int (nI (a + n)))] [.int (nI (dkQ t a)), .ref 4] 333 M (0, 0) := by
      refine qi_iload_n (i := 2) (x := nI a) dX8_addDigits_64 rfl rfl ?_
      refine qi_lload_n (i := 3) (x := lN (vDQ t a n)) dX8_addDigits_65 rfl rfl ?_
      refine qi_callVV (K' := kX8_add) (As := [.int (nI (dkQ t a)), .int (nI a), .long (lN (vDQ t a n))]) mlX8_77 okX8_add dX8_addDigits_66 (c_X8_add g hM hT (dkQ t a) a (vDQ t a n)) rfl (by decide) rfl (by decide) rfl rfl (Nat.le_of_ble_eq_true rfl) ⟨(Nat.le_of_ble_eq_true rfl), (Nat.le_of_ble_eq_true rfl)⟩ ⟨Nat.le_refl _, Nat.le_refl _⟩ (fun M1 ⟨h1, h2⟩ => ?_)
      refine qi_iload (i := 5) (x := nI (a + n)) dX8_addDigits_69 rfl ?_
      exact qi_retI rfl rfl dX8_addDigits_71 (⟨by rw [en], by rw [← en]; exact h1, h2⟩)
    refine qi_aload_n (i := 0) (x := 4) dX8_addDigits_50 rfl rfl ?_
    refine qi_iload (i := 5) (x := nI (a + n)) dX8_addDigits_51 rfl ?_
    refine qi_iload_n (i := 2) (x := nI a) dX8_addDigits_53 rfl rfl ?_
    refine qi_isub dX8_addDigits_54 ?_
    refine qe_top (y := nI n) (by rw [pk_sub (by omega)]; congr 1; omega) ?_
    refine qi_iconst (v := 4) dX8_addDigits_55 rfl ?_
    by_cases h4 : 4 < n
    ·
      have ek : dkQ t a = 1 := by unfold dkQ; rw [← en, if_pos h4]
      refine qi_icmp_le (tgt := 63) dX8_addDigits_56 (by decide) (fun _h => absurd ((nI_leI (a := n) (b := 4) (by omega) (by omega)).mp _h) (by omega)) (fun _hc => ?_)
      refine qi_iconst (v := 1) dX8_addDigits_59 rfl ?_
      refine qi_goto (tgt := 64) dX8_addDigits_60 (by decide) ?_
      refine qe_top (y := nI (dkQ t a)) (by rw [ek]; rfl) ?_
      exact AFT
    ·
      have ek : dkQ t a = 3 := by unfold dkQ; rw [← en, if_neg h4]
      refine qi_icmp_le (tgt := 63) dX8_addDigits_56 (by decide) (fun _hc => ?_) (fun _h => absurd ((nI_leI (a := n) (b := 4) (by omega) (by omega)).mpr (by omega)) _h)
      refine qi_iconst (v := 3) dX8_addDigits_63 rfl ?_
      refine qe_top (y := nI (dkQ t a)) (by rw [ek]; rfl) ?_
      exact AFT
  have K : ∀ m n, runQ (dqB t) m (a + n) + n = dnQ t a → n + m = 2001 → a + n ≤ t.1 → qT g kX8_addDigits (qR 1 0 0) (qZI g (fun r M' => r = nI (a + dnQ t a) ∧ qTkC M' (addT T (dkQ t a) a (vDQ t a (dnQ t a))) ∧ qFr STk M M')) 5 [some (.ref 4), some (.ref 1), some (.int (nI a)), some (.long (lN (vDQ t a n))), none, some (.int (nI (a + n)))] [] 333 M (0, 0) := by
    intro m
    induction m with
    | zero =>
      intro n e1 e2 e3
      omega
    | succ m ih =>
      intro n e1 e2 e3
      refine qi_iload (i := 5) (x := nI (a + n)) dX8_addDigits_5 rfl ?_
      refine qi_aload_n (i := 0) (x := 4) dX8_addDigits_7 rfl rfl ?_
      refine qi_getI (x := nI t.1) flX8_29 dX8_addDigits_8 rfl (by decide) (hT.2.2.1.trans (by rw [hs])) ?_
      by_cases hc : a + n < t.1
      ·
        refine qi_icmp_ge (tgt := 50) dX8_addDigits_11 (by decide) (fun _h => absurd ((nI_leI (a := t.1) (b := a + n) (by omega) (by omega)).mp _h) (by omega)) (fun _hc => ?_)
        refine qi_aload_n (i := 1) (x := 1) dX8_addDigits_14 rfl rfl ?_
        refine qi_iload (i := 5) (x := nI (a + n)) dX8_addDigits_15 rfl ?_
        refine qi_callPVI (v := nI (t.2 (a + n))) (K' := kX7_byteAt) (As := [.int (nI (a + n))]) mlX8_51 okX7_byteAt dX8_addDigits_17 (c_X7_byteAt g hM hp h2000 hc) rfl (by decide) rfl (by decide) rfl rfl (Nat.le_of_ble_eq_true rfl) ⟨(Nat.le_of_ble_eq_true rfl), (Nat.le_of_ble_eq_true rfl)⟩ ⟨Nat.le_refl _, Nat.le_refl _⟩ ?_
        have hb := ok.2 (a + n) hc
        refine qi_callSI (K' := kX8_isDigit) (As := [.int (nI (t.2 (a + n)))]) mlX8_63 okX8_isDigit dX8_addDigits_20 (c_X8_isDigit g (c := t.2 (a + n)) (by omega)) rfl rfl (Nat.le_of_ble_eq_true rfl) ⟨(Nat.le_of_ble_eq_true rfl), (Nat.le_of_ble_eq_true rfl)⟩ ⟨Nat.le_refl _, Nat.le_refl _⟩ (fun r1 M1 ⟨b0, b1, b2⟩ => ?_)
        rw [b2]
        rw [← byQ_in hc] at b1
        by_cases hl : dqB t (a + n) = true
        ·
          refine qi_if_eq (tgt := 50) dX8_addDigits_23 (by decide) (fun z => False.elim (((b1.mpr (dqB_i.mp hl)) z))) (fun z => ?_)
          refine qi_lload_n (i := 3) (x := lN (vDQ t a n)) dX8_addDigits_26 rfl rfl ?_
          refine qi_ldc2 dX8_addDigits_27 cnX8_85 ?_
          refine qi_lmul dX8_addDigits_30 ?_
          refine qi_aload_n (i := 1) (x := 1) dX8_addDigits_31 rfl rfl ?_
          refine qi_iload (i := 5) (x := nI (a + n)) dX8_addDigits_32 rfl ?_
          refine qi_callPVI (v := nI (t.2 (a + n))) (K' := kX7_byteAt) (As := [.int (nI (a + n))]) mlX8_51 okX7_byteAt dX8_addDigits_34 (c_X7_byteAt g hM hp h2000 hc) rfl (by decide) rfl (by decide) rfl rfl (Nat.le_of_ble_eq_true rfl) ⟨(Nat.le_of_ble_eq_true rfl), (Nat.le_of_ble_eq_true rfl)⟩ ⟨Nat.le_refl _, Nat.le_refl _⟩ ?_
          have hl2 := dqB_i.mp hl
          rw [byQ_in hc] at hl2
          unfold isDq at hl2
          refine qi_i2l dX8_addDigits_37 ?_
          refine qi_ladd dX8_addDigits_38 ?_
          refine qi_ldc2 dX8_addDigits_39 cnX8_87 ?_
          refine qi_lsub dX8_addDigits_42 ?_
          refine qe_topJ (y := lN (vDQ t a n * 10 + (t.2 (a + n) - 48))) (by rw [nI_l (by omega), show (10 : Int64) = lN 10 from rfl, show (48 : Int64) = lN 48 from rfl, pk_lMul, pk_lAdd, lN_sub (by omega)]; congr 1; omega) ?_
          refine qi_lstore_n (i := 3) (L2 := [some (.ref 4), some (.ref 1), some (.int (nI a)), some (.long (lN (vDQ t a n * 10 + (t.2 (a + n) - 48)))), none, some (.int (nI (a + n)))]) dX8_addDigits_43 rfl (Nat.le_of_ble_eq_true rfl) rfl ?_
          refine qi_iinc (i := 5) (x := nI (a + n)) (v := nI (a + n + 1)) (L2 := [some (.ref 4), some (.ref 1), some (.int (nI a)), some (.long (lN (vDQ t a n * 10 + (t.2 (a + n) - 48)))), none, some (.int (nI (a + n + 1)))]) dX8_addDigits_44 rfl (nI_1 (a + n)) (Nat.le_of_ble_eq_true rfl) rfl ?_
          refine qi_goto (tgt := 5) dX8_addDigits_47 (by decide) ?_
          refine ih (n + 1) ?_ (by omega) (by omega)
          rw [← e1]
          rw [runQ_y hl]
          show runQ (dqB t) m (a + n + 1) + (n + 1) = _
          omega
        ·
          refine qi_if_eq (tgt := 50) dX8_addDigits_23 (by decide) (fun z => ?_) (fun z => False.elim ((hl (dqB_i.mpr (b1.mp z)))))
          refine FIN n ?_ e3
          rw [← e1]
          rw [runQ_n hl, Nat.zero_add]
      ·
        refine qi_icmp_ge (tgt := 50) dX8_addDigits_11 (by decide) (fun _hc => ?_) (fun _h => absurd ((nI_leI (a := t.1) (b := a + n) (by omega) (by omega)).mpr (by omega)) _h)
        refine FIN n ?_ e3
        rw [← e1]
        rw [runQ_n (fun z => hc (dqB_lt z)), Nat.zero_add]
  refine qI.of (j := 3) (pn_RX8) rfl ?_
  show qT g kX8_addDigits (qR 1 0 0) (qZI g (fun r M' => r = nI (a + dnQ t a) ∧ qTkC M' (addT T (dkQ t a) a (vDQ t a (dnQ t a))) ∧ qFr STk M M')) 0 [some (.ref 4), some (.ref 1), some (.int (nI a)), none, none, none] [] 333 M (0, 0)
  refine qi_lconst (v := 0) dX8_addDigits_0 rfl ?_
  refine qi_lstore_n (i := 3) (L2 := [some (.ref 4), some (.ref 1), some (.int (nI a)), some (.long 0), none, none]) dX8_addDigits_1 rfl (Nat.le_of_ble_eq_true rfl) rfl ?_
  refine qi_iload_n (i := 2) (x := nI a) dX8_addDigits_2 rfl rfl ?_
  refine qi_istore (i := 5) (L2 := [some (.ref 4), some (.ref 1), some (.int (nI a)), some (.long 0), none, some (.int (nI a))]) dX8_addDigits_3 (Nat.le_of_ble_eq_true rfl) rfl ?_
  exact K 2001 0 rfl rfl (by omega)
