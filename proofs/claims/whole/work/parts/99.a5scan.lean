/-! the class's scan -/
def sgQ (c : Nat) : Nat := if c = 59 ∨ c = 61 ∨ c = 43 ∨ c = 45 ∨ c = 42 ∨ c = 47 ∨ c = 60 ∨ c = 40 ∨ c = 41 then c else 1
theorem ix_sg : ∀ c, c < 256 → (ixG c 0 9 < 0 ∧ sgQ c = 1) ∨ (¬ ixG c 0 9 < 0 ∧ sgQ c = c) := by decide +kernel
def nxQ (t : qTp) (a : Nat) : Nat := if lqB t a = true then a + lnQ t a else if dqB t a = true then a + dnQ t a else a + 1
def tkQ (t : qTp) (a : Nat) (T : qTk) : qTk := if lqB t a = true then addT T (wkQ t a) a (wvQ t a) else if dqB t a = true then addT T (dkQ t a) a (vDQ t a (dnQ t a)) else if bqB t a = true then T else addT T (sgQ (t.2 a)) a 0
def scF (t : qTp) : Nat → Nat → qTk → qTk
  | 0, _, T => T
  | m + 1, a, T => if a < t.1 ∧ T.1 ≤ 400 then scF t m (nxQ t a) (tkQ t a T) else T
theorem scF_y {t : qTp} {m a : Nat} {T : qTk} (h : a < t.1 ∧ T.1 ≤ 400) : scF t (m + 1) a T = scF t m (nxQ t a) (tkQ t a T) := if_pos h
theorem scF_n {t : qTp} {m a : Nat} {T : qTk} (h : ¬ (a < t.1 ∧ T.1 ≤ 400)) : scF t m a T = T := by
  cases m with
  | zero => rfl
  | succ m => exact if_neg h
def T0Q (t : qTp) : qTk := (0, t.1, fun _ => 0, fun _ => 0, fun _ => 0)
def scQ (t : qTp) : qTk := scF t 2000 0 (T0Q t)
theorem run_le {P : Nat → Bool} {n : Nat} (hP : ∀ k, P k = true → k < n) : ∀ m a, a + runQ P m a ≤ n ∨ runQ P m a = 0
  | 0, a => Or.inr rfl
  | m + 1, a => by
    by_cases c : P a = true
    · rw [runQ_y c]
      have := hP a c
      rcases run_le hP m (a + 1) with h | h <;> omega
    · exact Or.inr (runQ_n c)
theorem nxQ_in {t : qTp} {a : Nat} (h : a < t.1) : a < nxQ t a ∧ nxQ t a ≤ t.1 := by
  unfold nxQ
  by_cases c : lqB t a = true
  · rw [if_pos c]
    have e : lnQ t a = runQ (lqB t) 2000 (a + 1) + 1 := runQ_y c
    have := run_le (P := lqB t) (n := t.1) (fun k hk => lqB_lt hk) 2001 a
    have e2 : runQ (lqB t) 2001 a = lnQ t a := rfl
    rw [e2] at this
    omega
  · rw [if_neg c]
    by_cases d : dqB t a = true
    · rw [if_pos d]
      have e : dnQ t a = runQ (dqB t) 2000 (a + 1) + 1 := runQ_y d
      have := run_le (P := dqB t) (n := t.1) (fun k hk => dqB_lt hk) 2001 a
      have e2 : runQ (dqB t) 2001 a = dnQ t a := rfl
      rw [e2] at this
      omega
    · rw [if_neg d]
      omega
theorem addT_s (T : qTk) (k p v : Nat) : (addT T k p v).2.1 = T.2.1 := by
  unfold addT
  split <;> rfl
theorem tkQ_s (t : qTp) (a : Nat) (T : qTk) : (tkQ t a T).2.1 = T.2.1 := by
  unfold tkQ
  split
  · exact addT_s _ _ _ _
  · split
    · exact addT_s _ _ _ _
    · split
      · rfl
      · exact addT_s _ _ _ _
theorem c_X8_scan (g : qG) {M : qM} (hM : qRf M) (hw : ∀ i, i < 17 → M.2.1 8 i = lN (wd5 i)) {t : qTp} (hp : qTpC M t) (ok : okTp t) : qV g 4 kX8_scan [.ref 4, .ref 1] M (fun M' => qTkC M' (scQ t) ∧ qFr STk M M') := by
  have h2000 := ok.1
  have K : ∀ m s a T M1 x4 x5, s + m = 2000 → s ≤ a → a ≤ t.1 → qTkC M1 T → T.2.1 = t.1 → qFr STk M M1 → scF t m a T = scQ t → qT g kX8_scan (qR 4 0 0) (qZV g (fun M' => qTkC M' (scQ t) ∧ qFr STk M M')) 17 [some (.ref 4), some (.ref 1), some (.int (nI a)), some (.int (nI s)), x4, x5] [] 333 M1 (0, 0) := by
    intro m
    induction m with
    | zero =>
      intro s a T M1 x4 x5 e1 e2 e3 hT hs hf es
      obtain rfl : s = 2000 := by omega
      refine qi_iload_n (i := 3) (x := nI 2000) dX8_scan_17 rfl rfl ?_
      refine qi_sipush (v := 2000) dX8_scan_18 rfl ?_
      refine qi_icmp_ge (tgt := 132) dX8_scan_21 (by decide) (fun z => ?_) (fun z => False.elim ((z (by decide))))
      have e4 : T = scQ t := es
      rw [e4] at hT
      exact qi_retV rfl dX8_scan_132 (⟨hT, hf⟩)
    | succ m ih =>
      intro s a T M1 x4 x5 e1 e2 e3 hT hs hf es
      have hM1 := hM.fr hf
      have hp1 := hp.fr hf (fun b j z => by unfold STk at z; omega)
      have hw1 : ∀ i, i < 17 → M1.2.1 8 i = lN (wd5 i) := fun i hi => (hf.2.1 _ _ (by unfold STk; omega)).trans (hw i hi)
      have OUT : ¬ (a < t.1 ∧ T.1 ≤ 400) → qT g kX8_scan (qR 4 0 0) (qZV g (fun M' => qTkC M' (scQ t) ∧ qFr STk M M')) 132 [some (.ref 4), some (.ref 1), some (.int (nI a)), some (.int (nI s)), x4, x5] [] 333 M1 (0, 0) := by
        intro hn
        rw [scF_n hn] at es
        rw [es] at hT
        exact qi_retV rfl dX8_scan_132 (⟨hT, hf⟩)
      by_cases hc : a < t.1
      ·
        by_cases h4 : T.1 ≤ 400
        ·
          rw [scF_y ⟨hc, h4⟩] at es
          have hn := nxQ_in hc
          have hb := ok.2 a hc
          have eb := byQ_in hc
          have NXT : ∀ M2, qTkC M2 (tkQ t a T) → qFr STk M1 M2 → qT g kX8_scan (qR 4 0 0) (qZV g (fun M' => qTkC M' (scQ t) ∧ qFr STk M M')) 123 [some (.ref 4), some (.ref 1), some (.int (nI a)), some (.int (nI s)), some (.int (nI (t.2 a))), some (.int (nI (nxQ t a)))] [] 333 M2 (0, 0) := by
            intro M2 hT2 hf2
            refine qi_iload (i := 5) (x := nI (nxQ t a)) dX8_scan_123 rfl ?_
            refine qi_istore_n (i := 2) (L2 := [some (.ref 4), some (.ref 1), some (.int (nI (nxQ t a))), some (.int (nI s)), some (.int (nI (t.2 a))), some (.int (nI (nxQ t a)))]) dX8_scan_125 rfl (Nat.le_of_ble_eq_true rfl) rfl ?_
            refine qi_iinc (i := 3) (x := nI s) (v := nI (s + 1)) (L2 := [some (.ref 4), some (.ref 1), some (.int (nI (nxQ t a))), some (.int (nI (s + 1))), some (.int (nI (t.2 a))), some (.int (nI (nxQ t a)))]) dX8_scan_126 rfl (nI_1 s) (Nat.le_of_ble_eq_true rfl) rfl ?_
            refine qi_goto (tgt := 17) dX8_scan_129 (by decide) ?_
            exact ih (s + 1) (nxQ t a) (tkQ t a T) M2 _ _ (by omega) (by omega) hn.2 hT2 ((tkQ_s t a T).trans hs) (hf.tr hf2) es
          refine qi_iload_n (i := 3) (x := nI s) dX8_scan_17 rfl rfl ?_
          refine qi_sipush (v := 2000) dX8_scan_18 rfl ?_
          refine qi_icmp_ge (tgt := 132) dX8_scan_21 (by decide) (fun _h => absurd ((nI_leI (a := 2000) (b := s) (by omega) (by omega)).mp _h) (by omega)) (fun _hc => ?_)
          refine qi_iload_n (i := 2) (x := nI a) dX8_scan_24 rfl rfl ?_
          refine qi_aload_n (i := 0) (x := 4) dX8_scan_25 rfl rfl ?_
          refine qi_getI (x := nI t.1) flX8_29 dX8_scan_26 rfl (by decide) (hT.2.2.1.trans (by rw [hs])) ?_
          refine qi_icmp_ge (tgt := 132) dX8_scan_29 (by decide) (fun _h => absurd ((nI_leI (a := t.1) (b := a) (by omega) (by omega)).mp _h) (by omega)) (fun _hc => ?_)
          refine qi_aload_n (i := 0) (x := 4) dX8_scan_32 rfl rfl ?_
          refine qi_getI (x := nI T.1) flX8_25 dX8_scan_33 rfl (by decide) hT.2.1 ?_
          refine qi_sipush (v := 400) dX8_scan_36 rfl ?_
          refine qi_icmp_gt (tgt := 132) dX8_scan_39 (by decide) (fun _h => absurd ((nI_ltI (a := 400) (b := T.1) (by omega) (by omega)).mp _h) (by omega)) (fun _hc => ?_)
          refine qi_aload_n (i := 1) (x := 1) dX8_scan_42 rfl rfl ?_
          refine qi_iload_n (i := 2) (x := nI a) dX8_scan_43 rfl rfl ?_
          refine qi_callPVI (v := nI (t.2 a)) (K' := kX7_byteAt) (As := [.int (nI a)]) mlX8_51 okX7_byteAt dX8_scan_44 (c_X7_byteAt g hM1 hp1 h2000 hc) rfl (by decide) rfl (by decide) rfl rfl (Nat.le_of_ble_eq_true rfl) ⟨(Nat.le_of_ble_eq_true rfl), (Nat.le_of_ble_eq_true rfl)⟩ ⟨Nat.le_refl _, Nat.le_refl _⟩ ?_
          refine qi_istore (i := 4) (L2 := [some (.ref 4), some (.ref 1), some (.int (nI a)), some (.int (nI s)), some (.int (nI (t.2 a))), x5]) dX8_scan_47 (Nat.le_of_ble_eq_true rfl) rfl ?_
          refine qi_iload_n (i := 2) (x := nI a) dX8_scan_49 rfl rfl ?_
          refine qi_iconst (v := 1) dX8_scan_50 rfl ?_
          refine qi_iadd dX8_scan_51 ?_
          refine qe_top (y := nI (a + 1)) (nI_1 a) ?_
          refine qi_istore (i := 5) (L2 := [some (.ref 4), some (.ref 1), some (.int (nI a)), some (.int (nI s)), some (.int (nI (t.2 a))), some (.int (nI (a + 1)))]) dX8_scan_52 (Nat.le_of_ble_eq_true rfl) rfl ?_
          refine qi_iload (i := 4) (x := nI (t.2 a)) dX8_scan_54 rfl ?_
          refine qi_callSI (K' := kX8_isLetter) (As := [.int (nI (t.2 a))]) mlX8_55 okX8_isLetter dX8_scan_56 (c_X8_isLetter g (c := t.2 a) (by omega)) rfl rfl (Nat.le_of_ble_eq_true rfl) ⟨(Nat.le_of_ble_eq_true rfl), (Nat.le_of_ble_eq_true rfl)⟩ ⟨Nat.le_refl _, Nat.le_refl _⟩ (fun r1 M2 ⟨b0, b1, b2⟩ => ?_)
          rw [b2]
          rw [← eb] at b1
          by_cases hl : lqB t a = true
          ·
            refine qi_if_eq (tgt := 73) dX8_scan_59 (by decide) (fun z => False.elim (((b1.mpr (lqB_i.mp hl)) z))) (fun z => ?_)
            refine qi_aload_n (i := 0) (x := 4) dX8_scan_62 rfl rfl ?_
            refine qi_aload_n (i := 1) (x := 1) dX8_scan_63 rfl rfl ?_
            refine qi_iload_n (i := 2) (x := nI a) dX8_scan_64 rfl rfl ?_
            refine qi_callVI (K' := kX8_addLetters) (As := [.ref 1, .int (nI a)]) mlX8_59 okX8_addLetters dX8_scan_65 (c_X8_addLetters g hM1 hw1 hp1 ok hT hs hc) rfl (by decide) rfl (by decide) rfl rfl (Nat.le_of_ble_eq_true rfl) ⟨(Nat.le_of_ble_eq_true rfl), (Nat.le_of_ble_eq_true rfl)⟩ ⟨Nat.le_refl _, Nat.le_refl _⟩ (fun r2 M3 ⟨d1, d2, d3⟩ => ?_)
            refine qe_top (y := nI (nxQ t a)) (d1.trans (by unfold nxQ; rw [if_pos hl])) ?_
            refine qi_istore (i := 5) (L2 := [some (.ref 4), some (.ref 1), some (.int (nI a)), some (.int (nI s)), some (.int (nI (t.2 a))), some (.int (nI (nxQ t a)))]) dX8_scan_68 (Nat.le_of_ble_eq_true rfl) rfl ?_
            refine qi_goto (tgt := 123) dX8_scan_70 (by decide) ?_
            exact NXT M3 (by unfold tkQ; rw [if_pos hl]; exact d2) d3
          refine qi_if_eq (tgt := 73) dX8_scan_59 (by decide) (fun z => ?_) (fun z => False.elim ((hl (lqB_i.mpr (b1.mp z)))))
          refine qi_iload (i := 4) (x := nI (t.2 a)) dX8_scan_73 rfl ?_
          refine qi_callSI (K' := kX8_isDigit) (As := [.int (nI (t.2 a))]) mlX8_63 okX8_isDigit dX8_scan_75 (c_X8_isDigit g (c := t.2 a) (by omega)) rfl rfl (Nat.le_of_ble_eq_true rfl) ⟨(Nat.le_of_ble_eq_true rfl), (Nat.le_of_ble_eq_true rfl)⟩ ⟨Nat.le_refl _, Nat.le_refl _⟩ (fun r2 M3 ⟨c0, c1, c2⟩ => ?_)
          rw [c2]
          rw [← eb] at c1
          by_cases hd : dqB t a = true
          ·
            refine qi_if_eq (tgt := 92) dX8_scan_78 (by decide) (fun z => False.elim (((c1.mpr (dqB_i.mp hd)) z))) (fun z => ?_)
            refine qi_aload_n (i := 0) (x := 4) dX8_scan_81 rfl rfl ?_
            refine qi_aload_n (i := 1) (x := 1) dX8_scan_82 rfl rfl ?_
            refine qi_iload_n (i := 2) (x := nI a) dX8_scan_83 rfl rfl ?_
            refine qi_callVI (K' := kX8_addDigits) (As := [.ref 1, .int (nI a)]) mlX8_66 okX8_addDigits dX8_scan_84 (c_X8_addDigits g hM1 hp1 ok hT hs hc) rfl (by decide) rfl (by decide) rfl rfl (Nat.le_of_ble_eq_true rfl) ⟨(Nat.le_of_ble_eq_true rfl), (Nat.le_of_ble_eq_true rfl)⟩ ⟨Nat.le_refl _, Nat.le_refl _⟩ (fun r3 M4 ⟨d1, d2, d3⟩ => ?_)
            refine qe_top (y := nI (nxQ t a)) (d1.trans (by unfold nxQ; rw [if_neg hl, if_pos hd])) ?_
            refine qi_istore (i := 5) (L2 := [some (.ref 4), some (.ref 1), some (.int (nI a)), some (.int (nI s)), some (.int (nI (t.2 a))), some (.int (nI (nxQ t a)))]) dX8_scan_87 (Nat.le_of_ble_eq_true rfl) rfl ?_
            refine qi_goto (tgt := 123) dX8_scan_89 (by decide) ?_
            exact NXT M4 (by unfold tkQ; rw [if_neg hl, if_pos hd]; exact d2) d3
          refine qi_if_eq (tgt := 92) dX8_scan_78 (by decide) (fun z => ?_) (fun z => False.elim ((hd (dqB_i.mpr (c1.mp z)))))
          refine qi_iload (i := 4) (x := nI (t.2 a)) dX8_scan_92 rfl ?_
          have en : nxQ t a = a + 1 := by unfold nxQ; rw [if_neg hl, if_neg hd]
          rw [en] at NXT
          refine qi_callSI (K' := kX8_isBlank) (As := [.int (nI (t.2 a))]) mlX8_69 okX8_isBlank dX8_scan_94 (c_X8_isBlank g (c := t.2 a) (by omega)) rfl rfl (Nat.le_of_ble_eq_true rfl) ⟨(Nat.le_of_ble_eq_true rfl), (Nat.le_of_ble_eq_true rfl)⟩ ⟨Nat.le_refl _, Nat.le_refl _⟩ (fun r3 M4 ⟨f0, f1, f2⟩ => ?_)
          rw [f2]
          rw [← eb] at f1
          by_cases hk : bqB t a = true
          ·
            refine qi_if_ne (tgt := 123) dX8_scan_97 (by decide) (fun z => ?_) (fun z => False.elim (((f1.mpr (bqB_i.mp hk)) z)))
            exact NXT M1 (by unfold tkQ; rw [if_neg hl, if_neg hd, if_pos hk]; exact hT) qFr.rf
          refine qi_if_ne (tgt := 123) dX8_scan_97 (by decide) (fun z => False.elim ((hk (bqB_i.mpr (f1.mp z))))) (fun z => ?_)
          have et : tkQ t a T = addT T (sgQ (t.2 a)) a 0 := by unfold tkQ; rw [if_neg hl, if_neg hd, if_neg hk]
          rw [et] at NXT
          have ADD : qT g kX8_scan (qR 4 0 0) (qZV g (fun M' => qTkC M' (scQ t) ∧ qFr STk M M')) 118 [some (.ref 4), some (.ref 1), some (.int (nI a)), some (.int (nI s)), some (.int (nI (t.2 a))), some (.int (nI (a + 1)))] [.int (nI (sgQ (t.2 a))), .ref 4] 333 M1 (0, 0) := by
            refine qi_iload_n (i := 2) (x := nI a) dX8_scan_118 rfl rfl ?_
            refine qi_lconst (v := 0) dX8_scan_119 rfl ?_
            refine qi_callVV (K' := kX8_add) (As := [.int (nI (sgQ (t.2 a))), .int (nI a), .long 0]) mlX8_77 okX8_add dX8_scan_120 (c_X8_add g hM1 hT (sgQ (t.2 a)) a 0) rfl (by decide) rfl (by decide) rfl rfl (Nat.le_of_ble_eq_true rfl) ⟨(Nat.le_of_ble_eq_true rfl), (Nat.le_of_ble_eq_true rfl)⟩ ⟨Nat.le_refl _, Nat.le_refl _⟩ (fun M5 ⟨h1, h2⟩ => ?_)
            exact NXT M5 h1 h2
          refine qi_aload_n (i := 0) (x := 4) dX8_scan_100 rfl rfl ?_
          refine qi_sldc1 rfl dX8_scan_101 ?_
          have hi : 1 < 2 := by decide
          refine qi_iload (i := 4) (x := nI (t.2 a)) dX8_scan_103 rfl ?_
          refine qi_i2c dX8_scan_105 ?_
          refine qe_top (y := nI (t.2 a)) (by rw [pk_char, pk_tn (by omega), Nat.mod_eq_of_lt (by omega)]) ?_
          refine qi_callzT (K' := kJ0_indexOf_0f7a4) (As := [.int (nI (t.2 a))]) mlX8_74 okJ0_indexOf_0f7a4 dX8_scan_106 (c_indexOf g hb) hi rfl rfl rfl (Nat.le_of_ble_eq_true rfl) ⟨(Nat.le_of_ble_eq_true rfl), (Nat.le_of_ble_eq_true rfl)⟩ ⟨Nat.le_refl _, Nat.le_refl _⟩ ?_
          show qT g kX8_scan (qR 4 0 0) (qZV g (fun M' => qTkC M' (scQ t) ∧ qFr STk M M')) 109 [some (.ref 4), some (.ref 1), some (.int (nI a)), some (.int (nI s)), some (.int (nI (t.2 a))), some (.int (nI (a + 1)))] [.int (ixG (t.2 a) 0 9), .ref 4] 333 M1 (0, 0)
          rcases ix_sg (t.2 a) hb with ⟨q1, q2⟩ | ⟨q1, q2⟩
          ·
            rw [q2] at ADD
            refine qi_if_lt (tgt := 117) dX8_scan_109 (by decide) (fun z => ?_) (fun z => False.elim ((z q1)))
            refine qi_iconst (v := 1) dX8_scan_117 rfl ?_
            exact ADD
          ·
            rw [q2] at ADD
            refine qi_if_lt (tgt := 117) dX8_scan_109 (by decide) (fun z => False.elim ((q1 z))) (fun z => ?_)
            refine qi_iload (i := 4) (x := nI (t.2 a)) dX8_scan_112 rfl ?_
            refine qi_goto (tgt := 118) dX8_scan_114 (by decide) ?_
            exact ADD
        ·
          refine qi_iload_n (i := 3) (x := nI s) dX8_scan_17 rfl rfl ?_
          refine qi_sipush (v := 2000) dX8_scan_18 rfl ?_
          refine qi_icmp_ge (tgt := 132) dX8_scan_21 (by decide) (fun _h => absurd ((nI_leI (a := 2000) (b := s) (by omega) (by omega)).mp _h) (by omega)) (fun _hc => ?_)
          refine qi_iload_n (i := 2) (x := nI a) dX8_scan_24 rfl rfl ?_
          refine qi_aload_n (i := 0) (x := 4) dX8_scan_25 rfl rfl ?_
          refine qi_getI (x := nI t.1) flX8_29 dX8_scan_26 rfl (by decide) (hT.2.2.1.trans (by rw [hs])) ?_
          refine qi_icmp_ge (tgt := 132) dX8_scan_29 (by decide) (fun _h => absurd ((nI_leI (a := t.1) (b := a) (by omega) (by omega)).mp _h) (by omega)) (fun _hc => ?_)
          refine qi_aload_n (i := 0) (x := 4) dX8_scan_32 rfl rfl ?_
          refine qi_getI (x := nI T.1) flX8_25 dX8_scan_33 rfl (by decide) hT.2.1 ?_
          refine qi_sipush (v := 400) dX8_scan_36 rfl ?_
          have hT1 := hT.1.1
          refine qi_icmp_gt (tgt := 132) dX8_scan_39 (by decide) (fun _hc => ?_) (fun _h => absurd ((nI_ltI (a := 400) (b := T.1) (by omega) (by omega)).mpr (by omega)) _h)
          exact OUT (fun z => h4 z.2)
      ·
        refine qi_iload_n (i := 3) (x := nI s) dX8_scan_17 rfl rfl ?_
        refine qi_sipush (v := 2000) dX8_scan_18 rfl ?_
        refine qi_icmp_ge (tgt := 132) dX8_scan_21 (by decide) (fun _h => absurd ((nI_leI (a := 2000) (b := s) (by omega) (by omega)).mp _h) (by omega)) (fun _hc => ?_)
        refine qi_iload_n (i := 2) (x := nI a) dX8_scan_24 rfl rfl ?_
        refine qi_aload_n (i := 0) (x := 4) dX8_scan_25 rfl rfl ?_
        refine qi_getI (x := nI t.1) flX8_29 dX8_scan_26 rfl (by decide) (hT.2.2.1.trans (by rw [hs])) ?_
        refine qi_icmp_ge (tgt := 132) dX8_scan_29 (by decide) (fun _hc => ?_) (fun _h => absurd ((nI_leI (a := t.1) (b := a) (by omega) (by omega)).mpr (by omega)) _h)
        exact OUT (fun z => hc z.1)
  refine qV.of (j := 4) (pn_RX8) rfl ?_
  show qT g kX8_scan (qR 4 0 0) (qZV g (fun M' => qTkC M' (scQ t) ∧ qFr STk M M')) 0 [some (.ref 4), some (.ref 1), none, none, none, none] [] 333 M (0, 0)
  refine qi_aload_n (i := 0) (x := 4) dX8_scan_0 rfl rfl ?_
  refine qi_iconst (v := 0) dX8_scan_1 rfl ?_
  refine qi_putI flX8_25 q_cls8 (ty8_4 _) dX8_scan_2 rfl (by decide) ?_
  refine qi_aload_n (i := 0) (x := 4) dX8_scan_5 rfl rfl ?_
  refine qi_aload_n (i := 1) (x := 1) dX8_scan_6 rfl rfl ?_
  refine qi_getI (x := nI t.1) flX8_48 dX8_scan_7 rfl (by decide) ((wI_a (by decide)).trans hp.1) ?_
  refine qi_putI flX8_29 q_cls8 (ty8_5 _) dX8_scan_10 rfl (by decide) ?_
  refine qi_iconst (v := 0) dX8_scan_13 rfl ?_
  refine qi_istore_n (i := 2) (L2 := [some (.ref 4), some (.ref 1), some (.int 0), none, none, none]) dX8_scan_14 rfl (Nat.le_of_ble_eq_true rfl) rfl ?_
  refine qi_iconst (v := 0) dX8_scan_15 rfl ?_
  refine qi_istore_n (i := 3) (L2 := [some (.ref 4), some (.ref 1), some (.int 0), some (.int 0), none, none]) dX8_scan_16 rfl (Nat.le_of_ble_eq_true rfl) rfl ?_
  refine K 2000 0 0 (T0Q t) _ _ _ rfl (Nat.le_refl _) (Nat.zero_le _) ?_ rfl ?_ rfl
  · refine ⟨⟨Nat.zero_le _, h2000⟩, ?_, ?_, fun i hi => absurd hi (Nat.not_lt_zero _)⟩
    · rw [wI_k (by decide), wI_s]
      rfl
    · rw [wI_s]
      rfl
  · exact (qFr.rf.wI (by unfold STk; omega)).wI (by unfold STk; omega)
