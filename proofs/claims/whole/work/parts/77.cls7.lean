/-! ThimbleSea$Told; tell, forget, forged, explains; feed, back -/
theorem fstO_mono {P : Nat → Bool} {k i : Nat} (h : fstO P k = some i) : ∀ m, fstO P (k + m) = some i
  | 0 => h
  | m + 1 => fstO_c (fstO_mono h m)
set_option maxHeartbeats 1000000 in
theorem c_X9_lastWeek (g : qG) {M : qM} (hM : qRf M) {τ : qTo} (hT : qToC M τ) (hok : okTo τ) {k : Nat} (hk : k ≤ τ.1) : qI g 1 kX9_lastWeek [.ref 214, .int (nI k)] M (fun r M' => r = nI (lastF τ k) - 1 ∧ M' = M) := by
  have h20 := hok.1
  have K : ∀ m j, j + m = k → qT g kX9_lastWeek (qR 1 0 0) (qZI g (fun r M' => r = (nI (lastF τ k) - 1) ∧ M' = M)) 4 [some (.ref 214), some (.int (nI k)), some (.int (nI (lastF τ j) - 1)), some (.int (nI j))] [] 333 M (0, 0) := by
    intro m
    induction m with
    | zero =>
      intro j e
      refine qi_iload_n (i := 3) (x := nI j) dX9_lastWeek_4 rfl rfl ?_
      refine qi_iload_n (i := 1) (x := nI k) dX9_lastWeek_5 rfl rfl ?_
      refine qi_icmp_ge (tgt := 26) dX9_lastWeek_6 (by decide) (fun _hc => ?_) (fun _h => absurd ((nI_leI (a := k) (b := j) (by omega) (by omega)).mpr (by omega)) _h)
      refine qi_iload_n (i := 2) (x := nI (lastF τ j) - 1) dX9_lastWeek_26 rfl rfl ?_
      exact qi_retI rfl rfl dX9_lastWeek_27 (⟨by rw [show j = k by omega], rfl⟩)
    | succ m ih =>
      intro j e
      have q := hok.2 j (by omega)
      have e1 := (hT.2 j (by omega)).1
      have hl := lastF_le hok j (by omega)
      have A := ih (j + 1) (by omega)
      have e2 : lastF τ (j + 1) = if lastF τ j < τ.2.1 j + 1 then τ.2.1 j + 1 else lastF τ j := rfl
      have le : nI (lastF τ j) - 1 < nI (τ.2.1 j) ↔ lastF τ j < τ.2.1 j + 1 := by
        by_cases z : lastF τ j = 0
        · rw [z]
          constructor
          · intro h; omega
          · intro h
            apply Int32.lt_iff_toInt_lt.mpr
            rw [nI_toInt (by omega)]
            have e3 : (nI 0 - 1).toInt = -1 := by decide
            omega
        · rw [show (1 : Int32) = nI 1 from rfl, pk_sub (by omega), nI_ltI (by omega) (by omega)]
          omega
      refine qi_iload_n (i := 3) (x := nI j) dX9_lastWeek_4 rfl rfl ?_
      refine qi_iload_n (i := 1) (x := nI k) dX9_lastWeek_5 rfl rfl ?_
      refine qi_icmp_ge (tgt := 26) dX9_lastWeek_6 (by decide) (fun _h => absurd ((nI_leI (a := k) (b := j) (by omega) (by omega)).mp _h) (by omega)) (fun _hc => ?_)
      refine qi_iload_n (i := 2) (x := nI (lastF τ j) - 1) dX9_lastWeek_9 rfl rfl ?_
      refine qi_aload_n (i := 0) (x := 214) dX9_lastWeek_10 rfl rfl ?_
      refine qi_getR (x := 215) flX9_9 dX9_lastWeek_11 rfl (by decide) (hM 214 0 215 rfl) ?_
      refine qi_iload_n (i := 3) (x := nI j) dX9_lastWeek_14 rfl rfl ?_
      refine qi_ialdN (x := nI (τ.2.1 j)) (j := j) dX9_lastWeek_15 rfl (by decide) rfl (by omega) (by decide) e1 ?_
      refine qi_max mtX9_66 mt_max_s mt_i mt_max_c dX9_lastWeek_16 (Nat.le_of_ble_eq_true rfl) ⟨(Nat.le_of_ble_eq_true rfl), (Nat.le_of_ble_eq_true rfl)⟩ ⟨Nat.le_refl _, Nat.le_refl _⟩ ?_
      have e3 : (if nI (lastF τ j) - 1 < nI (τ.2.1 j) then nI (τ.2.1 j) else nI (lastF τ j) - 1) = nI (lastF τ (j + 1)) - 1 := by
        by_cases c : lastF τ j < τ.2.1 j + 1
        · rw [if_pos (le.mpr c), e2, if_pos c, nI_pred]
        · rw [if_neg (fun z => c (le.mp z)), e2, if_neg c]
      refine qe_top (y := nI (lastF τ (j + 1)) - 1) e3 ?_
      refine qi_istore_n (i := 2) (L2 := [some (.ref 214), some (.int (nI k)), some (.int (nI (lastF τ (j + 1)) - 1)), some (.int (nI j))]) dX9_lastWeek_19 rfl (Nat.le_of_ble_eq_true rfl) rfl ?_
      refine qi_iinc (i := 3) (x := nI j) (v := nI (j + 1)) (L2 := [some (.ref 214), some (.int (nI k)), some (.int (nI (lastF τ (j + 1)) - 1)), some (.int (nI (j + 1)))]) dX9_lastWeek_20 rfl (nI_1 j) (Nat.le_of_ble_eq_true rfl) rfl ?_
      refine qi_goto (tgt := 4) dX9_lastWeek_23 (by decide) ?_
      exact A
  refine qI.of (j := 2) (pn_RX9) rfl ?_
  show qT g kX9_lastWeek (qR 1 0 0) (qZI g (fun r M' => r = (nI (lastF τ k) - 1) ∧ M' = M)) 0 [some (.ref 214), some (.int (nI k)), none, none] [] 333 M (0, 0)
  refine qi_iconst (v := -1) dX9_lastWeek_0 rfl ?_
  refine qi_istore_n (i := 2) (L2 := [some (.ref 214), some (.int (nI k)), some (.int (-1)), none]) dX9_lastWeek_1 rfl (Nat.le_of_ble_eq_true rfl) rfl ?_
  refine qi_iconst (v := 0) dX9_lastWeek_2 rfl ?_
  refine qi_istore_n (i := 3) (L2 := [some (.ref 214), some (.int (nI k)), some (.int (-1)), some (.int 0)]) dX9_lastWeek_3 rfl (Nat.le_of_ble_eq_true rfl) rfl ?_
  exact K k 0 (by omega)
set_option maxHeartbeats 1000000 in
theorem c_X9_firstOdd (g : qG) {M : qM} (hM : qRf M) {τ : qTo} (hT : qToC M τ) (hok : okTo τ) {k w : Nat} (hk : k ≤ τ.1) (hw : w < 2 ^ 31) (l : Int32) : qI g 0 kX9_firstOdd [.ref 214, .int (nI k), .int (nI w), .int l] M (fun r M' => r = o2i (fstO (oddP τ w l) k) ∧ M' = M) := by
  have h20 := hok.1
  have hPo : ∃ P : Nat → Bool, ∀ i, P i = oddP τ w l i := ⟨_, fun _ => rfl⟩
  obtain ⟨P, hPo⟩ := hPo
  have eP : fstO (oddP τ w l) k = fstO P k := by rw [show oddP τ w l = P from funext fun i => (hPo i).symm]
  have K : ∀ m j, j + m = k → fstO P j = none → qT g kX9_firstOdd (qR 0 0 0) (qZI g (fun r M' => r = (o2i (fstO (oddP τ w l) k)) ∧ M' = M)) 3 [some (.ref 214), some (.int (nI k)), some (.int (nI w)), some (.int l), some (.int (nI j))] [] 333 M (0, 0) := by
    intro m
    induction m with
    | zero =>
      intro j e hn
      refine qi_iload (i := 4) (x := nI j) dX9_firstOdd_3 rfl ?_
      refine qi_iload_n (i := 1) (x := nI k) dX9_firstOdd_5 rfl rfl ?_
      refine qi_icmp_ge (tgt := 40) dX9_firstOdd_6 (by decide) (fun _hc => ?_) (fun _h => absurd ((nI_leI (a := k) (b := j) (by omega) (by omega)).mpr (by omega)) _h)
      refine qi_iconst (v := -1) dX9_firstOdd_40 rfl ?_
      exact qi_retI rfl rfl dX9_firstOdd_41 (⟨by rw [eP, show k = j by omega, hn]; rfl, rfl⟩)
    | succ m ih =>
      intro j e hn
      obtain ⟨e1, e2⟩ := hT.2 j (by omega)
      obtain ⟨b1, b2⟩ := hok.2 j (by omega)
      have A := fun (z : P j = false) => ih (j + 1) (by omega) (by rw [fstO_n hn, z]; rfl)
      refine qi_iload (i := 4) (x := nI j) dX9_firstOdd_3 rfl ?_
      refine qi_iload_n (i := 1) (x := nI k) dX9_firstOdd_5 rfl rfl ?_
      refine qi_icmp_ge (tgt := 40) dX9_firstOdd_6 (by decide) (fun _h => absurd ((nI_leI (a := k) (b := j) (by omega) (by omega)).mp _h) (by omega)) (fun _hc => ?_)
      refine qi_aload_n (i := 0) (x := 214) dX9_firstOdd_9 rfl rfl ?_
      refine qi_getR (x := 215) flX9_9 dX9_firstOdd_10 rfl (by decide) (hM 214 0 215 rfl) ?_
      refine qi_iload (i := 4) (x := nI j) dX9_firstOdd_13 rfl ?_
      refine qi_ialdN (x := nI (τ.2.1 j)) (j := j) dX9_firstOdd_15 rfl (by decide) rfl (by omega) (by decide) e1 ?_
      refine qi_iload_n (i := 2) (x := nI w) dX9_firstOdd_16 rfl rfl ?_
      refine qi_icmp_ne (tgt := 34) dX9_firstOdd_17 (by decide) (fun _h => ?_) (fun _h => ?_)
      · have c1 : ¬ ((τ.2.1 j) = w) := fun z => _h ((nI_eq (a := τ.2.1 j) (b := w) (by omega) (by omega)).mpr z)
        refine qi_iinc (i := 4) (x := nI j) (v := nI (j + 1)) (L2 := [some (.ref 214), some (.int (nI k)), some (.int (nI w)), some (.int l), some (.int (nI (j + 1)))]) dX9_firstOdd_34 rfl (nI_1 j) (Nat.le_of_ble_eq_true rfl) rfl ?_
        refine qi_goto (tgt := 3) dX9_firstOdd_37 (by decide) ?_
        exact A (by rw [hPo]; exact decide_eq_false (fun z => c1 z.1))
      · have c1 : (τ.2.1 j) = w := (nI_eq (a := τ.2.1 j) (b := w) (by omega) (by omega)).mp _h
        refine qi_aload_n (i := 0) (x := 214) dX9_firstOdd_20 rfl rfl ?_
        refine qi_getR (x := 216) flX9_15 dX9_firstOdd_21 rfl (by decide) (hM 214 1 216 rfl) ?_
        refine qi_iload (i := 4) (x := nI j) dX9_firstOdd_24 rfl ?_
        refine qi_ialdN (x := nI (τ.2.2 j)) (j := j) dX9_firstOdd_26 rfl (by decide) rfl (by omega) (by decide) e2 ?_
        refine qi_iload_n (i := 3) (x := l) dX9_firstOdd_27 rfl rfl ?_
        refine qi_icmp_eq (tgt := 34) dX9_firstOdd_28 (by decide) (fun c2 => ?_) (fun c2 => ?_)
        · refine qi_iinc (i := 4) (x := nI j) (v := nI (j + 1)) (L2 := [some (.ref 214), some (.int (nI k)), some (.int (nI w)), some (.int l), some (.int (nI (j + 1)))]) dX9_firstOdd_34 rfl (nI_1 j) (Nat.le_of_ble_eq_true rfl) rfl ?_
          refine qi_goto (tgt := 3) dX9_firstOdd_37 (by decide) ?_
          exact A (by rw [hPo]; exact decide_eq_false (fun z => z.2 c2))
        · have hp : P j = true := by rw [hPo]; exact decide_eq_true ⟨c1, c2⟩
          have q := fstO_mono (P := P) (k := j + 1) (i := j) (by rw [fstO_n hn, hp]; rfl) (k - (j + 1))
          rw [show j + 1 + (k - (j + 1)) = k by omega] at q
          refine qi_iload (i := 4) (x := nI j) dX9_firstOdd_31 rfl ?_
          exact qi_retI rfl rfl dX9_firstOdd_33 (⟨by rw [eP, q]; rfl, rfl⟩)
  refine qI.of (j := 1) (pn_RX9) rfl ?_
  show qT g kX9_firstOdd (qR 0 0 0) (qZI g (fun r M' => r = (o2i (fstO (oddP τ w l) k)) ∧ M' = M)) 0 [some (.ref 214), some (.int (nI k)), some (.int (nI w)), some (.int l), none] [] 333 M (0, 0)
  refine qi_iconst (v := 0) dX9_firstOdd_0 rfl ?_
  refine qi_istore (i := 4) (L2 := [some (.ref 214), some (.int (nI k)), some (.int (nI w)), some (.int l), some (.int 0)]) dX9_firstOdd_1 (Nat.le_of_ble_eq_true rfl) rfl ?_
  exact K k 0 (by omega) rfl
theorem qToC.fr {S : Nat → Nat → Prop} {M M' : qM} {τ : qTo} (h : qToC M τ) (hf : qFr S M M') (hd : ∀ b j, S b j → b ≠ 215 ∧ b ≠ 216 ∧ (b = 214 → j ≠ 4)) : qToC M' τ := ⟨(hf.1 _ _ (fun z => (hd _ _ z).2.2 rfl rfl)).trans h.1, fun i hi => ⟨(hf.1 _ _ (fun z => (hd _ _ z).1 rfl)).trans (h.2 i hi).1, (hf.1 _ _ (fun z => (hd _ _ z).2.1 rfl)).trans (h.2 i hi).2⟩⟩
theorem SQx_to {p : Nat} (hp : qIsP p) {b j : Nat} (z : SQx p b j) : b ≠ 215 ∧ b ≠ 216 ∧ (b = 214 → j ≠ 4) := by
  have := hp.2.1
  unfold SQx SP at z
  omega
theorem gt_last {n : Nat} (h : n < 2 ^ 31) : nI n - 1 < nI n := by
  by_cases z : n = 0
  · rw [z]; decide
  · rw [show (1 : Int32) = nI 1 from rfl, pk_sub (by omega)]
    exact (nI_ltI (by omega) (by omega)).mpr (by omega)
theorem ngt_last {n w : Nat} (h : n < 2 ^ 31) (hw : w < n) : ¬ nI n - 1 < nI w := by
  rw [show (1 : Int32) = nI 1 from rfl, pk_sub (by omega)]
  exact nI_nlt (by omega) (by omega)
set_option maxHeartbeats 2000000 in
theorem c_X9_firstForged (g : qG) {M : qM} (hM : qRf M) {p : Nat} {π : qPl} (hp : qIsP p) (hP : qPlan M p π) (hok : okPl π) {τ : qTo} (hT : qToC M τ) (hoT : okTo τ) {k : Nat} (hk : k ≤ τ.1) : qI g 5 kX9_firstForged [.ref 214, .int (nI k), .ref p, .ref 230] M (fun r M' => r = o2n (offF π τ k (fun _ => -1) (lastF τ k)) ∧ qFr (SQx p) M M') := by
  obtain ⟨res, hres⟩ : ∃ res, res = offF π τ k (fun _ => -1) (lastF τ k) := ⟨_, rfl⟩
  rw [← hres]
  have h20 := hoT.1
  have hl100 := lastF_le hoT k hk
  have ha : ∃ a : Nat → Int32, ∀ w, a w = -1 := ⟨fun _ => -1, fun _ => rfl⟩
  obtain ⟨a, ha⟩ := ha
  rw [show (fun _ => -1 : Nat → Int32) = a from funext fun w => (ha w).symm] at hres
  have K : ∀ m w M1 x7, w + m = lastF τ k → qFr (SQx p) M M1 → qSea M1 230 (seqF π a w) → qT g kX9_firstForged (qR 5 0 0) (qZI g (fun r M' => r = o2n res ∧ qFr (SQx p) M M')) 19 [some (.ref 214), some (.int (nI k)), some (.ref p), some (.ref 230), some (.int (nI (lastF τ k) - 1)), some (.int (o2n (offF π τ k a w))), some (.int (nI w)), x7] [] 333 M1 (0, 0) := by
    intro m
    induction m with
    | zero =>
      intro w M1 x7 e hf hR1
      obtain rfl : w = lastF τ k := by omega
      refine qi_iload (i := 6) (x := nI (lastF τ k)) dX9_firstForged_19 rfl ?_
      refine qi_iload (i := 4) (x := nI (lastF τ k) - 1) dX9_firstForged_21 rfl ?_
      refine qi_icmp_gt (tgt := 75) dX9_firstForged_23 (by decide) (fun z => ?_) (fun z => False.elim (z (gt_last (by omega))))
      refine qi_iload (i := 5) (x := o2n (offF π τ k a (lastF τ k))) dX9_firstForged_75 rfl ?_
      exact qi_retI rfl rfl dX9_firstForged_77 (⟨by rw [hres], hf⟩)
    | succ m ih =>
      intro w M1 x7 e hf hR1
      have hM1 := hM.fr hf
      refine qi_iload (i := 6) (x := nI w) dX9_firstForged_19 rfl ?_
      refine qi_iload (i := 4) (x := nI (lastF τ k) - 1) dX9_firstForged_21 rfl ?_
      refine qi_icmp_gt (tgt := 75) dX9_firstForged_23 (by decide) (fun z => False.elim (ngt_last (by omega) (by omega) z)) (fun z => ?_)
      refine qi_aload_n (i := 3) (x := 230) dX9_firstForged_26 rfl rfl ?_
      refine qi_aload_n (i := 2) (x := p) dX9_firstForged_27 rfl rfl ?_
      refine qi_iconst (v := -1) dX9_firstForged_28 rfl ?_
      refine qi_callVV (K' := kX6_passWeek) (As := [.ref p, .int (-1)]) mlX9_39 okX6_passWeek dX9_firstForged_29 (c_X6_passWeek g qIsS_trial hp (by decide) hM1 hR1 (hP.q hp hf) hok ((okSea.begin hok).seq hok a w) (-1)) rfl (by decide) rfl (by decide) rfl rfl (Nat.le_of_ble_eq_true rfl) ⟨(Nat.le_of_ble_eq_true rfl), (Nat.le_of_ble_eq_true rfl)⟩ ⟨Nat.le_refl _, Nat.le_refl _⟩ (fun M2 ⟨hR2, hf2⟩ => ?_)
      have hR2 : qSea M2 230 (seqF π a (w + 1)) := by
        have e1 : seqF π a (w + 1) = weekF π (a w) (seqF π a w) := rfl
        rw [e1, ha w]
        exact hR2
      have hM2 := hM1.fr hf2
      have hf12 := hf.tr (hf2.mono (fun _ _ => SW_SQ (p := p)))
      have hT2 := hT.fr hf12 (fun b j z => SQx_to hp z)
      refine qi_aload_n (i := 0) (x := 214) dX9_firstForged_32 rfl rfl ?_
      refine qi_iload_n (i := 1) (x := nI k) dX9_firstForged_33 rfl rfl ?_
      refine qi_iload (i := 6) (x := nI w) dX9_firstForged_34 rfl ?_
      refine qi_aload_n (i := 3) (x := 230) dX9_firstForged_36 rfl rfl ?_
      refine qi_getI (x := allF (seqF π a (w + 1))) flX9_43 dX9_firstForged_37 rfl (by decide) hR2.2.2.2.2.1 ?_
      refine qi_callPVI (v := o2i (fstO (oddP τ w (allF (seqF π a (w + 1)))) k)) (K' := kX9_firstOdd) (As := [.int (nI k), .int (nI w), .int (allF (seqF π a (w + 1)))]) mlX9_46 okX9_firstOdd dX9_firstForged_40 (c_X9_firstOdd g hM2 hT2 hoT hk (w := w) (by omega) _) rfl (by decide) rfl (by decide) rfl rfl (Nat.le_of_ble_eq_true rfl) ⟨(Nat.le_of_ble_eq_true rfl), (Nat.le_of_ble_eq_true rfl)⟩ ⟨Nat.le_refl _, Nat.le_refl _⟩ ?_
      refine qi_istore (i := 7) (L2 := [some (.ref 214), some (.int (nI k)), some (.ref p), some (.ref 230), some (.int (nI (lastF τ k) - 1)), some (.int (o2n (offF π τ k a w))), some (.int (nI w)), some (.int (o2i (fstO (oddP τ w (allF (seqF π a (w + 1)))) k)))]) dX9_firstForged_43 (Nat.le_of_ble_eq_true rfl) rfl ?_
      have A := ih (w + 1) M2
      have eo : offF π τ k a (w + 1) = minO (offF π τ k a w) (fstO (oddP τ w (allF (seqF π a (w + 1)))) k) := rfl
      rw [eo] at A
      have hbo := offF_lt (π := π) (τ := τ) (k := k) (a := a) w
      have hbf := fstO_lt (P := oddP τ w (allF (seqF π a (w + 1)))) k
      generalize offF π τ k a w = B at *
      cases hF : fstO (oddP τ w (allF (seqF π a (w + 1)))) k with
      | none =>
        rw [hF, minO_n] at A
        refine qi_iload (i := 7) (x := o2i none) dX9_firstForged_45 rfl ?_
        refine qi_iconst (v := -1) dX9_firstForged_47 rfl ?_
        refine qi_icmp_eq (tgt := 69) dX9_firstForged_48 (by decide) (fun z => ?_) (fun z => False.elim (z rfl))
        refine qi_iinc (i := 6) (x := nI w) (v := nI (w + 1)) (L2 := [some (.ref 214), some (.int (nI k)), some (.ref p), some (.ref 230), some (.int (nI (lastF τ k) - 1)), some (.int (o2n B)), some (.int (nI (w + 1))), some (.int (o2i none))]) dX9_firstForged_69 rfl (nI_1 w) (Nat.le_of_ble_eq_true rfl) rfl ?_
        refine qi_goto (tgt := 19) dX9_firstForged_72 (by decide) ?_
        exact A _ (by omega) hf12 hR2
      | some y =>
        have hy := hbf y hF
        rw [hF, minO_some] at A
        refine qi_iload (i := 7) (x := nI y) dX9_firstForged_45 rfl ?_
        refine qi_iconst (v := -1) dX9_firstForged_47 rfl ?_
        refine qi_icmp_eq (tgt := 69) dX9_firstForged_48 (by decide) (fun z => False.elim (nI_m1 (n := y) (by omega) z)) (fun z => ?_)
        refine qi_iload (i := 5) (x := o2n B) dX9_firstForged_51 rfl ?_
        refine qi_bipush (v := -2) dX9_firstForged_53 rfl ?_
        cases B with
        | none =>
          refine qi_icmp_eq (tgt := 65) dX9_firstForged_55 (by decide) (fun z => ?_) (fun z => False.elim (z rfl))
          refine qi_iload (i := 7) (x := nI y) dX9_firstForged_65 rfl ?_
          refine qi_istore (i := 5) (L2 := [some (.ref 214), some (.int (nI k)), some (.ref p), some (.ref 230), some (.int (nI (lastF τ k) - 1)), some (.int (nI y)), some (.int (nI w)), some (.int (nI y))]) dX9_firstForged_67 (Nat.le_of_ble_eq_true rfl) rfl ?_
          refine qi_iinc (i := 6) (x := nI w) (v := nI (w + 1)) (L2 := [some (.ref 214), some (.int (nI k)), some (.ref p), some (.ref 230), some (.int (nI (lastF τ k) - 1)), some (.int (nI y)), some (.int (nI (w + 1))), some (.int (nI y))]) dX9_firstForged_69 rfl (nI_1 w) (Nat.le_of_ble_eq_true rfl) rfl ?_
          refine qi_goto (tgt := 19) dX9_firstForged_72 (by decide) ?_
          exact A _ (by omega) hf12 hR2
        | some x =>
          have hx := hbo x rfl
          simp only at A
          have ne2 : ¬ nI x = -2 := fun z => by
            have a1 := nI_toInt (n := x) (by omega)
            rw [z] at a1
            have a2 : (-2 : Int32).toInt = -2 := by decide
            omega
          refine qi_icmp_eq (tgt := 65) dX9_firstForged_55 (by decide) (fun z => False.elim (ne2 z)) (fun z => ?_)
          refine qi_iload (i := 7) (x := nI y) dX9_firstForged_58 rfl ?_
          refine qi_iload (i := 5) (x := nI x) dX9_firstForged_60 rfl ?_
          refine qi_icmp_ge (tgt := 69) dX9_firstForged_62 (by decide) (fun _h => ?_) (fun _h => ?_)
          · have c : x ≤ y := (nI_leI (a := x) (b := y) (by omega) (by omega)).mp _h
            rw [if_neg (by omega)] at A
            refine qi_iinc (i := 6) (x := nI w) (v := nI (w + 1)) (L2 := [some (.ref 214), some (.int (nI k)), some (.ref p), some (.ref 230), some (.int (nI (lastF τ k) - 1)), some (.int (nI x)), some (.int (nI (w + 1))), some (.int (nI y))]) dX9_firstForged_69 rfl (nI_1 w) (Nat.le_of_ble_eq_true rfl) rfl ?_
            refine qi_goto (tgt := 19) dX9_firstForged_72 (by decide) ?_
            exact A _ (by omega) hf12 hR2
          · have c : ¬ (x ≤ y) := fun z => _h ((nI_leI (a := x) (b := y) (by omega) (by omega)).mpr z)
            rw [if_pos (by omega)] at A
            refine qi_iload (i := 7) (x := nI y) dX9_firstForged_65 rfl ?_
            refine qi_istore (i := 5) (L2 := [some (.ref 214), some (.int (nI k)), some (.ref p), some (.ref 230), some (.int (nI (lastF τ k) - 1)), some (.int (nI y)), some (.int (nI w)), some (.int (nI y))]) dX9_firstForged_67 (Nat.le_of_ble_eq_true rfl) rfl ?_
            refine qi_iinc (i := 6) (x := nI w) (v := nI (w + 1)) (L2 := [some (.ref 214), some (.int (nI k)), some (.ref p), some (.ref 230), some (.int (nI (lastF τ k) - 1)), some (.int (nI y)), some (.int (nI (w + 1))), some (.int (nI y))]) dX9_firstForged_69 rfl (nI_1 w) (Nat.le_of_ble_eq_true rfl) rfl ?_
            refine qi_goto (tgt := 19) dX9_firstForged_72 (by decide) ?_
            exact A _ (by omega) hf12 hR2
  refine qI.of (j := 4) (pn_RX9) rfl ?_
  show qT g kX9_firstForged (qR 5 0 0) (qZI g (fun r M' => r = o2n res ∧ qFr (SQx p) M M')) 0 [some (.ref 214), some (.int (nI k)), some (.ref p), some (.ref 230), none, none, none, none] [] 333 M (0, 0)
  refine qi_aload_n (i := 0) (x := 214) dX9_firstForged_0 rfl rfl ?_
  refine qi_iload_n (i := 1) (x := nI k) dX9_firstForged_1 rfl rfl ?_
  refine qi_callPVI (v := nI (lastF τ k) - 1) (K' := kX9_lastWeek) (As := [.int (nI k)]) mlX9_29 okX9_lastWeek dX9_firstForged_2 (c_X9_lastWeek g hM hT hoT hk) rfl (by decide) rfl (by decide) rfl rfl (Nat.le_of_ble_eq_true rfl) ⟨(Nat.le_of_ble_eq_true rfl), (Nat.le_of_ble_eq_true rfl)⟩ ⟨Nat.le_refl _, Nat.le_refl _⟩ ?_
  refine qi_istore (i := 4) (L2 := [some (.ref 214), some (.int (nI k)), some (.ref p), some (.ref 230), some (.int (nI (lastF τ k) - 1)), none, none, none]) dX9_firstForged_5 (Nat.le_of_ble_eq_true rfl) rfl ?_
  refine qi_bipush (v := -2) dX9_firstForged_7 rfl ?_
  refine qi_istore (i := 5) (L2 := [some (.ref 214), some (.int (nI k)), some (.ref p), some (.ref 230), some (.int (nI (lastF τ k) - 1)), some (.int (-2)), none, none]) dX9_firstForged_9 (Nat.le_of_ble_eq_true rfl) rfl ?_
  refine qi_aload_n (i := 3) (x := 230) dX9_firstForged_11 rfl rfl ?_
  refine qi_aload_n (i := 2) (x := p) dX9_firstForged_12 rfl rfl ?_
  refine qi_callVV (K' := kX6_begin) (As := [.ref p]) mlX9_33 okX6_begin dX9_firstForged_13 (c_X6_begin g qIsS_trial hp (by decide) hM hP hok) rfl (by decide) rfl (by decide) rfl rfl (Nat.le_of_ble_eq_true rfl) ⟨(Nat.le_of_ble_eq_true rfl), (Nat.le_of_ble_eq_true rfl)⟩ ⟨Nat.le_refl _, Nat.le_refl _⟩ (fun M2 ⟨hR2, hf2⟩ => ?_)
  refine qi_iconst (v := 0) dX9_firstForged_16 rfl ?_
  refine qi_istore (i := 6) (L2 := [some (.ref 214), some (.int (nI k)), some (.ref p), some (.ref 230), some (.int (nI (lastF τ k) - 1)), some (.int (-2)), some (.int 0), none]) dX9_firstForged_17 (Nat.le_of_ble_eq_true rfl) rfl ?_
  exact K (lastF τ k) 0 M2 none (by omega) (hf2.mono (fun _ _ => SS_SQ)) hR2
set_option maxHeartbeats 1000000 in
theorem c_X11_forged (g : qG) {M : qM} (hM : qRf M) {p : Nat} {π : qPl} (hp : qIsP p) (hr : M.2.2 0 9 = some p) (hP : qPlan M p π) (hok : okPl π) {τ : qTo} (hT : qToC M τ) (hoT : okTo τ) (k : Int32) : qI g 6 kX11_forged [.ref 0, .int k] M (fun r M' => r = forgedQ π τ k ∧ qFr (SQx p) M M') := by
  obtain ⟨res, hres⟩ : ∃ res, res = forgedQ π τ k := ⟨_, rfl⟩
  rw [← hres]
  have h20 := hoT.1
  have E : inF 0 (nI τ.1) k = 0 → qT g kX11_forged (qR 6 0 0) (qZI g (fun r M' => r = res ∧ qFr (SQx p) M M')) 15 [some (.ref 0), some (.int k)] [] 333 M (0, 0) := by
    intro hb
    refine qi_iconst (v := -1) dX11_forged_15 rfl ?_
    exact qi_retI rfl rfl dX11_forged_16 (⟨by rw [hres]; unfold forgedQ; rw [if_pos hb], qFr.rf⟩)
  refine qI.of (j := 0) (pn_RX11) rfl ?_
  show qT g kX11_forged (qR 6 0 0) (qZI g (fun r M' => r = res ∧ qFr (SQx p) M M')) 0 [some (.ref 0), some (.int k)] [] 333 M (0, 0)
  refine qi_iload_n (i := 1) (x := k) dX11_forged_0 rfl rfl ?_
  refine qi_if_lt (tgt := 15) dX11_forged_1 (by decide) (fun a1 => ?_) (fun a1 => ?_)
  · exact E (inF_no (fun y => absurd a1 (Int32.not_lt.mpr y.1)))
  · refine qi_iload_n (i := 1) (x := k) dX11_forged_4 rfl rfl ?_
    refine qi_aload_n (i := 0) (x := 0) dX11_forged_5 rfl rfl ?_
    refine qi_getR (x := 214) flX11_33 dX11_forged_6 rfl (by decide) (hM 0 3 214 rfl) ?_
    refine qi_getI (x := nI τ.1) flX11_257 dX11_forged_9 rfl (by decide) hT.1 ?_
    refine qi_icmp_le (tgt := 17) dX11_forged_12 (by decide) (fun a2 => ?_) (fun a2 => ?_)
    · obtain ⟨k0, hk0, rfl⟩ := nI_of a1
      have hk := (nI_leI hk0 (by omega)).mp a2
      unfold forgedQ at hres
      rw [if_neg (inF_yes ⟨Int32.not_lt.mp a1, a2⟩), nI_clamp hk0] at hres
      refine qi_aload_n (i := 0) (x := 0) dX11_forged_17 rfl rfl ?_
      refine qi_getR (x := 214) flX11_33 dX11_forged_18 rfl (by decide) (hM 0 3 214 rfl) ?_
      refine qi_iload_n (i := 1) (x := nI k0) dX11_forged_21 rfl rfl ?_
      refine qi_aload_n (i := 0) (x := 0) dX11_forged_22 rfl rfl ?_
      refine qi_getR (x := p) flX11_67 dX11_forged_23 rfl (by decide) hr ?_
      refine qi_aload_n (i := 0) (x := 0) dX11_forged_26 rfl rfl ?_
      refine qi_getR (x := 230) flX11_58 dX11_forged_27 rfl (by decide) (hM 0 7 230 rfl) ?_
      refine qi_callVI (K' := kX9_firstForged) (As := [.int (nI k0), .ref p, .ref 230]) mlX11_258 okX9_firstForged dX11_forged_30 (c_X9_firstForged g hM hp hP hok hT hoT hk) rfl (by decide) rfl (by decide) rfl rfl (Nat.le_of_ble_eq_true rfl) ⟨(Nat.le_of_ble_eq_true rfl), (Nat.le_of_ble_eq_true rfl)⟩ ⟨Nat.le_refl _, Nat.le_refl _⟩ (fun r M2 ⟨er, hf2⟩ => ?_)
      exact qi_retI rfl rfl dX11_forged_33 (⟨by rw [er, hres], hf2⟩)
    · exact E (inF_no (fun y => a2 y.2))
theorem offF_none {π : qPl} {τ : qTo} {k : Nat} {a : Nat → Int32} : ∀ W, offF π τ k a W = none ↔ ∀ w, w < W → fstO (oddP τ w (allF (seqF π a (w + 1)))) k = none
  | 0 => ⟨fun _ w hw => absurd hw (Nat.not_lt_zero _), fun _ => rfl⟩
  | W + 1 => by
    have ih := offF_none (π := π) (τ := τ) (k := k) (a := a) W
    have e : offF π τ k a (W + 1) = minO (offF π τ k a W) (fstO (oddP τ W (allF (seqF π a (W + 1)))) k) := rfl
    rw [e]
    constructor
    · intro h
      cases h1 : offF π τ k a W with
      | some x =>
        rw [h1] at h
        cases h2 : fstO (oddP τ W (allF (seqF π a (W + 1)))) k with
        | none => rw [h2] at h; cases h
        | some y =>
          rw [h2] at h
          have h' : (if y < x then some y else some x) = none := h
          split at h' <;> cases h'
      | none =>
        rw [h1] at h
        have h2 : fstO (oddP τ W (allF (seqF π a (W + 1)))) k = none := h
        intro w hw
        by_cases c : w = W
        · rw [c]; exact h2
        · exact ih.mp h1 w (by omega)
    · intro h
      rw [ih.mpr (fun w hw => h w (by omega)), h W (by omega)]
      rfl
theorem seqF_same {π : qPl} {a b : Nat → Int32} : ∀ w, (∀ v, v < w → a v = b v) → seqF π a w = seqF π b w
  | 0, _ => rfl
  | w + 1, h => by
    show weekF π (a w) (seqF π a w) = weekF π (b w) (seqF π b w)
    rw [h w (by omega), seqF_same w (fun v hv => h v (by omega))]
def noneA : Nat → Int32 := fun _ => -1
abbrev fitsP (π : qPl) (τ : qTo) (k h w0 : Nat) : Prop := ∀ w, w < lastF τ k → w0 ≤ w → fstO (oddP τ w (allF (seqF π (absF h w0) (w + 1)))) k = none
set_option maxHeartbeats 2000000 in
theorem c_X9_fitsWithout (g : qG) {M : qM} (hM : qRf M) {p : Nat} {π : qPl} (hp : qIsP p) (hP : qPlan M p π) (hok : okPl π) {τ : qTo} (hT : qToC M τ) (hoT : okTo τ) {k h w0 : Nat} (hk : k ≤ τ.1) (hw0 : w0 < lastF τ k) (hR : qSea M 236 (seqF π (absF h w0) w0)) : qI g 5 kX9_fitsWithout [.ref 214, .int (nI h), .int (nI k), .ref p, .ref 236] M (fun r M' => (r = 0 ∨ r = 1) ∧ (r = 1 ↔ fitsP π τ k h w0) ∧ qFr (SW 236 p) M M') := by
  have h20 := hoT.1
  have hl100 := lastF_le hoT k hk
  have r64 := seqF_64 hok (absF h w0) w0
  have K : ∀ m w M1, w + m = lastF τ k → w0 ≤ w → qFr (SW 236 p) M M1 → qSea M1 236 (seqF π (absF h w0) w) → (∀ v, v < w → w0 ≤ v → fstO (oddP τ v (allF (seqF π (absF h w0) (v + 1)))) k = none) → qT g kX9_fitsWithout (qR 5 0 0) (qZI g (fun r M' => (r = 0 ∨ r = 1) ∧ (r = 1 ↔ fitsP π τ k h w0) ∧ qFr (SW 236 p) M M')) 17 [some (.ref 214), some (.int (nI h)), some (.int (nI k)), some (.ref p), some (.ref 236), some (.int (nI (lastF τ k) - 1)), some (.int (absF h w0 w)), some (.int (nI w))] [] 333 M1 (0, 0) := by
    intro m
    induction m with
    | zero =>
      intro w M1 e hww hf hR1 hn
      obtain rfl : w = lastF τ k := by omega
      refine qi_iload (i := 7) (x := nI (lastF τ k)) dX9_fitsWithout_17 rfl ?_
      refine qi_iload (i := 5) (x := nI (lastF τ k) - 1) dX9_fitsWithout_19 rfl ?_
      refine qi_icmp_gt (tgt := 59) dX9_fitsWithout_21 (by decide) (fun z => ?_) (fun z => False.elim (z (gt_last (by omega))))
      refine qi_iconst (v := 1) dX9_fitsWithout_59 rfl ?_
      exact qi_retI rfl (by rfl) dX9_fitsWithout_60 (⟨Or.inr rfl, ⟨fun _ => hn, fun _ => rfl⟩, hf⟩)
    | succ m ih =>
      intro w M1 e hww hf hR1 hn
      have hM1 := hM.fr hf
      refine qi_iload (i := 7) (x := nI w) dX9_fitsWithout_17 rfl ?_
      refine qi_iload (i := 5) (x := nI (lastF τ k) - 1) dX9_fitsWithout_19 rfl ?_
      refine qi_icmp_gt (tgt := 59) dX9_fitsWithout_21 (by decide) (fun z => False.elim (ngt_last (by omega) (by omega) z)) (fun z => ?_)
      refine qi_aload (i := 4) (x := 236) dX9_fitsWithout_24 rfl ?_
      refine qi_aload_n (i := 3) (x := p) dX9_fitsWithout_26 rfl rfl ?_
      refine qi_iload (i := 6) (x := absF h w0 w) dX9_fitsWithout_27 rfl ?_
      refine qi_callVV (K' := kX6_passWeek) (As := [.ref p, .int (absF h w0 w)]) mlX9_39 okX6_passWeek dX9_fitsWithout_29 (c_X6_passWeek g qIsS_other hp (by decide) hM1 hR1 (hP.q hp (hf.mono (fun _ _ => SW_SQ2))) hok ((okSea.begin hok).seq hok _ w) (absF h w0 w)) rfl (by decide) rfl (by decide) rfl rfl (Nat.le_of_ble_eq_true rfl) ⟨(Nat.le_of_ble_eq_true rfl), (Nat.le_of_ble_eq_true rfl)⟩ ⟨Nat.le_refl _, Nat.le_refl _⟩ (fun M2 ⟨hR2, hf2⟩ => ?_)
      have hR2 : qSea M2 236 (seqF π (absF h w0) (w + 1)) := hR2
      have hM2 := hM1.fr hf2
      have hf12 := hf.tr hf2
      have hT2 := hT.fr hf12 (fun b j z => SQx_to hp (SW_SQ2 z))
      refine qi_iconst (v := -1) dX9_fitsWithout_32 rfl ?_
      refine qi_istore (i := 6) (L2 := [some (.ref 214), some (.int (nI h)), some (.int (nI k)), some (.ref p), some (.ref 236), some (.int (nI (lastF τ k) - 1)), some (.int (-1)), some (.int (nI w))]) dX9_fitsWithout_33 (Nat.le_of_ble_eq_true rfl) rfl ?_
      refine qi_aload_n (i := 0) (x := 214) dX9_fitsWithout_35 rfl rfl ?_
      refine qi_iload_n (i := 2) (x := nI k) dX9_fitsWithout_36 rfl rfl ?_
      refine qi_iload (i := 7) (x := nI w) dX9_fitsWithout_37 rfl ?_
      refine qi_aload (i := 4) (x := 236) dX9_fitsWithout_39 rfl ?_
      refine qi_getI (x := allF (seqF π (absF h w0) (w + 1))) flX9_43 dX9_fitsWithout_41 rfl (by decide) hR2.2.2.2.2.1 ?_
      refine qi_callPVI (v := o2i (fstO (oddP τ w (allF (seqF π (absF h w0) (w + 1)))) k)) (K' := kX9_firstOdd) (As := [.int (nI k), .int (nI w), .int (allF (seqF π (absF h w0) (w + 1)))]) mlX9_46 okX9_firstOdd dX9_fitsWithout_44 (c_X9_firstOdd g hM2 hT2 hoT hk (w := w) (by omega) _) rfl (by decide) rfl (by decide) rfl rfl (Nat.le_of_ble_eq_true rfl) ⟨(Nat.le_of_ble_eq_true rfl), (Nat.le_of_ble_eq_true rfl)⟩ ⟨Nat.le_refl _, Nat.le_refl _⟩ ?_
      refine qi_iconst (v := -1) dX9_fitsWithout_47 rfl ?_
      have hbf := fstO_lt (P := oddP τ w (allF (seqF π (absF h w0) (w + 1)))) k
      have A := ih (w + 1) M2 (by omega) (by omega) hf12 hR2
      rw [show absF h w0 (w + 1) = -1 from if_neg (by omega)] at A
      cases hF : fstO (oddP τ w (allF (seqF π (absF h w0) (w + 1)))) k with
      | none =>
        refine qi_icmp_eq (tgt := 53) dX9_fitsWithout_48 (by decide) (fun z => ?_) (fun z => False.elim (z rfl))
        refine qi_iinc (i := 7) (x := nI w) (v := nI (w + 1)) (L2 := [some (.ref 214), some (.int (nI h)), some (.int (nI k)), some (.ref p), some (.ref 236), some (.int (nI (lastF τ k) - 1)), some (.int (-1)), some (.int (nI (w + 1)))]) dX9_fitsWithout_53 rfl (nI_1 w) (Nat.le_of_ble_eq_true rfl) rfl ?_
        refine qi_goto (tgt := 17) dX9_fitsWithout_56 (by decide) ?_
        refine A (fun v hv h0 => ?_)
        by_cases c : v = w
        · rw [c]; exact hF
        · exact hn v (by omega) h0
      | some y =>
        have hy := hbf y hF
        refine qi_icmp_eq (tgt := 53) dX9_fitsWithout_48 (by decide) (fun z => False.elim (nI_m1 (n := y) (by omega) z)) (fun z => ?_)
        refine qi_iconst (v := 0) dX9_fitsWithout_51 rfl ?_
        exact qi_retI rfl (by rfl) dX9_fitsWithout_52 (⟨Or.inl rfl, ⟨fun z => absurd z (by decide), fun z => by have := z w (by omega) hww; rw [hF] at this; cases this⟩, hf12⟩)
  have A := K (lastF τ k - w0) w0 M (by omega) (Nat.le_refl _) qFr.rf hR (fun v h1 h2 => absurd h1 (by omega))
  rw [show absF h w0 w0 = nI h from if_pos rfl] at A
  refine qI.of (j := 3) (pn_RX9) rfl ?_
  show qT g kX9_fitsWithout (qR 5 0 0) (qZI g (fun r M' => (r = 0 ∨ r = 1) ∧ (r = 1 ↔ fitsP π τ k h w0) ∧ qFr (SW 236 p) M M')) 0 [some (.ref 214), some (.int (nI h)), some (.int (nI k)), some (.ref p), some (.ref 236), none, none, none] [] 333 M (0, 0)
  refine qi_aload_n (i := 0) (x := 214) dX9_fitsWithout_0 rfl rfl ?_
  refine qi_iload_n (i := 2) (x := nI k) dX9_fitsWithout_1 rfl rfl ?_
  refine qi_callPVI (v := nI (lastF τ k) - 1) (K' := kX9_lastWeek) (As := [.int (nI k)]) mlX9_29 okX9_lastWeek dX9_fitsWithout_2 (c_X9_lastWeek g hM hT hoT hk) rfl (by decide) rfl (by decide) rfl rfl (Nat.le_of_ble_eq_true rfl) ⟨(Nat.le_of_ble_eq_true rfl), (Nat.le_of_ble_eq_true rfl)⟩ ⟨Nat.le_refl _, Nat.le_refl _⟩ ?_
  refine qi_istore (i := 5) (L2 := [some (.ref 214), some (.int (nI h)), some (.int (nI k)), some (.ref p), some (.ref 236), some (.int (nI (lastF τ k) - 1)), none, none]) dX9_fitsWithout_5 (Nat.le_of_ble_eq_true rfl) rfl ?_
  refine qi_iload_n (i := 1) (x := nI h) dX9_fitsWithout_7 rfl rfl ?_
  refine qi_istore (i := 6) (L2 := [some (.ref 214), some (.int (nI h)), some (.int (nI k)), some (.ref p), some (.ref 236), some (.int (nI (lastF τ k) - 1)), some (.int (nI h)), none]) dX9_fitsWithout_8 (Nat.le_of_ble_eq_true rfl) rfl ?_
  refine qi_aload (i := 4) (x := 236) dX9_fitsWithout_10 rfl ?_
  refine qi_getI (x := M.1 236 7) flX9_63 dX9_fitsWithout_12 rfl (by decide) rfl ?_
  refine qe_top (y := nI w0) (hR.2.2.2.2.2.2.trans r64) ?_
  refine qi_istore (i := 7) (L2 := [some (.ref 214), some (.int (nI h)), some (.int (nI k)), some (.ref p), some (.ref 236), some (.int (nI (lastF τ k) - 1)), some (.int (nI h)), some (.int (nI w0))]) dX9_fitsWithout_15 (Nat.le_of_ble_eq_true rfl) rfl ?_
  exact A
def qExC (M : qM) (π : qPl) (τ : qTo) : Prop := M.1 214 3 = -1 ∨ ∃ k, k ≤ τ.1 ∧ M.1 214 3 = nI k ∧ ∀ c, c < 800 → M.1 217 c = if explP π τ k c then 1 else 0
def SEx (p : Nat) : Nat → Nat → Prop := fun b j => b = 217 ∨ (b = 214 ∧ j = 3) ∨ SQx p b j
theorem SEx_to {p : Nat} (hp : qIsP p) {b j : Nat} (z : SEx p b j) : b ≠ 215 ∧ b ≠ 216 ∧ (b = 214 → j ≠ 4) := by
  rcases z with z | z | z
  · omega
  · omega
  · exact SQx_to hp z
theorem SEx_pl {p : Nat} (hp : qIsP p) {i j : Nat} (hi : i < 19) (z : SEx p (p + i) j) : (i = 10 ∧ j ≠ 6) ∨ 12 ≤ i := by
  have := hp.2.1
  rcases z with z | z | z
  · omega
  · omega
  · exact SQx_pl hp hi z
theorem SEx_sea {p : Nat} (hp : qIsP p) {j k : Nat} (hj : j < 6) : ¬ SEx p (224 + j) k := fun z => by
  rcases z with z | z | z
  · omega
  · omega
  · exact SQx_sea hp hj z
theorem SQ_SEx {p b j : Nat} (z : SQx p b j) : SEx p b j := Or.inr (Or.inr z)
theorem b01_if {b : Bool} : (if b then (1 : Int32) else 0) = 0 ∨ (if b then (1 : Int32) else 0) = 1 := by
  cases b
  · exact Or.inl rfl
  · exact Or.inr rfl
set_option maxHeartbeats 3000000 in
theorem c_X9_search (g : qG) {M : qM} (hM : qRf M) {p : Nat} {π : qPl} (hp : qIsP p) (hP : qPlan M p π) (hok : okPl π) {τ : qTo} (hT : qToC M τ) (hoT : okTo τ) (hE : qExC M π τ) {k : Nat} (hk : k ≤ τ.1) : qV g 6 kX9_search [.ref 214, .int (nI k), .ref p, .ref 230, .ref 236] M (fun M' => M'.1 214 3 = nI k ∧ (∀ c, c < 800 → M'.1 217 c = if explP π τ k c then 1 else 0) ∧ qFr (SEx p) M M') := by
  have hE8 : ∃ P : Nat → Bool, ∀ c, P c = explP π τ k c := ⟨_, fun _ => rfl⟩
  obtain ⟨P, hP0⟩ := hE8
  have hPe : explP π τ k = P := funext fun c => (hP0 c).symm
  have hPc : ∀ c, P c = true ↔ (c / 100 < π.1 1 ∧ c % 100 < lastF τ k ∧ offF π τ k (absF (c / 100) (c % 100)) (lastF τ k) = none) := fun c => by rw [hP0]; exact decide_eq_true_iff
  have h20 := hoT.1
  have hh8 := hok.2.1
  have hl100 := lastF_le hoT k hk
  have E : ∀ M1 x5 x6 x7 x8, qFr (SEx p) M M1 → M1.1 214 3 = nI k → (∀ c, c < 800 → M1.1 217 c = if P c then 1 else 0) → qT g kX9_search (qR 6 0 0) (qZV g (fun M' => M'.1 214 3 = nI k ∧ (∀ c, c < 800 → M'.1 217 c = if explP π τ k c then 1 else 0) ∧ qFr (SEx p) M M')) 152 [some (.ref 214), some (.int (nI k)), some (.ref p), some (.ref 230), some (.ref 236), x5, x6, x7, x8] [] 333 M1 (0, 0) := by
    intro M1 x5 x6 x7 x8 hf h1 h2
    exact qi_retV rfl dX9_search_152 (⟨h1, fun c hc => by rw [hPe]; exact h2 c hc, hf⟩)
  -- behind a week that isn't so nothing explains
  have bad : ∀ w, w < lastF τ k → ¬ fstO (oddP τ w (allF (seqF π noneA (w + 1)))) k = none → ∀ c, w < c % 100 → P c = false := fun w hw hb c hc => by
    cases hp1 : P c with
    | false => rfl
    | true =>
      have q := (offF_none _).mp ((hPc c).mp hp1).2.2 w hw
      rw [seqF_same (a := absF (c / 100) (c % 100)) (b := noneA) (w + 1) (fun v hv => if_neg (by omega))] at q
      exact absurd q hb
  have W : ∀ m w M1 x8, w + m = lastF τ k → qFr (SEx p) M M1 → M1.1 214 3 = nI k → qSea M1 230 (seqF π noneA w) → (∀ v, v < w → fstO (oddP τ v (allF (seqF π noneA (v + 1)))) k = none) → (∀ c, c < 800 → M1.1 217 c = if c % 100 < w ∧ P c = true then 1 else 0) → qT g kX9_search (qR 6 0 0) (qZV g (fun M' => M'.1 214 3 = nI k ∧ (∀ c, c < 800 → M'.1 217 c = if explP π τ k c then 1 else 0) ∧ qFr (SEx p) M M')) 59 [some (.ref 214), some (.int (nI k)), some (.ref p), some (.ref 230), some (.ref 236), some (.int (nI (lastF τ k) - 1)), some (.int 1), some (.int (nI w)), x8] [] 333 M1 (0, 0) := by
    intro m
    induction m with
    | zero =>
      intro w M1 x8 e hf h1 hS1 hn hfl
      obtain rfl : w = lastF τ k := by omega
      refine qi_iload (i := 6) (x := 1) dX9_search_59 rfl ?_
      refine qi_if_eq (tgt := 152) dX9_search_61 (by decide) (fun z => False.elim (absurd z (by decide))) (fun z => ?_)
      refine qi_iload (i := 7) (x := nI (lastF τ k)) dX9_search_64 rfl ?_
      refine qi_iload (i := 5) (x := nI (lastF τ k) - 1) dX9_search_66 rfl ?_
      refine qi_icmp_gt (tgt := 152) dX9_search_68 (by decide) (fun z => ?_) (fun z => False.elim (z (gt_last (by omega))))
      refine E M1 _ _ _ _ hf h1 (fun c hc => ?_)
      rw [hfl c hc]
      cases hp1 : P c with
      | false => rw [if_neg (fun z => absurd z.2 (by decide))]; rfl
      | true => rw [if_pos ⟨((hPc c).mp hp1).2.1, rfl⟩]; rfl
    | succ m ih =>
      intro w M1 x8 e hf h1 hS1 hn hfl
      have hM1 := hM.fr hf
      have hw : w < lastF τ k := by omega
      refine qi_iload (i := 6) (x := 1) dX9_search_59 rfl ?_
      refine qi_if_eq (tgt := 152) dX9_search_61 (by decide) (fun z => False.elim (absurd z (by decide))) (fun z => ?_)
      refine qi_iload (i := 7) (x := nI w) dX9_search_64 rfl ?_
      refine qi_iload (i := 5) (x := nI (lastF τ k) - 1) dX9_search_66 rfl ?_
      refine qi_icmp_gt (tgt := 152) dX9_search_68 (by decide) (fun z => False.elim (ngt_last (by omega) (by omega) z)) (fun z => ?_)
      refine qi_iconst (v := 0) dX9_search_71 rfl ?_
      refine qi_istore (i := 8) (L2 := [some (.ref 214), some (.int (nI k)), some (.ref p), some (.ref 230), some (.ref 236), some (.int (nI (lastF τ k) - 1)), some (.int 1), some (.int (nI w)), some (.int 0)]) dX9_search_72 (Nat.le_of_ble_eq_true rfl) rfl ?_
      -- heir by heir
      have J : ∀ m2 h M2, h + m2 = π.1 1 → qFr (SEx p) M M2 → M2.1 214 3 = nI k → qSea M2 230 (seqF π noneA w) → (∀ c, c < 800 → M2.1 217 c = if (c % 100 < w ∨ (c % 100 = w ∧ c / 100 < h)) ∧ P c = true then 1 else 0) → qT g kX9_search (qR 6 0 0) (qZV g (fun M' => M'.1 214 3 = nI k ∧ (∀ c, c < 800 → M'.1 217 c = if explP π τ k c then 1 else 0) ∧ qFr (SEx p) M M')) 74 [some (.ref 214), some (.int (nI k)), some (.ref p), some (.ref 230), some (.ref 236), some (.int (nI (lastF τ k) - 1)), some (.int 1), some (.int (nI w)), some (.int (nI h))] [] 333 M2 (0, 0) := by
        intro m2
        induction m2 with
        | zero =>
          intro h M2 e2 hf2 g1 hS2 hfl2
          obtain rfl : h = π.1 1 := by omega
          have hM2 := hM.fr hf2
          have hP2 : qPlan M2 p π := hP.fr hf2 (fun i j hi z => SEx_pl hp hi z)
          refine qi_iload (i := 8) (x := nI (π.1 1)) dX9_search_74 rfl ?_
          refine qi_aload_n (i := 2) (x := p) dX9_search_76 rfl rfl ?_
          refine qi_getI (x := nI (π.1 1)) flX9_50 dX9_search_77 (hp.1 0 (by decide)) (by have := hp.2.2; omega) hP2.1.2.1 ?_
          refine qi_icmp_ge (tgt := 118) dX9_search_80 (by decide) (fun _hc => ?_) (fun _h => absurd ((nI_leI (a := π.1 1) (b := π.1 1) (by omega) (by omega)).mpr (by omega)) _h)
          refine qi_aload_n (i := 3) (x := 230) dX9_search_118 rfl rfl ?_
          refine qi_aload_n (i := 2) (x := p) dX9_search_119 rfl rfl ?_
          refine qi_iconst (v := -1) dX9_search_120 rfl ?_
          refine qi_callVV (K' := kX6_passWeek) (As := [.ref p, .int (-1)]) mlX9_39 okX6_passWeek dX9_search_121 (c_X6_passWeek g qIsS_trial hp (by decide) hM2 hS2 hP2 hok ((okSea.begin hok).seq hok noneA w) (-1)) rfl (by decide) rfl (by decide) rfl rfl (Nat.le_of_ble_eq_true rfl) ⟨(Nat.le_of_ble_eq_true rfl), (Nat.le_of_ble_eq_true rfl)⟩ ⟨Nat.le_refl _, Nat.le_refl _⟩ (fun M3 ⟨hS3, hf3⟩ => ?_)
          have hS3 : qSea M3 230 (seqF π noneA (w + 1)) := hS3
          have hf3' : qFr (SEx p) M M3 := hf2.tr (hf3.mono (fun _ _ z => SQ_SEx (SW_SQ z)))
          have hM3 := hM.fr hf3'
          have hT3 := hT.fr hf3' (fun b j z => SEx_to hp z)
          have g3 : M3.1 214 3 = nI k := (hf3.1 _ _ (by have := hp.2.1; unfold SW SS SP; omega)).trans g1
          have hfl3 : ∀ c, c < 800 → M3.1 217 c = if c % 100 < w + 1 ∧ P c = true then 1 else 0 := fun c hc => by
            rw [(hf3.1 _ _ (by have := hp.2.1; unfold SW SS SP; omega)).trans (hfl2 c hc)]
            cases hp1 : P c with
            | false => rw [if_neg (fun z => absurd z.2 (by decide)), if_neg (fun z => absurd z.2 (by decide))]
            | true =>
              have hh := ((hPc c).mp hp1).1
              by_cases c1 : c % 100 < w + 1
              · rw [if_pos ⟨by omega, rfl⟩, if_pos ⟨c1, rfl⟩]
              · rw [if_neg (fun z => by omega), if_neg (fun z => c1 z.1)]
          refine qi_aload_n (i := 0) (x := 214) dX9_search_124 rfl rfl ?_
          refine qi_iload_n (i := 1) (x := nI k) dX9_search_125 rfl rfl ?_
          refine qi_iload (i := 7) (x := nI w) dX9_search_126 rfl ?_
          refine qi_aload_n (i := 3) (x := 230) dX9_search_128 rfl rfl ?_
          refine qi_getI (x := allF (seqF π noneA (w + 1))) flX9_43 dX9_search_129 rfl (by decide) hS3.2.2.2.2.1 ?_
          refine qi_callPVI (v := o2i (fstO (oddP τ w (allF (seqF π noneA (w + 1)))) k)) (K' := kX9_firstOdd) (As := [.int (nI k), .int (nI w), .int (allF (seqF π noneA (w + 1)))]) mlX9_46 okX9_firstOdd dX9_search_132 (c_X9_firstOdd g hM3 hT3 hoT hk (w := w) (by omega) _) rfl (by decide) rfl (by decide) rfl rfl (Nat.le_of_ble_eq_true rfl) ⟨(Nat.le_of_ble_eq_true rfl), (Nat.le_of_ble_eq_true rfl)⟩ ⟨Nat.le_refl _, Nat.le_refl _⟩ ?_
          refine qi_iconst (v := -1) dX9_search_135 rfl ?_
          have hbf := fstO_lt (P := oddP τ w (allF (seqF π noneA (w + 1)))) k
          cases hF : fstO (oddP τ w (allF (seqF π noneA (w + 1)))) k with
          | none =>
            refine qi_icmp_ne (tgt := 143) dX9_search_136 (by decide) (fun z => False.elim (z rfl)) (fun z => ?_)
            refine qi_iconst (v := 1) dX9_search_139 rfl ?_
            refine qi_goto (tgt := 144) dX9_search_140 (by decide) ?_
            refine qi_istore (i := 6) (L2 := [some (.ref 214), some (.int (nI k)), some (.ref p), some (.ref 230), some (.ref 236), some (.int (nI (lastF τ k) - 1)), some (.int 1), some (.int (nI w)), some (.int (nI (π.1 1)))]) dX9_search_144 (Nat.le_of_ble_eq_true rfl) rfl ?_
            refine qi_iinc (i := 7) (x := nI w) (v := nI (w + 1)) (L2 := [some (.ref 214), some (.int (nI k)), some (.ref p), some (.ref 230), some (.ref 236), some (.int (nI (lastF τ k) - 1)), some (.int 1), some (.int (nI (w + 1))), some (.int (nI (π.1 1)))]) dX9_search_146 rfl (nI_1 w) (Nat.le_of_ble_eq_true rfl) rfl ?_
            refine qi_goto (tgt := 59) dX9_search_149 (by decide) ?_
            refine ih (w + 1) M3 _ (by omega) hf3' g3 hS3 (fun v hv => ?_) hfl3
            by_cases c : v = w
            · rw [c]; exact hF
            · exact hn v (by omega)
          | some y =>
            have hy := hbf y hF
            refine qi_icmp_ne (tgt := 143) dX9_search_136 (by decide) (fun z => ?_) (fun z => False.elim (nI_m1 (n := y) (by omega) z))
            refine qi_iconst (v := 0) dX9_search_143 rfl ?_
            refine qi_istore (i := 6) (L2 := [some (.ref 214), some (.int (nI k)), some (.ref p), some (.ref 230), some (.ref 236), some (.int (nI (lastF τ k) - 1)), some (.int 0), some (.int (nI w)), some (.int (nI (π.1 1)))]) dX9_search_144 (Nat.le_of_ble_eq_true rfl) rfl ?_
            refine qi_iinc (i := 7) (x := nI w) (v := nI (w + 1)) (L2 := [some (.ref 214), some (.int (nI k)), some (.ref p), some (.ref 230), some (.ref 236), some (.int (nI (lastF τ k) - 1)), some (.int 0), some (.int (nI (w + 1))), some (.int (nI (π.1 1)))]) dX9_search_146 rfl (nI_1 w) (Nat.le_of_ble_eq_true rfl) rfl ?_
            refine qi_goto (tgt := 59) dX9_search_149 (by decide) ?_
            refine qi_iload (i := 6) (x := 0) dX9_search_59 rfl ?_
            refine qi_if_eq (tgt := 152) dX9_search_61 (by decide) (fun z => ?_) (fun z => False.elim (z rfl))
            refine E M3 _ _ _ _ hf3' g3 (fun c hc => ?_)
            rw [hfl3 c hc]
            cases hp1 : P c with
            | false => rw [if_neg (fun z => absurd z.2 (by decide))]; rfl
            | true =>
              by_cases c1 : c % 100 < w + 1
              · rw [if_pos ⟨c1, rfl⟩]; rfl
              · have := bad w hw (by rw [hF]; intro z; cases z) c (by omega)
                rw [hp1] at this
                cases this
        | succ m2 ih2 =>
          intro h M2 e2 hf2 g1 hS2 hfl2
          have hM2 := hM.fr hf2
          have hh : h < π.1 1 := by omega
          have hP2 : qPlan M2 p π := hP.fr hf2 (fun i j hi z => SEx_pl hp hi z)
          refine qi_iload (i := 8) (x := nI h) dX9_search_74 rfl ?_
          refine qi_aload_n (i := 2) (x := p) dX9_search_76 rfl rfl ?_
          refine qi_getI (x := nI (π.1 1)) flX9_50 dX9_search_77 (hp.1 0 (by decide)) (by have := hp.2.2; omega) hP2.1.2.1 ?_
          refine qi_icmp_ge (tgt := 118) dX9_search_80 (by decide) (fun _h => absurd ((nI_leI (a := π.1 1) (b := h) (by omega) (by omega)).mp _h) (by omega)) (fun _hc => ?_)
          refine qi_aload (i := 4) (x := 236) dX9_search_83 rfl ?_
          refine qi_aload_n (i := 3) (x := 230) dX9_search_85 rfl rfl ?_
          refine qi_callVV (K' := kX6_copyFrom) (As := [.ref 230]) mlX9_55 okX6_copyFrom dX9_search_86 (c_X6_copyFrom g qIsS_other qIsS_trial (Or.inr (by decide)) hM2 hS2) rfl (by decide) rfl (by decide) rfl rfl (Nat.le_of_ble_eq_true rfl) ⟨(Nat.le_of_ble_eq_true rfl), (Nat.le_of_ble_eq_true rfl)⟩ ⟨Nat.le_refl _, Nat.le_refl _⟩ (fun M3 ⟨hR3, hf3⟩ => ?_)
          have hf3' : qFr (SEx p) M M3 := hf2.tr (hf3.mono (fun _ _ z => SQ_SEx (SS_SQ2 z)))
          have hM3 := hM.fr hf3'
          have hP3 : qPlan M3 p π := hP.fr hf3' (fun i j hi z => SEx_pl hp hi z)
          have hR3b : qSea M3 236 (seqF π (absF h w) w) := by rw [seqF_same (a := absF h w) (b := noneA) w (fun v hv => if_neg (by omega))]; exact hR3
          refine qi_aload_n (i := 0) (x := 214) dX9_search_89 rfl rfl ?_
          refine qi_getR (x := 217) flX9_18 dX9_search_90 rfl (by decide) (hM3 214 2 217 rfl) ?_
          refine qi_iload (i := 8) (x := nI h) dX9_search_93 rfl ?_
          refine qi_bipush (v := 100) dX9_search_95 rfl ?_
          refine qi_imul dX9_search_97 ?_
          refine qi_iload (i := 7) (x := nI w) dX9_search_98 rfl ?_
          refine qi_iadd dX9_search_100 ?_
          refine qe_top (y := nI (h * 100 + w)) (by rw [show (100 : Int32) = nI 100 from rfl, pk_mul, nI_add]) ?_
          refine qi_aload_n (i := 0) (x := 214) dX9_search_101 rfl rfl ?_
          refine qi_iload (i := 8) (x := nI h) dX9_search_102 rfl ?_
          refine qi_iload_n (i := 1) (x := nI k) dX9_search_104 rfl rfl ?_
          refine qi_aload_n (i := 2) (x := p) dX9_search_105 rfl rfl ?_
          refine qi_aload (i := 4) (x := 236) dX9_search_106 rfl ?_
          refine qi_callVI (K' := kX9_fitsWithout) (As := [.int (nI h), .int (nI k), .ref p, .ref 236]) mlX9_59 okX9_fitsWithout dX9_search_108 (c_X9_fitsWithout g hM3 hp hP3 hok (hT.fr hf3' (fun b j z => SEx_to hp z)) hoT hk hw hR3b) rfl (by decide) rfl (by decide) rfl rfl (Nat.le_of_ble_eq_true rfl) ⟨(Nat.le_of_ble_eq_true rfl), (Nat.le_of_ble_eq_true rfl)⟩ ⟨Nat.le_refl _, Nat.le_refl _⟩ (fun r M4 ⟨hr01, hrf, hf4⟩ => ?_)
          have hf4' : qFr (SEx p) M M4 := hf3'.tr (hf4.mono (fun _ _ z => SQ_SEx (SW_SQ2 z)))
          have hM4 := hM.fr hf4'
          refine qi_zastN (j := h * 100 + w) dX9_search_111 rfl (by decide) rfl (by omega) (by decide) (nb_of hr01) ?_
          refine qi_iinc (i := 8) (x := nI h) (v := nI (h + 1)) (L2 := [some (.ref 214), some (.int (nI k)), some (.ref p), some (.ref 230), some (.ref 236), some (.int (nI (lastF τ k) - 1)), some (.int 1), some (.int (nI w)), some (.int (nI (h + 1)))]) dX9_search_112 rfl (nI_1 h) (Nat.le_of_ble_eq_true rfl) rfl ?_
          refine qi_goto (tgt := 74) dX9_search_115 (by decide) ?_
          refine ih2 (h + 1) _ (by omega) (hf4'.wI (Or.inl rfl)) ?_ ?_ (fun c hc => ?_)
          · rw [wI_a (by decide)]
            exact (hf4.1 _ _ (by have := hp.2.1; unfold SW SS SP; omega)).trans ((hf3.1 _ _ (by unfold SS; omega)).trans g1)
          · exact ((hS2.fr hf3 (fun j k hj z => by unfold SS at z; omega)).fr hf4 (fun j k hj z => by have := hp.2.1; unfold SW SS SP at z; omega)).fr (qFr.rf.wI (S := fun b _ => b = 217) rfl) (fun j k hj z => by omega)
          · by_cases c1 : c = h * 100 + w
            · rw [c1, wI_s]
              have d1 : (h * 100 + w) / 100 = h := by omega
              have d2 : (h * 100 + w) % 100 = w := by omega
              have hiff : P (h * 100 + w) = true ↔ fitsP π τ k h w := by
                rw [hPc, d1, d2]
                constructor
                · intro z v hv hwv
                  exact (offF_none _).mp z.2.2 v hv
                · intro z
                  refine ⟨hh, hw, (offF_none _).mpr (fun v hv => ?_)⟩
                  by_cases c2 : w ≤ v
                  · exact z v hv c2
                  · rw [seqF_same (a := absF h w) (b := noneA) (v + 1) (fun u hu => if_neg (by omega))]
                    exact hn v (by omega)
              rcases hr01 with hr0 | hr1
              · rw [hr0, if_neg]
                intro z
                have := hrf.mpr (hiff.mp z.2)
                rw [hr0] at this
                exact absurd this (by decide)
              · rw [hr1, if_pos ⟨Or.inr ⟨d2, by omega⟩, hiff.mpr (hrf.mp hr1)⟩]
            · rw [wI_k c1, (hf4.1 _ _ (by have := hp.2.1; unfold SW SS SP; omega)).trans ((hf3.1 _ _ (by unfold SS; omega)).trans (hfl2 c hc))]
              by_cases c2 : (c % 100 < w ∨ (c % 100 = w ∧ c / 100 < h)) ∧ P c = true
              · rw [if_pos c2, if_pos ⟨by omega, c2.2⟩]
              · rw [if_neg c2, if_neg (fun z => c2 ⟨by omega, z.2⟩)]
      exact J (π.1 1) 0 M1 (by omega) hf h1 hS1 (fun c hc => by
        rw [hfl c hc]
        by_cases c2 : c % 100 < w ∧ P c = true
        · rw [if_pos c2, if_pos ⟨Or.inl c2.1, c2.2⟩]
        · rw [if_neg c2, if_neg (fun z => c2 ⟨by omega, z.2⟩)])
  have K17 : ∀ m j M1, j + m = 800 → qFr (SEx p) M M1 → M1.1 214 3 = nI k → (∀ c, c < j → M1.1 217 c = 0) → qT g kX9_search (qR 6 0 0) (qZV g (fun M' => M'.1 214 3 = nI k ∧ (∀ c, c < 800 → M'.1 217 c = if explP π τ k c then 1 else 0) ∧ qFr (SEx p) M M')) 17 [some (.ref 214), some (.int (nI k)), some (.ref p), some (.ref 230), some (.ref 236), some (.int (nI j)), none, none, none] [] 333 M1 (0, 0) := by
    intro m
    induction m with
    | zero =>
      intro j M1 e hf h1 h2
      have hM1 := hM.fr hf
      have hT1 := hT.fr hf (fun b j z => SEx_to hp z)
      have hP1 : qPlan M1 p π := hP.fr hf (fun i j hi z => SEx_pl hp hi z)
      refine qi_iload (i := 5) (x := nI j) dX9_search_17 rfl ?_
      refine qi_aload_n (i := 0) (x := 214) dX9_search_19 rfl rfl ?_
      refine qi_getR (x := 217) flX9_18 dX9_search_20 rfl (by decide) (hM1 214 2 217 rfl) ?_
      refine qi_alen (v := 800) dX9_search_23 rfl (by decide) (by decide) rfl ?_
      refine qi_icmp_ge (tgt := 41) dX9_search_24 (by decide) (fun _hc => ?_) (fun _h => absurd ((nI_leI (a := 800) (b := j) (by omega) (by omega)).mpr (by omega)) _h)
      refine qi_aload_n (i := 0) (x := 214) dX9_search_41 rfl rfl ?_
      refine qi_iload_n (i := 1) (x := nI k) dX9_search_42 rfl rfl ?_
      refine qi_callPVI (v := nI (lastF τ k) - 1) (K' := kX9_lastWeek) (As := [.int (nI k)]) mlX9_29 okX9_lastWeek dX9_search_43 (c_X9_lastWeek g hM1 hT1 hoT hk) rfl (by decide) rfl (by decide) rfl rfl (Nat.le_of_ble_eq_true rfl) ⟨(Nat.le_of_ble_eq_true rfl), (Nat.le_of_ble_eq_true rfl)⟩ ⟨Nat.le_refl _, Nat.le_refl _⟩ ?_
      refine qi_istore (i := 5) (L2 := [some (.ref 214), some (.int (nI k)), some (.ref p), some (.ref 230), some (.ref 236), some (.int (nI (lastF τ k) - 1)), none, none, none]) dX9_search_46 (Nat.le_of_ble_eq_true rfl) rfl ?_
      refine qi_aload_n (i := 3) (x := 230) dX9_search_48 rfl rfl ?_
      refine qi_aload_n (i := 2) (x := p) dX9_search_49 rfl rfl ?_
      refine qi_callVV (K' := kX6_begin) (As := [.ref p]) mlX9_33 okX6_begin dX9_search_50 (c_X6_begin g qIsS_trial hp (by decide) hM1 hP1 hok) rfl (by decide) rfl (by decide) rfl rfl (Nat.le_of_ble_eq_true rfl) ⟨(Nat.le_of_ble_eq_true rfl), (Nat.le_of_ble_eq_true rfl)⟩ ⟨Nat.le_refl _, Nat.le_refl _⟩ (fun M2 ⟨hR2, hf2⟩ => ?_)
      refine qi_iconst (v := 1) dX9_search_53 rfl ?_
      refine qi_istore (i := 6) (L2 := [some (.ref 214), some (.int (nI k)), some (.ref p), some (.ref 230), some (.ref 236), some (.int (nI (lastF τ k) - 1)), some (.int 1), none, none]) dX9_search_54 (Nat.le_of_ble_eq_true rfl) rfl ?_
      refine qi_iconst (v := 0) dX9_search_56 rfl ?_
      refine qi_istore (i := 7) (L2 := [some (.ref 214), some (.int (nI k)), some (.ref p), some (.ref 230), some (.ref 236), some (.int (nI (lastF τ k) - 1)), some (.int 1), some (.int 0), none]) dX9_search_57 (Nat.le_of_ble_eq_true rfl) rfl ?_
      refine W (lastF τ k) 0 M2 none (by omega) (hf.tr (hf2.mono (fun _ _ z => SQ_SEx (SS_SQ z)))) ((hf2.1 _ _ (by unfold SS; omega)).trans h1) hR2 (fun v hv => absurd hv (Nat.not_lt_zero _)) (fun c hc => ?_)
      rw [(hf2.1 _ _ (by unfold SS; omega)).trans (h2 c (by omega)), if_neg (fun z => absurd z.1 (Nat.not_lt_zero _))]
    | succ m ih =>
      intro j M1 e hf h1 h2
      have hM1 := hM.fr hf
      refine qi_iload (i := 5) (x := nI j) dX9_search_17 rfl ?_
      refine qi_aload_n (i := 0) (x := 214) dX9_search_19 rfl rfl ?_
      refine qi_getR (x := 217) flX9_18 dX9_search_20 rfl (by decide) (hM1 214 2 217 rfl) ?_
      refine qi_alen (v := 800) dX9_search_23 rfl (by decide) (by decide) rfl ?_
      refine qi_icmp_ge (tgt := 41) dX9_search_24 (by decide) (fun _h => absurd ((nI_leI (a := 800) (b := j) (by omega) (by omega)).mp _h) (by omega)) (fun _hc => ?_)
      refine qi_aload_n (i := 0) (x := 214) dX9_search_27 rfl rfl ?_
      refine qi_getR (x := 217) flX9_18 dX9_search_28 rfl (by decide) (hM1 214 2 217 rfl) ?_
      refine qi_iload (i := 5) (x := nI j) dX9_search_31 rfl ?_
      refine qi_iconst (v := 0) dX9_search_33 rfl ?_
      refine qi_zastN (j := j) dX9_search_34 rfl (by decide) rfl (by omega) (by decide) (by rfl) ?_
      refine qi_iinc (i := 5) (x := nI j) (v := nI (j + 1)) (L2 := [some (.ref 214), some (.int (nI k)), some (.ref p), some (.ref 230), some (.ref 236), some (.int (nI (j + 1))), none, none, none]) dX9_search_35 rfl (nI_1 j) (Nat.le_of_ble_eq_true rfl) rfl ?_
      refine qi_goto (tgt := 17) dX9_search_38 (by decide) ?_
      refine ih (j + 1) _ (by omega) (hf.wI (Or.inl rfl)) (by rw [wI_a (by decide)]; exact h1) (fun c hc => ?_)
      by_cases c1 : c = j
      · rw [c1, wI_s]
      · rw [wI_k c1]; exact h2 c (by omega)
  refine qV.of (j := 4) (pn_RX9) rfl ?_
  show qT g kX9_search (qR 6 0 0) (qZV g (fun M' => M'.1 214 3 = nI k ∧ (∀ c, c < 800 → M'.1 217 c = if explP π τ k c then 1 else 0) ∧ qFr (SEx p) M M')) 0 [some (.ref 214), some (.int (nI k)), some (.ref p), some (.ref 230), some (.ref 236), none, none, none, none] [] 333 M (0, 0)
  refine qi_aload_n (i := 0) (x := 214) dX9_search_0 rfl rfl ?_
  refine qi_getI (x := M.1 214 3) flX9_22 dX9_search_1 rfl (by decide) rfl ?_
  refine qi_iload_n (i := 1) (x := nI k) dX9_search_4 rfl rfl ?_
  refine qi_icmp_ne (tgt := 9) dX9_search_5 (by decide) (fun c => ?_) (fun c => ?_)
  · refine qi_aload_n (i := 0) (x := 214) dX9_search_9 rfl rfl ?_
    refine qi_iload_n (i := 1) (x := nI k) dX9_search_10 rfl rfl ?_
    refine qi_putI flX9_22 q_cls9 (ty9_3 _) dX9_search_11 rfl (by decide) ?_
    refine qi_iconst (v := 0) dX9_search_14 rfl ?_
    refine qi_istore (i := 5) (L2 := [some (.ref 214), some (.int (nI k)), some (.ref p), some (.ref 230), some (.ref 236), some (.int 0), none, none, none]) dX9_search_15 (Nat.le_of_ble_eq_true rfl) rfl ?_
    refine K17 800 0 _ (by omega) (qFr.rf.wI (Or.inr (Or.inl ⟨rfl, rfl⟩))) (wI_s _ _ _ _) (fun c hc => absurd hc (Nat.not_lt_zero _))
  · refine qi_retV rfl dX9_search_8 (⟨c, fun x hx => ?_, qFr.rf⟩)
    rcases hE with h | ⟨k', hk', e1, e2⟩
    · rw [h] at c
      exact absurd c.symm (nI_m1 (by omega))
    · have : k' = k := (nI_eq (by omega) (by omega)).mp (e1.symm.trans c)
      subst this
      exact e2 x hx
set_option maxHeartbeats 1000000 in
theorem c_X9_foundInAll (g : qG) {M : qM} (hM : qRf M) {P : Nat → Bool} (hf : ∀ c, c < 800 → M.1 217 c = if P c then 1 else 0) : qI g 0 kX9_foundInAll [.ref 214] M (fun r M' => r = nI (cntN P 800) ∧ M' = M) := by
  have K : ∀ m j, j + m = 800 → qT g kX9_foundInAll (qR 0 0 0) (qZI g (fun r M' => r = (nI (cntN P 800)) ∧ M' = M)) 4 [some (.ref 214), some (.int (nI (cntN P j))), some (.int (nI j))] [] 333 M (0, 0) := by
    intro m
    induction m with
    | zero =>
      intro j e
      refine qi_iload_n (i := 2) (x := nI j) dX9_foundInAll_4 rfl rfl ?_
      refine qi_aload_n (i := 0) (x := 214) dX9_foundInAll_5 rfl rfl ?_
      refine qi_getR (x := 217) flX9_18 dX9_foundInAll_6 rfl (by decide) (hM 214 2 217 rfl) ?_
      refine qi_alen (v := 800) dX9_foundInAll_9 rfl (by decide) (by decide) rfl ?_
      refine qi_icmp_ge (tgt := 36) dX9_foundInAll_10 (by decide) (fun _hc => ?_) (fun _h => absurd ((nI_leI (a := 800) (b := j) (by omega) (by omega)).mpr (by omega)) _h)
      refine qi_iload_n (i := 1) (x := nI (cntN P j)) dX9_foundInAll_36 rfl rfl ?_
      exact qi_retI rfl rfl dX9_foundInAll_37 (⟨by rw [show j = 800 by omega], rfl⟩)
    | succ m ih =>
      intro j e
      have A := ih (j + 1) (by omega)
      have e1 : cntN P (j + 1) = cntN P j + (if P j then 1 else 0) := rfl
      have h1 := hf j (by omega)
      rw [e1] at A
      refine qi_iload_n (i := 2) (x := nI j) dX9_foundInAll_4 rfl rfl ?_
      refine qi_aload_n (i := 0) (x := 214) dX9_foundInAll_5 rfl rfl ?_
      refine qi_getR (x := 217) flX9_18 dX9_foundInAll_6 rfl (by decide) (hM 214 2 217 rfl) ?_
      refine qi_alen (v := 800) dX9_foundInAll_9 rfl (by decide) (by decide) rfl ?_
      refine qi_icmp_ge (tgt := 36) dX9_foundInAll_10 (by decide) (fun _h => absurd ((nI_leI (a := 800) (b := j) (by omega) (by omega)).mp _h) (by omega)) (fun _hc => ?_)
      cases hp : P j with
      | false =>
        rw [hp] at A h1
        have h1' : M.1 217 j = 0 := h1
        refine qi_iload_n (i := 1) (x := nI (cntN P j)) dX9_foundInAll_13 rfl rfl ?_
        refine qi_aload_n (i := 0) (x := 214) dX9_foundInAll_14 rfl rfl ?_
        refine qi_getR (x := 217) flX9_18 dX9_foundInAll_15 rfl (by decide) (hM 214 2 217 rfl) ?_
        refine qi_iload_n (i := 2) (x := nI j) dX9_foundInAll_18 rfl rfl ?_
        refine qi_zaldN (x := 0) (j := j) dX9_foundInAll_19 rfl (by decide) rfl (by omega) (by decide) h1' ?_
        refine qi_if_eq (tgt := 27) dX9_foundInAll_20 (by decide) (fun z => ?_) (fun z => False.elim (z rfl))
        refine qi_iconst (v := 0) dX9_foundInAll_27 rfl ?_
        refine qi_iadd dX9_foundInAll_28 ?_
        refine qe_top (y := nI (cntN P j)) (Int32.add_zero _) ?_
        refine qi_istore_n (i := 1) (L2 := [some (.ref 214), some (.int (nI (cntN P j))), some (.int (nI j))]) dX9_foundInAll_29 rfl (Nat.le_of_ble_eq_true rfl) rfl ?_
        refine qi_iinc (i := 2) (x := nI j) (v := nI (j + 1)) (L2 := [some (.ref 214), some (.int (nI (cntN P j))), some (.int (nI (j + 1)))]) dX9_foundInAll_30 rfl (nI_1 j) (Nat.le_of_ble_eq_true rfl) rfl ?_
        refine qi_goto (tgt := 4) dX9_foundInAll_33 (by decide) ?_
        exact A
      | true =>
        rw [hp] at A h1
        have h1' : M.1 217 j = 1 := h1
        refine qi_iload_n (i := 1) (x := nI (cntN P j)) dX9_foundInAll_13 rfl rfl ?_
        refine qi_aload_n (i := 0) (x := 214) dX9_foundInAll_14 rfl rfl ?_
        refine qi_getR (x := 217) flX9_18 dX9_foundInAll_15 rfl (by decide) (hM 214 2 217 rfl) ?_
        refine qi_iload_n (i := 2) (x := nI j) dX9_foundInAll_18 rfl rfl ?_
        refine qi_zaldN (x := 1) (j := j) dX9_foundInAll_19 rfl (by decide) rfl (by omega) (by decide) h1' ?_
        refine qi_if_eq (tgt := 27) dX9_foundInAll_20 (by decide) (fun z => False.elim (absurd z (by decide))) (fun z => ?_)
        refine qi_iconst (v := 1) dX9_foundInAll_23 rfl ?_
        refine qi_goto (tgt := 28) dX9_foundInAll_24 (by decide) ?_
        refine qi_iadd dX9_foundInAll_28 ?_
        refine qe_top (y := nI (cntN P j + 1)) (nI_1 _) ?_
        refine qi_istore_n (i := 1) (L2 := [some (.ref 214), some (.int (nI (cntN P j + 1))), some (.int (nI j))]) dX9_foundInAll_29 rfl (Nat.le_of_ble_eq_true rfl) rfl ?_
        refine qi_iinc (i := 2) (x := nI j) (v := nI (j + 1)) (L2 := [some (.ref 214), some (.int (nI (cntN P j + 1))), some (.int (nI (j + 1)))]) dX9_foundInAll_30 rfl (nI_1 j) (Nat.le_of_ble_eq_true rfl) rfl ?_
        refine qi_goto (tgt := 4) dX9_foundInAll_33 (by decide) ?_
        exact A
  refine qI.of (j := 2) (pn_RX9) rfl ?_
  show qT g kX9_foundInAll (qR 0 0 0) (qZI g (fun r M' => r = (nI (cntN P 800)) ∧ M' = M)) 0 [some (.ref 214), none, none] [] 333 M (0, 0)
  refine qi_iconst (v := 0) dX9_foundInAll_0 rfl ?_
  refine qi_istore_n (i := 1) (L2 := [some (.ref 214), some (.int 0), none]) dX9_foundInAll_1 rfl (Nat.le_of_ble_eq_true rfl) rfl ?_
  refine qi_iconst (v := 0) dX9_foundInAll_2 rfl ?_
  refine qi_istore_n (i := 2) (L2 := [some (.ref 214), some (.int 0), some (.int 0)]) dX9_foundInAll_3 rfl (Nat.le_of_ble_eq_true rfl) rfl ?_
  exact K 800 0 (by omega)
set_option maxHeartbeats 1000000 in
theorem c_X9_foundAt (g : qG) {M : qM} (hM : qRf M) {P : Nat → Bool} (hf : ∀ c, c < 800 → M.1 217 c = if P c then 1 else 0) {i : Nat} (hi : i < 2 ^ 31) : qI g 0 kX9_foundAt [.ref 214, .int (nI i)] M (fun r M' => r = o2i (nthO P i 800) ∧ M' = M) := by
  have K : ∀ m j, j + m = 800 → nthO P i j = none → qT g kX9_foundAt (qR 0 0 0) (qZI g (fun r M' => r = (o2i (nthO P i 800)) ∧ M' = M)) 4 [some (.ref 214), some (.int (nI i)), some (.int (nI (cntN P j))), some (.int (nI j))] [] 333 M (0, 0) := by
    intro m
    induction m with
    | zero =>
      intro j e hn
      refine qi_iload_n (i := 3) (x := nI j) dX9_foundAt_4 rfl rfl ?_
      refine qi_aload_n (i := 0) (x := 214) dX9_foundAt_5 rfl rfl ?_
      refine qi_getR (x := 217) flX9_18 dX9_foundAt_6 rfl (by decide) (hM 214 2 217 rfl) ?_
      refine qi_alen (v := 800) dX9_foundAt_9 rfl (by decide) (by decide) rfl ?_
      refine qi_icmp_ge (tgt := 38) dX9_foundAt_10 (by decide) (fun _hc => ?_) (fun _h => absurd ((nI_leI (a := 800) (b := j) (by omega) (by omega)).mpr (by omega)) _h)
      refine qi_iconst (v := -1) dX9_foundAt_38 rfl ?_
      exact qi_retI rfl rfl dX9_foundAt_39 (⟨by rw [← show j = 800 by omega, hn]; rfl, rfl⟩)
    | succ m ih =>
      intro j e hn
      have A := ih (j + 1) (by omega)
      have e1 : cntN P (j + 1) = cntN P j + (if P j then 1 else 0) := rfl
      have h1 := hf j (by omega)
      have hcl := cntN_le P j
      rw [e1, nthO_n hn] at A
      refine qi_iload_n (i := 3) (x := nI j) dX9_foundAt_4 rfl rfl ?_
      refine qi_aload_n (i := 0) (x := 214) dX9_foundAt_5 rfl rfl ?_
      refine qi_getR (x := 217) flX9_18 dX9_foundAt_6 rfl (by decide) (hM 214 2 217 rfl) ?_
      refine qi_alen (v := 800) dX9_foundAt_9 rfl (by decide) (by decide) rfl ?_
      refine qi_icmp_ge (tgt := 38) dX9_foundAt_10 (by decide) (fun _h => absurd ((nI_leI (a := 800) (b := j) (by omega) (by omega)).mp _h) (by omega)) (fun _hc => ?_)
      cases hp : P j with
      | false =>
        rw [hp] at A h1
        have h1' : M.1 217 j = 0 := h1
        refine qi_aload_n (i := 0) (x := 214) dX9_foundAt_13 rfl rfl ?_
        refine qi_getR (x := 217) flX9_18 dX9_foundAt_14 rfl (by decide) (hM 214 2 217 rfl) ?_
        refine qi_iload_n (i := 3) (x := nI j) dX9_foundAt_17 rfl rfl ?_
        refine qi_zaldN (x := 0) (j := j) dX9_foundAt_18 rfl (by decide) rfl (by omega) (by decide) h1' ?_
        refine qi_if_eq (tgt := 32) dX9_foundAt_19 (by decide) (fun z => ?_) (fun z => False.elim (z rfl))
        refine qi_iinc (i := 3) (x := nI j) (v := nI (j + 1)) (L2 := [some (.ref 214), some (.int (nI i)), some (.int (nI (cntN P j))), some (.int (nI (j + 1)))]) dX9_foundAt_32 rfl (nI_1 j) (Nat.le_of_ble_eq_true rfl) rfl ?_
        refine qi_goto (tgt := 4) dX9_foundAt_35 (by decide) ?_
        exact A rfl
      | true =>
        rw [hp] at A h1
        have h1' : M.1 217 j = 1 := h1
        refine qi_aload_n (i := 0) (x := 214) dX9_foundAt_13 rfl rfl ?_
        refine qi_getR (x := 217) flX9_18 dX9_foundAt_14 rfl (by decide) (hM 214 2 217 rfl) ?_
        refine qi_iload_n (i := 3) (x := nI j) dX9_foundAt_17 rfl rfl ?_
        refine qi_zaldN (x := 1) (j := j) dX9_foundAt_18 rfl (by decide) rfl (by omega) (by decide) h1' ?_
        refine qi_if_eq (tgt := 32) dX9_foundAt_19 (by decide) (fun z => False.elim (absurd z (by decide))) (fun z => ?_)
        refine qi_iload_n (i := 2) (x := nI (cntN P j)) dX9_foundAt_22 rfl rfl ?_
        refine qi_iload_n (i := 1) (x := nI i) dX9_foundAt_23 rfl rfl ?_
        refine qi_icmp_ne (tgt := 29) dX9_foundAt_24 (by decide) (fun _h => ?_) (fun _h => ?_)
        · have c : ¬ ((cntN P j) = i) := fun z => _h ((nI_eq (a := cntN P j) (b := i) (by omega) (by omega)).mpr z)
          rw [if_pos rfl, if_neg c] at A
          refine qi_iinc (i := 2) (x := nI (cntN P j)) (v := nI (cntN P j + 1)) (L2 := [some (.ref 214), some (.int (nI i)), some (.int (nI (cntN P j + 1))), some (.int (nI j))]) dX9_foundAt_29 rfl (nI_1 (cntN P j)) (Nat.le_of_ble_eq_true rfl) rfl ?_
          refine qi_iinc (i := 3) (x := nI j) (v := nI (j + 1)) (L2 := [some (.ref 214), some (.int (nI i)), some (.int (nI (cntN P j + 1))), some (.int (nI (j + 1)))]) dX9_foundAt_32 rfl (nI_1 j) (Nat.le_of_ble_eq_true rfl) rfl ?_
          refine qi_goto (tgt := 4) dX9_foundAt_35 (by decide) ?_
          exact A rfl
        · have c : (cntN P j) = i := (nI_eq (a := cntN P j) (b := i) (by omega) (by omega)).mp _h
          have q := nthO_mono (P := P) (i := i) (c := j + 1) (x := j) (by rw [nthO_n hn, hp, if_pos rfl, if_pos c]) (800 - (j + 1))
          rw [show j + 1 + (800 - (j + 1)) = 800 by omega] at q
          refine qi_iload_n (i := 3) (x := nI j) dX9_foundAt_27 rfl rfl ?_
          exact qi_retI rfl rfl dX9_foundAt_28 (⟨by rw [q]; rfl, rfl⟩)
  refine qI.of (j := 2) (pn_RX9) rfl ?_
  show qT g kX9_foundAt (qR 0 0 0) (qZI g (fun r M' => r = (o2i (nthO P i 800)) ∧ M' = M)) 0 [some (.ref 214), some (.int (nI i)), none, none] [] 333 M (0, 0)
  refine qi_iconst (v := 0) dX9_foundAt_0 rfl ?_
  refine qi_istore_n (i := 2) (L2 := [some (.ref 214), some (.int (nI i)), some (.int 0), none]) dX9_foundAt_1 rfl (Nat.le_of_ble_eq_true rfl) rfl ?_
  refine qi_iconst (v := 0) dX9_foundAt_2 rfl ?_
  refine qi_istore_n (i := 3) (L2 := [some (.ref 214), some (.int (nI i)), some (.int 0), some (.int 0)]) dX9_foundAt_3 rfl (Nat.le_of_ble_eq_true rfl) rfl ?_
  exact K 800 0 (by omega) rfl
set_option maxHeartbeats 1000000 in
theorem c_X11_explains (g : qG) {M : qM} (hM : qRf M) {p : Nat} {π : qPl} (hp : qIsP p) (hr : M.2.2 0 9 = some p) (hP : qPlan M p π) (hok : okPl π) {τ : qTo} (hT : qToC M τ) (hoT : okTo τ) (hE : qExC M π τ) (k i : Int32) : qI g 7 kX11_explains [.ref 0, .int k, .int i] M (fun r M' => r = explainsQ π τ k i ∧ qExC M' π τ ∧ qFr (SEx p) M M') := by
  obtain ⟨res, hres⟩ : ∃ res, res = explainsQ π τ k i := ⟨_, rfl⟩
  rw [← hres]
  have h20 := hoT.1
  have E : (inF 0 (nI τ.1) k = 0 ∨ i < -1) → qT g kX11_explains (qR 7 0 0) (qZI g (fun r M' => r = res ∧ qExC M' π τ ∧ qFr (SEx p) M M')) 20 [some (.ref 0), some (.int k), some (.int i)] [] 333 M (0, 0) := by
    intro hb
    refine qi_iconst (v := -1) dX11_explains_20 rfl ?_
    exact qi_retI rfl rfl dX11_explains_21 (⟨by rw [hres]; unfold explainsQ; rw [if_pos hb], hE, qFr.rf⟩)
  refine qI.of (j := 0) (pn_RX11) rfl ?_
  show qT g kX11_explains (qR 7 0 0) (qZI g (fun r M' => r = res ∧ qExC M' π τ ∧ qFr (SEx p) M M')) 0 [some (.ref 0), some (.int k), some (.int i)] [] 333 M (0, 0)
  refine qi_iload_n (i := 1) (x := k) dX11_explains_0 rfl rfl ?_
  refine qi_if_lt (tgt := 20) dX11_explains_1 (by decide) (fun a1 => ?_) (fun a1 => ?_)
  · exact E (Or.inl (inF_no (fun y => absurd a1 (Int32.not_lt.mpr y.1))))
  · refine qi_iload_n (i := 1) (x := k) dX11_explains_4 rfl rfl ?_
    refine qi_aload_n (i := 0) (x := 0) dX11_explains_5 rfl rfl ?_
    refine qi_getR (x := 214) flX11_33 dX11_explains_6 rfl (by decide) (hM 0 3 214 rfl) ?_
    refine qi_getI (x := nI τ.1) flX11_257 dX11_explains_9 rfl (by decide) hT.1 ?_
    refine qi_icmp_gt (tgt := 20) dX11_explains_12 (by decide) (fun a2 => ?_) (fun a2 => ?_)
    · exact E (Or.inl (inF_no (fun y => absurd a2 (Int32.not_lt.mpr y.2))))
    · refine qi_iload_n (i := 2) (x := i) dX11_explains_15 rfl rfl ?_
      refine qi_iconst (v := -1) dX11_explains_16 rfl ?_
      refine qi_icmp_ge (tgt := 22) dX11_explains_17 (by decide) (fun a3 => ?_) (fun a3 => ?_)
      · obtain ⟨k0, hk0, rfl⟩ := nI_of a1
        have hk := (nI_leI hk0 (by omega)).mp (Int32.not_lt.mp a2)
        unfold explainsQ at hres
        rw [if_neg (fun z => z.elim (inF_yes ⟨Int32.not_lt.mp a1, Int32.not_lt.mp a2⟩) (fun z => absurd z (Int32.not_lt.mpr a3))), nI_clamp hk0] at hres
        refine qi_aload_n (i := 0) (x := 0) dX11_explains_22 rfl rfl ?_
        refine qi_getR (x := 214) flX11_33 dX11_explains_23 rfl (by decide) (hM 0 3 214 rfl) ?_
        refine qi_iload_n (i := 1) (x := nI k0) dX11_explains_26 rfl rfl ?_
        refine qi_aload_n (i := 0) (x := 0) dX11_explains_27 rfl rfl ?_
        refine qi_getR (x := p) flX11_67 dX11_explains_28 rfl (by decide) hr ?_
        refine qi_aload_n (i := 0) (x := 0) dX11_explains_31 rfl rfl ?_
        refine qi_getR (x := 230) flX11_58 dX11_explains_32 rfl (by decide) (hM 0 7 230 rfl) ?_
        refine qi_aload_n (i := 0) (x := 0) dX11_explains_35 rfl rfl ?_
        refine qi_getR (x := 236) flX11_61 dX11_explains_36 rfl (by decide) (hM 0 8 236 rfl) ?_
        refine qi_callVV (K' := kX9_search) (As := [.int (nI k0), .ref p, .ref 230, .ref 236]) mlX11_262 okX9_search dX11_explains_39 (c_X9_search g hM hp hP hok hT hoT hE hk) rfl (by decide) rfl (by decide) rfl rfl (Nat.le_of_ble_eq_true rfl) ⟨(Nat.le_of_ble_eq_true rfl), (Nat.le_of_ble_eq_true rfl)⟩ ⟨Nat.le_refl _, Nat.le_refl _⟩ (fun M2 ⟨g1, g2, hf2⟩ => ?_)
        have hM2 := hM.fr hf2
        have hE2 : qExC M2 π τ := Or.inr ⟨k0, hk, g1, g2⟩
        refine qi_iload_n (i := 2) (x := i) dX11_explains_42 rfl rfl ?_
        refine qi_iconst (v := -1) dX11_explains_43 rfl ?_
        refine qi_icmp_ne (tgt := 57) dX11_explains_44 (by decide) (fun c => ?_) (fun c => ?_)
        · rw [if_neg c] at hres
          have hi0 : ¬ i < 0 := fun z => by
            have b1 := Int32.lt_iff_toInt_lt.mp z
            have b2 := Int32.le_iff_toInt_le.mp a3
            have b3 : (-1 : Int32).toInt = -1 := by decide
            have b4 : (0 : Int32).toInt = 0 := by decide
            exact c (Int32.toInt_inj.mp (by omega))
          obtain ⟨i0, hi, rfl⟩ := nI_of hi0
          rw [nI_clamp hi] at hres
          refine qi_aload_n (i := 0) (x := 0) dX11_explains_57 rfl rfl ?_
          refine qi_getR (x := 214) flX11_33 dX11_explains_58 rfl (by decide) (hM2 0 3 214 rfl) ?_
          refine qi_iload_n (i := 2) (x := nI i0) dX11_explains_61 rfl rfl ?_
          refine qi_callPVI (v := o2i (nthO (explP π τ k0) i0 800)) (K' := kX9_foundAt) (As := [.int (nI i0)]) mlX11_269 okX9_foundAt dX11_explains_62 (c_X9_foundAt g hM2 g2 hi) rfl (by decide) rfl (by decide) rfl rfl (Nat.le_of_ble_eq_true rfl) ⟨(Nat.le_of_ble_eq_true rfl), (Nat.le_of_ble_eq_true rfl)⟩ ⟨Nat.le_refl _, Nat.le_refl _⟩ ?_
          exact qi_retI rfl rfl dX11_explains_65 (⟨hres.symm, hE2, hf2⟩)
        · rw [if_pos c] at hres
          refine qi_aload_n (i := 0) (x := 0) dX11_explains_47 rfl rfl ?_
          refine qi_getR (x := 214) flX11_33 dX11_explains_48 rfl (by decide) (hM2 0 3 214 rfl) ?_
          refine qi_callPVI (v := nI (cntN (explP π τ k0) 800)) (K' := kX9_foundInAll) (As := []) mlX11_265 okX9_foundInAll dX11_explains_51 (c_X9_foundInAll g hM2 g2) rfl (by decide) rfl (by decide) rfl rfl (Nat.le_of_ble_eq_true rfl) ⟨(Nat.le_of_ble_eq_true rfl), (Nat.le_of_ble_eq_true rfl)⟩ ⟨Nat.le_refl _, Nat.le_refl _⟩ ?_
          refine qi_goto (tgt := 65) dX11_explains_54 (by decide) ?_
          exact qi_retI rfl rfl dX11_explains_65 (⟨hres.symm, hE2, hf2⟩)
      · exact E (Or.inr (Int32.not_le.mp a3))
theorem explP_tell {π : qPl} {w l : Int32} {τ : qTo} {k : Nat} (hk : k ≤ τ.1) : explP π (dTell w l τ).2 k = explP π τ k := by
  have e1 : ∀ i, i < k → (dTell w l τ).2.2.1 i = τ.2.1 i ∧ (dTell w l τ).2.2.2 i = τ.2.2 i := fun i hi => by
    unfold dTell
    by_cases c : τ.1 = 20 ∨ inF 0 99 w = 0 ∨ inF 0 9999 l = 0
    · rw [if_pos c]; exact ⟨rfl, rfl⟩
    · rw [if_neg c]
      exact ⟨if_neg (by omega), if_neg (by omega)⟩
  generalize (dTell w l τ).2 = τ' at *
  have eL : ∀ j, j ≤ k → lastF τ' j = lastF τ j := by
    intro j
    induction j with
    | zero => intro _; rfl
    | succ j ih =>
      intro hj
      show (if lastF τ' j < τ'.2.1 j + 1 then τ'.2.1 j + 1 else lastF τ' j) = (if lastF τ j < τ.2.1 j + 1 then τ.2.1 j + 1 else lastF τ j)
      rw [ih (by omega), (e1 j (by omega)).1]
  have eF : ∀ v x j, j ≤ k → fstO (oddP τ' v x) j = fstO (oddP τ v x) j := by
    intro v x j
    induction j with
    | zero => intro _; rfl
    | succ j ih =>
      intro hj
      have e2 : oddP τ' v x j = oddP τ v x j := by unfold oddP; rw [(e1 j (by omega)).1, (e1 j (by omega)).2]
      cases hq : fstO (oddP τ v x) j with
      | some y => rw [fstO_c hq, fstO_c ((ih (by omega)).trans hq)]
      | none => rw [fstO_n hq, fstO_n ((ih (by omega)).trans hq), e2]
  have eO : ∀ a W, offF π τ' k a W = offF π τ k a W := by
    intro a W
    induction W with
    | zero => rfl
    | succ W ih =>
      show minO (offF π τ' k a W) (fstO (oddP τ' W (allF (seqF π a (W + 1)))) k) = minO (offF π τ k a W) (fstO (oddP τ W (allF (seqF π a (W + 1)))) k)
      rw [ih, eF _ _ k (Nat.le_refl _)]
  funext c
  unfold explP
  rw [eL k (Nat.le_refl _), eO]
def STd : Nat → Nat → Prop := fun b j => b = 215 ∨ b = 216 ∨ (b = 214 ∧ (j = 3 ∨ j = 4))
set_option maxHeartbeats 1000000 in
theorem c_X11_tell (g : qG) {M : qM} (hM : qRf M) {π : qPl} {τ : qTo} (hT : qToC M τ) (hoT : okTo τ) (hE : qExC M π τ) (w l : Int32) : qI g 2 kX11_tell [.ref 0, .int w, .int l] M (fun r M' => r = (dTell w l τ).1 ∧ qToC M' (dTell w l τ).2 ∧ qExC M' π (dTell w l τ).2 ∧ qFr STd M M') := by
  obtain ⟨res, hres⟩ : ∃ res, res = dTell w l τ := ⟨_, rfl⟩
  have hex := @explP_tell π w l τ
  rw [← hres] at hex ⊢
  have h20 := hoT.1
  unfold dTell at hres
  have E : (τ.1 = 20 ∨ inF 0 99 w = 0 ∨ inF 0 9999 l = 0) → qT g kX11_tell (qR 2 0 0) (qZI g (fun r M' => r = res.1 ∧ qToC M' res.2 ∧ qExC M' π res.2 ∧ qFr STd M M')) 21 [some (.ref 0), some (.int w), some (.int l)] [] 333 M (0, 0) := by
    intro hb
    rw [if_pos hb] at hres
    subst hres
    refine qi_iconst (v := -1) dX11_tell_21 rfl ?_
    exact qi_retI rfl rfl dX11_tell_22 (⟨rfl, hT, hE, qFr.rf⟩)
  have A : ∀ a b, a ≤ 99 → b ≤ 9999 → w = nI a → l = nI b → ¬ inF 0 99 w = 0 → ¬ inF 0 9999 l = 0 → qI g 0 kX9_add [.ref 214, .int (nI a), .int (nI b)] M (fun r M' => r = res.1 ∧ qToC M' res.2 ∧ qExC M' π res.2 ∧ qFr STd M M') := by
    intro a b ha hb ea eb c2 c3
    refine qI.of (j := 0) (pn_RX9) rfl ?_
    show qT g kX9_add (qR 0 0 0) (qZI g (fun r M' => r = res.1 ∧ qToC M' res.2 ∧ qExC M' π res.2 ∧ qFr STd M M')) 0 [some (.ref 214), some (.int (nI a)), some (.int (nI b))] [] 333 M (0, 0)
    refine qi_aload_n (i := 0) (x := 214) dX9_add_0 rfl rfl ?_
    refine qi_getI (x := nI τ.1) flX9_26 dX9_add_1 rfl (by decide) hT.1 ?_
    refine qi_bipush (v := 20) dX9_add_4 rfl ?_
    refine qi_icmp_lt (tgt := 11) dX9_add_6 (by decide) (fun _h => ?_) (fun _h => ?_)
    · have c1 : τ.1 < 20 := (nI_ltI (a := τ.1) (b := 20) (by omega) (by omega)).mp _h
      rw [if_neg (fun z => z.elim (fun z => by omega) (fun z => z.elim c2 c3)), ea, eb, nI_clamp (by omega), nI_clamp (by omega)] at hres
      refine qi_aload_n (i := 0) (x := 214) dX9_add_11 rfl rfl ?_
      refine qi_getR (x := 215) flX9_9 dX9_add_12 rfl (by decide) (hM 214 0 215 rfl) ?_
      refine qi_aload_n (i := 0) (x := 214) dX9_add_15 rfl rfl ?_
      refine qi_getI (x := nI τ.1) flX9_26 dX9_add_16 rfl (by decide) hT.1 ?_
      refine qi_iload_n (i := 1) (x := nI a) dX9_add_19 rfl rfl ?_
      refine qi_iastN (j := τ.1) dX9_add_20 rfl (by decide) rfl (by omega) (by decide) ?_
      refine qi_aload_n (i := 0) (x := 214) dX9_add_21 rfl rfl ?_
      refine qi_getR (x := 216) flX9_15 dX9_add_22 rfl (by decide) (hM 214 1 216 rfl) ?_
      refine qi_aload_n (i := 0) (x := 214) dX9_add_25 rfl rfl ?_
      refine qi_getI (x := nI τ.1) flX9_26 dX9_add_26 rfl (by decide) ((wI_a (by decide)).trans hT.1) ?_
      refine qi_iload_n (i := 2) (x := nI b) dX9_add_29 rfl rfl ?_
      refine qi_iastN (j := τ.1) dX9_add_30 rfl (by decide) rfl (by omega) (by decide) ?_
      refine qi_aload_n (i := 0) (x := 214) dX9_add_31 rfl rfl ?_
      refine qi_dup dX9_add_32 ?_
      refine qi_getI (x := nI τ.1) flX9_26 dX9_add_33 rfl (by decide) ((wI_a (by decide)).trans ((wI_a (by decide)).trans hT.1)) ?_
      refine qi_iconst (v := 1) dX9_add_36 rfl ?_
      refine qi_iadd dX9_add_37 ?_
      refine qe_top (y := nI (τ.1 + 1)) (nI_1 _) ?_
      refine qi_putI flX9_26 q_cls9 (ty9_4 _) dX9_add_38 rfl (by decide) ?_
      refine qi_aload_n (i := 0) (x := 214) dX9_add_41 rfl rfl ?_
      refine qi_getI (x := nI (τ.1 + 1)) flX9_26 dX9_add_42 rfl (by decide) (wI_s _ _ _ _) ?_
      refine qi_iconst (v := 1) dX9_add_45 rfl ?_
      refine qi_isub dX9_add_46 ?_
      refine qe_top (y := nI τ.1) (nI_pred _) ?_
      subst hres
      refine qi_retI rfl rfl dX9_add_47 (⟨rfl, ⟨wI_s _ _ _ _, fun i hi => ?_⟩, ?_, ((qFr.rf.wI (Or.inl rfl)).wI (Or.inr (Or.inl rfl))).wI (Or.inr (Or.inr ⟨rfl, Or.inr rfl⟩))⟩)
      · have hi2 : i < τ.1 + 1 := hi
        show _ = nI (if i = τ.1 then a else τ.2.1 i) ∧ _ = nI (if i = τ.1 then b else τ.2.2 i)
        rw [wI_a (a := 214) (by decide), wI_a (a := 216) (by decide), wI_a (a := 214) (by decide)]
        by_cases e : i = τ.1
        · rw [if_pos e, if_pos e, e, wI_s, wI_s]
          exact ⟨rfl, rfl⟩
        · rw [if_neg e, if_neg e, wI_k e, wI_k e, wI_a (a := 215) (by decide)]
          exact hT.2 i (by omega)
      · rcases hE with h | ⟨k, hk, e1, e2⟩
        · exact Or.inl (by rw [wI_k (by decide), wI_a (by decide), wI_a (by decide)]; exact h)
        · refine Or.inr ⟨k, Nat.le_succ_of_le hk, by rw [wI_k (by decide), wI_a (by decide), wI_a (by decide)]; exact e1, fun c hc => ?_⟩
          rw [wI_a (by decide), wI_a (by decide), wI_a (by decide), hex hk]
          exact e2 c hc
    · have c1 : ¬ (τ.1 < 20) := fun z => _h ((nI_ltI (a := τ.1) (b := 20) (by omega) (by omega)).mpr z)
      rw [if_pos (Or.inl (by omega))] at hres
      subst hres
      refine qi_iconst (v := -1) dX9_add_9 rfl ?_
      exact qi_retI rfl rfl dX9_add_10 (⟨rfl, hT, hE, qFr.rf⟩)
  refine qI.of (j := 0) (pn_RX11) rfl ?_
  show qT g kX11_tell (qR 2 0 0) (qZI g (fun r M' => r = res.1 ∧ qToC M' res.2 ∧ qExC M' π res.2 ∧ qFr STd M M')) 0 [some (.ref 0), some (.int w), some (.int l)] [] 333 M (0, 0)
  refine qi_iload_n (i := 1) (x := w) dX11_tell_0 rfl rfl ?_
  refine qi_if_lt (tgt := 21) dX11_tell_1 (by decide) (fun a1 => ?_) (fun a1 => ?_)
  · exact E (Or.inr (Or.inl (inF_no (fun y => absurd a1 (Int32.not_lt.mpr y.1)))))
  · refine qi_iload_n (i := 1) (x := w) dX11_tell_4 rfl rfl ?_
    refine qi_bipush (v := 100) dX11_tell_5 rfl ?_
    refine qi_icmp_ge (tgt := 21) dX11_tell_7 (by decide) (fun a2 => ?_) (fun a2 => ?_)
    · exact E (Or.inr (Or.inl (inF_no (fun y => absurd (Int32.le_trans a2 y.2) (by decide)))))
    · refine qi_iload_n (i := 2) (x := l) dX11_tell_10 rfl rfl ?_
      refine qi_if_lt (tgt := 21) dX11_tell_11 (by decide) (fun a3 => ?_) (fun a3 => ?_)
      · exact E (Or.inr (Or.inr (inF_no (fun y => absurd a3 (Int32.not_lt.mpr y.1)))))
      · refine qi_iload_n (i := 2) (x := l) dX11_tell_14 rfl rfl ?_
        refine qi_sipush (v := 9999) dX11_tell_15 rfl ?_
        refine qi_icmp_le (tgt := 23) dX11_tell_18 (by decide) (fun a4 => ?_) (fun a4 => ?_)
        · obtain ⟨a, ha, ea⟩ := nI_of a1
          obtain ⟨b, hb, eb⟩ := nI_of a3
          have ha9 : a < 100 := by
            rw [ea] at a2
            have := Int32.not_le.mp a2
            exact (nI_ltI (b := 100) ha (by omega)).mp this
          have hb9 : b ≤ 9999 := by
            rw [eb] at a4
            exact (nI_leI (b := 9999) hb (by omega)).mp a4
          have q := A a b (by omega) hb9 ea eb (inF_yes ⟨Int32.not_lt.mp a1, by rw [ea]; exact (nI_leI (b := 99) ha (by omega)).mpr (by omega)⟩) (inF_yes ⟨Int32.not_lt.mp a3, a4⟩)
          rw [ea, eb]
          refine qi_aload_n (i := 0) (x := 0) dX11_tell_23 rfl rfl ?_
          refine qi_getR (x := 214) flX11_33 dX11_tell_24 rfl (by decide) (hM 0 3 214 rfl) ?_
          refine qi_iload_n (i := 1) (x := nI a) dX11_tell_27 rfl rfl ?_
          refine qi_iload_n (i := 2) (x := nI b) dX11_tell_28 rfl rfl ?_
          refine qi_callVI (K' := kX9_add) (As := [.int (nI a), .int (nI b)]) mlX11_254 okX9_add dX11_tell_29 (q) rfl (by decide) rfl (by decide) rfl rfl (Nat.le_of_ble_eq_true rfl) ⟨(Nat.le_of_ble_eq_true rfl), (Nat.le_of_ble_eq_true rfl)⟩ ⟨Nat.le_refl _, Nat.le_refl _⟩ (fun r M2 h2 => ?_)
          exact qi_retI rfl rfl dX11_tell_32 (h2)
        · exact E (Or.inr (Or.inr (inF_no (fun y => a4 y.2))))
set_option maxHeartbeats 1000000 in
theorem c_X9_clear (g : qG) {M : qM} (hM : qRf M) (π : qPl) (τ : qTo) : qV g 0 kX9_clear [.ref 214] M (fun M' => qToC M' (0, τ.2) ∧ qExC M' π (0, τ.2) ∧ qFr STd M M') := by
  refine qV.of (j := 0) (pn_RX9) rfl ?_
  show qT g kX9_clear (qR 0 0 0) (qZV g (fun M' => qToC M' (0, τ.2) ∧ qExC M' π (0, τ.2) ∧ qFr STd M M')) 0 [some (.ref 214)] [] 333 M (0, 0)
  refine qi_aload_n (i := 0) (x := 214) dX9_clear_0 rfl rfl ?_
  refine qi_iconst (v := 0) dX9_clear_1 rfl ?_
  refine qi_putI flX9_26 q_cls9 (ty9_4 _) dX9_clear_2 rfl (by decide) ?_
  refine qi_aload_n (i := 0) (x := 214) dX9_clear_5 rfl rfl ?_
  refine qi_iconst (v := -1) dX9_clear_6 rfl ?_
  refine qi_putI flX9_22 q_cls9 (ty9_3 _) dX9_clear_7 rfl (by decide) ?_
  exact qi_retV rfl dX9_clear_10 (⟨⟨by rw [wI_k (by decide), wI_s]; rfl, fun i hi => absurd hi (Nat.not_lt_zero _)⟩, Or.inl (wI_s _ _ _ _), (qFr.rf.wI (Or.inr (Or.inr ⟨rfl, Or.inr rfl⟩))).wI (Or.inr (Or.inr ⟨rfl, Or.inl rfl⟩))⟩)
theorem c_X11_forget (g : qG) {M : qM} (hM : qRf M) {π : qPl} {τ : qTo} (hT : qToC M τ) : qI g 1 kX11_forget [.ref 0] M (fun r M' => r = nI τ.1 ∧ qToC M' (0, τ.2) ∧ qExC M' π (0, τ.2) ∧ qFr STd M M') := by
  refine qI.of (j := 1) (pn_RX11) rfl ?_
  show qT g kX11_forget (qR 1 0 0) (qZI g (fun r M' => r = nI τ.1 ∧ qToC M' (0, τ.2) ∧ qExC M' π (0, τ.2) ∧ qFr STd M M')) 0 [some (.ref 0), none] [] 333 M (0, 0)
  refine qi_aload_n (i := 0) (x := 0) dX11_forget_0 rfl rfl ?_
  refine qi_getR (x := 214) flX11_33 dX11_forget_1 rfl (by decide) (hM 0 3 214 rfl) ?_
  refine qi_getI (x := nI τ.1) flX11_257 dX11_forget_4 rfl (by decide) hT.1 ?_
  refine qi_istore_n (i := 1) (L2 := [some (.ref 0), some (.int (nI τ.1))]) dX11_forget_7 rfl (Nat.le_of_ble_eq_true rfl) rfl ?_
  refine qi_aload_n (i := 0) (x := 0) dX11_forget_8 rfl rfl ?_
  refine qi_getR (x := 214) flX11_33 dX11_forget_9 rfl (by decide) (hM 0 3 214 rfl) ?_
  refine qi_callVV (K' := kX9_clear) (As := []) mlX11_100 okX9_clear dX11_forget_12 (c_X9_clear g hM π τ) rfl (by decide) rfl (by decide) rfl rfl (Nat.le_of_ble_eq_true rfl) ⟨(Nat.le_of_ble_eq_true rfl), (Nat.le_of_ble_eq_true rfl)⟩ ⟨Nat.le_refl _, Nat.le_refl _⟩ (fun M2 ⟨h1, h2, hf2⟩ => ?_)
  refine qi_iload_n (i := 1) (x := nI τ.1) dX11_forget_15 rfl rfl ?_
  exact qi_retI rfl rfl dX11_forget_16 (⟨rfl, h1, h2, hf2⟩)
