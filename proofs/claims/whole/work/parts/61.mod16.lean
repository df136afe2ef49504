/-! ThimbleSeaModel: what is told -/
def STo : Nat → Nat → Prop := fun b j => b = 329 ∨ b = 330 ∨ (b = 280 ∧ j = 72)
set_option maxHeartbeats 1000000 in
theorem c_X12_tell_ (g : qG) {M : qM} (hM : qRf M) {τ : qTo} (hT : qToM M τ) (hok : okTo τ) (w l : Int32) : qI g 1 kX12_tell_ [.ref 280, .int w, .int l] M (fun r M' => r = (dTell w l τ).1 ∧ qToM M' (dTell w l τ).2 ∧ qFr STo M M') := by
  obtain ⟨res, hres⟩ : ∃ res, res = dTell w l τ := ⟨_, rfl⟩
  rw [← hres]
  have h20 := hok.1
  have E : (τ.1 = 20 ∨ inF 0 99 w = 0 ∨ inF 0 9999 l = 0) → qT g kX12_tell_ (qR 1 0 0) (qZI g (fun r M' => r = res.1 ∧ qToM M' res.2 ∧ qFr STo M M')) 30 [some (.ref 280), some (.int w), some (.int l)] [] 333 M (0, 0) := by
    intro hb
    unfold dTell at hres
    rw [if_pos hb] at hres
    refine qi_iconst (v := -1) dX12_tell__30 rfl ?_
    exact qi_retI rfl rfl dX12_tell__31 (⟨by rw [hres], by rw [hres]; exact hT, qFr.rf⟩)
  refine qI.of (j := 0) (pn_RX12) rfl ?_
  show qT g kX12_tell_ (qR 1 0 0) (qZI g (fun r M' => r = res.1 ∧ qToM M' res.2 ∧ qFr STo M M')) 0 [some (.ref 280), some (.int w), some (.int l)] [] 333 M (0, 0)
  refine qi_aload_n (i := 0) (x := 280) dX12_tell__0 rfl rfl ?_
  refine qi_getI (x := nI τ.1) flX12_272 dX12_tell__1 rfl (by decide) hT.1 ?_
  refine qi_bipush (v := 20) dX12_tell__4 rfl ?_
  refine qi_icmp_eq (tgt := 30) dX12_tell__6 (by decide) (fun _h => ?_) (fun _h => ?_)
  · have c1 : τ.1 = 20 := (nI_eq (a := τ.1) (b := 20) (by omega) (by omega)).mp _h
    exact E (Or.inl c1)
  · have c1 : ¬ (τ.1 = 20) := fun z => _h ((nI_eq (a := τ.1) (b := 20) (by omega) (by omega)).mpr z)
    refine qi_iload_n (i := 1) (x := w) dX12_tell__9 rfl rfl ?_
    refine qi_iconst (v := 0) dX12_tell__10 rfl ?_
    refine qi_bipush (v := 99) dX12_tell__11 rfl ?_
    refine qi_callPSI (v := inF 0 99 w) (K' := kX12_in) (As := [.int w, .int 0, .int 99]) mlX12_338 okX12_in dX12_tell__13 (c_X12_in g _ _ _) rfl rfl (Nat.le_of_ble_eq_true rfl) ⟨(Nat.le_of_ble_eq_true rfl), (Nat.le_of_ble_eq_true rfl)⟩ ⟨Nat.le_refl _, Nat.le_refl _⟩ ?_
    refine qi_if_eq (tgt := 30) dX12_tell__16 (by decide) (fun c2 => ?_) (fun c2 => ?_)
    · exact E (Or.inr (Or.inl c2))
    · refine qi_iload_n (i := 2) (x := l) dX12_tell__19 rfl rfl ?_
      refine qi_iconst (v := 0) dX12_tell__20 rfl ?_
      refine qi_sipush (v := 9999) dX12_tell__21 rfl ?_
      refine qi_callPSI (v := inF 0 9999 l) (K' := kX12_in) (As := [.int l, .int 0, .int 9999]) mlX12_338 okX12_in dX12_tell__24 (c_X12_in g _ _ _) rfl rfl (Nat.le_of_ble_eq_true rfl) ⟨(Nat.le_of_ble_eq_true rfl), (Nat.le_of_ble_eq_true rfl)⟩ ⟨Nat.le_refl _, Nat.le_refl _⟩ ?_
      refine qi_if_ne (tgt := 32) dX12_tell__27 (by decide) (fun c3 => ?_) (fun c3 => ?_)
      · obtain ⟨a, ha, ea⟩ := inF_nat (n := 99) (by omega) c2
        obtain ⟨b, hb, eb⟩ := inF_nat (n := 9999) (by omega) c3
        unfold dTell at hres
        rw [if_neg (fun z => z.elim c1 (fun z => z.elim c2 c3)), ea, eb, nI_clamp (by omega), nI_clamp (by omega)] at hres
        rw [ea, eb]
        refine qi_aload_n (i := 0) (x := 280) dX12_tell__32 rfl rfl ?_
        refine qi_getR (x := 329) flX12_164 dX12_tell__33 rfl (by decide) (hM 280 73 329 rfl) ?_
        refine qi_aload_n (i := 0) (x := 280) dX12_tell__36 rfl rfl ?_
        refine qi_getI (x := nI τ.1) flX12_272 dX12_tell__37 rfl (by decide) hT.1 ?_
        refine qi_iload_n (i := 1) (x := nI a) dX12_tell__40 rfl rfl ?_
        refine qi_iastN (j := τ.1) dX12_tell__41 rfl (by decide) rfl (by omega) (by decide) ?_
        refine qi_aload_n (i := 0) (x := 280) dX12_tell__42 rfl rfl ?_
        refine qi_getR (x := 330) flX12_167 dX12_tell__43 rfl (by decide) (hM 280 74 330 rfl) ?_
        refine qi_aload_n (i := 0) (x := 280) dX12_tell__46 rfl rfl ?_
        refine qi_getI (x := nI τ.1) flX12_272 dX12_tell__47 rfl (by decide) ((wI_a (by decide)).trans hT.1) ?_
        refine qi_iload_n (i := 2) (x := nI b) dX12_tell__50 rfl rfl ?_
        refine qi_iastN (j := τ.1) dX12_tell__51 rfl (by decide) rfl (by omega) (by decide) ?_
        refine qi_aload_n (i := 0) (x := 280) dX12_tell__52 rfl rfl ?_
        refine qi_dup dX12_tell__53 ?_
        refine qi_getI (x := nI τ.1) flX12_272 dX12_tell__54 rfl (by decide) ((wI_a (by decide)).trans ((wI_a (by decide)).trans hT.1)) ?_
        refine qi_iconst (v := 1) dX12_tell__57 rfl ?_
        refine qi_iadd dX12_tell__58 ?_
        refine qe_top (y := nI (τ.1 + 1)) (nI_1 _) ?_
        refine qi_putI flX12_272 q_cls12 (ty12_72 _) dX12_tell__59 rfl (by decide) ?_
        refine qi_aload_n (i := 0) (x := 280) dX12_tell__62 rfl rfl ?_
        refine qi_getI (x := nI (τ.1 + 1)) flX12_272 dX12_tell__63 rfl (by decide) (wI_s _ _ _ _) ?_
        refine qi_iconst (v := 1) dX12_tell__66 rfl ?_
        refine qi_isub dX12_tell__67 ?_
        refine qe_top (y := nI τ.1) (nI_pred _) ?_
        refine qi_retI rfl rfl dX12_tell__68 (⟨by rw [hres], ?_, ((qFr.rf.wI (Or.inl rfl)).wI (Or.inr (Or.inl rfl))).wI (Or.inr (Or.inr ⟨rfl, rfl⟩))⟩)
        rw [hres]
        refine ⟨wI_s _ _ _ _, fun i hi => ?_⟩
        have hi2 : i < τ.1 + 1 := hi
        show _ = nI (if i = τ.1 then a else τ.2.1 i) ∧ _ = nI (if i = τ.1 then b else τ.2.2 i)
        rw [wI_a (a := 280) (by decide), wI_a (a := 330) (by decide), wI_a (a := 280) (by decide)]
        by_cases e : i = τ.1
        · rw [if_pos e, if_pos e, e, wI_s, wI_s]
          exact ⟨rfl, rfl⟩
        · rw [if_neg e, if_neg e, wI_k e, wI_k e, wI_a (a := 329) (by decide)]
          exact hT.2 i (by omega)
      · exact E (Or.inr (Or.inr c3))
theorem c_X12_forget (g : qG) {M : qM} (hM : qRf M) {τ : qTo} (hT : qToM M τ) : qI g 0 kX12_forget [.ref 280] M (fun r M' => r = nI τ.1 ∧ qToM M' (0, τ.2) ∧ qFr STo M M') := by
  refine qI.of (j := 1) (pn_RX12) rfl ?_
  show qT g kX12_forget (qR 0 0 0) (qZI g (fun r M' => r = nI τ.1 ∧ qToM M' (0, τ.2) ∧ qFr STo M M')) 0 [some (.ref 280), none] [] 333 M (0, 0)
  refine qi_aload_n (i := 0) (x := 280) dX12_forget_0 rfl rfl ?_
  refine qi_getI (x := nI τ.1) flX12_272 dX12_forget_1 rfl (by decide) hT.1 ?_
  refine qi_istore_n (i := 1) (L2 := [some (.ref 280), some (.int (nI τ.1))]) dX12_forget_4 rfl (Nat.le_of_ble_eq_true rfl) rfl ?_
  refine qi_aload_n (i := 0) (x := 280) dX12_forget_5 rfl rfl ?_
  refine qi_iconst (v := 0) dX12_forget_6 rfl ?_
  refine qi_putI flX12_272 q_cls12 (ty12_72 _) dX12_forget_7 rfl (by decide) ?_
  refine qi_iload_n (i := 1) (x := nI τ.1) dX12_forget_10 rfl rfl ?_
  exact qi_retI rfl rfl dX12_forget_11 (⟨rfl, ⟨wI_s _ _ _ _, fun i hi => absurd hi (Nat.not_lt_zero _)⟩, qFr.rf.wI (Or.inr (Or.inr ⟨rfl, rfl⟩))⟩)
set_option maxHeartbeats 1000000 in
theorem c_X12_lastWeek (g : qG) {M : qM} (hM : qRf M) {τ : qTo} (hT : qToM M τ) (hok : okTo τ) {k : Nat} (hk : k ≤ τ.1) : qI g 0 kX12_lastWeek [.ref 280, .int (nI k)] M (fun r M' => r = nI (lastF τ k) - 1 ∧ M' = M) := by
  have h20 := hok.1
  have K : ∀ m j, j + m = k → qT g kX12_lastWeek (qR 0 0 0) (qZI g (fun r M' => r = (nI (lastF τ k) - 1) ∧ M' = M)) 4 [some (.ref 280), some (.int (nI k)), some (.int (nI (lastF τ j) - 1)), some (.int (nI j))] [] 333 M (0, 0) := by
    intro m
    induction m with
    | zero =>
      intro j e
      refine qi_iload_n (i := 3) (x := nI j) dX12_lastWeek_4 rfl rfl ?_
      refine qi_iload_n (i := 1) (x := nI k) dX12_lastWeek_5 rfl rfl ?_
      refine qi_icmp_ge (tgt := 32) dX12_lastWeek_6 (by decide) (fun _hc => ?_) (fun _h => absurd ((nI_leI (a := k) (b := j) (by omega) (by omega)).mpr (by omega)) _h)
      refine qi_iload_n (i := 2) (x := nI (lastF τ j) - 1) dX12_lastWeek_32 rfl rfl ?_
      exact qi_retI rfl rfl dX12_lastWeek_33 (⟨by rw [show j = k by omega], rfl⟩)
    | succ m ih =>
      intro j e
      have q := hok.2 j (by omega)
      have e1 := (hT.2 j (by omega)).1
      have hl := lastF_le hok j (by omega)
      have A := ih (j + 1) (by omega)
      have e2 : lastF τ (j + 1) = if lastF τ j < τ.2.1 j + 1 then τ.2.1 j + 1 else lastF τ j := rfl
      refine qi_iload_n (i := 3) (x := nI j) dX12_lastWeek_4 rfl rfl ?_
      refine qi_iload_n (i := 1) (x := nI k) dX12_lastWeek_5 rfl rfl ?_
      refine qi_icmp_ge (tgt := 32) dX12_lastWeek_6 (by decide) (fun _h => absurd ((nI_leI (a := k) (b := j) (by omega) (by omega)).mp _h) (by omega)) (fun _hc => ?_)
      refine qi_aload_n (i := 0) (x := 280) dX12_lastWeek_9 rfl rfl ?_
      refine qi_getR (x := 329) flX12_164 dX12_lastWeek_10 rfl (by decide) (hM 280 73 329 rfl) ?_
      refine qi_iload_n (i := 3) (x := nI j) dX12_lastWeek_13 rfl rfl ?_
      refine qi_ialdN (x := nI (τ.2.1 j)) (j := j) dX12_lastWeek_14 rfl (by decide) rfl (by omega) (by decide) e1 ?_
      refine qi_iload_n (i := 2) (x := nI (lastF τ j) - 1) dX12_lastWeek_15 rfl rfl ?_
      have le : nI (τ.2.1 j) ≤ nI (lastF τ j) - 1 ↔ τ.2.1 j + 1 ≤ lastF τ j := by
        by_cases z : lastF τ j = 0
        · rw [z]
          constructor
          · intro h
            have := Int32.le_iff_toInt_le.mp h
            rw [nI_toInt (by omega)] at this
            have e3 : (nI 0 - 1).toInt = -1 := by decide
            omega
          · intro h; omega
        · rw [show (1 : Int32) = nI 1 from rfl, pk_sub (by omega), nI_leI (by omega) (by omega)]
          omega
      refine qi_icmp_le (tgt := 26) dX12_lastWeek_16 (by decide) (fun c => ?_) (fun c => ?_)
      · have := le.mp c
        rw [e2, if_neg (by omega)] at A
        refine qi_iinc (i := 3) (x := nI j) (v := nI (j + 1)) (L2 := [some (.ref 280), some (.int (nI k)), some (.int (nI (lastF τ j) - 1)), some (.int (nI (j + 1)))]) dX12_lastWeek_26 rfl (nI_1 j) (Nat.le_of_ble_eq_true rfl) rfl ?_
        refine qi_goto (tgt := 4) dX12_lastWeek_29 (by decide) ?_
        exact A
      · have : ¬ (τ.2.1 j + 1 ≤ lastF τ j) := fun z => c (le.mpr z)
        rw [e2, if_pos (by omega)] at A
        refine qi_aload_n (i := 0) (x := 280) dX12_lastWeek_19 rfl rfl ?_
        refine qi_getR (x := 329) flX12_164 dX12_lastWeek_20 rfl (by decide) (hM 280 73 329 rfl) ?_
        refine qi_iload_n (i := 3) (x := nI j) dX12_lastWeek_23 rfl rfl ?_
        refine qi_ialdN (x := nI (τ.2.1 j)) (j := j) dX12_lastWeek_24 rfl (by decide) rfl (by omega) (by decide) e1 ?_
        refine qi_istore_n (i := 2) (L2 := [some (.ref 280), some (.int (nI k)), some (.int (nI (τ.2.1 j))), some (.int (nI j))]) dX12_lastWeek_25 rfl (Nat.le_of_ble_eq_true rfl) rfl ?_
        refine qi_iinc (i := 3) (x := nI j) (v := nI (j + 1)) (L2 := [some (.ref 280), some (.int (nI k)), some (.int (nI (τ.2.1 j))), some (.int (nI (j + 1)))]) dX12_lastWeek_26 rfl (nI_1 j) (Nat.le_of_ble_eq_true rfl) rfl ?_
        refine qi_goto (tgt := 4) dX12_lastWeek_29 (by decide) ?_
        rw [nI_pred] at A
        exact A
  refine qI.of (j := 2) (pn_RX12) rfl ?_
  show qT g kX12_lastWeek (qR 0 0 0) (qZI g (fun r M' => r = (nI (lastF τ k) - 1) ∧ M' = M)) 0 [some (.ref 280), some (.int (nI k)), none, none] [] 333 M (0, 0)
  refine qi_iconst (v := -1) dX12_lastWeek_0 rfl ?_
  refine qi_istore_n (i := 2) (L2 := [some (.ref 280), some (.int (nI k)), some (.int (-1)), none]) dX12_lastWeek_1 rfl (Nat.le_of_ble_eq_true rfl) rfl ?_
  refine qi_iconst (v := 0) dX12_lastWeek_2 rfl ?_
  refine qi_istore_n (i := 3) (L2 := [some (.ref 280), some (.int (nI k)), some (.int (-1)), some (.int 0)]) dX12_lastWeek_3 rfl (Nat.le_of_ble_eq_true rfl) rfl ?_
  exact K k 0 (by omega)
theorem minO_some {x : Option Nat} {y : Nat} : minO x (some y) = match x with
  | none => some y
  | some z => if y < z then some y else some z := by cases x <;> rfl
/-- what a run from the begin writes -/
theorem qToM.fr {S : Nat → Nat → Prop} {M M' : qM} {τ : qTo} (h : qToM M τ) (hf : qFr S M M') (hd : ∀ b j, S b j → b ≠ 329 ∧ b ≠ 330 ∧ (b = 280 → j ≠ 72)) : qToM M' τ := ⟨(hf.1 _ _ (fun z => (hd _ _ z).2.2 rfl rfl)).trans h.1, fun i hi => ⟨(hf.1 _ _ (fun z => (hd _ _ z).1 rfl)).trans (h.2 i hi).1, (hf.1 _ _ (fun z => (hd _ _ z).2.1 rfl)).trans (h.2 i hi).2⟩⟩
theorem SM_to {b j : Nat} (z : SM b j) : b ≠ 329 ∧ b ≠ 330 ∧ (b = 280 → j ≠ 72) := by unfold SM at z; omega
set_option maxHeartbeats 2000000 in
theorem c_X12_firstOff (g : qG) {M : qM} (hM : qRf M) {L : Nat} {π : qPl} (hP : qPlanM M L π) (hok : okPl π) (hO : okSea π (beginF π)) {τ : qTo} (hT : qToM M τ) (hoT : okTo τ) {k : Nat} (hk : k ≤ τ.1) {sil sw : Int32} {a : Nat → Int32} (ha : ∀ w, w < lastF τ k → awayF sil sw (nI w) = a w) (hR : qRow M (beginF π)) (e60 : M.1 280 60 = sil) (e61 : M.1 280 61 = sw) : qI g 5 kX12_firstOff [.ref 280, .int (nI k)] M (fun r M' => r = o2n (offF π τ k a (lastF τ k)) ∧ qFr SN M M') := by
  obtain ⟨res, hres⟩ : ∃ res, res = offF π τ k a (lastF τ k) := ⟨_, rfl⟩
  rw [← hres]
  have h20 := hoT.1
  have hl100 := lastF_le hoT k hk
  have K : ∀ m w M1 x5 x6, w + m = lastF τ k → qFr SN M M1 → qRow M1 (seqF π a w) → qT g kX12_firstOff (qR 5 0 0) (qZI g (fun r M' => r = o2n res ∧ qFr SN M M')) 12 [some (.ref 280), some (.int (nI k)), some (.int (o2n (offF π τ k a w))), some (.int (nI (lastF τ k) - 1)), some (.int (nI w)), x5, x6] [] 333 M1 (0, 0) := by
    intro m
    induction m with
    | zero =>
      intro w M1 x5 x6 e hf hR1
      obtain rfl : w = lastF τ k := by omega
      have gt : nI (lastF τ k) - 1 < nI (lastF τ k) := by
        by_cases z : lastF τ k = 0
        · rw [z]; decide
        · rw [show (1 : Int32) = nI 1 from rfl, pk_sub (by omega)]
          exact (nI_ltI (by omega) (by omega)).mpr (by omega)
      refine qi_iload (i := 4) (x := nI (lastF τ k)) dX12_firstOff_12 rfl ?_
      refine qi_iload_n (i := 3) (x := nI (lastF τ k) - 1) dX12_firstOff_14 rfl rfl ?_
      refine qi_icmp_gt (tgt := 86) dX12_firstOff_15 (by decide) (fun z => ?_) (fun z => False.elim (z gt))
      refine qi_iload_n (i := 2) (x := o2n (offF π τ k a (lastF τ k))) dX12_firstOff_86 rfl rfl ?_
      exact qi_retI rfl rfl dX12_firstOff_87 (⟨by rw [hres], hf⟩)
    | succ m ih =>
      intro w M1 x5 x6 e hf hR1
      have hM1 := hM.fr hf
      have ngt : ¬ nI (lastF τ k) - 1 < nI w := by
        rw [show (1 : Int32) = nI 1 from rfl, pk_sub (by omega)]
        exact nI_nlt (by omega) (by omega)
      refine qi_iload (i := 4) (x := nI w) dX12_firstOff_12 rfl ?_
      refine qi_iload_n (i := 3) (x := nI (lastF τ k) - 1) dX12_firstOff_14 rfl rfl ?_
      refine qi_icmp_gt (tgt := 86) dX12_firstOff_15 (by decide) (fun z => False.elim (ngt z)) (fun z => ?_)
      refine qi_aload_n (i := 0) (x := 280) dX12_firstOff_18 rfl rfl ?_
      refine qi_callVV (K' := kX12_weekGoes) (As := []) mlX12_396 okX12_weekGoes dX12_firstOff_19 (c_X12_weekGoes g hM1 hR1 (hP.frN hf) hok (hO.seq hok a w) ((hf.1 _ _ (by unfold SN; omega)).trans e60) ((hf.1 _ _ (by unfold SN; omega)).trans e61)) rfl (by decide) rfl (by decide) rfl rfl (Nat.le_of_ble_eq_true rfl) ⟨(Nat.le_of_ble_eq_true rfl), (Nat.le_of_ble_eq_true rfl)⟩ ⟨Nat.le_refl _, Nat.le_refl _⟩ (fun M2 ⟨hR2, hf2⟩ => ?_)
      rw [seqF_64 hok, ha w (by omega)] at hR2
      have hM2 := hM1.fr hf2
      have hR2 : qRow M2 (seqF π a (w + 1)) := hR2
      have hf12 := hf.tr hf2
      have hT2 := hT.fr hf12 (fun _ _ z => SM_to (SN_SM z))
      refine qi_aload_n (i := 0) (x := 280) dX12_firstOff_22 rfl rfl ?_
      refine qi_callPVI (v := allF (seqF π a (w + 1))) (K' := kX12_allDrops) (As := []) mlX12_352 okX12_allDrops dX12_firstOff_23 (c_X12_allDrops g hM2 hR2) rfl (by decide) rfl (by decide) rfl rfl (Nat.le_of_ble_eq_true rfl) ⟨(Nat.le_of_ble_eq_true rfl), (Nat.le_of_ble_eq_true rfl)⟩ ⟨Nat.le_refl _, Nat.le_refl _⟩ ?_
      refine qi_istore (i := 5) (L2 := [some (.ref 280), some (.int (nI k)), some (.int (o2n (offF π τ k a w))), some (.int (nI (lastF τ k) - 1)), some (.int (nI w)), some (.int (allF (seqF π a (w + 1)))), x6]) dX12_firstOff_26 (Nat.le_of_ble_eq_true rfl) rfl ?_
      refine qi_iconst (v := 0) dX12_firstOff_28 rfl ?_
      refine qi_istore (i := 6) (L2 := [some (.ref 280), some (.int (nI k)), some (.int (o2n (offF π τ k a w))), some (.int (nI (lastF τ k) - 1)), some (.int (nI w)), some (.int (allF (seqF π a (w + 1)))), some (.int 0)]) dX12_firstOff_29 (Nat.le_of_ble_eq_true rfl) rfl ?_
      have A := ih (w + 1) M2
      have eo : offF π τ k a (w + 1) = minO (offF π τ k a w) (fstO (oddP τ w (allF (seqF π a (w + 1)))) k) := rfl
      rw [eo] at A
      have hbo := offF_lt (π := π) (τ := τ) (k := k) (a := a) w
      generalize offF π τ k a w = B at *
      have hl : ∃ l, l = allF (seqF π a (w + 1)) := ⟨_, rfl⟩
      obtain ⟨l, hl⟩ := hl
      rw [← hl] at A ⊢
      have hPo : ∃ P : Nat → Bool, ∀ i, P i = oddP τ w l i := ⟨_, fun _ => rfl⟩
      obtain ⟨P, hPo⟩ := hPo
      rw [show oddP τ w l = P from funext fun i => (hPo i).symm] at A
      have J : ∀ m2 i, i + m2 = k → qT g kX12_firstOff (qR 5 0 0) (qZI g (fun r M' => r = o2n res ∧ qFr SN M M')) 31 [some (.ref 280), some (.int (nI k)), some (.int (o2n (minO B (fstO P i)))), some (.int (nI (lastF τ k) - 1)), some (.int (nI w)), some (.int l), some (.int (nI i))] [] 333 M2 (0, 0) := by
        intro m2
        induction m2 with
        | zero =>
          intro i e2
          obtain rfl : i = k := by omega
          refine qi_iload (i := 6) (x := nI i) dX12_firstOff_31 rfl ?_
          refine qi_iload_n (i := 1) (x := nI i) dX12_firstOff_33 rfl rfl ?_
          refine qi_icmp_ge (tgt := 80) dX12_firstOff_34 (by decide) (fun _hc => ?_) (fun _h => absurd ((nI_leI (a := i) (b := i) (by omega) (by omega)).mpr (by omega)) _h)
          refine qi_iinc (i := 4) (x := nI w) (v := nI (w + 1)) (L2 := [some (.ref 280), some (.int (nI i)), some (.int (o2n (minO B (fstO P i)))), some (.int (nI (lastF τ i) - 1)), some (.int (nI (w + 1))), some (.int l), some (.int (nI i))]) dX12_firstOff_80 rfl (nI_1 w) (Nat.le_of_ble_eq_true rfl) rfl ?_
          refine qi_goto (tgt := 12) dX12_firstOff_83 (by decide) ?_
          exact A _ _ (by omega) hf12 hR2
        | succ m2 ih2 =>
          intro i e2
          have A2 := ih2 (i + 1) (by omega)
          have no : minO B (fstO P (i + 1)) = minO B (fstO P i) → qT g kX12_firstOff (qR 5 0 0) (qZI g (fun r M' => r = o2n res ∧ qFr SN M M')) 74 [some (.ref 280), some (.int (nI k)), some (.int (o2n (minO B (fstO P i)))), some (.int (nI (lastF τ k) - 1)), some (.int (nI w)), some (.int l), some (.int (nI i))] [] 333 M2 (0, 0) := by
            intro z
            rw [z] at A2
            refine qi_iinc (i := 6) (x := nI i) (v := nI (i + 1)) (L2 := [some (.ref 280), some (.int (nI k)), some (.int (o2n (minO B (fstO P i)))), some (.int (nI (lastF τ k) - 1)), some (.int (nI w)), some (.int l), some (.int (nI (i + 1)))]) dX12_firstOff_74 rfl (nI_1 i) (Nat.le_of_ble_eq_true rfl) rfl ?_
            refine qi_goto (tgt := 31) dX12_firstOff_77 (by decide) ?_
            exact A2
          have yes : minO B (fstO P (i + 1)) = some i → qT g kX12_firstOff (qR 5 0 0) (qZI g (fun r M' => r = o2n res ∧ qFr SN M M')) 71 [some (.ref 280), some (.int (nI k)), some (.int (o2n (minO B (fstO P i)))), some (.int (nI (lastF τ k) - 1)), some (.int (nI w)), some (.int l), some (.int (nI i))] [] 333 M2 (0, 0) := by
            intro z
            rw [z] at A2
            refine qi_iload (i := 6) (x := nI i) dX12_firstOff_71 rfl ?_
            refine qi_istore_n (i := 2) (L2 := [some (.ref 280), some (.int (nI k)), some (.int (nI i)), some (.int (nI (lastF τ k) - 1)), some (.int (nI w)), some (.int l), some (.int (nI i))]) dX12_firstOff_73 rfl (Nat.le_of_ble_eq_true rfl) rfl ?_
            refine qi_iinc (i := 6) (x := nI i) (v := nI (i + 1)) (L2 := [some (.ref 280), some (.int (nI k)), some (.int (nI i)), some (.int (nI (lastF τ k) - 1)), some (.int (nI w)), some (.int l), some (.int (nI (i + 1)))]) dX12_firstOff_74 rfl (nI_1 i) (Nat.le_of_ble_eq_true rfl) rfl ?_
            refine qi_goto (tgt := 31) dX12_firstOff_77 (by decide) ?_
            exact A2
          have skip : P i = false → minO B (fstO P (i + 1)) = minO B (fstO P i) := by
            intro z
            cases hp : fstO P i with
            | none => rw [fstO_n hp, z]; rfl
            | some y => rw [fstO_c hp]
          obtain ⟨t1, t2⟩ := hT2.2 i (by omega)
          obtain ⟨b1, b2⟩ := hoT.2 i (by omega)
          refine qi_iload (i := 6) (x := nI i) dX12_firstOff_31 rfl ?_
          refine qi_iload_n (i := 1) (x := nI k) dX12_firstOff_33 rfl rfl ?_
          refine qi_icmp_ge (tgt := 80) dX12_firstOff_34 (by decide) (fun _h => absurd ((nI_leI (a := k) (b := i) (by omega) (by omega)).mp _h) (by omega)) (fun _hc => ?_)
          refine qi_aload_n (i := 0) (x := 280) dX12_firstOff_37 rfl rfl ?_
          refine qi_getR (x := 329) flX12_164 dX12_firstOff_38 rfl (by decide) (hM2 280 73 329 rfl) ?_
          refine qi_iload (i := 6) (x := nI i) dX12_firstOff_41 rfl ?_
          refine qi_ialdN (x := nI (τ.2.1 i)) (j := i) dX12_firstOff_43 rfl (by decide) rfl (by omega) (by decide) t1 ?_
          refine qi_iload (i := 4) (x := nI w) dX12_firstOff_44 rfl ?_
          refine qi_icmp_ne (tgt := 74) dX12_firstOff_46 (by decide) (fun _h => ?_) (fun _h => ?_)
          · have c1 : ¬ ((τ.2.1 i) = w) := fun z => _h ((nI_eq (a := τ.2.1 i) (b := w) (by omega) (by omega)).mpr z)
            exact no (skip (by rw [hPo]; exact decide_eq_false (fun z => c1 z.1)))
          · have c1 : (τ.2.1 i) = w := (nI_eq (a := τ.2.1 i) (b := w) (by omega) (by omega)).mp _h
            refine qi_aload_n (i := 0) (x := 280) dX12_firstOff_49 rfl rfl ?_
            refine qi_getR (x := 330) flX12_167 dX12_firstOff_50 rfl (by decide) (hM2 280 74 330 rfl) ?_
            refine qi_iload (i := 6) (x := nI i) dX12_firstOff_53 rfl ?_
            refine qi_ialdN (x := nI (τ.2.2 i)) (j := i) dX12_firstOff_55 rfl (by decide) rfl (by omega) (by decide) t2 ?_
            refine qi_iload (i := 5) (x := l) dX12_firstOff_56 rfl ?_
            refine qi_icmp_eq (tgt := 74) dX12_firstOff_58 (by decide) (fun c2 => ?_) (fun c2 => ?_)
            · exact no (skip (by rw [hPo]; exact decide_eq_false (fun z => z.2 c2)))
            · have hp : P i = true := by rw [hPo]; exact decide_eq_true ⟨c1, c2⟩
              refine qi_iload_n (i := 2) (x := o2n (minO B (fstO P i))) dX12_firstOff_61 rfl rfl ?_
              cases hq : fstO P i with
              | some y =>
                have hy := fstO_lt _ _ hq
                have hmin : ∃ x, minO B (some y) = some x ∧ x ≤ i := by
                  rw [minO_some]
                  cases B with
                  | none => exact ⟨y, rfl, by omega⟩
                  | some z =>
                    by_cases c : y < z
                    · exact ⟨y, if_pos c, by omega⟩
                    · exact ⟨z, if_neg c, by omega⟩
                obtain ⟨x, hx, hxi⟩ := hmin
                rw [fstO_c hq] at no
                rw [hq, hx] at no yes
                rw [hx]
                refine qi_if_lt (tgt := 71) dX12_firstOff_62 (by decide) (fun z => False.elim (nI_pos (n := x) (by omega) z)) (fun z => ?_)
                refine qi_iload (i := 6) (x := nI i) dX12_firstOff_65 rfl ?_
                refine qi_iload_n (i := 2) (x := nI x) dX12_firstOff_67 rfl rfl ?_
                refine qi_icmp_ge (tgt := 74) dX12_firstOff_68 (by decide) (fun _hc => ?_) (fun _h => absurd ((nI_leI (a := x) (b := i) (by omega) (by omega)).mpr (by omega)) _h)
                exact no rfl
              | none =>
                rw [fstO_n hq, hp, if_pos rfl] at no yes
                rw [hq] at no yes
                rw [minO_n] at no yes ⊢
                cases B with
                | none =>
                  refine qi_if_lt (tgt := 71) dX12_firstOff_62 (by decide) (fun z => ?_) (fun z => False.elim (z (by decide)))
                  exact yes rfl
                | some x =>
                  have hx := hbo x rfl
                  refine qi_if_lt (tgt := 71) dX12_firstOff_62 (by decide) (fun z => False.elim (nI_pos (n := x) (by omega) z)) (fun z => ?_)
                  refine qi_iload (i := 6) (x := nI i) dX12_firstOff_65 rfl ?_
                  refine qi_iload_n (i := 2) (x := nI x) dX12_firstOff_67 rfl rfl ?_
                  refine qi_icmp_ge (tgt := 74) dX12_firstOff_68 (by decide) (fun _h => ?_) (fun _h => ?_)
                  · have c3 : x ≤ i := (nI_leI (a := x) (b := i) (by omega) (by omega)).mp _h
                    exact no (by show (if i < x then some i else some x) = some x; rw [if_neg (by omega)])
                  · have c3 : ¬ (x ≤ i) := fun z => _h ((nI_leI (a := x) (b := i) (by omega) (by omega)).mpr z)
                    exact yes (by show (if i < x then some i else some x) = some i; rw [if_pos (by omega)])
      have A0 := J k 0 (by omega)
      rw [show fstO P 0 = none from rfl, minO_n] at A0
      exact A0
  refine qI.of (j := 5) (pn_RX12) rfl ?_
  show qT g kX12_firstOff (qR 5 0 0) (qZI g (fun r M' => r = o2n res ∧ qFr SN M M')) 0 [some (.ref 280), some (.int (nI k)), none, none, none, none, none] [] 333 M (0, 0)
  refine qi_bipush (v := -2) dX12_firstOff_0 rfl ?_
  refine qi_istore_n (i := 2) (L2 := [some (.ref 280), some (.int (nI k)), some (.int (-2)), none, none, none, none]) dX12_firstOff_2 rfl (Nat.le_of_ble_eq_true rfl) rfl ?_
  refine qi_aload_n (i := 0) (x := 280) dX12_firstOff_3 rfl rfl ?_
  refine qi_iload_n (i := 1) (x := nI k) dX12_firstOff_4 rfl rfl ?_
  refine qi_callPVI (v := nI (lastF τ k) - 1) (K' := kX12_lastWeek) (As := [.int (nI k)]) mlX12_446 okX12_lastWeek dX12_firstOff_5 (c_X12_lastWeek g hM hT hoT hk) rfl (by decide) rfl (by decide) rfl rfl (Nat.le_of_ble_eq_true rfl) ⟨(Nat.le_of_ble_eq_true rfl), (Nat.le_of_ble_eq_true rfl)⟩ ⟨Nat.le_refl _, Nat.le_refl _⟩ ?_
  refine qi_istore_n (i := 3) (L2 := [some (.ref 280), some (.int (nI k)), some (.int (-2)), some (.int (nI (lastF τ k) - 1)), none, none, none]) dX12_firstOff_8 rfl (Nat.le_of_ble_eq_true rfl) rfl ?_
  refine qi_iconst (v := 0) dX12_firstOff_9 rfl ?_
  refine qi_istore (i := 4) (L2 := [some (.ref 280), some (.int (nI k)), some (.int (-2)), some (.int (nI (lastF τ k) - 1)), some (.int 0), none, none]) dX12_firstOff_10 (Nat.le_of_ble_eq_true rfl) rfl ?_
  exact K (lastF τ k) 0 M none none (by omega) qFr.rf hR
