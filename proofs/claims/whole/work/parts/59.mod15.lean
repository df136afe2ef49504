/-! ThimbleSeaModel: asked, gives -/
set_option maxHeartbeats 1000000 in
theorem c_X12_asked (g : qG) {M : qM} (hM : qRf M) {L : Nat} {π : qPl} (hP : qPlanM M L π) (hok : okPl π) (n w : Int32) : qI g 2 kX12_asked [.ref 280, .int n, .int w] M (fun r M' => r = askedQ π n w ∧ qFr SA M M') := by
  obtain ⟨res, hres⟩ : ∃ res, res = askedQ π n w := ⟨_, rfl⟩
  rw [← hres]
  have hh8 := hok.2.1
  have hpw := pow8 hh8
  have E : (inF 1 999 n = 0 ∨ inF 0 1 w = 0) → qT g kX12_asked (qR 2 0 0) (qZI g (fun r M' => r = res ∧ qFr SA M M')) 20 [some (.ref 280), some (.int n), some (.int w), none] [] 333 M (0, 0) := by
    intro hb
    refine qi_iconst (v := -1) dX12_asked_20 rfl ?_
    exact qi_retI rfl rfl dX12_asked_21 (⟨by rw [hres]; unfold askedQ; rw [if_pos hb], qFr.rf⟩)
  refine qI.of (j := 1) (pn_RX12) rfl ?_
  show qT g kX12_asked (qR 2 0 0) (qZI g (fun r M' => r = res ∧ qFr SA M M')) 0 [some (.ref 280), some (.int n), some (.int w), none] [] 333 M (0, 0)
  refine qi_iload_n (i := 1) (x := n) dX12_asked_0 rfl rfl ?_
  refine qi_iconst (v := 1) dX12_asked_1 rfl ?_
  refine qi_sipush (v := 999) dX12_asked_2 rfl ?_
  refine qi_callPSI (v := inF 1 999 n) (K' := kX12_in) (As := [.int n, .int 1, .int 999]) mlX12_338 okX12_in dX12_asked_5 (c_X12_in g _ _ _) rfl rfl (Nat.le_of_ble_eq_true rfl) ⟨(Nat.le_of_ble_eq_true rfl), (Nat.le_of_ble_eq_true rfl)⟩ ⟨Nat.le_refl _, Nat.le_refl _⟩ ?_
  refine qi_if_eq (tgt := 20) dX12_asked_8 (by decide) (fun c1 => ?_) (fun c1 => ?_)
  · exact E (Or.inl c1)
  · refine qi_iload_n (i := 2) (x := w) dX12_asked_11 rfl rfl ?_
    refine qi_iconst (v := 0) dX12_asked_12 rfl ?_
    refine qi_iconst (v := 1) dX12_asked_13 rfl ?_
    refine qi_callPSI (v := inF 0 1 w) (K' := kX12_in) (As := [.int w, .int 0, .int 1]) mlX12_338 okX12_in dX12_asked_14 (c_X12_in g _ _ _) rfl rfl (Nat.le_of_ble_eq_true rfl) ⟨(Nat.le_of_ble_eq_true rfl), (Nat.le_of_ble_eq_true rfl)⟩ ⟨Nat.le_refl _, Nat.le_refl _⟩ ?_
    refine qi_if_ne (tgt := 22) dX12_asked_17 (by decide) (fun c2 => ?_) (fun c2 => ?_)
    · obtain ⟨n0, hn1, hn2, en⟩ := inF_nat1 (n := 999) (by omega) c1
      unfold askedQ at hres
      rw [if_neg (fun z => z.elim c1 c2), en, nI_clamp (by omega)] at hres
      rw [en]
      refine qi_aload_n (i := 0) (x := 280) dX12_asked_22 rfl rfl ?_
      refine qi_iload_n (i := 1) (x := nI n0) dX12_asked_23 rfl rfl ?_
      refine qi_callVI (K' := kX12_asks) (As := [.int (nI n0)]) mlX12_421 okX12_asks dX12_asked_24 (c_X12_asks g hM hP hok hn2) rfl (by decide) rfl (by decide) rfl rfl (Nat.le_of_ble_eq_true rfl) ⟨(Nat.le_of_ble_eq_true rfl), (Nat.le_of_ble_eq_true rfl)⟩ ⟨Nat.le_refl _, Nat.le_refl _⟩ (fun r M2 ⟨er, e67, hf2⟩ => ?_)
      have hM2 := hM.fr hf2
      have sp := askG_spec (refV π n0) (2 ^ π.1 1)
      cases ha : askG (refV π n0) (2 ^ π.1 1) with
      | none =>
        rw [ha] at er hres
        rw [er]
        refine qi_istore_n (i := 3) (L2 := [some (.ref 280), some (.int (nI n0)), some (.int w), some (.int (o2n none))]) dX12_asked_27 rfl (Nat.le_of_ble_eq_true rfl) rfl ?_
        refine qi_iload_n (i := 3) (x := o2n none) dX12_asked_28 rfl rfl ?_
        refine qi_if_ge (tgt := 37) dX12_asked_29 (by decide) (fun z => False.elim (absurd z (by decide))) (fun z => ?_)
        refine qi_bipush (v := -2) dX12_asked_32 rfl ?_
        refine qi_goto (tgt := 49) dX12_asked_34 (by decide) ?_
        exact qi_retI rfl rfl dX12_asked_49 (⟨hres.symm, hf2⟩)
      | some bv =>
        obtain ⟨b, v⟩ := bv
        have e := e67 b v ha
        rw [ha] at er hres sp
        simp only at hres
        have hb := sp.2.1
        rw [er]
        refine qi_istore_n (i := 3) (L2 := [some (.ref 280), some (.int (nI n0)), some (.int w), some (.int (nI b))]) dX12_asked_27 rfl (Nat.le_of_ble_eq_true rfl) rfl ?_
        refine qi_iload_n (i := 3) (x := nI b) dX12_asked_28 rfl rfl ?_
        refine qi_if_ge (tgt := 37) dX12_asked_29 (by decide) (fun z => ?_) (fun z => False.elim (z (nI_pos' (n := b) (by omega))))
        refine qi_iload_n (i := 2) (x := w) dX12_asked_37 rfl rfl ?_
        refine qi_if_ne (tgt := 48) dX12_asked_38 (by decide) (fun c3 => ?_) (fun c3 => ?_)
        · refine qi_iload_n (i := 3) (x := nI b) dX12_asked_48 rfl rfl ?_
          exact qi_retI rfl rfl dX12_asked_49 (⟨by rw [hres, if_neg c3], hf2⟩)
        · refine qi_aload_n (i := 0) (x := 280) dX12_asked_41 rfl rfl ?_
          refine qi_getI (x := nI v) flX12_418 dX12_asked_42 rfl (by decide) e ?_
          refine qi_goto (tgt := 49) dX12_asked_45 (by decide) ?_
          exact qi_retI rfl rfl dX12_asked_49 (⟨by rw [hres, if_pos c3], hf2⟩)
    · exact E (Or.inr c2)
set_option maxHeartbeats 1000000 in
theorem c_X12_gives (g : qG) {M : qM} (hM : qRf M) {L : Nat} {π : qPl} (hP : qPlanM M L π) (hok : okPl π) (n h : Int32) : qI g 2 kX12_gives [.ref 280, .int n, .int h] M (fun r M' => r = givesQ π n h ∧ qFr SA M M') := by
  obtain ⟨res, hres⟩ : ∃ res, res = givesQ π n h := ⟨_, rfl⟩
  rw [← hres]
  have hh8 := hok.2.1
  have hpw := pow8 hh8
  have E : (inF 1 999 n = 0 ∨ isF (π.1 1) h = 0) → qT g kX12_gives (qR 2 0 0) (qZI g (fun r M' => r = res ∧ qFr SA M M')) 19 [some (.ref 280), some (.int n), some (.int h), none] [] 333 M (0, 0) := by
    intro hb
    refine qi_iconst (v := -1) dX12_gives_19 rfl ?_
    exact qi_retI rfl rfl dX12_gives_20 (⟨by rw [hres]; unfold givesQ; rw [if_pos hb], qFr.rf⟩)
  refine qI.of (j := 1) (pn_RX12) rfl ?_
  show qT g kX12_gives (qR 2 0 0) (qZI g (fun r M' => r = res ∧ qFr SA M M')) 0 [some (.ref 280), some (.int n), some (.int h), none] [] 333 M (0, 0)
  refine qi_iload_n (i := 1) (x := n) dX12_gives_0 rfl rfl ?_
  refine qi_iconst (v := 1) dX12_gives_1 rfl ?_
  refine qi_sipush (v := 999) dX12_gives_2 rfl ?_
  refine qi_callPSI (v := inF 1 999 n) (K' := kX12_in) (As := [.int n, .int 1, .int 999]) mlX12_338 okX12_in dX12_gives_5 (c_X12_in g _ _ _) rfl rfl (Nat.le_of_ble_eq_true rfl) ⟨(Nat.le_of_ble_eq_true rfl), (Nat.le_of_ble_eq_true rfl)⟩ ⟨Nat.le_refl _, Nat.le_refl _⟩ ?_
  refine qi_if_eq (tgt := 19) dX12_gives_8 (by decide) (fun c1 => ?_) (fun c1 => ?_)
  · exact E (Or.inl c1)
  · refine qi_aload_n (i := 0) (x := 280) dX12_gives_11 rfl rfl ?_
    refine qi_iload_n (i := 2) (x := h) dX12_gives_12 rfl rfl ?_
    refine qi_callPVI (v := isF (π.1 1) h) (K' := kX12_isHeir) (As := [.int h]) mlX12_380 okX12_isHeir dX12_gives_13 (c_X12_isHeir g hM hP hok h) rfl (by decide) rfl (by decide) rfl rfl (Nat.le_of_ble_eq_true rfl) ⟨(Nat.le_of_ble_eq_true rfl), (Nat.le_of_ble_eq_true rfl)⟩ ⟨Nat.le_refl _, Nat.le_refl _⟩ ?_
    refine qi_if_ne (tgt := 21) dX12_gives_16 (by decide) (fun c2 => ?_) (fun c2 => ?_)
    · obtain ⟨n0, hn1, hn2, en⟩ := inF_nat1 (n := 999) (by omega) c1
      obtain ⟨k, hk, ek⟩ := isF_of (by omega) c2
      unfold givesQ at hres
      rw [if_neg (fun z => z.elim c1 c2), en, nI_clamp (by omega), ek, nI_clamp (by omega)] at hres
      rw [en, ek]
      refine qi_aload_n (i := 0) (x := 280) dX12_gives_21 rfl rfl ?_
      refine qi_iload_n (i := 1) (x := nI n0) dX12_gives_22 rfl rfl ?_
      refine qi_callVI (K' := kX12_asks) (As := [.int (nI n0)]) mlX12_421 okX12_asks dX12_gives_23 (c_X12_asks g hM hP hok hn2) rfl (by decide) rfl (by decide) rfl rfl (Nat.le_of_ble_eq_true rfl) ⟨(Nat.le_of_ble_eq_true rfl), (Nat.le_of_ble_eq_true rfl)⟩ ⟨Nat.le_refl _, Nat.le_refl _⟩ (fun r M2 ⟨er, e67, hf2⟩ => ?_)
      have hM2 := hM.fr hf2
      have sp := askG_spec (refV π n0) (2 ^ π.1 1)
      cases ha : askG (refV π n0) (2 ^ π.1 1) with
      | none =>
        rw [ha] at er hres
        rw [er]
        refine qi_istore_n (i := 3) (L2 := [some (.ref 280), some (.int (nI n0)), some (.int (nI k)), some (.int (o2n none))]) dX12_gives_26 rfl (Nat.le_of_ble_eq_true rfl) rfl ?_
        refine qi_iload_n (i := 3) (x := o2n none) dX12_gives_27 rfl rfl ?_
        refine qi_if_lt (tgt := 40) dX12_gives_28 (by decide) (fun z => ?_) (fun z => False.elim (z (by decide)))
        refine qi_bipush (v := -2) dX12_gives_40 rfl ?_
        refine qi_goto (tgt := 51) dX12_gives_42 (by decide) ?_
        exact qi_retI rfl rfl dX12_gives_51 (⟨hres.symm, hf2⟩)
      | some bv =>
        obtain ⟨b, v⟩ := bv
        rw [ha] at er hres sp
        simp only at hres
        have hb := sp.2.1
        have hv : v ≤ 1000000 := by
          have h := sp.2.2.1
          unfold refV at h
          split at h
          · have := Option.some.inj h
            rw [← this]
            exact cost_le hok
          · cases h
        rw [er]
        refine qi_istore_n (i := 3) (L2 := [some (.ref 280), some (.int (nI n0)), some (.int (nI k)), some (.int (nI b))]) dX12_gives_26 rfl (Nat.le_of_ble_eq_true rfl) rfl ?_
        refine qi_iload_n (i := 3) (x := nI b) dX12_gives_27 rfl rfl ?_
        refine qi_if_lt (tgt := 40) dX12_gives_28 (by decide) (fun z => False.elim (nI_pos (n := b) (by omega) z)) (fun z => ?_)
        refine qi_aload_n (i := 0) (x := 280) dX12_gives_31 rfl rfl ?_
        refine qi_iload_n (i := 3) (x := nI b) dX12_gives_32 rfl rfl ?_
        refine qi_iload_n (i := 1) (x := nI n0) dX12_gives_33 rfl rfl ?_
        refine qi_callVI (K' := kX12_sumBy) (As := [.int (nI b), .int (nI n0)]) mlX12_415 okX12_sumBy dX12_gives_34 (c_X12_sumBy g hM2 (hP.frA hf2) hok (s := b) (by omega) hn2) rfl (by decide) rfl (by decide) rfl rfl (Nat.le_of_ble_eq_true rfl) ⟨(Nat.le_of_ble_eq_true rfl), (Nat.le_of_ble_eq_true rfl)⟩ ⟨Nat.le_refl _, Nat.le_refl _⟩ (fun r2 M3 ⟨er2, eg, hf3⟩ => ?_)
        have hM3 := hM2.fr hf3
        have e3 := eg v sp.2.2.1 k hk
        rw [sp.2.2.1] at er2
        rw [er2]
        refine qi_if_ge (tgt := 45) dX12_gives_37 (by decide) (fun z => ?_) (fun z => False.elim (z (nI_pos' (n := v) (by omega))))
        refine qi_aload_n (i := 0) (x := 280) dX12_gives_45 rfl rfl ?_
        refine qi_getR (x := 326) flX12_155 dX12_gives_46 rfl (by decide) (hM3 280 66 326 rfl) ?_
        refine qi_iload_n (i := 2) (x := nI k) dX12_gives_49 rfl rfl ?_
        refine qi_ialdN (x := nI (gvN π n0 b k)) (j := k) dX12_gives_50 rfl (by decide) rfl (by omega) (by decide) e3 ?_
        exact qi_retI rfl rfl dX12_gives_51 (⟨hres.symm, hf2.tr (hf3.mono (fun b j z => Or.inl z))⟩)
    · exact E (Or.inr c2)
