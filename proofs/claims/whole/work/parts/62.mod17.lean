/-! ThimbleSeaModel: forged, explains, restore, count, feed, back, place -/
set_option maxHeartbeats 1000000 in
theorem c_X12_forged (g : qG) {M : qM} (hM : qRf M) {L : Nat} {π : qPl} (hP : qPlanM M L π) (hok : okPl π) {τ : qTo} (hT : qToM M τ) (hoT : okTo τ) (k : Int32) : qI g 6 kX12_forged [.ref 280, .int k] M (fun r M' => r = forgedQ π τ k ∧ qFr SM M M') := by
  obtain ⟨res, hres⟩ : ∃ res, res = forgedQ π τ k := ⟨_, rfl⟩
  rw [← hres]
  have h20 := hoT.1
  refine qI.of (j := 0) (pn_RX12) rfl ?_
  show qT g kX12_forged (qR 6 0 0) (qZI g (fun r M' => r = res ∧ qFr SM M M')) 0 [some (.ref 280), some (.int k)] [] 333 M (0, 0)
  refine qi_iload_n (i := 1) (x := k) dX12_forged_0 rfl rfl ?_
  refine qi_iconst (v := 0) dX12_forged_1 rfl ?_
  refine qi_aload_n (i := 0) (x := 280) dX12_forged_2 rfl rfl ?_
  refine qi_getI (x := nI τ.1) flX12_272 dX12_forged_3 rfl (by decide) hT.1 ?_
  refine qi_callPSI (v := inF 0 (nI τ.1) k) (K' := kX12_in) (As := [.int k, .int 0, .int (nI τ.1)]) mlX12_338 okX12_in dX12_forged_6 (c_X12_in g _ _ _) rfl rfl (Nat.le_of_ble_eq_true rfl) ⟨(Nat.le_of_ble_eq_true rfl), (Nat.le_of_ble_eq_true rfl)⟩ ⟨Nat.le_refl _, Nat.le_refl _⟩ ?_
  refine qi_if_ne (tgt := 14) dX12_forged_9 (by decide) (fun c1 => ?_) (fun c1 => ?_)
  · obtain ⟨k0, hk0, ek⟩ := inF_nat (n := τ.1) (by omega) c1
    unfold forgedQ at hres
    rw [if_neg c1, ek, nI_clamp (by omega)] at hres
    rw [ek]
    refine qi_aload_n (i := 0) (x := 280) dX12_forged_14 rfl rfl ?_
    refine qi_callVV (K' := kX12_begins) (As := []) mlX12_266 okX12_begins dX12_forged_15 (c_X12_begins g hM hP hok) rfl (by decide) rfl (by decide) rfl rfl (Nat.le_of_ble_eq_true rfl) ⟨(Nat.le_of_ble_eq_true rfl), (Nat.le_of_ble_eq_true rfl)⟩ ⟨Nat.le_refl _, Nat.le_refl _⟩ (fun M2 ⟨hR2, e60, e61, hf2⟩ => ?_)
    have hM2 := hM.fr hf2
    refine qi_aload_n (i := 0) (x := 280) dX12_forged_18 rfl rfl ?_
    refine qi_iload_n (i := 1) (x := nI k0) dX12_forged_19 rfl rfl ?_
    refine qi_callVI (K' := kX12_firstOff) (As := [.int (nI k0)]) mlX12_449 okX12_firstOff dX12_forged_20 (c_X12_firstOff g hM2 (hP.fr hf2) hok (okSea.begin hok) (hT.fr hf2 (fun _ _ => SM_to)) hoT hk0 (a := fun _ => -1) (fun w _ => awayF_m1 _ _) (fun j hj => hR2 j (by omega)) e60 e61) rfl (by decide) rfl (by decide) rfl rfl (Nat.le_of_ble_eq_true rfl) ⟨(Nat.le_of_ble_eq_true rfl), (Nat.le_of_ble_eq_true rfl)⟩ ⟨Nat.le_refl _, Nat.le_refl _⟩ (fun r M3 ⟨er, hf3⟩ => ?_)
    exact qi_retI rfl rfl dX12_forged_23 (⟨by rw [er, hres], hf2.tr (hf3.mono (fun _ _ => SN_SM))⟩)
  · refine qi_iconst (v := -1) dX12_forged_12 rfl ?_
    exact qi_retI rfl rfl dX12_forged_13 (⟨by rw [hres]; unfold forgedQ; rw [if_pos c1], qFr.rf⟩)
theorem cntN_skip {P : Nat → Bool} {a : Nat} : ∀ b, a ≤ b → (∀ c, a ≤ c → c < b → P c = false) → cntN P b = cntN P a
  | 0, h, _ => by rw [Nat.le_zero.mp h]
  | b + 1, h, e => by
    by_cases hb : a = b + 1
    · rw [hb]
    · show cntN P b + (if P b then 1 else 0) = _
      rw [e b (by omega) (by omega), cntN_skip b (by omega) (fun c h1 h2 => e c h1 (by omega))]
      rfl
theorem awayF_abs {h week w : Nat} (h1 : week < 2 ^ 31) (h2 : w < 2 ^ 31) : awayF (nI h) (nI week) (nI w) = absF h week w := by
  unfold awayF absF
  by_cases c : w = week
  · rw [if_pos (Or.inr (by rw [c])), if_pos c]
  · rw [if_neg (fun z => z.elim (nI_m1 h1) (fun z => c ((nI_eq h1 h2).mp z).symm)), if_neg c]
theorem nthO_n {P : Nat → Bool} {i c : Nat} (h : nthO P i c = none) : nthO P i (c + 1) = if P c then (if cntN P c = i then some c else none) else none := by
  show (match nthO P i c with
    | some x => some x
    | none => if P c then (if cntN P c = i then some c else none) else none) = _
  rw [h]
theorem nthO_c {P : Nat → Bool} {i c x : Nat} (h : nthO P i c = some x) : nthO P i (c + 1) = some x := by
  show (match nthO P i c with
    | some x => some x
    | none => if P c then (if cntN P c = i then some c else none) else none) = _
  rw [h]
theorem nthO_mono {P : Nat → Bool} {i c x : Nat} (h : nthO P i c = some x) : ∀ m, nthO P i (c + m) = some x
  | 0 => h
  | m + 1 => nthO_c (nthO_mono h m)
theorem nthO_skip {P : Nat → Bool} {i a : Nat} (h : nthO P i a = none) : ∀ b, a ≤ b → (∀ c, a ≤ c → c < b → P c = false) → nthO P i b = none
  | 0, hb, _ => by rw [← Nat.le_zero.mp hb]; exact h
  | b + 1, hb, e => by
    by_cases c : a = b + 1
    · rw [← c]; exact h
    · rw [nthO_n (nthO_skip h b (by omega) (fun c h1 h2 => e c h1 (by omega))), e b (by omega) (by omega)]
      rfl
set_option maxHeartbeats 2000000 in
theorem c_X12_explains (g : qG) {M : qM} (hM : qRf M) {L : Nat} {π : qPl} (hP : qPlanM M L π) (hok : okPl π) {τ : qTo} (hT : qToM M τ) (hoT : okTo τ) (k i : Int32) : qI g 6 kX12_explains [.ref 280, .int k, .int i] M (fun r M' => r = explainsQ π τ k i ∧ qFr SM M M') := by
  obtain ⟨res, hres⟩ : ∃ res, res = explainsQ π τ k i := ⟨_, rfl⟩
  rw [← hres]
  have h20 := hoT.1
  have hh8 := hok.2.1
  have hL := hP.1.1
  have E : (inF 0 (nI τ.1) k = 0 ∨ i < -1) → qT g kX12_explains (qR 6 0 0) (qZI g (fun r M' => r = res ∧ qFr SM M M')) 17 [some (.ref 280), some (.int k), some (.int i), none, none, none] [] 333 M (0, 0) := by
    intro hb
    refine qi_iconst (v := -1) dX12_explains_17 rfl ?_
    exact qi_retI rfl rfl dX12_explains_18 (⟨by rw [hres]; unfold explainsQ; rw [if_pos hb], qFr.rf⟩)
  refine qI.of (j := 3) (pn_RX12) rfl ?_
  show qT g kX12_explains (qR 6 0 0) (qZI g (fun r M' => r = res ∧ qFr SM M M')) 0 [some (.ref 280), some (.int k), some (.int i), none, none, none] [] 333 M (0, 0)
  refine qi_iload_n (i := 1) (x := k) dX12_explains_0 rfl rfl ?_
  refine qi_iconst (v := 0) dX12_explains_1 rfl ?_
  refine qi_aload_n (i := 0) (x := 280) dX12_explains_2 rfl rfl ?_
  refine qi_getI (x := nI τ.1) flX12_272 dX12_explains_3 rfl (by decide) hT.1 ?_
  refine qi_callPSI (v := inF 0 (nI τ.1) k) (K' := kX12_in) (As := [.int k, .int 0, .int (nI τ.1)]) mlX12_338 okX12_in dX12_explains_6 (c_X12_in g _ _ _) rfl rfl (Nat.le_of_ble_eq_true rfl) ⟨(Nat.le_of_ble_eq_true rfl), (Nat.le_of_ble_eq_true rfl)⟩ ⟨Nat.le_refl _, Nat.le_refl _⟩ ?_
  refine qi_if_eq (tgt := 17) dX12_explains_9 (by decide) (fun c1 => ?_) (fun c1 => ?_)
  · exact E (Or.inl c1)
  · refine qi_iload_n (i := 2) (x := i) dX12_explains_12 rfl rfl ?_
    refine qi_iconst (v := -1) dX12_explains_13 rfl ?_
    refine qi_icmp_ge (tgt := 19) dX12_explains_14 (by decide) (fun c2 => ?_) (fun c2 => ?_)
    · obtain ⟨k0, hk0, ek⟩ := inF_nat (n := τ.1) (by omega) c1
      have hl100 := lastF_le hoT k0 hk0
      unfold explainsQ at hres
      rw [if_neg (fun z => z.elim c1 (fun z => absurd z (Int32.not_lt.mpr c2))), ek, nI_clamp (by omega)] at hres
      have hi : i = -1 ∨ ∃ i0, i0 < 2 ^ 31 ∧ i = nI i0 := by
        by_cases c : i < 0
        · left
          have a1 := Int32.lt_iff_toInt_lt.mp c
          have a2 := Int32.le_iff_toInt_le.mp c2
          have a3 : (-1 : Int32).toInt = -1 := by decide
          have a4 : (0 : Int32).toInt = 0 := by decide
          exact Int32.toInt_inj.mp (by omega)
        · exact Or.inr (nI_of c)
      have hE : ∃ P : Nat → Bool, ∀ c, P c = explP π τ k0 c := ⟨_, fun _ => rfl⟩
      obtain ⟨P, hP0⟩ := hE
      rw [show explP π τ k0 = P from funext fun c => (hP0 c).symm] at hres
      have hPc : ∀ c, P c = true ↔ (c / 100 < π.1 1 ∧ c % 100 < lastF τ k0 ∧ offF π τ k0 (absF (c / 100) (c % 100)) (lastF τ k0) = none) := fun c => by rw [hP0]; exact decide_eq_true_iff
      have hPf : ∀ c, ¬ (c / 100 < π.1 1 ∧ c % 100 < lastF τ k0) → P c = false := fun c h => by
        cases hp : P c with
        | false => rfl
        | true => exact absurd ((hPc c).mp hp) (fun z => h ⟨z.1, z.2.1⟩)
      -- so far none is the wanted one
      have hno : ∃ N : Nat → Prop, ∀ c, N c ↔ (i = -1 ∨ ∃ i0, i0 < 2 ^ 31 ∧ i = nI i0 ∧ nthO P i0 c = none) := ⟨_, fun _ => Iff.rfl⟩
      obtain ⟨N, hN⟩ := hno
      have cl : ∀ c, c ≤ 800 → cntN P c ≤ 800 := fun c hc => Nat.le_trans (cntN_le P c) hc
      rw [ek]
      have K24 : ∀ m h M1 x5, h + m = π.1 1 → qFr SM M M1 → N (100 * h) → qT g kX12_explains (qR 6 0 0) (qZI g (fun r M' => r = res ∧ qFr SM M M')) 24 [some (.ref 280), some (.int (nI k0)), some (.int i), some (.int (nI (cntN P (100 * h)))), some (.int (nI h)), x5] [] 333 M1 (0, 0) := by
        intro m
        induction m with
        | zero =>
          intro h M1 x5 e hf hn
          obtain rfl : h = π.1 1 := by omega
          have hM1 := hM.fr hf
          have hP1 := hP.fr hf
          have sk : ∀ c, 100 * π.1 1 ≤ c → c < 800 → P c = false := fun c h1 h2 => hPf c (fun z => by omega)
          have e8 := cntN_skip (P := P) 800 (by omega) sk
          refine qi_iload (i := 4) (x := nI (π.1 1)) dX12_explains_24 rfl ?_
          refine qi_aload_n (i := 0) (x := 280) dX12_explains_26 rfl rfl ?_
          refine qi_getR (x := 294) flX12_58 dX12_explains_27 rfl (by decide) (hM1 280 27 294 rfl) ?_
          refine qi_aload_n (i := 0) (x := 280) dX12_explains_30 rfl rfl ?_
          refine qi_getI (x := nI L) flX12_248 dX12_explains_31 rfl (by decide) hP1.1.2 ?_
          refine qi_ialdN (x := nI (π.1 1)) (j := L) dX12_explains_34 rfl (by decide) rfl (by omega) (by decide) hP1.2.1.2.1 ?_
          refine qi_icmp_ge (tgt := 107) dX12_explains_35 (by decide) (fun _hc => ?_) (fun _h => absurd ((nI_leI (a := π.1 1) (b := π.1 1) (by omega) (by omega)).mpr (by omega)) _h)
          refine qi_iload_n (i := 2) (x := i) dX12_explains_107 rfl rfl ?_
          refine qi_iconst (v := -1) dX12_explains_108 rfl ?_
          refine qi_icmp_ne (tgt := 116) dX12_explains_109 (by decide) (fun c3 => ?_) (fun c3 => ?_)
          · refine qi_iconst (v := -1) dX12_explains_116 rfl ?_
            rw [if_neg c3] at hres
            obtain ⟨i0, hi0, ei, hnt⟩ := ((hN _).mp hn).resolve_left c3
            rw [ei, nI_clamp hi0, nthO_skip hnt 800 (by omega) sk] at hres
            exact qi_retI rfl rfl dX12_explains_117 (⟨by rw [hres]; rfl, hf⟩)
          · refine qi_iload_n (i := 3) (x := nI (cntN P (100 * π.1 1))) dX12_explains_112 rfl rfl ?_
            refine qi_goto (tgt := 117) dX12_explains_113 (by decide) ?_
            rw [if_pos c3, e8] at hres
            exact qi_retI rfl rfl dX12_explains_117 (⟨hres.symm, hf⟩)
        | succ m ih =>
          intro h M1 x5 e hf hn
          have hM1 := hM.fr hf
          have hP1 := hP.fr hf
          refine qi_iload (i := 4) (x := nI h) dX12_explains_24 rfl ?_
          refine qi_aload_n (i := 0) (x := 280) dX12_explains_26 rfl rfl ?_
          refine qi_getR (x := 294) flX12_58 dX12_explains_27 rfl (by decide) (hM1 280 27 294 rfl) ?_
          refine qi_aload_n (i := 0) (x := 280) dX12_explains_30 rfl rfl ?_
          refine qi_getI (x := nI L) flX12_248 dX12_explains_31 rfl (by decide) hP1.1.2 ?_
          refine qi_ialdN (x := nI (π.1 1)) (j := L) dX12_explains_34 rfl (by decide) rfl (by omega) (by decide) hP1.2.1.2.1 ?_
          refine qi_icmp_ge (tgt := 107) dX12_explains_35 (by decide) (fun _h => absurd ((nI_leI (a := π.1 1) (b := h) (by omega) (by omega)).mp _h) (by omega)) (fun _hc => ?_)
          refine qi_iconst (v := 0) dX12_explains_38 rfl ?_
          refine qi_istore (i := 5) (L2 := [some (.ref 280), some (.int (nI k0)), some (.int i), some (.int (nI (cntN P (100 * h)))), some (.int (nI h)), some (.int 0)]) dX12_explains_39 (Nat.le_of_ble_eq_true rfl) rfl ?_
          have K41 : ∀ m2 w M1, w + m2 = lastF τ k0 → qFr SM M M1 → N (100 * h + w) → qT g kX12_explains (qR 6 0 0) (qZI g (fun r M' => r = res ∧ qFr SM M M')) 41 [some (.ref 280), some (.int (nI k0)), some (.int i), some (.int (nI (cntN P (100 * h + w)))), some (.int (nI h)), some (.int (nI w))] [] 333 M1 (0, 0) := by
            intro m2
            induction m2 with
            | zero =>
              intro w M1 e2 hf hn
              obtain rfl : w = lastF τ k0 := by omega
              have hM1 := hM.fr hf
              have sk : ∀ c, 100 * h + lastF τ k0 ≤ c → c < 100 * (h + 1) → P c = false := fun c h1 h2 => hPf c (fun z => by omega)
              have A := ih (h + 1) M1 (some (.int (nI (lastF τ k0)))) (by omega) hf ((hN _).mpr (((hN _).mp hn).elim Or.inl (fun ⟨i0, h1, h2, h3⟩ => Or.inr ⟨i0, h1, h2, nthO_skip h3 _ (by omega) sk⟩)))
              rw [cntN_skip _ (by omega) sk] at A
              have gt : nI (lastF τ k0) - 1 < nI (lastF τ k0) := by
                by_cases z : lastF τ k0 = 0
                · rw [z]; decide
                · rw [show (1 : Int32) = nI 1 from rfl, pk_sub (by omega)]
                  exact (nI_ltI (by omega) (by omega)).mpr (by omega)
              refine qi_iload (i := 5) (x := nI (lastF τ k0)) dX12_explains_41 rfl ?_
              refine qi_aload_n (i := 0) (x := 280) dX12_explains_43 rfl rfl ?_
              refine qi_iload_n (i := 1) (x := nI k0) dX12_explains_44 rfl rfl ?_
              refine qi_callPVI (v := nI (lastF τ k0) - 1) (K' := kX12_lastWeek) (As := [.int (nI k0)]) mlX12_446 okX12_lastWeek dX12_explains_45 (c_X12_lastWeek g hM1 (hT.fr hf (fun _ _ => SM_to)) hoT hk0) rfl (by decide) rfl (by decide) rfl rfl (Nat.le_of_ble_eq_true rfl) ⟨(Nat.le_of_ble_eq_true rfl), (Nat.le_of_ble_eq_true rfl)⟩ ⟨Nat.le_refl _, Nat.le_refl _⟩ ?_
              refine qi_icmp_gt (tgt := 101) dX12_explains_48 (by decide) (fun z => ?_) (fun z => False.elim (z gt))
              refine qi_iinc (i := 4) (x := nI h) (v := nI (h + 1)) (L2 := [some (.ref 280), some (.int (nI k0)), some (.int i), some (.int (nI (cntN P (100 * h + lastF τ k0)))), some (.int (nI (h + 1))), some (.int (nI (lastF τ k0)))]) dX12_explains_101 rfl (nI_1 h) (Nat.le_of_ble_eq_true rfl) rfl ?_
              refine qi_goto (tgt := 24) dX12_explains_104 (by decide) ?_
              exact A
            | succ m2 ih2 =>
              intro w M1 e2 hf hn
              have hM1 := hM.fr hf
              have hT1 := hT.fr hf (fun _ _ => SM_to)
              have ngt : ¬ nI (lastF τ k0) - 1 < nI w := by
                rw [show (1 : Int32) = nI 1 from rfl, pk_sub (by omega)]
                exact nI_nlt (by omega) (by omega)
              have c1h : (100 * h + w) / 100 = h := by omega
              have c1w : (100 * h + w) % 100 = w := by omega
              refine qi_iload (i := 5) (x := nI w) dX12_explains_41 rfl ?_
              refine qi_aload_n (i := 0) (x := 280) dX12_explains_43 rfl rfl ?_
              refine qi_iload_n (i := 1) (x := nI k0) dX12_explains_44 rfl rfl ?_
              refine qi_callPVI (v := nI (lastF τ k0) - 1) (K' := kX12_lastWeek) (As := [.int (nI k0)]) mlX12_446 okX12_lastWeek dX12_explains_45 (c_X12_lastWeek g hM1 hT1 hoT hk0) rfl (by decide) rfl (by decide) rfl rfl (Nat.le_of_ble_eq_true rfl) ⟨(Nat.le_of_ble_eq_true rfl), (Nat.le_of_ble_eq_true rfl)⟩ ⟨Nat.le_refl _, Nat.le_refl _⟩ ?_
              refine qi_icmp_gt (tgt := 101) dX12_explains_48 (by decide) (fun z => False.elim (ngt z)) (fun z => ?_)
              refine qi_aload_n (i := 0) (x := 280) dX12_explains_51 rfl rfl ?_
              refine qi_callVV (K' := kX12_begins) (As := []) mlX12_266 okX12_begins dX12_explains_52 (c_X12_begins g hM1 (hP.fr hf) hok) rfl (by decide) rfl (by decide) rfl rfl (Nat.le_of_ble_eq_true rfl) ⟨(Nat.le_of_ble_eq_true rfl), (Nat.le_of_ble_eq_true rfl)⟩ ⟨Nat.le_refl _, Nat.le_refl _⟩ (fun M2 ⟨hR2, e60, e61, hf2⟩ => ?_)
              have hM2 := hM1.fr hf2
              have hf12 := hf.tr hf2
              refine qi_aload_n (i := 0) (x := 280) dX12_explains_55 rfl rfl ?_
              refine qi_iload (i := 4) (x := nI h) dX12_explains_56 rfl ?_
              refine qi_putI flX12_342 q_cls12 (ty12_60 _) dX12_explains_58 rfl (by decide) ?_
              refine qi_aload_n (i := 0) (x := 280) dX12_explains_61 rfl rfl ?_
              refine qi_iload (i := 5) (x := nI w) dX12_explains_62 rfl ?_
              refine qi_putI flX12_345 q_cls12 (ty12_61 _) dX12_explains_64 rfl (by decide) ?_
              generalize eM3 : wI (wI M2 280 60 (nI h)) 280 61 (nI w) = M3
              have hf3 : qFr SM M M3 := by
                rw [← eM3]
                exact (hf12.wI (by unfold SM; omega)).wI (by unfold SM; omega)
              have hM3 := hM.fr hf3
              have e60' : M3.1 280 60 = nI h := by rw [← eM3, wI_k (by omega), wI_s]
              have e61' : M3.1 280 61 = nI w := by rw [← eM3, wI_s]
              have hR3 : qRow M3 (beginF π) := fun j hj => by rw [← eM3, wI_a (by omega), wI_a (by omega)]; exact hR2 j (by omega)
              refine qi_aload_n (i := 0) (x := 280) dX12_explains_67 rfl rfl ?_
              refine qi_iload_n (i := 1) (x := nI k0) dX12_explains_68 rfl rfl ?_
              refine qi_callVI (K' := kX12_firstOff) (As := [.int (nI k0)]) mlX12_449 okX12_firstOff dX12_explains_69 (c_X12_firstOff g hM3 (hP.fr hf3) hok (okSea.begin hok) (hT.fr hf3 (fun _ _ => SM_to)) hoT hk0 (a := absF h w) (fun v hv => awayF_abs (by omega) (by omega)) hR3 e60' e61') rfl (by decide) rfl (by decide) rfl rfl (Nat.le_of_ble_eq_true rfl) ⟨(Nat.le_of_ble_eq_true rfl), (Nat.le_of_ble_eq_true rfl)⟩ ⟨Nat.le_refl _, Nat.le_refl _⟩ (fun r M4 ⟨er, hf4⟩ => ?_)
              have hf34 := hf3.tr (hf4.mono (fun _ _ => SN_SM))
              have hM4 := hM.fr hf34
              rw [er]
              have step : cntN P (100 * h + (w + 1)) = cntN P (100 * h + w) + (if P (100 * h + w) then 1 else 0) := rfl
              have A := ih2 (w + 1) M4 (by omega) hf34
              rw [step] at A
              have hcl := cl (100 * h + w) (by omega)
              cases ho : offF π τ k0 (absF h w) (lastF τ k0) with
              | some y =>
                have hy := offF_lt _ _ ho
                have hp : P (100 * h + w) = false := by
                  cases hq : P (100 * h + w) with
                  | false => rfl
                  | true =>
                    have := ((hPc _).mp hq).2.2
                    rw [c1h, c1w, ho] at this
                    cases this
                rw [hp] at A
                refine qi_if_lt (tgt := 78) dX12_explains_72 (by decide) (fun z => False.elim (nI_pos (n := y) (by omega) z)) (fun z => ?_)
                refine qi_goto (tgt := 95) dX12_explains_75 (by decide) ?_
                refine qi_iinc (i := 5) (x := nI w) (v := nI (w + 1)) (L2 := [some (.ref 280), some (.int (nI k0)), some (.int i), some (.int (nI (cntN P (100 * h + w)))), some (.int (nI h)), some (.int (nI (w + 1)))]) dX12_explains_95 rfl (nI_1 w) (Nat.le_of_ble_eq_true rfl) rfl ?_
                refine qi_goto (tgt := 41) dX12_explains_98 (by decide) ?_
                refine A ((hN _).mpr (((hN _).mp hn).elim Or.inl (fun ⟨i0, h1, h2, h3⟩ => Or.inr ⟨i0, h1, h2, ?_⟩)))
                rw [← Nat.add_assoc, nthO_n h3, hp]
                rfl
              | none =>
                have hp : P (100 * h + w) = true := (hPc _).mpr (by rw [c1h, c1w]; exact ⟨by omega, by omega, ho⟩)
                rw [hp] at A
                refine qi_if_lt (tgt := 78) dX12_explains_72 (by decide) (fun z => ?_) (fun z => False.elim (z (by decide)))
                refine qi_iload_n (i := 3) (x := nI (cntN P (100 * h + w))) dX12_explains_78 rfl rfl ?_
                refine qi_iload_n (i := 2) (x := i) dX12_explains_79 rfl rfl ?_
                refine qi_icmp_ne (tgt := 92) dX12_explains_80 (by decide) (fun c5 => ?_) (fun c5 => ?_)
                · refine qi_iinc (i := 3) (x := nI (cntN P (100 * h + w))) (v := nI (cntN P (100 * h + w) + 1)) (L2 := [some (.ref 280), some (.int (nI k0)), some (.int i), some (.int (nI (cntN P (100 * h + w) + 1))), some (.int (nI h)), some (.int (nI w))]) dX12_explains_92 rfl (nI_1 (cntN P (100 * h + w))) (Nat.le_of_ble_eq_true rfl) rfl ?_
                  refine qi_iinc (i := 5) (x := nI w) (v := nI (w + 1)) (L2 := [some (.ref 280), some (.int (nI k0)), some (.int i), some (.int (nI (cntN P (100 * h + w) + 1))), some (.int (nI h)), some (.int (nI (w + 1)))]) dX12_explains_95 rfl (nI_1 w) (Nat.le_of_ble_eq_true rfl) rfl ?_
                  refine qi_goto (tgt := 41) dX12_explains_98 (by decide) ?_
                  refine A ((hN _).mpr (((hN _).mp hn).elim Or.inl (fun ⟨i0, h1, h2, h3⟩ => Or.inr ⟨i0, h1, h2, ?_⟩)))
                  rw [← Nat.add_assoc, nthO_n h3, hp, if_pos rfl, if_neg (fun z => c5 (by rw [h2, z]))]
                · obtain ⟨i0, h1, h2, h3⟩ := ((hN _).mp hn).resolve_left (fun z => nI_m1 (n := cntN P (100 * h + w)) (by omega) (c5.trans z))
                  have hcc : cntN P (100 * h + w) = i0 := (nI_eq (by omega) h1).mp (c5.trans h2)
                  have hfound : nthO P i0 800 = some (100 * h + w) := by
                    have q := nthO_mono (P := P) (i := i0) (c := 100 * h + w + 1) (x := 100 * h + w) (by rw [nthO_n h3, hp, if_pos rfl, if_pos hcc]) (800 - (100 * h + w + 1))
                    rwa [show 100 * h + w + 1 + (800 - (100 * h + w + 1)) = 800 by omega] at q
                  rw [if_neg (fun z => nI_m1 (n := i0) (by omega) (h2.symm.trans z)), h2, nI_clamp h1, hfound] at hres
                  refine qi_bipush (v := 100) dX12_explains_83 rfl ?_
                  refine qi_iload (i := 4) (x := nI h) dX12_explains_85 rfl ?_
                  refine qi_imul dX12_explains_87 ?_
                  refine qi_iload (i := 5) (x := nI w) dX12_explains_88 rfl ?_
                  refine qi_iadd dX12_explains_90 ?_
                  exact qi_retI rfl rfl dX12_explains_91 (⟨by rw [hres]; show nI 100 * nI h + nI w = nI (100 * h + w); rw [pk_mul, nI_add], hf34⟩)
          exact K41 (lastF τ k0) 0 M1 (by omega) hf hn
      refine qi_iconst (v := 0) dX12_explains_19 rfl ?_
      refine qi_istore_n (i := 3) (L2 := [some (.ref 280), some (.int (nI k0)), some (.int i), some (.int 0), none, none]) dX12_explains_20 rfl (Nat.le_of_ble_eq_true rfl) rfl ?_
      refine qi_iconst (v := 0) dX12_explains_21 rfl ?_
      refine qi_istore (i := 4) (L2 := [some (.ref 280), some (.int (nI k0)), some (.int i), some (.int 0), some (.int 0), none]) dX12_explains_22 (Nat.le_of_ble_eq_true rfl) rfl ?_
      exact K24 (π.1 1) 0 M none (by omega) qFr.rf ((hN _).mpr (hi.elim Or.inl (fun ⟨i0, h1, h2⟩ => Or.inr ⟨i0, h1, h2, rfl⟩)))
    · exact E (Or.inr (Int32.not_le.mp c2))
