/-! ThimbleSeaModel: bits, wins, league, power, without -/
theorem popN_le (s : Nat) : popN s ≤ 8 := by
  have := sumN_le (f := fun k => s / 2 ^ k % 2) (h := fun _ => 1) 8 (fun k _ => by have := Nat.mod_lt (s / 2 ^ k) (show 0 < 2 by omega); omega)
  exact this
set_option maxHeartbeats 1000000 in
theorem c_X12_bits (g : qG) {M : qM} {s : Nat} (hs : s < 2 ^ 31) : qI g 0 kX12_bits [.int (nI s)] M (fun r M' => r = nI (popN s) ∧ M' = M) := by
  have K : ∀ m j, j + m = 8 → qT g kX12_bits (qR 0 0 0) (qZI g (fun r M' => r = (nI (popN s)) ∧ M' = M)) 4 [some (.int (nI s)), some (.int (nI (sumN (fun k ↦ s / 2 ^ k % 2) j))), some (.int (nI j))] [] 333 M (0, 0) := by
    intro m
    induction m with
    | zero =>
      intro j e
      refine qi_iload_n (i := 2) (x := nI j) dX12_bits_4 rfl rfl ?_
      refine qi_bipush (v := 8) dX12_bits_5 rfl ?_
      refine qi_icmp_ge (tgt := 24) dX12_bits_7 (by decide) (fun _hc => ?_) (fun _h => absurd ((nI_leI (a := 8) (b := j) (by omega) (by omega)).mpr (by omega)) _h)
      refine qi_iload_n (i := 1) (x := nI (sumN (fun k ↦ s / 2 ^ k % 2) j)) dX12_bits_24 rfl rfl ?_
      exact qi_retI rfl rfl dX12_bits_25 (⟨by rw [show j = 8 by omega]; rfl, rfl⟩)
    | succ m ih =>
      intro j e
      refine qi_iload_n (i := 2) (x := nI j) dX12_bits_4 rfl rfl ?_
      refine qi_bipush (v := 8) dX12_bits_5 rfl ?_
      refine qi_icmp_ge (tgt := 24) dX12_bits_7 (by decide) (fun _h => absurd ((nI_leI (a := 8) (b := j) (by omega) (by omega)).mp _h) (by omega)) (fun _hc => ?_)
      refine qi_iload_n (i := 1) (x := nI (sumN (fun k ↦ s / 2 ^ k % 2) j)) dX12_bits_10 rfl rfl ?_
      refine qi_iload_n (i := 0) (x := nI s) dX12_bits_11 rfl rfl ?_
      refine qi_iload_n (i := 2) (x := nI j) dX12_bits_12 rfl rfl ?_
      refine qi_ishr dX12_bits_13 ?_
      refine qi_iconst (v := 1) dX12_bits_14 rfl ?_
      refine qi_iand dX12_bits_15 ?_
      refine qe_top (y := nI (s / 2 ^ j % 2)) (bitF_nat hs (by omega)) ?_
      refine qi_iadd dX12_bits_16 ?_
      refine qe_top (y := nI (sumN (fun k ↦ s / 2 ^ k % 2) (j + 1))) (nI_add _ _) ?_
      refine qi_istore_n (i := 1) (L2 := [some (.int (nI s)), some (.int (nI (sumN (fun k ↦ s / 2 ^ k % 2) (j + 1)))), some (.int (nI j))]) dX12_bits_17 rfl (Nat.le_of_ble_eq_true rfl) rfl ?_
      refine qi_iinc (i := 2) (x := nI j) (v := nI (j + 1)) (L2 := [some (.int (nI s)), some (.int (nI (sumN (fun k ↦ s / 2 ^ k % 2) (j + 1)))), some (.int (nI (j + 1)))]) dX12_bits_18 rfl (nI_1 j) (Nat.le_of_ble_eq_true rfl) rfl ?_
      refine qi_goto (tgt := 4) dX12_bits_21 (by decide) ?_
      exact ih (j + 1) (by omega)
  refine qI.of (j := 2) (pn_RX12) rfl ?_
  show qT g kX12_bits (qR 0 0 0) (qZI g (fun r M' => r = (nI (popN s)) ∧ M' = M)) 0 [some (.int (nI s)), none, none] [] 333 M (0, 0)
  refine qi_iconst (v := 0) dX12_bits_0 rfl ?_
  refine qi_istore_n (i := 1) (L2 := [some (.int (nI s)), some (.int 0), none]) dX12_bits_1 rfl (Nat.le_of_ble_eq_true rfl) rfl ?_
  refine qi_iconst (v := 0) dX12_bits_2 rfl ?_
  refine qi_istore_n (i := 2) (L2 := [some (.int (nI s)), some (.int 0), some (.int 0)]) dX12_bits_3 rfl (Nat.le_of_ble_eq_true rfl) rfl ?_
  exact K 8 0 (by omega)
set_option maxHeartbeats 1000000 in
theorem c_X12_wins (g : qG) {M : qM} (hM : qRf M) {ρ : Nat → Int32} (hR : qRow M ρ) (b : Int32) : qI g 1 kX12_wins [.ref 280, .int b] M (fun r M' => r = winsF ρ b ∧ M' = M) := by
  have hF : ∃ F : Nat → Int32, ∀ h, F h = if bitF b h = 0 then 0 else dropsF ρ h := ⟨_, fun _ => rfl⟩
  obtain ⟨F, hF⟩ := hF
  have eF : sumW ρ b = sumF F 8 := by unfold sumW; exact sumF_congr 8 (fun k _ => (hF k).symm)
  have b01 : ∀ h, bitF b h = 0 ∨ bitF b h = 1 := fun h => by
    unfold bitF
    obtain ⟨j, hj, e⟩ := pk_andE (b >>> (nI h &&& 31)) (m := 1) 1 rfl
    rw [e]
    rcases (show j = 0 ∨ j = 1 by omega) with z | z <;> rw [z]
    · exact Or.inl rfl
    · exact Or.inr rfl
  have K : ∀ m j, j + m = 8 → qT g kX12_wins (qR 1 0 0) (qZI g (fun r M' => r = (winsF ρ b) ∧ M' = M)) 4 [some (.ref 280), some (.int b), some (.int (sumF F j)), some (.int (nI j))] [] 333 M (0, 0) := by
    intro m
    induction m with
    | zero =>
      intro j e
      refine qi_iload_n (i := 3) (x := nI j) dX12_wins_4 rfl rfl ?_
      refine qi_bipush (v := 8) dX12_wins_5 rfl ?_
      refine qi_icmp_ge (tgt := 33) dX12_wins_7 (by decide) (fun _hc => ?_) (fun _h => absurd ((nI_leI (a := 8) (b := j) (by omega) (by omega)).mpr (by omega)) _h)
      refine qi_iconst (v := 2) dX12_wins_33 rfl ?_
      refine qi_iload_n (i := 2) (x := sumF F j) dX12_wins_34 rfl rfl ?_
      refine qi_imul dX12_wins_35 ?_
      refine qi_aload_n (i := 0) (x := 280) dX12_wins_36 rfl rfl ?_
      refine qi_callPVI (v := allF ρ) (K' := kX12_allDrops) (As := []) mlX12_352 okX12_allDrops dX12_wins_37 (c_X12_allDrops g hM hR) rfl (by decide) rfl (by decide) rfl rfl (Nat.le_of_ble_eq_true rfl) ⟨(Nat.le_of_ble_eq_true rfl), (Nat.le_of_ble_eq_true rfl)⟩ ⟨Nat.le_refl _, Nat.le_refl _⟩ ?_
      refine qi_icmp_le (tgt := 47) dX12_wins_40 (by decide) (fun c => ?_) (fun c => ?_)
      · refine qi_iconst (v := 0) dX12_wins_47 rfl ?_
        exact qi_retI rfl (by rfl) dX12_wins_48 (⟨by unfold winsF; rw [eF, ← show j = 8 by omega, if_pos c], rfl⟩)
      · refine qi_iconst (v := 1) dX12_wins_43 rfl ?_
        refine qi_goto (tgt := 48) dX12_wins_44 (by decide) ?_
        exact qi_retI rfl (by rfl) dX12_wins_48 (⟨by unfold winsF; rw [eF, ← show j = 8 by omega, if_neg c], rfl⟩)
    | succ m ih =>
      intro j e
      have A := ih (j + 1) (by omega)
      refine qi_iload_n (i := 3) (x := nI j) dX12_wins_4 rfl rfl ?_
      refine qi_bipush (v := 8) dX12_wins_5 rfl ?_
      refine qi_icmp_ge (tgt := 33) dX12_wins_7 (by decide) (fun _h => absurd ((nI_leI (a := 8) (b := j) (by omega) (by omega)).mp _h) (by omega)) (fun _hc => ?_)
      refine qi_iload_n (i := 1) (x := b) dX12_wins_10 rfl rfl ?_
      refine qi_iload_n (i := 3) (x := nI j) dX12_wins_11 rfl rfl ?_
      refine qi_ishr dX12_wins_12 ?_
      refine qi_iconst (v := 1) dX12_wins_13 rfl ?_
      refine qi_iand dX12_wins_14 ?_
      refine qe_top (y := bitF b j) rfl ?_
      refine qi_iconst (v := 1) dX12_wins_15 rfl ?_
      refine qi_icmp_ne (tgt := 27) dX12_wins_16 (by decide) (fun c => ?_) (fun c => ?_)
      · refine qi_iinc (i := 3) (x := nI j) (v := nI (j + 1)) (L2 := [some (.ref 280), some (.int b), some (.int (sumF F j)), some (.int (nI (j + 1)))]) dX12_wins_27 rfl (nI_1 j) (Nat.le_of_ble_eq_true rfl) rfl ?_
        refine qi_goto (tgt := 4) dX12_wins_30 (by decide) ?_
        rw [show sumF F (j + 1) = sumF F j from by show sumF F j + F j = _; rw [hF, if_pos ((b01 j).resolve_right c), Int32.add_zero]] at A
        exact A
      · refine qi_iload_n (i := 2) (x := sumF F j) dX12_wins_19 rfl rfl ?_
        refine qi_aload_n (i := 0) (x := 280) dX12_wins_20 rfl rfl ?_
        refine qi_iload_n (i := 3) (x := nI j) dX12_wins_21 rfl rfl ?_
        refine qi_callPVI (v := dropsF ρ j) (K' := kX12_dropsOf) (As := [.int (nI j)]) mlX12_377 okX12_dropsOf dX12_wins_22 (c_X12_dropsOf g hM hR (by omega)) rfl (by decide) rfl (by decide) rfl rfl (Nat.le_of_ble_eq_true rfl) ⟨(Nat.le_of_ble_eq_true rfl), (Nat.le_of_ble_eq_true rfl)⟩ ⟨Nat.le_refl _, Nat.le_refl _⟩ ?_
        refine qi_iadd dX12_wins_25 ?_
        refine qi_istore_n (i := 2) (L2 := [some (.ref 280), some (.int b), some (.int ((sumF F j) + (dropsF ρ j))), some (.int (nI j))]) dX12_wins_26 rfl (Nat.le_of_ble_eq_true rfl) rfl ?_
        refine qi_iinc (i := 3) (x := nI j) (v := nI (j + 1)) (L2 := [some (.ref 280), some (.int b), some (.int ((sumF F j) + (dropsF ρ j))), some (.int (nI (j + 1)))]) dX12_wins_27 rfl (nI_1 j) (Nat.le_of_ble_eq_true rfl) rfl ?_
        refine qi_goto (tgt := 4) dX12_wins_30 (by decide) ?_
        rw [show sumF F (j + 1) = sumF F j + dropsF ρ j from by show sumF F j + F j = _; rw [hF, if_neg (by rw [c]; decide)]] at A
        exact A
  refine qI.of (j := 2) (pn_RX12) rfl ?_
  show qT g kX12_wins (qR 1 0 0) (qZI g (fun r M' => r = (winsF ρ b) ∧ M' = M)) 0 [some (.ref 280), some (.int b), none, none] [] 333 M (0, 0)
  refine qi_iconst (v := 0) dX12_wins_0 rfl ?_
  refine qi_istore_n (i := 2) (L2 := [some (.ref 280), some (.int b), some (.int 0), none]) dX12_wins_1 rfl (Nat.le_of_ble_eq_true rfl) rfl ?_
  refine qi_iconst (v := 0) dX12_wins_2 rfl ?_
  refine qi_istore_n (i := 3) (L2 := [some (.ref 280), some (.int b), some (.int 0), some (.int 0)]) dX12_wins_3 rfl (Nat.le_of_ble_eq_true rfl) rfl ?_
  exact K 8 0 (by omega)
theorem lgF_lt {ρ : Nat → Int32} : ∀ s b, lgF ρ s = some b → b < s
  | 0, b, h => by cases h
  | s + 1, b, h => by
    have e : lgF ρ (s + 1) = (match lgF ρ s with
      | none => if winsF ρ (nI s) = 0 then none else some s
      | some b => if winsF ρ (nI s) = 0 then some b else if popN s < popN b then some s else some b) := rfl
    rw [e] at h
    cases hf : lgF ρ s with
    | none =>
      rw [hf] at h
      simp only at h
      split at h
      · cases h
      · have := Option.some.inj h; omega
    | some c =>
      rw [hf] at h
      have := lgF_lt s c hf
      simp only at h
      split at h
      · have := Option.some.inj h; omega
      · split at h
        · have := Option.some.inj h; omega
        · have := Option.some.inj h; omega
theorem lgF_n {ρ : Nat → Int32} {s : Nat} (h : lgF ρ s = none) : lgF ρ (s + 1) = if winsF ρ (nI s) = 0 then none else some s := by
  show (match lgF ρ s with
    | none => if winsF ρ (nI s) = 0 then none else some s
    | some b => if winsF ρ (nI s) = 0 then some b else if popN s < popN b then some s else some b) = _
  rw [h]
theorem lgF_c {ρ : Nat → Int32} {s b : Nat} (h : lgF ρ s = some b) : lgF ρ (s + 1) = if winsF ρ (nI s) = 0 then some b else if popN s < popN b then some s else some b := by
  show (match lgF ρ s with
    | none => if winsF ρ (nI s) = 0 then none else some s
    | some b => if winsF ρ (nI s) = 0 then some b else if popN s < popN b then some s else some b) = _
  rw [h]
theorem lgF_0 {ρ : Nat → Int32} {s : Nat} (h : winsF ρ (nI s) = 0) : lgF ρ (s + 1) = lgF ρ s := by
  cases hf : lgF ρ s with
  | none => rw [lgF_n hf, if_pos h]
  | some b => rw [lgF_c hf, if_pos h]
set_option maxHeartbeats 1000000 in
theorem c_X12_league (g : qG) {M : qM} (hM : qRf M) {L : Nat} {π : qPl} (hP : qPlanM M L π) (hok : okPl π) {ρ : Nat → Int32} (hN : qNow M ρ) : qI g 2 kX12_league [.ref 280] M (fun r' M' => r' = leagueQ π ρ ∧ qFr SM M M') := by
  obtain ⟨res, hres⟩ : ∃ res, res = leagueQ π ρ := ⟨_, rfl⟩
  rw [← hres]
  have hh8 := hok.2.1
  have hL := hP.1.1
  have hpw := pow8 hh8
  refine qI.of (j := 2) (pn_RX12) rfl ?_
  show qT g kX12_league (qR 2 0 0) (qZI g (fun r' M' => r' = res ∧ qFr SM M M')) 0 [some (.ref 280), none, none] [] 333 M (0, 0)
  refine qi_aload_n (i := 0) (x := 280) dX12_league_0 rfl rfl ?_
  refine qi_callVV (K' := kX12_copies) (As := []) mlX12_383 okX12_copies dX12_league_1 (c_X12_copies g hM hN) rfl (by decide) rfl (by decide) rfl rfl (Nat.le_of_ble_eq_true rfl) ⟨(Nat.le_of_ble_eq_true rfl), (Nat.le_of_ble_eq_true rfl)⟩ ⟨Nat.le_refl _, Nat.le_refl _⟩ (fun M2 ⟨hR2, e60, e61, _, hf2⟩ => ?_)
  have hM2 := hM.fr hf2
  have hP2 := hP.fr hf2
  have K : ∀ m s, s + m = 2 ^ π.1 1 → qT g kX12_league (qR 2 0 0) (qZI g (fun r' M' => r' = res ∧ qFr SM M M')) 9 [some (.ref 280), some (.int (o2n (lgF ρ s))), some (.int (nI s))] [] 333 M2 (0, 0) := by
    intro m
    induction m with
    | zero =>
      intro s e
      refine qi_iload_n (i := 2) (x := nI s) dX12_league_9 rfl rfl ?_
      refine qi_iconst (v := 1) dX12_league_10 rfl ?_
      refine qi_aload_n (i := 0) (x := 280) dX12_league_11 rfl rfl ?_
      refine qi_getR (x := 294) flX12_58 dX12_league_12 rfl (by decide) (hM2 280 27 294 rfl) ?_
      refine qi_aload_n (i := 0) (x := 280) dX12_league_15 rfl rfl ?_
      refine qi_getI (x := nI L) flX12_248 dX12_league_16 rfl (by decide) hP2.1.2 ?_
      refine qi_ialdN (x := nI (π.1 1)) (j := L) dX12_league_19 rfl (by decide) rfl (by omega) (by decide) hP2.2.1.2.1 ?_
      refine qi_ishl dX12_league_20 ?_
      refine qe_top (y := nI (2 ^ π.1 1)) (shl1 _ hh8) ?_
      refine qi_icmp_ge (tgt := 55) dX12_league_21 (by decide) (fun _hc => ?_) (fun _h => absurd ((nI_leI (a := 2 ^ π.1 1) (b := s) (by omega) (by omega)).mpr (by omega)) _h)
      refine qi_iload_n (i := 1) (x := o2n (lgF ρ s)) dX12_league_55 rfl rfl ?_
      exact qi_retI rfl rfl dX12_league_56 (⟨by rw [hres, show s = 2 ^ π.1 1 by omega]; rfl, hf2⟩)
    | succ m ih =>
      intro s e
      have A := ih (s + 1) (by omega)
      have yes : lgF ρ (s + 1) = some s → qT g kX12_league (qR 2 0 0) (qZI g (fun r' M' => r' = res ∧ qFr SM M M')) 47 [some (.ref 280), some (.int (o2n (lgF ρ s))), some (.int (nI s))] [] 333 M2 (0, 0) := by
        intro z
        rw [z] at A
        refine qi_iload_n (i := 2) (x := nI s) dX12_league_47 rfl rfl ?_
        refine qi_istore_n (i := 1) (L2 := [some (.ref 280), some (.int (nI s)), some (.int (nI s))]) dX12_league_48 rfl (Nat.le_of_ble_eq_true rfl) rfl ?_
        refine qi_iinc (i := 2) (x := nI s) (v := nI (s + 1)) (L2 := [some (.ref 280), some (.int (nI s)), some (.int (nI (s + 1)))]) dX12_league_49 rfl (nI_1 s) (Nat.le_of_ble_eq_true rfl) rfl ?_
        refine qi_goto (tgt := 9) dX12_league_52 (by decide) ?_
        exact A
      have no : lgF ρ (s + 1) = lgF ρ s → qT g kX12_league (qR 2 0 0) (qZI g (fun r' M' => r' = res ∧ qFr SM M M')) 49 [some (.ref 280), some (.int (o2n (lgF ρ s))), some (.int (nI s))] [] 333 M2 (0, 0) := by
        intro z
        rw [z] at A
        refine qi_iinc (i := 2) (x := nI s) (v := nI (s + 1)) (L2 := [some (.ref 280), some (.int (o2n (lgF ρ s))), some (.int (nI (s + 1)))]) dX12_league_49 rfl (nI_1 s) (Nat.le_of_ble_eq_true rfl) rfl ?_
        refine qi_goto (tgt := 9) dX12_league_52 (by decide) ?_
        exact A
      refine qi_iload_n (i := 2) (x := nI s) dX12_league_9 rfl rfl ?_
      refine qi_iconst (v := 1) dX12_league_10 rfl ?_
      refine qi_aload_n (i := 0) (x := 280) dX12_league_11 rfl rfl ?_
      refine qi_getR (x := 294) flX12_58 dX12_league_12 rfl (by decide) (hM2 280 27 294 rfl) ?_
      refine qi_aload_n (i := 0) (x := 280) dX12_league_15 rfl rfl ?_
      refine qi_getI (x := nI L) flX12_248 dX12_league_16 rfl (by decide) hP2.1.2 ?_
      refine qi_ialdN (x := nI (π.1 1)) (j := L) dX12_league_19 rfl (by decide) rfl (by omega) (by decide) hP2.2.1.2.1 ?_
      refine qi_ishl dX12_league_20 ?_
      refine qe_top (y := nI (2 ^ π.1 1)) (shl1 _ hh8) ?_
      refine qi_icmp_ge (tgt := 55) dX12_league_21 (by decide) (fun _h => absurd ((nI_leI (a := 2 ^ π.1 1) (b := s) (by omega) (by omega)).mp _h) (by omega)) (fun _hc => ?_)
      refine qi_aload_n (i := 0) (x := 280) dX12_league_24 rfl rfl ?_
      refine qi_iload_n (i := 2) (x := nI s) dX12_league_25 rfl rfl ?_
      refine qi_callPVI (v := winsF ρ (nI s)) (K' := kX12_wins) (As := [.int (nI s)]) mlX12_408 okX12_wins dX12_league_26 (c_X12_wins g hM2 hR2 (nI s)) rfl (by decide) rfl (by decide) rfl rfl (Nat.le_of_ble_eq_true rfl) ⟨(Nat.le_of_ble_eq_true rfl), (Nat.le_of_ble_eq_true rfl)⟩ ⟨Nat.le_refl _, Nat.le_refl _⟩ ?_
      refine qi_if_eq (tgt := 49) dX12_league_29 (by decide) (fun c1 => ?_) (fun c1 => ?_)
      · exact no (lgF_0 c1)
      · refine qi_iload_n (i := 1) (x := o2n (lgF ρ s)) dX12_league_32 rfl rfl ?_
        cases hf0 : lgF ρ s with
        | none =>
          rw [hf0] at yes
          refine qi_if_lt (tgt := 47) dX12_league_33 (by decide) (fun z => ?_) (fun z => False.elim (z (by decide)))
          exact yes (by rw [lgF_n hf0, if_neg c1])
        | some b =>
          have hbj := lgF_lt _ _ hf0
          rw [hf0] at yes no
          refine qi_if_lt (tgt := 47) dX12_league_33 (by decide) (fun z => False.elim (nI_pos (by omega) z)) (fun z => ?_)
          refine qi_iload_n (i := 2) (x := nI s) dX12_league_36 rfl rfl ?_
          refine qi_callPSI (v := nI (popN s)) (K' := kX12_bits) (As := [.int (nI s)]) mlX12_411 okX12_bits dX12_league_37 (c_X12_bits g (by omega)) rfl rfl (Nat.le_of_ble_eq_true rfl) ⟨(Nat.le_of_ble_eq_true rfl), (Nat.le_of_ble_eq_true rfl)⟩ ⟨Nat.le_refl _, Nat.le_refl _⟩ ?_
          refine qi_iload_n (i := 1) (x := o2n (some b)) dX12_league_40 rfl rfl ?_
          refine qi_callPSI (v := nI (popN b)) (K' := kX12_bits) (As := [.int (o2n (some b))]) mlX12_411 okX12_bits dX12_league_41 (c_X12_bits g (s := b) (by omega)) rfl rfl (Nat.le_of_ble_eq_true rfl) ⟨(Nat.le_of_ble_eq_true rfl), (Nat.le_of_ble_eq_true rfl)⟩ ⟨Nat.le_refl _, Nat.le_refl _⟩ ?_
          have r1 := popN_le s
          have r2 := popN_le b
          refine qi_icmp_ge (tgt := 49) dX12_league_44 (by decide) (fun _h => ?_) (fun _h => ?_)
          · have c3 : (popN b) ≤ (popN s) := (nI_leI (a := popN b) (b := popN s) (by omega) (by omega)).mp _h
            exact no (by rw [lgF_c hf0, if_neg c1, if_neg (by omega)])
          · have c3 : ¬ ((popN b) ≤ (popN s)) := fun z => _h ((nI_leI (a := popN b) (b := popN s) (by omega) (by omega)).mpr z)
            exact yes (by rw [lgF_c hf0, if_neg c1, if_pos (by omega)])
  refine qi_bipush (v := -2) dX12_league_4 rfl ?_
  refine qi_istore_n (i := 1) (L2 := [some (.ref 280), some (.int (-2)), none]) dX12_league_6 rfl (Nat.le_of_ble_eq_true rfl) rfl ?_
  refine qi_iconst (v := 0) dX12_league_7 rfl ?_
  refine qi_istore_n (i := 2) (L2 := [some (.ref 280), some (.int (-2)), some (.int 0)]) dX12_league_8 rfl (Nat.le_of_ble_eq_true rfl) rfl ?_
  exact K (2 ^ π.1 1) 0 (by omega)
set_option maxHeartbeats 1000000 in
theorem c_X12_power (g : qG) {M : qM} (hM : qRf M) {L : Nat} {π : qPl} (hP : qPlanM M L π) (hok : okPl π) {ρ : Nat → Int32} (hN : qNow M ρ) (h : Int32) : qI g 2 kX12_power [.ref 280, .int h] M (fun r' M' => r' = powerQ π ρ h ∧ qFr SM M M') := by
  obtain ⟨res, hres⟩ : ∃ res, res = powerQ π ρ h := ⟨_, rfl⟩
  rw [← hres]
  have hh8 := hok.2.1
  have hL := hP.1.1
  have hpw := pow8 hh8
  refine qI.of (j := 2) (pn_RX12) rfl ?_
  show qT g kX12_power (qR 2 0 0) (qZI g (fun r' M' => r' = res ∧ qFr SM M M')) 0 [some (.ref 280), some (.int h), none, none] [] 333 M (0, 0)
  refine qi_aload_n (i := 0) (x := 280) dX12_power_0 rfl rfl ?_
  refine qi_iload_n (i := 1) (x := h) dX12_power_1 rfl rfl ?_
  refine qi_callPVI (v := isF (π.1 1) h) (K' := kX12_isHeir) (As := [.int h]) mlX12_380 okX12_isHeir dX12_power_2 (c_X12_isHeir g hM hP hok h) rfl (by decide) rfl (by decide) rfl rfl (Nat.le_of_ble_eq_true rfl) ⟨(Nat.le_of_ble_eq_true rfl), (Nat.le_of_ble_eq_true rfl)⟩ ⟨Nat.le_refl _, Nat.le_refl _⟩ ?_
  refine qi_if_ne (tgt := 10) dX12_power_5 (by decide) (fun c1 => ?_) (fun c1 => ?_)
  · refine qi_aload_n (i := 0) (x := 280) dX12_power_10 rfl rfl ?_
    refine qi_callVV (K' := kX12_copies) (As := []) mlX12_383 okX12_copies dX12_power_11 (c_X12_copies g hM hN) rfl (by decide) rfl (by decide) rfl rfl (Nat.le_of_ble_eq_true rfl) ⟨(Nat.le_of_ble_eq_true rfl), (Nat.le_of_ble_eq_true rfl)⟩ ⟨Nat.le_refl _, Nat.le_refl _⟩ (fun M2 ⟨hR2, e60, e61, _, hf2⟩ => ?_)
    have hM2 := hM.fr hf2
    have hP2 := hP.fr hf2
    obtain ⟨k, hk, ek⟩ := isF_of (by omega) c1
    unfold powerQ at hres
    rw [if_neg c1, ek, nI_clamp (by omega)] at hres
    rw [ek]
    have hPw : ∃ P : Nat → Bool, ∀ s, P s = powP ρ k s := ⟨_, fun _ => rfl⟩
    obtain ⟨P, hPd⟩ := hPw
    rw [show powP ρ k = P from funext fun s => (hPd s).symm] at hres
    have K : ∀ m s, s + m = 2 ^ π.1 1 → qT g kX12_power (qR 2 0 0) (qZI g (fun r' M' => r' = res ∧ qFr SM M M')) 18 [some (.ref 280), some (.int (nI k)), some (.int (nI (cntN P s))), some (.int (nI s))] [] 333 M2 (0, 0) := by
      intro m
      induction m with
      | zero =>
        intro s e
        refine qi_iload_n (i := 3) (x := nI s) dX12_power_18 rfl rfl ?_
        refine qi_iconst (v := 1) dX12_power_19 rfl ?_
        refine qi_aload_n (i := 0) (x := 280) dX12_power_20 rfl rfl ?_
        refine qi_getR (x := 294) flX12_58 dX12_power_21 rfl (by decide) (hM2 280 27 294 rfl) ?_
        refine qi_aload_n (i := 0) (x := 280) dX12_power_24 rfl rfl ?_
        refine qi_getI (x := nI L) flX12_248 dX12_power_25 rfl (by decide) hP2.1.2 ?_
        refine qi_ialdN (x := nI (π.1 1)) (j := L) dX12_power_28 rfl (by decide) rfl (by omega) (by decide) hP2.2.1.2.1 ?_
        refine qi_ishl dX12_power_29 ?_
        refine qe_top (y := nI (2 ^ π.1 1)) (shl1 _ hh8) ?_
        refine qi_icmp_ge (tgt := 73) dX12_power_30 (by decide) (fun _hc => ?_) (fun _h => absurd ((nI_leI (a := 2 ^ π.1 1) (b := s) (by omega) (by omega)).mpr (by omega)) _h)
        refine qi_iload_n (i := 2) (x := nI (cntN P s)) dX12_power_73 rfl rfl ?_
        exact qi_retI rfl rfl dX12_power_74 (⟨by rw [hres, show s = 2 ^ π.1 1 by omega], hf2⟩)
      | succ m ih =>
        intro s e
        have A := ih (s + 1) (by omega)
        have e1 : cntN P (s + 1) = cntN P s + (if P s then 1 else 0) := rfl
        have no : P s = false → qT g kX12_power (qR 2 0 0) (qZI g (fun r' M' => r' = res ∧ qFr SM M M')) 67 [some (.ref 280), some (.int (nI k)), some (.int (nI (cntN P s))), some (.int (nI s))] [] 333 M2 (0, 0) := by
          intro z
          rw [e1, z] at A
          refine qi_iinc (i := 3) (x := nI s) (v := nI (s + 1)) (L2 := [some (.ref 280), some (.int (nI k)), some (.int (nI (cntN P s))), some (.int (nI (s + 1)))]) dX12_power_67 rfl (nI_1 s) (Nat.le_of_ble_eq_true rfl) rfl ?_
          refine qi_goto (tgt := 18) dX12_power_70 (by decide) ?_
          exact A
        refine qi_iload_n (i := 3) (x := nI s) dX12_power_18 rfl rfl ?_
        refine qi_iconst (v := 1) dX12_power_19 rfl ?_
        refine qi_aload_n (i := 0) (x := 280) dX12_power_20 rfl rfl ?_
        refine qi_getR (x := 294) flX12_58 dX12_power_21 rfl (by decide) (hM2 280 27 294 rfl) ?_
        refine qi_aload_n (i := 0) (x := 280) dX12_power_24 rfl rfl ?_
        refine qi_getI (x := nI L) flX12_248 dX12_power_25 rfl (by decide) hP2.1.2 ?_
        refine qi_ialdN (x := nI (π.1 1)) (j := L) dX12_power_28 rfl (by decide) rfl (by omega) (by decide) hP2.2.1.2.1 ?_
        refine qi_ishl dX12_power_29 ?_
        refine qe_top (y := nI (2 ^ π.1 1)) (shl1 _ hh8) ?_
        refine qi_icmp_ge (tgt := 73) dX12_power_30 (by decide) (fun _h => absurd ((nI_leI (a := 2 ^ π.1 1) (b := s) (by omega) (by omega)).mp _h) (by omega)) (fun _hc => ?_)
        refine qi_iload_n (i := 3) (x := nI s) dX12_power_33 rfl rfl ?_
        refine qi_iload_n (i := 1) (x := nI k) dX12_power_34 rfl rfl ?_
        refine qi_ishr dX12_power_35 ?_
        refine qi_iconst (v := 1) dX12_power_36 rfl ?_
        refine qi_iand dX12_power_37 ?_
        refine qe_top (y := bitF (nI s) k) rfl ?_
        refine qi_iconst (v := 1) dX12_power_38 rfl ?_
        refine qi_icmp_ne (tgt := 67) dX12_power_39 (by decide) (fun c2 => ?_) (fun c2 => ?_)
        · exact no (by rw [hPd]; exact decide_eq_false (fun z => z.1 ((bitF_01 (by omega) (by omega)).resolve_right c2)))
        · refine qi_aload_n (i := 0) (x := 280) dX12_power_42 rfl rfl ?_
          refine qi_iload_n (i := 3) (x := nI s) dX12_power_43 rfl rfl ?_
          refine qi_callPVI (v := winsF ρ (nI s)) (K' := kX12_wins) (As := [.int (nI s)]) mlX12_408 okX12_wins dX12_power_44 (c_X12_wins g hM2 hR2 (nI s)) rfl (by decide) rfl (by decide) rfl rfl (Nat.le_of_ble_eq_true rfl) ⟨(Nat.le_of_ble_eq_true rfl), (Nat.le_of_ble_eq_true rfl)⟩ ⟨Nat.le_refl _, Nat.le_refl _⟩ ?_
          refine qi_if_eq (tgt := 67) dX12_power_47 (by decide) (fun c3 => ?_) (fun c3 => ?_)
          · exact no (by rw [hPd]; exact decide_eq_false (fun z => z.2.1 c3))
          · refine qi_aload_n (i := 0) (x := 280) dX12_power_50 rfl rfl ?_
            refine qi_iload_n (i := 3) (x := nI s) dX12_power_51 rfl rfl ?_
            refine qi_iconst (v := 1) dX12_power_52 rfl ?_
            refine qi_iload_n (i := 1) (x := nI k) dX12_power_53 rfl rfl ?_
            refine qi_ishl dX12_power_54 ?_
            refine qi_iconst (v := -1) dX12_power_55 rfl ?_
            refine qi_ixor dX12_power_56 ?_
            refine qi_iand dX12_power_57 ?_
            refine qe_top (y := lessB s k) rfl ?_
            refine qi_callPVI (v := winsF ρ (lessB s k)) (K' := kX12_wins) (As := [.int (lessB s k)]) mlX12_408 okX12_wins dX12_power_58 (c_X12_wins g hM2 hR2 (lessB s k)) rfl (by decide) rfl (by decide) rfl rfl (Nat.le_of_ble_eq_true rfl) ⟨(Nat.le_of_ble_eq_true rfl), (Nat.le_of_ble_eq_true rfl)⟩ ⟨Nat.le_refl _, Nat.le_refl _⟩ ?_
            refine qi_if_ne (tgt := 67) dX12_power_61 (by decide) (fun c4 => ?_) (fun c4 => ?_)
            · exact no (by rw [hPd]; exact decide_eq_false (fun z => c4 z.2.2))
            · rw [e1, show P s = true by rw [hPd]; exact decide_eq_true ⟨by rw [c2]; decide, c3, c4⟩] at A
              refine qi_iinc (i := 2) (x := nI (cntN P s)) (v := nI (cntN P s + 1)) (L2 := [some (.ref 280), some (.int (nI k)), some (.int (nI (cntN P s + 1))), some (.int (nI s))]) dX12_power_64 rfl (nI_1 (cntN P s)) (Nat.le_of_ble_eq_true rfl) rfl ?_
              refine qi_iinc (i := 3) (x := nI s) (v := nI (s + 1)) (L2 := [some (.ref 280), some (.int (nI k)), some (.int (nI (cntN P s + 1))), some (.int (nI (s + 1)))]) dX12_power_67 rfl (nI_1 s) (Nat.le_of_ble_eq_true rfl) rfl ?_
              refine qi_goto (tgt := 18) dX12_power_70 (by decide) ?_
              exact A
    refine qi_iconst (v := 0) dX12_power_14 rfl ?_
    refine qi_istore_n (i := 2) (L2 := [some (.ref 280), some (.int (nI k)), some (.int 0), none]) dX12_power_15 rfl (Nat.le_of_ble_eq_true rfl) rfl ?_
    refine qi_iconst (v := 0) dX12_power_16 rfl ?_
    refine qi_istore_n (i := 3) (L2 := [some (.ref 280), some (.int (nI k)), some (.int 0), some (.int 0)]) dX12_power_17 rfl (Nat.le_of_ble_eq_true rfl) rfl ?_
    exact K (2 ^ π.1 1) 0 (by omega)
  · refine qi_iconst (v := -1) dX12_power_8 rfl ?_
    exact qi_retI rfl rfl dX12_power_9 (⟨by rw [hres]; unfold powerQ; rw [if_pos c1], qFr.rf⟩)
set_option maxHeartbeats 1000000 in
theorem c_X12_without (g : qG) {M : qM} (hM : qRf M) {L : Nat} {π : qPl} (hP : qPlanM M L π) (hok : okPl π) {ρ : Nat → Int32} (hN : qNow M ρ) (hO : okSea π ρ) (h n b : Int32) : qI g 5 kX12_without [.ref 280, .int h, .int n, .int b] M (fun r M' => r = withoutQ π ρ h n b ∧ qFr SM M M') := by
  obtain ⟨res, hres⟩ : ∃ res, res = withoutQ π ρ h n b := ⟨_, rfl⟩
  rw [← hres]
  have hh8 := hok.2.1
  have E : badW π h n b → qT g kX12_without (qR 5 0 0) (qZI g (fun r M' => r = res ∧ qFr SM M M')) 32 [some (.ref 280), some (.int h), some (.int n), some (.int b), none, none] [] 333 M (0, 0) := by
    intro hb
    refine qi_ldcw dX12_without_32 cnX12_414 ?_
    exact qi_retI rfl rfl dX12_without_35 (⟨by rw [hres]; unfold withoutQ; rw [if_pos hb], qFr.rf⟩)
  have K : ¬ isF (π.1 1) h = 0 → ¬ inF 1 200 n = 0 → ¬ badQ (π.1 1) b → qT g kX12_without (qR 5 0 0) (qZI g (fun r M' => r = res ∧ qFr SM M M')) 36 [some (.ref 280), some (.int h), some (.int n), some (.int b), none, none] [] 333 M (0, 0) := by
    intro a1 a2 a3
    obtain ⟨n0, hn1, hn2, en⟩ := inF_nat1 (n := 200) (by omega) a2
    have hb : b = -1 ∨ ∃ b0, b = nI b0 ∧ b0 < 8 := by
      by_cases c : b = -1
      · exact Or.inl c
      · obtain ⟨b0, hb0, eb⟩ := isF_of (by omega) (fun z => a3 ⟨c, z⟩)
        exact Or.inr ⟨b0, eb, by omega⟩
    obtain ⟨h0, hh0, eh⟩ := isF_of (by omega) a1
    unfold withoutQ at hres
    rw [if_neg (fun z => z.elim a1 (fun z => z.elim a2 a3)), en, nI_clamp (by omega)] at hres
    rw [en]
    have K90 : ∀ was, res = (if b = -1 then was - allF (weeksF π h ρ n0) else dropsF (weeksF π h ρ n0) b.toNatClampNeg - was) → ∀ m k M2, k + m = n0 → qFr SM M M2 → qRow M2 (weeksF π h ρ k) → M2.1 280 60 = h → M2.1 280 61 = -1 → qT g kX12_without (qR 5 0 0) (qZI g (fun r M' => r = res ∧ qFr SM M M')) 90 [some (.ref 280), some (.int h), some (.int (nI n0)), some (.int b), some (.int was), some (.int (nI k))] [] 333 M2 (0, 0) := by
      intro was hw m
      induction m with
      | zero =>
        intro k M2 e hf hR e60 e61
        have hM2 := hM.fr hf
        obtain rfl : k = n0 := by omega
        refine qi_iload (i := 5) (x := nI k) dX12_without_90 rfl ?_
        refine qi_iload_n (i := 2) (x := nI k) dX12_without_92 rfl rfl ?_
        refine qi_icmp_ge (tgt := 106) dX12_without_93 (by decide) (fun _hc => ?_) (fun _h => absurd ((nI_leI (a := k) (b := k) (by omega) (by omega)).mpr (by omega)) _h)
        refine qi_iload_n (i := 3) (x := b) dX12_without_106 rfl rfl ?_
        refine qi_iconst (v := -1) dX12_without_107 rfl ?_
        refine qi_icmp_ne (tgt := 121) dX12_without_108 (by decide) (fun c => ?_) (fun c => ?_)
        · rw [if_neg c] at hw
          obtain ⟨b0, eb, hb8⟩ := hb.resolve_left c
          rw [eb, nI_clamp (by omega)] at hw
          rw [eb]
          refine qi_aload_n (i := 0) (x := 280) dX12_without_121 rfl rfl ?_
          refine qi_iload_n (i := 3) (x := nI b0) dX12_without_122 rfl rfl ?_
          refine qi_callPVI (v := dropsF (weeksF π h ρ k) b0) (K' := kX12_dropsOf) (As := [.int (nI b0)]) mlX12_377 okX12_dropsOf dX12_without_123 (c_X12_dropsOf g hM2 hR hb8) rfl (by decide) rfl (by decide) rfl rfl (Nat.le_of_ble_eq_true rfl) ⟨(Nat.le_of_ble_eq_true rfl), (Nat.le_of_ble_eq_true rfl)⟩ ⟨Nat.le_refl _, Nat.le_refl _⟩ ?_
          refine qi_iload (i := 4) (x := was) dX12_without_126 rfl ?_
          refine qi_isub dX12_without_128 ?_
          exact qi_retI rfl rfl dX12_without_129 (⟨hw.symm, hf⟩)
        · rw [if_pos c] at hw
          refine qi_iload (i := 4) (x := was) dX12_without_111 rfl ?_
          refine qi_aload_n (i := 0) (x := 280) dX12_without_113 rfl rfl ?_
          refine qi_callPVI (v := allF (weeksF π h ρ k)) (K' := kX12_allDrops) (As := []) mlX12_352 okX12_allDrops dX12_without_114 (c_X12_allDrops g hM2 hR) rfl (by decide) rfl (by decide) rfl rfl (Nat.le_of_ble_eq_true rfl) ⟨(Nat.le_of_ble_eq_true rfl), (Nat.le_of_ble_eq_true rfl)⟩ ⟨Nat.le_refl _, Nat.le_refl _⟩ ?_
          refine qi_isub dX12_without_117 ?_
          refine qi_goto (tgt := 129) dX12_without_118 (by decide) ?_
          exact qi_retI rfl rfl dX12_without_129 (⟨hw.symm, hf⟩)
      | succ m ih =>
        intro k M2 e hf hR e60 e61
        have hM2 := hM.fr hf
        refine qi_iload (i := 5) (x := nI k) dX12_without_90 rfl ?_
        refine qi_iload_n (i := 2) (x := nI n0) dX12_without_92 rfl rfl ?_
        refine qi_icmp_ge (tgt := 106) dX12_without_93 (by decide) (fun _h => absurd ((nI_leI (a := n0) (b := k) (by omega) (by omega)).mp _h) (by omega)) (fun _hc => ?_)
        refine qi_aload_n (i := 0) (x := 280) dX12_without_96 rfl rfl ?_
        refine qi_callVV (K' := kX12_weekGoes) (As := []) mlX12_396 okX12_weekGoes dX12_without_97 (c_X12_weekGoes g hM2 hR (hP.fr hf) hok (hO.weeks hok k) e60 e61) rfl (by decide) rfl (by decide) rfl rfl (Nat.le_of_ble_eq_true rfl) ⟨(Nat.le_of_ble_eq_true rfl), (Nat.le_of_ble_eq_true rfl)⟩ ⟨Nat.le_refl _, Nat.le_refl _⟩ (fun M3 ⟨hR3, hf3⟩ => ?_)
        rw [awayF_m1] at hR3
        refine qi_iinc (i := 5) (x := nI k) (v := nI (k + 1)) (L2 := [some (.ref 280), some (.int h), some (.int (nI n0)), some (.int b), some (.int was), some (.int (nI (k + 1)))]) dX12_without_100 rfl (nI_1 k) (Nat.le_of_ble_eq_true rfl) rfl ?_
        refine qi_goto (tgt := 90) dX12_without_103 (by decide) ?_
        exact ih (k + 1) M3 (by omega) (hf.tr (hf3.mono (fun _ _ => SN_SM))) hR3 ((hf3.1 _ _ (by unfold SN; omega)).trans e60) ((hf3.1 _ _ (by unfold SN; omega)).trans e61)
    have K76 : ∀ was x5 M2, res = (if b = -1 then was - allF (weeksF π h ρ n0) else dropsF (weeksF π h ρ n0) b.toNatClampNeg - was) → qFr SM M M2 → qNow M2 ρ → qT g kX12_without (qR 5 0 0) (qZI g (fun r M' => r = res ∧ qFr SM M M')) 76 [some (.ref 280), some (.int h), some (.int (nI n0)), some (.int b), x5, none] [.int was] 333 M2 (0, 0) := by
      intro was x5 M2 hw hf hN2
      have hM2 := hM.fr hf
      refine qi_istore (i := 4) (L2 := [some (.ref 280), some (.int h), some (.int (nI n0)), some (.int b), some (.int was), none]) dX12_without_76 (Nat.le_of_ble_eq_true rfl) rfl ?_
      refine qi_aload_n (i := 0) (x := 280) dX12_without_78 rfl rfl ?_
      refine qi_callVV (K' := kX12_copies) (As := []) mlX12_383 okX12_copies dX12_without_79 (c_X12_copies g hM2 hN2) rfl (by decide) rfl (by decide) rfl rfl (Nat.le_of_ble_eq_true rfl) ⟨(Nat.le_of_ble_eq_true rfl), (Nat.le_of_ble_eq_true rfl)⟩ ⟨Nat.le_refl _, Nat.le_refl _⟩ (fun M3 ⟨hR3, e60, e61, _, hf3⟩ => ?_)
      have hM3 := hM2.fr hf3
      refine qi_aload_n (i := 0) (x := 280) dX12_without_82 rfl rfl ?_
      refine qi_iload_n (i := 1) (x := h) dX12_without_83 rfl rfl ?_
      refine qi_putI flX12_342 q_cls12 (ty12_60 _) dX12_without_84 rfl (by decide) ?_
      refine qi_iconst (v := 0) dX12_without_87 rfl ?_
      refine qi_istore (i := 5) (L2 := [some (.ref 280), some (.int h), some (.int (nI n0)), some (.int b), some (.int was), some (.int 0)]) dX12_without_88 (Nat.le_of_ble_eq_true rfl) rfl ?_
      exact K90 was hw n0 0 _ (by omega) ((hf.tr hf3).wI (by unfold SM; omega)) (fun k hk => by rw [wI_a (by omega)]; exact hR3 k hk) (wI_s _ _ _ _) (by rw [wI_k (by omega)]; exact e61)
    have K43 : ∀ m k M2, k + m = n0 → qFr SM M M2 → qRow M2 (weeksF π (-1) ρ k) → M2.1 280 60 = -1 → M2.1 280 61 = -1 → qT g kX12_without (qR 5 0 0) (qZI g (fun r M' => r = res ∧ qFr SM M M')) 43 [some (.ref 280), some (.int h), some (.int (nI n0)), some (.int b), some (.int (nI k)), none] [] 333 M2 (0, 0) := by
      intro m
      induction m with
      | zero =>
        intro k M2 e hf hR e60 e61
        have hM2 := hM.fr hf
        have hN2 : qNow M2 ρ := fun k hk => (hf.1 _ _ (by unfold SM; omega)).trans (hN k hk)
        obtain rfl : k = n0 := by omega
        refine qi_iload (i := 4) (x := nI k) dX12_without_43 rfl ?_
        refine qi_iload_n (i := 2) (x := nI k) dX12_without_45 rfl rfl ?_
        refine qi_icmp_ge (tgt := 59) dX12_without_46 (by decide) (fun _hc => ?_) (fun _h => absurd ((nI_leI (a := k) (b := k) (by omega) (by omega)).mpr (by omega)) _h)
        refine qi_iload_n (i := 3) (x := b) dX12_without_59 rfl rfl ?_
        refine qi_iconst (v := -1) dX12_without_60 rfl ?_
        refine qi_icmp_ne (tgt := 71) dX12_without_61 (by decide) (fun c => ?_) (fun c => ?_)
        · obtain ⟨b0, eb, hb8⟩ := hb.resolve_left c
          have hr := hres
          rw [if_neg c] at hr
          rw [eb, nI_clamp (by omega)] at hr
          have K2 := K76 (dropsF (weeksF π (-1) ρ k) b0) (some (.int (nI k))) M2 (by rw [if_neg c, hr, eb, nI_clamp (by omega)]) hf hN2
          rw [eb] at K2 ⊢
          refine qi_aload_n (i := 0) (x := 280) dX12_without_71 rfl rfl ?_
          refine qi_iload_n (i := 3) (x := nI b0) dX12_without_72 rfl rfl ?_
          refine qi_callPVI (v := dropsF (weeksF π (-1) ρ k) b0) (K' := kX12_dropsOf) (As := [.int (nI b0)]) mlX12_377 okX12_dropsOf dX12_without_73 (c_X12_dropsOf g hM2 hR hb8) rfl (by decide) rfl (by decide) rfl rfl (Nat.le_of_ble_eq_true rfl) ⟨(Nat.le_of_ble_eq_true rfl), (Nat.le_of_ble_eq_true rfl)⟩ ⟨Nat.le_refl _, Nat.le_refl _⟩ ?_
          exact K2
        · have hr := hres
          rw [if_pos c] at hr
          refine qi_aload_n (i := 0) (x := 280) dX12_without_64 rfl rfl ?_
          refine qi_callPVI (v := allF (weeksF π (-1) ρ k)) (K' := kX12_allDrops) (As := []) mlX12_352 okX12_allDrops dX12_without_65 (c_X12_allDrops g hM2 hR) rfl (by decide) rfl (by decide) rfl rfl (Nat.le_of_ble_eq_true rfl) ⟨(Nat.le_of_ble_eq_true rfl), (Nat.le_of_ble_eq_true rfl)⟩ ⟨Nat.le_refl _, Nat.le_refl _⟩ ?_
          refine qi_goto (tgt := 76) dX12_without_68 (by decide) ?_
          exact K76 _ _ M2 (by rw [if_pos c, hr]) hf hN2
      | succ m ih =>
        intro k M2 e hf hR e60 e61
        have hM2 := hM.fr hf
        refine qi_iload (i := 4) (x := nI k) dX12_without_43 rfl ?_
        refine qi_iload_n (i := 2) (x := nI n0) dX12_without_45 rfl rfl ?_
        refine qi_icmp_ge (tgt := 59) dX12_without_46 (by decide) (fun _h => absurd ((nI_leI (a := n0) (b := k) (by omega) (by omega)).mp _h) (by omega)) (fun _hc => ?_)
        refine qi_aload_n (i := 0) (x := 280) dX12_without_49 rfl rfl ?_
        refine qi_callVV (K' := kX12_weekGoes) (As := []) mlX12_396 okX12_weekGoes dX12_without_50 (c_X12_weekGoes g hM2 hR (hP.fr hf) hok (hO.weeks hok k) e60 e61) rfl (by decide) rfl (by decide) rfl rfl (Nat.le_of_ble_eq_true rfl) ⟨(Nat.le_of_ble_eq_true rfl), (Nat.le_of_ble_eq_true rfl)⟩ ⟨Nat.le_refl _, Nat.le_refl _⟩ (fun M3 ⟨hR3, hf3⟩ => ?_)
        rw [awayF_m1] at hR3
        refine qi_iinc (i := 4) (x := nI k) (v := nI (k + 1)) (L2 := [some (.ref 280), some (.int h), some (.int (nI n0)), some (.int b), some (.int (nI (k + 1))), none]) dX12_without_53 rfl (nI_1 k) (Nat.le_of_ble_eq_true rfl) rfl ?_
        refine qi_goto (tgt := 43) dX12_without_56 (by decide) ?_
        exact ih (k + 1) M3 (by omega) (hf.tr (hf3.mono (fun _ _ => SN_SM))) hR3 ((hf3.1 _ _ (by unfold SN; omega)).trans e60) ((hf3.1 _ _ (by unfold SN; omega)).trans e61)
    refine qi_aload_n (i := 0) (x := 280) dX12_without_36 rfl rfl ?_
    refine qi_callVV (K' := kX12_copies) (As := []) mlX12_383 okX12_copies dX12_without_37 (c_X12_copies g hM hN) rfl (by decide) rfl (by decide) rfl rfl (Nat.le_of_ble_eq_true rfl) ⟨(Nat.le_of_ble_eq_true rfl), (Nat.le_of_ble_eq_true rfl)⟩ ⟨Nat.le_refl _, Nat.le_refl _⟩ (fun M2 ⟨hR2, e60, e61, _, hf2⟩ => ?_)
    refine qi_iconst (v := 0) dX12_without_40 rfl ?_
    refine qi_istore (i := 4) (L2 := [some (.ref 280), some (.int h), some (.int (nI n0)), some (.int b), some (.int 0), none]) dX12_without_41 (Nat.le_of_ble_eq_true rfl) rfl ?_
    exact K43 n0 0 M2 (by omega) hf2 hR2 e60 e61
  refine qI.of (j := 2) (pn_RX12) rfl ?_
  show qT g kX12_without (qR 5 0 0) (qZI g (fun r M' => r = res ∧ qFr SM M M')) 0 [some (.ref 280), some (.int h), some (.int n), some (.int b), none, none] [] 333 M (0, 0)
  refine qi_aload_n (i := 0) (x := 280) dX12_without_0 rfl rfl ?_
  refine qi_iload_n (i := 1) (x := h) dX12_without_1 rfl rfl ?_
  refine qi_callPVI (v := isF (π.1 1) h) (K' := kX12_isHeir) (As := [.int h]) mlX12_380 okX12_isHeir dX12_without_2 (c_X12_isHeir g hM hP hok h) rfl (by decide) rfl (by decide) rfl rfl (Nat.le_of_ble_eq_true rfl) ⟨(Nat.le_of_ble_eq_true rfl), (Nat.le_of_ble_eq_true rfl)⟩ ⟨Nat.le_refl _, Nat.le_refl _⟩ ?_
  refine qi_if_eq (tgt := 32) dX12_without_5 (by decide) (fun c1 => ?_) (fun c1 => ?_)
  · exact E (Or.inl c1)
  · refine qi_iload_n (i := 2) (x := n) dX12_without_8 rfl rfl ?_
    refine qi_iconst (v := 1) dX12_without_9 rfl ?_
    refine qi_sipush (v := 200) dX12_without_10 rfl ?_
    refine qi_callPSI (v := inF 1 200 n) (K' := kX12_in) (As := [.int n, .int 1, .int 200]) mlX12_338 okX12_in dX12_without_13 (c_X12_in g _ _ _) rfl rfl (Nat.le_of_ble_eq_true rfl) ⟨(Nat.le_of_ble_eq_true rfl), (Nat.le_of_ble_eq_true rfl)⟩ ⟨Nat.le_refl _, Nat.le_refl _⟩ ?_
    refine qi_if_eq (tgt := 32) dX12_without_16 (by decide) (fun c2 => ?_) (fun c2 => ?_)
    · exact E (Or.inr (Or.inl c2))
    · refine qi_iload_n (i := 3) (x := b) dX12_without_19 rfl rfl ?_
      refine qi_iconst (v := -1) dX12_without_20 rfl ?_
      refine qi_icmp_eq (tgt := 36) dX12_without_21 (by decide) (fun c3 => ?_) (fun c3 => ?_)
      · exact K c1 c2 (fun z => z.1 c3)
      · refine qi_aload_n (i := 0) (x := 280) dX12_without_24 rfl rfl ?_
        refine qi_iload_n (i := 3) (x := b) dX12_without_25 rfl rfl ?_
        refine qi_callPVI (v := isF (π.1 1) b) (K' := kX12_isHeir) (As := [.int b]) mlX12_380 okX12_isHeir dX12_without_26 (c_X12_isHeir g hM hP hok b) rfl (by decide) rfl (by decide) rfl rfl (Nat.le_of_ble_eq_true rfl) ⟨(Nat.le_of_ble_eq_true rfl), (Nat.le_of_ble_eq_true rfl)⟩ ⟨Nat.le_refl _, Nat.le_refl _⟩ ?_
        refine qi_if_ne (tgt := 36) dX12_without_29 (by decide) (fun c4 => ?_) (fun c4 => ?_)
        · exact K c1 c2 (fun z => c4 z.2)
        · exact E (Or.inr (Or.inr ⟨c3, c4⟩))
