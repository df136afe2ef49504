/-! ThimbleSeaModel: isHeir, isWater, salt, saltNow, keeps, undo, hold, restore -/
set_option maxHeartbeats 1000000 in
theorem c_X12_isHeir (g : qG) {M : qM} (hM : qRf M) {L : Nat} {π : qPl} (hP : qPlanM M L π) (hok : okPl π) (h : Int32) : qI g 1 kX12_isHeir [.ref 280, .int h] M (fun r M' => r = isF (π.1 1) h ∧ M' = M) := by
  have hL := hP.1.1
  have hh8 := hok.2.1
  refine qI.of (j := 0) (pn_RX12) rfl ?_
  show qT g kX12_isHeir (qR 1 0 0) (qZI g (fun r M' => r = (isF (π.1 1) h) ∧ M' = M)) 0 [some (.ref 280), some (.int h)] [] 333 M (0, 0)
  refine qi_iload_n (i := 1) (x := h) dX12_isHeir_0 rfl rfl ?_
  refine qi_iconst (v := 0) dX12_isHeir_1 rfl ?_
  refine qi_aload_n (i := 0) (x := 280) dX12_isHeir_2 rfl rfl ?_
  refine qi_getR (x := 294) flX12_58 dX12_isHeir_3 rfl (by decide) (hM 280 27 294 rfl) ?_
  refine qi_aload_n (i := 0) (x := 280) dX12_isHeir_6 rfl rfl ?_
  refine qi_getI (x := M.1 280 18) flX12_248 dX12_isHeir_7 rfl (by decide) rfl ?_
  refine qe_top (y := nI L) hP.1.2 ?_
  refine qi_ialdN (x := M.1 294 L) (j := L) dX12_isHeir_10 rfl (by decide) rfl (by omega) (by decide) rfl ?_
  refine qe_top (y := nI (π.1 1)) hP.2.1.2.1 ?_
  refine qi_iconst (v := 1) dX12_isHeir_11 rfl ?_
  refine qi_isub dX12_isHeir_12 ?_
  refine qi_callPSI (v := (if (0 : Int32) ≤ h ∧ h ≤ nI (π.1 1) - 1 then (1 : Int32) else 0)) (K' := kX12_in) (As := [.int h, .int 0, .int ((nI (π.1 1)) - 1)]) mlX12_338 okX12_in dX12_isHeir_13 (c_X12_in g _ _ _) rfl rfl (Nat.le_of_ble_eq_true rfl) ⟨(Nat.le_of_ble_eq_true rfl), (Nat.le_of_ble_eq_true rfl)⟩ ⟨Nat.le_refl _, Nat.le_refl _⟩ ?_
  refine qe_top (y := isF (π.1 1) h) (isF_in (by omega)) ?_
  exact qi_retI rfl (nb_of (isF_01 _ _)) dX12_isHeir_16 (⟨rfl, rfl⟩)
set_option maxHeartbeats 1000000 in
theorem c_X12_isWater (g : qG) {M : qM} (hM : qRf M) {L : Nat} {π : qPl} (hP : qPlanM M L π) (hok : okPl π) (w : Int32) : qI g 1 kX12_isWater [.ref 280, .int w] M (fun r M' => r = isF (π.1 0) w ∧ M' = M) := by
  have hL := hP.1.1
  have hh8 := hok.1
  refine qI.of (j := 0) (pn_RX12) rfl ?_
  show qT g kX12_isWater (qR 1 0 0) (qZI g (fun r M' => r = (isF (π.1 0) w) ∧ M' = M)) 0 [some (.ref 280), some (.int w)] [] 333 M (0, 0)
  refine qi_iload_n (i := 1) (x := w) dX12_isWater_0 rfl rfl ?_
  refine qi_iconst (v := 0) dX12_isWater_1 rfl ?_
  refine qi_aload_n (i := 0) (x := 280) dX12_isWater_2 rfl rfl ?_
  refine qi_getR (x := 291) flX12_49 dX12_isWater_3 rfl (by decide) (hM 280 24 291 rfl) ?_
  refine qi_aload_n (i := 0) (x := 280) dX12_isWater_6 rfl rfl ?_
  refine qi_getI (x := M.1 280 18) flX12_248 dX12_isWater_7 rfl (by decide) rfl ?_
  refine qe_top (y := nI L) hP.1.2 ?_
  refine qi_ialdN (x := M.1 291 L) (j := L) dX12_isWater_10 rfl (by decide) rfl (by omega) (by decide) rfl ?_
  refine qe_top (y := nI (π.1 0)) hP.2.1.1 ?_
  refine qi_iconst (v := 1) dX12_isWater_11 rfl ?_
  refine qi_isub dX12_isWater_12 ?_
  refine qi_callPSI (v := (if (0 : Int32) ≤ w ∧ w ≤ nI (π.1 0) - 1 then (1 : Int32) else 0)) (K' := kX12_in) (As := [.int w, .int 0, .int ((nI (π.1 0)) - 1)]) mlX12_338 okX12_in dX12_isWater_13 (c_X12_in g _ _ _) rfl rfl (Nat.le_of_ble_eq_true rfl) ⟨(Nat.le_of_ble_eq_true rfl), (Nat.le_of_ble_eq_true rfl)⟩ ⟨Nat.le_refl _, Nat.le_refl _⟩ ?_
  refine qe_top (y := isF (π.1 0) w) (isF_in (by omega)) ?_
  exact qi_retI rfl (nb_of (isF_01 _ _)) dX12_isWater_16 (⟨rfl, rfl⟩)
theorem c_X12_salt (g : qG) {M : qM} (hM : qRf M) {ρ : Nat → Int32} (hN : qNow M ρ) : qI g 0 kX12_salt [.ref 280] M (fun r M' => r = ρ 65 ∧ M' = M) := by
  refine qI.of (j := 0) (pn_RX12) rfl ?_
  show qT g kX12_salt (qR 0 0 0) (qZI g (fun r M' => r = (ρ 65) ∧ M' = M)) 0 [some (.ref 280)] [] 333 M (0, 0)
  refine qi_aload_n (i := 0) (x := 280) dX12_salt_0 rfl rfl ?_
  refine qi_getR (x := 321) flX12_140 dX12_salt_1 rfl (by decide) (hM 280 58 321 rfl) ?_
  refine qi_bipush (v := 65) dX12_salt_4 rfl ?_
  refine qi_ialdN (x := M.1 321 65) (j := 65) dX12_salt_6 rfl (by decide) rfl (by omega) (by decide) rfl ?_
  refine qe_top (y := ρ 65) (hN 65 (by omega)) ?_
  exact qi_retI rfl rfl dX12_salt_7 (⟨rfl, rfl⟩)
set_option maxHeartbeats 1000000 in
theorem c_X12_saltNow (g : qG) {M : qM} (hM : qRf M) {ρ : Nat → Int32} (hR : qRow M ρ) {π : qPl} (hok : okPl π) (hO : okSea π ρ) : qJ g 1 kX12_saltNow [.ref 280] M (fun r M' => r = saltF ρ ∧ M' = M) := by
  obtain ⟨A, eA, hA, -⟩ := hO.all hok
  have hb := hok.2.2.2.2.1
  refine qJ.of (j := 1) (pn_RX12) rfl ?_
  show qT g kX12_saltNow (qR 1 0 0) (qZJ g (fun r M' => r = (saltF ρ) ∧ M' = M)) 0 [some (.ref 280), none] [] 333 M (0, 0)
  refine qi_aload_n (i := 0) (x := 280) dX12_saltNow_0 rfl rfl ?_
  refine qi_callPVI (v := allF ρ) (K' := kX12_allDrops) (As := []) mlX12_352 okX12_allDrops dX12_saltNow_1 (c_X12_allDrops g hM hR) rfl (by decide) rfl (by decide) rfl rfl (Nat.le_of_ble_eq_true rfl) ⟨(Nat.le_of_ble_eq_true rfl), (Nat.le_of_ble_eq_true rfl)⟩ ⟨Nat.le_refl _, Nat.le_refl _⟩ ?_
  refine qi_istore_n (i := 1) (L2 := [some (.ref 280), some (.int (allF ρ))]) dX12_saltNow_4 rfl (Nat.le_of_ble_eq_true rfl) rfl ?_
  refine qi_iload_n (i := 1) (x := allF ρ) dX12_saltNow_5 rfl rfl ?_
  refine qi_if_ne (tgt := 13) dX12_saltNow_6 (by decide) (fun c => ?_) (fun c => ?_)
  · have hne : ¬ allF ρ ≤ 0 := by
      rw [eA] at c ⊢
      have : ¬ A = 0 := fun z => c (by rw [z]; rfl)
      exact nI_nle (by omega) (by omega)
    refine qi_aload_n (i := 0) (x := 280) dX12_saltNow_13 rfl rfl ?_
    refine qi_getR (x := 322) flX12_143 dX12_saltNow_14 rfl (by decide) (hM 280 59 322 rfl) ?_
    refine qi_bipush (v := 65) dX12_saltNow_17 rfl ?_
    refine qi_ialdN (x := M.1 322 65) (j := 65) dX12_saltNow_19 rfl (by decide) rfl (by omega) (by decide) rfl ?_
    refine qe_top (y := ρ 65) (hR 65 (by omega)) ?_
    refine qi_i2l dX12_saltNow_20 ?_
    refine qi_ldc2 dX12_saltNow_21 cnX12_402 ?_
    refine qi_lmul dX12_saltNow_24 ?_
    refine qi_iload_n (i := 1) (x := allF ρ) dX12_saltNow_25 rfl rfl ?_
    refine qi_i2l dX12_saltNow_26 ?_
    refine qi_ldiv dX12_saltNow_27 (toInt64_ne hne) ?_
    exact qi_retJ rfl dX12_saltNow_28 (⟨by unfold saltF; rw [if_neg hne], rfl⟩)
  · refine qi_lconst (v := 0) dX12_saltNow_9 rfl ?_
    refine qi_goto (tgt := 28) dX12_saltNow_10 (by decide) ?_
    exact qi_retJ rfl dX12_saltNow_28 (⟨by unfold saltF; rw [if_pos (by rw [c]; decide)], rfl⟩)
def SU : Nat → Nat → Prop := fun b j => b = 321 ∨ b = 325 ∨ (b = 280 ∧ j = 64)
set_option maxHeartbeats 1000000 in
theorem c_X12_keeps (g : qG) {M : qM} (hM : qRf M) {ρ ρ' : Nat → Int32} {u : Nat} {H : Nat → Nat → Int32} (hN : qNow M ρ) (hR : qRow M ρ') (hH : qHist M u H) : qV g 0 kX12_keeps [.ref 280] M (fun M' => qNow M' ρ' ∧ qHist M' (min 30 (u + 1)) (pushF ρ H) ∧ qFr SU M M') := by
  obtain ⟨h1, h2, h3⟩ := hH
  -- now is row
  have K3 : ∀ m j M1, j + m = 80 → qFr SU M M1 → (∀ k, k < j → M1.1 321 k = M.1 322 k) → qHist M1 (min 30 (u + 1)) (pushF ρ H) → qT g kX12_keeps (qR 0 0 0) (qZV g (fun M' => qNow M' ρ' ∧ qHist M' (min 30 (u + 1)) (pushF ρ H) ∧ qFr SU M M')) 95 [some (.ref 280), some (.int (nI j))] [] 333 M1 (0, 0) := by
    intro m
    induction m with
    | zero =>
      intro j M1 e hf h hH1
      have hM1 := hM.fr hf
      refine qi_iload_n (i := 1) (x := nI j) dX12_keeps_95 rfl rfl ?_
      refine qi_bipush (v := 80) dX12_keeps_96 rfl ?_
      refine qi_icmp_ge (tgt := 119) dX12_keeps_98 (by decide) (fun _hc => ?_) (fun _h => absurd ((nI_leI (a := 80) (b := j) (by omega) (by omega)).mpr (by omega)) _h)
      exact qi_retV rfl dX12_keeps_119 (⟨fun k hk => (h k (by omega)).trans (hR k hk), hH1, hf⟩)
    | succ m ih =>
      intro j M1 e hf h hH1
      have hM1 := hM.fr hf
      refine qi_iload_n (i := 1) (x := nI j) dX12_keeps_95 rfl rfl ?_
      refine qi_bipush (v := 80) dX12_keeps_96 rfl ?_
      refine qi_icmp_ge (tgt := 119) dX12_keeps_98 (by decide) (fun _h => absurd ((nI_leI (a := 80) (b := j) (by omega) (by omega)).mp _h) (by omega)) (fun _hc => ?_)
      refine qi_aload_n (i := 0) (x := 280) dX12_keeps_101 rfl rfl ?_
      refine qi_getR (x := 321) flX12_140 dX12_keeps_102 rfl (by decide) (hM1 280 58 321 rfl) ?_
      refine qi_iload_n (i := 1) (x := nI j) dX12_keeps_105 rfl rfl ?_
      refine qi_aload_n (i := 0) (x := 280) dX12_keeps_106 rfl rfl ?_
      refine qi_getR (x := 322) flX12_143 dX12_keeps_107 rfl (by decide) (hM1 280 59 322 rfl) ?_
      refine qi_iload_n (i := 1) (x := nI j) dX12_keeps_110 rfl rfl ?_
      refine qi_ialdN (x := M1.1 322 j) (j := j) dX12_keeps_111 rfl (by decide) rfl (by omega) (by decide) rfl ?_
      refine qi_iastN (j := j) dX12_keeps_112 rfl (by decide) rfl (by omega) (by decide) ?_
      refine qi_iinc (i := 1) (x := nI j) (v := nI (j + 1)) (L2 := [some (.ref 280), some (.int (nI (j + 1)))]) dX12_keeps_113 rfl (nI_1 j) (Nat.le_of_ble_eq_true rfl) rfl ?_
      refine qi_goto (tgt := 95) dX12_keeps_116 (by decide) ?_
      refine ih (j + 1) _ (by omega) (hf.wI (by unfold SU; omega)) (fun k hk => ?_) ⟨hH1.1, by rw [wI_a (by omega)]; exact hH1.2.1, fun i k hi hk => by rw [wI_a (by omega)]; exact hH1.2.2 i k hi hk⟩
      have e1 : M1.1 322 j = M.1 322 j := hf.1 _ _ (by unfold SU; omega)
      by_cases hkj : k = j
      · rw [hkj, wI_s, e1]
      · rw [wI_k hkj]
        exact h k (by omega)
  -- history's last is now
  have K2 : ∀ v, v < 30 → v + 1 = min 30 (u + 1) → ∀ m j M1, j + m = 80 → qFr SU M M1 → M1.1 280 64 = nI v → (∀ k, k < 80 → M1.1 321 k = M.1 321 k) → (∀ i k, 1 ≤ i → i < v + 1 → k < 66 → M1.1 325 (80 * (v - i) + k) = H (i - 1) k) → (∀ k, k < j → M1.1 325 (80 * v + k) = M.1 321 k) → qT g kX12_keeps (qR 0 0 0) (qZV g (fun M' => qNow M' ρ' ∧ qHist M' (min 30 (u + 1)) (pushF ρ H) ∧ qFr SU M M')) 51 [some (.ref 280), some (.int (nI j))] [] 333 M1 (0, 0) := by
    intro v hv hvu m
    induction m with
    | zero =>
      intro j M1 e hf e1 e2 e3 e4
      have hM1 := hM.fr hf
      refine qi_iload_n (i := 1) (x := nI j) dX12_keeps_51 rfl rfl ?_
      refine qi_bipush (v := 80) dX12_keeps_52 rfl ?_
      refine qi_icmp_ge (tgt := 83) dX12_keeps_54 (by decide) (fun _hc => ?_) (fun _h => absurd ((nI_leI (a := 80) (b := j) (by omega) (by omega)).mpr (by omega)) _h)
      refine qi_aload_n (i := 0) (x := 280) dX12_keeps_83 rfl rfl ?_
      refine qi_dup dX12_keeps_84 ?_
      refine qi_getI (x := M1.1 280 64) flX12_269 dX12_keeps_85 rfl (by decide) rfl ?_
      refine qi_iconst (v := 1) dX12_keeps_88 rfl ?_
      refine qi_iadd dX12_keeps_89 ?_
      refine qe_top (y := nI (v + 1)) (by rw [e1, nI_1]) ?_
      refine qi_putI flX12_269 q_cls12 (ty12_64 _) dX12_keeps_90 rfl (by decide) ?_
      refine qi_iconst (v := 0) dX12_keeps_93 rfl ?_
      refine qi_istore_n (i := 1) (L2 := [some (.ref 280), some (.int 0)]) dX12_keeps_94 rfl (Nat.le_of_ble_eq_true rfl) rfl ?_
      refine K3 80 0 _ (by omega) (hf.wI (by unfold SU; omega)) (fun k hk => absurd hk (Nat.not_lt_zero _)) ⟨Nat.min_le_left _ _, by rw [wI_s, hvu], fun i k hi hk => ?_⟩
      rw [wI_a (by omega)]
      unfold pushF
      by_cases hi0 : i = 0
      · rw [if_pos hi0, hi0, show min 30 (u + 1) - 1 - 0 = v by omega, e4 k (by omega)]
        exact hN k hk
      · rw [if_neg hi0, show min 30 (u + 1) - 1 - i = v - i by omega]
        exact e3 i k (by omega) (by omega) hk
    | succ m ih =>
      intro j M1 e hf e1 e2 e3 e4
      have hM1 := hM.fr hf
      refine qi_iload_n (i := 1) (x := nI j) dX12_keeps_51 rfl rfl ?_
      refine qi_bipush (v := 80) dX12_keeps_52 rfl ?_
      refine qi_icmp_ge (tgt := 83) dX12_keeps_54 (by decide) (fun _h => absurd ((nI_leI (a := 80) (b := j) (by omega) (by omega)).mp _h) (by omega)) (fun _hc => ?_)
      refine qi_aload_n (i := 0) (x := 280) dX12_keeps_57 rfl rfl ?_
      refine qi_getR (x := 325) flX12_152 dX12_keeps_58 rfl (by decide) (hM1 280 65 325 rfl) ?_
      refine qi_bipush (v := 80) dX12_keeps_61 rfl ?_
      refine qi_aload_n (i := 0) (x := 280) dX12_keeps_63 rfl rfl ?_
      refine qi_getI (x := M1.1 280 64) flX12_269 dX12_keeps_64 rfl (by decide) rfl ?_
      refine qe_top (y := nI v) e1 ?_
      refine qi_imul dX12_keeps_67 ?_
      refine qi_iload_n (i := 1) (x := nI j) dX12_keeps_68 rfl rfl ?_
      refine qi_iadd dX12_keeps_69 ?_
      refine qe_top (y := nI (80 * v + j)) (by rw [show (80 : Int32) = nI 80 from rfl, pk_mul, nI_add]) ?_
      refine qi_aload_n (i := 0) (x := 280) dX12_keeps_70 rfl rfl ?_
      refine qi_getR (x := 321) flX12_140 dX12_keeps_71 rfl (by decide) (hM1 280 58 321 rfl) ?_
      refine qi_iload_n (i := 1) (x := nI j) dX12_keeps_74 rfl rfl ?_
      refine qi_ialdN (x := M1.1 321 j) (j := j) dX12_keeps_75 rfl (by decide) rfl (by omega) (by decide) rfl ?_
      refine qi_iastN (j := 80 * v + j) dX12_keeps_76 rfl (by decide) rfl (by omega) (by decide) ?_
      refine qi_iinc (i := 1) (x := nI j) (v := nI (j + 1)) (L2 := [some (.ref 280), some (.int (nI (j + 1)))]) dX12_keeps_77 rfl (nI_1 j) (Nat.le_of_ble_eq_true rfl) rfl ?_
      refine qi_goto (tgt := 51) dX12_keeps_80 (by decide) ?_
      refine ih (j + 1) _ (by omega) (hf.wI (by unfold SU; omega)) (by rw [wI_a (by omega)]; exact e1) (fun k hk => by rw [wI_a (by omega)]; exact e2 k hk) (fun i k hi hi2 hk => ?_) (fun k hk => ?_)
      · rw [wI_k (by omega)]
        exact e3 i k hi hi2 hk
      · by_cases hkj : k = j
        · rw [hkj, wI_s, e2 j (by omega)]
        · rw [wI_k (by omega)]
          exact e4 k (by omega)
  -- the oldest goes
  have K1 : u = 30 → ∀ m j M1, j + m = 2320 → qFr SU M M1 → M1.1 280 64 = nI 30 → (∀ k, k < 80 → M1.1 321 k = M.1 321 k) → (∀ k, k < j → M1.1 325 k = M.1 325 (k + 80)) → (∀ k, j ≤ k → M1.1 325 k = M.1 325 k) → qT g kX12_keeps (qR 0 0 0) (qZV g (fun M' => qNow M' ρ' ∧ qHist M' (min 30 (u + 1)) (pushF ρ H) ∧ qFr SU M M')) 11 [some (.ref 280), some (.int (nI j))] [] 333 M1 (0, 0) := by
    intro hu m
    induction m with
    | zero =>
      intro j M1 e hf e1 e2 e3 e4
      have hM1 := hM.fr hf
      refine qi_iload_n (i := 1) (x := nI j) dX12_keeps_11 rfl rfl ?_
      refine qi_sipush (v := 2320) dX12_keeps_12 rfl ?_
      refine qi_icmp_ge (tgt := 39) dX12_keeps_15 (by decide) (fun _hc => ?_) (fun _h => absurd ((nI_leI (a := 2320) (b := j) (by omega) (by omega)).mpr (by omega)) _h)
      refine qi_aload_n (i := 0) (x := 280) dX12_keeps_39 rfl rfl ?_
      refine qi_dup dX12_keeps_40 ?_
      refine qi_getI (x := M1.1 280 64) flX12_269 dX12_keeps_41 rfl (by decide) rfl ?_
      refine qi_iconst (v := 1) dX12_keeps_44 rfl ?_
      refine qi_isub dX12_keeps_45 ?_
      refine qe_top (y := nI 29) (by rw [e1]; rfl) ?_
      refine qi_putI flX12_269 q_cls12 (ty12_64 _) dX12_keeps_46 rfl (by decide) ?_
      refine qi_iconst (v := 0) dX12_keeps_49 rfl ?_
      refine qi_istore_n (i := 1) (L2 := [some (.ref 280), some (.int 0)]) dX12_keeps_50 rfl (Nat.le_of_ble_eq_true rfl) rfl ?_
      refine K2 29 (by omega) (by omega) 80 0 _ (by omega) (hf.wI (by unfold SU; omega)) (wI_s _ _ _ _) (fun k hk => by rw [wI_a (by omega)]; exact e2 k hk) (fun i k hi hi2 hk => ?_) (fun k hk => absurd hk (Nat.not_lt_zero _))
      rw [wI_a (by omega), e3 _ (by omega), ← h3 (i - 1) k (by omega) hk]
      exact congrArg (M.1 325) (by omega)
    | succ m ih =>
      intro j M1 e hf e1 e2 e3 e4
      have hM1 := hM.fr hf
      refine qi_iload_n (i := 1) (x := nI j) dX12_keeps_11 rfl rfl ?_
      refine qi_sipush (v := 2320) dX12_keeps_12 rfl ?_
      refine qi_icmp_ge (tgt := 39) dX12_keeps_15 (by decide) (fun _h => absurd ((nI_leI (a := 2320) (b := j) (by omega) (by omega)).mp _h) (by omega)) (fun _hc => ?_)
      refine qi_aload_n (i := 0) (x := 280) dX12_keeps_18 rfl rfl ?_
      refine qi_getR (x := 325) flX12_152 dX12_keeps_19 rfl (by decide) (hM1 280 65 325 rfl) ?_
      refine qi_iload_n (i := 1) (x := nI j) dX12_keeps_22 rfl rfl ?_
      refine qi_aload_n (i := 0) (x := 280) dX12_keeps_23 rfl rfl ?_
      refine qi_getR (x := 325) flX12_152 dX12_keeps_24 rfl (by decide) (hM1 280 65 325 rfl) ?_
      refine qi_iload_n (i := 1) (x := nI j) dX12_keeps_27 rfl rfl ?_
      refine qi_bipush (v := 80) dX12_keeps_28 rfl ?_
      refine qi_iadd dX12_keeps_30 ?_
      refine qe_top (y := nI (j + 80)) (by rw [show (80 : Int32) = nI 80 from rfl, nI_add]) ?_
      refine qi_ialdN (x := M1.1 325 (j + 80)) (j := j + 80) dX12_keeps_31 rfl (by decide) rfl (by omega) (by decide) rfl ?_
      refine qi_iastN (j := j) dX12_keeps_32 rfl (by decide) rfl (by omega) (by decide) ?_
      refine qi_iinc (i := 1) (x := nI j) (v := nI (j + 1)) (L2 := [some (.ref 280), some (.int (nI (j + 1)))]) dX12_keeps_33 rfl (nI_1 j) (Nat.le_of_ble_eq_true rfl) rfl ?_
      refine qi_goto (tgt := 11) dX12_keeps_36 (by decide) ?_
      refine ih (j + 1) _ (by omega) (hf.wI (by unfold SU; omega)) (by rw [wI_a (by omega)]; exact e1) (fun k hk => by rw [wI_a (by omega)]; exact e2 k hk) (fun k hk => ?_) (fun k hk => ?_)
      · by_cases hkj : k = j
        · rw [hkj, wI_s, e4 _ (by omega)]
        · rw [wI_k hkj]
          exact e3 k (by omega)
      · rw [wI_k (by omega)]
        exact e4 k (by omega)
  refine qV.of (j := 1) (pn_RX12) rfl ?_
  show qT g kX12_keeps (qR 0 0 0) (qZV g (fun M' => qNow M' ρ' ∧ qHist M' (min 30 (u + 1)) (pushF ρ H) ∧ qFr SU M M')) 0 [some (.ref 280), none] [] 333 M (0, 0)
  refine qi_aload_n (i := 0) (x := 280) dX12_keeps_0 rfl rfl ?_
  refine qi_getI (x := M.1 280 64) flX12_269 dX12_keeps_1 rfl (by decide) rfl ?_
  refine qe_top (y := nI u) h2 ?_
  refine qi_bipush (v := 30) dX12_keeps_4 rfl ?_
  refine qi_icmp_ne (tgt := 49) dX12_keeps_6 (by decide) (fun c => ?_) (fun c => ?_)
  · refine qi_iconst (v := 0) dX12_keeps_49 rfl ?_
    refine qi_istore_n (i := 1) (L2 := [some (.ref 280), some (.int 0)]) dX12_keeps_50 rfl (Nat.le_of_ble_eq_true rfl) rfl ?_
    have hu : ¬ u = 30 := fun z => c (by rw [z]; rfl)
    refine K2 u (by omega) (by omega) 80 0 M (by omega) qFr.rf h2 (fun _ _ => rfl) (fun i k hi hi2 hk => ?_) (fun k hk => absurd hk (Nat.not_lt_zero _))
    rw [← h3 (i - 1) k (by omega) hk]
    exact congrArg (M.1 325) (by omega)
  · refine qi_iconst (v := 0) dX12_keeps_9 rfl ?_
    refine qi_istore_n (i := 1) (L2 := [some (.ref 280), some (.int 0)]) dX12_keeps_10 rfl (Nat.le_of_ble_eq_true rfl) rfl ?_
    have hu : u = 30 := (nI_eq (by omega) (by omega)).mp c
    exact K1 hu 2320 0 M (by omega) qFr.rf (by rw [h2, hu]) (fun _ _ => rfl) (fun k hk => absurd hk (Nat.not_lt_zero _)) (fun _ _ => rfl)
set_option maxHeartbeats 1000000 in
theorem c_X12_undo (g : qG) {M : qM} (hM : qRf M) {ρ : Nat → Int32} {u : Nat} {H : Nat → Nat → Int32} (hN : qNow M ρ) (hH : qHist M u H) : qI g 0 kX12_undo [.ref 280] M (fun r M' => r = (if u = 0 then 0 else 1) ∧ qNow M' (if u = 0 then ρ else H 0) ∧ qHist M' (u - 1) (fun i => H (i + 1)) ∧ qFr SU M M') := by
  obtain ⟨h1, h2, h3⟩ := id hH
  have K : ¬ u = 0 → ∀ m j M1, j + m = 80 → qFr SU M M1 → M1.1 280 64 = nI (u - 1) → (∀ k, M1.1 325 k = M.1 325 k) → (∀ k, k < j → k < 66 → M1.1 321 k = H 0 k) → qT g kX12_undo (qR 0 0 0) (qZI g (fun r M' => r = (if u = 0 then 0 else 1) ∧ qNow M' (if u = 0 then ρ else H 0) ∧ qHist M' (u - 1) (fun i => H (i + 1)) ∧ qFr SU M M')) 21 [some (.ref 280), some (.int (nI j))] [] 333 M1 (0, 0) := by
    intro hu m
    induction m with
    | zero =>
      intro j M1 e hf e1 e2 e3
      have hM1 := hM.fr hf
      refine qi_iload_n (i := 1) (x := nI j) dX12_undo_21 rfl rfl ?_
      refine qi_bipush (v := 80) dX12_undo_22 rfl ?_
      refine qi_icmp_ge (tgt := 53) dX12_undo_24 (by decide) (fun _hc => ?_) (fun _h => absurd ((nI_leI (a := 80) (b := j) (by omega) (by omega)).mpr (by omega)) _h)
      refine qi_iconst (v := 1) dX12_undo_53 rfl ?_
      refine qi_retI rfl (by rfl) dX12_undo_54 (⟨by rw [if_neg hu], by rw [if_neg hu]; exact fun k hk => e3 k (by omega) hk, ⟨by omega, e1, fun i k hi hk => ?_⟩, hf⟩)
      rw [e2, show 80 * (u - 1 - 1 - i) + k = 80 * (u - 1 - (i + 1)) + k by omega]
      exact h3 (i + 1) k (by omega) hk
    | succ m ih =>
      intro j M1 e hf e1 e2 e3
      have hM1 := hM.fr hf
      refine qi_iload_n (i := 1) (x := nI j) dX12_undo_21 rfl rfl ?_
      refine qi_bipush (v := 80) dX12_undo_22 rfl ?_
      refine qi_icmp_ge (tgt := 53) dX12_undo_24 (by decide) (fun _h => absurd ((nI_leI (a := 80) (b := j) (by omega) (by omega)).mp _h) (by omega)) (fun _hc => ?_)
      refine qi_aload_n (i := 0) (x := 280) dX12_undo_27 rfl rfl ?_
      refine qi_getR (x := 321) flX12_140 dX12_undo_28 rfl (by decide) (hM1 280 58 321 rfl) ?_
      refine qi_iload_n (i := 1) (x := nI j) dX12_undo_31 rfl rfl ?_
      refine qi_aload_n (i := 0) (x := 280) dX12_undo_32 rfl rfl ?_
      refine qi_getR (x := 325) flX12_152 dX12_undo_33 rfl (by decide) (hM1 280 65 325 rfl) ?_
      refine qi_bipush (v := 80) dX12_undo_36 rfl ?_
      refine qi_aload_n (i := 0) (x := 280) dX12_undo_38 rfl rfl ?_
      refine qi_getI (x := M1.1 280 64) flX12_269 dX12_undo_39 rfl (by decide) rfl ?_
      refine qe_top (y := nI (u - 1)) e1 ?_
      refine qi_imul dX12_undo_42 ?_
      refine qi_iload_n (i := 1) (x := nI j) dX12_undo_43 rfl rfl ?_
      refine qi_iadd dX12_undo_44 ?_
      refine qe_top (y := nI (80 * (u - 1) + j)) (by rw [show (80 : Int32) = nI 80 from rfl, pk_mul, nI_add]) ?_
      refine qi_ialdN (x := M1.1 325 (80 * (u - 1) + j)) (j := 80 * (u - 1) + j) dX12_undo_45 rfl (by decide) rfl (by omega) (by decide) rfl ?_
      refine qi_iastN (j := j) dX12_undo_46 rfl (by decide) rfl (by omega) (by decide) ?_
      refine qi_iinc (i := 1) (x := nI j) (v := nI (j + 1)) (L2 := [some (.ref 280), some (.int (nI (j + 1)))]) dX12_undo_47 rfl (nI_1 j) (Nat.le_of_ble_eq_true rfl) rfl ?_
      refine qi_goto (tgt := 21) dX12_undo_50 (by decide) ?_
      refine ih (j + 1) _ (by omega) (hf.wI (by unfold SU; omega)) (by rw [wI_a (by omega)]; exact e1) (fun k => by rw [wI_a (by omega)]; exact e2 k) (fun k hk hk6 => ?_)
      by_cases hkj : k = j
      · rw [hkj, wI_s, e2]
        exact h3 0 j (by omega) (by omega)
      · rw [wI_k hkj]
        exact e3 k (by omega) hk6
  refine qI.of (j := 1) (pn_RX12) rfl ?_
  show qT g kX12_undo (qR 0 0 0) (qZI g (fun r M' => r = (if u = 0 then 0 else 1) ∧ qNow M' (if u = 0 then ρ else H 0) ∧ qHist M' (u - 1) (fun i => H (i + 1)) ∧ qFr SU M M')) 0 [some (.ref 280), none] [] 333 M (0, 0)
  refine qi_aload_n (i := 0) (x := 280) dX12_undo_0 rfl rfl ?_
  refine qi_getI (x := M.1 280 64) flX12_269 dX12_undo_1 rfl (by decide) rfl ?_
  refine qe_top (y := nI u) h2 ?_
  refine qi_if_ne (tgt := 9) dX12_undo_4 (by decide) (fun _h => ?_) (fun _h => ?_)
  · have c : ¬ (u = 0) := fun z => _h ((nI_eq (a := u) (b := 0) (by omega) (by omega)).mpr z)
    refine qi_aload_n (i := 0) (x := 280) dX12_undo_9 rfl rfl ?_
    refine qi_dup dX12_undo_10 ?_
    refine qi_getI (x := M.1 280 64) flX12_269 dX12_undo_11 rfl (by decide) rfl ?_
    refine qi_iconst (v := 1) dX12_undo_14 rfl ?_
    refine qi_isub dX12_undo_15 ?_
    refine qe_top (y := nI (u - 1)) (by rw [h2]; exact pk_sub (show 1 ≤ u by omega)) ?_
    refine qi_putI flX12_269 q_cls12 (ty12_64 _) dX12_undo_16 rfl (by decide) ?_
    refine qi_iconst (v := 0) dX12_undo_19 rfl ?_
    refine qi_istore_n (i := 1) (L2 := [some (.ref 280), some (.int 0)]) dX12_undo_20 rfl (Nat.le_of_ble_eq_true rfl) rfl ?_
    exact K c 80 0 _ (by omega) (qFr.rf.wI (by unfold SU; omega)) (wI_s _ _ _ _) (fun k => by rw [wI_a (by omega)]) (fun k hk => absurd hk (Nat.not_lt_zero _))
  · have c : u = 0 := (nI_eq (a := u) (b := 0) (by omega) (by omega)).mp _h
    refine qi_iconst (v := 0) dX12_undo_7 rfl ?_
    exact qi_retI rfl (by rfl) dX12_undo_8 (⟨by rw [if_pos c], by rw [if_pos c]; exact hN, ⟨by omega, by rw [h2, c], fun i k hi hk => absurd hi (by omega)⟩, qFr.rf⟩)
def SH : Nat → Nat → Prop := fun b j => b = 331 ∨ b = 332
set_option maxHeartbeats 1000000 in
theorem c_X12_hold (g : qG) {M : qM} (hM : qRf M) {ρ : Nat → Int32} {B : Nat → Int32} {HR : Nat → Nat → Int32} (hN : qNow M ρ) (hH : qHeld M B HR) (s : Int32) : qI g 1 kX12_hold [.ref 280, .int s] M (fun r M' => r = isF 3 s ∧ (isF 3 s = 0 → M' = M) ∧ (∀ k, s = nI k → k < 3 → qHeld M' (set1 k 1 B) (setF k ρ HR)) ∧ qFr SH M M') := by
  have K : ∀ s0, s = nI s0 → s0 < 3 → ∀ m j M1, j + m = 80 → qFr SH M M1 → (∀ i, i < 3 → M1.1 331 i = set1 s0 1 B i) → (∀ k, k < j → M1.1 332 (80 * s0 + k) = M.1 321 k) → (∀ i k, i ≠ s0 → k < 66 → M1.1 332 (80 * i + k) = M.1 332 (80 * i + k)) → qT g kX12_hold (qR 1 0 0) (qZI g (fun r M' => r = isF 3 s ∧ (isF 3 s = 0 → M' = M) ∧ (∀ k, s = nI k → k < 3 → qHeld M' (set1 k 1 B) (setF k ρ HR)) ∧ qFr SH M M')) 20 [some (.ref 280), some (.int (nI s0)), some (.int (nI j))] [] 333 M1 (0, 0) := by
    intro s0 hs hs3 m
    induction m with
    | zero =>
      intro j M1 e hf e1 e2 e3
      have hM1 := hM.fr hf
      refine qi_iload_n (i := 2) (x := nI j) dX12_hold_20 rfl rfl ?_
      refine qi_bipush (v := 80) dX12_hold_21 rfl ?_
      refine qi_icmp_ge (tgt := 49) dX12_hold_23 (by decide) (fun _hc => ?_) (fun _h => absurd ((nI_leI (a := 80) (b := j) (by omega) (by omega)).mpr (by omega)) _h)
      refine qi_iconst (v := 1) dX12_hold_49 rfl ?_
      have h01 : isF 3 s = 1 := by
        rw [hs]
        unfold isF
        rw [if_pos ⟨Int32.not_lt.mp (nI_nlt (Nat.zero_le _) (by omega) : ¬ nI s0 < nI 0), (nI_ltI (by omega) (by omega)).mpr hs3⟩]
      refine qi_retI rfl (by rfl) dX12_hold_50 (⟨h01.symm, fun z => absurd (h01.symm.trans z) (by decide), fun k hk hk3 => ?_, hf⟩)
      have : s0 = k := (nI_eq (by omega) (by omega)).mp (hs.symm.trans hk)
      subst this
      refine ⟨fun i hi => ⟨e1 i hi, ?_⟩, fun i k hi hk hb => ?_⟩
      · unfold set1
        by_cases c : i = s0
        · rw [if_pos c]; exact Or.inr rfl
        · rw [if_neg c]; exact (hH.1 i hi).2
      · unfold setF
        unfold set1 at hb
        by_cases c : i = s0
        · rw [if_pos c, c, e2 k (by omega)]; exact hN k hk
        · rw [if_neg c] at hb ⊢
          rw [e3 i k c hk]; exact hH.2 i k hi hk hb
    | succ m ih =>
      intro j M1 e hf e1 e2 e3
      have hM1 := hM.fr hf
      refine qi_iload_n (i := 2) (x := nI j) dX12_hold_20 rfl rfl ?_
      refine qi_bipush (v := 80) dX12_hold_21 rfl ?_
      refine qi_icmp_ge (tgt := 49) dX12_hold_23 (by decide) (fun _h => absurd ((nI_leI (a := 80) (b := j) (by omega) (by omega)).mp _h) (by omega)) (fun _hc => ?_)
      refine qi_aload_n (i := 0) (x := 280) dX12_hold_26 rfl rfl ?_
      refine qi_getR (x := 332) flX12_173 dX12_hold_27 rfl (by decide) (hM1 280 76 332 rfl) ?_
      refine qi_bipush (v := 80) dX12_hold_30 rfl ?_
      refine qi_iload_n (i := 1) (x := nI s0) dX12_hold_32 rfl rfl ?_
      refine qi_imul dX12_hold_33 ?_
      refine qi_iload_n (i := 2) (x := nI j) dX12_hold_34 rfl rfl ?_
      refine qi_iadd dX12_hold_35 ?_
      refine qe_top (y := nI (80 * s0 + j)) (by rw [show (80 : Int32) = nI 80 from rfl, pk_mul, nI_add]) ?_
      refine qi_aload_n (i := 0) (x := 280) dX12_hold_36 rfl rfl ?_
      refine qi_getR (x := 321) flX12_140 dX12_hold_37 rfl (by decide) (hM1 280 58 321 rfl) ?_
      refine qi_iload_n (i := 2) (x := nI j) dX12_hold_40 rfl rfl ?_
      refine qi_ialdN (x := M1.1 321 j) (j := j) dX12_hold_41 rfl (by decide) rfl (by omega) (by decide) rfl ?_
      refine qi_iastN (j := 80 * s0 + j) dX12_hold_42 rfl (by decide) rfl (by omega) (by decide) ?_
      refine qi_iinc (i := 2) (x := nI j) (v := nI (j + 1)) (L2 := [some (.ref 280), some (.int (nI s0)), some (.int (nI (j + 1)))]) dX12_hold_43 rfl (nI_1 j) (Nat.le_of_ble_eq_true rfl) rfl ?_
      refine qi_goto (tgt := 20) dX12_hold_46 (by decide) ?_
      refine ih (j + 1) _ (by omega) (hf.wI (by unfold SH; omega)) (fun i hi => by rw [wI_a (by omega)]; exact e1 i hi) (fun k hk => ?_) (fun i k hi hk => ?_)
      · have e4 : M1.1 321 j = M.1 321 j := hf.1 _ _ (by unfold SH; omega)
        by_cases hkj : k = j
        · rw [hkj, wI_s, e4]
        · rw [wI_k (by omega)]
          exact e2 k (by omega)
      · rw [wI_k (by omega)]
        exact e3 i k hi hk
  refine qI.of (j := 1) (pn_RX12) rfl ?_
  show qT g kX12_hold (qR 1 0 0) (qZI g (fun r M' => r = isF 3 s ∧ (isF 3 s = 0 → M' = M) ∧ (∀ k, s = nI k → k < 3 → qHeld M' (set1 k 1 B) (setF k ρ HR)) ∧ qFr SH M M')) 0 [some (.ref 280), some (.int s), none] [] 333 M (0, 0)
  refine qi_iload_n (i := 1) (x := s) dX12_hold_0 rfl rfl ?_
  refine qi_iconst (v := 0) dX12_hold_1 rfl ?_
  refine qi_iconst (v := 2) dX12_hold_2 rfl ?_
  refine qi_callPSI (v := (if (0 : Int32) ≤ s ∧ s ≤ 2 then (1 : Int32) else 0)) (K' := kX12_in) (As := [.int s, .int 0, .int 2]) mlX12_338 okX12_in dX12_hold_3 (c_X12_in g _ _ _) rfl rfl (Nat.le_of_ble_eq_true rfl) ⟨(Nat.le_of_ble_eq_true rfl), (Nat.le_of_ble_eq_true rfl)⟩ ⟨Nat.le_refl _, Nat.le_refl _⟩ ?_
  refine qe_top (y := isF 3 s) (isF_in (n := 3) (by omega)) ?_
  refine qi_if_ne (tgt := 11) dX12_hold_6 (by decide) (fun c => ?_) (fun c => ?_)
  · obtain ⟨s0, hs3, hs⟩ := isF_of (by omega) c
    subst hs
    refine qi_aload_n (i := 0) (x := 280) dX12_hold_11 rfl rfl ?_
    refine qi_getR (x := 331) flX12_170 dX12_hold_12 rfl (by decide) (hM 280 75 331 rfl) ?_
    refine qi_iload_n (i := 1) (x := nI s0) dX12_hold_15 rfl rfl ?_
    refine qi_iconst (v := 1) dX12_hold_16 rfl ?_
    refine qi_zastN (j := s0) dX12_hold_17 rfl (by decide) rfl (by omega) (by decide) (by rfl) ?_
    refine qi_iconst (v := 0) dX12_hold_18 rfl ?_
    refine qi_istore_n (i := 2) (L2 := [some (.ref 280), some (.int (nI s0)), some (.int 0)]) dX12_hold_19 rfl (Nat.le_of_ble_eq_true rfl) rfl ?_
    refine K s0 rfl hs3 80 0 _ (by omega) (qFr.rf.wI (by unfold SH; omega)) (fun i hi => ?_) (fun k hk => absurd hk (Nat.not_lt_zero _)) (fun i k hi hk => by rw [wI_a (by omega)])
    unfold set1
    by_cases c : i = s0
    · rw [if_pos c, c, wI_s]
    · rw [if_neg c, wI_k c]; exact (hH.1 i hi).1
  · refine qi_iconst (v := 0) dX12_hold_9 rfl ?_
    refine qi_retI rfl (by rfl) dX12_hold_10 (⟨c.symm, fun _ => rfl, fun k hk hk3 => ?_, qFr.rf⟩)
    rw [hk] at c
    unfold isF at c
    rw [if_pos ⟨Int32.not_lt.mp (nI_nlt (Nat.zero_le _) (by omega) : ¬ nI k < nI 0), (nI_ltI (by omega) (by omega)).mpr hk3⟩] at c
    exact absurd c (by decide)
