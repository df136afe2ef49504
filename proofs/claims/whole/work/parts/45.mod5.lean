/-! ThimbleSeaModel: weekGoes -/
/-- what a week writes there -/
def SN : Nat → Nat → Prop := fun b j => b = 319 ∨ b = 320 ∨ b = 322 ∨ b = 323 ∨ b = 324 ∨ (b = 280 ∧ j = 57)
theorem SN_SM {b j : Nat} (h : SN b j) : SM b j := by
  unfold SN at h
  unfold SM
  omega
theorem SV_SN {b j : Nat} (h : SV b j) : SN b j := by
  unfold SV at h
  unfold SN
  omega
theorem SG_SN {b j : Nat} (h : SG b j) : SN b j := by
  unfold SG at h
  unfold SN
  omega
theorem qPlanM.frN {M M' : qM} {L : Nat} {π : qPl} (h : qPlanM M L π) (hf : qFr SN M M') : qPlanM M' L π := h.fr (hf.mono (fun _ _ => SN_SM))
theorem letIn_0 {π : qPl} {ρ : Nat → Int32} (hO : okSea π ρ) (hok : okPl π) (h w : Nat) (s : Int32) : letInF (nI (π.1 4)) h w s 0 ρ = ρ := by
  obtain ⟨A, e1, e2, e3⟩ := hO.all hok
  have hb := hok.2.2.2.2.1
  have hc : comesF (nI (π.1 4)) 0 ρ = 0 := by
    unfold comesF minI
    rw [e1, pk_sub e2]
    exact if_neg (nI_nlt (b := 0) (Nat.zero_le _) (by omega) : ¬ nI (π.1 4 - A) < nI 0)
  obtain ⟨r, sh, z, -, -, -, -, g5, g6⟩ := hO
  have h65 : minI 1000000000 (ρ 65 + 0 * s) = ρ 65 := by
    rw [show ρ 65 + 0 * s = ρ 65 by grind, g5]
    unfold minI
    rw [show (1000000000 : Int32) = nI 1000000000 from rfl]
    by_cases hl : nI z < nI 1000000000
    · rw [if_pos hl]
    · rw [if_neg hl]
      have : ¬ z < 1000000000 := fun q => hl ((nI_ltI (by omega) (by omega)).mpr q)
      congr 1
      omega
  funext j
  unfold letInF
  rw [hc]
  by_cases c1 : j = 5 * h + w
  · rw [if_pos c1]; grind
  · rw [if_neg c1]
    by_cases c2 : j = 40 + h
    · rw [if_pos c2]; grind
    · rw [if_neg c2]
      by_cases c3 : j = 56 + h
      · rw [if_pos c3]; grind
      · rw [if_neg c3]
        by_cases c4 : j = 65
        · rw [if_pos c4, h65, c4]
        · rw [if_neg c4]
theorem sendsF_64 {π : qPl} {ρ : Nat → Int32} {away : Int32} (hok : okPl π) : ∀ k, k ≤ π.1 2 → sendsF π away ρ k 64 = ρ 64
  | 0, _ => rfl
  | k + 1, hk => by
    have ih := sendsF_64 (ρ := ρ) (away := away) hok k (by omega)
    have hkk := hok.2.2.2.2.2.2.2.2 k (by omega)
    have hh8 := hok.2.1
    have hw5 := hok.1
    show (if _ then _ else _ : Nat → Int32) 64 = _
    split
    · exact ih
    · show letInF _ _ _ _ _ _ 64 = _
      unfold letInF
      rw [if_neg (by omega), if_neg (by omega), if_neg (by omega), if_neg (by omega)]
      exact ih
set_option maxHeartbeats 1500000 in
theorem c_X12_weekGoes (g : qG) {M : qM} (hM : qRf M) {ρ : Nat → Int32} (hR : qRow M ρ) {L : Nat} {π : qPl} (hP : qPlanM M L π) (hok : okPl π) (hO : okSea π ρ) {sil sw : Int32} (hsil : M.1 280 60 = sil) (hsw : M.1 280 61 = sw) : qV g 4 kX12_weekGoes [.ref 280] M (fun M' => qRow M' (weekF π (awayF sil sw (ρ 64)) ρ) ∧ qFr SN M M') := by
  obtain ⟨away, haw⟩ : ∃ away, away = awayF sil sw (ρ 64) := ⟨_, rfl⟩
  rw [← haw]
  have hL := hP.1.1
  have hs16 := hok.2.2.1
  -- the end
  have KE : ∀ M1 x2 x3 x4 x5 x6 x7, qFr SN M M1 → qRow M1 (sendsF π away ρ (π.1 2)) → qT g kX12_weekGoes (qR 4 0 0) (qZV g (fun M' => qRow M' (weekF π away ρ) ∧ qFr SN M M')) 185 [some (.ref 280), some (.int (nI (π.1 2))), x2, x3, x4, x5, x6, x7] [] 333 M1 (0, 0) := by
    intro M1 x2 x3 x4 x5 x6 x7 hf hR1
    have hM1 := hM.fr hf
    have hP1 := hP.frN hf
    have hO1 : okSea π (sendsF π away ρ (π.1 2)) := hO.sends hok _ (Nat.le_refl _)
    obtain ⟨σ, hσ⟩ : ∃ σ, σ = sendsF π away ρ (π.1 2) := ⟨_, rfl⟩
    have hwk : tickF (dryF σ (dryTellF π σ).toNatClampNeg) = weekF π away ρ := by rw [hσ]; rfl
    rw [← hσ] at hR1 hO1
    obtain ⟨A, e1, e2, e3⟩ := hO1.all hok
    have hb := hok.2.2.2.2.1
    have hm : ¬ allF σ < 0 := by rw [e1]; exact nI_nlt (b := 0) (Nat.zero_le _) (by omega)
    obtain ⟨j, ej, hj⟩ := dryTellF_in hO1 hok
    obtain ⟨hr1, hr2⟩ := hO1.r hok
    refine qi_aload_n (i := 0) (x := 280) dX12_weekGoes_185 rfl rfl ?_
    refine qi_callPVI (v := allF σ) (K' := kX12_allDrops) (As := []) mlX12_352 okX12_allDrops dX12_weekGoes_186 (c_X12_allDrops g hM1 hR1) rfl (by decide) rfl (by decide) rfl rfl (Nat.le_of_ble_eq_true rfl) ⟨(Nat.le_of_ble_eq_true rfl), (Nat.le_of_ble_eq_true rfl)⟩ ⟨Nat.le_refl _, Nat.le_refl _⟩ ?_
    refine qi_istore_n (i := 1) (L2 := [some (.ref 280), some (.int (allF σ)), x2, x3, x4, x5, x6, x7]) dX12_weekGoes_189 rfl (Nat.le_of_ble_eq_true rfl) rfl ?_
    refine qi_aload_n (i := 0) (x := 280) dX12_weekGoes_190 rfl rfl ?_
    refine qi_aload_n (i := 0) (x := 280) dX12_weekGoes_191 rfl rfl ?_
    refine qi_bipush (v := 16) dX12_weekGoes_192 rfl ?_
    refine qi_aload_n (i := 0) (x := 280) dX12_weekGoes_194 rfl rfl ?_
    refine qi_bipush (v := 48) dX12_weekGoes_195 rfl ?_
    refine qi_callPVI (v := sumO σ 48) (K' := kX12_sumOn) (As := [.int 48]) mlX12_371 okX12_sumOn dX12_weekGoes_197 (c_X12_sumOn g hM1 hR1 (o := 48) (by omega)) rfl (by decide) rfl (by decide) rfl rfl (Nat.le_of_ble_eq_true rfl) ⟨(Nat.le_of_ble_eq_true rfl), (Nat.le_of_ble_eq_true rfl)⟩ ⟨Nat.le_refl _, Nat.le_refl _⟩ ?_
    refine qi_aload_n (i := 0) (x := 280) dX12_weekGoes_200 rfl rfl ?_
    refine qi_bipush (v := 56) dX12_weekGoes_201 rfl ?_
    refine qi_callPVI (v := sumO σ 56) (K' := kX12_sumOn) (As := [.int 56]) mlX12_371 okX12_sumOn dX12_weekGoes_203 (c_X12_sumOn g hM1 hR1 (o := 56) (by omega)) rfl (by decide) rfl (by decide) rfl rfl (Nat.le_of_ble_eq_true rfl) ⟨(Nat.le_of_ble_eq_true rfl), (Nat.le_of_ble_eq_true rfl)⟩ ⟨Nat.le_refl _, Nat.le_refl _⟩ ?_
    refine qi_bipush (v := 19) dX12_weekGoes_206 rfl ?_
    refine qi_iload_n (i := 1) (x := allF σ) dX12_weekGoes_208 rfl rfl ?_
    refine qi_callVI (K' := kX12_tellsBy) (As := [.int 16, .int (sumO σ 48), .int (sumO σ 56), .int 19, .int (allF σ)]) mlX12_361 okX12_tellsBy dX12_weekGoes_209 (c_X12_tellsBy g hM1 hR1 hP1 hok (k := 16) (by omega) hP1.2.2.2.2.2.2 _ _ _ hm) rfl (by decide) rfl (by decide) rfl rfl (Nat.le_of_ble_eq_true rfl) ⟨(Nat.le_of_ble_eq_true rfl), (Nat.le_of_ble_eq_true rfl)⟩ ⟨Nat.le_refl _, Nat.le_refl _⟩ (fun x M2 ⟨ex, hf2⟩ => ?_)
    have hM2 := hM1.fr hf2
    have hR2 := hR1.frV hf2
    refine qe_top (y := nI j) (ex.trans ej) ?_
    refine qi_callVV (K' := kX12_lessens) (As := [.int (nI j)]) mlX12_374 okX12_lessens dX12_weekGoes_212 (c_X12_lessens g hM2 hR2 hr1 (by omega) hj) rfl (by decide) rfl (by decide) rfl rfl (Nat.le_of_ble_eq_true rfl) ⟨(Nat.le_of_ble_eq_true rfl), (Nat.le_of_ble_eq_true rfl)⟩ ⟨Nat.le_refl _, Nat.le_refl _⟩ (fun M3 ⟨hR3, hf3⟩ => ?_)
    have hM3 := hM2.fr hf3
    refine qi_aload_n (i := 0) (x := 280) dX12_weekGoes_215 rfl rfl ?_
    refine qi_getR (x := 322) flX12_143 dX12_weekGoes_216 rfl (by decide) (hM3 280 59 322 rfl) ?_
    refine qi_bipush (v := 64) dX12_weekGoes_219 rfl ?_
    refine qi_dup2 dX12_weekGoes_221 ?_
    refine qi_ialdN (x := M3.1 322 64) (j := 64) dX12_weekGoes_222 rfl (by decide) rfl (by omega) (by decide) rfl ?_
    refine qi_iconst (v := 1) dX12_weekGoes_223 rfl ?_
    refine qi_iadd dX12_weekGoes_224 ?_
    refine qi_iastN (j := 64) dX12_weekGoes_225 rfl (by decide) rfl (by omega) (by decide) ?_
    refine qi_retV rfl dX12_weekGoes_226 (?_)
    refine ⟨?_, ((hf.tr (hf2.mono (fun _ _ => SV_SN))).tr (hf3.mono (fun _ _ => SG_SN))).wI (by unfold SN; omega)⟩
    rw [← hwk, ej, nI_clamp (by omega)]
    intro k hk
    unfold tickF
    by_cases hk2 : k = 64
    · rw [hk2, wI_s, if_pos rfl, hR3 64 (by omega)]
      rfl
    · rw [wI_k hk2, if_neg hk2, hR3 k hk]
      rfl
  have K : ∀ m k M1 x2 x3 x4 x5 x6 x7, k + m = π.1 2 → qFr SN M M1 → qRow M1 (sendsF π away ρ k) → qT g kX12_weekGoes (qR 4 0 0) (qZV g (fun M' => qRow M' (weekF π away ρ) ∧ qFr SN M M')) 2 [some (.ref 280), some (.int (nI k)), x2, x3, x4, x5, x6, x7] [] 333 M1 (0, 0) := by
    intro m
    induction m with
    | zero =>
      intro k M1 x2 x3 x4 x5 x6 x7 e hf hR1
      have hM1 := hM.fr hf
      have hP1 := hP.frN hf
      obtain rfl : k = π.1 2 := by omega
      refine qi_iload_n (i := 1) (x := nI (π.1 2)) dX12_weekGoes_2 rfl rfl ?_
      refine qi_aload_n (i := 0) (x := 280) dX12_weekGoes_3 rfl rfl ?_
      refine qi_getR (x := 299) flX12_73 dX12_weekGoes_4 rfl (by decide) (hM1 280 32 299 rfl) ?_
      refine qi_aload_n (i := 0) (x := 280) dX12_weekGoes_7 rfl rfl ?_
      refine qi_getI (x := M1.1 280 18) flX12_248 dX12_weekGoes_8 rfl (by decide) rfl ?_
      refine qe_top (y := nI L) hP1.1.2 ?_
      refine qi_ialdN (x := M1.1 299 L) (j := L) dX12_weekGoes_11 rfl (by decide) rfl (by omega) (by decide) rfl ?_
      refine qe_top (y := nI (π.1 2)) hP1.2.1.2.2.1 ?_
      refine qi_icmp_ge (tgt := 185) dX12_weekGoes_12 (by decide) (fun _hc => ?_) (fun _h => absurd ((nI_leI (a := π.1 2) (b := π.1 2) (by omega) (by omega)).mpr (by omega)) _h)
      exact KE M1 _ _ _ _ _ _ hf hR1
    | succ m ih =>
      intro k M1 x2 x3 x4 x5 x6 x7 e hf hR1
      have hM1 := hM.fr hf
      have hP1 := hP.frN hf
      have hO1 : okSea π (sendsF π away ρ k) := hO.sends hok _ (by omega)
      have hkk := hok.2.2.2.2.2.2.2.2 k (by omega)
      have hh8 := hok.2.1
      have hw5 := hok.1
      have e6 := hP1.2.2.2.2.1 0 k (by omega) (show k < π.1 2 by omega)
      have e7 := hP1.2.2.2.2.1 1 k (by omega) (show k < π.1 2 by omega)
      have e0 := hP1.2.2.1 0 (π.2.1 7 k) (by omega) hkk.2
      have e64 := sendsF_64 (ρ := ρ) (away := away) hok k (by omega)
      have es : sendsF π away ρ (k + 1) = if nI (π.2.1 6 k) = away then sendsF π away ρ k else sendF π k (tellF π (sendsF π away ρ k) k) (sendsF π away ρ k) := rfl
      have ih1 := ih (k + 1)
      obtain ⟨σ, hσ⟩ : ∃ σ, σ = sendsF π away ρ k := ⟨_, rfl⟩
      rw [← hσ] at hR1 hO1 e64 es
      obtain ⟨n, hn⟩ : ∃ n, n = if nI (π.2.1 6 k) = away then 0 else tellF π σ k := ⟨_, rfl⟩
      have es2 : sendsF π away ρ (k + 1) = letInF (nI (π.1 4)) (π.2.1 6 k) (π.2.1 7 k) (nI (π.2.1 0 (π.2.1 7 k))) n σ := by
        rw [es, hn]
        by_cases c : nI (π.2.1 6 k) = away
        · rw [if_pos c, if_pos c, letIn_0 hO1 hok]
        · rw [if_neg c, if_neg c]
          rfl
      rw [es2] at ih1
      refine qi_iload_n (i := 1) (x := nI k) dX12_weekGoes_2 rfl rfl ?_
      refine qi_aload_n (i := 0) (x := 280) dX12_weekGoes_3 rfl rfl ?_
      refine qi_getR (x := 299) flX12_73 dX12_weekGoes_4 rfl (by decide) (hM1 280 32 299 rfl) ?_
      refine qi_aload_n (i := 0) (x := 280) dX12_weekGoes_7 rfl rfl ?_
      refine qi_getI (x := M1.1 280 18) flX12_248 dX12_weekGoes_8 rfl (by decide) rfl ?_
      refine qe_top (y := nI L) hP1.1.2 ?_
      refine qi_ialdN (x := M1.1 299 L) (j := L) dX12_weekGoes_11 rfl (by decide) rfl (by omega) (by decide) rfl ?_
      refine qe_top (y := nI (π.1 2)) hP1.2.1.2.2.1 ?_
      refine qi_icmp_ge (tgt := 185) dX12_weekGoes_12 (by decide) (fun _h => absurd ((nI_leI (a := π.1 2) (b := k) (by omega) (by omega)).mp _h) (by omega)) (fun _hc => ?_)
      refine qi_aload_n (i := 0) (x := 280) dX12_weekGoes_15 rfl rfl ?_
      refine qi_getR (x := 300) flX12_76 dX12_weekGoes_16 rfl (by decide) (hM1 280 33 300 rfl) ?_
      refine qi_bipush (v := 16) dX12_weekGoes_19 rfl ?_
      refine qi_aload_n (i := 0) (x := 280) dX12_weekGoes_21 rfl rfl ?_
      refine qi_getI (x := M1.1 280 18) flX12_248 dX12_weekGoes_22 rfl (by decide) rfl ?_
      refine qe_top (y := nI L) hP1.1.2 ?_
      refine qi_imul dX12_weekGoes_25 ?_
      refine qi_iload_n (i := 1) (x := nI k) dX12_weekGoes_26 rfl rfl ?_
      refine qi_iadd dX12_weekGoes_27 ?_
      refine qe_top (y := nI (16 * L + k)) (by rw [show (16 : Int32) = nI 16 from rfl, pk_mul, nI_add]) ?_
      refine qi_ialdN (x := M1.1 300 (16 * L + k)) (j := 16 * L + k) dX12_weekGoes_28 rfl (by decide) rfl (by omega) (by decide) rfl ?_
      refine qe_top (y := nI (π.2.1 6 k)) e6 ?_
      refine qi_istore_n (i := 2) (L2 := [some (.ref 280), some (.int (nI k)), some (.int (nI (π.2.1 6 k))), x3, x4, x5, x6, x7]) dX12_weekGoes_29 rfl (Nat.le_of_ble_eq_true rfl) rfl ?_
      refine qi_aload_n (i := 0) (x := 280) dX12_weekGoes_30 rfl rfl ?_
      refine qi_getR (x := 301) flX12_79 dX12_weekGoes_31 rfl (by decide) (hM1 280 34 301 rfl) ?_
      refine qi_bipush (v := 16) dX12_weekGoes_34 rfl ?_
      refine qi_aload_n (i := 0) (x := 280) dX12_weekGoes_36 rfl rfl ?_
      refine qi_getI (x := M1.1 280 18) flX12_248 dX12_weekGoes_37 rfl (by decide) rfl ?_
      refine qe_top (y := nI L) hP1.1.2 ?_
      refine qi_imul dX12_weekGoes_40 ?_
      refine qi_iload_n (i := 1) (x := nI k) dX12_weekGoes_41 rfl rfl ?_
      refine qi_iadd dX12_weekGoes_42 ?_
      refine qe_top (y := nI (16 * L + k)) (by rw [show (16 : Int32) = nI 16 from rfl, pk_mul, nI_add]) ?_
      refine qi_ialdN (x := M1.1 301 (16 * L + k)) (j := 16 * L + k) dX12_weekGoes_43 rfl (by decide) rfl (by omega) (by decide) rfl ?_
      refine qe_top (y := nI (π.2.1 7 k)) e7 ?_
      refine qi_istore_n (i := 3) (L2 := [some (.ref 280), some (.int (nI k)), some (.int (nI (π.2.1 6 k))), some (.int (nI (π.2.1 7 k))), x4, x5, x6, x7]) dX12_weekGoes_44 rfl (Nat.le_of_ble_eq_true rfl) rfl ?_
      refine qi_aload_n (i := 0) (x := 280) dX12_weekGoes_45 rfl rfl ?_
      refine qi_iload_n (i := 1) (x := nI k) dX12_weekGoes_46 rfl rfl ?_
      refine qi_callVI (K' := kX12_tellsNow) (As := [.int (nI k)]) mlX12_367 okX12_tellsNow dX12_weekGoes_47 (c_X12_tellsNow g hM1 hR1 hP1 hok (by omega) (sil := sil) (sw := sw) ((hf.1 _ _ (by unfold SN; omega)).trans hsil) ((hf.1 _ _ (by unfold SN; omega)).trans hsw)) rfl (by decide) rfl (by decide) rfl rfl (Nat.le_of_ble_eq_true rfl) ⟨(Nat.le_of_ble_eq_true rfl), (Nat.le_of_ble_eq_true rfl)⟩ ⟨Nat.le_refl _, Nat.le_refl _⟩ (fun y M2 ⟨ey, hf2⟩ => ?_)
      refine qe_top (y := n) (by rw [ey, hn, e64, ← haw]) ?_
      have hM2 := hM1.fr hf2
      have hR2 := hR1.frV hf2
      have hfa := hf.tr (hf2.mono (fun _ _ => SV_SN))
      have hP2 := hP.frN hfa
      refine qi_istore (i := 4) (L2 := [some (.ref 280), some (.int (nI k)), some (.int (nI (π.2.1 6 k))), some (.int (nI (π.2.1 7 k))), some (.int n), x5, x6, x7]) dX12_weekGoes_50 (Nat.le_of_ble_eq_true rfl) rfl ?_
      refine qi_aload_n (i := 0) (x := 280) dX12_weekGoes_52 rfl rfl ?_
      refine qi_getR (x := 307) flX12_97 dX12_weekGoes_53 rfl (by decide) (hM2 280 40 307 rfl) ?_
      refine qi_aload_n (i := 0) (x := 280) dX12_weekGoes_56 rfl rfl ?_
      refine qi_getI (x := M2.1 280 18) flX12_248 dX12_weekGoes_57 rfl (by decide) rfl ?_
      refine qe_top (y := nI L) hP2.1.2 ?_
      refine qi_ialdN (x := M2.1 307 L) (j := L) dX12_weekGoes_60 rfl (by decide) rfl (by omega) (by decide) rfl ?_
      refine qe_top (y := nI (π.1 4)) hP2.2.1.2.2.2.2.1 ?_
      refine qi_aload_n (i := 0) (x := 280) dX12_weekGoes_61 rfl rfl ?_
      refine qi_callPVI (v := allF σ) (K' := kX12_allDrops) (As := []) mlX12_352 okX12_allDrops dX12_weekGoes_62 (c_X12_allDrops g hM2 hR2) rfl (by decide) rfl (by decide) rfl rfl (Nat.le_of_ble_eq_true rfl) ⟨(Nat.le_of_ble_eq_true rfl), (Nat.le_of_ble_eq_true rfl)⟩ ⟨Nat.le_refl _, Nat.le_refl _⟩ ?_
      have J : ∀ c, c = comesF (nI (π.1 4)) n σ → qT g kX12_weekGoes (qR 4 0 0) (qZV g (fun M' => qRow M' (weekF π away ρ) ∧ qFr SN M M')) 82 [some (.ref 280), some (.int (nI k)), some (.int (nI (π.2.1 6 k))), some (.int (nI (π.2.1 7 k))), some (.int n), some (.int (nI (π.1 4) - allF σ)), x6, x7] [.int c] 333 M2 (0, 0) := by
        intro c hc
        generalize hhx : π.2.1 6 k = h at *
        generalize hwx : π.2.1 7 k = w at *
        generalize hzx : π.2.1 0 w = z at *
        have hc2 : comesF (nI (π.1 4)) n σ = c := hc.symm
        have e0b := hP2.2.2.1 0 w (by omega) hkk.2
        refine qi_istore (i := 6) (L2 := [some (.ref 280), some (.int (nI k)), some (.int (nI h)), some (.int (nI w)), some (.int n), some (.int (nI (π.1 4) - allF σ)), some (.int c), x7]) dX12_weekGoes_82 (Nat.le_of_ble_eq_true rfl) rfl ?_
        refine qi_aload_n (i := 0) (x := 280) dX12_weekGoes_84 rfl rfl ?_
        refine qi_getR (x := 322) flX12_143 dX12_weekGoes_85 rfl (by decide) (hM2 280 59 322 rfl) ?_
        refine qi_iconst (v := 5) dX12_weekGoes_88 rfl ?_
        refine qi_iload_n (i := 2) (x := nI h) dX12_weekGoes_89 rfl rfl ?_
        refine qi_imul dX12_weekGoes_90 ?_
        refine qi_iload_n (i := 3) (x := nI w) dX12_weekGoes_91 rfl rfl ?_
        refine qi_iadd dX12_weekGoes_92 ?_
        refine qe_top (y := nI (5 * h + w)) (by rw [show (5 : Int32) = nI 5 from rfl, pk_mul, nI_add]) ?_
        refine qi_dup2 dX12_weekGoes_93 ?_
        refine qi_ialdN (x := M2.1 322 (5 * h + w)) (j := 5 * h + w) dX12_weekGoes_94 rfl (by decide) rfl (by omega) (by decide) rfl ?_
        refine qi_iload (i := 6) (x := c) dX12_weekGoes_95 rfl ?_
        refine qi_iadd dX12_weekGoes_97 ?_
        refine qi_iastN (j := 5 * h + w) dX12_weekGoes_98 rfl (by decide) rfl (by omega) (by decide) ?_
        refine qi_aload_n (i := 0) (x := 280) dX12_weekGoes_99 rfl rfl ?_
        refine qi_getR (x := 322) flX12_143 dX12_weekGoes_100 rfl (by decide) (hM2 280 59 322 rfl) ?_
        refine qi_bipush (v := 40) dX12_weekGoes_103 rfl ?_
        refine qi_iload_n (i := 2) (x := nI h) dX12_weekGoes_105 rfl rfl ?_
        refine qi_iadd dX12_weekGoes_106 ?_
        refine qe_top (y := nI (40 + h)) (by rw [show (40 : Int32) = nI 40 from rfl, nI_add]) ?_
        refine qi_dup2 dX12_weekGoes_107 ?_
        refine qi_ialdN (x := (wI M2 322 (5 * h + w) ((M2.1 322 (5 * h + w)) + c)).1 322 (40 + h)) (j := 40 + h) dX12_weekGoes_108 rfl (by decide) rfl (by omega) (by decide) rfl ?_
        refine qi_iload (i := 4) (x := n) dX12_weekGoes_109 rfl ?_
        refine qi_iload (i := 6) (x := c) dX12_weekGoes_111 rfl ?_
        refine qi_isub dX12_weekGoes_113 ?_
        refine qi_iadd dX12_weekGoes_114 ?_
        refine qi_iastN (j := 40 + h) dX12_weekGoes_115 rfl (by decide) rfl (by omega) (by decide) ?_
        refine qi_aload_n (i := 0) (x := 280) dX12_weekGoes_116 rfl rfl ?_
        refine qi_getR (x := 322) flX12_143 dX12_weekGoes_117 rfl (by decide) (hM2 280 59 322 rfl) ?_
        refine qi_bipush (v := 56) dX12_weekGoes_120 rfl ?_
        refine qi_iload_n (i := 2) (x := nI h) dX12_weekGoes_122 rfl rfl ?_
        refine qi_iadd dX12_weekGoes_123 ?_
        refine qe_top (y := nI (56 + h)) (by rw [show (56 : Int32) = nI 56 from rfl, nI_add]) ?_
        refine qi_dup2 dX12_weekGoes_124 ?_
        refine qi_ialdN (x := (wI (wI M2 322 (5 * h + w) ((M2.1 322 (5 * h + w)) + c)) 322 (40 + h) (((wI M2 322 (5 * h + w) ((M2.1 322 (5 * h + w)) + c)).1 322 (40 + h)) + (n - c))).1 322 (56 + h)) (j := 56 + h) dX12_weekGoes_125 rfl (by decide) rfl (by omega) (by decide) rfl ?_
        refine qi_iload (i := 6) (x := c) dX12_weekGoes_126 rfl ?_
        refine qi_iadd dX12_weekGoes_128 ?_
        refine qi_iastN (j := 56 + h) dX12_weekGoes_129 rfl (by decide) rfl (by omega) (by decide) ?_
        refine qi_aload_n (i := 0) (x := 280) dX12_weekGoes_130 rfl rfl ?_
        refine qi_getR (x := 322) flX12_143 dX12_weekGoes_131 rfl (by decide) (hM2 280 59 322 rfl) ?_
        refine qi_bipush (v := 65) dX12_weekGoes_134 rfl ?_
        refine qi_ialdN (x := (wI (wI (wI M2 322 (5 * h + w) ((M2.1 322 (5 * h + w)) + c)) 322 (40 + h) (((wI M2 322 (5 * h + w) ((M2.1 322 (5 * h + w)) + c)).1 322 (40 + h)) + (n - c))) 322 (56 + h) (((wI (wI M2 322 (5 * h + w) ((M2.1 322 (5 * h + w)) + c)) 322 (40 + h) (((wI M2 322 (5 * h + w) ((M2.1 322 (5 * h + w)) + c)).1 322 (40 + h)) + (n - c))).1 322 (56 + h)) + c)).1 322 65) (j := 65) dX12_weekGoes_136 rfl (by decide) rfl (by omega) (by decide) rfl ?_
        refine qi_iload (i := 6) (x := c) dX12_weekGoes_137 rfl ?_
        refine qi_aload_n (i := 0) (x := 280) dX12_weekGoes_139 rfl rfl ?_
        refine qi_getR (x := 292) flX12_52 dX12_weekGoes_140 rfl (by decide) (hM2 280 25 292 rfl) ?_
        refine qi_iconst (v := 5) dX12_weekGoes_143 rfl ?_
        refine qi_aload_n (i := 0) (x := 280) dX12_weekGoes_144 rfl rfl ?_
        refine qi_getI (x := (wI (wI (wI M2 322 (5 * h + w) ((M2.1 322 (5 * h + w)) + c)) 322 (40 + h) (((wI M2 322 (5 * h + w) ((M2.1 322 (5 * h + w)) + c)).1 322 (40 + h)) + (n - c))) 322 (56 + h) (((wI (wI M2 322 (5 * h + w) ((M2.1 322 (5 * h + w)) + c)) 322 (40 + h) (((wI M2 322 (5 * h + w) ((M2.1 322 (5 * h + w)) + c)).1 322 (40 + h)) + (n - c))).1 322 (56 + h)) + c)).1 280 18) flX12_248 dX12_weekGoes_145 rfl (by decide) rfl ?_
        refine qe_top (y := nI L) (by simp only [wI_1]; exact hP2.1.2) ?_
        refine qi_imul dX12_weekGoes_148 ?_
        refine qi_iload_n (i := 3) (x := nI w) dX12_weekGoes_149 rfl rfl ?_
        refine qi_iadd dX12_weekGoes_150 ?_
        refine qe_top (y := nI (5 * L + w)) (by rw [show (5 : Int32) = nI 5 from rfl, pk_mul, nI_add]) ?_
        refine qi_ialdN (x := (wI (wI (wI M2 322 (5 * h + w) ((M2.1 322 (5 * h + w)) + c)) 322 (40 + h) (((wI M2 322 (5 * h + w) ((M2.1 322 (5 * h + w)) + c)).1 322 (40 + h)) + (n - c))) 322 (56 + h) (((wI (wI M2 322 (5 * h + w) ((M2.1 322 (5 * h + w)) + c)) 322 (40 + h) (((wI M2 322 (5 * h + w) ((M2.1 322 (5 * h + w)) + c)).1 322 (40 + h)) + (n - c))).1 322 (56 + h)) + c)).1 292 (5 * L + w)) (j := 5 * L + w) dX12_weekGoes_151 rfl (by decide) rfl (by omega) (by decide) rfl ?_
        refine qe_top (y := nI z) (by simp only [wI_1]; rw [← hzx]; exact e0b) ?_
        refine qi_imul dX12_weekGoes_152 ?_
        refine qi_iadd dX12_weekGoes_153 ?_
        refine qi_istore (i := 7) (L2 := [some (.ref 280), some (.int (nI k)), some (.int (nI h)), some (.int (nI w)), some (.int n), some (.int (nI (π.1 4) - allF σ)), some (.int c), some (.int (((wI (wI (wI M2 322 (5 * h + w) ((M2.1 322 (5 * h + w)) + c)) 322 (40 + h) (((wI M2 322 (5 * h + w) ((M2.1 322 (5 * h + w)) + c)).1 322 (40 + h)) + (n - c))) 322 (56 + h) (((wI (wI M2 322 (5 * h + w) ((M2.1 322 (5 * h + w)) + c)) 322 (40 + h) (((wI M2 322 (5 * h + w) ((M2.1 322 (5 * h + w)) + c)).1 322 (40 + h)) + (n - c))).1 322 (56 + h)) + c)).1 322 65) + (c * (nI z))))]) dX12_weekGoes_154 (Nat.le_of_ble_eq_true rfl) rfl ?_
        refine qi_aload_n (i := 0) (x := 280) dX12_weekGoes_156 rfl rfl ?_
        refine qi_getR (x := 322) flX12_143 dX12_weekGoes_157 rfl (by decide) (hM2 280 59 322 rfl) ?_
        refine qi_bipush (v := 65) dX12_weekGoes_160 rfl ?_
        refine qi_iload (i := 7) (x := ((wI (wI (wI M2 322 (5 * h + w) ((M2.1 322 (5 * h + w)) + c)) 322 (40 + h) (((wI M2 322 (5 * h + w) ((M2.1 322 (5 * h + w)) + c)).1 322 (40 + h)) + (n - c))) 322 (56 + h) (((wI (wI M2 322 (5 * h + w) ((M2.1 322 (5 * h + w)) + c)) 322 (40 + h) (((wI M2 322 (5 * h + w) ((M2.1 322 (5 * h + w)) + c)).1 322 (40 + h)) + (n - c))).1 322 (56 + h)) + c)).1 322 65) + (c * (nI z))) dX12_weekGoes_162 rfl ?_
        refine qi_ldcw dX12_weekGoes_164 cnX12_370 ?_
        have hcm : nI z * 1 = nI z := by grind
        have E : ∀ y, y = minI 1000000000 (σ 65 + c * nI z) → qRow (wI (wI (wI (wI M2 322 (5 * h + w) (M2.1 322 (5 * h + w) + c)) 322 (40 + h) ((wI M2 322 (5 * h + w) (M2.1 322 (5 * h + w) + c)).1 322 (40 + h) + (n - c))) 322 (56 + h) ((wI (wI M2 322 (5 * h + w) (M2.1 322 (5 * h + w) + c)) 322 (40 + h) ((wI M2 322 (5 * h + w) (M2.1 322 (5 * h + w) + c)).1 322 (40 + h) + (n - c))).1 322 (56 + h) + c)) 322 65 y) (letInF (nI (π.1 4)) h w (nI z) n σ) := by
          intro y hy k hk
          have hRk := hR2 k hk
          have r1 := hR2 (5 * h + w) (by omega)
          have r2 := hR2 (40 + h) (by omega)
          have r3 := hR2 (56 + h) (by omega)
          have r4 := hR2 65 (by omega)
          simp only [wI_1, letInF, hc2]
          grind
        have F : ∀ y, qFr SN M (wI (wI (wI (wI M2 322 (5 * h + w) (M2.1 322 (5 * h + w) + c)) 322 (40 + h) ((wI M2 322 (5 * h + w) (M2.1 322 (5 * h + w) + c)).1 322 (40 + h) + (n - c))) 322 (56 + h) ((wI (wI M2 322 (5 * h + w) (M2.1 322 (5 * h + w) + c)) 322 (40 + h) ((wI M2 322 (5 * h + w) (M2.1 322 (5 * h + w) + c)).1 322 (40 + h) + (n - c))).1 322 (56 + h) + c)) 322 65 y) := fun y => (((hfa.wI (by unfold SN; omega)).wI (by unfold SN; omega)).wI (by unfold SN; omega)).wI (by unfold SN; omega)
        have r5 : (wI (wI (wI M2 322 (5 * h + w) (M2.1 322 (5 * h + w) + c)) 322 (40 + h) ((wI M2 322 (5 * h + w) (M2.1 322 (5 * h + w) + c)).1 322 (40 + h) + (n - c))) 322 (56 + h) ((wI (wI M2 322 (5 * h + w) (M2.1 322 (5 * h + w) + c)) 322 (40 + h) ((wI M2 322 (5 * h + w) (M2.1 322 (5 * h + w) + c)).1 322 (40 + h) + (n - c))).1 322 (56 + h) + c)).1 322 65 = σ 65 := by
          have r4 := hR2 65 (by omega)
          simp only [wI_1]
          grind
        refine qi_icmp_le (tgt := 176) dX12_weekGoes_167 (by decide) (fun c1 => ?_) (fun c1 => ?_)
        · refine qi_iload (i := 7) (x := ((wI (wI (wI M2 322 (5 * h + w) ((M2.1 322 (5 * h + w)) + c)) 322 (40 + h) (((wI M2 322 (5 * h + w) ((M2.1 322 (5 * h + w)) + c)).1 322 (40 + h)) + (n - c))) 322 (56 + h) (((wI (wI M2 322 (5 * h + w) ((M2.1 322 (5 * h + w)) + c)) 322 (40 + h) (((wI M2 322 (5 * h + w) ((M2.1 322 (5 * h + w)) + c)).1 322 (40 + h)) + (n - c))).1 322 (56 + h)) + c)).1 322 65) + (c * (nI z))) dX12_weekGoes_176 rfl ?_
          refine qi_iastN (j := 65) dX12_weekGoes_178 rfl (by decide) rfl (by omega) (by decide) ?_
          refine qi_iinc (i := 1) (x := nI k) (v := nI (k + 1)) (L2 := [some (.ref 280), some (.int (nI (k + 1))), some (.int (nI h)), some (.int (nI w)), some (.int n), some (.int (nI (π.1 4) - allF σ)), some (.int c), some (.int (((wI (wI (wI M2 322 (5 * h + w) ((M2.1 322 (5 * h + w)) + c)) 322 (40 + h) (((wI M2 322 (5 * h + w) ((M2.1 322 (5 * h + w)) + c)).1 322 (40 + h)) + (n - c))) 322 (56 + h) (((wI (wI M2 322 (5 * h + w) ((M2.1 322 (5 * h + w)) + c)) 322 (40 + h) (((wI M2 322 (5 * h + w) ((M2.1 322 (5 * h + w)) + c)).1 322 (40 + h)) + (n - c))).1 322 (56 + h)) + c)).1 322 65) + (c * (nI z))))]) dX12_weekGoes_179 rfl (nI_1 k) (Nat.le_of_ble_eq_true rfl) rfl ?_
          refine qi_goto (tgt := 2) dX12_weekGoes_182 (by decide) ?_
          refine ih1 _ _ _ _ _ _ _ (by omega) (F _) (E _ ?_)
          rw [r5] at c1 ⊢
          unfold minI
          grind
        · refine qi_ldcw dX12_weekGoes_170 cnX12_370 ?_
          refine qi_goto (tgt := 178) dX12_weekGoes_173 (by decide) ?_
          refine qi_iastN (j := 65) dX12_weekGoes_178 rfl (by decide) rfl (by omega) (by decide) ?_
          refine qi_iinc (i := 1) (x := nI k) (v := nI (k + 1)) (L2 := [some (.ref 280), some (.int (nI (k + 1))), some (.int (nI h)), some (.int (nI w)), some (.int n), some (.int (nI (π.1 4) - allF σ)), some (.int c), some (.int (((wI (wI (wI M2 322 (5 * h + w) ((M2.1 322 (5 * h + w)) + c)) 322 (40 + h) (((wI M2 322 (5 * h + w) ((M2.1 322 (5 * h + w)) + c)).1 322 (40 + h)) + (n - c))) 322 (56 + h) (((wI (wI M2 322 (5 * h + w) ((M2.1 322 (5 * h + w)) + c)) 322 (40 + h) (((wI M2 322 (5 * h + w) ((M2.1 322 (5 * h + w)) + c)).1 322 (40 + h)) + (n - c))).1 322 (56 + h)) + c)).1 322 65) + (c * (nI z))))]) dX12_weekGoes_179 rfl (nI_1 k) (Nat.le_of_ble_eq_true rfl) rfl ?_
          refine qi_goto (tgt := 2) dX12_weekGoes_182 (by decide) ?_
          refine ih1 _ _ _ _ _ _ _ (by omega) (F _) (E _ ?_)
          rw [r5] at c1
          unfold minI
          grind
      refine qi_isub dX12_weekGoes_65 ?_
      refine qi_istore (i := 5) (L2 := [some (.ref 280), some (.int (nI k)), some (.int (nI (π.2.1 6 k))), some (.int (nI (π.2.1 7 k))), some (.int n), some (.int ((nI (π.1 4)) - (allF σ))), x6, x7]) dX12_weekGoes_66 (Nat.le_of_ble_eq_true rfl) rfl ?_
      refine qi_iload (i := 4) (x := n) dX12_weekGoes_68 rfl ?_
      refine qi_iload (i := 5) (x := (nI (π.1 4)) - (allF σ)) dX12_weekGoes_70 rfl ?_
      refine qi_icmp_ge (tgt := 80) dX12_weekGoes_72 (by decide) (fun c1 => ?_) (fun c1 => ?_)
      · refine qi_iload (i := 5) (x := (nI (π.1 4)) - (allF σ)) dX12_weekGoes_80 rfl ?_
        exact J _ (by unfold comesF minI; grind)
      · refine qi_iload (i := 4) (x := n) dX12_weekGoes_75 rfl ?_
        refine qi_goto (tgt := 82) dX12_weekGoes_77 (by decide) ?_
        exact J _ (by unfold comesF minI; grind)
  refine qV.of (j := 7) (pn_RX12) rfl ?_
  show qT g kX12_weekGoes (qR 4 0 0) (qZV g (fun M' => qRow M' (weekF π away ρ) ∧ qFr SN M M')) 0 [some (.ref 280), none, none, none, none, none, none, none] [] 333 M (0, 0)
  refine qi_iconst (v := 0) dX12_weekGoes_0 rfl ?_
  refine qi_istore_n (i := 1) (L2 := [some (.ref 280), some (.int 0), none, none, none, none, none, none]) dX12_weekGoes_1 rfl (Nat.le_of_ble_eq_true rfl) rfl ?_
  exact K (π.1 2) 0 M none none none none none none (by omega) qFr.rf hR
