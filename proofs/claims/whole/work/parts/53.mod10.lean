/-! ThimbleSeaModel: owns, claim, ranked, tells, enough, salty -/
theorem div_add_dvd {a b g : Nat} (hg : 0 < g) (h : g ∣ a) : a / g + b / g = (a + b) / g := by
  obtain ⟨c, rfl⟩ := h
  rw [Nat.mul_add_div hg, Nat.mul_div_cancel_left c hg]
theorem pk_lMul (a b : Nat) : lN a * lN b = lN (a * b) := (Int64.ofNat_mul a b).symm
theorem pk_lAdd (a b : Nat) : lN a + lN b = lN (a + b) := (Int64.ofNat_add a b).symm
theorem gcd_small {m A : Nat} (h : 0 < m) (hA : m ≤ A) (hb : A < 2 ^ 31) : 0 < Nat.gcd m A ∧ Nat.gcd m A < 2 ^ 31 := by
  have h1 := Nat.gcd_pos_of_pos_left A h
  have h2 := Nat.gcd_le_left A h
  omega
set_option maxHeartbeats 1000000 in
theorem c_X12_owns (g : qG) {M : qM} (hM : qRf M) {L : Nat} {π : qPl} (hP : qPlanM M L π) (hok : okPl π) {ρ : Nat → Int32} (hN : qNow M ρ) (hO : okSea π ρ) (h b : Int32) : qI g 2 kX12_owns [.ref 280, .int h, .int b] M (fun r M' => r = ownsQ π ρ h b ∧ qFr SM M M') := by
  obtain ⟨res, hres⟩ : ∃ res, res = ownsQ π ρ h b := ⟨_, rfl⟩
  rw [← hres]
  have hh8 := hok.2.1
  have hb := hok.2.2.2.2.1
  refine qI.of (j := 3) (pn_RX12) rfl ?_
  show qT g kX12_owns (qR 2 0 0) (qZI g (fun r M' => r = res ∧ qFr SM M M')) 0 [some (.ref 280), some (.int h), some (.int b), none, none, none] [] 333 M (0, 0)
  refine qi_aload_n (i := 0) (x := 280) dX12_owns_0 rfl rfl ?_
  refine qi_iload_n (i := 1) (x := h) dX12_owns_1 rfl rfl ?_
  refine qi_callPVI (v := isF (π.1 1) h) (K' := kX12_isHeir) (As := [.int h]) mlX12_380 okX12_isHeir dX12_owns_2 (c_X12_isHeir g hM hP hok h) rfl (by decide) rfl (by decide) rfl rfl (Nat.le_of_ble_eq_true rfl) ⟨(Nat.le_of_ble_eq_true rfl), (Nat.le_of_ble_eq_true rfl)⟩ ⟨Nat.le_refl _, Nat.le_refl _⟩ ?_
  refine qi_if_ne (tgt := 10) dX12_owns_5 (by decide) (fun c1 => ?_) (fun c1 => ?_)
  · refine qi_aload_n (i := 0) (x := 280) dX12_owns_10 rfl rfl ?_
    refine qi_callVV (K' := kX12_copies) (As := []) mlX12_383 okX12_copies dX12_owns_11 (c_X12_copies g hM hN) rfl (by decide) rfl (by decide) rfl rfl (Nat.le_of_ble_eq_true rfl) ⟨(Nat.le_of_ble_eq_true rfl), (Nat.le_of_ble_eq_true rfl)⟩ ⟨Nat.le_refl _, Nat.le_refl _⟩ (fun M2 ⟨hR2, e60, e61, _, hf2⟩ => ?_)
    have hM2 := hM.fr hf2
    obtain ⟨k, hk, ek⟩ := isF_of (by omega) c1
    have hd := hO.drop hok (k := k) (by omega)
    obtain ⟨A, eA, hA, hA2⟩ := hO.all hok
    have hdA := dN_le ρ (h := k) (by omega)
    unfold ownsQ at hres
    rw [if_neg c1, ek, nI_clamp (by omega)] at hres
    rw [ek]
    refine qi_aload_n (i := 0) (x := 280) dX12_owns_14 rfl rfl ?_
    refine qi_iload_n (i := 1) (x := nI k) dX12_owns_15 rfl rfl ?_
    refine qi_callPVI (v := dropsF ρ k) (K' := kX12_dropsOf) (As := [.int (nI k)]) mlX12_377 okX12_dropsOf dX12_owns_16 (c_X12_dropsOf g hM2 hR2 (by omega)) rfl (by decide) rfl (by decide) rfl rfl (Nat.le_of_ble_eq_true rfl) ⟨(Nat.le_of_ble_eq_true rfl), (Nat.le_of_ble_eq_true rfl)⟩ ⟨Nat.le_refl _, Nat.le_refl _⟩ ?_
    refine qi_istore_n (i := 3) (L2 := [some (.ref 280), some (.int (nI k)), some (.int b), some (.int (dropsF ρ k)), none, none]) dX12_owns_19 rfl (Nat.le_of_ble_eq_true rfl) rfl ?_
    refine qi_aload_n (i := 0) (x := 280) dX12_owns_20 rfl rfl ?_
    refine qi_callPVI (v := allF ρ) (K' := kX12_allDrops) (As := []) mlX12_352 okX12_allDrops dX12_owns_21 (c_X12_allDrops g hM2 hR2) rfl (by decide) rfl (by decide) rfl rfl (Nat.le_of_ble_eq_true rfl) ⟨(Nat.le_of_ble_eq_true rfl), (Nat.le_of_ble_eq_true rfl)⟩ ⟨Nat.le_refl _, Nat.le_refl _⟩ ?_
    refine qi_istore (i := 4) (L2 := [some (.ref 280), some (.int (nI k)), some (.int b), some (.int (dropsF ρ k)), some (.int (allF ρ)), none]) dX12_owns_24 (Nat.le_of_ble_eq_true rfl) rfl ?_
    refine qi_iload_n (i := 3) (x := dropsF ρ k) dX12_owns_26 rfl rfl ?_
    refine qi_if_ne (tgt := 40) dX12_owns_27 (by decide) (fun c2 => ?_) (fun c2 => ?_)
    · rw [if_neg c2] at hres
      have hm : 0 < dN ρ k := Nat.pos_of_ne_zero (fun z => c2 (by rw [hd, z]; rfl))
      have hg := gcd_small hm hdA (by omega)
      rw [← hA2] at hres hg hdA
      refine qi_iload_n (i := 3) (x := dropsF ρ k) dX12_owns_40 rfl rfl ?_
      refine qi_i2l dX12_owns_41 ?_
      refine qe_topJ (y := lN (dN ρ k)) (by rw [hd, nI_l (by omega)]) ?_
      refine qi_iload (i := 4) (x := allF ρ) dX12_owns_42 rfl ?_
      refine qi_i2l dX12_owns_44 ?_
      refine qe_topJ (y := lN A) (by rw [eA, nI_l (by omega)]) ?_
      refine qi_callPSJ (v := lN (Nat.gcd (dN ρ k) A)) (K' := kX12_common) (As := [.long (lN (dN ρ k)), .long (lN A)]) mlX12_392 okX12_common dX12_owns_45 (c_X12_common g (by omega) (by omega)) rfl rfl (Nat.le_of_ble_eq_true rfl) ⟨(Nat.le_of_ble_eq_true rfl), (Nat.le_of_ble_eq_true rfl)⟩ ⟨Nat.le_refl _, Nat.le_refl _⟩ ?_
      refine qi_l2i dX12_owns_48 ?_
      refine qe_top (y := nI (Nat.gcd (dN ρ k) A)) (lN_i _) ?_
      refine qi_istore (i := 5) (L2 := [some (.ref 280), some (.int (nI k)), some (.int b), some (.int (dropsF ρ k)), some (.int (allF ρ)), some (.int (nI (Nat.gcd (dN ρ k) A)))]) dX12_owns_49 (Nat.le_of_ble_eq_true rfl) rfl ?_
      refine qi_iload_n (i := 2) (x := b) dX12_owns_51 rfl rfl ?_
      refine qi_if_eq (tgt := 63) dX12_owns_52 (by decide) (fun c3 => ?_) (fun c3 => ?_)
      · skip
        refine qi_iload_n (i := 3) (x := dropsF ρ k) dX12_owns_63 rfl rfl ?_
        refine qi_iload (i := 5) (x := nI (Nat.gcd (dN ρ k) A)) dX12_owns_64 rfl ?_
        refine qi_idiv dX12_owns_66 (nI_ne0 hg.1 hg.2) ?_
        exact qi_retI rfl rfl dX12_owns_67 (⟨by rw [hres, if_pos c3, hd, pk_div (by omega) hg.1 hg.2], hf2⟩)
      · skip
        refine qi_iload (i := 4) (x := allF ρ) dX12_owns_55 rfl ?_
        refine qi_iload (i := 5) (x := nI (Nat.gcd (dN ρ k) A)) dX12_owns_57 rfl ?_
        refine qi_idiv dX12_owns_59 (nI_ne0 hg.1 hg.2) ?_
        refine qi_goto (tgt := 67) dX12_owns_60 (by decide) ?_
        exact qi_retI rfl rfl dX12_owns_67 (⟨by rw [hres, if_neg c3, eA, pk_div (by omega) hg.1 hg.2], hf2⟩)
    · rw [if_pos c2] at hres
      refine qi_iload_n (i := 2) (x := b) dX12_owns_30 rfl rfl ?_
      refine qi_if_eq (tgt := 38) dX12_owns_31 (by decide) (fun c3 => ?_) (fun c3 => ?_)
      · refine qi_iconst (v := 0) dX12_owns_38 rfl ?_
        exact qi_retI rfl rfl dX12_owns_39 (⟨by rw [hres, if_pos c3], hf2⟩)
      · refine qi_iconst (v := 1) dX12_owns_34 rfl ?_
        refine qi_goto (tgt := 39) dX12_owns_35 (by decide) ?_
        exact qi_retI rfl rfl dX12_owns_39 (⟨by rw [hres, if_neg c3], hf2⟩)
  · refine qi_iconst (v := -1) dX12_owns_8 rfl ?_
    exact qi_retI rfl rfl dX12_owns_9 (⟨by rw [hres]; unfold ownsQ; rw [if_pos c1], qFr.rf⟩)
set_option maxHeartbeats 2000000 in
theorem c_X12_claim (g : qG) {M : qM} (hM : qRf M) {L : Nat} {π : qPl} (hP : qPlanM M L π) (hC : qClM M L π) (hok : okPl π) (hoc : okCl π) {ρ : Nat → Int32} (hN : qNow M ρ) (hO : okSea π ρ) (h b : Int32) : qJ g 2 kX12_claim [.ref 280, .int h, .int b] M (fun r M' => r = claimQ π ρ h b ∧ qFr SM M M') := by
  obtain ⟨res, hres⟩ : ∃ res, res = claimQ π ρ h b := ⟨_, rfl⟩
  rw [← hres]
  have hh8 := hok.2.1
  have hc6 := hok.2.2.2.1
  have hb := hok.2.2.2.2.1
  have hL := hP.1.1
  obtain ⟨A, eA, hA, hA2⟩ := hO.all hok
  have hdb : ∀ k, k < π.1 1 → dN ρ k ≤ 9999 := fun k hk => by have := dN_le ρ (h := k) (by omega); omega
  have K : ∀ k, k < π.1 3 → res = (if b = 0 then lN (claimF π ρ k (π.2.1 8 k)).1 else lN (claimF π ρ k (π.2.1 8 k)).2) → ∀ M2, qFr SM M M2 → qRow M2 ρ → ∀ m i x8 x9 x11, i + m = π.2.1 8 k → qT g kX12_claim (qR 2 0 0) (qZJ g (fun r M' => r = res ∧ qFr SM M M')) 35 [some (.ref 280), some (.int (nI k)), some (.int b), some (.long (lN (claimF π ρ k i).1)), none, some (.long (lN (claimF π ρ k i).2)), none, some (.int (nI i)), x8, x9, none, x11, none] [] 333 M2 (0, 0) := by
    intro k hk hr M2 hf2 hR2 m
    have hM2 := hM.fr hf2
    have eL : M2.1 280 18 = nI L := (hf2.1 _ _ (by unfold SM; omega)).trans hP.1.2
    obtain ⟨q1, q2⟩ := hC k hk
    obtain ⟨o1, o2⟩ := hoc k hk
    have e303 : M2.1 303 (6 * L + k) = nI (π.2.1 8 k) := (hf2.1 _ _ (by unfold SM; omega)).trans q1
    induction m with
    | zero =>
      intro i x8 x9 x11 e
      obtain rfl : i = π.2.1 8 k := by omega
      refine qi_iload (i := 7) (x := nI (π.2.1 8 k)) dX12_claim_35 rfl ?_
      refine qi_aload_n (i := 0) (x := 280) dX12_claim_37 rfl rfl ?_
      refine qi_getR (x := 303) flX12_85 dX12_claim_38 rfl (by decide) (hM2 280 36 303 rfl) ?_
      refine qi_bipush (v := 6) dX12_claim_41 rfl ?_
      refine qi_aload_n (i := 0) (x := 280) dX12_claim_43 rfl rfl ?_
      refine qi_getI (x := M2.1 280 18) flX12_248 dX12_claim_44 rfl (by decide) rfl ?_
      refine qe_top (y := nI L) eL ?_
      refine qi_imul dX12_claim_47 ?_
      refine qi_iload_n (i := 1) (x := nI k) dX12_claim_48 rfl rfl ?_
      refine qi_iadd dX12_claim_49 ?_
      refine qe_top (y := nI (6 * L + k)) (by rw [show (6 : Int32) = nI 6 from rfl, pk_mul, nI_add]) ?_
      refine qi_ialdN (x := M2.1 303 (6 * L + k)) (j := 6 * L + k) dX12_claim_50 rfl (by decide) rfl (by omega) (by decide) rfl ?_
      refine qe_top (y := nI (π.2.1 8 k)) e303 ?_
      refine qi_icmp_ge (tgt := 174) dX12_claim_51 (by decide) (fun _hc => ?_) (fun _h => absurd ((nI_leI (a := π.2.1 8 k) (b := π.2.1 8 k) (by omega) (by omega)).mpr (by omega)) _h)
      refine qi_iload_n (i := 2) (x := b) dX12_claim_174 rfl rfl ?_
      refine qi_if_eq (tgt := 183) dX12_claim_175 (by decide) (fun c => ?_) (fun c => ?_)
      · refine qi_lload_n (i := 3) (x := lN (claimF π ρ k (π.2.1 8 k)).1) dX12_claim_183 rfl rfl ?_
        exact qi_retJ rfl dX12_claim_184 (⟨by rw [hr, if_pos c], hf2⟩)
      · refine qi_lload (i := 5) (x := lN (claimF π ρ k (π.2.1 8 k)).2) dX12_claim_178 rfl ?_
        refine qi_goto (tgt := 184) dX12_claim_180 (by decide) ?_
        exact qi_retJ rfl dX12_claim_184 (⟨by rw [hr, if_neg c], hf2⟩)
    | succ m ih =>
      intro i x8 x9 x11 e
      have A := ih (i + 1)
      obtain ⟨k1, k2, k3⟩ := claimF_ok hoc hk hdb i (by omega)
      obtain ⟨j1, j2, j3⟩ := claimF_ok hoc hk hdb (i + 1) (by omega)
      obtain ⟨f1, f2, f3⟩ := q2 i (by omega)
      obtain ⟨g3, ⟨g4, g5⟩, g6⟩ := o2 i (by omega)
      have g7 := hdb _ g6
      have e304 : M2.1 304 (6 * (6 * L + k) + i) = nI (π.2.1 9 (6 * k + i)) := (hf2.1 _ _ (by unfold SM; omega)).trans f1
      have e305 : M2.1 305 (6 * (6 * L + k) + i) = nI (π.2.1 10 (6 * k + i)) := (hf2.1 _ _ (by unfold SM; omega)).trans f2
      have e306 : M2.1 306 (6 * (6 * L + k) + i) = nI (π.2.1 11 (6 * k + i)) := (hf2.1 _ _ (by unfold SM; omega)).trans f3
      have hdr := hO.drop hok (k := π.2.1 11 (6 * k + i)) (by omega)
      have s1 : (claimF π ρ k (i + 1)).1 = ((claimF π ρ k i).1 * π.2.1 10 (6 * k + i) + (claimF π ρ k i).2 * π.2.1 9 (6 * k + i) * dN ρ (π.2.1 11 (6 * k + i))) / Nat.gcd ((claimF π ρ k i).1 * π.2.1 10 (6 * k + i) + (claimF π ρ k i).2 * π.2.1 9 (6 * k + i) * dN ρ (π.2.1 11 (6 * k + i))) ((claimF π ρ k i).2 * π.2.1 10 (6 * k + i)) := rfl
      have s2 : (claimF π ρ k (i + 1)).2 = ((claimF π ρ k i).2 * π.2.1 10 (6 * k + i)) / Nat.gcd ((claimF π ρ k i).1 * π.2.1 10 (6 * k + i) + (claimF π ρ k i).2 * π.2.1 9 (6 * k + i) * dN ρ (π.2.1 11 (6 * k + i))) ((claimF π ρ k i).2 * π.2.1 10 (6 * k + i)) := rfl
      generalize hv2 : claimF π ρ k (i + 1) = uv2 at *
      generalize hv : claimF π ρ k i = uv at *
      generalize π.2.1 11 (6 * k + i) = hr at *
      generalize π.2.1 10 (6 * k + i) = w at *
      generalize π.2.1 9 (6 * k + i) = p at *
      obtain ⟨u, l⟩ := uv
      simp only at k1 k2 k3 s1 s2
      have hi5 : i ≤ 5 := by omega
      have hl5 : l ≤ 9509900499 := Nat.le_trans k2 (Nat.le_trans (Nat.pow_le_pow_right (by omega) hi5) (by decide))
      have hu5 : u ≤ 5 * 989901 * 9509900499 := Nat.le_trans k3 (Nat.mul_le_mul (Nat.mul_le_mul_right _ hi5) hl5)
      have hG1 : 0 < Nat.gcd l w := Nat.gcd_pos_of_pos_left _ (by omega)
      have hGw : Nat.gcd l w ≤ w := Nat.gcd_le_right _ (by omega)
      have d1 := Nat.gcd_dvd_left l w
      have d2 := Nat.gcd_dvd_right l w
      generalize hG : Nat.gcd l w = G at *
      have hpd : p * dN ρ hr ≤ 99 * 9999 := Nat.mul_le_mul g3 g7
      have hlG : l / G ≤ l := Nat.div_le_self _ _
      have hwG : w / G ≤ w := Nat.div_le_self _ _
      have hmore : p * dN ρ hr * (l / G) ≤ 99 * 9999 * 9509900499 := Nat.mul_le_mul hpd (Nat.le_trans hlG hl5)
      have huw : u * (w / G) ≤ 5 * 989901 * 9509900499 * 99 := Nat.mul_le_mul hu5 (Nat.le_trans hwG g5)
      have hlw : l / G * w ≤ 9509900499 * 99 := Nat.mul_le_mul (Nat.le_trans hlG hl5) g5
      -- the numbers of the next step, lessened by G
      have hDG : l / G * w = l * w / G := by rw [Nat.div_mul_right_comm d1]
      have hNG : u * (w / G) + p * dN ρ hr * (l / G) = (u * w + l * p * dN ρ hr) / G := by
        rw [← Nat.mul_div_assoc _ d2, ← Nat.mul_div_assoc _ d1, div_add_dvd hG1 (Nat.dvd_trans d2 (Nat.dvd_mul_left w u))]
        congr 2
        rw [Nat.mul_comm (p * dN ρ hr) l, Nat.mul_assoc]
      have dN1 : G ∣ u * w + l * p * dN ρ hr := Nat.dvd_add (Nat.dvd_trans d2 (Nat.dvd_mul_left w u)) (Nat.dvd_trans d1 (by rw [Nat.mul_assoc]; exact Nat.dvd_mul_right l _))
      have dD1 : G ∣ l * w := Nat.dvd_trans d1 (Nat.dvd_mul_right l w)
      have t1 : uv2.1 = (u * (w / G) + p * dN ρ hr * (l / G)) / Nat.gcd (l / G * w) (u * (w / G) + p * dN ρ hr * (l / G)) := by
        rw [hDG, hNG, Nat.gcd_comm, gcd_less dN1 dD1 hG1]
        exact s1
      have t2 : uv2.2 = l / G * w / Nat.gcd (l / G * w) (u * (w / G) + p * dN ρ hr * (l / G)) := by
        rw [hDG, hNG, gcd_less dD1 dN1 hG1, Nat.gcd_comm]
        exact s2
      have hD0 : 0 < l / G * w := Nat.mul_pos (Nat.div_pos (Nat.le_of_dvd (by omega) d1) hG1) (by omega)
      generalize hX : u * (w / G) + p * dN ρ hr * (l / G) = X at *
      generalize hY : l / G * w = Y at *
      have hG2 : 0 < Nat.gcd Y X := Nat.gcd_pos_of_pos_left _ hD0
      have hG2l : Nat.gcd Y X ≤ Y := Nat.gcd_le_left _ hD0
      refine qi_iload (i := 7) (x := nI i) dX12_claim_35 rfl ?_
      refine qi_aload_n (i := 0) (x := 280) dX12_claim_37 rfl rfl ?_
      refine qi_getR (x := 303) flX12_85 dX12_claim_38 rfl (by decide) (hM2 280 36 303 rfl) ?_
      refine qi_bipush (v := 6) dX12_claim_41 rfl ?_
      refine qi_aload_n (i := 0) (x := 280) dX12_claim_43 rfl rfl ?_
      refine qi_getI (x := M2.1 280 18) flX12_248 dX12_claim_44 rfl (by decide) rfl ?_
      refine qe_top (y := nI L) eL ?_
      refine qi_imul dX12_claim_47 ?_
      refine qi_iload_n (i := 1) (x := nI k) dX12_claim_48 rfl rfl ?_
      refine qi_iadd dX12_claim_49 ?_
      refine qe_top (y := nI (6 * L + k)) (by rw [show (6 : Int32) = nI 6 from rfl, pk_mul, nI_add]) ?_
      refine qi_ialdN (x := M2.1 303 (6 * L + k)) (j := 6 * L + k) dX12_claim_50 rfl (by decide) rfl (by omega) (by decide) rfl ?_
      refine qe_top (y := nI (π.2.1 8 k)) e303 ?_
      refine qi_icmp_ge (tgt := 174) dX12_claim_51 (by decide) (fun _h => absurd ((nI_leI (a := π.2.1 8 k) (b := i) (by omega) (by omega)).mp _h) (by omega)) (fun _hc => ?_)
      refine qi_bipush (v := 6) dX12_claim_54 rfl ?_
      refine qi_bipush (v := 6) dX12_claim_56 rfl ?_
      refine qi_aload_n (i := 0) (x := 280) dX12_claim_58 rfl rfl ?_
      refine qi_getI (x := M2.1 280 18) flX12_248 dX12_claim_59 rfl (by decide) rfl ?_
      refine qe_top (y := nI L) eL ?_
      refine qi_imul dX12_claim_62 ?_
      refine qi_iload_n (i := 1) (x := nI k) dX12_claim_63 rfl rfl ?_
      refine qi_iadd dX12_claim_64 ?_
      refine qi_imul dX12_claim_65 ?_
      refine qi_iload (i := 7) (x := nI i) dX12_claim_66 rfl ?_
      refine qi_iadd dX12_claim_68 ?_
      refine qe_top (y := nI (6 * (6 * L + k) + i)) (by rw [show (6 : Int32) = nI 6 from rfl, pk_mul, nI_add, pk_mul, nI_add]) ?_
      refine qi_istore (i := 8) (L2 := [some (.ref 280), some (.int (nI k)), some (.int b), some (.long (lN u)), none, some (.long (lN l)), none, some (.int (nI i)), some (.int (nI (6 * (6 * L + k) + i))), x9, none, x11, none]) dX12_claim_69 (Nat.le_of_ble_eq_true rfl) rfl ?_
      refine qi_lload (i := 5) (x := lN l) dX12_claim_71 rfl ?_
      refine qi_aload_n (i := 0) (x := 280) dX12_claim_73 rfl rfl ?_
      refine qi_getR (x := 305) flX12_91 dX12_claim_74 rfl (by decide) (hM2 280 38 305 rfl) ?_
      refine qi_iload (i := 8) (x := nI (6 * (6 * L + k) + i)) dX12_claim_77 rfl ?_
      refine qi_ialdN (x := M2.1 305 (6 * (6 * L + k) + i)) (j := 6 * (6 * L + k) + i) dX12_claim_79 rfl (by decide) rfl (by omega) (by decide) rfl ?_
      refine qe_top (y := nI w) e305 ?_
      refine qi_i2l dX12_claim_80 ?_
      refine qe_topJ (y := lN w) (nI_l (by omega)) ?_
      refine qi_callPSJ (v := lN (Nat.gcd l w)) (K' := kX12_common) (As := [.long (lN l), .long (lN w)]) mlX12_392 okX12_common dX12_claim_81 (c_X12_common g (by omega) (by omega)) rfl rfl (Nat.le_of_ble_eq_true rfl) ⟨(Nat.le_of_ble_eq_true rfl), (Nat.le_of_ble_eq_true rfl)⟩ ⟨Nat.le_refl _, Nat.le_refl _⟩ ?_
      rw [hG]
      refine qi_lstore (i := 9) (L2 := [some (.ref 280), some (.int (nI k)), some (.int b), some (.long (lN u)), none, some (.long (lN l)), none, some (.int (nI i)), some (.int (nI (6 * (6 * L + k) + i))), some (.long (lN G)), none, x11, none]) dX12_claim_84 (Nat.le_of_ble_eq_true rfl) rfl ?_
      refine qi_aload_n (i := 0) (x := 280) dX12_claim_86 rfl rfl ?_
      refine qi_getR (x := 304) flX12_88 dX12_claim_87 rfl (by decide) (hM2 280 37 304 rfl) ?_
      refine qi_iload (i := 8) (x := nI (6 * (6 * L + k) + i)) dX12_claim_90 rfl ?_
      refine qi_ialdN (x := M2.1 304 (6 * (6 * L + k) + i)) (j := 6 * (6 * L + k) + i) dX12_claim_92 rfl (by decide) rfl (by omega) (by decide) rfl ?_
      refine qe_top (y := nI p) e304 ?_
      refine qi_i2l dX12_claim_93 ?_
      refine qe_topJ (y := lN p) (nI_l (by omega)) ?_
      refine qi_aload_n (i := 0) (x := 280) dX12_claim_94 rfl rfl ?_
      refine qi_aload_n (i := 0) (x := 280) dX12_claim_95 rfl rfl ?_
      refine qi_getR (x := 306) flX12_94 dX12_claim_96 rfl (by decide) (hM2 280 39 306 rfl) ?_
      refine qi_iload (i := 8) (x := nI (6 * (6 * L + k) + i)) dX12_claim_99 rfl ?_
      refine qi_ialdN (x := M2.1 306 (6 * (6 * L + k) + i)) (j := 6 * (6 * L + k) + i) dX12_claim_101 rfl (by decide) rfl (by omega) (by decide) rfl ?_
      refine qe_top (y := nI hr) e306 ?_
      refine qi_callPVI (v := dropsF ρ hr) (K' := kX12_dropsOf) (As := [.int (nI hr)]) mlX12_377 okX12_dropsOf dX12_claim_102 (c_X12_dropsOf g hM2 hR2 (by omega)) rfl (by decide) rfl (by decide) rfl rfl (Nat.le_of_ble_eq_true rfl) ⟨(Nat.le_of_ble_eq_true rfl), (Nat.le_of_ble_eq_true rfl)⟩ ⟨Nat.le_refl _, Nat.le_refl _⟩ ?_
      refine qi_i2l dX12_claim_105 ?_
      refine qe_topJ (y := lN (dN ρ hr)) (by rw [hdr, nI_l (by omega)]) ?_
      refine qi_lmul dX12_claim_106 ?_
      refine qi_lload (i := 5) (x := lN l) dX12_claim_107 rfl ?_
      refine qi_lload (i := 9) (x := lN G) dX12_claim_109 rfl ?_
      refine qi_ldiv dX12_claim_111 (fun z => absurd ((pk_lEQ (b := 0) (by omega) (by omega)).mp z) (by omega)) ?_
      refine qe_topJ (y := lN (l / G)) (pk_lDiv (by omega) hG1 (by omega)) ?_
      refine qi_lmul dX12_claim_112 ?_
      refine qe_topJ (y := lN (p * dN ρ hr * (l / G))) (by rw [pk_lMul, pk_lMul]) ?_
      refine qi_lstore (i := 11) (L2 := [some (.ref 280), some (.int (nI k)), some (.int b), some (.long (lN u)), none, some (.long (lN l)), none, some (.int (nI i)), some (.int (nI (6 * (6 * L + k) + i))), some (.long (lN G)), none, some (.long (lN (p * dN ρ hr * (l / G)))), none]) dX12_claim_113 (Nat.le_of_ble_eq_true rfl) rfl ?_
      refine qi_lload_n (i := 3) (x := lN u) dX12_claim_115 rfl rfl ?_
      refine qi_aload_n (i := 0) (x := 280) dX12_claim_116 rfl rfl ?_
      refine qi_getR (x := 305) flX12_91 dX12_claim_117 rfl (by decide) (hM2 280 38 305 rfl) ?_
      refine qi_iload (i := 8) (x := nI (6 * (6 * L + k) + i)) dX12_claim_120 rfl ?_
      refine qi_ialdN (x := M2.1 305 (6 * (6 * L + k) + i)) (j := 6 * (6 * L + k) + i) dX12_claim_122 rfl (by decide) rfl (by omega) (by decide) rfl ?_
      refine qe_top (y := nI w) e305 ?_
      refine qi_i2l dX12_claim_123 ?_
      refine qe_topJ (y := lN w) (nI_l (by omega)) ?_
      refine qi_lload (i := 9) (x := lN G) dX12_claim_124 rfl ?_
      refine qi_ldiv dX12_claim_126 (fun z => absurd ((pk_lEQ (b := 0) (by omega) (by omega)).mp z) (by omega)) ?_
      refine qe_topJ (y := lN (w / G)) (pk_lDiv (by omega) hG1 (by omega)) ?_
      refine qi_lmul dX12_claim_127 ?_
      refine qi_lload (i := 11) (x := lN (p * dN ρ hr * (l / G))) dX12_claim_128 rfl ?_
      refine qi_ladd dX12_claim_130 ?_
      refine qe_topJ (y := lN X) (by rw [pk_lMul, pk_lAdd, hX]) ?_
      refine qi_lstore_n (i := 3) (L2 := [some (.ref 280), some (.int (nI k)), some (.int b), some (.long (lN X)), none, some (.long (lN l)), none, some (.int (nI i)), some (.int (nI (6 * (6 * L + k) + i))), some (.long (lN G)), none, some (.long (lN (p * dN ρ hr * (l / G)))), none]) dX12_claim_131 rfl (Nat.le_of_ble_eq_true rfl) rfl ?_
      refine qi_lload (i := 5) (x := lN l) dX12_claim_132 rfl ?_
      refine qi_lload (i := 9) (x := lN G) dX12_claim_134 rfl ?_
      refine qi_ldiv dX12_claim_136 (fun z => absurd ((pk_lEQ (b := 0) (by omega) (by omega)).mp z) (by omega)) ?_
      refine qe_topJ (y := lN (l / G)) (pk_lDiv (by omega) hG1 (by omega)) ?_
      refine qi_aload_n (i := 0) (x := 280) dX12_claim_137 rfl rfl ?_
      refine qi_getR (x := 305) flX12_91 dX12_claim_138 rfl (by decide) (hM2 280 38 305 rfl) ?_
      refine qi_iload (i := 8) (x := nI (6 * (6 * L + k) + i)) dX12_claim_141 rfl ?_
      refine qi_ialdN (x := M2.1 305 (6 * (6 * L + k) + i)) (j := 6 * (6 * L + k) + i) dX12_claim_143 rfl (by decide) rfl (by omega) (by decide) rfl ?_
      refine qe_top (y := nI w) e305 ?_
      refine qi_i2l dX12_claim_144 ?_
      refine qe_topJ (y := lN w) (nI_l (by omega)) ?_
      refine qi_lmul dX12_claim_145 ?_
      refine qe_topJ (y := lN Y) (by rw [pk_lMul, hY]) ?_
      refine qi_lstore (i := 5) (L2 := [some (.ref 280), some (.int (nI k)), some (.int b), some (.long (lN X)), none, some (.long (lN Y)), none, some (.int (nI i)), some (.int (nI (6 * (6 * L + k) + i))), some (.long (lN G)), none, some (.long (lN (p * dN ρ hr * (l / G)))), none]) dX12_claim_146 (Nat.le_of_ble_eq_true rfl) rfl ?_
      refine qi_lload (i := 5) (x := lN Y) dX12_claim_148 rfl ?_
      refine qi_lload_n (i := 3) (x := lN X) dX12_claim_150 rfl rfl ?_
      refine qi_callPSJ (v := lN (Nat.gcd Y X)) (K' := kX12_common) (As := [.long (lN Y), .long (lN X)]) mlX12_392 okX12_common dX12_claim_151 (c_X12_common g (by omega) (by omega)) rfl rfl (Nat.le_of_ble_eq_true rfl) ⟨(Nat.le_of_ble_eq_true rfl), (Nat.le_of_ble_eq_true rfl)⟩ ⟨Nat.le_refl _, Nat.le_refl _⟩ ?_
      refine qi_lstore (i := 9) (L2 := [some (.ref 280), some (.int (nI k)), some (.int b), some (.long (lN X)), none, some (.long (lN Y)), none, some (.int (nI i)), some (.int (nI (6 * (6 * L + k) + i))), some (.long (lN (Nat.gcd Y X))), none, some (.long (lN (p * dN ρ hr * (l / G)))), none]) dX12_claim_154 (Nat.le_of_ble_eq_true rfl) rfl ?_
      refine qi_lload_n (i := 3) (x := lN X) dX12_claim_156 rfl rfl ?_
      refine qi_lload (i := 9) (x := lN (Nat.gcd Y X)) dX12_claim_157 rfl ?_
      refine qi_ldiv dX12_claim_159 (fun z => absurd ((pk_lEQ (b := 0) (by omega) (by omega)).mp z) (by omega)) ?_
      refine qe_topJ (y := lN uv2.1) (by rw [pk_lDiv (by omega) hG2 (by omega), t1]) ?_
      refine qi_lstore_n (i := 3) (L2 := [some (.ref 280), some (.int (nI k)), some (.int b), some (.long (lN uv2.1)), none, some (.long (lN Y)), none, some (.int (nI i)), some (.int (nI (6 * (6 * L + k) + i))), some (.long (lN (Nat.gcd Y X))), none, some (.long (lN (p * dN ρ hr * (l / G)))), none]) dX12_claim_160 rfl (Nat.le_of_ble_eq_true rfl) rfl ?_
      refine qi_lload (i := 5) (x := lN Y) dX12_claim_161 rfl ?_
      refine qi_lload (i := 9) (x := lN (Nat.gcd Y X)) dX12_claim_163 rfl ?_
      refine qi_ldiv dX12_claim_165 (fun z => absurd ((pk_lEQ (b := 0) (by omega) (by omega)).mp z) (by omega)) ?_
      refine qe_topJ (y := lN uv2.2) (by rw [pk_lDiv (by omega) hG2 (by omega), t2]) ?_
      refine qi_lstore (i := 5) (L2 := [some (.ref 280), some (.int (nI k)), some (.int b), some (.long (lN uv2.1)), none, some (.long (lN uv2.2)), none, some (.int (nI i)), some (.int (nI (6 * (6 * L + k) + i))), some (.long (lN (Nat.gcd Y X))), none, some (.long (lN (p * dN ρ hr * (l / G)))), none]) dX12_claim_166 (Nat.le_of_ble_eq_true rfl) rfl ?_
      refine qi_iinc (i := 7) (x := nI i) (v := nI (i + 1)) (L2 := [some (.ref 280), some (.int (nI k)), some (.int b), some (.long (lN uv2.1)), none, some (.long (lN uv2.2)), none, some (.int (nI (i + 1))), some (.int (nI (6 * (6 * L + k) + i))), some (.long (lN (Nat.gcd Y X))), none, some (.long (lN (p * dN ρ hr * (l / G)))), none]) dX12_claim_168 rfl (nI_1 i) (Nat.le_of_ble_eq_true rfl) rfl ?_
      refine qi_goto (tgt := 35) dX12_claim_171 (by decide) ?_
      exact A _ _ _ (by omega)
  refine qJ.of (j := 10) (pn_RX12) rfl ?_
  show qT g kX12_claim (qR 2 0 0) (qZJ g (fun r M' => r = res ∧ qFr SM M M')) 0 [some (.ref 280), some (.int h), some (.int b), none, none, none, none, none, none, none, none, none, none] [] 333 M (0, 0)
  refine qi_iload_n (i := 1) (x := h) dX12_claim_0 rfl rfl ?_
  refine qi_iconst (v := 0) dX12_claim_1 rfl ?_
  refine qi_aload_n (i := 0) (x := 280) dX12_claim_2 rfl rfl ?_
  refine qi_getR (x := 302) flX12_82 dX12_claim_3 rfl (by decide) (hM 280 35 302 rfl) ?_
  refine qi_aload_n (i := 0) (x := 280) dX12_claim_6 rfl rfl ?_
  refine qi_getI (x := M.1 280 18) flX12_248 dX12_claim_7 rfl (by decide) rfl ?_
  refine qe_top (y := nI L) hP.1.2 ?_
  refine qi_ialdN (x := M.1 302 L) (j := L) dX12_claim_10 rfl (by decide) rfl (by omega) (by decide) rfl ?_
  refine qe_top (y := nI (π.1 3)) hP.2.1.2.2.2.1 ?_
  refine qi_iconst (v := 1) dX12_claim_11 rfl ?_
  refine qi_isub dX12_claim_12 ?_
  refine qi_callPSI (v := (if (0 : Int32) ≤ h ∧ h ≤ nI (π.1 3) - 1 then (1 : Int32) else 0)) (K' := kX12_in) (As := [.int h, .int 0, .int ((nI (π.1 3)) - 1)]) mlX12_338 okX12_in dX12_claim_13 (c_X12_in g _ _ _) rfl rfl (Nat.le_of_ble_eq_true rfl) ⟨(Nat.le_of_ble_eq_true rfl), (Nat.le_of_ble_eq_true rfl)⟩ ⟨Nat.le_refl _, Nat.le_refl _⟩ ?_
  refine qe_top (y := isF (π.1 3) h) (isF_in (by omega)) ?_
  refine qi_if_ne (tgt := 23) dX12_claim_16 (by decide) (fun c1 => ?_) (fun c1 => ?_)
  · refine qi_aload_n (i := 0) (x := 280) dX12_claim_23 rfl rfl ?_
    refine qi_callVV (K' := kX12_copies) (As := []) mlX12_383 okX12_copies dX12_claim_24 (c_X12_copies g hM hN) rfl (by decide) rfl (by decide) rfl rfl (Nat.le_of_ble_eq_true rfl) ⟨(Nat.le_of_ble_eq_true rfl), (Nat.le_of_ble_eq_true rfl)⟩ ⟨Nat.le_refl _, Nat.le_refl _⟩ (fun M2 ⟨hR2, e60, e61, _, hf2⟩ => ?_)
    obtain ⟨k, hk, ek⟩ := isF_of (by omega) c1
    unfold claimQ at hres
    rw [if_neg c1, ek, nI_clamp (by omega)] at hres
    rw [ek]
    have hM2 := hM.fr hf2
    refine qi_lconst (v := 0) dX12_claim_27 rfl ?_
    refine qi_lstore_n (i := 3) (L2 := [some (.ref 280), some (.int (nI k)), some (.int b), some (.long 0), none, none, none, none, none, none, none, none, none]) dX12_claim_28 rfl (Nat.le_of_ble_eq_true rfl) rfl ?_
    refine qi_lconst (v := 1) dX12_claim_29 rfl ?_
    refine qi_lstore (i := 5) (L2 := [some (.ref 280), some (.int (nI k)), some (.int b), some (.long 0), none, some (.long 1), none, none, none, none, none, none, none]) dX12_claim_30 (Nat.le_of_ble_eq_true rfl) rfl ?_
    refine qi_iconst (v := 0) dX12_claim_32 rfl ?_
    refine qi_istore (i := 7) (L2 := [some (.ref 280), some (.int (nI k)), some (.int b), some (.long 0), none, some (.long 1), none, some (.int 0), none, none, none, none, none]) dX12_claim_33 (Nat.le_of_ble_eq_true rfl) rfl ?_
    exact K k hk hres M2 hf2 hR2 (π.2.1 8 k) 0 none none none (by omega)
  · refine qi_ldc2 dX12_claim_19 cnX12_365 ?_
    exact qi_retJ rfl dX12_claim_22 (⟨by rw [hres]; unfold claimQ; rw [if_pos c1], qFr.rf⟩)
