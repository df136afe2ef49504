/-! ThimbleSea: claims, ranks, weeks that would be -/
set_option maxHeartbeats 2000000 in
theorem c_X10_sum (g : qG) {M : qM} (hM : qRf M) {p : Nat} {π : qPl} (hp : qIsP p) (hW : qWill M p π) (hok : okPl π) (hoc : okCl π) {ρ : Nat → Int32} (hS : qSea M 224 ρ) (hO : okSea π ρ) {k : Nat} (hk : k < π.1 3) (b : Int32) : qJ g 2 kX10_sum [.ref (p + 14), .int (nI k), .ref 224, .int b] M (fun r M' => r = (if b = 0 then lN (claimF π ρ k (π.2.1 8 k)).1 else lN (claimF π ρ k (π.2.1 8 k)).2) ∧ M' = M) := by
  obtain ⟨res, hres⟩ : ∃ res, res = (if b = 0 then lN (claimF π ρ k (π.2.1 8 k)).1 else lN (claimF π ρ k (π.2.1 8 k)).2) := ⟨_, rfl⟩
  rw [← hres]
  have hh8 := hok.2.1
  have hc6 := hok.2.2.2.1
  have hb := hok.2.2.2.2.1
  obtain ⟨A, eA, hA, hA2⟩ := hO.all hok
  have hdb : ∀ k, k < π.1 1 → dN ρ k ≤ 9999 := fun k hk => by have := dN_le ρ (h := k) (by omega); omega
  obtain ⟨w1, w2, w3⟩ := hW
  obtain ⟨o1, o2⟩ := hoc k hk
  have hsum : ∀ j, j ≤ π.1 3 → sumN (π.2.1 8) j ≤ 6 * j := by
    intro j
    induction j with
    | zero => intro _; exact Nat.le_refl _
    | succ j ih =>
      intro hj
      have := ih (by omega)
      have := (hoc j (by omega)).1
      show sumN (π.2.1 8) j + π.2.1 8 j ≤ _
      omega
  have hs0 := hsum k (by omega)
  have hs1 : sumN (π.2.1 8) (k + 1) = sumN (π.2.1 8) k + π.2.1 8 k := rfl
  have e18 := w2 k hk
  have K : ∀ m i x9 x11, i + m = π.2.1 8 k → qT g kX10_sum (qR 2 0 0) (qZJ g (fun r M' => r = res ∧ M' = M)) 24 [some (.ref (p + 14)), some (.int (nI k)), some (.ref 224), some (.int b), some (.long (lN (claimF π ρ k i).1)), none, some (.long (lN (claimF π ρ k i).2)), none, some (.int (nI (sumN (π.2.1 8) k + i))), x9, none, x11, none] [] 333 M (0, 0) := by
    intro m
    induction m with
    | zero =>
      intro i x9 x11 e
      obtain rfl : i = π.2.1 8 k := by omega
      refine qi_iload (i := 8) (x := nI (sumN (π.2.1 8) k + π.2.1 8 k)) dX10_sum_24 rfl ?_
      refine qi_aload_n (i := 0) (x := p + 14) dX10_sum_26 rfl rfl ?_
      refine qi_getR (x := p + 18) flX10_21 dX10_sum_27 (hp.1 14 (by decide)) (by have := hp.2.2; omega) (hM (p + 14) 3 (p + 18) (qref_10_3 (hp.1 14 (by decide)))) ?_
      refine qi_iload_n (i := 1) (x := nI k) dX10_sum_30 rfl rfl ?_
      refine qi_ialdN (x := nI (sumN (π.2.1 8) (k + 1))) (j := k) dX10_sum_31 (hp.1 18 (by decide)) (by have := hp.2.2; omega) rfl (by omega) (by decide) e18 ?_
      refine qi_icmp_ge (tgt := 119) dX10_sum_32 (by decide) (fun _hc => ?_) (fun _h => absurd ((nI_leI (a := sumN (π.2.1 8) (k + 1)) (b := sumN (π.2.1 8) k + π.2.1 8 k) (by omega) (by omega)).mpr (by omega)) _h)
      refine qi_iload_n (i := 3) (x := b) dX10_sum_119 rfl rfl ?_
      refine qi_if_eq (tgt := 128) dX10_sum_120 (by decide) (fun c => ?_) (fun c => ?_)
      · refine qi_lload (i := 4) (x := lN (claimF π ρ k (π.2.1 8 k)).1) dX10_sum_128 rfl ?_
        exact qi_retJ rfl dX10_sum_130 (⟨by rw [hres, if_pos c], rfl⟩)
      · refine qi_lload (i := 6) (x := lN (claimF π ρ k (π.2.1 8 k)).2) dX10_sum_123 rfl ?_
        refine qi_goto (tgt := 130) dX10_sum_125 (by decide) ?_
        exact qi_retJ rfl dX10_sum_130 (⟨by rw [hres, if_neg c], rfl⟩)
    | succ m ih =>
      intro i x9 x11 e
      have A := ih (i + 1)
      obtain ⟨k1, k2, k3⟩ := claimF_ok hoc hk hdb i (by omega)
      obtain ⟨f1, f2, f3⟩ := w3 k i hk (by omega)
      obtain ⟨g3, ⟨g4, g5⟩, g6⟩ := o2 i (by omega)
      have g7 := hdb _ g6
      have hdr := hO.drop hok (k := π.2.1 11 (6 * k + i)) (by omega)
      have s1 : (claimF π ρ k (i + 1)).1 = ((claimF π ρ k i).1 * π.2.1 10 (6 * k + i) + (claimF π ρ k i).2 * π.2.1 9 (6 * k + i) * dN ρ (π.2.1 11 (6 * k + i))) / Nat.gcd ((claimF π ρ k i).1 * π.2.1 10 (6 * k + i) + (claimF π ρ k i).2 * π.2.1 9 (6 * k + i) * dN ρ (π.2.1 11 (6 * k + i))) ((claimF π ρ k i).2 * π.2.1 10 (6 * k + i)) := rfl
      have s2 : (claimF π ρ k (i + 1)).2 = ((claimF π ρ k i).2 * π.2.1 10 (6 * k + i)) / Nat.gcd ((claimF π ρ k i).1 * π.2.1 10 (6 * k + i) + (claimF π ρ k i).2 * π.2.1 9 (6 * k + i) * dN ρ (π.2.1 11 (6 * k + i))) ((claimF π ρ k i).2 * π.2.1 10 (6 * k + i)) := rfl
      generalize hv2 : claimF π ρ k (i + 1) = uv2 at *
      generalize hv : claimF π ρ k i = uv at *
      generalize π.2.1 11 (6 * k + i) = hr at *
      generalize π.2.1 10 (6 * k + i) = w at *
      generalize π.2.1 9 (6 * k + i) = q at *
      obtain ⟨u, l⟩ := uv
      simp only at k1 k2 k3 s1 s2
      have hi5 : i ≤ 5 := by omega
      have hl5 : l ≤ 9509900499 := Nat.le_trans k2 (Nat.le_trans (Nat.pow_le_pow_right (by omega) hi5) (by decide))
      have hu5 : u ≤ 5 * 989901 * 9509900499 := Nat.le_trans k3 (Nat.mul_le_mul (Nat.mul_le_mul_right _ hi5) hl5)
      have huw : u * w ≤ 5 * 989901 * 9509900499 * 99 := Nat.mul_le_mul hu5 g5
      have hlq : l * q ≤ 9509900499 * 99 := Nat.mul_le_mul hl5 g3
      have hlqd : l * q * dN ρ hr ≤ 9509900499 * 99 * 9999 := Nat.mul_le_mul hlq g7
      have hlw : l * w ≤ 9509900499 * 99 := Nat.mul_le_mul hl5 g5
      have hD0 : 0 < l * w := Nat.mul_pos (by omega) (by omega)
      generalize hX : u * w + l * q * dN ρ hr = X at *
      generalize hY : l * w = Y at *
      have hG2 : 0 < Nat.gcd X Y := Nat.gcd_pos_of_pos_right _ hD0
      have hG2l : Nat.gcd X Y ≤ Y := Nat.gcd_le_right _ hD0
      refine qi_iload (i := 8) (x := nI (sumN (π.2.1 8) k + i)) dX10_sum_24 rfl ?_
      refine qi_aload_n (i := 0) (x := p + 14) dX10_sum_26 rfl rfl ?_
      refine qi_getR (x := p + 18) flX10_21 dX10_sum_27 (hp.1 14 (by decide)) (by have := hp.2.2; omega) (hM (p + 14) 3 (p + 18) (qref_10_3 (hp.1 14 (by decide)))) ?_
      refine qi_iload_n (i := 1) (x := nI k) dX10_sum_30 rfl rfl ?_
      refine qi_ialdN (x := nI (sumN (π.2.1 8) (k + 1))) (j := k) dX10_sum_31 (hp.1 18 (by decide)) (by have := hp.2.2; omega) rfl (by omega) (by decide) e18 ?_
      refine qi_icmp_ge (tgt := 119) dX10_sum_32 (by decide) (fun _h => absurd ((nI_leI (a := sumN (π.2.1 8) (k + 1)) (b := sumN (π.2.1 8) k + i) (by omega) (by omega)).mp _h) (by omega)) (fun _hc => ?_)
      refine qi_aload_n (i := 2) (x := 224) dX10_sum_35 rfl rfl ?_
      refine qi_aload_n (i := 0) (x := p + 14) dX10_sum_36 rfl rfl ?_
      refine qi_getR (x := p + 17) flX10_18 dX10_sum_37 (hp.1 14 (by decide)) (by have := hp.2.2; omega) (hM (p + 14) 2 (p + 17) (qref_10_2 (hp.1 14 (by decide)))) ?_
      refine qi_iload (i := 8) (x := nI (sumN (π.2.1 8) k + i)) dX10_sum_40 rfl ?_
      refine qi_ialdN (x := nI hr) (j := sumN (π.2.1 8) k + i) dX10_sum_42 (hp.1 17 (by decide)) (by have := hp.2.2; omega) rfl (by omega) (by decide) f3 ?_
      refine qi_callPVI (v := dropsF ρ hr) (K' := kX6_dropsOf) (As := [.int (nI hr)]) mlX10_31 okX6_dropsOf dX10_sum_43 (c_X6_dropsOf g qIsS_sea hM hS (by omega)) rfl (by decide) rfl (by decide) rfl rfl (Nat.le_of_ble_eq_true rfl) ⟨(Nat.le_of_ble_eq_true rfl), (Nat.le_of_ble_eq_true rfl)⟩ ⟨Nat.le_refl _, Nat.le_refl _⟩ ?_
      refine qi_i2l dX10_sum_46 ?_
      refine qe_topJ (y := lN (dN ρ hr)) (by rw [hdr, nI_l (by omega)]) ?_
      refine qi_lstore (i := 9) (L2 := [some (.ref (p + 14)), some (.int (nI k)), some (.ref 224), some (.int b), some (.long (lN u)), none, some (.long (lN l)), none, some (.int (nI (sumN (π.2.1 8) k + i))), some (.long (lN (dN ρ hr))), none, x11, none]) dX10_sum_47 (Nat.le_of_ble_eq_true rfl) rfl ?_
      refine qi_lload (i := 4) (x := lN u) dX10_sum_49 rfl ?_
      refine qi_aload_n (i := 0) (x := p + 14) dX10_sum_51 rfl rfl ?_
      refine qi_getR (x := p + 16) flX10_15 dX10_sum_52 (hp.1 14 (by decide)) (by have := hp.2.2; omega) (hM (p + 14) 1 (p + 16) (qref_10_1 (hp.1 14 (by decide)))) ?_
      refine qi_iload (i := 8) (x := nI (sumN (π.2.1 8) k + i)) dX10_sum_55 rfl ?_
      refine qi_ialdN (x := nI w) (j := sumN (π.2.1 8) k + i) dX10_sum_57 (hp.1 16 (by decide)) (by have := hp.2.2; omega) rfl (by omega) (by decide) f2 ?_
      refine qi_i2l dX10_sum_58 ?_
      refine qe_topJ (y := lN w) (nI_l (by omega)) ?_
      refine qi_lmul dX10_sum_59 ?_
      refine qi_lload (i := 6) (x := lN l) dX10_sum_60 rfl ?_
      refine qi_aload_n (i := 0) (x := p + 14) dX10_sum_62 rfl rfl ?_
      refine qi_getR (x := p + 15) flX10_9 dX10_sum_63 (hp.1 14 (by decide)) (by have := hp.2.2; omega) (hM (p + 14) 0 (p + 15) (qref_10_0 (hp.1 14 (by decide)))) ?_
      refine qi_iload (i := 8) (x := nI (sumN (π.2.1 8) k + i)) dX10_sum_66 rfl ?_
      refine qi_ialdN (x := nI q) (j := sumN (π.2.1 8) k + i) dX10_sum_68 (hp.1 15 (by decide)) (by have := hp.2.2; omega) rfl (by omega) (by decide) f1 ?_
      refine qi_i2l dX10_sum_69 ?_
      refine qe_topJ (y := lN q) (nI_l (by omega)) ?_
      refine qi_lmul dX10_sum_70 ?_
      refine qi_lload (i := 9) (x := lN (dN ρ hr)) dX10_sum_71 rfl ?_
      refine qi_lmul dX10_sum_73 ?_
      refine qi_ladd dX10_sum_74 ?_
      refine qe_topJ (y := lN X) (by rw [pk_lMul, pk_lMul, pk_lMul, pk_lAdd, hX]) ?_
      refine qi_lstore (i := 4) (L2 := [some (.ref (p + 14)), some (.int (nI k)), some (.ref 224), some (.int b), some (.long (lN X)), none, some (.long (lN l)), none, some (.int (nI (sumN (π.2.1 8) k + i))), some (.long (lN (dN ρ hr))), none, x11, none]) dX10_sum_75 (Nat.le_of_ble_eq_true rfl) rfl ?_
      refine qi_lload (i := 6) (x := lN l) dX10_sum_77 rfl ?_
      refine qi_aload_n (i := 0) (x := p + 14) dX10_sum_79 rfl rfl ?_
      refine qi_getR (x := p + 16) flX10_15 dX10_sum_80 (hp.1 14 (by decide)) (by have := hp.2.2; omega) (hM (p + 14) 1 (p + 16) (qref_10_1 (hp.1 14 (by decide)))) ?_
      refine qi_iload (i := 8) (x := nI (sumN (π.2.1 8) k + i)) dX10_sum_83 rfl ?_
      refine qi_ialdN (x := nI w) (j := sumN (π.2.1 8) k + i) dX10_sum_85 (hp.1 16 (by decide)) (by have := hp.2.2; omega) rfl (by omega) (by decide) f2 ?_
      refine qi_i2l dX10_sum_86 ?_
      refine qe_topJ (y := lN w) (nI_l (by omega)) ?_
      refine qi_lmul dX10_sum_87 ?_
      refine qe_topJ (y := lN Y) (by rw [pk_lMul, hY]) ?_
      refine qi_lstore (i := 6) (L2 := [some (.ref (p + 14)), some (.int (nI k)), some (.ref 224), some (.int b), some (.long (lN X)), none, some (.long (lN Y)), none, some (.int (nI (sumN (π.2.1 8) k + i))), some (.long (lN (dN ρ hr))), none, x11, none]) dX10_sum_88 (Nat.le_of_ble_eq_true rfl) rfl ?_
      refine qi_lload (i := 4) (x := lN X) dX10_sum_90 rfl ?_
      refine qi_lload (i := 6) (x := lN Y) dX10_sum_92 rfl ?_
      refine qi_callPSNJ (v := lN (Nat.gcd X Y)) (K' := kX11_greatestDivisor) (As := [.long (lN X), .long (lN Y)]) mlX10_37 okX11_greatestDivisor dX10_sum_94 (c_X11_greatestDivisor g (by omega) (by omega) hD0) rfl rfl (Nat.le_of_ble_eq_true rfl) ⟨(Nat.le_of_ble_eq_true rfl), (Nat.le_of_ble_eq_true rfl)⟩ ⟨Nat.le_refl _, Nat.le_refl _⟩ ?_
      refine qi_lstore (i := 11) (L2 := [some (.ref (p + 14)), some (.int (nI k)), some (.ref 224), some (.int b), some (.long (lN X)), none, some (.long (lN Y)), none, some (.int (nI (sumN (π.2.1 8) k + i))), some (.long (lN (dN ρ hr))), none, some (.long (lN (Nat.gcd X Y))), none]) dX10_sum_97 (Nat.le_of_ble_eq_true rfl) rfl ?_
      refine qi_lload (i := 4) (x := lN X) dX10_sum_99 rfl ?_
      refine qi_lload (i := 11) (x := lN (Nat.gcd X Y)) dX10_sum_101 rfl ?_
      refine qi_ldiv dX10_sum_103 (fun z => absurd ((pk_lEQ (b := 0) (by omega) (by omega)).mp z) (by omega)) ?_
      refine qe_topJ (y := lN uv2.1) (by rw [pk_lDiv (by omega) hG2 (by omega), s1]) ?_
      refine qi_lstore (i := 4) (L2 := [some (.ref (p + 14)), some (.int (nI k)), some (.ref 224), some (.int b), some (.long (lN uv2.1)), none, some (.long (lN Y)), none, some (.int (nI (sumN (π.2.1 8) k + i))), some (.long (lN (dN ρ hr))), none, some (.long (lN (Nat.gcd X Y))), none]) dX10_sum_104 (Nat.le_of_ble_eq_true rfl) rfl ?_
      refine qi_lload (i := 6) (x := lN Y) dX10_sum_106 rfl ?_
      refine qi_lload (i := 11) (x := lN (Nat.gcd X Y)) dX10_sum_108 rfl ?_
      refine qi_ldiv dX10_sum_110 (fun z => absurd ((pk_lEQ (b := 0) (by omega) (by omega)).mp z) (by omega)) ?_
      refine qe_topJ (y := lN uv2.2) (by rw [pk_lDiv (by omega) hG2 (by omega), s2]) ?_
      refine qi_lstore (i := 6) (L2 := [some (.ref (p + 14)), some (.int (nI k)), some (.ref 224), some (.int b), some (.long (lN uv2.1)), none, some (.long (lN uv2.2)), none, some (.int (nI (sumN (π.2.1 8) k + i))), some (.long (lN (dN ρ hr))), none, some (.long (lN (Nat.gcd X Y))), none]) dX10_sum_111 (Nat.le_of_ble_eq_true rfl) rfl ?_
      refine qi_iinc (i := 8) (x := nI (sumN (π.2.1 8) k + i)) (v := nI (sumN (π.2.1 8) k + i + 1)) (L2 := [some (.ref (p + 14)), some (.int (nI k)), some (.ref 224), some (.int b), some (.long (lN uv2.1)), none, some (.long (lN uv2.2)), none, some (.int (nI (sumN (π.2.1 8) k + i + 1))), some (.long (lN (dN ρ hr))), none, some (.long (lN (Nat.gcd X Y))), none]) dX10_sum_113 rfl (nI_1 (sumN (π.2.1 8) k + i)) (Nat.le_of_ble_eq_true rfl) rfl ?_
      refine qi_goto (tgt := 24) dX10_sum_116 (by decide) ?_
      exact A _ _ (by omega)
  refine qJ.of (j := 9) (pn_RX10) rfl ?_
  show qT g kX10_sum (qR 2 0 0) (qZJ g (fun r M' => r = res ∧ M' = M)) 0 [some (.ref (p + 14)), some (.int (nI k)), some (.ref 224), some (.int b), none, none, none, none, none, none, none, none, none] [] 333 M (0, 0)
  refine qi_lconst (v := 0) dX10_sum_0 rfl ?_
  refine qi_lstore (i := 4) (L2 := [some (.ref (p + 14)), some (.int (nI k)), some (.ref 224), some (.int b), some (.long 0), none, none, none, none, none, none, none, none]) dX10_sum_1 (Nat.le_of_ble_eq_true rfl) rfl ?_
  refine qi_lconst (v := 1) dX10_sum_3 rfl ?_
  refine qi_lstore (i := 6) (L2 := [some (.ref (p + 14)), some (.int (nI k)), some (.ref 224), some (.int b), some (.long 0), none, some (.long 1), none, none, none, none, none, none]) dX10_sum_4 (Nat.le_of_ble_eq_true rfl) rfl ?_
  refine qi_iload_n (i := 1) (x := nI k) dX10_sum_6 rfl rfl ?_
  refine qi_if_ne (tgt := 14) dX10_sum_7 (by decide) (fun _h => ?_) (fun _h => ?_)
  · have c : ¬ (k = 0) := fun z => _h ((nI_eq (a := k) (b := 0) (by omega) (by omega)).mpr z)
    have hpred : nI k - 1 = nI (k - 1) := by rw [show (1 : Int32) = nI 1 from rfl, pk_sub (by omega)]
    have e18p : M.1 (p + 18) (k - 1) = nI (sumN (π.2.1 8) k) := by
      have := w2 (k - 1) (by omega)
      rwa [show k - 1 + 1 = k by omega] at this
    refine qi_aload_n (i := 0) (x := p + 14) dX10_sum_14 rfl rfl ?_
    refine qi_getR (x := p + 18) flX10_21 dX10_sum_15 (hp.1 14 (by decide)) (by have := hp.2.2; omega) (hM (p + 14) 3 (p + 18) (qref_10_3 (hp.1 14 (by decide)))) ?_
    refine qi_iload_n (i := 1) (x := nI k) dX10_sum_18 rfl rfl ?_
    refine qi_iconst (v := 1) dX10_sum_19 rfl ?_
    refine qi_isub dX10_sum_20 ?_
    refine qe_top (y := nI (k - 1)) hpred ?_
    refine qi_ialdN (x := nI (sumN (π.2.1 8) k)) (j := k - 1) dX10_sum_21 (hp.1 18 (by decide)) (by have := hp.2.2; omega) rfl (by omega) (by decide) e18p ?_
    refine qi_istore (i := 8) (L2 := [some (.ref (p + 14)), some (.int (nI k)), some (.ref 224), some (.int b), some (.long 0), none, some (.long 1), none, some (.int (nI (sumN (π.2.1 8) k))), none, none, none, none]) dX10_sum_22 (Nat.le_of_ble_eq_true rfl) rfl ?_
    exact K (π.2.1 8 k) 0 none none (by omega)
  · have c : k = 0 := (nI_eq (a := k) (b := 0) (by omega) (by omega)).mp _h
    subst c
    refine qi_iconst (v := 0) dX10_sum_10 rfl ?_
    refine qi_goto (tgt := 22) dX10_sum_11 (by decide) ?_
    refine qi_istore (i := 8) (L2 := [some (.ref (p + 14)), some (.int (nI 0)), some (.ref 224), some (.int b), some (.long 0), none, some (.long 1), none, some (.int 0), none, none, none, none]) dX10_sum_22 (Nat.le_of_ble_eq_true rfl) rfl ?_
    exact K (π.2.1 8 0) 0 none none (by omega)
set_option maxHeartbeats 1000000 in
theorem c_X11_claim (g : qG) {M : qM} (hM : qRf M) {p : Nat} {π : qPl} (hp : qIsP p) (hr : M.2.2 0 9 = some p) (hW : qWill M p π) (hok : okPl π) (hoc : okCl π) {ρ : Nat → Int32} (hS : qSea M 224 ρ) (hO : okSea π ρ) (k b : Int32) : qJ g 3 kX11_claim [.ref 0, .int k, .int b] M (fun r M' => r = claimQ π ρ k b ∧ M' = M) := by
  obtain ⟨res, hres⟩ : ∃ res, res = claimQ π ρ k b := ⟨_, rfl⟩
  rw [← hres]
  have hc6 := hok.2.2.2.1
  have E : isF (π.1 3) k = 0 → qT g kX11_claim (qR 3 0 0) (qZJ g (fun r M' => r = res ∧ M' = M)) 18 [some (.ref 0), some (.int k), some (.int b)] [] 333 M (0, 0) := by
    intro hb
    refine qi_ldc2 dX11_claim_18 cnX11_160 ?_
    exact qi_retJ rfl dX11_claim_21 (⟨by rw [hres]; unfold claimQ; rw [if_pos hb], rfl⟩)
  refine qJ.of (j := 0) (pn_RX11) rfl ?_
  show qT g kX11_claim (qR 3 0 0) (qZJ g (fun r M' => r = res ∧ M' = M)) 0 [some (.ref 0), some (.int k), some (.int b)] [] 333 M (0, 0)
  refine qi_iload_n (i := 1) (x := k) dX11_claim_0 rfl rfl ?_
  refine qi_if_lt (tgt := 18) dX11_claim_1 (by decide) (fun c1 => ?_) (fun c1 => ?_)
  · exact E (by unfold isF; rw [if_neg (fun z => absurd c1 (Int32.not_lt.mpr z.1))])
  · refine qi_iload_n (i := 1) (x := k) dX11_claim_4 rfl rfl ?_
    refine qi_aload_n (i := 0) (x := 0) dX11_claim_5 rfl rfl ?_
    refine qi_getR (x := p) flX11_67 dX11_claim_6 rfl (by decide) hr ?_
    refine qi_getR (x := p + 14) flX11_151 dX11_claim_9 (hp.1 0 (by decide)) (by have := hp.2.2; omega) (hM p 10 (p + 14) (qref_3_10 (hp.1 0 (by decide)))) ?_
    refine qi_getI (x := nI (π.1 3)) flX11_155 dX11_claim_12 (hp.1 14 (by decide)) (by have := hp.2.2; omega) hW.1 ?_
    refine qi_icmp_lt (tgt := 22) dX11_claim_15 (by decide) (fun c2 => ?_) (fun c2 => ?_)
    · obtain ⟨k0, hk0, rfl⟩ := nI_of c1
      have hk := (nI_ltI hk0 (by omega)).mp c2
      have hf : ¬ isF (π.1 3) (nI k0) = 0 := by unfold isF; rw [if_pos ⟨Int32.not_lt.mp c1, c2⟩]; decide
      unfold claimQ at hres
      rw [if_neg hf, nI_clamp hk0] at hres
      have hcon : qJ g 2 kX10_sum [.ref (p + 14), .int (nI k0), .ref 224, .int b] M (fun r M' => r = res ∧ M' = M) := by
        rw [hres]
        exact c_X10_sum g hM hp hW hok hoc hS hO hk b
      refine qi_aload_n (i := 0) (x := 0) dX11_claim_22 rfl rfl ?_
      refine qi_getR (x := p) flX11_67 dX11_claim_23 rfl (by decide) hr ?_
      refine qi_getR (x := p + 14) flX11_151 dX11_claim_26 (hp.1 0 (by decide)) (by have := hp.2.2; omega) (hM p 10 (p + 14) (qref_3_10 (hp.1 0 (by decide)))) ?_
      refine qi_iload_n (i := 1) (x := nI k0) dX11_claim_29 rfl rfl ?_
      refine qi_aload_n (i := 0) (x := 0) dX11_claim_30 rfl rfl ?_
      refine qi_getR (x := 224) flX11_54 dX11_claim_31 rfl (by decide) (hM 0 6 224 rfl) ?_
      refine qi_iload_n (i := 2) (x := b) dX11_claim_34 rfl rfl ?_
      refine qi_callPVJ (v := res) (K' := kX10_sum) (As := [.int (nI k0), .ref 224, .int b]) mlX11_162 okX10_sum dX11_claim_35 (hcon) (hp.1 14 (by decide)) (by decide) rfl (by have := hp.2.2; omega) rfl rfl (Nat.le_of_ble_eq_true rfl) ⟨(Nat.le_of_ble_eq_true rfl), (Nat.le_of_ble_eq_true rfl)⟩ ⟨Nat.le_refl _, Nat.le_refl _⟩ ?_
      exact qi_retJ rfl dX11_claim_38 (⟨rfl, rfl⟩)
    · exact E (by unfold isF; rw [if_neg (fun z => c2 z.2)])
set_option maxHeartbeats 1000000 in
theorem c_X11_ranked (g : qG) {M : qM} (hM : qRf M) {p : Nat} {π : qPl} (hp : qIsP p) (hr : M.2.2 0 9 = some p) (hP : qPlan M p π) (hok : okPl π) {ρ : Nat → Int32} (hS : qSea M 224 ρ) (rk : Int32) : qI g 4 kX11_ranked [.ref 0, .int rk] M (fun r' M' => r' = rankedF ρ (π.1 1) rk ∧ M' = M) := by
  refine qI.of (j := 0) (pn_RX11) rfl ?_
  show qT g kX11_ranked (qR 4 0 0) (qZI g (fun r M' => r = (rankedF ρ (π.1 1) rk) ∧ M' = M)) 0 [some (.ref 0), some (.int rk)] [] 333 M (0, 0)
  refine qi_aload_n (i := 0) (x := 0) dX11_ranked_0 rfl rfl ?_
  refine qi_getR (x := 224) flX11_54 dX11_ranked_1 rfl (by decide) (hM 0 6 224 rfl) ?_
  refine qi_iload_n (i := 1) (x := rk) dX11_ranked_4 rfl rfl ?_
  refine qi_aload_n (i := 0) (x := 0) dX11_ranked_5 rfl rfl ?_
  refine qi_getR (x := p) flX11_67 dX11_ranked_6 rfl (by decide) hr ?_
  refine qi_getI (x := nI (π.1 1)) flX11_123 dX11_ranked_9 (hp.1 0 (by decide)) (by have := hp.2.2; omega) hP.1.2.1 ?_
  refine qi_callPVI (v := rankedF ρ (π.1 1) rk) (K' := kX6_heirOfRank) (As := [.int rk, .int (nI (π.1 1))]) mlX11_166 okX6_heirOfRank dX11_ranked_12 (c_X6_heirOfRank g qIsS_sea hM hS hok.2.1 rk) rfl (by decide) rfl (by decide) rfl rfl (Nat.le_of_ble_eq_true rfl) ⟨(Nat.le_of_ble_eq_true rfl), (Nat.le_of_ble_eq_true rfl)⟩ ⟨Nat.le_refl _, Nat.le_refl _⟩ ?_
  exact qi_retI rfl rfl dX11_ranked_15 (⟨rfl, rfl⟩)
theorem SP_SQ {p b j : Nat} (h : SP p b j) : SQx p b j := Or.inr (Or.inr h)
theorem SW_SQ {p b j : Nat} (h : SW 230 p b j) : SQx p b j := h.elim (fun z => Or.inr (Or.inl (by unfold SS at z; omega))) (fun z => Or.inr (Or.inr z))
theorem SW_SQ2 {p b j : Nat} (h : SW 236 p b j) : SQx p b j := h.elim (fun z => Or.inr (Or.inl (by unfold SS at z; omega))) (fun z => Or.inr (Or.inr z))
theorem SS_SQ {p b j : Nat} (h : SS 230 b j) : SQx p b j := Or.inr (Or.inl (by unfold SS at h; omega))
theorem SS_SQ2 {p b j : Nat} (h : SS 236 b j) : SQx p b j := Or.inr (Or.inl (by unfold SS at h; omega))
theorem SQx_sea {p : Nat} (hp : qIsP p) {j k : Nat} (hj : j < 6) : ¬ SQx p (224 + j) k := fun z => by
  have := hp.2.1
  unfold SQx SP at z
  omega
theorem SQx_pl {p : Nat} (hp : qIsP p) {i j : Nat} (hi : i < 19) (z : SQx p (p + i) j) : (i = 10 ∧ j ≠ 6) ∨ 12 ≤ i := by
  have := hp.2.1
  unfold SQx SP at z
  omega
theorem SQx_will {p : Nat} (hp : qIsP p) {i j : Nat} (z : SQx p (p + i) j) : i < 14 ∨ 18 < i := by
  have := hp.2.1
  unfold SQx SP at z
  omega
theorem qPlan.q {M M' : qM} {p : Nat} {π : qPl} (h : qPlan M p π) (hp : qIsP p) (hf : qFr (SQx p) M M') : qPlan M' p π := h.fr hf (fun i j hi z => SQx_pl hp hi z)
theorem qSea.q {M M' : qM} {p : Nat} {ρ : Nat → Int32} (h : qSea M 224 ρ) (hp : qIsP p) (hf : qFr (SQx p) M M') : qSea M' 224 ρ := h.fr hf (fun j k hj => SQx_sea hp hj)
theorem frR {S : Nat → Nat → Prop} {M M' : qM} (hf : qFr S M M') {a k : Nat} {x : Option Nat} (h : M.2.2 a k = x) : M'.2.2 a k = x := by rw [hf.2.2]; exact h
set_option maxHeartbeats 1000000 in
theorem c_X11_tells (g : qG) {M : qM} (hM : qRf M) {p : Nat} {π : qPl} (hp : qIsP p) (hr : M.2.2 0 9 = some p) (hP : qPlan M p π) (hok : okPl π) {ρ : Nat → Int32} (hS : qSea M 224 ρ) (k : Int32) : qI g 4 kX11_tells [.ref 0, .int k] M (fun r M' => r = tellsQ π ρ k ∧ qFr (SQx p) M M') := by
  obtain ⟨res, hres⟩ : ∃ res, res = tellsQ π ρ k := ⟨_, rfl⟩
  rw [← hres]
  have hs16 := hok.2.2.1
  have E : isF (π.1 2) k = 0 → qT g kX11_tells (qR 4 0 0) (qZI g (fun r M' => r = res ∧ qFr (SQx p) M M')) 15 [some (.ref 0), some (.int k)] [] 333 M (0, 0) := by
    intro hb
    refine qi_iconst (v := -1) dX11_tells_15 rfl ?_
    exact qi_retI rfl rfl dX11_tells_16 (⟨by rw [hres]; unfold tellsQ; rw [if_pos hb], qFr.rf⟩)
  refine qI.of (j := 0) (pn_RX11) rfl ?_
  show qT g kX11_tells (qR 4 0 0) (qZI g (fun r M' => r = res ∧ qFr (SQx p) M M')) 0 [some (.ref 0), some (.int k)] [] 333 M (0, 0)
  refine qi_iload_n (i := 1) (x := k) dX11_tells_0 rfl rfl ?_
  refine qi_if_lt (tgt := 15) dX11_tells_1 (by decide) (fun c1 => ?_) (fun c1 => ?_)
  · exact E (by unfold isF; rw [if_neg (fun z => absurd c1 (Int32.not_lt.mpr z.1))])
  · refine qi_iload_n (i := 1) (x := k) dX11_tells_4 rfl rfl ?_
    refine qi_aload_n (i := 0) (x := 0) dX11_tells_5 rfl rfl ?_
    refine qi_getR (x := p) flX11_67 dX11_tells_6 rfl (by decide) hr ?_
    refine qi_getI (x := nI (π.1 2)) flX11_180 dX11_tells_9 (hp.1 0 (by decide)) (by have := hp.2.2; omega) hP.1.2.2.1 ?_
    refine qi_icmp_lt (tgt := 17) dX11_tells_12 (by decide) (fun c2 => ?_) (fun c2 => ?_)
    · obtain ⟨k0, hk0, rfl⟩ := nI_of c1
      have hk := (nI_ltI hk0 (by omega)).mp c2
      have hf : ¬ isF (π.1 2) (nI k0) = 0 := by unfold isF; rw [if_pos ⟨Int32.not_lt.mp c1, c2⟩]; decide
      unfold tellsQ at hres
      rw [if_neg hf, nI_clamp hk0] at hres
      refine qi_aload_n (i := 0) (x := 0) dX11_tells_17 rfl rfl ?_
      refine qi_getR (x := 224) flX11_54 dX11_tells_18 rfl (by decide) (hM 0 6 224 rfl) ?_
      refine qi_aload_n (i := 0) (x := 0) dX11_tells_21 rfl rfl ?_
      refine qi_getR (x := p) flX11_67 dX11_tells_22 rfl (by decide) hr ?_
      refine qi_iload_n (i := 1) (x := nI k0) dX11_tells_25 rfl rfl ?_
      refine qi_callVI (K' := kX6_toldBy) (As := [.ref p, .int (nI k0)]) mlX11_183 okX6_toldBy dX11_tells_26 (c_X6_toldBy g qIsS_sea hp (by decide) hM hS hP hok hk) rfl (by decide) rfl (by decide) rfl rfl (Nat.le_of_ble_eq_true rfl) ⟨(Nat.le_of_ble_eq_true rfl), (Nat.le_of_ble_eq_true rfl)⟩ ⟨Nat.le_refl _, Nat.le_refl _⟩ (fun r M2 ⟨er, hf2⟩ => ?_)
      exact qi_retI rfl rfl dX11_tells_29 (⟨by rw [er, hres], hf2.mono (fun _ _ => SP_SQ)⟩)
    · exact E (by unfold isF; rw [if_neg (fun z => c2 z.2)])
set_option maxHeartbeats 1000000 in
theorem c_X11_enough (g : qG) {M : qM} (hM : qRf M) {p : Nat} {π : qPl} (hp : qIsP p) (hr : M.2.2 0 9 = some p) (hP : qPlan M p π) (hok : okPl π) {ρ : Nat → Int32} (hS : qSea M 224 ρ) (hO : okSea π ρ) (n : Int32) : qI g 5 kX11_enough [.ref 0, .int n] M (fun r M' => r = enoughQ π ρ n ∧ qFr (SQx p) M M') := by
  obtain ⟨res, hres⟩ : ∃ res, res = enoughQ π ρ n := ⟨_, rfl⟩
  rw [← hres]
  have hP0 : ∃ P : Nat → Bool, ∀ k, P k = decide (n ≤ allF (weeksF π (-1) ρ k)) := ⟨_, fun _ => rfl⟩
  obtain ⟨P, hPd⟩ := hP0
  have eP : ¬ n < 0 → res = o2n (findN P 201 0) := fun z => by rw [hres]; unfold enoughQ; rw [if_neg z]; congr 2; funext o; exact (hPd o).symm
  have K : ¬ n < 0 → ∀ m k M2, k + m = 201 → findN P 201 0 = findN P m k → qFr (SQx p) M M2 → qSea M2 230 (weeksF π (-1) ρ k) → qT g kX11_enough (qR 5 0 0) (qZI g (fun r M' => r = res ∧ qFr (SQx p) M M')) 19 [some (.ref 0), some (.int n), some (.int (nI k))] [] 333 M2 (0, 0) := by
    intro hn m
    induction m with
    | zero =>
      intro k M2 e e2 hf hR
      refine qi_iload_n (i := 2) (x := nI k) dX11_enough_19 rfl rfl ?_
      refine qi_sipush (v := 200) dX11_enough_20 rfl ?_
      refine qi_icmp_gt (tgt := 57) dX11_enough_23 (by decide) (fun _hc => ?_) (fun _h => absurd ((nI_ltI (a := 200) (b := k) (by omega) (by omega)).mpr (by omega)) _h)
      refine qi_bipush (v := -2) dX11_enough_57 rfl ?_
      exact qi_retI rfl rfl dX11_enough_59 (⟨by rw [eP hn, e2]; rfl, hf⟩)
    | succ m ih =>
      intro k M2 e e2 hf hR
      have hM2 := hM.fr hf
      have hr2 := frR hf hr
      rw [findN_s P m k] at e2
      refine qi_iload_n (i := 2) (x := nI k) dX11_enough_19 rfl rfl ?_
      refine qi_sipush (v := 200) dX11_enough_20 rfl ?_
      refine qi_icmp_gt (tgt := 57) dX11_enough_23 (by decide) (fun _h => absurd ((nI_ltI (a := 200) (b := k) (by omega) (by omega)).mp _h) (by omega)) (fun _hc => ?_)
      refine qi_aload_n (i := 0) (x := 0) dX11_enough_26 rfl rfl ?_
      refine qi_getR (x := 230) flX11_58 dX11_enough_27 rfl (by decide) (hM2 0 7 230 rfl) ?_
      refine qi_getI (x := allF (weeksF π (-1) ρ k)) flX11_139 dX11_enough_30 rfl (by decide) hR.2.2.2.2.1 ?_
      refine qi_iload_n (i := 1) (x := n) dX11_enough_33 rfl rfl ?_
      refine qi_icmp_lt (tgt := 39) dX11_enough_34 (by decide) (fun c1 => ?_) (fun c1 => ?_)
      · refine qi_aload_n (i := 0) (x := 0) dX11_enough_39 rfl rfl ?_
        refine qi_getR (x := 230) flX11_58 dX11_enough_40 rfl (by decide) (hM2 0 7 230 rfl) ?_
        refine qi_aload_n (i := 0) (x := 0) dX11_enough_43 rfl rfl ?_
        refine qi_getR (x := p) flX11_67 dX11_enough_44 rfl (by decide) hr2 ?_
        refine qi_iconst (v := -1) dX11_enough_47 rfl ?_
        refine qi_callVV (K' := kX6_passWeek) (As := [.ref p, .int (-1)]) mlX11_208 okX6_passWeek dX11_enough_48 (c_X6_passWeek g qIsS_trial hp (by decide) hM2 hR (hP.q hp hf) hok (hO.weeks hok k) (-1)) rfl (by decide) rfl (by decide) rfl rfl (Nat.le_of_ble_eq_true rfl) ⟨(Nat.le_of_ble_eq_true rfl), (Nat.le_of_ble_eq_true rfl)⟩ ⟨Nat.le_refl _, Nat.le_refl _⟩ (fun M3 ⟨hR3, hf3⟩ => ?_)
        refine qi_iinc (i := 2) (x := nI k) (v := nI (k + 1)) (L2 := [some (.ref 0), some (.int n), some (.int (nI (k + 1)))]) dX11_enough_51 rfl (nI_1 k) (Nat.le_of_ble_eq_true rfl) rfl ?_
        refine qi_goto (tgt := 19) dX11_enough_54 (by decide) ?_
        refine ih (k + 1) M3 (by omega) ?_ (hf.tr (hf3.mono (fun _ _ => SW_SQ))) hR3
        rw [e2, hPd, decide_eq_false (Int32.not_le.mpr c1)]
        rfl
      · refine qi_iload_n (i := 2) (x := nI k) dX11_enough_37 rfl rfl ?_
        exact qi_retI rfl rfl dX11_enough_38 (⟨by rw [eP hn, e2, hPd, decide_eq_true (Int32.not_lt.mp c1)]; rfl, hf⟩)
  refine qI.of (j := 1) (pn_RX11) rfl ?_
  show qT g kX11_enough (qR 5 0 0) (qZI g (fun r M' => r = res ∧ qFr (SQx p) M M')) 0 [some (.ref 0), some (.int n), none] [] 333 M (0, 0)
  refine qi_iload_n (i := 1) (x := n) dX11_enough_0 rfl rfl ?_
  refine qi_if_ge (tgt := 6) dX11_enough_1 (by decide) (fun c0 => ?_) (fun c0 => ?_)
  · refine qi_aload_n (i := 0) (x := 0) dX11_enough_6 rfl rfl ?_
    refine qi_getR (x := 230) flX11_58 dX11_enough_7 rfl (by decide) (hM 0 7 230 rfl) ?_
    refine qi_aload_n (i := 0) (x := 0) dX11_enough_10 rfl rfl ?_
    refine qi_getR (x := 224) flX11_54 dX11_enough_11 rfl (by decide) (hM 0 6 224 rfl) ?_
    refine qi_callVV (K' := kX6_copyFrom) (As := [.ref 224]) mlX11_205 okX6_copyFrom dX11_enough_14 (c_X6_copyFrom g qIsS_trial qIsS_sea (Or.inr (by decide)) hM hS) rfl (by decide) rfl (by decide) rfl rfl (Nat.le_of_ble_eq_true rfl) ⟨(Nat.le_of_ble_eq_true rfl), (Nat.le_of_ble_eq_true rfl)⟩ ⟨Nat.le_refl _, Nat.le_refl _⟩ (fun M2 ⟨hR2, hf2⟩ => ?_)
    refine qi_iconst (v := 0) dX11_enough_17 rfl ?_
    refine qi_istore_n (i := 2) (L2 := [some (.ref 0), some (.int n), some (.int 0)]) dX11_enough_18 rfl (Nat.le_of_ble_eq_true rfl) rfl ?_
    exact K (Int32.not_lt.mpr c0) 201 0 M2 (by omega) rfl (hf2.mono (fun _ _ => SS_SQ)) hR2
  · refine qi_iconst (v := -1) dX11_enough_4 rfl ?_
    exact qi_retI rfl rfl dX11_enough_5 (⟨by rw [hres]; unfold enoughQ; rw [if_pos (Int32.not_le.mp c0)], qFr.rf⟩)
set_option maxHeartbeats 1000000 in
theorem c_X11_salty (g : qG) {M : qM} (hM : qRf M) {p : Nat} {π : qPl} (hp : qIsP p) (hr : M.2.2 0 9 = some p) (hP : qPlan M p π) (hok : okPl π) {ρ : Nat → Int32} (hS : qSea M 224 ρ) (hO : okSea π ρ) (n : Int32) : qI g 5 kX11_salty [.ref 0, .int n] M (fun r M' => r = saltyQ π ρ n ∧ qFr (SQx p) M M') := by
  obtain ⟨res, hres⟩ : ∃ res, res = saltyQ π ρ n := ⟨_, rfl⟩
  rw [← hres]
  have hP0 : ∃ P : Nat → Bool, ∀ k, P k = decide (n.toInt64 ≤ saltF (weeksF π (-1) ρ k)) := ⟨_, fun _ => rfl⟩
  obtain ⟨P, hPd⟩ := hP0
  have eP : ¬ n < 0 → res = o2n (findN P 201 0) := fun z => by rw [hres]; unfold saltyQ; rw [if_neg z]; congr 2; funext o; exact (hPd o).symm
  have K : ¬ n < 0 → ∀ m k M2, k + m = 201 → findN P 201 0 = findN P m k → qFr (SQx p) M M2 → qSea M2 230 (weeksF π (-1) ρ k) → qT g kX11_salty (qR 5 0 0) (qZI g (fun r M' => r = res ∧ qFr (SQx p) M M')) 19 [some (.ref 0), some (.int n), some (.int (nI k))] [] 333 M2 (0, 0) := by
    intro hn m
    induction m with
    | zero =>
      intro k M2 e e2 hf hR
      refine qi_iload_n (i := 2) (x := nI k) dX11_salty_19 rfl rfl ?_
      refine qi_sipush (v := 200) dX11_salty_20 rfl ?_
      refine qi_icmp_gt (tgt := 59) dX11_salty_23 (by decide) (fun _hc => ?_) (fun _h => absurd ((nI_ltI (a := 200) (b := k) (by omega) (by omega)).mpr (by omega)) _h)
      refine qi_bipush (v := -2) dX11_salty_59 rfl ?_
      exact qi_retI rfl rfl dX11_salty_61 (⟨by rw [eP hn, e2]; rfl, hf⟩)
    | succ m ih =>
      intro k M2 e e2 hf hR
      have hM2 := hM.fr hf
      have hr2 := frR hf hr
      rw [findN_s P m k] at e2
      refine qi_iload_n (i := 2) (x := nI k) dX11_salty_19 rfl rfl ?_
      refine qi_sipush (v := 200) dX11_salty_20 rfl ?_
      refine qi_icmp_gt (tgt := 59) dX11_salty_23 (by decide) (fun _h => absurd ((nI_ltI (a := 200) (b := k) (by omega) (by omega)).mp _h) (by omega)) (fun _hc => ?_)
      refine qi_aload_n (i := 0) (x := 0) dX11_salty_26 rfl rfl ?_
      refine qi_getR (x := 230) flX11_58 dX11_salty_27 rfl (by decide) (hM2 0 7 230 rfl) ?_
      refine qi_callPVJ (v := saltF (weeksF π (-1) ρ k)) (K' := kX6_saltiness) (As := []) mlX11_212 okX6_saltiness dX11_salty_30 (c_X6_saltiness g qIsS_trial hR) rfl (by decide) rfl (by decide) rfl rfl (Nat.le_of_ble_eq_true rfl) ⟨(Nat.le_of_ble_eq_true rfl), (Nat.le_of_ble_eq_true rfl)⟩ ⟨Nat.le_refl _, Nat.le_refl _⟩ ?_
      refine qi_iload_n (i := 1) (x := n) dX11_salty_33 rfl rfl ?_
      refine qi_i2l dX11_salty_34 ?_
      refine qi_lcmp dX11_salty_35 ?_
      refine qi_if_lt (tgt := 41) dX11_salty_36 (by decide) (fun c1 => ?_) (fun c1 => ?_)
      · have c2 : ¬ n.toInt64 ≤ saltF (weeksF π (-1) ρ k) := Int64.not_le.mpr ((lg_cmp_lt _ _).mp c1)
        refine qi_aload_n (i := 0) (x := 0) dX11_salty_41 rfl rfl ?_
        refine qi_getR (x := 230) flX11_58 dX11_salty_42 rfl (by decide) (hM2 0 7 230 rfl) ?_
        refine qi_aload_n (i := 0) (x := 0) dX11_salty_45 rfl rfl ?_
        refine qi_getR (x := p) flX11_67 dX11_salty_46 rfl (by decide) hr2 ?_
        refine qi_iconst (v := -1) dX11_salty_49 rfl ?_
        refine qi_callVV (K' := kX6_passWeek) (As := [.ref p, .int (-1)]) mlX11_208 okX6_passWeek dX11_salty_50 (c_X6_passWeek g qIsS_trial hp (by decide) hM2 hR (hP.q hp hf) hok (hO.weeks hok k) (-1)) rfl (by decide) rfl (by decide) rfl rfl (Nat.le_of_ble_eq_true rfl) ⟨(Nat.le_of_ble_eq_true rfl), (Nat.le_of_ble_eq_true rfl)⟩ ⟨Nat.le_refl _, Nat.le_refl _⟩ (fun M3 ⟨hR3, hf3⟩ => ?_)
        refine qi_iinc (i := 2) (x := nI k) (v := nI (k + 1)) (L2 := [some (.ref 0), some (.int n), some (.int (nI (k + 1)))]) dX11_salty_53 rfl (nI_1 k) (Nat.le_of_ble_eq_true rfl) rfl ?_
        refine qi_goto (tgt := 19) dX11_salty_56 (by decide) ?_
        refine ih (k + 1) M3 (by omega) ?_ (hf.tr (hf3.mono (fun _ _ => SW_SQ))) hR3
        rw [e2, hPd, decide_eq_false c2]
        rfl
      · have c2 : n.toInt64 ≤ saltF (weeksF π (-1) ρ k) := Int64.not_lt.mp (fun z => c1 ((lg_cmp_lt _ _).mpr z))
        refine qi_iload_n (i := 2) (x := nI k) dX11_salty_39 rfl rfl ?_
        exact qi_retI rfl rfl dX11_salty_40 (⟨by rw [eP hn, e2, hPd, decide_eq_true c2]; rfl, hf⟩)
  refine qI.of (j := 1) (pn_RX11) rfl ?_
  show qT g kX11_salty (qR 5 0 0) (qZI g (fun r M' => r = res ∧ qFr (SQx p) M M')) 0 [some (.ref 0), some (.int n), none] [] 333 M (0, 0)
  refine qi_iload_n (i := 1) (x := n) dX11_salty_0 rfl rfl ?_
  refine qi_if_ge (tgt := 6) dX11_salty_1 (by decide) (fun c0 => ?_) (fun c0 => ?_)
  · refine qi_aload_n (i := 0) (x := 0) dX11_salty_6 rfl rfl ?_
    refine qi_getR (x := 230) flX11_58 dX11_salty_7 rfl (by decide) (hM 0 7 230 rfl) ?_
    refine qi_aload_n (i := 0) (x := 0) dX11_salty_10 rfl rfl ?_
    refine qi_getR (x := 224) flX11_54 dX11_salty_11 rfl (by decide) (hM 0 6 224 rfl) ?_
    refine qi_callVV (K' := kX6_copyFrom) (As := [.ref 224]) mlX11_205 okX6_copyFrom dX11_salty_14 (c_X6_copyFrom g qIsS_trial qIsS_sea (Or.inr (by decide)) hM hS) rfl (by decide) rfl (by decide) rfl rfl (Nat.le_of_ble_eq_true rfl) ⟨(Nat.le_of_ble_eq_true rfl), (Nat.le_of_ble_eq_true rfl)⟩ ⟨Nat.le_refl _, Nat.le_refl _⟩ (fun M2 ⟨hR2, hf2⟩ => ?_)
    refine qi_iconst (v := 0) dX11_salty_17 rfl ?_
    refine qi_istore_n (i := 2) (L2 := [some (.ref 0), some (.int n), some (.int 0)]) dX11_salty_18 rfl (Nat.le_of_ble_eq_true rfl) rfl ?_
    exact K (Int32.not_lt.mpr c0) 201 0 M2 (by omega) rfl (hf2.mono (fun _ _ => SS_SQ)) hR2
  · refine qi_iconst (v := -1) dX11_salty_4 rfl ?_
    exact qi_retI rfl rfl dX11_salty_5 (⟨by rw [hres]; unfold saltyQ; rw [if_pos (Int32.not_le.mp c0)], qFr.rf⟩)
