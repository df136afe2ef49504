/-! ThimbleSeaModel: heir, drops, owns, claim -/
theorem sw_out {w : Int32} {n : Nat} (hn : n < 2 ^ 31) (h : ∀ k, k ≤ n → ¬ w = nI k) : w.toInt < 0 ∨ (n : Int) < w.toInt := by
  by_cases c : w < 0
  · left
    have := Int32.lt_iff_toInt_lt.mp c
    have h0 : (0 : Int32).toInt = 0 := by decide
    omega
  · right
    obtain ⟨k, hk, rfl⟩ := nI_of c
    rw [nI_toInt hk]
    by_cases c2 : k ≤ n
    · exact absurd rfl (h k c2)
    · omega
set_option maxHeartbeats 1000000 in
theorem c_X12_heir (g : qG) {M : qM} (hM : qRf M) {L : Nat} {π : qPl} (hP : qPlanM M L π) (hok : okPl π) {ρ : Nat → Int32} (hN : qNow M ρ) (hO : okSea π ρ) (h w : Int32) : qI g 2 kX12_heir [.ref 280, .int h, .int w] M (fun r M' => r = heirQ π ρ h w ∧ qFr SM M M') := by
  obtain ⟨res, hres⟩ : ∃ res, res = heirQ π ρ h w := ⟨_, rfl⟩
  rw [← hres]
  have hh8 := hok.2.1
  refine qI.of (j := 0) (pn_RX12) rfl ?_
  show qT g kX12_heir (qR 2 0 0) (qZI g (fun r M' => r = res ∧ qFr SM M M')) 0 [some (.ref 280), some (.int h), some (.int w)] [] 333 M (0, 0)
  refine qi_aload_n (i := 0) (x := 280) dX12_heir_0 rfl rfl ?_
  refine qi_iload_n (i := 1) (x := h) dX12_heir_1 rfl rfl ?_
  refine qi_callPVI (v := isF (π.1 1) h) (K' := kX12_isHeir) (As := [.int h]) mlX12_380 okX12_isHeir dX12_heir_2 (c_X12_isHeir g hM hP hok h) rfl (by decide) rfl (by decide) rfl rfl (Nat.le_of_ble_eq_true rfl) ⟨(Nat.le_of_ble_eq_true rfl), (Nat.le_of_ble_eq_true rfl)⟩ ⟨Nat.le_refl _, Nat.le_refl _⟩ ?_
  refine qi_if_ne (tgt := 10) dX12_heir_5 (by decide) (fun c1 => ?_) (fun c1 => ?_)
  · refine qi_aload_n (i := 0) (x := 280) dX12_heir_10 rfl rfl ?_
    refine qi_callVV (K' := kX12_copies) (As := []) mlX12_383 okX12_copies dX12_heir_11 (c_X12_copies g hM hN) rfl (by decide) rfl (by decide) rfl rfl (Nat.le_of_ble_eq_true rfl) ⟨(Nat.le_of_ble_eq_true rfl), (Nat.le_of_ble_eq_true rfl)⟩ ⟨Nat.le_refl _, Nat.le_refl _⟩ (fun M2 ⟨hR2, e60, e61, _, hf2⟩ => ?_)
    have hM2 := hM.fr hf2
    obtain ⟨k, hk, ek⟩ := isF_of (by omega) c1
    unfold heirQ at hres
    rw [if_neg c1, ek, nI_clamp (by omega)] at hres
    rw [ek]
    refine qi_iload_n (i := 2) (x := w) dX12_heir_14 rfl rfl ?_
    by_cases w0 : w = 0
    · rw [if_pos w0] at hres
      rw [w0]
      refine qi_tabIn (tgt := 52) dX12_heir_15 (by decide) (by decide) rfl (by decide) ?_
      refine qi_aload_n (i := 0) (x := 280) dX12_heir_52 rfl rfl ?_
      refine qi_iload_n (i := 1) (x := nI k) dX12_heir_53 rfl rfl ?_
      refine qi_callPVI (v := dropsF ρ k) (K' := kX12_dropsOf) (As := [.int (nI k)]) mlX12_377 okX12_dropsOf dX12_heir_54 (c_X12_dropsOf g hM2 hR2 (by omega)) rfl (by decide) rfl (by decide) rfl rfl (Nat.le_of_ble_eq_true rfl) ⟨(Nat.le_of_ble_eq_true rfl), (Nat.le_of_ble_eq_true rfl)⟩ ⟨Nat.le_refl _, Nat.le_refl _⟩ ?_
      exact qi_retI rfl rfl dX12_heir_57 (⟨hres.symm, hf2⟩)
    rw [if_neg w0] at hres
    by_cases w1 : w = 1
    · rw [if_pos w1] at hres
      rw [w1]
      refine qi_tabIn (tgt := 58) dX12_heir_15 (by decide) (by decide) rfl (by decide) ?_
      refine qi_aload_n (i := 0) (x := 280) dX12_heir_58 rfl rfl ?_
      refine qi_getR (x := 322) flX12_143 dX12_heir_59 rfl (by decide) (hM2 280 59 322 rfl) ?_
      refine qi_bipush (v := 40) dX12_heir_62 rfl ?_
      refine qi_iload_n (i := 1) (x := nI k) dX12_heir_64 rfl rfl ?_
      refine qi_iadd dX12_heir_65 ?_
      refine qe_top (y := nI (40 + k)) (by rw [show (40 : Int32) = nI 40 from rfl, nI_add]) ?_
      refine qi_ialdN (x := M2.1 322 (40 + k)) (j := 40 + k) dX12_heir_66 rfl (by decide) rfl (by omega) (by decide) rfl ?_
      refine qe_top (y := ρ (40 + k)) (hR2 _ (by omega)) ?_
      exact qi_retI rfl rfl dX12_heir_67 (⟨hres.symm, hf2⟩)
    rw [if_neg w1] at hres
    by_cases w2 : w = 2
    · rw [if_pos w2] at hres
      rw [w2]
      refine qi_tabIn (tgt := 68) dX12_heir_15 (by decide) (by decide) rfl (by decide) ?_
      refine qi_aload_n (i := 0) (x := 280) dX12_heir_68 rfl rfl ?_
      refine qi_getR (x := 322) flX12_143 dX12_heir_69 rfl (by decide) (hM2 280 59 322 rfl) ?_
      refine qi_bipush (v := 48) dX12_heir_72 rfl ?_
      refine qi_iload_n (i := 1) (x := nI k) dX12_heir_74 rfl rfl ?_
      refine qi_iadd dX12_heir_75 ?_
      refine qe_top (y := nI (48 + k)) (by rw [show (48 : Int32) = nI 48 from rfl, nI_add]) ?_
      refine qi_ialdN (x := M2.1 322 (48 + k)) (j := 48 + k) dX12_heir_76 rfl (by decide) rfl (by omega) (by decide) rfl ?_
      refine qe_top (y := ρ (48 + k)) (hR2 _ (by omega)) ?_
      exact qi_retI rfl rfl dX12_heir_77 (⟨hres.symm, hf2⟩)
    rw [if_neg w2] at hres
    by_cases w3 : w = 3
    · rw [if_pos w3] at hres
      rw [w3]
      refine qi_tabIn (tgt := 78) dX12_heir_15 (by decide) (by decide) rfl (by decide) ?_
      refine qi_aload_n (i := 0) (x := 280) dX12_heir_78 rfl rfl ?_
      refine qi_getR (x := 322) flX12_143 dX12_heir_79 rfl (by decide) (hM2 280 59 322 rfl) ?_
      refine qi_bipush (v := 56) dX12_heir_82 rfl ?_
      refine qi_iload_n (i := 1) (x := nI k) dX12_heir_84 rfl rfl ?_
      refine qi_iadd dX12_heir_85 ?_
      refine qe_top (y := nI (56 + k)) (by rw [show (56 : Int32) = nI 56 from rfl, nI_add]) ?_
      refine qi_ialdN (x := M2.1 322 (56 + k)) (j := 56 + k) dX12_heir_86 rfl (by decide) rfl (by omega) (by decide) rfl ?_
      refine qe_top (y := ρ (56 + k)) (hR2 _ (by omega)) ?_
      exact qi_retI rfl rfl dX12_heir_87 (⟨hres.symm, hf2⟩)
    rw [if_neg w3] at hres
    by_cases w4 : w = 4
    · rw [if_pos w4] at hres
      obtain ⟨s, hs1, hs2, hs3⟩ := hO.share
      rw [w4]
      refine qi_tabIn (tgt := 88) dX12_heir_15 (by decide) (by decide) rfl (by decide) ?_
      refine qi_aload_n (i := 0) (x := 280) dX12_heir_88 rfl rfl ?_
      refine qi_bipush (v := 48) dX12_heir_89 rfl ?_
      refine qi_callPVI (v := sumO ρ 48) (K' := kX12_sumOn) (As := [.int 48]) mlX12_371 okX12_sumOn dX12_heir_91 (c_X12_sumOn g hM2 hR2 (by omega : 48 ≤ 56)) rfl (by decide) rfl (by decide) rfl rfl (Nat.le_of_ble_eq_true rfl) ⟨(Nat.le_of_ble_eq_true rfl), (Nat.le_of_ble_eq_true rfl)⟩ ⟨Nat.le_refl _, Nat.le_refl _⟩ ?_
      refine qi_if_ne (tgt := 101) dX12_heir_94 (by decide) (fun c4 => ?_) (fun c4 => ?_)
      · refine qi_aload_n (i := 0) (x := 280) dX12_heir_101 rfl rfl ?_
        refine qi_callPVI (v := allF ρ) (K' := kX12_allDrops) (As := []) mlX12_352 okX12_allDrops dX12_heir_102 (c_X12_allDrops g hM2 hR2) rfl (by decide) rfl (by decide) rfl rfl (Nat.le_of_ble_eq_true rfl) ⟨(Nat.le_of_ble_eq_true rfl), (Nat.le_of_ble_eq_true rfl)⟩ ⟨Nat.le_refl _, Nat.le_refl _⟩ ?_
        refine qi_aload_n (i := 0) (x := 280) dX12_heir_105 rfl rfl ?_
        refine qi_getR (x := 322) flX12_143 dX12_heir_106 rfl (by decide) (hM2 280 59 322 rfl) ?_
        refine qi_bipush (v := 48) dX12_heir_109 rfl ?_
        refine qi_iload_n (i := 1) (x := nI k) dX12_heir_111 rfl rfl ?_
        refine qi_iadd dX12_heir_112 ?_
        refine qe_top (y := nI (48 + k)) (by rw [show (48 : Int32) = nI 48 from rfl, nI_add]) ?_
        refine qi_ialdN (x := M2.1 322 (48 + k)) (j := 48 + k) dX12_heir_113 rfl (by decide) rfl (by omega) (by decide) rfl ?_
        refine qe_top (y := ρ (48 + k)) (hR2 _ (by omega)) ?_
        refine qi_imul dX12_heir_114 ?_
        refine qi_aload_n (i := 0) (x := 280) dX12_heir_115 rfl rfl ?_
        refine qi_bipush (v := 48) dX12_heir_116 rfl ?_
        refine qi_callPVI (v := sumO ρ 48) (K' := kX12_sumOn) (As := [.int 48]) mlX12_371 okX12_sumOn dX12_heir_118 (c_X12_sumOn g hM2 hR2 (by omega : 48 ≤ 56)) rfl (by decide) rfl (by decide) rfl rfl (Nat.le_of_ble_eq_true rfl) ⟨(Nat.le_of_ble_eq_true rfl), (Nat.le_of_ble_eq_true rfl)⟩ ⟨Nat.le_refl _, Nat.le_refl _⟩ ?_
        refine qi_idiv dX12_heir_121 c4 ?_
        refine qi_retI rfl rfl dX12_heir_122 (⟨?_, hf2⟩)
        rw [hres]
        unfold dueF max1
        by_cases h1 : 1 < sumO ρ 48
        · rw [if_pos h1]
        · rw [if_neg h1, show sumO ρ 48 = 1 from ?_]
          rw [hs2] at c4 h1 ⊢
          have : ¬ sumN s 8 = 0 := fun z => c4 (by rw [z]; rfl)
          have : ¬ 1 < sumN s 8 := fun z => h1 ((nI_ltI (a := 1) (by omega) (by omega)).mpr z)
          rw [show sumN s 8 = 1 by omega]
          rfl
      · refine qi_iconst (v := 0) dX12_heir_97 rfl ?_
        refine qi_goto (tgt := 122) dX12_heir_98 (by decide) ?_
        refine qi_retI rfl rfl dX12_heir_122 (⟨?_, hf2⟩)
        rw [hres]
        unfold dueF
        have e0 : sumN s 8 = 0 := (nI_eq (b := 0) (by omega) (by omega)).mp (hs2.symm.trans c4)
        have e1 := sumN_get (f := s) 8 k (by omega)
        rw [c4, hs1 k (by omega), show s k = 0 by omega, show max1 0 = 1 from rfl, Int32.div_one, show nI 0 = 0 from rfl, Int32.mul_zero]
    rw [if_neg w4] at hres
    by_cases w5 : w = 5
    · rw [if_pos w5] at hres
      rw [w5]
      refine qi_tabIn (tgt := 123) dX12_heir_15 (by decide) (by decide) rfl (by decide) ?_
      refine qi_aload_n (i := 0) (x := 280) dX12_heir_123 rfl rfl ?_
      refine qi_iload_n (i := 1) (x := nI k) dX12_heir_124 rfl rfl ?_
      refine qi_callPVI (v := nI (rankN ρ (π.1 1) k)) (K' := kX12_rankOf) (As := [.int (nI k)]) mlX12_386 okX12_rankOf dX12_heir_125 (c_X12_rankOf g hM2 hR2 (hP.fr hf2) hok (by omega)) rfl (by decide) rfl (by decide) rfl rfl (Nat.le_of_ble_eq_true rfl) ⟨(Nat.le_of_ble_eq_true rfl), (Nat.le_of_ble_eq_true rfl)⟩ ⟨Nat.le_refl _, Nat.le_refl _⟩ ?_
      exact qi_retI rfl rfl dX12_heir_128 (⟨hres.symm, hf2⟩)
    rw [if_neg w5] at hres
    refine qi_tabOut (tgt := 129) dX12_heir_15 (sw_out (n := 5) (by omega) (fun j hj => by rcases (show j = 0 ∨ j = 1 ∨ j = 2 ∨ j = 3 ∨ j = 4 ∨ j = 5 by omega) with rfl | rfl | rfl | rfl | rfl | rfl <;> assumption)) (by decide) ?_
    refine qi_iconst (v := -1) dX12_heir_129 rfl ?_
    exact qi_retI rfl rfl dX12_heir_130 (⟨hres.symm, hf2⟩)
  · refine qi_iconst (v := -1) dX12_heir_8 rfl ?_
    exact qi_retI rfl rfl dX12_heir_9 (⟨by rw [hres]; unfold heirQ; rw [if_pos c1], qFr.rf⟩)
set_option maxHeartbeats 1000000 in
theorem c_X12_drops (g : qG) {M : qM} (hM : qRf M) {L : Nat} {π : qPl} (hP : qPlanM M L π) (hok : okPl π) {ρ : Nat → Int32} (hN : qNow M ρ) (h w : Int32) : qI g 2 kX12_drops [.ref 280, .int h, .int w] M (fun r M' => r = dropsQ π ρ h w ∧ M' = M) := by
  obtain ⟨res, hres⟩ : ∃ res, res = dropsQ π ρ h w := ⟨_, rfl⟩
  rw [← hres]
  have hh8 := hok.2.1
  have hw5 := hok.1
  have E : badQ (π.1 1) h ∨ badQ (π.1 0) w → qT g kX12_drops (qR 2 0 0) (qZI g (fun r M' => r = res ∧ M' = M)) 26 [some (.ref 280), some (.int h), some (.int w), none, none] [] 333 M (0, 0) := by
    intro hb
    refine qi_iconst (v := -1) dX12_drops_26 rfl ?_
    exact qi_retI rfl rfl dX12_drops_27 (⟨by rw [hres]; unfold dropsQ; rw [if_pos hb], rfl⟩)
  have K28 : ¬ badQ (π.1 1) h → ¬ badQ (π.1 0) w → qT g kX12_drops (qR 2 0 0) (qZI g (fun r M' => r = res ∧ M' = M)) 28 [some (.ref 280), some (.int h), some (.int w), none, none] [] 333 M (0, 0) := by
    intro b1 b2
    have g1 := goodQ (l := 7) (by omega) (by omega) b1
    have g2 := goodQ (l := 4) (by omega) (by omega) b2
    have hr2 : res = selF ρ (fromQ h) (toQ 7 h) (fromQ w) (toQ 4 w) := by
      rw [hres]
      unfold dropsQ
      rw [if_neg (fun z => z.elim b1 b2)]
    generalize fromQ h = fh at *
    generalize toQ 7 h = lh at *
    generalize fromQ w = fw at *
    generalize toQ 4 w = lw at *
    have hF : ∃ F : Nat → Int32, ∀ k, F k = if fh ≤ k / 5 ∧ k / 5 ≤ lh ∧ fw ≤ k % 5 ∧ k % 5 ≤ lw then ρ k else 0 := ⟨_, fun _ => rfl⟩
    obtain ⟨F, e0⟩ := hF
    have eF : selF ρ fh lh fw lw = sumF F 40 := sumF_congr 40 (fun k _ => (e0 k).symm)
    have K : ∀ m j, j + m = 40 → qT g kX12_drops (qR 2 0 0) (qZI g (fun r M' => r = res ∧ M' = M)) 33 [some (.ref 280), some (.int h), some (.int w), some (.int (sumF F j)), some (.int (nI j))] [] 333 M (0, 0) := by
      intro m
      induction m with
      | zero =>
        intro j e
        refine qi_iload (i := 4) (x := nI j) dX12_drops_33 rfl ?_
        refine qi_bipush (v := 40) dX12_drops_35 rfl ?_
        refine qi_icmp_ge (tgt := 82) dX12_drops_37 (by decide) (fun _hc => ?_) (fun _h => absurd ((nI_leI (a := 40) (b := j) (by omega) (by omega)).mpr (by omega)) _h)
        refine qi_iload_n (i := 3) (x := sumF F j) dX12_drops_82 rfl rfl ?_
        exact qi_retI rfl rfl dX12_drops_83 (⟨by rw [hr2, eF, show j = 40 by omega], rfl⟩)
      | succ m ih =>
        intro j e
        have A := ih (j + 1) (by omega)
        have no : F j = 0 → qT g kX12_drops (qR 2 0 0) (qZI g (fun r M' => r = res ∧ M' = M)) 76 [some (.ref 280), some (.int h), some (.int w), some (.int (sumF F j)), some (.int (nI j))] [] 333 M (0, 0) := by
          intro z
          rw [show sumF F (j + 1) = sumF F j from by show sumF F j + F j = _; rw [z, Int32.add_zero]] at A
          refine qi_iinc (i := 4) (x := nI j) (v := nI (j + 1)) (L2 := [some (.ref 280), some (.int h), some (.int w), some (.int (sumF F j)), some (.int (nI (j + 1)))]) dX12_drops_76 rfl (nI_1 j) (Nat.le_of_ble_eq_true rfl) rfl ?_
          refine qi_goto (tgt := 33) dX12_drops_79 (by decide) ?_
          exact A
        have yes : F j = ρ j → qT g kX12_drops (qR 2 0 0) (qZI g (fun r M' => r = res ∧ M' = M)) 66 [some (.ref 280), some (.int h), some (.int w), some (.int (sumF F j)), some (.int (nI j))] [] 333 M (0, 0) := by
          intro z
          rw [show sumF F (j + 1) = sumF F j + ρ j from by show sumF F j + F j = _; rw [z]] at A
          refine qi_iload_n (i := 3) (x := sumF F j) dX12_drops_66 rfl rfl ?_
          refine qi_aload_n (i := 0) (x := 280) dX12_drops_67 rfl rfl ?_
          refine qi_getR (x := 321) flX12_140 dX12_drops_68 rfl (by decide) (hM 280 58 321 rfl) ?_
          refine qi_iload (i := 4) (x := nI j) dX12_drops_71 rfl ?_
          refine qi_ialdN (x := M.1 321 j) (j := j) dX12_drops_73 rfl (by decide) rfl (by omega) (by decide) rfl ?_
          refine qe_top (y := ρ j) (hN _ (by omega)) ?_
          refine qi_iadd dX12_drops_74 ?_
          refine qi_istore_n (i := 3) (L2 := [some (.ref 280), some (.int h), some (.int w), some (.int ((sumF F j) + (ρ j))), some (.int (nI j))]) dX12_drops_75 rfl (Nat.le_of_ble_eq_true rfl) rfl ?_
          refine qi_iinc (i := 4) (x := nI j) (v := nI (j + 1)) (L2 := [some (.ref 280), some (.int h), some (.int w), some (.int ((sumF F j) + (ρ j))), some (.int (nI (j + 1)))]) dX12_drops_76 rfl (nI_1 j) (Nat.le_of_ble_eq_true rfl) rfl ?_
          refine qi_goto (tgt := 33) dX12_drops_79 (by decide) ?_
          exact A
        have K53 : fh ≤ j / 5 ∧ j / 5 ≤ lh → qT g kX12_drops (qR 2 0 0) (qZI g (fun r M' => r = res ∧ M' = M)) 53 [some (.ref 280), some (.int h), some (.int w), some (.int (sumF F j)), some (.int (nI j))] [] 333 M (0, 0) := by
          intro z
          refine qi_iload_n (i := 2) (x := w) dX12_drops_53 rfl rfl ?_
          refine qi_iconst (v := -1) dX12_drops_54 rfl ?_
          rcases g2 with ⟨a1, a2, a3⟩ | ⟨a1, a2, a3⟩
          ·
            refine qi_icmp_eq (tgt := 66) dX12_drops_55 (by decide) (fun q => ?_) (fun q => False.elim (absurd a1 q))
            exact yes (by rw [e0, if_pos (by omega)])
          ·
            refine qi_icmp_eq (tgt := 66) dX12_drops_55 (by decide) (fun q => False.elim (nI_m1 (by omega) (a1.symm.trans q))) (fun q => ?_)
            refine qi_iload (i := 4) (x := nI j) dX12_drops_58 rfl ?_
            refine qi_iconst (v := 5) dX12_drops_60 rfl ?_
            refine qi_irem dX12_drops_61 (by decide) ?_
            refine qe_top (y := nI (j % 5)) (by rw [show (5 : Int32) = nI 5 from rfl, pk_rem (by omega) (by omega) (by omega)]) ?_
            refine qi_iload_n (i := 2) (x := w) dX12_drops_62 rfl rfl ?_
            refine qi_icmp_ne (tgt := 76) dX12_drops_63 (by decide) (fun q2 => ?_) (fun q2 => ?_)
            · exact no (by rw [e0]; exact if_neg (fun y => q2 (by rw [a1, show j % 5 = fw by omega])))
            · rw [a1] at q2
              have q3 := (nI_eq (by omega) (by omega)).mp q2
              exact yes (by rw [e0, if_pos (by omega)])
        refine qi_iload (i := 4) (x := nI j) dX12_drops_33 rfl ?_
        refine qi_bipush (v := 40) dX12_drops_35 rfl ?_
        refine qi_icmp_ge (tgt := 82) dX12_drops_37 (by decide) (fun _h => absurd ((nI_leI (a := 40) (b := j) (by omega) (by omega)).mp _h) (by omega)) (fun _hc => ?_)
        refine qi_iload_n (i := 1) (x := h) dX12_drops_40 rfl rfl ?_
        refine qi_iconst (v := -1) dX12_drops_41 rfl ?_
        rcases g1 with ⟨a1, a2, a3⟩ | ⟨a1, a2, a3⟩
        ·
          refine qi_icmp_eq (tgt := 53) dX12_drops_42 (by decide) (fun q => ?_) (fun q => False.elim (absurd a1 q))
          exact K53 (by omega)
        ·
          refine qi_icmp_eq (tgt := 53) dX12_drops_42 (by decide) (fun q => False.elim (nI_m1 (by omega) (a1.symm.trans q))) (fun q => ?_)
          refine qi_iload (i := 4) (x := nI j) dX12_drops_45 rfl ?_
          refine qi_iconst (v := 5) dX12_drops_47 rfl ?_
          refine qi_idiv dX12_drops_48 (by decide) ?_
          refine qe_top (y := nI (j / 5)) (by rw [show (5 : Int32) = nI 5 from rfl, pk_div (by omega) (by omega) (by omega)]) ?_
          refine qi_iload_n (i := 1) (x := h) dX12_drops_49 rfl rfl ?_
          refine qi_icmp_ne (tgt := 76) dX12_drops_50 (by decide) (fun q2 => ?_) (fun q2 => ?_)
          · exact no (by rw [e0]; exact if_neg (fun y => q2 (by rw [a1, show j / 5 = fh by omega])))
          · rw [a1] at q2
            have q3 := (nI_eq (by omega) (by omega)).mp q2
            exact K53 (by omega)
    refine qi_iconst (v := 0) dX12_drops_28 rfl ?_
    refine qi_istore_n (i := 3) (L2 := [some (.ref 280), some (.int h), some (.int w), some (.int 0), none]) dX12_drops_29 rfl (Nat.le_of_ble_eq_true rfl) rfl ?_
    refine qi_iconst (v := 0) dX12_drops_30 rfl ?_
    refine qi_istore (i := 4) (L2 := [some (.ref 280), some (.int h), some (.int w), some (.int 0), some (.int 0)]) dX12_drops_31 (Nat.le_of_ble_eq_true rfl) rfl ?_
    exact K 40 0 (by omega)
  have K13 : ¬ badQ (π.1 1) h → qT g kX12_drops (qR 2 0 0) (qZI g (fun r M' => r = res ∧ M' = M)) 13 [some (.ref 280), some (.int h), some (.int w), none, none] [] 333 M (0, 0) := by
    intro b1
    refine qi_iload_n (i := 2) (x := w) dX12_drops_13 rfl rfl ?_
    refine qi_iconst (v := -1) dX12_drops_14 rfl ?_
    refine qi_icmp_eq (tgt := 28) dX12_drops_15 (by decide) (fun c => ?_) (fun c => ?_)
    · exact K28 b1 (fun z => z.1 c)
    · refine qi_aload_n (i := 0) (x := 280) dX12_drops_18 rfl rfl ?_
      refine qi_iload_n (i := 2) (x := w) dX12_drops_19 rfl rfl ?_
      refine qi_callPVI (v := isF (π.1 0) w) (K' := kX12_isWater) (As := [.int w]) mlX12_389 okX12_isWater dX12_drops_20 (c_X12_isWater g hM hP hok w) rfl (by decide) rfl (by decide) rfl rfl (Nat.le_of_ble_eq_true rfl) ⟨(Nat.le_of_ble_eq_true rfl), (Nat.le_of_ble_eq_true rfl)⟩ ⟨Nat.le_refl _, Nat.le_refl _⟩ ?_
      refine qi_if_ne (tgt := 28) dX12_drops_23 (by decide) (fun c2 => ?_) (fun c2 => ?_)
      · exact K28 b1 (fun z => c2 z.2)
      · exact E (Or.inr ⟨c, c2⟩)
  refine qI.of (j := 2) (pn_RX12) rfl ?_
  show qT g kX12_drops (qR 2 0 0) (qZI g (fun r M' => r = res ∧ M' = M)) 0 [some (.ref 280), some (.int h), some (.int w), none, none] [] 333 M (0, 0)
  refine qi_iload_n (i := 1) (x := h) dX12_drops_0 rfl rfl ?_
  refine qi_iconst (v := -1) dX12_drops_1 rfl ?_
  refine qi_icmp_eq (tgt := 13) dX12_drops_2 (by decide) (fun c => ?_) (fun c => ?_)
  · exact K13 (fun z => z.1 c)
  · refine qi_aload_n (i := 0) (x := 280) dX12_drops_5 rfl rfl ?_
    refine qi_iload_n (i := 1) (x := h) dX12_drops_6 rfl rfl ?_
    refine qi_callPVI (v := isF (π.1 1) h) (K' := kX12_isHeir) (As := [.int h]) mlX12_380 okX12_isHeir dX12_drops_7 (c_X12_isHeir g hM hP hok h) rfl (by decide) rfl (by decide) rfl rfl (Nat.le_of_ble_eq_true rfl) ⟨(Nat.le_of_ble_eq_true rfl), (Nat.le_of_ble_eq_true rfl)⟩ ⟨Nat.le_refl _, Nat.le_refl _⟩ ?_
    refine qi_if_eq (tgt := 26) dX12_drops_10 (by decide) (fun c2 => ?_) (fun c2 => ?_)
    · exact E (Or.inl ⟨c, c2⟩)
    · exact K13 (fun z => c2 z.2)
set_option maxHeartbeats 1000000 in
theorem c_X12_common (g : qG) {M : qM} {a b : Nat} (ha : a < 2 ^ 63) (hb : b < 2 ^ 63) : qJ g 0 kX12_common [.long (lN a), .long (lN b)] M (fun r M' => r = lN (Nat.gcd a b) ∧ M' = M) := by
  have K : ∀ m x y q8, y ≤ m → x < 2 ^ 63 → y < 2 ^ 63 → Nat.gcd x y = Nat.gcd a b → qT g kX12_common (qR 0 0 0) (qZJ g (fun r M' => r = (lN (Nat.gcd a b)) ∧ M' = M)) 6 [some (.long (lN a)), none, some (.long (lN b)), none, some (.long (lN x)), none, some (.long (lN y)), none, q8, none] [] 333 M (0, 0) := by
    intro m
    induction m with
    | zero =>
      intro x y q8 e hx hy hg
      obtain rfl : y = 0 := Nat.le_zero.mp e
      refine qi_lload (i := 6) (x := lN 0) dX12_common_6 rfl ?_
      refine qi_lconst (v := 0) dX12_common_8 rfl ?_
      refine qi_lcmp dX12_common_9 ?_
      refine qi_if_eq (tgt := 31) dX12_common_10 (by decide) (fun q => ?_) (fun q => False.elim (q ((lg_cmp_eq _ _).mpr rfl)))
      refine qi_lload (i := 4) (x := lN x) dX12_common_31 rfl ?_
      exact qi_retJ rfl dX12_common_33 (⟨by rw [← hg, Nat.gcd_zero_right], rfl⟩)
    | succ m ih =>
      intro x y q8 e hx hy hg
      refine qi_lload (i := 6) (x := lN y) dX12_common_6 rfl ?_
      refine qi_lconst (v := 0) dX12_common_8 rfl ?_
      refine qi_lcmp dX12_common_9 ?_
      by_cases hy0 : y = 0
      · subst hy0
        refine qi_if_eq (tgt := 31) dX12_common_10 (by decide) (fun q => ?_) (fun q => False.elim (q ((lg_cmp_eq _ _).mpr rfl)))
        refine qi_lload (i := 4) (x := lN x) dX12_common_31 rfl ?_
        exact qi_retJ rfl dX12_common_33 (⟨by rw [← hg, Nat.gcd_zero_right], rfl⟩)
      ·
        have hz : ¬ lN y = 0 := fun z => hy0 ((pk_lEQ (b := 0) hy (by omega)).mp z)
        refine qi_if_eq (tgt := 31) dX12_common_10 (by decide) (fun q => False.elim (hz ((lg_cmp_eq _ _).mp q))) (fun q => ?_)
        refine qi_lload (i := 4) (x := lN x) dX12_common_13 rfl ?_
        refine qi_lload (i := 6) (x := lN y) dX12_common_15 rfl ?_
        refine qi_lrem dX12_common_17 hz ?_
        refine qe_topJ (y := lN (x % y)) (pk_lRem hx (by omega) hy) ?_
        refine qi_lstore (i := 8) (L2 := [some (.long (lN a)), none, some (.long (lN b)), none, some (.long (lN x)), none, some (.long (lN y)), none, some (.long (lN (x % y))), none]) dX12_common_18 (Nat.le_of_ble_eq_true rfl) rfl ?_
        refine qi_lload (i := 6) (x := lN y) dX12_common_20 rfl ?_
        refine qi_lstore (i := 4) (L2 := [some (.long (lN a)), none, some (.long (lN b)), none, some (.long (lN y)), none, some (.long (lN y)), none, some (.long (lN (x % y))), none]) dX12_common_22 (Nat.le_of_ble_eq_true rfl) rfl ?_
        refine qi_lload (i := 8) (x := lN (x % y)) dX12_common_24 rfl ?_
        refine qi_lstore (i := 6) (L2 := [some (.long (lN a)), none, some (.long (lN b)), none, some (.long (lN y)), none, some (.long (lN (x % y))), none, some (.long (lN (x % y))), none]) dX12_common_26 (Nat.le_of_ble_eq_true rfl) rfl ?_
        refine qi_goto (tgt := 6) dX12_common_28 (by decide) ?_
        exact ih y (x % y) _ (by have := Nat.mod_lt x (show 0 < y by omega); omega) hy (by have := Nat.mod_lt x (show 0 < y by omega); omega) (by rw [← hg, Nat.gcd_comm y (x % y), ← Nat.gcd_rec, Nat.gcd_comm])
  refine qJ.of (j := 6) (pn_RX12) rfl ?_
  show qT g kX12_common (qR 0 0 0) (qZJ g (fun r M' => r = (lN (Nat.gcd a b)) ∧ M' = M)) 0 [some (.long (lN a)), none, some (.long (lN b)), none, none, none, none, none, none, none] [] 333 M (0, 0)
  refine qi_lload_n (i := 0) (x := lN a) dX12_common_0 rfl rfl ?_
  refine qi_lstore (i := 4) (L2 := [some (.long (lN a)), none, some (.long (lN b)), none, some (.long (lN a)), none, none, none, none, none]) dX12_common_1 (Nat.le_of_ble_eq_true rfl) rfl ?_
  refine qi_lload_n (i := 2) (x := lN b) dX12_common_3 rfl rfl ?_
  refine qi_lstore (i := 6) (L2 := [some (.long (lN a)), none, some (.long (lN b)), none, some (.long (lN a)), none, some (.long (lN b)), none, none, none]) dX12_common_4 (Nat.le_of_ble_eq_true rfl) rfl ?_
  exact K b a b none (Nat.le_refl _) ha hb rfl
