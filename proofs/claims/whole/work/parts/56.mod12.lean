/-! ThimbleSeaModel: crossed, bits, wins, league, power, without -/
theorem inF_nat1 {n : Nat} {v : Int32} (hn : n < 2 ^ 31) (h : ¬ inF 1 (nI n) v = 0) : ∃ k, 1 ≤ k ∧ k ≤ n ∧ v = nI k := by
  have hin := inF_of h
  have a1 := Int32.le_iff_toInt_le.mp hin.1
  have a2 := Int32.le_iff_toInt_le.mp hin.2
  rw [nI_toInt hn] at a2
  have a3 : (1 : Int32).toInt = 1 := by decide
  have a4 : ¬ v < 0 := fun z => by
    have a5 := Int32.lt_iff_toInt_lt.mp z
    have a6 : (0 : Int32).toInt = 0 := by decide
    omega
  obtain ⟨k, hk, e⟩ := nI_of a4
  rw [e, nI_toInt hk] at a1 a2
  exact ⟨k, by omega, by omega, e⟩
theorem bestF_lt {ρ : Nat → Int32} {hs : Nat} {p q : Int32} : ∀ j b, bestF ρ hs p q j = some b → b < j
  | 0, b, h => by cases h
  | j + 1, b, h => by
    have e : bestF ρ hs p q (j + 1) = (match bestF ρ hs p q j with
      | none => if allF ρ * p ≤ dropsF ρ j * q then some j else none
      | some b => if allF ρ * p ≤ dropsF ρ j * q ∧ rankN ρ hs j < rankN ρ hs b then some j else some b) := rfl
    rw [e] at h
    cases hf : bestF ρ hs p q j with
    | none =>
      rw [hf] at h
      simp only at h
      split at h
      · have := Option.some.inj h; omega
      · cases h
    | some c =>
      rw [hf] at h
      have := bestF_lt j c hf
      simp only at h
      split at h
      · have := Option.some.inj h; omega
      · have := Option.some.inj h; omega
theorem findO_s (f : Nat → Option Nat) (m i : Nat) : findO f (m + 1) i = match f i with
  | some h => some (i, h)
  | none => findO f m (i + 1) := rfl
theorem bestF_n {ρ : Nat → Int32} {hs : Nat} {p q : Int32} {j : Nat} (h : bestF ρ hs p q j = none) : bestF ρ hs p q (j + 1) = if allF ρ * p ≤ dropsF ρ j * q then some j else none := by
  show (match bestF ρ hs p q j with
    | none => if allF ρ * p ≤ dropsF ρ j * q then some j else none
    | some b => if allF ρ * p ≤ dropsF ρ j * q ∧ rankN ρ hs j < rankN ρ hs b then some j else some b) = _
  rw [h]
theorem bestF_c {ρ : Nat → Int32} {hs : Nat} {p q : Int32} {j b : Nat} (h : bestF ρ hs p q j = some b) : bestF ρ hs p q (j + 1) = if allF ρ * p ≤ dropsF ρ j * q ∧ rankN ρ hs j < rankN ρ hs b then some j else some b := by
  show (match bestF ρ hs p q j with
    | none => if allF ρ * p ≤ dropsF ρ j * q then some j else none
    | some b => if allF ρ * p ≤ dropsF ρ j * q ∧ rankN ρ hs j < rankN ρ hs b then some j else some b) = _
  rw [h]
set_option maxHeartbeats 2000000 in
theorem c_X12_crossed (g : qG) {M : qM} (hM : qRf M) {L : Nat} {π : qPl} (hP : qPlanM M L π) (hok : okPl π) {ρ0 : Nat → Int32} (hN : qNow M ρ0) (hO : okSea π ρ0) (p q w : Int32) : qI g 5 kX12_crossed [.ref 280, .int p, .int q, .int w] M (fun r M' => r = crossedQ π ρ0 p q w ∧ qFr SM M M') := by
  obtain ⟨res, hres⟩ : ∃ res, res = crossedQ π ρ0 p q w := ⟨_, rfl⟩
  rw [← hres]
  have hh8 := hok.2.1
  have hb9 := hok.2.2.2.2.1
  have hL := hP.1.1
  have hP0 : ∃ P : Nat → Option Nat, ∀ k, P k = crossO (weeksF π (-1) ρ0 k) (π.1 1) p q := ⟨_, fun _ => rfl⟩
  obtain ⟨P, hPd⟩ := hP0
  have eP : crossOk p q w → res = (match findO P 201 0 with
    | some (k, h) => if w = 0 then nI k else nI h
    | none => -2) := fun z => by
    rw [hres]
    unfold crossedQ
    rw [if_pos z, show (fun k => crossO (weeksF π (-1) ρ0 k) (π.1 1) p q) = P from funext fun k => (hPd k).symm]
    rfl
  have E : ¬ crossOk p q w → qT g kX12_crossed (qR 5 0 0) (qZI g (fun r M' => r = res ∧ qFr SM M M')) 28 [some (.ref 280), some (.int p), some (.int q), some (.int w), none, none, none, none] [] 333 M (0, 0) := by
    intro hb
    refine qi_iconst (v := -1) dX12_crossed_28 rfl ?_
    exact qi_retI rfl rfl dX12_crossed_29 (⟨by rw [hres]; unfold crossedQ; rw [if_neg hb], qFr.rf⟩)
  have K : crossOk p q w → ∀ m k M2 x5 x6 x7, k + m = 201 → findO P 201 0 = findO P m k → qFr SM M M2 → qRow M2 (weeksF π (-1) ρ0 k) → M2.1 280 60 = -1 → M2.1 280 61 = -1 → qT g kX12_crossed (qR 5 0 0) (qZI g (fun r M' => r = res ∧ qFr SM M M')) 37 [some (.ref 280), some (.int p), some (.int q), some (.int w), some (.int (nI k)), x5, x6, x7] [] 333 M2 (0, 0) := by
    intro hok2 m
    obtain ⟨q0, hq1, hq2, rfl⟩ := inF_nat1 (n := 99) (by omega) hok2.1
    obtain ⟨p0, hp1, hp2, rfl⟩ := inF_nat1 (by omega) hok2.2.1
    induction m with
    | zero =>
      intro k M2 x5 x6 x7 e e2 hf hR e60 e61
      refine qi_iload (i := 4) (x := nI k) dX12_crossed_37 rfl ?_
      refine qi_sipush (v := 200) dX12_crossed_39 rfl ?_
      refine qi_icmp_gt (tgt := 148) dX12_crossed_42 (by decide) (fun _hc => ?_) (fun _h => absurd ((nI_ltI (a := 200) (b := k) (by omega) (by omega)).mpr (by omega)) _h)
      refine qi_bipush (v := -2) dX12_crossed_148 rfl ?_
      exact qi_retI rfl rfl dX12_crossed_150 (⟨by rw [eP hok2, e2]; rfl, hf⟩)
    | succ m ih =>
      intro k M2 x5 x6 x7 e e2 hf hR e60 e61
      have hM2 := hM.fr hf
      have hP2 := hP.fr hf
      have hO2 := hO.weeks (away := -1) hok k
      rw [findO_s P m k, hPd] at e2
      obtain ⟨ρ, hρ⟩ : ∃ ρ, ρ = weeksF π (-1) ρ0 k := ⟨_, rfl⟩
      rw [← hρ] at hR hO2 e2
      obtain ⟨A, eA, hA, hA2⟩ := hO2.all hok
      have hdr : ∀ h, h < π.1 1 → dropsF ρ h = nI (dN ρ h) := fun h hh => hO2.drop hok (by omega)
      have hdl : ∀ h, h < π.1 1 → dN ρ h ≤ A := fun h hh => by rw [hA2]; exact dN_le ρ (by omega)
      have J121 : ∀ B x5 x7, B = crossO ρ (π.1 1) (nI p0) (nI q0) → (∀ b, B = some b → b < 8) → qT g kX12_crossed (qR 5 0 0) (qZI g (fun r M' => r = res ∧ qFr SM M M')) 121 [some (.ref 280), some (.int (nI p0)), some (.int (nI q0)), some (.int w), some (.int (nI k)), x5, some (.int (o2i B)), x7] [] 333 M2 (0, 0) := by
        intro B x5 x7 hB hBl
        rw [← hB] at e2
        cases B with
        | none =>
          refine qi_iload (i := 6) (x := o2i none) dX12_crossed_121 rfl ?_
          refine qi_if_lt (tgt := 138) dX12_crossed_123 (by decide) (fun z => ?_) (fun z => False.elim (z (by decide)))
          refine qi_aload_n (i := 0) (x := 280) dX12_crossed_138 rfl rfl ?_
          rw [hρ] at hR hO2
          refine qi_callVV (K' := kX12_weekGoes) (As := []) mlX12_396 okX12_weekGoes dX12_crossed_139 (c_X12_weekGoes g hM2 hR hP2 hok hO2 e60 e61) rfl (by decide) rfl (by decide) rfl rfl (Nat.le_of_ble_eq_true rfl) ⟨(Nat.le_of_ble_eq_true rfl), (Nat.le_of_ble_eq_true rfl)⟩ ⟨Nat.le_refl _, Nat.le_refl _⟩ (fun M3 ⟨hR3, hf3⟩ => ?_)
          rw [awayF_m1] at hR3
          refine qi_iinc (i := 4) (x := nI k) (v := nI (k + 1)) (L2 := [some (.ref 280), some (.int (nI p0)), some (.int (nI q0)), some (.int w), some (.int (nI (k + 1))), x5, some (.int (o2i none)), x7]) dX12_crossed_142 rfl (nI_1 k) (Nat.le_of_ble_eq_true rfl) rfl ?_
          refine qi_goto (tgt := 37) dX12_crossed_145 (by decide) ?_
          exact ih (k + 1) M3 _ _ _ (by omega) e2 (hf.tr (hf3.mono (fun _ _ => SN_SM))) hR3 ((hf3.1 _ _ (by unfold SN; omega)).trans e60) ((hf3.1 _ _ (by unfold SN; omega)).trans e61)
        | some b =>
          have hb8 := hBl b rfl
          refine qi_iload (i := 6) (x := o2i (some b)) dX12_crossed_121 rfl ?_
          refine qi_if_lt (tgt := 138) dX12_crossed_123 (by decide) (fun z => False.elim (nI_pos (by omega) z)) (fun z => ?_)
          refine qi_iload_n (i := 3) (x := w) dX12_crossed_126 rfl rfl ?_
          refine qi_if_ne (tgt := 135) dX12_crossed_127 (by decide) (fun c => ?_) (fun c => ?_)
          · refine qi_iload (i := 6) (x := o2i (some b)) dX12_crossed_135 rfl ?_
            exact qi_retI rfl rfl dX12_crossed_137 (⟨by rw [eP hok2, e2]; simp only; rw [if_neg c]; rfl, hf⟩)
          · refine qi_iload (i := 4) (x := nI k) dX12_crossed_130 rfl ?_
            refine qi_goto (tgt := 137) dX12_crossed_132 (by decide) ?_
            exact qi_retI rfl rfl dX12_crossed_137 (⟨by rw [eP hok2, e2]; simp only; rw [if_pos c], hf⟩)
      refine qi_iload (i := 4) (x := nI k) dX12_crossed_37 rfl ?_
      refine qi_sipush (v := 200) dX12_crossed_39 rfl ?_
      refine qi_icmp_gt (tgt := 148) dX12_crossed_42 (by decide) (fun _h => absurd ((nI_ltI (a := 200) (b := k) (by omega) (by omega)).mp _h) (by omega)) (fun _hc => ?_)
      refine qi_aload_n (i := 0) (x := 280) dX12_crossed_45 rfl rfl ?_
      refine qi_callPVI (v := allF ρ) (K' := kX12_allDrops) (As := []) mlX12_352 okX12_allDrops dX12_crossed_46 (c_X12_allDrops g hM2 hR) rfl (by decide) rfl (by decide) rfl rfl (Nat.le_of_ble_eq_true rfl) ⟨(Nat.le_of_ble_eq_true rfl), (Nat.le_of_ble_eq_true rfl)⟩ ⟨Nat.le_refl _, Nat.le_refl _⟩ ?_
      refine qi_istore (i := 5) (L2 := [some (.ref 280), some (.int (nI p0)), some (.int (nI q0)), some (.int w), some (.int (nI k)), some (.int (allF ρ)), x6, x7]) dX12_crossed_49 (Nat.le_of_ble_eq_true rfl) rfl ?_
      refine qi_iconst (v := -1) dX12_crossed_51 rfl ?_
      refine qi_istore (i := 6) (L2 := [some (.ref 280), some (.int (nI p0)), some (.int (nI q0)), some (.int w), some (.int (nI k)), some (.int (allF ρ)), some (.int (-1)), x7]) dX12_crossed_52 (Nat.le_of_ble_eq_true rfl) rfl ?_
      refine qi_iconst (v := 0) dX12_crossed_54 rfl ?_
      refine qi_istore (i := 7) (L2 := [some (.ref 280), some (.int (nI p0)), some (.int (nI q0)), some (.int w), some (.int (nI k)), some (.int (allF ρ)), some (.int (-1)), some (.int 0)]) dX12_crossed_55 (Nat.le_of_ble_eq_true rfl) rfl ?_
      by_cases hpos : 0 < A
      · have hpos1 : ¬ allF ρ ≤ 0 := by rw [eA]; exact nI_nle hpos (by omega)
        have J : ∀ m2 j, j + m2 = π.1 1 → qT g kX12_crossed (qR 5 0 0) (qZI g (fun r M' => r = res ∧ qFr SM M M')) 57 [some (.ref 280), some (.int (nI p0)), some (.int (nI q0)), some (.int w), some (.int (nI k)), some (.int (allF ρ)), some (.int (o2i (bestF ρ (π.1 1) (nI p0) (nI q0) j))), some (.int (nI j))] [] 333 M2 (0, 0) := by
          intro m2
          induction m2 with
          | zero =>
            intro j ej
            obtain rfl : j = π.1 1 := by omega
            refine qi_iload (i := 7) (x := nI (π.1 1)) dX12_crossed_57 rfl ?_
            refine qi_aload_n (i := 0) (x := 280) dX12_crossed_59 rfl rfl ?_
            refine qi_getR (x := 294) flX12_58 dX12_crossed_60 rfl (by decide) (hM2 280 27 294 rfl) ?_
            refine qi_aload_n (i := 0) (x := 280) dX12_crossed_63 rfl rfl ?_
            refine qi_getI (x := nI L) flX12_248 dX12_crossed_64 rfl (by decide) hP2.1.2 ?_
            refine qi_ialdN (x := nI (π.1 1)) (j := L) dX12_crossed_67 rfl (by decide) rfl (by omega) (by decide) hP2.2.1.2.1 ?_
            refine qi_icmp_ge (tgt := 121) dX12_crossed_68 (by decide) (fun _hc => ?_) (fun _h => absurd ((nI_leI (a := π.1 1) (b := π.1 1) (by omega) (by omega)).mpr (by omega)) _h)
            exact J121 _ _ _ (bestF_is hdr hdl eA hpos (by omega) (by omega) (by omega)) (fun b hb => by have := bestF_lt _ _ hb; omega)
          | succ m2 ih2 =>
            intro j ej
            have A1 := ih2 (j + 1) (by omega)
            have yes : bestF ρ (π.1 1) (nI p0) (nI q0) (j + 1) = some j → qT g kX12_crossed (qR 5 0 0) (qZI g (fun r M' => r = res ∧ qFr SM M M')) 111 [some (.ref 280), some (.int (nI p0)), some (.int (nI q0)), some (.int w), some (.int (nI k)), some (.int (allF ρ)), some (.int (o2i (bestF ρ (π.1 1) (nI p0) (nI q0) j))), some (.int (nI j))] [] 333 M2 (0, 0) := by
              intro z
              rw [z] at A1
              refine qi_iload (i := 7) (x := nI j) dX12_crossed_111 rfl ?_
              refine qi_istore (i := 6) (L2 := [some (.ref 280), some (.int (nI p0)), some (.int (nI q0)), some (.int w), some (.int (nI k)), some (.int (allF ρ)), some (.int (nI j)), some (.int (nI j))]) dX12_crossed_113 (Nat.le_of_ble_eq_true rfl) rfl ?_
              refine qi_iinc (i := 7) (x := nI j) (v := nI (j + 1)) (L2 := [some (.ref 280), some (.int (nI p0)), some (.int (nI q0)), some (.int w), some (.int (nI k)), some (.int (allF ρ)), some (.int (nI j)), some (.int (nI (j + 1)))]) dX12_crossed_115 rfl (nI_1 j) (Nat.le_of_ble_eq_true rfl) rfl ?_
              refine qi_goto (tgt := 57) dX12_crossed_118 (by decide) ?_
              exact A1
            have no : bestF ρ (π.1 1) (nI p0) (nI q0) (j + 1) = bestF ρ (π.1 1) (nI p0) (nI q0) j → qT g kX12_crossed (qR 5 0 0) (qZI g (fun r M' => r = res ∧ qFr SM M M')) 115 [some (.ref 280), some (.int (nI p0)), some (.int (nI q0)), some (.int w), some (.int (nI k)), some (.int (allF ρ)), some (.int (o2i (bestF ρ (π.1 1) (nI p0) (nI q0) j))), some (.int (nI j))] [] 333 M2 (0, 0) := by
              intro z
              rw [z] at A1
              refine qi_iinc (i := 7) (x := nI j) (v := nI (j + 1)) (L2 := [some (.ref 280), some (.int (nI p0)), some (.int (nI q0)), some (.int w), some (.int (nI k)), some (.int (allF ρ)), some (.int (o2i (bestF ρ (π.1 1) (nI p0) (nI q0) j))), some (.int (nI (j + 1)))]) dX12_crossed_115 rfl (nI_1 j) (Nat.le_of_ble_eq_true rfl) rfl ?_
              refine qi_goto (tgt := 57) dX12_crossed_118 (by decide) ?_
              exact A1
            refine qi_iload (i := 7) (x := nI j) dX12_crossed_57 rfl ?_
            refine qi_aload_n (i := 0) (x := 280) dX12_crossed_59 rfl rfl ?_
            refine qi_getR (x := 294) flX12_58 dX12_crossed_60 rfl (by decide) (hM2 280 27 294 rfl) ?_
            refine qi_aload_n (i := 0) (x := 280) dX12_crossed_63 rfl rfl ?_
            refine qi_getI (x := nI L) flX12_248 dX12_crossed_64 rfl (by decide) hP2.1.2 ?_
            refine qi_ialdN (x := nI (π.1 1)) (j := L) dX12_crossed_67 rfl (by decide) rfl (by omega) (by decide) hP2.2.1.2.1 ?_
            refine qi_icmp_ge (tgt := 121) dX12_crossed_68 (by decide) (fun _h => absurd ((nI_leI (a := π.1 1) (b := j) (by omega) (by omega)).mp _h) (by omega)) (fun _hc => ?_)
            refine qi_iload (i := 5) (x := allF ρ) dX12_crossed_71 rfl ?_
            refine qi_if_le (tgt := 121) dX12_crossed_73 (by decide) (fun z => False.elim (hpos1 z)) (fun z => ?_)
            refine qi_aload_n (i := 0) (x := 280) dX12_crossed_76 rfl rfl ?_
            refine qi_iload (i := 7) (x := nI j) dX12_crossed_77 rfl ?_
            refine qi_callPVI (v := dropsF ρ j) (K' := kX12_dropsOf) (As := [.int (nI j)]) mlX12_377 okX12_dropsOf dX12_crossed_79 (c_X12_dropsOf g hM2 hR (by omega)) rfl (by decide) rfl (by decide) rfl rfl (Nat.le_of_ble_eq_true rfl) ⟨(Nat.le_of_ble_eq_true rfl), (Nat.le_of_ble_eq_true rfl)⟩ ⟨Nat.le_refl _, Nat.le_refl _⟩ ?_
            refine qi_iload_n (i := 2) (x := nI q0) dX12_crossed_82 rfl rfl ?_
            refine qi_imul dX12_crossed_83 ?_
            refine qi_iload_n (i := 1) (x := nI p0) dX12_crossed_84 rfl rfl ?_
            refine qi_iload (i := 5) (x := allF ρ) dX12_crossed_85 rfl ?_
            refine qi_imul dX12_crossed_87 ?_
            refine qi_icmp_lt (tgt := 115) dX12_crossed_88 (by decide) (fun c1 => ?_) (fun c1 => ?_)
            · have c2 : ¬ allF ρ * nI p0 ≤ dropsF ρ j * nI q0 := by rw [Int32.mul_comm (allF ρ)]; exact Int32.not_le.mpr c1
              refine no ?_
              cases hf0 : bestF ρ (π.1 1) (nI p0) (nI q0) j with
              | none => rw [bestF_n hf0, if_neg c2]
              | some b => rw [bestF_c hf0, if_neg (fun z => c2 z.1)]
            · have c2 : allF ρ * nI p0 ≤ dropsF ρ j * nI q0 := by rw [Int32.mul_comm (allF ρ)]; exact Int32.not_lt.mp c1
              refine qi_iload (i := 6) (x := o2i (bestF ρ (π.1 1) (nI p0) (nI q0) j)) dX12_crossed_91 rfl ?_
              cases hf0 : bestF ρ (π.1 1) (nI p0) (nI q0) j with
              | none =>
                rw [hf0] at yes
                refine qi_if_lt (tgt := 111) dX12_crossed_93 (by decide) (fun z => ?_) (fun z => False.elim (z (by decide)))
                exact yes (by rw [bestF_n hf0, if_pos c2])
              | some b =>
                have hbj := bestF_lt _ _ hf0
                rw [hf0] at yes no
                refine qi_if_lt (tgt := 111) dX12_crossed_93 (by decide) (fun z => False.elim (nI_pos (by omega) z)) (fun z => ?_)
                refine qi_aload_n (i := 0) (x := 280) dX12_crossed_96 rfl rfl ?_
                refine qi_iload (i := 7) (x := nI j) dX12_crossed_97 rfl ?_
                refine qi_callPVI (v := nI (rankN ρ (π.1 1) j)) (K' := kX12_rankOf) (As := [.int (nI j)]) mlX12_386 okX12_rankOf dX12_crossed_99 (c_X12_rankOf g hM2 hR hP2 hok (by omega)) rfl (by decide) rfl (by decide) rfl rfl (Nat.le_of_ble_eq_true rfl) ⟨(Nat.le_of_ble_eq_true rfl), (Nat.le_of_ble_eq_true rfl)⟩ ⟨Nat.le_refl _, Nat.le_refl _⟩ ?_
                refine qi_aload_n (i := 0) (x := 280) dX12_crossed_102 rfl rfl ?_
                refine qi_iload (i := 6) (x := o2i (some b)) dX12_crossed_103 rfl ?_
                refine qi_callPVI (v := nI (rankN ρ (π.1 1) b)) (K' := kX12_rankOf) (As := [.int (o2i (some b))]) mlX12_386 okX12_rankOf dX12_crossed_105 (c_X12_rankOf g hM2 hR hP2 hok (h := b) (by omega)) rfl (by decide) rfl (by decide) rfl rfl (Nat.le_of_ble_eq_true rfl) ⟨(Nat.le_of_ble_eq_true rfl), (Nat.le_of_ble_eq_true rfl)⟩ ⟨Nat.le_refl _, Nat.le_refl _⟩ ?_
                have r1 : rankN ρ (π.1 1) j ≤ π.1 1 := cntN_le _ _
                have r2 : rankN ρ (π.1 1) b ≤ π.1 1 := cntN_le _ _
                refine qi_icmp_ge (tgt := 115) dX12_crossed_108 (by decide) (fun _h => ?_) (fun _h => ?_)
                · have c3 : (rankN ρ (π.1 1) b) ≤ (rankN ρ (π.1 1) j) := (nI_leI (a := rankN ρ (π.1 1) b) (b := rankN ρ (π.1 1) j) (by omega) (by omega)).mp _h
                  exact no (by rw [bestF_c hf0, if_neg (fun z => by have := z.2; omega)])
                · have c3 : ¬ ((rankN ρ (π.1 1) b) ≤ (rankN ρ (π.1 1) j)) := fun z => _h ((nI_leI (a := rankN ρ (π.1 1) b) (b := rankN ρ (π.1 1) j) (by omega) (by omega)).mpr z)
                  exact yes (by rw [bestF_c hf0, if_pos ⟨c2, by omega⟩])
        exact J (π.1 1) 0 (by omega)
      · have A0 : A = 0 := by omega
        have hB : crossO ρ (π.1 1) (nI p0) (nI q0) = none := by
          unfold crossO
          cases topN ρ (π.1 1) with
          | none => rfl
          | some h => exact if_neg (fun z => by rw [eA, A0] at z; exact absurd z.1 (by decide))
        refine qi_iload (i := 7) (x := 0) dX12_crossed_57 rfl ?_
        refine qi_aload_n (i := 0) (x := 280) dX12_crossed_59 rfl rfl ?_
        refine qi_getR (x := 294) flX12_58 dX12_crossed_60 rfl (by decide) (hM2 280 27 294 rfl) ?_
        refine qi_aload_n (i := 0) (x := 280) dX12_crossed_63 rfl rfl ?_
        refine qi_getI (x := nI L) flX12_248 dX12_crossed_64 rfl (by decide) hP2.1.2 ?_
        refine qi_ialdN (x := nI (π.1 1)) (j := L) dX12_crossed_67 rfl (by decide) rfl (by omega) (by decide) hP2.2.1.2.1 ?_
        refine qi_icmp_ge (tgt := 121) dX12_crossed_68 (by decide) (fun c0 => ?_) (fun c0 => ?_)
        · exact J121 none _ _ hB.symm (fun b hb => by cases hb)
        · refine qi_iload (i := 5) (x := allF ρ) dX12_crossed_71 rfl ?_
          refine qi_if_le (tgt := 121) dX12_crossed_73 (by decide) (fun z => ?_) (fun z => False.elim (z (by rw [eA, A0]; decide)))
          exact J121 none _ _ hB.symm (fun b hb => by cases hb)
  refine qI.of (j := 4) (pn_RX12) rfl ?_
  show qT g kX12_crossed (qR 5 0 0) (qZI g (fun r M' => r = res ∧ qFr SM M M')) 0 [some (.ref 280), some (.int p), some (.int q), some (.int w), none, none, none, none] [] 333 M (0, 0)
  refine qi_iload_n (i := 2) (x := q) dX12_crossed_0 rfl rfl ?_
  refine qi_iconst (v := 1) dX12_crossed_1 rfl ?_
  refine qi_bipush (v := 99) dX12_crossed_2 rfl ?_
  refine qi_callPSI (v := inF 1 99 q) (K' := kX12_in) (As := [.int q, .int 1, .int 99]) mlX12_338 okX12_in dX12_crossed_4 (c_X12_in g _ _ _) rfl rfl (Nat.le_of_ble_eq_true rfl) ⟨(Nat.le_of_ble_eq_true rfl), (Nat.le_of_ble_eq_true rfl)⟩ ⟨Nat.le_refl _, Nat.le_refl _⟩ ?_
  refine qi_if_eq (tgt := 28) dX12_crossed_7 (by decide) (fun c1 => ?_) (fun c1 => ?_)
  · exact E (fun z => z.1 c1)
  · refine qi_iload_n (i := 1) (x := p) dX12_crossed_10 rfl rfl ?_
    refine qi_iconst (v := 1) dX12_crossed_11 rfl ?_
    refine qi_iload_n (i := 2) (x := q) dX12_crossed_12 rfl rfl ?_
    refine qi_callPSI (v := inF 1 q p) (K' := kX12_in) (As := [.int p, .int 1, .int q]) mlX12_338 okX12_in dX12_crossed_13 (c_X12_in g _ _ _) rfl rfl (Nat.le_of_ble_eq_true rfl) ⟨(Nat.le_of_ble_eq_true rfl), (Nat.le_of_ble_eq_true rfl)⟩ ⟨Nat.le_refl _, Nat.le_refl _⟩ ?_
    refine qi_if_eq (tgt := 28) dX12_crossed_16 (by decide) (fun c2 => ?_) (fun c2 => ?_)
    · exact E (fun z => z.2.1 c2)
    · refine qi_iload_n (i := 3) (x := w) dX12_crossed_19 rfl rfl ?_
      refine qi_iconst (v := 0) dX12_crossed_20 rfl ?_
      refine qi_iconst (v := 1) dX12_crossed_21 rfl ?_
      refine qi_callPSI (v := inF 0 1 w) (K' := kX12_in) (As := [.int w, .int 0, .int 1]) mlX12_338 okX12_in dX12_crossed_22 (c_X12_in g _ _ _) rfl rfl (Nat.le_of_ble_eq_true rfl) ⟨(Nat.le_of_ble_eq_true rfl), (Nat.le_of_ble_eq_true rfl)⟩ ⟨Nat.le_refl _, Nat.le_refl _⟩ ?_
      refine qi_if_ne (tgt := 30) dX12_crossed_25 (by decide) (fun c3 => ?_) (fun c3 => ?_)
      · refine qi_aload_n (i := 0) (x := 280) dX12_crossed_30 rfl rfl ?_
        refine qi_callVV (K' := kX12_copies) (As := []) mlX12_383 okX12_copies dX12_crossed_31 (c_X12_copies g hM hN) rfl (by decide) rfl (by decide) rfl rfl (Nat.le_of_ble_eq_true rfl) ⟨(Nat.le_of_ble_eq_true rfl), (Nat.le_of_ble_eq_true rfl)⟩ ⟨Nat.le_refl _, Nat.le_refl _⟩ (fun M2 ⟨hR2, e60, e61, _, hf2⟩ => ?_)
        refine qi_iconst (v := 0) dX12_crossed_34 rfl ?_
        refine qi_istore (i := 4) (L2 := [some (.ref 280), some (.int p), some (.int q), some (.int w), some (.int 0), none, none, none]) dX12_crossed_35 (Nat.le_of_ble_eq_true rfl) rfl ?_
        exact K ⟨c1, c2, c3⟩ 201 0 M2 none none none (by omega) rfl hf2 hR2 e60 e61
      · exact E (fun z => z.2.2 c3)
