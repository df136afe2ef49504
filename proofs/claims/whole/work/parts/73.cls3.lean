/-! ThimbleSea: who crosses, leagues, power, without -/
theorem inF_no {lo hi v : Int32} (h : ¬ (lo ≤ v ∧ v ≤ hi)) : inF lo hi v = 0 := if_neg h
theorem inF_yes {lo hi v : Int32} (h : lo ≤ v ∧ v ≤ hi) : ¬ inF lo hi v = 0 := by
  unfold inF
  rw [if_pos h]
  decide
theorem findN_lt {P : Nat → Bool} : ∀ m i k, findN P m i = some k → i ≤ k ∧ k < i + m ∧ P k = true
  | 0, i, k, h => by cases h
  | m + 1, i, k, h => by
    rw [findN_s] at h
    cases hp : P i with
    | true =>
      rw [hp, if_pos rfl] at h
      have := Option.some.inj h
      subst this
      exact ⟨Nat.le_refl _, by omega, hp⟩
    | false =>
      rw [hp] at h
      have := findN_lt m (i + 1) k h
      exact ⟨by omega, by omega, this.2.2⟩
theorem ranked_0 (ρ : Nat → Int32) {hs : Nat} (hh : hs ≤ 8) : rankedF ρ hs 0 = o2i (topN ρ hs) := by
  unfold rankedF topN
  congr 2
  funext h
  have := cntN_le (fun o => decide (dropsF ρ h < dropsF ρ o ∨ (dropsF ρ o = dropsF ρ h ∧ o < h))) hs
  have hb : rankN ρ hs h ≤ hs := this
  exact decide_eq_decide.mpr (nI_eq (b := 0) (by omega) (by omega))
set_option maxHeartbeats 2000000 in
theorem c_X11_crossed (g : qG) {M : qM} (hM : qRf M) {p : Nat} {π : qPl} (hp : qIsP p) (hr : M.2.2 0 9 = some p) (hP : qPlan M p π) (hok : okPl π) {ρ0 : Nat → Int32} (hS : qSea M 224 ρ0) (hO : okSea π ρ0) (x q w : Int32) : qI g 5 kX11_crossed [.ref 0, .int x, .int q, .int w] M (fun r M' => r = crossedQ π ρ0 x q w ∧ qFr (SQx p) M M') := by
  obtain ⟨res, hres⟩ : ∃ res, res = crossedQ π ρ0 x q w := ⟨_, rfl⟩
  rw [← hres]
  have hh8 := hok.2.1
  have hP0 : ∃ P : Nat → Option Nat, ∀ k, P k = crossO (weeksF π (-1) ρ0 k) (π.1 1) x q := ⟨_, fun _ => rfl⟩
  obtain ⟨P, hPd⟩ := hP0
  have eP : crossOk x q w → res = (match findO P 201 0 with
    | some (k, h) => if w = 0 then nI k else nI h
    | none => -2) := fun z => by
    rw [hres]
    unfold crossedQ
    rw [if_pos z, show (fun k => crossO (weeksF π (-1) ρ0 k) (π.1 1) x q) = P from funext fun k => (hPd k).symm]
    rfl
  have E : ¬ crossOk x q w → qT g kX11_crossed (qR 5 0 0) (qZI g (fun r M' => r = res ∧ qFr (SQx p) M M')) 30 [some (.ref 0), some (.int x), some (.int q), some (.int w), none, none] [] 333 M (0, 0) := by
    intro hb
    refine qi_iconst (v := -1) dX11_crossed_30 rfl ?_
    exact qi_retI rfl rfl dX11_crossed_31 (⟨by rw [hres]; unfold crossedQ; rw [if_neg hb], qFr.rf⟩)
  have K : crossOk x q w → ∀ m k M2 x5, k + m = 201 → findO P 201 0 = findO P m k → qFr (SQx p) M M2 → qSea M2 230 (weeksF π (-1) ρ0 k) → qT g kX11_crossed (qR 5 0 0) (qZI g (fun r M' => r = res ∧ qFr (SQx p) M M')) 46 [some (.ref 0), some (.int x), some (.int q), some (.int w), some (.int (nI k)), x5] [] 333 M2 (0, 0) := by
    intro hok2 m
    induction m with
    | zero =>
      intro k M2 x5 e e2 hf hR
      refine qi_iload (i := 4) (x := nI k) dX11_crossed_46 rfl ?_
      refine qi_sipush (v := 200) dX11_crossed_48 rfl ?_
      refine qi_icmp_gt (tgt := 140) dX11_crossed_51 (by decide) (fun _hc => ?_) (fun _h => absurd ((nI_ltI (a := 200) (b := k) (by omega) (by omega)).mpr (by omega)) _h)
      refine qi_bipush (v := -2) dX11_crossed_140 rfl ?_
      exact qi_retI rfl rfl dX11_crossed_142 (⟨by rw [eP hok2, e2]; rfl, hf⟩)
    | succ m ih =>
      intro k M2 x5 e e2 hf hR
      have hM2 := hM.fr hf
      have hr2 := frR hf hr
      have hP2 := hP.q hp hf
      have hO2 := hO.weeks (away := -1) hok k
      rw [findO_s P m k, hPd] at e2
      have hρ : ∃ ρ, ρ = weeksF π (-1) ρ0 k := ⟨_, rfl⟩
      obtain ⟨ρ, hρ⟩ := hρ
      have J122 : ∀ x5, crossO (weeksF π (-1) ρ0 k) (π.1 1) x q = none → qT g kX11_crossed (qR 5 0 0) (qZI g (fun r M' => r = res ∧ qFr (SQx p) M M')) 122 [some (.ref 0), some (.int x), some (.int q), some (.int w), some (.int (nI k)), x5] [] 333 M2 (0, 0) := by
        intro x5 hn
        rw [hn] at e2
        refine qi_aload_n (i := 0) (x := 0) dX11_crossed_122 rfl rfl ?_
        refine qi_getR (x := 230) flX11_58 dX11_crossed_123 rfl (by decide) (hM2 0 7 230 rfl) ?_
        refine qi_aload_n (i := 0) (x := 0) dX11_crossed_126 rfl rfl ?_
        refine qi_getR (x := p) flX11_67 dX11_crossed_127 rfl (by decide) hr2 ?_
        refine qi_iconst (v := -1) dX11_crossed_130 rfl ?_
        refine qi_callVV (K' := kX6_passWeek) (As := [.ref p, .int (-1)]) mlX11_208 okX6_passWeek dX11_crossed_131 (c_X6_passWeek g qIsS_trial hp (by decide) hM2 hR hP2 hok hO2 (-1)) rfl (by decide) rfl (by decide) rfl rfl (Nat.le_of_ble_eq_true rfl) ⟨(Nat.le_of_ble_eq_true rfl), (Nat.le_of_ble_eq_true rfl)⟩ ⟨Nat.le_refl _, Nat.le_refl _⟩ (fun M3 ⟨hR3, hf3⟩ => ?_)
        refine qi_iinc (i := 4) (x := nI k) (v := nI (k + 1)) (L2 := [some (.ref 0), some (.int x), some (.int q), some (.int w), some (.int (nI (k + 1))), x5]) dX11_crossed_134 rfl (nI_1 k) (Nat.le_of_ble_eq_true rfl) rfl ?_
        refine qi_goto (tgt := 46) dX11_crossed_137 (by decide) ?_
        exact ih (k + 1) M3 _ (by omega) e2 (hf.tr (hf3.mono (fun _ _ => SW_SQ))) hR3
      rw [← hρ] at hR hO2 e2 J122
      have hcr : crossO ρ (π.1 1) x q = match topN ρ (π.1 1) with
        | none => none
        | some h => if 0 < allF ρ ∧ allF ρ * x ≤ dropsF ρ h * q then some h else none := rfl
      refine qi_iload (i := 4) (x := nI k) dX11_crossed_46 rfl ?_
      refine qi_sipush (v := 200) dX11_crossed_48 rfl ?_
      refine qi_icmp_gt (tgt := 140) dX11_crossed_51 (by decide) (fun _h => absurd ((nI_ltI (a := 200) (b := k) (by omega) (by omega)).mp _h) (by omega)) (fun _hc => ?_)
      refine qi_aload_n (i := 0) (x := 0) dX11_crossed_54 rfl rfl ?_
      refine qi_getR (x := 230) flX11_58 dX11_crossed_55 rfl (by decide) (hM2 0 7 230 rfl) ?_
      refine qi_iconst (v := 0) dX11_crossed_58 rfl ?_
      refine qi_aload_n (i := 0) (x := 0) dX11_crossed_59 rfl rfl ?_
      refine qi_getR (x := p) flX11_67 dX11_crossed_60 rfl (by decide) hr2 ?_
      refine qi_getI (x := nI (π.1 1)) flX11_123 dX11_crossed_63 (hp.1 0 (by decide)) (by have := hp.2.2; omega) hP2.1.2.1 ?_
      refine qi_callPVI (v := rankedF ρ (π.1 1) 0) (K' := kX6_heirOfRank) (As := [.int 0, .int (nI (π.1 1))]) mlX11_166 okX6_heirOfRank dX11_crossed_66 (c_X6_heirOfRank g qIsS_trial hM2 hR hh8 0) rfl (by decide) rfl (by decide) rfl rfl (Nat.le_of_ble_eq_true rfl) ⟨(Nat.le_of_ble_eq_true rfl), (Nat.le_of_ble_eq_true rfl)⟩ ⟨Nat.le_refl _, Nat.le_refl _⟩ ?_
      refine qe_top (y := o2i (topN ρ (π.1 1))) (ranked_0 ρ hh8) ?_
      refine qi_istore (i := 5) (L2 := [some (.ref 0), some (.int x), some (.int q), some (.int w), some (.int (nI k)), some (.int (o2i (topN ρ (π.1 1))))]) dX11_crossed_69 (Nat.le_of_ble_eq_true rfl) rfl ?_
      refine qi_iload (i := 5) (x := o2i (topN ρ (π.1 1))) dX11_crossed_71 rfl ?_
      refine qi_iconst (v := -1) dX11_crossed_73 rfl ?_
      cases ht : topN ρ (π.1 1) with
      | none =>
        rw [ht] at hcr
        refine qi_icmp_eq (tgt := 122) dX11_crossed_74 (by decide) (fun z => ?_) (fun z => False.elim (z rfl))
        exact J122 _ hcr
      | some h =>
        have hh := (findN_lt _ _ _ ht).2.1
        rw [ht] at hcr
        simp only at hcr
        refine qi_icmp_eq (tgt := 122) dX11_crossed_74 (by decide) (fun z => False.elim (nI_m1 (n := h) (by omega) z)) (fun z => ?_)
        refine qi_aload_n (i := 0) (x := 0) dX11_crossed_77 rfl rfl ?_
        refine qi_getR (x := 230) flX11_58 dX11_crossed_78 rfl (by decide) (hM2 0 7 230 rfl) ?_
        refine qi_getI (x := allF ρ) flX11_139 dX11_crossed_81 rfl (by decide) hR.2.2.2.2.1 ?_
        refine qi_if_le (tgt := 122) dX11_crossed_84 (by decide) (fun c1 => ?_) (fun c1 => ?_)
        · exact J122 _ (by rw [hcr]; exact if_neg (fun z => absurd z.1 (Int32.not_lt.mpr c1)))
        · refine qi_aload_n (i := 0) (x := 0) dX11_crossed_87 rfl rfl ?_
          refine qi_getR (x := 230) flX11_58 dX11_crossed_88 rfl (by decide) (hM2 0 7 230 rfl) ?_
          refine qi_iload (i := 5) (x := nI h) dX11_crossed_91 rfl ?_
          refine qi_callPVI (v := dropsF ρ h) (K' := kX6_dropsOf) (As := [.int (nI h)]) mlX11_106 okX6_dropsOf dX11_crossed_93 (c_X6_dropsOf g qIsS_trial hM2 hR (by omega)) rfl (by decide) rfl (by decide) rfl rfl (Nat.le_of_ble_eq_true rfl) ⟨(Nat.le_of_ble_eq_true rfl), (Nat.le_of_ble_eq_true rfl)⟩ ⟨Nat.le_refl _, Nat.le_refl _⟩ ?_
          refine qi_iload_n (i := 2) (x := q) dX11_crossed_96 rfl rfl ?_
          refine qi_imul dX11_crossed_97 ?_
          refine qi_aload_n (i := 0) (x := 0) dX11_crossed_98 rfl rfl ?_
          refine qi_getR (x := 230) flX11_58 dX11_crossed_99 rfl (by decide) (hM2 0 7 230 rfl) ?_
          refine qi_getI (x := allF ρ) flX11_139 dX11_crossed_102 rfl (by decide) hR.2.2.2.2.1 ?_
          refine qi_iload_n (i := 1) (x := x) dX11_crossed_105 rfl rfl ?_
          refine qi_imul dX11_crossed_106 ?_
          refine qi_icmp_lt (tgt := 122) dX11_crossed_107 (by decide) (fun c2 => ?_) (fun c2 => ?_)
          · exact J122 _ (by rw [hcr]; exact if_neg (fun z => absurd z.2 (Int32.not_le.mpr c2)))
          · rw [hcr, if_pos ⟨Int32.not_le.mp c1, Int32.not_lt.mp c2⟩] at e2
            refine qi_iload_n (i := 3) (x := w) dX11_crossed_110 rfl rfl ?_
            refine qi_if_ne (tgt := 119) dX11_crossed_111 (by decide) (fun c3 => ?_) (fun c3 => ?_)
            · refine qi_iload (i := 5) (x := nI h) dX11_crossed_119 rfl ?_
              exact qi_retI rfl rfl dX11_crossed_121 (⟨by rw [eP hok2, e2]; simp only; rw [if_neg c3], hf⟩)
            · refine qi_iload (i := 4) (x := nI k) dX11_crossed_114 rfl ?_
              refine qi_goto (tgt := 121) dX11_crossed_116 (by decide) ?_
              exact qi_retI rfl rfl dX11_crossed_121 (⟨by rw [eP hok2, e2]; simp only; rw [if_pos c3], hf⟩)
  refine qI.of (j := 2) (pn_RX11) rfl ?_
  show qT g kX11_crossed (qR 5 0 0) (qZI g (fun r M' => r = res ∧ qFr (SQx p) M M')) 0 [some (.ref 0), some (.int x), some (.int q), some (.int w), none, none] [] 333 M (0, 0)
  refine qi_iload_n (i := 2) (x := q) dX11_crossed_0 rfl rfl ?_
  refine qi_iconst (v := 1) dX11_crossed_1 rfl ?_
  refine qi_icmp_lt (tgt := 30) dX11_crossed_2 (by decide) (fun a1 => ?_) (fun a1 => ?_)
  · exact E (fun z => z.1 (inF_no (fun y => absurd a1 (Int32.not_lt.mpr y.1))))
  · refine qi_iload_n (i := 2) (x := q) dX11_crossed_5 rfl rfl ?_
    refine qi_bipush (v := 99) dX11_crossed_6 rfl ?_
    refine qi_icmp_gt (tgt := 30) dX11_crossed_8 (by decide) (fun a2 => ?_) (fun a2 => ?_)
    · exact E (fun z => z.1 (inF_no (fun y => absurd a2 (Int32.not_lt.mpr y.2))))
    · refine qi_iload_n (i := 1) (x := x) dX11_crossed_11 rfl rfl ?_
      refine qi_iconst (v := 1) dX11_crossed_12 rfl ?_
      refine qi_icmp_lt (tgt := 30) dX11_crossed_13 (by decide) (fun a3 => ?_) (fun a3 => ?_)
      · exact E (fun z => z.2.1 (inF_no (fun y => absurd a3 (Int32.not_lt.mpr y.1))))
      · refine qi_iload_n (i := 1) (x := x) dX11_crossed_16 rfl rfl ?_
        refine qi_iload_n (i := 2) (x := q) dX11_crossed_17 rfl rfl ?_
        refine qi_icmp_gt (tgt := 30) dX11_crossed_18 (by decide) (fun a4 => ?_) (fun a4 => ?_)
        · exact E (fun z => z.2.1 (inF_no (fun y => absurd a4 (Int32.not_lt.mpr y.2))))
        · refine qi_iload_n (i := 3) (x := w) dX11_crossed_21 rfl rfl ?_
          refine qi_if_lt (tgt := 30) dX11_crossed_22 (by decide) (fun a5 => ?_) (fun a5 => ?_)
          · exact E (fun z => z.2.2 (inF_no (fun y => absurd a5 (Int32.not_lt.mpr y.1))))
          · refine qi_iload_n (i := 3) (x := w) dX11_crossed_25 rfl rfl ?_
            refine qi_iconst (v := 1) dX11_crossed_26 rfl ?_
            refine qi_icmp_le (tgt := 32) dX11_crossed_27 (by decide) (fun a6 => ?_) (fun a6 => ?_)
            · refine qi_aload_n (i := 0) (x := 0) dX11_crossed_32 rfl rfl ?_
              refine qi_getR (x := 230) flX11_58 dX11_crossed_33 rfl (by decide) (hM 0 7 230 rfl) ?_
              refine qi_aload_n (i := 0) (x := 0) dX11_crossed_36 rfl rfl ?_
              refine qi_getR (x := 224) flX11_54 dX11_crossed_37 rfl (by decide) (hM 0 6 224 rfl) ?_
              refine qi_callVV (K' := kX6_copyFrom) (As := [.ref 224]) mlX11_205 okX6_copyFrom dX11_crossed_40 (c_X6_copyFrom g qIsS_trial qIsS_sea (Or.inr (by decide)) hM hS) rfl (by decide) rfl (by decide) rfl rfl (Nat.le_of_ble_eq_true rfl) ⟨(Nat.le_of_ble_eq_true rfl), (Nat.le_of_ble_eq_true rfl)⟩ ⟨Nat.le_refl _, Nat.le_refl _⟩ (fun M2 ⟨hR2, hf2⟩ => ?_)
              refine qi_iconst (v := 0) dX11_crossed_43 rfl ?_
              refine qi_istore (i := 4) (L2 := [some (.ref 0), some (.int x), some (.int q), some (.int w), some (.int 0), none]) dX11_crossed_44 (Nat.le_of_ble_eq_true rfl) rfl ?_
              exact K ⟨inF_yes ⟨Int32.not_lt.mp a1, Int32.not_lt.mp a2⟩, inF_yes ⟨Int32.not_lt.mp a3, Int32.not_lt.mp a4⟩, inF_yes ⟨Int32.not_lt.mp a5, a6⟩⟩ 201 0 M2 none (by omega) rfl (hf2.mono (fun _ _ => SS_SQ)) hR2
            · exact E (fun z => z.2.2 (inF_no (fun y => a6 y.2)))
set_option maxHeartbeats 1000000 in
theorem c_X11_league (g : qG) {M : qM} (hM : qRf M) {p : Nat} {π : qPl} (hp : qIsP p) (hr : M.2.2 0 9 = some p) (hP : qPlan M p π) (hok : okPl π) {ρ : Nat → Int32} (hS : qSea M 224 ρ) : qI g 3 kX11_league [.ref 0] M (fun r' M' => r' = leagueQ π ρ ∧ M' = M) := by
  have hh8 := hok.2.1
  have hpw := pow8 hh8
  have few : ∃ F : Option Nat → Nat, F none = 9 ∧ ∀ b, F (some b) = popN b := ⟨fun x => match x with
    | none => 9
    | some b => popN b, rfl, fun _ => rfl⟩
  obtain ⟨F, F0, F1⟩ := few
  have K : ∀ m s, s + m = 2 ^ π.1 1 → qT g kX11_league (qR 3 0 0) (qZI g (fun r M' => r = (leagueQ π ρ) ∧ M' = M)) 8 [some (.ref 0), some (.int (o2n (lgF ρ s))), some (.int (nI (F (lgF ρ s)))), some (.int (nI s))] [] 333 M (0, 0) := by
    intro m
    induction m with
    | zero =>
      intro s e
      refine qi_iload_n (i := 3) (x := nI s) dX11_league_8 rfl rfl ?_
      refine qi_iconst (v := 1) dX11_league_9 rfl ?_
      refine qi_aload_n (i := 0) (x := 0) dX11_league_10 rfl rfl ?_
      refine qi_getR (x := p) flX11_67 dX11_league_11 rfl (by decide) hr ?_
      refine qi_getI (x := nI (π.1 1)) flX11_123 dX11_league_14 (hp.1 0 (by decide)) (by have := hp.2.2; omega) hP.1.2.1 ?_
      refine qi_ishl dX11_league_17 ?_
      refine qe_top (y := nI (2 ^ π.1 1)) (shl1 _ hh8) ?_
      refine qi_icmp_ge (tgt := 53) dX11_league_18 (by decide) (fun _hc => ?_) (fun _h => absurd ((nI_leI (a := 2 ^ π.1 1) (b := s) (by omega) (by omega)).mpr (by omega)) _h)
      refine qi_iload_n (i := 1) (x := o2n (lgF ρ s)) dX11_league_53 rfl rfl ?_
      exact qi_retI rfl rfl dX11_league_54 (⟨by rw [show s = 2 ^ π.1 1 by omega]; rfl, rfl⟩)
    | succ m ih =>
      intro s e
      have A := ih (s + 1) (by omega)
      have hpl := popN_le s
      have no : lgF ρ (s + 1) = lgF ρ s → qT g kX11_league (qR 3 0 0) (qZI g (fun r M' => r = (leagueQ π ρ) ∧ M' = M)) 47 [some (.ref 0), some (.int (o2n (lgF ρ s))), some (.int (nI (F (lgF ρ s)))), some (.int (nI s))] [] 333 M (0, 0) := by
        intro z
        rw [z] at A
        refine qi_iinc (i := 3) (x := nI s) (v := nI (s + 1)) (L2 := [some (.ref 0), some (.int (o2n (lgF ρ s))), some (.int (nI (F (lgF ρ s)))), some (.int (nI (s + 1)))]) dX11_league_47 rfl (nI_1 s) (Nat.le_of_ble_eq_true rfl) rfl ?_
        refine qi_goto (tgt := 8) dX11_league_50 (by decide) ?_
        exact A
      have hF8 : F (lgF ρ s) ≤ 9 := by
        cases hf0 : lgF ρ s with
        | none => rw [F0]; omega
        | some b => rw [F1]; have := popN_le b; omega
      refine qi_iload_n (i := 3) (x := nI s) dX11_league_8 rfl rfl ?_
      refine qi_iconst (v := 1) dX11_league_9 rfl ?_
      refine qi_aload_n (i := 0) (x := 0) dX11_league_10 rfl rfl ?_
      refine qi_getR (x := p) flX11_67 dX11_league_11 rfl (by decide) hr ?_
      refine qi_getI (x := nI (π.1 1)) flX11_123 dX11_league_14 (hp.1 0 (by decide)) (by have := hp.2.2; omega) hP.1.2.1 ?_
      refine qi_ishl dX11_league_17 ?_
      refine qe_top (y := nI (2 ^ π.1 1)) (shl1 _ hh8) ?_
      refine qi_icmp_ge (tgt := 53) dX11_league_18 (by decide) (fun _h => absurd ((nI_leI (a := 2 ^ π.1 1) (b := s) (by omega) (by omega)).mp _h) (by omega)) (fun _hc => ?_)
      refine qi_iload_n (i := 3) (x := nI s) dX11_league_21 rfl rfl ?_
      refine qi_callPSI (v := nI (popN s)) (K' := kJ6_bitCount_0f7a4) (As := [.int (nI s)]) mlX11_216 okJ6_bitCount_0f7a4 dX11_league_22 (c_J6_bitCount g (s := s) (by omega)) rfl rfl (Nat.le_of_ble_eq_true rfl) ⟨(Nat.le_of_ble_eq_true rfl), (Nat.le_of_ble_eq_true rfl)⟩ ⟨Nat.le_refl _, Nat.le_refl _⟩ ?_
      refine qi_iload_n (i := 2) (x := nI (F (lgF ρ s))) dX11_league_25 rfl rfl ?_
      refine qi_icmp_ge (tgt := 47) dX11_league_26 (by decide) (fun _h => ?_) (fun _h => ?_)
      · have c1 : (F (lgF ρ s)) ≤ (popN s) := (nI_leI (a := F (lgF ρ s)) (b := popN s) (by omega) (by omega)).mp _h
        refine no ?_
        cases hf0 : lgF ρ s with
        | none => rw [hf0, F0] at c1; omega
        | some b =>
          rw [hf0, F1] at c1
          rw [lgF_c hf0, if_neg (c := popN s < popN b) (by omega)]
          split <;> rfl
      · have c1 : ¬ ((F (lgF ρ s)) ≤ (popN s)) := fun z => _h ((nI_leI (a := F (lgF ρ s)) (b := popN s) (by omega) (by omega)).mpr z)
        refine qi_aload_n (i := 0) (x := 0) dX11_league_29 rfl rfl ?_
        refine qi_getR (x := 224) flX11_54 dX11_league_30 rfl (by decide) (hM 0 6 224 rfl) ?_
        refine qi_iload_n (i := 3) (x := nI s) dX11_league_33 rfl rfl ?_
        refine qi_callPVI (v := winsF ρ (nI s)) (K' := kX6_wins) (As := [.int (nI s)]) mlX11_221 okX6_wins dX11_league_34 (c_X6_wins g qIsS_sea hM hS (nI s)) rfl (by decide) rfl (by decide) rfl rfl (Nat.le_of_ble_eq_true rfl) ⟨(Nat.le_of_ble_eq_true rfl), (Nat.le_of_ble_eq_true rfl)⟩ ⟨Nat.le_refl _, Nat.le_refl _⟩ ?_
        refine qi_if_eq (tgt := 47) dX11_league_37 (by decide) (fun c2 => ?_) (fun c2 => ?_)
        · exact no (lgF_0 c2)
        · have hs1 : lgF ρ (s + 1) = some s := by
            cases hf0 : lgF ρ s with
            | none => rw [lgF_n hf0, if_neg c2]
            | some b =>
              rw [hf0, F1] at c1
              rw [lgF_c hf0, if_neg c2, if_pos (by omega)]
          rw [hs1, F1] at A
          refine qi_iload_n (i := 3) (x := nI s) dX11_league_40 rfl rfl ?_
          refine qi_istore_n (i := 1) (L2 := [some (.ref 0), some (.int (nI s)), some (.int (nI (F (lgF ρ s)))), some (.int (nI s))]) dX11_league_41 rfl (Nat.le_of_ble_eq_true rfl) rfl ?_
          refine qi_iload_n (i := 3) (x := nI s) dX11_league_42 rfl rfl ?_
          refine qi_callPSI (v := nI (popN s)) (K' := kJ6_bitCount_0f7a4) (As := [.int (nI s)]) mlX11_216 okJ6_bitCount_0f7a4 dX11_league_43 (c_J6_bitCount g (s := s) (by omega)) rfl rfl (Nat.le_of_ble_eq_true rfl) ⟨(Nat.le_of_ble_eq_true rfl), (Nat.le_of_ble_eq_true rfl)⟩ ⟨Nat.le_refl _, Nat.le_refl _⟩ ?_
          refine qi_istore_n (i := 2) (L2 := [some (.ref 0), some (.int (nI s)), some (.int (nI (popN s))), some (.int (nI s))]) dX11_league_46 rfl (Nat.le_of_ble_eq_true rfl) rfl ?_
          refine qi_iinc (i := 3) (x := nI s) (v := nI (s + 1)) (L2 := [some (.ref 0), some (.int (nI s)), some (.int (nI (popN s))), some (.int (nI (s + 1)))]) dX11_league_47 rfl (nI_1 s) (Nat.le_of_ble_eq_true rfl) rfl ?_
          refine qi_goto (tgt := 8) dX11_league_50 (by decide) ?_
          exact A
  have A := K (2 ^ π.1 1) 0 (by omega)
  rw [show lgF ρ 0 = none from rfl, F0] at A
  refine qI.of (j := 3) (pn_RX11) rfl ?_
  show qT g kX11_league (qR 3 0 0) (qZI g (fun r M' => r = (leagueQ π ρ) ∧ M' = M)) 0 [some (.ref 0), none, none, none] [] 333 M (0, 0)
  refine qi_bipush (v := -2) dX11_league_0 rfl ?_
  refine qi_istore_n (i := 1) (L2 := [some (.ref 0), some (.int (-2)), none, none]) dX11_league_2 rfl (Nat.le_of_ble_eq_true rfl) rfl ?_
  refine qi_bipush (v := 9) dX11_league_3 rfl ?_
  refine qi_istore_n (i := 2) (L2 := [some (.ref 0), some (.int (-2)), some (.int 9), none]) dX11_league_5 rfl (Nat.le_of_ble_eq_true rfl) rfl ?_
  refine qi_iconst (v := 0) dX11_league_6 rfl ?_
  refine qi_istore_n (i := 3) (L2 := [some (.ref 0), some (.int (-2)), some (.int 9), some (.int 0)]) dX11_league_7 rfl (Nat.le_of_ble_eq_true rfl) rfl ?_
  exact A
set_option maxHeartbeats 1000000 in
theorem c_X11_power (g : qG) {M : qM} (hM : qRf M) {p : Nat} {π : qPl} (hp : qIsP p) (hr : M.2.2 0 9 = some p) (hP : qPlan M p π) (hok : okPl π) {ρ : Nat → Int32} (hS : qSea M 224 ρ) (h : Int32) : qI g 3 kX11_power [.ref 0, .int h] M (fun r' M' => r' = powerQ π ρ h ∧ M' = M) := by
  obtain ⟨res, hres⟩ : ∃ res, res = powerQ π ρ h := ⟨_, rfl⟩
  rw [← hres]
  have hh8 := hok.2.1
  have hpw := pow8 hh8
  refine qI.of (j := 3) (pn_RX11) rfl ?_
  show qT g kX11_power (qR 3 0 0) (qZI g (fun r M' => r = res ∧ M' = M)) 0 [some (.ref 0), some (.int h), none, none, none] [] 333 M (0, 0)
  refine qi_aload_n (i := 0) (x := 0) dX11_power_0 rfl rfl ?_
  refine qi_getR (x := p) flX11_67 dX11_power_1 rfl (by decide) hr ?_
  refine qi_iload_n (i := 1) (x := h) dX11_power_4 rfl rfl ?_
  refine qi_callPVI (v := isF (π.1 1) h) (K' := kX3_hasHeir) (As := [.int h]) mlX11_102 okX3_hasHeir dX11_power_5 (c_X3_hasHeir g hp hP h) (hp.1 0 (by decide)) (by decide) rfl (by have := hp.2.2; omega) rfl rfl (Nat.le_of_ble_eq_true rfl) ⟨(Nat.le_of_ble_eq_true rfl), (Nat.le_of_ble_eq_true rfl)⟩ ⟨Nat.le_refl _, Nat.le_refl _⟩ ?_
  refine qi_if_ne (tgt := 13) dX11_power_8 (by decide) (fun c1 => ?_) (fun c1 => ?_)
  · obtain ⟨k, hk, ek⟩ := isF_of (by omega) c1
    unfold powerQ at hres
    rw [if_neg c1, ek, nI_clamp (by omega)] at hres
    rw [ek]
    have hPw : ∃ P : Nat → Bool, ∀ s, P s = powP ρ k s := ⟨_, fun _ => rfl⟩
    obtain ⟨P, hPd⟩ := hPw
    rw [show powP ρ k = P from funext fun s => (hPd s).symm] at hres
    have K : ∀ m s, s + m = 2 ^ π.1 1 → qT g kX11_power (qR 3 0 0) (qZI g (fun r M' => r = res ∧ M' = M)) 22 [some (.ref 0), some (.int (nI k)), some (.int ((1 : Int32) <<< (nI k &&& 31))), some (.int (nI (cntN P s))), some (.int (nI s))] [] 333 M (0, 0) := by
      intro m
      induction m with
      | zero =>
        intro s e
        refine qi_iload (i := 4) (x := nI s) dX11_power_22 rfl ?_
        refine qi_iconst (v := 1) dX11_power_24 rfl ?_
        refine qi_aload_n (i := 0) (x := 0) dX11_power_25 rfl rfl ?_
        refine qi_getR (x := p) flX11_67 dX11_power_26 rfl (by decide) hr ?_
        refine qi_getI (x := nI (π.1 1)) flX11_123 dX11_power_29 (hp.1 0 (by decide)) (by have := hp.2.2; omega) hP.1.2.1 ?_
        refine qi_ishl dX11_power_32 ?_
        refine qe_top (y := nI (2 ^ π.1 1)) (shl1 _ hh8) ?_
        refine qi_icmp_ge (tgt := 80) dX11_power_33 (by decide) (fun _hc => ?_) (fun _h => absurd ((nI_leI (a := 2 ^ π.1 1) (b := s) (by omega) (by omega)).mpr (by omega)) _h)
        refine qi_iload_n (i := 3) (x := nI (cntN P s)) dX11_power_80 rfl rfl ?_
        exact qi_retI rfl rfl dX11_power_81 (⟨by rw [hres, show s = 2 ^ π.1 1 by omega], rfl⟩)
      | succ m ih =>
        intro s e
        have A := ih (s + 1) (by omega)
        have ab := and_bit s (by omega) k (by omega)
        have e1 : cntN P (s + 1) = cntN P s + (if P s then 1 else 0) := rfl
        have no : P s = false → qT g kX11_power (qR 3 0 0) (qZI g (fun r M' => r = res ∧ M' = M)) 74 [some (.ref 0), some (.int (nI k)), some (.int ((1 : Int32) <<< (nI k &&& 31))), some (.int (nI (cntN P s))), some (.int (nI s))] [] 333 M (0, 0) := by
          intro z
          rw [e1, z] at A
          refine qi_iinc (i := 4) (x := nI s) (v := nI (s + 1)) (L2 := [some (.ref 0), some (.int (nI k)), some (.int ((1 : Int32) <<< (nI k &&& 31))), some (.int (nI (cntN P s))), some (.int (nI (s + 1)))]) dX11_power_74 rfl (nI_1 s) (Nat.le_of_ble_eq_true rfl) rfl ?_
          refine qi_goto (tgt := 22) dX11_power_77 (by decide) ?_
          exact A
        refine qi_iload (i := 4) (x := nI s) dX11_power_22 rfl ?_
        refine qi_iconst (v := 1) dX11_power_24 rfl ?_
        refine qi_aload_n (i := 0) (x := 0) dX11_power_25 rfl rfl ?_
        refine qi_getR (x := p) flX11_67 dX11_power_26 rfl (by decide) hr ?_
        refine qi_getI (x := nI (π.1 1)) flX11_123 dX11_power_29 (hp.1 0 (by decide)) (by have := hp.2.2; omega) hP.1.2.1 ?_
        refine qi_ishl dX11_power_32 ?_
        refine qe_top (y := nI (2 ^ π.1 1)) (shl1 _ hh8) ?_
        refine qi_icmp_ge (tgt := 80) dX11_power_33 (by decide) (fun _h => absurd ((nI_leI (a := 2 ^ π.1 1) (b := s) (by omega) (by omega)).mp _h) (by omega)) (fun _hc => ?_)
        refine qi_iload (i := 4) (x := nI s) dX11_power_36 rfl ?_
        refine qi_iload_n (i := 2) (x := (1 : Int32) <<< (nI k &&& 31)) dX11_power_38 rfl rfl ?_
        refine qi_iand dX11_power_39 ?_
        refine qi_if_eq (tgt := 74) dX11_power_40 (by decide) (fun c2 => ?_) (fun c2 => ?_)
        · exact no (by rw [hPd]; exact decide_eq_false (fun z => z.1 (ab.mp c2)))
        · refine qi_aload_n (i := 0) (x := 0) dX11_power_43 rfl rfl ?_
          refine qi_getR (x := 224) flX11_54 dX11_power_44 rfl (by decide) (hM 0 6 224 rfl) ?_
          refine qi_iload (i := 4) (x := nI s) dX11_power_47 rfl ?_
          refine qi_callPVI (v := winsF ρ (nI s)) (K' := kX6_wins) (As := [.int (nI s)]) mlX11_221 okX6_wins dX11_power_49 (c_X6_wins g qIsS_sea hM hS (nI s)) rfl (by decide) rfl (by decide) rfl rfl (Nat.le_of_ble_eq_true rfl) ⟨(Nat.le_of_ble_eq_true rfl), (Nat.le_of_ble_eq_true rfl)⟩ ⟨Nat.le_refl _, Nat.le_refl _⟩ ?_
          refine qi_if_eq (tgt := 74) dX11_power_52 (by decide) (fun c3 => ?_) (fun c3 => ?_)
          · exact no (by rw [hPd]; exact decide_eq_false (fun z => z.2.1 c3))
          · refine qi_aload_n (i := 0) (x := 0) dX11_power_55 rfl rfl ?_
            refine qi_getR (x := 224) flX11_54 dX11_power_56 rfl (by decide) (hM 0 6 224 rfl) ?_
            refine qi_iload (i := 4) (x := nI s) dX11_power_59 rfl ?_
            refine qi_iload_n (i := 2) (x := (1 : Int32) <<< (nI k &&& 31)) dX11_power_61 rfl rfl ?_
            refine qi_iconst (v := -1) dX11_power_62 rfl ?_
            refine qi_ixor dX11_power_63 ?_
            refine qi_iand dX11_power_64 ?_
            refine qe_top (y := lessB s k) rfl ?_
            refine qi_callPVI (v := winsF ρ (lessB s k)) (K' := kX6_wins) (As := [.int (lessB s k)]) mlX11_221 okX6_wins dX11_power_65 (c_X6_wins g qIsS_sea hM hS (lessB s k)) rfl (by decide) rfl (by decide) rfl rfl (Nat.le_of_ble_eq_true rfl) ⟨(Nat.le_of_ble_eq_true rfl), (Nat.le_of_ble_eq_true rfl)⟩ ⟨Nat.le_refl _, Nat.le_refl _⟩ ?_
            refine qi_if_ne (tgt := 74) dX11_power_68 (by decide) (fun c4 => ?_) (fun c4 => ?_)
            · exact no (by rw [hPd]; exact decide_eq_false (fun z => c4 z.2.2))
            · rw [e1, show P s = true by rw [hPd]; exact decide_eq_true ⟨fun z => c2 (ab.mpr z), c3, c4⟩] at A
              refine qi_iinc (i := 3) (x := nI (cntN P s)) (v := nI (cntN P s + 1)) (L2 := [some (.ref 0), some (.int (nI k)), some (.int ((1 : Int32) <<< (nI k &&& 31))), some (.int (nI (cntN P s + 1))), some (.int (nI s))]) dX11_power_71 rfl (nI_1 (cntN P s)) (Nat.le_of_ble_eq_true rfl) rfl ?_
              refine qi_iinc (i := 4) (x := nI s) (v := nI (s + 1)) (L2 := [some (.ref 0), some (.int (nI k)), some (.int ((1 : Int32) <<< (nI k &&& 31))), some (.int (nI (cntN P s + 1))), some (.int (nI (s + 1)))]) dX11_power_74 rfl (nI_1 s) (Nat.le_of_ble_eq_true rfl) rfl ?_
              refine qi_goto (tgt := 22) dX11_power_77 (by decide) ?_
              exact A
    refine qi_iconst (v := 1) dX11_power_13 rfl ?_
    refine qi_iload_n (i := 1) (x := nI k) dX11_power_14 rfl rfl ?_
    refine qi_ishl dX11_power_15 ?_
    refine qi_istore_n (i := 2) (L2 := [some (.ref 0), some (.int (nI k)), some (.int (1 <<< ((nI k) &&& 31))), none, none]) dX11_power_16 rfl (Nat.le_of_ble_eq_true rfl) rfl ?_
    refine qi_iconst (v := 0) dX11_power_17 rfl ?_
    refine qi_istore_n (i := 3) (L2 := [some (.ref 0), some (.int (nI k)), some (.int (1 <<< ((nI k) &&& 31))), some (.int 0), none]) dX11_power_18 rfl (Nat.le_of_ble_eq_true rfl) rfl ?_
    refine qi_iconst (v := 0) dX11_power_19 rfl ?_
    refine qi_istore (i := 4) (L2 := [some (.ref 0), some (.int (nI k)), some (.int (1 <<< ((nI k) &&& 31))), some (.int 0), some (.int 0)]) dX11_power_20 (Nat.le_of_ble_eq_true rfl) rfl ?_
    exact K (2 ^ π.1 1) 0 (by omega)
  · refine qi_iconst (v := -1) dX11_power_11 rfl ?_
    exact qi_retI rfl rfl dX11_power_12 (⟨by rw [hres]; unfold powerQ; rw [if_pos c1], rfl⟩)
set_option maxHeartbeats 1000000 in
theorem c_X11_without (g : qG) {M : qM} (hM : qRf M) {p : Nat} {π : qPl} (hp : qIsP p) (hr : M.2.2 0 9 = some p) (hP : qPlan M p π) (hok : okPl π) {ρ : Nat → Int32} (hS : qSea M 224 ρ) (hO : okSea π ρ) (h n b : Int32) : qI g 6 kX11_without [.ref 0, .int h, .int n, .int b] M (fun r M' => r = withoutQ π ρ h n b ∧ qFr (SQx p) M M') := by
  obtain ⟨res, hres⟩ : ∃ res, res = withoutQ π ρ h n b := ⟨_, rfl⟩
  rw [← hres]
  have hh8 := hok.2.1
  have E : badW π h n b → qT g kX11_without (qR 6 0 0) (qZI g (fun r M' => r = res ∧ qFr (SQx p) M M')) 39 [some (.ref 0), some (.int h), some (.int n), some (.int b)] [] 333 M (0, 0) := by
    intro hb
    refine qi_ldc dX11_without_39 cnX11_224 ?_
    exact qi_retI rfl rfl dX11_without_41 (⟨by rw [hres]; unfold withoutQ; rw [if_pos hb], qFr.rf⟩)
  have K : ¬ isF (π.1 1) h = 0 → ¬ inF 1 200 n = 0 → ¬ badQ (π.1 1) b → qT g kX11_without (qR 6 0 0) (qZI g (fun r M' => r = res ∧ qFr (SQx p) M M')) 42 [some (.ref 0), some (.int h), some (.int n), some (.int b)] [] 333 M (0, 0) := by
    intro a1 a2 a3
    obtain ⟨n0, hn1, hn2, en⟩ := inF_nat1 (n := 200) (by omega) a2
    obtain ⟨h0, hh0, eh⟩ := isF_of (by omega) a1
    unfold withoutQ at hres
    rw [if_neg (fun z => z.elim a1 (fun z => z.elim a2 a3)), en, nI_clamp (by omega)] at hres
    rw [en]
    refine qi_aload_n (i := 0) (x := 0) dX11_without_42 rfl rfl ?_
    refine qi_getR (x := 230) flX11_58 dX11_without_43 rfl (by decide) (hM 0 7 230 rfl) ?_
    refine qi_aload_n (i := 0) (x := 0) dX11_without_46 rfl rfl ?_
    refine qi_getR (x := 224) flX11_54 dX11_without_47 rfl (by decide) (hM 0 6 224 rfl) ?_
    refine qi_callVV (K' := kX6_copyFrom) (As := [.ref 224]) mlX11_205 okX6_copyFrom dX11_without_50 (c_X6_copyFrom g qIsS_trial qIsS_sea (Or.inr (by decide)) hM hS) rfl (by decide) rfl (by decide) rfl rfl (Nat.le_of_ble_eq_true rfl) ⟨(Nat.le_of_ble_eq_true rfl), (Nat.le_of_ble_eq_true rfl)⟩ ⟨Nat.le_refl _, Nat.le_refl _⟩ (fun M2 ⟨hR2, hf2⟩ => ?_)
    have hf2' : qFr (SQx p) M M2 := hf2.mono (fun _ _ => SS_SQ)
    have hM2 := hM.fr hf2
    have hr2 := frR hf2 hr
    refine qi_aload_n (i := 0) (x := 0) dX11_without_53 rfl rfl ?_
    refine qi_getR (x := 230) flX11_58 dX11_without_54 rfl (by decide) (hM2 0 7 230 rfl) ?_
    refine qi_aload_n (i := 0) (x := 0) dX11_without_57 rfl rfl ?_
    refine qi_getR (x := p) flX11_67 dX11_without_58 rfl (by decide) hr2 ?_
    refine qi_iload_n (i := 2) (x := nI n0) dX11_without_61 rfl rfl ?_
    refine qi_iconst (v := -1) dX11_without_62 rfl ?_
    refine qi_callVV (K' := kX6_passWeeks) (As := [.ref p, .int (nI n0), .int (-1)]) mlX11_173 okX6_passWeeks dX11_without_63 (c_X6_passWeeks g qIsS_trial hp (by decide) hM2 hR2 (hP.q hp hf2') hok hO (-1) (n := n0) (by omega)) rfl (by decide) rfl (by decide) rfl rfl (Nat.le_of_ble_eq_true rfl) ⟨(Nat.le_of_ble_eq_true rfl), (Nat.le_of_ble_eq_true rfl)⟩ ⟨Nat.le_refl _, Nat.le_refl _⟩ (fun M3 ⟨hR3, hf3⟩ => ?_)
    have hf3' : qFr (SQx p) M M3 := hf2'.tr (hf3.mono (fun _ _ => SW_SQ))
    have hM3 := hM.fr hf3'
    have hr3 := frR hf3' hr
    refine qi_aload_n (i := 0) (x := 0) dX11_without_66 rfl rfl ?_
    refine qi_getR (x := 236) flX11_61 dX11_without_67 rfl (by decide) (hM3 0 8 236 rfl) ?_
    refine qi_aload_n (i := 0) (x := 0) dX11_without_70 rfl rfl ?_
    refine qi_getR (x := 224) flX11_54 dX11_without_71 rfl (by decide) (hM3 0 6 224 rfl) ?_
    refine qi_callVV (K' := kX6_copyFrom) (As := [.ref 224]) mlX11_205 okX6_copyFrom dX11_without_74 (c_X6_copyFrom g qIsS_other qIsS_sea (Or.inr (by decide)) hM3 (hS.q hp hf3')) rfl (by decide) rfl (by decide) rfl rfl (Nat.le_of_ble_eq_true rfl) ⟨(Nat.le_of_ble_eq_true rfl), (Nat.le_of_ble_eq_true rfl)⟩ ⟨Nat.le_refl _, Nat.le_refl _⟩ (fun M4 ⟨hR4, hf4⟩ => ?_)
    have hf4' : qFr (SQx p) M M4 := hf3'.tr (hf4.mono (fun _ _ => SS_SQ2))
    have hM4 := hM.fr hf4'
    have hr4 := frR hf4' hr
    have hR3b : qSea M4 230 (weeksF π (-1) ρ n0) := hR3.fr hf4 (fun j k hj z => by unfold SS at z; omega)
    refine qi_aload_n (i := 0) (x := 0) dX11_without_77 rfl rfl ?_
    refine qi_getR (x := 236) flX11_61 dX11_without_78 rfl (by decide) (hM4 0 8 236 rfl) ?_
    refine qi_aload_n (i := 0) (x := 0) dX11_without_81 rfl rfl ?_
    refine qi_getR (x := p) flX11_67 dX11_without_82 rfl (by decide) hr4 ?_
    refine qi_iload_n (i := 2) (x := nI n0) dX11_without_85 rfl rfl ?_
    refine qi_iload_n (i := 1) (x := h) dX11_without_86 rfl rfl ?_
    refine qi_callVV (K' := kX6_passWeeks) (As := [.ref p, .int (nI n0), .int h]) mlX11_173 okX6_passWeeks dX11_without_87 (c_X6_passWeeks g qIsS_other hp (by decide) hM4 hR4 (hP.q hp hf4') hok hO h (n := n0) (by omega)) rfl (by decide) rfl (by decide) rfl rfl (Nat.le_of_ble_eq_true rfl) ⟨(Nat.le_of_ble_eq_true rfl), (Nat.le_of_ble_eq_true rfl)⟩ ⟨Nat.le_refl _, Nat.le_refl _⟩ (fun M5 ⟨hR5, hf5⟩ => ?_)
    have hf5' : qFr (SQx p) M M5 := hf4'.tr (hf5.mono (fun _ _ => SW_SQ2))
    have hM5 := hM.fr hf5'
    have hR3c : qSea M5 230 (weeksF π (-1) ρ n0) := hR3b.fr hf5 (fun j k hj z => by have := hp.2.1; unfold SW SS SP at z; omega)
    refine qi_iload_n (i := 3) (x := b) dX11_without_90 rfl rfl ?_
    refine qi_iconst (v := -1) dX11_without_91 rfl ?_
    refine qi_icmp_ne (tgt := 111) dX11_without_92 (by decide) (fun c => ?_) (fun c => ?_)
    · have hb : ∃ b0, b = nI b0 ∧ b0 < 8 := by
        obtain ⟨b0, hb0, eb⟩ := isF_of (by omega) (fun z => a3 ⟨c, z⟩)
        exact ⟨b0, eb, by omega⟩
      obtain ⟨b0, eb, hb8⟩ := hb
      rw [if_neg c, eb, nI_clamp (by omega)] at hres
      rw [eb]
      refine qi_aload_n (i := 0) (x := 0) dX11_without_111 rfl rfl ?_
      refine qi_getR (x := 236) flX11_61 dX11_without_112 rfl (by decide) (hM5 0 8 236 rfl) ?_
      refine qi_iload_n (i := 3) (x := nI b0) dX11_without_115 rfl rfl ?_
      refine qi_callPVI (v := dropsF (weeksF π h ρ n0) b0) (K' := kX6_dropsOf) (As := [.int (nI b0)]) mlX11_106 okX6_dropsOf dX11_without_116 (c_X6_dropsOf g qIsS_other hM5 hR5 hb8) rfl (by decide) rfl (by decide) rfl rfl (Nat.le_of_ble_eq_true rfl) ⟨(Nat.le_of_ble_eq_true rfl), (Nat.le_of_ble_eq_true rfl)⟩ ⟨Nat.le_refl _, Nat.le_refl _⟩ ?_
      refine qi_aload_n (i := 0) (x := 0) dX11_without_119 rfl rfl ?_
      refine qi_getR (x := 230) flX11_58 dX11_without_120 rfl (by decide) (hM5 0 7 230 rfl) ?_
      refine qi_iload_n (i := 3) (x := nI b0) dX11_without_123 rfl rfl ?_
      refine qi_callPVI (v := dropsF (weeksF π (-1) ρ n0) b0) (K' := kX6_dropsOf) (As := [.int (nI b0)]) mlX11_106 okX6_dropsOf dX11_without_124 (c_X6_dropsOf g qIsS_trial hM5 hR3c hb8) rfl (by decide) rfl (by decide) rfl rfl (Nat.le_of_ble_eq_true rfl) ⟨(Nat.le_of_ble_eq_true rfl), (Nat.le_of_ble_eq_true rfl)⟩ ⟨Nat.le_refl _, Nat.le_refl _⟩ ?_
      refine qi_isub dX11_without_127 ?_
      exact qi_retI rfl rfl dX11_without_128 (⟨hres.symm, hf5'⟩)
    · rw [if_pos c] at hres
      refine qi_aload_n (i := 0) (x := 0) dX11_without_95 rfl rfl ?_
      refine qi_getR (x := 230) flX11_58 dX11_without_96 rfl (by decide) (hM5 0 7 230 rfl) ?_
      refine qi_getI (x := allF (weeksF π (-1) ρ n0)) flX11_139 dX11_without_99 rfl (by decide) hR3c.2.2.2.2.1 ?_
      refine qi_aload_n (i := 0) (x := 0) dX11_without_102 rfl rfl ?_
      refine qi_getR (x := 236) flX11_61 dX11_without_103 rfl (by decide) (hM5 0 8 236 rfl) ?_
      refine qi_getI (x := allF (weeksF π h ρ n0)) flX11_139 dX11_without_106 rfl (by decide) hR5.2.2.2.2.1 ?_
      refine qi_isub dX11_without_109 ?_
      exact qi_retI rfl rfl dX11_without_110 (⟨hres.symm, hf5'⟩)
  refine qI.of (j := 0) (pn_RX11) rfl ?_
  show qT g kX11_without (qR 6 0 0) (qZI g (fun r M' => r = res ∧ qFr (SQx p) M M')) 0 [some (.ref 0), some (.int h), some (.int n), some (.int b)] [] 333 M (0, 0)
  refine qi_aload_n (i := 0) (x := 0) dX11_without_0 rfl rfl ?_
  refine qi_getR (x := p) flX11_67 dX11_without_1 rfl (by decide) hr ?_
  refine qi_iload_n (i := 1) (x := h) dX11_without_4 rfl rfl ?_
  refine qi_callPVI (v := isF (π.1 1) h) (K' := kX3_hasHeir) (As := [.int h]) mlX11_102 okX3_hasHeir dX11_without_5 (c_X3_hasHeir g hp hP h) (hp.1 0 (by decide)) (by decide) rfl (by have := hp.2.2; omega) rfl rfl (Nat.le_of_ble_eq_true rfl) ⟨(Nat.le_of_ble_eq_true rfl), (Nat.le_of_ble_eq_true rfl)⟩ ⟨Nat.le_refl _, Nat.le_refl _⟩ ?_
  refine qi_if_eq (tgt := 39) dX11_without_8 (by decide) (fun c1 => ?_) (fun c1 => ?_)
  · exact E (Or.inl c1)
  · refine qi_iload_n (i := 2) (x := n) dX11_without_11 rfl rfl ?_
    refine qi_iconst (v := 1) dX11_without_12 rfl ?_
    refine qi_icmp_lt (tgt := 39) dX11_without_13 (by decide) (fun c2 => ?_) (fun c2 => ?_)
    · exact E (Or.inr (Or.inl (inF_no (fun y => absurd c2 (Int32.not_lt.mpr y.1)))))
    · refine qi_iload_n (i := 2) (x := n) dX11_without_16 rfl rfl ?_
      refine qi_sipush (v := 200) dX11_without_17 rfl ?_
      refine qi_icmp_gt (tgt := 39) dX11_without_20 (by decide) (fun c3 => ?_) (fun c3 => ?_)
      · exact E (Or.inr (Or.inl (inF_no (fun y => absurd c3 (Int32.not_lt.mpr y.2)))))
      · have a2 : ¬ inF 1 200 n = 0 := inF_yes ⟨Int32.not_lt.mp c2, Int32.not_lt.mp c3⟩
        refine qi_iload_n (i := 3) (x := b) dX11_without_23 rfl rfl ?_
        refine qi_iconst (v := -1) dX11_without_24 rfl ?_
        refine qi_icmp_eq (tgt := 42) dX11_without_25 (by decide) (fun c4 => ?_) (fun c4 => ?_)
        · exact K c1 a2 (fun z => z.1 c4)
        · refine qi_aload_n (i := 0) (x := 0) dX11_without_28 rfl rfl ?_
          refine qi_getR (x := p) flX11_67 dX11_without_29 rfl (by decide) hr ?_
          refine qi_iload_n (i := 3) (x := b) dX11_without_32 rfl rfl ?_
          refine qi_callPVI (v := isF (π.1 1) b) (K' := kX3_hasHeir) (As := [.int b]) mlX11_102 okX3_hasHeir dX11_without_33 (c_X3_hasHeir g hp hP b) (hp.1 0 (by decide)) (by decide) rfl (by have := hp.2.2; omega) rfl rfl (Nat.le_of_ble_eq_true rfl) ⟨(Nat.le_of_ble_eq_true rfl), (Nat.le_of_ble_eq_true rfl)⟩ ⟨Nat.le_refl _, Nat.le_refl _⟩ ?_
          refine qi_if_ne (tgt := 42) dX11_without_36 (by decide) (fun c5 => ?_) (fun c5 => ?_)
          · exact K c1 a2 (fun z => c5 z.2)
          · exact E (Or.inr (Or.inr ⟨c4, c5⟩))
