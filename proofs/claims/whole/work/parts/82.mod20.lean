/-! ThimbleSeaModel: fillsRows, thimble, surely, firstRow -/
def SRw : Nat → Nat → Prop := fun b j => b = 327 ∨ SRo b j
theorem qPlanM.frRw {M M' : qM} {L : Nat} {π : qPl} (h : qPlanM M L π) (hf : qFr SRw M M') : qPlanM M' L π := h.frS hf (fun b j z => by unfold SRw SRo at z; omega)
theorem sumN_const (k : Nat) : ∀ n, sumN (fun _ => k) n = n * k
  | 0 => (Nat.zero_mul k).symm
  | n + 1 => by
    show sumN (fun _ => k) n + k = (n + 1) * k
    rw [sumN_const k n, Nat.succ_mul]
set_option maxHeartbeats 2000000 in
theorem c_X12_fillsRows (g : qG) {M : qM} (hM : qRf M) {L : Nat} {π : qPl} (hP : qPlanM M L π) (hok : okPl π) {n s c : Nat} (hn : n ≤ 60) (hs : s < 2 ^ 31) (hc : c < 2 ^ 31) : qV g 2 kX12_fillsRows [.ref 280, .int (nI n), .int (nI s), .int (nI c)] M (fun M' => accM M' (π.1 0) (solL π n s c) ∧ qFr SRw M M') := by
  obtain ⟨SOL, hSOL⟩ : ∃ SOL, SOL = solL π n s c := ⟨_, rfl⟩
  have hlen : SOL.length ≤ 844596301 := by rw [hSOL]; exact sol_len hok.1 hn
  rw [← hSOL]
  obtain ⟨W, hWd⟩ : ∃ W, W = π.1 0 := ⟨_, rfl⟩
  have hokl : ∃ OK : List Nat → Bool, ∀ l, OK l = okL (π.2.1 0) (π.2.1 1) s c l := ⟨_, fun _ => rfl⟩
  obtain ⟨OK, hOK⟩ := hokl
  have hSf : SOL = (cm W n).filter OK := by rw [hSOL, hWd]; unfold solL; rw [show okL (π.2.1 0) (π.2.1 1) s c = OK from funext fun l => (hOK l).symm]
  rw [← hWd]
  have hL := hP.1.1
  have hw5 := hok.1
  rw [← hWd] at hw5
  have fin_ : ∀ M1 x4 x5, qFr SRw M M1 → accM M1 W SOL → qT g kX12_fillsRows (qR 2 0 0) (qZV g (fun M' => accM M' W SOL ∧ qFr SRw M M')) 145 [some (.ref 280), some (.int (nI n)), some (.int (nI s)), some (.int (nI c)), x4, x5] [] 333 M1 (0, 0) := by
    intro M1 x4 x5 hf hA
    exact qi_retV rfl dX12_fillsRows_145 (⟨hA, hf⟩)
  have K78 : 0 < W → ∀ m M1 t P, (rst W n t (W - 1)).length ≤ m → qFr SRw M M1 → accM M1 W P → qTh M1 t (W - 1) → sumN t (W - 1) ≤ n → SOL = P ++ (leaf W n t :: rst W n t (W - 1)).filter OK → qT g kX12_fillsRows (qR 2 0 0) (qZV g (fun M' => accM M' W SOL ∧ qFr SRw M M')) 78 [some (.ref 280), some (.int (nI n)), some (.int (nI s)), some (.int (nI c)), some (.int (nI (W - 1))), some (.int 1)] [] 333 M1 (0, 0) := by
    intro hW m
    induction m with
    | zero => ?_
    | succ m ih => ?_
    all_goals
      intro M1 t P hm hf hA hT hsum hS
      have hM1 := hM.fr hf
      have hP1 := hP.frRw hf
      obtain ⟨R, hR⟩ : ∃ R, R = rst W n t (W - 1) := ⟨_, rfl⟩
      rw [← hR] at hm hS
      obtain ⟨q, hq⟩ : ∃ q, q = n - sumN t (W - 1) := ⟨_, rfl⟩
      have hWs : W = (W - 1) + 1 := by omega
      have leafE : leaf W n t = pre (setN t (W - 1) q) W := by
        have h0 := pre_set t (W - 1) q
        rw [show W - 1 + 1 = W by omega] at h0
        rw [h0, hq]
        rfl
      have ti : ∀ i, i < W - 1 → t i ≤ 60 := fun i hi => by
        have := sumN_get (f := t) (W - 1) i hi
        omega
      have vi : ∀ i, i < W → setN t (W - 1) q i ≤ 60 := fun i hi => by
        unfold setN
        by_cases c1 : i = W - 1
        · rw [if_pos c1]; omega
        · rw [if_neg c1]; exact ti i (by omega)
      have dsm : ∀ f : Nat → Nat, (∀ i, i < W → f i ≤ 99) → sumN (fun i => setN t (W - 1) q i * f i) W ≤ 29700 := fun f hf99 => by
        have h1 := sumN_le (f := fun i => setN t (W - 1) q i * f i) (h := fun _ => 5940) W (fun i hi => Nat.mul_le_mul (vi i hi) (hf99 i hi))
        rw [sumN_const] at h1
        have h2 : W * 5940 ≤ 5 * 5940 := Nat.mul_le_mul_right _ hw5
        omega
      have dS := dsm (π.2.1 0) (fun i hi => (hok.2.2.2.2.2.2.1 i (by omega)).1)
      have dC := dsm (π.2.1 1) (fun i hi => Nat.le_trans (hok.2.2.2.2.2.2.1 i (by omega)).2 (by omega))
      have okLeaf : OK (leaf W n t) = true ↔ (sumN (fun i => setN t (W - 1) q i * π.2.1 0 i) W = s ∧ sumN (fun i => setN t (W - 1) q i * π.2.1 1 i) W = c) := by
        rw [hOK, leafE]
        unfold okL
        rw [dotL_pre, dotL_pre]
        exact decide_eq_true_iff
      have z0 : sumN (fun i => setN t (W - 1) 0 i * 1) W = sumN t (W - 1) := by
        have h0 : sumN (fun i => setN t (W - 1) 0 i * 1) ((W - 1) + 1) = sumN (fun i => setN t (W - 1) 0 i * 1) (W - 1) + setN t (W - 1) 0 (W - 1) * 1 := rfl
        rw [show W - 1 + 1 = W by omega] at h0
        rw [h0, show setN t (W - 1) 0 (W - 1) = 0 from if_pos rfl, sumN_congr (h := t) (W - 1) (fun i hi => by show setN t (W - 1) 0 i * 1 = t i; rw [Nat.mul_one]; exact if_neg (by omega))]
        omega
      have K127 : ∀ M2 P', qFr SRw M M2 → accM M2 W P' → qTh M2 t (W - 1) → SOL = P' ++ R.filter OK → qT g kX12_fillsRows (qR 2 0 0) (qZV g (fun M' => accM M' W SOL ∧ qFr SRw M M')) 127 [some (.ref 280), some (.int (nI n)), some (.int (nI s)), some (.int (nI c)), some (.int (nI (W - 1))), some (.int 1)] [] 333 M2 (0, 0) := by
        intro M2 P' hf2 hA2 hT2 hS2
        have hM2 := hM.fr hf2
        refine qi_aload_n (i := 0) (x := 280) dX12_fillsRows_127 rfl rfl ?_
        refine qi_getR (x := 327) flX12_158 dX12_fillsRows_128 rfl (by decide) (hM2 280 68 327 rfl) ?_
        refine qi_iload (i := 4) (x := nI (W - 1)) dX12_fillsRows_131 rfl ?_
        refine qi_iconst (v := 0) dX12_fillsRows_133 rfl ?_
        refine qi_iastN (j := W - 1) dX12_fillsRows_134 rfl (by decide) rfl (by omega) (by decide) ?_
        generalize eM3 : wI M2 327 (W - 1) 0 = M3
        have hf3 : qFr SRw M M3 := by rw [← eM3]; exact hf2.wI (Or.inl rfl)
        have hM3 := hM.fr hf3
        have hA3 : accM M3 W P' := by rw [← eM3]; exact ⟨hA2.1, (wI_a (by decide)).trans hA2.2.1, fun l Q hlq v hv => (wI_a (by decide)).trans (hA2.2.2 l Q hlq v hv)⟩
        have hT3 : qTh M3 t (W - 1) := fun i hi => by rw [← eM3, wI_k (by omega)]; exact hT2 i hi
        refine qi_aload_n (i := 0) (x := 280) dX12_fillsRows_135 rfl rfl ?_
        refine qi_iload_n (i := 1) (x := nI n) dX12_fillsRows_136 rfl rfl ?_
        refine qi_callVI (K' := kX12_nextNumbers) (As := [.int (nI n)]) mlX12_437 okX12_nextNumbers dX12_fillsRows_137 (c_X12_nextNumbers g hM3 (hP.frRw hf3) hok (t := t) (n := n) (by omega) hn (by rw [← hWd]; exact hT3) (by rw [← hWd]; exact hsum)) rfl (by decide) rfl (by decide) rfl rfl (Nat.le_of_ble_eq_true rfl) ⟨(Nat.le_of_ble_eq_true rfl), (Nat.le_of_ble_eq_true rfl)⟩ ⟨Nat.le_refl _, Nat.le_refl _⟩ (fun r M4 ⟨hr, hf4⟩ => ?_)
        rw [← hWd, ← hR] at hr
        have hf4' : qFr SRw M M4 := hf3.tr (hf4.mono (fun b j z => Or.inl z))
        have hM4 := hM.fr hf4'
        have hA4 : accM M4 W P' := ⟨(hf4.2.1 _ _ (by omega)).trans hA3.1, (hf4.1 _ _ (by omega)).trans hA3.2.1, fun l Q hlq v hv => (hf4.1 _ _ (by omega)).trans (hA3.2.2 l Q hlq v hv)⟩
        rcases hr with ⟨hr0, hn0⟩ | ⟨hr1, u, hu1, hu2, hu3⟩
        · rw [hr0]
          rw [hn0] at hS2
          have hPS : P' = SOL := by rw [hS2]; exact (List.append_nil P').symm
          rw [hPS] at hA4
          refine qi_istore (i := 5) (L2 := [some (.ref 280), some (.int (nI n)), some (.int (nI s)), some (.int (nI c)), some (.int (nI (W - 1))), some (.int 0)]) dX12_fillsRows_140 (Nat.le_of_ble_eq_true rfl) rfl ?_
          refine qi_goto (tgt := 78) dX12_fillsRows_142 (by decide) ?_
          refine qi_iload (i := 5) (x := 0) dX12_fillsRows_78 rfl ?_
          refine qi_if_eq (tgt := 145) dX12_fillsRows_80 (by decide) (fun z => ?_) (fun z => False.elim (z rfl))
          exact fin_ M4 _ _ hf4' hA4
        · rw [hr1]
          rw [hu3] at hS2 hm
          refine qi_istore (i := 5) (L2 := [some (.ref 280), some (.int (nI n)), some (.int (nI s)), some (.int (nI c)), some (.int (nI (W - 1))), some (.int 1)]) dX12_fillsRows_140 (Nat.le_of_ble_eq_true rfl) rfl ?_
          refine qi_goto (tgt := 78) dX12_fillsRows_142 (by decide) ?_
          first
            | exact ih M4 u P' (by rw [List.length_cons] at hm; omega) hf4' hA4 hu1 hu2 hS2
            | (rw [List.length_cons] at hm; omega)
      refine qi_iload (i := 5) (x := 1) dX12_fillsRows_78 rfl ?_
      refine qi_if_eq (tgt := 145) dX12_fillsRows_80 (by decide) (fun z => False.elim (absurd z (by decide))) (fun z => ?_)
      refine qi_aload_n (i := 0) (x := 280) dX12_fillsRows_83 rfl rfl ?_
      refine qi_getR (x := 327) flX12_158 dX12_fillsRows_84 rfl (by decide) (hM1 280 68 327 rfl) ?_
      refine qi_iload (i := 4) (x := nI (W - 1)) dX12_fillsRows_87 rfl ?_
      refine qi_iconst (v := 0) dX12_fillsRows_89 rfl ?_
      refine qi_iastN (j := W - 1) dX12_fillsRows_90 rfl (by decide) rfl (by omega) (by decide) ?_
      generalize eM2 : wI M1 327 (W - 1) 0 = M2
      have hf2 : qFr SRw M M2 := by rw [← eM2]; exact hf.wI (Or.inl rfl)
      have hM2 := hM.fr hf2
      have hT2 : qTh M2 (setN t (W - 1) 0) (π.1 0) := fun i hi => by
        rw [← eM2]
        unfold setN
        by_cases c1 : i = W - 1
        · rw [if_pos c1, c1, wI_s]; rfl
        · rw [if_neg c1, wI_k c1]; exact hT i (by omega)
      refine qi_aload_n (i := 0) (x := 280) dX12_fillsRows_91 rfl rfl ?_
      refine qi_getR (x := 327) flX12_158 dX12_fillsRows_92 rfl (by decide) (hM2 280 68 327 rfl) ?_
      refine qi_iload (i := 4) (x := nI (W - 1)) dX12_fillsRows_95 rfl ?_
      refine qi_iload_n (i := 1) (x := nI n) dX12_fillsRows_97 rfl rfl ?_
      refine qi_aload_n (i := 0) (x := 280) dX12_fillsRows_98 rfl rfl ?_
      refine qi_iconst (v := 0) dX12_fillsRows_99 rfl ?_
      refine qi_callPVI (v := nI (sumN (fun i ↦ setN t (W - 1) 0 i * 1) (π.1 0))) (K' := kX12_sumOf) (As := [.int 0]) mlX12_434 okX12_sumOf dX12_fillsRows_100 (c_X12_sumOf g hM2 (hP.frRw hf2) hok hT2 (w := 0) (Or.inl ⟨rfl, rfl⟩)) rfl (by decide) rfl (by decide) rfl rfl (Nat.le_of_ble_eq_true rfl) ⟨(Nat.le_of_ble_eq_true rfl), (Nat.le_of_ble_eq_true rfl)⟩ ⟨Nat.le_refl _, Nat.le_refl _⟩ ?_
      refine qe_top (y := nI (sumN t (W - 1))) (by rw [← hWd, z0]) ?_
      refine qi_isub dX12_fillsRows_103 ?_
      refine qe_top (y := nI q) (by rw [pk_sub hsum, hq]) ?_
      refine qi_iastN (j := W - 1) dX12_fillsRows_104 rfl (by decide) rfl (by omega) (by decide) ?_
      rw [← eM2]
      generalize eM3 : wI (wI M1 327 (W - 1) 0) 327 (W - 1) (nI q) = M3
      have hf3 : qFr SRw M M3 := by rw [← eM3]; exact (hf.wI (Or.inl rfl)).wI (Or.inl rfl)
      have hM3 := hM.fr hf3
      have hP3 := hP.frRw hf3
      have hT3 : qTh M3 (setN t (W - 1) q) (π.1 0) := fun i hi => by
        rw [← eM3]
        unfold setN
        by_cases c1 : i = W - 1
        · rw [if_pos c1, c1, wI_s]
        · rw [if_neg c1, wI_k c1, wI_k c1]; exact hT i (by omega)
      have hA3 : accM M3 W P := by rw [← eM3]; exact ⟨hA.1, (wI_a (by decide)).trans ((wI_a (by decide)).trans hA.2.1), fun l Q hlq v hv => (wI_a (by decide)).trans ((wI_a (by decide)).trans (hA.2.2 l Q hlq v hv))⟩
      have hT3' : qTh M3 t (W - 1) := fun i hi => by rw [hT3 i (by omega)]; exact congrArg nI (if_neg (by omega))
      have skip : ¬ OK (leaf W n t) = true → SOL = P ++ R.filter OK := fun z => by rw [hS, List.filter_cons_of_neg z]
      refine qi_aload_n (i := 0) (x := 280) dX12_fillsRows_105 rfl rfl ?_
      refine qi_iconst (v := 1) dX12_fillsRows_106 rfl ?_
      refine qi_callPVI (v := nI (sumN (fun i ↦ setN t (W - 1) q i * π.2.1 0 i) (π.1 0))) (K' := kX12_sumOf) (As := [.int 1]) mlX12_434 okX12_sumOf dX12_fillsRows_107 (c_X12_sumOf g hM3 hP3 hok hT3 (w := 1) (Or.inr (Or.inl ⟨rfl, rfl⟩))) rfl (by decide) rfl (by decide) rfl rfl (Nat.le_of_ble_eq_true rfl) ⟨(Nat.le_of_ble_eq_true rfl), (Nat.le_of_ble_eq_true rfl)⟩ ⟨Nat.le_refl _, Nat.le_refl _⟩ ?_
      refine qe_top (y := nI (sumN (fun i ↦ setN t (W - 1) q i * π.2.1 0 i) W)) (by rw [← hWd]) ?_
      refine qi_iload_n (i := 2) (x := nI s) dX12_fillsRows_110 rfl rfl ?_
      refine qi_icmp_ne (tgt := 127) dX12_fillsRows_111 (by decide) (fun _h => ?_) (fun _h => ?_)
      · have c1 : ¬ ((sumN (fun i ↦ setN t (W - 1) q i * π.2.1 0 i) W) = s) := fun z => _h ((nI_eq (a := sumN (fun i ↦ setN t (W - 1) q i * π.2.1 0 i) W) (b := s) (by omega) (by omega)).mpr z)
        exact K127 M3 P hf3 hA3 hT3' (skip (fun z => c1 (okLeaf.mp z).1))
      · have c1 : (sumN (fun i ↦ setN t (W - 1) q i * π.2.1 0 i) W) = s := (nI_eq (a := sumN (fun i ↦ setN t (W - 1) q i * π.2.1 0 i) W) (b := s) (by omega) (by omega)).mp _h
        refine qi_aload_n (i := 0) (x := 280) dX12_fillsRows_114 rfl rfl ?_
        refine qi_iconst (v := 2) dX12_fillsRows_115 rfl ?_
        refine qi_callPVI (v := nI (sumN (fun i ↦ setN t (W - 1) q i * π.2.1 1 i) (π.1 0))) (K' := kX12_sumOf) (As := [.int 2]) mlX12_434 okX12_sumOf dX12_fillsRows_116 (c_X12_sumOf g hM3 hP3 hok hT3 (w := 2) (Or.inr (Or.inr ⟨rfl, rfl⟩))) rfl (by decide) rfl (by decide) rfl rfl (Nat.le_of_ble_eq_true rfl) ⟨(Nat.le_of_ble_eq_true rfl), (Nat.le_of_ble_eq_true rfl)⟩ ⟨Nat.le_refl _, Nat.le_refl _⟩ ?_
        refine qe_top (y := nI (sumN (fun i ↦ setN t (W - 1) q i * π.2.1 1 i) W)) (by rw [← hWd]) ?_
        refine qi_iload_n (i := 3) (x := nI c) dX12_fillsRows_119 rfl rfl ?_
        refine qi_icmp_ne (tgt := 127) dX12_fillsRows_120 (by decide) (fun _h => ?_) (fun _h => ?_)
        · have c2 : ¬ ((sumN (fun i ↦ setN t (W - 1) q i * π.2.1 1 i) W) = c) := fun z => _h ((nI_eq (a := sumN (fun i ↦ setN t (W - 1) q i * π.2.1 1 i) W) (b := c) (by omega) (by omega)).mpr z)
          exact K127 M3 P hf3 hA3 hT3' (skip (fun z => c2 (okLeaf.mp z).2))
        · have c2 : (sumN (fun i ↦ setN t (W - 1) q i * π.2.1 1 i) W) = c := (nI_eq (a := sumN (fun i ↦ setN t (W - 1) q i * π.2.1 1 i) W) (b := c) (by omega) (by omega)).mp _h
          have hPl : P.length ≤ 844596301 := by
            have := congrArg List.length hS
            rw [List.length_append] at this
            omega
          refine qi_aload_n (i := 0) (x := 280) dX12_fillsRows_123 rfl rfl ?_
          refine qi_callVV (K' := kX12_notesRow) (As := []) mlX12_431 okX12_notesRow dX12_fillsRows_124 (c_X12_notesRow g hM3 hP3 hok hT3 (fun i hi => by have := vi i (by omega); omega) (by rw [← hWd]; exact hA3) hPl) rfl (by decide) rfl (by decide) rfl rfl (Nat.le_of_ble_eq_true rfl) ⟨(Nat.le_of_ble_eq_true rfl), (Nat.le_of_ble_eq_true rfl)⟩ ⟨Nat.le_refl _, Nat.le_refl _⟩ (fun M4 ⟨hA4, hf4⟩ => ?_)
          rw [← hWd, ← leafE] at hA4
          have hf4' : qFr SRw M M4 := hf3.tr (hf4.mono (fun b j z => Or.inr z))
          exact K127 M4 _ hf4' hA4 (fun i hi => (hf4.1 _ _ (by unfold SRo; omega)).trans (hT3' i hi)) (by rw [hS, List.filter_cons_of_pos (okLeaf.mpr ⟨c1, c2⟩), List.append_assoc]; rfl)
  have K33 : ∀ M1 x4, qFr SRw M M1 → accM M1 W [] → (∀ i, i < 5 → M1.1 327 i = 0) → qT g kX12_fillsRows (qR 2 0 0) (qZV g (fun M' => accM M' W SOL ∧ qFr SRw M M')) 33 [some (.ref 280), some (.int (nI n)), some (.int (nI s)), some (.int (nI c)), x4, none] [] 333 M1 (0, 0) := by
    intro M1 x4 hf hA hz
    have hM1 := hM.fr hf
    have hP1 := hP.frRw hf
    refine qi_aload_n (i := 0) (x := 280) dX12_fillsRows_33 rfl rfl ?_
    refine qi_getR (x := 291) flX12_49 dX12_fillsRows_34 rfl (by decide) (hM1 280 24 291 rfl) ?_
    refine qi_aload_n (i := 0) (x := 280) dX12_fillsRows_37 rfl rfl ?_
    refine qi_getI (x := nI L) flX12_248 dX12_fillsRows_38 rfl (by decide) hP1.1.2 ?_
    refine qi_ialdN (x := nI (π.1 0)) (j := L) dX12_fillsRows_41 rfl (by decide) rfl (by omega) (by decide) hP1.2.1.1 ?_
    refine qi_if_ne (tgt := 62) dX12_fillsRows_42 (by decide) (fun _h => ?_) (fun _h => ?_)
    · have c0 : ¬ ((π.1 0) = 0) := fun z => _h ((nI_eq (a := π.1 0) (b := 0) (by omega) (by omega)).mpr z)
      have hW : 0 < W := by omega
      refine qi_aload_n (i := 0) (x := 280) dX12_fillsRows_62 rfl rfl ?_
      refine qi_getR (x := 291) flX12_49 dX12_fillsRows_63 rfl (by decide) (hM1 280 24 291 rfl) ?_
      refine qi_aload_n (i := 0) (x := 280) dX12_fillsRows_66 rfl rfl ?_
      refine qi_getI (x := nI L) flX12_248 dX12_fillsRows_67 rfl (by decide) hP1.1.2 ?_
      refine qi_ialdN (x := nI (π.1 0)) (j := L) dX12_fillsRows_70 rfl (by decide) rfl (by omega) (by decide) hP1.2.1.1 ?_
      refine qi_iconst (v := 1) dX12_fillsRows_71 rfl ?_
      refine qi_isub dX12_fillsRows_72 ?_
      refine qe_top (y := nI (W - 1)) (by rw [← hWd, show (1 : Int32) = nI 1 from rfl, pk_sub (by omega)]) ?_
      refine qi_istore (i := 4) (L2 := [some (.ref 280), some (.int (nI n)), some (.int (nI s)), some (.int (nI c)), some (.int (nI (W - 1))), none]) dX12_fillsRows_73 (Nat.le_of_ble_eq_true rfl) rfl ?_
      refine qi_iconst (v := 1) dX12_fillsRows_75 rfl ?_
      refine qi_istore (i := 5) (L2 := [some (.ref 280), some (.int (nI n)), some (.int (nI s)), some (.int (nI c)), some (.int (nI (W - 1))), some (.int 1)]) dX12_fillsRows_76 (Nat.le_of_ble_eq_true rfl) rfl ?_
      have s0 : sumN (fun _ : Nat => 0) (W - 1) = 0 := sumN_zero _ (fun _ _ => rfl)
      refine K78 hW _ M1 (fun _ => 0) [] (Nat.le_refl _) hf hA (fun i hi => hz i (by omega)) (by omega) ?_
      have f1 := first_row (W := W) (n := n) (t := fun _ => 0) (W - 1) 0 (by omega) (fun _ _ _ => rfl)
      rw [show W - 1 + 1 = W by omega, show sumN (fun _ : Nat => 0) 0 = 0 from rfl, Nat.sub_zero] at f1
      rw [← f1, hSf]
      show (cm W n).filter OK = [] ++ ((cm W n).map (fun l => [] ++ l) ++ []).filter OK
      rw [List.nil_append, List.append_nil, show (fun l : List Nat => [] ++ l) = id from funext fun l => List.nil_append l, List.map_id]
    · have c0 : (π.1 0) = 0 := (nI_eq (a := π.1 0) (b := 0) (by omega) (by omega)).mp _h
      have hW0 : W = 0 := by omega
      have S0 : ¬ (n = 0 ∧ s = 0 ∧ c = 0) → SOL = [] := fun z => by
        rw [hSf, hW0]
        show (if n = 0 then [[]] else []).filter OK = []
        by_cases d : n = 0
        · rw [if_pos d]
          rw [List.filter_cons_of_neg]
          · rfl
          · rw [hOK]
            unfold okL
            rw [decide_eq_true_iff]
            intro y
            exact z ⟨d, y.1.symm, y.2.symm⟩
        · rw [if_neg d]; rfl
      have E61 : ¬ (n = 0 ∧ s = 0 ∧ c = 0) → qT g kX12_fillsRows (qR 2 0 0) (qZV g (fun M' => accM M' W SOL ∧ qFr SRw M M')) 61 [some (.ref 280), some (.int (nI n)), some (.int (nI s)), some (.int (nI c)), x4, none] [] 333 M1 (0, 0) := by
        intro z
        exact qi_retV rfl dX12_fillsRows_61 (⟨by rw [S0 z]; exact hA, hf⟩)
      refine qi_iload_n (i := 1) (x := nI n) dX12_fillsRows_45 rfl rfl ?_
      refine qi_if_ne (tgt := 61) dX12_fillsRows_46 (by decide) (fun _h => ?_) (fun _h => ?_)
      · have d1 : ¬ (n = 0) := fun z => _h ((nI_eq (a := n) (b := 0) (by omega) (by omega)).mpr z)
        exact E61 (fun z => d1 z.1)
      · have d1 : n = 0 := (nI_eq (a := n) (b := 0) (by omega) (by omega)).mp _h
        refine qi_iload_n (i := 2) (x := nI s) dX12_fillsRows_49 rfl rfl ?_
        refine qi_if_ne (tgt := 61) dX12_fillsRows_50 (by decide) (fun _h => ?_) (fun _h => ?_)
        · have d2 : ¬ (s = 0) := fun z => _h ((nI_eq (a := s) (b := 0) (by omega) (by omega)).mpr z)
          exact E61 (fun z => d2 z.2.1)
        · have d2 : s = 0 := (nI_eq (a := s) (b := 0) (by omega) (by omega)).mp _h
          refine qi_iload_n (i := 3) (x := nI c) dX12_fillsRows_53 rfl rfl ?_
          refine qi_if_ne (tgt := 61) dX12_fillsRows_54 (by decide) (fun _h => ?_) (fun _h => ?_)
          · have d3 : ¬ (c = 0) := fun z => _h ((nI_eq (a := c) (b := 0) (by omega) (by omega)).mpr z)
            exact E61 (fun z => d3 z.2.2)
          · have d3 : c = 0 := (nI_eq (a := c) (b := 0) (by omega) (by omega)).mp _h
            refine qi_aload_n (i := 0) (x := 280) dX12_fillsRows_57 rfl rfl ?_
            refine qi_callVV (K' := kX12_notesRow) (As := []) mlX12_431 okX12_notesRow dX12_fillsRows_58 (c_X12_notesRow g hM1 hP1 hok (P := []) (t := fun _ ↦ 0) (fun i hi ↦ absurd hi (by omega)) (fun i hi ↦ absurd hi (by omega)) (by rw [← hWd]; exact hA) (Nat.zero_le _)) rfl (by decide) rfl (by decide) rfl rfl (Nat.le_of_ble_eq_true rfl) ⟨(Nat.le_of_ble_eq_true rfl), (Nat.le_of_ble_eq_true rfl)⟩ ⟨Nat.le_refl _, Nat.le_refl _⟩ (fun M4 ⟨hA4, hf4⟩ => ?_)
            rw [← hWd, hW0] at hA4
            refine qi_retV rfl dX12_fillsRows_61 (⟨?_, hf.tr (hf4.mono (fun b j z => Or.inr z))⟩)
            have hS1 : SOL = [[]] := by
              rw [hSf, hW0]
              show (if n = 0 then [[]] else []).filter OK = [[]]
              rw [if_pos d1, List.filter_cons_of_pos]
              · rfl
              · rw [hOK]
                unfold okL
                rw [decide_eq_true_iff]
                exact ⟨d2.symm, d3.symm⟩
            rw [hS1, hW0]
            exact hA4
  have K13 : ∀ m j M1, j + m = 5 → qFr SRw M M1 → accM M1 W [] → (∀ i, i < j → M1.1 327 i = 0) → qT g kX12_fillsRows (qR 2 0 0) (qZV g (fun M' => accM M' W SOL ∧ qFr SRw M M')) 13 [some (.ref 280), some (.int (nI n)), some (.int (nI s)), some (.int (nI c)), some (.int (nI j)), none] [] 333 M1 (0, 0) := by
    intro m
    induction m with
    | zero =>
      intro j M1 e hf hA hz
      refine qi_iload (i := 4) (x := nI j) dX12_fillsRows_13 rfl ?_
      refine qi_iconst (v := 5) dX12_fillsRows_15 rfl ?_
      refine qi_icmp_ge (tgt := 33) dX12_fillsRows_16 (by decide) (fun _hc => ?_) (fun _h => absurd ((nI_leI (a := 5) (b := j) (by omega) (by omega)).mpr (by omega)) _h)
      exact K33 M1 _ hf hA (fun i hi => hz i (by omega))
    | succ m ih =>
      intro j M1 e hf hA hz
      have hM1 := hM.fr hf
      refine qi_iload (i := 4) (x := nI j) dX12_fillsRows_13 rfl ?_
      refine qi_iconst (v := 5) dX12_fillsRows_15 rfl ?_
      refine qi_icmp_ge (tgt := 33) dX12_fillsRows_16 (by decide) (fun _h => absurd ((nI_leI (a := 5) (b := j) (by omega) (by omega)).mp _h) (by omega)) (fun _hc => ?_)
      refine qi_aload_n (i := 0) (x := 280) dX12_fillsRows_19 rfl rfl ?_
      refine qi_getR (x := 327) flX12_158 dX12_fillsRows_20 rfl (by decide) (hM1 280 68 327 rfl) ?_
      refine qi_iload (i := 4) (x := nI j) dX12_fillsRows_23 rfl ?_
      refine qi_iconst (v := 0) dX12_fillsRows_25 rfl ?_
      refine qi_iastN (j := j) dX12_fillsRows_26 rfl (by decide) rfl (by omega) (by decide) ?_
      refine qi_iinc (i := 4) (x := nI j) (v := nI (j + 1)) (L2 := [some (.ref 280), some (.int (nI n)), some (.int (nI s)), some (.int (nI c)), some (.int (nI (j + 1))), none]) dX12_fillsRows_27 rfl (nI_1 j) (Nat.le_of_ble_eq_true rfl) rfl ?_
      refine qi_goto (tgt := 13) dX12_fillsRows_30 (by decide) ?_
      refine ih (j + 1) _ (by omega) (hf.wI (Or.inl rfl)) ⟨hA.1, (wI_a (by decide)).trans hA.2.1, fun l Q hlq => by cases hlq⟩ (fun i hi => ?_)
      by_cases c1 : i = j
      · rw [c1, wI_s]
      · rw [wI_k c1]; exact hz i (by omega)
  refine qV.of (j := 2) (pn_RX12) rfl ?_
  show qT g kX12_fillsRows (qR 2 0 0) (qZV g (fun M' => accM M' W SOL ∧ qFr SRw M M')) 0 [some (.ref 280), some (.int (nI n)), some (.int (nI s)), some (.int (nI c)), none, none] [] 333 M (0, 0)
  refine qi_aload_n (i := 0) (x := 280) dX12_fillsRows_0 rfl rfl ?_
  refine qi_lconst (v := 0) dX12_fillsRows_1 rfl ?_
  refine qi_putJ flX12_424 q_cls12 (ty12_70 _) dX12_fillsRows_2 rfl (by decide) ?_
  refine qi_aload_n (i := 0) (x := 280) dX12_fillsRows_5 rfl rfl ?_
  refine qi_iconst (v := 0) dX12_fillsRows_6 rfl ?_
  refine qi_putI flX12_428 q_cls12 (ty12_71 _) dX12_fillsRows_7 rfl (by decide) ?_
  refine qi_iconst (v := 0) dX12_fillsRows_10 rfl ?_
  refine qi_istore (i := 4) (L2 := [some (.ref 280), some (.int (nI n)), some (.int (nI s)), some (.int (nI c)), some (.int 0), none]) dX12_fillsRows_11 (Nat.le_of_ble_eq_true rfl) rfl ?_
  exact K13 5 0 _ (by omega) ((qFr.rf.wJ (Or.inr (Or.inr ⟨rfl, Or.inl rfl⟩))).wI (Or.inr (Or.inr ⟨rfl, Or.inr rfl⟩))) ⟨wJ_s _ _ _ _, wI_s _ _ _ _, fun l Q hlq => by cases hlq⟩ (fun i hi => absurd hi (Nat.not_lt_zero _))
set_option maxHeartbeats 1000000 in
theorem c_X12_isThimble (g : qG) {M : qM} (n s c : Int32) : qI g 1 kX12_isThimble [.int n, .int s, .int c] M (fun r M' => (r = 0 ↔ badT n s c) ∧ M' = M) := by
  have E : badT n s c → qT g kX12_isThimble (qR 1 0 0) (qZI g (fun r M' => (r = 0 ↔ badT n s c) ∧ M' = M)) 22 [some (.int n), some (.int s), some (.int c)] [] 333 M (0, 0) := by
    intro hb
    refine qi_iconst (v := 0) dX12_isThimble_22 rfl ?_
    exact qi_retI rfl (by rfl) dX12_isThimble_23 (⟨⟨fun _ => hb, fun _ => rfl⟩, rfl⟩)
  refine qI.of (j := 0) (pn_RX12) rfl ?_
  show qT g kX12_isThimble (qR 1 0 0) (qZI g (fun r M' => (r = 0 ↔ badT n s c) ∧ M' = M)) 0 [some (.int n), some (.int s), some (.int c)] [] 333 M (0, 0)
  refine qi_iload_n (i := 0) (x := n) dX12_isThimble_0 rfl rfl ?_
  refine qi_iconst (v := 0) dX12_isThimble_1 rfl ?_
  refine qi_bipush (v := 60) dX12_isThimble_2 rfl ?_
  refine qi_callPSI (v := inF 0 60 n) (K' := kX12_in) (As := [.int n, .int 0, .int 60]) mlX12_338 okX12_in dX12_isThimble_4 (c_X12_in g _ _ _) rfl rfl (Nat.le_of_ble_eq_true rfl) ⟨(Nat.le_of_ble_eq_true rfl), (Nat.le_of_ble_eq_true rfl)⟩ ⟨Nat.le_refl _, Nat.le_refl _⟩ ?_
  refine qi_if_eq (tgt := 22) dX12_isThimble_7 (by decide) (fun c1 => ?_) (fun c1 => ?_)
  · exact E (Or.inl c1)
  · refine qi_iload_n (i := 1) (x := s) dX12_isThimble_10 rfl rfl ?_
    refine qi_if_lt (tgt := 22) dX12_isThimble_11 (by decide) (fun c2 => ?_) (fun c2 => ?_)
    · exact E (Or.inr (Or.inl c2))
    · refine qi_iload_n (i := 2) (x := c) dX12_isThimble_14 rfl rfl ?_
      refine qi_if_lt (tgt := 22) dX12_isThimble_15 (by decide) (fun c3 => ?_) (fun c3 => ?_)
      · exact E (Or.inr (Or.inr c3))
      · refine qi_iconst (v := 1) dX12_isThimble_18 rfl ?_
        refine qi_goto (tgt := 23) dX12_isThimble_19 (by decide) ?_
        exact qi_retI rfl (by rfl) dX12_isThimble_23 (⟨⟨fun z => absurd z (by decide), fun z => absurd z (fun y => y.elim c1 (fun y => y.elim c2 c3))⟩, rfl⟩)
set_option maxHeartbeats 1000000 in
theorem c_X12_thimble (g : qG) {M : qM} (hM : qRf M) {L : Nat} {π : qPl} (hP : qPlanM M L π) (hok : okPl π) (n s c : Int32) : qJ g 3 kX12_thimble [.ref 280, .int n, .int s, .int c] M (fun r M' => r = thimbleQ π n s c ∧ qFr SRw M M') := by
  obtain ⟨res, hres⟩ : ∃ res, res = thimbleQ π n s c := ⟨_, rfl⟩
  rw [← hres]
  unfold thimbleQ at hres
  refine qJ.of (j := 0) (pn_RX12) rfl ?_
  show qT g kX12_thimble (qR 3 0 0) (qZJ g (fun r M' => r = res ∧ qFr SRw M M')) 0 [some (.ref 280), some (.int n), some (.int s), some (.int c)] [] 333 M (0, 0)
  refine qi_iload_n (i := 1) (x := n) dX12_thimble_0 rfl rfl ?_
  refine qi_iload_n (i := 2) (x := s) dX12_thimble_1 rfl rfl ?_
  refine qi_iload_n (i := 3) (x := c) dX12_thimble_2 rfl rfl ?_
  refine qi_callSI (K' := kX12_isThimble) (As := [.int n, .int s, .int c]) mlX12_440 okX12_isThimble dX12_thimble_3 (c_X12_isThimble g n s c) rfl rfl (Nat.le_of_ble_eq_true rfl) ⟨(Nat.le_of_ble_eq_true rfl), (Nat.le_of_ble_eq_true rfl)⟩ ⟨Nat.le_refl _, Nat.le_refl _⟩ (fun b M0 ⟨hb, rfl⟩ => ?_)
  refine qi_if_ne (tgt := 13) dX12_thimble_6 (by decide) (fun c1 => ?_) (fun c1 => ?_)
  · have hnb : ¬ badT n s c := fun z => c1 (hb.mpr z)
    obtain ⟨n0, hn0, rfl⟩ := inF_nat (n := 60) (by omega) (fun z => hnb (Or.inl z))
    obtain ⟨s0, hs0, rfl⟩ := nI_of (fun z => hnb (Or.inr (Or.inl z)))
    obtain ⟨c0, hc0, rfl⟩ := nI_of (fun z => hnb (Or.inr (Or.inr z)))
    rw [if_neg hnb, nI_clamp (by omega), nI_clamp hs0, nI_clamp hc0] at hres
    refine qi_aload_n (i := 0) (x := 280) dX12_thimble_13 rfl rfl ?_
    refine qi_iload_n (i := 1) (x := nI n0) dX12_thimble_14 rfl rfl ?_
    refine qi_iload_n (i := 2) (x := nI s0) dX12_thimble_15 rfl rfl ?_
    refine qi_iload_n (i := 3) (x := nI c0) dX12_thimble_16 rfl rfl ?_
    refine qi_callVV (K' := kX12_fillsRows) (As := [.int (nI n0), .int (nI s0), .int (nI c0)]) mlX12_443 okX12_fillsRows dX12_thimble_17 (c_X12_fillsRows g hM hP hok hn0 hs0 hc0) rfl (by decide) rfl (by decide) rfl rfl (Nat.le_of_ble_eq_true rfl) ⟨(Nat.le_of_ble_eq_true rfl), (Nat.le_of_ble_eq_true rfl)⟩ ⟨Nat.le_refl _, Nat.le_refl _⟩ (fun M2 ⟨hA, hf2⟩ => ?_)
    have hM2 := hM.fr hf2
    have hA1 := hA.1
    refine qi_aload_n (i := 0) (x := 280) dX12_thimble_20 rfl rfl ?_
    refine qi_getJ (x := lN (solL π n0 s0 c0).length) flX12_424 dX12_thimble_21 rfl (by decide) hA1 ?_
    exact qi_retJ rfl dX12_thimble_24 (⟨hres.symm, hf2⟩)
  · rw [if_pos (hb.mp c1)] at hres
    refine qi_ldc2 dX12_thimble_9 cnX12_365 ?_
    exact qi_retJ rfl dX12_thimble_12 (⟨hres.symm, qFr.rf⟩)
set_option maxHeartbeats 1000000 in
theorem c_X12_surely (g : qG) {M : qM} (hM : qRf M) {L : Nat} {π : qPl} (hP : qPlanM M L π) (hok : okPl π) (n s c : Int32) : qI g 3 kX12_surely [.ref 280, .int n, .int s, .int c] M (fun r M' => r = surelyQ π n s c ∧ qFr SRw M M') := by
  obtain ⟨res, hres⟩ : ∃ res, res = surelyQ π n s c := ⟨_, rfl⟩
  rw [← hres]
  unfold surelyQ at hres
  refine qI.of (j := 0) (pn_RX12) rfl ?_
  show qT g kX12_surely (qR 3 0 0) (qZI g (fun r M' => r = res ∧ qFr SRw M M')) 0 [some (.ref 280), some (.int n), some (.int s), some (.int c)] [] 333 M (0, 0)
  refine qi_iload_n (i := 1) (x := n) dX12_surely_0 rfl rfl ?_
  refine qi_iload_n (i := 2) (x := s) dX12_surely_1 rfl rfl ?_
  refine qi_iload_n (i := 3) (x := c) dX12_surely_2 rfl rfl ?_
  refine qi_callSI (K' := kX12_isThimble) (As := [.int n, .int s, .int c]) mlX12_440 okX12_isThimble dX12_surely_3 (c_X12_isThimble g n s c) rfl rfl (Nat.le_of_ble_eq_true rfl) ⟨(Nat.le_of_ble_eq_true rfl), (Nat.le_of_ble_eq_true rfl)⟩ ⟨Nat.le_refl _, Nat.le_refl _⟩ (fun b M0 ⟨hb, rfl⟩ => ?_)
  refine qi_if_ne (tgt := 11) dX12_surely_6 (by decide) (fun c1 => ?_) (fun c1 => ?_)
  · have hnb : ¬ badT n s c := fun z => c1 (hb.mpr z)
    obtain ⟨n0, hn0, rfl⟩ := inF_nat (n := 60) (by omega) (fun z => hnb (Or.inl z))
    obtain ⟨s0, hs0, rfl⟩ := nI_of (fun z => hnb (Or.inr (Or.inl z)))
    obtain ⟨c0, hc0, rfl⟩ := nI_of (fun z => hnb (Or.inr (Or.inr z)))
    rw [if_neg hnb, nI_clamp (by omega), nI_clamp hs0, nI_clamp hc0] at hres
    refine qi_aload_n (i := 0) (x := 280) dX12_surely_11 rfl rfl ?_
    refine qi_iload_n (i := 1) (x := nI n0) dX12_surely_12 rfl rfl ?_
    refine qi_iload_n (i := 2) (x := nI s0) dX12_surely_13 rfl rfl ?_
    refine qi_iload_n (i := 3) (x := nI c0) dX12_surely_14 rfl rfl ?_
    refine qi_callVV (K' := kX12_fillsRows) (As := [.int (nI n0), .int (nI s0), .int (nI c0)]) mlX12_443 okX12_fillsRows dX12_surely_15 (c_X12_fillsRows g hM hP hok hn0 hs0 hc0) rfl (by decide) rfl (by decide) rfl rfl (Nat.le_of_ble_eq_true rfl) ⟨(Nat.le_of_ble_eq_true rfl), (Nat.le_of_ble_eq_true rfl)⟩ ⟨Nat.le_refl _, Nat.le_refl _⟩ (fun M2 ⟨hA, hf2⟩ => ?_)
    have hM2 := hM.fr hf2
    have hA2 := hA.2.1
    refine qi_aload_n (i := 0) (x := 280) dX12_surely_18 rfl rfl ?_
    refine qi_getI (x := M2.1 280 71) flX12_428 dX12_surely_19 rfl (by decide) rfl ?_
    exact qi_retI rfl rfl dX12_surely_22 (⟨hA2.trans hres.symm, hf2⟩)
  · rw [if_pos (hb.mp c1)] at hres
    refine qi_iconst (v := -1) dX12_surely_9 rfl ?_
    exact qi_retI rfl rfl dX12_surely_10 (⟨hres.symm, qFr.rf⟩)
set_option maxHeartbeats 1000000 in
theorem c_X12_firstRow (g : qG) {M : qM} (hM : qRf M) {L : Nat} {π : qPl} (hP : qPlanM M L π) (hok : okPl π) (n s c w : Int32) : qI g 3 kX12_firstRow [.ref 280, .int n, .int s, .int c, .int w] M (fun r M' => r = firstQ π n s c w ∧ qFr SRw M M') := by
  obtain ⟨res, hres⟩ : ∃ res, res = firstQ π n s c w := ⟨_, rfl⟩
  rw [← hres]
  unfold firstQ at hres
  have hw5 := hok.1
  have E : (badT n s c ∨ isF (π.1 0) w = 0) → qT g kX12_firstRow (qR 3 0 0) (qZI g (fun r M' => r = res ∧ qFr SRw M M')) 18 [some (.ref 280), some (.int n), some (.int s), some (.int c), some (.int w)] [] 333 M (0, 0) := by
    intro hb
    rw [if_pos hb] at hres
    refine qi_iconst (v := -1) dX12_firstRow_18 rfl ?_
    exact qi_retI rfl rfl dX12_firstRow_19 (⟨hres.symm, qFr.rf⟩)
  refine qI.of (j := 0) (pn_RX12) rfl ?_
  show qT g kX12_firstRow (qR 3 0 0) (qZI g (fun r M' => r = res ∧ qFr SRw M M')) 0 [some (.ref 280), some (.int n), some (.int s), some (.int c), some (.int w)] [] 333 M (0, 0)
  refine qi_iload_n (i := 1) (x := n) dX12_firstRow_0 rfl rfl ?_
  refine qi_iload_n (i := 2) (x := s) dX12_firstRow_1 rfl rfl ?_
  refine qi_iload_n (i := 3) (x := c) dX12_firstRow_2 rfl rfl ?_
  refine qi_callSI (K' := kX12_isThimble) (As := [.int n, .int s, .int c]) mlX12_440 okX12_isThimble dX12_firstRow_3 (c_X12_isThimble g n s c) rfl rfl (Nat.le_of_ble_eq_true rfl) ⟨(Nat.le_of_ble_eq_true rfl), (Nat.le_of_ble_eq_true rfl)⟩ ⟨Nat.le_refl _, Nat.le_refl _⟩ (fun b M0 ⟨hb, rfl⟩ => ?_)
  refine qi_if_eq (tgt := 18) dX12_firstRow_6 (by decide) (fun c1 => ?_) (fun c1 => ?_)
  · exact E (Or.inl (hb.mp c1))
  · refine qi_aload_n (i := 0) (x := 280) dX12_firstRow_9 rfl rfl ?_
    refine qi_iload (i := 4) (x := w) dX12_firstRow_10 rfl ?_
    refine qi_callPVI (v := isF (π.1 0) w) (K' := kX12_isWater) (As := [.int w]) mlX12_389 okX12_isWater dX12_firstRow_12 (c_X12_isWater g hM hP hok w) rfl (by decide) rfl (by decide) rfl rfl (Nat.le_of_ble_eq_true rfl) ⟨(Nat.le_of_ble_eq_true rfl), (Nat.le_of_ble_eq_true rfl)⟩ ⟨Nat.le_refl _, Nat.le_refl _⟩ ?_
    refine qi_if_ne (tgt := 20) dX12_firstRow_15 (by decide) (fun c2 => ?_) (fun c2 => ?_)
    · have hnb : ¬ badT n s c := fun z => c1 (hb.mpr z)
      obtain ⟨n0, hn0, rfl⟩ := inF_nat (n := 60) (by omega) (fun z => hnb (Or.inl z))
      obtain ⟨s0, hs0, rfl⟩ := nI_of (fun z => hnb (Or.inr (Or.inl z)))
      obtain ⟨c0, hc0, rfl⟩ := nI_of (fun z => hnb (Or.inr (Or.inr z)))
      obtain ⟨w0, hw0, rfl⟩ := isF_of (by omega) c2
      rw [if_neg (fun z => z.elim hnb c2), nI_clamp (by omega), nI_clamp hs0, nI_clamp hc0, nI_clamp (by omega)] at hres
      refine qi_aload_n (i := 0) (x := 280) dX12_firstRow_20 rfl rfl ?_
      refine qi_iload_n (i := 1) (x := nI n0) dX12_firstRow_21 rfl rfl ?_
      refine qi_iload_n (i := 2) (x := nI s0) dX12_firstRow_22 rfl rfl ?_
      refine qi_iload_n (i := 3) (x := nI c0) dX12_firstRow_23 rfl rfl ?_
      refine qi_callVV (K' := kX12_fillsRows) (As := [.int (nI n0), .int (nI s0), .int (nI c0)]) mlX12_443 okX12_fillsRows dX12_firstRow_24 (c_X12_fillsRows g hM hP hok hn0 hs0 hc0) rfl (by decide) rfl (by decide) rfl rfl (Nat.le_of_ble_eq_true rfl) ⟨(Nat.le_of_ble_eq_true rfl), (Nat.le_of_ble_eq_true rfl)⟩ ⟨Nat.le_refl _, Nat.le_refl _⟩ (fun M2 ⟨hA, hf2⟩ => ?_)
      have hM2 := hM.fr hf2
      obtain ⟨hA1, hA2, hA3⟩ := hA
      have hl := sol_len (π := π) hok.1 (n := n0) (s := s0) (c := c0) hn0
      refine qi_aload_n (i := 0) (x := 280) dX12_firstRow_27 rfl rfl ?_
      refine qi_getJ (x := lN (solL π n0 s0 c0).length) flX12_424 dX12_firstRow_28 rfl (by decide) hA1 ?_
      refine qi_lconst (v := 0) dX12_firstRow_31 rfl ?_
      refine qi_lcmp dX12_firstRow_32 ?_
      cases hs : solL π n0 s0 c0 with
      | nil =>
        rw [hs] at hres
        refine qi_if_ne (tgt := 41) dX12_firstRow_33 (by decide) (fun z => False.elim (z rfl)) (fun z => ?_)
        refine qi_bipush (v := -2) dX12_firstRow_36 rfl ?_
        refine qi_goto (tgt := 48) dX12_firstRow_38 (by decide) ?_
        exact qi_retI rfl rfl dX12_firstRow_48 (⟨hres.symm, hf2⟩)
      | cons l Q =>
        rw [hs] at hres hl
        have h1 := hA3 l Q hs w0 hw0
        refine qi_if_ne (tgt := 41) dX12_firstRow_33 (by decide) (fun z => ?_) (fun z => False.elim (absurd ((lN_0 (by omega)).mp z) (by rw [List.length_cons]; omega)))
        refine qi_aload_n (i := 0) (x := 280) dX12_firstRow_41 rfl rfl ?_
        refine qi_getR (x := 328) flX12_161 dX12_firstRow_42 rfl (by decide) (hM2 280 69 328 rfl) ?_
        refine qi_iload (i := 4) (x := nI w0) dX12_firstRow_45 rfl ?_
        refine qi_ialdN (x := nI (l.getD w0 0)) (j := w0) dX12_firstRow_47 rfl (by decide) rfl (by omega) (by decide) h1 ?_
        exact qi_retI rfl rfl dX12_firstRow_48 (⟨hres.symm, hf2⟩)
    · exact E (Or.inr c2)
