/-! ThimbleSea$Sea: toldBy, passWeek, passWeeks, takeOut -/
theorem varsF_is {M : qM} {q : Nat} {week level salt share sent lot : Int32} (h : M.1 (q + 3) 0 = week ∧ M.1 (q + 3) 1 = level ∧ M.1 (q + 3) 2 = salt ∧ M.1 (q + 3) 3 = share ∧ M.1 (q + 3) 4 = sent) (h5 : lotF (M.1 q 4) (M.1 q 5) = lot) : qVars M q (varsF week level salt share sent lot) := by
  refine ⟨fun i hi => ?_, h5⟩
  rcases (show i = 0 ∨ i = 1 ∨ i = 2 ∨ i = 3 ∨ i = 4 by omega) with rfl | rfl | rfl | rfl | rfl
  · exact h.1
  · exact h.2.1
  · exact h.2.2.1
  · exact h.2.2.2.1
  · exact h.2.2.2.2
set_option maxHeartbeats 1500000 in
theorem c_X6_toldBy (g : qG) {a p k : Nat} {ρ : Nat → Int32} {π : qPl} {M : qM} (hs : qIsS a) (hp : qIsP p) (hd : a + 5 < 242) (hM : qRf M) (hS : qSea M a ρ) (hP : qPlan M p π) (hok : okPl π) (hk : k < π.1 2) : qI g 3 kX6_toldBy [.ref a, .ref p, .int (nI k)] M (fun r M' => r = tellF π ρ k ∧ qFr (SP p) M M') := by
  have hla := hp.2.1
  have hlb := hp.2.2
  have hk2 := hok.2.2.1
  have hkk := hok.2.2.2.2.2.2.2.2 k hk
  have hh8 := hok.2.1
  have e6 := hP.2.1 6 k (by omega) hk
  have hte : tellF π ρ k = maxI 0 (minI 99 (π.2.2 k (varsF (ρ 64) (allF ρ) (ρ 65) (ρ (48 + π.2.1 6 k)) (ρ (56 + π.2.1 6 k)) (lotF (nI (π.1 5)) (20 * ρ 64 + nI k))))) := rfl
  obtain ⟨pl, e9, hlaw⟩ := hP.2.2.2.1 k hk
  obtain ⟨sz, hsz, hz⟩ := hP.2.2.1
  have hpl := hlaw.1
  generalize π.2.1 6 k = h at *
  obtain ⟨h1, h2, h3, h4, h5, h6, h7⟩ := id hS
  refine qI.of (j := 1) (pn_RX6) rfl ?_
  show qT g kX6_toldBy (qR 3 0 0) (qZI g (fun r M' => r = tellF π ρ k ∧ qFr (SP p) M M')) 0 [some (.ref a), some (.ref p), some (.int (nI k)), none] [] 333 M (0, 0)
  refine qi_aload_n (i := 1) (x := p) dX6_toldBy_0 rfl rfl ?_
  refine qi_getR (x := p + 7) flX6_78 dX6_toldBy_1 (hp.1 0 (by decide)) (by have := hp.2.2; omega) (hM p 6 (p + 7) (qref_3_6 (hp.1 0 (by decide)))) ?_
  refine qi_iload_n (i := 2) (x := nI k) dX6_toldBy_4 rfl rfl ?_
  refine qi_ialdN (x := M.1 (p + 7) k) (j := k) dX6_toldBy_5 (hp.1 7 (by decide)) (by have := hp.2.2; omega) rfl (by omega) (by decide) rfl ?_
  refine qe_top (y := nI h) e6 ?_
  refine qi_istore_n (i := 3) (L2 := [some (.ref a), some (.ref p), some (.int (nI k)), some (.int (nI h))]) dX6_toldBy_6 rfl (Nat.le_of_ble_eq_true rfl) rfl ?_
  refine qi_aload_n (i := 1) (x := p) dX6_toldBy_7 rfl rfl ?_
  refine qi_getR (x := p + 10) flX6_92 dX6_toldBy_8 (hp.1 0 (by decide)) (by have := hp.2.2; omega) (hM p 9 (p + 10) (qref_3_9 (hp.1 0 (by decide)))) ?_
  refine qi_aload_n (i := 0) (x := a) dX6_toldBy_11 rfl rfl ?_
  refine qi_getI (x := M.1 a 7) flX6_34 dX6_toldBy_12 hs.1 (by have := hs.2.2.2.2.2.2; omega) rfl ?_
  refine qi_aload_n (i := 0) (x := a) dX6_toldBy_15 rfl rfl ?_
  refine qi_getI (x := M.1 a 5) flX6_27 dX6_toldBy_16 hs.1 (by have := hs.2.2.2.2.2.2; omega) rfl ?_
  refine qi_aload_n (i := 0) (x := a) dX6_toldBy_19 rfl rfl ?_
  refine qi_getI (x := M.1 a 6) flX6_31 dX6_toldBy_20 hs.1 (by have := hs.2.2.2.2.2.2; omega) rfl ?_
  refine qi_aload_n (i := 0) (x := a) dX6_toldBy_23 rfl rfl ?_
  refine qi_getR (x := a + 4) flX6_21 dX6_toldBy_24 hs.1 (by have := hs.2.2.2.2.2.2; omega) (hM a 3 (a + 4) (qref_6_3 hs.1)) ?_
  refine qi_iload_n (i := 3) (x := nI h) dX6_toldBy_27 rfl rfl ?_
  refine qi_ialdN (x := M.1 (a + 4) h) (j := h) dX6_toldBy_28 hs.2.2.2.2.1 (by have := hs.2.2.2.2.2.2; omega) rfl (by omega) (by decide) rfl ?_
  refine qi_aload_n (i := 0) (x := a) dX6_toldBy_29 rfl rfl ?_
  refine qi_getR (x := a + 5) flX6_24 dX6_toldBy_30 hs.1 (by have := hs.2.2.2.2.2.2; omega) (hM a 4 (a + 5) (qref_6_4 hs.1)) ?_
  refine qi_iload_n (i := 3) (x := nI h) dX6_toldBy_33 rfl rfl ?_
  refine qi_ialdN (x := M.1 (a + 5) h) (j := h) dX6_toldBy_34 hs.2.2.2.2.2.1 (by have := hs.2.2.2.2.2.2; omega) rfl (by omega) (by decide) rfl ?_
  refine qi_callVV (K' := kX1_look) (As := [.int (M.1 a 7), .int (M.1 a 5), .int (M.1 a 6), .int (M.1 (a + 4) h), .int (M.1 (a + 5) h)]) mlX6_96 okX1_look dX6_toldBy_35 (c_X1_look g hp.l hM _ _ _ _ _) (hp.1 10 (by decide)) (by decide) rfl (by have := hp.2.2; omega) rfl rfl (Nat.le_of_ble_eq_true rfl) ⟨(Nat.le_of_ble_eq_true rfl), (Nat.le_of_ble_eq_true rfl)⟩ ⟨Nat.le_refl _, Nat.le_refl _⟩ (fun M2 ⟨hl, hf2⟩ => ?_)
  have hM2 := hM.fr hf2
  have g2 : ∀ b j, b ≠ p + 13 → M2.1 b j = M.1 b j := fun b j hb => hf2.1 b j (by omega)
  refine qi_aload_n (i := 1) (x := p) dX6_toldBy_38 rfl rfl ?_
  refine qi_getR (x := p + 10) flX6_92 dX6_toldBy_39 (hp.1 0 (by decide)) (by have := hp.2.2; omega) (hM2 p 9 (p + 10) (qref_3_9 (hp.1 0 (by decide)))) ?_
  refine qi_aload_n (i := 1) (x := p) dX6_toldBy_42 rfl rfl ?_
  refine qi_getI (x := M2.1 p 16) flX6_102 dX6_toldBy_43 (hp.1 0 (by decide)) (by have := hp.2.2; omega) rfl ?_
  refine qi_bipush (v := 20) dX6_toldBy_46 rfl ?_
  refine qi_aload_n (i := 0) (x := a) dX6_toldBy_48 rfl rfl ?_
  refine qi_getI (x := M2.1 a 7) flX6_34 dX6_toldBy_49 hs.1 (by have := hs.2.2.2.2.2.2; omega) rfl ?_
  refine qi_imul dX6_toldBy_52 ?_
  refine qi_iload_n (i := 2) (x := nI k) dX6_toldBy_53 rfl rfl ?_
  refine qi_iadd dX6_toldBy_54 ?_
  refine qi_callVV (K' := kX1_drawFrom) (As := [.int (M2.1 p 16), .int ((20 * (M2.1 a 7)) + (nI k))]) mlX6_105 okX1_drawFrom dX6_toldBy_55 (c_X1_drawFrom g hp.l _ _) (hp.1 10 (by decide)) (by decide) rfl (by have := hp.2.2; omega) rfl rfl (Nat.le_of_ble_eq_true rfl) ⟨(Nat.le_of_ble_eq_true rfl), (Nat.le_of_ble_eq_true rfl)⟩ ⟨Nat.le_refl _, Nat.le_refl _⟩ (fun M3 ⟨hd1, hd2, hf3⟩ => ?_)
  have hM3 := hM2.fr hf3
  have g3 : ∀ b j, (b = p + 10 → j = 6) → b ≠ p + 13 → M3.1 b j = M.1 b j := fun b j hb hb2 => (hf3.1 b j (by omega)).trans (g2 b j hb2)
  have hf13 : qFr (SP p) M M3 := (hf2.mono (fun b j z => by unfold SP; omega)).tr (hf3.mono (fun b j z => by unfold SP; omega))
  have hv : qVars M3 (p + 10) (varsF (ρ 64) (allF ρ) (ρ 65) (ρ (48 + h)) (ρ (56 + h)) (lotF (nI (π.1 5)) (20 * ρ 64 + nI k))) := by
    have q : ∀ j, M3.1 (p + 10 + 3) j = M2.1 (p + 10 + 3) j := fun j => hf3.1 _ _ (by omega)
    refine varsF_is ⟨by rw [q, hl.1]; exact h7, by rw [q, hl.2.1]; exact h5, by rw [q, hl.2.2.1]; exact h6, by rw [q, hl.2.2.2.1]; exact h3 h (by omega), by rw [q, hl.2.2.2.2]; exact h4 h (by omega)⟩ ?_
    rw [hd1, hd2, g2 p 16 (by omega), hP.1.2.2.2.2, g2 a 7 (by omega), h7]
  have hlaw3 : qLaw M3 (p + 10) pl (π.2.2 k) := hlaw.fr hf13 (by unfold SP; omega) (fun j => by unfold SP; omega)
  have hz3 : M3.1 (p + 10) 6 = nI sz := (g3 _ _ (fun _ => rfl) (by omega)).trans hz
  refine qi_iconst (v := 0) dX6_toldBy_58 rfl ?_
  refine qi_bipush (v := 99) dX6_toldBy_59 rfl ?_
  refine qi_aload_n (i := 1) (x := p) dX6_toldBy_61 rfl rfl ?_
  refine qi_getR (x := p + 10) flX6_92 dX6_toldBy_62 (hp.1 0 (by decide)) (by have := hp.2.2; omega) (hM3 p 9 (p + 10) (qref_3_9 (hp.1 0 (by decide)))) ?_
  refine qi_aload_n (i := 1) (x := p) dX6_toldBy_65 rfl rfl ?_
  refine qi_getR (x := p + 9) flX6_119 dX6_toldBy_66 (hp.1 0 (by decide)) (by have := hp.2.2; omega) (hM3 p 8 (p + 9) (qref_3_8 (hp.1 0 (by decide)))) ?_
  refine qi_iload_n (i := 2) (x := nI k) dX6_toldBy_69 rfl rfl ?_
  refine qi_ialdN (x := M3.1 (p + 9) k) (j := k) dX6_toldBy_70 (hp.1 9 (by decide)) (by have := hp.2.2; omega) rfl (by omega) (by decide) rfl ?_
  refine qe_top (y := nI pl) (by rw [g3 _ _ (by omega) (by omega)]; exact e9) ?_
  refine qi_callVI (K' := kX1_value) (As := [.int (nI pl)]) mlX6_109 okX1_value dX6_toldBy_71 (c_X1_value g hp.l hM3 hz3 hsz hv hpl (hlaw3.2 sz hz3 hsz _)) (hp.1 10 (by decide)) (by decide) rfl (by have := hp.2.2; omega) rfl rfl (Nat.le_of_ble_eq_true rfl) ⟨(Nat.le_of_ble_eq_true rfl), (Nat.le_of_ble_eq_true rfl)⟩ ⟨Nat.le_refl _, Nat.le_refl _⟩ (fun x M4 ⟨ex, hf4⟩ => ?_)
  rw [ex]
  refine qi_min mtX6_112 mt_min_s mt_i mt_min_c dX6_toldBy_74 (Nat.le_of_ble_eq_true rfl) ⟨(Nat.le_of_ble_eq_true rfl), (Nat.le_of_ble_eq_true rfl)⟩ ⟨Nat.le_refl _, Nat.le_refl _⟩ ?_
  refine qi_max mtX6_57 mt_max_s mt_i mt_max_c dX6_toldBy_77 (Nat.le_of_ble_eq_true rfl) ⟨(Nat.le_of_ble_eq_true rfl), (Nat.le_of_ble_eq_true rfl)⟩ ⟨Nat.le_refl _, Nat.le_refl _⟩ ?_
  exact qi_retI rfl rfl dX6_toldBy_80 (⟨by rw [hte]; rfl, hf13.tr (hf4.mono (fun b j z => by unfold SL at z; unfold SP; omega))⟩)
/-- what a week writes -/
def SW (a p : Nat) : Nat → Nat → Prop := fun b j => SS a b j ∨ SP p b j
theorem qPlan.frW {M M' : qM} {a p : Nat} {π : qPl} (h : qPlan M p π) (hf : qFr (SW a p) M M') (hd : a + 5 < 242) (hp : 242 ≤ p) : qPlan M' p π :=
  h.fr hf (fun i j hi z => by unfold SW SS SP at z; omega)
theorem qSea.frP {M M' : qM} {a p : Nat} {ρ : Nat → Int32} (h : qSea M a ρ) (hf : qFr (SP p) M M') (hd : a + 5 < 242) (hp : 242 ≤ p) : qSea M' a ρ :=
  h.fr hf (fun j k hj z => by unfold SP at z; omega)
theorem allF_tick (ρ : Nat → Int32) : allF (tickF ρ) = allF ρ := sumF_congr 40 (fun k hk => by unfold tickF; rw [if_neg (by omega)])
theorem dry_no {π : qPl} {ρ : Nat → Int32} (h : okSea π ρ) (hok : okPl π) (h0 : ∀ v, π.2.2 16 v = 0) : (dryTellF π ρ).toNatClampNeg = 0 := by
  obtain ⟨A, e, hA, -⟩ := h.all hok
  unfold dryTellF
  rw [h0, e]
  have hb := hok.2.2.2.2.1
  have : maxI 0 (minI (nI A) 0) = 0 := by
    unfold minI maxI
    by_cases hz : (0 : Int32) < nI A
    · rw [if_pos hz, if_neg (by decide)]
    · rw [if_neg hz, if_neg hz]
  rw [this]
  rfl
set_option maxHeartbeats 1500000 in
theorem c_X6_passWeek (g : qG) {a p : Nat} {ρ : Nat → Int32} {π : qPl} {M : qM} (hs : qIsS a) (hp : qIsP p) (hd : a + 5 < 242) (hM : qRf M) (hS : qSea M a ρ) (hP : qPlan M p π) (hok : okPl π) (hO : okSea π ρ) (away : Int32) : qV g 4 kX6_passWeek [.ref a, .ref p, .int away] M (fun M' => qSea M' a (weekF π away ρ) ∧ qFr (SW a p) M M') := by
  have hla := hp.2.1
  have hlb := hp.2.2
  have hs16 := hok.2.2.1
  -- the end
  have KE : ∀ M1 x3 ρ2, qFr (SW a p) M M1 → qSea M1 a ρ2 → tickF ρ2 = weekF π away ρ → qT g kX6_passWeek (qR 4 0 0) (qZV g (fun M' => qSea M' a (weekF π away ρ) ∧ qFr (SW a p) M M')) 126 [some (.ref a), some (.ref p), some (.int away), x3] [] 333 M1 (0, 0) := by
    intro M1 x3 ρ2 hf hS1 e
    have hM1 := hM.fr hf
    refine qi_aload_n (i := 0) (x := a) dX6_passWeek_126 rfl rfl ?_
    refine qi_dup dX6_passWeek_127 ?_
    refine qi_getI (x := M1.1 a 7) flX6_34 dX6_passWeek_128 hs.1 (by have := hs.2.2.2.2.2.2; omega) rfl ?_
    refine qi_iconst (v := 1) dX6_passWeek_131 rfl ?_
    refine qi_iadd dX6_passWeek_132 ?_
    refine qi_putI flX6_34 q_cls6 (ty6_7 _) dX6_passWeek_133 hs.1 (by have := hs.2.2.2.2.2.2; omega) ?_
    refine qi_retV rfl dX6_passWeek_136 (?_)
    rw [← e]
    obtain ⟨h1, h2, h3, h4, h5, h6, h7⟩ := hS1
    have out : ∀ j, j ≠ 64 → tickF ρ2 j = ρ2 j := fun j hj => by unfold tickF; rw [if_neg hj]
    refine ⟨⟨fun k hk => ?_, fun k hk => ?_, fun k hk => ?_, fun k hk => ?_, ?_, ?_, ?_⟩, hf.wI (Or.inl (by unfold SS; omega))⟩
    · rw [wI_a (by omega), out _ (by omega)]; exact h1 k hk
    · rw [wI_a (by omega), out _ (by omega)]; exact h2 k hk
    · rw [wI_a (by omega), out _ (by omega)]; exact h3 k hk
    · rw [wI_a (by omega), out _ (by omega)]; exact h4 k hk
    · rw [wI_k (by omega), allF_tick]; exact h5
    · rw [wI_k (by omega), out _ (by omega)]; exact h6
    · rw [wI_s, h7]
      unfold tickF
      rw [if_pos rfl]
  have K38 : ∀ M1, qFr (SW a p) M M1 → qSea M1 a (sendsF π away ρ (π.1 2)) → qT g kX6_passWeek (qR 4 0 0) (qZV g (fun M' => qSea M' a (weekF π away ρ) ∧ qFr (SW a p) M M')) 38 [some (.ref a), some (.ref p), some (.int away), some (.int (nI (π.1 2)))] [] 333 M1 (0, 0) := by
    intro M1 hf hS1
    have hM1 := hM.fr hf
    have hP1 := hP.frW hf hd hla
    have hO1 : okSea π (sendsF π away ρ (π.1 2)) := hO.sends hok _ (Nat.le_refl _)
    obtain ⟨σ, hσ⟩ : ∃ σ, σ = sendsF π away ρ (π.1 2) := ⟨_, rfl⟩
    have hwk : tickF (dryF σ (dryTellF π σ).toNatClampNeg) = weekF π away ρ := by rw [hσ]; rfl
    rw [← hσ] at hS1 hO1
    obtain ⟨h1, h2, h3, h4, h5, h6, h7⟩ := id hS1
    obtain ⟨sz, hsz, hz⟩ := hP1.2.2.1
    refine qi_aload_n (i := 1) (x := p) dX6_passWeek_38 rfl rfl ?_
    refine qi_getI (x := M1.1 p 14) flX6_89 dX6_passWeek_39 (hp.1 0 (by decide)) (by have := hp.2.2; omega) rfl ?_
    rcases hP1.2.2.2.2 with ⟨e14, e0⟩ | ⟨pl, e14, hlaw⟩
    · skip
      refine qi_iconst (v := -1) dX6_passWeek_42 rfl ?_
      refine qi_icmp_eq (tgt := 126) dX6_passWeek_43 (by decide) (fun h => ?_) (fun h => False.elim (h (e14)))
      refine KE M1 _ σ hf hS1 ?_
      rw [← hwk, dry_no hO1 hok e0]
      unfold dryF
      rw [dryR_0]
    · skip
      have hpl := hlaw.1
      refine qe_top (y := nI pl) e14 ?_
      refine qi_iconst (v := -1) dX6_passWeek_42 rfl ?_
      refine qi_icmp_eq (tgt := 126) dX6_passWeek_43 (by decide) (fun h => False.elim (nI_m1 (by omega) h)) (fun h => ?_)
      refine qi_aload_n (i := 1) (x := p) dX6_passWeek_46 rfl rfl ?_
      refine qi_getR (x := p + 10) flX6_92 dX6_passWeek_47 (hp.1 0 (by decide)) (by have := hp.2.2; omega) (hM1 p 9 (p + 10) (qref_3_9 (hp.1 0 (by decide)))) ?_
      refine qi_aload_n (i := 0) (x := a) dX6_passWeek_50 rfl rfl ?_
      refine qi_getI (x := M1.1 a 7) flX6_34 dX6_passWeek_51 hs.1 (by have := hs.2.2.2.2.2.2; omega) rfl ?_
      refine qi_aload_n (i := 0) (x := a) dX6_passWeek_54 rfl rfl ?_
      refine qi_getI (x := M1.1 a 5) flX6_27 dX6_passWeek_55 hs.1 (by have := hs.2.2.2.2.2.2; omega) rfl ?_
      refine qi_aload_n (i := 0) (x := a) dX6_passWeek_58 rfl rfl ?_
      refine qi_getI (x := M1.1 a 6) flX6_31 dX6_passWeek_59 hs.1 (by have := hs.2.2.2.2.2.2; omega) rfl ?_
      refine qi_aload_n (i := 0) (x := a) dX6_passWeek_62 rfl rfl ?_
      refine qi_getR (x := a + 4) flX6_21 dX6_passWeek_63 hs.1 (by have := hs.2.2.2.2.2.2; omega) (hM1 a 3 (a + 4) (qref_6_3 hs.1)) ?_
      refine qi_callPSNI (v := sumF (M1.1 (a + 4)) 8) (K' := kX11_total) (As := [.ref (a + 4)]) mlX6_53 okX11_total dX6_passWeek_66 (c_X11_total g hs.2.2.2.2.1 (by decide) (by omega)) rfl rfl (Nat.le_of_ble_eq_true rfl) ⟨(Nat.le_of_ble_eq_true rfl), (Nat.le_of_ble_eq_true rfl)⟩ ⟨Nat.le_refl _, Nat.le_refl _⟩ ?_
      refine qi_aload_n (i := 0) (x := a) dX6_passWeek_69 rfl rfl ?_
      refine qi_getR (x := a + 5) flX6_24 dX6_passWeek_70 hs.1 (by have := hs.2.2.2.2.2.2; omega) (hM1 a 4 (a + 5) (qref_6_4 hs.1)) ?_
      refine qi_callPSNI (v := sumF (M1.1 (a + 5)) 8) (K' := kX11_total) (As := [.ref (a + 5)]) mlX6_53 okX11_total dX6_passWeek_73 (c_X11_total g hs.2.2.2.2.2.1 (by decide) (by omega)) rfl rfl (Nat.le_of_ble_eq_true rfl) ⟨(Nat.le_of_ble_eq_true rfl), (Nat.le_of_ble_eq_true rfl)⟩ ⟨Nat.le_refl _, Nat.le_refl _⟩ ?_
      refine qi_callVV (K' := kX1_look) (As := [.int (M1.1 a 7), .int (M1.1 a 5), .int (M1.1 a 6), .int (sumF (M1.1 (a + 4)) 8), .int (sumF (M1.1 (a + 5)) 8)]) mlX6_96 okX1_look dX6_passWeek_76 (c_X1_look g hp.l hM1 _ _ _ _ _) (hp.1 10 (by decide)) (by decide) rfl (by have := hp.2.2; omega) rfl rfl (Nat.le_of_ble_eq_true rfl) ⟨(Nat.le_of_ble_eq_true rfl), (Nat.le_of_ble_eq_true rfl)⟩ ⟨Nat.le_refl _, Nat.le_refl _⟩ (fun M2 ⟨hl, hf2⟩ => ?_)
      have hM2 := hM1.fr hf2
      have g2 : ∀ b j, b ≠ p + 13 → M2.1 b j = M1.1 b j := fun b j hb => hf2.1 b j (by omega)
      refine qi_aload_n (i := 1) (x := p) dX6_passWeek_79 rfl rfl ?_
      refine qi_getR (x := p + 10) flX6_92 dX6_passWeek_80 (hp.1 0 (by decide)) (by have := hp.2.2; omega) (hM2 p 9 (p + 10) (qref_3_9 (hp.1 0 (by decide)))) ?_
      refine qi_aload_n (i := 1) (x := p) dX6_passWeek_83 rfl rfl ?_
      refine qi_getI (x := M2.1 p 16) flX6_102 dX6_passWeek_84 (hp.1 0 (by decide)) (by have := hp.2.2; omega) rfl ?_
      refine qi_bipush (v := 20) dX6_passWeek_87 rfl ?_
      refine qi_aload_n (i := 0) (x := a) dX6_passWeek_89 rfl rfl ?_
      refine qi_getI (x := M2.1 a 7) flX6_34 dX6_passWeek_90 hs.1 (by have := hs.2.2.2.2.2.2; omega) rfl ?_
      refine qi_imul dX6_passWeek_93 ?_
      refine qi_bipush (v := 19) dX6_passWeek_94 rfl ?_
      refine qi_iadd dX6_passWeek_96 ?_
      refine qi_callVV (K' := kX1_drawFrom) (As := [.int (M2.1 p 16), .int ((20 * (M2.1 a 7)) + 19)]) mlX6_105 okX1_drawFrom dX6_passWeek_97 (c_X1_drawFrom g hp.l _ _) (hp.1 10 (by decide)) (by decide) rfl (by have := hp.2.2; omega) rfl rfl (Nat.le_of_ble_eq_true rfl) ⟨(Nat.le_of_ble_eq_true rfl), (Nat.le_of_ble_eq_true rfl)⟩ ⟨Nat.le_refl _, Nat.le_refl _⟩ (fun M3 ⟨hd1, hd2, hf3⟩ => ?_)
      have hM3 := hM2.fr hf3
      have g3 : ∀ b j, (b = p + 10 → j = 6) → b ≠ p + 13 → M3.1 b j = M1.1 b j := fun b j hb hb2 => (hf3.1 b j (by omega)).trans (g2 b j hb2)
      have hf13 : qFr (SP p) M1 M3 := (hf2.mono (fun b j z => by unfold SP; omega)).tr (hf3.mono (fun b j z => by unfold SP; omega))
      have hv : qVars M3 (p + 10) (varsF (σ 64) (allF σ) (σ 65) (sumO σ 48) (sumO σ 56) (lotF (nI (π.1 5)) (20 * σ 64 + 19))) := by
        have q : ∀ j, M3.1 (p + 10 + 3) j = M2.1 (p + 10 + 3) j := fun j => hf3.1 _ _ (by omega)
        refine varsF_is ⟨by rw [q, hl.1]; exact h7, by rw [q, hl.2.1]; exact h5, by rw [q, hl.2.2.1]; exact h6, by rw [q, hl.2.2.2.1]; exact sumF_congr 8 (fun k hk => h3 k hk), by rw [q, hl.2.2.2.2]; exact sumF_congr 8 (fun k hk => h4 k hk)⟩ ?_
        rw [hd1, hd2, g2 p 16 (by omega), hP1.1.2.2.2.2, g2 a 7 (by omega), h7]
      have hlaw3 : qLaw M3 (p + 10) pl (π.2.2 16) := hlaw.fr hf13 (by unfold SP; omega) (fun j => by unfold SP; omega)
      have hz3 : M3.1 (p + 10) 6 = nI sz := (g3 _ _ (fun _ => rfl) (by omega)).trans hz
      refine qi_aload_n (i := 0) (x := a) dX6_passWeek_100 rfl rfl ?_
      refine qi_iconst (v := 0) dX6_passWeek_101 rfl ?_
      refine qi_aload_n (i := 0) (x := a) dX6_passWeek_102 rfl rfl ?_
      refine qi_getI (x := M3.1 a 5) flX6_27 dX6_passWeek_103 hs.1 (by have := hs.2.2.2.2.2.2; omega) rfl ?_
      refine qe_top (y := allF σ) (by rw [g3 _ _ (by omega) (by omega)]; exact h5) ?_
      refine qi_aload_n (i := 1) (x := p) dX6_passWeek_106 rfl rfl ?_
      refine qi_getR (x := p + 10) flX6_92 dX6_passWeek_107 (hp.1 0 (by decide)) (by have := hp.2.2; omega) (hM3 p 9 (p + 10) (qref_3_9 (hp.1 0 (by decide)))) ?_
      refine qi_aload_n (i := 1) (x := p) dX6_passWeek_110 rfl rfl ?_
      refine qi_getI (x := M3.1 p 14) flX6_89 dX6_passWeek_111 (hp.1 0 (by decide)) (by have := hp.2.2; omega) rfl ?_
      refine qe_top (y := nI pl) (by rw [g3 _ _ (by omega) (by omega)]; exact e14) ?_
      refine qi_callVI (K' := kX1_value) (As := [.int (nI pl)]) mlX6_109 okX1_value dX6_passWeek_114 (c_X1_value g hp.l hM3 hz3 hsz hv hpl (hlaw3.2 sz hz3 hsz _)) (hp.1 10 (by decide)) (by decide) rfl (by have := hp.2.2; omega) rfl rfl (Nat.le_of_ble_eq_true rfl) ⟨(Nat.le_of_ble_eq_true rfl), (Nat.le_of_ble_eq_true rfl)⟩ ⟨Nat.le_refl _, Nat.le_refl _⟩ (fun x M4 ⟨ex, hf4⟩ => ?_)
      rw [ex]
      have hM4 := hM3.fr hf4
      have hf14 : qFr (SP p) M1 M4 := hf13.tr (hf4.mono (fun b j z => by unfold SL at z; unfold SP; omega))
      have hS4 := hS1.frP hf14 hd hla
      obtain ⟨j, ej, hj⟩ := dryTellF_in hO1 hok
      obtain ⟨hr1, hr2⟩ := hO1.r hok
      have hb5 := hok.2.2.2.2.1
      refine qi_min mtX6_112 mt_min_s mt_i mt_min_c dX6_passWeek_117 (Nat.le_of_ble_eq_true rfl) ⟨(Nat.le_of_ble_eq_true rfl), (Nat.le_of_ble_eq_true rfl)⟩ ⟨Nat.le_refl _, Nat.le_refl _⟩ ?_
      refine qi_max mtX6_57 mt_max_s mt_i mt_max_c dX6_passWeek_120 (Nat.le_of_ble_eq_true rfl) ⟨(Nat.le_of_ble_eq_true rfl), (Nat.le_of_ble_eq_true rfl)⟩ ⟨Nat.le_refl _, Nat.le_refl _⟩ ?_
      refine qe_top (y := nI j) ej ?_
      refine qi_callVV (K' := kX6_dryUp) (As := [.int (nI j)]) mlX6_115 okX6_dryUp dX6_passWeek_123 (c_X6_dryUp g hs hM4 hS4 hr1 (by omega) hj) hs.1 (by decide) rfl (by have := hs.2.2.2.2.2.2; omega) rfl rfl (Nat.le_of_ble_eq_true rfl) ⟨(Nat.le_of_ble_eq_true rfl), (Nat.le_of_ble_eq_true rfl)⟩ ⟨Nat.le_refl _, Nat.le_refl _⟩ (fun M5 ⟨hS5, hf5⟩ => ?_)
      refine KE M5 _ _ ((hf.tr (hf14.mono (fun b j z => Or.inr z))).tr (hf5.mono (fun b j z => Or.inl z))) hS5 ?_
      rw [← hwk, ej, nI_clamp (by omega)]
      rfl
  have K : ∀ m k M1, k + m = π.1 2 → qFr (SW a p) M M1 → qSea M1 a (sendsF π away ρ k) → qT g kX6_passWeek (qR 4 0 0) (qZV g (fun M' => qSea M' a (weekF π away ρ) ∧ qFr (SW a p) M M')) 2 [some (.ref a), some (.ref p), some (.int away), some (.int (nI k))] [] 333 M1 (0, 0) := by
    intro m
    induction m with
    | zero =>
      intro k M1 e hf hS1
      have hM1 := hM.fr hf
      have hP1 := hP.frW hf hd hla
      obtain rfl : k = π.1 2 := by omega
      refine qi_iload_n (i := 3) (x := nI (π.1 2)) dX6_passWeek_2 rfl rfl ?_
      refine qi_aload_n (i := 1) (x := p) dX6_passWeek_3 rfl rfl ?_
      refine qi_getI (x := M1.1 p 13) flX6_75 dX6_passWeek_4 (hp.1 0 (by decide)) (by have := hp.2.2; omega) rfl ?_
      refine qe_top (y := nI (π.1 2)) hP1.1.2.2.1 ?_
      refine qi_icmp_ge (tgt := 38) dX6_passWeek_7 (by decide) (fun _hc => ?_) (fun _h => absurd ((nI_leI (a := π.1 2) (b := π.1 2) (by omega) (by omega)).mpr (by omega)) _h)
      exact K38 M1 hf hS1
    | succ m ih =>
      intro k M1 e hf hS1
      have hM1 := hM.fr hf
      have hP1 := hP.frW hf hd hla
      have hO1 : okSea π (sendsF π away ρ k) := hO.sends hok _ (by omega)
      have e6 := hP1.2.1 6 k (by omega) (show k < π.1 2 by omega)
      have es : sendsF π away ρ (k + 1) = if nI (π.2.1 6 k) = away then sendsF π away ρ k else sendF π k (tellF π (sendsF π away ρ k) k) (sendsF π away ρ k) := rfl
      have ih1 := ih (k + 1)
      rw [es] at ih1
      refine qi_iload_n (i := 3) (x := nI k) dX6_passWeek_2 rfl rfl ?_
      refine qi_aload_n (i := 1) (x := p) dX6_passWeek_3 rfl rfl ?_
      refine qi_getI (x := M1.1 p 13) flX6_75 dX6_passWeek_4 (hp.1 0 (by decide)) (by have := hp.2.2; omega) rfl ?_
      refine qe_top (y := nI (π.1 2)) hP1.1.2.2.1 ?_
      refine qi_icmp_ge (tgt := 38) dX6_passWeek_7 (by decide) (fun _h => absurd ((nI_leI (a := π.1 2) (b := k) (by omega) (by omega)).mp _h) (by omega)) (fun _hc => ?_)
      refine qi_aload_n (i := 1) (x := p) dX6_passWeek_10 rfl rfl ?_
      refine qi_getR (x := p + 7) flX6_78 dX6_passWeek_11 (hp.1 0 (by decide)) (by have := hp.2.2; omega) (hM1 p 6 (p + 7) (qref_3_6 (hp.1 0 (by decide)))) ?_
      refine qi_iload_n (i := 3) (x := nI k) dX6_passWeek_14 rfl rfl ?_
      refine qi_ialdN (x := M1.1 (p + 7) k) (j := k) dX6_passWeek_15 (hp.1 7 (by decide)) (by have := hp.2.2; omega) rfl (by omega) (by decide) rfl ?_
      refine qe_top (y := nI (π.2.1 6 k)) e6 ?_
      refine qi_iload_n (i := 2) (x := away) dX6_passWeek_16 rfl rfl ?_
      refine qi_icmp_eq (tgt := 32) dX6_passWeek_17 (by decide) (fun c => ?_) (fun c => ?_)
      · refine qi_iinc (i := 3) (x := nI k) (v := nI (k + 1)) (L2 := [some (.ref a), some (.ref p), some (.int away), some (.int (nI (k + 1)))]) dX6_passWeek_32 rfl (nI_1 k) (Nat.le_of_ble_eq_true rfl) rfl ?_
        refine qi_goto (tgt := 2) dX6_passWeek_35 (by decide) ?_
        rw [if_pos c] at ih1
        exact ih1 M1 (by omega) hf hS1
      · refine qi_aload_n (i := 0) (x := a) dX6_passWeek_20 rfl rfl ?_
        refine qi_aload_n (i := 1) (x := p) dX6_passWeek_21 rfl rfl ?_
        refine qi_iload_n (i := 3) (x := nI k) dX6_passWeek_22 rfl rfl ?_
        refine qi_aload_n (i := 0) (x := a) dX6_passWeek_23 rfl rfl ?_
        refine qi_aload_n (i := 1) (x := p) dX6_passWeek_24 rfl rfl ?_
        refine qi_iload_n (i := 3) (x := nI k) dX6_passWeek_25 rfl rfl ?_
        rw [if_neg c] at ih1
        refine qi_callVI (K' := kX6_toldBy) (As := [.ref p, .int (nI k)]) mlX6_81 okX6_toldBy dX6_passWeek_26 (c_X6_toldBy g hs hp hd hM1 hS1 hP1 hok (by omega)) hs.1 (by decide) rfl (by have := hs.2.2.2.2.2.2; omega) rfl rfl (Nat.le_of_ble_eq_true rfl) ⟨(Nat.le_of_ble_eq_true rfl), (Nat.le_of_ble_eq_true rfl)⟩ ⟨Nat.le_refl _, Nat.le_refl _⟩ (fun x M2 ⟨ex, hf2⟩ => ?_)
        rw [ex]
        have hM2 := hM1.fr hf2
        have hS2 := hS1.frP hf2 hd hla
        have hfa := hf.tr (hf2.mono (S' := SW a p) (fun b j z => Or.inr z))
        have hP2 := hP.frW hfa hd hla
        refine qi_callVV (K' := kX6_letIn) (As := [.ref p, .int (nI k), .int (tellF π (sendsF π away ρ k) k)]) mlX6_85 okX6_letIn dX6_passWeek_29 (c_X6_letIn g hs hp hd hM2 hS2 hP2 hok (by omega) _) hs.1 (by decide) rfl (by have := hs.2.2.2.2.2.2; omega) rfl rfl (Nat.le_of_ble_eq_true rfl) ⟨(Nat.le_of_ble_eq_true rfl), (Nat.le_of_ble_eq_true rfl)⟩ ⟨Nat.le_refl _, Nat.le_refl _⟩ (fun M3 ⟨hS3, hf3⟩ => ?_)
        refine qi_iinc (i := 3) (x := nI k) (v := nI (k + 1)) (L2 := [some (.ref a), some (.ref p), some (.int away), some (.int (nI (k + 1)))]) dX6_passWeek_32 rfl (nI_1 k) (Nat.le_of_ble_eq_true rfl) rfl ?_
        refine qi_goto (tgt := 2) dX6_passWeek_35 (by decide) ?_
        exact ih1 M3 (by omega) (hfa.tr (hf3.mono (fun b j z => Or.inl z))) hS3
  refine qV.of (j := 1) (pn_RX6) rfl ?_
  show qT g kX6_passWeek (qR 4 0 0) (qZV g (fun M' => qSea M' a (weekF π away ρ) ∧ qFr (SW a p) M M')) 0 [some (.ref a), some (.ref p), some (.int away), none] [] 333 M (0, 0)
  refine qi_iconst (v := 0) dX6_passWeek_0 rfl ?_
  refine qi_istore_n (i := 3) (L2 := [some (.ref a), some (.ref p), some (.int away), some (.int 0)]) dX6_passWeek_1 rfl (Nat.le_of_ble_eq_true rfl) rfl ?_
  exact K (π.1 2) 0 M (by omega) qFr.rf hS
set_option maxHeartbeats 1500000 in
theorem c_X6_passWeeks (g : qG) {a p n : Nat} {ρ : Nat → Int32} {π : qPl} {M : qM} (hs : qIsS a) (hp : qIsP p) (hd : a + 5 < 242) (hM : qRf M) (hS : qSea M a ρ) (hP : qPlan M p π) (hok : okPl π) (hO : okSea π ρ) (away : Int32) (hn : n ≤ 200) : qV g 5 kX6_passWeeks [.ref a, .ref p, .int (nI n), .int away] M (fun M' => qSea M' a (weeksF π away ρ n) ∧ qFr (SW a p) M M') := by
  have hla := hp.2.1
  have K : ∀ m k M1, k + m = n → qFr (SW a p) M M1 → qSea M1 a (weeksF π away ρ k) → qT g kX6_passWeeks (qR 5 0 0) (qZV g (fun M' => qSea M' a (weeksF π away ρ n) ∧ qFr (SW a p) M M')) 3 [some (.ref a), some (.ref p), some (.int (nI n)), some (.int away), some (.int (nI k))] [] 333 M1 (0, 0) := by
    intro m
    induction m with
    | zero =>
      intro k M1 e hf hS1
      obtain rfl : k = n := by omega
      refine qi_iload (i := 4) (x := nI k) dX6_passWeeks_3 rfl ?_
      refine qi_iload_n (i := 2) (x := nI k) dX6_passWeeks_5 rfl rfl ?_
      refine qi_icmp_ge (tgt := 21) dX6_passWeeks_6 (by decide) (fun _hc => ?_) (fun _h => absurd ((nI_leI (a := k) (b := k) (by omega) (by omega)).mpr (by omega)) _h)
      exact qi_retV rfl dX6_passWeeks_21 (⟨hS1, hf⟩)
    | succ m ih =>
      intro k M1 e hf hS1
      have hM1 := hM.fr hf
      refine qi_iload (i := 4) (x := nI k) dX6_passWeeks_3 rfl ?_
      refine qi_iload_n (i := 2) (x := nI n) dX6_passWeeks_5 rfl rfl ?_
      refine qi_icmp_ge (tgt := 21) dX6_passWeeks_6 (by decide) (fun _h => absurd ((nI_leI (a := n) (b := k) (by omega) (by omega)).mp _h) (by omega)) (fun _hc => ?_)
      refine qi_aload_n (i := 0) (x := a) dX6_passWeeks_9 rfl rfl ?_
      refine qi_aload_n (i := 1) (x := p) dX6_passWeeks_10 rfl rfl ?_
      refine qi_iload_n (i := 3) (x := away) dX6_passWeeks_11 rfl rfl ?_
      refine qi_callVV (K' := kX6_passWeek) (As := [.ref p, .int away]) mlX6_71 okX6_passWeek dX6_passWeeks_12 (c_X6_passWeek g hs hp hd hM1 hS1 (hP.frW hf hd hla) hok (hO.weeks hok k) away) hs.1 (by decide) rfl (by have := hs.2.2.2.2.2.2; omega) rfl rfl (Nat.le_of_ble_eq_true rfl) ⟨(Nat.le_of_ble_eq_true rfl), (Nat.le_of_ble_eq_true rfl)⟩ ⟨Nat.le_refl _, Nat.le_refl _⟩ (fun M2 ⟨hS2, hf2⟩ => ?_)
      refine qi_iinc (i := 4) (x := nI k) (v := nI (k + 1)) (L2 := [some (.ref a), some (.ref p), some (.int (nI n)), some (.int away), some (.int (nI (k + 1)))]) dX6_passWeeks_15 rfl (nI_1 k) (Nat.le_of_ble_eq_true rfl) rfl ?_
      refine qi_goto (tgt := 3) dX6_passWeeks_18 (by decide) ?_
      exact ih (k + 1) M2 (by omega) (hf.tr hf2) hS2
  refine qV.of (j := 1) (pn_RX6) rfl ?_
  show qT g kX6_passWeeks (qR 5 0 0) (qZV g (fun M' => qSea M' a (weeksF π away ρ n) ∧ qFr (SW a p) M M')) 0 [some (.ref a), some (.ref p), some (.int (nI n)), some (.int away), none] [] 333 M (0, 0)
  refine qi_iconst (v := 0) dX6_passWeeks_0 rfl ?_
  refine qi_istore (i := 4) (L2 := [some (.ref a), some (.ref p), some (.int (nI n)), some (.int away), some (.int 0)]) dX6_passWeeks_1 (Nat.le_of_ble_eq_true rfl) rfl ?_
  exact K n 0 M (by omega) qFr.rf hS
def spoonS (ρ : Nat → Int32) (n : Nat) : Int32 := ((ρ 65).toInt64 * (nI n).toInt64 / (allF ρ).toInt64).toInt32
def spoonF (ρ : Nat → Int32) (n : Nat) : Nat → Int32 := fun j => if j = 65 then ρ 65 - spoonS ρ n else dryF ρ n j
theorem allF_spoon (ρ : Nat → Int32) (n : Nat) : allF (spoonF ρ n) = allF (dryF ρ n) := sumF_congr 40 (fun k hk => by unfold spoonF; rw [if_neg (by omega)])
set_option maxHeartbeats 1500000 in
theorem c_X6_takeOut (g : qG) {a n : Nat} {ρ : Nat → Int32} {π : qPl} {M : qM} (hs : qIsS a) (hM : qRf M) (hS : qSea M a ρ) (hok : okPl π) (hO : okSea π ρ) (hn0 : 0 < n) (hn : n ≤ sumN (rOf ρ) 40) : qI g 1 kX6_takeOut [.ref a, .int (nI n)] M (fun r M' => r = spoonS ρ n ∧ qSea M' a (spoonF ρ n) ∧ qFr (SS a) M M') := by
  have hla := hs.2.2.2.2.2.2
  obtain ⟨A, eA, hA1, hA2⟩ := hO.all hok
  have hb5 := hok.2.2.2.2.1
  obtain ⟨hr1, hr2⟩ := hO.r hok
  obtain ⟨h1, h2, h3, h4, h5, h6, h7⟩ := id hS
  have hA0 : ¬ allF ρ ≤ 0 := by rw [eA]; exact nI_nle (by omega) (by omega)
  refine qI.of (j := 1) (pn_RX6) rfl ?_
  show qT g kX6_takeOut (qR 1 0 0) (qZI g (fun r M' => r = spoonS ρ n ∧ qSea M' a (spoonF ρ n) ∧ qFr (SS a) M M')) 0 [some (.ref a), some (.int (nI n)), none] [] 333 M (0, 0)
  refine qi_aload_n (i := 0) (x := a) dX6_takeOut_0 rfl rfl ?_
  refine qi_getI (x := M.1 a 5) flX6_27 dX6_takeOut_1 hs.1 (by have := hs.2.2.2.2.2.2; omega) rfl ?_
  refine qe_top (y := allF ρ) h5 ?_
  refine qi_if_le (tgt := 25) dX6_takeOut_4 (by decide) (fun h => False.elim (hA0 h)) (fun h => ?_)
  refine qi_aload_n (i := 0) (x := a) dX6_takeOut_7 rfl rfl ?_
  refine qi_getI (x := M.1 a 6) flX6_31 dX6_takeOut_8 hs.1 (by have := hs.2.2.2.2.2.2; omega) rfl ?_
  refine qi_i2l dX6_takeOut_11 ?_
  refine qi_iload_n (i := 1) (x := nI n) dX6_takeOut_12 rfl rfl ?_
  refine qi_i2l dX6_takeOut_13 ?_
  refine qi_lmul dX6_takeOut_14 ?_
  refine qi_aload_n (i := 0) (x := a) dX6_takeOut_15 rfl rfl ?_
  refine qi_getI (x := M.1 a 5) flX6_27 dX6_takeOut_16 hs.1 (by have := hs.2.2.2.2.2.2; omega) rfl ?_
  refine qi_i2l dX6_takeOut_19 ?_
  refine qi_ldiv dX6_takeOut_20 (by rw [h5]; exact toInt64_ne hA0) ?_
  refine qi_l2i dX6_takeOut_21 ?_
  refine qi_goto (tgt := 26) dX6_takeOut_22 (by decide) ?_
  refine qe_top (y := spoonS ρ n) (by rw [h5, h6]; rfl) ?_
  refine qi_istore_n (i := 2) (L2 := [some (.ref a), some (.int (nI n)), some (.int (spoonS ρ n))]) dX6_takeOut_26 rfl (Nat.le_of_ble_eq_true rfl) rfl ?_
  refine qi_aload_n (i := 0) (x := a) dX6_takeOut_27 rfl rfl ?_
  refine qi_iload_n (i := 1) (x := nI n) dX6_takeOut_28 rfl rfl ?_
  refine qi_callVV (K' := kX6_dryUp) (As := [.int (nI n)]) mlX6_115 okX6_dryUp dX6_takeOut_29 (c_X6_dryUp g hs hM hS hr1 (by omega) hn) hs.1 (by decide) rfl (by have := hs.2.2.2.2.2.2; omega) rfl rfl (Nat.le_of_ble_eq_true rfl) ⟨(Nat.le_of_ble_eq_true rfl), (Nat.le_of_ble_eq_true rfl)⟩ ⟨Nat.le_refl _, Nat.le_refl _⟩ (fun M2 ⟨hS2, hf2⟩ => ?_)
  have hM2 := hM.fr hf2
  refine qi_aload_n (i := 0) (x := a) dX6_takeOut_32 rfl rfl ?_
  refine qi_dup dX6_takeOut_33 ?_
  refine qi_getI (x := M2.1 a 6) flX6_31 dX6_takeOut_34 hs.1 (by have := hs.2.2.2.2.2.2; omega) rfl ?_
  refine qi_iload_n (i := 2) (x := spoonS ρ n) dX6_takeOut_37 rfl rfl ?_
  refine qi_isub dX6_takeOut_38 ?_
  refine qi_putI flX6_31 q_cls6 (ty6_6 _) dX6_takeOut_39 hs.1 (by have := hs.2.2.2.2.2.2; omega) ?_
  refine qi_iload_n (i := 2) (x := spoonS ρ n) dX6_takeOut_42 rfl rfl ?_
  refine qi_retI rfl rfl dX6_takeOut_43 (?_)
  refine ⟨rfl, ?_, hf2.wI (by unfold SS; omega)⟩
  have out : ∀ j, j ≠ 65 → spoonF ρ n j = dryR ρ (rOf ρ) n j := fun j hj => by unfold spoonF; rw [if_neg hj]; rfl
  obtain ⟨g1, g2, g3, g4, g5, g6, g7⟩ := hS2
  refine ⟨fun k hk => ?_, fun k hk => ?_, fun k hk => ?_, fun k hk => ?_, ?_, ?_, ?_⟩
  · rw [wI_a (by omega), out _ (by omega)]; exact g1 k hk
  · rw [wI_a (by omega), out _ (by omega)]; exact g2 k hk
  · rw [wI_a (by omega), out _ (by omega)]; exact g3 k hk
  · rw [wI_a (by omega), out _ (by omega)]; exact g4 k hk
  · rw [wI_k (by omega), allF_spoon]; exact g5
  · rw [wI_s, g6]
    unfold spoonF dryR
    rw [if_pos rfl, if_neg (by omega)]
  · rw [wI_k (by omega), out _ (by omega)]; exact g7
