/-! ThimbleSea$Asking -/
def qOrd (M : qM) (π : qPl) (ord : Nat → Nat) (k : Nat) : Prop := (∀ i, i < k → M.1 222 i = nI (ord i) ∧ ord i < k) ∧ (∀ i j, i < j → j < k → keyN π (ord i) < keyN π (ord j)) ∧ ∀ o, o < k → ∃ i, i < k ∧ ord i = o
set_option maxHeartbeats 2000000 in
theorem c_X0_sortByPrice (g : qG) {M : qM} (hM : qRf M) {p : Nat} {π : qPl} (hp : qIsP p) (hP : qPlan M p π) (hok : okPl π) : qV g 0 kX0_sortByPrice [.ref 221, .ref p] M (fun M' => (∃ ord, qOrd M' π ord (π.1 1)) ∧ qFr (fun b _ => b = 222) M M') := by
  have hh8 := hok.2.1
  have hp2 := hp.2.1
  have K : ∀ m k M1 x3, k + m = π.1 1 → qFr (fun b _ => b = 222) M M1 → (∃ ord, qOrd M1 π ord k) → qT g kX0_sortByPrice (qR 0 0 0) (qZV g (fun M' => (∃ ord, qOrd M' π ord (π.1 1)) ∧ qFr (fun b _ => b = 222) M M')) 2 [some (.ref 221), some (.ref p), some (.int (nI k)), x3] [] 333 M1 (0, 0) := by
    intro m
    induction m with
    | zero =>
      intro k M1 x3 e hf ho
      obtain rfl : k = π.1 1 := by omega
      have hP1 := hP.fr hf (fun i j hi z => absurd z (by omega))
      refine qi_iload_n (i := 2) (x := nI (π.1 1)) dX0_sortByPrice_2 rfl rfl ?_
      refine qi_aload_n (i := 1) (x := p) dX0_sortByPrice_3 rfl rfl ?_
      refine qi_getI (x := nI (π.1 1)) flX0_29 dX0_sortByPrice_4 (hp.1 0 (by decide)) (by have := hp.2.2; omega) hP1.1.2.1 ?_
      refine qi_icmp_ge (tgt := 71) dX0_sortByPrice_7 (by decide) (fun _hc => ?_) (fun _h => absurd ((nI_leI (a := π.1 1) (b := π.1 1) (by omega) (by omega)).mpr (by omega)) _h)
      exact qi_retV rfl dX0_sortByPrice_71 (⟨ho, hf⟩)
    | succ m ih =>
      intro k M1 x3 e hf ho
      obtain ⟨ord, o1, o2, o3⟩ := ho
      have hk : k < π.1 1 := by omega
      have hP1 := hP.fr hf (fun i j hi z => absurd z (by omega))
      have hM1 := hM.fr hf
      have J : ∀ a M2, a ≤ k → qFr (fun b _ => b = 222) M M2 → (∀ i, i < a → M2.1 222 i = nI (ord i)) → (∀ i, a < i → i ≤ k → M2.1 222 i = nI (ord (i - 1))) → (∀ i, a ≤ i → i < k → π.2.1 3 k < π.2.1 3 (ord i)) → qT g kX0_sortByPrice (qR 0 0 0) (qZV g (fun M' => (∃ ord, qOrd M' π ord (π.1 1)) ∧ qFr (fun b _ => b = 222) M M')) 12 [some (.ref 221), some (.ref p), some (.int (nI k)), some (.int (nI a))] [] 333 M2 (0, 0) := by
        intro a
        have fin_ : ∀ a M2, a ≤ k → qFr (fun b _ => b = 222) M M2 → (∀ i, i < a → M2.1 222 i = nI (ord i)) → (∀ i, a < i → i ≤ k → M2.1 222 i = nI (ord (i - 1))) → (∀ i, a ≤ i → i < k → π.2.1 3 k < π.2.1 3 (ord i)) → (0 < a → π.2.1 3 (ord (a - 1)) ≤ π.2.1 3 k) → qT g kX0_sortByPrice (qR 0 0 0) (qZV g (fun M' => (∃ ord, qOrd M' π ord (π.1 1)) ∧ qFr (fun b _ => b = 222) M M')) 58 [some (.ref 221), some (.ref p), some (.int (nI k)), some (.int (nI a))] [] 333 M2 (0, 0) := by
          intro a M2 ha hf2 h1 h2 h3 h4
          have hM2 := hM.fr hf2
          have kk : ∀ o q, o < 8 → q < 8 → π.2.1 3 o < π.2.1 3 q → keyN π o < keyN π q := fun o q ho hq hlt => by unfold keyN; omega
          have kl : 0 < a → keyN π (ord (a - 1)) < keyN π k := fun h0 => by
            have := h4 h0
            have := (o1 (a - 1) (by omega)).2
            unfold keyN
            omega
          have ku : ∀ i, a ≤ i → i < k → keyN π k < keyN π (ord i) := fun i hi hik => kk _ _ (by omega) (by have := (o1 i hik).2; omega) (h3 i hi hik)
          refine qi_aload_n (i := 0) (x := 221) dX0_sortByPrice_58 rfl rfl ?_
          refine qi_getR (x := 222) flX0_9 dX0_sortByPrice_59 rfl (by decide) (hM2 221 0 222 rfl) ?_
          refine qi_iload_n (i := 3) (x := nI a) dX0_sortByPrice_62 rfl rfl ?_
          refine qi_iload_n (i := 2) (x := nI k) dX0_sortByPrice_63 rfl rfl ?_
          refine qi_iastN (j := a) dX0_sortByPrice_64 rfl (by decide) rfl (by omega) (by decide) ?_
          refine qi_iinc (i := 2) (x := nI k) (v := nI (k + 1)) (L2 := [some (.ref 221), some (.ref p), some (.int (nI (k + 1))), some (.int (nI a))]) dX0_sortByPrice_65 rfl (nI_1 k) (Nat.le_of_ble_eq_true rfl) rfl ?_
          refine qi_goto (tgt := 2) dX0_sortByPrice_68 (by decide) ?_
          refine ih (k + 1) _ _ (by omega) (hf2.wI rfl) ⟨fun i => if i < a then ord i else if i = a then k else ord (i - 1), fun i hi => ?_, fun i j hij hj => ?_, fun o ho => ?_⟩
          · show (wI M2 222 a (nI k)).1 222 i = nI (if i < a then ord i else if i = a then k else ord (i - 1)) ∧ (if i < a then ord i else if i = a then k else ord (i - 1)) < k + 1
            by_cases c1 : i < a
            · rw [if_pos c1, wI_k (by omega), h1 i c1]
              exact ⟨rfl, by have := (o1 i (by omega)).2; omega⟩
            · rw [if_neg c1]
              by_cases c2 : i = a
              · rw [if_pos c2, c2, wI_s]
                exact ⟨rfl, by omega⟩
              · rw [if_neg c2, wI_k c2, h2 i (by omega) (by omega)]
                exact ⟨rfl, by have := (o1 (i - 1) (by omega)).2; omega⟩
          · show keyN π (if i < a then ord i else if i = a then k else ord (i - 1)) < keyN π (if j < a then ord j else if j = a then k else ord (j - 1))
            by_cases j1 : j < a
            · rw [if_pos j1, if_pos (by omega)]
              exact o2 i j hij (by omega)
            · rw [if_neg j1]
              by_cases j2 : j = a
              · rw [if_pos j2, if_pos (by omega)]
                have := kl (by omega)
                by_cases c : i = a - 1
                · rw [c]; exact this
                · have := o2 i (a - 1) (by omega) (by omega)
                  omega
              · rw [if_neg j2]
                by_cases i1 : i < a
                · rw [if_pos i1]
                  exact o2 i (j - 1) (by omega) (by omega)
                · rw [if_neg i1]
                  by_cases i2 : i = a
                  · rw [if_pos i2]
                    exact ku (j - 1) (by omega) (by omega)
                  · rw [if_neg i2]
                    exact o2 (i - 1) (j - 1) (by omega) (by omega)
          · by_cases c : o = k
            · refine ⟨a, by omega, ?_⟩
              show (if a < a then ord a else if a = a then k else ord (a - 1)) = o
              rw [if_neg (by omega), if_pos rfl, c]
            · obtain ⟨i, hi, ei⟩ := o3 o (by omega)
              by_cases c1 : i < a
              · refine ⟨i, by omega, ?_⟩
                show (if i < a then ord i else if i = a then k else ord (i - 1)) = o
                rw [if_pos c1, ei]
              · refine ⟨i + 1, by omega, ?_⟩
                show (if i + 1 < a then ord (i + 1) else if i + 1 = a then k else ord (i + 1 - 1)) = o
                rw [if_neg (by omega), if_neg (by omega)]
                exact ei
        induction a with
        | zero =>
          intro M2 ha hf2 h1 h2 h3
          refine qi_iload_n (i := 3) (x := nI 0) dX0_sortByPrice_12 rfl rfl ?_
          refine qi_if_le (tgt := 58) dX0_sortByPrice_13 (by decide) (fun _hc => ?_) (fun _h => absurd ((nI_leI (a := 0) (b := 0) (by omega) (by omega)).mpr (by omega)) _h)
          exact fin_ 0 M2 ha hf2 h1 h2 h3 (fun z => absurd z (Nat.lt_irrefl _))
        | succ a iha =>
          intro M2 ha hf2 h1 h2 h3
          have hM2 := hM.fr hf2
          have hP2 := hP.fr hf2 (fun i j hi z => absurd z (by omega))
          have r1 := h1 a (by omega)
          have hoa := (o1 a (by omega)).2
          have pr1 : M2.1 (p + 4) (ord a) = nI (π.2.1 3 (ord a)) := hP2.2.1 3 (ord a) (by omega) (by show ord a < π.1 1; omega)
          have pr2 : M2.1 (p + 4) k = nI (π.2.1 3 k) := hP2.2.1 3 k (by omega) (by show k < π.1 1; omega)
          have b1 := (hok.2.2.2.2.2.2.2.1 (ord a) (by omega)).2.1
          have b2 := (hok.2.2.2.2.2.2.2.1 k hk).2.1
          refine qi_iload_n (i := 3) (x := nI (a + 1)) dX0_sortByPrice_12 rfl rfl ?_
          refine qi_if_le (tgt := 58) dX0_sortByPrice_13 (by decide) (fun _h => absurd ((nI_leI (a := a + 1) (b := 0) (by omega) (by omega)).mp _h) (by omega)) (fun _hc => ?_)
          refine qi_aload_n (i := 1) (x := p) dX0_sortByPrice_16 rfl rfl ?_
          refine qi_getR (x := p + 4) flX0_47 dX0_sortByPrice_17 (hp.1 0 (by decide)) (by have := hp.2.2; omega) (hM2 p 3 (p + 4) (qref_3_3 (hp.1 0 (by decide)))) ?_
          refine qi_aload_n (i := 0) (x := 221) dX0_sortByPrice_20 rfl rfl ?_
          refine qi_getR (x := 222) flX0_9 dX0_sortByPrice_21 rfl (by decide) (hM2 221 0 222 rfl) ?_
          refine qi_iload_n (i := 3) (x := nI (a + 1)) dX0_sortByPrice_24 rfl rfl ?_
          refine qi_iconst (v := 1) dX0_sortByPrice_25 rfl ?_
          refine qi_isub dX0_sortByPrice_26 ?_
          refine qe_top (y := nI a) (nI_pred a) ?_
          refine qi_ialdN (x := nI (ord a)) (j := a) dX0_sortByPrice_27 rfl (by decide) rfl (by omega) (by decide) r1 ?_
          refine qi_ialdN (x := nI (π.2.1 3 (ord a))) (j := ord a) dX0_sortByPrice_28 (hp.1 4 (by decide)) (by have := hp.2.2; omega) rfl (by omega) (by decide) pr1 ?_
          refine qi_aload_n (i := 1) (x := p) dX0_sortByPrice_29 rfl rfl ?_
          refine qi_getR (x := p + 4) flX0_47 dX0_sortByPrice_30 (hp.1 0 (by decide)) (by have := hp.2.2; omega) (hM2 p 3 (p + 4) (qref_3_3 (hp.1 0 (by decide)))) ?_
          refine qi_iload_n (i := 2) (x := nI k) dX0_sortByPrice_33 rfl rfl ?_
          refine qi_ialdN (x := nI (π.2.1 3 k)) (j := k) dX0_sortByPrice_34 (hp.1 4 (by decide)) (by have := hp.2.2; omega) rfl (by omega) (by decide) pr2 ?_
          refine qi_icmp_le (tgt := 58) dX0_sortByPrice_35 (by decide) (fun _h => ?_) (fun _h => ?_)
          · have c : (π.2.1 3 (ord a)) ≤ (π.2.1 3 k) := (nI_leI (a := π.2.1 3 (ord a)) (b := π.2.1 3 k) (by omega) (by omega)).mp _h
            exact fin_ (a + 1) M2 ha hf2 h1 h2 h3 (fun _ => c)
          · have c : ¬ ((π.2.1 3 (ord a)) ≤ (π.2.1 3 k)) := fun z => _h ((nI_leI (a := π.2.1 3 (ord a)) (b := π.2.1 3 k) (by omega) (by omega)).mpr z)
            refine qi_aload_n (i := 0) (x := 221) dX0_sortByPrice_38 rfl rfl ?_
            refine qi_getR (x := 222) flX0_9 dX0_sortByPrice_39 rfl (by decide) (hM2 221 0 222 rfl) ?_
            refine qi_iload_n (i := 3) (x := nI (a + 1)) dX0_sortByPrice_42 rfl rfl ?_
            refine qi_aload_n (i := 0) (x := 221) dX0_sortByPrice_43 rfl rfl ?_
            refine qi_getR (x := 222) flX0_9 dX0_sortByPrice_44 rfl (by decide) (hM2 221 0 222 rfl) ?_
            refine qi_iload_n (i := 3) (x := nI (a + 1)) dX0_sortByPrice_47 rfl rfl ?_
            refine qi_iconst (v := 1) dX0_sortByPrice_48 rfl ?_
            refine qi_isub dX0_sortByPrice_49 ?_
            refine qe_top (y := nI a) (nI_pred a) ?_
            refine qi_ialdN (x := nI (ord a)) (j := a) dX0_sortByPrice_50 rfl (by decide) rfl (by omega) (by decide) r1 ?_
            refine qi_iastN (j := a + 1) dX0_sortByPrice_51 rfl (by decide) rfl (by omega) (by decide) ?_
            refine qi_iinc (i := 3) (x := nI (a + 1)) (v := nI a) (L2 := [some (.ref 221), some (.ref p), some (.int (nI k)), some (.int (nI a))]) dX0_sortByPrice_52 rfl (pk_m1 a) (Nat.le_of_ble_eq_true rfl) rfl ?_
            refine qi_goto (tgt := 12) dX0_sortByPrice_55 (by decide) ?_
            refine iha _ (by omega) (hf2.wI rfl) (fun i hi => by rw [wI_k (by omega)]; exact h1 i (by omega)) (fun i hi hik => ?_) (fun i hi hik => ?_)
            · by_cases c2 : i = a + 1
              · rw [c2, wI_s]
                rfl
              · rw [wI_k c2]
                exact h2 i (by omega) hik
            · by_cases c2 : i = a
              · rw [c2]; omega
              · exact h3 i (by omega) hik
      refine qi_iload_n (i := 2) (x := nI k) dX0_sortByPrice_2 rfl rfl ?_
      refine qi_aload_n (i := 1) (x := p) dX0_sortByPrice_3 rfl rfl ?_
      refine qi_getI (x := nI (π.1 1)) flX0_29 dX0_sortByPrice_4 (hp.1 0 (by decide)) (by have := hp.2.2; omega) hP1.1.2.1 ?_
      refine qi_icmp_ge (tgt := 71) dX0_sortByPrice_7 (by decide) (fun _h => absurd ((nI_leI (a := π.1 1) (b := k) (by omega) (by omega)).mp _h) (by omega)) (fun _hc => ?_)
      refine qi_iload_n (i := 2) (x := nI k) dX0_sortByPrice_10 rfl rfl ?_
      refine qi_istore_n (i := 3) (L2 := [some (.ref 221), some (.ref p), some (.int (nI k)), some (.int (nI k))]) dX0_sortByPrice_11 rfl (Nat.le_of_ble_eq_true rfl) rfl ?_
      exact J k M1 (Nat.le_refl _) hf (fun i hi => (o1 i hi).1) (fun i h1 h2 => absurd h1 (by omega)) (fun i h1 h2 => absurd h1 (by omega))
  refine qV.of (j := 2) (pn_RX0) rfl ?_
  show qT g kX0_sortByPrice (qR 0 0 0) (qZV g (fun M' => (∃ ord, qOrd M' π ord (π.1 1)) ∧ qFr (fun b _ => b = 222) M M')) 0 [some (.ref 221), some (.ref p), none, none] [] 333 M (0, 0)
  refine qi_iconst (v := 0) dX0_sortByPrice_0 rfl ?_
  refine qi_istore_n (i := 2) (L2 := [some (.ref 221), some (.ref p), some (.int 0), none]) dX0_sortByPrice_1 rfl (Nat.le_of_ble_eq_true rfl) rfl ?_
  exact K (π.1 1) 0 M none (by omega) qFr.rf ⟨id, fun i hi => absurd hi (Nat.not_lt_zero _), fun i j _ hj => absurd hj (Nat.not_lt_zero _), fun o ho => absurd ho (Nat.not_lt_zero _)⟩
set_option maxHeartbeats 2000000 in
theorem c_X0_spread (g : qG) {M : qM} (hM : qRf M) {p : Nat} {π : qPl} (hp : qIsP p) (hP : qPlan M p π) (hok : okPl π) {ord : Nat → Nat} (hO : qOrd M π ord (π.1 1)) {s n : Nat} (hs : s < 256) (hn : n ≤ 999) : qI g 1 kX0_spread [.ref 221, .ref p, .int (nI n), .int (nI s)] M (fun r M' => r = o2m (clsV π n s) ∧ (∀ h, h < π.1 1 → M'.1 223 h = nI (gvN π n s h)) ∧ qFr (fun b _ => b = 223) M M') := by
  obtain ⟨res, hres⟩ : ∃ res, res = clsV π n s := ⟨_, rfl⟩
  rw [← hres]
  have hh8 := hok.2.1
  have hp2 := hp.2.1
  obtain ⟨o1, o2, o3⟩ := hO
  have hkap : ∃ κ : Nat → Nat, κ 0 = 0 ∧ ∀ i, κ (i + 1) = keyN π (ord i) + 1 := ⟨fun i => match i with
    | 0 => 0
    | i + 1 => keyN π (ord i) + 1, rfl, fun _ => rfl⟩
  obtain ⟨κ, κ0, κ1⟩ := hkap
  have kiff : ∀ i o, i < π.1 1 → o < π.1 1 → (keyN π o < κ i ↔ keyN π o < keyN π (ord i)) := fun i o hi ho => by
    obtain ⟨j, hj, ej⟩ := o3 o ho
    cases i with
    | zero =>
      rw [κ0]
      constructor
      · intro z; omega
      · intro z
        by_cases c : j = 0
        · rw [← ej, c] at z; omega
        · have := o2 0 j (by omega) hj
          rw [← ej] at z
          omega
    | succ i =>
      rw [κ1, ← ej]
      rcases Nat.lt_trichotomy j i with c | c | c
      · have := o2 j i c (by omega)
        have := o2 j (i + 1) (by omega) hi
        omega
      · subst c
        have := o2 j (j + 1) (by omega) hi
        omega
      · have a1 := o2 i j c hj
        by_cases c2 : j = i + 1
        · subst c2; omega
        · have := o2 (i + 1) j (by omega) hj
          omega
  have kend : ∀ o, o < π.1 1 → keyN π o < κ (π.1 1) ∧ keyN π o < 1000 := fun o ho => by
    obtain ⟨j, hj, ej⟩ := o3 o ho
    refine ⟨?_, ?_⟩
    · have e1 : κ (π.1 1) = keyN π (ord (π.1 1 - 1)) + 1 := by
        have := κ1 (π.1 1 - 1)
        rwa [show π.1 1 - 1 + 1 = π.1 1 by omega] at this
      rw [e1, ← ej]
      by_cases c : j = π.1 1 - 1
      · rw [c]; omega
      · have := o2 j (π.1 1 - 1) (by omega) (by omega)
        omega
    · have := (hok.2.2.2.2.2.2.2.1 o ho).2.1
      unfold keyN
      omega
  have K : ∀ m i M1 x7 x8, i + m = π.1 1 → qFr (fun b _ => b = 223) M M1 → (∀ o, o < π.1 1 → keyN π o < κ i → M1.1 223 o = nI (gvN π n s o)) → qT g kX0_spread (qR 1 0 0) (qZI g (fun r M' => r = o2m res ∧ (∀ h, h < π.1 1 → M'.1 223 h = nI (gvN π n s h)) ∧ qFr (fun b _ => b = 223) M M')) 9 [some (.ref 221), some (.ref p), some (.int (nI n)), some (.int (nI s)), some (.int (nI (costN π n s (κ i)))), some (.int (nI (n - befN π s (κ i)))), some (.int (nI i)), x7, x8] [] 333 M1 (0, 0) := by
    intro m
    induction m with
    | zero =>
      intro i M1 x7 x8 e hf h1
      obtain rfl : i = π.1 1 := by omega
      have hP1 := hP.fr hf (fun i j hi z => absurd z (by omega))
      have eb : befN π s 1000 = befN π s (κ (π.1 1)) := bef_same (fun o ho _ => ⟨fun _ => (kend o ho).1, fun _ => (kend o ho).2⟩)
      have ec : costN π n s 1000 = costN π n s (κ (π.1 1)) := cost_same (fun o ho _ => ⟨fun _ => (kend o ho).1, fun _ => (kend o ho).2⟩)
      unfold clsV at hres
      rw [eb, ec] at hres
      refine qi_iload (i := 6) (x := nI (π.1 1)) dX0_spread_9 rfl ?_
      refine qi_aload_n (i := 1) (x := p) dX0_spread_11 rfl rfl ?_
      refine qi_getI (x := nI (π.1 1)) flX0_29 dX0_spread_12 (hp.1 0 (by decide)) (by have := hp.2.2; omega) hP1.1.2.1 ?_
      refine qi_icmp_ge (tgt := 108) dX0_spread_15 (by decide) (fun _hc => ?_) (fun _h => absurd ((nI_leI (a := π.1 1) (b := π.1 1) (by omega) (by omega)).mpr (by omega)) _h)
      refine qi_iload (i := 5) (x := nI (n - befN π s (κ (π.1 1)))) dX0_spread_108 rfl ?_
      refine qi_if_ne (tgt := 118) dX0_spread_110 (by decide) (fun _h => ?_) (fun _h => ?_)
      · have c : ¬ ((n - befN π s (κ (π.1 1))) = 0) := fun z => _h ((nI_eq (a := n - befN π s (κ (π.1 1))) (b := 0) (by omega) (by omega)).mpr z)
        rw [if_neg (fun z => c (by omega))] at hres
        refine qi_iconst (v := -1) dX0_spread_118 rfl ?_
        exact qi_retI rfl rfl dX0_spread_119 (⟨by rw [hres]; rfl, fun h hh => h1 h hh (kend h hh).1, hf⟩)
      · have c : (n - befN π s (κ (π.1 1))) = 0 := (nI_eq (a := n - befN π s (κ (π.1 1))) (b := 0) (by omega) (by omega)).mp _h
        rw [if_pos (by omega)] at hres
        refine qi_iload (i := 4) (x := nI (costN π n s (κ (π.1 1)))) dX0_spread_113 rfl ?_
        refine qi_goto (tgt := 119) dX0_spread_115 (by decide) ?_
        exact qi_retI rfl rfl dX0_spread_119 (⟨by rw [hres]; rfl, fun h hh => h1 h hh (kend h hh).1, hf⟩)
    | succ m ih =>
      intro i M1 x7 x8 e hf h1
      have hi : i < π.1 1 := by omega
      have hM1 := hM.fr hf
      have hP1 := hP.fr hf (fun i j hi z => absurd z (by omega))
      obtain ⟨q1, q2⟩ := o1 i hi
      have r1 : M1.1 222 i = nI (ord i) := (hf.1 _ _ (by omega)).trans q1
      have A := ih (i + 1)
      have hkk := κ1 i
      have bi : befN π s (κ i) = befN π s (keyN π (ord i)) := bef_same (fun o ho _ => kiff i o hi ho)
      have ci : costN π n s (κ i) = costN π n s (keyN π (ord i)) := cost_same (fun o ho _ => kiff i o hi ho)
      have kiff2 := fun o ho => kiff i o hi ho
      rw [hkk] at A
      rw [bi, ci]
      generalize ord i = h at *
      have pr3 : M1.1 (p + 4) h = nI (π.2.1 3 h) := hP1.2.1 3 h (by omega) (by show h < π.1 1; omega)
      have pr4 : M1.1 (p + 5) h = nI (π.2.1 4 h) := hP1.2.1 4 h (by omega) (by show h < π.1 1; omega)
      have pr5 : M1.1 (p + 6) h = nI (π.2.1 5 h) := hP1.2.1 5 h (by omega) (by show h < π.1 1; omega)
      have hb := hok.2.2.2.2.2.2.2.1 h q2
      have gvl : gvN π n s h ≤ 999 ∧ gvN π n s h ≤ n - befN π s (keyN π h) := by unfold gvN; split <;> omega
      have bnext : n - befN π s (keyN π h + 1) = n - befN π s (keyN π h) - gvN π n s h := by
        unfold gvN
        by_cases c : s / 2 ^ h % 2 = 1
        · rw [if_pos c, bef_hit hh8 q2 c]
          omega
        · rw [if_neg c, bef_same (κ := keyN π h + 1) (κ' := keyN π h) (fun o ho hbo => by
            have : keyN π o ≠ keyN π h := fun z => by
              have e2 := key_inj (by omega) (by omega) z
              rw [e2] at hbo
              exact c hbo
            omega)]
          omega
      have J52 : qT g kX0_spread (qR 1 0 0) (qZI g (fun r M' => r = o2m res ∧ (∀ h, h < π.1 1 → M'.1 223 h = nI (gvN π n s h)) ∧ qFr (fun b _ => b = 223) M M')) 52 [some (.ref 221), some (.ref p), some (.int (nI n)), some (.int (nI s)), some (.int (nI (costN π n s (keyN π h)))), some (.int (nI (n - befN π s (keyN π h)))), some (.int (nI i)), some (.int (nI h)), x8] [.int (nI (gvN π n s h))] 333 M1 (0, 0) := by
        have hfw : qFr (fun b _ => b = 223) M (wI M1 223 h (nI (gvN π n s h))) := hf.wI rfl
        have hM2 := hM.fr hfw
        have hP2 := hP.fr hfw (fun i j hi z => absurd z (by omega))
        have s3 : (wI M1 223 h (nI (gvN π n s h))).1 (p + 4) h = nI (π.2.1 3 h) := hP2.2.1 3 h (by omega) (by show h < π.1 1; omega)
        have s4 : (wI M1 223 h (nI (gvN π n s h))).1 (p + 5) h = nI (π.2.1 4 h) := hP2.2.1 4 h (by omega) (by show h < π.1 1; omega)
        refine qi_istore (i := 8) (L2 := [some (.ref 221), some (.ref p), some (.int (nI n)), some (.int (nI s)), some (.int (nI (costN π n s (keyN π h)))), some (.int (nI (n - befN π s (keyN π h)))), some (.int (nI i)), some (.int (nI h)), some (.int (nI (gvN π n s h)))]) dX0_spread_52 (Nat.le_of_ble_eq_true rfl) rfl ?_
        refine qi_aload_n (i := 0) (x := 221) dX0_spread_54 rfl rfl ?_
        refine qi_getR (x := 223) flX0_15 dX0_spread_55 rfl (by decide) (hM1 221 1 223 rfl) ?_
        refine qi_iload (i := 7) (x := nI h) dX0_spread_58 rfl ?_
        refine qi_iload (i := 8) (x := nI (gvN π n s h)) dX0_spread_60 rfl ?_
        refine qi_iastN (j := h) dX0_spread_62 rfl (by decide) rfl (by omega) (by decide) ?_
        generalize eM2 : wI M1 223 h (nI (gvN π n s h)) = M2
        rw [eM2] at hfw hM2 hP2 s3 s4
        have B := A M2 (some (.int (nI h))) (some (.int (nI (gvN π n s h)))) (by omega) hfw (fun o ho hk => by
          rw [← eM2]
          by_cases c : o = h
          · rw [c, wI_s]
          · rw [wI_k c]
            have : keyN π o ≠ keyN π h := fun z => c (key_inj (by omega) (by omega) z)
            exact h1 o ho ((kiff2 o ho).mpr (by omega)))
        refine qi_iload (i := 5) (x := nI (n - befN π s (keyN π h))) dX0_spread_63 rfl ?_
        refine qi_iload (i := 8) (x := nI (gvN π n s h)) dX0_spread_65 rfl ?_
        refine qi_isub dX0_spread_67 ?_
        refine qe_top (y := nI (n - befN π s (keyN π h + 1))) (by rw [pk_sub gvl.2, bnext]) ?_
        refine qi_istore (i := 5) (L2 := [some (.ref 221), some (.ref p), some (.int (nI n)), some (.int (nI s)), some (.int (nI (costN π n s (keyN π h)))), some (.int (nI (n - befN π s (keyN π h + 1)))), some (.int (nI i)), some (.int (nI h)), some (.int (nI (gvN π n s h)))]) dX0_spread_68 (Nat.le_of_ble_eq_true rfl) rfl ?_
        refine qi_iload (i := 4) (x := nI (costN π n s (keyN π h))) dX0_spread_70 rfl ?_
        refine qi_iload (i := 8) (x := nI (gvN π n s h)) dX0_spread_72 rfl ?_
        refine qi_if_le (tgt := 98) dX0_spread_74 (by decide) (fun _h => ?_) (fun _h => ?_)
        · have c : (gvN π n s h) ≤ 0 := (nI_leI (a := gvN π n s h) (b := 0) (by omega) (by omega)).mp _h
          have cs : costN π n s (keyN π h + 1) = costN π n s (keyN π h) := cost_same (fun o ho hg => by
            have : keyN π o ≠ keyN π h := fun z => by
              have e2 := key_inj (by omega) (by omega) z
              rw [e2] at hg
              omega
            omega)
          rw [cs] at B
          refine qi_iconst (v := 0) dX0_spread_98 rfl ?_
          refine qi_iadd dX0_spread_99 ?_
          refine qe_top (y := nI (costN π n s (keyN π h))) (Int32.add_zero _) ?_
          refine qi_istore (i := 4) (L2 := [some (.ref 221), some (.ref p), some (.int (nI n)), some (.int (nI s)), some (.int (nI (costN π n s (keyN π h)))), some (.int (nI (n - befN π s (keyN π h + 1)))), some (.int (nI i)), some (.int (nI h)), some (.int (nI (gvN π n s h)))]) dX0_spread_100 (Nat.le_of_ble_eq_true rfl) rfl ?_
          refine qi_iinc (i := 6) (x := nI i) (v := nI (i + 1)) (L2 := [some (.ref 221), some (.ref p), some (.int (nI n)), some (.int (nI s)), some (.int (nI (costN π n s (keyN π h)))), some (.int (nI (n - befN π s (keyN π h + 1)))), some (.int (nI (i + 1))), some (.int (nI h)), some (.int (nI (gvN π n s h)))]) dX0_spread_102 rfl (nI_1 i) (Nat.le_of_ble_eq_true rfl) rfl ?_
          refine qi_goto (tgt := 9) dX0_spread_105 (by decide) ?_
          exact B
        · have c : ¬ ((gvN π n s h) ≤ 0) := fun z => _h ((nI_leI (a := gvN π n s h) (b := 0) (by omega) (by omega)).mpr z)
          have cs := cost_hit (n := n) hh8 q2 (show 0 < gvN π n s h by omega)
          rw [cs] at B
          refine qi_iload (i := 8) (x := nI (gvN π n s h)) dX0_spread_77 rfl ?_
          refine qi_aload_n (i := 1) (x := p) dX0_spread_79 rfl rfl ?_
          refine qi_getR (x := p + 4) flX0_47 dX0_spread_80 (hp.1 0 (by decide)) (by have := hp.2.2; omega) (hM2 p 3 (p + 4) (qref_3_3 (hp.1 0 (by decide)))) ?_
          refine qi_iload (i := 7) (x := nI h) dX0_spread_83 rfl ?_
          refine qi_ialdN (x := nI (π.2.1 3 h)) (j := h) dX0_spread_85 (hp.1 4 (by decide)) (by have := hp.2.2; omega) rfl (by omega) (by decide) s3 ?_
          refine qi_imul dX0_spread_86 ?_
          refine qi_aload_n (i := 1) (x := p) dX0_spread_87 rfl rfl ?_
          refine qi_getR (x := p + 5) flX0_50 dX0_spread_88 (hp.1 0 (by decide)) (by have := hp.2.2; omega) (hM2 p 4 (p + 5) (qref_3_4 (hp.1 0 (by decide)))) ?_
          refine qi_iload (i := 7) (x := nI h) dX0_spread_91 rfl ?_
          refine qi_ialdN (x := nI (π.2.1 4 h)) (j := h) dX0_spread_93 (hp.1 5 (by decide)) (by have := hp.2.2; omega) rfl (by omega) (by decide) s4 ?_
          refine qi_iadd dX0_spread_94 ?_
          refine qi_goto (tgt := 99) dX0_spread_95 (by decide) ?_
          refine qi_iadd dX0_spread_99 ?_
          refine qe_top (y := nI (costN π n s (keyN π h) + (gvN π n s h * π.2.1 3 h + π.2.1 4 h))) (by rw [pk_mul, nI_add, nI_add]) ?_
          refine qi_istore (i := 4) (L2 := [some (.ref 221), some (.ref p), some (.int (nI n)), some (.int (nI s)), some (.int (nI (costN π n s (keyN π h) + (gvN π n s h * π.2.1 3 h + π.2.1 4 h)))), some (.int (nI (n - befN π s (keyN π h + 1)))), some (.int (nI i)), some (.int (nI h)), some (.int (nI (gvN π n s h)))]) dX0_spread_100 (Nat.le_of_ble_eq_true rfl) rfl ?_
          refine qi_iinc (i := 6) (x := nI i) (v := nI (i + 1)) (L2 := [some (.ref 221), some (.ref p), some (.int (nI n)), some (.int (nI s)), some (.int (nI (costN π n s (keyN π h) + (gvN π n s h * π.2.1 3 h + π.2.1 4 h)))), some (.int (nI (n - befN π s (keyN π h + 1)))), some (.int (nI (i + 1))), some (.int (nI h)), some (.int (nI (gvN π n s h)))]) dX0_spread_102 rfl (nI_1 i) (Nat.le_of_ble_eq_true rfl) rfl ?_
          refine qi_goto (tgt := 9) dX0_spread_105 (by decide) ?_
          exact B
      refine qi_iload (i := 6) (x := nI i) dX0_spread_9 rfl ?_
      refine qi_aload_n (i := 1) (x := p) dX0_spread_11 rfl rfl ?_
      refine qi_getI (x := nI (π.1 1)) flX0_29 dX0_spread_12 (hp.1 0 (by decide)) (by have := hp.2.2; omega) hP1.1.2.1 ?_
      refine qi_icmp_ge (tgt := 108) dX0_spread_15 (by decide) (fun _h => absurd ((nI_leI (a := π.1 1) (b := i) (by omega) (by omega)).mp _h) (by omega)) (fun _hc => ?_)
      refine qi_aload_n (i := 0) (x := 221) dX0_spread_18 rfl rfl ?_
      refine qi_getR (x := 222) flX0_9 dX0_spread_19 rfl (by decide) (hM1 221 0 222 rfl) ?_
      refine qi_iload (i := 6) (x := nI i) dX0_spread_22 rfl ?_
      refine qi_ialdN (x := nI h) (j := i) dX0_spread_24 rfl (by decide) rfl (by omega) (by decide) r1 ?_
      refine qi_istore (i := 7) (L2 := [some (.ref 221), some (.ref p), some (.int (nI n)), some (.int (nI s)), some (.int (nI (costN π n s (keyN π h)))), some (.int (nI (n - befN π s (keyN π h)))), some (.int (nI i)), some (.int (nI h)), x8]) dX0_spread_25 (Nat.le_of_ble_eq_true rfl) rfl ?_
      refine qi_iload_n (i := 3) (x := nI s) dX0_spread_27 rfl rfl ?_
      refine qi_iload (i := 7) (x := nI h) dX0_spread_28 rfl ?_
      refine qi_ishr dX0_spread_30 ?_
      refine qi_iconst (v := 1) dX0_spread_31 rfl ?_
      refine qi_iand dX0_spread_32 ?_
      refine qe_top (y := nI (s / 2 ^ h % 2)) (bitF_nat (by omega) (by omega)) ?_
      refine qi_if_eq (tgt := 51) dX0_spread_33 (by decide) (fun _h => ?_) (fun _h => ?_)
      · have c : (s / 2 ^ h % 2) = 0 := (nI_eq (a := s / 2 ^ h % 2) (b := 0) (by omega) (by omega)).mp _h
        have g0 : gvN π n s h = 0 := by unfold gvN; rw [if_neg (by omega)]
        rw [g0] at J52
        refine qi_iconst (v := 0) dX0_spread_51 rfl ?_
        exact J52
      · have c : ¬ ((s / 2 ^ h % 2) = 0) := fun z => _h ((nI_eq (a := s / 2 ^ h % 2) (b := 0) (by omega) (by omega)).mpr z)
        have hg : gvN π n s h = min (π.2.1 5 h) (n - befN π s (keyN π h)) := by
          unfold gvN
          rw [if_pos (by omega)]
        refine qi_iload (i := 5) (x := nI (n - befN π s (keyN π h))) dX0_spread_36 rfl ?_
        refine qi_aload_n (i := 1) (x := p) dX0_spread_38 rfl rfl ?_
        refine qi_getR (x := p + 6) flX0_38 dX0_spread_39 (hp.1 0 (by decide)) (by have := hp.2.2; omega) (hM1 p 5 (p + 6) (qref_3_5 (hp.1 0 (by decide)))) ?_
        refine qi_iload (i := 7) (x := nI h) dX0_spread_42 rfl ?_
        refine qi_ialdN (x := nI (π.2.1 5 h)) (j := h) dX0_spread_44 (hp.1 6 (by decide)) (by have := hp.2.2; omega) rfl (by omega) (by decide) pr5 ?_
        refine qi_min mtX0_41 mt_min_s mt_i mt_min_c dX0_spread_45 (Nat.le_of_ble_eq_true rfl) ⟨(Nat.le_of_ble_eq_true rfl), (Nat.le_of_ble_eq_true rfl)⟩ ⟨Nat.le_refl _, Nat.le_refl _⟩ ?_
        refine qe_top (y := nI (gvN π n s h)) (by rw [hg]; by_cases z : π.2.1 5 h < n - befN π s (keyN π h) <;> first | (rw [if_pos ((nI_ltI (by omega) (by omega)).mpr z), Nat.min_eq_left (by omega)]) | (rw [if_neg (fun y => z ((nI_ltI (by omega) (by omega)).mp y)), Nat.min_eq_right (by omega)])) ?_
        refine qi_goto (tgt := 52) dX0_spread_48 (by decide) ?_
        exact J52
  have A := K (π.1 1) 0 M none none (by omega) qFr.rf (fun o ho hk => absurd hk (by rw [κ0]; omega))
  rw [κ0, bef_0, cost_0] at A
  refine qI.of (j := 5) (pn_RX0) rfl ?_
  show qT g kX0_spread (qR 1 0 0) (qZI g (fun r M' => r = o2m res ∧ (∀ h, h < π.1 1 → M'.1 223 h = nI (gvN π n s h)) ∧ qFr (fun b _ => b = 223) M M')) 0 [some (.ref 221), some (.ref p), some (.int (nI n)), some (.int (nI s)), none, none, none, none, none] [] 333 M (0, 0)
  refine qi_iconst (v := 0) dX0_spread_0 rfl ?_
  refine qi_istore (i := 4) (L2 := [some (.ref 221), some (.ref p), some (.int (nI n)), some (.int (nI s)), some (.int 0), none, none, none, none]) dX0_spread_1 (Nat.le_of_ble_eq_true rfl) rfl ?_
  refine qi_iload_n (i := 2) (x := nI n) dX0_spread_3 rfl rfl ?_
  refine qi_istore (i := 5) (L2 := [some (.ref 221), some (.ref p), some (.int (nI n)), some (.int (nI s)), some (.int 0), some (.int (nI n)), none, none, none]) dX0_spread_4 (Nat.le_of_ble_eq_true rfl) rfl ?_
  refine qi_iconst (v := 0) dX0_spread_6 rfl ?_
  refine qi_istore (i := 6) (L2 := [some (.ref 221), some (.ref p), some (.int (nI n)), some (.int (nI s)), some (.int 0), some (.int (nI n)), some (.int 0), none, none]) dX0_spread_7 (Nat.le_of_ble_eq_true rfl) rfl ?_
  exact A
def askL : Option (Nat × Nat) → Int32
  | none => -1
  | some (_, v) => nI v
def askB : Option (Nat × Nat) → Int32
  | none => 0
  | some (b, _) => nI b
def SAk : Nat → Nat → Prop := fun b _ => 221 ≤ b ∧ b ≤ 223
set_option maxHeartbeats 2000000 in
theorem c_X0_search (g : qG) {M : qM} (hM : qRf M) {p : Nat} {π : qPl} (hp : qIsP p) (hP : qPlan M p π) (hok : okPl π) {n : Nat} (hn : n ≤ 999) : qV g 2 kX0_search [.ref 221, .ref p, .int (nI n)] M (fun M' => M'.1 221 2 = askL (askG (clsV π n) (2 ^ π.1 1)) ∧ M'.1 221 3 = askB (askG (clsV π n) (2 ^ π.1 1)) ∧ (∀ b v, askG (clsV π n) (2 ^ π.1 1) = some (b, v) → ∀ h, h < π.1 1 → M'.1 223 h = nI (gvN π n b h)) ∧ qFr SAk M M') := by
  obtain ⟨res, hres⟩ : ∃ res, res = askG (clsV π n) (2 ^ π.1 1) := ⟨_, rfl⟩
  rw [← hres]
  have hV : ∃ V : Nat → Option Nat, ∀ s, V s = clsV π n s := ⟨_, fun _ => rfl⟩
  obtain ⟨V, hV⟩ := hV
  rw [show clsV π n = V from funext fun s => (hV s).symm] at hres
  have hh8 := hok.2.1
  have hp2 := hp.2.1
  have hpw := pow8 hh8
  have plf : ∀ M1, qFr SAk M M1 → qPlan M1 p π := fun M1 hf => hP.fr hf (fun i j hi z => absurd z (by unfold SAk; omega))
  have hcost : ∀ s v, V s = some v → v ≤ 1000000 := fun s v h => by
    rw [hV] at h
    unfold clsV at h
    split at h
    · have := Option.some.inj h
      rw [← this]
      exact cost_le hok
    · cases h
  have sp0 := askG_spec V (2 ^ π.1 1)
  refine qV.of (j := 2) (pn_RX0) rfl ?_
  show qT g kX0_search (qR 2 0 0) (qZV g (fun M' => M'.1 221 2 = askL res ∧ M'.1 221 3 = askB res ∧ (∀ b v, res = some (b, v) → ∀ h, h < π.1 1 → M'.1 223 h = nI (gvN π n b h)) ∧ qFr SAk M M')) 0 [some (.ref 221), some (.ref p), some (.int (nI n)), none, none] [] 333 M (0, 0)
  refine qi_aload_n (i := 0) (x := 221) dX0_search_0 rfl rfl ?_
  refine qi_aload_n (i := 1) (x := p) dX0_search_1 rfl rfl ?_
  refine qi_callVV (K' := kX0_sortByPrice) (As := [.ref p]) mlX0_25 okX0_sortByPrice dX0_search_2 (c_X0_sortByPrice g hM hp hP hok) rfl (by decide) rfl (by decide) rfl rfl (Nat.le_of_ble_eq_true rfl) ⟨(Nat.le_of_ble_eq_true rfl), (Nat.le_of_ble_eq_true rfl)⟩ ⟨Nat.le_refl _, Nat.le_refl _⟩ (fun M2 ⟨⟨ord, hO⟩, hf2⟩ => ?_)
  have hf2' : qFr SAk M M2 := hf2.mono (fun b j z => by unfold SAk; omega)
  have hM2 := hM.fr hf2
  refine qi_aload_n (i := 0) (x := 221) dX0_search_5 rfl rfl ?_
  refine qi_iconst (v := -1) dX0_search_6 rfl ?_
  refine qi_putI flX0_18 q_cls0 (ty0_2 _) dX0_search_7 rfl (by decide) ?_
  refine qi_aload_n (i := 0) (x := 221) dX0_search_10 rfl rfl ?_
  refine qi_iconst (v := 0) dX0_search_11 rfl ?_
  refine qi_putI flX0_22 q_cls0 (ty0_3 _) dX0_search_12 rfl (by decide) ?_
  refine qi_iconst (v := 1) dX0_search_15 rfl ?_
  refine qi_istore_n (i := 3) (L2 := [some (.ref 221), some (.ref p), some (.int (nI n)), some (.int 1), none]) dX0_search_16 rfl (Nat.le_of_ble_eq_true rfl) rfl ?_
  have K : ∀ m s M3 x4, (s + 1) + m = 2 ^ π.1 1 → qFr SAk M M3 → qOrd M3 π ord (π.1 1) → M3.1 221 2 = askL (askG V (s + 1)) → M3.1 221 3 = askB (askG V (s + 1)) → qT g kX0_search (qR 2 0 0) (qZV g (fun M' => M'.1 221 2 = askL res ∧ M'.1 221 3 = askB res ∧ (∀ b v, res = some (b, v) → ∀ h, h < π.1 1 → M'.1 223 h = nI (gvN π n b h)) ∧ qFr SAk M M')) 17 [some (.ref 221), some (.ref p), some (.int (nI n)), some (.int (nI (s + 1))), x4] [] 333 M3 (0, 0) := by
    intro m
    induction m with
    | zero =>
      intro s M3 x4 e hf hO3 e2 e3
      have hM3 := hM.fr hf
      have hP3 := plf M3 hf
      rw [show s + 1 = 2 ^ π.1 1 by omega, ← hres] at e2 e3
      have hb : ∃ b, askB res = nI b ∧ b < 256 ∧ ∀ b' v, res = some (b', v) → b' = b := by
        cases hr : res with
        | none => exact ⟨0, rfl, by omega, fun _ _ z => by cases z⟩
        | some bv =>
          obtain ⟨b, v⟩ := bv
          rw [← hres, hr] at sp0
          exact ⟨b, rfl, by have := sp0.2.1; omega, fun _ _ z => by cases z; rfl⟩
      obtain ⟨b, eb, hb8, hbu⟩ := hb
      rw [eb] at e3 ⊢
      refine qi_iload_n (i := 3) (x := nI (s + 1)) dX0_search_17 rfl rfl ?_
      refine qi_iconst (v := 1) dX0_search_18 rfl ?_
      refine qi_aload_n (i := 1) (x := p) dX0_search_19 rfl rfl ?_
      refine qi_getI (x := nI (π.1 1)) flX0_29 dX0_search_20 (hp.1 0 (by decide)) (by have := hp.2.2; omega) hP3.1.2.1 ?_
      refine qi_ishl dX0_search_23 ?_
      refine qe_top (y := nI (2 ^ π.1 1)) (shl1 _ hh8) ?_
      refine qi_icmp_ge (tgt := 76) dX0_search_24 (by decide) (fun _hc => ?_) (fun _h => absurd ((nI_leI (a := 2 ^ π.1 1) (b := s + 1) (by omega) (by omega)).mpr (by omega)) _h)
      refine qi_aload_n (i := 0) (x := 221) dX0_search_76 rfl rfl ?_
      refine qi_aload_n (i := 1) (x := p) dX0_search_77 rfl rfl ?_
      refine qi_iload_n (i := 2) (x := nI n) dX0_search_78 rfl rfl ?_
      refine qi_aload_n (i := 0) (x := 221) dX0_search_79 rfl rfl ?_
      refine qi_getI (x := nI b) flX0_22 dX0_search_80 rfl (by decide) e3 ?_
      refine qi_callVI (K' := kX0_spread) (As := [.ref p, .int (nI n), .int (nI b)]) mlX0_34 okX0_spread dX0_search_83 (c_X0_spread g hM3 hp hP3 hok hO3 hb8 hn) rfl (by decide) rfl (by decide) rfl rfl (Nat.le_of_ble_eq_true rfl) ⟨(Nat.le_of_ble_eq_true rfl), (Nat.le_of_ble_eq_true rfl)⟩ ⟨Nat.le_refl _, Nat.le_refl _⟩ (fun r M4 ⟨_, hg, hf4⟩ => ?_)
      refine qi_pop dX0_search_86 ?_
      exact qi_retV rfl dX0_search_87 (⟨(hf4.1 _ _ (by omega)).trans e2, (hf4.1 _ _ (by omega)).trans e3, fun b' v z h hh => by rw [hbu b' v z]; exact hg h hh, hf.tr (hf4.mono (fun b j z => by unfold SAk; omega))⟩)
    | succ m ih =>
      intro s M3 x4 e hf hO3 e2 e3
      have hM3 := hM.fr hf
      have hP3 := plf M3 hf
      have e1 := askG_s V (s + 1)
      rw [if_neg (by omega)] at e1
      refine qi_iload_n (i := 3) (x := nI (s + 1)) dX0_search_17 rfl rfl ?_
      refine qi_iconst (v := 1) dX0_search_18 rfl ?_
      refine qi_aload_n (i := 1) (x := p) dX0_search_19 rfl rfl ?_
      refine qi_getI (x := nI (π.1 1)) flX0_29 dX0_search_20 (hp.1 0 (by decide)) (by have := hp.2.2; omega) hP3.1.2.1 ?_
      refine qi_ishl dX0_search_23 ?_
      refine qe_top (y := nI (2 ^ π.1 1)) (shl1 _ hh8) ?_
      refine qi_icmp_ge (tgt := 76) dX0_search_24 (by decide) (fun _h => absurd ((nI_leI (a := 2 ^ π.1 1) (b := s + 1) (by omega) (by omega)).mp _h) (by omega)) (fun _hc => ?_)
      refine qi_aload_n (i := 0) (x := 221) dX0_search_27 rfl rfl ?_
      refine qi_aload_n (i := 1) (x := p) dX0_search_28 rfl rfl ?_
      refine qi_iload_n (i := 2) (x := nI n) dX0_search_29 rfl rfl ?_
      refine qi_iload_n (i := 3) (x := nI (s + 1)) dX0_search_30 rfl rfl ?_
      refine qi_callVI (K' := kX0_spread) (As := [.ref p, .int (nI n), .int (nI (s + 1))]) mlX0_34 okX0_spread dX0_search_31 (c_X0_spread g hM3 hp hP3 hok hO3 (s := s + 1) (by omega) hn) rfl (by decide) rfl (by decide) rfl rfl (Nat.le_of_ble_eq_true rfl) ⟨(Nat.le_of_ble_eq_true rfl), (Nat.le_of_ble_eq_true rfl)⟩ ⟨Nat.le_refl _, Nat.le_refl _⟩ (fun r M4 ⟨er, _, hf4⟩ => ?_)
      have hf4' : qFr SAk M M4 := hf.tr (hf4.mono (fun b j z => by unfold SAk; omega))
      have hM4 := hM.fr hf4'
      rw [← hV] at er
      have f2 : M4.1 221 2 = askL (askG V (s + 1)) := (hf4.1 _ _ (by omega)).trans e2
      have f3 : M4.1 221 3 = askB (askG V (s + 1)) := (hf4.1 _ _ (by omega)).trans e3
      have hO4 : qOrd M4 π ord (π.1 1) := ⟨fun i hi => ⟨(hf4.1 _ _ (by omega)).trans (hO3.1 i hi).1, (hO3.1 i hi).2⟩, hO3.2⟩
      have stay : ∀ x4, askG V (s + 1 + 1) = askG V (s + 1) → qT g kX0_search (qR 2 0 0) (qZV g (fun M' => M'.1 221 2 = askL res ∧ M'.1 221 3 = askB res ∧ (∀ b v, res = some (b, v) → ∀ h, h < π.1 1 → M'.1 223 h = nI (gvN π n b h)) ∧ qFr SAk M M')) 70 [some (.ref 221), some (.ref p), some (.int (nI n)), some (.int (nI (s + 1))), x4] [] 333 M4 (0, 0) := by
        intro x4 z
        refine qi_iinc (i := 3) (x := nI (s + 1)) (v := nI (s + 1 + 1)) (L2 := [some (.ref 221), some (.ref p), some (.int (nI n)), some (.int (nI (s + 1 + 1))), x4]) dX0_search_70 rfl (nI_1 (s + 1)) (Nat.le_of_ble_eq_true rfl) rfl ?_
        refine qi_goto (tgt := 17) dX0_search_73 (by decide) ?_
        exact ih (s + 1) M4 _ (by omega) hf4' hO4 (by rw [z]; exact f2) (by rw [z]; exact f3)
      have take : ∀ v, askG V (s + 1 + 1) = some (s + 1, v) → qT g kX0_search (qR 2 0 0) (qZV g (fun M' => M'.1 221 2 = askL res ∧ M'.1 221 3 = askB res ∧ (∀ b v, res = some (b, v) → ∀ h, h < π.1 1 → M'.1 223 h = nI (gvN π n b h)) ∧ qFr SAk M M')) 59 [some (.ref 221), some (.ref p), some (.int (nI n)), some (.int (nI (s + 1))), some (.int (nI v))] [] 333 M4 (0, 0) := by
        intro v z
        refine qi_aload_n (i := 0) (x := 221) dX0_search_59 rfl rfl ?_
        refine qi_iload (i := 4) (x := nI v) dX0_search_60 rfl ?_
        refine qi_putI flX0_18 q_cls0 (ty0_2 _) dX0_search_62 rfl (by decide) ?_
        refine qi_aload_n (i := 0) (x := 221) dX0_search_65 rfl rfl ?_
        refine qi_iload_n (i := 3) (x := nI (s + 1)) dX0_search_66 rfl rfl ?_
        refine qi_putI flX0_22 q_cls0 (ty0_3 _) dX0_search_67 rfl (by decide) ?_
        refine qi_iinc (i := 3) (x := nI (s + 1)) (v := nI (s + 1 + 1)) (L2 := [some (.ref 221), some (.ref p), some (.int (nI n)), some (.int (nI (s + 1 + 1))), some (.int (nI v))]) dX0_search_70 rfl (nI_1 (s + 1)) (Nat.le_of_ble_eq_true rfl) rfl ?_
        refine qi_goto (tgt := 17) dX0_search_73 (by decide) ?_
        refine ih (s + 1) _ _ (by omega) ((hf4'.wI (by unfold SAk; omega)).wI (by unfold SAk; omega)) ⟨fun i hi => ⟨by rw [wI_a (by decide), wI_a (by decide)]; exact (hO4.1 i hi).1, (hO4.1 i hi).2⟩, hO4.2⟩ ?_ ?_
        · rw [z, wI_k (by decide), wI_s]; rfl
        · rw [z, wI_s]; rfl
      cases hv : V (s + 1) with
      | none =>
        rw [hv] at er e1
        rw [er]
        refine qi_istore (i := 4) (L2 := [some (.ref 221), some (.ref p), some (.int (nI n)), some (.int (nI (s + 1))), some (.int (o2m none))]) dX0_search_34 (Nat.le_of_ble_eq_true rfl) rfl ?_
        refine qi_iload (i := 4) (x := o2m none) dX0_search_36 rfl ?_
        refine qi_iconst (v := -1) dX0_search_38 rfl ?_
        refine qi_icmp_eq (tgt := 70) dX0_search_39 (by decide) (fun z => ?_) (fun z => False.elim (z rfl))
        exact stay _ e1
      | some v =>
        have hvc := hcost _ _ hv
        rw [hv] at er e1
        simp only at e1
        rw [er]
        refine qi_istore (i := 4) (L2 := [some (.ref 221), some (.ref p), some (.int (nI n)), some (.int (nI (s + 1))), some (.int (nI v))]) dX0_search_34 (Nat.le_of_ble_eq_true rfl) rfl ?_
        refine qi_iload (i := 4) (x := nI v) dX0_search_36 rfl ?_
        refine qi_iconst (v := -1) dX0_search_38 rfl ?_
        refine qi_icmp_eq (tgt := 70) dX0_search_39 (by decide) (fun z => False.elim (nI_m1 (n := v) (by omega) z)) (fun z => ?_)
        cases ha : askG V (s + 1) with
        | none =>
          rw [ha] at e1 f2
          refine qi_aload_n (i := 0) (x := 221) dX0_search_42 rfl rfl ?_
          refine qi_getI (x := askL none) flX0_18 dX0_search_43 rfl (by decide) f2 ?_
          refine qi_iconst (v := -1) dX0_search_46 rfl ?_
          refine qi_icmp_eq (tgt := 59) dX0_search_47 (by decide) (fun z => ?_) (fun z => False.elim (z rfl))
          exact take v e1
        | some bw =>
          obtain ⟨b, w⟩ := bw
          have sp := askG_spec V (s + 1)
          rw [ha] at sp
          have hwc := hcost _ _ sp.2.2.1
          rw [ha] at e1 f2 stay
          simp only at e1
          have f2' : M4.1 221 2 = nI w := f2
          refine qi_aload_n (i := 0) (x := 221) dX0_search_42 rfl rfl ?_
          refine qi_getI (x := nI w) flX0_18 dX0_search_43 rfl (by decide) f2' ?_
          refine qi_iconst (v := -1) dX0_search_46 rfl ?_
          refine qi_icmp_eq (tgt := 59) dX0_search_47 (by decide) (fun z => False.elim (nI_m1 (n := w) (by omega) z)) (fun z => ?_)
          refine qi_iload (i := 4) (x := nI v) dX0_search_50 rfl ?_
          refine qi_aload_n (i := 0) (x := 221) dX0_search_52 rfl rfl ?_
          refine qi_getI (x := nI w) flX0_18 dX0_search_53 rfl (by decide) f2' ?_
          refine qi_icmp_ge (tgt := 70) dX0_search_56 (by decide) (fun _h => ?_) (fun _h => ?_)
          · have c : w ≤ v := (nI_leI (a := w) (b := v) (by omega) (by omega)).mp _h
            rw [if_neg (by omega)] at e1
            exact stay _ e1
          · have c : ¬ (w ≤ v) := fun z => _h ((nI_leI (a := w) (b := v) (by omega) (by omega)).mpr z)
            rw [if_pos (by omega)] at e1
            exact take v e1
  refine K (2 ^ π.1 1 - 1) 0 _ none (by have := Nat.two_pow_pos (π.1 1); omega) ((hf2'.wI (by unfold SAk; omega)).wI (by unfold SAk; omega)) ⟨fun i hi => ⟨by rw [wI_a (by decide), wI_a (by decide)]; exact (hO.1 i hi).1, (hO.1 i hi).2⟩, hO.2⟩ ?_ ?_
  · rw [wI_k (by decide), wI_s]; rfl
  · rw [wI_s]; rfl
set_option maxHeartbeats 1000000 in
theorem c_X11_asked (g : qG) {M : qM} (hM : qRf M) {p : Nat} {π : qPl} (hp : qIsP p) (hr : M.2.2 0 9 = some p) (hP : qPlan M p π) (hok : okPl π) (n w : Int32) : qI g 3 kX11_asked [.ref 0, .int n, .int w] M (fun r M' => r = askedQ π n w ∧ qFr SAk M M') := by
  obtain ⟨res, hres⟩ : ∃ res, res = askedQ π n w := ⟨_, rfl⟩
  rw [← hres]
  have hh8 := hok.2.1
  have hpw := pow8 hh8
  have E : (inF 1 999 n = 0 ∨ inF 0 1 w = 0) → qT g kX11_asked (qR 3 0 0) (qZI g (fun r M' => r = res ∧ qFr SAk M M')) 21 [some (.ref 0), some (.int n), some (.int w)] [] 333 M (0, 0) := by
    intro hb
    refine qi_iconst (v := -1) dX11_asked_21 rfl ?_
    exact qi_retI rfl rfl dX11_asked_22 (⟨by rw [hres]; unfold askedQ; rw [if_pos hb], qFr.rf⟩)
  refine qI.of (j := 0) (pn_RX11) rfl ?_
  show qT g kX11_asked (qR 3 0 0) (qZI g (fun r M' => r = res ∧ qFr SAk M M')) 0 [some (.ref 0), some (.int n), some (.int w)] [] 333 M (0, 0)
  refine qi_iload_n (i := 1) (x := n) dX11_asked_0 rfl rfl ?_
  refine qi_iconst (v := 1) dX11_asked_1 rfl ?_
  refine qi_icmp_lt (tgt := 21) dX11_asked_2 (by decide) (fun a1 => ?_) (fun a1 => ?_)
  · exact E (Or.inl (inF_no (fun y => absurd a1 (Int32.not_lt.mpr y.1))))
  · refine qi_iload_n (i := 1) (x := n) dX11_asked_5 rfl rfl ?_
    refine qi_sipush (v := 999) dX11_asked_6 rfl ?_
    refine qi_icmp_gt (tgt := 21) dX11_asked_9 (by decide) (fun a2 => ?_) (fun a2 => ?_)
    · exact E (Or.inl (inF_no (fun y => absurd a2 (Int32.not_lt.mpr y.2))))
    · refine qi_iload_n (i := 2) (x := w) dX11_asked_12 rfl rfl ?_
      refine qi_if_lt (tgt := 21) dX11_asked_13 (by decide) (fun a3 => ?_) (fun a3 => ?_)
      · exact E (Or.inr (inF_no (fun y => absurd a3 (Int32.not_lt.mpr y.1))))
      · refine qi_iload_n (i := 2) (x := w) dX11_asked_16 rfl rfl ?_
        refine qi_iconst (v := 1) dX11_asked_17 rfl ?_
        refine qi_icmp_le (tgt := 23) dX11_asked_18 (by decide) (fun a4 => ?_) (fun a4 => ?_)
        · have c1 : ¬ inF 1 999 n = 0 := inF_yes ⟨Int32.not_lt.mp a1, Int32.not_lt.mp a2⟩
          have c2 : ¬ inF 0 1 w = 0 := inF_yes ⟨Int32.not_lt.mp a3, a4⟩
          obtain ⟨n0, hn1, hn2, en⟩ := inF_nat1 (n := 999) (by omega) c1
          unfold askedQ at hres
          rw [if_neg (fun z => z.elim c1 c2), en, nI_clamp (by omega), ask_same hh8 (by omega) hpw] at hres
          rw [en]
          refine qi_aload_n (i := 0) (x := 0) dX11_asked_23 rfl rfl ?_
          refine qi_getR (x := 221) flX11_47 dX11_asked_24 rfl (by decide) (hM 0 5 221 rfl) ?_
          refine qi_aload_n (i := 0) (x := 0) dX11_asked_27 rfl rfl ?_
          refine qi_getR (x := p) flX11_67 dX11_asked_28 rfl (by decide) hr ?_
          refine qi_iload_n (i := 1) (x := nI n0) dX11_asked_31 rfl rfl ?_
          refine qi_callVV (K' := kX0_search) (As := [.ref p, .int (nI n0)]) mlX11_225 okX0_search dX11_asked_32 (c_X0_search g hM hp hP hok hn2) rfl (by decide) rfl (by decide) rfl rfl (Nat.le_of_ble_eq_true rfl) ⟨(Nat.le_of_ble_eq_true rfl), (Nat.le_of_ble_eq_true rfl)⟩ ⟨Nat.le_refl _, Nat.le_refl _⟩ (fun M2 ⟨f2, f3, _, hf2⟩ => ?_)
          have hM2 := hM.fr hf2
          cases ha : askG (clsV π n0) (2 ^ π.1 1) with
          | none =>
            rw [ha] at hres f2
            refine qi_aload_n (i := 0) (x := 0) dX11_asked_35 rfl rfl ?_
            refine qi_getR (x := 221) flX11_47 dX11_asked_36 rfl (by decide) (hM2 0 5 221 rfl) ?_
            refine qi_getI (x := askL none) flX11_228 dX11_asked_39 rfl (by decide) f2 ?_
            refine qi_iconst (v := -1) dX11_asked_42 rfl ?_
            refine qi_icmp_ne (tgt := 49) dX11_asked_43 (by decide) (fun z => False.elim (z rfl)) (fun z => ?_)
            refine qi_bipush (v := -2) dX11_asked_46 rfl ?_
            exact qi_retI rfl rfl dX11_asked_48 (⟨hres.symm, hf2⟩)
          | some bv =>
            obtain ⟨b, v⟩ := bv
            have sp := askG_spec (clsV π n0) (2 ^ π.1 1)
            rw [ha] at hres f2 f3 sp
            simp only at hres
            have hv : v ≤ 1000000 := by
              have h := sp.2.2.1
              unfold clsV at h
              split at h
              · have := Option.some.inj h
                rw [← this]
                exact cost_le hok
              · cases h
            have f2' : M2.1 221 2 = nI v := f2
            have f3' : M2.1 221 3 = nI b := f3
            refine qi_aload_n (i := 0) (x := 0) dX11_asked_35 rfl rfl ?_
            refine qi_getR (x := 221) flX11_47 dX11_asked_36 rfl (by decide) (hM2 0 5 221 rfl) ?_
            refine qi_getI (x := nI v) flX11_228 dX11_asked_39 rfl (by decide) f2' ?_
            refine qi_iconst (v := -1) dX11_asked_42 rfl ?_
            refine qi_icmp_ne (tgt := 49) dX11_asked_43 (by decide) (fun z => ?_) (fun z => False.elim (nI_m1 (n := v) (by omega) z))
            refine qi_iload_n (i := 2) (x := w) dX11_asked_49 rfl rfl ?_
            refine qi_if_ne (tgt := 63) dX11_asked_50 (by decide) (fun c3 => ?_) (fun c3 => ?_)
            · refine qi_aload_n (i := 0) (x := 0) dX11_asked_63 rfl rfl ?_
              refine qi_getR (x := 221) flX11_47 dX11_asked_64 rfl (by decide) (hM2 0 5 221 rfl) ?_
              refine qi_getI (x := nI b) flX11_231 dX11_asked_67 rfl (by decide) f3' ?_
              exact qi_retI rfl rfl dX11_asked_70 (⟨by rw [hres, if_neg c3], hf2⟩)
            · refine qi_aload_n (i := 0) (x := 0) dX11_asked_53 rfl rfl ?_
              refine qi_getR (x := 221) flX11_47 dX11_asked_54 rfl (by decide) (hM2 0 5 221 rfl) ?_
              refine qi_getI (x := nI v) flX11_228 dX11_asked_57 rfl (by decide) f2' ?_
              refine qi_goto (tgt := 70) dX11_asked_60 (by decide) ?_
              exact qi_retI rfl rfl dX11_asked_70 (⟨by rw [hres, if_pos c3], hf2⟩)
        · exact E (Or.inr (inF_no (fun y => a4 y.2)))
set_option maxHeartbeats 1000000 in
theorem c_X11_gives (g : qG) {M : qM} (hM : qRf M) {p : Nat} {π : qPl} (hp : qIsP p) (hr : M.2.2 0 9 = some p) (hP : qPlan M p π) (hok : okPl π) (n h : Int32) : qI g 3 kX11_gives [.ref 0, .int n, .int h] M (fun r M' => r = givesQ π n h ∧ qFr SAk M M') := by
  obtain ⟨res, hres⟩ : ∃ res, res = givesQ π n h := ⟨_, rfl⟩
  rw [← hres]
  have hh8 := hok.2.1
  have hpw := pow8 hh8
  have E : (inF 1 999 n = 0 ∨ isF (π.1 1) h = 0) → qT g kX11_gives (qR 3 0 0) (qZI g (fun r M' => r = res ∧ qFr SAk M M')) 23 [some (.ref 0), some (.int n), some (.int h)] [] 333 M (0, 0) := by
    intro hb
    refine qi_iconst (v := -1) dX11_gives_23 rfl ?_
    exact qi_retI rfl rfl dX11_gives_24 (⟨by rw [hres]; unfold givesQ; rw [if_pos hb], qFr.rf⟩)
  refine qI.of (j := 0) (pn_RX11) rfl ?_
  show qT g kX11_gives (qR 3 0 0) (qZI g (fun r M' => r = res ∧ qFr SAk M M')) 0 [some (.ref 0), some (.int n), some (.int h)] [] 333 M (0, 0)
  refine qi_iload_n (i := 1) (x := n) dX11_gives_0 rfl rfl ?_
  refine qi_iconst (v := 1) dX11_gives_1 rfl ?_
  refine qi_icmp_lt (tgt := 23) dX11_gives_2 (by decide) (fun a1 => ?_) (fun a1 => ?_)
  · exact E (Or.inl (inF_no (fun y => absurd a1 (Int32.not_lt.mpr y.1))))
  · refine qi_iload_n (i := 1) (x := n) dX11_gives_5 rfl rfl ?_
    refine qi_sipush (v := 999) dX11_gives_6 rfl ?_
    refine qi_icmp_gt (tgt := 23) dX11_gives_9 (by decide) (fun a2 => ?_) (fun a2 => ?_)
    · exact E (Or.inl (inF_no (fun y => absurd a2 (Int32.not_lt.mpr y.2))))
    · refine qi_aload_n (i := 0) (x := 0) dX11_gives_12 rfl rfl ?_
      refine qi_getR (x := p) flX11_67 dX11_gives_13 rfl (by decide) hr ?_
      refine qi_iload_n (i := 2) (x := h) dX11_gives_16 rfl rfl ?_
      refine qi_callPVI (v := isF (π.1 1) h) (K' := kX3_hasHeir) (As := [.int h]) mlX11_102 okX3_hasHeir dX11_gives_17 (c_X3_hasHeir g hp hP h) (hp.1 0 (by decide)) (by decide) rfl (by have := hp.2.2; omega) rfl rfl (Nat.le_of_ble_eq_true rfl) ⟨(Nat.le_of_ble_eq_true rfl), (Nat.le_of_ble_eq_true rfl)⟩ ⟨Nat.le_refl _, Nat.le_refl _⟩ ?_
      refine qi_if_ne (tgt := 25) dX11_gives_20 (by decide) (fun c2 => ?_) (fun c2 => ?_)
      · have c1 : ¬ inF 1 999 n = 0 := inF_yes ⟨Int32.not_lt.mp a1, Int32.not_lt.mp a2⟩
        obtain ⟨n0, hn1, hn2, en⟩ := inF_nat1 (n := 999) (by omega) c1
        obtain ⟨k, hk, ek⟩ := isF_of (by omega) c2
        unfold givesQ at hres
        rw [if_neg (fun z => z.elim c1 c2), en, nI_clamp (by omega), ask_same hh8 (by omega) hpw, ek, nI_clamp (by omega)] at hres
        rw [en, ek]
        refine qi_aload_n (i := 0) (x := 0) dX11_gives_25 rfl rfl ?_
        refine qi_getR (x := 221) flX11_47 dX11_gives_26 rfl (by decide) (hM 0 5 221 rfl) ?_
        refine qi_aload_n (i := 0) (x := 0) dX11_gives_29 rfl rfl ?_
        refine qi_getR (x := p) flX11_67 dX11_gives_30 rfl (by decide) hr ?_
        refine qi_iload_n (i := 1) (x := nI n0) dX11_gives_33 rfl rfl ?_
        refine qi_callVV (K' := kX0_search) (As := [.ref p, .int (nI n0)]) mlX11_225 okX0_search dX11_gives_34 (c_X0_search g hM hp hP hok hn2) rfl (by decide) rfl (by decide) rfl rfl (Nat.le_of_ble_eq_true rfl) ⟨(Nat.le_of_ble_eq_true rfl), (Nat.le_of_ble_eq_true rfl)⟩ ⟨Nat.le_refl _, Nat.le_refl _⟩ (fun M2 ⟨f2, f3, fg, hf2⟩ => ?_)
        have hM2 := hM.fr hf2
        cases ha : askG (clsV π n0) (2 ^ π.1 1) with
        | none =>
          rw [ha] at hres f2
          refine qi_aload_n (i := 0) (x := 0) dX11_gives_37 rfl rfl ?_
          refine qi_getR (x := 221) flX11_47 dX11_gives_38 rfl (by decide) (hM2 0 5 221 rfl) ?_
          refine qi_getI (x := askL none) flX11_228 dX11_gives_41 rfl (by decide) f2 ?_
          refine qi_iconst (v := -1) dX11_gives_44 rfl ?_
          refine qi_icmp_ne (tgt := 53) dX11_gives_45 (by decide) (fun z => False.elim (z rfl)) (fun z => ?_)
          refine qi_bipush (v := -2) dX11_gives_48 rfl ?_
          refine qi_goto (tgt := 62) dX11_gives_50 (by decide) ?_
          exact qi_retI rfl rfl dX11_gives_62 (⟨hres.symm, hf2⟩)
        | some bv =>
          obtain ⟨b, v⟩ := bv
          have fg' := fg b v ha k hk
          have sp := askG_spec (clsV π n0) (2 ^ π.1 1)
          rw [ha] at hres f2 f3 sp
          simp only at hres
          have hv : v ≤ 1000000 := by
            have h := sp.2.2.1
            unfold clsV at h
            split at h
            · have := Option.some.inj h
              rw [← this]
              exact cost_le hok
            · cases h
          have f2' : M2.1 221 2 = nI v := f2
          refine qi_aload_n (i := 0) (x := 0) dX11_gives_37 rfl rfl ?_
          refine qi_getR (x := 221) flX11_47 dX11_gives_38 rfl (by decide) (hM2 0 5 221 rfl) ?_
          refine qi_getI (x := nI v) flX11_228 dX11_gives_41 rfl (by decide) f2' ?_
          refine qi_iconst (v := -1) dX11_gives_44 rfl ?_
          refine qi_icmp_ne (tgt := 53) dX11_gives_45 (by decide) (fun z => ?_) (fun z => False.elim (nI_m1 (n := v) (by omega) z))
          refine qi_aload_n (i := 0) (x := 0) dX11_gives_53 rfl rfl ?_
          refine qi_getR (x := 221) flX11_47 dX11_gives_54 rfl (by decide) (hM2 0 5 221 rfl) ?_
          refine qi_getR (x := 223) flX11_234 dX11_gives_57 rfl (by decide) (hM2 221 1 223 rfl) ?_
          refine qi_iload_n (i := 2) (x := nI k) dX11_gives_60 rfl rfl ?_
          refine qi_ialdN (x := nI (gvN π n0 b k)) (j := k) dX11_gives_61 rfl (by decide) rfl (by omega) (by decide) fg' ?_
          exact qi_retI rfl rfl dX11_gives_62 (⟨hres.symm, hf2⟩)
      · exact E (Or.inr c2)
