/-! ThimbleSea$Memory; run, merge, split, spoon, undo, hold, restore -/
def qHistC (M : qM) (u : Nat) (H : Nat → Nat → Int32) : Prop := ∃ nx, nx < 30 ∧ M.1 12 3 = nI nx ∧ M.1 12 4 = nI u ∧ u ≤ 30 ∧ ∀ i, i < u → qSea M (16 + 6 * ((nx + 29 - i) % 30)) (H i)
def SRm : Nat → Nat → Prop := fun b j => (16 ≤ b ∧ b ≤ 195) ∨ (b = 12 ∧ (j = 3 ∨ j = 4))
def qHdC (M : qM) (η : qHd) : Prop := (∀ s, s < 3 → M.1 15 s = η.1 s ∧ (η.1 s = 0 ∨ η.1 s = 1)) ∧ ∀ s, s < 3 → η.1 s = 1 → qSea M (196 + 6 * s) (η.2 s)
theorem qIsS_slot {s : Nat} (h : s < 3) : qIsS (196 + 6 * s) := by
  have := qIsS_mem (i := 30 + s) (by omega)
  rwa [show 16 + 6 * (30 + s) = 196 + 6 * s by omega] at this
theorem qHistC.fr {S : Nat → Nat → Prop} {M M' : qM} {u : Nat} {H : Nat → Nat → Int32} (h : qHistC M u H) (hf : qFr S M M') (hd : ∀ b j, S b j → (b < 16 ∨ 195 < b) ∧ (b = 12 → j ≠ 3 ∧ j ≠ 4)) : qHistC M' u H := by
  obtain ⟨nx, h1, h2, h3, h4, h5⟩ := h
  exact ⟨nx, h1, (hf.1 _ _ (fun z => ((hd _ _ z).2 rfl).1 rfl)).trans h2, (hf.1 _ _ (fun z => ((hd _ _ z).2 rfl).2 rfl)).trans h3, h4, fun i hi => (h5 i hi).fr hf (fun j k hj z => by have := (hd _ _ z).1; have := Nat.mod_lt (nx + 29 - i) (show 0 < 30 by omega); omega)⟩
theorem qHdC.fr {S : Nat → Nat → Prop} {M M' : qM} {η : qHd} (h : qHdC M η) (hf : qFr S M M') (hd : ∀ b j, S b j → b ≠ 15 ∧ (b < 196 ∨ 213 < b)) : qHdC M' η := ⟨fun s hs => ⟨(hf.1 _ _ (fun z => (hd _ _ z).1 rfl)).trans (h.1 s hs).1, (h.1 s hs).2⟩, fun s hs h1 => (h.2 s hs h1).fr hf (fun j k hj z => by have := (hd _ _ z).2; omega)⟩
set_option maxHeartbeats 1000000 in
theorem c_X2_remember (g : qG) {M : qM} (hM : qRf M) {ρ : Nat → Int32} {u : Nat} {H : Nat → Nat → Int32} (hS : qSea M 224 ρ) (hH : qHistC M u H) : qV g 2 kX2_remember [.ref 12, .ref 224] M (fun M' => qHistC M' (min 30 (u + 1)) (pushF ρ H) ∧ qFr SRm M M') := by
  obtain ⟨nx, h1, h2, h3, h4, h5⟩ := hH
  have hs := qIsS_mem (i := nx) (by omega)
  have hmin : (if nI (u + 1) < 30 then nI (u + 1) else 30) = nI (min 30 (u + 1)) := by
    rw [show (30 : Int32) = nI 30 from rfl]
    by_cases z : u + 1 < 30
    · rw [if_pos ((nI_ltI (by omega) (by omega)).mpr z), Nat.min_eq_right (by omega)]
    · rw [if_neg (fun y => z ((nI_ltI (by omega) (by omega)).mp y)), Nat.min_eq_left (by omega)]
  refine qV.of (j := 0) (pn_RX2) rfl ?_
  show qT g kX2_remember (qR 2 0 0) (qZV g (fun M' => qHistC M' (min 30 (u + 1)) (pushF ρ H) ∧ qFr SRm M M')) 0 [some (.ref 12), some (.ref 224)] [] 333 M (0, 0)
  refine qi_aload_n (i := 0) (x := 12) dX2_remember_0 rfl rfl ?_
  refine qi_getR (x := 13) flX2_11 dX2_remember_1 rfl (by decide) (hM 12 0 13 rfl) ?_
  refine qi_aload_n (i := 0) (x := 12) dX2_remember_4 rfl rfl ?_
  refine qi_getI (x := nI nx) flX2_24 dX2_remember_5 rfl (by decide) h2 ?_
  refine qi_aaldN (x := 16 + 6 * nx) (j := nx) dX2_remember_8 rfl (by decide) rfl (by omega) (by decide) (hM 13 nx (16 + 6 * nx) (qref_e h1)) ?_
  refine qi_aload_n (i := 1) (x := 224) dX2_remember_9 rfl rfl ?_
  refine qi_callVV (K' := kX6_copyFrom) (As := [.ref 224]) mlX2_32 okX6_copyFrom dX2_remember_10 (c_X6_copyFrom g hs qIsS_sea (Or.inl (by omega)) hM hS) hs.1 (by decide) rfl (by omega) rfl rfl (Nat.le_of_ble_eq_true rfl) ⟨(Nat.le_of_ble_eq_true rfl), (Nat.le_of_ble_eq_true rfl)⟩ ⟨Nat.le_refl _, Nat.le_refl _⟩ (fun M2 ⟨hR2, hf2⟩ => ?_)
  have hf2' : qFr SRm M M2 := hf2.mono (fun b j z => Or.inl (by unfold SS at z; omega))
  have hM2 := hM.fr hf2
  have k3 : M2.1 12 3 = nI nx := (hf2.1 _ _ (by unfold SS; omega)).trans h2
  have k4 : M2.1 12 4 = nI u := (hf2.1 _ _ (by unfold SS; omega)).trans h3
  refine qi_aload_n (i := 0) (x := 12) dX2_remember_13 rfl rfl ?_
  refine qi_aload_n (i := 0) (x := 12) dX2_remember_14 rfl rfl ?_
  refine qi_getI (x := nI nx) flX2_24 dX2_remember_15 rfl (by decide) k3 ?_
  refine qi_iconst (v := 1) dX2_remember_18 rfl ?_
  refine qi_iadd dX2_remember_19 ?_
  refine qe_top (y := nI (nx + 1)) (nI_1 _) ?_
  refine qi_bipush (v := 30) dX2_remember_20 rfl ?_
  refine qi_irem dX2_remember_22 (by decide) ?_
  refine qe_top (y := nI ((nx + 1) % 30)) (pk_rem (d := 30) (by omega) (by omega) (by omega)) ?_
  refine qi_putI flX2_24 q_cls2 (ty2_3 _) dX2_remember_23 rfl (by decide) ?_
  refine qi_aload_n (i := 0) (x := 12) dX2_remember_26 rfl rfl ?_
  refine qi_bipush (v := 30) dX2_remember_27 rfl ?_
  refine qi_aload_n (i := 0) (x := 12) dX2_remember_29 rfl rfl ?_
  refine qi_getI (x := nI u) flX2_28 dX2_remember_30 rfl (by decide) ((wI_k (by decide)).trans k4) ?_
  refine qi_iconst (v := 1) dX2_remember_33 rfl ?_
  refine qi_iadd dX2_remember_34 ?_
  refine qe_top (y := nI (u + 1)) (nI_1 _) ?_
  refine qi_min mtX2_36 mt_min_s mt_i mt_min_c dX2_remember_35 (Nat.le_of_ble_eq_true rfl) ⟨(Nat.le_of_ble_eq_true rfl), (Nat.le_of_ble_eq_true rfl)⟩ ⟨Nat.le_refl _, Nat.le_refl _⟩ ?_
  refine qe_top (y := nI (min 30 (u + 1))) hmin ?_
  refine qi_putI flX2_28 q_cls2 (ty2_4 _) dX2_remember_38 rfl (by decide) ?_
  refine qi_retV rfl dX2_remember_41 (⟨⟨(nx + 1) % 30, Nat.mod_lt _ (by omega), by rw [wI_k (by decide), wI_s], wI_s _ _ _ _, Nat.min_le_left _ _, fun i hi => ?_⟩, (hf2'.wI (Or.inr ⟨rfl, Or.inl rfl⟩)).wI (Or.inr ⟨rfl, Or.inr rfl⟩)⟩)
  have fr2 : qFr (fun b _ => b = 12) M2 (wI (wI M2 12 3 (nI ((nx + 1) % 30))) 12 4 (nI (min 30 (u + 1)))) := (qFr.rf.wI (S := fun b _ => b = 12) rfl).wI rfl
  unfold pushF
  by_cases i0 : i = 0
  · rw [if_pos i0, i0, show ((nx + 1) % 30 + 29 - 0) % 30 = nx by omega]
    exact hR2.fr fr2 (fun j k hj z => by omega)
  · rw [if_neg i0, show ((nx + 1) % 30 + 29 - i) % 30 = (nx + 29 - (i - 1)) % 30 by omega]
    refine ((h5 (i - 1) (by omega)).fr hf2 (fun j k hj z => ?_)).fr fr2 (fun j k hj z => ?_)
    · unfold SS at z
      omega
    · omega
set_option maxHeartbeats 1000000 in
theorem c_X2_recall (g : qG) {M : qM} (hM : qRf M) {c : qCo} (hS : qSea M 224 c.1) (hH : qHistC M c.2.1 c.2.2) : qI g 2 kX2_recall [.ref 12, .ref 224] M (fun r M' => r = (dUndo c).1 ∧ qSea M' 224 (dUndo c).2.1 ∧ qHistC M' (dUndo c).2.2.1 (dUndo c).2.2.2 ∧ qFr (fun b j => (b = 12 ∧ (j = 3 ∨ j = 4)) ∨ (224 ≤ b ∧ b ≤ 229)) M M') := by
  obtain ⟨res, hres⟩ : ∃ res, res = dUndo c := ⟨_, rfl⟩
  rw [← hres]
  unfold dUndo at hres
  have hH0 := hH
  obtain ⟨nx, h1, h2, h3, h4, h5⟩ := hH
  refine qI.of (j := 0) (pn_RX2) rfl ?_
  show qT g kX2_recall (qR 2 0 0) (qZI g (fun r M' => r = res.1 ∧ qSea M' 224 res.2.1 ∧ qHistC M' res.2.2.1 res.2.2.2 ∧ qFr (fun b j => (b = 12 ∧ (j = 3 ∨ j = 4)) ∨ (224 ≤ b ∧ b ≤ 229)) M M')) 0 [some (.ref 12), some (.ref 224)] [] 333 M (0, 0)
  refine qi_aload_n (i := 0) (x := 12) dX2_recall_0 rfl rfl ?_
  refine qi_getI (x := nI c.2.1) flX2_28 dX2_recall_1 rfl (by decide) h3 ?_
  refine qi_if_ne (tgt := 9) dX2_recall_4 (by decide) (fun _h => ?_) (fun _h => ?_)
  · have c1 : ¬ (c.2.1 = 0) := fun z => _h ((nI_eq (a := c.2.1) (b := 0) (by omega) (by omega)).mpr z)
    rw [if_neg c1] at hres
    have hl := Nat.mod_lt (nx + 29) (show 0 < 30 by omega)
    have hs := qIsS_mem (i := (nx + 29) % 30) (by omega)
    refine qi_aload_n (i := 0) (x := 12) dX2_recall_9 rfl rfl ?_
    refine qi_aload_n (i := 0) (x := 12) dX2_recall_10 rfl rfl ?_
    refine qi_getI (x := nI nx) flX2_24 dX2_recall_11 rfl (by decide) h2 ?_
    refine qi_bipush (v := 30) dX2_recall_14 rfl ?_
    refine qi_iadd dX2_recall_16 ?_
    refine qe_top (y := nI (nx + 30)) (nI_add nx 30) ?_
    refine qi_iconst (v := 1) dX2_recall_17 rfl ?_
    refine qi_isub dX2_recall_18 ?_
    refine qe_top (y := nI (nx + 29)) (pk_sub (a := nx + 30) (b := 1) (by omega)) ?_
    refine qi_bipush (v := 30) dX2_recall_19 rfl ?_
    refine qi_irem dX2_recall_21 (by decide) ?_
    refine qe_top (y := nI ((nx + 29) % 30)) (pk_rem (d := 30) (by omega) (by omega) (by omega)) ?_
    refine qi_putI flX2_24 q_cls2 (ty2_3 _) dX2_recall_22 rfl (by decide) ?_
    refine qi_aload_n (i := 0) (x := 12) dX2_recall_25 rfl rfl ?_
    refine qi_dup dX2_recall_26 ?_
    refine qi_getI (x := nI c.2.1) flX2_28 dX2_recall_27 rfl (by decide) ((wI_k (by decide)).trans h3) ?_
    refine qi_iconst (v := 1) dX2_recall_30 rfl ?_
    refine qi_isub dX2_recall_31 ?_
    refine qe_top (y := nI (c.2.1 - 1)) (pk_sub (b := 1) (by omega)) ?_
    refine qi_putI flX2_28 q_cls2 (ty2_4 _) dX2_recall_32 rfl (by decide) ?_
    generalize eM2 : wI (wI M 12 3 (nI ((nx + 29) % 30))) 12 4 (nI (c.2.1 - 1)) = M2
    have hf2 : qFr (fun b j => (b = 12 ∧ (j = 3 ∨ j = 4)) ∨ (224 ≤ b ∧ b ≤ 229)) M M2 := by
      rw [← eM2]
      exact (qFr.rf.wI (Or.inl ⟨rfl, Or.inl rfl⟩)).wI (Or.inl ⟨rfl, Or.inr rfl⟩)
    have hM2 := hM.fr hf2
    have k3 : M2.1 12 3 = nI ((nx + 29) % 30) := by rw [← eM2, wI_k (by decide), wI_s]
    have k4 : M2.1 12 4 = nI (c.2.1 - 1) := by rw [← eM2, wI_s]
    refine qi_aload_n (i := 1) (x := 224) dX2_recall_35 rfl rfl ?_
    refine qi_aload_n (i := 0) (x := 12) dX2_recall_36 rfl rfl ?_
    refine qi_getR (x := 13) flX2_11 dX2_recall_37 rfl (by decide) (hM2 12 0 13 rfl) ?_
    refine qi_aload_n (i := 0) (x := 12) dX2_recall_40 rfl rfl ?_
    refine qi_getI (x := nI ((nx + 29) % 30)) flX2_24 dX2_recall_41 rfl (by decide) k3 ?_
    refine qi_aaldN (x := 16 + 6 * ((nx + 29) % 30)) (j := (nx + 29) % 30) dX2_recall_44 rfl (by decide) rfl (by omega) (by decide) (hM2 13 ((nx + 29) % 30) (16 + 6 * ((nx + 29) % 30)) (qref_e hl)) ?_
    have hS2 : qSea M2 (16 + 6 * ((nx + 29) % 30)) (c.2.2 0) := (h5 0 (by omega)).fr hf2 (fun j k hj z => by omega)
    refine qi_callVV (K' := kX6_copyFrom) (As := [.ref (16 + 6 * ((nx + 29) % 30))]) mlX2_32 okX6_copyFrom dX2_recall_45 (c_X6_copyFrom g qIsS_sea hs (Or.inr (by omega)) hM2 hS2) rfl (by decide) rfl (by decide) rfl rfl (Nat.le_of_ble_eq_true rfl) ⟨(Nat.le_of_ble_eq_true rfl), (Nat.le_of_ble_eq_true rfl)⟩ ⟨Nat.le_refl _, Nat.le_refl _⟩ (fun M3 ⟨hR3, hf3⟩ => ?_)
    have hf3' : qFr (fun b j => (b = 12 ∧ (j = 3 ∨ j = 4)) ∨ (224 ≤ b ∧ b ≤ 229)) M M3 := hf2.tr (hf3.mono (fun b j z => Or.inr (by unfold SS at z; omega)))
    have hM3 := hM2.fr hf3
    refine qi_iconst (v := 1) dX2_recall_48 rfl ?_
    subst hres
    refine qi_retI rfl (by rfl) dX2_recall_49 (⟨rfl, hR3, ⟨(nx + 29) % 30, hl, (hf3.1 _ _ (by unfold SS; omega)).trans k3, (hf3.1 _ _ (by unfold SS; omega)).trans k4, (by show c.2.1 - 1 ≤ 30; omega), fun i hi => ?_⟩, hf3'⟩)
    have hi2 : i < c.2.1 - 1 := hi
    have q := (h5 (i + 1) (by omega)).fr hf3' (fun j k hj z => by have := Nat.mod_lt (nx + 29 - (i + 1)) (show 0 < 30 by omega); omega)
    rwa [show (nx + 29 - (i + 1)) % 30 = ((nx + 29) % 30 + 29 - i) % 30 by omega] at q
  · have c1 : c.2.1 = 0 := (nI_eq (a := c.2.1) (b := 0) (by omega) (by omega)).mp _h
    rw [if_pos c1] at hres
    refine qi_iconst (v := 0) dX2_recall_7 rfl ?_
    exact qi_retI rfl (by rfl) dX2_recall_8 (⟨by rw [hres], by rw [hres]; exact hS, by rw [hres]; exact hH0, qFr.rf⟩)
def SKp : Nat → Nat → Prop := fun b _ => b = 15 ∨ (196 ≤ b ∧ b ≤ 213)
set_option maxHeartbeats 1000000 in
theorem c_X2_keep (g : qG) {M : qM} (hM : qRf M) {ρ : Nat → Int32} (hS : qSea M 224 ρ) {η : qHd} (hH : qHdC M η) (s : Int32) : qI g 2 kX2_keep [.ref 12, .int s, .ref 224] M (fun r M' => r = (dHold s ρ η).1 ∧ qHdC M' (dHold s ρ η).2 ∧ qFr SKp M M') := by
  obtain ⟨res, hres⟩ : ∃ res, res = dHold s ρ η := ⟨_, rfl⟩
  rw [← hres]
  unfold dHold at hres
  have E : isF 3 s = 0 → qT g kX2_keep (qR 2 0 0) (qZI g (fun r M' => r = res.1 ∧ qHdC M' res.2 ∧ qFr SKp M M')) 9 [some (.ref 12), some (.int s), some (.ref 224)] [] 333 M (0, 0) := by
    intro hb
    rw [if_pos hb] at hres
    refine qi_iconst (v := 0) dX2_keep_9 rfl ?_
    exact qi_retI rfl (by rfl) dX2_keep_10 (⟨by rw [hres], by rw [hres]; exact hH, qFr.rf⟩)
  refine qI.of (j := 0) (pn_RX2) rfl ?_
  show qT g kX2_keep (qR 2 0 0) (qZI g (fun r M' => r = res.1 ∧ qHdC M' res.2 ∧ qFr SKp M M')) 0 [some (.ref 12), some (.int s), some (.ref 224)] [] 333 M (0, 0)
  refine qi_iload_n (i := 1) (x := s) dX2_keep_0 rfl rfl ?_
  refine qi_if_lt (tgt := 9) dX2_keep_1 (by decide) (fun a1 => ?_) (fun a1 => ?_)
  · exact E (if_neg (fun z => absurd a1 (Int32.not_lt.mpr z.1)))
  · refine qi_iload_n (i := 1) (x := s) dX2_keep_4 rfl rfl ?_
    refine qi_iconst (v := 3) dX2_keep_5 rfl ?_
    refine qi_icmp_lt (tgt := 11) dX2_keep_6 (by decide) (fun a2 => ?_) (fun a2 => ?_)
    · obtain ⟨k, hk0, rfl⟩ := nI_of a1
      have hk : k < 3 := (nI_ltI (b := 3) hk0 (by omega)).mp a2
      have hf : ¬ isF 3 (nI k) = 0 := by unfold isF; rw [if_pos ⟨Int32.not_lt.mp a1, a2⟩]; decide
      rw [if_neg hf, nI_clamp hk0] at hres
      have hs := qIsS_slot hk
      refine qi_aload_n (i := 0) (x := 12) dX2_keep_11 rfl rfl ?_
      refine qi_getR (x := 14) flX2_17 dX2_keep_12 rfl (by decide) (hM 12 1 14 rfl) ?_
      refine qi_iload_n (i := 1) (x := nI k) dX2_keep_15 rfl rfl ?_
      refine qi_aaldN (x := 196 + 6 * k) (j := k) dX2_keep_16 rfl (by decide) rfl (by omega) (by decide) (hM 14 k (196 + 6 * k) (qref_s hk)) ?_
      refine qi_aload_n (i := 2) (x := 224) dX2_keep_17 rfl rfl ?_
      refine qi_callVV (K' := kX6_copyFrom) (As := [.ref 224]) mlX2_32 okX6_copyFrom dX2_keep_18 (c_X6_copyFrom g hs qIsS_sea (Or.inl (by omega)) hM hS) hs.1 (by decide) rfl (by omega) rfl rfl (Nat.le_of_ble_eq_true rfl) ⟨(Nat.le_of_ble_eq_true rfl), (Nat.le_of_ble_eq_true rfl)⟩ ⟨Nat.le_refl _, Nat.le_refl _⟩ (fun M2 ⟨hR2, hf2⟩ => ?_)
      have hM2 := hM.fr hf2
      refine qi_aload_n (i := 0) (x := 12) dX2_keep_21 rfl rfl ?_
      refine qi_getR (x := 15) flX2_20 dX2_keep_22 rfl (by decide) (hM2 12 2 15 rfl) ?_
      refine qi_iload_n (i := 1) (x := nI k) dX2_keep_25 rfl rfl ?_
      refine qi_iconst (v := 1) dX2_keep_26 rfl ?_
      refine qi_zastN (j := k) dX2_keep_27 rfl (by decide) rfl (by omega) (by decide) (by rfl) ?_
      refine qi_iconst (v := 1) dX2_keep_28 rfl ?_
      subst hres
      refine qi_retI rfl (by rfl) dX2_keep_29 (⟨rfl, ⟨fun i hi => ?_, fun i hi h1 => ?_⟩, (hf2.mono (fun b j z => Or.inr (by unfold SS at z; omega))).wI (Or.inl rfl)⟩)
      · show (wI M2 15 k 1).1 15 i = set1 k 1 η.1 i ∧ (set1 k 1 η.1 i = 0 ∨ set1 k 1 η.1 i = 1)
        unfold set1
        by_cases c : i = k
        · rw [if_pos c, c, wI_s]
          exact ⟨rfl, Or.inr rfl⟩
        · rw [if_neg c, wI_k c]
          exact ⟨(hf2.1 _ _ (by unfold SS; omega)).trans (hH.1 i hi).1, (hH.1 i hi).2⟩
      · have fr2 : qFr (fun b _ => b = 15) M2 (wI M2 15 k 1) := qFr.rf.wI rfl
        have h1' : set1 k 1 η.1 i = 1 := h1
        show qSea _ _ (setF k ρ η.2 i)
        unfold setF
        unfold set1 at h1'
        by_cases c : i = k
        · rw [if_pos c, c]
          exact hR2.fr fr2 (fun j k hj z => by omega)
        · rw [if_neg c] at h1' ⊢
          exact ((hH.2 i hi h1').fr hf2 (fun j k hj z => by unfold SS at z; omega)).fr fr2 (fun j k hj z => by omega)
    · exact E (if_neg (fun z => a2 z.2))
set_option maxHeartbeats 1000000 in
theorem c_X2_bring (g : qG) {M : qM} (hM : qRf M) {c : qCo} (hS : qSea M 224 c.1) (hHi : qHistC M c.2.1 c.2.2) {η : qHd} (hH : qHdC M η) (s : Int32) : qI g 2 kX2_bring [.ref 12, .int s, .ref 224] M (fun r M' => r = (dRestore s c η).1 ∧ qSea M' 224 (dRestore s c η).2.1 ∧ qHistC M' (dRestore s c η).2.2.1 (dRestore s c η).2.2.2 ∧ qFr (fun b j => (b = 12 ∧ (j = 3 ∨ j = 4)) ∨ (224 ≤ b ∧ b ≤ 229)) M M') := by
  obtain ⟨res, hres⟩ : ∃ res, res = dRestore s c η := ⟨_, rfl⟩
  rw [← hres]
  unfold dRestore at hres
  have E : (isF 3 s = 0 ∨ η.1 s.toNatClampNeg = 0) → qT g kX2_bring (qR 2 0 0) (qZI g (fun r M' => r = res.1 ∧ qSea M' 224 res.2.1 ∧ qHistC M' res.2.2.1 res.2.2.2 ∧ qFr (fun b j => (b = 12 ∧ (j = 3 ∨ j = 4)) ∨ (224 ≤ b ∧ b ≤ 229)) M M')) 18 [some (.ref 12), some (.int s), some (.ref 224)] [] 333 M (0, 0) := by
    intro hb
    rw [if_pos hb] at hres
    refine qi_iconst (v := 0) dX2_bring_18 rfl ?_
    exact qi_retI rfl (by rfl) dX2_bring_19 (⟨by rw [hres], by rw [hres]; exact hS, by rw [hres]; exact hHi, qFr.rf⟩)
  refine qI.of (j := 0) (pn_RX2) rfl ?_
  show qT g kX2_bring (qR 2 0 0) (qZI g (fun r M' => r = res.1 ∧ qSea M' 224 res.2.1 ∧ qHistC M' res.2.2.1 res.2.2.2 ∧ qFr (fun b j => (b = 12 ∧ (j = 3 ∨ j = 4)) ∨ (224 ≤ b ∧ b ≤ 229)) M M')) 0 [some (.ref 12), some (.int s), some (.ref 224)] [] 333 M (0, 0)
  refine qi_iload_n (i := 1) (x := s) dX2_bring_0 rfl rfl ?_
  refine qi_if_lt (tgt := 18) dX2_bring_1 (by decide) (fun a1 => ?_) (fun a1 => ?_)
  · exact E (Or.inl (if_neg (fun z => absurd a1 (Int32.not_lt.mpr z.1))))
  · refine qi_iload_n (i := 1) (x := s) dX2_bring_4 rfl rfl ?_
    refine qi_iconst (v := 3) dX2_bring_5 rfl ?_
    refine qi_icmp_ge (tgt := 18) dX2_bring_6 (by decide) (fun a2 => ?_) (fun a2 => ?_)
    · exact E (Or.inl (if_neg (fun z => absurd z.2 (Int32.not_lt.mpr a2))))
    · obtain ⟨k, hk0, rfl⟩ := nI_of a1
      have hk : k < 3 := (nI_ltI (b := 3) hk0 (by omega)).mp (Int32.not_le.mp a2)
      have hf : ¬ isF 3 (nI k) = 0 := by unfold isF; rw [if_pos ⟨Int32.not_lt.mp a1, Int32.not_le.mp a2⟩]; decide
      have hs := qIsS_slot hk
      have hb1 := (hH.1 k hk).1
      rw [nI_clamp hk0] at hres E
      refine qi_aload_n (i := 0) (x := 12) dX2_bring_9 rfl rfl ?_
      refine qi_getR (x := 15) flX2_20 dX2_bring_10 rfl (by decide) (hM 12 2 15 rfl) ?_
      refine qi_iload_n (i := 1) (x := nI k) dX2_bring_13 rfl rfl ?_
      refine qi_zaldN (x := η.1 k) (j := k) dX2_bring_14 rfl (by decide) rfl (by omega) (by decide) hb1 ?_
      refine qi_if_ne (tgt := 20) dX2_bring_15 (by decide) (fun a3 => ?_) (fun a3 => ?_)
      · rw [if_neg (fun z => z.elim hf a3)] at hres
        have hb : η.1 k = 1 := ((hH.1 k hk).2).resolve_left a3
        refine qi_aload_n (i := 2) (x := 224) dX2_bring_20 rfl rfl ?_
        refine qi_aload_n (i := 0) (x := 12) dX2_bring_21 rfl rfl ?_
        refine qi_getR (x := 14) flX2_17 dX2_bring_22 rfl (by decide) (hM 12 1 14 rfl) ?_
        refine qi_iload_n (i := 1) (x := nI k) dX2_bring_25 rfl rfl ?_
        refine qi_aaldN (x := 196 + 6 * k) (j := k) dX2_bring_26 rfl (by decide) rfl (by omega) (by decide) (hM 14 k (196 + 6 * k) (qref_s hk)) ?_
        refine qi_callVV (K' := kX6_copyFrom) (As := [.ref (196 + 6 * k)]) mlX2_32 okX6_copyFrom dX2_bring_27 (c_X6_copyFrom g qIsS_sea hs (Or.inr (by omega)) hM (hH.2 k hk hb)) rfl (by decide) rfl (by decide) rfl rfl (Nat.le_of_ble_eq_true rfl) ⟨(Nat.le_of_ble_eq_true rfl), (Nat.le_of_ble_eq_true rfl)⟩ ⟨Nat.le_refl _, Nat.le_refl _⟩ (fun M2 ⟨hR2, hf2⟩ => ?_)
        have hM2 := hM.fr hf2
        obtain ⟨nx, h1, h2, -, -, -⟩ := hHi
        refine qi_aload_n (i := 0) (x := 12) dX2_bring_30 rfl rfl ?_
        refine qi_iconst (v := 0) dX2_bring_31 rfl ?_
        refine qi_putI flX2_28 q_cls2 (ty2_4 _) dX2_bring_32 rfl (by decide) ?_
        refine qi_iconst (v := 1) dX2_bring_35 rfl ?_
        subst hres
        exact qi_retI rfl (by rfl) dX2_bring_36 (⟨rfl, hR2.fr (qFr.rf.wI (S := fun b _ => b = 12) rfl) (fun j k hj z => by omega), ⟨nx, h1, by rw [wI_k (by decide)]; exact (hf2.1 _ _ (by unfold SS; omega)).trans h2, wI_s _ _ _ _, Nat.zero_le _, fun i hi => absurd hi (Nat.not_lt_zero _)⟩, (hf2.mono (fun b j z => Or.inr (by unfold SS at z; omega))).wI (Or.inl ⟨rfl, Or.inr rfl⟩)⟩)
      · exact E (Or.inr a3)
