/-! ThimbleSea$Tape; feed, back -/
def STc : Nat → Nat → Prop := fun b j => b = 2 ∨ (b = 1 ∧ j = 1)
theorem by_cls (w s : Int32) (k : Nat) (hs : ((s.toUInt32 &&& Int32.toUInt32 31).toBitVec % 32).toNat = k) : (w.toUInt32 >>> (s.toUInt32 &&& Int32.toUInt32 31)).toInt32 &&& 255 = nI (byF w k) := by
  rw [pk_and _ 8 rfl, pk_ushr w s k hs]
  rfl
theorem sh_u : (((24 : Int32).toUInt32 &&& Int32.toUInt32 31).toBitVec % 32).toNat = 24 ∧ ((((24 : Int32) + (-8)).toUInt32 &&& Int32.toUInt32 31).toBitVec % 32).toNat = 16 ∧ (((((24 : Int32) + (-8)) + (-8)).toUInt32 &&& Int32.toUInt32 31).toBitVec % 32).toNat = 8 ∧ ((((((24 : Int32) + (-8)) + (-8)) + (-8)).toUInt32 &&& Int32.toUInt32 31).toBitVec % 32).toNat = 0 := by decide +kernel
set_option maxHeartbeats 1000000 in
theorem c_X7_addFour (g : qG) {M : qM} (hM : qRf M) {t : qTp} (hT : qTpC M t) (h2 : t.1 + 4 ≤ 2000) (w : Int32) : qV g 0 kX7_addFour [.ref 1, .int w] M (fun M' => qTpC M' (putF w t) ∧ qFr STc M M') := by
  refine qV.of (j := 1) (pn_RX7) rfl ?_
  show qT g kX7_addFour (qR 0 0 0) (qZV g (fun M' => qTpC M' (putF w t) ∧ qFr STc M M')) 0 [some (.ref 1), some (.int w), none] [] 333 M (0, 0)
  refine qi_bipush (v := 24) dX7_addFour_0 rfl ?_
  refine qi_istore_n (i := 2) (L2 := [some (.ref 1), some (.int w), some (.int 24)]) dX7_addFour_2 rfl (Nat.le_of_ble_eq_true rfl) rfl ?_
  refine qi_iload_n (i := 2) (x := 24) dX7_addFour_3 rfl rfl ?_
  refine qi_if_lt (tgt := 49) dX7_addFour_4 (by decide) (fun z => False.elim (absurd z (by decide))) (fun z => ?_)
  refine qi_aload_n (i := 0) (x := 1) dX7_addFour_7 rfl rfl ?_
  refine qi_getI (x := nI t.1) flX7_15 dX7_addFour_8 rfl (by decide) hT.1 ?_
  refine qi_sipush (v := 2000) dX7_addFour_11 rfl ?_
  refine qi_icmp_ge (tgt := 49) dX7_addFour_14 (by decide) (fun _h => absurd ((nI_leI (a := 2000) (b := t.1) (by omega) (by omega)).mp _h) (by omega)) (fun _hc => ?_)
  refine qi_aload_n (i := 0) (x := 1) dX7_addFour_17 rfl rfl ?_
  refine qi_getR (x := 2) flX7_9 dX7_addFour_18 rfl (by decide) (hM 1 0 2 rfl) ?_
  refine qi_aload_n (i := 0) (x := 1) dX7_addFour_21 rfl rfl ?_
  refine qi_getI (x := nI t.1) flX7_15 dX7_addFour_22 rfl (by decide) hT.1 ?_
  refine qi_iload_n (i := 1) (x := w) dX7_addFour_25 rfl rfl ?_
  refine qi_iload_n (i := 2) (x := 24) dX7_addFour_26 rfl rfl ?_
  refine qi_iushr dX7_addFour_27 ?_
  refine qi_sipush (v := 255) dX7_addFour_28 rfl ?_
  refine qi_iand dX7_addFour_31 ?_
  refine qe_top (y := nI (byF w 24)) (by_cls w _ 24 sh_u.1) ?_
  refine qi_iastN (j := t.1) dX7_addFour_32 rfl (by decide) rfl (by omega) (by decide) ?_
  refine qi_aload_n (i := 0) (x := 1) dX7_addFour_33 rfl rfl ?_
  refine qi_dup dX7_addFour_34 ?_
  refine qi_getI (x := nI t.1) flX7_15 dX7_addFour_35 rfl (by decide) ((wI_a (by decide)).trans hT.1) ?_
  refine qi_iconst (v := 1) dX7_addFour_38 rfl ?_
  refine qi_iadd dX7_addFour_39 ?_
  refine qe_top (y := nI (t.1 + 1)) (nI_1 _) ?_
  refine qi_putI flX7_15 q_cls7 (ty7_1 _) dX7_addFour_40 rfl (by decide) ?_
  refine qi_iinc (i := 2) (x := 24) (v := 24 + (-8)) (L2 := [some (.ref 1), some (.int w), some (.int (24 + (-8)))]) dX7_addFour_43 rfl rfl (Nat.le_of_ble_eq_true rfl) rfl ?_
  refine qi_goto (tgt := 3) dX7_addFour_46 (by decide) ?_
  refine qi_iload_n (i := 2) (x := 24 + (-8)) dX7_addFour_3 rfl rfl ?_
  refine qi_if_lt (tgt := 49) dX7_addFour_4 (by decide) (fun z => False.elim (absurd z (by decide))) (fun z => ?_)
  refine qi_aload_n (i := 0) (x := 1) dX7_addFour_7 rfl rfl ?_
  refine qi_getI (x := nI (t.1 + 1)) flX7_15 dX7_addFour_8 rfl (by decide) (wI_s _ _ _ _) ?_
  refine qi_sipush (v := 2000) dX7_addFour_11 rfl ?_
  refine qi_icmp_ge (tgt := 49) dX7_addFour_14 (by decide) (fun _h => absurd ((nI_leI (a := 2000) (b := t.1 + 1) (by omega) (by omega)).mp _h) (by omega)) (fun _hc => ?_)
  refine qi_aload_n (i := 0) (x := 1) dX7_addFour_17 rfl rfl ?_
  refine qi_getR (x := 2) flX7_9 dX7_addFour_18 rfl (by decide) (hM 1 0 2 rfl) ?_
  refine qi_aload_n (i := 0) (x := 1) dX7_addFour_21 rfl rfl ?_
  refine qi_getI (x := nI (t.1 + 1)) flX7_15 dX7_addFour_22 rfl (by decide) (wI_s _ _ _ _) ?_
  refine qi_iload_n (i := 1) (x := w) dX7_addFour_25 rfl rfl ?_
  refine qi_iload_n (i := 2) (x := 24 + (-8)) dX7_addFour_26 rfl rfl ?_
  refine qi_iushr dX7_addFour_27 ?_
  refine qi_sipush (v := 255) dX7_addFour_28 rfl ?_
  refine qi_iand dX7_addFour_31 ?_
  refine qe_top (y := nI (byF w 16)) (by_cls w _ 16 sh_u.2.1) ?_
  refine qi_iastN (j := t.1 + 1) dX7_addFour_32 rfl (by decide) rfl (by omega) (by decide) ?_
  refine qi_aload_n (i := 0) (x := 1) dX7_addFour_33 rfl rfl ?_
  refine qi_dup dX7_addFour_34 ?_
  refine qi_getI (x := nI (t.1 + 1)) flX7_15 dX7_addFour_35 rfl (by decide) ((wI_a (by decide)).trans (wI_s _ _ _ _)) ?_
  refine qi_iconst (v := 1) dX7_addFour_38 rfl ?_
  refine qi_iadd dX7_addFour_39 ?_
  refine qe_top (y := nI (t.1 + 1 + 1)) (nI_1 _) ?_
  refine qi_putI flX7_15 q_cls7 (ty7_1 _) dX7_addFour_40 rfl (by decide) ?_
  refine qi_iinc (i := 2) (x := 24 + (-8)) (v := 24 + (-8) + (-8)) (L2 := [some (.ref 1), some (.int w), some (.int (24 + (-8) + (-8)))]) dX7_addFour_43 rfl rfl (Nat.le_of_ble_eq_true rfl) rfl ?_
  refine qi_goto (tgt := 3) dX7_addFour_46 (by decide) ?_
  refine qi_iload_n (i := 2) (x := 24 + (-8) + (-8)) dX7_addFour_3 rfl rfl ?_
  refine qi_if_lt (tgt := 49) dX7_addFour_4 (by decide) (fun z => False.elim (absurd z (by decide))) (fun z => ?_)
  refine qi_aload_n (i := 0) (x := 1) dX7_addFour_7 rfl rfl ?_
  refine qi_getI (x := nI (t.1 + 1 + 1)) flX7_15 dX7_addFour_8 rfl (by decide) (wI_s _ _ _ _) ?_
  refine qi_sipush (v := 2000) dX7_addFour_11 rfl ?_
  refine qi_icmp_ge (tgt := 49) dX7_addFour_14 (by decide) (fun _h => absurd ((nI_leI (a := 2000) (b := t.1 + 1 + 1) (by omega) (by omega)).mp _h) (by omega)) (fun _hc => ?_)
  refine qi_aload_n (i := 0) (x := 1) dX7_addFour_17 rfl rfl ?_
  refine qi_getR (x := 2) flX7_9 dX7_addFour_18 rfl (by decide) (hM 1 0 2 rfl) ?_
  refine qi_aload_n (i := 0) (x := 1) dX7_addFour_21 rfl rfl ?_
  refine qi_getI (x := nI (t.1 + 1 + 1)) flX7_15 dX7_addFour_22 rfl (by decide) (wI_s _ _ _ _) ?_
  refine qi_iload_n (i := 1) (x := w) dX7_addFour_25 rfl rfl ?_
  refine qi_iload_n (i := 2) (x := 24 + (-8) + (-8)) dX7_addFour_26 rfl rfl ?_
  refine qi_iushr dX7_addFour_27 ?_
  refine qi_sipush (v := 255) dX7_addFour_28 rfl ?_
  refine qi_iand dX7_addFour_31 ?_
  refine qe_top (y := nI (byF w 8)) (by_cls w _ 8 sh_u.2.2.1) ?_
  refine qi_iastN (j := t.1 + 1 + 1) dX7_addFour_32 rfl (by decide) rfl (by omega) (by decide) ?_
  refine qi_aload_n (i := 0) (x := 1) dX7_addFour_33 rfl rfl ?_
  refine qi_dup dX7_addFour_34 ?_
  refine qi_getI (x := nI (t.1 + 1 + 1)) flX7_15 dX7_addFour_35 rfl (by decide) ((wI_a (by decide)).trans (wI_s _ _ _ _)) ?_
  refine qi_iconst (v := 1) dX7_addFour_38 rfl ?_
  refine qi_iadd dX7_addFour_39 ?_
  refine qe_top (y := nI (t.1 + 1 + 1 + 1)) (nI_1 _) ?_
  refine qi_putI flX7_15 q_cls7 (ty7_1 _) dX7_addFour_40 rfl (by decide) ?_
  refine qi_iinc (i := 2) (x := 24 + (-8) + (-8)) (v := 24 + (-8) + (-8) + (-8)) (L2 := [some (.ref 1), some (.int w), some (.int (24 + (-8) + (-8) + (-8)))]) dX7_addFour_43 rfl rfl (Nat.le_of_ble_eq_true rfl) rfl ?_
  refine qi_goto (tgt := 3) dX7_addFour_46 (by decide) ?_
  refine qi_iload_n (i := 2) (x := 24 + (-8) + (-8) + (-8)) dX7_addFour_3 rfl rfl ?_
  refine qi_if_lt (tgt := 49) dX7_addFour_4 (by decide) (fun z => False.elim (absurd z (by decide))) (fun z => ?_)
  refine qi_aload_n (i := 0) (x := 1) dX7_addFour_7 rfl rfl ?_
  refine qi_getI (x := nI (t.1 + 1 + 1 + 1)) flX7_15 dX7_addFour_8 rfl (by decide) (wI_s _ _ _ _) ?_
  refine qi_sipush (v := 2000) dX7_addFour_11 rfl ?_
  refine qi_icmp_ge (tgt := 49) dX7_addFour_14 (by decide) (fun _h => absurd ((nI_leI (a := 2000) (b := t.1 + 1 + 1 + 1) (by omega) (by omega)).mp _h) (by omega)) (fun _hc => ?_)
  refine qi_aload_n (i := 0) (x := 1) dX7_addFour_17 rfl rfl ?_
  refine qi_getR (x := 2) flX7_9 dX7_addFour_18 rfl (by decide) (hM 1 0 2 rfl) ?_
  refine qi_aload_n (i := 0) (x := 1) dX7_addFour_21 rfl rfl ?_
  refine qi_getI (x := nI (t.1 + 1 + 1 + 1)) flX7_15 dX7_addFour_22 rfl (by decide) (wI_s _ _ _ _) ?_
  refine qi_iload_n (i := 1) (x := w) dX7_addFour_25 rfl rfl ?_
  refine qi_iload_n (i := 2) (x := 24 + (-8) + (-8) + (-8)) dX7_addFour_26 rfl rfl ?_
  refine qi_iushr dX7_addFour_27 ?_
  refine qi_sipush (v := 255) dX7_addFour_28 rfl ?_
  refine qi_iand dX7_addFour_31 ?_
  refine qe_top (y := nI (byF w 0)) (by_cls w _ 0 sh_u.2.2.2) ?_
  refine qi_iastN (j := t.1 + 1 + 1 + 1) dX7_addFour_32 rfl (by decide) rfl (by omega) (by decide) ?_
  refine qi_aload_n (i := 0) (x := 1) dX7_addFour_33 rfl rfl ?_
  refine qi_dup dX7_addFour_34 ?_
  refine qi_getI (x := nI (t.1 + 1 + 1 + 1)) flX7_15 dX7_addFour_35 rfl (by decide) ((wI_a (by decide)).trans (wI_s _ _ _ _)) ?_
  refine qi_iconst (v := 1) dX7_addFour_38 rfl ?_
  refine qi_iadd dX7_addFour_39 ?_
  refine qe_top (y := nI (t.1 + 1 + 1 + 1 + 1)) (nI_1 _) ?_
  refine qi_putI flX7_15 q_cls7 (ty7_1 _) dX7_addFour_40 rfl (by decide) ?_
  refine qi_iinc (i := 2) (x := 24 + (-8) + (-8) + (-8)) (v := 24 + (-8) + (-8) + (-8) + (-8)) (L2 := [some (.ref 1), some (.int w), some (.int (24 + (-8) + (-8) + (-8) + (-8)))]) dX7_addFour_43 rfl rfl (Nat.le_of_ble_eq_true rfl) rfl ?_
  refine qi_goto (tgt := 3) dX7_addFour_46 (by decide) ?_
  refine qi_iload_n (i := 2) (x := 24 + (-8) + (-8) + (-8) + (-8)) dX7_addFour_3 rfl rfl ?_
  refine qi_if_lt (tgt := 49) dX7_addFour_4 (by decide) (fun z => ?_) (fun z => False.elim (z (by decide)))
  refine qi_retV rfl dX7_addFour_49 (⟨⟨wI_s _ _ _ _, fun k hk => ?_⟩, (((((((qFr.rf.wI (Or.inl rfl)).wI (Or.inr ⟨rfl, rfl⟩)).wI (Or.inl rfl)).wI (Or.inr ⟨rfl, rfl⟩)).wI (Or.inl rfl)).wI (Or.inr ⟨rfl, rfl⟩)).wI (Or.inl rfl)).wI (Or.inr ⟨rfl, rfl⟩)⟩)
  have hk2 : k < t.1 + 4 := hk
  show _ = nI (if k = t.1 then byF w 24 else if k = t.1 + 1 then byF w 16 else if k = t.1 + 2 then byF w 8 else if k = t.1 + 3 then byF w 0 else t.2 k)
  rw [wI_a (by decide)]
  by_cases k3 : k = t.1 + 3
  · rw [if_neg (by omega), if_neg (by omega), if_neg (by omega), if_pos k3, k3]
    exact wI_s _ _ _ _
  rw [wI_k k3, wI_a (by decide)]
  by_cases k2 : k = t.1 + 2
  · rw [if_neg (by omega), if_neg (by omega), if_pos k2, k2]
    exact wI_s _ _ _ _
  rw [wI_k k2, wI_a (by decide)]
  by_cases k1 : k = t.1 + 1
  · rw [if_neg (by omega), if_pos k1, k1]
    exact wI_s _ _ _ _
  rw [wI_k k1, wI_a (by decide)]
  by_cases k0 : k = t.1
  · rw [if_pos k0, k0]
    exact wI_s _ _ _ _
  rw [wI_k k0, if_neg k0, if_neg k1, if_neg k2, if_neg k3]
  exact hT.2 k (by omega)
set_option maxHeartbeats 1000000 in
theorem c_X11_feed (g : qG) {M : qM} (hM : qRf M) {t : qTp} (hT : qTpC M t) (h2 : t.1 ≤ 2000) (a b c d e : Int32) : qI g 1 kX11_feed [.ref 0, .int a, .int b, .int c, .int d, .int e] M (fun r M' => r = (dFeed a b c d e t).1 ∧ qTpC M' (dFeed a b c d e t).2 ∧ qFr STc M M') := by
  obtain ⟨res, hres⟩ : ∃ res, res = dFeed a b c d e t := ⟨_, rfl⟩
  rw [← hres]
  unfold dFeed at hres
  refine qI.of (j := 0) (pn_RX11) rfl ?_
  show qT g kX11_feed (qR 1 0 0) (qZI g (fun r M' => r = res.1 ∧ qTpC M' res.2 ∧ qFr STc M M')) 0 [some (.ref 0), some (.int a), some (.int b), some (.int c), some (.int d), some (.int e)] [] 333 M (0, 0)
  refine qi_aload_n (i := 0) (x := 0) dX11_feed_0 rfl rfl ?_
  refine qi_getR (x := 1) flX11_12 dX11_feed_1 rfl (by decide) (hM 0 0 1 rfl) ?_
  refine qi_getI (x := nI t.1) flX11_85 dX11_feed_4 rfl (by decide) hT.1 ?_
  refine qi_sipush (v := 1980) dX11_feed_7 rfl ?_
  refine qi_icmp_le (tgt := 15) dX11_feed_10 (by decide) (fun _h => ?_) (fun _h => ?_)
  · have c1 : t.1 ≤ 1980 := (nI_leI (a := t.1) (b := 1980) (by omega) (by omega)).mp _h
    rw [if_neg (by omega)] at hres
    have h1 : t.1 + 20 ≤ 2000 := by omega
    refine qi_aload_n (i := 0) (x := 0) dX11_feed_15 rfl rfl ?_
    refine qi_getR (x := 1) flX11_12 dX11_feed_16 rfl (by decide) (hM 0 0 1 rfl) ?_
    refine qi_iload_n (i := 1) (x := a) dX11_feed_19 rfl rfl ?_
    refine qi_callVV (K' := kX7_addFour) (As := [.int a]) mlX11_88 okX7_addFour dX11_feed_20 (c_X7_addFour g hM hT (by omega) a) rfl (by decide) rfl (by decide) rfl rfl (Nat.le_of_ble_eq_true rfl) ⟨(Nat.le_of_ble_eq_true rfl), (Nat.le_of_ble_eq_true rfl)⟩ ⟨Nat.le_refl _, Nat.le_refl _⟩ (fun M1 ⟨hT1, hf1⟩ => ?_)
    have hM1 := hM.fr hf1
    refine qi_aload_n (i := 0) (x := 0) dX11_feed_23 rfl rfl ?_
    refine qi_getR (x := 1) flX11_12 dX11_feed_24 rfl (by decide) (hM1 0 0 1 rfl) ?_
    refine qi_iload_n (i := 2) (x := b) dX11_feed_27 rfl rfl ?_
    refine qi_callVV (K' := kX7_addFour) (As := [.int b]) mlX11_88 okX7_addFour dX11_feed_28 (c_X7_addFour g hM1 hT1 (by show t.1 + 4 + 4 ≤ 2000; omega) b) rfl (by decide) rfl (by decide) rfl rfl (Nat.le_of_ble_eq_true rfl) ⟨(Nat.le_of_ble_eq_true rfl), (Nat.le_of_ble_eq_true rfl)⟩ ⟨Nat.le_refl _, Nat.le_refl _⟩ (fun M2 ⟨hT2, hf2⟩ => ?_)
    have hM2 := hM1.fr hf2
    refine qi_aload_n (i := 0) (x := 0) dX11_feed_31 rfl rfl ?_
    refine qi_getR (x := 1) flX11_12 dX11_feed_32 rfl (by decide) (hM2 0 0 1 rfl) ?_
    refine qi_iload_n (i := 3) (x := c) dX11_feed_35 rfl rfl ?_
    refine qi_callVV (K' := kX7_addFour) (As := [.int c]) mlX11_88 okX7_addFour dX11_feed_36 (c_X7_addFour g hM2 hT2 (by show t.1 + 4 + 4 + 4 ≤ 2000; omega) c) rfl (by decide) rfl (by decide) rfl rfl (Nat.le_of_ble_eq_true rfl) ⟨(Nat.le_of_ble_eq_true rfl), (Nat.le_of_ble_eq_true rfl)⟩ ⟨Nat.le_refl _, Nat.le_refl _⟩ (fun M3 ⟨hT3, hf3⟩ => ?_)
    have hM3 := hM2.fr hf3
    refine qi_aload_n (i := 0) (x := 0) dX11_feed_39 rfl rfl ?_
    refine qi_getR (x := 1) flX11_12 dX11_feed_40 rfl (by decide) (hM3 0 0 1 rfl) ?_
    refine qi_iload (i := 4) (x := d) dX11_feed_43 rfl ?_
    refine qi_callVV (K' := kX7_addFour) (As := [.int d]) mlX11_88 okX7_addFour dX11_feed_45 (c_X7_addFour g hM3 hT3 (by show t.1 + 4 + 4 + 4 + 4 ≤ 2000; omega) d) rfl (by decide) rfl (by decide) rfl rfl (Nat.le_of_ble_eq_true rfl) ⟨(Nat.le_of_ble_eq_true rfl), (Nat.le_of_ble_eq_true rfl)⟩ ⟨Nat.le_refl _, Nat.le_refl _⟩ (fun M4 ⟨hT4, hf4⟩ => ?_)
    have hM4 := hM3.fr hf4
    refine qi_aload_n (i := 0) (x := 0) dX11_feed_48 rfl rfl ?_
    refine qi_getR (x := 1) flX11_12 dX11_feed_49 rfl (by decide) (hM4 0 0 1 rfl) ?_
    refine qi_iload (i := 5) (x := e) dX11_feed_52 rfl ?_
    refine qi_callVV (K' := kX7_addFour) (As := [.int e]) mlX11_88 okX7_addFour dX11_feed_54 (c_X7_addFour g hM4 hT4 (by show t.1 + 4 + 4 + 4 + 4 + 4 ≤ 2000; omega) e) rfl (by decide) rfl (by decide) rfl rfl (Nat.le_of_ble_eq_true rfl) ⟨(Nat.le_of_ble_eq_true rfl), (Nat.le_of_ble_eq_true rfl)⟩ ⟨Nat.le_refl _, Nat.le_refl _⟩ (fun M5 ⟨hT5, hf5⟩ => ?_)
    have hM5 := hM4.fr hf5
    refine qi_aload_n (i := 0) (x := 0) dX11_feed_57 rfl rfl ?_
    refine qi_getR (x := 1) flX11_12 dX11_feed_58 rfl (by decide) (hM5 0 0 1 rfl) ?_
    refine qi_getI (x := M5.1 1 1) flX11_85 dX11_feed_61 rfl (by decide) rfl ?_
    subst hres
    exact qi_retI rfl rfl dX11_feed_64 (⟨hT5.1, hT5, (((hf1.tr hf2).tr hf3).tr hf4).tr hf5⟩)
  · have c1 : ¬ (t.1 ≤ 1980) := fun z => _h ((nI_leI (a := t.1) (b := 1980) (by omega) (by omega)).mpr z)
    rw [if_pos (by omega)] at hres
    subst hres
    refine qi_iconst (v := -1) dX11_feed_13 rfl ?_
    exact qi_retI rfl rfl dX11_feed_14 (⟨rfl, hT, qFr.rf⟩)
set_option maxHeartbeats 1000000 in
theorem c_X11_back (g : qG) {M : qM} (hM : qRf M) {t : qTp} (hT : qTpC M t) (h2 : t.1 ≤ 2000) (n : Int32) : qI g 0 kX11_back [.ref 0, .int n] M (fun r M' => r = (dBack n t).1 ∧ qTpC M' (dBack n t).2 ∧ qFr STc M M') := by
  obtain ⟨res, hres⟩ : ∃ res, res = dBack n t := ⟨_, rfl⟩
  rw [← hres]
  unfold dBack at hres
  have E : (n < 0 ∨ nI t.1 < n) → qT g kX11_back (qR 0 0 0) (qZI g (fun r M' => r = res.1 ∧ qTpC M' res.2 ∧ qFr STc M M')) 15 [some (.ref 0), some (.int n)] [] 333 M (0, 0) := by
    intro hb
    rw [if_pos hb] at hres
    subst hres
    refine qi_iconst (v := -1) dX11_back_15 rfl ?_
    exact qi_retI rfl rfl dX11_back_16 (⟨rfl, hT, qFr.rf⟩)
  refine qI.of (j := 0) (pn_RX11) rfl ?_
  show qT g kX11_back (qR 0 0 0) (qZI g (fun r M' => r = res.1 ∧ qTpC M' res.2 ∧ qFr STc M M')) 0 [some (.ref 0), some (.int n)] [] 333 M (0, 0)
  refine qi_iload_n (i := 1) (x := n) dX11_back_0 rfl rfl ?_
  refine qi_if_lt (tgt := 15) dX11_back_1 (by decide) (fun c1 => ?_) (fun c1 => ?_)
  · exact E (Or.inl c1)
  · refine qi_iload_n (i := 1) (x := n) dX11_back_4 rfl rfl ?_
    refine qi_aload_n (i := 0) (x := 0) dX11_back_5 rfl rfl ?_
    refine qi_getR (x := 1) flX11_12 dX11_back_6 rfl (by decide) (hM 0 0 1 rfl) ?_
    refine qi_getI (x := nI t.1) flX11_85 dX11_back_9 rfl (by decide) hT.1 ?_
    refine qi_icmp_le (tgt := 17) dX11_back_12 (by decide) (fun c2 => ?_) (fun c2 => ?_)
    · rw [if_neg (fun z => z.elim c1 (fun z => absurd z (Int32.not_lt.mpr c2)))] at hres
      obtain ⟨k, hk, ek⟩ := nI_of c1
      rw [ek, nI_leI hk (by omega)] at c2
      rw [ek, nI_clamp hk] at hres
      rw [ek]
      refine qi_aload_n (i := 0) (x := 0) dX11_back_17 rfl rfl ?_
      refine qi_getR (x := 1) flX11_12 dX11_back_18 rfl (by decide) (hM 0 0 1 rfl) ?_
      refine qi_dup dX11_back_21 ?_
      refine qi_getI (x := nI t.1) flX11_85 dX11_back_22 rfl (by decide) hT.1 ?_
      refine qi_iload_n (i := 1) (x := nI k) dX11_back_25 rfl rfl ?_
      refine qi_isub dX11_back_26 ?_
      refine qe_top (y := nI (t.1 - k)) (pk_sub c2) ?_
      refine qi_putI flX11_85 q_cls7 (ty7_1 _) dX11_back_27 rfl (by decide) ?_
      refine qi_aload_n (i := 0) (x := 0) dX11_back_30 rfl rfl ?_
      refine qi_getR (x := 1) flX11_12 dX11_back_31 rfl (by decide) (hM 0 0 1 rfl) ?_
      refine qi_getI (x := nI (t.1 - k)) flX11_85 dX11_back_34 rfl (by decide) (wI_s _ _ _ _) ?_
      subst hres
      exact qi_retI rfl rfl dX11_back_37 (⟨rfl, ⟨wI_s _ _ _ _, fun j hj => by rw [wI_a (by decide)]; exact hT.2 j (by have : j < t.1 - k := hj; omega)⟩, qFr.rf.wI (Or.inr ⟨rfl, rfl⟩)⟩)
    · exact E (Or.inr (Int32.not_le.mp c2))
theorem c_X7_byteAt (g : qG) {M : qM} (hM : qRf M) {t : qTp} (hT : qTpC M t) (h2 : t.1 ≤ 2000) {k : Nat} (hk : k < t.1) : qI g 0 kX7_byteAt [.ref 1, .int (nI k)] M (fun r M' => r = nI (t.2 k) ∧ M' = M) := by
  have h3 := hT.2 k hk
  refine qI.of (j := 0) (pn_RX7) rfl ?_
  show qT g kX7_byteAt (qR 0 0 0) (qZI g (fun r M' => r = (nI (t.2 k)) ∧ M' = M)) 0 [some (.ref 1), some (.int (nI k))] [] 333 M (0, 0)
  refine qi_iload_n (i := 1) (x := nI k) dX7_byteAt_0 rfl rfl ?_
  refine qi_if_lt (tgt := 21) dX7_byteAt_1 (by decide) (fun _h => absurd ((nI_ltI (a := k) (b := 0) (by omega) (by omega)).mp _h) (by omega)) (fun _hc => ?_)
  refine qi_iload_n (i := 1) (x := nI k) dX7_byteAt_4 rfl rfl ?_
  refine qi_aload_n (i := 0) (x := 1) dX7_byteAt_5 rfl rfl ?_
  refine qi_getI (x := nI t.1) flX7_15 dX7_byteAt_6 rfl (by decide) hT.1 ?_
  refine qi_icmp_ge (tgt := 21) dX7_byteAt_9 (by decide) (fun _h => absurd ((nI_leI (a := t.1) (b := k) (by omega) (by omega)).mp _h) (by omega)) (fun _hc => ?_)
  refine qi_aload_n (i := 0) (x := 1) dX7_byteAt_12 rfl rfl ?_
  refine qi_getR (x := 2) flX7_9 dX7_byteAt_13 rfl (by decide) (hM 1 0 2 rfl) ?_
  refine qi_iload_n (i := 1) (x := nI k) dX7_byteAt_16 rfl rfl ?_
  refine qi_ialdN (x := nI (t.2 k)) (j := k) dX7_byteAt_17 rfl (by decide) rfl (by omega) (by decide) h3 ?_
  refine qi_goto (tgt := 22) dX7_byteAt_18 (by decide) ?_
  exact qi_retI rfl rfl dX7_byteAt_22 (⟨rfl, rfl⟩)
