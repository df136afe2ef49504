/-! the reference's tell -/
theorem km_out {k : Nat} (h : k ≤ 144) (h2 : k < 128 ∨ 135 < k) : kmQ k < 20 ∨ 27 < kmQ k := by
  unfold kmQ
  by_cases c : 128 ≤ k
  · rw [if_neg (by omega), if_neg (by omega), if_pos c]
    omega
  · rw [if_neg (by omega), if_neg (by omega), if_neg c]
    repeat' split
    all_goals omega
theorem SYt_SY {S b j : Nat} (z : SYt b j) : SY S b j := Or.inl ⟨z.1, by have := z.2; omega⟩
theorem SYn_SY {S b j : Nat} (z : SYn b j) : SY S b j := by
  rcases z with z | z
  · exact Or.inl ⟨z.1, by have := z.2; omega⟩
  · exact Or.inl ⟨z.1, by have := z.2; omega⟩
theorem SYn_280 {j : Nat} (h : j = 12 ∨ j = 44 ∨ j = 50) : ¬ SYn 280 j := by
  unfold SYn SYt SYw
  omega
theorem SYn_l {b j : Nat} (z : SYn b j) : b = 280 := by
  rcases z with z | z <;> exact z.1
theorem rdY.st {S : Nat} {T : qTk} {a a1 : Nat} {s s1 : Nat × Nat} {N : qNm} {P : qPn} {M M' : qM} (h : rdY S T (a, s, N, P) M) (hC : okCn P) (hf : qFr SYn M M') (k : qYK M' S T a1 s1 N (P.1 0 + P.1 1 + P.1 3)) (ha : a ≤ a1) (hs : s1.1 = 0 → s.1 = 0) : rdY S T (a1, s1, N, P) M' := by
  obtain ⟨hK, hop, hct, hdt, ck, bk, ⟨hck, hbk, hcd, hbn⟩, hls⟩ := h
  dsimp only at hK hop hct hdt hck hbk hcd hbn hls
  exact ⟨k, (hf.1 _ _ (SYn_280 (by decide))).trans hop, hct.fr hf (fun b j z h1 => by have := SYn_l z; omega), fun z => (hdt (hs z)).fr hf hC.2.2.2.2 (fun b j z => by have := SYn_l z; omega), ck, bk, ⟨Nat.le_trans hck ha, Nat.le_trans hbk ha, (hf.1 _ _ (SYn_280 (by decide))).trans hcd, (hf.1 _ _ (SYn_280 (by decide))).trans hbn⟩, hls.fr hC.2.2.1 hf (fun b j z => by have := SYn_l z; omega)⟩
theorem lsY.cn {M : qM} {S : Nat} {P : qPn} {ck bk i x : Nat} (h : lsY M S P ck bk) (hi : i ≠ 2) : lsY M S (cnP P i x) ck bk := by
  have e : (cnP P i x).1 2 = P.1 2 := if_neg (fun z => hi z.symm)
  refine ⟨fun k hk => ?_, h.2⟩
  rw [e] at hk
  exact h.1 k hk
theorem lsY.dr {M M' : qM} {S : Nat} {P : qPn} {ck bk ck2 bk2 : Nat} {A : qAs} (h : lsY M S P ck bk) (hn : P.1 2 ≤ 16) (hf : qFr (SLw S ck bk 16) M M') (h1 : ck ≤ ck2) (h2 : bk ≤ bk2) (hA : lwY M' S 16 ck2 bk2 A) : lsY M' S (drP P A) ck2 bk2 := by
  have e16 : (drP P A).2.2 16 = some A := by
    show updF P.2.2 16 (some A) 16 = some A
    unfold updF
    exact if_pos rfl
  refine ⟨fun k hk => ?_, Or.inr ⟨A, e16, hA⟩⟩
  have hk2 : k < P.1 2 := hk
  obtain ⟨B, b1, b2⟩ := h.1 k hk2
  exact ⟨B, (if_neg (by omega)).trans b1, (b2.fr hf (fun b j z => by unfold SLw at z; omega)).up h1 h2⟩
set_option maxHeartbeats 4000000 in
theorem c_X12_tell (g : qG) {T : qTk} (hT : okTk T) {M : qM} {S : Nat} {v : qRs} (hY : rdY S T v M) (hv : okRs v) : qV g 7 kX12_tell [.ref 280] M (fun M' => qPy S T (tyQ T v) (rdY S T) M' ∧ qFr (SY S) M M') := by
  obtain ⟨a, s, N, P⟩ := v
  obtain ⟨⟨ha4, hs⟩, hC, hN, hL, hD⟩ := hv
  dsimp only at ha4 hs hC hN hL hD
  generalize hR : tyQ T (a, s, N, P) = res
  unfold tyQ at hR
  dsimp only at hR
  obtain ⟨hK, hop, ⟨ct0, ct1, ct2, ct3⟩, hdt, ck, bk, ⟨hck, hbk, hcd, hbn⟩, hls⟩ := id hY
  dsimp only at hK hop ct0 ct1 ct2 ct3 hdt hck hbk hcd hbn hls
  obtain ⟨c0, c1, c2, c3, c4⟩ := id hC
  have hS2 := hK.1.2.2.1
  have hM := hK.1.1
  have hsd := hK.1.2.2.2
  have hat := hK.2.1.2.2.1
  have hkc := (hK.1.2.1 a hK.2.1.2.1 ha4).1
  have hkz := kAt_le hT a
  have FT : ∀ {M1 : qM}, qFr SYt M M1 → qFr SYn M M1 := fun h => h.mono (fun b j z => Or.inl z)
  have OUT : (kAt T a < 128 ∨ 134 < kAt T a) → qT g kX12_tell (qR 7 0 0) (qZV g (fun M' => qPy S T res (rdY S T) M' ∧ qFr (SY S) M M')) 242 [some (.ref 280)] [] 333 M (0, 0) := by
    intro hk
    rw [if_neg (by omega), if_neg (by omega), if_neg (by omega), if_neg (by omega), if_neg (by omega), if_neg (by omega), if_neg (by omega)] at hR
    refine qi_aload_n (i := 0) (x := 280) dX12_tell_242 rfl rfl ?_
    refine qi_iconst (v := 1) dX12_tell_243 rfl ?_
    refine qi_callVV (K' := kX12_fail) (As := [.int 1]) mlX12_233 okX12_fail dX12_tell_244 (c_X12_fail g hK (k := 1) (Or.inl rfl)) rfl (by decide) rfl (by decide) rfl rfl (Nat.le_of_ble_eq_true rfl) ⟨(Nat.le_of_ble_eq_true rfl), (Nat.le_of_ble_eq_true rfl)⟩ ⟨Nat.le_refl _, Nat.le_refl _⟩ (fun M1 ⟨k1, f1⟩ => ?_)
    exact qi_retV rfl dX12_tell_247 (⟨qPy_ie hR.symm k1, f1.mono (fun b j z => SYt_SY z)⟩)
  by_cases hx : kAt T a < 128 ∨ 135 < kAt T a
  ·
    have hq := km_out (by omega) hx
    have hlt := km_lt (kAt T a) (by omega)
    refine qV.of (j := 0) (pn_RX12) rfl ?_
    show qT g kX12_tell (qR 7 0 0) (qZV g (fun M' => qPy S T res (rdY S T) M' ∧ qFr (SY S) M M')) 0 [some (.ref 280)] [] 333 M (0, 0)
    refine qi_aload_n (i := 0) (x := 280) dX12_tell_0 rfl rfl ?_
    refine qi_getR (x := 283) flX12_20 dX12_tell_1 rfl (by decide) (hM 280 5 283 rfl) ?_
    refine qi_aload_n (i := 0) (x := 280) dX12_tell_4 rfl rfl ?_
    refine qi_getI (x := nI a) flX12_221 dX12_tell_5 rfl (by decide) hat ?_
    refine qi_ialdN (x := nI (kmQ (kAt T a))) (j := a) dX12_tell_8 rfl (by decide) rfl (by omega) (by decide) hkc ?_
    refine qi_tabOut (tgt := 242) dX12_tell_9 ((by rw [nI_toInt (by omega)]; omega)) (by decide) ?_
    exact OUT (by omega)
  rcases (show kAt T a = 128 ∨ kAt T a = 129 ∨ kAt T a = 130 ∨ kAt T a = 131 ∨ kAt T a = 132 ∨ kAt T a = 133 ∨ kAt T a = 134 ∨ kAt T a = 135 by omega) with hk | hk | hk | hk | hk | hk | hk | hk
  ·
    have hkv : M.1 283 a = nI 20 := hkc.trans (by rw [hk]; rfl)
    refine qV.of (j := 0) (pn_RX12) rfl ?_
    show qT g kX12_tell (qR 7 0 0) (qZV g (fun M' => qPy S T res (rdY S T) M' ∧ qFr (SY S) M M')) 0 [some (.ref 280)] [] 333 M (0, 0)
    refine qi_aload_n (i := 0) (x := 280) dX12_tell_0 rfl rfl ?_
    refine qi_getR (x := 283) flX12_20 dX12_tell_1 rfl (by decide) (hM 280 5 283 rfl) ?_
    refine qi_aload_n (i := 0) (x := 280) dX12_tell_4 rfl rfl ?_
    refine qi_getI (x := nI a) flX12_221 dX12_tell_5 rfl (by decide) hat ?_
    refine qi_ialdN (x := nI 20) (j := a) dX12_tell_8 rfl (by decide) rfl (by omega) (by decide) hkv ?_
    refine qi_tabIn (tgt := 56) dX12_tell_9 (by decide) (by decide) rfl (by decide) ?_
    rw [if_pos hk] at hR
    have hR1 : bQ (opQ T 128 (P.1 0) 5 a) (fun a1 => waR T a1 (a, s, N, P)) = res := hR
    refine qi_aload_n (i := 0) (x := 280) dX12_tell_56 rfl rfl ?_
    refine qi_aload_n (i := 0) (x := 280) dX12_tell_57 rfl rfl ?_
    refine qi_getR (x := 291) flX12_49 dX12_tell_58 rfl (by decide) (hM 280 24 291 rfl) ?_
    refine qi_aload_n (i := 0) (x := 280) dX12_tell_61 rfl rfl ?_
    refine qi_getI (x := nI S) flX12_251 dX12_tell_62 rfl (by decide) hsd ?_
    refine qi_ialdN (x := nI (P.1 0)) (j := S) dX12_tell_65 rfl (by decide) rfl (by omega) (by decide) ct0 ?_
    refine qi_iconst (v := 5) dX12_tell_66 rfl ?_
    refine qi_callVV (K' := kX12_roomFor) (As := [.int (nI (P.1 0)), .int 5]) mlX12_275 okX12_roomFor dX12_tell_67 (c_X12_roomFor g hK (k := 128) (n := P.1 0) (m := 5) hk (by decide) (by omega) (by decide)) rfl (by decide) rfl (by decide) rfl rfl (Nat.le_of_ble_eq_true rfl) ⟨(Nat.le_of_ble_eq_true rfl), (Nat.le_of_ble_eq_true rfl)⟩ ⟨Nat.le_refl _, Nat.le_refl _⟩ (fun M1 ⟨k1, f1⟩ => ?_)
    cases hA : opQ T 128 (P.1 0) 5 a with
    | error e =>
      rw [bQ_e hA] at hR1
      have kF := qPy_e hA k1
      have hne := kF.n
      refine qi_aload_n (i := 0) (x := 280) dX12_tell_70 rfl rfl ?_
      refine qi_getI (x := nI e.1) flX12_218 dX12_tell_71 rfl (by decide) kF.2.2.1 ?_
      refine qi_if_ne (tgt := 247) dX12_tell_74 (by decide) (fun _hc => ?_) (fun _h => absurd ((nI_eq (a := e.1) (b := 0) (by omega) (by omega)).mp _h) (by omega))
      exact qi_retV rfl dX12_tell_247 (⟨qPy_ie hR1.symm kF, f1.mono (fun b j z => SYt_SY z)⟩)
    | ok a1 =>
      rw [bQ_o hA] at hR1
      have k1 := qPy_o hA k1
      have i1 := op_ok hA
      have Y1 := hY.st hC (FT f1) k1 (by omega) id
      have hz1 := k1.2.1.2.2.2
      refine qi_aload_n (i := 0) (x := 280) dX12_tell_70 rfl rfl ?_
      refine qi_getI (x := nI 0) flX12_218 dX12_tell_71 rfl (by decide) hz1 ?_
      refine qi_if_ne (tgt := 247) dX12_tell_74 (by decide) (fun _h => absurd ((nI_eq (a := 0) (b := 0) (by omega) (by omega)).mpr (by omega)) _h) (fun _hc => ?_)
      refine qi_aload_n (i := 0) (x := 280) dX12_tell_77 rfl rfl ?_
      refine qi_callVV (K' := kX12_tellWater) (As := []) mlX12_279 okX12_tellWater dX12_tell_78 (c_X12_tellWater g hT Y1 (hs.up (by omega)) hC hN (by omega)) rfl (by decide) rfl (by decide) rfl rfl (Nat.le_of_ble_eq_true rfl) ⟨(Nat.le_of_ble_eq_true rfl), (Nat.le_of_ble_eq_true rfl)⟩ ⟨Nat.le_refl _, Nat.le_refl _⟩ (fun M2 ⟨k2, f2⟩ => ?_)
      refine qi_goto (tgt := 247) dX12_tell_81 (by decide) ?_
      exact qi_retV rfl dX12_tell_247 (⟨by rw [← hR1]; exact k2, (f1.mono (fun b j z => SYt_SY z)).tr f2⟩)
  ·
    have hkv : M.1 283 a = nI 21 := hkc.trans (by rw [hk]; rfl)
    refine qV.of (j := 0) (pn_RX12) rfl ?_
    show qT g kX12_tell (qR 7 0 0) (qZV g (fun M' => qPy S T res (rdY S T) M' ∧ qFr (SY S) M M')) 0 [some (.ref 280)] [] 333 M (0, 0)
    refine qi_aload_n (i := 0) (x := 280) dX12_tell_0 rfl rfl ?_
    refine qi_getR (x := 283) flX12_20 dX12_tell_1 rfl (by decide) (hM 280 5 283 rfl) ?_
    refine qi_aload_n (i := 0) (x := 280) dX12_tell_4 rfl rfl ?_
    refine qi_getI (x := nI a) flX12_221 dX12_tell_5 rfl (by decide) hat ?_
    refine qi_ialdN (x := nI 21) (j := a) dX12_tell_8 rfl (by decide) rfl (by omega) (by decide) hkv ?_
    refine qi_tabIn (tgt := 84) dX12_tell_9 (by decide) (by decide) rfl (by decide) ?_
    rw [if_neg (show ¬ kAt T a = 128 by omega), if_pos hk] at hR
    have hR1 : bQ (opQ T 129 (P.1 1) 8 a) (fun a1 => heR T a1 (a, s, N, P)) = res := hR
    refine qi_aload_n (i := 0) (x := 280) dX12_tell_84 rfl rfl ?_
    refine qi_aload_n (i := 0) (x := 280) dX12_tell_85 rfl rfl ?_
    refine qi_getR (x := 294) flX12_58 dX12_tell_86 rfl (by decide) (hM 280 27 294 rfl) ?_
    refine qi_aload_n (i := 0) (x := 280) dX12_tell_89 rfl rfl ?_
    refine qi_getI (x := nI S) flX12_251 dX12_tell_90 rfl (by decide) hsd ?_
    refine qi_ialdN (x := nI (P.1 1)) (j := S) dX12_tell_93 rfl (by decide) rfl (by omega) (by decide) ct1 ?_
    refine qi_bipush (v := 8) dX12_tell_94 rfl ?_
    refine qi_callVV (K' := kX12_roomFor) (As := [.int (nI (P.1 1)), .int 8]) mlX12_275 okX12_roomFor dX12_tell_96 (c_X12_roomFor g hK (k := 129) (n := P.1 1) (m := 8) hk (by decide) (by omega) (by decide)) rfl (by decide) rfl (by decide) rfl rfl (Nat.le_of_ble_eq_true rfl) ⟨(Nat.le_of_ble_eq_true rfl), (Nat.le_of_ble_eq_true rfl)⟩ ⟨Nat.le_refl _, Nat.le_refl _⟩ (fun M1 ⟨k1, f1⟩ => ?_)
    cases hA : opQ T 129 (P.1 1) 8 a with
    | error e =>
      rw [bQ_e hA] at hR1
      have kF := qPy_e hA k1
      have hne := kF.n
      refine qi_aload_n (i := 0) (x := 280) dX12_tell_99 rfl rfl ?_
      refine qi_getI (x := nI e.1) flX12_218 dX12_tell_100 rfl (by decide) kF.2.2.1 ?_
      refine qi_if_ne (tgt := 247) dX12_tell_103 (by decide) (fun _hc => ?_) (fun _h => absurd ((nI_eq (a := e.1) (b := 0) (by omega) (by omega)).mp _h) (by omega))
      exact qi_retV rfl dX12_tell_247 (⟨qPy_ie hR1.symm kF, f1.mono (fun b j z => SYt_SY z)⟩)
    | ok a1 =>
      rw [bQ_o hA] at hR1
      have k1 := qPy_o hA k1
      have i1 := op_ok hA
      have Y1 := hY.st hC (FT f1) k1 (by omega) id
      have hz1 := k1.2.1.2.2.2
      refine qi_aload_n (i := 0) (x := 280) dX12_tell_99 rfl rfl ?_
      refine qi_getI (x := nI 0) flX12_218 dX12_tell_100 rfl (by decide) hz1 ?_
      refine qi_if_ne (tgt := 247) dX12_tell_103 (by decide) (fun _h => absurd ((nI_eq (a := 0) (b := 0) (by omega) (by omega)).mpr (by omega)) _h) (fun _hc => ?_)
      refine qi_aload_n (i := 0) (x := 280) dX12_tell_106 rfl rfl ?_
      refine qi_callVV (K' := kX12_tellHeir) (As := []) mlX12_282 okX12_tellHeir dX12_tell_107 (c_X12_tellHeir g hT Y1 (hs.up (by omega)) hC hN (by omega)) rfl (by decide) rfl (by decide) rfl rfl (Nat.le_of_ble_eq_true rfl) ⟨(Nat.le_of_ble_eq_true rfl), (Nat.le_of_ble_eq_true rfl)⟩ ⟨Nat.le_refl _, Nat.le_refl _⟩ (fun M2 ⟨k2, f2⟩ => ?_)
      refine qi_goto (tgt := 247) dX12_tell_110 (by decide) ?_
      exact qi_retV rfl dX12_tell_247 (⟨by rw [← hR1]; exact k2, (f1.mono (fun b j z => SYt_SY z)).tr f2⟩)
  ·
    have hkv : M.1 283 a = nI 22 := hkc.trans (by rw [hk]; rfl)
    refine qV.of (j := 0) (pn_RX12) rfl ?_
    show qT g kX12_tell (qR 7 0 0) (qZV g (fun M' => qPy S T res (rdY S T) M' ∧ qFr (SY S) M M')) 0 [some (.ref 280)] [] 333 M (0, 0)
    refine qi_aload_n (i := 0) (x := 280) dX12_tell_0 rfl rfl ?_
    refine qi_getR (x := 283) flX12_20 dX12_tell_1 rfl (by decide) (hM 280 5 283 rfl) ?_
    refine qi_aload_n (i := 0) (x := 280) dX12_tell_4 rfl rfl ?_
    refine qi_getI (x := nI a) flX12_221 dX12_tell_5 rfl (by decide) hat ?_
    refine qi_ialdN (x := nI 22) (j := a) dX12_tell_8 rfl (by decide) rfl (by omega) (by decide) hkv ?_
    refine qi_tabIn (tgt := 113) dX12_tell_9 (by decide) (by decide) rfl (by decide) ?_
    rw [if_neg (show ¬ kAt T a = 128 by omega), if_neg (show ¬ kAt T a = 129 by omega), if_pos hk] at hR
    have hR1 : bQ (opQ T 130 (P.1 2) 16 a) (fun a1 => seR T a1 (a, s, N, P)) = res := hR
    refine qi_aload_n (i := 0) (x := 280) dX12_tell_113 rfl rfl ?_
    refine qi_aload_n (i := 0) (x := 280) dX12_tell_114 rfl rfl ?_
    refine qi_getR (x := 299) flX12_73 dX12_tell_115 rfl (by decide) (hM 280 32 299 rfl) ?_
    refine qi_aload_n (i := 0) (x := 280) dX12_tell_118 rfl rfl ?_
    refine qi_getI (x := nI S) flX12_251 dX12_tell_119 rfl (by decide) hsd ?_
    refine qi_ialdN (x := nI (P.1 2)) (j := S) dX12_tell_122 rfl (by decide) rfl (by omega) (by decide) ct2 ?_
    refine qi_bipush (v := 16) dX12_tell_123 rfl ?_
    refine qi_callVV (K' := kX12_roomFor) (As := [.int (nI (P.1 2)), .int 16]) mlX12_275 okX12_roomFor dX12_tell_125 (c_X12_roomFor g hK (k := 130) (n := P.1 2) (m := 16) hk (by decide) (by omega) (by decide)) rfl (by decide) rfl (by decide) rfl rfl (Nat.le_of_ble_eq_true rfl) ⟨(Nat.le_of_ble_eq_true rfl), (Nat.le_of_ble_eq_true rfl)⟩ ⟨Nat.le_refl _, Nat.le_refl _⟩ (fun M1 ⟨k1, f1⟩ => ?_)
    cases hA : opQ T 130 (P.1 2) 16 a with
    | error e =>
      rw [bQ_e hA] at hR1
      have kF := qPy_e hA k1
      have hne := kF.n
      refine qi_aload_n (i := 0) (x := 280) dX12_tell_128 rfl rfl ?_
      refine qi_getI (x := nI e.1) flX12_218 dX12_tell_129 rfl (by decide) kF.2.2.1 ?_
      refine qi_if_ne (tgt := 247) dX12_tell_132 (by decide) (fun _hc => ?_) (fun _h => absurd ((nI_eq (a := e.1) (b := 0) (by omega) (by omega)).mp _h) (by omega))
      exact qi_retV rfl dX12_tell_247 (⟨qPy_ie hR1.symm kF, f1.mono (fun b j z => SYt_SY z)⟩)
    | ok a1 =>
      rw [bQ_o hA] at hR1
      have k1 := qPy_o hA k1
      have i1 := op_ok hA
      have Y1 := hY.st hC (FT f1) k1 (by omega) id
      have hz1 := k1.2.1.2.2.2
      refine qi_aload_n (i := 0) (x := 280) dX12_tell_128 rfl rfl ?_
      refine qi_getI (x := nI 0) flX12_218 dX12_tell_129 rfl (by decide) hz1 ?_
      refine qi_if_ne (tgt := 247) dX12_tell_132 (by decide) (fun _h => absurd ((nI_eq (a := 0) (b := 0) (by omega) (by omega)).mpr (by omega)) _h) (fun _hc => ?_)
      refine qi_aload_n (i := 0) (x := 280) dX12_tell_135 rfl rfl ?_
      refine qi_callVV (K' := kX12_tellSends) (As := []) mlX12_285 okX12_tellSends dX12_tell_136 (c_X12_tellSends g hT Y1 (hs.up (by omega)) hC hN (by omega)) rfl (by decide) rfl (by decide) rfl rfl (Nat.le_of_ble_eq_true rfl) ⟨(Nat.le_of_ble_eq_true rfl), (Nat.le_of_ble_eq_true rfl)⟩ ⟨Nat.le_refl _, Nat.le_refl _⟩ (fun M2 ⟨k2, f2⟩ => ?_)
      refine qi_goto (tgt := 247) dX12_tell_139 (by decide) ?_
      exact qi_retV rfl dX12_tell_247 (⟨by rw [← hR1]; exact k2, (f1.mono (fun b j z => SYt_SY z)).tr f2⟩)
  ·
    have hkv : M.1 283 a = nI 23 := hkc.trans (by rw [hk]; rfl)
    refine qV.of (j := 0) (pn_RX12) rfl ?_
    show qT g kX12_tell (qR 7 0 0) (qZV g (fun M' => qPy S T res (rdY S T) M' ∧ qFr (SY S) M M')) 0 [some (.ref 280)] [] 333 M (0, 0)
    refine qi_aload_n (i := 0) (x := 280) dX12_tell_0 rfl rfl ?_
    refine qi_getR (x := 283) flX12_20 dX12_tell_1 rfl (by decide) (hM 280 5 283 rfl) ?_
    refine qi_aload_n (i := 0) (x := 280) dX12_tell_4 rfl rfl ?_
    refine qi_getI (x := nI a) flX12_221 dX12_tell_5 rfl (by decide) hat ?_
    refine qi_ialdN (x := nI 23) (j := a) dX12_tell_8 rfl (by decide) rfl (by omega) (by decide) hkv ?_
    refine qi_tabIn (tgt := 142) dX12_tell_9 (by decide) (by decide) rfl (by decide) ?_
    rw [if_neg (show ¬ kAt T a = 128 by omega), if_neg (show ¬ kAt T a = 129 by omega), if_neg (show ¬ kAt T a = 130 by omega), if_pos hk] at hR
    have hR1 : bQ (acQ T 131 a) (fun a1 => bQ (laQ T a1) (fun r3 => bQ (acQ T 59 r3.1) (fun a5 => Except.ok (a5, s, N, drP P r3.2)))) = res := hR
    refine qi_aload_n (i := 0) (x := 280) dX12_tell_142 rfl rfl ?_
    refine qi_callVV (K' := kX12_goesOn) (As := []) mlX12_239 okX12_goesOn dX12_tell_143 (c_X12_goesOn g hK (k := 131) hk (by decide)) rfl (by decide) rfl (by decide) rfl rfl (Nat.le_of_ble_eq_true rfl) ⟨(Nat.le_of_ble_eq_true rfl), (Nat.le_of_ble_eq_true rfl)⟩ ⟨Nat.le_refl _, Nat.le_refl _⟩ (fun M1 ⟨k1, f1⟩ => ?_)
    refine qi_aload_n (i := 0) (x := 280) dX12_tell_146 rfl rfl ?_
    refine qi_bipush (v := 16) dX12_tell_147 rfl ?_
    cases hA : acQ T 131 a with
    | error e =>
      rw [bQ_e hA] at hR1
      have kF := qPy_e hA k1
      have hb1 : M1.1 280 44 = nI (130 * S + bk) := ((FT f1).1 _ _ (SYn_280 (by decide))).trans hbn
      refine qi_callVV (K' := kX12_tellLaw) (As := [.int 16]) mlX12_288 okX12_tellLaw dX12_tell_149 (c_X12_tellLawF g kF (ck := ck) hb1 (by omega) 16) rfl (by decide) rfl (by decide) rfl rfl (Nat.le_of_ble_eq_true rfl) ⟨(Nat.le_of_ble_eq_true rfl), (Nat.le_of_ble_eq_true rfl)⟩ ⟨Nat.le_refl _, Nat.le_refl _⟩ (fun M2 ⟨k2, f2⟩ => ?_)
      refine qi_goto (tgt := 247) dX12_tell_152 (by decide) ?_
      exact qi_retV rfl dX12_tell_247 (⟨qPy_ie hR1.symm k2, (f1.mono (fun b j z => SYt_SY z)).tr (f2.mono (fun b j z => SLw_SY (by decide) z))⟩)
    | ok a1 =>
      rw [bQ_o hA, laW_b (f := fun a5 A => (a5, s, N, drP P A))] at hR1
      have k1 := qPy_o hA k1
      have i1 := ac_ok hA
      have o1 : M1.1 280 12 = 0 := ((FT f1).1 _ _ (SYn_280 (by decide))).trans hop
      have hb1 : M1.1 280 44 = nI (130 * S + bk) := ((FT f1).1 _ _ (SYn_280 (by decide))).trans hbn
      have hc1 : M1.1 280 50 = nI (420 * S + ck) := ((FT f1).1 _ _ (SYn_280 (by decide))).trans hcd
      refine qi_callVV (K' := kX12_tellLaw) (As := [.int 16]) mlX12_288 okX12_tellLaw dX12_tell_149 (c_X12_tellLaw g hT k1 o1 (ck := ck) (bk := bk) (k := 16) hc1 (by omega) hb1 (by omega) (by decide)) rfl (by decide) rfl (by decide) rfl rfl (Nat.le_of_ble_eq_true rfl) ⟨(Nat.le_of_ble_eq_true rfl), (Nat.le_of_ble_eq_true rfl)⟩ ⟨Nat.le_refl _, Nat.le_refl _⟩ (fun M2 ⟨k2, f2⟩ => ?_)
      refine qi_goto (tgt := 247) dX12_tell_152 (by decide) ?_
      have fY : qFr (SY S) M M2 := (f1.mono (fun b j z => SYt_SY z)).tr (f2.mono (fun b j z => SLw_SY (by decide) z))
      cases hA3 : laW T a1 with
      | error e =>
        rw [bQ_e hA3] at hR1
        exact qi_retV rfl dX12_tell_247 (⟨qPy_ie hR1.symm (qPy_e hA3 k2), fY⟩)
      | ok v3 =>
        rw [bQ_o hA3] at hR1
        obtain ⟨q3, o3, d3, b3, ⟨p3, p3'⟩, lw3⟩ := qPy_o hA3 k2
        obtain ⟨v4, hv4, hv5⟩ := bQ_inv hA3
        obtain ⟨a5, hv6, hv7⟩ := bQ_inv hv5
        have la := la_ok hT hv4
        have i6 := ac_ok hv6
        cases hv7
        have lp := lwT_pos (bs := v4.2.1) la.2.2.2.2.2
        have ff1 := FT f1
        have CT : ∀ b, b < 309 → 281 ≤ b → M2.1 b S = M.1 b S := fun b h1 h2 => (f2.1 _ _ (SLw_no (Or.inr (Or.inl ⟨h2, h1⟩)))).trans (ff1.1 _ _ (SYn_hi h2))
        have dt2 : s.1 = 0 → dtY M2 S P := fun z => ((hdt z).fr ff1 c4 (fun b j z => by have := SYn_l z; omega)).fr f2 c4 (fun b j z => by unfold SLw at z; omega)
        have ll1 : lsY M1 S P ck bk := hls.fr c2 ff1 (fun b j z => by have := SYn_l z; omega)
        refine qi_retV rfl dX12_tell_247 (⟨qPy_io hR1.symm ⟨q3, o3, ⟨(CT 291 (by decide) (by decide)).trans ct0, (CT 294 (by decide) (by decide)).trans ct1, (CT 299 (by decide) (by decide)).trans ct2, (CT 302 (by decide) (by decide)).trans ct3⟩, dt2, ck + lwT v4.2.1 v4.2.2, bk + v4.2.1.length + 1, ⟨by show ck + lwT v4.2.1 v4.2.2 ≤ a5; omega, by show 4 * (bk + v4.2.1.length + 1) ≤ a5; omega, ?_, ?_⟩, ll1.dr c2 f2 (by omega) (by omega) (lwY.ofLw p3 p3' lw3)⟩, fY⟩)
        · rw [d3, Nat.add_assoc]
        · rw [b3]
          exact congrArg nI (by show 130 * S + bk + v4.2.1.length + 1 = 130 * S + (bk + v4.2.1.length + 1); omega)
  ·
    have hkv : M.1 283 a = nI 24 := hkc.trans (by rw [hk]; rfl)
    refine qV.of (j := 0) (pn_RX12) rfl ?_
    show qT g kX12_tell (qR 7 0 0) (qZV g (fun M' => qPy S T res (rdY S T) M' ∧ qFr (SY S) M M')) 0 [some (.ref 280)] [] 333 M (0, 0)
    refine qi_aload_n (i := 0) (x := 280) dX12_tell_0 rfl rfl ?_
    refine qi_getR (x := 283) flX12_20 dX12_tell_1 rfl (by decide) (hM 280 5 283 rfl) ?_
    refine qi_aload_n (i := 0) (x := 280) dX12_tell_4 rfl rfl ?_
    refine qi_getI (x := nI a) flX12_221 dX12_tell_5 rfl (by decide) hat ?_
    refine qi_ialdN (x := nI 24) (j := a) dX12_tell_8 rfl (by decide) rfl (by omega) (by decide) hkv ?_
    refine qi_tabIn (tgt := 155) dX12_tell_9 (by decide) (by decide) rfl (by decide) ?_
    rw [if_neg (show ¬ kAt T a = 128 by omega), if_neg (show ¬ kAt T a = 129 by omega), if_neg (show ¬ kAt T a = 130 by omega), if_neg (show ¬ kAt T a = 131 by omega), if_pos hk] at hR
    have hR1 : bQ (acQ T 132 a) (fun a1 => bQ (nuQ T 1 9999 a1 s) (fun r1 => bQ (acQ T 59 r1.1) (fun a5 => Except.ok (a5, r1.2.1, N, cnP P 4 r1.2.2)))) = res := hR
    refine qi_aload_n (i := 0) (x := 280) dX12_tell_155 rfl rfl ?_
    refine qi_callVV (K' := kX12_goesOn) (As := []) mlX12_239 okX12_goesOn dX12_tell_156 (c_X12_goesOn g hK (k := 132) hk (by decide)) rfl (by decide) rfl (by decide) rfl rfl (Nat.le_of_ble_eq_true rfl) ⟨(Nat.le_of_ble_eq_true rfl), (Nat.le_of_ble_eq_true rfl)⟩ ⟨Nat.le_refl _, Nat.le_refl _⟩ (fun M1 ⟨k1, f1⟩ => ?_)
    have ff1 := FT f1
    have hM1 : qRf M1 := hM.fr f1
    have hsd1 : M1.1 280 19 = nI S := (f1.1 _ _ (by unfold SYt; omega)).trans hsd
    refine qi_aload_n (i := 0) (x := 280) dX12_tell_159 rfl rfl ?_
    refine qi_getR (x := 307) flX12_97 dX12_tell_160 rfl (by decide) (hM1 280 40 307 rfl) ?_
    refine qi_aload_n (i := 0) (x := 280) dX12_tell_163 rfl rfl ?_
    refine qi_getI (x := nI S) flX12_251 dX12_tell_164 rfl (by decide) hsd1 ?_
    refine qi_aload_n (i := 0) (x := 280) dX12_tell_167 rfl rfl ?_
    refine qi_iconst (v := 1) dX12_tell_168 rfl ?_
    refine qi_sipush (v := 9999) dX12_tell_169 rfl ?_
    cases hA : acQ T 132 a with
    | error e =>
      rw [bQ_e hA] at hR1
      have kF := qPy_e hA k1
      refine qi_callVI (K' := kX12_bounded) (As := [.int 1, .int 9999]) mlX12_291 okX12_bounded dX12_tell_172 (c_X12_boundedF g kF 1 9999) rfl (by decide) rfl (by decide) rfl rfl (Nat.le_of_ble_eq_true rfl) ⟨(Nat.le_of_ble_eq_true rfl), (Nat.le_of_ble_eq_true rfl)⟩ ⟨Nat.le_refl _, Nat.le_refl _⟩ (fun r2 M2 ⟨e2, e3⟩ => ?_)
      rw [e3]
      refine qi_iastN (j := S) dX12_tell_175 rfl (by decide) rfl (by omega) (by decide) ?_
      refine qi_aload_n (i := 0) (x := 280) dX12_tell_176 rfl rfl ?_
      refine qi_iconst (v := 4) dX12_tell_177 rfl ?_
      have Fa : qFr (fun b j => b = 307 ∧ j = S) M1 (wI M1 307 S r2) := qFr.rf.wI ⟨rfl, rfl⟩
      generalize w2 : wI M1 307 S r2 = Mw2
      have Fb : qFr (fun b j => b = 307 ∧ j = S) M1 Mw2 := by
        rw [← w2]
        exact Fa
      have kw := kF.fr Fb (fun b j z => by omega)
      refine qi_callVV (K' := kX12_must) (As := [.int 4]) mlX12_295 okX12_must dX12_tell_178 (c_X12_mustF g kw 4) rfl (by decide) rfl (by decide) rfl rfl (Nat.le_of_ble_eq_true rfl) ⟨(Nat.le_of_ble_eq_true rfl), (Nat.le_of_ble_eq_true rfl)⟩ ⟨Nat.le_refl _, Nat.le_refl _⟩ (fun M3 e4 => ?_)
      rw [e4]
      refine qi_goto (tgt := 247) dX12_tell_181 (by decide) ?_
      exact qi_retV rfl dX12_tell_247 (⟨qPy_ie hR1.symm kw, (f1.mono (fun b j z => SYt_SY z)).tr (Fb.mono (fun b j z => SY_ct (by decide) z))⟩)
    | ok a1 =>
      rw [bQ_o hA] at hR1
      have k1 := qPy_o hA k1
      have i1 := ac_ok hA
      have Y1 := hY.st hC ff1 k1 (by omega) id
      refine qi_callVI (K' := kX12_bounded) (As := [.int 1, .int 9999]) mlX12_291 okX12_bounded dX12_tell_172 (c_X12_bounded g hT k1 (hs.up (by omega)) (lo := 1) (hi := 9999) (by decide) (by decide)) rfl (by decide) rfl (by decide) rfl rfl (Nat.le_of_ble_eq_true rfl) ⟨(Nat.le_of_ble_eq_true rfl), (Nat.le_of_ble_eq_true rfl)⟩ ⟨Nat.le_refl _, Nat.le_refl _⟩ (fun r2 M2 ⟨kk2, f2⟩ => ?_)
      have hM2 : qRf M2 := hM1.fr f2
      refine qi_iastN (j := S) dX12_tell_175 rfl (by decide) rfl (by omega) (by decide) ?_
      refine qi_aload_n (i := 0) (x := 280) dX12_tell_176 rfl rfl ?_
      refine qi_iconst (v := 4) dX12_tell_177 rfl ?_
      generalize w2 : wI M2 307 S r2 = Mw2
      have Fb : qFr (fun b j => b = 307 ∧ j = S) M2 Mw2 := by
        rw [← w2]
        exact qFr.rf.wI ⟨rfl, rfl⟩
      have fY : qFr (SY S) M Mw2 := (f1.mono (fun b j z => SYt_SY z)).tr ((f2.mono (fun b j z => SYn_SY z)).tr (Fb.mono (fun b j z => SY_ct (by decide) z)))
      cases hA2 : nuQ T 1 9999 a1 s with
      | error e =>
        rw [bQ_e hA2] at hR1
        have kF := (qPy_e hA2 kk2).fr Fb (fun b j z => by omega)
        refine qi_callVV (K' := kX12_must) (As := [.int 4]) mlX12_295 okX12_must dX12_tell_178 (c_X12_mustF g kF 4) rfl (by decide) rfl (by decide) rfl rfl (Nat.le_of_ble_eq_true rfl) ⟨(Nat.le_of_ble_eq_true rfl), (Nat.le_of_ble_eq_true rfl)⟩ ⟨Nat.le_refl _, Nat.le_refl _⟩ (fun M3 e4 => ?_)
        rw [e4]
        refine qi_goto (tgt := 247) dX12_tell_181 (by decide) ?_
        exact qi_retV rfl dX12_tell_247 (⟨qPy_ie hR1.symm kF, fY⟩)
      | ok v2 =>
        rw [bQ_o hA2] at hR1
        obtain ⟨k2, er2⟩ := qPy_o hA2 kk2
        obtain ⟨l2, m2, p2, q2⟩ := nu_all (hs.up (by omega)) hA2
        have kw2 := k2.fr Fb (fun b j z => by omega)
        have x2 : Mw2.1 307 S = nI v2.2.2 := by rw [← w2, wI_s, er2]
        refine qi_callVV (K' := kX12_must) (As := [.int 4]) mlX12_295 okX12_must dX12_tell_178 (c_X12_must g hT kw2 (k := 59) (by decide) (by decide)) rfl (by decide) rfl (by decide) rfl rfl (Nat.le_of_ble_eq_true rfl) ⟨(Nat.le_of_ble_eq_true rfl), (Nat.le_of_ble_eq_true rfl)⟩ ⟨Nat.le_refl _, Nat.le_refl _⟩ (fun M3 ⟨kk3, f3⟩ => ?_)
        refine qi_goto (tgt := 247) dX12_tell_181 (by decide) ?_
        have fY3 : qFr (SY S) M M3 := fY.tr (f3.mono (fun b j z => SYt_SY z))
        cases hA3 : acQ T 59 v2.1 with
        | error e =>
          rw [bQ_e hA3] at hR1
          exact qi_retV rfl dX12_tell_247 (⟨qPy_ie hR1.symm (qPy_e hA3 kk3), fY3⟩)
        | ok a5 =>
          rw [bQ_o hA3] at hR1
          have k3 := qPy_o hA3 kk3
          have i3 := ac_ok hA3
          have F0 : qFr (fun b j => SYn b j ∨ (b = 307 ∧ j = S)) M M3 := (ff1.mono (fun b j z => Or.inl z)).tr ((f2.mono (fun b j z => Or.inl z)).tr ((Fb.mono (fun b j z => Or.inr z)).tr (f3.mono (fun b j z => Or.inl (Or.inl z)))))
          have FS : ∀ b j, SYn b j ∨ (b = 307 ∧ j = S) → (b = 309 ∨ b = 310 → j < 17 * S ∨ (17 * S + P.1 2 ≤ j ∧ j < 17 * S + 16) ∨ 17 * S + 16 < j) ∧ (311 ≤ b → b ≤ 315 → j < 130 * S ∨ 130 * S + bk ≤ j) ∧ (b = 316 ∨ b = 317 → j < 420 * S ∨ 420 * S + ck ≤ j) := fun b j z => by
            have hb : b = 280 ∨ b = 307 := z.imp (fun z => SYn_l z) (fun z => z.1)
            omega
          have G0 : ∀ b j, b < 307 → 281 ≤ b → M3.1 b j = M.1 b j := fun b j h1 h2 => F0.1 _ _ (fun z => z.elim (SYn_hi h2) (fun z => absurd z.1 (by omega)))
          have G1 : ∀ j, j = 12 ∨ j = 44 ∨ j = 50 → M3.1 280 j = M.1 280 j := fun j h => F0.1 _ _ (fun z => z.elim (SYn_280 h) (fun z => absurd z.1 (by decide)))
          refine qi_retV rfl dX12_tell_247 (⟨qPy_io hR1.symm ⟨k3, (G1 12 (by decide)).trans hop, ⟨(G0 291 S (by decide) (by decide)).trans ct0, (G0 294 S (by decide) (by decide)).trans ct1, (G0 299 S (by decide) (by decide)).trans ct2, (G0 302 S (by decide) (by decide)).trans ct3⟩, fun z => ?_, ck, bk, ⟨by show ck ≤ a5; omega, by show 4 * bk ≤ a5; omega, (G1 50 (by decide)).trans hcd, (G1 44 (by decide)).trans hbn⟩, (hls.fr c2 F0 FS).cn (by decide)⟩, fY3⟩)
          obtain ⟨⟨y1, y2⟩, y3, y4, y5, y6⟩ := hdt (q2 z).1
          have x3 : M3.1 307 S = nI v2.2.2 := (f3.1 _ _ (SYt_hi (by decide))).trans x2
          refine ⟨⟨x3, (F0.1 _ _ (fun z => z.elim (SYn_hi (by decide)) (fun z => absurd z.1 (by decide)))).trans y2⟩, fun c i hc hi => (G0 _ _ (by omega) (by omega)).trans (y3 c i hc hi), fun c i hc hi => (G0 _ _ (by omega) (by omega)).trans (y4 c i hc hi), fun c i hc hi => (G0 _ _ (by omega) (by omega)).trans (y5 c i hc hi), fun k hk => ⟨(G0 _ _ (by omega) (by omega)).trans (y6 k hk).1, fun i hi => ?_⟩⟩
          obtain ⟨z1, z2, z3⟩ := (y6 k hk).2 i hi
          exact ⟨(G0 _ _ (by omega) (by omega)).trans z1, (G0 _ _ (by omega) (by omega)).trans z2, (G0 _ _ (by omega) (by omega)).trans z3⟩
  ·
    have hkv : M.1 283 a = nI 25 := hkc.trans (by rw [hk]; rfl)
    refine qV.of (j := 0) (pn_RX12) rfl ?_
    show qT g kX12_tell (qR 7 0 0) (qZV g (fun M' => qPy S T res (rdY S T) M' ∧ qFr (SY S) M M')) 0 [some (.ref 280)] [] 333 M (0, 0)
    refine qi_aload_n (i := 0) (x := 280) dX12_tell_0 rfl rfl ?_
    refine qi_getR (x := 283) flX12_20 dX12_tell_1 rfl (by decide) (hM 280 5 283 rfl) ?_
    refine qi_aload_n (i := 0) (x := 280) dX12_tell_4 rfl rfl ?_
    refine qi_getI (x := nI a) flX12_221 dX12_tell_5 rfl (by decide) hat ?_
    refine qi_ialdN (x := nI 25) (j := a) dX12_tell_8 rfl (by decide) rfl (by omega) (by decide) hkv ?_
    refine qi_tabIn (tgt := 184) dX12_tell_9 (by decide) (by decide) rfl (by decide) ?_
    rw [if_neg (show ¬ kAt T a = 128 by omega), if_neg (show ¬ kAt T a = 129 by omega), if_neg (show ¬ kAt T a = 130 by omega), if_neg (show ¬ kAt T a = 131 by omega), if_neg (show ¬ kAt T a = 132 by omega), if_pos hk] at hR
    have hR1 : bQ (opQ T 133 (P.1 3) 6 a) (fun a1 => clR T a1 (a, s, N, P)) = res := hR
    refine qi_aload_n (i := 0) (x := 280) dX12_tell_184 rfl rfl ?_
    refine qi_aload_n (i := 0) (x := 280) dX12_tell_185 rfl rfl ?_
    refine qi_getR (x := 302) flX12_82 dX12_tell_186 rfl (by decide) (hM 280 35 302 rfl) ?_
    refine qi_aload_n (i := 0) (x := 280) dX12_tell_189 rfl rfl ?_
    refine qi_getI (x := nI S) flX12_251 dX12_tell_190 rfl (by decide) hsd ?_
    refine qi_ialdN (x := nI (P.1 3)) (j := S) dX12_tell_193 rfl (by decide) rfl (by omega) (by decide) ct3 ?_
    refine qi_bipush (v := 6) dX12_tell_194 rfl ?_
    refine qi_callVV (K' := kX12_roomFor) (As := [.int (nI (P.1 3)), .int 6]) mlX12_275 okX12_roomFor dX12_tell_196 (c_X12_roomFor g hK (k := 133) (n := P.1 3) (m := 6) hk (by decide) (by omega) (by decide)) rfl (by decide) rfl (by decide) rfl rfl (Nat.le_of_ble_eq_true rfl) ⟨(Nat.le_of_ble_eq_true rfl), (Nat.le_of_ble_eq_true rfl)⟩ ⟨Nat.le_refl _, Nat.le_refl _⟩ (fun M1 ⟨k1, f1⟩ => ?_)
    cases hA : opQ T 133 (P.1 3) 6 a with
    | error e =>
      rw [bQ_e hA] at hR1
      have kF := qPy_e hA k1
      have hne := kF.n
      refine qi_aload_n (i := 0) (x := 280) dX12_tell_199 rfl rfl ?_
      refine qi_getI (x := nI e.1) flX12_218 dX12_tell_200 rfl (by decide) kF.2.2.1 ?_
      refine qi_if_ne (tgt := 247) dX12_tell_203 (by decide) (fun _hc => ?_) (fun _h => absurd ((nI_eq (a := e.1) (b := 0) (by omega) (by omega)).mp _h) (by omega))
      exact qi_retV rfl dX12_tell_247 (⟨qPy_ie hR1.symm kF, f1.mono (fun b j z => SYt_SY z)⟩)
    | ok a1 =>
      rw [bQ_o hA] at hR1
      have k1 := qPy_o hA k1
      have i1 := op_ok hA
      have Y1 := hY.st hC (FT f1) k1 (by omega) id
      have hz1 := k1.2.1.2.2.2
      refine qi_aload_n (i := 0) (x := 280) dX12_tell_199 rfl rfl ?_
      refine qi_getI (x := nI 0) flX12_218 dX12_tell_200 rfl (by decide) hz1 ?_
      refine qi_if_ne (tgt := 247) dX12_tell_203 (by decide) (fun _h => absurd ((nI_eq (a := 0) (b := 0) (by omega) (by omega)).mpr (by omega)) _h) (fun _hc => ?_)
      refine qi_aload_n (i := 0) (x := 280) dX12_tell_206 rfl rfl ?_
      refine qi_callVV (K' := kX12_tellClaim) (As := []) mlX12_298 okX12_tellClaim dX12_tell_207 (c_X12_tellClaim g hT Y1 (hs.up (by omega)) hC hN (by omega)) rfl (by decide) rfl (by decide) rfl rfl (Nat.le_of_ble_eq_true rfl) ⟨(Nat.le_of_ble_eq_true rfl), (Nat.le_of_ble_eq_true rfl)⟩ ⟨Nat.le_refl _, Nat.le_refl _⟩ (fun M2 ⟨k2, f2⟩ => ?_)
      refine qi_goto (tgt := 247) dX12_tell_210 (by decide) ?_
      exact qi_retV rfl dX12_tell_247 (⟨by rw [← hR1]; exact k2, (f1.mono (fun b j z => SYt_SY z)).tr f2⟩)
  ·
    have hkv : M.1 283 a = nI 27 := hkc.trans (by rw [hk]; rfl)
    refine qV.of (j := 0) (pn_RX12) rfl ?_
    show qT g kX12_tell (qR 7 0 0) (qZV g (fun M' => qPy S T res (rdY S T) M' ∧ qFr (SY S) M M')) 0 [some (.ref 280)] [] 333 M (0, 0)
    refine qi_aload_n (i := 0) (x := 280) dX12_tell_0 rfl rfl ?_
    refine qi_getR (x := 283) flX12_20 dX12_tell_1 rfl (by decide) (hM 280 5 283 rfl) ?_
    refine qi_aload_n (i := 0) (x := 280) dX12_tell_4 rfl rfl ?_
    refine qi_getI (x := nI a) flX12_221 dX12_tell_5 rfl (by decide) hat ?_
    refine qi_ialdN (x := nI 27) (j := a) dX12_tell_8 rfl (by decide) rfl (by omega) (by decide) hkv ?_
    refine qi_tabIn (tgt := 213) dX12_tell_9 (by decide) (by decide) rfl (by decide) ?_
    rw [if_neg (show ¬ kAt T a = 128 by omega), if_neg (show ¬ kAt T a = 129 by omega), if_neg (show ¬ kAt T a = 130 by omega), if_neg (show ¬ kAt T a = 131 by omega), if_neg (show ¬ kAt T a = 132 by omega), if_neg (show ¬ kAt T a = 133 by omega), if_pos hk] at hR
    have hR1 : bQ (acQ T 134 a) (fun a1 => bQ (nuQ T 0 9999 a1 s) (fun r1 => bQ (acQ T 59 r1.1) (fun a5 => Except.ok (a5, r1.2.1, N, cnP P 5 r1.2.2)))) = res := hR
    refine qi_aload_n (i := 0) (x := 280) dX12_tell_213 rfl rfl ?_
    refine qi_callVV (K' := kX12_goesOn) (As := []) mlX12_239 okX12_goesOn dX12_tell_214 (c_X12_goesOn g hK (k := 134) hk (by decide)) rfl (by decide) rfl (by decide) rfl rfl (Nat.le_of_ble_eq_true rfl) ⟨(Nat.le_of_ble_eq_true rfl), (Nat.le_of_ble_eq_true rfl)⟩ ⟨Nat.le_refl _, Nat.le_refl _⟩ (fun M1 ⟨k1, f1⟩ => ?_)
    have ff1 := FT f1
    have hM1 : qRf M1 := hM.fr f1
    have hsd1 : M1.1 280 19 = nI S := (f1.1 _ _ (by unfold SYt; omega)).trans hsd
    refine qi_aload_n (i := 0) (x := 280) dX12_tell_217 rfl rfl ?_
    refine qi_getR (x := 308) flX12_100 dX12_tell_218 rfl (by decide) (hM1 280 41 308 rfl) ?_
    refine qi_aload_n (i := 0) (x := 280) dX12_tell_221 rfl rfl ?_
    refine qi_getI (x := nI S) flX12_251 dX12_tell_222 rfl (by decide) hsd1 ?_
    refine qi_aload_n (i := 0) (x := 280) dX12_tell_225 rfl rfl ?_
    refine qi_iconst (v := 0) dX12_tell_226 rfl ?_
    refine qi_sipush (v := 9999) dX12_tell_227 rfl ?_
    cases hA : acQ T 134 a with
    | error e =>
      rw [bQ_e hA] at hR1
      have kF := qPy_e hA k1
      refine qi_callVI (K' := kX12_bounded) (As := [.int 0, .int 9999]) mlX12_291 okX12_bounded dX12_tell_230 (c_X12_boundedF g kF 0 9999) rfl (by decide) rfl (by decide) rfl rfl (Nat.le_of_ble_eq_true rfl) ⟨(Nat.le_of_ble_eq_true rfl), (Nat.le_of_ble_eq_true rfl)⟩ ⟨Nat.le_refl _, Nat.le_refl _⟩ (fun r2 M2 ⟨e2, e3⟩ => ?_)
      rw [e3]
      refine qi_iastN (j := S) dX12_tell_233 rfl (by decide) rfl (by omega) (by decide) ?_
      refine qi_aload_n (i := 0) (x := 280) dX12_tell_234 rfl rfl ?_
      refine qi_iconst (v := 4) dX12_tell_235 rfl ?_
      have Fa : qFr (fun b j => b = 308 ∧ j = S) M1 (wI M1 308 S r2) := qFr.rf.wI ⟨rfl, rfl⟩
      generalize w2 : wI M1 308 S r2 = Mw2
      have Fb : qFr (fun b j => b = 308 ∧ j = S) M1 Mw2 := by
        rw [← w2]
        exact Fa
      have kw := kF.fr Fb (fun b j z => by omega)
      refine qi_callVV (K' := kX12_must) (As := [.int 4]) mlX12_295 okX12_must dX12_tell_236 (c_X12_mustF g kw 4) rfl (by decide) rfl (by decide) rfl rfl (Nat.le_of_ble_eq_true rfl) ⟨(Nat.le_of_ble_eq_true rfl), (Nat.le_of_ble_eq_true rfl)⟩ ⟨Nat.le_refl _, Nat.le_refl _⟩ (fun M3 e4 => ?_)
      rw [e4]
      refine qi_goto (tgt := 247) dX12_tell_239 (by decide) ?_
      exact qi_retV rfl dX12_tell_247 (⟨qPy_ie hR1.symm kw, (f1.mono (fun b j z => SYt_SY z)).tr (Fb.mono (fun b j z => SY_ct (by decide) z))⟩)
    | ok a1 =>
      rw [bQ_o hA] at hR1
      have k1 := qPy_o hA k1
      have i1 := ac_ok hA
      have Y1 := hY.st hC ff1 k1 (by omega) id
      refine qi_callVI (K' := kX12_bounded) (As := [.int 0, .int 9999]) mlX12_291 okX12_bounded dX12_tell_230 (c_X12_bounded g hT k1 (hs.up (by omega)) (lo := 0) (hi := 9999) (by decide) (by decide)) rfl (by decide) rfl (by decide) rfl rfl (Nat.le_of_ble_eq_true rfl) ⟨(Nat.le_of_ble_eq_true rfl), (Nat.le_of_ble_eq_true rfl)⟩ ⟨Nat.le_refl _, Nat.le_refl _⟩ (fun r2 M2 ⟨kk2, f2⟩ => ?_)
      have hM2 : qRf M2 := hM1.fr f2
      refine qi_iastN (j := S) dX12_tell_233 rfl (by decide) rfl (by omega) (by decide) ?_
      refine qi_aload_n (i := 0) (x := 280) dX12_tell_234 rfl rfl ?_
      refine qi_iconst (v := 4) dX12_tell_235 rfl ?_
      generalize w2 : wI M2 308 S r2 = Mw2
      have Fb : qFr (fun b j => b = 308 ∧ j = S) M2 Mw2 := by
        rw [← w2]
        exact qFr.rf.wI ⟨rfl, rfl⟩
      have fY : qFr (SY S) M Mw2 := (f1.mono (fun b j z => SYt_SY z)).tr ((f2.mono (fun b j z => SYn_SY z)).tr (Fb.mono (fun b j z => SY_ct (by decide) z)))
      cases hA2 : nuQ T 0 9999 a1 s with
      | error e =>
        rw [bQ_e hA2] at hR1
        have kF := (qPy_e hA2 kk2).fr Fb (fun b j z => by omega)
        refine qi_callVV (K' := kX12_must) (As := [.int 4]) mlX12_295 okX12_must dX12_tell_236 (c_X12_mustF g kF 4) rfl (by decide) rfl (by decide) rfl rfl (Nat.le_of_ble_eq_true rfl) ⟨(Nat.le_of_ble_eq_true rfl), (Nat.le_of_ble_eq_true rfl)⟩ ⟨Nat.le_refl _, Nat.le_refl _⟩ (fun M3 e4 => ?_)
        rw [e4]
        refine qi_goto (tgt := 247) dX12_tell_239 (by decide) ?_
        exact qi_retV rfl dX12_tell_247 (⟨qPy_ie hR1.symm kF, fY⟩)
      | ok v2 =>
        rw [bQ_o hA2] at hR1
        obtain ⟨k2, er2⟩ := qPy_o hA2 kk2
        obtain ⟨l2, m2, p2, q2⟩ := nu_all (hs.up (by omega)) hA2
        have kw2 := k2.fr Fb (fun b j z => by omega)
        have x2 : Mw2.1 308 S = nI v2.2.2 := by rw [← w2, wI_s, er2]
        refine qi_callVV (K' := kX12_must) (As := [.int 4]) mlX12_295 okX12_must dX12_tell_236 (c_X12_must g hT kw2 (k := 59) (by decide) (by decide)) rfl (by decide) rfl (by decide) rfl rfl (Nat.le_of_ble_eq_true rfl) ⟨(Nat.le_of_ble_eq_true rfl), (Nat.le_of_ble_eq_true rfl)⟩ ⟨Nat.le_refl _, Nat.le_refl _⟩ (fun M3 ⟨kk3, f3⟩ => ?_)
        refine qi_goto (tgt := 247) dX12_tell_239 (by decide) ?_
        have fY3 : qFr (SY S) M M3 := fY.tr (f3.mono (fun b j z => SYt_SY z))
        cases hA3 : acQ T 59 v2.1 with
        | error e =>
          rw [bQ_e hA3] at hR1
          exact qi_retV rfl dX12_tell_247 (⟨qPy_ie hR1.symm (qPy_e hA3 kk3), fY3⟩)
        | ok a5 =>
          rw [bQ_o hA3] at hR1
          have k3 := qPy_o hA3 kk3
          have i3 := ac_ok hA3
          have F0 : qFr (fun b j => SYn b j ∨ (b = 308 ∧ j = S)) M M3 := (ff1.mono (fun b j z => Or.inl z)).tr ((f2.mono (fun b j z => Or.inl z)).tr ((Fb.mono (fun b j z => Or.inr z)).tr (f3.mono (fun b j z => Or.inl (Or.inl z)))))
          have FS : ∀ b j, SYn b j ∨ (b = 308 ∧ j = S) → (b = 309 ∨ b = 310 → j < 17 * S ∨ (17 * S + P.1 2 ≤ j ∧ j < 17 * S + 16) ∨ 17 * S + 16 < j) ∧ (311 ≤ b → b ≤ 315 → j < 130 * S ∨ 130 * S + bk ≤ j) ∧ (b = 316 ∨ b = 317 → j < 420 * S ∨ 420 * S + ck ≤ j) := fun b j z => by
            have hb : b = 280 ∨ b = 308 := z.imp (fun z => SYn_l z) (fun z => z.1)
            omega
          have G0 : ∀ b j, b < 308 → 281 ≤ b → M3.1 b j = M.1 b j := fun b j h1 h2 => F0.1 _ _ (fun z => z.elim (SYn_hi h2) (fun z => absurd z.1 (by omega)))
          have G1 : ∀ j, j = 12 ∨ j = 44 ∨ j = 50 → M3.1 280 j = M.1 280 j := fun j h => F0.1 _ _ (fun z => z.elim (SYn_280 h) (fun z => absurd z.1 (by decide)))
          refine qi_retV rfl dX12_tell_247 (⟨qPy_io hR1.symm ⟨k3, (G1 12 (by decide)).trans hop, ⟨(G0 291 S (by decide) (by decide)).trans ct0, (G0 294 S (by decide) (by decide)).trans ct1, (G0 299 S (by decide) (by decide)).trans ct2, (G0 302 S (by decide) (by decide)).trans ct3⟩, fun z => ?_, ck, bk, ⟨by show ck ≤ a5; omega, by show 4 * bk ≤ a5; omega, (G1 50 (by decide)).trans hcd, (G1 44 (by decide)).trans hbn⟩, (hls.fr c2 F0 FS).cn (by decide)⟩, fY3⟩)
          obtain ⟨⟨y1, y2⟩, y3, y4, y5, y6⟩ := hdt (q2 z).1
          have x3 : M3.1 308 S = nI v2.2.2 := (f3.1 _ _ (SYt_hi (by decide))).trans x2
          refine ⟨⟨(F0.1 _ _ (fun z => z.elim (SYn_hi (by decide)) (fun z => absurd z.1 (by decide)))).trans y1, x3⟩, fun c i hc hi => (G0 _ _ (by omega) (by omega)).trans (y3 c i hc hi), fun c i hc hi => (G0 _ _ (by omega) (by omega)).trans (y4 c i hc hi), fun c i hc hi => (G0 _ _ (by omega) (by omega)).trans (y5 c i hc hi), fun k hk => ⟨(G0 _ _ (by omega) (by omega)).trans (y6 k hk).1, fun i hi => ?_⟩⟩
          obtain ⟨z1, z2, z3⟩ := (y6 k hk).2 i hi
          exact ⟨(G0 _ _ (by omega) (by omega)).trans z1, (G0 _ _ (by omega) (by omega)).trans z2, (G0 _ _ (by omega) (by omega)).trans z3⟩
  ·
    have hkv : M.1 283 a = nI 26 := hkc.trans (by rw [hk]; rfl)
    refine qV.of (j := 0) (pn_RX12) rfl ?_
    show qT g kX12_tell (qR 7 0 0) (qZV g (fun M' => qPy S T res (rdY S T) M' ∧ qFr (SY S) M M')) 0 [some (.ref 280)] [] 333 M (0, 0)
    refine qi_aload_n (i := 0) (x := 280) dX12_tell_0 rfl rfl ?_
    refine qi_getR (x := 283) flX12_20 dX12_tell_1 rfl (by decide) (hM 280 5 283 rfl) ?_
    refine qi_aload_n (i := 0) (x := 280) dX12_tell_4 rfl rfl ?_
    refine qi_getI (x := nI a) flX12_221 dX12_tell_5 rfl (by decide) hat ?_
    refine qi_ialdN (x := nI 26) (j := a) dX12_tell_8 rfl (by decide) rfl (by omega) (by decide) hkv ?_
    refine qi_tabIn (tgt := 242) dX12_tell_9 (by decide) (by decide) rfl (by decide) ?_
    exact OUT (by omega)
