/-! the class's read, the whole -/
def SAf : Nat → Nat → Prop := fun b j => (224 ≤ b ∧ b ≤ 229) ∨ (b = 12 ∧ j = 4) ∨ b = 15 ∨ STd b j ∨ (b = 218 ∧ j = 4)
set_option maxHeartbeats 2000000 in
theorem c_X11_read (g : qG) {M : qM} (hM : qRf M) {p p2 : Nat} {t : qTp} {pl : Int32} {π : qPl} {c : qCo} {η : qHd} {τ : qTo} (hC : qCs M p p2 (t, pl, π, c, η, τ)) (ok : okTp t) : qI g 19 kX11_read [.ref 0] M (fun r M' => r = (rdV (scQ t) (reQ (scQ t) 401 v0Q) (t, pl, π, c, η, τ)).1 ∧ (∃ p p2, qCs M' p p2 (rdV (scQ t) (reQ (scQ t) 401 v0Q) (t, pl, π, c, η, τ)).2) ∧ qFX M M') := by
  have hT := sc_ok ok
  have her := fun e => re_er (T := scQ t) hT 401 v0Q e v0_ok (by decide)
  have hok := fun w => re_ok (T := scQ t) hT 401 v0Q w v0_ok
  obtain ⟨⟨hp, hp2, hpp⟩, ⟨⟨hr, hr2⟩, hP, hW, hpl, hwd⟩, hTp, ⟨hSe, hHi⟩, hHd, hE, hRw⟩ := id hC
  generalize hV : rdV (scQ t) (reQ (scQ t) 401 v0Q) (t, pl, π, c, η, τ) = V
  generalize hR : reQ (scQ t) 401 v0Q = res at her hok hV
  have hla := hp2.2.1
  have hlb := hp2.2.2
  have i1 := isP_2 hp
  have i2 := isP_2 hp2
  refine qI.of (j := 2) (pn_RX11) rfl ?_
  show qT g kX11_read (qR 19 0 0) (qZI g (fun r M' => r = V.1 ∧ (∃ p p2, qCs M' p p2 V.2) ∧ qFX M M')) 0 [some (.ref 0), none, none] [] 333 M (0, 0)
  refine qi_aload_n (i := 0) (x := 0) dX11_read_0 rfl rfl ?_
  refine qi_getR (x := 3) flX11_19 dX11_read_1 rfl (by decide) (hM 0 1 3 rfl) ?_
  refine qi_aload_n (i := 0) (x := 0) dX11_read_4 rfl rfl ?_
  refine qi_getR (x := 1) flX11_12 dX11_read_5 rfl (by decide) (hM 0 0 1 rfl) ?_
  refine qi_aload_n (i := 0) (x := 0) dX11_read_8 rfl rfl ?_
  refine qi_getR (x := p2) flX11_71 dX11_read_9 rfl (by decide) hr2 ?_
  refine qi_callVI (K' := kX4_parse) (As := [.ref 1, .ref p2]) mlX11_92 okX4_parse dX11_read_12 (c_X4_parse g hM hwd hTp ok hp2) rfl (by decide) rfl (by decide) rfl rfl (Nat.le_of_ble_eq_true rfl) ⟨(Nat.le_of_ble_eq_true rfl), (Nat.le_of_ble_eq_true rfl)⟩ ⟨Nat.le_refl _, Nat.le_refl _⟩ (fun r1 M1 ⟨h1, hf1⟩ => ?_)
  rw [hR] at h1
  have hMw : qRf (wR M 3 5 (some p2)) := hM.wR (by decide +kernel)
  have hM1 := hMw.fr hf1
  have e2 : ∀ b j, ¬ b = 3 → M1.2.2 b j = M.2.2 b j := fun b j hb => by
    rw [hf1.2.2]
    exact if_neg (c := b = 3 ∧ j = 5) (fun z => hb z.1)
  have hr1 : M1.2.2 0 9 = some p := (e2 0 9 (by decide)).trans hr
  have hr12 : M1.2.2 0 10 = some p2 := (e2 0 10 (by decide)).trans hr2
  obtain ⟨x, hx⟩ : ∃ x, x = M1.1 3 11 := ⟨_, rfl⟩
  refine qi_istore_n (i := 1) (L2 := [some (.ref 0), some (.int r1), none]) dX11_read_15 rfl (Nat.le_of_ble_eq_true rfl) rfl ?_
  refine qi_aload_n (i := 0) (x := 0) dX11_read_16 rfl rfl ?_
  refine qi_getR (x := 1) flX11_12 dX11_read_17 rfl (by decide) (hM1 0 0 1 rfl) ?_
  refine qi_iconst (v := 0) dX11_read_20 rfl ?_
  refine qi_putI flX11_85 q_cls7 (ty7_1 _) dX11_read_21 rfl (by decide) ?_
  refine qi_aload_n (i := 0) (x := 0) dX11_read_24 rfl rfl ?_
  refine qi_aload_n (i := 0) (x := 0) dX11_read_25 rfl rfl ?_
  refine qi_getR (x := 3) flX11_19 dX11_read_26 rfl (by decide) (hM1 0 1 3 rfl) ?_
  refine qi_getI (x := x) flX11_96 dX11_read_29 rfl (by decide) ((wI_a (by decide)).trans hx.symm) ?_
  refine qi_putI flX11_74 q_cls11 (ty11_11 _) dX11_read_32 rfl (by decide) ?_
  generalize e3 : wI (wI M1 1 1 0) 0 11 x = M3
  have F3 : qFr (SRe p2) (wR M 3 5 (some p2)) M3 := by
    rw [← e3]
    exact ((hf1.mono (S' := SRe p2) (fun b j z => Or.inl z)).wI (Or.inr (Or.inl ⟨rfl, rfl⟩))).wI (Or.inr (Or.inr ⟨rfl, rfl⟩))
  have q1 : M3.1 1 1 = 0 := by
    rw [← e3, wI_a (by decide), wI_s]
  have q2 : M3.1 0 11 = x := by
    rw [← e3, wI_s]
  have hM3 := hMw.fr F3
  have X3 : qFX M M3 := ⟨hM3, fun b j hb => F3.1 b j (by unfold SRe SPa; omega), fun b j hb => F3.2.1 b j (by unfold SRe SPa; omega)⟩
  have RET : ¬ r1 = 0 → r1 = V.1 → (∃ p p2, qCs M3 p p2 V.2) → qT g kX11_read (qR 19 0 0) (qZI g (fun r M' => r = V.1 ∧ (∃ p p2, qCs M' p p2 V.2) ∧ qFX M M')) 35 [some (.ref 0), some (.int r1), none] [] 333 M3 (0, 0) := by
    intro hn h1 h2
    refine qi_iload_n (i := 1) (x := r1) dX11_read_35 rfl rfl ?_
    refine qi_if_eq (tgt := 41) dX11_read_36 (by decide) (fun z => False.elim ((hn z))) (fun z => ?_)
    refine qi_iload_n (i := 1) (x := r1) dX11_read_39 rfl rfl ?_
    exact qi_retI rfl rfl dX11_read_40 (⟨h1, h2, X3⟩)
  cases res with
  | error e =>
    obtain ⟨g1, g2⟩ := h1
    have eo := (her e rfl).1
    have eV : V = (nI e.1, ((0, t.2), nI (pAt (scQ t) e.2), π, c, η, τ)) := hV.symm
    have k := rd_keep hC F3 q1 (q2.trans (hx.trans g2))
    refine RET ?_ (by rw [eV]; exact g1) ⟨p, p2, by rw [eV]; exact k⟩
    rw [g1]
    exact nI_ne0 (by omega) (by omega)
  | ok w =>
    obtain ⟨g1, g2, sz, hsz, g3⟩ := h1
    obtain ⟨ow, -⟩ := hok w rfl
    have s5 := ow.1.2.1
    by_cases h0 : w.2.1.1 = 0
    ·
      rw [h0] at g1
      have eV : V = (0, ((0, t.2), -1, piQ w.2.2.2, (beginF (piQ w.2.2.2), 0, c.2.2), (fun _ => 0, η.2), (0, τ.2))) := by
        rw [← hV]
        exact if_pos h0
      rw [if_pos h0] at g2
      obtain ⟨hpl2, hcl2⟩ := ow.pl h0
      have ol := ow.2.2.2.1
      have P3 : qPX M3 p2 w.2.2.2 sz := by
        rw [← e3]
        exact g3.low hla ((qFr.rf.wI (show SLo 1 1 by unfold SLo; omega)).wI (show SLo 0 11 by unfold SLo; omega))
      have hr13 : M3.2.2 0 9 = some p := by
        rw [← e3]
        exact hr1
      have hr123 : M3.2.2 0 10 = some p2 := by
        rw [← e3]
        exact hr12
      refine qi_iload_n (i := 1) (x := r1) dX11_read_35 rfl rfl ?_
      refine qi_if_eq (tgt := 41) dX11_read_36 (by decide) (fun z => ?_) (fun z => False.elim ((z g1)))
      refine qi_aload_n (i := 0) (x := 0) dX11_read_41 rfl rfl ?_
      refine qi_getR (x := p) flX11_67 dX11_read_42 rfl (by decide) hr13 ?_
      refine qi_astore_n (i := 2) (L2 := [some (.ref 0), some (.int r1), some (.ref p)]) dX11_read_45 rfl (Nat.le_of_ble_eq_true rfl) rfl ?_
      refine qi_aload_n (i := 0) (x := 0) dX11_read_46 rfl rfl ?_
      refine qi_aload_n (i := 0) (x := 0) dX11_read_47 rfl rfl ?_
      refine qi_getR (x := p2) flX11_71 dX11_read_48 rfl (by decide) hr123 ?_
      refine qi_putR (x := p2) flX11_67 q_cls11 ty11_9 (fun h => by cases h) dX11_read_51 rfl (by decide) ?_
      refine qi_aload_n (i := 0) (x := 0) dX11_read_54 rfl rfl ?_
      refine qi_aload_n (i := 2) (x := p) dX11_read_55 rfl rfl ?_
      refine qi_putR (x := p) flX11_71 q_cls11 ty11_10 (fun h => by cases h) dX11_read_56 rfl (by decide) ?_
      generalize e5 : wR (wR M3 0 9 (some p2)) 0 10 (some p) = M5
      have hM5 : qRf M5 := by
        rw [← e5]
        exact (hM3.wR (by decide +kernel)).wR (by decide +kernel)
      have hr5 : M5.2.2 0 9 = some p2 := by
        rw [← e5]
        show (if 0 = 0 ∧ 9 = 10 then some p else if 0 = 0 ∧ 9 = 9 then some p2 else M3.2.2 0 9) = some p2
        rw [if_neg (by decide), if_pos (by decide)]
      have hr52 : M5.2.2 0 10 = some p := by
        rw [← e5]
        show (if 0 = 0 ∧ 10 = 10 then some p else if 0 = 0 ∧ 10 = 9 then some p2 else M3.2.2 0 10) = some p
        rw [if_pos (by decide)]
      have c5 : ∀ b j, M5.1 b j = M3.1 b j := fun b j => by
        rw [← e5]
        rfl
      have d5 : ∀ b j, M5.2.1 b j = M3.2.1 b j := fun b j => by
        rw [← e5]
        rfl
      have P5 : qPX M5 p2 w.2.2.2 sz := by
        rw [← e5]
        exact P3
      obtain ⟨hPl, hWl⟩ := P5.plan ol (by omega)
      refine qi_aload_n (i := 0) (x := 0) dX11_read_59 rfl rfl ?_
      refine qi_getR (x := 224) flX11_54 dX11_read_60 rfl (by decide) (hM5 0 6 224 rfl) ?_
      refine qi_aload_n (i := 0) (x := 0) dX11_read_63 rfl rfl ?_
      refine qi_getR (x := p2) flX11_67 dX11_read_64 rfl (by decide) hr5 ?_
      refine qi_callVV (K' := kX6_begin) (As := [.ref p2]) mlX11_81 okX6_begin dX11_read_67 (c_X6_begin g qIsS_sea hp2 (by decide) hM5 hPl hpl2) rfl (by decide) rfl (by decide) rfl rfl (Nat.le_of_ble_eq_true rfl) ⟨(Nat.le_of_ble_eq_true rfl), (Nat.le_of_ble_eq_true rfl)⟩ ⟨Nat.le_refl _, Nat.le_refl _⟩ (fun M6 ⟨s6, f6⟩ => ?_)
      have hM6 := hM5.fr f6
      refine qi_aload_n (i := 0) (x := 0) dX11_read_70 rfl rfl ?_
      refine qi_getR (x := 12) flX11_26 dX11_read_71 rfl (by decide) (hM6 0 2 12 rfl) ?_
      refine qi_callVV (K' := kX2_clear) (As := []) mlX11_99 okX2_clear dX11_read_74 (c_X2_clear g hM6) rfl (by decide) rfl (by decide) rfl rfl (Nat.le_of_ble_eq_true rfl) ⟨(Nat.le_of_ble_eq_true rfl), (Nat.le_of_ble_eq_true rfl)⟩ ⟨Nat.le_refl _, Nat.le_refl _⟩ (fun M7 ⟨a7, b7, f7⟩ => ?_)
      have hM7 := hM6.fr f7
      refine qi_aload_n (i := 0) (x := 0) dX11_read_77 rfl rfl ?_
      refine qi_getR (x := 214) flX11_33 dX11_read_78 rfl (by decide) (hM7 0 3 214 rfl) ?_
      refine qi_callVV (K' := kX9_clear) (As := []) mlX11_100 okX9_clear dX11_read_81 (c_X9_clear g hM7 (piQ w.2.2.2) τ) rfl (by decide) rfl (by decide) rfl rfl (Nat.le_of_ble_eq_true rfl) ⟨(Nat.le_of_ble_eq_true rfl), (Nat.le_of_ble_eq_true rfl)⟩ ⟨Nat.le_refl _, Nat.le_refl _⟩ (fun M8 ⟨t8, x8, f8⟩ => ?_)
      have hM8 := hM7.fr f8
      refine qi_aload_n (i := 0) (x := 0) dX11_read_84 rfl rfl ?_
      refine qi_getR (x := 218) flX11_40 dX11_read_85 rfl (by decide) (hM8 0 4 218 rfl) ?_
      refine qi_callVV (K' := kX5_clear) (As := []) mlX11_101 okX5_clear dX11_read_88 (c_X5_clear g) rfl (by decide) rfl (by decide) rfl rfl (Nat.le_of_ble_eq_true rfl) ⟨(Nat.le_of_ble_eq_true rfl), (Nat.le_of_ble_eq_true rfl)⟩ ⟨Nat.le_refl _, Nat.le_refl _⟩ (fun M9 e9 => ?_)
      have f9 : qFr (fun b j => b = 218 ∧ j = 4) M8 M9 := by
        rw [e9]
        exact qFr.rf.wI ⟨rfl, rfl⟩
      have F9 : qFr SAf M5 M9 := (((f6.mono (fun b j z => by unfold SS at z; unfold SAf STd; omega)).tr (f7.mono (fun b j z => by unfold SAf STd; omega))).tr (f8.mono (fun b j z => by unfold STd at z; unfold SAf STd; omega))).tr (f9.mono (fun b j z => by unfold SAf STd; omega))
      have hM9 := hM5.fr F9
      have g9 : ∀ b j, ¬ SAf b j → ¬ SRe p2 b j → M9.1 b j = M.1 b j := fun b j h1 h2 => (F9.1 b j h1).trans ((c5 b j).trans (F3.1 b j h2))
      have g9b : ∀ b j, ¬ SAf b j → ¬ SRe p2 b j → M9.2.1 b j = M.2.1 b j := fun b j h1 h2 => (F9.2.1 b j h1).trans ((d5 b j).trans (F3.2.1 b j h2))
      refine qi_iconst (v := 0) dX11_read_91 rfl ?_
      refine qi_retI rfl rfl dX11_read_92 (⟨by rw [eV], ⟨p2, p, ?_⟩, hM9, fun b j hb => g9 b j (by unfold SAf STd; omega) (by unfold SRe SPa; omega), fun b j hb => g9b b j (by unfold SAf STd; omega) (by unfold SRe SPa; omega)⟩)
      rw [eV]
      obtain ⟨nx, n1, n2, n3, n4, n5⟩ := hHi
      refine ⟨⟨hp2, hp, fun z => hpp z.symm⟩, ⟨⟨by rw [F9.2.2]; exact hr5, by rw [F9.2.2]; exact hr52⟩, hPl.fr F9 (fun i j hi z => by unfold SAf STd at z; omega), hWl.fr F9 (fun i j z => by unfold SAf STd at z; omega), ?_, fun i hi => (g9b 8 i (by unfold SAf STd; omega) (by unfold SRe SPa; omega)).trans (hwd i hi)⟩, ⟨?_, fun k hk => absurd hk (Nat.not_lt_zero _)⟩, ⟨?_, ⟨nx, n1, ?_, ?_, Nat.zero_le _, fun i hi => absurd hi (Nat.not_lt_zero _)⟩⟩, ⟨fun s hs => ⟨?_, Or.inl rfl⟩, fun s hs z => absurd (show (0 : Int32) = 1 from z) (by decide)⟩, ⟨?_, ?_⟩, Or.inl ?_⟩
      · rw [F9.1 _ _ (by unfold SAf STd; omega), c5, q2, hx, g2]
      · rw [F9.1 _ _ (by unfold SAf STd; omega), c5, q1]
        rfl
      · exact ((s6.fr f7 (fun j k hj z => by omega)).fr f8 (fun j k hj z => by unfold STd at z; omega)).fr f9 (fun j k hj z => by omega)
      · exact (g9 12 3 (by unfold SAf STd; omega) (by unfold SRe SPa; omega)).trans n2
      · rw [f9.1 _ _ (by omega), f8.1 _ _ (by unfold STd; omega), a7]
        rfl
      · rw [f9.1 _ _ (by omega), f8.1 _ _ (by unfold STd; omega)]
        exact b7 s hs
      · exact t8.fr f9 (fun b j z => by omega)
      · exact x8.fr f9 (fun b j z => by omega)
      · rw [e9, wI_s]
    ·
      rw [if_neg h0] at g2
      have eV : V = (nI w.2.1.1, ((0, t.2), nI (pAt (scQ t) w.2.1.2), π, c, η, τ)) := by
        rw [← hV]
        exact if_neg h0
      have k := rd_keep hC F3 q1 (q2.trans (hx.trans g2))
      refine RET ?_ (by rw [eV]; exact g1) ⟨p, p2, by rw [eV]; exact k⟩
      rw [g1]
      exact nI_ne0 (by omega) (by omega)
