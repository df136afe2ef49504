/-! ThimbleSea$Laws.value -/
set_option maxHeartbeats 8000000 in
theorem c_X1_value (g : qG) {q sz pl : Nat} {v : Nat → Int32} {M : qM} (hq : qIsL q) (hM : qRf M) (hz : M.1 q 6 = nI sz) (hsz : sz ≤ 802) (hv : qVars M q v) {res : Int32} (hpl : pl ≤ 802) (hrun : runC (M.1 (q + 1)) sz v 802 pl [] = some res) : qI g 2 kX1_value [.ref q, .int (nI pl)] M (fun r M' => r = res ∧ qFr (SL q) M M') := by
  have hlt := hq.2.2.2.2
  have K : ∀ f at_ st M1 x4 x5 x6, f ≤ 802 → at_ ≤ 100000 → qStk M1 q st → qFr (SL q) M M1 → runC (M.1 (q + 1)) sz v f at_ st = some res → qT g kX1_value (qR 2 0 0) (qZI g (fun r M' => r = res ∧ qFr (SL q) M M')) 9 [some (.ref q), some (.int (nI pl)), some (.int (nI at_)), some (.int (nI (802 - f))), x4, x5, x6] [] 333 M1 (0, 0) := by
    intro f
    induction f with
    | zero => intro at_ st M1 x4 x5 x6 h1 h1b h2 h3 h4; exact absurd h4 (by simp [runC])
    | succ f ih =>
      intro at_ st M1 x4 x5 x6 h1 h1b hst hfr hr
      have hM1 : qRf M1 := hM.fr hfr
      have hv1 : qVars M1 q v := hv.fr hfr
      have eC : ∀ j, M1.1 (q + 1) j = M.1 (q + 1) j := fun j => hfr.1 _ _ (by unfold SL; omega)
      have ez : M1.1 q 6 = nI sz := (hfr.1 _ _ (by unfold SL; omega)).trans hz
      rw [runC_s] at hr
      by_cases hat : at_ < sz
      · rw [if_pos hat] at hr
        generalize hc : M.1 (q + 1) at_ = c at hr
        have next : ∀ (at2 : Nat) (st2 : List Int32) (M2 : qM) (y4 y5 y6 : Option Value), at2 ≤ 100000 → qStk M2 q st2 → qFr (SL q) M1 M2 → runC (M.1 (q + 1)) sz v f at2 st2 = some res → qT g kX1_value (qR 2 0 0) (qZI g (fun r M' => r = res ∧ qFr (SL q) M M')) 136 [some (.ref q), some (.int (nI pl)), some (.int (nI at2)), some (.int (nI (802 - (f + 1)))), y4, y5, y6] [] 333 M2 (0, 0) := by
          intro at2 st2 M2 y4 y5 y6 g1 g2 g3 g4
          have A := ih at2 st2 M2 y4 y5 y6 (by omega) g1 g2 (hfr.tr g3) g4
          rw [show 802 - f = 802 - (f + 1) + 1 by omega] at A
          refine qi_iinc (i := 3) (x := nI (802 - (f + 1))) (v := nI (802 - (f + 1) + 1)) (L2 := [some (.ref q), some (.int (nI pl)), some (.int (nI at2)), some (.int (nI (802 - (f + 1) + 1))), y4, y5, y6]) dX1_value_136 rfl (nI_1 (802 - (f + 1))) (Nat.le_of_ble_eq_true rfl) rfl ?_
          refine qi_goto (tgt := 9) dX1_value_139 (by decide) ?_
          exact A
        refine qi_iload_n (i := 3) (x := nI (802 - (f + 1))) dX1_value_9 rfl rfl ?_
        refine qi_sipush (v := 802) dX1_value_10 rfl ?_
        refine qi_icmp_ge (tgt := 142) dX1_value_13 (by decide) (fun _h => absurd ((nI_leI (a := 802) (b := 802 - (f + 1)) (by omega) (by omega)).mp _h) (by omega)) (fun _hc => ?_)
        refine qi_iload_n (i := 2) (x := nI at_) dX1_value_16 rfl rfl ?_
        refine qi_if_lt (tgt := 142) dX1_value_17 (by decide) (fun _h => absurd ((nI_ltI (a := at_) (b := 0) (by omega) (by omega)).mp _h) (by omega)) (fun _hc => ?_)
        refine qi_iload_n (i := 2) (x := nI at_) dX1_value_20 rfl rfl ?_
        refine qi_aload_n (i := 0) (x := q) dX1_value_21 rfl rfl ?_
        refine qi_getI (x := M1.1 q 6) flX1_31 dX1_value_22 hq.1 (by omega) rfl ?_
        refine qe_top (y := nI sz) ez ?_
        refine qi_icmp_ge (tgt := 142) dX1_value_25 (by decide) (fun _h => absurd ((nI_leI (a := sz) (b := at_) (by omega) (by omega)).mp _h) (by omega)) (fun _hc => ?_)
        refine qi_aload_n (i := 0) (x := q) dX1_value_28 rfl rfl ?_
        refine qi_getR (x := q + 1) flX1_11 dX1_value_29 hq.1 (by omega) (hM1 q 0 (q + 1) (qref_1_0 hq.1)) ?_
        refine qi_iload_n (i := 2) (x := nI at_) dX1_value_32 rfl rfl ?_
        refine qi_ialdN (x := M1.1 (q + 1) at_) (j := at_) dX1_value_33 hq.2.1 (by omega) rfl (by omega) (by decide) rfl ?_
        refine qe_top (y := c) ((eC at_).trans hc) ?_
        refine qi_istore (i := 4) (L2 := [some (.ref q), some (.int (nI pl)), some (.int (nI at_)), some (.int (nI (802 - (f + 1)))), some (.int c), x5, x6]) dX1_value_34 (Nat.le_of_ble_eq_true rfl) rfl ?_
        refine qi_iinc (i := 2) (x := nI at_) (v := nI (at_ + 1)) (L2 := [some (.ref q), some (.int (nI pl)), some (.int (nI (at_ + 1))), some (.int (nI (802 - (f + 1)))), some (.int c), x5, x6]) dX1_value_36 rfl (nI_1 at_) (Nat.le_of_ble_eq_true rfl) rfl ?_
        refine qi_iload (i := 4) (x := c) dX1_value_39 rfl ?_
        refine qi_bipush (v := -12) dX1_value_41 rfl ?_
        refine qi_icmp_ne (tgt := 51) dX1_value_43 (by decide) (fun c1 => ?_) (fun c1 => ?_)
        · refine qi_iload (i := 4) (x := c) dX1_value_51 rfl ?_
          refine qi_bipush (v := -11) dX1_value_53 rfl ?_
          refine qi_icmp_ne (tgt := 92) dX1_value_55 (by decide) (fun c2 => ?_) (fun c2 => ?_)
          · refine qi_iload (i := 4) (x := c) dX1_value_92 rfl ?_
            refine qi_bipush (v := -6) dX1_value_94 rfl ?_
            refine qi_icmp_lt (tgt := 108) dX1_value_96 (by decide) (fun c3 => ?_) (fun c3 => ?_)
            · refine qi_aload_n (i := 0) (x := q) dX1_value_108 rfl rfl ?_
              have c3' : ¬ (-6 : Int32) ≤ c := fun z => absurd c3 (Int32.not_lt.mpr z)
              rw [if_neg c1, if_neg c2, if_neg c3'] at hr
              by_cases c4 : -10 ≤ c
              · rw [if_pos c4] at hr
                match st, hst, hr with
                | [], hst, hr => simp at hr
                | [r], hst, hr => simp at hr
                | r :: l :: st2, hst, hr =>
                  have hcs : c = -7 ∨ c = -8 ∨ c = -9 ∨ c = -10 := by
                    have a1 := Int32.le_iff_toInt_le.mp c4
                    have a2 : ¬ (-6 : Int) ≤ c.toInt := fun z => c3' (Int32.le_iff_toInt_le.mpr (by rw [show (-6 : Int32).toInt = -6 by decide]; exact z))
                    rw [show (-10 : Int32).toInt = -10 by decide] at a1
                    rcases (show c.toInt = -7 ∨ c.toInt = -8 ∨ c.toInt = -9 ∨ c.toInt = -10 by omega) with h | h | h | h
                    · exact Or.inl (Int32.toInt_inj.mp (by rw [h]; decide))
                    · exact Or.inr (Or.inl (Int32.toInt_inj.mp (by rw [h]; decide)))
                    · exact Or.inr (Or.inr (Or.inl (Int32.toInt_inj.mp (by rw [h]; decide))))
                    · exact Or.inr (Or.inr (Or.inr (Int32.toInt_inj.mp (by rw [h]; decide))))
                  simp only at hr
                  refine qi_callVI (K' := kX1_pop) (As := []) mlX1_38 okX1_pop dX1_value_109 (c_X1_pop g hq hM1 hst) hq.1 (by decide) rfl (by omega) rfl rfl (Nat.le_of_ble_eq_true rfl) ⟨(Nat.le_of_ble_eq_true rfl), (Nat.le_of_ble_eq_true rfl)⟩ ⟨Nat.le_refl _, Nat.le_refl _⟩ (fun r2 M2 ⟨er, hs2, hf2⟩ => ?_)
                  rw [er]
                  have hM2 : qRf M2 := hM1.fr hf2
                  have O : ¬ (c = -10 ∧ r = 0) → qT g kX1_value (qR 2 0 0) (qZI g (fun r M' => r = res ∧ qFr (SL q) M M')) 128 [some (.ref q), some (.int (nI pl)), some (.int (nI (at_ + 1))), some (.int (nI (802 - (f + 1)))), some (.int c), some (.int r), x6] [] 333 M2 (0, 0) := by
                    intro hn
                    rw [if_neg hn] at hr
                    refine qi_aload_n (i := 0) (x := q) dX1_value_128 rfl rfl ?_
                    refine qi_iload (i := 4) (x := c) dX1_value_129 rfl ?_
                    refine qi_iload (i := 5) (x := r) dX1_value_131 rfl ?_
                    refine qi_callVV (K' := kX1_operate) (As := [.int c, .int r]) mlX1_49 okX1_operate dX1_value_133 (c_X1_operate g hq hM2 hs2 (by rcases hcs with h | h | h | h <;> first | exact Or.inl h | exact Or.inr (Or.inl h) | exact Or.inr (Or.inr (Or.inl h)) | exact Or.inr (Or.inr (Or.inr ⟨h, fun z => hn ⟨h, z⟩⟩)))) hq.1 (by decide) rfl (by omega) rfl rfl (Nat.le_of_ble_eq_true rfl) ⟨(Nat.le_of_ble_eq_true rfl), (Nat.le_of_ble_eq_true rfl)⟩ ⟨Nat.le_refl _, Nat.le_refl _⟩ (fun M3 ⟨hs3, hf3⟩ => ?_)
                    exact next _ _ _ _ _ _ (by omega) hs3 (hf2.tr hf3) hr
                  refine qi_istore (i := 5) (L2 := [some (.ref q), some (.int (nI pl)), some (.int (nI (at_ + 1))), some (.int (nI (802 - (f + 1)))), some (.int c), some (.int r), x6]) dX1_value_112 (Nat.le_of_ble_eq_true rfl) rfl ?_
                  refine qi_iload (i := 4) (x := c) dX1_value_114 rfl ?_
                  refine qi_bipush (v := -10) dX1_value_116 rfl ?_
                  refine qi_icmp_ne (tgt := 128) dX1_value_118 (by decide) (fun c5 => ?_) (fun c5 => ?_)
                  · skip
                    exact O (fun z => c5 z.1)
                  · refine qi_iload (i := 5) (x := r) dX1_value_121 rfl ?_
                    refine qi_if_ne (tgt := 128) dX1_value_123 (by decide) (fun c6 => ?_) (fun c6 => ?_)
                    · skip
                      exact O (fun z => c6 z.2)
                    · refine qi_iconst (v := 0) dX1_value_126 rfl ?_
                      rw [if_pos ⟨c5, c6⟩] at hr
                      exact qi_retI rfl rfl dX1_value_127 (⟨Option.some.inj hr, hfr.tr hf2⟩)
              · rw [if_neg c4] at hr
                cases hr
            · refine qi_aload_n (i := 0) (x := q) dX1_value_99 rfl rfl ?_
              refine qi_iload (i := 4) (x := c) dX1_value_100 rfl ?_
              have c3' : (-6 : Int32) ≤ c := Int32.not_lt.mp c3
              rw [if_neg c1, if_neg c2, if_pos c3'] at hr
              by_cases hl : st.length < 32
              · rw [if_pos hl] at hr
                refine qi_callVV (K' := kX1_push) (As := [.int c]) mlX1_46 okX1_push dX1_value_102 (c_X1_push g hq hM1 hst hv1 hl c3') hq.1 (by decide) rfl (by omega) rfl rfl (Nat.le_of_ble_eq_true rfl) ⟨(Nat.le_of_ble_eq_true rfl), (Nat.le_of_ble_eq_true rfl)⟩ ⟨Nat.le_refl _, Nat.le_refl _⟩ (fun M2 ⟨hs2, hf2⟩ => ?_)
                refine qi_goto (tgt := 136) dX1_value_105 (by decide) ?_
                exact next _ _ _ _ _ _ (by omega) hs2 hf2 hr
              · rw [if_neg hl] at hr
                cases hr
          · refine qi_aload_n (i := 0) (x := q) dX1_value_58 rfl rfl ?_
            rw [if_neg c1, if_pos c2] at hr
            match st, hst, hr with
            | [], hst, hr => simp at hr
            | [r], hst, hr => simp at hr
            | r :: l :: st2, hst, hr =>
              simp only at hr
              refine qi_callVI (K' := kX1_pop) (As := []) mlX1_38 okX1_pop dX1_value_59 (c_X1_pop g hq hM1 hst) hq.1 (by decide) rfl (by omega) rfl rfl (Nat.le_of_ble_eq_true rfl) ⟨(Nat.le_of_ble_eq_true rfl), (Nat.le_of_ble_eq_true rfl)⟩ ⟨Nat.le_refl _, Nat.le_refl _⟩ (fun r2 M2 ⟨er, hs2, hf2⟩ => ?_)
              rw [er]
              have hM2 : qRf M2 := hM1.fr hf2
              refine qi_istore (i := 5) (L2 := [some (.ref q), some (.int (nI pl)), some (.int (nI (at_ + 1))), some (.int (nI (802 - (f + 1)))), some (.int c), some (.int r), x6]) dX1_value_62 (Nat.le_of_ble_eq_true rfl) rfl ?_
              refine qi_aload_n (i := 0) (x := q) dX1_value_64 rfl rfl ?_
              refine qi_callVI (K' := kX1_pop) (As := []) mlX1_38 okX1_pop dX1_value_65 (c_X1_pop g hq hM2 hs2) hq.1 (by decide) rfl (by omega) rfl rfl (Nat.le_of_ble_eq_true rfl) ⟨(Nat.le_of_ble_eq_true rfl), (Nat.le_of_ble_eq_true rfl)⟩ ⟨Nat.le_refl _, Nat.le_refl _⟩ (fun l2 M3 ⟨el, hs3, hf3⟩ => ?_)
              rw [el]
              have hM3 : qRf M3 := hM2.fr hf3
              refine qi_istore (i := 6) (L2 := [some (.ref q), some (.int (nI pl)), some (.int (nI (at_ + 1))), some (.int (nI (802 - (f + 1)))), some (.int c), some (.int r), some (.int l)]) dX1_value_68 (Nat.le_of_ble_eq_true rfl) rfl ?_
              refine qi_iload (i := 6) (x := l) dX1_value_70 rfl ?_
              refine qi_iload (i := 5) (x := r) dX1_value_72 rfl ?_
              refine qi_icmp_ge (tgt := 83) dX1_value_74 (by decide) (fun c5 => ?_) (fun c5 => ?_)
              · refine qi_aload_n (i := 0) (x := q) dX1_value_83 rfl rfl ?_
                refine qi_iload_n (i := 2) (x := nI (at_ + 1)) dX1_value_84 rfl rfl ?_
                have c5' : ¬ l < r := fun z => absurd c5 (Int32.not_le.mpr z)
                rw [if_neg c5'] at hr
                by_cases hk : at_ + 1 < sz ∧ ¬ M.1 (q + 1) (at_ + 1) < 0
                · rw [if_pos hk] at hr
                  have eC3 : M3.1 (q + 1) (at_ + 1) = M.1 (q + 1) (at_ + 1) := (hfr.tr (hf2.tr hf3)).1 _ _ (by unfold SL; omega)
                  obtain ⟨t, ht, et⟩ := nI_of hk.2
                  rw [et, nI_clamp ht] at hr
                  have htz : t ≤ 100000 := by
                    cases f with
                    | zero => simp [runC] at hr
                    | succ f2 =>
                      rw [runC_s] at hr
                      by_cases htz : t < sz
                      · omega
                      · rw [if_neg htz] at hr
                        cases hr
                  refine qi_callPVI (v := M3.1 (q + 1) (at_ + 1)) (K' := kX1_target) (As := [.int (nI (at_ + 1))]) mlX1_42 okX1_target dX1_value_85 (c_X1_target g hq hM3 (((hfr.tr (hf2.tr hf3)).1 _ _ (by unfold SL; omega)).trans hz) hsz hk.1) hq.1 (by decide) rfl (by omega) rfl rfl (Nat.le_of_ble_eq_true rfl) ⟨(Nat.le_of_ble_eq_true rfl), (Nat.le_of_ble_eq_true rfl)⟩ ⟨Nat.le_refl _, Nat.le_refl _⟩ ?_
                  refine qe_top (y := nI t) (eC3.trans et) ?_
                  refine qi_istore_n (i := 2) (L2 := [some (.ref q), some (.int (nI pl)), some (.int (nI t)), some (.int (nI (802 - (f + 1)))), some (.int c), some (.int r), some (.int l)]) dX1_value_88 rfl (Nat.le_of_ble_eq_true rfl) rfl ?_
                  refine qi_goto (tgt := 136) dX1_value_89 (by decide) ?_
                  exact next _ _ _ _ _ _ htz hs3 (hf2.tr hf3) hr
                · rw [if_neg hk] at hr
                  cases hr
              · have c5' : l < r := Int32.not_le.mp c5
                rw [if_pos c5'] at hr
                refine qi_iload_n (i := 2) (x := nI (at_ + 1)) dX1_value_77 rfl rfl ?_
                refine qi_iconst (v := 1) dX1_value_78 rfl ?_
                refine qi_iadd dX1_value_79 ?_
                refine qe_top (y := nI (at_ + 2)) (nI_1 _) ?_
                refine qi_goto (tgt := 88) dX1_value_80 (by decide) ?_
                refine qi_istore_n (i := 2) (L2 := [some (.ref q), some (.int (nI pl)), some (.int (nI (at_ + 2))), some (.int (nI (802 - (f + 1)))), some (.int c), some (.int r), some (.int l)]) dX1_value_88 rfl (Nat.le_of_ble_eq_true rfl) rfl ?_
                refine qi_goto (tgt := 136) dX1_value_89 (by decide) ?_
                exact next _ _ _ _ _ _ (by omega) hs3 (hf2.tr hf3) hr
        · refine qi_aload_n (i := 0) (x := q) dX1_value_46 rfl rfl ?_
          rw [if_pos c1] at hr
          match st, hst, hr with
          | [], hst, hr => simp at hr
          | r :: st2, hst, hr =>
            simp only at hr
            refine qi_callVI (K' := kX1_pop) (As := []) mlX1_38 okX1_pop dX1_value_47 (c_X1_pop g hq hM1 hst) hq.1 (by decide) rfl (by omega) rfl rfl (Nat.le_of_ble_eq_true rfl) ⟨(Nat.le_of_ble_eq_true rfl), (Nat.le_of_ble_eq_true rfl)⟩ ⟨Nat.le_refl _, Nat.le_refl _⟩ (fun r2 M2 ⟨er, hs2, hf2⟩ => ?_)
            exact qi_retI rfl rfl dX1_value_50 (⟨er.trans (Option.some.inj hr), hfr.tr hf2⟩)
      · rw [if_neg hat] at hr
        cases hr
  refine qI.of (j := 5) (pn_RX1) rfl ?_
  show qT g kX1_value (qR 2 0 0) (qZI g (fun r M' => r = res ∧ qFr (SL q) M M')) 0 [some (.ref q), some (.int (nI pl)), none, none, none, none, none] [] 333 M (0, 0)
  refine qi_iload_n (i := 1) (x := nI pl) dX1_value_0 rfl rfl ?_
  refine qi_istore_n (i := 2) (L2 := [some (.ref q), some (.int (nI pl)), some (.int (nI pl)), none, none, none, none]) dX1_value_1 rfl (Nat.le_of_ble_eq_true rfl) rfl ?_
  refine qi_aload_n (i := 0) (x := q) dX1_value_2 rfl rfl ?_
  refine qi_iconst (v := 0) dX1_value_3 rfl ?_
  refine qi_putI flX1_21 q_cls1 (ty1_3 _) dX1_value_4 hq.1 (by omega) ?_
  refine qi_iconst (v := 0) dX1_value_7 rfl ?_
  refine qi_istore_n (i := 3) (L2 := [some (.ref q), some (.int (nI pl)), some (.int (nI pl)), some (.int 0), none, none, none]) dX1_value_8 rfl (Nat.le_of_ble_eq_true rfl) rfl ?_
  refine K 802 pl [] _ none none none (Nat.le_refl _) (by omega) ⟨by decide, wI_s _ _ _ _, fun i hi => absurd hi (Nat.not_lt_zero _)⟩ (qFr.rf.wI (Or.inl ⟨rfl, rfl⟩)) hrun
