/-! ThimbleSea$Rows: fillFrom, search; thimble, surely, firstRow -/
theorem le_dot {f : Nat → Nat} {l : List Nat} {o : Nat} (a : List Nat) : dotL f o a ≤ dotL f o (a ++ l) := by
  rw [dotL_app]
  omega
def fillP (g : qG) (p : Nat) (π : qPl) (OK : List Nat → Bool) (S C m : Nat) : Prop := ∀ (M : qM) (t : Nat → Nat) (w r s c : Nat) (P : List (List Nat)), qRf M → qPlan M p π → w + m = π.1 0 → r ≤ 60 → s < 2 ^ 30 ∨ s < 2 ^ 31 → s < 2 ^ 31 → c < 2 ^ 31 → sumN (fun i => t i * π.2.1 0 i) w + s = S → sumN (fun i => t i * π.2.1 1 i) w + c = C → (∀ i, i < w → M.1 219 i = nI (t i) ∧ t i ≤ 60) → accC M (π.1 0) P → (P ++ (comp t w m r).filter OK).length ≤ 844596301 → qV g (m + 1) kX5_fillFrom [.ref 218, .ref p, .int (nI w), .int (nI r), .int (nI s), .int (nI c)] M (fun M' => accC M' (π.1 0) (P ++ (comp t w m r).filter OK) ∧ (∀ i, i < w → M'.1 219 i = nI (t i)) ∧ qFr SRc M M')
theorem sub_neg {a b : Nat} (ha : a < 2 ^ 31) (hb : b < 2 ^ 31) (h : a < b) : nI a - nI b < 0 := by
  apply Int32.lt_iff_toInt_lt.mpr
  rw [sub_toInt ha hb]
  have h0 : (0 : Int32).toInt = 0 := by decide
  omega
set_option maxHeartbeats 4000000 in
theorem c_X5_fillFrom (g : qG) {p : Nat} {π : qPl} (hp : qIsP p) (hok : okPl π) {OK : List Nat → Bool} {S C : Nat} (hOK : ∀ l, OK l = okL (π.2.1 0) (π.2.1 1) S C l) : ∀ m, fillP g p π OK S C m := by
  have hw5 := hok.1
  have loop : ∀ m, m + 1 ≠ 2 → fillP g p π OK S C m → fillP g p π OK S C (m + 1) := by
    intro m hm2 ih M t w r s c P hM hP hw hr _ hs hc hS hC hR hA hPl
    obtain ⟨W, hWd⟩ : ∃ W, W = π.1 0 := ⟨_, rfl⟩
    rw [← hWd] at hA hw5 hw ⊢
    obtain ⟨TOT, hTOT⟩ : ∃ TOT, TOT = P ++ (comp t w (m + 1) r).filter OK := ⟨_, rfl⟩
    rw [← hTOT] at hPl ⊢
    have hwW : w < π.1 0 := by omega
    have ba := hok.2.2.2.2.2.2.1 w hwW
    have K : ∀ cnt x M1 P1 x8 x9, x + cnt = r + 1 → qFr SRc M M1 → accC M1 W P1 → (∀ i, i < w → M1.1 219 i = nI (t i)) → TOT = P1 ++ (upL (fun x => comp (setN t w x) (w + 1) m (r - x)) cnt x).filter OK → qT g kX5_fillFrom (qR (m + 1 + 1) 0 0) (qZV g (fun M' => accC M' W TOT ∧ (∀ i, i < w → M'.1 219 i = nI (t i)) ∧ qFr SRc M M')) 58 [some (.ref 218), some (.ref p), some (.int (nI w)), some (.int (nI r)), some (.int (nI s)), some (.int (nI c)), some (.int (nI (m + 1))), some (.int (nI x)), x8, x9] [] 333 M1 (0, 0) := by
      intro cnt
      induction cnt with
      | zero =>
        intro x M1 P1 x8 x9 e hf hA1 hR1 hT
        obtain rfl : x = r + 1 := by omega
        have hT2 : TOT = P1 := by rw [hT]; exact List.append_nil P1
        refine qi_iload (i := 7) (x := nI (r + 1)) dX5_fillFrom_58 rfl ?_
        refine qi_iload_n (i := 3) (x := nI r) dX5_fillFrom_60 rfl rfl ?_
        refine qi_icmp_gt (tgt := 132) dX5_fillFrom_61 (by decide) (fun _hc => ?_) (fun _h => absurd ((nI_ltI (a := r) (b := r + 1) (by omega) (by omega)).mpr (by omega)) _h)
        exact qi_retV rfl dX5_fillFrom_132 (⟨by rw [hT2]; exact hA1, hR1, hf⟩)
      | succ cnt ihc =>
        intro x M1 P1 x8 x9 e hf hA1 hR1 hT
        have hM1 := hM.fr hf
        have hP1 : qPlan M1 p π := hP.fr hf (fun i j hi z => (SRc_pl hp z).elim)
        have hxr : x ≤ r := by omega
        have ra : M1.1 (p + 1) w = nI (π.2.1 0 w) := hP1.2.1 0 w (by omega) (by show w < π.1 0; omega)
        have rca : M1.1 (p + 2) w = nI (π.2.1 1 w) := hP1.2.1 1 w (by omega) (by show w < π.1 0; omega)
        have hTs : TOT = (P1 ++ (comp (setN t w x) (w + 1) m (r - x)).filter OK) ++ (upL (fun x => comp (setN t w x) (w + 1) m (r - x)) cnt (x + 1)).filter OK := by
          rw [hT, List.append_assoc, ← List.filter_append]
          rfl
        -- the rows that begin so
        have sums : ∀ f : Nat → Nat, sumN (fun i => setN t w x i * f i) (w + 1) = sumN (fun i => t i * f i) w + x * f w := fun f => by
          show sumN (fun i => setN t w x i * f i) w + setN t w x w * f w = _
          rw [sumN_congr (h := fun i => t i * f i) w (fun i hi => by show setN t w x i * f i = t i * f i; rw [show setN t w x i = t i from if_neg (by omega)]), show setN t w x w = x from if_pos rfl]
        have too : (s < x * π.2.1 0 w ∨ c < x * π.2.1 1 w) → (comp (setN t w x) (w + 1) m (r - x)).filter OK = [] := fun z => by
          apply List.filter_eq_nil_iff.mpr
          intro l hl
          unfold comp at hl
          obtain ⟨l2, -, hl2⟩ := List.mem_map.mp hl
          rw [hOK, ← hl2]
          unfold okL
          rw [decide_eq_true_iff]
          intro y
          have d1 := le_dot (f := π.2.1 0) (l := l2) (o := 0) (pre (setN t w x) (w + 1))
          have d2 := le_dot (f := π.2.1 1) (l := l2) (o := 0) (pre (setN t w x) (w + 1))
          rw [y.1, dotL_pre, sums] at d1
          rw [y.2, dotL_pre, sums] at d2
          omega
        have hxa : x * π.2.1 0 w ≤ 60 * 99 := Nat.mul_le_mul (by omega) ba.1
        have hxca : x * π.2.1 1 w ≤ 60 * 9 := Nat.mul_le_mul (by omega) ba.2
        have hfw : qFr SRc M (wI M1 219 w (nI x)) := hf.wI (Or.inl rfl)
        have fw1 : qFr (fun b _ => b = 219) M1 (wI M1 219 w (nI x)) := qFr.rf.wI rfl
        have hAw := hA1.frow fw1
        have hRw : ∀ i, i < w → (wI M1 219 w (nI x)).1 219 i = nI (t i) := fun i hi => by rw [wI_k (by omega)]; exact hR1 i hi
        have raw : (wI M1 219 w (nI x)).1 (p + 1) w = nI (π.2.1 0 w) := by rw [wI_a (by have := hp.2.1; omega)]; exact ra
        have rcaw : (wI M1 219 w (nI x)).1 (p + 2) w = nI (π.2.1 1 w) := by rw [wI_a (by have := hp.2.1; omega)]; exact rca
        refine qi_iload (i := 7) (x := nI x) dX5_fillFrom_58 rfl ?_
        refine qi_iload_n (i := 3) (x := nI r) dX5_fillFrom_60 rfl rfl ?_
        refine qi_icmp_gt (tgt := 132) dX5_fillFrom_61 (by decide) (fun _h => absurd ((nI_ltI (a := r) (b := x) (by omega) (by omega)).mp _h) (by omega)) (fun _hc => ?_)
        refine qi_aload_n (i := 0) (x := 218) dX5_fillFrom_64 rfl rfl ?_
        refine qi_getR (x := 219) flX5_9 dX5_fillFrom_65 rfl (by decide) (hM1 218 0 219 rfl) ?_
        refine qi_iload_n (i := 2) (x := nI w) dX5_fillFrom_68 rfl rfl ?_
        refine qi_iload (i := 7) (x := nI x) dX5_fillFrom_69 rfl ?_
        refine qi_iastN (j := w) dX5_fillFrom_71 rfl (by decide) rfl (by omega) (by decide) ?_
        generalize eM2 : wI M1 219 w (nI x) = M2
        rw [eM2] at hfw hAw hRw raw rcaw
        have hM2 := hM.fr hfw
        have skip : ∀ x8 x9, (s < x * π.2.1 0 w ∨ c < x * π.2.1 1 w) → qT g kX5_fillFrom (qR (m + 1 + 1) 0 0) (qZV g (fun M' => accC M' W TOT ∧ (∀ i, i < w → M'.1 219 i = nI (t i)) ∧ qFr SRc M M')) 126 [some (.ref 218), some (.ref p), some (.int (nI w)), some (.int (nI r)), some (.int (nI s)), some (.int (nI c)), some (.int (nI (m + 1))), some (.int (nI x)), x8, x9] [] 333 M2 (0, 0) := by
          intro x8 x9 z
          refine qi_iinc (i := 7) (x := nI x) (v := nI (x + 1)) (L2 := [some (.ref 218), some (.ref p), some (.int (nI w)), some (.int (nI r)), some (.int (nI s)), some (.int (nI c)), some (.int (nI (m + 1))), some (.int (nI (x + 1))), x8, x9]) dX5_fillFrom_126 rfl (nI_1 x) (Nat.le_of_ble_eq_true rfl) rfl ?_
          refine qi_goto (tgt := 58) dX5_fillFrom_129 (by decide) ?_
          refine ihc (x + 1) M2 P1 _ _ (by omega) hfw hAw hRw ?_
          rw [hTs, too z, List.append_nil]
        refine qi_iload (i := 4) (x := nI s) dX5_fillFrom_72 rfl ?_
        refine qi_iload (i := 7) (x := nI x) dX5_fillFrom_74 rfl ?_
        refine qi_aload_n (i := 1) (x := p) dX5_fillFrom_76 rfl rfl ?_
        refine qi_getR (x := p + 1) flX5_51 dX5_fillFrom_77 (hp.1 0 (by decide)) (by have := hp.2.2; omega) (hM2 p 0 (p + 1) (qref_3_0 (hp.1 0 (by decide)))) ?_
        refine qi_iload_n (i := 2) (x := nI w) dX5_fillFrom_80 rfl rfl ?_
        refine qi_ialdN (x := nI (π.2.1 0 w)) (j := w) dX5_fillFrom_81 (hp.1 1 (by decide)) (by have := hp.2.2; omega) rfl (by omega) (by decide) raw ?_
        refine qi_imul dX5_fillFrom_82 ?_
        refine qe_top (y := nI (x * π.2.1 0 w)) (pk_mul _ _) ?_
        refine qi_isub dX5_fillFrom_83 ?_
        refine qi_istore (i := 8) (L2 := [some (.ref 218), some (.ref p), some (.int (nI w)), some (.int (nI r)), some (.int (nI s)), some (.int (nI c)), some (.int (nI (m + 1))), some (.int (nI x)), some (.int ((nI s) - (nI (x * π.2.1 0 w)))), x9]) dX5_fillFrom_84 (Nat.le_of_ble_eq_true rfl) rfl ?_
        refine qi_iload (i := 5) (x := nI c) dX5_fillFrom_86 rfl ?_
        refine qi_iload (i := 7) (x := nI x) dX5_fillFrom_88 rfl ?_
        refine qi_aload_n (i := 1) (x := p) dX5_fillFrom_90 rfl rfl ?_
        refine qi_getR (x := p + 2) flX5_54 dX5_fillFrom_91 (hp.1 0 (by decide)) (by have := hp.2.2; omega) (hM2 p 1 (p + 2) (qref_3_1 (hp.1 0 (by decide)))) ?_
        refine qi_iload_n (i := 2) (x := nI w) dX5_fillFrom_94 rfl rfl ?_
        refine qi_ialdN (x := nI (π.2.1 1 w)) (j := w) dX5_fillFrom_95 (hp.1 2 (by decide)) (by have := hp.2.2; omega) rfl (by omega) (by decide) rcaw ?_
        refine qi_imul dX5_fillFrom_96 ?_
        refine qe_top (y := nI (x * π.2.1 1 w)) (pk_mul _ _) ?_
        refine qi_isub dX5_fillFrom_97 ?_
        refine qi_istore (i := 9) (L2 := [some (.ref 218), some (.ref p), some (.int (nI w)), some (.int (nI r)), some (.int (nI s)), some (.int (nI c)), some (.int (nI (m + 1))), some (.int (nI x)), some (.int ((nI s) - (nI (x * π.2.1 0 w)))), some (.int ((nI c) - (nI (x * π.2.1 1 w))))]) dX5_fillFrom_98 (Nat.le_of_ble_eq_true rfl) rfl ?_
        refine qi_iload (i := 8) (x := (nI s) - (nI (x * π.2.1 0 w))) dX5_fillFrom_100 rfl ?_
        by_cases b1 : s < x * π.2.1 0 w
        ·
          refine qi_if_lt (tgt := 126) dX5_fillFrom_102 (by decide) (fun z => ?_) (fun z => False.elim (z (sub_neg hs (by omega) b1)))
          exact skip _ _ (Or.inl b1)
        have e1 : nI s - nI (x * π.2.1 0 w) = nI (s - x * π.2.1 0 w) := pk_sub (by omega)
        by_cases b2 : c < x * π.2.1 1 w
        ·
          rw [e1]
          refine qi_if_lt (tgt := 126) dX5_fillFrom_102 (by decide) (fun _h => absurd ((nI_ltI (a := s - x * π.2.1 0 w) (b := 0) (by omega) (by omega)).mp _h) (by omega)) (fun _hc => ?_)
          refine qi_iload (i := 9) (x := nI c - nI (x * π.2.1 1 w)) dX5_fillFrom_105 rfl ?_
          refine qi_if_lt (tgt := 126) dX5_fillFrom_107 (by decide) (fun z => ?_) (fun z => False.elim (z (sub_neg hc (by omega) b2)))
          exact skip _ _ (Or.inr b2)
        have e2 : nI c - nI (x * π.2.1 1 w) = nI (c - x * π.2.1 1 w) := pk_sub (by omega)
        rw [e1, e2]
        refine qi_if_lt (tgt := 126) dX5_fillFrom_102 (by decide) (fun _h => absurd ((nI_ltI (a := s - x * π.2.1 0 w) (b := 0) (by omega) (by omega)).mp _h) (by omega)) (fun _hc => ?_)
        refine qi_iload (i := 9) (x := nI (c - x * π.2.1 1 w)) dX5_fillFrom_105 rfl ?_
        refine qi_if_lt (tgt := 126) dX5_fillFrom_107 (by decide) (fun _h => absurd ((nI_ltI (a := c - x * π.2.1 1 w) (b := 0) (by omega) (by omega)).mp _h) (by omega)) (fun _hc => ?_)
        refine qi_aload_n (i := 0) (x := 218) dX5_fillFrom_110 rfl rfl ?_
        refine qi_aload_n (i := 1) (x := p) dX5_fillFrom_111 rfl rfl ?_
        refine qi_iload_n (i := 2) (x := nI w) dX5_fillFrom_112 rfl rfl ?_
        refine qi_iconst (v := 1) dX5_fillFrom_113 rfl ?_
        refine qi_iadd dX5_fillFrom_114 ?_
        refine qe_top (y := nI (w + 1)) (nI_1 _) ?_
        refine qi_iload_n (i := 3) (x := nI r) dX5_fillFrom_115 rfl rfl ?_
        refine qi_iload (i := 7) (x := nI x) dX5_fillFrom_116 rfl ?_
        refine qi_isub dX5_fillFrom_118 ?_
        refine qe_top (y := nI (r - x)) (pk_sub hxr) ?_
        refine qi_iload (i := 8) (x := nI (s - x * π.2.1 0 w)) dX5_fillFrom_119 rfl ?_
        refine qi_iload (i := 9) (x := nI (c - x * π.2.1 1 w)) dX5_fillFrom_121 rfl ?_
        have hPs : (P1 ++ (comp (setN t w x) (w + 1) m (r - x)).filter OK).length ≤ 844596301 := by
          have := congrArg List.length hTs
          rw [List.length_append (as := P1 ++ _)] at this
          omega
        have hcall := ih M2 (setN t w x) (w + 1) (r - x) (s - x * π.2.1 0 w) (c - x * π.2.1 1 w) P1 hM2 (hP.fr hfw (fun i j hi z => (SRc_pl hp z).elim)) (by omega) (by omega) (Or.inr (by omega)) (by omega) (by omega) (by rw [sums]; omega) (by rw [sums]; omega) (fun i hi => by
          unfold setN
          by_cases c1 : i = w
          · rw [if_pos c1, c1, ← eM2, wI_s]
            exact ⟨rfl, by omega⟩
          · rw [if_neg c1]
            exact ⟨hRw i (by omega), (hR i (by omega)).2⟩) (by rw [← hWd]; exact hAw) hPs
        rw [← hWd] at hcall
        refine qi_callVV (K' := kX5_fillFrom) (As := [.ref p, .int (nI (w + 1)), .int (nI (r - x)), .int (nI (s - x * π.2.1 0 w)), .int (nI (c - x * π.2.1 1 w))]) mlX5_40 okX5_fillFrom dX5_fillFrom_123 (hcall) rfl (by decide) rfl (by decide) rfl rfl (Nat.le_of_ble_eq_true rfl) ⟨Nat.le_refl _, by show 8 + (10 + 11) + 40 * (m + 1) ≤ 40 * (m + 1 + 1); omega⟩ ⟨Nat.le_refl _, Nat.le_refl _⟩ (fun M3 ⟨hA3, hR3, hf3⟩ => ?_)
        refine qi_iinc (i := 7) (x := nI x) (v := nI (x + 1)) (L2 := [some (.ref 218), some (.ref p), some (.int (nI w)), some (.int (nI r)), some (.int (nI s)), some (.int (nI c)), some (.int (nI (m + 1))), some (.int (nI (x + 1))), some (.int (nI (s - x * π.2.1 0 w))), some (.int (nI (c - x * π.2.1 1 w)))]) dX5_fillFrom_126 rfl (nI_1 x) (Nat.le_of_ble_eq_true rfl) rfl ?_
        refine qi_goto (tgt := 58) dX5_fillFrom_129 (by decide) ?_
        refine ihc (x + 1) M3 _ _ _ (by omega) (hfw.tr hf3) hA3 (fun i hi => ?_) hTs
        have q := hR3 i (by omega)
        rw [q]
        exact congrArg nI (if_neg (by omega))
    have hL0 : TOT = P ++ (upL (fun x => comp (setN t w x) (w + 1) m (r - x)) (r + 1) 0).filter OK := by rw [hTOT, comp_s]
    refine qV.of (j := 4) (pn_RX5) rfl ?_
    show qT g kX5_fillFrom (qR (m + 1 + 1) 0 0) (qZV g (fun M' => accC M' W TOT ∧ (∀ i, i < w → M'.1 219 i = nI (t i)) ∧ qFr SRc M M')) 0 [some (.ref 218), some (.ref p), some (.int (nI w)), some (.int (nI r)), some (.int (nI s)), some (.int (nI c)), none, none, none, none] [] 333 M (0, 0)
    refine qi_aload_n (i := 1) (x := p) dX5_fillFrom_0 rfl rfl ?_
    refine qi_getI (x := nI (π.1 0)) flX5_35 dX5_fillFrom_1 (hp.1 0 (by decide)) (by have := hp.2.2; omega) hP.1.1 ?_
    refine qi_iload_n (i := 2) (x := nI w) dX5_fillFrom_4 rfl rfl ?_
    refine qi_isub dX5_fillFrom_5 ?_
    refine qe_top (y := nI (m + 1)) (by rw [pk_sub (by omega)]; congr 1; omega) ?_
    refine qi_istore (i := 6) (L2 := [some (.ref 218), some (.ref p), some (.int (nI w)), some (.int (nI r)), some (.int (nI s)), some (.int (nI c)), some (.int (nI (m + 1))), none, none, none]) dX5_fillFrom_6 (Nat.le_of_ble_eq_true rfl) rfl ?_
    refine qi_iload (i := 6) (x := nI (m + 1)) dX5_fillFrom_8 rfl ?_
    refine qi_if_gt (tgt := 35) dX5_fillFrom_10 (by decide) (fun _hc => ?_) (fun _h => absurd ((nI_ltI (a := 0) (b := m + 1) (by omega) (by omega)).mpr (by omega)) _h)
    refine qi_iload (i := 6) (x := nI (m + 1)) dX5_fillFrom_35 rfl ?_
    refine qi_iconst (v := 2) dX5_fillFrom_37 rfl ?_
    refine qi_icmp_ne (tgt := 55) dX5_fillFrom_38 (by decide) (fun _hc => ?_) (fun _h => absurd ((nI_eq (a := m + 1) (b := 2) (by omega) (by omega)).mp _h) (by omega))
    refine qi_iconst (v := 0) dX5_fillFrom_55 rfl ?_
    refine qi_istore (i := 7) (L2 := [some (.ref 218), some (.ref p), some (.int (nI w)), some (.int (nI r)), some (.int (nI s)), some (.int (nI c)), some (.int (nI (m + 1))), some (.int 0), none, none]) dX5_fillFrom_56 (Nat.le_of_ble_eq_true rfl) rfl ?_
    exact K (r + 1) 0 M P none none (by omega) qFr.rf hA (fun i hi => (hR i hi).1) hL0
  intro m
  induction m with
  | zero =>
    intro M t w r s c P hM hP hw hr _ hs hc hS hC hR hA hPl
    have dS : dotL (π.2.1 0) 0 (pre t w) = S - s := by rw [dotL_pre]; omega
    have dC : dotL (π.2.1 1) 0 (pre t w) = C - c := by rw [dotL_pre]; omega
    have no : ¬ (r = 0 ∧ s = 0 ∧ c = 0) → (comp t w 0 r).filter OK = [] := fun z => by
      unfold comp
      show ((if r = 0 then [[]] else []).map (fun l => pre t w ++ l)).filter OK = []
      by_cases d : r = 0
      · rw [if_pos d]
        refine List.filter_cons_of_neg ?_
        rw [hOK]
        show ¬ okL (π.2.1 0) (π.2.1 1) S C (pre t w ++ []) = true
        rw [List.append_nil]
        unfold okL
        rw [decide_eq_true_iff, dS, dC]
        omega
      · rw [if_neg d]; rfl
    have E : ¬ (r = 0 ∧ s = 0 ∧ c = 0) → ∀ x7 x8 x9, qT g kX5_fillFrom (qR 1 0 0) (qZV g (fun M' => accC M' (π.1 0) (P ++ (comp t w 0 r).filter OK) ∧ (∀ i, i < w → M'.1 219 i = nI (t i)) ∧ qFr SRc M M')) 132 [some (.ref 218), some (.ref p), some (.int (nI w)), some (.int (nI r)), some (.int (nI s)), some (.int (nI c)), some (.int (nI 0)), x7, x8, x9] [] 333 M (0, 0) := by
      intro z x7 x8 x9
      exact qi_retV rfl dX5_fillFrom_132 (⟨by rw [no z, List.append_nil]; exact hA, fun i hi => (hR i hi).1, qFr.rf⟩)
    refine qV.of (j := 4) (pn_RX5) rfl ?_
    show qT g kX5_fillFrom (qR 1 0 0) (qZV g (fun M' => accC M' (π.1 0) (P ++ (comp t w 0 r).filter OK) ∧ (∀ i, i < w → M'.1 219 i = nI (t i)) ∧ qFr SRc M M')) 0 [some (.ref 218), some (.ref p), some (.int (nI w)), some (.int (nI r)), some (.int (nI s)), some (.int (nI c)), none, none, none, none] [] 333 M (0, 0)
    refine qi_aload_n (i := 1) (x := p) dX5_fillFrom_0 rfl rfl ?_
    refine qi_getI (x := nI (π.1 0)) flX5_35 dX5_fillFrom_1 (hp.1 0 (by decide)) (by have := hp.2.2; omega) hP.1.1 ?_
    refine qi_iload_n (i := 2) (x := nI w) dX5_fillFrom_4 rfl rfl ?_
    refine qi_isub dX5_fillFrom_5 ?_
    refine qe_top (y := nI 0) (by rw [pk_sub (by omega)]; congr 1; omega) ?_
    refine qi_istore (i := 6) (L2 := [some (.ref 218), some (.ref p), some (.int (nI w)), some (.int (nI r)), some (.int (nI s)), some (.int (nI c)), some (.int (nI 0)), none, none, none]) dX5_fillFrom_6 (Nat.le_of_ble_eq_true rfl) rfl ?_
    refine qi_iload (i := 6) (x := nI 0) dX5_fillFrom_8 rfl ?_
    refine qi_if_gt (tgt := 35) dX5_fillFrom_10 (by decide) (fun _h => absurd ((nI_ltI (a := 0) (b := 0) (by omega) (by omega)).mp _h) (by omega)) (fun _hc => ?_)
    refine qi_iload_n (i := 3) (x := nI r) dX5_fillFrom_13 rfl rfl ?_
    refine qi_if_ne (tgt := 132) dX5_fillFrom_14 (by decide) (fun _h => ?_) (fun _h => ?_)
    · have d1 : ¬ (r = 0) := fun z => _h ((nI_eq (a := r) (b := 0) (by omega) (by omega)).mpr z)
      exact E (fun z => d1 z.1) _ _ _
    · have d1 : r = 0 := (nI_eq (a := r) (b := 0) (by omega) (by omega)).mp _h
      refine qi_iload (i := 4) (x := nI s) dX5_fillFrom_17 rfl ?_
      refine qi_if_ne (tgt := 132) dX5_fillFrom_19 (by decide) (fun _h => ?_) (fun _h => ?_)
      · have d2 : ¬ (s = 0) := fun z => _h ((nI_eq (a := s) (b := 0) (by omega) (by omega)).mpr z)
        exact E (fun z => d2 z.2.1) _ _ _
      · have d2 : s = 0 := (nI_eq (a := s) (b := 0) (by omega) (by omega)).mp _h
        refine qi_iload (i := 5) (x := nI c) dX5_fillFrom_22 rfl ?_
        refine qi_if_ne (tgt := 132) dX5_fillFrom_24 (by decide) (fun _h => ?_) (fun _h => ?_)
        · have d3 : ¬ (c = 0) := fun z => _h ((nI_eq (a := c) (b := 0) (by omega) (by omega)).mpr z)
          exact E (fun z => d3 z.2.2) _ _ _
        · have d3 : c = 0 := (nI_eq (a := c) (b := 0) (by omega) (by omega)).mp _h
          have hwW : w = π.1 0 := by omega
          have hc1 : (comp t w 0 r).filter OK = [pre t (π.1 0)] := by
            unfold comp
            show ((if r = 0 then [[]] else []).map (fun l => pre t w ++ l)).filter OK = _
            rw [if_pos d1]
            show [pre t w ++ []].filter OK = _
            rw [List.append_nil, List.filter_cons_of_pos]
            · rw [hwW]; rfl
            · rw [hOK]
              unfold okL
              rw [decide_eq_true_iff, dS, dC]
              omega
          have hPlen : P.length ≤ 844596301 := by rw [List.length_append] at hPl; omega
          have fsure : ∀ v, (decide (v < π.1 0) && allP P v) = true → v < π.1 0 := fun v h => by
            rw [Bool.and_eq_true] at h
            exact of_decide_eq_true h.1
          have hRW : ∀ v, v < π.1 0 → M.1 219 v = nI (t v) ∧ t v < 2 ^ 31 := fun v hv => by
            have := hR v (by omega)
            exact ⟨this.1, by omega⟩
          refine qi_aload_n (i := 0) (x := 218) dX5_fillFrom_27 rfl rfl ?_
          refine qi_iconst (v := 1) dX5_fillFrom_28 rfl ?_
          refine qi_callVV (K' := kX5_keepRows) (As := [.int 1]) mlX5_44 okX5_keepRows dX5_fillFrom_29 (c_X5_keepRows g hM (cnt := 1) hw5 (by omega) (by omega) fsure hRW hA.1 hA.2.1) rfl (by decide) rfl (by decide) rfl rfl (Nat.le_of_ble_eq_true rfl) ⟨(Nat.le_of_ble_eq_true rfl), (Nat.le_of_ble_eq_true rfl)⟩ ⟨Nat.le_refl _, Nat.le_refl _⟩ (fun M3 ⟨g3, g2, g1, hf3⟩ => ?_)
          refine qi_goto (tgt := 132) dX5_fillFrom_32 (by decide) ?_
          exact qi_retV rfl dX5_fillFrom_132 (⟨by rw [hc1]; exact acc_add hw5 hA (fun v hv => (hRW v hv).1) g3 g2 g1, fun i hi => (hf3.1 _ _ (by unfold SKr; omega)).trans (hR i hi).1, hf3.mono (fun b j z => Or.inr z)⟩)
  | succ m ih =>
    by_cases hm : m + 1 = 2
    · obtain rfl : m = 1 := by omega
      intro M t w r s c P hM hP hw hr _ hs hc hS hC hR hA hPl
      have hPlen : P.length ≤ 844596301 := by rw [List.length_append] at hPl; omega
      refine qV.of (j := 4) (pn_RX5) rfl ?_
      show qT g kX5_fillFrom (qR 3 0 0) (qZV g (fun M' => accC M' (π.1 0) (P ++ (comp t w 2 r).filter OK) ∧ (∀ i, i < w → M'.1 219 i = nI (t i)) ∧ qFr SRc M M')) 0 [some (.ref 218), some (.ref p), some (.int (nI w)), some (.int (nI r)), some (.int (nI s)), some (.int (nI c)), none, none, none, none] [] 333 M (0, 0)
      refine qi_aload_n (i := 1) (x := p) dX5_fillFrom_0 rfl rfl ?_
      refine qi_getI (x := nI (π.1 0)) flX5_35 dX5_fillFrom_1 (hp.1 0 (by decide)) (by have := hp.2.2; omega) hP.1.1 ?_
      refine qi_iload_n (i := 2) (x := nI w) dX5_fillFrom_4 rfl rfl ?_
      refine qi_isub dX5_fillFrom_5 ?_
      refine qe_top (y := nI 2) (by rw [pk_sub (by omega)]; congr 1; omega) ?_
      refine qi_istore (i := 6) (L2 := [some (.ref 218), some (.ref p), some (.int (nI w)), some (.int (nI r)), some (.int (nI s)), some (.int (nI c)), some (.int (nI 2)), none, none, none]) dX5_fillFrom_6 (Nat.le_of_ble_eq_true rfl) rfl ?_
      refine qi_iload (i := 6) (x := nI 2) dX5_fillFrom_8 rfl ?_
      refine qi_if_gt (tgt := 35) dX5_fillFrom_10 (by decide) (fun _hc => ?_) (fun _h => absurd ((nI_ltI (a := 0) (b := 2) (by omega) (by omega)).mpr (by omega)) _h)
      refine qi_iload (i := 6) (x := nI 2) dX5_fillFrom_35 rfl ?_
      refine qi_iconst (v := 2) dX5_fillFrom_37 rfl ?_
      refine qi_icmp_ne (tgt := 55) dX5_fillFrom_38 (by decide) (fun _h => absurd ((nI_eq (a := 2) (b := 2) (by omega) (by omega)).mpr (by omega)) _h) (fun _hc => ?_)
      refine qi_aload_n (i := 0) (x := 218) dX5_fillFrom_41 rfl rfl ?_
      refine qi_aload_n (i := 1) (x := p) dX5_fillFrom_42 rfl rfl ?_
      refine qi_iload_n (i := 2) (x := nI w) dX5_fillFrom_43 rfl rfl ?_
      refine qi_iload_n (i := 3) (x := nI r) dX5_fillFrom_44 rfl rfl ?_
      refine qi_iload (i := 4) (x := nI s) dX5_fillFrom_45 rfl ?_
      refine qi_iload (i := 5) (x := nI c) dX5_fillFrom_47 rfl ?_
      refine qi_callVV (K' := kX5_fillTwo) (As := [.ref p, .int (nI w), .int (nI r), .int (nI s), .int (nI c)]) mlX5_48 okX5_fillTwo dX5_fillFrom_49 (c_X5_fillTwo g hM hp hP hok hOK hw hr hs hc hS hC hR hA hPlen) rfl (by decide) rfl (by decide) rfl rfl (Nat.le_of_ble_eq_true rfl) ⟨(Nat.le_of_ble_eq_true rfl), (Nat.le_of_ble_eq_true rfl)⟩ ⟨Nat.le_refl _, Nat.le_refl _⟩ (fun M2 h2 => ?_)
      refine qi_goto (tgt := 132) dX5_fillFrom_52 (by decide) ?_
      exact qi_retV rfl dX5_fillFrom_132 (h2)
    · exact loop m hm ih
def qRwC (M : qM) (π : qPl) : Prop := M.1 218 4 = -1 ∨ ∃ n s c, n ≤ 60 ∧ s < 2 ^ 31 ∧ c < 2 ^ 31 ∧ M.1 218 4 = nI n ∧ M.1 218 5 = nI s ∧ M.1 218 6 = nI c ∧ accC M (π.1 0) (solL π n s c)
def SRx : Nat → Nat → Prop := fun b _ => b = 218 ∨ b = 219 ∨ b = 220
theorem SRc_x {b j : Nat} (z : SRc b j) : SRx b j := by unfold SRc SKr at z; unfold SRx; omega
set_option maxHeartbeats 2000000 in
theorem c_X5_search (g : qG) {M : qM} (hM : qRf M) {p : Nat} {π : qPl} (hp : qIsP p) (hP : qPlan M p π) (hok : okPl π) (hC : qRwC M π) {n s c : Nat} (hn : n ≤ 60) (hs : s < 2 ^ 31) (hc : c < 2 ^ 31) : qV g 7 kX5_search [.ref 218, .ref p, .int (nI n), .int (nI s), .int (nI c)] M (fun M' => accC M' (π.1 0) (solL π n s c) ∧ qRwC M' π ∧ qFr SRx M M') := by
  have hw5 := hok.1
  have hp2 := hp.2.1
  have full : ∀ v, v < 5 → (decide (v < π.1 0) && allP [] v) = decide (v < π.1 0) := fun v _ => Bool.and_true _
  have F : qT g kX5_search (qR 7 0 0) (qZV g (fun M' => accC M' (π.1 0) (solL π n s c) ∧ qRwC M' π ∧ qFr SRx M M')) 26 [some (.ref 218), some (.ref p), some (.int (nI n)), some (.int (nI s)), some (.int (nI c))] [] 333 M (0, 0) := by
    refine qi_aload_n (i := 0) (x := 218) dX5_search_26 rfl rfl ?_
    refine qi_iload_n (i := 2) (x := nI n) dX5_search_27 rfl rfl ?_
    refine qi_putI flX5_26 q_cls5 (ty5_4 _) dX5_search_28 rfl (by decide) ?_
    refine qi_aload_n (i := 0) (x := 218) dX5_search_31 rfl rfl ?_
    refine qi_iload_n (i := 3) (x := nI s) dX5_search_32 rfl rfl ?_
    refine qi_putI flX5_29 q_cls5 (ty5_5 _) dX5_search_33 rfl (by decide) ?_
    refine qi_aload_n (i := 0) (x := 218) dX5_search_36 rfl rfl ?_
    refine qi_iload (i := 4) (x := nI c) dX5_search_37 rfl ?_
    refine qi_putI flX5_32 q_cls5 (ty5_6 _) dX5_search_39 rfl (by decide) ?_
    refine qi_aload_n (i := 0) (x := 218) dX5_search_42 rfl rfl ?_
    refine qi_lconst (v := 0) dX5_search_43 rfl ?_
    refine qi_putJ flX5_22 q_cls5 (ty5_3 _) dX5_search_44 rfl (by decide) ?_
    generalize eM2 : wJ (wI (wI (wI M 218 4 (nI n)) 218 5 (nI s)) 218 6 (nI c)) 218 3 0 = M2
    have hf2 : qFr SRx M M2 := by
      rw [← eM2]
      exact (((qFr.rf.wI (Or.inl rfl)).wI (Or.inl rfl)).wI (Or.inl rfl)).wJ (Or.inl rfl)
    have hM2 := hM.fr hf2
    have hP2 : qPlan M2 p π := hP.fr hf2 (fun i j hi z => absurd z (by unfold SRx; omega))
    have k4 : M2.1 218 4 = nI n := by rw [← eM2]; show (wI (wI (wI M 218 4 (nI n)) 218 5 (nI s)) 218 6 (nI c)).1 218 4 = _; rw [wI_k (by decide), wI_k (by decide), wI_s]
    have k5 : M2.1 218 5 = nI s := by rw [← eM2]; show (wI (wI (wI M 218 4 (nI n)) 218 5 (nI s)) 218 6 (nI c)).1 218 5 = _; rw [wI_k (by decide), wI_s]
    have k6 : M2.1 218 6 = nI c := by rw [← eM2]; show (wI (wI (wI M 218 4 (nI n)) 218 5 (nI s)) 218 6 (nI c)).1 218 6 = _; rw [wI_s]
    have k3 : M2.2.1 218 3 = 0 := by rw [← eM2]; exact wJ_s _ _ _ _
    refine qi_aload_n (i := 0) (x := 218) dX5_search_47 rfl rfl ?_
    refine qi_iconst (v := 1) dX5_search_48 rfl ?_
    refine qi_aload_n (i := 1) (x := p) dX5_search_49 rfl rfl ?_
    refine qi_getI (x := nI (π.1 0)) flX5_35 dX5_search_50 (hp.1 0 (by decide)) (by have := hp.2.2; omega) hP2.1.1 ?_
    refine qi_ishl dX5_search_53 ?_
    refine qi_iconst (v := 1) dX5_search_54 rfl ?_
    refine qi_isub dX5_search_55 ?_
    refine qe_top (y := nI (bitsF (fun v ↦ decide (v < π.1 0)))) (bits_full _ hw5) ?_
    refine qi_putI flX5_18 q_cls5 (ty5_2 _) dX5_search_56 rfl (by decide) ?_
    generalize eM3 : wI M2 218 2 (nI (bitsF (fun v ↦ decide (v < π.1 0)))) = M3
    have hf3 : qFr SRx M M3 := by rw [← eM3]; exact hf2.wI (Or.inl rfl)
    have hM3 := hM.fr hf3
    have hP3 : qPlan M3 p π := hP.fr hf3 (fun i j hi z => absurd z (by unfold SRx; omega))
    have hA3 : accC M3 (π.1 0) [] := ⟨by rw [← eM3]; exact k3, by rw [← eM3, wI_s]; exact congrArg nI (bits_congr (fun v hv => (full v hv).symm)), fun l Q hlq => by cases hlq⟩
    have hcm : (comp (fun _ => 0) 0 (π.1 0) n).filter (okL (π.2.1 0) (π.2.1 1) s c) = solL π n s c := by
      unfold comp solL
      rw [show (fun l : List Nat => pre (fun _ => 0) 0 ++ l) = id from funext fun l => List.nil_append l, List.map_id]
    have hcall := c_X5_fillFrom g hp hok (OK := okL (π.2.1 0) (π.2.1 1) s c) (S := s) (C := c) (fun _ => rfl) (π.1 0) M3 (fun _ => 0) 0 n s c [] hM3 hP3 (Nat.zero_add _) hn (Or.inr hs) hs hc (Nat.zero_add _) (Nat.zero_add _) (fun i hi => absurd hi (Nat.not_lt_zero _)) hA3 (by rw [hcm]; exact sol_len hw5 hn)
    rw [hcm] at hcall
    refine qi_aload_n (i := 0) (x := 218) dX5_search_59 rfl rfl ?_
    refine qi_aload_n (i := 1) (x := p) dX5_search_60 rfl rfl ?_
    refine qi_iconst (v := 0) dX5_search_61 rfl ?_
    refine qi_iload_n (i := 2) (x := nI n) dX5_search_62 rfl rfl ?_
    refine qi_iload_n (i := 3) (x := nI s) dX5_search_63 rfl rfl ?_
    refine qi_iload (i := 4) (x := nI c) dX5_search_64 rfl ?_
    refine qi_callVV (K' := kX5_fillFrom) (As := [.ref p, .int 0, .int (nI n), .int (nI s), .int (nI c)]) mlX5_40 okX5_fillFrom dX5_search_66 (hcall) rfl (by decide) rfl (by decide) rfl rfl (Nat.le_of_ble_eq_true rfl) ⟨by show π.1 0 + 1 + 1 ≤ 7; omega, by show 8 + (10 + 11) + 40 * (π.1 0 + 1) ≤ 40 * 7; omega⟩ ⟨Nat.le_refl _, Nat.le_refl _⟩ (fun M4 ⟨hA4, _, hf4⟩ => ?_)
    have t4 : M4.1 218 4 = nI n := by rw [hf4.1 _ _ (by unfold SRc SKr; omega), ← eM3, wI_k (by decide)]; exact k4
    have t5 : M4.1 218 5 = nI s := by rw [hf4.1 _ _ (by unfold SRc SKr; omega), ← eM3, wI_k (by decide)]; exact k5
    have t6 : M4.1 218 6 = nI c := by rw [hf4.1 _ _ (by unfold SRc SKr; omega), ← eM3, wI_k (by decide)]; exact k6
    exact qi_retV rfl dX5_search_69 (⟨hA4, Or.inr ⟨n, s, c, hn, hs, hc, t4, t5, t6, hA4⟩, hf3.tr (hf4.mono (fun _ _ => SRc_x))⟩)
  refine qV.of (j := 0) (pn_RX5) rfl ?_
  show qT g kX5_search (qR 7 0 0) (qZV g (fun M' => accC M' (π.1 0) (solL π n s c) ∧ qRwC M' π ∧ qFr SRx M M')) 0 [some (.ref 218), some (.ref p), some (.int (nI n)), some (.int (nI s)), some (.int (nI c))] [] 333 M (0, 0)
  refine qi_iload_n (i := 2) (x := nI n) dX5_search_0 rfl rfl ?_
  refine qi_aload_n (i := 0) (x := 218) dX5_search_1 rfl rfl ?_
  refine qi_getI (x := M.1 218 4) flX5_26 dX5_search_2 rfl (by decide) rfl ?_
  refine qi_icmp_ne (tgt := 26) dX5_search_5 (by decide) (fun d1 => ?_) (fun d1 => ?_)
  · exact F
  · refine qi_iload_n (i := 3) (x := nI s) dX5_search_8 rfl rfl ?_
    refine qi_aload_n (i := 0) (x := 218) dX5_search_9 rfl rfl ?_
    refine qi_getI (x := M.1 218 5) flX5_29 dX5_search_10 rfl (by decide) rfl ?_
    refine qi_icmp_ne (tgt := 26) dX5_search_13 (by decide) (fun d2 => ?_) (fun d2 => ?_)
    · exact F
    · refine qi_iload (i := 4) (x := nI c) dX5_search_16 rfl ?_
      refine qi_aload_n (i := 0) (x := 218) dX5_search_18 rfl rfl ?_
      refine qi_getI (x := M.1 218 6) flX5_32 dX5_search_19 rfl (by decide) rfl ?_
      refine qi_icmp_ne (tgt := 26) dX5_search_22 (by decide) (fun d3 => ?_) (fun d3 => ?_)
      · exact F
      · rcases hC with h | ⟨n', s', c', a1, a2, a3, a4, a5, a6, a7⟩
        · rw [h] at d1
          exact absurd d1 (nI_m1 (by omega))
        · rw [a4] at d1
          rw [a5] at d2
          rw [a6] at d3
          obtain rfl : n = n' := (nI_eq (by omega) (by omega)).mp d1
          obtain rfl : s = s' := (nI_eq hs a2).mp d2
          obtain rfl : c = c' := (nI_eq hc a3).mp d3
          exact qi_retV rfl dX5_search_25 (⟨a7, Or.inr ⟨n, s, c, hn, hs, hc, a4, a5, a6, a7⟩, qFr.rf⟩)
set_option maxHeartbeats 1000000 in
theorem c_X11_isThimble (g : qG) {M : qM} (n s c : Int32) : qI g 0 kX11_isThimble [.int n, .int s, .int c] M (fun r M' => (r = 0 ↔ badT n s c) ∧ M' = M) := by
  have E : badT n s c → qT g kX11_isThimble (qR 0 0 0) (qZI g (fun r M' => (r = 0 ↔ badT n s c) ∧ M' = M)) 22 [some (.int n), some (.int s), some (.int c)] [] 333 M (0, 0) := by
    intro hb
    refine qi_iconst (v := 0) dX11_isThimble_22 rfl ?_
    exact qi_retI rfl (by rfl) dX11_isThimble_23 (⟨⟨fun _ => hb, fun _ => rfl⟩, rfl⟩)
  refine qI.of (j := 0) (pn_RX11) rfl ?_
  show qT g kX11_isThimble (qR 0 0 0) (qZI g (fun r M' => (r = 0 ↔ badT n s c) ∧ M' = M)) 0 [some (.int n), some (.int s), some (.int c)] [] 333 M (0, 0)
  refine qi_iload_n (i := 0) (x := n) dX11_isThimble_0 rfl rfl ?_
  refine qi_if_lt (tgt := 22) dX11_isThimble_1 (by decide) (fun c1 => ?_) (fun c1 => ?_)
  · exact E (Or.inl (inF_no (fun y => absurd c1 (Int32.not_lt.mpr y.1))))
  · refine qi_iload_n (i := 0) (x := n) dX11_isThimble_4 rfl rfl ?_
    refine qi_bipush (v := 60) dX11_isThimble_5 rfl ?_
    refine qi_icmp_gt (tgt := 22) dX11_isThimble_7 (by decide) (fun c2 => ?_) (fun c2 => ?_)
    · exact E (Or.inl (inF_no (fun y => absurd c2 (Int32.not_lt.mpr y.2))))
    · refine qi_iload_n (i := 1) (x := s) dX11_isThimble_10 rfl rfl ?_
      refine qi_if_lt (tgt := 22) dX11_isThimble_11 (by decide) (fun c3 => ?_) (fun c3 => ?_)
      · exact E (Or.inr (Or.inl c3))
      · refine qi_iload_n (i := 2) (x := c) dX11_isThimble_14 rfl rfl ?_
        refine qi_if_lt (tgt := 22) dX11_isThimble_15 (by decide) (fun c4 => ?_) (fun c4 => ?_)
        · exact E (Or.inr (Or.inr c4))
        · refine qi_iconst (v := 1) dX11_isThimble_18 rfl ?_
          refine qi_goto (tgt := 23) dX11_isThimble_19 (by decide) ?_
          exact qi_retI rfl (by rfl) dX11_isThimble_23 (⟨⟨fun z => absurd z (by decide), fun z => absurd z (fun y => y.elim (inF_yes ⟨Int32.not_lt.mp c1, Int32.not_lt.mp c2⟩) (fun y => y.elim c3 c4))⟩, rfl⟩)
set_option maxHeartbeats 1000000 in
theorem c_X11_thimble (g : qG) {M : qM} (hM : qRf M) {p : Nat} {π : qPl} (hp : qIsP p) (hr : M.2.2 0 9 = some p) (hP : qPlan M p π) (hok : okPl π) (hC : qRwC M π) (n s c : Int32) : qJ g 8 kX11_thimble [.ref 0, .int n, .int s, .int c] M (fun r M' => r = thimbleQ π n s c ∧ qRwC M' π ∧ qFr SRx M M') := by
  obtain ⟨res, hres⟩ : ∃ res, res = thimbleQ π n s c := ⟨_, rfl⟩
  rw [← hres]
  unfold thimbleQ at hres
  refine qJ.of (j := 0) (pn_RX11) rfl ?_
  show qT g kX11_thimble (qR 8 0 0) (qZJ g (fun r M' => r = res ∧ qRwC M' π ∧ qFr SRx M M')) 0 [some (.ref 0), some (.int n), some (.int s), some (.int c)] [] 333 M (0, 0)
  refine qi_iload_n (i := 1) (x := n) dX11_thimble_0 rfl rfl ?_
  refine qi_iload_n (i := 2) (x := s) dX11_thimble_1 rfl rfl ?_
  refine qi_iload_n (i := 3) (x := c) dX11_thimble_2 rfl rfl ?_
  refine qi_callSI (K' := kX11_isThimble) (As := [.int n, .int s, .int c]) mlX11_237 okX11_isThimble dX11_thimble_3 (c_X11_isThimble g n s c) rfl rfl (Nat.le_of_ble_eq_true rfl) ⟨(Nat.le_of_ble_eq_true rfl), (Nat.le_of_ble_eq_true rfl)⟩ ⟨Nat.le_refl _, Nat.le_refl _⟩ (fun b M0 ⟨hb, rfl⟩ => ?_)
  refine qi_if_ne (tgt := 13) dX11_thimble_6 (by decide) (fun c1 => ?_) (fun c1 => ?_)
  · have hnb : ¬ badT n s c := fun z => c1 (hb.mpr z)
    obtain ⟨n0, hn0, rfl⟩ := inF_nat (n := 60) (by omega) (fun z => hnb (Or.inl z))
    obtain ⟨s0, hs0, rfl⟩ := nI_of (fun z => hnb (Or.inr (Or.inl z)))
    obtain ⟨c0, hc0, rfl⟩ := nI_of (fun z => hnb (Or.inr (Or.inr z)))
    rw [if_neg hnb, nI_clamp (by omega), nI_clamp hs0, nI_clamp hc0] at hres
    refine qi_aload_n (i := 0) (x := 0) dX11_thimble_13 rfl rfl ?_
    refine qi_getR (x := 218) flX11_40 dX11_thimble_14 rfl (by decide) (hM 0 4 218 rfl) ?_
    refine qi_aload_n (i := 0) (x := 0) dX11_thimble_17 rfl rfl ?_
    refine qi_getR (x := p) flX11_67 dX11_thimble_18 rfl (by decide) hr ?_
    refine qi_iload_n (i := 1) (x := nI n0) dX11_thimble_21 rfl rfl ?_
    refine qi_iload_n (i := 2) (x := nI s0) dX11_thimble_22 rfl rfl ?_
    refine qi_iload_n (i := 3) (x := nI c0) dX11_thimble_23 rfl rfl ?_
    refine qi_callVV (K' := kX5_search) (As := [.ref p, .int (nI n0), .int (nI s0), .int (nI c0)]) mlX11_241 okX5_search dX11_thimble_24 (c_X5_search g hM hp hP hok hC hn0 hs0 hc0) rfl (by decide) rfl (by decide) rfl rfl (Nat.le_of_ble_eq_true rfl) ⟨(Nat.le_of_ble_eq_true rfl), (Nat.le_of_ble_eq_true rfl)⟩ ⟨Nat.le_refl _, Nat.le_refl _⟩ (fun M2 ⟨hA, hC2, hf2⟩ => ?_)
    have hM2 := hM.fr hf2
    have hA1 := hA.1
    refine qi_aload_n (i := 0) (x := 0) dX11_thimble_27 rfl rfl ?_
    refine qi_getR (x := 218) flX11_40 dX11_thimble_28 rfl (by decide) (hM2 0 4 218 rfl) ?_
    refine qi_getJ (x := lN (solL π n0 s0 c0).length) flX11_244 dX11_thimble_31 rfl (by decide) hA1 ?_
    exact qi_retJ rfl dX11_thimble_34 (⟨hres.symm, hC2, hf2⟩)
  · rw [if_pos (hb.mp c1)] at hres
    refine qi_ldc2 dX11_thimble_9 cnX11_160 ?_
    exact qi_retJ rfl dX11_thimble_12 (⟨hres.symm, hC, qFr.rf⟩)
set_option maxHeartbeats 1000000 in
theorem c_X11_surely (g : qG) {M : qM} (hM : qRf M) {p : Nat} {π : qPl} (hp : qIsP p) (hr : M.2.2 0 9 = some p) (hP : qPlan M p π) (hok : okPl π) (hC : qRwC M π) (n s c : Int32) : qI g 8 kX11_surely [.ref 0, .int n, .int s, .int c] M (fun r M' => r = surelyQ π n s c ∧ qRwC M' π ∧ qFr SRx M M') := by
  obtain ⟨res, hres⟩ : ∃ res, res = surelyQ π n s c := ⟨_, rfl⟩
  rw [← hres]
  unfold surelyQ at hres
  refine qI.of (j := 0) (pn_RX11) rfl ?_
  show qT g kX11_surely (qR 8 0 0) (qZI g (fun r M' => r = res ∧ qRwC M' π ∧ qFr SRx M M')) 0 [some (.ref 0), some (.int n), some (.int s), some (.int c)] [] 333 M (0, 0)
  refine qi_iload_n (i := 1) (x := n) dX11_surely_0 rfl rfl ?_
  refine qi_iload_n (i := 2) (x := s) dX11_surely_1 rfl rfl ?_
  refine qi_iload_n (i := 3) (x := c) dX11_surely_2 rfl rfl ?_
  refine qi_callSI (K' := kX11_isThimble) (As := [.int n, .int s, .int c]) mlX11_237 okX11_isThimble dX11_surely_3 (c_X11_isThimble g n s c) rfl rfl (Nat.le_of_ble_eq_true rfl) ⟨(Nat.le_of_ble_eq_true rfl), (Nat.le_of_ble_eq_true rfl)⟩ ⟨Nat.le_refl _, Nat.le_refl _⟩ (fun b M0 ⟨hb, rfl⟩ => ?_)
  refine qi_if_ne (tgt := 11) dX11_surely_6 (by decide) (fun c1 => ?_) (fun c1 => ?_)
  · have hnb : ¬ badT n s c := fun z => c1 (hb.mpr z)
    obtain ⟨n0, hn0, rfl⟩ := inF_nat (n := 60) (by omega) (fun z => hnb (Or.inl z))
    obtain ⟨s0, hs0, rfl⟩ := nI_of (fun z => hnb (Or.inr (Or.inl z)))
    obtain ⟨c0, hc0, rfl⟩ := nI_of (fun z => hnb (Or.inr (Or.inr z)))
    rw [if_neg hnb, nI_clamp (by omega), nI_clamp hs0, nI_clamp hc0] at hres
    have hl := sol_len (π := π) hok.1 (n := n0) (s := s0) (c := c0) hn0
    refine qi_aload_n (i := 0) (x := 0) dX11_surely_11 rfl rfl ?_
    refine qi_getR (x := 218) flX11_40 dX11_surely_12 rfl (by decide) (hM 0 4 218 rfl) ?_
    refine qi_aload_n (i := 0) (x := 0) dX11_surely_15 rfl rfl ?_
    refine qi_getR (x := p) flX11_67 dX11_surely_16 rfl (by decide) hr ?_
    refine qi_iload_n (i := 1) (x := nI n0) dX11_surely_19 rfl rfl ?_
    refine qi_iload_n (i := 2) (x := nI s0) dX11_surely_20 rfl rfl ?_
    refine qi_iload_n (i := 3) (x := nI c0) dX11_surely_21 rfl rfl ?_
    refine qi_callVV (K' := kX5_search) (As := [.ref p, .int (nI n0), .int (nI s0), .int (nI c0)]) mlX11_241 okX5_search dX11_surely_22 (c_X5_search g hM hp hP hok hC hn0 hs0 hc0) rfl (by decide) rfl (by decide) rfl rfl (Nat.le_of_ble_eq_true rfl) ⟨(Nat.le_of_ble_eq_true rfl), (Nat.le_of_ble_eq_true rfl)⟩ ⟨Nat.le_refl _, Nat.le_refl _⟩ (fun M2 ⟨hA, hC2, hf2⟩ => ?_)
    have hM2 := hM.fr hf2
    obtain ⟨hA1, hA2, hA3⟩ := hA
    refine qi_aload_n (i := 0) (x := 0) dX11_surely_25 rfl rfl ?_
    refine qi_getR (x := 218) flX11_40 dX11_surely_26 rfl (by decide) (hM2 0 4 218 rfl) ?_
    refine qi_getJ (x := lN (solL π n0 s0 c0).length) flX11_244 dX11_surely_29 rfl (by decide) hA1 ?_
    refine qi_lconst (v := 0) dX11_surely_32 rfl ?_
    refine qi_lcmp dX11_surely_33 ?_
    refine qi_if_ne (tgt := 41) dX11_surely_34 (by decide) (fun d => ?_) (fun d => ?_)
    · rw [if_neg (fun z => d ((lN_0 (by omega)).mpr z))] at hres
      refine qi_aload_n (i := 0) (x := 0) dX11_surely_41 rfl rfl ?_
      refine qi_getR (x := 218) flX11_40 dX11_surely_42 rfl (by decide) (hM2 0 4 218 rfl) ?_
      refine qi_getI (x := nI (sureF (π.1 0) (solL π n0 s0 c0))) flX11_248 dX11_surely_45 rfl (by decide) hA2 ?_
      exact qi_retI rfl rfl dX11_surely_48 (⟨hres.symm, hC2, hf2⟩)
    · rw [if_pos ((lN_0 (by omega)).mp d)] at hres
      refine qi_iconst (v := 0) dX11_surely_37 rfl ?_
      refine qi_goto (tgt := 48) dX11_surely_38 (by decide) ?_
      exact qi_retI rfl rfl dX11_surely_48 (⟨hres.symm, hC2, hf2⟩)
  · rw [if_pos (hb.mp c1)] at hres
    refine qi_iconst (v := -1) dX11_surely_9 rfl ?_
    exact qi_retI rfl rfl dX11_surely_10 (⟨hres.symm, hC, qFr.rf⟩)
set_option maxHeartbeats 1000000 in
theorem c_X11_firstRow (g : qG) {M : qM} (hM : qRf M) {p : Nat} {π : qPl} (hp : qIsP p) (hr : M.2.2 0 9 = some p) (hP : qPlan M p π) (hok : okPl π) (hC : qRwC M π) (n s c w : Int32) : qI g 8 kX11_firstRow [.ref 0, .int n, .int s, .int c, .int w] M (fun r M' => r = firstQ π n s c w ∧ qRwC M' π ∧ qFr SRx M M') := by
  obtain ⟨res, hres⟩ : ∃ res, res = firstQ π n s c w := ⟨_, rfl⟩
  rw [← hres]
  unfold firstQ at hres
  have hw5 := hok.1
  have E : (badT n s c ∨ isF (π.1 0) w = 0) → qT g kX11_firstRow (qR 8 0 0) (qZI g (fun r M' => r = res ∧ qRwC M' π ∧ qFr SRx M M')) 21 [some (.ref 0), some (.int n), some (.int s), some (.int c), some (.int w)] [] 333 M (0, 0) := by
    intro hb
    rw [if_pos hb] at hres
    refine qi_iconst (v := -1) dX11_firstRow_21 rfl ?_
    exact qi_retI rfl rfl dX11_firstRow_22 (⟨hres.symm, hC, qFr.rf⟩)
  refine qI.of (j := 0) (pn_RX11) rfl ?_
  show qT g kX11_firstRow (qR 8 0 0) (qZI g (fun r M' => r = res ∧ qRwC M' π ∧ qFr SRx M M')) 0 [some (.ref 0), some (.int n), some (.int s), some (.int c), some (.int w)] [] 333 M (0, 0)
  refine qi_iload_n (i := 1) (x := n) dX11_firstRow_0 rfl rfl ?_
  refine qi_iload_n (i := 2) (x := s) dX11_firstRow_1 rfl rfl ?_
  refine qi_iload_n (i := 3) (x := c) dX11_firstRow_2 rfl rfl ?_
  refine qi_callSI (K' := kX11_isThimble) (As := [.int n, .int s, .int c]) mlX11_237 okX11_isThimble dX11_firstRow_3 (c_X11_isThimble g n s c) rfl rfl (Nat.le_of_ble_eq_true rfl) ⟨(Nat.le_of_ble_eq_true rfl), (Nat.le_of_ble_eq_true rfl)⟩ ⟨Nat.le_refl _, Nat.le_refl _⟩ (fun b M0 ⟨hb, rfl⟩ => ?_)
  refine qi_if_eq (tgt := 21) dX11_firstRow_6 (by decide) (fun c1 => ?_) (fun c1 => ?_)
  · exact E (Or.inl (hb.mp c1))
  · refine qi_aload_n (i := 0) (x := 0) dX11_firstRow_9 rfl rfl ?_
    refine qi_getR (x := p) flX11_67 dX11_firstRow_10 rfl (by decide) hr ?_
    refine qi_iload (i := 4) (x := w) dX11_firstRow_13 rfl ?_
    refine qi_callPVI (v := isF (π.1 0) w) (K' := kX3_hasWater) (As := [.int w]) mlX11_130 okX3_hasWater dX11_firstRow_15 (c_X3_hasWater g hp hP w) (hp.1 0 (by decide)) (by decide) rfl (by have := hp.2.2; omega) rfl rfl (Nat.le_of_ble_eq_true rfl) ⟨(Nat.le_of_ble_eq_true rfl), (Nat.le_of_ble_eq_true rfl)⟩ ⟨Nat.le_refl _, Nat.le_refl _⟩ ?_
    refine qi_if_ne (tgt := 23) dX11_firstRow_18 (by decide) (fun c2 => ?_) (fun c2 => ?_)
    · have hnb : ¬ badT n s c := fun z => c1 (hb.mpr z)
      obtain ⟨n0, hn0, rfl⟩ := inF_nat (n := 60) (by omega) (fun z => hnb (Or.inl z))
      obtain ⟨s0, hs0, rfl⟩ := nI_of (fun z => hnb (Or.inr (Or.inl z)))
      obtain ⟨c0, hc0, rfl⟩ := nI_of (fun z => hnb (Or.inr (Or.inr z)))
      obtain ⟨w0, hw0, rfl⟩ := isF_of (by omega) c2
      rw [if_neg (fun z => z.elim hnb c2), nI_clamp (by omega), nI_clamp hs0, nI_clamp hc0, nI_clamp (by omega)] at hres
      refine qi_aload_n (i := 0) (x := 0) dX11_firstRow_23 rfl rfl ?_
      refine qi_getR (x := 218) flX11_40 dX11_firstRow_24 rfl (by decide) (hM 0 4 218 rfl) ?_
      refine qi_aload_n (i := 0) (x := 0) dX11_firstRow_27 rfl rfl ?_
      refine qi_getR (x := p) flX11_67 dX11_firstRow_28 rfl (by decide) hr ?_
      refine qi_iload_n (i := 1) (x := nI n0) dX11_firstRow_31 rfl rfl ?_
      refine qi_iload_n (i := 2) (x := nI s0) dX11_firstRow_32 rfl rfl ?_
      refine qi_iload_n (i := 3) (x := nI c0) dX11_firstRow_33 rfl rfl ?_
      refine qi_callVV (K' := kX5_search) (As := [.ref p, .int (nI n0), .int (nI s0), .int (nI c0)]) mlX11_241 okX5_search dX11_firstRow_34 (c_X5_search g hM hp hP hok hC hn0 hs0 hc0) rfl (by decide) rfl (by decide) rfl rfl (Nat.le_of_ble_eq_true rfl) ⟨(Nat.le_of_ble_eq_true rfl), (Nat.le_of_ble_eq_true rfl)⟩ ⟨Nat.le_refl _, Nat.le_refl _⟩ (fun M2 ⟨hA, hC2, hf2⟩ => ?_)
      have hM2 := hM.fr hf2
      obtain ⟨hA1, hA2, hA3⟩ := hA
      have hl := sol_len (π := π) hok.1 (n := n0) (s := s0) (c := c0) hn0
      refine qi_aload_n (i := 0) (x := 0) dX11_firstRow_37 rfl rfl ?_
      refine qi_getR (x := 218) flX11_40 dX11_firstRow_38 rfl (by decide) (hM2 0 4 218 rfl) ?_
      refine qi_getJ (x := lN (solL π n0 s0 c0).length) flX11_244 dX11_firstRow_41 rfl (by decide) hA1 ?_
      refine qi_lconst (v := 0) dX11_firstRow_44 rfl ?_
      refine qi_lcmp dX11_firstRow_45 ?_
      cases hs : solL π n0 s0 c0 with
      | nil =>
        rw [hs] at hres
        refine qi_if_ne (tgt := 54) dX11_firstRow_46 (by decide) (fun z => False.elim (z rfl)) (fun z => ?_)
        refine qi_bipush (v := -2) dX11_firstRow_49 rfl ?_
        refine qi_goto (tgt := 64) dX11_firstRow_51 (by decide) ?_
        exact qi_retI rfl rfl dX11_firstRow_64 (⟨hres.symm, hC2, hf2⟩)
      | cons l Q =>
        rw [hs] at hres hl
        have h1 := hA3 l Q hs w0 hw0
        refine qi_if_ne (tgt := 54) dX11_firstRow_46 (by decide) (fun z => ?_) (fun z => False.elim (absurd ((lN_0 (by omega)).mp z) (by rw [List.length_cons]; omega)))
        refine qi_aload_n (i := 0) (x := 0) dX11_firstRow_54 rfl rfl ?_
        refine qi_getR (x := 218) flX11_40 dX11_firstRow_55 rfl (by decide) (hM2 0 4 218 rfl) ?_
        refine qi_getR (x := 220) flX11_251 dX11_firstRow_58 rfl (by decide) (hM2 218 1 220 rfl) ?_
        refine qi_iload (i := 4) (x := nI w0) dX11_firstRow_61 rfl ?_
        refine qi_ialdN (x := nI (l.getD w0 0)) (j := w0) dX11_firstRow_63 rfl (by decide) rfl (by omega) (by decide) h1 ?_
        exact qi_retI rfl rfl dX11_firstRow_64 (⟨hres.symm, hC2, hf2⟩)
    · exact E (Or.inr c2)
