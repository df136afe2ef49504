/-! ThimbleSea$Rows: fillTwo, fillFrom -/
theorem acc_add {M M' : qM} {W : Nat} {P : List (List Nat)} {t : Nat → Nat} (hW : W ≤ 5) (hA : accC M W P) (hR : ∀ v, v < W → M.1 219 v = nI (t v)) (h3 : M'.2.1 218 3 = lN (P.length + 1)) (h2 : M'.1 218 2 = nI (bitsF (fun v => (decide (v < W) && allP P v) && decide (0 < t v)))) (h1 : ∀ v, v < 5 → M'.1 220 v = if P.length = 0 then M.1 219 v else M.1 220 v) : accC M' W (P ++ [pre t W]) := by
  refine ⟨by rw [h3, List.length_append]; rfl, ?_, fun l Q hlq v hv => ?_⟩
  · rw [h2]
    refine congrArg nI (bits_congr (fun v hv => ?_))
    rw [allP_app]
    by_cases c : v < W
    · rw [pre_get t W v c, decide_eq_true c, Bool.true_and, Bool.true_and]
    · rw [decide_eq_false c, Bool.false_and, Bool.false_and, Bool.false_and]
  · rw [h1 v (by omega)]
    cases hP : P with
    | nil =>
      rw [hP] at hlq
      have e1 := (List.cons.inj (show pre t W :: [] = l :: Q from hlq)).1
      rw [← e1, pre_get t W v hv]
      exact hR v hv
    | cons a b =>
      rw [hP] at hlq
      have e1 := (List.cons.inj (show a :: (b ++ [pre t W]) = l :: Q from hlq)).1
      rw [← e1, if_neg (by rw [List.length_cons]; omega)]
      exact hA.2.2 a b hP v hv
theorem accC.frow {M M' : qM} {W : Nat} {P : List (List Nat)} (h : accC M W P) (hf : qFr (fun b _ => b = 219) M M') : accC M' W P := ⟨(hf.2.1 _ _ (by omega)).trans h.1, (hf.1 _ _ (by omega)).trans h.2.1, fun l Q hlq v hv => (hf.1 _ _ (by omega)).trans (h.2.2 l Q hlq v hv)⟩
theorem sub_toInt {x y : Nat} (hx : x < 2 ^ 31) (hy : y < 2 ^ 31) : (nI x - nI y).toInt = (x : Int) - y := by
  rw [Int32.toInt_sub, nI_toInt hx, nI_toInt hy, Int.bmod_def]
  omega
theorem SRc_pl {p : Nat} (hp : qIsP p) {i j : Nat} (z : SRc (p + i) j) : False := by
  have := hp.2.1
  unfold SRc SKr at z
  omega
set_option maxHeartbeats 4000000 in
theorem c_X5_fillTwo (g : qG) {M : qM} (hM : qRf M) {p : Nat} {π : qPl} (hp : qIsP p) (hP : qPlan M p π) (hok : okPl π) {OK : List Nat → Bool} {S C : Nat} (hOK : ∀ l, OK l = okL (π.2.1 0) (π.2.1 1) S C l) {t : Nat → Nat} {w r s c : Nat} {P : List (List Nat)} (hw : w + 2 = π.1 0) (hr : r ≤ 60) (hs : s < 2 ^ 31) (hc : c < 2 ^ 31) (hS : sumN (fun i => t i * π.2.1 0 i) w + s = S) (hC : sumN (fun i => t i * π.2.1 1 i) w + c = C) (hR : ∀ i, i < w → M.1 219 i = nI (t i) ∧ t i ≤ 60) (hA : accC M (π.1 0) P) (hPl : P.length ≤ 844596301) : qV g 1 kX5_fillTwo [.ref 218, .ref p, .int (nI w), .int (nI r), .int (nI s), .int (nI c)] M (fun M' => accC M' (π.1 0) (P ++ (comp t w 2 r).filter OK) ∧ (∀ i, i < w → M'.1 219 i = nI (t i)) ∧ qFr SRc M M') := by
  obtain ⟨FL, hFL⟩ : ∃ FL, FL = (comp t w 2 r).filter OK := ⟨_, rfl⟩
  rw [← hFL]
  obtain ⟨W, hWd⟩ : ∃ W, W = π.1 0 := ⟨_, rfl⟩
  have hw5 := hok.1
  have ba := hok.2.2.2.2.2.2.1 w (by omega)
  have bb := hok.2.2.2.2.2.2.1 (w + 1) (by omega)
  have ra : M.1 (p + 1) w = nI (π.2.1 0 w) := hP.2.1 0 w (by omega) (by show w < π.1 0; omega)
  have rb : M.1 (p + 1) (w + 1) = nI (π.2.1 0 (w + 1)) := hP.2.1 0 (w + 1) (by omega) (by show w + 1 < π.1 0; omega)
  have rca : M.1 (p + 2) w = nI (π.2.1 1 w) := hP.2.1 1 w (by omega) (by show w < π.1 0; omega)
  have rcb : M.1 (p + 2) (w + 1) = nI (π.2.1 1 (w + 1)) := hP.2.1 1 (w + 1) (by omega) (by show w + 1 < π.1 0; omega)
  have hF : ∃ F : Nat → List Nat, ∀ x, F x = pre (setN (setN t w x) (w + 1) (r - x)) (w + 2) := ⟨_, fun _ => rfl⟩
  obtain ⟨F, hF⟩ := hF
  have hFe : ∀ x, F x = pre t w ++ [x] ++ [r - x] := fun x => by
    rw [hF, pre_set, pre_set]
  have hcomp : comp t w 2 r = upL (fun x => [F x]) (r + 1) 0 := by
    rw [comp_s]
    refine upL_congr (fun x => ?_) _ _
    rw [comp_1, pre_set, hFe]
  have hFLu : FL = upL (fun x => [F x].filter OK) (r + 1) 0 := by rw [hFL, hcomp, upL_filter]
  have hok2 : ∀ x, OK (F x) = true ↔ (x * π.2.1 0 w + (r - x) * π.2.1 0 (w + 1) = s ∧ x * π.2.1 1 w + (r - x) * π.2.1 1 (w + 1) = c) := fun x => by
    have d1 : ∀ f : Nat → Nat, dotL f 0 (F x) = sumN (fun i => t i * f i) w + (x * f w + (r - x) * f (w + 1)) := fun f => by
      rw [hFe, dotL_app, dotL_app, dotL_pre, List.length_append, pre_len, Nat.zero_add, Nat.zero_add]
      show sumN (fun i => t i * f i) w + (x * f w + 0) + ((r - x) * f (w + 1) + 0) = _
      omega
    rw [hOK]
    unfold okL
    rw [decide_eq_true_iff, d1, d1]
    omega
  have hR1 := hR
  rw [← hWd] at hA hw hw5
  generalize π.2.1 0 w = a at *
  generalize π.2.1 0 (w + 1) = b at *
  generalize π.2.1 1 w = ca at *
  generalize π.2.1 1 (w + 1) = cb at *
  obtain ⟨PS, hPS⟩ : ∃ PS, PS = nI a - nI b := ⟨_, rfl⟩
  obtain ⟨PC, hPC⟩ : ∃ PC, PC = nI ca - nI cb := ⟨_, rfl⟩
  obtain ⟨SL, hSL⟩ : ∃ SL, SL = nI s - nI r * nI b := ⟨_, rfl⟩
  obtain ⟨CL, hCL⟩ : ∃ CL, CL = nI c - nI r * nI cb := ⟨_, rfl⟩
  have hrb : r * b ≤ 60 * 99 := Nat.mul_le_mul hr bb.1
  have hrcb : r * cb ≤ 60 * 9 := Nat.mul_le_mul hr bb.2
  have iPS : PS.toInt = (a : Int) - b := by rw [hPS]; exact sub_toInt (by omega) (by omega)
  have iPC : PC.toInt = (ca : Int) - cb := by rw [hPC]; exact sub_toInt (by omega) (by omega)
  have iSL : SL.toInt = (s : Int) - (r * b : Nat) := by rw [hSL, pk_mul]; exact sub_toInt (by omega) (by omega)
  have iCL : CL.toInt = (c : Int) - (r * cb : Nat) := by rw [hCL, pk_mul]; exact sub_toInt (by omega) (by omega)
  -- what a row that is sought means
  have eqI : ∀ x, x ≤ r → OK (F x) = true → ((x : Int) * ((a : Int) - b) = SL.toInt ∧ (x : Int) * ((ca : Int) - cb) = CL.toInt) := fun x hx ho => by
    obtain ⟨h1, h2⟩ := (hok2 x).mp ho
    rw [iSL, iCL]
    have e1 : (r - x) * b = r * b - x * b := Nat.sub_mul r x b
    have e2 : (r - x) * cb = r * cb - x * cb := Nat.sub_mul r x cb
    have e3 : x * b ≤ r * b := Nat.mul_le_mul_right b hx
    have e4 : x * cb ≤ r * cb := Nat.mul_le_mul_right cb hx
    rw [Int.mul_sub, Int.mul_sub]
    constructor
    · have : ((x * a : Nat) : Int) - ((x * b : Nat) : Int) = (s : Int) - ((r * b : Nat) : Int) := by omega
      rw [← this]
      push_cast
      rfl
    · have : ((x * ca : Nat) : Int) - ((x * cb : Nat) : Int) = (c : Int) - ((r * cb : Nat) : Int) := by omega
      rw [← this]
      push_cast
      rfl
  have prI : ∀ x, x ≤ r → (nI x * PS).toInt = (x : Int) * ((a : Int) - b) ∧ (nI x * PC).toInt = (x : Int) * ((ca : Int) - cb) := fun x hx => by
    have m1 : x * a ≤ 60 * 99 := Nat.mul_le_mul (by omega) ba.1
    have m2 : x * b ≤ 60 * 99 := Nat.mul_le_mul (by omega) bb.1
    have m3 : x * ca ≤ 60 * 9 := Nat.mul_le_mul (by omega) ba.2
    have m4 : x * cb ≤ 60 * 9 := Nat.mul_le_mul (by omega) bb.2
    constructor
    · rw [hPS, show nI x * (nI a - nI b) = nI (x * a) - nI (x * b) by rw [← pk_mul, ← pk_mul]; grind, sub_toInt (by omega) (by omega), Int.mul_sub]
      push_cast
      rfl
    · rw [hPC, show nI x * (nI ca - nI cb) = nI (x * ca) - nI (x * cb) by rw [← pk_mul, ← pk_mul]; grind, sub_toInt (by omega) (by omega), Int.mul_sub]
      push_cast
      rfl
  have okI : ∀ x, x ≤ r → (OK (F x) = true ↔ (nI x * PS = SL ∧ nI x * PC = CL)) := fun x hx => by
    obtain ⟨q1, q2⟩ := prI x hx
    constructor
    · intro ho
      obtain ⟨h1, h2⟩ := eqI x hx ho
      exact ⟨Int32.toInt_inj.mp (q1.trans h1), Int32.toInt_inj.mp (q2.trans h2)⟩
    · intro ⟨h1, h2⟩
      rw [h1] at q1
      rw [h2] at q2
      rw [iSL, Int.mul_sub] at q1
      rw [iCL, Int.mul_sub] at q2
      have e1 : (r - x) * b = r * b - x * b := Nat.sub_mul r x b
      have e2 : (r - x) * cb = r * cb - x * cb := Nat.sub_mul r x cb
      have e3 : x * b ≤ r * b := Nat.mul_le_mul_right b hx
      have e4 : x * cb ≤ r * cb := Nat.mul_le_mul_right cb hx
      refine (hok2 x).mpr ⟨?_, ?_⟩
      · have : (s : Int) - ((r * b : Nat) : Int) = ((x * a : Nat) : Int) - ((x * b : Nat) : Int) := by push_cast; push_cast at q1; exact q1
        omega
      · have : (c : Int) - ((r * cb : Nat) : Int) = ((x * ca : Nat) : Int) - ((x * cb : Nat) : Int) := by push_cast; push_cast at q2; exact q2
        omega
  rw [← hWd]
  have E : ∀ l h, FL = [] → qT g kX5_fillTwo (qR 1 0 0) (qZV g (fun M' => accC M' W (P ++ FL) ∧ (∀ i, i < w → M'.1 219 i = nI (t i)) ∧ qFr SRc M M')) 137 [some (.ref 218), some (.ref p), some (.int (nI w)), some (.int (nI r)), some (.int (nI s)), some (.int (nI c)), some (.int (nI (w + 1))), some (.int PS), some (.int PC), some (.int SL), some (.int CL), some (.int l), some (.int h)] [] 333 M (0, 0) := by
    intro l h he
    exact qi_retV rfl dX5_fillTwo_137 (⟨by rw [he, List.append_nil]; exact hA, fun i hi => (hR i hi).1, qFr.rf⟩)
  have none_ : (∀ x, x ≤ r → ¬ OK (F x) = true) → FL = [] := fun z => by
    rw [hFLu]
    exact upL_nil _ _ (fun y h1 h2 => List.filter_cons_of_neg (z y (by omega)))
  have fsure : ∀ v, (decide (v < W) && allP P v) = true → v < W := fun v h => by
    rw [Bool.and_eq_true] at h
    exact of_decide_eq_true h.1
  have K138 : ∀ x0 h, x0 ≤ r → h = nI x0 → FL = [F x0] → qT g kX5_fillTwo (qR 1 0 0) (qZV g (fun M' => accC M' W (P ++ FL) ∧ (∀ i, i < w → M'.1 219 i = nI (t i)) ∧ qFr SRc M M')) 138 [some (.ref 218), some (.ref p), some (.int (nI w)), some (.int (nI r)), some (.int (nI s)), some (.int (nI c)), some (.int (nI (w + 1))), some (.int PS), some (.int PC), some (.int SL), some (.int CL), some (.int (nI x0)), some (.int h)] [] 333 M (0, 0) := by
    intro x0 h hx hh he
    subst hh
    refine qi_aload_n (i := 0) (x := 218) dX5_fillTwo_138 rfl rfl ?_
    refine qi_getR (x := 219) flX5_9 dX5_fillTwo_139 rfl (by decide) (hM 218 0 219 rfl) ?_
    refine qi_iload_n (i := 2) (x := nI w) dX5_fillTwo_142 rfl rfl ?_
    refine qi_iload (i := 11) (x := nI x0) dX5_fillTwo_143 rfl ?_
    refine qi_iastN (j := w) dX5_fillTwo_145 rfl (by decide) rfl (by omega) (by decide) ?_
    refine qi_aload_n (i := 0) (x := 218) dX5_fillTwo_146 rfl rfl ?_
    refine qi_getR (x := 219) flX5_9 dX5_fillTwo_147 rfl (by decide) (hM 218 0 219 rfl) ?_
    refine qi_iload (i := 6) (x := nI (w + 1)) dX5_fillTwo_150 rfl ?_
    refine qi_iload_n (i := 3) (x := nI r) dX5_fillTwo_152 rfl rfl ?_
    refine qi_iload (i := 11) (x := nI x0) dX5_fillTwo_153 rfl ?_
    refine qi_isub dX5_fillTwo_155 ?_
    refine qe_top (y := nI (r - x0)) (pk_sub hx) ?_
    refine qi_iastN (j := w + 1) dX5_fillTwo_156 rfl (by decide) rfl (by omega) (by decide) ?_
    generalize eM2 : wI (wI M 219 w (nI x0)) 219 (w + 1) (nI (r - x0)) = M2
    have hf2 : qFr (fun b _ => b = 219) M M2 := by rw [← eM2]; exact (qFr.rf.wI (S := fun b _ => b = 219) rfl).wI rfl
    have hM2 := hM.fr hf2
    have hR2 : ∀ v, v < W → M2.1 219 v = nI (setN (setN t w x0) (w + 1) (r - x0) v) ∧ setN (setN t w x0) (w + 1) (r - x0) v < 2 ^ 31 := fun v hv => by
      rw [← eM2]
      unfold setN
      by_cases c1 : v = w + 1
      · rw [if_pos c1, c1, wI_s]
        exact ⟨rfl, by omega⟩
      · rw [if_neg c1, wI_k c1]
        by_cases c2 : v = w
        · rw [if_pos c2, c2, wI_s]
          exact ⟨rfl, by omega⟩
        · rw [if_neg c2, wI_k c2]
          have := hR v (by omega)
          exact ⟨this.1, by omega⟩
    have hA2 := hA.frow hf2
    refine qi_aload_n (i := 0) (x := 218) dX5_fillTwo_157 rfl rfl ?_
    refine qi_iload (i := 12) (x := nI x0) dX5_fillTwo_158 rfl ?_
    refine qi_iload (i := 11) (x := nI x0) dX5_fillTwo_160 rfl ?_
    refine qi_isub dX5_fillTwo_162 ?_
    refine qi_iconst (v := 1) dX5_fillTwo_163 rfl ?_
    refine qi_iadd dX5_fillTwo_164 ?_
    refine qe_top (y := nI 1) (show nI x0 - nI x0 + 1 = nI 1 by rw [show nI 1 = 1 from rfl]; grind) ?_
    refine qi_callVV (K' := kX5_keepRows) (As := [.int (nI 1)]) mlX5_44 okX5_keepRows dX5_fillTwo_165 (c_X5_keepRows g hM2 (cnt := 1) hw5 (by omega) (by omega) fsure hR2 hA2.1 hA2.2.1) rfl (by decide) rfl (by decide) rfl rfl (Nat.le_of_ble_eq_true rfl) ⟨(Nat.le_of_ble_eq_true rfl), (Nat.le_of_ble_eq_true rfl)⟩ ⟨Nat.le_refl _, Nat.le_refl _⟩ (fun M3 ⟨g3, g2, g1, hf3⟩ => ?_)
    have hM3 := hM2.fr hf3
    refine qi_iload (i := 12) (x := nI x0) dX5_fillTwo_168 rfl ?_
    refine qi_iload (i := 11) (x := nI x0) dX5_fillTwo_170 rfl ?_
    refine qi_icmp_le (tgt := 194) dX5_fillTwo_172 (by decide) (fun z => ?_) (fun z => False.elim (z (Int32.le_refl _)))
    refine qi_retV rfl dX5_fillTwo_194 (⟨?_, fun i hi => ?_, (hf2.mono (fun b j z => Or.inl z)).tr (hf3.mono (fun b j z => Or.inr z))⟩)
    · rw [he, hF, hw]
      exact acc_add hw5 hA2 (fun v hv => (hR2 v hv).1) g3 g2 g1
    · rw [hf3.1 _ _ (by unfold SKr; omega), ← eM2, wI_k (by omega), wI_k (by omega)]
      exact (hR i hi).1
  -- one number at the most
  have K106 : ∀ l, (∀ x, x ≤ r → OK (F x) = true → nI x = l) → qT g kX5_fillTwo (qR 1 0 0) (qZV g (fun M' => accC M' W (P ++ FL) ∧ (∀ i, i < w → M'.1 219 i = nI (t i)) ∧ qFr SRc M M')) 106 [some (.ref 218), some (.ref p), some (.int (nI w)), some (.int (nI r)), some (.int (nI s)), some (.int (nI c)), some (.int (nI (w + 1))), some (.int PS), some (.int PC), some (.int SL), some (.int CL), some (.int l), some (.int l)] [] 333 M (0, 0) := by
    intro l hU
    refine qi_iload (i := 11) (x := l) dX5_fillTwo_106 rfl ?_
    refine qi_if_lt (tgt := 137) dX5_fillTwo_108 (by decide) (fun d1 => ?_) (fun d1 => ?_)
    · exact E _ _ (none_ (fun x hx ho => by rw [← hU x hx ho] at d1; exact nI_pos (by omega) d1))
    · refine qi_iload (i := 12) (x := l) dX5_fillTwo_111 rfl ?_
      refine qi_iload_n (i := 3) (x := nI r) dX5_fillTwo_113 rfl rfl ?_
      refine qi_icmp_gt (tgt := 137) dX5_fillTwo_114 (by decide) (fun d2 => ?_) (fun d2 => ?_)
      · exact E _ _ (none_ (fun x hx ho => by rw [← hU x hx ho] at d2; exact nI_nlt hx (by omega) d2))
      · obtain ⟨x0, hx0, rfl⟩ := nI_of d1
        have hxr : x0 ≤ r := by
          have := Int32.not_lt.mp d2
          exact (nI_leI hx0 (by omega)).mp this
        have only : ∀ x, x ≤ r → OK (F x) = true → x = x0 := fun x hx ho => (nI_eq (by omega) hx0).mp (hU x hx ho)
        refine qi_iload (i := 11) (x := nI x0) dX5_fillTwo_117 rfl ?_
        refine qi_iload (i := 7) (x := PS) dX5_fillTwo_119 rfl ?_
        refine qi_imul dX5_fillTwo_121 ?_
        refine qi_iload (i := 9) (x := SL) dX5_fillTwo_122 rfl ?_
        refine qi_icmp_ne (tgt := 137) dX5_fillTwo_124 (by decide) (fun d3 => ?_) (fun d3 => ?_)
        · exact E _ _ (none_ (fun x hx ho => d3 (by have := only x hx ho; subst this; exact ((okI x hx).mp ho).1)))
        · refine qi_iload (i := 11) (x := nI x0) dX5_fillTwo_127 rfl ?_
          refine qi_iload (i := 8) (x := PC) dX5_fillTwo_129 rfl ?_
          refine qi_imul dX5_fillTwo_131 ?_
          refine qi_iload (i := 10) (x := CL) dX5_fillTwo_132 rfl ?_
          refine qi_icmp_eq (tgt := 138) dX5_fillTwo_134 (by decide) (fun d4 => ?_) (fun d4 => ?_)
          · refine K138 x0 _ hxr rfl ?_
            have ho : OK (F x0) = true := (okI x0 hxr).mpr ⟨d3, d4⟩
            rw [hFLu, upL_one (f := fun x => [F x].filter OK) (b := x0) (r + 1) 0 (Nat.zero_le _) (by omega) (fun y hy hne => List.filter_cons_of_neg (fun z => hne (only y (by omega) z)))]
            exact List.filter_cons_of_pos ho
          · exact E _ _ (none_ (fun x hx ho => d4 (by have := only x hx ho; subst this; exact ((okI x hx).mp ho).2)))
  have divU : ∀ (A B : Int32) (Bi : Int), B.toInt = Bi → ¬ B = 0 → -6000 ≤ A.toInt → (∀ x : Nat, x ≤ r → (x : Int) * Bi = A.toInt → nI x = A / B) := fun A B Bi hB hB0 hA0 x hx he => by
    apply Int32.toInt_inj.mp
    have hmin : A ≠ Int32.minValue := fun z => by
      rw [z] at hA0
      exact absurd hA0 (by decide)
    have hBi : Bi ≠ 0 := fun z => hB0 (Int32.toInt_inj.mp (by rw [hB, z]; rfl))
    rw [Int32.toInt_div_of_ne_left A B hmin, hB, ← he, Int.mul_tdiv_cancel _ hBi, nI_toInt (by omega)]
  have K106all : PS = 0 → PC = 0 → qT g kX5_fillTwo (qR 1 0 0) (qZV g (fun M' => accC M' W (P ++ FL) ∧ (∀ i, i < w → M'.1 219 i = nI (t i)) ∧ qFr SRc M M')) 106 [some (.ref 218), some (.ref p), some (.int (nI w)), some (.int (nI r)), some (.int (nI s)), some (.int (nI c)), some (.int (nI (w + 1))), some (.int PS), some (.int PC), some (.int SL), some (.int CL), some (.int 0), some (.int (nI r))] [] 333 M (0, 0) := by
    intro z1 z2
    have mz : ∀ x : Int32, x * 0 = 0 := fun x => Int32.mul_zero
    refine qi_iload (i := 11) (x := 0) dX5_fillTwo_106 rfl ?_
    refine qi_if_lt (tgt := 137) dX5_fillTwo_108 (by decide) (fun d1 => False.elim (absurd d1 (by decide))) (fun d1 => ?_)
    refine qi_iload (i := 12) (x := nI r) dX5_fillTwo_111 rfl ?_
    refine qi_iload_n (i := 3) (x := nI r) dX5_fillTwo_113 rfl rfl ?_
    refine qi_icmp_gt (tgt := 137) dX5_fillTwo_114 (by decide) (fun _h => absurd ((nI_ltI (a := r) (b := r) (by omega) (by omega)).mp _h) (by omega)) (fun _hc => ?_)
    refine qi_iload (i := 11) (x := 0) dX5_fillTwo_117 rfl ?_
    refine qi_iload (i := 7) (x := PS) dX5_fillTwo_119 rfl ?_
    refine qi_imul dX5_fillTwo_121 ?_
    refine qi_iload (i := 9) (x := SL) dX5_fillTwo_122 rfl ?_
    refine qi_icmp_ne (tgt := 137) dX5_fillTwo_124 (by decide) (fun d3 => ?_) (fun d3 => ?_)
    · exact E _ _ (none_ (fun x hx ho => d3 (by have := ((okI x hx).mp ho).1; rw [z1, mz] at this; rw [z1, ← this]; rfl)))
    · refine qi_iload (i := 11) (x := 0) dX5_fillTwo_127 rfl ?_
      refine qi_iload (i := 8) (x := PC) dX5_fillTwo_129 rfl ?_
      refine qi_imul dX5_fillTwo_131 ?_
      refine qi_iload (i := 10) (x := CL) dX5_fillTwo_132 rfl ?_
      refine qi_icmp_eq (tgt := 138) dX5_fillTwo_134 (by decide) (fun d4 => ?_) (fun d4 => ?_)
      · have s0 : SL = 0 := by rw [← d3, z1]; rfl
        have c0 : CL = 0 := by rw [← d4, z2]; rfl
        have allOK : ∀ x, x ≤ r → OK (F x) = true := fun x hx => (okI x hx).mpr ⟨by rw [z1, s0, mz], by rw [z2, c0, mz]⟩
        have hFLa : FL = upL (fun x => [F x]) (r + 1) 0 := by rw [hFLu, upL_all OK (r + 1) 0 (fun y h1 h2 => allOK y (by omega))]
        refine qi_aload_n (i := 0) (x := 218) dX5_fillTwo_138 rfl rfl ?_
        refine qi_getR (x := 219) flX5_9 dX5_fillTwo_139 rfl (by decide) (hM 218 0 219 rfl) ?_
        refine qi_iload_n (i := 2) (x := nI w) dX5_fillTwo_142 rfl rfl ?_
        refine qi_iload (i := 11) (x := 0) dX5_fillTwo_143 rfl ?_
        refine qi_iastN (j := w) dX5_fillTwo_145 rfl (by decide) rfl (by omega) (by decide) ?_
        refine qi_aload_n (i := 0) (x := 218) dX5_fillTwo_146 rfl rfl ?_
        refine qi_getR (x := 219) flX5_9 dX5_fillTwo_147 rfl (by decide) (hM 218 0 219 rfl) ?_
        refine qi_iload (i := 6) (x := nI (w + 1)) dX5_fillTwo_150 rfl ?_
        refine qi_iload_n (i := 3) (x := nI r) dX5_fillTwo_152 rfl rfl ?_
        refine qi_iload (i := 11) (x := 0) dX5_fillTwo_153 rfl ?_
        refine qi_isub dX5_fillTwo_155 ?_
        refine qe_top (y := nI r) (show nI r - 0 = nI r by grind) ?_
        refine qi_iastN (j := w + 1) dX5_fillTwo_156 rfl (by decide) rfl (by omega) (by decide) ?_
        generalize eM2 : wI (wI M 219 w 0) 219 (w + 1) (nI r) = M2
        have hf2 : qFr (fun b _ => b = 219) M M2 := by rw [← eM2]; exact (qFr.rf.wI (S := fun b _ => b = 219) rfl).wI rfl
        have hM2 := hM.fr hf2
        have hR2 : ∀ v, v < W → M2.1 219 v = nI (setN (setN t w 0) (w + 1) r v) ∧ setN (setN t w 0) (w + 1) r v < 2 ^ 31 := fun v hv => by
          rw [← eM2]
          unfold setN
          by_cases c1 : v = w + 1
          · rw [if_pos c1, c1, wI_s]
            exact ⟨rfl, by omega⟩
          · rw [if_neg c1, wI_k c1]
            by_cases c2 : v = w
            · rw [if_pos c2, c2, wI_s]
              exact ⟨rfl, by omega⟩
            · rw [if_neg c2, wI_k c2]
              have := hR v (by omega)
              exact ⟨this.1, by omega⟩
        have hA2 := hA.frow hf2
        refine qi_aload_n (i := 0) (x := 218) dX5_fillTwo_157 rfl rfl ?_
        refine qi_iload (i := 12) (x := nI r) dX5_fillTwo_158 rfl ?_
        refine qi_iload (i := 11) (x := 0) dX5_fillTwo_160 rfl ?_
        refine qi_isub dX5_fillTwo_162 ?_
        refine qi_iconst (v := 1) dX5_fillTwo_163 rfl ?_
        refine qi_iadd dX5_fillTwo_164 ?_
        refine qe_top (y := nI (r + 1)) (show nI r - 0 + 1 = nI (r + 1) by rw [← nI_1]; grind) ?_
        refine qi_callVV (K' := kX5_keepRows) (As := [.int (nI (r + 1))]) mlX5_44 okX5_keepRows dX5_fillTwo_165 (c_X5_keepRows g hM2 (cnt := r + 1) hw5 (by omega) (by omega) fsure hR2 hA2.1 hA2.2.1) rfl (by decide) rfl (by decide) rfl rfl (Nat.le_of_ble_eq_true rfl) ⟨(Nat.le_of_ble_eq_true rfl), (Nat.le_of_ble_eq_true rfl)⟩ ⟨Nat.le_refl _, Nat.le_refl _⟩ (fun M3 ⟨g3, g2, g1, hf3⟩ => ?_)
        have hM3 := hM2.fr hf3
        have hf3' : qFr SRc M M3 := (hf2.mono (fun b j z => Or.inl z)).tr (hf3.mono (fun b j z => Or.inr z))
        have hR3 : ∀ i, i < w → M3.1 219 i = nI (t i) := fun i hi => by
          rw [hf3.1 _ _ (by unfold SKr; omega), ← eM2, wI_k (by omega), wI_k (by omega)]
          exact (hR i hi).1
        have gd : ∀ y v, v < W → (F y).getD v 0 = setN (setN t w y) (w + 1) (r - y) v := fun y v hv => by
          rw [hF]
          exact pre_get _ _ v (by omega)
        have sure : ∀ v, v < 5 → (decide (v < W) && allP (P ++ FL) v) = ((decide (v < W) && allP P v) && decide (0 < setN (setN t w 0) (w + 1) r v) && (decide (v ≠ w) && decide (v ≠ w + 1))) := fun v hv => by
          unfold allP
          rw [List.all_append]
          by_cases c1 : v < W
          · rw [decide_eq_true c1]
            by_cases c2 : v = w
            · have : FL.all (fun l => decide (0 < l.getD v 0)) = false := by
                cases hq : FL.all (fun l => decide (0 < l.getD v 0)) with
                | false => rfl
                | true =>
                  rw [hFLa, upL_all1] at hq
                  have := of_decide_eq_true (hq 0 (Nat.le_refl _) (by omega))
                  rw [gd 0 v c1] at this
                  unfold setN at this
                  rw [if_neg (by omega), if_pos c2] at this
                  exact absurd this (Nat.lt_irrefl _)
              rw [this, decide_eq_false (p := v ≠ w) (by simpa using c2)]
              simp
            · by_cases c3 : v = w + 1
              · have : FL.all (fun l => decide (0 < l.getD v 0)) = false := by
                  cases hq : FL.all (fun l => decide (0 < l.getD v 0)) with
                  | false => rfl
                  | true =>
                    rw [hFLa, upL_all1] at hq
                    have := of_decide_eq_true (hq r (Nat.zero_le _) (by omega))
                    rw [gd r v c1] at this
                    unfold setN at this
                    rw [if_pos c3] at this
                    omega
                rw [this, decide_eq_false (p := v ≠ w + 1) (by simpa using c3)]
                simp
              · have e1 : setN (setN t w 0) (w + 1) r v = t v := by
                  unfold setN
                  rw [if_neg c3, if_neg c2]
                have : FL.all (fun l => decide (0 < l.getD v 0)) = decide (0 < t v) := by
                  cases hq : FL.all (fun l => decide (0 < l.getD v 0)) with
                  | false =>
                    refine (decide_eq_false (fun z => ?_)).symm
                    rw [hFLa] at hq
                    have hx := (upL_all1 (F := F) (p := fun l => decide (0 < l.getD v 0)) (r + 1) 0).mpr (fun y h1 h2 => by
                      refine decide_eq_true ?_
                      rw [gd y v c1]
                      unfold setN
                      rw [if_neg c3, if_neg c2]
                      exact z)
                    rw [hx] at hq
                    cases hq
                  | true =>
                    rw [hFLa, upL_all1] at hq
                    have := of_decide_eq_true (hq 0 (Nat.le_refl _) (by omega))
                    rw [gd 0 v c1] at this
                    unfold setN at this
                    rw [if_neg c3, if_neg c2] at this
                    exact (decide_eq_true this).symm
                rw [this, e1, decide_eq_true (p := v ≠ w) c2, decide_eq_true (p := v ≠ w + 1) c3]
                simp
          · rw [decide_eq_false c1]
            simp
        have fin_ : ∀ M4, M4.2.1 218 3 = lN (P.length + (r + 1)) → M4.1 218 2 = nI (bitsF (fun v => ((decide (v < W) && allP P v) && decide (0 < setN (setN t w 0) (w + 1) r v)) && (decide (v ≠ w) && decide (v ≠ w + 1)))) → (∀ v, M4.1 220 v = M3.1 220 v) → accC M4 W (P ++ FL) := fun M4 q3 q2 q1 => by
          refine ⟨by rw [q3, List.length_append, hFLa, upL_len1], by rw [q2]; exact congrArg nI (bits_congr (fun v hv => (sure v hv).symm)), fun l Q hlq v hv => ?_⟩
          rw [q1, g1 v (by omega)]
          cases hPp : P with
          | nil =>
            rw [hPp, hFLa] at hlq
            have e1 := (List.cons.inj (show F 0 :: upL (fun x => [F x]) r 1 = l :: Q from hlq)).1
            rw [← e1, if_pos (by rfl), gd 0 v hv]
            exact (hR2 v hv).1
          | cons a b =>
            rw [hPp] at hlq
            have e1 := (List.cons.inj (show a :: (b ++ FL) = l :: Q from hlq)).1
            rw [← e1, if_neg (by rw [List.length_cons]; omega)]
            exact hA2.2.2 a b hPp v hv
        refine qi_iload (i := 12) (x := nI r) dX5_fillTwo_168 rfl ?_
        refine qi_iload (i := 11) (x := 0) dX5_fillTwo_170 rfl ?_
        refine qi_icmp_le (tgt := 194) dX5_fillTwo_172 (by decide) (fun _h => ?_) (fun _h => ?_)
        · have d5 : r ≤ 0 := (nI_leI (a := r) (b := 0) (by omega) (by omega)).mp _h
          obtain rfl : r = 0 := by omega
          refine qi_retV rfl dX5_fillTwo_194 (⟨fin_ M3 g3 ?_ (fun _ => rfl), hR3, hf3'⟩)
          rw [g2]
          refine congrArg nI (bits_congr (fun v hv => ?_))
          by_cases c2 : v = w
          · have : setN (setN t w 0) (w + 1) 0 v = 0 := by unfold setN; rw [if_neg (by omega), if_pos c2]
            rw [this]
            simp
          · by_cases c3 : v = w + 1
            · have : setN (setN t w 0) (w + 1) 0 v = 0 := by unfold setN; rw [if_pos c3]
              rw [this]
              simp
            · rw [decide_eq_true (p := v ≠ w) c2, decide_eq_true (p := v ≠ w + 1) c3]
              simp
        · have d5 : ¬ (r ≤ 0) := fun z => _h ((nI_leI (a := r) (b := 0) (by omega) (by omega)).mpr z)
          refine qi_aload_n (i := 0) (x := 218) dX5_fillTwo_175 rfl rfl ?_
          refine qi_dup dX5_fillTwo_176 ?_
          refine qi_getI (x := nI (bitsF (fun v ↦ (decide (v < W) && allP P v) && decide (0 < setN (setN t w 0) (w + 1) r v)))) flX5_18 dX5_fillTwo_177 rfl (by decide) g2 ?_
          refine qi_iconst (v := 1) dX5_fillTwo_180 rfl ?_
          refine qi_iload_n (i := 2) (x := nI w) dX5_fillTwo_181 rfl rfl ?_
          refine qi_ishl dX5_fillTwo_182 ?_
          refine qi_iconst (v := 1) dX5_fillTwo_183 rfl ?_
          refine qi_iload (i := 6) (x := nI (w + 1)) dX5_fillTwo_184 rfl ?_
          refine qi_ishl dX5_fillTwo_186 ?_
          refine qi_ior dX5_fillTwo_187 ?_
          refine qi_iconst (v := -1) dX5_fillTwo_188 rfl ?_
          refine qi_ixor dX5_fillTwo_189 ?_
          refine qi_iand dX5_fillTwo_190 ?_
          refine qe_top (y := nI (bitsF (fun v ↦ ((decide (v < W) && allP P v) && decide (0 < setN (setN t w 0) (w + 1) r v)) && (decide (v ≠ w) && decide (v ≠ w + 1))))) (bits_clr2 _ (by omega) (by omega)) ?_
          refine qi_putI flX5_18 q_cls5 (ty5_2 _) dX5_fillTwo_191 rfl (by decide) ?_
          exact qi_retV rfl dX5_fillTwo_194 (⟨fin_ _ g3 (wI_s _ _ _ _) (fun v => wI_a (by decide)), fun i hi => by rw [wI_a (by decide)]; exact hR3 i hi, hf3'.wI (Or.inr (Or.inr ⟨rfl, Or.inl rfl⟩))⟩)
      · exact E _ _ (none_ (fun x hx ho => d4 (by have := ((okI x hx).mp ho).2; rw [z2, mz] at this; rw [z2, ← this]; rfl)))
  refine qV.of (j := 7) (pn_RX5) rfl ?_
  show qT g kX5_fillTwo (qR 1 0 0) (qZV g (fun M' => accC M' W (P ++ FL) ∧ (∀ i, i < w → M'.1 219 i = nI (t i)) ∧ qFr SRc M M')) 0 [some (.ref 218), some (.ref p), some (.int (nI w)), some (.int (nI r)), some (.int (nI s)), some (.int (nI c)), none, none, none, none, none, none, none] [] 333 M (0, 0)
  refine qi_iload_n (i := 2) (x := nI w) dX5_fillTwo_0 rfl rfl ?_
  refine qi_iconst (v := 1) dX5_fillTwo_1 rfl ?_
  refine qi_iadd dX5_fillTwo_2 ?_
  refine qe_top (y := nI (w + 1)) (nI_1 _) ?_
  refine qi_istore (i := 6) (L2 := [some (.ref 218), some (.ref p), some (.int (nI w)), some (.int (nI r)), some (.int (nI s)), some (.int (nI c)), some (.int (nI (w + 1))), none, none, none, none, none, none]) dX5_fillTwo_3 (Nat.le_of_ble_eq_true rfl) rfl ?_
  refine qi_aload_n (i := 1) (x := p) dX5_fillTwo_5 rfl rfl ?_
  refine qi_getR (x := p + 1) flX5_51 dX5_fillTwo_6 (hp.1 0 (by decide)) (by have := hp.2.2; omega) (hM p 0 (p + 1) (qref_3_0 (hp.1 0 (by decide)))) ?_
  refine qi_iload_n (i := 2) (x := nI w) dX5_fillTwo_9 rfl rfl ?_
  refine qi_ialdN (x := nI a) (j := w) dX5_fillTwo_10 (hp.1 1 (by decide)) (by have := hp.2.2; omega) rfl (by omega) (by decide) ra ?_
  refine qi_aload_n (i := 1) (x := p) dX5_fillTwo_11 rfl rfl ?_
  refine qi_getR (x := p + 1) flX5_51 dX5_fillTwo_12 (hp.1 0 (by decide)) (by have := hp.2.2; omega) (hM p 0 (p + 1) (qref_3_0 (hp.1 0 (by decide)))) ?_
  refine qi_iload (i := 6) (x := nI (w + 1)) dX5_fillTwo_15 rfl ?_
  refine qi_ialdN (x := nI b) (j := w + 1) dX5_fillTwo_17 (hp.1 1 (by decide)) (by have := hp.2.2; omega) rfl (by omega) (by decide) rb ?_
  refine qi_isub dX5_fillTwo_18 ?_
  refine qe_top (y := PS) hPS.symm ?_
  refine qi_istore (i := 7) (L2 := [some (.ref 218), some (.ref p), some (.int (nI w)), some (.int (nI r)), some (.int (nI s)), some (.int (nI c)), some (.int (nI (w + 1))), some (.int PS), none, none, none, none, none]) dX5_fillTwo_19 (Nat.le_of_ble_eq_true rfl) rfl ?_
  refine qi_aload_n (i := 1) (x := p) dX5_fillTwo_21 rfl rfl ?_
  refine qi_getR (x := p + 2) flX5_54 dX5_fillTwo_22 (hp.1 0 (by decide)) (by have := hp.2.2; omega) (hM p 1 (p + 2) (qref_3_1 (hp.1 0 (by decide)))) ?_
  refine qi_iload_n (i := 2) (x := nI w) dX5_fillTwo_25 rfl rfl ?_
  refine qi_ialdN (x := nI ca) (j := w) dX5_fillTwo_26 (hp.1 2 (by decide)) (by have := hp.2.2; omega) rfl (by omega) (by decide) rca ?_
  refine qi_aload_n (i := 1) (x := p) dX5_fillTwo_27 rfl rfl ?_
  refine qi_getR (x := p + 2) flX5_54 dX5_fillTwo_28 (hp.1 0 (by decide)) (by have := hp.2.2; omega) (hM p 1 (p + 2) (qref_3_1 (hp.1 0 (by decide)))) ?_
  refine qi_iload (i := 6) (x := nI (w + 1)) dX5_fillTwo_31 rfl ?_
  refine qi_ialdN (x := nI cb) (j := w + 1) dX5_fillTwo_33 (hp.1 2 (by decide)) (by have := hp.2.2; omega) rfl (by omega) (by decide) rcb ?_
  refine qi_isub dX5_fillTwo_34 ?_
  refine qe_top (y := PC) hPC.symm ?_
  refine qi_istore (i := 8) (L2 := [some (.ref 218), some (.ref p), some (.int (nI w)), some (.int (nI r)), some (.int (nI s)), some (.int (nI c)), some (.int (nI (w + 1))), some (.int PS), some (.int PC), none, none, none, none]) dX5_fillTwo_35 (Nat.le_of_ble_eq_true rfl) rfl ?_
  refine qi_iload (i := 4) (x := nI s) dX5_fillTwo_37 rfl ?_
  refine qi_iload_n (i := 3) (x := nI r) dX5_fillTwo_39 rfl rfl ?_
  refine qi_aload_n (i := 1) (x := p) dX5_fillTwo_40 rfl rfl ?_
  refine qi_getR (x := p + 1) flX5_51 dX5_fillTwo_41 (hp.1 0 (by decide)) (by have := hp.2.2; omega) (hM p 0 (p + 1) (qref_3_0 (hp.1 0 (by decide)))) ?_
  refine qi_iload (i := 6) (x := nI (w + 1)) dX5_fillTwo_44 rfl ?_
  refine qi_ialdN (x := nI b) (j := w + 1) dX5_fillTwo_46 (hp.1 1 (by decide)) (by have := hp.2.2; omega) rfl (by omega) (by decide) rb ?_
  refine qi_imul dX5_fillTwo_47 ?_
  refine qi_isub dX5_fillTwo_48 ?_
  refine qe_top (y := SL) hSL.symm ?_
  refine qi_istore (i := 9) (L2 := [some (.ref 218), some (.ref p), some (.int (nI w)), some (.int (nI r)), some (.int (nI s)), some (.int (nI c)), some (.int (nI (w + 1))), some (.int PS), some (.int PC), some (.int SL), none, none, none]) dX5_fillTwo_49 (Nat.le_of_ble_eq_true rfl) rfl ?_
  refine qi_iload (i := 5) (x := nI c) dX5_fillTwo_51 rfl ?_
  refine qi_iload_n (i := 3) (x := nI r) dX5_fillTwo_53 rfl rfl ?_
  refine qi_aload_n (i := 1) (x := p) dX5_fillTwo_54 rfl rfl ?_
  refine qi_getR (x := p + 2) flX5_54 dX5_fillTwo_55 (hp.1 0 (by decide)) (by have := hp.2.2; omega) (hM p 1 (p + 2) (qref_3_1 (hp.1 0 (by decide)))) ?_
  refine qi_iload (i := 6) (x := nI (w + 1)) dX5_fillTwo_58 rfl ?_
  refine qi_ialdN (x := nI cb) (j := w + 1) dX5_fillTwo_60 (hp.1 2 (by decide)) (by have := hp.2.2; omega) rfl (by omega) (by decide) rcb ?_
  refine qi_imul dX5_fillTwo_61 ?_
  refine qi_isub dX5_fillTwo_62 ?_
  refine qe_top (y := CL) hCL.symm ?_
  refine qi_istore (i := 10) (L2 := [some (.ref 218), some (.ref p), some (.int (nI w)), some (.int (nI r)), some (.int (nI s)), some (.int (nI c)), some (.int (nI (w + 1))), some (.int PS), some (.int PC), some (.int SL), some (.int CL), none, none]) dX5_fillTwo_63 (Nat.le_of_ble_eq_true rfl) rfl ?_
  refine qi_iconst (v := 0) dX5_fillTwo_65 rfl ?_
  refine qi_istore (i := 11) (L2 := [some (.ref 218), some (.ref p), some (.int (nI w)), some (.int (nI r)), some (.int (nI s)), some (.int (nI c)), some (.int (nI (w + 1))), some (.int PS), some (.int PC), some (.int SL), some (.int CL), some (.int 0), none]) dX5_fillTwo_66 (Nat.le_of_ble_eq_true rfl) rfl ?_
  refine qi_iload_n (i := 3) (x := nI r) dX5_fillTwo_68 rfl rfl ?_
  refine qi_istore (i := 12) (L2 := [some (.ref 218), some (.ref p), some (.int (nI w)), some (.int (nI r)), some (.int (nI s)), some (.int (nI c)), some (.int (nI (w + 1))), some (.int PS), some (.int PC), some (.int SL), some (.int CL), some (.int 0), some (.int (nI r))]) dX5_fillTwo_69 (Nat.le_of_ble_eq_true rfl) rfl ?_
  refine qi_iload (i := 7) (x := PS) dX5_fillTwo_71 rfl ?_
  refine qi_if_eq (tgt := 90) dX5_fillTwo_73 (by decide) (fun e1 => ?_) (fun e1 => ?_)
  · refine qi_iload (i := 8) (x := PC) dX5_fillTwo_90 rfl ?_
    refine qi_if_eq (tgt := 106) dX5_fillTwo_92 (by decide) (fun e2 => ?_) (fun e2 => ?_)
    · exact K106all e1 e2
    · skip
      refine qi_iload (i := 10) (x := CL) dX5_fillTwo_95 rfl ?_
      refine qi_iload (i := 8) (x := PC) dX5_fillTwo_97 rfl ?_
      refine qi_idiv dX5_fillTwo_99 e2 ?_
      refine qi_istore (i := 11) (L2 := [some (.ref 218), some (.ref p), some (.int (nI w)), some (.int (nI r)), some (.int (nI s)), some (.int (nI c)), some (.int (nI (w + 1))), some (.int PS), some (.int PC), some (.int SL), some (.int CL), some (.int (CL / PC)), some (.int (nI r))]) dX5_fillTwo_100 (Nat.le_of_ble_eq_true rfl) rfl ?_
      refine qi_iload (i := 11) (x := CL / PC) dX5_fillTwo_102 rfl ?_
      refine qi_istore (i := 12) (L2 := [some (.ref 218), some (.ref p), some (.int (nI w)), some (.int (nI r)), some (.int (nI s)), some (.int (nI c)), some (.int (nI (w + 1))), some (.int PS), some (.int PC), some (.int SL), some (.int CL), some (.int (CL / PC)), some (.int (CL / PC))]) dX5_fillTwo_104 (Nat.le_of_ble_eq_true rfl) rfl ?_
      exact K106 _ (fun x hx ho => divU CL PC _ iPC e2 (by omega) x hx (eqI x hx ho).2)
  · skip
    refine qi_iload (i := 9) (x := SL) dX5_fillTwo_76 rfl ?_
    refine qi_iload (i := 7) (x := PS) dX5_fillTwo_78 rfl ?_
    refine qi_idiv dX5_fillTwo_80 e1 ?_
    refine qi_istore (i := 11) (L2 := [some (.ref 218), some (.ref p), some (.int (nI w)), some (.int (nI r)), some (.int (nI s)), some (.int (nI c)), some (.int (nI (w + 1))), some (.int PS), some (.int PC), some (.int SL), some (.int CL), some (.int (SL / PS)), some (.int (nI r))]) dX5_fillTwo_81 (Nat.le_of_ble_eq_true rfl) rfl ?_
    refine qi_iload (i := 11) (x := SL / PS) dX5_fillTwo_83 rfl ?_
    refine qi_istore (i := 12) (L2 := [some (.ref 218), some (.ref p), some (.int (nI w)), some (.int (nI r)), some (.int (nI s)), some (.int (nI c)), some (.int (nI (w + 1))), some (.int PS), some (.int PC), some (.int SL), some (.int CL), some (.int (SL / PS)), some (.int (SL / PS))]) dX5_fillTwo_85 (Nat.le_of_ble_eq_true rfl) rfl ?_
    refine qi_goto (tgt := 106) dX5_fillTwo_87 (by decide) ?_
    exact K106 _ (fun x hx ho => divU SL PS _ iPS e1 (by omega) x hx (eqI x hx ho).1)
