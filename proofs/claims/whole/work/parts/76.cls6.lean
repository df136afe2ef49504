/-! ThimbleSea: run, merge, split, spoon, undo, hold, restore -/
def SDo (p : Nat) : Nat → Nat → Prop := fun b j => SRm b j ∨ (224 ≤ b ∧ b ≤ 229) ∨ SP p b j
theorem SRm_sea {j k : Nat} (hj : j < 6) : ¬ SRm (224 + j) k := fun z => by unfold SRm at z; omega
theorem qPlan.d {M M' : qM} {p : Nat} {π : qPl} (h : qPlan M p π) (hp : qIsP p) (hf : qFr SRm M M') : qPlan M' p π := h.fr hf (fun i j hi z => by have := hp.2.1; unfold SRm at z; omega)
theorem SP_hist {p : Nat} (hp : qIsP p) {b j : Nat} (z : SW 224 p b j) : (b < 16 ∨ 195 < b) ∧ (b = 12 → j ≠ 3 ∧ j ≠ 4) := by
  have := hp.2.1
  unfold SW SS SP at z
  omega
theorem SS_hist {b j : Nat} (z : SS 224 b j) : (b < 16 ∨ 195 < b) ∧ (b = 12 → j ≠ 3 ∧ j ≠ 4) := by
  unfold SS at z
  omega
theorem SW_do {p b j : Nat} (z : SW 224 p b j) : SDo p b j := z.elim (fun z => Or.inr (Or.inl (by unfold SS at z; omega))) (fun z => Or.inr (Or.inr z))
theorem SS_do {p b j : Nat} (z : SS 224 b j) : SDo p b j := Or.inr (Or.inl (by unfold SS at z; omega))
theorem SRm_do {p b j : Nat} (z : SRm b j) : SDo p b j := Or.inl z
set_option maxHeartbeats 1000000 in
theorem c_X11_run (g : qG) {M : qM} (hM : qRf M) {p : Nat} {π : qPl} (hp : qIsP p) (hr : M.2.2 0 9 = some p) (hP : qPlan M p π) (hok : okPl π) {c : qCo} (hS : qSea M 224 c.1) (hH : qHistC M c.2.1 c.2.2) (hO : okSea π c.1) (n : Int32) : qI g 6 kX11_run [.ref 0, .int n] M (fun r M' => r = (dRun π n c).1 ∧ qSea M' 224 (dRun π n c).2.1 ∧ qHistC M' (dRun π n c).2.2.1 (dRun π n c).2.2.2 ∧ qFr (SDo p) M M') := by
  obtain ⟨res, hres⟩ : ∃ res, res = dRun π n c := ⟨_, rfl⟩
  rw [← hres]
  unfold dRun at hres
  have E : inF 0 200 n = 0 → qT g kX11_run (qR 6 0 0) (qZI g (fun r M' => r = res.1 ∧ qSea M' 224 res.2.1 ∧ qHistC M' res.2.2.1 res.2.2.2 ∧ qFr (SDo p) M M')) 11 [some (.ref 0), some (.int n)] [] 333 M (0, 0) := by
    intro hb
    rw [if_pos hb] at hres
    subst hres
    refine qi_iconst (v := -1) dX11_run_11 rfl ?_
    exact qi_retI rfl rfl dX11_run_12 (⟨rfl, hS, hH, qFr.rf⟩)
  refine qI.of (j := 0) (pn_RX11) rfl ?_
  show qT g kX11_run (qR 6 0 0) (qZI g (fun r M' => r = res.1 ∧ qSea M' 224 res.2.1 ∧ qHistC M' res.2.2.1 res.2.2.2 ∧ qFr (SDo p) M M')) 0 [some (.ref 0), some (.int n)] [] 333 M (0, 0)
  refine qi_iload_n (i := 1) (x := n) dX11_run_0 rfl rfl ?_
  refine qi_if_lt (tgt := 11) dX11_run_1 (by decide) (fun a1 => ?_) (fun a1 => ?_)
  · exact E (inF_no (fun y => absurd a1 (Int32.not_lt.mpr y.1)))
  · refine qi_iload_n (i := 1) (x := n) dX11_run_4 rfl rfl ?_
    refine qi_sipush (v := 200) dX11_run_5 rfl ?_
    refine qi_icmp_le (tgt := 13) dX11_run_8 (by decide) (fun a2 => ?_) (fun a2 => ?_)
    · obtain ⟨n0, hn0, rfl⟩ := nI_of a1
      have h200 := (nI_leI (b := 200) hn0 (by omega)).mp a2
      rw [if_neg (inF_yes ⟨Int32.not_lt.mp a1, a2⟩), nI_clamp hn0] at hres
      refine qi_iload_n (i := 1) (x := nI n0) dX11_run_13 rfl rfl ?_
      refine qi_if_le (tgt := 41) dX11_run_14 (by decide) (fun _h => ?_) (fun _h => ?_)
      · have a3 : n0 ≤ 0 := (nI_leI (a := n0) (b := 0) (by omega) (by omega)).mp _h
        rw [if_pos (show nI n0 = 0 by rw [show n0 = 0 by omega]; rfl)] at hres
        subst hres
        refine qi_aload_n (i := 0) (x := 0) dX11_run_41 rfl rfl ?_
        refine qi_getR (x := 224) flX11_54 dX11_run_42 rfl (by decide) (hM 0 6 224 rfl) ?_
        refine qi_getI (x := c.1 64) flX11_177 dX11_run_45 rfl (by decide) hS.2.2.2.2.2.2 ?_
        exact qi_retI rfl rfl dX11_run_48 (⟨rfl, hS, hH, qFr.rf⟩)
      · have a3 : ¬ (n0 ≤ 0) := fun z => _h ((nI_leI (a := n0) (b := 0) (by omega) (by omega)).mpr z)
        rw [if_neg (nI_ne0 (by omega) (by omega))] at hres
        refine qi_aload_n (i := 0) (x := 0) dX11_run_17 rfl rfl ?_
        refine qi_getR (x := 12) flX11_26 dX11_run_18 rfl (by decide) (hM 0 2 12 rfl) ?_
        refine qi_aload_n (i := 0) (x := 0) dX11_run_21 rfl rfl ?_
        refine qi_getR (x := 224) flX11_54 dX11_run_22 rfl (by decide) (hM 0 6 224 rfl) ?_
        refine qi_callVV (K' := kX2_remember) (As := [.ref 224]) mlX11_169 okX2_remember dX11_run_25 (c_X2_remember g hM hS hH) rfl (by decide) rfl (by decide) rfl rfl (Nat.le_of_ble_eq_true rfl) ⟨(Nat.le_of_ble_eq_true rfl), (Nat.le_of_ble_eq_true rfl)⟩ ⟨Nat.le_refl _, Nat.le_refl _⟩ (fun M2 ⟨hH2, hf2⟩ => ?_)
        have hM2 := hM.fr hf2
        have hr2 := frR hf2 hr
        have hS2 : qSea M2 224 c.1 := hS.fr hf2 (fun j k hj => SRm_sea hj)
        refine qi_aload_n (i := 0) (x := 0) dX11_run_28 rfl rfl ?_
        refine qi_getR (x := 224) flX11_54 dX11_run_29 rfl (by decide) (hM2 0 6 224 rfl) ?_
        refine qi_aload_n (i := 0) (x := 0) dX11_run_32 rfl rfl ?_
        refine qi_getR (x := p) flX11_67 dX11_run_33 rfl (by decide) hr2 ?_
        refine qi_iload_n (i := 1) (x := nI n0) dX11_run_36 rfl rfl ?_
        refine qi_iconst (v := -1) dX11_run_37 rfl ?_
        refine qi_callVV (K' := kX6_passWeeks) (As := [.ref p, .int (nI n0), .int (-1)]) mlX11_173 okX6_passWeeks dX11_run_38 (c_X6_passWeeks g qIsS_sea hp (by decide) hM2 hS2 (hP.d hp hf2) hok hO (-1) (n := n0) (by omega)) rfl (by decide) rfl (by decide) rfl rfl (Nat.le_of_ble_eq_true rfl) ⟨(Nat.le_of_ble_eq_true rfl), (Nat.le_of_ble_eq_true rfl)⟩ ⟨Nat.le_refl _, Nat.le_refl _⟩ (fun M3 ⟨hS3, hf3⟩ => ?_)
        have hM3 := hM2.fr hf3
        refine qi_aload_n (i := 0) (x := 0) dX11_run_41 rfl rfl ?_
        refine qi_getR (x := 224) flX11_54 dX11_run_42 rfl (by decide) (hM3 0 6 224 rfl) ?_
        refine qi_getI (x := (weeksF π (-1) c.1 n0) 64) flX11_177 dX11_run_45 rfl (by decide) hS3.2.2.2.2.2.2 ?_
        subst hres
        exact qi_retI rfl rfl dX11_run_48 (⟨rfl, hS3, hH2.fr hf3 (fun b j z => SP_hist hp z), (hf2.mono (fun _ _ => SRm_do)).tr (hf3.mono (fun _ _ => SW_do))⟩)
    · exact E (inF_no (fun y => a2 y.2))
set_option maxHeartbeats 1000000 in
theorem c_X11_areTwo (g : qG) {M : qM} (hM : qRf M) {p : Nat} {π : qPl} (hp : qIsP p) (hr : M.2.2 0 9 = some p) (hP : qPlan M p π) (h o : Int32) : qI g 1 kX11_areTwo [.ref 0, .int h, .int o] M (fun r M' => (¬ r = 0 ↔ twoF π h o) ∧ M' = M) := by
  have E : ¬ twoF π h o → qT g kX11_areTwo (qR 1 0 0) (qZI g (fun r M' => (¬ r = 0 ↔ twoF π h o) ∧ M' = M)) 31 [some (.ref 0), some (.int h), some (.int o)] [] 333 M (0, 0) := by
    intro hb
    refine qi_iconst (v := 0) dX11_areTwo_31 rfl ?_
    exact qi_retI rfl (by rfl) dX11_areTwo_32 (⟨⟨fun z => absurd rfl z, fun z => absurd z hb⟩, rfl⟩)
  refine qI.of (j := 0) (pn_RX11) rfl ?_
  show qT g kX11_areTwo (qR 1 0 0) (qZI g (fun r M' => (¬ r = 0 ↔ twoF π h o) ∧ M' = M)) 0 [some (.ref 0), some (.int h), some (.int o)] [] 333 M (0, 0)
  refine qi_aload_n (i := 0) (x := 0) dX11_areTwo_0 rfl rfl ?_
  refine qi_getR (x := p) flX11_67 dX11_areTwo_1 rfl (by decide) hr ?_
  refine qi_iload_n (i := 1) (x := h) dX11_areTwo_4 rfl rfl ?_
  refine qi_callPVI (v := isF (π.1 1) h) (K' := kX3_hasHeir) (As := [.int h]) mlX11_102 okX3_hasHeir dX11_areTwo_5 (c_X3_hasHeir g hp hP h) (hp.1 0 (by decide)) (by decide) rfl (by have := hp.2.2; omega) rfl rfl (Nat.le_of_ble_eq_true rfl) ⟨(Nat.le_of_ble_eq_true rfl), (Nat.le_of_ble_eq_true rfl)⟩ ⟨Nat.le_refl _, Nat.le_refl _⟩ ?_
  refine qi_if_eq (tgt := 31) dX11_areTwo_8 (by decide) (fun a1 => ?_) (fun a1 => ?_)
  · exact E (fun z => z.1 a1)
  · refine qi_aload_n (i := 0) (x := 0) dX11_areTwo_11 rfl rfl ?_
    refine qi_getR (x := p) flX11_67 dX11_areTwo_12 rfl (by decide) hr ?_
    refine qi_iload_n (i := 2) (x := o) dX11_areTwo_15 rfl rfl ?_
    refine qi_callPVI (v := isF (π.1 1) o) (K' := kX3_hasHeir) (As := [.int o]) mlX11_102 okX3_hasHeir dX11_areTwo_16 (c_X3_hasHeir g hp hP o) (hp.1 0 (by decide)) (by decide) rfl (by have := hp.2.2; omega) rfl rfl (Nat.le_of_ble_eq_true rfl) ⟨(Nat.le_of_ble_eq_true rfl), (Nat.le_of_ble_eq_true rfl)⟩ ⟨Nat.le_refl _, Nat.le_refl _⟩ ?_
    refine qi_if_eq (tgt := 31) dX11_areTwo_19 (by decide) (fun a2 => ?_) (fun a2 => ?_)
    · exact E (fun z => z.2.1 a2)
    · refine qi_iload_n (i := 1) (x := h) dX11_areTwo_22 rfl rfl ?_
      refine qi_iload_n (i := 2) (x := o) dX11_areTwo_23 rfl rfl ?_
      refine qi_icmp_eq (tgt := 31) dX11_areTwo_24 (by decide) (fun a3 => ?_) (fun a3 => ?_)
      · exact E (fun z => z.2.2 a3)
      · refine qi_iconst (v := 1) dX11_areTwo_27 rfl ?_
        refine qi_goto (tgt := 32) dX11_areTwo_28 (by decide) ?_
        exact qi_retI rfl (by rfl) dX11_areTwo_32 (⟨⟨fun _ => ⟨a1, a2, a3⟩, fun _ => by decide⟩, rfl⟩)
theorem merge_sum (ρ : Nat → Int32) {h o : Nat} (hh : h < 8) : sumF (fun w => partF (mergeF ρ h o) 1 1 (5 * h + w)) 5 = dropsF ρ h := by
  unfold dropsF
  refine sumF_congr 5 (fun w hw => ?_)
  rw [partF_11]
  unfold mergeF
  rw [if_neg (by omega), if_neg (by omega), if_neg (by omega), if_neg (by omega)]
set_option maxHeartbeats 1000000 in
theorem c_X11_merge (g : qG) {M : qM} (hM : qRf M) {p : Nat} {π : qPl} (hp : qIsP p) (hr : M.2.2 0 9 = some p) (hP : qPlan M p π) (hok : okPl π) {c : qCo} (hS : qSea M 224 c.1) (hH : qHistC M c.2.1 c.2.2) (h o : Int32) : qI g 3 kX11_merge [.ref 0, .int h, .int o] M (fun r M' => r = (dMerge π h o c).1 ∧ qSea M' 224 (dMerge π h o c).2.1 ∧ qHistC M' (dMerge π h o c).2.2.1 (dMerge π h o c).2.2.2 ∧ qFr (SDo p) M M') := by
  obtain ⟨res, hres⟩ : ∃ res, res = dMerge π h o c := ⟨_, rfl⟩
  rw [← hres]
  unfold dMerge at hres
  have hh8 := hok.2.1
  refine qI.of (j := 0) (pn_RX11) rfl ?_
  show qT g kX11_merge (qR 3 0 0) (qZI g (fun r M' => r = res.1 ∧ qSea M' 224 res.2.1 ∧ qHistC M' res.2.2.1 res.2.2.2 ∧ qFr (SDo p) M M')) 0 [some (.ref 0), some (.int h), some (.int o)] [] 333 M (0, 0)
  refine qi_aload_n (i := 0) (x := 0) dX11_merge_0 rfl rfl ?_
  refine qi_iload_n (i := 1) (x := h) dX11_merge_1 rfl rfl ?_
  refine qi_iload_n (i := 2) (x := o) dX11_merge_2 rfl rfl ?_
  refine qi_callVI (K' := kX11_areTwo) (As := [.int h, .int o]) mlX11_187 okX11_areTwo dX11_merge_3 (c_X11_areTwo g hM hp hr hP h o) rfl (by decide) rfl (by decide) rfl rfl (Nat.le_of_ble_eq_true rfl) ⟨(Nat.le_of_ble_eq_true rfl), (Nat.le_of_ble_eq_true rfl)⟩ ⟨Nat.le_refl _, Nat.le_refl _⟩ (fun t M0 ⟨ht, rfl⟩ => ?_)
  refine qi_if_ne (tgt := 11) dX11_merge_6 (by decide) (fun a1 => ?_) (fun a1 => ?_)
  · have tw := ht.mp a1
    obtain ⟨h0, o0, hh, ho, hho, eh, eo⟩ := two_of hok tw
    rw [if_pos tw, eh, eo, nI_clamp (by omega), nI_clamp (by omega)] at hres
    rw [eh, eo]
    refine qi_aload_n (i := 0) (x := 0) dX11_merge_11 rfl rfl ?_
    refine qi_getR (x := 12) flX11_26 dX11_merge_12 rfl (by decide) (hM 0 2 12 rfl) ?_
    refine qi_aload_n (i := 0) (x := 0) dX11_merge_15 rfl rfl ?_
    refine qi_getR (x := 224) flX11_54 dX11_merge_16 rfl (by decide) (hM 0 6 224 rfl) ?_
    refine qi_callVV (K' := kX2_remember) (As := [.ref 224]) mlX11_169 okX2_remember dX11_merge_19 (c_X2_remember g hM hS hH) rfl (by decide) rfl (by decide) rfl rfl (Nat.le_of_ble_eq_true rfl) ⟨(Nat.le_of_ble_eq_true rfl), (Nat.le_of_ble_eq_true rfl)⟩ ⟨Nat.le_refl _, Nat.le_refl _⟩ (fun M2 ⟨hH2, hf2⟩ => ?_)
    have hM2 := hM.fr hf2
    have hS2 : qSea M2 224 c.1 := hS.fr hf2 (fun j k hj => SRm_sea hj)
    refine qi_aload_n (i := 0) (x := 0) dX11_merge_22 rfl rfl ?_
    refine qi_getR (x := 224) flX11_54 dX11_merge_23 rfl (by decide) (hM2 0 6 224 rfl) ?_
    refine qi_iload_n (i := 1) (x := nI h0) dX11_merge_26 rfl rfl ?_
    refine qi_iload_n (i := 2) (x := nI o0) dX11_merge_27 rfl rfl ?_
    refine qi_callVI (K' := kX6_mergeInto) (As := [.int (nI h0), .int (nI o0)]) mlX11_191 okX6_mergeInto dX11_merge_28 (c_X6_mergeInto g qIsS_sea hM2 hS2 (by omega) (by omega) hho) rfl (by decide) rfl (by decide) rfl rfl (Nat.le_of_ble_eq_true rfl) ⟨(Nat.le_of_ble_eq_true rfl), (Nat.le_of_ble_eq_true rfl)⟩ ⟨Nat.le_refl _, Nat.le_refl _⟩ (fun r M3 ⟨er, hS3, hf3⟩ => ?_)
    subst hres
    exact qi_retI rfl rfl dX11_merge_31 (⟨er.trans (merge_sum c.1 (by omega)), hS3, hH2.fr hf3 (fun b j z => SS_hist z), (hf2.mono (fun _ _ => SRm_do)).tr (hf3.mono (fun _ _ => SS_do))⟩)
  · rw [if_neg (fun z => ht.mpr z a1)] at hres
    subst hres
    refine qi_iconst (v := -1) dX11_merge_9 rfl ?_
    exact qi_retI rfl rfl dX11_merge_10 (⟨rfl, hS, hH, qFr.rf⟩)
set_option maxHeartbeats 1000000 in
theorem c_X11_split (g : qG) {M : qM} (hM : qRf M) {p0 : Nat} {π : qPl} (hp : qIsP p0) (hr : M.2.2 0 9 = some p0) (hP : qPlan M p0 π) (hok : okPl π) {c : qCo} (hS : qSea M 224 c.1) (hH : qHistC M c.2.1 c.2.2) (h o p q : Int32) : qI g 3 kX11_split [.ref 0, .int h, .int o, .int p, .int q] M (fun r M' => r = (dSplit π h o p q c).1 ∧ qSea M' 224 (dSplit π h o p q c).2.1 ∧ qHistC M' (dSplit π h o p q c).2.2.1 (dSplit π h o p q c).2.2.2 ∧ qFr (SDo p0) M M') := by
  obtain ⟨res, hres⟩ : ∃ res, res = dSplit π h o p q c := ⟨_, rfl⟩
  rw [← hres]
  unfold dSplit at hres
  have hh8 := hok.2.1
  have E : ¬ (twoF π h o ∧ ¬ inF 1 99 q = 0 ∧ ¬ inF 0 q p = 0) → qT g kX11_split (qR 3 0 0) (qZI g (fun r M' => r = res.1 ∧ qSea M' 224 res.2.1 ∧ qHistC M' res.2.2.1 res.2.2.2 ∧ qFr (SDo p0) M M')) 32 [some (.ref 0), some (.int h), some (.int o), some (.int p), some (.int q)] [] 333 M (0, 0) := by
    intro hb
    rw [if_neg hb] at hres
    subst hres
    refine qi_iconst (v := -1) dX11_split_32 rfl ?_
    exact qi_retI rfl rfl dX11_split_33 (⟨rfl, hS, hH, qFr.rf⟩)
  refine qI.of (j := 0) (pn_RX11) rfl ?_
  show qT g kX11_split (qR 3 0 0) (qZI g (fun r M' => r = res.1 ∧ qSea M' 224 res.2.1 ∧ qHistC M' res.2.2.1 res.2.2.2 ∧ qFr (SDo p0) M M')) 0 [some (.ref 0), some (.int h), some (.int o), some (.int p), some (.int q)] [] 333 M (0, 0)
  refine qi_aload_n (i := 0) (x := 0) dX11_split_0 rfl rfl ?_
  refine qi_iload_n (i := 1) (x := h) dX11_split_1 rfl rfl ?_
  refine qi_iload_n (i := 2) (x := o) dX11_split_2 rfl rfl ?_
  refine qi_callVI (K' := kX11_areTwo) (As := [.int h, .int o]) mlX11_187 okX11_areTwo dX11_split_3 (c_X11_areTwo g hM hp hr hP h o) rfl (by decide) rfl (by decide) rfl rfl (Nat.le_of_ble_eq_true rfl) ⟨(Nat.le_of_ble_eq_true rfl), (Nat.le_of_ble_eq_true rfl)⟩ ⟨Nat.le_refl _, Nat.le_refl _⟩ (fun t M0 ⟨ht, rfl⟩ => ?_)
  refine qi_if_eq (tgt := 32) dX11_split_6 (by decide) (fun a1 => ?_) (fun a1 => ?_)
  · exact E (fun z => ht.mpr z.1 a1)
  · refine qi_iload (i := 4) (x := q) dX11_split_9 rfl ?_
    refine qi_iconst (v := 1) dX11_split_11 rfl ?_
    refine qi_icmp_lt (tgt := 32) dX11_split_12 (by decide) (fun a2 => ?_) (fun a2 => ?_)
    · exact E (fun z => z.2.1 (inF_no (fun y => absurd a2 (Int32.not_lt.mpr y.1))))
    · refine qi_iload (i := 4) (x := q) dX11_split_15 rfl ?_
      refine qi_bipush (v := 99) dX11_split_17 rfl ?_
      refine qi_icmp_gt (tgt := 32) dX11_split_19 (by decide) (fun a3 => ?_) (fun a3 => ?_)
      · exact E (fun z => z.2.1 (inF_no (fun y => absurd a3 (Int32.not_lt.mpr y.2))))
      · refine qi_iload_n (i := 3) (x := p) dX11_split_22 rfl rfl ?_
        refine qi_if_lt (tgt := 32) dX11_split_23 (by decide) (fun a4 => ?_) (fun a4 => ?_)
        · exact E (fun z => z.2.2 (inF_no (fun y => absurd a4 (Int32.not_lt.mpr y.1))))
        · refine qi_iload_n (i := 3) (x := p) dX11_split_26 rfl rfl ?_
          refine qi_iload (i := 4) (x := q) dX11_split_27 rfl ?_
          refine qi_icmp_le (tgt := 34) dX11_split_29 (by decide) (fun a5 => ?_) (fun a5 => ?_)
          · have tw := ht.mp a1
            obtain ⟨h0, o0, hh, ho, hho, eh, eo⟩ := two_of hok tw
            rw [if_pos ⟨tw, inF_yes ⟨Int32.not_lt.mp a2, Int32.not_lt.mp a3⟩, inF_yes ⟨Int32.not_lt.mp a4, a5⟩⟩, eh, eo, nI_clamp (by omega), nI_clamp (by omega)] at hres
            rw [eh, eo]
            refine qi_aload_n (i := 0) (x := 0) dX11_split_34 rfl rfl ?_
            refine qi_getR (x := 12) flX11_26 dX11_split_35 rfl (by decide) (hM 0 2 12 rfl) ?_
            refine qi_aload_n (i := 0) (x := 0) dX11_split_38 rfl rfl ?_
            refine qi_getR (x := 224) flX11_54 dX11_split_39 rfl (by decide) (hM 0 6 224 rfl) ?_
            refine qi_callVV (K' := kX2_remember) (As := [.ref 224]) mlX11_169 okX2_remember dX11_split_42 (c_X2_remember g hM hS hH) rfl (by decide) rfl (by decide) rfl rfl (Nat.le_of_ble_eq_true rfl) ⟨(Nat.le_of_ble_eq_true rfl), (Nat.le_of_ble_eq_true rfl)⟩ ⟨Nat.le_refl _, Nat.le_refl _⟩ (fun M2 ⟨hH2, hf2⟩ => ?_)
            have hM2 := hM.fr hf2
            have hS2 : qSea M2 224 c.1 := hS.fr hf2 (fun j k hj => SRm_sea hj)
            refine qi_aload_n (i := 0) (x := 0) dX11_split_45 rfl rfl ?_
            refine qi_getR (x := 224) flX11_54 dX11_split_46 rfl (by decide) (hM2 0 6 224 rfl) ?_
            refine qi_iload_n (i := 1) (x := nI h0) dX11_split_49 rfl rfl ?_
            refine qi_iload_n (i := 2) (x := nI o0) dX11_split_50 rfl rfl ?_
            refine qi_iload_n (i := 3) (x := p) dX11_split_51 rfl rfl ?_
            refine qi_iload (i := 4) (x := q) dX11_split_52 rfl ?_
            refine qi_callVI (K' := kX6_move) (As := [.int (nI h0), .int (nI o0), .int p, .int q]) mlX11_194 okX6_move dX11_split_54 (c_X6_move g qIsS_sea hM2 hS2 (by omega) (by omega) hho p q) rfl (by decide) rfl (by decide) rfl rfl (Nat.le_of_ble_eq_true rfl) ⟨(Nat.le_of_ble_eq_true rfl), (Nat.le_of_ble_eq_true rfl)⟩ ⟨Nat.le_refl _, Nat.le_refl _⟩ (fun r M3 ⟨er, hS3, hf3⟩ => ?_)
            subst hres
            exact qi_retI rfl rfl dX11_split_57 (⟨er, hS3, hH2.fr hf3 (fun b j z => SS_hist z), (hf2.mono (fun _ _ => SRm_do)).tr (hf3.mono (fun _ _ => SS_do))⟩)
          · exact E (fun z => z.2.2 (inF_no (fun y => a5 y.2)))
set_option maxHeartbeats 1000000 in
theorem c_X11_spoon (g : qG) {M : qM} (hM : qRf M) {p : Nat} {π : qPl} (hok : okPl π) {c : qCo} (hS : qSea M 224 c.1) (hH : qHistC M c.2.1 c.2.2) (hO : okSea π c.1) (n : Int32) : qI g 3 kX11_spoon [.ref 0, .int n] M (fun r M' => r = (dSpoon n c).1 ∧ qSea M' 224 (dSpoon n c).2.1 ∧ qHistC M' (dSpoon n c).2.2.1 (dSpoon n c).2.2.2 ∧ qFr (SDo p) M M') := by
  obtain ⟨res, hres⟩ : ∃ res, res = dSpoon n c := ⟨_, rfl⟩
  rw [← hres]
  unfold dSpoon at hres
  obtain ⟨A, eA, hA1, hA2⟩ := hO.all hok
  have hb := hok.2.2.2.2.1
  have E : inF 1 (allF c.1) n = 0 → qT g kX11_spoon (qR 3 0 0) (qZI g (fun r M' => r = res.1 ∧ qSea M' 224 res.2.1 ∧ qHistC M' res.2.2.1 res.2.2.2 ∧ qFr (SDo p) M M')) 16 [some (.ref 0), some (.int n)] [] 333 M (0, 0) := by
    intro hb
    rw [if_pos hb] at hres
    subst hres
    refine qi_iconst (v := -1) dX11_spoon_16 rfl ?_
    exact qi_retI rfl rfl dX11_spoon_17 (⟨rfl, hS, hH, qFr.rf⟩)
  refine qI.of (j := 0) (pn_RX11) rfl ?_
  show qT g kX11_spoon (qR 3 0 0) (qZI g (fun r M' => r = res.1 ∧ qSea M' 224 res.2.1 ∧ qHistC M' res.2.2.1 res.2.2.2 ∧ qFr (SDo p) M M')) 0 [some (.ref 0), some (.int n)] [] 333 M (0, 0)
  refine qi_iload_n (i := 1) (x := n) dX11_spoon_0 rfl rfl ?_
  refine qi_iconst (v := 1) dX11_spoon_1 rfl ?_
  refine qi_icmp_lt (tgt := 16) dX11_spoon_2 (by decide) (fun a1 => ?_) (fun a1 => ?_)
  · exact E (inF_no (fun y => absurd a1 (Int32.not_lt.mpr y.1)))
  · refine qi_iload_n (i := 1) (x := n) dX11_spoon_5 rfl rfl ?_
    refine qi_aload_n (i := 0) (x := 0) dX11_spoon_6 rfl rfl ?_
    refine qi_getR (x := 224) flX11_54 dX11_spoon_7 rfl (by decide) (hM 0 6 224 rfl) ?_
    refine qi_getI (x := allF c.1) flX11_139 dX11_spoon_10 rfl (by decide) hS.2.2.2.2.1 ?_
    refine qi_icmp_le (tgt := 18) dX11_spoon_13 (by decide) (fun a2 => ?_) (fun a2 => ?_)
    · have hin : ¬ inF 1 (allF c.1) n = 0 := inF_yes ⟨Int32.not_lt.mp a1, a2⟩
      rw [if_neg hin] at hres
      rw [eA] at hin
      obtain ⟨k, hk1, hk2, en⟩ := inF_nat1 (n := A) (by omega) hin
      rw [en, nI_clamp (by omega)] at hres
      rw [en]
      refine qi_aload_n (i := 0) (x := 0) dX11_spoon_18 rfl rfl ?_
      refine qi_getR (x := 12) flX11_26 dX11_spoon_19 rfl (by decide) (hM 0 2 12 rfl) ?_
      refine qi_aload_n (i := 0) (x := 0) dX11_spoon_22 rfl rfl ?_
      refine qi_getR (x := 224) flX11_54 dX11_spoon_23 rfl (by decide) (hM 0 6 224 rfl) ?_
      refine qi_callVV (K' := kX2_remember) (As := [.ref 224]) mlX11_169 okX2_remember dX11_spoon_26 (c_X2_remember g hM hS hH) rfl (by decide) rfl (by decide) rfl rfl (Nat.le_of_ble_eq_true rfl) ⟨(Nat.le_of_ble_eq_true rfl), (Nat.le_of_ble_eq_true rfl)⟩ ⟨Nat.le_refl _, Nat.le_refl _⟩ (fun M2 ⟨hH2, hf2⟩ => ?_)
      have hM2 := hM.fr hf2
      have hS2 : qSea M2 224 c.1 := hS.fr hf2 (fun j k hj => SRm_sea hj)
      refine qi_aload_n (i := 0) (x := 0) dX11_spoon_29 rfl rfl ?_
      refine qi_getR (x := 224) flX11_54 dX11_spoon_30 rfl (by decide) (hM2 0 6 224 rfl) ?_
      refine qi_iload_n (i := 1) (x := nI k) dX11_spoon_33 rfl rfl ?_
      refine qi_callVI (K' := kX6_takeOut) (As := [.int (nI k)]) mlX11_198 okX6_takeOut dX11_spoon_34 (c_X6_takeOut g qIsS_sea hM2 hS2 hok hO (by omega) (show k ≤ sumN (rOf c.1) 40 by omega)) rfl (by decide) rfl (by decide) rfl rfl (Nat.le_of_ble_eq_true rfl) ⟨(Nat.le_of_ble_eq_true rfl), (Nat.le_of_ble_eq_true rfl)⟩ ⟨Nat.le_refl _, Nat.le_refl _⟩ (fun r M3 ⟨er, hS3, hf3⟩ => ?_)
      subst hres
      exact qi_retI rfl rfl dX11_spoon_37 (⟨er, hS3, hH2.fr hf3 (fun b j z => SS_hist z), (hf2.mono (fun _ _ => SRm_do)).tr (hf3.mono (fun _ _ => SS_do))⟩)
    · exact E (inF_no (fun y => a2 y.2))
def SUn : Nat → Nat → Prop := fun b j => (b = 12 ∧ (j = 3 ∨ j = 4)) ∨ (224 ≤ b ∧ b ≤ 229)
theorem c_X11_undo (g : qG) {M : qM} (hM : qRf M) {c : qCo} (hS : qSea M 224 c.1) (hH : qHistC M c.2.1 c.2.2) : qI g 3 kX11_undo [.ref 0] M (fun r M' => r = (dUndo c).1 ∧ qSea M' 224 (dUndo c).2.1 ∧ qHistC M' (dUndo c).2.2.1 (dUndo c).2.2.2 ∧ qFr SUn M M') := by
  refine qI.of (j := 0) (pn_RX11) rfl ?_
  show qT g kX11_undo (qR 3 0 0) (qZI g (fun r M' => r = (dUndo c).1 ∧ qSea M' 224 (dUndo c).2.1 ∧ qHistC M' (dUndo c).2.2.1 (dUndo c).2.2.2 ∧ qFr SUn M M')) 0 [some (.ref 0)] [] 333 M (0, 0)
  refine qi_aload_n (i := 0) (x := 0) dX11_undo_0 rfl rfl ?_
  refine qi_getR (x := 12) flX11_26 dX11_undo_1 rfl (by decide) (hM 0 2 12 rfl) ?_
  refine qi_aload_n (i := 0) (x := 0) dX11_undo_4 rfl rfl ?_
  refine qi_getR (x := 224) flX11_54 dX11_undo_5 rfl (by decide) (hM 0 6 224 rfl) ?_
  refine qi_callVI (K' := kX2_recall) (As := [.ref 224]) mlX11_201 okX2_recall dX11_undo_8 (c_X2_recall g hM hS hH) rfl (by decide) rfl (by decide) rfl rfl (Nat.le_of_ble_eq_true rfl) ⟨(Nat.le_of_ble_eq_true rfl), (Nat.le_of_ble_eq_true rfl)⟩ ⟨Nat.le_refl _, Nat.le_refl _⟩ (fun r M2 ⟨er, hS2, hH2, hf2⟩ => ?_)
  have hb : r = 0 ∨ r = 1 := by
    rw [er]
    unfold dUndo
    split
    · exact Or.inl rfl
    · exact Or.inr rfl
  exact qi_retI rfl (nb_of hb) dX11_undo_11 (⟨er, hS2, hH2, hf2⟩)
theorem c_X11_hold (g : qG) {M : qM} (hM : qRf M) {ρ : Nat → Int32} (hS : qSea M 224 ρ) {η : qHd} (hH : qHdC M η) (s : Int32) : qI g 3 kX11_hold [.ref 0, .int s] M (fun r M' => r = (dHold s ρ η).1 ∧ qHdC M' (dHold s ρ η).2 ∧ qFr SKp M M') := by
  refine qI.of (j := 0) (pn_RX11) rfl ?_
  show qT g kX11_hold (qR 3 0 0) (qZI g (fun r M' => r = (dHold s ρ η).1 ∧ qHdC M' (dHold s ρ η).2 ∧ qFr SKp M M')) 0 [some (.ref 0), some (.int s)] [] 333 M (0, 0)
  refine qi_aload_n (i := 0) (x := 0) dX11_hold_0 rfl rfl ?_
  refine qi_getR (x := 12) flX11_26 dX11_hold_1 rfl (by decide) (hM 0 2 12 rfl) ?_
  refine qi_iload_n (i := 1) (x := s) dX11_hold_4 rfl rfl ?_
  refine qi_aload_n (i := 0) (x := 0) dX11_hold_5 rfl rfl ?_
  refine qi_getR (x := 224) flX11_54 dX11_hold_6 rfl (by decide) (hM 0 6 224 rfl) ?_
  refine qi_callVI (K' := kX2_keep) (As := [.int s, .ref 224]) mlX11_272 okX2_keep dX11_hold_9 (c_X2_keep g hM hS hH s) rfl (by decide) rfl (by decide) rfl rfl (Nat.le_of_ble_eq_true rfl) ⟨(Nat.le_of_ble_eq_true rfl), (Nat.le_of_ble_eq_true rfl)⟩ ⟨Nat.le_refl _, Nat.le_refl _⟩ (fun r M2 ⟨er, hH2, hf2⟩ => ?_)
  have hb : r = 0 ∨ r = 1 := by
    rw [er]
    unfold dHold
    split
    · exact Or.inl rfl
    · exact Or.inr rfl
  exact qi_retI rfl (nb_of hb) dX11_hold_12 (⟨er, hH2, hf2⟩)
theorem c_X11_restore (g : qG) {M : qM} (hM : qRf M) {c : qCo} (hS : qSea M 224 c.1) (hHi : qHistC M c.2.1 c.2.2) {η : qHd} (hH : qHdC M η) (s : Int32) : qI g 3 kX11_restore [.ref 0, .int s] M (fun r M' => r = (dRestore s c η).1 ∧ qSea M' 224 (dRestore s c η).2.1 ∧ qHistC M' (dRestore s c η).2.2.1 (dRestore s c η).2.2.2 ∧ qFr SUn M M') := by
  refine qI.of (j := 0) (pn_RX11) rfl ?_
  show qT g kX11_restore (qR 3 0 0) (qZI g (fun r M' => r = (dRestore s c η).1 ∧ qSea M' 224 (dRestore s c η).2.1 ∧ qHistC M' (dRestore s c η).2.2.1 (dRestore s c η).2.2.2 ∧ qFr SUn M M')) 0 [some (.ref 0), some (.int s)] [] 333 M (0, 0)
  refine qi_aload_n (i := 0) (x := 0) dX11_restore_0 rfl rfl ?_
  refine qi_getR (x := 12) flX11_26 dX11_restore_1 rfl (by decide) (hM 0 2 12 rfl) ?_
  refine qi_iload_n (i := 1) (x := s) dX11_restore_4 rfl rfl ?_
  refine qi_aload_n (i := 0) (x := 0) dX11_restore_5 rfl rfl ?_
  refine qi_getR (x := 224) flX11_54 dX11_restore_6 rfl (by decide) (hM 0 6 224 rfl) ?_
  refine qi_callVI (K' := kX2_bring) (As := [.int s, .ref 224]) mlX11_276 okX2_bring dX11_restore_9 (c_X2_bring g hM hS hHi hH s) rfl (by decide) rfl (by decide) rfl rfl (Nat.le_of_ble_eq_true rfl) ⟨(Nat.le_of_ble_eq_true rfl), (Nat.le_of_ble_eq_true rfl)⟩ ⟨Nat.le_refl _, Nat.le_refl _⟩ (fun r M2 ⟨er, hS2, hH2, hf2⟩ => ?_)
  have hb : r = 0 ∨ r = 1 := by
    rw [er]
    unfold dRestore
    split
    · exact Or.inl rfl
    · exact Or.inr rfl
  exact qi_retI rfl (nb_of hb) dX11_restore_12 (⟨er, hS2, hH2, hf2⟩)
set_option maxHeartbeats 1000000 in
theorem c_X2_slotsHeld (g : qG) {M : qM} (hM : qRf M) {η : qHd} (hH : qHdC M η) : qI g 0 kX2_slotsHeld [.ref 12] M (fun r M' => r = η.1 0 + η.1 1 + η.1 2 ∧ M' = M) := by
  have K : ∀ m j, j + m = 3 → qT g kX2_slotsHeld (qR 0 0 0) (qZI g (fun r M' => r = (η.1 0 + η.1 1 + η.1 2) ∧ M' = M)) 4 [some (.ref 12), some (.int (sumF η.1 j)), some (.int (nI j))] [] 333 M (0, 0) := by
    intro m
    induction m with
    | zero =>
      intro j e
      refine qi_iload_n (i := 2) (x := nI j) dX2_slotsHeld_4 rfl rfl ?_
      refine qi_iconst (v := 3) dX2_slotsHeld_5 rfl ?_
      refine qi_icmp_ge (tgt := 32) dX2_slotsHeld_6 (by decide) (fun _hc => ?_) (fun _h => absurd ((nI_leI (a := 3) (b := j) (by omega) (by omega)).mpr (by omega)) _h)
      refine qi_iload_n (i := 1) (x := sumF η.1 j) dX2_slotsHeld_32 rfl rfl ?_
      exact qi_retI rfl rfl dX2_slotsHeld_33 (⟨by rw [show j = 3 by omega]; show 0 + η.1 0 + η.1 1 + η.1 2 = _; rw [Int32.zero_add], rfl⟩)
    | succ m ih =>
      intro j e
      have A := ih (j + 1) (by omega)
      obtain ⟨q1, q2⟩ := hH.1 j (by omega)
      have K24 : qT g kX2_slotsHeld (qR 0 0 0) (qZI g (fun r M' => r = (η.1 0 + η.1 1 + η.1 2) ∧ M' = M)) 24 [some (.ref 12), some (.int (sumF η.1 j)), some (.int (nI j))] [.int (η.1 j), .int (sumF η.1 j)] 333 M (0, 0) := by
        refine qi_iadd dX2_slotsHeld_24 ?_
        refine qi_istore_n (i := 1) (L2 := [some (.ref 12), some (.int ((sumF η.1 j) + (η.1 j))), some (.int (nI j))]) dX2_slotsHeld_25 rfl (Nat.le_of_ble_eq_true rfl) rfl ?_
        refine qi_iinc (i := 2) (x := nI j) (v := nI (j + 1)) (L2 := [some (.ref 12), some (.int ((sumF η.1 j) + (η.1 j))), some (.int (nI (j + 1)))]) dX2_slotsHeld_26 rfl (nI_1 j) (Nat.le_of_ble_eq_true rfl) rfl ?_
        refine qi_goto (tgt := 4) dX2_slotsHeld_29 (by decide) ?_
        exact A
      refine qi_iload_n (i := 2) (x := nI j) dX2_slotsHeld_4 rfl rfl ?_
      refine qi_iconst (v := 3) dX2_slotsHeld_5 rfl ?_
      refine qi_icmp_ge (tgt := 32) dX2_slotsHeld_6 (by decide) (fun _h => absurd ((nI_leI (a := 3) (b := j) (by omega) (by omega)).mp _h) (by omega)) (fun _hc => ?_)
      refine qi_iload_n (i := 1) (x := sumF η.1 j) dX2_slotsHeld_9 rfl rfl ?_
      refine qi_aload_n (i := 0) (x := 12) dX2_slotsHeld_10 rfl rfl ?_
      refine qi_getR (x := 15) flX2_20 dX2_slotsHeld_11 rfl (by decide) (hM 12 2 15 rfl) ?_
      refine qi_iload_n (i := 2) (x := nI j) dX2_slotsHeld_14 rfl rfl ?_
      refine qi_zaldN (x := η.1 j) (j := j) dX2_slotsHeld_15 rfl (by decide) rfl (by omega) (by decide) q1 ?_
      refine qi_if_eq (tgt := 23) dX2_slotsHeld_16 (by decide) (fun c => ?_) (fun c => ?_)
      · refine qi_iconst (v := 0) dX2_slotsHeld_23 rfl ?_
        rw [c] at K24
        exact K24
      · refine qi_iconst (v := 1) dX2_slotsHeld_19 rfl ?_
        refine qi_goto (tgt := 24) dX2_slotsHeld_20 (by decide) ?_
        rw [q2.resolve_left c] at K24
        exact K24
  refine qI.of (j := 2) (pn_RX2) rfl ?_
  show qT g kX2_slotsHeld (qR 0 0 0) (qZI g (fun r M' => r = (η.1 0 + η.1 1 + η.1 2) ∧ M' = M)) 0 [some (.ref 12), none, none] [] 333 M (0, 0)
  refine qi_iconst (v := 0) dX2_slotsHeld_0 rfl ?_
  refine qi_istore_n (i := 1) (L2 := [some (.ref 12), some (.int 0), none]) dX2_slotsHeld_1 rfl (Nat.le_of_ble_eq_true rfl) rfl ?_
  refine qi_iconst (v := 0) dX2_slotsHeld_2 rfl ?_
  refine qi_istore_n (i := 2) (L2 := [some (.ref 12), some (.int 0), some (.int 0)]) dX2_slotsHeld_3 rfl (Nat.le_of_ble_eq_true rfl) rfl ?_
  exact K 3 0 (by omega)
def qTpC (M : qM) (t : qTp) : Prop := M.1 1 1 = nI t.1 ∧ ∀ k, k < t.1 → M.1 2 k = nI (t.2 k)
def qToC (M : qM) (τ : qTo) : Prop := M.1 214 4 = nI τ.1 ∧ ∀ i, i < τ.1 → M.1 215 i = nI (τ.2.1 i) ∧ M.1 216 i = nI (τ.2.2 i)
set_option maxHeartbeats 1000000 in
theorem c_X11_count (g : qG) {M : qM} (hM : qRf M) {σ : qSt} {p : Nat} (hp : qIsP p) (hr : M.2.2 0 9 = some p) (hP : qPlan M p σ.2.2.1) (hW : M.1 (p + 14) 5 = nI (σ.2.2.1.1 3)) (hS : qSea M 224 σ.2.2.2.1.1) (hu : M.1 12 4 = nI σ.2.2.2.1.2.1) (hH : qHdC M σ.2.2.2.2.1) (hT : M.1 214 4 = nI σ.2.2.2.2.2.1) (ht : M.1 1 1 = nI σ.1.1) (w : Int32) : qI g 2 kX11_count [.ref 0, .int w] M (fun r M' => r = countQ σ w ∧ M' = M) := by
  obtain ⟨res, hres⟩ : ∃ res, res = countQ σ w := ⟨_, rfl⟩
  rw [← hres]
  obtain ⟨t, pl, π, c, η, τ⟩ := σ
  unfold countQ at hres
  dsimp only at *
  refine qI.of (j := 0) (pn_RX11) rfl ?_
  show qT g kX11_count (qR 2 0 0) (qZI g (fun r M' => r = res ∧ M' = M)) 0 [some (.ref 0), some (.int w)] [] 333 M (0, 0)
  refine qi_iload_n (i := 1) (x := w) dX11_count_0 rfl rfl ?_
  by_cases w0 : w = 0
  · rw [if_pos w0] at hres
    rw [w0]
    refine qi_tabIn (tgt := 68) dX11_count_1 (by decide) (by decide) rfl (by decide) ?_
    refine qi_aload_n (i := 0) (x := 0) dX11_count_68 rfl rfl ?_
    refine qi_getR (x := p) flX11_67 dX11_count_69 rfl (by decide) hr ?_
    refine qi_getI (x := nI (π.1 0)) flX11_279 dX11_count_72 (hp.1 0 (by decide)) (by have := hp.2.2; omega) hP.1.1 ?_
    exact qi_retI rfl rfl dX11_count_75 (⟨hres.symm, rfl⟩)
  rw [if_neg w0] at hres
  by_cases w1 : w = 1
  · rw [if_pos w1] at hres
    rw [w1]
    refine qi_tabIn (tgt := 76) dX11_count_1 (by decide) (by decide) rfl (by decide) ?_
    refine qi_aload_n (i := 0) (x := 0) dX11_count_76 rfl rfl ?_
    refine qi_getR (x := p) flX11_67 dX11_count_77 rfl (by decide) hr ?_
    refine qi_getI (x := nI (π.1 1)) flX11_123 dX11_count_80 (hp.1 0 (by decide)) (by have := hp.2.2; omega) hP.1.2.1 ?_
    exact qi_retI rfl rfl dX11_count_83 (⟨hres.symm, rfl⟩)
  rw [if_neg w1] at hres
  by_cases w2 : w = 2
  · rw [if_pos w2] at hres
    rw [w2]
    refine qi_tabIn (tgt := 84) dX11_count_1 (by decide) (by decide) rfl (by decide) ?_
    refine qi_aload_n (i := 0) (x := 0) dX11_count_84 rfl rfl ?_
    refine qi_getR (x := p) flX11_67 dX11_count_85 rfl (by decide) hr ?_
    refine qi_getI (x := nI (π.1 2)) flX11_180 dX11_count_88 (hp.1 0 (by decide)) (by have := hp.2.2; omega) hP.1.2.2.1 ?_
    exact qi_retI rfl rfl dX11_count_91 (⟨hres.symm, rfl⟩)
  rw [if_neg w2] at hres
  by_cases w3 : w = 3
  · rw [if_pos w3] at hres
    rw [w3]
    refine qi_tabIn (tgt := 92) dX11_count_1 (by decide) (by decide) rfl (by decide) ?_
    refine qi_aload_n (i := 0) (x := 0) dX11_count_92 rfl rfl ?_
    refine qi_getR (x := p) flX11_67 dX11_count_93 rfl (by decide) hr ?_
    refine qi_getR (x := p + 14) flX11_151 dX11_count_96 (hp.1 0 (by decide)) (by have := hp.2.2; omega) (hM p 10 (p + 14) (qref_3_10 (hp.1 0 (by decide)))) ?_
    refine qi_getI (x := nI (π.1 3)) flX11_155 dX11_count_99 (hp.1 14 (by decide)) (by have := hp.2.2; omega) hW ?_
    exact qi_retI rfl rfl dX11_count_102 (⟨hres.symm, rfl⟩)
  rw [if_neg w3] at hres
  by_cases w4 : w = 4
  · rw [if_pos w4] at hres
    rw [w4]
    refine qi_tabIn (tgt := 103) dX11_count_1 (by decide) (by decide) rfl (by decide) ?_
    refine qi_aload_n (i := 0) (x := 0) dX11_count_103 rfl rfl ?_
    refine qi_getR (x := 224) flX11_54 dX11_count_104 rfl (by decide) (hM 0 6 224 rfl) ?_
    refine qi_getI (x := c.1 64) flX11_177 dX11_count_107 rfl (by decide) hS.2.2.2.2.2.2 ?_
    exact qi_retI rfl rfl dX11_count_110 (⟨hres.symm, rfl⟩)
  rw [if_neg w4] at hres
  by_cases w5 : w = 5
  · rw [if_pos w5] at hres
    rw [w5]
    refine qi_tabIn (tgt := 111) dX11_count_1 (by decide) (by decide) rfl (by decide) ?_
    refine qi_aload_n (i := 0) (x := 0) dX11_count_111 rfl rfl ?_
    refine qi_getR (x := 224) flX11_54 dX11_count_112 rfl (by decide) (hM 0 6 224 rfl) ?_
    refine qi_getI (x := allF c.1) flX11_139 dX11_count_115 rfl (by decide) hS.2.2.2.2.1 ?_
    exact qi_retI rfl rfl dX11_count_118 (⟨hres.symm, rfl⟩)
  rw [if_neg w5] at hres
  by_cases w6 : w = 6
  · rw [if_pos w6] at hres
    rw [w6]
    refine qi_tabIn (tgt := 119) dX11_count_1 (by decide) (by decide) rfl (by decide) ?_
    refine qi_aload_n (i := 0) (x := 0) dX11_count_119 rfl rfl ?_
    refine qi_getR (x := p) flX11_67 dX11_count_120 rfl (by decide) hr ?_
    refine qi_getI (x := nI (π.1 4)) flX11_282 dX11_count_123 (hp.1 0 (by decide)) (by have := hp.2.2; omega) hP.1.2.2.2.1 ?_
    exact qi_retI rfl rfl dX11_count_126 (⟨hres.symm, rfl⟩)
  rw [if_neg w6] at hres
  by_cases w7 : w = 7
  · rw [if_pos w7] at hres
    rw [w7]
    refine qi_tabIn (tgt := 127) dX11_count_1 (by decide) (by decide) rfl (by decide) ?_
    refine qi_aload_n (i := 0) (x := 0) dX11_count_127 rfl rfl ?_
    refine qi_getR (x := 224) flX11_54 dX11_count_128 rfl (by decide) (hM 0 6 224 rfl) ?_
    refine qi_getR (x := 227) flX11_110 dX11_count_131 rfl (by decide) (hM 224 2 227 rfl) ?_
    refine qi_callPSI (v := sumF (M.1 227) 8) (K' := kX11_total) (As := [.ref 227]) mlX11_285 okX11_total dX11_count_134 (c_X11_total g (b := 227) (len := 8) rfl (by decide) (by decide)) rfl rfl (Nat.le_of_ble_eq_true rfl) ⟨(Nat.le_of_ble_eq_true rfl), (Nat.le_of_ble_eq_true rfl)⟩ ⟨Nat.le_refl _, Nat.le_refl _⟩ ?_
    exact qi_retI rfl rfl dX11_count_137 (⟨by rw [hres]; exact sumF_congr 8 (fun k hk => hS.2.1 k hk), rfl⟩)
  rw [if_neg w7] at hres
  by_cases w8 : w = 8
  · rw [if_pos w8] at hres
    rw [w8]
    refine qi_tabIn (tgt := 138) dX11_count_1 (by decide) (by decide) rfl (by decide) ?_
    refine qi_aload_n (i := 0) (x := 0) dX11_count_138 rfl rfl ?_
    refine qi_getR (x := 1) flX11_12 dX11_count_139 rfl (by decide) (hM 0 0 1 rfl) ?_
    refine qi_getI (x := nI t.1) flX11_85 dX11_count_142 rfl (by decide) ht ?_
    exact qi_retI rfl rfl dX11_count_145 (⟨hres.symm, rfl⟩)
  rw [if_neg w8] at hres
  by_cases w9 : w = 9
  · rw [if_pos w9] at hres
    rw [w9]
    refine qi_tabIn (tgt := 146) dX11_count_1 (by decide) (by decide) rfl (by decide) ?_
    refine qi_aload_n (i := 0) (x := 0) dX11_count_146 rfl rfl ?_
    refine qi_getR (x := 12) flX11_26 dX11_count_147 rfl (by decide) (hM 0 2 12 rfl) ?_
    refine qi_getI (x := nI c.2.1) flX11_289 dX11_count_150 rfl (by decide) hu ?_
    exact qi_retI rfl rfl dX11_count_153 (⟨hres.symm, rfl⟩)
  rw [if_neg w9] at hres
  by_cases w10 : w = 10
  · rw [if_pos w10] at hres
    rw [w10]
    refine qi_tabIn (tgt := 154) dX11_count_1 (by decide) (by decide) rfl (by decide) ?_
    refine qi_aload_n (i := 0) (x := 0) dX11_count_154 rfl rfl ?_
    refine qi_getR (x := 214) flX11_33 dX11_count_155 rfl (by decide) (hM 0 3 214 rfl) ?_
    refine qi_getI (x := nI τ.1) flX11_257 dX11_count_158 rfl (by decide) hT ?_
    exact qi_retI rfl rfl dX11_count_161 (⟨hres.symm, rfl⟩)
  rw [if_neg w10] at hres
  by_cases w11 : w = 11
  · rw [if_pos w11] at hres
    rw [w11]
    refine qi_tabIn (tgt := 162) dX11_count_1 (by decide) (by decide) rfl (by decide) ?_
    refine qi_aload_n (i := 0) (x := 0) dX11_count_162 rfl rfl ?_
    refine qi_getR (x := 12) flX11_26 dX11_count_163 rfl (by decide) (hM 0 2 12 rfl) ?_
    refine qi_callPVI (v := η.1 0 + η.1 1 + η.1 2) (K' := kX2_slotsHeld) (As := []) mlX11_290 okX2_slotsHeld dX11_count_166 (c_X2_slotsHeld g hM hH) rfl (by decide) rfl (by decide) rfl rfl (Nat.le_of_ble_eq_true rfl) ⟨(Nat.le_of_ble_eq_true rfl), (Nat.le_of_ble_eq_true rfl)⟩ ⟨Nat.le_refl _, Nat.le_refl _⟩ ?_
    exact qi_retI rfl rfl dX11_count_169 (⟨hres.symm, rfl⟩)
  rw [if_neg w11] at hres
  by_cases w12 : w = 12
  · rw [if_pos w12] at hres
    rw [w12]
    refine qi_tabIn (tgt := 170) dX11_count_1 (by decide) (by decide) rfl (by decide) ?_
    refine qi_ldc2 dX11_count_170 cnX11_293 ?_
    refine qi_aload_n (i := 0) (x := 0) dX11_count_173 rfl rfl ?_
    refine qi_getR (x := 224) flX11_54 dX11_count_174 rfl (by decide) (hM 0 6 224 rfl) ?_
    refine qi_callPVJ (v := saltF c.1) (K' := kX6_saltiness) (As := []) mlX11_212 okX6_saltiness dX11_count_177 (c_X6_saltiness g qIsS_sea hS) rfl (by decide) rfl (by decide) rfl rfl (Nat.le_of_ble_eq_true rfl) ⟨(Nat.le_of_ble_eq_true rfl), (Nat.le_of_ble_eq_true rfl)⟩ ⟨Nat.le_refl _, Nat.le_refl _⟩ ?_
    refine qi_minJ mtX11_295 mt_minJ_s mt_i mt_minJ_c dX11_count_180 (Nat.le_of_ble_eq_true rfl) ⟨(Nat.le_of_ble_eq_true rfl), (Nat.le_of_ble_eq_true rfl)⟩ ⟨Nat.le_refl _, Nat.le_refl _⟩ ?_
    refine qi_l2i dX11_count_183 ?_
    refine qi_retI rfl rfl dX11_count_184 (⟨?_, rfl⟩)
    rw [hres]
    by_cases d : saltF c.1 < 1000000000
    · rw [if_pos d, if_pos (Int64.le_of_lt d)]
    · rw [if_neg d]
      by_cases d2 : saltF c.1 ≤ 1000000000
      · rw [if_pos d2, Int64.le_antisymm d2 (Int64.not_lt.mp d)]
      · rw [if_neg d2]
        decide
  rw [if_neg w12] at hres
  refine qi_tabOut (tgt := 185) dX11_count_1 (sw_out (n := 12) (by omega) (fun j hj => by rcases (show j = 0 ∨ j = 1 ∨ j = 2 ∨ j = 3 ∨ j = 4 ∨ j = 5 ∨ j = 6 ∨ j = 7 ∨ j = 8 ∨ j = 9 ∨ j = 10 ∨ j = 11 ∨ j = 12 by omega) with rfl | rfl | rfl | rfl | rfl | rfl | rfl | rfl | rfl | rfl | rfl | rfl | rfl <;> assumption)) (by decide) ?_
  refine qi_iconst (v := -1) dX11_count_185 rfl ?_
  exact qi_retI rfl rfl dX11_count_186 (⟨hres.symm, rfl⟩)
