/-! ThimbleSeaModel: sumBy, asks, asked, gives -/
theorem bef_same {π : qPl} {s κ κ' : Nat} (h : ∀ o, o < π.1 1 → s / 2 ^ o % 2 = 1 → (keyN π o < κ ↔ keyN π o < κ')) : befN π s κ = befN π s κ' := by
  unfold befN
  refine sumN_congr _ (fun o ho => ?_)
  by_cases b : s / 2 ^ o % 2 = 1
  · by_cases c : keyN π o < κ
    · rw [if_pos ⟨b, c⟩, if_pos ⟨b, (h o ho b).mp c⟩]
    · rw [if_neg (fun z => c z.2), if_neg (fun z => c ((h o ho b).mpr z.2))]
  · rw [if_neg (fun z => b z.1), if_neg (fun z => b z.1)]
theorem bef_hit {π : qPl} {s h : Nat} (h8 : π.1 1 ≤ 8) (hh : h < π.1 1) (hb : s / 2 ^ h % 2 = 1) : befN π s (keyN π h + 1) = befN π s (keyN π h) + π.2.1 5 h := by
  unfold befN
  have q := sumN_one (f := fun o => if s / 2 ^ o % 2 = 1 ∧ keyN π o < keyN π h + 1 then π.2.1 5 o else 0) (h := fun o => if s / 2 ^ o % 2 = 1 ∧ keyN π o < keyN π h then π.2.1 5 o else 0) (c := h) (π.1 1) hh (fun k hk hkc => by
    have : keyN π k ≠ keyN π h := fun z => hkc (key_inj (by omega) (by omega) z)
    by_cases c : s / 2 ^ k % 2 = 1 ∧ keyN π k < keyN π h
    · show (if _ then _ else _) = (if _ then _ else _)
      rw [if_pos c, if_pos ⟨c.1, by omega⟩]
    · show (if _ then _ else _) = (if _ then _ else _)
      rw [if_neg c, if_neg (fun z => c ⟨z.1, by omega⟩)])
  rw [if_neg (c := s / 2 ^ h % 2 = 1 ∧ keyN π h < keyN π h) (fun z => Nat.lt_irrefl _ z.2), if_pos (c := s / 2 ^ h % 2 = 1 ∧ keyN π h < keyN π h + 1) ⟨hb, by omega⟩] at q
  omega
theorem gv_bit {π : qPl} {n s o : Nat} (h : 0 < gvN π n s o) : s / 2 ^ o % 2 = 1 := by
  by_cases c : s / 2 ^ o % 2 = 1
  · exact c
  · unfold gvN at h
    rw [if_neg c] at h
    exact absurd h (Nat.lt_irrefl _)
theorem cost_same {π : qPl} {n s κ κ' : Nat} (h : ∀ o, o < π.1 1 → 0 < gvN π n s o → (keyN π o < κ ↔ keyN π o < κ')) : costN π n s κ = costN π n s κ' := by
  unfold costN
  refine sumN_congr _ (fun o ho => ?_)
  by_cases b : 0 < gvN π n s o
  · by_cases c : keyN π o < κ
    · rw [if_pos ⟨c, b⟩, if_pos ⟨(h o ho b).mp c, b⟩]
    · rw [if_neg (fun z => c z.1), if_neg (fun z => c ((h o ho b).mpr z.1))]
  · rw [if_neg (fun z => b z.2), if_neg (fun z => b z.2)]
theorem cost_hit {π : qPl} {n s h : Nat} (h8 : π.1 1 ≤ 8) (hh : h < π.1 1) (hb : 0 < gvN π n s h) : costN π n s (keyN π h + 1) = costN π n s (keyN π h) + (gvN π n s h * π.2.1 3 h + π.2.1 4 h) := by
  unfold costN
  have q := sumN_one (f := fun o => if keyN π o < keyN π h + 1 ∧ 0 < gvN π n s o then gvN π n s o * π.2.1 3 o + π.2.1 4 o else 0) (h := fun o => if keyN π o < keyN π h ∧ 0 < gvN π n s o then gvN π n s o * π.2.1 3 o + π.2.1 4 o else 0) (c := h) (π.1 1) hh (fun k hk hkc => by
    have : keyN π k ≠ keyN π h := fun z => hkc (key_inj (by omega) (by omega) z)
    by_cases c : keyN π k < keyN π h ∧ 0 < gvN π n s k
    · show (if _ then _ else _) = (if _ then _ else _)
      rw [if_pos c, if_pos ⟨by omega, c.2⟩]
    · show (if _ then _ else _) = (if _ then _ else _)
      rw [if_neg c, if_neg (fun z => c ⟨by omega, z.2⟩)])
  rw [if_neg (c := keyN π h < keyN π h ∧ 0 < gvN π n s h) (fun z => Nat.lt_irrefl _ z.1), if_pos (c := keyN π h < keyN π h + 1 ∧ 0 < gvN π n s h) ⟨by omega, hb⟩] at q
  omega
theorem bef_0 {π : qPl} {s : Nat} : befN π s 0 = 0 := sumN_zero _ (fun k _ => if_neg (fun z => Nat.not_lt_zero _ z.2))
theorem cost_0 {π : qPl} {n s : Nat} : costN π n s 0 = 0 := sumN_zero _ (fun k _ => if_neg (fun z => Nat.not_lt_zero _ z.1))
theorem cost_le {π : qPl} {n s κ : Nat} (hok : okPl π) : costN π n s κ ≤ 1000000 := by
  have h8 := hok.2.1
  have h1 := sumN_le (f := fun o => if keyN π o < κ ∧ 0 < gvN π n s o then gvN π n s o * π.2.1 3 o + π.2.1 4 o else 0) (h := fun _ => 99900) (π.1 1) (fun o ho => by
    have q := hok.2.2.2.2.2.2.2.1 o ho
    have e1 : gvN π n s o ≤ 999 := by unfold gvN; split <;> omega
    have e2 : gvN π n s o * π.2.1 3 o ≤ 999 * 99 := Nat.mul_le_mul e1 q.2.1
    show (if keyN π o < κ ∧ 0 < gvN π n s o then gvN π n s o * π.2.1 3 o + π.2.1 4 o else 0) ≤ 99900
    by_cases c : keyN π o < κ ∧ 0 < gvN π n s o
    · rw [if_pos c]
      exact Nat.le_trans (Nat.add_le_add e2 q.2.2.1) (by decide)
    · rw [if_neg c]
      exact Nat.zero_le _)
  have h2 : ∀ m, sumN (fun _ => 99900) m = 99900 * m := by
    intro m
    induction m with
    | zero => rfl
    | succ m ih =>
      show sumN _ m + 99900 = _
      rw [ih]
      omega
  rw [h2] at h1
  unfold costN
  omega
/-- what asking writes -/
def SA : Nat → Nat → Prop := fun b j => b = 326 ∨ (b = 280 ∧ j = 67)
def o2m : Option Nat → Int32
  | some k => nI k
  | none => -1
set_option maxHeartbeats 2000000 in
theorem c_X12_sumBy (g : qG) {M : qM} (hM : qRf M) {L : Nat} {π : qPl} (hP : qPlanM M L π) (hok : okPl π) {s n : Nat} (hs : s < 256) (hn : n ≤ 999) : qI g 0 kX12_sumBy [.ref 280, .int (nI s), .int (nI n)] M (fun r M' => r = o2m (refV π n s) ∧ (∀ v, refV π n s = some v → ∀ h, h < π.1 1 → M'.1 326 h = nI (gvN π n s h)) ∧ qFr (fun b _ => b = 326) M M') := by
  obtain ⟨res, hres⟩ : ∃ res, res = refV π n s := ⟨_, rfl⟩
  rw [← hres]
  have hh8 := hok.2.1
  have hL := hP.1.1
  have hfee : ∀ h, h < π.1 1 → π.2.1 3 h ≤ 99 ∧ π.2.1 4 h ≤ 999 ∧ π.2.1 5 h ≤ 999 := fun h hh => (hok.2.2.2.2.2.2.2.1 h hh).2
  -- all but what is told here stays
  have inv : ∃ I : qM → Nat → Prop, ∀ M1 κ, I M1 κ ↔ (qFr (fun b _ => b = 326) M M1 ∧ (∀ o, o < π.1 1 → M1.1 326 o = if keyN π o < κ then nI (gvN π n s o) else 0) ∧ (∀ o, o < π.1 1 → s / 2 ^ o % 2 = 1 → keyN π o < κ → 0 < gvN π n s o)) := ⟨_, fun _ _ => Iff.rfl⟩
  obtain ⟨I, hI⟩ := inv
  -- the end
  have E : ∀ M1 x5 x6 x7, I M1 800 → qT g kX12_sumBy (qR 0 0 0) (qZI g (fun r M' => r = o2m res ∧ (∀ v, res = some v → ∀ h, h < π.1 1 → M'.1 326 h = nI (gvN π n s h)) ∧ qFr (fun b _ => b = 326) M M')) 178 [some (.ref 280), some (.int (nI s)), some (.int (nI n)), some (.int (nI (n - befN π s 800))), some (.int (nI (costN π n s 800))), x5, x6, x7] [] 333 M1 (0, 0) := by
    intro M1 x5 x6 x7 hI1
    obtain ⟨hf, h1, h2⟩ := (hI _ _).mp hI1
    have k8 : ∀ o, o < π.1 1 → keyN π o < 800 := fun o ho => by have := (hfee o ho).1; unfold keyN; omega
    have eb : befN π s 1000 = befN π s 800 := bef_same (fun o ho _ => ⟨fun _ => k8 o ho, fun _ => by have := k8 o ho; omega⟩)
    have ec : costN π n s 1000 = costN π n s 800 := cost_same (fun o ho _ => ⟨fun _ => k8 o ho, fun _ => by have := k8 o ho; omega⟩)
    have hfull : ∀ h, h < π.1 1 → s / 2 ^ h % 2 = 1 → 0 < gvN π n s h := fun h hh hb => h2 h hh hb (k8 h hh)
    unfold refV at hres
    rw [eb, ec] at hres
    refine qi_iload_n (i := 3) (x := nI (n - befN π s 800)) dX12_sumBy_178 rfl rfl ?_
    refine qi_if_ne (tgt := 187) dX12_sumBy_179 (by decide) (fun _h => ?_) (fun _h => ?_)
    · have c : ¬ ((n - befN π s 800) = 0) := fun z => _h ((nI_eq (a := n - befN π s 800) (b := 0) (by omega) (by omega)).mpr z)
      rw [if_neg (fun z => c (by omega))] at hres
      refine qi_iconst (v := -1) dX12_sumBy_187 rfl ?_
      exact qi_retI rfl rfl dX12_sumBy_188 (⟨by rw [hres]; rfl, fun v hv => (by rw [hres] at hv; cases hv), hf⟩)
    · have c : (n - befN π s 800) = 0 := (nI_eq (a := n - befN π s 800) (b := 0) (by omega) (by omega)).mp _h
      rw [if_pos ⟨hfull, by omega⟩] at hres
      refine qi_iload (i := 4) (x := nI (costN π n s 800)) dX12_sumBy_182 rfl ?_
      refine qi_goto (tgt := 188) dX12_sumBy_184 (by decide) ?_
      exact qi_retI rfl rfl dX12_sumBy_188 (⟨by rw [hres]; rfl, fun v hv h hh => by rw [h1 h hh, if_pos (k8 h hh)], hf⟩)
  have K32 : ∀ m by_ M1 x6 x7, by_ + m = 100 → I M1 (8 * by_) → qT g kX12_sumBy (qR 0 0 0) (qZI g (fun r M' => r = o2m res ∧ (∀ v, res = some v → ∀ h, h < π.1 1 → M'.1 326 h = nI (gvN π n s h)) ∧ qFr (fun b _ => b = 326) M M')) 32 [some (.ref 280), some (.int (nI s)), some (.int (nI n)), some (.int (nI (n - befN π s (8 * by_)))), some (.int (nI (costN π n s (8 * by_)))), some (.int (nI by_)), x6, x7] [] 333 M1 (0, 0) := by
    intro m
    induction m with
    | zero =>
      intro by_ M1 x6 x7 e hI1
      obtain rfl : by_ = 100 := by omega
      refine qi_iload (i := 5) (x := nI 100) dX12_sumBy_32 rfl ?_
      refine qi_bipush (v := 100) dX12_sumBy_34 rfl ?_
      refine qi_icmp_ge (tgt := 178) dX12_sumBy_36 (by decide) (fun _hc => ?_) (fun _h => absurd ((nI_leI (a := 100) (b := 100) (by omega) (by omega)).mpr (by omega)) _h)
      exact E M1 _ _ _ hI1
    | succ m ih =>
      intro by_ M1 x6 x7 e hI1
      refine qi_iload (i := 5) (x := nI by_) dX12_sumBy_32 rfl ?_
      refine qi_bipush (v := 100) dX12_sumBy_34 rfl ?_
      refine qi_icmp_ge (tgt := 178) dX12_sumBy_36 (by decide) (fun _h => absurd ((nI_leI (a := 100) (b := by_) (by omega) (by omega)).mp _h) (by omega)) (fun _hc => ?_)
      refine qi_iconst (v := 0) dX12_sumBy_39 rfl ?_
      refine qi_istore (i := 6) (L2 := [some (.ref 280), some (.int (nI s)), some (.int (nI n)), some (.int (nI (n - befN π s (8 * by_)))), some (.int (nI (costN π n s (8 * by_)))), some (.int (nI by_)), some (.int 0), x7]) dX12_sumBy_40 (Nat.le_of_ble_eq_true rfl) rfl ?_
      have K42 : ∀ m2 h M1 x7, h + m2 = π.1 1 → I M1 (8 * by_ + h) → qT g kX12_sumBy (qR 0 0 0) (qZI g (fun r M' => r = o2m res ∧ (∀ v, res = some v → ∀ h, h < π.1 1 → M'.1 326 h = nI (gvN π n s h)) ∧ qFr (fun b _ => b = 326) M M')) 42 [some (.ref 280), some (.int (nI s)), some (.int (nI n)), some (.int (nI (n - befN π s (8 * by_ + h)))), some (.int (nI (costN π n s (8 * by_ + h)))), some (.int (nI by_)), some (.int (nI h)), x7] [] 333 M1 (0, 0) := by
        intro m2
        induction m2 with
        | zero =>
          intro h M1 x7 e2 hI2
          obtain ⟨hf, h1, h2⟩ := (hI _ _).mp hI2
          have hM1 := hM.fr hf
          have eL : M1.1 280 18 = nI L := (hf.1 _ _ (by omega)).trans hP.1.2
          have eh : M1.1 294 L = nI (π.1 1) := (hf.1 _ _ (by omega)).trans hP.2.1.2.1
          have kk : ∀ o, o < π.1 1 → (keyN π o < 8 * by_ + h ↔ keyN π o < 8 * (by_ + 1)) := fun o ho => by unfold keyN; omega
          have A := ih (by_ + 1) M1 (some (.int (nI h))) x7 (by omega) ((hI _ _).mpr ⟨hf, fun o ho => by
            rw [h1 o ho]
            by_cases c : keyN π o < 8 * by_ + h
            · rw [if_pos c, if_pos ((kk o ho).mp c)]
            · rw [if_neg c, if_neg (fun z => c ((kk o ho).mpr z))], fun o ho hb hk => h2 o ho hb ((kk o ho).mpr hk)⟩)
          rw [← bef_same (κ := 8 * by_ + h) (fun o ho _ => kk o ho), ← cost_same (κ := 8 * by_ + h) (fun o ho _ => kk o ho)] at A
          refine qi_iload (i := 6) (x := nI h) dX12_sumBy_42 rfl ?_
          refine qi_aload_n (i := 0) (x := 280) dX12_sumBy_44 rfl rfl ?_
          refine qi_getR (x := 294) flX12_58 dX12_sumBy_45 rfl (by decide) (hM1 280 27 294 rfl) ?_
          refine qi_aload_n (i := 0) (x := 280) dX12_sumBy_48 rfl rfl ?_
          refine qi_getI (x := nI L) flX12_248 dX12_sumBy_49 rfl (by decide) eL ?_
          refine qi_ialdN (x := nI (π.1 1)) (j := L) dX12_sumBy_52 rfl (by decide) rfl (by omega) (by decide) eh ?_
          refine qi_icmp_ge (tgt := 172) dX12_sumBy_53 (by decide) (fun _hc => ?_) (fun _h => absurd ((nI_leI (a := π.1 1) (b := h) (by omega) (by omega)).mpr (by omega)) _h)
          refine qi_iinc (i := 5) (x := nI by_) (v := nI (by_ + 1)) (L2 := [some (.ref 280), some (.int (nI s)), some (.int (nI n)), some (.int (nI (n - befN π s (8 * by_ + h)))), some (.int (nI (costN π n s (8 * by_ + h)))), some (.int (nI (by_ + 1))), some (.int (nI h)), x7]) dX12_sumBy_172 rfl (nI_1 by_) (Nat.le_of_ble_eq_true rfl) rfl ?_
          refine qi_goto (tgt := 32) dX12_sumBy_175 (by decide) ?_
          exact A
        | succ m2 ih2 =>
          intro h M1 x7 e2 hI2
          obtain ⟨hf, h1, h2⟩ := (hI _ _).mp hI2
          have hM1 := hM.fr hf
          have hh : h < π.1 1 := by omega
          have eL : M1.1 280 18 = nI L := (hf.1 _ _ (by omega)).trans hP.1.2
          have eh : M1.1 294 L = nI (π.1 1) := (hf.1 _ _ (by omega)).trans hP.2.1.2.1
          have ep : M1.1 296 (8 * L + h) = nI (π.2.1 3 h) := (hf.1 _ _ (by omega)).trans (hP.2.2.2.1 1 h (by omega) hh)
          have ef : M1.1 297 (8 * L + h) = nI (π.2.1 4 h) := (hf.1 _ _ (by omega)).trans (hP.2.2.2.1 2 h (by omega) hh)
          have em : M1.1 298 (8 * L + h) = nI (π.2.1 5 h) := (hf.1 _ _ (by omega)).trans (hP.2.2.2.1 3 h (by omega) hh)
          obtain ⟨fe1, fe2, fe3⟩ := hfee h hh
          -- nobody of this set is at this place
          have J166 : ¬ (s / 2 ^ h % 2 = 1 ∧ π.2.1 3 h = by_) → qT g kX12_sumBy (qR 0 0 0) (qZI g (fun r M' => r = o2m res ∧ (∀ v, res = some v → ∀ h, h < π.1 1 → M'.1 326 h = nI (gvN π n s h)) ∧ qFr (fun b _ => b = 326) M M')) 166 [some (.ref 280), some (.int (nI s)), some (.int (nI n)), some (.int (nI (n - befN π s (8 * by_ + h)))), some (.int (nI (costN π n s (8 * by_ + h)))), some (.int (nI by_)), some (.int (nI h)), some (.int (nI (8 * L + h)))] [] 333 M1 (0, 0) := by
            intro hno
            have kk : ∀ o, o < π.1 1 → s / 2 ^ o % 2 = 1 → (keyN π o < 8 * by_ + h ↔ keyN π o < 8 * by_ + (h + 1)) := fun o ho hb => by
              have : keyN π o ≠ 8 * by_ + h := fun z => by
                unfold keyN at z
                have e3 : o = h := by omega
                subst e3
                exact hno ⟨hb, by omega⟩
              omega
            have A := ih2 (h + 1) M1 (some (.int (nI (8 * L + h)))) (by omega) ((hI _ _).mpr ⟨hf, fun o ho => by
              rw [h1 o ho]
              by_cases hb : s / 2 ^ o % 2 = 1
              · by_cases c : keyN π o < 8 * by_ + h
                · rw [if_pos c, if_pos ((kk o ho hb).mp c)]
                · rw [if_neg c, if_neg (fun z => c ((kk o ho hb).mpr z))]
              · have : gvN π n s o = 0 := by unfold gvN; rw [if_neg hb]
                rw [this]
                show (if _ then (0 : Int32) else 0) = (if _ then (0 : Int32) else 0)
                split <;> split <;> rfl, fun o ho hb hk => h2 o ho hb ((kk o ho hb).mpr hk)⟩)
            rw [← bef_same (κ := 8 * by_ + h) kk, ← cost_same (κ := 8 * by_ + h) (fun o ho hg => kk o ho (gv_bit hg))] at A
            refine qi_iinc (i := 6) (x := nI h) (v := nI (h + 1)) (L2 := [some (.ref 280), some (.int (nI s)), some (.int (nI n)), some (.int (nI (n - befN π s (8 * by_ + h)))), some (.int (nI (costN π n s (8 * by_ + h)))), some (.int (nI by_)), some (.int (nI (h + 1))), some (.int (nI (8 * L + h)))]) dX12_sumBy_166 rfl (nI_1 h) (Nat.le_of_ble_eq_true rfl) rfl ?_
            refine qi_goto (tgt := 42) dX12_sumBy_169 (by decide) ?_
            exact A
          refine qi_iload (i := 6) (x := nI h) dX12_sumBy_42 rfl ?_
          refine qi_aload_n (i := 0) (x := 280) dX12_sumBy_44 rfl rfl ?_
          refine qi_getR (x := 294) flX12_58 dX12_sumBy_45 rfl (by decide) (hM1 280 27 294 rfl) ?_
          refine qi_aload_n (i := 0) (x := 280) dX12_sumBy_48 rfl rfl ?_
          refine qi_getI (x := nI L) flX12_248 dX12_sumBy_49 rfl (by decide) eL ?_
          refine qi_ialdN (x := nI (π.1 1)) (j := L) dX12_sumBy_52 rfl (by decide) rfl (by omega) (by decide) eh ?_
          refine qi_icmp_ge (tgt := 172) dX12_sumBy_53 (by decide) (fun _h => absurd ((nI_leI (a := π.1 1) (b := h) (by omega) (by omega)).mp _h) (by omega)) (fun _hc => ?_)
          refine qi_bipush (v := 8) dX12_sumBy_56 rfl ?_
          refine qi_aload_n (i := 0) (x := 280) dX12_sumBy_58 rfl rfl ?_
          refine qi_getI (x := nI L) flX12_248 dX12_sumBy_59 rfl (by decide) eL ?_
          refine qi_imul dX12_sumBy_62 ?_
          refine qi_iload (i := 6) (x := nI h) dX12_sumBy_63 rfl ?_
          refine qi_iadd dX12_sumBy_65 ?_
          refine qe_top (y := nI (8 * L + h)) (by rw [show (8 : Int32) = nI 8 from rfl, pk_mul, nI_add]) ?_
          refine qi_istore (i := 7) (L2 := [some (.ref 280), some (.int (nI s)), some (.int (nI n)), some (.int (nI (n - befN π s (8 * by_ + h)))), some (.int (nI (costN π n s (8 * by_ + h)))), some (.int (nI by_)), some (.int (nI h)), some (.int (nI (8 * L + h)))]) dX12_sumBy_66 (Nat.le_of_ble_eq_true rfl) rfl ?_
          refine qi_iload_n (i := 1) (x := nI s) dX12_sumBy_68 rfl rfl ?_
          refine qi_iload (i := 6) (x := nI h) dX12_sumBy_69 rfl ?_
          refine qi_ishr dX12_sumBy_71 ?_
          refine qi_iconst (v := 1) dX12_sumBy_72 rfl ?_
          refine qi_iand dX12_sumBy_73 ?_
          refine qe_top (y := nI (s / 2 ^ h % 2)) (bitF_nat (by omega) (by omega)) ?_
          refine qi_if_eq (tgt := 166) dX12_sumBy_74 (by decide) (fun _h => ?_) (fun _h => ?_)
          · have c1 : (s / 2 ^ h % 2) = 0 := (nI_eq (a := s / 2 ^ h % 2) (b := 0) (by omega) (by omega)).mp _h
            exact J166 (by omega)
          · have c1 : ¬ ((s / 2 ^ h % 2) = 0) := fun z => _h ((nI_eq (a := s / 2 ^ h % 2) (b := 0) (by omega) (by omega)).mpr z)
            refine qi_aload_n (i := 0) (x := 280) dX12_sumBy_77 rfl rfl ?_
            refine qi_getR (x := 296) flX12_64 dX12_sumBy_78 rfl (by decide) (hM1 280 29 296 rfl) ?_
            refine qi_iload (i := 7) (x := nI (8 * L + h)) dX12_sumBy_81 rfl ?_
            refine qi_ialdN (x := nI (π.2.1 3 h)) (j := 8 * L + h) dX12_sumBy_83 rfl (by decide) rfl (by omega) (by decide) ep ?_
            refine qi_iload (i := 5) (x := nI by_) dX12_sumBy_84 rfl ?_
            refine qi_icmp_eq (tgt := 92) dX12_sumBy_86 (by decide) (fun _h => ?_) (fun _h => ?_)
            · have c2 : (π.2.1 3 h) = by_ := (nI_eq (a := π.2.1 3 h) (b := by_) (by omega) (by omega)).mp _h
              have hb1 : s / 2 ^ h % 2 = 1 := by omega
              have hk : keyN π h = 8 * by_ + h := by unfold keyN; omega
              have hg : gvN π n s h = min (π.2.1 5 h) (n - befN π s (8 * by_ + h)) := by
                unfold gvN
                rw [if_pos hb1, hk]
              have b1 : befN π s (8 * by_ + (h + 1)) = befN π s (8 * by_ + h) + π.2.1 5 h := by
                have := bef_hit hh8 hh hb1
                rw [hk] at this
                exact this
              have J120 : qT g kX12_sumBy (qR 0 0 0) (qZI g (fun r M' => r = o2m res ∧ (∀ v, res = some v → ∀ h, h < π.1 1 → M'.1 326 h = nI (gvN π n s h)) ∧ qFr (fun b _ => b = 326) M M')) 120 [some (.ref 280), some (.int (nI s)), some (.int (nI n)), some (.int (nI (n - befN π s (8 * by_ + h)))), some (.int (nI (costN π n s (8 * by_ + h)))), some (.int (nI by_)), some (.int (nI h)), some (.int (nI (8 * L + h)))] [.int (nI (gvN π n s h)), .int (nI h), .ref 326] 333 M1 (0, 0) := by
                have hfw : qFr (fun b _ => b = 326) M (wI M1 326 h (nI (gvN π n s h))) := hf.wI rfl
                have hM2 := hM.fr hfw
                refine qi_iastN (j := h) dX12_sumBy_120 rfl (by decide) rfl (by omega) (by decide) ?_
                generalize eM2 : wI M1 326 h (nI (gvN π n s h)) = M2
                rw [eM2] at hM2 hfw
                have w1 : M2.1 326 h = nI (gvN π n s h) := by rw [← eM2]; exact wI_s _ _ _ _
                have w2 : M2.1 297 (8 * L + h) = nI (π.2.1 4 h) := (hfw.1 _ _ (by omega)).trans (hP.2.2.2.1 2 h (by omega) hh)
                refine qi_aload_n (i := 0) (x := 280) dX12_sumBy_121 rfl rfl ?_
                refine qi_getR (x := 326) flX12_155 dX12_sumBy_122 rfl (by decide) (hM2 280 66 326 rfl) ?_
                refine qi_iload (i := 6) (x := nI h) dX12_sumBy_125 rfl ?_
                refine qi_ialdN (x := nI (gvN π n s h)) (j := h) dX12_sumBy_127 rfl (by decide) rfl (by omega) (by decide) w1 ?_
                refine qi_if_ne (tgt := 133) dX12_sumBy_128 (by decide) (fun _h => ?_) (fun _h => ?_)
                · have c3 : ¬ ((gvN π n s h) = 0) := fun z => _h ((nI_eq (a := gvN π n s h) (b := 0) (by omega) (by omega)).mpr z)
                  refine qi_iload_n (i := 3) (x := nI (n - befN π s (8 * by_ + h))) dX12_sumBy_133 rfl rfl ?_
                  refine qi_aload_n (i := 0) (x := 280) dX12_sumBy_134 rfl rfl ?_
                  refine qi_getR (x := 326) flX12_155 dX12_sumBy_135 rfl (by decide) (hM2 280 66 326 rfl) ?_
                  refine qi_iload (i := 6) (x := nI h) dX12_sumBy_138 rfl ?_
                  refine qi_ialdN (x := nI (gvN π n s h)) (j := h) dX12_sumBy_140 rfl (by decide) rfl (by omega) (by decide) w1 ?_
                  refine qi_isub dX12_sumBy_141 ?_
                  refine qe_top (y := nI (n - befN π s (8 * by_ + (h + 1)))) (by rw [pk_sub (by omega), b1]; congr 1; omega) ?_
                  refine qi_istore_n (i := 3) (L2 := [some (.ref 280), some (.int (nI s)), some (.int (nI n)), some (.int (nI (n - befN π s (8 * by_ + (h + 1))))), some (.int (nI (costN π n s (8 * by_ + h)))), some (.int (nI by_)), some (.int (nI h)), some (.int (nI (8 * L + h)))]) dX12_sumBy_142 rfl (Nat.le_of_ble_eq_true rfl) rfl ?_
                  refine qi_iload (i := 4) (x := nI (costN π n s (8 * by_ + h))) dX12_sumBy_143 rfl ?_
                  refine qi_aload_n (i := 0) (x := 280) dX12_sumBy_145 rfl rfl ?_
                  refine qi_getR (x := 326) flX12_155 dX12_sumBy_146 rfl (by decide) (hM2 280 66 326 rfl) ?_
                  refine qi_iload (i := 6) (x := nI h) dX12_sumBy_149 rfl ?_
                  refine qi_ialdN (x := nI (gvN π n s h)) (j := h) dX12_sumBy_151 rfl (by decide) rfl (by omega) (by decide) w1 ?_
                  refine qi_iload (i := 5) (x := nI by_) dX12_sumBy_152 rfl ?_
                  refine qi_imul dX12_sumBy_154 ?_
                  refine qi_aload_n (i := 0) (x := 280) dX12_sumBy_155 rfl rfl ?_
                  refine qi_getR (x := 297) flX12_67 dX12_sumBy_156 rfl (by decide) (hM2 280 30 297 rfl) ?_
                  refine qi_iload (i := 7) (x := nI (8 * L + h)) dX12_sumBy_159 rfl ?_
                  refine qi_ialdN (x := nI (π.2.1 4 h)) (j := 8 * L + h) dX12_sumBy_161 rfl (by decide) rfl (by omega) (by decide) w2 ?_
                  refine qi_iadd dX12_sumBy_162 ?_
                  refine qi_iadd dX12_sumBy_163 ?_
                  have hc1 : costN π n s (8 * by_ + (h + 1)) = costN π n s (8 * by_ + h) + (gvN π n s h * π.2.1 3 h + π.2.1 4 h) := by
                    have := cost_hit (n := n) hh8 hh (show 0 < gvN π n s h by omega)
                    rw [hk] at this
                    exact this
                  refine qe_top (y := nI (costN π n s (8 * by_ + (h + 1)))) (by rw [hc1, pk_mul, nI_add, nI_add, c2]) ?_
                  refine qi_istore (i := 4) (L2 := [some (.ref 280), some (.int (nI s)), some (.int (nI n)), some (.int (nI (n - befN π s (8 * by_ + (h + 1))))), some (.int (nI (costN π n s (8 * by_ + (h + 1))))), some (.int (nI by_)), some (.int (nI h)), some (.int (nI (8 * L + h)))]) dX12_sumBy_164 (Nat.le_of_ble_eq_true rfl) rfl ?_
                  refine qi_iinc (i := 6) (x := nI h) (v := nI (h + 1)) (L2 := [some (.ref 280), some (.int (nI s)), some (.int (nI n)), some (.int (nI (n - befN π s (8 * by_ + (h + 1))))), some (.int (nI (costN π n s (8 * by_ + (h + 1))))), some (.int (nI by_)), some (.int (nI (h + 1))), some (.int (nI (8 * L + h)))]) dX12_sumBy_166 rfl (nI_1 h) (Nat.le_of_ble_eq_true rfl) rfl ?_
                  refine qi_goto (tgt := 42) dX12_sumBy_169 (by decide) ?_
                  refine ih2 (h + 1) M2 _ (by omega) ((hI _ _).mpr ⟨hfw, fun o ho => ?_, fun o ho hb hk2 => ?_⟩)
                  · by_cases eo : o = h
                    · rw [eo, w1, if_pos (by omega)]
                    · rw [← eM2, wI_k eo, h1 o ho]
                      have : keyN π o ≠ keyN π h := fun z => eo (key_inj (by omega) (by omega) z)
                      by_cases c : keyN π o < 8 * by_ + h
                      · rw [if_pos c, if_pos (by omega)]
                      · rw [if_neg c, if_neg (by omega)]
                  · by_cases eo : o = h
                    · rw [eo]; omega
                    · have : keyN π o ≠ keyN π h := fun z => eo (key_inj (by omega) (by omega) z)
                      exact h2 o ho hb (by omega)
                · have c3 : (gvN π n s h) = 0 := (nI_eq (a := gvN π n s h) (b := 0) (by omega) (by omega)).mp _h
                  refine qi_iconst (v := -1) dX12_sumBy_131 rfl ?_
                  have hr : res = none := by
                    rw [hres]
                    unfold refV
                    rw [if_neg (fun z => by have := z.1 h hh hb1; omega)]
                  exact qi_retI rfl rfl dX12_sumBy_132 (⟨by rw [hr]; rfl, fun v hv => (by rw [hr] at hv; cases hv), hfw⟩)
              refine qi_aload_n (i := 0) (x := 280) dX12_sumBy_92 rfl rfl ?_
              refine qi_getR (x := 326) flX12_155 dX12_sumBy_93 rfl (by decide) (hM1 280 66 326 rfl) ?_
              refine qi_iload (i := 6) (x := nI h) dX12_sumBy_96 rfl ?_
              refine qi_aload_n (i := 0) (x := 280) dX12_sumBy_98 rfl rfl ?_
              refine qi_getR (x := 298) flX12_70 dX12_sumBy_99 rfl (by decide) (hM1 280 31 298 rfl) ?_
              refine qi_iload (i := 7) (x := nI (8 * L + h)) dX12_sumBy_102 rfl ?_
              refine qi_ialdN (x := nI (π.2.1 5 h)) (j := 8 * L + h) dX12_sumBy_104 rfl (by decide) rfl (by omega) (by decide) em ?_
              refine qi_iload_n (i := 3) (x := nI (n - befN π s (8 * by_ + h))) dX12_sumBy_105 rfl rfl ?_
              refine qi_icmp_ge (tgt := 119) dX12_sumBy_106 (by decide) (fun _h => ?_) (fun _h => ?_)
              · have c4 : (n - befN π s (8 * by_ + h)) ≤ (π.2.1 5 h) := (nI_leI (a := n - befN π s (8 * by_ + h)) (b := π.2.1 5 h) (by omega) (by omega)).mp _h
                refine qi_iload_n (i := 3) (x := nI (n - befN π s (8 * by_ + h))) dX12_sumBy_119 rfl rfl ?_
                refine qe_top (y := nI (gvN π n s h)) (by rw [hg, Nat.min_eq_right (by omega)]) ?_
                exact J120
              · have c4 : ¬ ((n - befN π s (8 * by_ + h)) ≤ (π.2.1 5 h)) := fun z => _h ((nI_leI (a := n - befN π s (8 * by_ + h)) (b := π.2.1 5 h) (by omega) (by omega)).mpr z)
                refine qi_aload_n (i := 0) (x := 280) dX12_sumBy_109 rfl rfl ?_
                refine qi_getR (x := 298) flX12_70 dX12_sumBy_110 rfl (by decide) (hM1 280 31 298 rfl) ?_
                refine qi_iload (i := 7) (x := nI (8 * L + h)) dX12_sumBy_113 rfl ?_
                refine qi_ialdN (x := nI (π.2.1 5 h)) (j := 8 * L + h) dX12_sumBy_115 rfl (by decide) rfl (by omega) (by decide) em ?_
                refine qi_goto (tgt := 120) dX12_sumBy_116 (by decide) ?_
                refine qe_top (y := nI (gvN π n s h)) (by rw [hg, Nat.min_eq_left (by omega)]) ?_
                exact J120
            · have c2 : ¬ ((π.2.1 3 h) = by_) := fun z => _h ((nI_eq (a := π.2.1 3 h) (b := by_) (by omega) (by omega)).mpr z)
              refine qi_goto (tgt := 166) dX12_sumBy_89 (by decide) ?_
              exact J166 (by omega)
      exact K42 (π.1 1) 0 M1 _ (by omega) hI1
  have K8 : ∀ m j M1, j + m = 8 → qFr (fun b _ => b = 326) M M1 → (∀ o, o < j → M1.1 326 o = 0) → qT g kX12_sumBy (qR 0 0 0) (qZI g (fun r M' => r = o2m res ∧ (∀ v, res = some v → ∀ h, h < π.1 1 → M'.1 326 h = nI (gvN π n s h)) ∧ qFr (fun b _ => b = 326) M M')) 8 [some (.ref 280), some (.int (nI s)), some (.int (nI n)), some (.int (nI n)), some (.int 0), some (.int (nI j)), none, none] [] 333 M1 (0, 0) := by
    intro m
    induction m with
    | zero =>
      intro j M1 e hf h1
      have hM1 := hM.fr hf
      have A := K32 100 0 M1 none none (by omega) ((hI _ _).mpr ⟨hf, fun o ho => by rw [h1 o (by omega), if_neg (by omega)], fun o ho hb hk => absurd hk (by omega)⟩)
      rw [Nat.mul_zero, bef_0, cost_0] at A
      refine qi_iload (i := 5) (x := nI j) dX12_sumBy_8 rfl ?_
      refine qi_bipush (v := 8) dX12_sumBy_10 rfl ?_
      refine qi_icmp_ge (tgt := 29) dX12_sumBy_12 (by decide) (fun _hc => ?_) (fun _h => absurd ((nI_leI (a := 8) (b := j) (by omega) (by omega)).mpr (by omega)) _h)
      refine qi_iconst (v := 0) dX12_sumBy_29 rfl ?_
      refine qi_istore (i := 5) (L2 := [some (.ref 280), some (.int (nI s)), some (.int (nI n)), some (.int (nI n)), some (.int 0), some (.int 0), none, none]) dX12_sumBy_30 (Nat.le_of_ble_eq_true rfl) rfl ?_
      exact A
    | succ m ih =>
      intro j M1 e hf h1
      have hM1 := hM.fr hf
      refine qi_iload (i := 5) (x := nI j) dX12_sumBy_8 rfl ?_
      refine qi_bipush (v := 8) dX12_sumBy_10 rfl ?_
      refine qi_icmp_ge (tgt := 29) dX12_sumBy_12 (by decide) (fun _h => absurd ((nI_leI (a := 8) (b := j) (by omega) (by omega)).mp _h) (by omega)) (fun _hc => ?_)
      refine qi_aload_n (i := 0) (x := 280) dX12_sumBy_15 rfl rfl ?_
      refine qi_getR (x := 326) flX12_155 dX12_sumBy_16 rfl (by decide) (hM1 280 66 326 rfl) ?_
      refine qi_iload (i := 5) (x := nI j) dX12_sumBy_19 rfl ?_
      refine qi_iconst (v := 0) dX12_sumBy_21 rfl ?_
      refine qi_iastN (j := j) dX12_sumBy_22 rfl (by decide) rfl (by omega) (by decide) ?_
      refine qi_iinc (i := 5) (x := nI j) (v := nI (j + 1)) (L2 := [some (.ref 280), some (.int (nI s)), some (.int (nI n)), some (.int (nI n)), some (.int 0), some (.int (nI (j + 1))), none, none]) dX12_sumBy_23 rfl (nI_1 j) (Nat.le_of_ble_eq_true rfl) rfl ?_
      refine qi_goto (tgt := 8) dX12_sumBy_26 (by decide) ?_
      refine ih (j + 1) _ (by omega) (hf.wI rfl) (fun o ho => ?_)
      by_cases eo : o = j
      · rw [eo, wI_s]
      · rw [wI_k eo]; exact h1 o (by omega)
  refine qI.of (j := 5) (pn_RX12) rfl ?_
  show qT g kX12_sumBy (qR 0 0 0) (qZI g (fun r M' => r = o2m res ∧ (∀ v, res = some v → ∀ h, h < π.1 1 → M'.1 326 h = nI (gvN π n s h)) ∧ qFr (fun b _ => b = 326) M M')) 0 [some (.ref 280), some (.int (nI s)), some (.int (nI n)), none, none, none, none, none] [] 333 M (0, 0)
  refine qi_iload_n (i := 2) (x := nI n) dX12_sumBy_0 rfl rfl ?_
  refine qi_istore_n (i := 3) (L2 := [some (.ref 280), some (.int (nI s)), some (.int (nI n)), some (.int (nI n)), none, none, none, none]) dX12_sumBy_1 rfl (Nat.le_of_ble_eq_true rfl) rfl ?_
  refine qi_iconst (v := 0) dX12_sumBy_2 rfl ?_
  refine qi_istore (i := 4) (L2 := [some (.ref 280), some (.int (nI s)), some (.int (nI n)), some (.int (nI n)), some (.int 0), none, none, none]) dX12_sumBy_3 (Nat.le_of_ble_eq_true rfl) rfl ?_
  refine qi_iconst (v := 0) dX12_sumBy_5 rfl ?_
  refine qi_istore (i := 5) (L2 := [some (.ref 280), some (.int (nI s)), some (.int (nI n)), some (.int (nI n)), some (.int 0), some (.int 0), none, none]) dX12_sumBy_6 (Nat.le_of_ble_eq_true rfl) rfl ?_
  exact K8 8 0 M (by omega) qFr.rf (fun o ho => absurd ho (Nat.not_lt_zero _))
theorem askG_s (V : Nat → Option Nat) (s : Nat) : askG V (s + 1) = if s = 0 then none else match V s with
    | none => askG V s
    | some v => match askG V s with
      | none => some (s, v)
      | some (b, w) => if v < w then some (s, v) else some (b, w) := rfl
theorem qPlanM.frA {M M' : qM} {L : Nat} {π : qPl} (h : qPlanM M L π) (hf : qFr SA M M') : qPlanM M' L π := h.frS hf (fun b j z => by unfold SA at z; omega)
set_option maxHeartbeats 2000000 in
theorem c_X12_asks (g : qG) {M : qM} (hM : qRf M) {L : Nat} {π : qPl} (hP : qPlanM M L π) (hok : okPl π) {n : Nat} (hn : n ≤ 999) : qI g 1 kX12_asks [.ref 280, .int (nI n)] M (fun r M' => r = o2n ((askG (refV π n) (2 ^ π.1 1)).map (fun q => q.1)) ∧ (∀ b v, askG (refV π n) (2 ^ π.1 1) = some (b, v) → M'.1 280 67 = nI v) ∧ qFr SA M M') := by
  obtain ⟨res, hres⟩ : ∃ res, res = askG (refV π n) (2 ^ π.1 1) := ⟨_, rfl⟩
  rw [← hres]
  have hV : ∃ V : Nat → Option Nat, ∀ s, V s = refV π n s := ⟨_, fun _ => rfl⟩
  obtain ⟨V, hV⟩ := hV
  rw [show refV π n = V from funext fun s => (hV s).symm] at hres
  have hh8 := hok.2.1
  have hL := hP.1.1
  have hpw := pow8 hh8
  have hcost : ∀ s v, V s = some v → v ≤ 1000000 := fun s v h => by
    rw [hV] at h
    unfold refV at h
    split at h
    · have := Option.some.inj h
      rw [← this]
      exact cost_le hok
    · cases h
  have K : ∀ m s M1 x4, (s + 1) + m = 2 ^ π.1 1 → qFr SA M M1 → (∀ b v, askG V (s + 1) = some (b, v) → M1.1 280 67 = nI v) → qT g kX12_asks (qR 1 0 0) (qZI g (fun r M' => r = o2n (res.map (fun q => q.1)) ∧ (∀ b v, res = some (b, v) → M'.1 280 67 = nI v) ∧ qFr SA M M')) 5 [some (.ref 280), some (.int (nI n)), some (.int (o2n ((askG V (s + 1)).map (fun q ↦ q.1)))), some (.int (nI (s + 1))), x4] [] 333 M1 (0, 0) := by
    intro m
    induction m with
    | zero =>
      intro s M1 x4 e hf hb
      have hP1 : qPlanM M1 L π := hP.frA hf
      have hM1 := hM.fr hf
      refine qi_iload_n (i := 3) (x := nI (s + 1)) dX12_asks_5 rfl rfl ?_
      refine qi_iconst (v := 1) dX12_asks_6 rfl ?_
      refine qi_aload_n (i := 0) (x := 280) dX12_asks_7 rfl rfl ?_
      refine qi_getR (x := 294) flX12_58 dX12_asks_8 rfl (by decide) (hM1 280 27 294 rfl) ?_
      refine qi_aload_n (i := 0) (x := 280) dX12_asks_11 rfl rfl ?_
      refine qi_getI (x := nI L) flX12_248 dX12_asks_12 rfl (by decide) hP1.1.2 ?_
      refine qi_ialdN (x := nI (π.1 1)) (j := L) dX12_asks_15 rfl (by decide) rfl (by omega) (by decide) hP1.2.1.2.1 ?_
      refine qi_ishl dX12_asks_16 ?_
      refine qe_top (y := nI (2 ^ π.1 1)) (shl1 _ hh8) ?_
      refine qi_icmp_ge (tgt := 63) dX12_asks_17 (by decide) (fun _hc => ?_) (fun _h => absurd ((nI_leI (a := 2 ^ π.1 1) (b := s + 1) (by omega) (by omega)).mpr (by omega)) _h)
      refine qi_iload_n (i := 2) (x := o2n ((askG V (s + 1)).map (fun q ↦ q.1))) dX12_asks_63 rfl rfl ?_
      rw [show s + 1 = 2 ^ π.1 1 by omega] at hb ⊢
      exact qi_retI rfl rfl dX12_asks_64 (⟨by rw [hres], fun b v h => hb b v (by rw [← hres, h]), hf⟩)
    | succ m ih =>
      intro s M1 x4 e hf hb
      have hP1 : qPlanM M1 L π := hP.frA hf
      have hM1 := hM.fr hf
      have e1 := askG_s V (s + 1)
      rw [if_neg (by omega)] at e1
      have stay : ∀ M2 x4, qFr SA M M2 → (∀ b v, askG V (s + 1) = some (b, v) → M2.1 280 67 = nI v) → askG V (s + 1 + 1) = askG V (s + 1) → qT g kX12_asks (qR 1 0 0) (qZI g (fun r M' => r = o2n (res.map (fun q => q.1)) ∧ (∀ b v, res = some (b, v) → M'.1 280 67 = nI v) ∧ qFr SA M M')) 57 [some (.ref 280), some (.int (nI n)), some (.int (o2n ((askG V (s + 1)).map (fun q ↦ q.1)))), some (.int (nI (s + 1))), x4] [] 333 M2 (0, 0) := by
        intro M2 x4 hf2 hb2 z
        have A := ih (s + 1) M2 x4 (by omega) hf2 (by rw [z]; exact hb2)
        rw [z] at A
        refine qi_iinc (i := 3) (x := nI (s + 1)) (v := nI (s + 1 + 1)) (L2 := [some (.ref 280), some (.int (nI n)), some (.int (o2n ((askG V (s + 1)).map (fun q ↦ q.1)))), some (.int (nI (s + 1 + 1))), x4]) dX12_asks_57 rfl (nI_1 (s + 1)) (Nat.le_of_ble_eq_true rfl) rfl ?_
        refine qi_goto (tgt := 5) dX12_asks_60 (by decide) ?_
        exact A
      have take : ∀ M2 v, v ≤ 1000000 → qFr SA M M2 → askG V (s + 1 + 1) = some (s + 1, v) → qT g kX12_asks (qR 1 0 0) (qZI g (fun r M' => r = o2n (res.map (fun q => q.1)) ∧ (∀ b v, res = some (b, v) → M'.1 280 67 = nI v) ∧ qFr SA M M')) 49 [some (.ref 280), some (.int (nI n)), some (.int (o2n ((askG V (s + 1)).map (fun q ↦ q.1)))), some (.int (nI (s + 1))), some (.int (nI v))] [] 333 M2 (0, 0) := by
        intro M2 v hv hf2 z
        have A := ih (s + 1) (wI M2 280 67 (nI v)) (some (.int (nI v))) (by omega) (hf2.wI (Or.inr ⟨rfl, rfl⟩)) (fun b w hw => by rw [z] at hw; cases hw; exact wI_s _ _ _ _)
        rw [z] at A
        have hM2 := hM.fr hf2
        refine qi_iload_n (i := 3) (x := nI (s + 1)) dX12_asks_49 rfl rfl ?_
        refine qi_istore_n (i := 2) (L2 := [some (.ref 280), some (.int (nI n)), some (.int (nI (s + 1))), some (.int (nI (s + 1))), some (.int (nI v))]) dX12_asks_50 rfl (Nat.le_of_ble_eq_true rfl) rfl ?_
        refine qi_aload_n (i := 0) (x := 280) dX12_asks_51 rfl rfl ?_
        refine qi_iload (i := 4) (x := nI v) dX12_asks_52 rfl ?_
        refine qi_putI flX12_418 q_cls12 (ty12_67 _) dX12_asks_54 rfl (by decide) ?_
        refine qi_iinc (i := 3) (x := nI (s + 1)) (v := nI (s + 1 + 1)) (L2 := [some (.ref 280), some (.int (nI n)), some (.int (nI (s + 1))), some (.int (nI (s + 1 + 1))), some (.int (nI v))]) dX12_asks_57 rfl (nI_1 (s + 1)) (Nat.le_of_ble_eq_true rfl) rfl ?_
        refine qi_goto (tgt := 5) dX12_asks_60 (by decide) ?_
        exact A
      refine qi_iload_n (i := 3) (x := nI (s + 1)) dX12_asks_5 rfl rfl ?_
      refine qi_iconst (v := 1) dX12_asks_6 rfl ?_
      refine qi_aload_n (i := 0) (x := 280) dX12_asks_7 rfl rfl ?_
      refine qi_getR (x := 294) flX12_58 dX12_asks_8 rfl (by decide) (hM1 280 27 294 rfl) ?_
      refine qi_aload_n (i := 0) (x := 280) dX12_asks_11 rfl rfl ?_
      refine qi_getI (x := nI L) flX12_248 dX12_asks_12 rfl (by decide) hP1.1.2 ?_
      refine qi_ialdN (x := nI (π.1 1)) (j := L) dX12_asks_15 rfl (by decide) rfl (by omega) (by decide) hP1.2.1.2.1 ?_
      refine qi_ishl dX12_asks_16 ?_
      refine qe_top (y := nI (2 ^ π.1 1)) (shl1 _ hh8) ?_
      refine qi_icmp_ge (tgt := 63) dX12_asks_17 (by decide) (fun _h => absurd ((nI_leI (a := 2 ^ π.1 1) (b := s + 1) (by omega) (by omega)).mp _h) (by omega)) (fun _hc => ?_)
      refine qi_aload_n (i := 0) (x := 280) dX12_asks_20 rfl rfl ?_
      refine qi_iload_n (i := 3) (x := nI (s + 1)) dX12_asks_21 rfl rfl ?_
      refine qi_iload_n (i := 1) (x := nI n) dX12_asks_22 rfl rfl ?_
      refine qi_callVI (K' := kX12_sumBy) (As := [.int (nI (s + 1)), .int (nI n)]) mlX12_415 okX12_sumBy dX12_asks_23 (c_X12_sumBy g hM1 hP1 hok (s := s + 1) (by omega) hn) rfl (by decide) rfl (by decide) rfl rfl (Nat.le_of_ble_eq_true rfl) ⟨(Nat.le_of_ble_eq_true rfl), (Nat.le_of_ble_eq_true rfl)⟩ ⟨Nat.le_refl _, Nat.le_refl _⟩ (fun r M2 ⟨er, _, hf2⟩ => ?_)
      rw [← hV] at er
      have hf2' : qFr SA M M2 := hf.tr (hf2.mono (fun b j z => Or.inl z))
      have hb2 : ∀ b v, askG V (s + 1) = some (b, v) → M2.1 280 67 = nI v := fun b v h => (hf2.1 _ _ (by omega)).trans (hb b v h)
      have hM2 := hM.fr hf2'
      cases hv : V (s + 1) with
      | none =>
        rw [hv] at er e1
        rw [er]
        refine qi_istore (i := 4) (L2 := [some (.ref 280), some (.int (nI n)), some (.int (o2n ((askG V (s + 1)).map (fun q ↦ q.1)))), some (.int (nI (s + 1))), some (.int (o2m none))]) dX12_asks_26 (Nat.le_of_ble_eq_true rfl) rfl ?_
        refine qi_iload (i := 4) (x := o2m none) dX12_asks_28 rfl ?_
        refine qi_if_lt (tgt := 57) dX12_asks_30 (by decide) (fun z => ?_) (fun z => False.elim (z (by decide)))
        exact stay M2 _ hf2' hb2 e1
      | some v =>
        have hvc := hcost _ _ hv
        rw [hv] at er e1
        simp only at e1
        rw [er]
        refine qi_istore (i := 4) (L2 := [some (.ref 280), some (.int (nI n)), some (.int (o2n ((askG V (s + 1)).map (fun q ↦ q.1)))), some (.int (nI (s + 1))), some (.int (nI v))]) dX12_asks_26 (Nat.le_of_ble_eq_true rfl) rfl ?_
        refine qi_iload (i := 4) (x := nI v) dX12_asks_28 rfl ?_
        refine qi_if_lt (tgt := 57) dX12_asks_30 (by decide) (fun z => False.elim (nI_pos (by omega) z)) (fun z => ?_)
        refine qi_iload_n (i := 2) (x := o2n ((askG V (s + 1)).map (fun q ↦ q.1))) dX12_asks_33 rfl rfl ?_
        cases ha : askG V (s + 1) with
        | none =>
          rw [ha] at e1 take
          refine qi_if_lt (tgt := 49) dX12_asks_34 (by decide) (fun z => ?_) (fun z => False.elim (z (by decide)))
          exact take M2 v hvc hf2' e1
        | some bw =>
          obtain ⟨b, w⟩ := bw
          have sp := askG_spec V (s + 1)
          rw [ha] at sp
          have hb1 := sp.2.1
          have hwc := hcost _ _ sp.2.2.1
          have e67 := hb2 b w ha
          rw [ha] at e1 take stay
          simp only at e1
          refine qi_if_lt (tgt := 49) dX12_asks_34 (by decide) (fun z => False.elim (nI_pos (n := b) (by omega) z)) (fun z => ?_)
          refine qi_iload (i := 4) (x := nI v) dX12_asks_37 rfl ?_
          refine qi_aload_n (i := 0) (x := 280) dX12_asks_39 rfl rfl ?_
          refine qi_getI (x := nI w) flX12_418 dX12_asks_40 rfl (by decide) e67 ?_
          refine qi_icmp_lt (tgt := 49) dX12_asks_43 (by decide) (fun _h => ?_) (fun _h => ?_)
          · have c : v < w := (nI_ltI (a := v) (b := w) (by omega) (by omega)).mp _h
            rw [if_pos c] at e1
            exact take M2 v hvc hf2' e1
          · have c : ¬ (v < w) := fun z => _h ((nI_ltI (a := v) (b := w) (by omega) (by omega)).mpr z)
            rw [if_neg c] at e1
            refine qi_goto (tgt := 57) dX12_asks_46 (by decide) ?_
            exact stay M2 _ hf2' (fun b' v' h' => by cases h'; exact e67) e1
  have A := K (2 ^ π.1 1 - 1) 0 M none (by have := Nat.two_pow_pos (π.1 1); omega) qFr.rf (fun b v h => by cases h)
  refine qI.of (j := 3) (pn_RX12) rfl ?_
  show qT g kX12_asks (qR 1 0 0) (qZI g (fun r M' => r = o2n (res.map (fun q => q.1)) ∧ (∀ b v, res = some (b, v) → M'.1 280 67 = nI v) ∧ qFr SA M M')) 0 [some (.ref 280), some (.int (nI n)), none, none, none] [] 333 M (0, 0)
  refine qi_bipush (v := -2) dX12_asks_0 rfl ?_
  refine qi_istore_n (i := 2) (L2 := [some (.ref 280), some (.int (nI n)), some (.int (-2)), none, none]) dX12_asks_2 rfl (Nat.le_of_ble_eq_true rfl) rfl ?_
  refine qi_iconst (v := 1) dX12_asks_3 rfl ?_
  refine qi_istore_n (i := 3) (L2 := [some (.ref 280), some (.int (nI n)), some (.int (-2)), some (.int 1), none]) dX12_asks_4 rfl (Nat.le_of_ble_eq_true rfl) rfl ?_
  exact A
