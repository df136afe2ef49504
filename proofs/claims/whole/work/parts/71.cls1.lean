/-! ThimbleSea: counts, divisors, what heirs have -/
set_option maxHeartbeats 1000000 in
theorem c_X3_hasHeir (g : qG) {M : qM} {p : Nat} {π : qPl} (hp : qIsP p) (hP : qPlan M p π) (h : Int32) : qI g 0 kX3_hasHeir [.ref p, .int h] M (fun r M' => r = isF (π.1 1) h ∧ M' = M) := by
  refine qI.of (j := 0) (pn_RX3) rfl ?_
  show qT g kX3_hasHeir (qR 0 0 0) (qZI g (fun r M' => r = (isF (π.1 1) h) ∧ M' = M)) 0 [some (.ref p), some (.int h)] [] 333 M (0, 0)
  refine qi_iload_n (i := 1) (x := h) dX3_hasHeir_0 rfl rfl ?_
  refine qi_if_lt (tgt := 16) dX3_hasHeir_1 (by decide) (fun c1 => ?_) (fun c1 => ?_)
  · refine qi_iconst (v := 0) dX3_hasHeir_16 rfl ?_
    exact qi_retI rfl (by rfl) dX3_hasHeir_17 (⟨by unfold isF; rw [if_neg (fun z => absurd c1 (Int32.not_lt.mpr z.1))], rfl⟩)
  · refine qi_iload_n (i := 1) (x := h) dX3_hasHeir_4 rfl rfl ?_
    refine qi_aload_n (i := 0) (x := p) dX3_hasHeir_5 rfl rfl ?_
    refine qi_getI (x := nI (π.1 1)) flX3_57 dX3_hasHeir_6 (hp.1 0 (by decide)) (by have := hp.2.2; omega) hP.1.2.1 ?_
    refine qi_icmp_ge (tgt := 16) dX3_hasHeir_9 (by decide) (fun c2 => ?_) (fun c2 => ?_)
    · refine qi_iconst (v := 0) dX3_hasHeir_16 rfl ?_
      exact qi_retI rfl (by rfl) dX3_hasHeir_17 (⟨by unfold isF; rw [if_neg (fun z => absurd z.2 (Int32.not_lt.mpr c2))], rfl⟩)
    · refine qi_iconst (v := 1) dX3_hasHeir_12 rfl ?_
      refine qi_goto (tgt := 17) dX3_hasHeir_13 (by decide) ?_
      exact qi_retI rfl (by rfl) dX3_hasHeir_17 (⟨by unfold isF; rw [if_pos ⟨Int32.not_lt.mp c1, Int32.not_le.mp c2⟩], rfl⟩)
set_option maxHeartbeats 1000000 in
theorem c_X3_hasWater (g : qG) {M : qM} {p : Nat} {π : qPl} (hp : qIsP p) (hP : qPlan M p π) (h : Int32) : qI g 0 kX3_hasWater [.ref p, .int h] M (fun r M' => r = isF (π.1 0) h ∧ M' = M) := by
  refine qI.of (j := 0) (pn_RX3) rfl ?_
  show qT g kX3_hasWater (qR 0 0 0) (qZI g (fun r M' => r = (isF (π.1 0) h) ∧ M' = M)) 0 [some (.ref p), some (.int h)] [] 333 M (0, 0)
  refine qi_iload_n (i := 1) (x := h) dX3_hasWater_0 rfl rfl ?_
  refine qi_if_lt (tgt := 16) dX3_hasWater_1 (by decide) (fun c1 => ?_) (fun c1 => ?_)
  · refine qi_iconst (v := 0) dX3_hasWater_16 rfl ?_
    exact qi_retI rfl (by rfl) dX3_hasWater_17 (⟨by unfold isF; rw [if_neg (fun z => absurd c1 (Int32.not_lt.mpr z.1))], rfl⟩)
  · refine qi_iload_n (i := 1) (x := h) dX3_hasWater_4 rfl rfl ?_
    refine qi_aload_n (i := 0) (x := p) dX3_hasWater_5 rfl rfl ?_
    refine qi_getI (x := nI (π.1 0)) flX3_53 dX3_hasWater_6 (hp.1 0 (by decide)) (by have := hp.2.2; omega) hP.1.1 ?_
    refine qi_icmp_ge (tgt := 16) dX3_hasWater_9 (by decide) (fun c2 => ?_) (fun c2 => ?_)
    · refine qi_iconst (v := 0) dX3_hasWater_16 rfl ?_
      exact qi_retI rfl (by rfl) dX3_hasWater_17 (⟨by unfold isF; rw [if_neg (fun z => absurd z.2 (Int32.not_lt.mpr c2))], rfl⟩)
    · refine qi_iconst (v := 1) dX3_hasWater_12 rfl ?_
      refine qi_goto (tgt := 17) dX3_hasWater_13 (by decide) ?_
      exact qi_retI rfl (by rfl) dX3_hasWater_17 (⟨by unfold isF; rw [if_pos ⟨Int32.not_lt.mp c1, Int32.not_le.mp c2⟩], rfl⟩)
set_option maxHeartbeats 1000000 in
theorem c_J6_bitCount (g : qG) {M : qM} {s : Nat} (hs : s < 256) : qI g 0 kJ6_bitCount_0f7a4 [.int (nI s)] M (fun r M' => r = nI (popN s) ∧ M' = M) := by
  refine qI.of (j := 0) (pn_RJ6) rfl ?_
  show qT g kJ6_bitCount_0f7a4 (qR 0 0 0) (qZI g (fun r M' => r = (nI (popN s)) ∧ M' = M)) 0 [some (.int (nI s))] [] 333 M (0, 0)
  refine qi_iload_n (i := 0) (x := nI s) dJ6_bitCount_0f7a4_0 rfl rfl ?_
  refine qi_iload_n (i := 0) (x := nI s) dJ6_bitCount_0f7a4_1 rfl rfl ?_
  refine qi_iconst (v := 1) dJ6_bitCount_0f7a4_2 rfl ?_
  refine qi_iushr dJ6_bitCount_0f7a4_3 ?_
  refine qi_ldcw dJ6_bitCount_0f7a4_4 cnJ6_265 ?_
  refine qi_iand dJ6_bitCount_0f7a4_7 ?_
  refine qi_isub dJ6_bitCount_0f7a4_8 ?_
  refine qe_top (y := bc1 (nI s)) rfl ?_
  refine qi_istore_n (i := 0) (L2 := [some (.int (bc1 (nI s)))]) dJ6_bitCount_0f7a4_9 rfl (Nat.le_of_ble_eq_true rfl) rfl ?_
  refine qi_iload_n (i := 0) (x := bc1 (nI s)) dJ6_bitCount_0f7a4_10 rfl rfl ?_
  refine qi_ldcw dJ6_bitCount_0f7a4_11 cnJ6_266 ?_
  refine qi_iand dJ6_bitCount_0f7a4_14 ?_
  refine qi_iload_n (i := 0) (x := bc1 (nI s)) dJ6_bitCount_0f7a4_15 rfl rfl ?_
  refine qi_iconst (v := 2) dJ6_bitCount_0f7a4_16 rfl ?_
  refine qi_iushr dJ6_bitCount_0f7a4_17 ?_
  refine qi_ldcw dJ6_bitCount_0f7a4_18 cnJ6_266 ?_
  refine qi_iand dJ6_bitCount_0f7a4_21 ?_
  refine qi_iadd dJ6_bitCount_0f7a4_22 ?_
  refine qe_top (y := bc2 (bc1 (nI s))) rfl ?_
  refine qi_istore_n (i := 0) (L2 := [some (.int (bc2 (bc1 (nI s))))]) dJ6_bitCount_0f7a4_23 rfl (Nat.le_of_ble_eq_true rfl) rfl ?_
  refine qi_iload_n (i := 0) (x := bc2 (bc1 (nI s))) dJ6_bitCount_0f7a4_24 rfl rfl ?_
  refine qi_iload_n (i := 0) (x := bc2 (bc1 (nI s))) dJ6_bitCount_0f7a4_25 rfl rfl ?_
  refine qi_iconst (v := 4) dJ6_bitCount_0f7a4_26 rfl ?_
  refine qi_iushr dJ6_bitCount_0f7a4_27 ?_
  refine qi_iadd dJ6_bitCount_0f7a4_28 ?_
  refine qi_ldcw dJ6_bitCount_0f7a4_29 cnJ6_267 ?_
  refine qi_iand dJ6_bitCount_0f7a4_32 ?_
  refine qe_top (y := bc3 (bc2 (bc1 (nI s)))) rfl ?_
  refine qi_istore_n (i := 0) (L2 := [some (.int (bc3 (bc2 (bc1 (nI s)))))]) dJ6_bitCount_0f7a4_33 rfl (Nat.le_of_ble_eq_true rfl) rfl ?_
  refine qi_iload_n (i := 0) (x := bc3 (bc2 (bc1 (nI s)))) dJ6_bitCount_0f7a4_34 rfl rfl ?_
  refine qi_iload_n (i := 0) (x := bc3 (bc2 (bc1 (nI s)))) dJ6_bitCount_0f7a4_35 rfl rfl ?_
  refine qi_bipush (v := 8) dJ6_bitCount_0f7a4_36 rfl ?_
  refine qi_iushr dJ6_bitCount_0f7a4_38 ?_
  refine qi_iadd dJ6_bitCount_0f7a4_39 ?_
  refine qe_top (y := bc4 (bc3 (bc2 (bc1 (nI s))))) rfl ?_
  refine qi_istore_n (i := 0) (L2 := [some (.int (bc4 (bc3 (bc2 (bc1 (nI s))))))]) dJ6_bitCount_0f7a4_40 rfl (Nat.le_of_ble_eq_true rfl) rfl ?_
  refine qi_iload_n (i := 0) (x := bc4 (bc3 (bc2 (bc1 (nI s))))) dJ6_bitCount_0f7a4_41 rfl rfl ?_
  refine qi_iload_n (i := 0) (x := bc4 (bc3 (bc2 (bc1 (nI s))))) dJ6_bitCount_0f7a4_42 rfl rfl ?_
  refine qi_bipush (v := 16) dJ6_bitCount_0f7a4_43 rfl ?_
  refine qi_iushr dJ6_bitCount_0f7a4_45 ?_
  refine qi_iadd dJ6_bitCount_0f7a4_46 ?_
  refine qe_top (y := bc5 (bc4 (bc3 (bc2 (bc1 (nI s)))))) rfl ?_
  refine qi_istore_n (i := 0) (L2 := [some (.int (bc5 (bc4 (bc3 (bc2 (bc1 (nI s)))))))]) dJ6_bitCount_0f7a4_47 rfl (Nat.le_of_ble_eq_true rfl) rfl ?_
  refine qi_iload_n (i := 0) (x := bc5 (bc4 (bc3 (bc2 (bc1 (nI s)))))) dJ6_bitCount_0f7a4_48 rfl rfl ?_
  refine qi_bipush (v := 63) dJ6_bitCount_0f7a4_49 rfl ?_
  refine qi_iand dJ6_bitCount_0f7a4_51 ?_
  exact qi_retI rfl rfl dJ6_bitCount_0f7a4_52 (⟨bc_is s hs, rfl⟩)
theorem mod_half {x y : Nat} (hy : 0 < y) (hr : 0 < x % y) : 2 * (y % (x % y)) < y := by
  have h1 := Nat.mod_lt x hy
  have h2 := Nat.mod_lt y hr
  have h3 := Nat.div_add_mod y (x % y)
  have h4 : 1 ≤ y / (x % y) := Nat.div_pos (by omega) hr
  have h5 : (x % y) * 1 ≤ (x % y) * (y / (x % y)) := Nat.mul_le_mul_left _ h4
  omega
set_option maxHeartbeats 1000000 in
theorem c_X11_greatestDivisor (g : qG) {M : qM} {a b : Nat} (ha : a < 2 ^ 63) (hb : b < 2 ^ 63) (hb0 : 0 < b) : qJ g 1 kX11_greatestDivisor [.long (lN a), .long (lN b)] M (fun r M' => r = lN (Nat.gcd a b) ∧ M' = M) := by
  have E : ∀ x8 x9 q, q = Nat.gcd a b → q < 2 ^ 63 → 0 < q → ∀ x6, qT g kX11_greatestDivisor (qR 1 0 0) (qZJ g (fun r M' => r = (lN (Nat.gcd a b)) ∧ M' = M)) 45 [some (.long (lN a)), none, some (.long (lN b)), none, some (.long (lN q)), none, x6, none, x8, x9, none] [] 333 M (0, 0) := by
    intro x8 x9 q hq hq2 hq3 x6
    refine qi_lconst (v := 1) dX11_greatestDivisor_45 rfl ?_
    refine qi_lload (i := 4) (x := lN q) dX11_greatestDivisor_46 rfl ?_
    refine qi_maxJ mtX11_298 mt_maxJ_s mt_i mt_maxJ_c dX11_greatestDivisor_48 (Nat.le_of_ble_eq_true rfl) ⟨(Nat.le_of_ble_eq_true rfl), (Nat.le_of_ble_eq_true rfl)⟩ ⟨Nat.le_refl _, Nat.le_refl _⟩ ?_
    refine qe_topJ (y := lN q) (if_neg (fun z => absurd ((pk_lLT (b := 1) hq2 (by omega)).mp z) (by omega))) ?_
    exact qi_retJ rfl dX11_greatestDivisor_51 (⟨by rw [hq], rfl⟩)
  have z0 : ∀ y, y < 2 ^ 63 → (lg_cmp (lN y) 0 = 0 ↔ y = 0) := fun y hy => (lg_cmp_eq _ _).trans (pk_lEQ (b := 0) hy (by omega))
  have one : ∀ x y st x9, x < 2 ^ 63 → y < 2 ^ 63 → 0 < y → st < 1000 → (qT g kX11_greatestDivisor (qR 1 0 0) (qZJ g (fun r M' => r = (lN (Nat.gcd a b)) ∧ M' = M)) 9 [some (.long (lN a)), none, some (.long (lN b)), none, some (.long (lN y)), none, some (.long (lN (x % y))), none, some (.int (nI (st + 1))), some (.long (lN (x % y))), none] [] 333 M (0, 0)) → qT g kX11_greatestDivisor (qR 1 0 0) (qZJ g (fun r M' => r = (lN (Nat.gcd a b)) ∧ M' = M)) 9 [some (.long (lN a)), none, some (.long (lN b)), none, some (.long (lN x)), none, some (.long (lN y)), none, some (.int (nI st)), x9, none] [] 333 M (0, 0) := by
    intro x y st x9 hx hy hy0 hst A
    have hz : ¬ lN y = 0 := fun z => by have := (pk_lEQ (b := 0) hy (by omega)).mp z; omega
    refine qi_iload (i := 8) (x := nI st) dX11_greatestDivisor_9 rfl ?_
    refine qi_sipush (v := 1000) dX11_greatestDivisor_11 rfl ?_
    refine qi_icmp_ge (tgt := 45) dX11_greatestDivisor_14 (by decide) (fun _h => absurd ((nI_leI (a := 1000) (b := st) (by omega) (by omega)).mp _h) (by omega)) (fun _hc => ?_)
    refine qi_lload (i := 6) (x := lN y) dX11_greatestDivisor_17 rfl ?_
    refine qi_lconst (v := 0) dX11_greatestDivisor_19 rfl ?_
    refine qi_lcmp dX11_greatestDivisor_20 ?_
    refine qi_if_eq (tgt := 45) dX11_greatestDivisor_21 (by decide) (fun q => False.elim (hz ((lg_cmp_eq _ _).mp q))) (fun q => ?_)
    refine qi_lload (i := 4) (x := lN x) dX11_greatestDivisor_24 rfl ?_
    refine qi_lload (i := 6) (x := lN y) dX11_greatestDivisor_26 rfl ?_
    refine qi_lrem dX11_greatestDivisor_28 hz ?_
    refine qe_topJ (y := lN (x % y)) (pk_lRem hx hy0 hy) ?_
    refine qi_lstore (i := 9) (L2 := [some (.long (lN a)), none, some (.long (lN b)), none, some (.long (lN x)), none, some (.long (lN y)), none, some (.int (nI st)), some (.long (lN (x % y))), none]) dX11_greatestDivisor_29 (Nat.le_of_ble_eq_true rfl) rfl ?_
    refine qi_lload (i := 6) (x := lN y) dX11_greatestDivisor_31 rfl ?_
    refine qi_lstore (i := 4) (L2 := [some (.long (lN a)), none, some (.long (lN b)), none, some (.long (lN y)), none, some (.long (lN y)), none, some (.int (nI st)), some (.long (lN (x % y))), none]) dX11_greatestDivisor_33 (Nat.le_of_ble_eq_true rfl) rfl ?_
    refine qi_lload (i := 9) (x := lN (x % y)) dX11_greatestDivisor_35 rfl ?_
    refine qi_lstore (i := 6) (L2 := [some (.long (lN a)), none, some (.long (lN b)), none, some (.long (lN y)), none, some (.long (lN (x % y))), none, some (.int (nI st)), some (.long (lN (x % y))), none]) dX11_greatestDivisor_37 (Nat.le_of_ble_eq_true rfl) rfl ?_
    refine qi_iinc (i := 8) (x := nI st) (v := nI (st + 1)) (L2 := [some (.long (lN a)), none, some (.long (lN b)), none, some (.long (lN y)), none, some (.long (lN (x % y))), none, some (.int (nI (st + 1))), some (.long (lN (x % y))), none]) dX11_greatestDivisor_39 rfl (nI_1 st) (Nat.le_of_ble_eq_true rfl) rfl ?_
    refine qi_goto (tgt := 9) dX11_greatestDivisor_42 (by decide) ?_
    exact A
  have fin_ : ∀ x st x9, x < 2 ^ 63 → 0 < x → Nat.gcd x 0 = Nat.gcd a b → st < 1000 → qT g kX11_greatestDivisor (qR 1 0 0) (qZJ g (fun r M' => r = (lN (Nat.gcd a b)) ∧ M' = M)) 9 [some (.long (lN a)), none, some (.long (lN b)), none, some (.long (lN x)), none, some (.long (lN 0)), none, some (.int (nI st)), x9, none] [] 333 M (0, 0) := by
    intro x st x9 hx hx0 hg hst
    refine qi_iload (i := 8) (x := nI st) dX11_greatestDivisor_9 rfl ?_
    refine qi_sipush (v := 1000) dX11_greatestDivisor_11 rfl ?_
    refine qi_icmp_ge (tgt := 45) dX11_greatestDivisor_14 (by decide) (fun _h => absurd ((nI_leI (a := 1000) (b := st) (by omega) (by omega)).mp _h) (by omega)) (fun _hc => ?_)
    refine qi_lload (i := 6) (x := lN 0) dX11_greatestDivisor_17 rfl ?_
    refine qi_lconst (v := 0) dX11_greatestDivisor_19 rfl ?_
    refine qi_lcmp dX11_greatestDivisor_20 ?_
    refine qi_if_eq (tgt := 45) dX11_greatestDivisor_21 (by decide) (fun q => ?_) (fun q => False.elim (q ((lg_cmp_eq _ _).mpr rfl)))
    exact E _ _ x (by rw [← hg, Nat.gcd_zero_right]) hx hx0 _
  have K : ∀ k x y st x9, y < 2 ^ k → x < 2 ^ 63 → 0 < x → y < 2 ^ 63 → Nat.gcd x y = Nat.gcd a b → st + 2 * k < 1000 → qT g kX11_greatestDivisor (qR 1 0 0) (qZJ g (fun r M' => r = (lN (Nat.gcd a b)) ∧ M' = M)) 9 [some (.long (lN a)), none, some (.long (lN b)), none, some (.long (lN x)), none, some (.long (lN y)), none, some (.int (nI st)), x9, none] [] 333 M (0, 0) := by
    intro k
    induction k with
    | zero =>
      intro x y st x9 h1 hx hx0 hy hg hst
      obtain rfl : y = 0 := by omega
      exact fin_ x st x9 hx hx0 hg (by omega)
    | succ k ih =>
      intro x y st x9 h1 hx hx0 hy hg hst
      by_cases y0 : y = 0
      · subst y0
        exact fin_ x st x9 hx hx0 hg (by omega)
      have g1 : Nat.gcd y (x % y) = Nat.gcd a b := by rw [← hg, Nat.gcd_comm y (x % y), ← Nat.gcd_rec, Nat.gcd_comm]
      have m1 := Nat.mod_lt x (show 0 < y by omega)
      refine one x y st x9 hx hy (by omega) (by omega) ?_
      by_cases r0 : x % y = 0
      · rw [r0] at g1 ⊢
        exact fin_ y (st + 1) _ hy (by omega) g1 (by omega)
      have g2 : Nat.gcd (x % y) (y % (x % y)) = Nat.gcd a b := by rw [← g1, Nat.gcd_comm (x % y) (y % (x % y)), ← Nat.gcd_rec, Nat.gcd_comm]
      have m2 := Nat.mod_lt y (show 0 < x % y by omega)
      have m3 := mod_half (x := x) (y := y) (by omega) (by omega)
      have p1 : 2 ^ (k + 1) = 2 * 2 ^ k := by rw [Nat.pow_succ]; omega
      refine one y (x % y) (st + 1) _ hy (by omega) (by omega) (by omega) ?_
      exact ih (x % y) (y % (x % y)) (st + 1 + 1) _ (by omega) (by omega) (by omega) (by omega) g2 (by omega)
  refine qJ.of (j := 7) (pn_RX11) rfl ?_
  show qT g kX11_greatestDivisor (qR 1 0 0) (qZJ g (fun r M' => r = (lN (Nat.gcd a b)) ∧ M' = M)) 0 [some (.long (lN a)), none, some (.long (lN b)), none, none, none, none, none, none, none, none] [] 333 M (0, 0)
  refine qi_lload_n (i := 2) (x := lN b) dX11_greatestDivisor_0 rfl rfl ?_
  refine qi_lstore (i := 4) (L2 := [some (.long (lN a)), none, some (.long (lN b)), none, some (.long (lN b)), none, none, none, none, none, none]) dX11_greatestDivisor_1 (Nat.le_of_ble_eq_true rfl) rfl ?_
  refine qi_lload_n (i := 0) (x := lN a) dX11_greatestDivisor_3 rfl rfl ?_
  refine qi_lstore (i := 6) (L2 := [some (.long (lN a)), none, some (.long (lN b)), none, some (.long (lN b)), none, some (.long (lN a)), none, none, none, none]) dX11_greatestDivisor_4 (Nat.le_of_ble_eq_true rfl) rfl ?_
  refine qi_iconst (v := 0) dX11_greatestDivisor_6 rfl ?_
  refine qi_istore (i := 8) (L2 := [some (.long (lN a)), none, some (.long (lN b)), none, some (.long (lN b)), none, some (.long (lN a)), none, some (.int 0), none, none]) dX11_greatestDivisor_7 (Nat.le_of_ble_eq_true rfl) rfl ?_
  exact K 63 b a 0 none ha hb hb0 ha (Nat.gcd_comm b a) (by omega)
set_option maxHeartbeats 1000000 in
theorem c_X11_heir (g : qG) {M : qM} (hM : qRf M) {p : Nat} {π : qPl} (hp : qIsP p) (hr : M.2.2 0 9 = some p) (hP : qPlan M p π) (hok : okPl π) {ρ : Nat → Int32} (hS : qSea M 224 ρ) (h w : Int32) : qI g 3 kX11_heir [.ref 0, .int h, .int w] M (fun r M' => r = heirQ π ρ h w ∧ M' = M) := by
  obtain ⟨res, hres⟩ : ∃ res, res = heirQ π ρ h w := ⟨_, rfl⟩
  rw [← hres]
  have hh8 := hok.2.1
  refine qI.of (j := 0) (pn_RX11) rfl ?_
  show qT g kX11_heir (qR 3 0 0) (qZI g (fun r M' => r = res ∧ M' = M)) 0 [some (.ref 0), some (.int h), some (.int w)] [] 333 M (0, 0)
  refine qi_aload_n (i := 0) (x := 0) dX11_heir_0 rfl rfl ?_
  refine qi_getR (x := p) flX11_67 dX11_heir_1 rfl (by decide) hr ?_
  refine qi_iload_n (i := 1) (x := h) dX11_heir_4 rfl rfl ?_
  refine qi_callPVI (v := isF (π.1 1) h) (K' := kX3_hasHeir) (As := [.int h]) mlX11_102 okX3_hasHeir dX11_heir_5 (c_X3_hasHeir g hp hP h) (hp.1 0 (by decide)) (by decide) rfl (by have := hp.2.2; omega) rfl rfl (Nat.le_of_ble_eq_true rfl) ⟨(Nat.le_of_ble_eq_true rfl), (Nat.le_of_ble_eq_true rfl)⟩ ⟨Nat.le_refl _, Nat.le_refl _⟩ ?_
  refine qi_if_ne (tgt := 13) dX11_heir_8 (by decide) (fun c1 => ?_) (fun c1 => ?_)
  · obtain ⟨k, hk, ek⟩ := isF_of (by omega) c1
    unfold heirQ at hres
    rw [if_neg c1, ek, nI_clamp (by omega)] at hres
    rw [ek]
    refine qi_iload_n (i := 2) (x := w) dX11_heir_13 rfl rfl ?_
    by_cases w0 : w = 0
    · rw [if_pos w0] at hres
      rw [w0]
      refine qi_tabIn (tgt := 52) dX11_heir_14 (by decide) (by decide) rfl (by decide) ?_
      refine qi_aload_n (i := 0) (x := 0) dX11_heir_52 rfl rfl ?_
      refine qi_getR (x := 224) flX11_54 dX11_heir_53 rfl (by decide) (hM 0 6 224 rfl) ?_
      refine qi_iload_n (i := 1) (x := nI k) dX11_heir_56 rfl rfl ?_
      refine qi_callPVI (v := dropsF ρ k) (K' := kX6_dropsOf) (As := [.int (nI k)]) mlX11_106 okX6_dropsOf dX11_heir_57 (c_X6_dropsOf g qIsS_sea hM hS (by omega)) rfl (by decide) rfl (by decide) rfl rfl (Nat.le_of_ble_eq_true rfl) ⟨(Nat.le_of_ble_eq_true rfl), (Nat.le_of_ble_eq_true rfl)⟩ ⟨Nat.le_refl _, Nat.le_refl _⟩ ?_
      exact qi_retI rfl rfl dX11_heir_60 (⟨hres.symm, rfl⟩)
    rw [if_neg w0] at hres
    by_cases w1 : w = 1
    · rw [if_pos w1] at hres
      rw [w1]
      refine qi_tabIn (tgt := 61) dX11_heir_14 (by decide) (by decide) rfl (by decide) ?_
      refine qi_aload_n (i := 0) (x := 0) dX11_heir_61 rfl rfl ?_
      refine qi_getR (x := 224) flX11_54 dX11_heir_62 rfl (by decide) (hM 0 6 224 rfl) ?_
      refine qi_getR (x := 227) flX11_110 dX11_heir_65 rfl (by decide) (hM 224 2 227 rfl) ?_
      refine qi_iload_n (i := 1) (x := nI k) dX11_heir_68 rfl rfl ?_
      refine qi_ialdN (x := M.1 227 k) (j := k) dX11_heir_69 rfl (by decide) rfl (by omega) (by decide) rfl ?_
      refine qe_top (y := ρ (40 + k)) (hS.2.1 k (by omega)) ?_
      exact qi_retI rfl rfl dX11_heir_70 (⟨hres.symm, rfl⟩)
    rw [if_neg w1] at hres
    by_cases w2 : w = 2
    · rw [if_pos w2] at hres
      rw [w2]
      refine qi_tabIn (tgt := 71) dX11_heir_14 (by decide) (by decide) rfl (by decide) ?_
      refine qi_aload_n (i := 0) (x := 0) dX11_heir_71 rfl rfl ?_
      refine qi_getR (x := 224) flX11_54 dX11_heir_72 rfl (by decide) (hM 0 6 224 rfl) ?_
      refine qi_getR (x := 228) flX11_114 dX11_heir_75 rfl (by decide) (hM 224 3 228 rfl) ?_
      refine qi_iload_n (i := 1) (x := nI k) dX11_heir_78 rfl rfl ?_
      refine qi_ialdN (x := M.1 228 k) (j := k) dX11_heir_79 rfl (by decide) rfl (by omega) (by decide) rfl ?_
      refine qe_top (y := ρ (48 + k)) (hS.2.2.1 k (by omega)) ?_
      exact qi_retI rfl rfl dX11_heir_80 (⟨hres.symm, rfl⟩)
    rw [if_neg w2] at hres
    by_cases w3 : w = 3
    · rw [if_pos w3] at hres
      rw [w3]
      refine qi_tabIn (tgt := 81) dX11_heir_14 (by decide) (by decide) rfl (by decide) ?_
      refine qi_aload_n (i := 0) (x := 0) dX11_heir_81 rfl rfl ?_
      refine qi_getR (x := 224) flX11_54 dX11_heir_82 rfl (by decide) (hM 0 6 224 rfl) ?_
      refine qi_getR (x := 229) flX11_117 dX11_heir_85 rfl (by decide) (hM 224 4 229 rfl) ?_
      refine qi_iload_n (i := 1) (x := nI k) dX11_heir_88 rfl rfl ?_
      refine qi_ialdN (x := M.1 229 k) (j := k) dX11_heir_89 rfl (by decide) rfl (by omega) (by decide) rfl ?_
      refine qe_top (y := ρ (56 + k)) (hS.2.2.2.1 k (by omega)) ?_
      exact qi_retI rfl rfl dX11_heir_90 (⟨hres.symm, rfl⟩)
    rw [if_neg w3] at hres
    by_cases w4 : w = 4
    · rw [if_pos w4] at hres
      rw [w4]
      refine qi_tabIn (tgt := 91) dX11_heir_14 (by decide) (by decide) rfl (by decide) ?_
      refine qi_aload_n (i := 0) (x := 0) dX11_heir_91 rfl rfl ?_
      refine qi_getR (x := 224) flX11_54 dX11_heir_92 rfl (by decide) (hM 0 6 224 rfl) ?_
      refine qi_iload_n (i := 1) (x := nI k) dX11_heir_95 rfl rfl ?_
      refine qi_callPVI (v := dueF ρ k) (K' := kX6_dueOf) (As := [.int (nI k)]) mlX11_120 okX6_dueOf dX11_heir_96 (c_X6_dueOf g qIsS_sea hM hS (by omega)) rfl (by decide) rfl (by decide) rfl rfl (Nat.le_of_ble_eq_true rfl) ⟨(Nat.le_of_ble_eq_true rfl), (Nat.le_of_ble_eq_true rfl)⟩ ⟨Nat.le_refl _, Nat.le_refl _⟩ ?_
      exact qi_retI rfl rfl dX11_heir_99 (⟨hres.symm, rfl⟩)
    rw [if_neg w4] at hres
    by_cases w5 : w = 5
    · rw [if_pos w5] at hres
      rw [w5]
      refine qi_tabIn (tgt := 100) dX11_heir_14 (by decide) (by decide) rfl (by decide) ?_
      refine qi_aload_n (i := 0) (x := 0) dX11_heir_100 rfl rfl ?_
      refine qi_getR (x := 224) flX11_54 dX11_heir_101 rfl (by decide) (hM 0 6 224 rfl) ?_
      refine qi_iload_n (i := 1) (x := nI k) dX11_heir_104 rfl rfl ?_
      refine qi_aload_n (i := 0) (x := 0) dX11_heir_105 rfl rfl ?_
      refine qi_getR (x := p) flX11_67 dX11_heir_106 rfl (by decide) hr ?_
      refine qi_getI (x := nI (π.1 1)) flX11_123 dX11_heir_109 (hp.1 0 (by decide)) (by have := hp.2.2; omega) hP.1.2.1 ?_
      refine qi_callPVI (v := nI (rankN ρ (π.1 1) k)) (K' := kX6_rankOf) (As := [.int (nI k), .int (nI (π.1 1))]) mlX11_126 okX6_rankOf dX11_heir_112 (c_X6_rankOf g qIsS_sea hM hS (by omega) hh8) rfl (by decide) rfl (by decide) rfl rfl (Nat.le_of_ble_eq_true rfl) ⟨(Nat.le_of_ble_eq_true rfl), (Nat.le_of_ble_eq_true rfl)⟩ ⟨Nat.le_refl _, Nat.le_refl _⟩ ?_
      exact qi_retI rfl rfl dX11_heir_115 (⟨hres.symm, rfl⟩)
    rw [if_neg w5] at hres
    refine qi_tabOut (tgt := 116) dX11_heir_14 (sw_out (n := 5) (by omega) (fun j hj => by rcases (show j = 0 ∨ j = 1 ∨ j = 2 ∨ j = 3 ∨ j = 4 ∨ j = 5 by omega) with rfl | rfl | rfl | rfl | rfl | rfl <;> assumption)) (by decide) ?_
    refine qi_iconst (v := -1) dX11_heir_116 rfl ?_
    exact qi_retI rfl rfl dX11_heir_117 (⟨hres.symm, rfl⟩)
  · refine qi_iconst (v := -1) dX11_heir_11 rfl ?_
    exact qi_retI rfl rfl dX11_heir_12 (⟨by rw [hres]; unfold heirQ; rw [if_pos c1], rfl⟩)
set_option maxHeartbeats 1000000 in
theorem c_X11_drops (g : qG) {M : qM} (hM : qRf M) {p : Nat} {π : qPl} (hp : qIsP p) (hr : M.2.2 0 9 = some p) (hP : qPlan M p π) (hok : okPl π) {ρ : Nat → Int32} (hS : qSea M 224 ρ) (h w : Int32) : qI g 1 kX11_drops [.ref 0, .int h, .int w] M (fun r M' => r = dropsQ π ρ h w ∧ M' = M) := by
  obtain ⟨res, hres⟩ : ∃ res, res = dropsQ π ρ h w := ⟨_, rfl⟩
  rw [← hres]
  have hh8 := hok.2.1
  have hw5 := hok.1
  have E : badQ (π.1 1) h ∨ badQ (π.1 0) w → qT g kX11_drops (qR 1 0 0) (qZI g (fun r M' => r = res ∧ M' = M)) 32 [some (.ref 0), some (.int h), some (.int w)] [] 333 M (0, 0) := by
    intro hb
    refine qi_iconst (v := -1) dX11_drops_32 rfl ?_
    exact qi_retI rfl rfl dX11_drops_33 (⟨by rw [hres]; unfold dropsQ; rw [if_pos hb], rfl⟩)
  have K34 : ¬ badQ (π.1 1) h → ¬ badQ (π.1 0) w → qT g kX11_drops (qR 1 0 0) (qZI g (fun r M' => r = res ∧ M' = M)) 34 [some (.ref 0), some (.int h), some (.int w)] [] 333 M (0, 0) := by
    intro b1 b2
    refine qi_aload_n (i := 0) (x := 0) dX11_drops_34 rfl rfl ?_
    refine qi_getR (x := 224) flX11_54 dX11_drops_35 rfl (by decide) (hM 0 6 224 rfl) ?_
    refine qi_iload_n (i := 1) (x := h) dX11_drops_38 rfl rfl ?_
    refine qi_iload_n (i := 2) (x := w) dX11_drops_39 rfl rfl ?_
    refine qi_callPVI (v := selF ρ (fromQ h) (toQ 7 h) (fromQ w) (toQ 4 w)) (K' := kX6_dropsWithin) (As := [.int h, .int w]) mlX11_133 okX6_dropsWithin dX11_drops_40 (c_X6_dropsWithin g qIsS_sea hM hS (goodQ (l := 7) (by omega) (by omega) b1) (goodQ (l := 4) (by omega) (by omega) b2)) rfl (by decide) rfl (by decide) rfl rfl (Nat.le_of_ble_eq_true rfl) ⟨(Nat.le_of_ble_eq_true rfl), (Nat.le_of_ble_eq_true rfl)⟩ ⟨Nat.le_refl _, Nat.le_refl _⟩ ?_
    exact qi_retI rfl rfl dX11_drops_43 (⟨by rw [hres]; unfold dropsQ; rw [if_neg (fun z => z.elim b1 b2)], rfl⟩)
  have K16 : ¬ badQ (π.1 1) h → qT g kX11_drops (qR 1 0 0) (qZI g (fun r M' => r = res ∧ M' = M)) 16 [some (.ref 0), some (.int h), some (.int w)] [] 333 M (0, 0) := by
    intro b1
    refine qi_iload_n (i := 2) (x := w) dX11_drops_16 rfl rfl ?_
    refine qi_iconst (v := -1) dX11_drops_17 rfl ?_
    refine qi_icmp_eq (tgt := 34) dX11_drops_18 (by decide) (fun c => ?_) (fun c => ?_)
    · exact K34 b1 (fun z => z.1 c)
    · refine qi_aload_n (i := 0) (x := 0) dX11_drops_21 rfl rfl ?_
      refine qi_getR (x := p) flX11_67 dX11_drops_22 rfl (by decide) hr ?_
      refine qi_iload_n (i := 2) (x := w) dX11_drops_25 rfl rfl ?_
      refine qi_callPVI (v := isF (π.1 0) w) (K' := kX3_hasWater) (As := [.int w]) mlX11_130 okX3_hasWater dX11_drops_26 (c_X3_hasWater g hp hP w) (hp.1 0 (by decide)) (by decide) rfl (by have := hp.2.2; omega) rfl rfl (Nat.le_of_ble_eq_true rfl) ⟨(Nat.le_of_ble_eq_true rfl), (Nat.le_of_ble_eq_true rfl)⟩ ⟨Nat.le_refl _, Nat.le_refl _⟩ ?_
      refine qi_if_ne (tgt := 34) dX11_drops_29 (by decide) (fun c2 => ?_) (fun c2 => ?_)
      · exact K34 b1 (fun z => c2 z.2)
      · exact E (Or.inr ⟨c, c2⟩)
  refine qI.of (j := 0) (pn_RX11) rfl ?_
  show qT g kX11_drops (qR 1 0 0) (qZI g (fun r M' => r = res ∧ M' = M)) 0 [some (.ref 0), some (.int h), some (.int w)] [] 333 M (0, 0)
  refine qi_iload_n (i := 1) (x := h) dX11_drops_0 rfl rfl ?_
  refine qi_iconst (v := -1) dX11_drops_1 rfl ?_
  refine qi_icmp_eq (tgt := 16) dX11_drops_2 (by decide) (fun c => ?_) (fun c => ?_)
  · exact K16 (fun z => z.1 c)
  · refine qi_aload_n (i := 0) (x := 0) dX11_drops_5 rfl rfl ?_
    refine qi_getR (x := p) flX11_67 dX11_drops_6 rfl (by decide) hr ?_
    refine qi_iload_n (i := 1) (x := h) dX11_drops_9 rfl rfl ?_
    refine qi_callPVI (v := isF (π.1 1) h) (K' := kX3_hasHeir) (As := [.int h]) mlX11_102 okX3_hasHeir dX11_drops_10 (c_X3_hasHeir g hp hP h) (hp.1 0 (by decide)) (by decide) rfl (by have := hp.2.2; omega) rfl rfl (Nat.le_of_ble_eq_true rfl) ⟨(Nat.le_of_ble_eq_true rfl), (Nat.le_of_ble_eq_true rfl)⟩ ⟨Nat.le_refl _, Nat.le_refl _⟩ ?_
    refine qi_if_eq (tgt := 32) dX11_drops_13 (by decide) (fun c2 => ?_) (fun c2 => ?_)
    · exact E (Or.inl ⟨c, c2⟩)
    · exact K16 (fun z => c2 z.2)
theorem c_X11_salt (g : qG) {M : qM} (hM : qRf M) {ρ : Nat → Int32} (hS : qSea M 224 ρ) : qI g 0 kX11_salt [.ref 0] M (fun r M' => r = ρ 65 ∧ M' = M) := by
  refine qI.of (j := 0) (pn_RX11) rfl ?_
  show qT g kX11_salt (qR 0 0 0) (qZI g (fun r M' => r = (ρ 65) ∧ M' = M)) 0 [some (.ref 0)] [] 333 M (0, 0)
  refine qi_aload_n (i := 0) (x := 0) dX11_salt_0 rfl rfl ?_
  refine qi_getR (x := 224) flX11_54 dX11_salt_1 rfl (by decide) (hM 0 6 224 rfl) ?_
  refine qi_getI (x := ρ 65) flX11_136 dX11_salt_4 rfl (by decide) hS.2.2.2.2.2.1 ?_
  exact qi_retI rfl rfl dX11_salt_7 (⟨rfl, rfl⟩)
theorem c_X11_place (g : qG) {M : qM} {x : Int32} (hx : M.1 0 11 = x) : qI g 0 kX11_place [.ref 0] M (fun r M' => r = x ∧ M' = M) := by
  refine qI.of (j := 0) (pn_RX11) rfl ?_
  show qT g kX11_place (qR 0 0 0) (qZI g (fun r M' => r = x ∧ M' = M)) 0 [some (.ref 0)] [] 333 M (0, 0)
  refine qi_aload_n (i := 0) (x := 0) dX11_place_0 rfl rfl ?_
  refine qi_getI (x := x) flX11_74 dX11_place_1 rfl (by decide) hx ?_
  exact qi_retI rfl rfl dX11_place_4 (⟨rfl, rfl⟩)
set_option maxHeartbeats 1000000 in
theorem c_X11_owns (g : qG) {M : qM} (hM : qRf M) {p : Nat} {π : qPl} (hp : qIsP p) (hr : M.2.2 0 9 = some p) (hP : qPlan M p π) (hok : okPl π) {ρ : Nat → Int32} (hS : qSea M 224 ρ) (hO : okSea π ρ) (h b : Int32) : qI g 2 kX11_owns [.ref 0, .int h, .int b] M (fun r M' => r = ownsQ π ρ h b ∧ M' = M) := by
  obtain ⟨res, hres⟩ : ∃ res, res = ownsQ π ρ h b := ⟨_, rfl⟩
  rw [← hres]
  have hh8 := hok.2.1
  have hb := hok.2.2.2.2.1
  refine qI.of (j := 3) (pn_RX11) rfl ?_
  show qT g kX11_owns (qR 2 0 0) (qZI g (fun r M' => r = res ∧ M' = M)) 0 [some (.ref 0), some (.int h), some (.int b), none, none, none] [] 333 M (0, 0)
  refine qi_aload_n (i := 0) (x := 0) dX11_owns_0 rfl rfl ?_
  refine qi_getR (x := p) flX11_67 dX11_owns_1 rfl (by decide) hr ?_
  refine qi_iload_n (i := 1) (x := h) dX11_owns_4 rfl rfl ?_
  refine qi_callPVI (v := isF (π.1 1) h) (K' := kX3_hasHeir) (As := [.int h]) mlX11_102 okX3_hasHeir dX11_owns_5 (c_X3_hasHeir g hp hP h) (hp.1 0 (by decide)) (by decide) rfl (by have := hp.2.2; omega) rfl rfl (Nat.le_of_ble_eq_true rfl) ⟨(Nat.le_of_ble_eq_true rfl), (Nat.le_of_ble_eq_true rfl)⟩ ⟨Nat.le_refl _, Nat.le_refl _⟩ ?_
  refine qi_if_ne (tgt := 13) dX11_owns_8 (by decide) (fun c1 => ?_) (fun c1 => ?_)
  · obtain ⟨k, hk, ek⟩ := isF_of (by omega) c1
    have hd := hO.drop hok (k := k) (by omega)
    obtain ⟨A, eA, hA, hA2⟩ := hO.all hok
    have hdA := dN_le ρ (h := k) (by omega)
    unfold ownsQ at hres
    rw [if_neg c1, ek, nI_clamp (by omega), hd, ← hA2] at hres
    rw [← hA2] at hdA
    rw [ek]
    have hA1 : ∃ A1, A1 = max 1 A := ⟨_, rfl⟩
    obtain ⟨A1, hA1⟩ := hA1
    have hgp : 0 < Nat.gcd (dN ρ k) A1 := Nat.gcd_pos_of_pos_right _ (by omega)
    have hgl : Nat.gcd (dN ρ k) A1 ≤ A1 := Nat.gcd_le_right _ (by omega)
    have hmx : (if (1 : Int32) < allF ρ then allF ρ else 1) = nI A1 := by
      rw [eA, hA1, show (1 : Int32) = nI 1 from rfl]
      by_cases z : 1 < A
      · rw [if_pos ((nI_ltI (by omega) (by omega)).mpr z), Nat.max_eq_right (by omega)]
      · rw [if_neg (fun y => z ((nI_ltI (by omega) (by omega)).mp y)), Nat.max_eq_left (by omega)]
    refine qi_aload_n (i := 0) (x := 0) dX11_owns_13 rfl rfl ?_
    refine qi_getR (x := 224) flX11_54 dX11_owns_14 rfl (by decide) (hM 0 6 224 rfl) ?_
    refine qi_iload_n (i := 1) (x := nI k) dX11_owns_17 rfl rfl ?_
    refine qi_callPVI (v := dropsF ρ k) (K' := kX6_dropsOf) (As := [.int (nI k)]) mlX11_106 okX6_dropsOf dX11_owns_18 (c_X6_dropsOf g qIsS_sea hM hS (by omega)) rfl (by decide) rfl (by decide) rfl rfl (Nat.le_of_ble_eq_true rfl) ⟨(Nat.le_of_ble_eq_true rfl), (Nat.le_of_ble_eq_true rfl)⟩ ⟨Nat.le_refl _, Nat.le_refl _⟩ ?_
    refine qe_top (y := nI (dN ρ k)) hd ?_
    refine qi_istore_n (i := 3) (L2 := [some (.ref 0), some (.int (nI k)), some (.int b), some (.int (nI (dN ρ k))), none, none]) dX11_owns_21 rfl (Nat.le_of_ble_eq_true rfl) rfl ?_
    refine qi_iconst (v := 1) dX11_owns_22 rfl ?_
    refine qi_aload_n (i := 0) (x := 0) dX11_owns_23 rfl rfl ?_
    refine qi_getR (x := 224) flX11_54 dX11_owns_24 rfl (by decide) (hM 0 6 224 rfl) ?_
    refine qi_getI (x := allF ρ) flX11_139 dX11_owns_27 rfl (by decide) hS.2.2.2.2.1 ?_
    refine qi_max mtX11_142 mt_max_s mt_i mt_max_c dX11_owns_30 (Nat.le_of_ble_eq_true rfl) ⟨(Nat.le_of_ble_eq_true rfl), (Nat.le_of_ble_eq_true rfl)⟩ ⟨Nat.le_refl _, Nat.le_refl _⟩ ?_
    refine qe_top (y := nI A1) hmx ?_
    refine qi_istore (i := 4) (L2 := [some (.ref 0), some (.int (nI k)), some (.int b), some (.int (nI (dN ρ k))), some (.int (nI A1)), none]) dX11_owns_33 (Nat.le_of_ble_eq_true rfl) rfl ?_
    refine qi_iload_n (i := 3) (x := nI (dN ρ k)) dX11_owns_35 rfl rfl ?_
    refine qi_i2l dX11_owns_36 ?_
    refine qe_topJ (y := lN (dN ρ k)) (nI_l (by omega)) ?_
    refine qi_iload (i := 4) (x := nI A1) dX11_owns_37 rfl ?_
    refine qi_i2l dX11_owns_39 ?_
    refine qe_topJ (y := lN A1) (nI_l (by omega)) ?_
    refine qi_callPSJ (v := lN (Nat.gcd (dN ρ k) A1)) (K' := kX11_greatestDivisor) (As := [.long (lN (dN ρ k)), .long (lN A1)]) mlX11_147 okX11_greatestDivisor dX11_owns_40 (c_X11_greatestDivisor g (by omega) (by omega) (by omega)) rfl rfl (Nat.le_of_ble_eq_true rfl) ⟨(Nat.le_of_ble_eq_true rfl), (Nat.le_of_ble_eq_true rfl)⟩ ⟨Nat.le_refl _, Nat.le_refl _⟩ ?_
    refine qi_l2i dX11_owns_43 ?_
    refine qe_top (y := nI (Nat.gcd (dN ρ k) A1)) (lN_i _) ?_
    refine qi_istore (i := 5) (L2 := [some (.ref 0), some (.int (nI k)), some (.int b), some (.int (nI (dN ρ k))), some (.int (nI A1)), some (.int (nI (Nat.gcd (dN ρ k) A1)))]) dX11_owns_44 (Nat.le_of_ble_eq_true rfl) rfl ?_
    refine qi_iload_n (i := 2) (x := b) dX11_owns_46 rfl rfl ?_
    have E : ∀ q, q ≤ 9999 → res = nI (q / Nat.gcd (dN ρ k) A1) → qT g kX11_owns (qR 2 0 0) (qZI g (fun r M' => r = res ∧ M' = M)) 56 [some (.ref 0), some (.int (nI k)), some (.int b), some (.int (nI (dN ρ k))), some (.int (nI A1)), some (.int (nI (Nat.gcd (dN ρ k) A1)))] [.int (nI q)] 333 M (0, 0) := by
      intro q hq hrq
      refine qi_iload (i := 5) (x := nI (Nat.gcd (dN ρ k) A1)) dX11_owns_56 rfl ?_
      refine qi_idiv dX11_owns_58 (nI_ne0 hgp (by omega)) ?_
      exact qi_retI rfl rfl dX11_owns_59 (⟨by rw [hrq, pk_div (by omega) hgp (by omega)], rfl⟩)
    have m0 : nI (dN ρ k) = 0 ↔ dN ρ k = 0 := nI_eq (b := 0) (by omega) (by omega)
    refine qi_if_eq (tgt := 55) dX11_owns_47 (by decide) (fun c3 => ?_) (fun c3 => ?_)
    · refine qi_iload_n (i := 3) (x := nI (dN ρ k)) dX11_owns_55 rfl rfl ?_
      refine E (dN ρ k) (by omega) ?_
      by_cases z : dN ρ k = 0
      · rw [if_pos (m0.mpr z), if_pos c3] at hres
        rw [hres, z, Nat.zero_div]
        rfl
      · rw [if_neg (fun y => z (m0.mp y)), if_pos c3] at hres
        rw [hres, show A1 = A by omega]
    · refine qi_iload (i := 4) (x := nI A1) dX11_owns_50 rfl ?_
      refine qi_goto (tgt := 56) dX11_owns_52 (by decide) ?_
      refine E A1 (by omega) ?_
      by_cases z : dN ρ k = 0
      · rw [if_pos (m0.mpr z), if_neg c3] at hres
        rw [hres, z, Nat.gcd_zero_left, Nat.div_self (by omega)]
        rfl
      · rw [if_neg (fun y => z (m0.mp y)), if_neg c3] at hres
        rw [hres, show A1 = A by omega]
  · refine qi_iconst (v := -1) dX11_owns_11 rfl ?_
    exact qi_retI rfl rfl dX11_owns_12 (⟨by rw [hres]; unfold ownsQ; rw [if_pos c1], rfl⟩)
