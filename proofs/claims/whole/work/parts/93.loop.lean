/-! the law's loop -/
theorem and63 (x : Int32) : ∃ k, k < 64 ∧ x &&& 63 = nI k := ⟨x.toBitVec.toNat % 2 ^ 6, Nat.mod_lt _ (by decide), pk_and _ 6 rfl⟩
theorem lt_len {i n : Nat} (hn : n < 2 ^ 31) (hi : i < 2 ^ 31) : nI n - 6 < nI i ↔ ¬ i + 6 ≤ n := by
  rw [Int32.lt_iff_toInt_lt]
  have e : nI n - 6 = Int32.ofInt ((n : Int) - 6) := by
    rw [show (6 : Int32) = Int32.ofInt 6 from rfl, show nI n = Int32.ofInt (n : Int) from rfl, Int32.ofInt_sub]
  rw [e, Int32.toInt_ofInt_of_le (by omega) (by omega), show nI i = Int32.ofInt (i : Int) from rfl, Int32.toInt_ofInt_of_le (by omega) (by omega)]
  omega
abbrev qRead (g : qG) (nm : String) (Z : List Frame → Array Value → State → State → Prop) : Prop := ∀ (i : Nat), i + 6 ≤ qln g → (∀ M σ, qG0 M σ → qT g (kLn nm) room_1 Z 1210 [some (.ref 1000000), some (.ref 0), some (.ref 280), some (.int (nI i))] [] 333 M (333, 23035)) → ∀ M σ, qG0 M σ → qT g (kLn nm) room_1 Z 270 [some (.ref 1000000), some (.ref 0), some (.ref 280), some (.int (nI i))] [] 333 M (333, 23035)
set_option maxHeartbeats 2000000 in
theorem law_step (g : qG) {nm : String} {Z : List Frame → Array Value → State → State → Prop} (hl : qln g < 2 ^ 31) (RD : qRead g nm Z) {i : Nat} (hi : i + 6 ≤ qln g) (NEXT : ∀ M σ, qG0 M σ → qT g (kLn nm) room_1 Z 1210 [some (.ref 1000000), some (.ref 0), some (.ref 280), some (.int (nI i))] [] 333 M (333, 23035)) {M : qM} {σ : qSt} (hG : qG0 M σ) : qT g (kLn nm) room_1 Z 27 [some (.ref 1000000), some (.ref 0), some (.ref 280), some (.int (nI i))] [] 333 M (333, 23035) := by
  refine qi_aload_n (i := 0) (x := 1000000) dL_law_27 rfl rfl ?_
  refine qi_iload_n (i := 3) (x := nI i) dL_law_28 rfl rfl ?_
  refine qi_sldN (j := i) (x := qx g (i)) dL_law_29 rfl (show i < qln g by omega) hl rfl ?_
  refine qi_bipush (v := 63) dL_law_30 rfl ?_
  refine qi_iand dL_law_32 ?_
  obtain ⟨k, hk, ek⟩ := and63 (qx g i)
  refine qe_top (y := nI k) ek ?_
  by_cases hk2 : 33 < k
  · refine qi_tabOut (tgt := 1210) dL_law_33 (Or.inr ?_) (by decide) (NEXT M σ hG)
    rw [show nI k = Int32.ofInt (k : Int) from rfl, Int32.toInt_ofInt_of_le (by omega) (by omega)]
    omega
  by_cases h0 : k = 0
  · subst h0
    exact qi_tabIn (tgt := 184) dL_law_33 (by decide) (by decide) rfl (by decide) (op_feed g hl hi NEXT hG)
  by_cases h1 : k = 1
  · subst h1
    exact qi_tabIn (tgt := 247) dL_law_33 (by decide) (by decide) rfl (by decide) (op_back g hl hi NEXT hG)
  by_cases h2 : k = 2
  · subst h2
    exact qi_tabIn (tgt := 270) dL_law_33 (by decide) (by decide) rfl (by decide) (RD i hi NEXT M σ hG)
  by_cases h3 : k = 3
  · subst h3
    exact qi_tabIn (tgt := 283) dL_law_33 (by decide) (by decide) rfl (by decide) (op_place g hl hi NEXT hG)
  by_cases h4 : k = 4
  · subst h4
    exact qi_tabIn (tgt := 296) dL_law_33 (by decide) (by decide) rfl (by decide) (op_heir g hl hi NEXT hG)
  by_cases h5 : k = 5
  · subst h5
    exact qi_tabIn (tgt := 329) dL_law_33 (by decide) (by decide) rfl (by decide) (op_drops g hl hi NEXT hG)
  by_cases h6 : k = 6
  · subst h6
    exact qi_tabIn (tgt := 362) dL_law_33 (by decide) (by decide) rfl (by decide) (op_salt g hl hi NEXT hG)
  by_cases h7 : k = 7
  · subst h7
    exact qi_tabIn (tgt := 375) dL_law_33 (by decide) (by decide) rfl (by decide) (op_owns g hl hi NEXT hG)
  by_cases h8 : k = 8
  · subst h8
    exact qi_tabIn (tgt := 424) dL_law_33 (by decide) (by decide) rfl (by decide) (op_claim g hl hi NEXT hG)
  by_cases h9 : k = 9
  · subst h9
    exact qi_tabIn (tgt := 474) dL_law_33 (by decide) (by decide) rfl (by decide) (op_ranked g hl hi NEXT hG)
  by_cases h10 : k = 10
  · subst h10
    exact qi_tabIn (tgt := 497) dL_law_33 (by decide) (by decide) rfl (by decide) (op_run g hl hi NEXT hG)
  by_cases h11 : k = 11
  · subst h11
    exact qi_tabIn (tgt := 520) dL_law_33 (by decide) (by decide) rfl (by decide) (op_tells g hl hi NEXT hG)
  by_cases h12 : k = 12
  · subst h12
    exact qi_tabIn (tgt := 543) dL_law_33 (by decide) (by decide) rfl (by decide) (op_merge g hl hi NEXT hG)
  by_cases h13 : k = 13
  · subst h13
    exact qi_tabIn (tgt := 576) dL_law_33 (by decide) (by decide) rfl (by decide) (op_split g hl hi NEXT hG)
  by_cases h14 : k = 14
  · subst h14
    exact qi_tabIn (tgt := 629) dL_law_33 (by decide) (by decide) rfl (by decide) (op_spoon g hl hi NEXT hG)
  by_cases h15 : k = 15
  · subst h15
    exact qi_tabIn (tgt := 652) dL_law_33 (by decide) (by decide) rfl (by decide) (op_undo g hl hi NEXT hG)
  by_cases h16 : k = 16
  · subst h16
    exact qi_tabIn (tgt := 665) dL_law_33 (by decide) (by decide) rfl (by decide) (op_enough g hl hi NEXT hG)
  by_cases h17 : k = 17
  · subst h17
    exact qi_tabIn (tgt := 688) dL_law_33 (by decide) (by decide) rfl (by decide) (op_salty g hl hi NEXT hG)
  by_cases h18 : k = 18
  · subst h18
    exact qi_tabIn (tgt := 711) dL_law_33 (by decide) (by decide) rfl (by decide) (op_crossed g hl hi NEXT hG)
  by_cases h19 : k = 19
  · subst h19
    exact qi_tabIn (tgt := 754) dL_law_33 (by decide) (by decide) rfl (by decide) (op_league g hl hi NEXT hG)
  by_cases h20 : k = 20
  · subst h20
    exact qi_tabIn (tgt := 767) dL_law_33 (by decide) (by decide) rfl (by decide) (op_power g hl hi NEXT hG)
  by_cases h21 : k = 21
  · subst h21
    exact qi_tabIn (tgt := 790) dL_law_33 (by decide) (by decide) rfl (by decide) (op_without g hl hi NEXT hG)
  by_cases h22 : k = 22
  · subst h22
    exact qi_tabIn (tgt := 833) dL_law_33 (by decide) (by decide) rfl (by decide) (op_asked g hl hi NEXT hG)
  by_cases h23 : k = 23
  · subst h23
    exact qi_tabIn (tgt := 866) dL_law_33 (by decide) (by decide) rfl (by decide) (op_gives g hl hi NEXT hG)
  by_cases h24 : k = 24
  · subst h24
    exact qi_tabIn (tgt := 899) dL_law_33 (by decide) (by decide) rfl (by decide) (op_thimble g hl hi NEXT hG)
  by_cases h25 : k = 25
  · subst h25
    exact qi_tabIn (tgt := 943) dL_law_33 (by decide) (by decide) rfl (by decide) (op_surely g hl hi NEXT hG)
  by_cases h26 : k = 26
  · subst h26
    exact qi_tabIn (tgt := 986) dL_law_33 (by decide) (by decide) rfl (by decide) (op_firstRow g hl hi NEXT hG)
  by_cases h27 : k = 27
  · subst h27
    exact qi_tabIn (tgt := 1039) dL_law_33 (by decide) (by decide) rfl (by decide) (op_tell g hl hi NEXT hG)
  by_cases h28 : k = 28
  · subst h28
    exact qi_tabIn (tgt := 1072) dL_law_33 (by decide) (by decide) rfl (by decide) (op_forget g hl hi NEXT hG)
  by_cases h29 : k = 29
  · subst h29
    exact qi_tabIn (tgt := 1085) dL_law_33 (by decide) (by decide) rfl (by decide) (op_forged g hl hi NEXT hG)
  by_cases h30 : k = 30
  · subst h30
    exact qi_tabIn (tgt := 1108) dL_law_33 (by decide) (by decide) rfl (by decide) (op_explains g hl hi NEXT hG)
  by_cases h31 : k = 31
  · subst h31
    exact qi_tabIn (tgt := 1141) dL_law_33 (by decide) (by decide) rfl (by decide) (op_hold g hl hi NEXT hG)
  by_cases h32 : k = 32
  · subst h32
    exact qi_tabIn (tgt := 1164) dL_law_33 (by decide) (by decide) rfl (by decide) (op_restore g hl hi NEXT hG)
  by_cases h33 : k = 33
  · subst h33
    exact qi_tabIn (tgt := 1187) dL_law_33 (by decide) (by decide) rfl (by decide) (op_count g hl hi NEXT hG)
  exact absurd hk2 (by omega)
set_option maxHeartbeats 2000000 in
theorem law_loop (g : qG) {nm : String} {Z : List Frame → Array Value → State → State → Prop} (hl : qln g < 2 ^ 31 - 6) (RD : qRead g nm Z) (END : ∀ i M, qT g (kLn nm) room_1 Z 1216 [some (.ref 1000000), some (.ref 0), some (.ref 280), some (.int (nI i))] [] 333 M (333, 23035)) : ∀ k i, qln g - i ≤ k → i ≤ qln g → ∀ M σ, qG0 M σ → qT g (kLn nm) room_1 Z 18 [some (.ref 1000000), some (.ref 0), some (.ref 280), some (.int (nI i))] [] 333 M (333, 23035) := by
  intro k
  induction k with
  | zero =>
    intro i h1 h2 M σ hG
    refine qi_iload_n (i := 3) (x := nI i) dL_law_18 rfl rfl ?_
    refine qi_aload_n (i := 0) (x := 1000000) dL_law_19 rfl rfl ?_
    refine qi_slen (v := nI (qln g)) dL_law_20 rfl ?_
    refine qi_bipush (v := 6) dL_law_21 rfl ?_
    refine qi_isub dL_law_23 ?_
    refine qi_icmp_gt (tgt := 1216) dL_law_24 (by decide) (fun z => ?_) (fun z => False.elim ((z ((lt_len (n := qln g) (i := i) (by omega) (by omega)).mpr (by omega)))))
    exact END i M
  | succ k ih =>
    intro i h1 h2 M σ hG
    refine qi_iload_n (i := 3) (x := nI i) dL_law_18 rfl rfl ?_
    refine qi_aload_n (i := 0) (x := 1000000) dL_law_19 rfl rfl ?_
    refine qi_slen (v := nI (qln g)) dL_law_20 rfl ?_
    by_cases hc : i + 6 ≤ qln g
    ·
      refine qi_bipush (v := 6) dL_law_21 rfl ?_
      refine qi_isub dL_law_23 ?_
      refine qi_icmp_gt (tgt := 1216) dL_law_24 (by decide) (fun z => False.elim (((lt_len (n := qln g) (i := i) (by omega) (by omega)).mp z hc))) (fun z => ?_)
      refine law_step g (by omega) RD hc ?_ hG
      intro M' σ' hG'
      refine qi_iinc (i := 3) (x := nI i) (v := nI (i + 6)) (L2 := [some (.ref 1000000), some (.ref 0), some (.ref 280), some (.int (nI (i + 6)))]) dL_law_1210 rfl ?_ (Nat.le_of_ble_eq_true rfl) rfl ?_
      · exact (nI_add i 6)
      refine qi_goto (tgt := 18) dL_law_1213 (by decide) ?_
      exact ih (i + 6) (by omega) (by omega) M' σ' hG'
    ·
      refine qi_bipush (v := 6) dL_law_21 rfl ?_
      refine qi_isub dL_law_23 ?_
      refine qi_icmp_gt (tgt := 1216) dL_law_24 (by decide) (fun z => ?_) (fun z => False.elim ((z ((lt_len (n := qln g) (i := i) (by omega) (by omega)).mpr hc))))
      exact END i M
