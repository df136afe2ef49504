/-! the signs' indexOf -/
def sgB (j : Nat) : Nat := [59, 61, 43, 45, 42, 47, 60, 40, 41].getD j 0
def ixG (c : Nat) : Nat → Nat → Int32
  | _, 0 => -1
  | j, m + 1 => if c = sgB j then nI j else ixG c (j + 1) m
theorem ix_all : ∀ c, c < 256 → ∀ j, j < 9 → ((qbyt.getD 1 []).getD j 0 = (nI c).toInt8.toInt32 ↔ c = sgB j) := by decide +kernel
theorem c_canEnc (g : qG) {n : Nat} {M : qM} {c : Nat} (hc : c < 256) : qPz g 0 kJ1_canEncode_9a6ad [.int (nI c)] n M (some (.int 1)) := by
  refine qPz.of (j := 0) (pn_RJ1) rfl ?_
  show qT g kJ1_canEncode_9a6ad (qR 0 0 0) (qZ g (fun r n' M' => n' = n ∧ r = (some (.int 1)) ∧ M' = M) 0 0) 0 [some (.int (nI c))] [] n M (0, 0)
  refine qi_iload_n (i := 0) (x := nI c) dJ1_canEncode_9a6ad_0 rfl rfl ?_
  refine qi_if_lt (tgt := 15) dJ1_canEncode_9a6ad_1 (by decide) (fun z => False.elim ((nI_pos (by omega) z))) (fun z => ?_)
  refine qi_iload_n (i := 0) (x := nI c) dJ1_canEncode_9a6ad_4 rfl rfl ?_
  refine qi_sipush (v := 255) dJ1_canEncode_9a6ad_5 rfl ?_
  refine qi_icmp_gt (tgt := 15) dJ1_canEncode_9a6ad_8 (by decide) (fun _h => absurd ((nI_ltI (a := 255) (b := c) (by omega) (by omega)).mp _h) (by omega)) (fun _hc => ?_)
  refine qi_iconst (v := 1) dJ1_canEncode_9a6ad_11 rfl ?_
  refine qi_goto (tgt := 16) dJ1_canEncode_9a6ad_12 (by decide) ?_
  exact qi_ireturn rfl rfl dJ1_canEncode_9a6ad_16 ⟨by decide, by decide⟩ ⟨rfl, rfl, rfl⟩
theorem c_ixChar (g : qG) {n : Nat} {M : qM} {c : Nat} (hc : c < 256) : qPz g 0 kJ1_indexOfChar_4cfef [.ref (1000003 + 1), .int (nI c), .int 0, .int (nI 9)] n M (some (.int (ixG c 0 9))) := by
  have hi : 1 < 2 := by decide
  have K : ∀ m j, j + m = 9 → ixG c j m = ixG c 0 9 → qT g kJ1_indexOfChar_4cfef (qR 0 0 0) (qZ g (fun r n' M' => n' = n ∧ r = (some (.int (ixG c 0 9))) ∧ M' = M) 0 0) 7 [some (.ref (1000003 + 1)), some (.int (nI c)), some (.int 0), some (.int (nI 9)), some (.int ((nI c).toInt8.toInt32)), some (.int (nI j))] [] n M (0, 0) := by
    intro m
    induction m with
    | zero =>
      intro j e h
      obtain rfl : j = 9 := by omega
      refine qi_iload (i := 5) (x := nI 9) dJ1_indexOfChar_4cfef_7 rfl ?_
      refine qi_iload_n (i := 3) (x := nI 9) dJ1_indexOfChar_4cfef_9 rfl rfl ?_
      refine qi_icmp_ge (tgt := 31) dJ1_indexOfChar_4cfef_10 (by decide) (fun z => ?_) (fun z => False.elim ((z (by decide))))
      refine qi_iconst (v := -1) dJ1_indexOfChar_4cfef_31 rfl ?_
      rw [← h]
      exact qi_ireturn rfl rfl dJ1_indexOfChar_4cfef_32 ⟨by decide, by decide⟩ ⟨rfl, rfl, rfl⟩
    | succ m ih =>
      intro j e h
      have hj : j < qlen.getD 1 0 := show j < 9 by omega
      refine qi_iload (i := 5) (x := nI j) dJ1_indexOfChar_4cfef_7 rfl ?_
      refine qi_iload_n (i := 3) (x := nI 9) dJ1_indexOfChar_4cfef_9 rfl rfl ?_
      refine qi_icmp_ge (tgt := 31) dJ1_indexOfChar_4cfef_10 (by decide) (fun _h => absurd ((nI_leI (a := 9) (b := j) (by omega) (by omega)).mp _h) (by omega)) (fun _hc => ?_)
      refine qi_aload_n (i := 0) (x := 1000003 + 1) dJ1_indexOfChar_4cfef_13 rfl rfl ?_
      refine qi_iload (i := 5) (x := nI j) dJ1_indexOfChar_4cfef_14 rfl ?_
      refine qi_sbld (j := j) hi hj dJ1_indexOfChar_4cfef_16 ?_
      refine qi_iload (i := 4) (x := (nI c).toInt8.toInt32) dJ1_indexOfChar_4cfef_17 rfl ?_
      by_cases hs : c = sgB j
      ·
        refine qi_icmp_ne (tgt := 25) dJ1_indexOfChar_4cfef_19 (by decide) (fun z => False.elim ((z ((ix_all c hc j (by omega)).mpr hs)))) (fun z => ?_)
        refine qi_iload (i := 5) (x := nI j) dJ1_indexOfChar_4cfef_22 rfl ?_
        have e2 : nI j = ixG c 0 9 := by rw [← h, ixG, if_pos hs]
        rw [← e2]
        exact qi_ireturn rfl rfl dJ1_indexOfChar_4cfef_24 ⟨by decide, by decide⟩ ⟨rfl, rfl, rfl⟩
      ·
        refine qi_icmp_ne (tgt := 25) dJ1_indexOfChar_4cfef_19 (by decide) (fun z => ?_) (fun z => False.elim ((hs ((ix_all c hc j (by omega)).mp z))))
        refine qi_iinc (i := 5) (x := nI j) (v := nI (j + 1)) (L2 := [some (.ref (1000003 + 1)), some (.int (nI c)), some (.int 0), some (.int (nI 9)), some (.int ((nI c).toInt8.toInt32)), some (.int (nI (j + 1)))]) dJ1_indexOfChar_4cfef_25 rfl (nI_1 j) (Nat.le_of_ble_eq_true rfl) rfl ?_
        refine qi_goto (tgt := 7) dJ1_indexOfChar_4cfef_28 (by decide) ?_
        exact ih (j + 1) (by omega) (by rw [← h, ixG, if_neg hs])
  refine qPz.of (j := 2) (pn_RJ1) rfl ?_
  show qT g kJ1_indexOfChar_4cfef (qR 0 0 0) (qZ g (fun r n' M' => n' = n ∧ r = (some (.int (ixG c 0 9))) ∧ M' = M) 0 0) 0 [some (.ref (1000003 + 1)), some (.int (nI c)), some (.int 0), some (.int (nI 9)), none, none] [] n M (0, 0)
  refine qi_iload_n (i := 1) (x := nI c) dJ1_indexOfChar_4cfef_0 rfl rfl ?_
  refine qi_i2b dJ1_indexOfChar_4cfef_1 ?_
  refine qi_istore (i := 4) (L2 := [some (.ref (1000003 + 1)), some (.int (nI c)), some (.int 0), some (.int (nI 9)), some (.int ((nI c).toInt8.toInt32)), none]) dJ1_indexOfChar_4cfef_2 (Nat.le_of_ble_eq_true rfl) rfl ?_
  refine qi_iload_n (i := 2) (x := 0) dJ1_indexOfChar_4cfef_4 rfl rfl ?_
  refine qi_istore (i := 5) (L2 := [some (.ref (1000003 + 1)), some (.int (nI c)), some (.int 0), some (.int (nI 9)), some (.int ((nI c).toInt8.toInt32)), some (.int 0)]) dJ1_indexOfChar_4cfef_5 (Nat.le_of_ble_eq_true rfl) rfl ?_
  exact K 9 0 rfl rfl
theorem c_indexOf1 (g : qG) {n : Nat} {M : qM} {c : Nat} (hc : c < 256) : qPz g 1 kJ1_indexOf_4cfef [.ref (1000003 + 1), .int (nI c), .int 0, .int (nI 9)] n M (some (.int (ixG c 0 9))) := by
  have hi : 1 < 2 := by decide
  refine qPz.of (j := 0) (pn_RJ1) rfl ?_
  show qT g kJ1_indexOf_4cfef (qR 1 0 0) (qZ g (fun r n' M' => n' = n ∧ r = (some (.int (ixG c 0 9))) ∧ M' = M) 0 0) 0 [some (.ref (1000003 + 1)), some (.int (nI c)), some (.int 0), some (.int (nI 9))] [] n M (0, 0)
  refine qi_iload_n (i := 1) (x := nI c) dJ1_indexOf_4cfef_0 rfl rfl ?_
  refine qi_callzS (K' := kJ1_canEncode_9a6ad) (As := [.int (nI c)]) mlJ1_88 okJ1_canEncode_9a6ad dJ1_indexOf_4cfef_1 (c_canEnc g hc) rfl rfl (Nat.le_of_ble_eq_true rfl) ⟨(Nat.le_of_ble_eq_true rfl), (Nat.le_of_ble_eq_true rfl)⟩ ⟨Nat.le_of_ble_eq_true rfl, Nat.le_of_ble_eq_true rfl⟩ ?_
  show qT g kJ1_indexOf_4cfef (qR 1 0 0) (qZ g (fun r n' M' => n' = n ∧ r = (some (.int (ixG c 0 9))) ∧ M' = M) 0 0) 4 [some (.ref (1000003 + 1)), some (.int (nI c)), some (.int 0), some (.int (nI 9))] [.int 1] n M (0, 0)
  refine qi_if_ne (tgt := 9) dJ1_indexOf_4cfef_4 (by decide) (fun z => ?_) (fun z => False.elim ((by cases z)))
  refine qi_iload_n (i := 2) (x := 0) dJ1_indexOf_4cfef_9 rfl rfl ?_
  refine qi_iconst (v := 0) dJ1_indexOf_4cfef_10 rfl ?_
  refine qi_max mlJ1_92.1 mt_max_s mt_i mt_max_c dJ1_indexOf_4cfef_11 (Nat.le_of_ble_eq_true rfl) ⟨(Nat.le_of_ble_eq_true rfl), (Nat.le_of_ble_eq_true rfl)⟩ ⟨(Nat.le_of_ble_eq_true rfl), (Nat.le_of_ble_eq_true rfl)⟩ ?_
  refine qe_top (y := 0) rfl ?_
  refine qi_istore_n (i := 2) (L2 := [some (.ref (1000003 + 1)), some (.int (nI c)), some (.int 0), some (.int (nI 9))]) dJ1_indexOf_4cfef_14 rfl (Nat.le_of_ble_eq_true rfl) rfl ?_
  refine qi_iload_n (i := 3) (x := nI 9) dJ1_indexOf_4cfef_15 rfl rfl ?_
  refine qi_aload_n (i := 0) (x := 1000003 + 1) dJ1_indexOf_4cfef_16 rfl rfl ?_
  refine qi_sblen hi dJ1_indexOf_4cfef_17 ?_
  refine qe_top (y := nI 9) rfl ?_
  refine qi_min mlJ1_38.1 mt_min_s mt_i mt_min_c dJ1_indexOf_4cfef_18 (Nat.le_of_ble_eq_true rfl) ⟨(Nat.le_of_ble_eq_true rfl), (Nat.le_of_ble_eq_true rfl)⟩ ⟨(Nat.le_of_ble_eq_true rfl), (Nat.le_of_ble_eq_true rfl)⟩ ?_
  refine qe_top (y := nI 9) (ite_self _) ?_
  refine qi_istore_n (i := 3) (L2 := [some (.ref (1000003 + 1)), some (.int (nI c)), some (.int 0), some (.int (nI 9))]) dJ1_indexOf_4cfef_21 rfl (Nat.le_of_ble_eq_true rfl) rfl ?_
  refine qi_iload_n (i := 2) (x := 0) dJ1_indexOf_4cfef_22 rfl rfl ?_
  refine qi_iload_n (i := 3) (x := nI 9) dJ1_indexOf_4cfef_23 rfl rfl ?_
  refine qi_icmp_lt (tgt := 29) dJ1_indexOf_4cfef_24 (by decide) (fun z => ?_) (fun z => False.elim ((z (by decide))))
  refine qi_aload_n (i := 0) (x := 1000003 + 1) dJ1_indexOf_4cfef_29 rfl rfl ?_
  refine qi_iload_n (i := 1) (x := nI c) dJ1_indexOf_4cfef_30 rfl rfl ?_
  refine qi_iload_n (i := 2) (x := 0) dJ1_indexOf_4cfef_31 rfl rfl ?_
  refine qi_iload_n (i := 3) (x := nI 9) dJ1_indexOf_4cfef_32 rfl rfl ?_
  refine qi_callzS (K' := kJ1_indexOfChar_4cfef) (As := [.ref (1000003 + 1), .int (nI c), .int 0, .int (nI 9)]) mlJ1_95 okJ1_indexOfChar_4cfef dJ1_indexOf_4cfef_33 (c_ixChar g hc) rfl rfl (Nat.le_of_ble_eq_true rfl) ⟨(Nat.le_of_ble_eq_true rfl), (Nat.le_of_ble_eq_true rfl)⟩ ⟨Nat.le_of_ble_eq_true rfl, Nat.le_of_ble_eq_true rfl⟩ ?_
  show qT g kJ1_indexOf_4cfef (qR 1 0 0) (qZ g (fun r n' M' => n' = n ∧ r = (some (.int (ixG c 0 9))) ∧ M' = M) 0 0) 36 [some (.ref (1000003 + 1)), some (.int (nI c)), some (.int 0), some (.int (nI 9))] [.int (ixG c 0 9)] n M (0, 0)
  exact qi_ireturn rfl rfl dJ1_indexOf_4cfef_36 ⟨by decide, by decide⟩ ⟨rfl, rfl, rfl⟩
theorem c_indexOf2 (g : qG) {n : Nat} {M : qM} {c : Nat} (hc : c < 256) : qPz g 2 kJ0_indexOf_7cf53 [.ref (1000001 + 1), .int (nI c), .int 0] n M (some (.int (ixG c 0 9))) := by
  have hi : 1 < 2 := by decide
  refine qPz.of (j := 0) (pn_RJ0) rfl ?_
  show qT g kJ0_indexOf_7cf53 (qR 2 0 0) (qZ g (fun r n' M' => n' = n ∧ r = (some (.int (ixG c 0 9))) ∧ M' = M) 0 0) 0 [some (.ref (1000001 + 1)), some (.int (nI c)), some (.int 0)] [] n M (0, 0)
  refine qi_aload_n (i := 0) (x := 1000001 + 1) dJ0_indexOf_7cf53_0 rfl rfl ?_
  refine qi_callzT (K' := kJ0_isLatin1_aae02) (As := []) mlJ0_492 okJ0_isLatin1_aae02 dJ0_indexOf_7cf53_1 (c_isLatin1 g hi) hi rfl rfl rfl (Nat.le_of_ble_eq_true rfl) ⟨(Nat.le_of_ble_eq_true rfl), (Nat.le_of_ble_eq_true rfl)⟩ ⟨Nat.le_of_ble_eq_true rfl, Nat.le_of_ble_eq_true rfl⟩ ?_
  show qT g kJ0_indexOf_7cf53 (qR 2 0 0) (qZ g (fun r n' M' => n' = n ∧ r = (some (.int (ixG c 0 9))) ∧ M' = M) 0 0) 4 [some (.ref (1000001 + 1)), some (.int (nI c)), some (.int 0)] [.int 1] n M (0, 0)
  refine qi_if_eq (tgt := 23) dJ0_indexOf_7cf53_4 (by decide) (fun z => False.elim ((by cases z))) (fun z => ?_)
  refine qi_aload_n (i := 0) (x := 1000001 + 1) dJ0_indexOf_7cf53_7 rfl rfl ?_
  refine qi_sval rfl hi dJ0_indexOf_7cf53_8 ?_
  refine qi_iload_n (i := 1) (x := nI c) dJ0_indexOf_7cf53_11 rfl rfl ?_
  refine qi_iload_n (i := 2) (x := 0) dJ0_indexOf_7cf53_12 rfl rfl ?_
  refine qi_aload_n (i := 0) (x := 1000001 + 1) dJ0_indexOf_7cf53_13 rfl rfl ?_
  refine qi_callzT (K' := kJ0_length_8abf5) (As := []) mlJ0_505 okJ0_length_8abf5 dJ0_indexOf_7cf53_14 (c_slength g hi) hi rfl rfl rfl (Nat.le_of_ble_eq_true rfl) ⟨(Nat.le_of_ble_eq_true rfl), (Nat.le_of_ble_eq_true rfl)⟩ ⟨Nat.le_of_ble_eq_true rfl, Nat.le_of_ble_eq_true rfl⟩ ?_
  show qT g kJ0_indexOf_7cf53 (qR 2 0 0) (qZ g (fun r n' M' => n' = n ∧ r = (some (.int (ixG c 0 9))) ∧ M' = M) 0 0) 17 [some (.ref (1000001 + 1)), some (.int (nI c)), some (.int 0)] [.int (nI (qlen.getD 1 0)), .int 0, .int (nI c), .ref (1000003 + 1)] n M (0, 0)
  refine qe_top (y := nI 9) rfl ?_
  refine qi_callzS (K' := kJ1_indexOf_4cfef) (As := [.ref (1000003 + 1), .int (nI c), .int 0, .int (nI 9)]) mlJ0_637 okJ1_indexOf_4cfef dJ0_indexOf_7cf53_17 (c_indexOf1 g hc) rfl rfl (Nat.le_of_ble_eq_true rfl) ⟨(Nat.le_of_ble_eq_true rfl), (Nat.le_of_ble_eq_true rfl)⟩ ⟨Nat.le_of_ble_eq_true rfl, Nat.le_of_ble_eq_true rfl⟩ ?_
  show qT g kJ0_indexOf_7cf53 (qR 2 0 0) (qZ g (fun r n' M' => n' = n ∧ r = (some (.int (ixG c 0 9))) ∧ M' = M) 0 0) 20 [some (.ref (1000001 + 1)), some (.int (nI c)), some (.int 0)] [.int (ixG c 0 9)] n M (0, 0)
  refine qi_goto (tgt := 36) dJ0_indexOf_7cf53_20 (by decide) ?_
  exact qi_ireturn rfl rfl dJ0_indexOf_7cf53_36 ⟨by decide, by decide⟩ ⟨rfl, rfl, rfl⟩
theorem c_indexOf (g : qG) {n : Nat} {M : qM} {c : Nat} (hc : c < 256) : qPz g 3 kJ0_indexOf_0f7a4 [.ref (1000001 + 1), .int (nI c)] n M (some (.int (ixG c 0 9))) := by
  have hi : 1 < 2 := by decide
  refine qPz.of (j := 0) (pn_RJ0) rfl ?_
  show qT g kJ0_indexOf_0f7a4 (qR 3 0 0) (qZ g (fun r n' M' => n' = n ∧ r = (some (.int (ixG c 0 9))) ∧ M' = M) 0 0) 0 [some (.ref (1000001 + 1)), some (.int (nI c))] [] n M (0, 0)
  refine qi_aload_n (i := 0) (x := 1000001 + 1) dJ0_indexOf_0f7a4_0 rfl rfl ?_
  refine qi_iload_n (i := 1) (x := nI c) dJ0_indexOf_0f7a4_1 rfl rfl ?_
  refine qi_iconst (v := 0) dJ0_indexOf_0f7a4_2 rfl ?_
  refine qi_callzT (K' := kJ0_indexOf_7cf53) (As := [.int (nI c), .int 0]) mlJ0_633 okJ0_indexOf_7cf53 dJ0_indexOf_0f7a4_3 (c_indexOf2 g hc) hi rfl rfl rfl (Nat.le_of_ble_eq_true rfl) ⟨(Nat.le_of_ble_eq_true rfl), (Nat.le_of_ble_eq_true rfl)⟩ ⟨Nat.le_of_ble_eq_true rfl, Nat.le_of_ble_eq_true rfl⟩ ?_
  show qT g kJ0_indexOf_0f7a4 (qR 3 0 0) (qZ g (fun r n' M' => n' = n ∧ r = (some (.int (ixG c 0 9))) ∧ M' = M) 0 0) 6 [some (.ref (1000001 + 1)), some (.int (nI c))] [.int (ixG c 0 9)] n M (0, 0)
  exact qi_ireturn rfl rfl dJ0_indexOf_0f7a4_6 ⟨by decide, by decide⟩ ⟨rfl, rfl, rfl⟩
