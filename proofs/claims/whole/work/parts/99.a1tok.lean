/-! reading: bytes and tokens -/
/-- the reference's text -/
def qTxM (M : qM) (t : qTp) : Prop := M.1 280 4 = nI t.1 ∧ ∀ k, k < t.1 → (∃ z : Int8, M.1 282 k = z.toInt32) ∧ M.1 282 k &&& 255 = nI (t.2 k)
def byQ (t : qTp) (k : Nat) : Nat := if k < t.1 then t.2 k else 0
theorem c_X12_byteAt (g : qG) {M : qM} (hM : qRf M) {t : qTp} (hT : qTxM M t) (h2 : t.1 ≤ 2000) {k : Nat} (hk : k < 2 ^ 31) : qI g 0 kX12_byteAt [.ref 280, .int (nI k)] M (fun r M' => r = nI (byQ t k) ∧ M' = M) := by
  unfold byQ
  by_cases hc : k < t.1
  · rw [if_pos hc]
    refine qI.of (j := 0) (pn_RX12) rfl ?_
    show qT g kX12_byteAt (qR 0 0 0) (qZI g (fun r M' => r = (nI (t.2 k)) ∧ M' = M)) 0 [some (.ref 280), some (.int (nI k))] [] 333 M (0, 0)
    refine qi_iload_n (i := 1) (x := nI k) dX12_byteAt_0 rfl rfl ?_
    refine qi_aload_n (i := 0) (x := 280) dX12_byteAt_1 rfl rfl ?_
    refine qi_getI (x := nI t.1) flX12_187 dX12_byteAt_2 rfl (by decide) hT.1 ?_
    refine qi_icmp_ge (tgt := 21) dX12_byteAt_5 (by decide) (fun _h => absurd ((nI_leI (a := t.1) (b := k) (by omega) (by omega)).mp _h) (by omega)) (fun _hc => ?_)
    refine qi_aload_n (i := 0) (x := 280) dX12_byteAt_8 rfl rfl ?_
    refine qi_getR (x := 282) flX12_17 dX12_byteAt_9 rfl (by decide) (hM 280 3 282 rfl) ?_
    refine qi_iload_n (i := 1) (x := nI k) dX12_byteAt_12 rfl rfl ?_
    refine qi_baldN (x := M.1 282 k) (j := k) dX12_byteAt_13 rfl (by decide) rfl (by omega) (by decide) rfl ?_
    refine qi_sipush (v := 255) dX12_byteAt_14 rfl ?_
    refine qi_iand dX12_byteAt_17 ?_
    refine qi_goto (tgt := 22) dX12_byteAt_18 (by decide) ?_
    exact qi_retI rfl rfl dX12_byteAt_22 (⟨(hT.2 k hc).2, rfl⟩)
  · rw [if_neg hc]
    refine qI.of (j := 0) (pn_RX12) rfl ?_
    show qT g kX12_byteAt (qR 0 0 0) (qZI g (fun r M' => r = (nI 0) ∧ M' = M)) 0 [some (.ref 280), some (.int (nI k))] [] 333 M (0, 0)
    refine qi_iload_n (i := 1) (x := nI k) dX12_byteAt_0 rfl rfl ?_
    refine qi_aload_n (i := 0) (x := 280) dX12_byteAt_1 rfl rfl ?_
    refine qi_getI (x := nI t.1) flX12_187 dX12_byteAt_2 rfl (by decide) hT.1 ?_
    refine qi_icmp_ge (tgt := 21) dX12_byteAt_5 (by decide) (fun _hc => ?_) (fun _h => absurd ((nI_leI (a := t.1) (b := k) (by omega) (by omega)).mpr (by omega)) _h)
    refine qi_iconst (v := 0) dX12_byteAt_21 rfl ?_
    exact qi_retI rfl rfl dX12_byteAt_22 (⟨rfl, rfl⟩)
