/-! the reference's tokens -/
def kmQ (k : Nat) : Nat := if k = 134 then 27 else if k = 135 then 26 else if 128 ≤ k then k - 108 else if k = 0 then 0 else if k = 1 then 3 else if k = 2 then 1 else if k = 3 then 2 else if k = 59 then 4 else if k = 61 then 5 else if k = 40 then 6 else if k = 41 then 7 else if k = 43 then 8 else if k = 45 then 9 else if k = 42 then 10 else if k = 60 then 13 else if k = 47 then 15 else 99
def cvQ : Nat → Nat → Nat
  | 0, _ => 0
  | n + 1, v => cvQ n (v / 32) * 27 + v % 32
def dgQ : Nat → Nat → Prop
  | 0, v => v = 0
  | n + 1, v => v % 32 ≤ 26 ∧ dgQ n (v / 32)
theorem cv_inj : ∀ n v w, dgQ n v → dgQ n w → cvQ n v = cvQ n w → v = w
  | 0, v, w, h1, h2, _ => h1.trans h2.symm
  | n + 1, v, w, h1, h2, e => by
    have e2 : cvQ n (v / 32) * 27 + v % 32 = cvQ n (w / 32) * 27 + w % 32 := e
    have a1 := h1.1
    have a2 := h2.1
    have := cv_inj n (v / 32) (w / 32) h1.2 h2.2 (by omega)
    omega
theorem cv_s : ∀ n v, dgQ n v → cvQ (n + 1) v = cvQ n v
  | 0, v, h => by
    have : v = 0 := h
    subst this
    rfl
  | n + 1, v, h => by
    show cvQ (n + 1) (v / 32) * 27 + v % 32 = cvQ n (v / 32) * 27 + v % 32
    rw [cv_s n (v / 32) h.2]
theorem dg_s : ∀ n v, dgQ n v → dgQ (n + 1) v
  | 0, v, h => by
    have : v = 0 := h
    subst this
    exact ⟨by decide, rfl⟩
  | n + 1, v, h => ⟨h.1, dg_s n (v / 32) h.2⟩
theorem dg_add {n v : Nat} (h : dgQ n v) : ∀ m, dgQ (n + m) v ∧ cvQ (n + m) v = cvQ n v
  | 0 => ⟨h, rfl⟩
  | m + 1 => by
    obtain ⟨h1, h2⟩ := dg_add h m
    exact ⟨dg_s _ _ h1, (cv_s _ _ h1).trans h2⟩
theorem vL_dg {t : qTp} {a : Nat} : ∀ n, n ≤ lnQ t a → dgQ n (vLQ t a n)
  | 0, _ => rfl
  | n + 1, h => by
    have ih := vL_dg (t := t) (a := a) n (by omega)
    have hl := runQ_all 2001 a n (show n < lnQ t a by omega)
    have h2 := lqB_i.mp hl
    rw [byQ_in (lqB_lt hl)] at h2
    unfold isLq at h2
    show (vLQ t a n * 32 + (t.2 (a + n) - 96)) % 32 ≤ 26 ∧ dgQ n ((vLQ t a n * 32 + (t.2 (a + n) - 96)) / 32)
    rw [show (vLQ t a n * 32 + (t.2 (a + n) - 96)) / 32 = vLQ t a n by omega]
    exact ⟨by omega, ih⟩
theorem vL_cv {t : qTp} {a n : Nat} (h : n < lnQ t a) : cvQ (n + 1) (vLQ t a (n + 1)) = 27 * cvQ n (vLQ t a n) + (t.2 (a + n) - 96) := by
  have hl := runQ_all 2001 a n h
  have h2 := lqB_i.mp hl
  rw [byQ_in (lqB_lt hl)] at h2
  unfold isLq at h2
  show cvQ n ((vLQ t a n * 32 + (t.2 (a + n) - 96)) / 32) * 27 + (vLQ t a n * 32 + (t.2 (a + n) - 96)) % 32 = _
  rw [show (vLQ t a n * 32 + (t.2 (a + n) - 96)) / 32 = vLQ t a n by omega]
  omega
theorem vL_ge {t : qTp} {a : Nat} : ∀ n, n < lnQ t a → 32 ^ n ≤ vLQ t a (n + 1)
  | 0, h => by
    have hl := runQ_all 2001 a 0 h
    have h2 := lqB_i.mp hl
    rw [byQ_in (lqB_lt hl)] at h2
    unfold isLq at h2
    show 1 ≤ 0 * 32 + (t.2 (a + 0) - 96)
    omega
  | n + 1, h => by
    have ih := vL_ge (t := t) (a := a) n (by omega)
    show 32 ^ (n + 1) ≤ vLQ t a (n + 1) * 32 + (t.2 (a + (n + 1)) - 96)
    rw [Nat.pow_succ]
    omega
def swQ (k : Nat) : Nat := if k = 6 then 7 else if k = 7 then 6 else k
theorem sw_all : ∀ k, k < 17 → wd27 k = cvQ 8 (wd5 (swQ k)) ∧ swQ k < 17 := by decide
theorem wd_dg : ∀ k, k < 17 → (wd5 k % 32 ≤ 26 ∧ wd5 k / 32 % 32 ≤ 26 ∧ wd5 k / 32 / 32 % 32 ≤ 26 ∧ wd5 k / 32 / 32 / 32 % 32 ≤ 26 ∧ wd5 k / 32 / 32 / 32 / 32 % 32 ≤ 26 ∧ wd5 k / 32 / 32 / 32 / 32 / 32 % 32 ≤ 26 ∧ wd5 k / 32 / 32 / 32 / 32 / 32 / 32 % 32 ≤ 26 ∧ wd5 k / 32 / 32 / 32 / 32 / 32 / 32 / 32 % 32 ≤ 26 ∧ wd5 k / 32 / 32 / 32 / 32 / 32 / 32 / 32 / 32 = 0) := by decide
/-- the reference's kind of a word, with the first k words looked at -/
def kzQ (nm : Nat) : Nat → Nat
  | 0 => 1
  | k + 1 => if wd27 k = nm then 20 + k else kzQ nm k
theorem kz_lt (nm : Nat) : ∀ k, kzQ nm k < 20 + k ∨ kzQ nm k = 1
  | 0 => Or.inr rfl
  | k + 1 => by
    unfold kzQ
    split
    · omega
    · have := kz_lt nm k
      omega
theorem kz_all : ∀ k, k < 17 → kzQ (cvQ 8 (wd5 k)) 17 = kmQ (kwG (wd5 k) 0 17) := by decide
theorem kz_no {nm : Nat} : ∀ k, (∀ j, j < k → ¬ wd27 j = nm) → kzQ nm k = 1
  | 0, _ => rfl
  | k + 1, h => by
    unfold kzQ
    rw [if_neg (h k (by omega))]
    exact kz_no k (fun j hj => h j (by omega))
theorem kw_no {v : Nat} : ∀ m w, (∀ j, w ≤ j → j < w + m → ¬ wd5 j = v) → kwG v w m = 2
  | 0, w, _ => rfl
  | m + 1, w, h => by
    unfold kwG
    rw [if_neg (h w (by omega) (by omega))]
    exact kw_no m (w + 1) (fun j h1 h2 => h j (by omega) (by omega))
theorem kz_is {v : Nat} (hv : dgQ 8 v) : kzQ (cvQ 8 v) 17 = kmQ (kwG v 0 17) := by
  by_cases c : ∃ k, k < 17 ∧ wd5 k = v
  · obtain ⟨k, hk, rfl⟩ := c
    exact kz_all k hk
  · rw [kw_no 17 0 (fun j _ hj e => c ⟨j, by omega, e⟩), kz_no 17 (fun j hj e => c ?_)]
    · rfl
    · obtain ⟨e1, e2⟩ := sw_all j hj
      exact ⟨swQ j, e2, cv_inj 8 _ _ (wd_dg (swQ j) e2) hv (by rw [← e1, e])⟩
theorem kw_big {v : Nat} (hv : 2 ^ 35 ≤ v) : kwG v 0 17 = 2 := kw_no 17 0 (fun j _ hj e => by
  have := (show ∀ i, i < 17 → wd5 i < 2 ^ 35 by decide) j (by omega)
  omega)
/-- the tokens so far; at the end -/
def qTkM (M : qM) (T : qTk) : Prop := T.1 ≤ 401 ∧ M.1 280 10 = nI T.1 ∧ ∀ i, i < T.1 → M.1 283 i = nI (kmQ (T.2.2.1 i)) ∧ M.1 284 i = nI (T.2.2.2.1 i) ∧ (T.2.2.1 i = 3 → M.1 285 i = nI (T.2.2.2.2 i)) ∧ (T.2.2.1 i = 2 → M.2.1 286 i = lN (cvQ 8 (T.2.2.2.2 i)))
def qTkE (M : qM) (T : qTk) : Prop := ∀ i, i ≤ T.1 → i ≤ 400 → M.1 283 i = nI (kmQ (kAt T i)) ∧ M.1 284 i = nI (pAt T i) ∧ (kAt T i = 3 → M.1 285 i = nI (vAt T i)) ∧ (kAt T i = 2 → M.2.1 286 i = lN (cvQ 8 (vAt T i)))
def tokW (M : qM) (n : Nat) (k p v : Int32) (x : Int64) : qM := wI (wJ (wI (wI (wI M 283 n k) 284 n p) 285 n v) 286 n x) 280 10 (nI (n + 1))
def SCu : Nat → Nat → Prop := fun b j => (283 ≤ b ∧ b ≤ 286) ∨ (b = 280 ∧ j = 10)
theorem tokW_fr {M : qM} {n : Nat} {k p v : Int32} {x : Int64} : qFr SCu M (tokW M n k p v x) := ((((qFr.rf.wI (by unfold SCu; omega)).wI (by unfold SCu; omega)).wI (by unfold SCu; omega)).wJ (by unfold SCu; omega)).wI (by unfold SCu; omega)
theorem tokW_at (M : qM) (n : Nat) (k p v : Int32) (x : Int64) : (tokW M n k p v x).1 283 n = k ∧ (tokW M n k p v x).1 284 n = p ∧ (tokW M n k p v x).1 285 n = v ∧ (tokW M n k p v x).2.1 286 n = x ∧ (tokW M n k p v x).1 280 10 = nI (n + 1) := by
  unfold tokW
  refine ⟨?_, ?_, ?_, ?_, ?_⟩ <;> simp [wI_1, wJ_1, wI_2, wJ_2]
theorem tokW_lo (M : qM) (n : Nat) (k p v : Int32) (x : Int64) {i : Nat} (h : i ≠ n) : (tokW M n k p v x).1 283 i = M.1 283 i ∧ (tokW M n k p v x).1 284 i = M.1 284 i ∧ (tokW M n k p v x).1 285 i = M.1 285 i ∧ (tokW M n k p v x).2.1 286 i = M.2.1 286 i := by
  unfold tokW
  refine ⟨?_, ?_, ?_, ?_⟩ <;> simp [wI_1, wJ_1, wI_2, wJ_2, h]
theorem c_X12_token (g : qG) {M : qM} (hM : qRf M) {n : Nat} (hn : M.1 280 10 = nI n) (h4 : n ≤ 401) (k p v : Int32) (x : Int64) : qV g 0 kX12_token [.ref 280, .int k, .int p, .int v, .long x] M (fun M' => M' = tokW M n k p v x) := by
  refine qV.of (j := 0) (pn_RX12) rfl ?_
  show qT g kX12_token (qR 0 0 0) (qZV g (fun M' => M' = tokW M n k p v x)) 0 [some (.ref 280), some (.int k), some (.int p), some (.int v), some (.long x), none] [] 333 M (0, 0)
  refine qi_aload_n (i := 0) (x := 280) dX12_token_0 rfl rfl ?_
  refine qi_getR (x := 283) flX12_20 dX12_token_1 rfl (by decide) (hM 280 5 283 rfl) ?_
  refine qi_aload_n (i := 0) (x := 280) dX12_token_4 rfl rfl ?_
  refine qi_getI (x := nI n) flX12_196 dX12_token_5 rfl (by decide) hn ?_
  refine qi_iload_n (i := 1) (x := k) dX12_token_8 rfl rfl ?_
  refine qi_iastN (j := n) dX12_token_9 rfl (by decide) rfl (by omega) (by decide) ?_
  refine qi_aload_n (i := 0) (x := 280) dX12_token_10 rfl rfl ?_
  refine qi_getR (x := 284) flX12_24 dX12_token_11 rfl (by decide) (hM 280 6 284 rfl) ?_
  refine qi_aload_n (i := 0) (x := 280) dX12_token_14 rfl rfl ?_
  refine qi_getI (x := nI n) flX12_196 dX12_token_15 rfl (by decide) ((wI_a (by decide)).trans hn) ?_
  refine qi_iload_n (i := 2) (x := p) dX12_token_18 rfl rfl ?_
  refine qi_iastN (j := n) dX12_token_19 rfl (by decide) rfl (by omega) (by decide) ?_
  refine qi_aload_n (i := 0) (x := 280) dX12_token_20 rfl rfl ?_
  refine qi_getR (x := 285) flX12_27 dX12_token_21 rfl (by decide) (hM 280 7 285 rfl) ?_
  refine qi_aload_n (i := 0) (x := 280) dX12_token_24 rfl rfl ?_
  refine qi_getI (x := nI n) flX12_196 dX12_token_25 rfl (by decide) ((wI_a (by decide)).trans ((wI_a (by decide)).trans hn)) ?_
  refine qi_iload_n (i := 3) (x := v) dX12_token_28 rfl rfl ?_
  refine qi_iastN (j := n) dX12_token_29 rfl (by decide) rfl (by omega) (by decide) ?_
  refine qi_aload_n (i := 0) (x := 280) dX12_token_30 rfl rfl ?_
  refine qi_getR (x := 286) flX12_30 dX12_token_31 rfl (by decide) (hM 280 8 286 rfl) ?_
  refine qi_aload_n (i := 0) (x := 280) dX12_token_34 rfl rfl ?_
  refine qi_getI (x := nI n) flX12_196 dX12_token_35 rfl (by decide) ((wI_a (by decide)).trans ((wI_a (by decide)).trans ((wI_a (by decide)).trans hn))) ?_
  refine qi_lload (i := 4) (x := x) dX12_token_38 rfl ?_
  refine qi_lastN (j := n) dX12_token_40 rfl (by decide) rfl (by omega) (by decide) ?_
  refine qi_aload_n (i := 0) (x := 280) dX12_token_41 rfl rfl ?_
  refine qi_dup dX12_token_42 ?_
  refine qi_getI (x := nI n) flX12_196 dX12_token_43 rfl (by decide) ((congrFun (congrFun (wJ_1 _ _ _ _) _) _).trans ((wI_a (by decide)).trans ((wI_a (by decide)).trans ((wI_a (by decide)).trans hn)))) ?_
  refine qi_iconst (v := 1) dX12_token_46 rfl ?_
  refine qi_iadd dX12_token_47 ?_
  refine qe_top (y := nI (n + 1)) (nI_1 n) ?_
  refine qi_putI flX12_196 q_cls12 (ty12_10 _) dX12_token_48 rfl (by decide) ?_
  exact qi_retV rfl dX12_token_51 (rfl)
theorem qTkM.add {M : qM} {T : qTk} (h : qTkM M T) (h4 : T.1 ≤ 400) (k p v : Nat) {y : Int32} {x : Int64} (hy : k = 3 → y = nI v) (hx : k = 2 → x = lN (cvQ 8 v)) : qTkM (tokW M T.1 (nI (kmQ k)) (nI p) y x) (addT T k p v) := by
  unfold addT
  rw [if_pos (by omega)]
  obtain ⟨h1, h2, h3⟩ := h
  obtain ⟨a1, a2, a3, a4, a5⟩ := tokW_at M T.1 (nI (kmQ k)) (nI p) y x
  refine ⟨show T.1 + 1 ≤ 401 by omega, a5, fun i hi => ?_⟩
  have hi2 : i < T.1 + 1 := hi
  simp only [updF]
  by_cases e : i = T.1
  · subst e
    rw [if_pos rfl, if_pos rfl, if_pos rfl]
    exact ⟨a1, a2, fun z => a3.trans (hy z), fun z => a4.trans (hx z)⟩
  · rw [if_neg e, if_neg e, if_neg e]
    obtain ⟨b1, b2, b3, b4⟩ := tokW_lo M T.1 (nI (kmQ k)) (nI p) y x e
    rw [b1, b2, b3, b4]
    exact h3 i (by omega)
theorem qTkM.fin {M : qM} {T : qTk} (h : qTkM M T) {x : Int64} : qTkE (tokW M T.1 (nI 0) (nI T.2.1) 0 x) T := by
  obtain ⟨h1, h2, h3⟩ := h
  obtain ⟨a1, a2, a3, a4, a5⟩ := tokW_at M T.1 (nI 0) (nI T.2.1) 0 x
  intro i hi h4
  unfold kAt pAt vAt
  by_cases e : i = T.1
  · subst e
    rw [if_neg (Nat.lt_irrefl _), if_neg (Nat.lt_irrefl _), if_neg (Nat.lt_irrefl _)]
    exact ⟨a1, a2, fun z => absurd z (by decide), fun z => absurd z (by decide)⟩
  · rw [if_pos (by omega), if_pos (by omega), if_pos (by omega)]
    obtain ⟨b1, b2, b3, b4⟩ := tokW_lo M T.1 (nI 0) (nI T.2.1) 0 x e
    rw [b1, b2, b3, b4]
    exact h3 i (by omega)
theorem qTkM.full {M : qM} {T : qTk} (h : qTkM M T) (h4 : 400 < T.1) : qTkE M T := by
  obtain ⟨h1, h2, h3⟩ := h
  intro i hi h5
  unfold kAt pAt vAt
  rw [if_pos (by omega), if_pos (by omega), if_pos (by omega)]
  exact h3 i (by omega)
theorem c_X12_sign (g : qG) {M : qM} (hM : qRf M) {n : Nat} (hn : M.1 280 10 = nI n) (h4 : n ≤ 401) {c : Nat} (hc : c < 256) (i d : Int32) : qI g 1 kX12_sign [.ref 280, .int i, .int (nI c), .int d] M (fun r M' => r = 1 ∧ M' = tokW M n (nI (kmQ (sgQ c))) i 0 0) := by
  have S95 : ∀ k, k = kmQ (sgQ c) → qT g kX12_sign (qR 1 0 0) (qZI g (fun r M' => r = 1 ∧ M' = tokW M n (nI (kmQ (sgQ c))) i 0 0)) 95 [some (.ref 280), some (.int i), some (.int (nI c)), some (.int d), some (.int (nI k))] [] 333 M (0, 0) := by
    intro k hk
    refine qi_aload_n (i := 0) (x := 280) dX12_sign_95 rfl rfl ?_
    refine qi_iload (i := 4) (x := nI k) dX12_sign_96 rfl ?_
    refine qi_iload_n (i := 1) (x := i) dX12_sign_98 rfl rfl ?_
    refine qi_iconst (v := 0) dX12_sign_99 rfl ?_
    refine qi_lconst (v := 0) dX12_sign_100 rfl ?_
    refine qi_callVV (K' := kX12_token) (As := [.int (nI k), .int i, .int 0, .long 0]) mlX12_203 okX12_token dX12_sign_101 (c_X12_token g hM hn h4 (nI k) i 0 0) rfl (by decide) rfl (by decide) rfl rfl (Nat.le_of_ble_eq_true rfl) ⟨(Nat.le_of_ble_eq_true rfl), (Nat.le_of_ble_eq_true rfl)⟩ ⟨Nat.le_refl _, Nat.le_refl _⟩ (fun M1 e1 => ?_)
    refine qi_iconst (v := 1) dX12_sign_104 rfl ?_
    exact qi_retI rfl rfl dX12_sign_105 (⟨rfl, by rw [e1, hk]⟩)
  have S85 : ∀ k, (c ≠ 60 → k = kmQ (sgQ c)) → qT g kX12_sign (qR 1 0 0) (qZI g (fun r M' => r = 1 ∧ M' = tokW M n (nI (kmQ (sgQ c))) i 0 0)) 85 [some (.ref 280), some (.int i), some (.int (nI c)), some (.int d), some (.int (nI k))] [] 333 M (0, 0) := by
    intro k hk
    by_cases h : c = 60
    ·
      refine qi_iload_n (i := 2) (x := nI c) dX12_sign_85 rfl rfl ?_
      refine qi_bipush (v := 60) dX12_sign_86 rfl ?_
      refine qi_icmp_ne (tgt := 95) dX12_sign_88 (by decide) (fun _h => absurd ((nI_eq (a := c) (b := 60) (by omega) (by omega)).mpr (by omega)) _h) (fun _hc => ?_)
      refine qi_bipush (v := 13) dX12_sign_91 rfl ?_
      refine qi_istore (i := 4) (L2 := [some (.ref 280), some (.int i), some (.int (nI c)), some (.int d), some (.int 13)]) dX12_sign_93 (Nat.le_of_ble_eq_true rfl) rfl ?_
      exact S95 13 (by rw [h]; rfl)
    ·
      refine qi_iload_n (i := 2) (x := nI c) dX12_sign_85 rfl rfl ?_
      refine qi_bipush (v := 60) dX12_sign_86 rfl ?_
      refine qi_icmp_ne (tgt := 95) dX12_sign_88 (by decide) (fun _hc => ?_) (fun _h => absurd ((nI_eq (a := c) (b := 60) (by omega) (by omega)).mp _h) (by omega))
      exact S95 k (hk h)
  have S75 : ∀ k, (c ≠ 60 → c ≠ 47 → k = kmQ (sgQ c)) → qT g kX12_sign (qR 1 0 0) (qZI g (fun r M' => r = 1 ∧ M' = tokW M n (nI (kmQ (sgQ c))) i 0 0)) 75 [some (.ref 280), some (.int i), some (.int (nI c)), some (.int d), some (.int (nI k))] [] 333 M (0, 0) := by
    intro k hk
    by_cases h : c = 47
    ·
      refine qi_iload_n (i := 2) (x := nI c) dX12_sign_75 rfl rfl ?_
      refine qi_bipush (v := 47) dX12_sign_76 rfl ?_
      refine qi_icmp_ne (tgt := 85) dX12_sign_78 (by decide) (fun _h => absurd ((nI_eq (a := c) (b := 47) (by omega) (by omega)).mpr (by omega)) _h) (fun _hc => ?_)
      refine qi_bipush (v := 15) dX12_sign_81 rfl ?_
      refine qi_istore (i := 4) (L2 := [some (.ref 280), some (.int i), some (.int (nI c)), some (.int d), some (.int 15)]) dX12_sign_83 (Nat.le_of_ble_eq_true rfl) rfl ?_
      exact S85 15 (fun _ => by rw [h]; rfl)
    ·
      refine qi_iload_n (i := 2) (x := nI c) dX12_sign_75 rfl rfl ?_
      refine qi_bipush (v := 47) dX12_sign_76 rfl ?_
      refine qi_icmp_ne (tgt := 85) dX12_sign_78 (by decide) (fun _hc => ?_) (fun _h => absurd ((nI_eq (a := c) (b := 47) (by omega) (by omega)).mp _h) (by omega))
      exact S85 k (fun z => hk z h)
  have S65 : ∀ k, (c ≠ 60 → c ≠ 47 → c ≠ 42 → k = kmQ (sgQ c)) → qT g kX12_sign (qR 1 0 0) (qZI g (fun r M' => r = 1 ∧ M' = tokW M n (nI (kmQ (sgQ c))) i 0 0)) 65 [some (.ref 280), some (.int i), some (.int (nI c)), some (.int d), some (.int (nI k))] [] 333 M (0, 0) := by
    intro k hk
    by_cases h : c = 42
    ·
      refine qi_iload_n (i := 2) (x := nI c) dX12_sign_65 rfl rfl ?_
      refine qi_bipush (v := 42) dX12_sign_66 rfl ?_
      refine qi_icmp_ne (tgt := 75) dX12_sign_68 (by decide) (fun _h => absurd ((nI_eq (a := c) (b := 42) (by omega) (by omega)).mpr (by omega)) _h) (fun _hc => ?_)
      refine qi_bipush (v := 10) dX12_sign_71 rfl ?_
      refine qi_istore (i := 4) (L2 := [some (.ref 280), some (.int i), some (.int (nI c)), some (.int d), some (.int 10)]) dX12_sign_73 (Nat.le_of_ble_eq_true rfl) rfl ?_
      exact S75 10 (fun _ _ => by rw [h]; rfl)
    ·
      refine qi_iload_n (i := 2) (x := nI c) dX12_sign_65 rfl rfl ?_
      refine qi_bipush (v := 42) dX12_sign_66 rfl ?_
      refine qi_icmp_ne (tgt := 75) dX12_sign_68 (by decide) (fun _hc => ?_) (fun _h => absurd ((nI_eq (a := c) (b := 42) (by omega) (by omega)).mp _h) (by omega))
      exact S75 k (fun z y => hk z y h)
  have S55 : ∀ k, (c ≠ 60 → c ≠ 47 → c ≠ 42 → c ≠ 45 → k = kmQ (sgQ c)) → qT g kX12_sign (qR 1 0 0) (qZI g (fun r M' => r = 1 ∧ M' = tokW M n (nI (kmQ (sgQ c))) i 0 0)) 55 [some (.ref 280), some (.int i), some (.int (nI c)), some (.int d), some (.int (nI k))] [] 333 M (0, 0) := by
    intro k hk
    by_cases h : c = 45
    ·
      refine qi_iload_n (i := 2) (x := nI c) dX12_sign_55 rfl rfl ?_
      refine qi_bipush (v := 45) dX12_sign_56 rfl ?_
      refine qi_icmp_ne (tgt := 65) dX12_sign_58 (by decide) (fun _h => absurd ((nI_eq (a := c) (b := 45) (by omega) (by omega)).mpr (by omega)) _h) (fun _hc => ?_)
      refine qi_bipush (v := 9) dX12_sign_61 rfl ?_
      refine qi_istore (i := 4) (L2 := [some (.ref 280), some (.int i), some (.int (nI c)), some (.int d), some (.int 9)]) dX12_sign_63 (Nat.le_of_ble_eq_true rfl) rfl ?_
      exact S65 9 (fun _ _ _ => by rw [h]; rfl)
    ·
      refine qi_iload_n (i := 2) (x := nI c) dX12_sign_55 rfl rfl ?_
      refine qi_bipush (v := 45) dX12_sign_56 rfl ?_
      refine qi_icmp_ne (tgt := 65) dX12_sign_58 (by decide) (fun _hc => ?_) (fun _h => absurd ((nI_eq (a := c) (b := 45) (by omega) (by omega)).mp _h) (by omega))
      exact S65 k (fun z y x => hk z y x h)
  have S43 : ∀ k, (c ≠ 60 → c ≠ 47 → c ≠ 42 → c ≠ 45 → c ≠ 43 → k = kmQ (sgQ c)) → qT g kX12_sign (qR 1 0 0) (qZI g (fun r M' => r = 1 ∧ M' = tokW M n (nI (kmQ (sgQ c))) i 0 0)) 43 [some (.ref 280), some (.int i), some (.int (nI c)), some (.int d), none] [.int (nI k)] 333 M (0, 0) := by
    intro k hk
    by_cases h : c = 43
    ·
      refine qi_istore (i := 4) (L2 := [some (.ref 280), some (.int i), some (.int (nI c)), some (.int d), some (.int (nI k))]) dX12_sign_43 (Nat.le_of_ble_eq_true rfl) rfl ?_
      refine qi_iload_n (i := 2) (x := nI c) dX12_sign_45 rfl rfl ?_
      refine qi_bipush (v := 43) dX12_sign_46 rfl ?_
      refine qi_icmp_ne (tgt := 55) dX12_sign_48 (by decide) (fun _h => absurd ((nI_eq (a := c) (b := 43) (by omega) (by omega)).mpr (by omega)) _h) (fun _hc => ?_)
      refine qi_bipush (v := 8) dX12_sign_51 rfl ?_
      refine qi_istore (i := 4) (L2 := [some (.ref 280), some (.int i), some (.int (nI c)), some (.int d), some (.int 8)]) dX12_sign_53 (Nat.le_of_ble_eq_true rfl) rfl ?_
      exact S55 8 (fun _ _ _ _ => by rw [h]; rfl)
    ·
      refine qi_istore (i := 4) (L2 := [some (.ref 280), some (.int i), some (.int (nI c)), some (.int d), some (.int (nI k))]) dX12_sign_43 (Nat.le_of_ble_eq_true rfl) rfl ?_
      refine qi_iload_n (i := 2) (x := nI c) dX12_sign_45 rfl rfl ?_
      refine qi_bipush (v := 43) dX12_sign_46 rfl ?_
      refine qi_icmp_ne (tgt := 55) dX12_sign_48 (by decide) (fun _hc => ?_) (fun _h => absurd ((nI_eq (a := c) (b := 43) (by omega) (by omega)).mp _h) (by omega))
      exact S55 k (fun z y x w => hk z y x w h)
  refine qI.of (j := 1) (pn_RX12) rfl ?_
  show qT g kX12_sign (qR 1 0 0) (qZI g (fun r M' => r = 1 ∧ M' = tokW M n (nI (kmQ (sgQ c))) i 0 0)) 0 [some (.ref 280), some (.int i), some (.int (nI c)), some (.int d), none] [] 333 M (0, 0)
  refine qi_iload_n (i := 2) (x := nI c) dX12_sign_0 rfl rfl ?_
  refine qi_bipush (v := 59) dX12_sign_1 rfl ?_
  by_cases h59 : c = 59
  ·
    refine qi_icmp_ne (tgt := 10) dX12_sign_3 (by decide) (fun _h => absurd ((nI_eq (a := c) (b := 59) (by omega) (by omega)).mpr (by omega)) _h) (fun _hc => ?_)
    refine qi_iconst (v := 4) dX12_sign_6 rfl ?_
    refine qi_goto (tgt := 43) dX12_sign_7 (by decide) ?_
    exact S43 4 (fun _ _ _ _ _ => by rw [h59]; rfl)
  refine qi_icmp_ne (tgt := 10) dX12_sign_3 (by decide) (fun _hc => ?_) (fun _h => absurd ((nI_eq (a := c) (b := 59) (by omega) (by omega)).mp _h) (by omega))
  refine qi_iload_n (i := 2) (x := nI c) dX12_sign_10 rfl rfl ?_
  refine qi_bipush (v := 61) dX12_sign_11 rfl ?_
  by_cases h61 : c = 61
  ·
    refine qi_icmp_ne (tgt := 20) dX12_sign_13 (by decide) (fun _h => absurd ((nI_eq (a := c) (b := 61) (by omega) (by omega)).mpr (by omega)) _h) (fun _hc => ?_)
    refine qi_iconst (v := 5) dX12_sign_16 rfl ?_
    refine qi_goto (tgt := 43) dX12_sign_17 (by decide) ?_
    exact S43 5 (fun _ _ _ _ _ => by rw [h61]; rfl)
  refine qi_icmp_ne (tgt := 20) dX12_sign_13 (by decide) (fun _hc => ?_) (fun _h => absurd ((nI_eq (a := c) (b := 61) (by omega) (by omega)).mp _h) (by omega))
  refine qi_iload_n (i := 2) (x := nI c) dX12_sign_20 rfl rfl ?_
  refine qi_bipush (v := 40) dX12_sign_21 rfl ?_
  by_cases h40 : c = 40
  ·
    refine qi_icmp_ne (tgt := 31) dX12_sign_23 (by decide) (fun _h => absurd ((nI_eq (a := c) (b := 40) (by omega) (by omega)).mpr (by omega)) _h) (fun _hc => ?_)
    refine qi_bipush (v := 6) dX12_sign_26 rfl ?_
    refine qi_goto (tgt := 43) dX12_sign_28 (by decide) ?_
    exact S43 6 (fun _ _ _ _ _ => by rw [h40]; rfl)
  refine qi_icmp_ne (tgt := 31) dX12_sign_23 (by decide) (fun _hc => ?_) (fun _h => absurd ((nI_eq (a := c) (b := 40) (by omega) (by omega)).mp _h) (by omega))
  refine qi_iload_n (i := 2) (x := nI c) dX12_sign_31 rfl rfl ?_
  refine qi_bipush (v := 41) dX12_sign_32 rfl ?_
  by_cases h41 : c = 41
  ·
    refine qi_icmp_ne (tgt := 42) dX12_sign_34 (by decide) (fun _h => absurd ((nI_eq (a := c) (b := 41) (by omega) (by omega)).mpr (by omega)) _h) (fun _hc => ?_)
    refine qi_bipush (v := 7) dX12_sign_37 rfl ?_
    refine qi_goto (tgt := 43) dX12_sign_39 (by decide) ?_
    exact S43 7 (fun _ _ _ _ _ => by rw [h41]; rfl)
  refine qi_icmp_ne (tgt := 42) dX12_sign_34 (by decide) (fun _hc => ?_) (fun _h => absurd ((nI_eq (a := c) (b := 41) (by omega) (by omega)).mp _h) (by omega))
  refine qi_iconst (v := 3) dX12_sign_42 rfl ?_
  refine S43 3 (fun q1 q2 q3 q4 q5 => ?_)
  have : sgQ c = 1 := by unfold sgQ; rw [if_neg (by omega)]
  rw [this]
  rfl
