/-! the reference's cut -/
theorem qTxM.fr {S : Nat → Nat → Prop} {M M' : qM} {t : qTp} (h : qTxM M t) (hf : qFr S M M') (hd : ∀ b j, S b j → b ≠ 282 ∧ (b = 280 → j ≠ 4)) : qTxM M' t := by
  refine ⟨(hf.1 _ _ (fun z => (hd _ _ z).2 rfl rfl)).trans h.1, fun k hk => ?_⟩
  rw [hf.1 _ _ (fun z => (hd _ _ z).1 rfl)]
  exact h.2 k hk
theorem byQ_lt {t : qTp} (ok : okTp t) (k : Nat) : byQ t k < 256 := by
  unfold byQ
  split
  · rename_i h
    exact ok.2 k h
  · decide
theorem cv_lt : ∀ n v, dgQ n v → cvQ n v < 27 ^ n
  | 0, v, _ => Nat.one_pos
  | n + 1, v, h => by
    have := cv_lt n (v / 32) h.2
    have h1 := h.1
    show cvQ n (v / 32) * 27 + v % 32 < 27 ^ (n + 1)
    rw [Nat.pow_succ]
    omega
theorem app_nat (v : Nat) {c : Nat} (h1 : 97 ≤ c) (h2 : c ≤ 122) : appQ (lN v) (nI c) = lN (27 * v + (c - 96)) := by
  unfold appQ
  rw [if_neg (nI_ne0 (by omega) (by omega)), show (97 : Int32) = nI 97 from rfl, pk_sub h1, nI_1, nI_l (by omega), show c - 97 + 1 = c - 96 by omega, show (27 : Int64) = lN 27 from rfl, pk_lMul, pk_lAdd]
theorem kw_ne3 (v : Nat) : ∀ m w, kwG v w m ≠ 3
  | 0, w => (by decide : (2 : Nat) ≠ 3)
  | m + 1, w => by
    unfold kwG
    split
    · omega
    · exact kw_ne3 v m (w + 1)
def nmQ (t : qTp) (a n : Nat) : Nat := cvQ (min n 8) (vLQ t a (min n 8))
theorem nm_lt {t : qTp} {a n : Nat} (h : n ≤ lnQ t a) : nmQ t a n < 2 ^ 63 := by
  unfold nmQ
  have h1 := cv_lt _ _ (vL_dg (t := t) (a := a) (min n 8) (by omega))
  have h2 : 27 ^ min n 8 ≤ 27 ^ 8 := Nat.pow_le_pow_right (by decide) (by omega)
  have h3 : (27 : Nat) ^ 8 < 2 ^ 63 := by decide
  omega
theorem wd27_lt : ∀ k, k < 17 → wd27 k < 2 ^ 63 := by decide
theorem cut_let (g : qG) {Z : List Frame → Array Value → State → State → Prop} {M : qM} (hM : qRf M) {t : qTp} (ok : okTp t) (hx : qTxM M t) (hk : ∀ i, i < 17 → M.2.1 287 i = lN (wd27 i)) {a c : Nat} (ha : a < t.1) {T : qTk} (hT : qTkM M T) (h4 : T.1 ≤ 400) {x3 x4 x5 x6 x7 : Option Value} (hl : lqB t a = true)
    (NXT : ∀ M2 x3 x4 x5 x6 x7, qTkM M2 (addT T (wkQ t a) a (wvQ t a)) → qFr SCu M M2 → qT g kX12_cut (qR 2 0 0) Z 7 [some (.ref 280), some (.int (nI (a + lnQ t a))), some (.int (nI c)), x3, x4, x5, x6, x7] [] 333 M2 (0, 0)) : qT g kX12_cut (qR 2 0 0) Z 80 [some (.ref 280), some (.int (nI a)), some (.int (nI c)), x3, x4, x5, x6, x7] [] 333 M (0, 0) := by
  have h2000 := ok.1
  have FIN : ∀ n x7, n = lnQ t a → a + n ≤ t.1 → qT g kX12_cut (qR 2 0 0) Z 179 [some (.ref 280), some (.int (nI a)), some (.int (nI c)), some (.int (nI n)), some (.long (lN (nmQ t a n))), none, some (.int (nI (kmQ (wkQ t a)))), x7] [] 333 M (0, 0) := by
    intro n x7 en hn
    refine qi_aload_n (i := 0) (x := 280) dX12_cut_179 rfl rfl ?_
    refine qi_iload (i := 6) (x := nI (kmQ (wkQ t a))) dX12_cut_180 rfl ?_
    refine qi_iload_n (i := 1) (x := nI a) dX12_cut_182 rfl rfl ?_
    refine qi_iconst (v := 0) dX12_cut_183 rfl ?_
    refine qi_lload (i := 4) (x := lN (nmQ t a n)) dX12_cut_184 rfl ?_
    refine qi_callVV (K' := kX12_token) (As := [.int (nI (kmQ (wkQ t a))), .int (nI a), .int 0, .long (lN (nmQ t a n))]) mlX12_203 okX12_token dX12_cut_186 (c_X12_token g hM hT.2.1 (by omega) (nI (kmQ (wkQ t a))) (nI a) 0 (lN (nmQ t a n))) rfl (by decide) rfl (by decide) rfl rfl (Nat.le_of_ble_eq_true rfl) ⟨(Nat.le_of_ble_eq_true rfl), (Nat.le_of_ble_eq_true rfl)⟩ ⟨Nat.le_refl _, Nat.le_refl _⟩ (fun M2 e2 => ?_)
    refine qi_iload_n (i := 1) (x := nI a) dX12_cut_189 rfl rfl ?_
    refine qi_iload_n (i := 3) (x := nI n) dX12_cut_190 rfl rfl ?_
    refine qi_iadd dX12_cut_191 ?_
    refine qe_top (y := nI (a + n)) (nI_add a n) ?_
    refine qi_istore_n (i := 1) (L2 := [some (.ref 280), some (.int (nI (a + n))), some (.int (nI c)), some (.int (nI n)), some (.long (lN (nmQ t a n))), none, some (.int (nI (kmQ (wkQ t a)))), x7]) dX12_cut_192 rfl (Nat.le_of_ble_eq_true rfl) rfl ?_
    refine qi_goto (tgt := 291) dX12_cut_193 (by decide) ?_
    refine qi_goto (tgt := 7) dX12_cut_291 (by decide) ?_
    rw [en]
    refine NXT M2 _ _ _ _ _ ?_ ?_
    · rw [e2]
      refine hT.add h4 (wkQ t a) a (wvQ t a) (fun z => ?_) (fun z => ?_)
      · exfalso
        unfold wkQ at z
        split at z
        · exact absurd z (by decide)
        · exact kw_ne3 _ _ _ z
      · unfold wkQ at z
        unfold wvQ nmQ
        rw [← en] at z ⊢
        by_cases h8 : 8 < n
        · rw [if_pos h8] at z
          exact absurd z (by decide)
        · rw [if_neg h8, Nat.min_eq_left (by omega)]
          have := (dg_add (vL_dg (t := t) (a := a) n (by omega)) (8 - n)).2
          rw [show n + (8 - n) = 8 by omega] at this
          rw [this]
    · rw [e2]
      exact tokW_fr
  have E124 : ∀ n, n = lnQ t a → a + n ≤ t.1 → qT g kX12_cut (qR 2 0 0) Z 124 [some (.ref 280), some (.int (nI a)), some (.int (nI c)), some (.int (nI n)), some (.long (lN (nmQ t a n))), none, x6, x7] [] 333 M (0, 0) := by
    intro n en hn
    by_cases h8 : 8 < n
    ·
      refine qi_iload_n (i := 3) (x := nI n) dX12_cut_124 rfl rfl ?_
      refine qi_bipush (v := 8) dX12_cut_125 rfl ?_
      refine qi_icmp_le (tgt := 134) dX12_cut_127 (by decide) (fun _h => absurd ((nI_leI (a := n) (b := 8) (by omega) (by omega)).mp _h) (by omega)) (fun _hc => ?_)
      refine qi_iconst (v := 3) dX12_cut_130 rfl ?_
      refine qi_goto (tgt := 135) dX12_cut_131 (by decide) ?_
      refine qi_istore (i := 6) (L2 := [some (.ref 280), some (.int (nI a)), some (.int (nI c)), some (.int (nI n)), some (.long (lN (nmQ t a n))), none, some (.int 3), x7]) dX12_cut_135 (Nat.le_of_ble_eq_true rfl) rfl ?_
      refine qi_iload_n (i := 3) (x := nI n) dX12_cut_137 rfl rfl ?_
      refine qi_bipush (v := 7) dX12_cut_138 rfl ?_
      refine qi_icmp_gt (tgt := 179) dX12_cut_140 (by decide) (fun _hc => ?_) (fun _h => absurd ((nI_ltI (a := 7) (b := n) (by omega) (by omega)).mpr (by omega)) _h)
      have F := FIN n x7 en hn
      rw [show wkQ t a = 1 by unfold wkQ; rw [← en, if_pos h8]] at F
      exact F
    have hdg := vL_dg (t := t) (a := a) n (by omega)
    have ew : wkQ t a = kwG (vLQ t a n) 0 17 := by unfold wkQ; rw [← en, if_neg h8]
    by_cases h7 : 7 < n
    ·
      refine qi_iload_n (i := 3) (x := nI n) dX12_cut_124 rfl rfl ?_
      refine qi_bipush (v := 8) dX12_cut_125 rfl ?_
      refine qi_icmp_le (tgt := 134) dX12_cut_127 (by decide) (fun _hc => ?_) (fun _h => absurd ((nI_leI (a := n) (b := 8) (by omega) (by omega)).mpr (by omega)) _h)
      refine qi_iconst (v := 1) dX12_cut_134 rfl ?_
      refine qi_istore (i := 6) (L2 := [some (.ref 280), some (.int (nI a)), some (.int (nI c)), some (.int (nI n)), some (.long (lN (nmQ t a n))), none, some (.int 1), x7]) dX12_cut_135 (Nat.le_of_ble_eq_true rfl) rfl ?_
      refine qi_iload_n (i := 3) (x := nI n) dX12_cut_137 rfl rfl ?_
      refine qi_bipush (v := 7) dX12_cut_138 rfl ?_
      refine qi_icmp_gt (tgt := 179) dX12_cut_140 (by decide) (fun _hc => ?_) (fun _h => absurd ((nI_ltI (a := 7) (b := n) (by omega) (by omega)).mpr (by omega)) _h)
      have F := FIN n x7 en hn
      have hb := vL_ge (t := t) (a := a) 7 (by omega)
      rw [ew, show n = 8 by omega, kw_big (by omega)] at F
      rw [show n = 8 by omega]
      exact F
    ·
      have en7 : nmQ t a n = cvQ n (vLQ t a n) := by unfold nmQ; rw [Nat.min_eq_left (by omega)]
      have e8 := (dg_add hdg (8 - n))
      rw [show n + (8 - n) = 8 by omega] at e8
      have hnm := nm_lt (t := t) (a := a) (n := n) (by omega)
      have K2 : ∀ m k, k + m = 17 → qT g kX12_cut (qR 2 0 0) Z 146 [some (.ref 280), some (.int (nI a)), some (.int (nI c)), some (.int (nI n)), some (.long (lN (nmQ t a n))), none, some (.int (nI (kzQ (nmQ t a n) k))), some (.int (nI k))] [] 333 M (0, 0) := by
        intro m
        induction m with
        | zero =>
          intro k e
          obtain rfl : k = 17 := by omega
          refine qi_iload (i := 7) (x := nI 17) dX12_cut_146 rfl ?_
          refine qi_bipush (v := 17) dX12_cut_148 rfl ?_
          refine qi_icmp_ge (tgt := 179) dX12_cut_150 (by decide) (fun z => ?_) (fun z => False.elim ((z (by decide))))
          have F := FIN n (some (.int (nI 17))) en hn
          rw [ew, ← kz_is e8.1, e8.2, ← en7] at F
          exact F
        | succ m ih =>
          intro k e
          refine qi_iload (i := 7) (x := nI k) dX12_cut_146 rfl ?_
          refine qi_bipush (v := 17) dX12_cut_148 rfl ?_
          refine qi_icmp_ge (tgt := 179) dX12_cut_150 (by decide) (fun _h => absurd ((nI_leI (a := 17) (b := k) (by omega) (by omega)).mp _h) (by omega)) (fun _hc => ?_)
          refine qi_aload_n (i := 0) (x := 280) dX12_cut_153 rfl rfl ?_
          refine qi_getR (x := 287) flX12_34 dX12_cut_154 rfl (by decide) (hM 280 9 287 rfl) ?_
          refine qi_iload (i := 7) (x := nI k) dX12_cut_157 rfl ?_
          refine qi_laldN (x := lN (wd27 k)) (j := k) dX12_cut_159 rfl (by decide) rfl (by omega) (by decide) (hk k (by omega)) ?_
          refine qi_lload (i := 4) (x := lN (nmQ t a n)) dX12_cut_160 rfl ?_
          refine qi_lcmp dX12_cut_162 ?_
          by_cases hz : wd27 k = nmQ t a n
          ·
            refine qi_if_ne (tgt := 173) dX12_cut_163 (by decide) (fun z => False.elim ((z ((lg_cmp_eq _ _).mpr (by rw [hz]))))) (fun z => ?_)
            refine qi_bipush (v := 20) dX12_cut_166 rfl ?_
            refine qi_iload (i := 7) (x := nI k) dX12_cut_168 rfl ?_
            refine qi_iadd dX12_cut_170 ?_
            refine qe_top (y := nI (20 + k)) (nI_add 20 k) ?_
            refine qi_istore (i := 6) (L2 := [some (.ref 280), some (.int (nI a)), some (.int (nI c)), some (.int (nI n)), some (.long (lN (nmQ t a n))), none, some (.int (nI (20 + k))), some (.int (nI k))]) dX12_cut_171 (Nat.le_of_ble_eq_true rfl) rfl ?_
            refine qi_iinc (i := 7) (x := nI k) (v := nI (k + 1)) (L2 := [some (.ref 280), some (.int (nI a)), some (.int (nI c)), some (.int (nI n)), some (.long (lN (nmQ t a n))), none, some (.int (nI (20 + k))), some (.int (nI (k + 1)))]) dX12_cut_173 rfl (nI_1 k) (Nat.le_of_ble_eq_true rfl) rfl ?_
            refine qi_goto (tgt := 146) dX12_cut_176 (by decide) ?_
            have := ih (k + 1) (by omega)
            rw [show kzQ (nmQ t a n) (k + 1) = 20 + k from if_pos hz] at this
            exact this
          ·
            refine qi_if_ne (tgt := 173) dX12_cut_163 (by decide) (fun z => ?_) (fun z => False.elim ((hz ((pk_lEQ (wd27_lt k (by omega)) hnm).mp ((lg_cmp_eq _ _).mp z)))))
            refine qi_iinc (i := 7) (x := nI k) (v := nI (k + 1)) (L2 := [some (.ref 280), some (.int (nI a)), some (.int (nI c)), some (.int (nI n)), some (.long (lN (nmQ t a n))), none, some (.int (nI (kzQ (nmQ t a n) k))), some (.int (nI (k + 1)))]) dX12_cut_173 rfl (nI_1 k) (Nat.le_of_ble_eq_true rfl) rfl ?_
            refine qi_goto (tgt := 146) dX12_cut_176 (by decide) ?_
            have := ih (k + 1) (by omega)
            rw [show kzQ (nmQ t a n) (k + 1) = kzQ (nmQ t a n) k from if_neg hz] at this
            exact this
      refine qi_iload_n (i := 3) (x := nI n) dX12_cut_124 rfl rfl ?_
      refine qi_bipush (v := 8) dX12_cut_125 rfl ?_
      refine qi_icmp_le (tgt := 134) dX12_cut_127 (by decide) (fun _hc => ?_) (fun _h => absurd ((nI_leI (a := n) (b := 8) (by omega) (by omega)).mpr (by omega)) _h)
      refine qi_iconst (v := 1) dX12_cut_134 rfl ?_
      refine qi_istore (i := 6) (L2 := [some (.ref 280), some (.int (nI a)), some (.int (nI c)), some (.int (nI n)), some (.long (lN (nmQ t a n))), none, some (.int 1), x7]) dX12_cut_135 (Nat.le_of_ble_eq_true rfl) rfl ?_
      refine qi_iload_n (i := 3) (x := nI n) dX12_cut_137 rfl rfl ?_
      refine qi_bipush (v := 7) dX12_cut_138 rfl ?_
      refine qi_icmp_gt (tgt := 179) dX12_cut_140 (by decide) (fun _h => absurd ((nI_ltI (a := 7) (b := n) (by omega) (by omega)).mp _h) (by omega)) (fun _hc => ?_)
      refine qi_iconst (v := 0) dX12_cut_143 rfl ?_
      refine qi_istore (i := 7) (L2 := [some (.ref 280), some (.int (nI a)), some (.int (nI c)), some (.int (nI n)), some (.long (lN (nmQ t a n))), none, some (.int 1), some (.int 0)]) dX12_cut_144 (Nat.le_of_ble_eq_true rfl) rfl ?_
      exact K2 17 0 rfl
  have J : ∀ m n, runQ (lqB t) m (a + n) + n = lnQ t a → n + m = 2001 → a + n ≤ t.1 → qT g kX12_cut (qR 2 0 0) Z 85 [some (.ref 280), some (.int (nI a)), some (.int (nI c)), some (.int (nI n)), some (.long (lN (nmQ t a n))), none, x6, x7] [] 333 M (0, 0) := by
    intro m
    induction m with
    | zero =>
      intro n e1 e2 e3
      omega
    | succ m ih =>
      intro n e1 e2 e3
      refine qi_aload_n (i := 0) (x := 280) dX12_cut_85 rfl rfl ?_
      refine qi_iload_n (i := 1) (x := nI a) dX12_cut_86 rfl rfl ?_
      refine qi_iload_n (i := 3) (x := nI n) dX12_cut_87 rfl rfl ?_
      refine qi_iadd dX12_cut_88 ?_
      refine qe_top (y := nI (a + n)) (nI_add a n) ?_
      refine qi_callPVI (v := nI (byQ t (a + n))) (K' := kX12_byteAt) (As := [.int (nI (a + n))]) mlX12_199 okX12_byteAt dX12_cut_89 (c_X12_byteAt g hM hx h2000 (by omega)) rfl (by decide) rfl (by decide) rfl rfl (Nat.le_of_ble_eq_true rfl) ⟨(Nat.le_of_ble_eq_true rfl), (Nat.le_of_ble_eq_true rfl)⟩ ⟨Nat.le_refl _, Nat.le_refl _⟩ ?_
      have hb := byQ_lt ok (a + n)
      refine qi_callSI (K' := kX12_isLetter) (As := [.int (nI (byQ t (a + n)))]) mlX12_207 okX12_isLetter dX12_cut_92 (c_X12_isLetter g (c := byQ t (a + n)) (by omega)) rfl rfl (Nat.le_of_ble_eq_true rfl) ⟨(Nat.le_of_ble_eq_true rfl), (Nat.le_of_ble_eq_true rfl)⟩ ⟨Nat.le_refl _, Nat.le_refl _⟩ (fun r1 M1 ⟨b0, b1, b2⟩ => ?_)
      rw [b2]
      by_cases hl : lqB t (a + n) = true
      ·
        have hc := lqB_lt hl
        have hl2 := lqB_i.mp hl
        have hn1 : n < lnQ t a := by
          rw [runQ_y hl] at e1
          omega
        have NX : qT g kX12_cut (qR 2 0 0) Z 118 [some (.ref 280), some (.int (nI a)), some (.int (nI c)), some (.int (nI n)), some (.long (lN (nmQ t a (n + 1)))), none, x6, x7] [] 333 M (0, 0) := by
          refine qi_iinc (i := 3) (x := nI n) (v := nI (n + 1)) (L2 := [some (.ref 280), some (.int (nI a)), some (.int (nI c)), some (.int (nI (n + 1))), some (.long (lN (nmQ t a (n + 1)))), none, x6, x7]) dX12_cut_118 rfl (nI_1 n) (Nat.le_of_ble_eq_true rfl) rfl ?_
          refine qi_goto (tgt := 85) dX12_cut_121 (by decide) ?_
          refine ih (n + 1) ?_ (by omega) (by omega)
          rw [← e1, runQ_y hl]
          show runQ (lqB t) m (a + n + 1) + (n + 1) = _
          omega
        refine qi_if_eq (tgt := 124) dX12_cut_95 (by decide) (fun z => False.elim (((b1.mpr hl2) z))) (fun z => ?_)
        refine qi_iload_n (i := 3) (x := nI n) dX12_cut_98 rfl rfl ?_
        refine qi_bipush (v := 8) dX12_cut_99 rfl ?_
        by_cases h8 : n < 8
        ·
          refine qi_icmp_ge (tgt := 118) dX12_cut_101 (by decide) (fun _h => absurd ((nI_leI (a := 8) (b := n) (by omega) (by omega)).mp _h) (by omega)) (fun _hc => ?_)
          refine qi_lload (i := 4) (x := lN (nmQ t a n)) dX12_cut_104 rfl ?_
          refine qi_aload_n (i := 0) (x := 280) dX12_cut_106 rfl rfl ?_
          refine qi_iload_n (i := 1) (x := nI a) dX12_cut_107 rfl rfl ?_
          refine qi_iload_n (i := 3) (x := nI n) dX12_cut_108 rfl rfl ?_
          refine qi_iadd dX12_cut_109 ?_
          refine qe_top (y := nI (a + n)) (nI_add a n) ?_
          refine qi_callPVI (v := nI (byQ t (a + n))) (K' := kX12_byteAt) (As := [.int (nI (a + n))]) mlX12_199 okX12_byteAt dX12_cut_110 (c_X12_byteAt g hM hx h2000 (by omega)) rfl (by decide) rfl (by decide) rfl rfl (Nat.le_of_ble_eq_true rfl) ⟨(Nat.le_of_ble_eq_true rfl), (Nat.le_of_ble_eq_true rfl)⟩ ⟨Nat.le_refl _, Nat.le_refl _⟩ ?_
          refine qi_callzS (K' := kX12_appends) (As := [.long (lN (nmQ t a n)), .int (nI (byQ t (a + n)))]) mlX12_192 okX12_appends dX12_cut_113 (c_X12_appends g (lN (nmQ t a n)) (nI (byQ t (a + n)))) rfl rfl (Nat.le_of_ble_eq_true rfl) ⟨(Nat.le_of_ble_eq_true rfl), (Nat.le_of_ble_eq_true rfl)⟩ ⟨Nat.le_refl _, Nat.le_refl _⟩ ?_
          show qT g kX12_cut (qR 2 0 0) Z 116 [some (.ref 280), some (.int (nI a)), some (.int (nI c)), some (.int (nI n)), some (.long (lN (nmQ t a n))), none, x6, x7] [.long (appQ (lN (nmQ t a n)) (nI (byQ t (a + n))))] 333 M (0, 0)
          refine qe_topJ (y := lN (nmQ t a (n + 1))) (by rw [app_nat _ hl2.1 hl2.2]; unfold nmQ; rw [Nat.min_eq_left (show n ≤ 8 by omega), Nat.min_eq_left (show n + 1 ≤ 8 by omega), vL_cv hn1, byQ_in hc]) ?_
          refine qi_lstore (i := 4) (L2 := [some (.ref 280), some (.int (nI a)), some (.int (nI c)), some (.int (nI n)), some (.long (lN (nmQ t a (n + 1)))), none, x6, x7]) dX12_cut_116 (Nat.le_of_ble_eq_true rfl) rfl ?_
          exact NX
        ·
          refine qi_icmp_ge (tgt := 118) dX12_cut_101 (by decide) (fun _hc => ?_) (fun _h => absurd ((nI_leI (a := 8) (b := n) (by omega) (by omega)).mpr (by omega)) _h)
          have e9 : nmQ t a (n + 1) = nmQ t a n := by unfold nmQ; rw [Nat.min_eq_right (show 8 ≤ n by omega), Nat.min_eq_right (show 8 ≤ n + 1 by omega)]
          rw [e9] at NX
          exact NX
      ·
        refine qi_if_eq (tgt := 124) dX12_cut_95 (by decide) (fun z => ?_) (fun z => False.elim ((hl (lqB_i.mpr (b1.mp z)))))
        refine E124 n ?_ e3
        rw [← e1, runQ_n hl, Nat.zero_add]
  refine qi_iconst (v := 0) dX12_cut_80 rfl ?_
  refine qi_istore_n (i := 3) (L2 := [some (.ref 280), some (.int (nI a)), some (.int (nI c)), some (.int 0), x4, x5, x6, x7]) dX12_cut_81 rfl (Nat.le_of_ble_eq_true rfl) rfl ?_
  refine qi_lconst (v := 0) dX12_cut_82 rfl ?_
  refine qi_lstore (i := 4) (L2 := [some (.ref 280), some (.int (nI a)), some (.int (nI c)), some (.int 0), some (.long 0), none, x6, x7]) dX12_cut_83 (Nat.le_of_ble_eq_true rfl) rfl ?_
  exact J 2001 0 rfl rfl (by omega)
theorem cut_dig (g : qG) {Z : List Frame → Array Value → State → State → Prop} {M : qM} (hM : qRf M) {t : qTp} (ok : okTp t) (hx : qTxM M t) {a c : Nat} (ha : a < t.1) {T : qTk} (hT : qTkM M T) (h4 : T.1 ≤ 400) {x3 x4 x5 x6 x7 : Option Value}
    (NXT : ∀ M2 x3 x4 x5 x6 x7, qTkM M2 (addT T (dkQ t a) a (vDQ t a (dnQ t a))) → qFr SCu M M2 → qT g kX12_cut (qR 2 0 0) Z 7 [some (.ref 280), some (.int (nI (a + dnQ t a))), some (.int (nI c)), x3, x4, x5, x6, x7] [] 333 M2 (0, 0)) : qT g kX12_cut (qR 2 0 0) Z 203 [some (.ref 280), some (.int (nI a)), some (.int (nI c)), x3, x4, x5, x6, x7] [] 333 M (0, 0) := by
  have h2000 := ok.1
  have FIN : ∀ n, n = dnQ t a → a + n ≤ t.1 → qT g kX12_cut (qR 2 0 0) Z 261 [some (.ref 280), some (.int (nI a)), some (.int (nI c)), some (.int (nI n)), some (.int (nI (vDQ t a (min n 4)))), x5, x6, x7] [.int (nI (kmQ (dkQ t a))), .ref 280] 333 M (0, 0) := by
    intro n en hn
    refine qi_iload_n (i := 1) (x := nI a) dX12_cut_261 rfl rfl ?_
    refine qi_iload (i := 4) (x := nI (vDQ t a (min n 4))) dX12_cut_262 rfl ?_
    refine qi_lconst (v := 0) dX12_cut_264 rfl ?_
    refine qi_callVV (K' := kX12_token) (As := [.int (nI (kmQ (dkQ t a))), .int (nI a), .int (nI (vDQ t a (min n 4))), .long 0]) mlX12_203 okX12_token dX12_cut_265 (c_X12_token g hM hT.2.1 (by omega) (nI (kmQ (dkQ t a))) (nI a) (nI (vDQ t a (min n 4))) 0) rfl (by decide) rfl (by decide) rfl rfl (Nat.le_of_ble_eq_true rfl) ⟨(Nat.le_of_ble_eq_true rfl), (Nat.le_of_ble_eq_true rfl)⟩ ⟨Nat.le_refl _, Nat.le_refl _⟩ (fun M2 e2 => ?_)
    refine qi_iload_n (i := 1) (x := nI a) dX12_cut_268 rfl rfl ?_
    refine qi_iload_n (i := 3) (x := nI n) dX12_cut_269 rfl rfl ?_
    refine qi_iadd dX12_cut_270 ?_
    refine qe_top (y := nI (a + n)) (nI_add a n) ?_
    refine qi_istore_n (i := 1) (L2 := [some (.ref 280), some (.int (nI (a + n))), some (.int (nI c)), some (.int (nI n)), some (.int (nI (vDQ t a (min n 4)))), x5, x6, x7]) dX12_cut_271 rfl (Nat.le_of_ble_eq_true rfl) rfl ?_
    refine qi_goto (tgt := 291) dX12_cut_272 (by decide) ?_
    refine qi_goto (tgt := 7) dX12_cut_291 (by decide) ?_
    rw [en]
    refine NXT M2 _ _ _ _ _ ?_ ?_
    · rw [e2]
      refine hT.add h4 (dkQ t a) a (vDQ t a (dnQ t a)) (fun z => ?_) (fun z => ?_)
      · unfold dkQ at z
        rw [← en] at z ⊢
        by_cases h5 : 4 < n
        · rw [if_pos h5] at z
          exact absurd z (by decide)
        · rw [Nat.min_eq_left (by omega)]
      · exfalso
        unfold dkQ at z
        split at z <;> exact absurd z (by decide)
    · rw [e2]
      exact tokW_fr
  have J : ∀ m n, runQ (dqB t) m (a + n) + n = dnQ t a → n + m = 2001 → a + n ≤ t.1 → qT g kX12_cut (qR 2 0 0) Z 208 [some (.ref 280), some (.int (nI a)), some (.int (nI c)), some (.int (nI n)), some (.int (nI (vDQ t a (min n 4)))), x5, x6, x7] [] 333 M (0, 0) := by
    intro m
    induction m with
    | zero =>
      intro n e1 e2 e3
      omega
    | succ m ih =>
      intro n e1 e2 e3
      refine qi_aload_n (i := 0) (x := 280) dX12_cut_208 rfl rfl ?_
      refine qi_iload_n (i := 1) (x := nI a) dX12_cut_209 rfl rfl ?_
      refine qi_iload_n (i := 3) (x := nI n) dX12_cut_210 rfl rfl ?_
      refine qi_iadd dX12_cut_211 ?_
      refine qe_top (y := nI (a + n)) (nI_add a n) ?_
      refine qi_callPVI (v := nI (byQ t (a + n))) (K' := kX12_byteAt) (As := [.int (nI (a + n))]) mlX12_199 okX12_byteAt dX12_cut_212 (c_X12_byteAt g hM hx h2000 (by omega)) rfl (by decide) rfl (by decide) rfl rfl (Nat.le_of_ble_eq_true rfl) ⟨(Nat.le_of_ble_eq_true rfl), (Nat.le_of_ble_eq_true rfl)⟩ ⟨Nat.le_refl _, Nat.le_refl _⟩ ?_
      have hb := byQ_lt ok (a + n)
      refine qi_callSI (K' := kX12_isDigit) (As := [.int (nI (byQ t (a + n)))]) mlX12_211 okX12_isDigit dX12_cut_215 (c_X12_isDigit g (c := byQ t (a + n)) (by omega)) rfl rfl (Nat.le_of_ble_eq_true rfl) ⟨(Nat.le_of_ble_eq_true rfl), (Nat.le_of_ble_eq_true rfl)⟩ ⟨Nat.le_refl _, Nat.le_refl _⟩ (fun r1 M1 ⟨b0, b1, b2⟩ => ?_)
      rw [b2]
      by_cases hl : dqB t (a + n) = true
      ·
        have hc := dqB_lt hl
        have hl2 := dqB_i.mp hl
        unfold isDq at hl2
        have NX : qT g kX12_cut (qR 2 0 0) Z 244 [some (.ref 280), some (.int (nI a)), some (.int (nI c)), some (.int (nI n)), some (.int (nI (vDQ t a (min (n + 1) 4)))), x5, x6, x7] [] 333 M (0, 0) := by
          refine qi_iinc (i := 3) (x := nI n) (v := nI (n + 1)) (L2 := [some (.ref 280), some (.int (nI a)), some (.int (nI c)), some (.int (nI (n + 1))), some (.int (nI (vDQ t a (min (n + 1) 4)))), x5, x6, x7]) dX12_cut_244 rfl (nI_1 n) (Nat.le_of_ble_eq_true rfl) rfl ?_
          refine qi_goto (tgt := 208) dX12_cut_247 (by decide) ?_
          refine ih (n + 1) ?_ (by omega) (by omega)
          rw [← e1, runQ_y hl]
          show runQ (dqB t) m (a + n + 1) + (n + 1) = _
          omega
        refine qi_if_eq (tgt := 250) dX12_cut_218 (by decide) (fun z => False.elim (((b1.mpr (dqB_i.mp hl)) z))) (fun z => ?_)
        refine qi_iload_n (i := 3) (x := nI n) dX12_cut_221 rfl rfl ?_
        refine qi_iconst (v := 4) dX12_cut_222 rfl ?_
        by_cases h8 : n < 4
        ·
          refine qi_icmp_ge (tgt := 244) dX12_cut_223 (by decide) (fun _h => absurd ((nI_leI (a := 4) (b := n) (by omega) (by omega)).mp _h) (by omega)) (fun _hc => ?_)
          refine qi_bipush (v := 10) dX12_cut_226 rfl ?_
          refine qi_iload (i := 4) (x := nI (vDQ t a (min n 4))) dX12_cut_228 rfl ?_
          refine qi_imul dX12_cut_230 ?_
          refine qi_aload_n (i := 0) (x := 280) dX12_cut_231 rfl rfl ?_
          refine qi_iload_n (i := 1) (x := nI a) dX12_cut_232 rfl rfl ?_
          refine qi_iload_n (i := 3) (x := nI n) dX12_cut_233 rfl rfl ?_
          refine qi_iadd dX12_cut_234 ?_
          refine qe_top (y := nI (a + n)) (nI_add a n) ?_
          refine qi_callPVI (v := nI (byQ t (a + n))) (K' := kX12_byteAt) (As := [.int (nI (a + n))]) mlX12_199 okX12_byteAt dX12_cut_235 (c_X12_byteAt g hM hx h2000 (by omega)) rfl (by decide) rfl (by decide) rfl rfl (Nat.le_of_ble_eq_true rfl) ⟨(Nat.le_of_ble_eq_true rfl), (Nat.le_of_ble_eq_true rfl)⟩ ⟨Nat.le_refl _, Nat.le_refl _⟩ ?_
          refine qi_iadd dX12_cut_238 ?_
          refine qi_bipush (v := 48) dX12_cut_239 rfl ?_
          refine qi_isub dX12_cut_241 ?_
          refine qe_top (y := nI (vDQ t a (min (n + 1) 4))) (by rw [Nat.min_eq_left (show n ≤ 4 by omega), Nat.min_eq_left (show n + 1 ≤ 4 by omega), show (10 : Int32) = nI 10 from rfl, show (48 : Int32) = nI 48 from rfl, pk_mul, nI_add, pk_sub (by omega), byQ_in hc]; rw [byQ_in hc] at hl2; show _ = nI (vDQ t a n * 10 + (t.2 (a + n) - 48)); congr 1; omega) ?_
          refine qi_istore (i := 4) (L2 := [some (.ref 280), some (.int (nI a)), some (.int (nI c)), some (.int (nI n)), some (.int (nI (vDQ t a (min (n + 1) 4)))), x5, x6, x7]) dX12_cut_242 (Nat.le_of_ble_eq_true rfl) rfl ?_
          exact NX
        ·
          refine qi_icmp_ge (tgt := 244) dX12_cut_223 (by decide) (fun _hc => ?_) (fun _h => absurd ((nI_leI (a := 4) (b := n) (by omega) (by omega)).mpr (by omega)) _h)
          have e9 : min (n + 1) 4 = min n 4 := by omega
          rw [e9] at NX
          exact NX
      ·
        have en : n = dnQ t a := by rw [← e1, runQ_n hl, Nat.zero_add]
        have F := FIN n en e3
        refine qi_if_eq (tgt := 250) dX12_cut_218 (by decide) (fun z => ?_) (fun z => False.elim ((hl (dqB_i.mpr (b1.mp z)))))
        refine qi_aload_n (i := 0) (x := 280) dX12_cut_250 rfl rfl ?_
        refine qi_iload_n (i := 3) (x := nI n) dX12_cut_251 rfl rfl ?_
        refine qi_iconst (v := 4) dX12_cut_252 rfl ?_
        by_cases h5 : 4 < n
        ·
          rw [show dkQ t a = 1 by unfold dkQ; rw [← en, if_pos h5]] at F
          refine qi_icmp_le (tgt := 260) dX12_cut_253 (by decide) (fun _h => absurd ((nI_leI (a := n) (b := 4) (by omega) (by omega)).mp _h) (by omega)) (fun _hc => ?_)
          refine qi_iconst (v := 3) dX12_cut_256 rfl ?_
          refine qi_goto (tgt := 261) dX12_cut_257 (by decide) ?_
          exact F
        ·
          rw [show dkQ t a = 3 by unfold dkQ; rw [← en, if_neg h5]] at F
          refine qi_icmp_le (tgt := 260) dX12_cut_253 (by decide) (fun _hc => ?_) (fun _h => absurd ((nI_leI (a := n) (b := 4) (by omega) (by omega)).mpr (by omega)) _h)
          refine qi_iconst (v := 2) dX12_cut_260 rfl ?_
          exact F
  refine qi_iconst (v := 0) dX12_cut_203 rfl ?_
  refine qi_istore_n (i := 3) (L2 := [some (.ref 280), some (.int (nI a)), some (.int (nI c)), some (.int 0), x4, x5, x6, x7]) dX12_cut_204 rfl (Nat.le_of_ble_eq_true rfl) rfl ?_
  refine qi_iconst (v := 0) dX12_cut_205 rfl ?_
  refine qi_istore (i := 4) (L2 := [some (.ref 280), some (.int (nI a)), some (.int (nI c)), some (.int 0), some (.int 0), x5, x6, x7]) dX12_cut_206 (Nat.le_of_ble_eq_true rfl) rfl ?_
  exact J 2001 0 rfl rfl (by omega)
