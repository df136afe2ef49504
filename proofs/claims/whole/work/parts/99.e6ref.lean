/-! the reference's read -/
def SRr : Nat → Nat → Prop := fun b j => b = 321 ∨ b = 331 ∨ (b = 280 ∧ (j = 17 ∨ j = 18 ∨ j = 64 ∨ j = 72))
theorem SRd_ge {S b j : Nat} (z : SRd S b j) : 280 ≤ b := (SRd_a z).1
theorem SCu_rd {S b j : Nat} (z : SCu b j) : SRd S b j := by
  unfold SCu at z
  unfold SRd
  omega
set_option maxHeartbeats 4000000 in
theorem c_X12_read (g : qG) {M : qM} (hM : qRf M) {L : Nat} {t : qTp} {pl : Int32} {π : qPl} {c : qCo} {η : qHd} {τ : qTo} (hD : qDs M L (t, pl, π, c, η, τ)) (ok : okTp t) (okp : okPl π) (okc : okCl π) : qI g 8 kX12_read [.ref 280] M (fun r M' => r = (rdV (scQ t) (reQ (scQ t) 401 v0Q) (t, pl, π, c, η, τ)).1 ∧ (∃ L', qDs M' L' (rdV (scQ t) (reQ (scQ t) 401 v0Q) (t, pl, π, c, η, τ)).2) ∧ qFr (fun b _ => 280 ≤ b) M M') := by
  have hT := sc_ok ok
  generalize hR : reQ (scQ t) 401 v0Q = res
  obtain ⟨⟨⟨⟨hL, p18⟩, -⟩, -, -, hky, -⟩, ⟨tp2, tpk⟩, -⟩ := id hD
  dsimp only at tp2 tpk p18 hky
  have ok1 := ok.1
  obtain ⟨S, hS⟩ : ∃ S, S = 1 - L := ⟨_, rfl⟩
  have hS2 : S < 2 := by omega
  have EF : ∀ e M1 x, res = .error e → qYF M1 S (scQ t) e → qFr (SRd S) M M1 → M1.1 280 2 = 0 → qT g kX12_read (qR 8 0 0) (qZI g (fun r M' => r = (rdV (scQ t) res (t, pl, π, c, η, τ)).1 ∧ (∃ L', qDs M' L' (rdV (scQ t) res (t, pl, π, c, η, τ)).2) ∧ qFr (fun b _ => 280 ≤ b) M M')) 220 [some (.ref 280), x] [] 333 M1 (0, 0) := by
    intro e M1 x he hF ff z2
    have hne := hF.n
    refine qi_aload_n (i := 0) (x := 280) dX12_read_220 rfl rfl ?_
    refine qi_aload_n (i := 0) (x := 280) dX12_read_221 rfl rfl ?_
    refine qi_getI (x := nI e.1) flX12_218 dX12_read_222 rfl (by decide) hF.2.2.1 ?_
    refine qi_if_le (tgt := 235) dX12_read_225 (by decide) (fun _h => absurd ((nI_leI (a := e.1) (b := 0) (by omega) (by omega)).mp _h) (by omega)) (fun _hc => ?_)
    refine qi_aload_n (i := 0) (x := 280) dX12_read_228 rfl rfl ?_
    refine qi_getI (x := nI (pAt (scQ t) e.2)) flX12_224 dX12_read_229 rfl (by decide) hF.2.2.2.1 ?_
    refine qi_goto (tgt := 250) dX12_read_232 (by decide) ?_
    refine qi_putI flX12_37 q_cls12 (ty12_17 _) dX12_read_250 rfl (by decide) ?_
    generalize w : wI M1 280 17 (nI (pAt (scQ t) e.2)) = Mw
    have Fa : qFr (fun b j => b = 280 ∧ j = 17) M1 Mw := by
      rw [← w]
      exact qFr.rf.wI ⟨rfl, rfl⟩
    have n13 : Mw.1 280 13 = nI e.1 := (Fa.1 _ _ (by omega)).trans hF.2.2.1
    have n17 : Mw.1 280 17 = nI (pAt (scQ t) e.2) := by rw [← w, wI_s]
    have n2 : Mw.1 280 2 = 0 := (Fa.1 _ _ (by omega)).trans z2
    have ffw : qFr (SRd S) M Mw := ff.tr (Fa.mono (fun b j z => Or.inr (Or.inl ⟨z.1, by omega⟩)))
    refine qi_aload_n (i := 0) (x := 280) dX12_read_253 rfl rfl ?_
    refine qi_getI (x := nI e.1) flX12_218 dX12_read_254 rfl (by decide) n13 ?_
    refine qi_if_le (tgt := 265) dX12_read_257 (by decide) (fun _h => absurd ((nI_leI (a := e.1) (b := 0) (by omega) (by omega)).mp _h) (by omega)) (fun _hc => ?_)
    refine qi_aload_n (i := 0) (x := 280) dX12_read_260 rfl rfl ?_
    refine qi_getI (x := nI e.1) flX12_218 dX12_read_261 rfl (by decide) n13 ?_
    exact qi_retI rfl rfl dX12_read_264 (⟨by rw [he]; rfl, ⟨L, by rw [he]; exact hD.rd okp okc hS ffw n2 n17⟩, ffw.mono (fun b j z => SRd_ge z)⟩)
  have EO : ∀ v M1 x, res = .ok v → rdY S (scQ t) v M1 → okRs v → qFr (SRd S) M M1 → M1.1 280 2 = 0 → qT g kX12_read (qR 8 0 0) (qZI g (fun r M' => r = (rdV (scQ t) res (t, pl, π, c, η, τ)).1 ∧ (∃ L', qDs M' L' (rdV (scQ t) res (t, pl, π, c, η, τ)).2) ∧ qFr (fun b _ => 280 ≤ b) M M')) 220 [some (.ref 280), x] [] 333 M1 (0, 0) := by
    intro v M1 x he hY hv ff z2
    have hK := hY.1
    have z13 := hK.2.1.2.2.2
    have z15 := hK.2.2.1.1
    have z5 := hK.2.2.1.2.1
    have hM1 := hK.1.1
    have z19 := hK.1.2.2.2
    by_cases h0 : v.2.1.1 = 0
    ·
      have hr : rdV (scQ t) res (t, pl, π, c, η, τ) = (0, ((0, t.2), -1, piQ v.2.2.2, (beginF (piQ v.2.2.2), 0, c.2.2), (fun _ => 0, η.2), (0, τ.2))) := by
        rw [he]
        exact if_pos h0
      have z15 : M1.1 280 15 = nI 0 := z15.trans (by rw [h0])
      have okq := hv.pl h0
      refine qi_aload_n (i := 0) (x := 280) dX12_read_220 rfl rfl ?_
      refine qi_aload_n (i := 0) (x := 280) dX12_read_221 rfl rfl ?_
      refine qi_getI (x := nI 0) flX12_218 dX12_read_222 rfl (by decide) z13 ?_
      refine qi_if_le (tgt := 235) dX12_read_225 (by decide) (fun _hc => ?_) (fun _h => absurd ((nI_leI (a := 0) (b := 0) (by omega) (by omega)).mpr (by omega)) _h)
      refine qi_aload_n (i := 0) (x := 280) dX12_read_235 rfl rfl ?_
      refine qi_getI (x := nI 0) flX12_227 dX12_read_236 rfl (by decide) z15 ?_
      refine qi_if_le (tgt := 249) dX12_read_239 (by decide) (fun _hc => ?_) (fun _h => absurd ((nI_leI (a := 0) (b := 0) (by omega) (by omega)).mpr (by omega)) _h)
      refine qi_iconst (v := -1) dX12_read_249 rfl ?_
      refine qi_putI flX12_37 q_cls12 (ty12_17 _) dX12_read_250 rfl (by decide) ?_
      refine qi_aload_n (i := 0) (x := 280) dX12_read_253 rfl rfl ?_
      refine qi_getI (x := nI 0) flX12_218 dX12_read_254 rfl (by decide) ((wI_k (by decide)).trans z13) ?_
      refine qi_if_le (tgt := 265) dX12_read_257 (by decide) (fun _hc => ?_) (fun _h => absurd ((nI_leI (a := 0) (b := 0) (by omega) (by omega)).mpr (by omega)) _h)
      refine qi_aload_n (i := 0) (x := 280) dX12_read_265 rfl rfl ?_
      refine qi_getI (x := nI 0) flX12_227 dX12_read_266 rfl (by decide) ((wI_k (by decide)).trans z15) ?_
      refine qi_if_le (tgt := 277) dX12_read_269 (by decide) (fun _hc => ?_) (fun _h => absurd ((nI_leI (a := 0) (b := 0) (by omega) (by omega)).mpr (by omega)) _h)
      refine qi_aload_n (i := 0) (x := 280) dX12_read_277 rfl rfl ?_
      refine qi_aload_n (i := 0) (x := 280) dX12_read_278 rfl rfl ?_
      refine qi_getI (x := nI S) flX12_251 dX12_read_279 rfl (by decide) ((wI_k (by decide)).trans z19) ?_
      refine qi_putI flX12_248 q_cls12 (ty12_18 _) dX12_read_282 rfl (by decide) ?_
      generalize wx : wI (wI M1 280 17 (-1)) 280 18 (nI S) = Mx
      have Fx : qFr SRr M1 Mx := by
        rw [← wx]
        exact (qFr.rf.wI (by unfold SRr; omega)).wI (by unfold SRr; omega)
      have e18 : Mx.1 280 18 = nI S := by rw [← wx, wI_s]
      have e17 : Mx.1 280 17 = -1 := by rw [← wx, wI_k (by decide), wI_s]
      have hMx : qRf Mx := hM1.fr Fx
      have px := hY.plan hv h0 (M' := Mx) (fun b j h1 h2 => Fx.1 _ _ (by unfold SRr; omega)) e18
      refine qi_aload_n (i := 0) (x := 280) dX12_read_285 rfl rfl ?_
      refine qi_callVV (K' := kX12_begins) (As := []) mlX12_266 okX12_begins dX12_read_286 (c_X12_begins g hMx px.1 okq.1) rfl (by decide) rfl (by decide) rfl rfl (Nat.le_of_ble_eq_true rfl) ⟨(Nat.le_of_ble_eq_true rfl), (Nat.le_of_ble_eq_true rfl)⟩ ⟨Nat.le_refl _, Nat.le_refl _⟩ (fun M2 ⟨b1, b2, b3, f2⟩ => ?_)
      have hM2 : qRf M2 := hMx.fr f2
      have Z : ∀ m k M3, k + m = 3 → (∀ s, s < k → M3.1 331 s = 0) → M3.1 280 18 = nI S → M3.1 280 17 = -1 → M3.1 280 64 = 0 → M3.1 280 72 = 0 → (∀ j, j < 80 → M3.1 321 j = beginF (piQ v.2.2.2) j) → qFr (fun b j => SM b j ∨ SRr b j) M1 M3 → qT g kX12_read (qR 8 0 0) (qZI g (fun r M' => r = (rdV (scQ t) res (t, pl, π, c, η, τ)).1 ∧ (∃ L', qDs M' L' (rdV (scQ t) res (t, pl, π, c, η, τ)).2) ∧ qFr (fun b _ => 280 ≤ b) M M')) 327 [some (.ref 280), some (.int (nI k))] [] 333 M3 (0, 0) := by
        intro m
        induction m with
        | zero =>
          intro k M3 e1 h1 h2 h3 h4 h5 h6 f3
          obtain rfl : k = 3 := by omega
          have hM3 : qRf M3 := hM1.fr f3
          have pp := hY.plan hv h0 (M' := M3) (fun b j h1 h2 => f3.1 _ _ (by unfold SRr SM; omega)) h2
          have hky3 : ∀ i, i < 17 → M3.2.1 287 i = lN (wd27 i) := fun i hi => (f3.2.1 _ _ (by unfold SRr SM; omega)).trans ((ff.2.1 _ _ (fun z => by have := SRd_a z; omega)).trans (hky i hi))
          have n2 : M3.1 280 2 = 0 := (f3.1 _ _ (by unfold SRr SM; omega)).trans z2
          refine qi_iload_n (i := 1) (x := nI 3) dX12_read_327 rfl rfl ?_
          refine qi_iconst (v := 3) dX12_read_328 rfl ?_
          refine qi_icmp_ge (tgt := 345) dX12_read_329 (by decide) (fun _hc => ?_) (fun _h => absurd ((nI_leI (a := 3) (b := 3) (by omega) (by omega)).mpr (by omega)) _h)
          refine qi_iconst (v := 0) dX12_read_345 rfl ?_
          exact qi_retI rfl rfl dX12_read_346 (⟨by rw [hr], ⟨S, by rw [hr]; exact ⟨⟨pp.1, pp.2.1, h3, hky3, pp.2.2⟩, ⟨n2, fun k hk => absurd hk (Nat.not_lt_zero _)⟩, ⟨fun k hk => h6 k (by omega), Nat.zero_le _, h4, fun i k hi => absurd hi (Nat.not_lt_zero _)⟩, ⟨fun s hs => ⟨h1 s hs, Or.inl rfl⟩, fun s k _ _ h => absurd h (show ¬ (0 : Int32) = 1 by decide)⟩, ⟨h5, fun i hi => absurd hi (Nat.not_lt_zero _)⟩⟩⟩, (ff.mono (fun b j z => SRd_ge z)).tr (f3.mono (fun b j z => by unfold SRr SM at z; omega))⟩)
        | succ m ih =>
          intro k M3 e1 h1 h2 h3 h4 h5 h6 f3
          have hM3 : qRf M3 := hM1.fr f3
          refine qi_iload_n (i := 1) (x := nI k) dX12_read_327 rfl rfl ?_
          refine qi_iconst (v := 3) dX12_read_328 rfl ?_
          refine qi_icmp_ge (tgt := 345) dX12_read_329 (by decide) (fun _h => absurd ((nI_leI (a := 3) (b := k) (by omega) (by omega)).mp _h) (by omega)) (fun _hc => ?_)
          refine qi_aload_n (i := 0) (x := 280) dX12_read_332 rfl rfl ?_
          refine qi_getR (x := 331) flX12_170 dX12_read_333 rfl (by decide) (hM3 280 75 331 rfl) ?_
          refine qi_iload_n (i := 1) (x := nI k) dX12_read_336 rfl rfl ?_
          refine qi_iconst (v := 0) dX12_read_337 rfl ?_
          refine qi_zastN (j := k) dX12_read_338 rfl (by decide) rfl (by omega) (by decide) (by rfl) ?_
          generalize wz : wI M3 331 k 0 = Mz
          have Fz : qFr (fun b j => b = 331 ∧ j = k) M3 Mz := by
            rw [← wz]
            exact qFr.rf.wI ⟨rfl, rfl⟩
          refine qi_iinc (i := 1) (x := nI k) (v := nI (k + 1)) (L2 := [some (.ref 280), some (.int (nI (k + 1)))]) dX12_read_339 rfl (nI_1 k) (Nat.le_of_ble_eq_true rfl) rfl ?_
          refine qi_goto (tgt := 327) dX12_read_342 (by decide) ?_
          refine ih (k + 1) Mz (by omega) (fun s hs => ?_) ((Fz.1 _ _ (by omega)).trans h2) ((Fz.1 _ _ (by omega)).trans h3) ((Fz.1 _ _ (by omega)).trans h4) ((Fz.1 _ _ (by omega)).trans h5) (fun j hj => (Fz.1 _ _ (by omega)).trans (h6 j hj)) (f3.tr (Fz.mono (fun b j z => Or.inr (Or.inr (Or.inl z.1)))))
          by_cases es : s = k
          · rw [es, ← wz, wI_s]
          · exact (Fz.1 _ _ (by omega)).trans (h1 s (by omega))
      have Q : ∀ m k M3, k + m = 80 → (∀ j, j < k → M3.1 321 j = beginF (piQ v.2.2.2) j) → qFr (fun b _ => b = 321) M2 M3 → qT g kX12_read (qR 8 0 0) (qZI g (fun r M' => r = (rdV (scQ t) res (t, pl, π, c, η, τ)).1 ∧ (∃ L', qDs M' L' (rdV (scQ t) res (t, pl, π, c, η, τ)).2) ∧ qFr (fun b _ => 280 ≤ b) M M')) 291 [some (.ref 280), some (.int (nI k))] [] 333 M3 (0, 0) := by
        intro m
        induction m with
        | zero =>
          intro k M3 e1 h1 f3
          obtain rfl : k = 80 := by omega
          have hM3 : qRf M3 := hM2.fr f3
          have F3 : qFr (fun b j => SM b j ∨ SRr b j) M1 M3 := (Fx.mono (fun b j z => Or.inr z)).tr ((f2.mono (fun b j z => Or.inl z)).tr (f3.mono (fun b j z => Or.inr (Or.inl z))))
          have g18 : M3.1 280 18 = nI S := (f3.1 _ _ (by omega)).trans ((f2.1 _ _ (by unfold SM; omega)).trans e18)
          have g17 : M3.1 280 17 = -1 := (f3.1 _ _ (by omega)).trans ((f2.1 _ _ (by unfold SM; omega)).trans e17)
          refine qi_iload_n (i := 1) (x := nI 80) dX12_read_291 rfl rfl ?_
          refine qi_bipush (v := 80) dX12_read_292 rfl ?_
          refine qi_icmp_ge (tgt := 315) dX12_read_294 (by decide) (fun _hc => ?_) (fun _h => absurd ((nI_leI (a := 80) (b := 80) (by omega) (by omega)).mpr (by omega)) _h)
          refine qi_aload_n (i := 0) (x := 280) dX12_read_315 rfl rfl ?_
          refine qi_iconst (v := 0) dX12_read_316 rfl ?_
          refine qi_putI flX12_269 q_cls12 (ty12_64 _) dX12_read_317 rfl (by decide) ?_
          refine qi_aload_n (i := 0) (x := 280) dX12_read_320 rfl rfl ?_
          refine qi_iconst (v := 0) dX12_read_321 rfl ?_
          refine qi_putI flX12_272 q_cls12 (ty12_72 _) dX12_read_322 rfl (by decide) ?_
          refine qi_iconst (v := 0) dX12_read_325 rfl ?_
          refine qi_istore_n (i := 1) (L2 := [some (.ref 280), some (.int 0)]) dX12_read_326 rfl (Nat.le_of_ble_eq_true rfl) rfl ?_
          generalize wy : wI (wI M3 280 64 0) 280 72 0 = My
          have Fy : qFr (fun b j => b = 280 ∧ (j = 64 ∨ j = 72)) M3 My := by
            rw [← wy]
            exact (qFr.rf.wI (by omega)).wI (by omega)
          exact Z 3 0 My rfl (fun s hs => absurd hs (Nat.not_lt_zero _)) ((Fy.1 _ _ (by omega)).trans g18) ((Fy.1 _ _ (by omega)).trans g17) (by rw [← wy, wI_k (by decide), wI_s]) (by rw [← wy, wI_s]) (fun j hj => (Fy.1 _ _ (by omega)).trans (h1 j hj)) (F3.tr (Fy.mono (fun b j z => Or.inr (Or.inr (Or.inr ⟨z.1, by omega⟩)))))
        | succ m ih =>
          intro k M3 e1 h1 f3
          have hM3 : qRf M3 := hM2.fr f3
          have hrow : M3.1 322 k = beginF (piQ v.2.2.2) k := (f3.1 _ _ (by omega)).trans (b1 k (by omega))
          refine qi_iload_n (i := 1) (x := nI k) dX12_read_291 rfl rfl ?_
          refine qi_bipush (v := 80) dX12_read_292 rfl ?_
          refine qi_icmp_ge (tgt := 315) dX12_read_294 (by decide) (fun _h => absurd ((nI_leI (a := 80) (b := k) (by omega) (by omega)).mp _h) (by omega)) (fun _hc => ?_)
          refine qi_aload_n (i := 0) (x := 280) dX12_read_297 rfl rfl ?_
          refine qi_getR (x := 321) flX12_140 dX12_read_298 rfl (by decide) (hM3 280 58 321 rfl) ?_
          refine qi_iload_n (i := 1) (x := nI k) dX12_read_301 rfl rfl ?_
          refine qi_aload_n (i := 0) (x := 280) dX12_read_302 rfl rfl ?_
          refine qi_getR (x := 322) flX12_143 dX12_read_303 rfl (by decide) (hM3 280 59 322 rfl) ?_
          refine qi_iload_n (i := 1) (x := nI k) dX12_read_306 rfl rfl ?_
          refine qi_ialdN (x := beginF (piQ v.2.2.2) k) (j := k) dX12_read_307 rfl (by decide) rfl (by omega) (by decide) hrow ?_
          refine qi_iastN (j := k) dX12_read_308 rfl (by decide) rfl (by omega) (by decide) ?_
          generalize wz : wI M3 321 k (beginF (piQ v.2.2.2) k) = Mz
          have Fz : qFr (fun b j => b = 321 ∧ j = k) M3 Mz := by
            rw [← wz]
            exact qFr.rf.wI ⟨rfl, rfl⟩
          refine qi_iinc (i := 1) (x := nI k) (v := nI (k + 1)) (L2 := [some (.ref 280), some (.int (nI (k + 1)))]) dX12_read_309 rfl (nI_1 k) (Nat.le_of_ble_eq_true rfl) rfl ?_
          refine qi_goto (tgt := 291) dX12_read_312 (by decide) ?_
          refine ih (k + 1) Mz (by omega) (fun j hj => ?_) (f3.tr (Fz.mono (fun b j z => z.1)))
          by_cases es : j = k
          · rw [es, ← wz, wI_s]
          · exact (Fz.1 _ _ (by omega)).trans (h1 j (by omega))
      refine qi_iconst (v := 0) dX12_read_289 rfl ?_
      refine qi_istore_n (i := 1) (L2 := [some (.ref 280), some (.int 0)]) dX12_read_290 rfl (Nat.le_of_ble_eq_true rfl) rfl ?_
      exact Q 80 0 M2 rfl (fun j hj => absurd hj (Nat.not_lt_zero _)) qFr.rf
    ·
      have hr : rdV (scQ t) res (t, pl, π, c, η, τ) = (nI v.2.1.1, ((0, t.2), nI (pAt (scQ t) v.2.1.2), π, c, η, τ)) := by
        rw [he]
        exact if_neg h0
      have z16 := (hK.2.2.1.2.2 h0).1
      refine qi_aload_n (i := 0) (x := 280) dX12_read_220 rfl rfl ?_
      refine qi_aload_n (i := 0) (x := 280) dX12_read_221 rfl rfl ?_
      refine qi_getI (x := nI 0) flX12_218 dX12_read_222 rfl (by decide) z13 ?_
      refine qi_if_le (tgt := 235) dX12_read_225 (by decide) (fun _hc => ?_) (fun _h => absurd ((nI_leI (a := 0) (b := 0) (by omega) (by omega)).mpr (by omega)) _h)
      refine qi_aload_n (i := 0) (x := 280) dX12_read_235 rfl rfl ?_
      refine qi_getI (x := nI v.2.1.1) flX12_227 dX12_read_236 rfl (by decide) z15 ?_
      refine qi_if_le (tgt := 249) dX12_read_239 (by decide) (fun _h => absurd ((nI_leI (a := v.2.1.1) (b := 0) (by omega) (by omega)).mp _h) (by omega)) (fun _hc => ?_)
      refine qi_aload_n (i := 0) (x := 280) dX12_read_242 rfl rfl ?_
      refine qi_getI (x := nI (pAt (scQ t) v.2.1.2)) flX12_230 dX12_read_243 rfl (by decide) z16 ?_
      refine qi_goto (tgt := 250) dX12_read_246 (by decide) ?_
      refine qi_putI flX12_37 q_cls12 (ty12_17 _) dX12_read_250 rfl (by decide) ?_
      generalize w : wI M1 280 17 (nI (pAt (scQ t) v.2.1.2)) = Mw
      have Fa : qFr (fun b j => b = 280 ∧ j = 17) M1 Mw := by
        rw [← w]
        exact qFr.rf.wI ⟨rfl, rfl⟩
      have n13 : Mw.1 280 13 = nI 0 := (Fa.1 _ _ (by omega)).trans z13
      have n15 : Mw.1 280 15 = nI v.2.1.1 := (Fa.1 _ _ (by omega)).trans z15
      have n17 : Mw.1 280 17 = nI (pAt (scQ t) v.2.1.2) := by rw [← w, wI_s]
      have n2 : Mw.1 280 2 = 0 := (Fa.1 _ _ (by omega)).trans z2
      have ffw : qFr (SRd S) M Mw := ff.tr (Fa.mono (fun b j z => Or.inr (Or.inl ⟨z.1, by omega⟩)))
      refine qi_aload_n (i := 0) (x := 280) dX12_read_253 rfl rfl ?_
      refine qi_getI (x := nI 0) flX12_218 dX12_read_254 rfl (by decide) n13 ?_
      refine qi_if_le (tgt := 265) dX12_read_257 (by decide) (fun _hc => ?_) (fun _h => absurd ((nI_leI (a := 0) (b := 0) (by omega) (by omega)).mpr (by omega)) _h)
      refine qi_aload_n (i := 0) (x := 280) dX12_read_265 rfl rfl ?_
      refine qi_getI (x := nI v.2.1.1) flX12_227 dX12_read_266 rfl (by decide) n15 ?_
      refine qi_if_le (tgt := 277) dX12_read_269 (by decide) (fun _h => absurd ((nI_leI (a := v.2.1.1) (b := 0) (by omega) (by omega)).mp _h) (by omega)) (fun _hc => ?_)
      refine qi_aload_n (i := 0) (x := 280) dX12_read_272 rfl rfl ?_
      refine qi_getI (x := nI v.2.1.1) flX12_227 dX12_read_273 rfl (by decide) n15 ?_
      exact qi_retI rfl rfl dX12_read_276 (⟨by rw [hr], ⟨L, by rw [hr]; exact hD.rd okp okc hS ffw n2 n17⟩, ffw.mono (fun b j z => SRd_ge z)⟩)
  have K : ∀ m v M3 x, rdY S (scQ t) v M3 → okRs v → 401 ≤ v.1 + m → reQ (scQ t) m v = res → qFr (SRd S) M M3 → M3.1 280 2 = 0 → qT g kX12_read (qR 8 0 0) (qZI g (fun r M' => r = (rdV (scQ t) res (t, pl, π, c, η, τ)).1 ∧ (∃ L', qDs M' L' (rdV (scQ t) res (t, pl, π, c, η, τ)).2) ∧ qFr (fun b _ => 280 ≤ b) M M')) 198 [some (.ref 280), x] [] 333 M3 (0, 0) := by
    intro m
    induction m with
    | zero =>
      intro v M3 x hY hv hm
      have := hv.1.1
      omega
    | succ m ih =>
      intro v M3 x hY hv hm hR1 ff z2
      rw [reQ_s] at hR1
      have hK := hY.1
      have z13 := hK.2.1.2.2.2
      refine qi_aload_n (i := 0) (x := 280) dX12_read_198 rfl rfl ?_
      refine qi_getI (x := nI 0) flX12_218 dX12_read_199 rfl (by decide) z13 ?_
      refine qi_if_ne (tgt := 220) dX12_read_202 (by decide) (fun _h => absurd ((nI_eq (a := 0) (b := 0) (by omega) (by omega)).mpr (by omega)) _h) (fun _hc => ?_)
      refine qi_aload_n (i := 0) (x := 280) dX12_read_205 rfl rfl ?_
      refine qi_iconst (v := 0) dX12_read_206 rfl ?_
      refine qi_callPVI (v := (if kAt (scQ t) v.1 = 0 then 1 else 0)) (K' := kX12_is) (As := [.int 0]) mlX12_236 okX12_is dX12_read_207 (c_X12_is g hT hK (k := 0) (by decide)) rfl (by decide) rfl (by decide) rfl rfl (Nat.le_of_ble_eq_true rfl) ⟨(Nat.le_of_ble_eq_true rfl), (Nat.le_of_ble_eq_true rfl)⟩ ⟨Nat.le_refl _, Nat.le_refl _⟩ ?_
      by_cases c0 : kAt (scQ t) v.1 = 0
      ·
        rw [if_pos c0]
        rw [if_pos c0] at hR1
        refine qi_if_ne (tgt := 220) dX12_read_210 (by decide) (fun z => ?_) (fun z => False.elim ((by cases z)))
        exact EO v M3 x hR1.symm hY hv ff z2
      ·
        rw [if_neg c0]
        rw [if_neg c0] at hR1
        refine qi_if_ne (tgt := 220) dX12_read_210 (by decide) (fun z => False.elim ((z rfl))) (fun z => ?_)
        refine qi_aload_n (i := 0) (x := 280) dX12_read_213 rfl rfl ?_
        refine qi_callVV (K' := kX12_tell) (As := []) mlX12_263 okX12_tell dX12_read_214 (c_X12_tell g hT hY hv) rfl (by decide) rfl (by decide) rfl rfl (Nat.le_of_ble_eq_true rfl) ⟨(Nat.le_of_ble_eq_true rfl), (Nat.le_of_ble_eq_true rfl)⟩ ⟨Nat.le_refl _, Nat.le_refl _⟩ (fun M4 ⟨k4, f4⟩ => ?_)
        have ff4 : qFr (SRd S) M M4 := ff.tr (f4.mono (fun b j z => Or.inl z))
        have n2 : M4.1 280 2 = 0 := (f4.1 _ _ (by unfold SY; omega)).trans z2
        refine qi_goto (tgt := 198) dX12_read_217 (by decide) ?_
        cases hA : tyQ (scQ t) v with
        | error e =>
          rw [bQ_e hA] at hR1
          have kF := qPy_e hA k4
          have hne := kF.n
          refine qi_aload_n (i := 0) (x := 280) dX12_read_198 rfl rfl ?_
          refine qi_getI (x := nI e.1) flX12_218 dX12_read_199 rfl (by decide) kF.2.2.1 ?_
          refine qi_if_ne (tgt := 220) dX12_read_202 (by decide) (fun _hc => ?_) (fun _h => absurd ((nI_eq (a := e.1) (b := 0) (by omega) (by omega)).mp _h) (by omega))
          exact EF e M4 x hR1.symm kF ff4 n2
        | ok w =>
          rw [bQ_o hA] at hR1
          have hw := ty_ok hT hv hA
          exact ih w M4 x (qPy_o hA k4) hw.1 (by have := hw.2; omega) hR1 ff4 n2
  have R : ∀ M1 x, qFr (fun b j => b = 282 ∨ (b = 280 ∧ j = 4)) M M1 → qTxM M1 t → qT g kX12_read (qR 8 0 0) (qZI g (fun r M' => r = (rdV (scQ t) res (t, pl, π, c, η, τ)).1 ∧ (∃ L', qDs M' L' (rdV (scQ t) res (t, pl, π, c, η, τ)).2) ∧ qFr (fun b _ => 280 ≤ b) M M')) 36 [some (.ref 280), x] [] 333 M1 (0, 0) := by
    intro M1 x f1 hx1
    have hM1 : qRf M1 := hM.fr f1
    refine qi_aload_n (i := 0) (x := 280) dX12_read_36 rfl rfl ?_
    refine qi_iconst (v := 0) dX12_read_37 rfl ?_
    refine qi_putI flX12_180 q_cls12 (ty12_2 _) dX12_read_38 rfl (by decide) ?_
    generalize wt : wI M1 280 2 0 = Mt
    have Ft : qFr (fun b j => b = 280 ∧ j = 2) M1 Mt := by
      rw [← wt]
      exact qFr.rf.wI ⟨rfl, rfl⟩
    have hMt : qRf Mt := hM1.fr Ft
    have tt2 : Mt.1 280 2 = 0 := by rw [← wt, wI_s]
    have hxt : qTxM Mt t := ⟨(Ft.1 _ _ (by omega)).trans hx1.1, fun k hk => by rw [Ft.1 _ _ (by omega)]; exact hx1.2 k hk⟩
    refine qi_aload_n (i := 0) (x := 280) dX12_read_41 rfl rfl ?_
    refine qi_callVV (K' := kX12_cut) (As := []) mlX12_242 okX12_cut dX12_read_42 (c_X12_cut g hMt ok hxt (fun i hi => (Ft.2.1 _ _ (by omega)).trans ((f1.2.1 _ _ (by omega)).trans (hky i hi)))) rfl (by decide) rfl (by decide) rfl rfl (Nat.le_of_ble_eq_true rfl) ⟨(Nat.le_of_ble_eq_true rfl), (Nat.le_of_ble_eq_true rfl)⟩ ⟨Nat.le_refl _, Nat.le_refl _⟩ (fun M3 ⟨q3, f3⟩ => ?_)
    have hM3 : qRf M3 := hMt.fr f3
    have F3 : qFr (SRd S) M M3 := ((f1.mono (fun b j z => by unfold SRd; omega)).tr (Ft.mono (fun b j z => by unfold SRd; omega))).tr (f3.mono (fun b j z => SCu_rd z))
    have z18 : M3.1 280 18 = nI L := (F3.1 _ _ (fun z => by have := SRd_a z; omega)).trans p18
    have z2 : M3.1 280 2 = 0 := (f3.1 _ _ (by unfold SCu; omega)).trans tt2
    have hLS : (1 : Int32) - nI L = nI S := by
      rcases (show L = 0 ∨ L = 1 by omega) with h | h <;> subst h <;> subst hS <;> rfl
    refine qi_aload_n (i := 0) (x := 280) dX12_read_45 rfl rfl ?_
    refine qi_iconst (v := 0) dX12_read_46 rfl ?_
    refine qi_putI flX12_221 q_cls12 (ty12_11 _) dX12_read_47 rfl (by decide) ?_
    refine qi_aload_n (i := 0) (x := 280) dX12_read_50 rfl rfl ?_
    refine qi_iconst (v := 0) dX12_read_51 rfl ?_
    refine qi_putI flX12_245 q_cls12 (ty12_12 _) dX12_read_52 rfl (by decide) ?_
    refine qi_aload_n (i := 0) (x := 280) dX12_read_55 rfl rfl ?_
    refine qi_iconst (v := 0) dX12_read_56 rfl ?_
    refine qi_putI flX12_218 q_cls12 (ty12_13 _) dX12_read_57 rfl (by decide) ?_
    refine qi_aload_n (i := 0) (x := 280) dX12_read_60 rfl rfl ?_
    refine qi_iconst (v := 0) dX12_read_61 rfl ?_
    refine qi_putI flX12_227 q_cls12 (ty12_15 _) dX12_read_62 rfl (by decide) ?_
    refine qi_aload_n (i := 0) (x := 280) dX12_read_65 rfl rfl ?_
    refine qi_iconst (v := 1) dX12_read_66 rfl ?_
    refine qi_aload_n (i := 0) (x := 280) dX12_read_67 rfl rfl ?_
    refine qi_getI (x := nI L) flX12_248 dX12_read_68 rfl (by decide) ((wI_k (by decide)).trans ((wI_k (by decide)).trans ((wI_k (by decide)).trans ((wI_k (by decide)).trans z18)))) ?_
    refine qi_isub dX12_read_71 ?_
    refine qe_top (y := nI S) hLS ?_
    refine qi_putI flX12_251 q_cls12 (ty12_19 _) dX12_read_72 rfl (by decide) ?_
    refine qi_aload_n (i := 0) (x := 280) dX12_read_75 rfl rfl ?_
    refine qi_iconst (v := 0) dX12_read_76 rfl ?_
    refine qi_putI flX12_254 q_cls12 (ty12_20 _) dX12_read_77 rfl (by decide) ?_
    refine qi_aload_n (i := 0) (x := 280) dX12_read_80 rfl rfl ?_
    refine qi_getR (x := 291) flX12_49 dX12_read_81 rfl (by decide) (hM3 280 24 291 rfl) ?_
    refine qi_aload_n (i := 0) (x := 280) dX12_read_84 rfl rfl ?_
    refine qi_getI (x := nI S) flX12_251 dX12_read_85 rfl (by decide) ((wI_k (by decide)).trans (wI_s _ _ _ _)) ?_
    refine qi_iconst (v := 0) dX12_read_88 rfl ?_
    refine qi_iastN (j := S) dX12_read_89 rfl (by decide) rfl (by omega) (by decide) ?_
    refine qi_aload_n (i := 0) (x := 280) dX12_read_90 rfl rfl ?_
    refine qi_getR (x := 294) flX12_58 dX12_read_91 rfl (by decide) (hM3 280 27 294 rfl) ?_
    refine qi_aload_n (i := 0) (x := 280) dX12_read_94 rfl rfl ?_
    refine qi_getI (x := nI S) flX12_251 dX12_read_95 rfl (by decide) ((wI_a (by decide)).trans ((wI_k (by decide)).trans (wI_s _ _ _ _))) ?_
    refine qi_iconst (v := 0) dX12_read_98 rfl ?_
    refine qi_iastN (j := S) dX12_read_99 rfl (by decide) rfl (by omega) (by decide) ?_
    refine qi_aload_n (i := 0) (x := 280) dX12_read_100 rfl rfl ?_
    refine qi_getR (x := 299) flX12_73 dX12_read_101 rfl (by decide) (hM3 280 32 299 rfl) ?_
    refine qi_aload_n (i := 0) (x := 280) dX12_read_104 rfl rfl ?_
    refine qi_getI (x := nI S) flX12_251 dX12_read_105 rfl (by decide) ((wI_a (by decide)).trans ((wI_a (by decide)).trans ((wI_k (by decide)).trans (wI_s _ _ _ _)))) ?_
    refine qi_iconst (v := 0) dX12_read_108 rfl ?_
    refine qi_iastN (j := S) dX12_read_109 rfl (by decide) rfl (by omega) (by decide) ?_
    refine qi_aload_n (i := 0) (x := 280) dX12_read_110 rfl rfl ?_
    refine qi_getR (x := 302) flX12_82 dX12_read_111 rfl (by decide) (hM3 280 35 302 rfl) ?_
    refine qi_aload_n (i := 0) (x := 280) dX12_read_114 rfl rfl ?_
    refine qi_getI (x := nI S) flX12_251 dX12_read_115 rfl (by decide) ((wI_a (by decide)).trans ((wI_a (by decide)).trans ((wI_a (by decide)).trans ((wI_k (by decide)).trans (wI_s _ _ _ _))))) ?_
    refine qi_iconst (v := 0) dX12_read_118 rfl ?_
    refine qi_iastN (j := S) dX12_read_119 rfl (by decide) rfl (by omega) (by decide) ?_
    refine qi_aload_n (i := 0) (x := 280) dX12_read_120 rfl rfl ?_
    refine qi_getR (x := 307) flX12_97 dX12_read_121 rfl (by decide) (hM3 280 40 307 rfl) ?_
    refine qi_aload_n (i := 0) (x := 280) dX12_read_124 rfl rfl ?_
    refine qi_getI (x := nI S) flX12_251 dX12_read_125 rfl (by decide) ((wI_a (by decide)).trans ((wI_a (by decide)).trans ((wI_a (by decide)).trans ((wI_a (by decide)).trans ((wI_k (by decide)).trans (wI_s _ _ _ _)))))) ?_
    refine qi_sipush (v := 999) dX12_read_128 rfl ?_
    refine qi_iastN (j := S) dX12_read_131 rfl (by decide) rfl (by omega) (by decide) ?_
    refine qi_aload_n (i := 0) (x := 280) dX12_read_132 rfl rfl ?_
    refine qi_getR (x := 308) flX12_100 dX12_read_133 rfl (by decide) (hM3 280 41 308 rfl) ?_
    refine qi_aload_n (i := 0) (x := 280) dX12_read_136 rfl rfl ?_
    refine qi_getI (x := nI S) flX12_251 dX12_read_137 rfl (by decide) ((wI_a (by decide)).trans ((wI_a (by decide)).trans ((wI_a (by decide)).trans ((wI_a (by decide)).trans ((wI_a (by decide)).trans ((wI_k (by decide)).trans (wI_s _ _ _ _))))))) ?_
    refine qi_iconst (v := 0) dX12_read_140 rfl ?_
    refine qi_iastN (j := S) dX12_read_141 rfl (by decide) rfl (by omega) (by decide) ?_
    refine qi_aload_n (i := 0) (x := 280) dX12_read_142 rfl rfl ?_
    refine qi_sipush (v := 130) dX12_read_143 rfl ?_
    refine qi_aload_n (i := 0) (x := 280) dX12_read_146 rfl rfl ?_
    refine qi_getI (x := nI S) flX12_251 dX12_read_147 rfl (by decide) ((wI_a (by decide)).trans ((wI_a (by decide)).trans ((wI_a (by decide)).trans ((wI_a (by decide)).trans ((wI_a (by decide)).trans ((wI_a (by decide)).trans ((wI_k (by decide)).trans (wI_s _ _ _ _)))))))) ?_
    refine qi_imul dX12_read_150 ?_
    refine qe_top (y := nI (130 * S)) (pk_mul 130 S) ?_
    refine qi_putI flX12_257 q_cls12 (ty12_44 _) dX12_read_151 rfl (by decide) ?_
    refine qi_aload_n (i := 0) (x := 280) dX12_read_154 rfl rfl ?_
    refine qi_sipush (v := 420) dX12_read_155 rfl ?_
    refine qi_aload_n (i := 0) (x := 280) dX12_read_158 rfl rfl ?_
    refine qi_getI (x := nI S) flX12_251 dX12_read_159 rfl (by decide) ((wI_k (by decide)).trans ((wI_a (by decide)).trans ((wI_a (by decide)).trans ((wI_a (by decide)).trans ((wI_a (by decide)).trans ((wI_a (by decide)).trans ((wI_a (by decide)).trans ((wI_k (by decide)).trans (wI_s _ _ _ _))))))))) ?_
    refine qi_imul dX12_read_162 ?_
    refine qe_top (y := nI (420 * S)) (pk_mul 420 S) ?_
    refine qi_putI flX12_260 q_cls12 (ty12_50 _) dX12_read_163 rfl (by decide) ?_
    refine qi_aload_n (i := 0) (x := 280) dX12_read_166 rfl rfl ?_
    refine qi_getR (x := 309) flX12_103 dX12_read_167 rfl (by decide) (hM3 280 42 309 rfl) ?_
    refine qi_bipush (v := 17) dX12_read_170 rfl ?_
    refine qi_aload_n (i := 0) (x := 280) dX12_read_172 rfl rfl ?_
    refine qi_getI (x := nI S) flX12_251 dX12_read_173 rfl (by decide) ((wI_k (by decide)).trans ((wI_k (by decide)).trans ((wI_a (by decide)).trans ((wI_a (by decide)).trans ((wI_a (by decide)).trans ((wI_a (by decide)).trans ((wI_a (by decide)).trans ((wI_a (by decide)).trans ((wI_k (by decide)).trans (wI_s _ _ _ _)))))))))) ?_
    refine qi_imul dX12_read_176 ?_
    refine qe_top (y := nI (17 * S)) (pk_mul 17 S) ?_
    refine qi_bipush (v := 16) dX12_read_177 rfl ?_
    refine qi_iadd dX12_read_179 ?_
    refine qe_top (y := nI (17 * S + 16)) (nI_add _ 16) ?_
    refine qi_iconst (v := 0) dX12_read_180 rfl ?_
    refine qi_iastN (j := 17 * S + 16) dX12_read_181 rfl (by decide) rfl (by omega) (by decide) ?_
    refine qi_aload_n (i := 0) (x := 280) dX12_read_182 rfl rfl ?_
    refine qi_getR (x := 310) flX12_106 dX12_read_183 rfl (by decide) (hM3 280 43 310 rfl) ?_
    refine qi_bipush (v := 17) dX12_read_186 rfl ?_
    refine qi_aload_n (i := 0) (x := 280) dX12_read_188 rfl rfl ?_
    refine qi_getI (x := nI S) flX12_251 dX12_read_189 rfl (by decide) ((wI_a (by decide)).trans ((wI_k (by decide)).trans ((wI_k (by decide)).trans ((wI_a (by decide)).trans ((wI_a (by decide)).trans ((wI_a (by decide)).trans ((wI_a (by decide)).trans ((wI_a (by decide)).trans ((wI_a (by decide)).trans ((wI_k (by decide)).trans (wI_s _ _ _ _))))))))))) ?_
    refine qi_imul dX12_read_192 ?_
    refine qe_top (y := nI (17 * S)) (pk_mul 17 S) ?_
    refine qi_bipush (v := 16) dX12_read_193 rfl ?_
    refine qi_iadd dX12_read_195 ?_
    refine qe_top (y := nI (17 * S + 16)) (nI_add _ 16) ?_
    refine qi_iconst (v := 0) dX12_read_196 rfl ?_
    refine qi_iastN (j := 17 * S + 16) dX12_read_197 rfl (by decide) rfl (by omega) (by decide) ?_
    generalize wr : wI (wI (wI (wI (wI (wI (wI (wI (wI (wI (wI (wI (wI (wI (wI (wI M3 280 11 0) 280 12 0) 280 13 0) 280 15 0) 280 19 (nI S)) 280 20 0) 291 S 0) 294 S 0) 299 S 0) 302 S 0) 307 S 999) 308 S 0) 280 44 (nI (130 * S))) 280 50 (nI (420 * S))) 309 (17 * S + 16) 0) 310 (17 * S + 16) 0 = Mr
    have Fr : qFr (SRd S) M3 Mr := by
      rw [← wr]
      exact ((((((((((((((((qFr.rf).wI (Or.inl (Or.inl ⟨rfl, by decide⟩))).wI (Or.inl (Or.inl ⟨rfl, by decide⟩))).wI (Or.inl (Or.inl ⟨rfl, by decide⟩))).wI (Or.inl (Or.inl ⟨rfl, by decide⟩))).wI (Or.inr (Or.inl ⟨rfl, by decide⟩))).wI (Or.inl (Or.inl ⟨rfl, by decide⟩))).wI (Or.inl (SY_ct (by decide) ⟨rfl, rfl⟩))).wI (Or.inl (SY_ct (by decide) ⟨rfl, rfl⟩))).wI (Or.inl (SY_ct (by decide) ⟨rfl, rfl⟩))).wI (Or.inl (SY_ct (by decide) ⟨rfl, rfl⟩))).wI (Or.inl (SY_ct (by decide) ⟨rfl, rfl⟩))).wI (Or.inl (SY_ct (by decide) ⟨rfl, rfl⟩))).wI (Or.inl (Or.inl ⟨rfl, by decide⟩))).wI (Or.inl (Or.inl ⟨rfl, by decide⟩))).wI (Or.inl (Or.inr (Or.inr (Or.inr (Or.inr (Or.inr (Or.inr (Or.inr (Or.inr (Or.inl ⟨by decide, by omega, by omega⟩))))))))))).wI (Or.inl (Or.inr (Or.inr (Or.inr (Or.inr (Or.inr (Or.inr (Or.inr (Or.inr (Or.inl ⟨by decide, by omega, by omega⟩))))))))))
    have Fg : qFr (fun b _ => b = 280 ∨ 291 ≤ b) M3 Mr := by
      rw [← wr]
      exact ((((((((((((((((qFr.rf).wI (by decide)).wI (by decide)).wI (by decide)).wI (by decide)).wI (by decide)).wI (by decide)).wI (by decide)).wI (by decide)).wI (by decide)).wI (by decide)).wI (by decide)).wI (by decide)).wI (by decide)).wI (by decide)).wI (by decide)).wI (by decide)
    have hMr : qRf Mr := hM3.fr Fr
    have hE : qTkE Mr (scQ t) := fun i h1 h2 => by
      rw [Fg.1 _ _ (by omega), Fg.1 _ _ (by omega), Fg.1 _ _ (by omega), Fg.2.1 _ _ (by omega)]
      exact q3 i h1 h2
    have n2 : Mr.1 280 2 = 0 := by
      rw [← wr]
      simp [wI_1]
      exact z2
    have r11 : Mr.1 280 11 = 0 := by
      rw [← wr]
      simp [wI_1]
    have r12 : Mr.1 280 12 = 0 := by
      rw [← wr]
      simp [wI_1]
    have r13 : Mr.1 280 13 = 0 := by
      rw [← wr]
      simp [wI_1]
    have r15 : Mr.1 280 15 = 0 := by
      rw [← wr]
      simp [wI_1]
    have r19 : Mr.1 280 19 = nI S := by
      rw [← wr]
      simp [wI_1]
    have r20 : Mr.1 280 20 = 0 := by
      rw [← wr]
      simp [wI_1]
    have r291 : Mr.1 291 S = 0 := by
      rw [← wr]
      simp [wI_1]
    have r294 : Mr.1 294 S = 0 := by
      rw [← wr]
      simp [wI_1]
    have r299 : Mr.1 299 S = 0 := by
      rw [← wr]
      simp [wI_1]
    have r302 : Mr.1 302 S = 0 := by
      rw [← wr]
      simp [wI_1]
    have r307 : Mr.1 307 S = 999 := by
      rw [← wr]
      simp [wI_1]
    have r308 : Mr.1 308 S = 0 := by
      rw [← wr]
      simp [wI_1]
    have r44 : Mr.1 280 44 = nI (130 * S) := by
      rw [← wr]
      simp [wI_1]
    have r50 : Mr.1 280 50 = nI (420 * S) := by
      rw [← wr]
      simp [wI_1]
    have r309 : Mr.1 309 (17 * S + 16) = 0 := by
      rw [← wr]
      simp [wI_1]
    have r310 : Mr.1 310 (17 * S + 16) = 0 := by
      rw [← wr]
      simp [wI_1]
    have hY0 : rdY S (scQ t) v0Q Mr := ⟨⟨⟨hMr, hE, hS2, r19⟩, ⟨Nat.zero_le _, Nat.zero_le _, r11, r13⟩, ⟨r15, Nat.zero_le _, fun h => absurd rfl h⟩, ⟨r20, Nat.zero_le _, fun _ => ⟨rfl, fun i hi => absurd hi (Nat.not_lt_zero _)⟩⟩⟩, r12, ⟨r291, r294, r299, r302⟩, fun _ => ⟨⟨r307, r308⟩, fun c i _ hi => absurd hi (Nat.not_lt_zero _), fun c i _ hi => absurd hi (Nat.not_lt_zero _), fun c i _ hi => absurd hi (Nat.not_lt_zero _), fun k hi => absurd hi (Nat.not_lt_zero _)⟩, 0, 0, ⟨Nat.le_refl _, Nat.le_refl _, r50, r44⟩, fun k hi => absurd hi (Nat.not_lt_zero _), Or.inl ⟨rfl, r309, r310⟩⟩
    exact K 401 v0Q Mr x hY0 v0_ok (Nat.le_add_left _ _) hR (F3.tr Fr) n2
  have C : ∀ m i M1, i + m = t.1 → M1.1 280 4 = nI t.1 → (∀ k, k < i → M1.1 282 k = M.1 281 k) → qFr (fun b j => b = 282 ∨ (b = 280 ∧ j = 4)) M M1 → qT g kX12_read (qR 8 0 0) (qZI g (fun r M' => r = (rdV (scQ t) res (t, pl, π, c, η, τ)).1 ∧ (∃ L', qDs M' L' (rdV (scQ t) res (t, pl, π, c, η, τ)).2) ∧ qFr (fun b _ => 280 ≤ b) M M')) 10 [some (.ref 280), some (.int (nI i))] [] 333 M1 (0, 0) := by
    intro m
    induction m with
    | zero =>
      intro i M1 e1 h4 hc f1
      obtain rfl : i = t.1 := by omega
      refine qi_iload_n (i := 1) (x := nI t.1) dX12_read_10 rfl rfl ?_
      refine qi_aload_n (i := 0) (x := 280) dX12_read_11 rfl rfl ?_
      refine qi_getI (x := nI t.1) flX12_187 dX12_read_12 rfl (by decide) h4 ?_
      refine qi_icmp_ge (tgt := 36) dX12_read_15 (by decide) (fun _hc => ?_) (fun _h => absurd ((nI_leI (a := t.1) (b := t.1) (by omega) (by omega)).mpr (by omega)) _h)
      exact R M1 _ f1 ⟨h4, fun k hk => by rw [hc k hk]; exact tpk k hk⟩
    | succ m ih =>
      intro i M1 e1 h4 hc f1
      have hM1 : qRf M1 := hM.fr f1
      have hb : M1.1 281 i = M.1 281 i := f1.1 _ _ (by omega)
      obtain ⟨z, hz⟩ := (tpk i (by omega)).1
      have hnr : narrow .byte (.int (M.1 281 i)) = .int (M.1 281 i) := by
        rw [hz]
        simp [narrow]
      refine qi_iload_n (i := 1) (x := nI i) dX12_read_10 rfl rfl ?_
      refine qi_aload_n (i := 0) (x := 280) dX12_read_11 rfl rfl ?_
      refine qi_getI (x := nI t.1) flX12_187 dX12_read_12 rfl (by decide) h4 ?_
      refine qi_icmp_ge (tgt := 36) dX12_read_15 (by decide) (fun _h => absurd ((nI_leI (a := t.1) (b := i) (by omega) (by omega)).mp _h) (by omega)) (fun _hc => ?_)
      refine qi_aload_n (i := 0) (x := 280) dX12_read_18 rfl rfl ?_
      refine qi_getR (x := 282) flX12_17 dX12_read_19 rfl (by decide) (hM1 280 3 282 rfl) ?_
      refine qi_iload_n (i := 1) (x := nI i) dX12_read_22 rfl rfl ?_
      refine qi_aload_n (i := 0) (x := 280) dX12_read_23 rfl rfl ?_
      refine qi_getR (x := 281) flX12_13 dX12_read_24 rfl (by decide) (hM1 280 1 281 rfl) ?_
      refine qi_iload_n (i := 1) (x := nI i) dX12_read_27 rfl rfl ?_
      refine qi_baldN (x := M.1 281 i) (j := i) dX12_read_28 rfl (by decide) rfl (by omega) (by decide) hb ?_
      refine qi_bastN (j := i) dX12_read_29 rfl (by decide) rfl (by omega) (by decide) hnr ?_
      generalize wz : wI M1 282 i (M.1 281 i) = Mz
      have Fz : qFr (fun b j => b = 282 ∧ j = i) M1 Mz := by
        rw [← wz]
        exact qFr.rf.wI ⟨rfl, rfl⟩
      refine qi_iinc (i := 1) (x := nI i) (v := nI (i + 1)) (L2 := [some (.ref 280), some (.int (nI (i + 1)))]) dX12_read_30 rfl (nI_1 i) (Nat.le_of_ble_eq_true rfl) rfl ?_
      refine qi_goto (tgt := 10) dX12_read_33 (by decide) ?_
      refine ih (i + 1) Mz (by omega) ((Fz.1 _ _ (by omega)).trans h4) (fun k hk => ?_) (f1.tr (Fz.mono (fun b j z => Or.inl z.1)))
      by_cases es : k = i
      · rw [es, ← wz, wI_s]
      · exact (Fz.1 _ _ (by omega)).trans (hc k (by omega))
  refine qI.of (j := 1) (pn_RX12) rfl ?_
  show qT g kX12_read (qR 8 0 0) (qZI g (fun r M' => r = (rdV (scQ t) res (t, pl, π, c, η, τ)).1 ∧ (∃ L', qDs M' L' (rdV (scQ t) res (t, pl, π, c, η, τ)).2) ∧ qFr (fun b _ => 280 ≤ b) M M')) 0 [some (.ref 280), none] [] 333 M (0, 0)
  refine qi_aload_n (i := 0) (x := 280) dX12_read_0 rfl rfl ?_
  refine qi_aload_n (i := 0) (x := 280) dX12_read_1 rfl rfl ?_
  refine qi_getI (x := nI t.1) flX12_180 dX12_read_2 rfl (by decide) tp2 ?_
  refine qi_putI flX12_187 q_cls12 (ty12_4 _) dX12_read_5 rfl (by decide) ?_
  generalize ws : wI M 280 4 (nI t.1) = Ms
  have Fs : qFr (fun b j => b = 280 ∧ j = 4) M Ms := by
    rw [← ws]
    exact qFr.rf.wI ⟨rfl, rfl⟩
  refine qi_iconst (v := 0) dX12_read_8 rfl ?_
  refine qi_istore_n (i := 1) (L2 := [some (.ref 280), some (.int 0)]) dX12_read_9 rfl (Nat.le_of_ble_eq_true rfl) rfl ?_
  exact C t.1 0 Ms (Nat.zero_add _) (by rw [← ws, wI_s]) (fun k hk => absurd hk (Nat.not_lt_zero _)) (Fs.mono (fun b j z => Or.inr z))
