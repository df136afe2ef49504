/-! the two reads, held against each other -/
theorem rdV_ok {t : qTp} {pl : Int32} {π : qPl} {c : qCo} {η : qHd} {τ : qTo} (h : okSt (t, pl, π, c, η, τ)) : okSt (rdV (scQ t) (reQ (scQ t) 401 v0Q) (t, pl, π, c, η, τ)).2 := by
  obtain ⟨⟨okt, okp, okc⟩, okco, okh, okto⟩ := h
  have okt0 : okTp (0, t.2) := ⟨Nat.zero_le _, fun k hk => absurd hk (Nat.not_lt_zero _)⟩
  have hT := sc_ok okt
  cases hA : reQ (scQ t) 401 v0Q with
  | error e => exact ⟨⟨okt0, okp, okc⟩, okco, okh, okto⟩
  | ok w =>
    by_cases h0 : w.2.1.1 = 0
    · have hr : rdV (scQ t) (.ok w) (t, pl, π, c, η, τ) = (0, ((0, t.2), -1, piQ w.2.2.2, (beginF (piQ w.2.2.2), 0, c.2.2), (fun _ => 0, η.2), (0, τ.2))) := if_pos h0
      rw [hr]
      have q := ((re_ok hT 401 v0Q w v0_ok hA).1).pl h0
      exact ⟨⟨okt0, q.1, q.2⟩, ⟨okSea.begin q.1, fun i hi => absurd hi (Nat.not_lt_zero _)⟩, fun s _ hs => absurd hs (show ¬ (0 : Int32) = 1 by decide), ⟨Nat.zero_le _, fun i hi => absurd hi (Nat.not_lt_zero _)⟩⟩
    · have hr : rdV (scQ t) (.ok w) (t, pl, π, c, η, τ) = (nI w.2.1.1, ((0, t.2), nI (pAt (scQ t) w.2.1.2), π, c, η, τ)) := if_neg h0
      rw [hr]
      exact ⟨⟨okt0, okp, okc⟩, okco, okh, okto⟩
set_option maxHeartbeats 2000000 in
theorem op_read (g : qG) {nm : String} {Z : List Frame → Array Value → State → State → Prop} (hl : qln g < 2 ^ 31) {i : Nat} (hi : i + 6 ≤ qln g) (NEXT : ∀ M σ, qG0 M σ → qT g (kLn nm) room_1 Z 1210 [some (.ref 1000000), some (.ref 0), some (.ref 280), some (.int (nI i))] [] 333 M (333, 23035)) {M : qM} {σ : qSt} (hG : qG0 M σ) : qT g (kLn nm) room_1 Z 270 [some (.ref 1000000), some (.ref 0), some (.ref 280), some (.int (nI i))] [] 333 M (333, 23035) := by
  obtain ⟨t, pl, π, c, η, τ⟩ := σ
  obtain ⟨hM, ⟨p, p2, hC⟩, ⟨L, hD⟩, hok⟩ := hG
  obtain ⟨⟨okt, okp, okc⟩, -⟩ := id hok
  refine qi_aload_n (i := 1) (x := 0) dL_law_270 rfl rfl ?_
  refine qi_callVI (K' := kX11_read) (As := []) mlL_23 okX11_read dL_law_271 (c_X11_read g hM hC okt) rfl (by decide) rfl (by decide) rfl rfl (Nat.le_of_ble_eq_true rfl) ⟨(Nat.le_of_ble_eq_true rfl), (Nat.le_of_ble_eq_true rfl)⟩ ⟨Nat.le_of_ble_eq_true rfl, Nat.le_of_ble_eq_true rfl⟩ (fun r1 M1 ⟨e1, ⟨q, q2, C1⟩, X1⟩ => ?_)
  have hM1 := X1.1
  have D1 := hD.cls X1
  refine qi_aload_n (i := 2) (x := 280) dL_law_274 rfl rfl ?_
  refine qi_callVI (K' := kX12_read) (As := []) mlL_27 okX12_read dL_law_275 (c_X12_read g hM1 D1 okt okp okc) rfl (by decide) rfl (by decide) rfl rfl (Nat.le_of_ble_eq_true rfl) ⟨(Nat.le_of_ble_eq_true rfl), (Nat.le_of_ble_eq_true rfl)⟩ ⟨Nat.le_of_ble_eq_true rfl, Nat.le_of_ble_eq_true rfl⟩ (fun r2 M2 ⟨e2, ⟨L2, D2⟩, hf2⟩ => ?_)
  have hM2 := hM1.fr hf2
  have C2 := C1.ref hf2 (fun b j z => z)
  refine qi_icmp_eq (tgt := 1210) dL_law_278 (by decide) (fun z => ?_) (fun z => False.elim (z (e1.trans e2.symm)))
  exact NEXT M2 _ ⟨hM2, ⟨q, q2, C2⟩, ⟨L2, D2⟩, rdV_ok hok⟩
theorem read_all (g : qG) (nm : String) (Z : List Frame → Array Value → State → State → Prop) (h : qln g ≤ 3072) : qRead g nm Z := fun i hi NEXT M σ hG => op_read g (by omega) hi NEXT hG
