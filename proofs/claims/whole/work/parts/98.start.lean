/-! the state between calls, at the start -/
def s_pi : qPl := (fun c => if c = 4 then 999 else 0, fun _ _ => 0, fun _ _ => 0)
def s_0 : qSt := ((0, fun _ => 0), -1, s_pi, (fun _ => 0, 0, fun _ _ => 0), (fun _ => 0, fun _ _ => 0), (0, fun _ => 0, fun _ => 0))
theorem s_sea : okSea s_pi (fun _ => 0) := ⟨fun _ => 0, fun _ => 0, 0, fun _ _ => rfl, by decide, fun _ _ => rfl, by decide, rfl, by decide⟩
theorem s_ok : okSt s_0 := ⟨⟨⟨by decide, fun k hk => absurd hk (Nat.not_lt_zero _)⟩, ⟨by decide, by decide, by decide, by decide, by decide, by decide, fun i hi => absurd hi (Nat.not_lt_zero _), fun i hi => absurd hi (Nat.not_lt_zero _), fun i hi => absurd hi (Nat.not_lt_zero _)⟩, fun k hk => absurd hk (Nat.not_lt_zero _)⟩, ⟨s_sea, fun i hi => absurd hi (Nat.not_lt_zero _)⟩, fun s hs h => absurd h (show ¬ (0 : Int32) = 1 by decide), ⟨by decide, fun i hi => absurd hi (Nat.not_lt_zero _)⟩⟩
theorem qsh_len : qshL.length = 333 := by decide +kernel
theorem q_ref_out {a k : Nat} (h : 333 ≤ a) : q_ref a k = none := by
  have e : qsh a = (99, 0) := by
    unfold qsh
    rw [List.getD_eq_getElem?_getD, List.getElem?_eq_none]
    · rfl
    · rw [qsh_len]
      exact h
  unfold q_ref
  rw [e, if_neg (by decide), if_neg (by omega), if_neg (by omega)]
theorem s_start {M : qM} (z1 : ∀ a k, a < 280 → M.1 a k = zI a k) (z2 : ∀ i, M.2.1 8 i = lN (wd5 i)) (r9 : M.2.2 0 9 = some 242) (r10 : M.2.2 0 10 = some 261) (hM : qRf M) (z3 : ∀ a k, 280 ≤ a → a < 333 → M.1 a k = if a = 307 ∧ k = 0 then 999 else zI a k) (z4 : ∀ i, i < 17 → M.2.1 287 i = lN (wd27 i)) : qG0 M s_0 := by
  have z5 : ∀ a k, 280 ≤ a → a < 333 → a ≠ 307 → M.1 a k = zI a k := fun a k h1 h2 h3 => (z3 a k h1 h2).trans (if_neg (fun z => h3 z.1))
  have no : ∀ {P : Prop} {i : Nat}, i < 0 → P := fun h => absurd h (Nat.not_lt_zero _)
  refine ⟨hM, ⟨242, 261, ⟨qIsP_1, qIsP_2, by decide⟩, ⟨⟨r9, r10⟩, ?_, ?_, z1 0 11 (by decide), fun i _ => z2 i⟩, ?_, ?_, ?_, ?_, ?_⟩, ⟨0, ?_⟩, s_ok⟩
  · refine ⟨⟨z1 242 11 (by decide), z1 242 12 (by decide), z1 242 13 (by decide), z1 242 15 (by decide), z1 242 16 (by decide)⟩, fun c i hc hi => ?_, ⟨0, by decide, z1 252 6 (by decide)⟩, fun k hk => no hk, Or.inl ⟨z1 242 14 (by decide), fun _ => rfl⟩⟩
    have e : lenP s_pi c = 0 := by
      unfold lenP
      split
      · rfl
      · split <;> rfl
    exact no (e ▸ hi)
  · exact ⟨z1 256 5 (by decide), fun k hk => no hk, fun k i hk => no hk⟩
  · exact ⟨z1 1 1 (by decide), fun k hk => no hk⟩
  · exact ⟨⟨fun k _ => z1 225 k (by decide), fun k _ => z1 227 k (by decide), fun k _ => z1 228 k (by decide), fun k _ => z1 229 k (by decide), z1 224 5 (by decide), z1 224 6 (by decide), z1 224 7 (by decide)⟩, ⟨0, by decide, z1 12 3 (by decide), z1 12 4 (by decide), by decide, fun i hi => no hi⟩⟩
  · exact ⟨fun s _ => ⟨z1 15 s (by decide), Or.inl rfl⟩, fun s _ h => absurd h (show ¬ (0 : Int32) = 1 by decide)⟩
  · exact ⟨⟨z1 214 4 (by decide), fun i hi => no hi⟩, Or.inl (z1 214 3 (by decide))⟩
  · exact Or.inl (z1 218 4 (by decide))
  · refine ⟨⟨?_, fun k hk => no hk, z5 280 17 (by decide) (by decide) (by decide), z4, fun M2 h2 => ⟨fun k hk => no hk, Or.inl ⟨(h2 309 16 (by unfold hfQ; omega)).trans (z5 309 16 (by decide) (by decide) (by decide)), (h2 310 16 (by unfold hfQ; omega)).trans (z5 310 16 (by decide) (by decide) (by decide)), fun _ => rfl⟩⟩⟩, ⟨z5 280 2 (by decide) (by decide) (by decide), fun k hk => no hk⟩, ⟨fun k _ => z5 321 k (by decide) (by decide) (by decide), by decide, z5 280 64 (by decide) (by decide) (by decide), fun i k hi => no hi⟩, ⟨fun s _ => ⟨z5 331 s (by decide) (by decide) (by decide), Or.inl rfl⟩, fun s k _ _ h => absurd h (show ¬ (0 : Int32) = 1 by decide)⟩, ⟨z5 280 72 (by decide) (by decide) (by decide), fun i hi => no hi⟩⟩
    exact ⟨⟨by decide, z5 280 18 (by decide) (by decide) (by decide)⟩, ⟨z5 291 0 (by decide) (by decide) (by decide), z5 294 0 (by decide) (by decide) (by decide), z5 299 0 (by decide) (by decide) (by decide), z5 302 0 (by decide) (by decide) (by decide), (z3 307 0 (by decide) (by decide)).trans (if_pos ⟨rfl, rfl⟩), z5 308 0 (by decide) (by decide) (by decide)⟩, fun c i _ hi => no hi, fun c i _ hi => no hi, fun c k _ hk => no hk, fun k hk => no hk, Or.inl ⟨z5 309 16 (by decide) (by decide) (by decide), z5 310 16 (by decide) (by decide) (by decide), fun _ => rfl⟩⟩
set_option maxHeartbeats 4000000 in
theorem law_all (g : qG) {nm : String} {Z : List Frame → Array Value → State → State → Prop} (hl : qln g < 2 ^ 31 - 6) (RD : qRead g nm Z) (END : ∀ i M, qT g (kLn nm) room_1 Z 1216 [some (.ref 1000000), some (.ref 0), some (.ref 280), some (.int (nI i))] [] 333 M (333, 23035)) (M0 : qM) : qT g (kLn nm) room_1 Z 0 [some (.ref 1000000), none, none, none] [] 0 M0 (0, 0) := by
  refine qi_new (c := 11) (N := 12) (ty := tyX11) dL_law_0 rfl (by decide) rfl rfl (by decide) q_in11 tyX11_ok (by decide +kernel) clL_7 inX11 itX11 (Nat.le_of_ble_eq_true rfl) (Nat.le_of_ble_eq_true rfl) ?_
  refine qi_dup dL_law_3 ?_
  refine qi_callI (b := 0) (n2 := 280) (K' := kX11_init) (As := []) mlL_9 okX11_init dL_law_4 (c_X11_init g wN_z) rfl rfl (Nat.le_of_ble_eq_true rfl) ⟨(Nat.le_of_ble_eq_true rfl), (Nat.le_of_ble_eq_true rfl)⟩ ⟨(Nat.le_of_ble_eq_true rfl), (Nat.le_of_ble_eq_true rfl)⟩ (fun M1 h1 => ?_)
  show qT g (kLn nm) room_1 Z 7 [some (.ref 1000000), none, none, none] [.ref 0] 280 M1 (280, 10410)
  refine qi_astore_n (i := 1) (L2 := [some (.ref 1000000), some (.ref 0), none, none]) dL_law_7 rfl (Nat.le_of_ble_eq_true rfl) rfl ?_
  refine qi_new (c := 12) (N := 77) (ty := tyX12) dL_law_8 sh_280 (by decide) rfl rfl (by decide) q_in12 tyX12_ok (by decide +kernel) clL_10 inX12 itX12 (Nat.le_of_ble_eq_true rfl) (Nat.le_of_ble_eq_true rfl) ?_
  refine qi_dup dL_law_11 ?_
  refine qi_callI (b := 280) (n2 := 333) (K' := kX12_init) (As := []) mlL_12 okX12_init dL_law_12 (c_X12_init g wN_z) rfl rfl (Nat.le_of_ble_eq_true rfl) ⟨(Nat.le_of_ble_eq_true rfl), (Nat.le_of_ble_eq_true rfl)⟩ ⟨(Nat.le_of_ble_eq_true rfl), (Nat.le_of_ble_eq_true rfl)⟩ (fun M2 h2 => ?_)
  show qT g (kLn nm) room_1 Z 15 [some (.ref 1000000), some (.ref 0), none, none] [.ref 280] 333 M2 (333, 23035)
  refine qi_astore_n (i := 2) (L2 := [some (.ref 1000000), some (.ref 0), some (.ref 280), none]) dL_law_15 rfl (Nat.le_of_ble_eq_true rfl) rfl ?_
  refine qi_iconst (v := 0) dL_law_16 rfl ?_
  refine qi_istore_n (i := 3) (L2 := [some (.ref 1000000), some (.ref 0), some (.ref 280), some (.int 0)]) dL_law_17 rfl (Nat.le_of_ble_eq_true rfl) rfl ?_
  obtain ⟨⟨-, u1⟩, r9, r10⟩ := h1
  obtain ⟨v1, v2, v3, v4⟩ := h2
  have e : ∀ a k, a < 280 → qSm M1 M2 a k := fun a k ha => by
    have h := v1 a k ha
    unfold qSm at *
    simp only [wN] at h
    rw [if_neg (by omega), if_neg (by omega), if_neg (by omega)] at h
    exact h
  refine law_loop g hl RD END (qln g) 0 (Nat.le_of_eq (Nat.sub_zero _)) (Nat.zero_le _) M2 s_0 (s_start (fun a k ha => (e a k ha).1.trans (u1 a k (Nat.zero_le _) ha).1) (fun i => (e 8 i (by decide)).2.1.trans (u1 8 i (Nat.zero_le _) (by decide)).2.1) ((e 0 9 (by decide)).2.2.trans r9) ((e 0 10 (by decide)).2.2.trans r10) (fun a k x hx => ?_) v2 v3)
  by_cases c : a < 280
  · exact (e a k c).2.2.trans ((u1 a k (Nat.zero_le _) c).2.2 x hx)
  · by_cases c2 : a < 333
    · exact v4 a k x (by omega) c2 hx
    · rw [q_ref_out (by omega)] at hx
      cases hx
