/-! the reference's constructor -/
def appQ (x : Int64) (c : Int32) : Int64 := if c = 0 then x else 27 * x + (c - 97 + 1).toInt64
def wdQ (a b c d e f h : Int32) : Int64 := appQ (appQ (appQ (appQ (appQ (appQ (appQ 0 a) b) c) d) e) f) h
def kJ (Mb M : qM) (t : Nat) : Prop := (∀ a k, M.1 a k = Mb.1 a k) ∧ M.2.2 = Mb.2.2 ∧ (∀ a k, a ≠ 287 → M.2.1 a k = Mb.2.1 a k) ∧ ∀ i, i < t → M.2.1 287 i = lN (wd27 i)
theorem kJ.step {Mb M : qM} {t : Nat} (h : kJ Mb M t) : kJ Mb (wJ M 287 t (lN (wd27 t))) (t + 1) := by
  obtain ⟨h1, h2, h3, h4⟩ := h
  refine ⟨h1, h2, fun a k ha => ?_, fun i hi => ?_⟩
  · simp only [wJ]
    rw [if_neg (fun z => ha z.1)]
    exact h3 a k ha
  · simp only [wJ]
    by_cases c : i = t
    · rw [if_pos ⟨trivial, c⟩, c]
    · rw [if_neg (fun z => c z.2)]
      exact h4 i (by omega)
theorem c_X12_appends (g : qG) {n : Nat} {M : qM} (x : Int64) (c : Int32) : qPz g 0 kX12_appends [.long x, .int c] n M (some (.long (appQ x c))) := by
  unfold appQ
  by_cases hc : c = 0
  · rw [if_pos hc]
    refine qPz.of (j := 0) (pn_RX12) rfl ?_
    show qT g kX12_appends (qR 0 0 0) (qZ g (fun r n' M' => n' = n ∧ r = (some (.long x)) ∧ M' = M) 0 0) 0 [some (.long x), none, some (.int c)] [] n M (0, 0)
    refine qi_iload_n (i := 2) (x := c) dX12_appends_0 rfl rfl ?_
    refine qi_if_ne (tgt := 8) dX12_appends_1 (by decide) (fun z => False.elim ((z hc))) (fun z => ?_)
    refine qi_lload_n (i := 0) (x := x) dX12_appends_4 rfl rfl ?_
    refine qi_goto (tgt := 21) dX12_appends_5 (by decide) ?_
    exact qi_lreturn rfl dX12_appends_21 ⟨by decide, by decide⟩ ⟨rfl, rfl, rfl⟩
  · rw [if_neg hc]
    refine qPz.of (j := 0) (pn_RX12) rfl ?_
    show qT g kX12_appends (qR 0 0 0) (qZ g (fun r n' M' => n' = n ∧ r = (some (.long (27 * x + (c - 97 + 1).toInt64))) ∧ M' = M) 0 0) 0 [some (.long x), none, some (.int c)] [] n M (0, 0)
    refine qi_iload_n (i := 2) (x := c) dX12_appends_0 rfl rfl ?_
    refine qi_if_ne (tgt := 8) dX12_appends_1 (by decide) (fun z => ?_) (fun z => False.elim ((hc z)))
    refine qi_ldc2 dX12_appends_8 cnX12_190 ?_
    refine qi_lload_n (i := 0) (x := x) dX12_appends_11 rfl rfl ?_
    refine qi_lmul dX12_appends_12 ?_
    refine qi_iload_n (i := 2) (x := c) dX12_appends_13 rfl rfl ?_
    refine qi_bipush (v := 97) dX12_appends_14 rfl ?_
    refine qi_isub dX12_appends_16 ?_
    refine qi_iconst (v := 1) dX12_appends_17 rfl ?_
    refine qi_iadd dX12_appends_18 ?_
    refine qi_i2l dX12_appends_19 ?_
    refine qi_ladd dX12_appends_20 ?_
    exact qi_lreturn rfl dX12_appends_21 ⟨by decide, by decide⟩ ⟨rfl, rfl, rfl⟩
theorem c_X12_word (g : qG) {n : Nat} {M : qM} (a b c d e f h : Int32) : qPz g 1 kX12_word [.int a, .int b, .int c, .int d, .int e, .int f, .int h] n M (some (.long (wdQ a b c d e f h))) := by
  refine qPz.of (j := 0) (pn_RX12) rfl ?_
  show qT g kX12_word (qR 1 0 0) (qZ g (fun r n' M' => n' = n ∧ r = (some (.long (wdQ a b c d e f h))) ∧ M' = M) 0 0) 0 [some (.int a), some (.int b), some (.int c), some (.int d), some (.int e), some (.int f), some (.int h)] [] n M (0, 0)
  refine qi_lconst (v := 0) dX12_word_0 rfl ?_
  refine qi_iload_n (i := 0) (x := a) dX12_word_1 rfl rfl ?_
  refine qi_callzS (K' := kX12_appends) (As := [.long 0, .int a]) mlX12_192 okX12_appends dX12_word_2 (c_X12_appends g 0 a) rfl rfl (Nat.le_of_ble_eq_true rfl) ⟨(Nat.le_of_ble_eq_true rfl), (Nat.le_of_ble_eq_true rfl)⟩ ⟨Nat.le_of_ble_eq_true rfl, Nat.le_of_ble_eq_true rfl⟩ ?_
  show qT g kX12_word (qR 1 0 0) (qZ g (fun r n' M' => n' = n ∧ r = (some (.long (wdQ a b c d e f h))) ∧ M' = M) 0 0) 5 [some (.int a), some (.int b), some (.int c), some (.int d), some (.int e), some (.int f), some (.int h)] [.long (appQ 0 a)] n M (0, 0)
  refine qi_iload_n (i := 1) (x := b) dX12_word_5 rfl rfl ?_
  refine qi_callzS (K' := kX12_appends) (As := [.long (appQ 0 a), .int b]) mlX12_192 okX12_appends dX12_word_6 (c_X12_appends g _ b) rfl rfl (Nat.le_of_ble_eq_true rfl) ⟨(Nat.le_of_ble_eq_true rfl), (Nat.le_of_ble_eq_true rfl)⟩ ⟨Nat.le_of_ble_eq_true rfl, Nat.le_of_ble_eq_true rfl⟩ ?_
  show qT g kX12_word (qR 1 0 0) (qZ g (fun r n' M' => n' = n ∧ r = (some (.long (wdQ a b c d e f h))) ∧ M' = M) 0 0) 9 [some (.int a), some (.int b), some (.int c), some (.int d), some (.int e), some (.int f), some (.int h)] [.long (appQ (appQ 0 a) b)] n M (0, 0)
  refine qi_iload_n (i := 2) (x := c) dX12_word_9 rfl rfl ?_
  refine qi_callzS (K' := kX12_appends) (As := [.long (appQ (appQ 0 a) b), .int c]) mlX12_192 okX12_appends dX12_word_10 (c_X12_appends g _ c) rfl rfl (Nat.le_of_ble_eq_true rfl) ⟨(Nat.le_of_ble_eq_true rfl), (Nat.le_of_ble_eq_true rfl)⟩ ⟨Nat.le_of_ble_eq_true rfl, Nat.le_of_ble_eq_true rfl⟩ ?_
  show qT g kX12_word (qR 1 0 0) (qZ g (fun r n' M' => n' = n ∧ r = (some (.long (wdQ a b c d e f h))) ∧ M' = M) 0 0) 13 [some (.int a), some (.int b), some (.int c), some (.int d), some (.int e), some (.int f), some (.int h)] [.long (appQ (appQ (appQ 0 a) b) c)] n M (0, 0)
  refine qi_iload_n (i := 3) (x := d) dX12_word_13 rfl rfl ?_
  refine qi_callzS (K' := kX12_appends) (As := [.long (appQ (appQ (appQ 0 a) b) c), .int d]) mlX12_192 okX12_appends dX12_word_14 (c_X12_appends g _ d) rfl rfl (Nat.le_of_ble_eq_true rfl) ⟨(Nat.le_of_ble_eq_true rfl), (Nat.le_of_ble_eq_true rfl)⟩ ⟨Nat.le_of_ble_eq_true rfl, Nat.le_of_ble_eq_true rfl⟩ ?_
  show qT g kX12_word (qR 1 0 0) (qZ g (fun r n' M' => n' = n ∧ r = (some (.long (wdQ a b c d e f h))) ∧ M' = M) 0 0) 17 [some (.int a), some (.int b), some (.int c), some (.int d), some (.int e), some (.int f), some (.int h)] [.long (appQ (appQ (appQ (appQ 0 a) b) c) d)] n M (0, 0)
  refine qi_iload (i := 4) (x := e) dX12_word_17 rfl ?_
  refine qi_callzS (K' := kX12_appends) (As := [.long (appQ (appQ (appQ (appQ 0 a) b) c) d), .int e]) mlX12_192 okX12_appends dX12_word_19 (c_X12_appends g _ e) rfl rfl (Nat.le_of_ble_eq_true rfl) ⟨(Nat.le_of_ble_eq_true rfl), (Nat.le_of_ble_eq_true rfl)⟩ ⟨Nat.le_of_ble_eq_true rfl, Nat.le_of_ble_eq_true rfl⟩ ?_
  show qT g kX12_word (qR 1 0 0) (qZ g (fun r n' M' => n' = n ∧ r = (some (.long (wdQ a b c d e f h))) ∧ M' = M) 0 0) 22 [some (.int a), some (.int b), some (.int c), some (.int d), some (.int e), some (.int f), some (.int h)] [.long (appQ (appQ (appQ (appQ (appQ 0 a) b) c) d) e)] n M (0, 0)
  refine qi_iload (i := 5) (x := f) dX12_word_22 rfl ?_
  refine qi_callzS (K' := kX12_appends) (As := [.long (appQ (appQ (appQ (appQ (appQ 0 a) b) c) d) e), .int f]) mlX12_192 okX12_appends dX12_word_24 (c_X12_appends g _ f) rfl rfl (Nat.le_of_ble_eq_true rfl) ⟨(Nat.le_of_ble_eq_true rfl), (Nat.le_of_ble_eq_true rfl)⟩ ⟨Nat.le_of_ble_eq_true rfl, Nat.le_of_ble_eq_true rfl⟩ ?_
  show qT g kX12_word (qR 1 0 0) (qZ g (fun r n' M' => n' = n ∧ r = (some (.long (wdQ a b c d e f h))) ∧ M' = M) 0 0) 27 [some (.int a), some (.int b), some (.int c), some (.int d), some (.int e), some (.int f), some (.int h)] [.long (appQ (appQ (appQ (appQ (appQ (appQ 0 a) b) c) d) e) f)] n M (0, 0)
  refine qi_iload (i := 6) (x := h) dX12_word_27 rfl ?_
  refine qi_callzS (K' := kX12_appends) (As := [.long (appQ (appQ (appQ (appQ (appQ (appQ 0 a) b) c) d) e) f), .int h]) mlX12_192 okX12_appends dX12_word_29 (c_X12_appends g _ h) rfl rfl (Nat.le_of_ble_eq_true rfl) ⟨(Nat.le_of_ble_eq_true rfl), (Nat.le_of_ble_eq_true rfl)⟩ ⟨Nat.le_of_ble_eq_true rfl, Nat.le_of_ble_eq_true rfl⟩ ?_
  show qT g kX12_word (qR 1 0 0) (qZ g (fun r n' M' => n' = n ∧ r = (some (.long (wdQ a b c d e f h))) ∧ M' = M) 0 0) 32 [some (.int a), some (.int b), some (.int c), some (.int d), some (.int e), some (.int f), some (.int h)] [.long (appQ (appQ (appQ (appQ (appQ (appQ (appQ 0 a) b) c) d) e) f) h)] n M (0, 0)
  exact qi_lreturn rfl dX12_word_32 ⟨by decide, by decide⟩ ⟨rfl, rfl, rfl⟩
theorem sh_280 : qsh 280 = (12, 0) := by decide +kernel
theorem sh_281 : qsh 281 = (40 + 2, 2000) := by decide +kernel
theorem sh_282 : qsh 282 = (40 + 2, 2000) := by decide +kernel
theorem sh_283 : qsh 283 = (40 + 0, 403) := by decide +kernel
theorem sh_284 : qsh 284 = (40 + 0, 403) := by decide +kernel
theorem sh_285 : qsh 285 = (40 + 0, 403) := by decide +kernel
theorem sh_286 : qsh 286 = (40 + 1, 403) := by decide +kernel
theorem sh_287 : qsh 287 = (40 + 1, 17) := by decide +kernel
theorem sh_288 : qsh 288 = (40 + 1, 24) := by decide +kernel
theorem sh_289 : qsh 289 = (40 + 0, 24) := by decide +kernel
theorem sh_290 : qsh 290 = (40 + 0, 24) := by decide +kernel
theorem sh_291 : qsh 291 = (40 + 0, 2) := by decide +kernel
theorem sh_292 : qsh 292 = (40 + 0, 10) := by decide +kernel
theorem sh_293 : qsh 293 = (40 + 0, 10) := by decide +kernel
theorem sh_294 : qsh 294 = (40 + 0, 2) := by decide +kernel
theorem sh_295 : qsh 295 = (40 + 0, 16) := by decide +kernel
theorem sh_296 : qsh 296 = (40 + 0, 16) := by decide +kernel
theorem sh_297 : qsh 297 = (40 + 0, 16) := by decide +kernel
theorem sh_298 : qsh 298 = (40 + 0, 16) := by decide +kernel
theorem sh_299 : qsh 299 = (40 + 0, 2) := by decide +kernel
theorem sh_300 : qsh 300 = (40 + 0, 32) := by decide +kernel
theorem sh_301 : qsh 301 = (40 + 0, 32) := by decide +kernel
theorem sh_302 : qsh 302 = (40 + 0, 2) := by decide +kernel
theorem sh_303 : qsh 303 = (40 + 0, 12) := by decide +kernel
theorem sh_304 : qsh 304 = (40 + 0, 72) := by decide +kernel
theorem sh_305 : qsh 305 = (40 + 0, 72) := by decide +kernel
theorem sh_306 : qsh 306 = (40 + 0, 72) := by decide +kernel
theorem sh_307 : qsh 307 = (40 + 0, 2) := by decide +kernel
theorem sh_308 : qsh 308 = (40 + 0, 2) := by decide +kernel
theorem sh_309 : qsh 309 = (40 + 0, 34) := by decide +kernel
theorem sh_310 : qsh 310 = (40 + 0, 34) := by decide +kernel
theorem sh_311 : qsh 311 = (40 + 3, 260) := by decide +kernel
theorem sh_312 : qsh 312 = (40 + 0, 260) := by decide +kernel
theorem sh_313 : qsh 313 = (40 + 0, 260) := by decide +kernel
theorem sh_314 : qsh 314 = (40 + 0, 260) := by decide +kernel
theorem sh_315 : qsh 315 = (40 + 0, 260) := by decide +kernel
theorem sh_316 : qsh 316 = (40 + 0, 840) := by decide +kernel
theorem sh_317 : qsh 317 = (40 + 0, 840) := by decide +kernel
theorem sh_318 : qsh 318 = (40 + 0, 64) := by decide +kernel
theorem sh_319 : qsh 319 = (40 + 0, 6) := by decide +kernel
theorem sh_320 : qsh 320 = (40 + 0, 400) := by decide +kernel
theorem sh_321 : qsh 321 = (40 + 0, 80) := by decide +kernel
theorem sh_322 : qsh 322 = (40 + 0, 80) := by decide +kernel
theorem sh_323 : qsh 323 = (40 + 0, 40) := by decide +kernel
theorem sh_324 : qsh 324 = (40 + 1, 40) := by decide +kernel
theorem sh_325 : qsh 325 = (40 + 0, 2400) := by decide +kernel
theorem sh_326 : qsh 326 = (40 + 0, 8) := by decide +kernel
theorem sh_327 : qsh 327 = (40 + 0, 5) := by decide +kernel
theorem sh_328 : qsh 328 = (40 + 0, 5) := by decide +kernel
theorem sh_329 : qsh 329 = (40 + 0, 20) := by decide +kernel
theorem sh_330 : qsh 330 = (40 + 0, 20) := by decide +kernel
theorem sh_331 : qsh 331 = (40 + 3, 3) := by decide +kernel
theorem sh_332 : qsh 332 = (40 + 0, 240) := by decide +kernel
set_option maxHeartbeats 8000000 in
theorem c_X12_c0 (g : qG) {Z : List Frame → Array Value → State → State → Prop} {M0 M : qM} {I : Nat → Int32} {R : Nat → Option Nat} (u0 : qUI J0 280 281 M0 M I R) (kk : ∀ M', qUI J0 280 289 M0 M' (updF I 17 (-1)) (updF (updF (updF (updF (updF (updF (updF (updF R 1 (some 281)) 3 (some 282)) 5 (some 283)) 6 (some 284)) 7 (some 285)) 8 (some 286)) 9 (some 287)) 21 (some 288)) → qT g kX12_init (qR 2 52 12548) Z 79 [some (.ref 280)] [] 289 M' (8, 5653)) : qT g kX12_init (qR 2 52 12548) Z 4 [some (.ref 280)] [] 281 M (0, 0) := by
  refine qi_aload_n (i := 0) (x := 280) dX12_init_4 rfl rfl ?_
  refine qi_sipush (v := 2000) dX12_init_5 rfl ?_
  refine qi_newa (N := 2000) (t := 2) (ty := .byte) dX12_init_8 sh_281 (by omega) rfl (by decide) ac_byte (by decide) (by decide) (by decide) (by decide) (by decide) ?_
  refine qi_putR (x := 281) flX12_13 q_cls12 ty12_1 (fun _ => ⟨rfl, rfl⟩) dX12_init_10 sh_280 (by decide) ?_
  have u1 := u0.arr (zN_of (t := 2) (N := 2000) sh_281 (by omega)) 1
  generalize wR (wN M 281) 280 1 (some 281) = M1 at u1 ⊢
  refine qi_aload_n (i := 0) (x := 280) dX12_init_13 rfl rfl ?_
  refine qi_sipush (v := 2000) dX12_init_14 rfl ?_
  refine qi_newa (N := 2000) (t := 2) (ty := .byte) dX12_init_17 sh_282 (by omega) rfl (by decide) ac_byte (by decide) (by decide) (by decide) (by decide) (by decide) ?_
  refine qi_putR (x := 282) flX12_17 q_cls12 ty12_3 (fun _ => ⟨rfl, rfl⟩) dX12_init_19 sh_280 (by decide) ?_
  have u2 := u1.arr (zN_of (t := 2) (N := 2000) sh_282 (by omega)) 3
  generalize wR (wN M1 282) 280 3 (some 282) = M2 at u2 ⊢
  refine qi_aload_n (i := 0) (x := 280) dX12_init_22 rfl rfl ?_
  refine qi_sipush (v := 403) dX12_init_23 rfl ?_
  refine qi_newa (N := 403) (t := 0) (ty := .int) dX12_init_26 sh_283 (by omega) rfl (by decide) ac_int (by decide) (by decide) (by decide) (by decide) (by decide) ?_
  refine qi_putR (x := 283) flX12_20 q_cls12 ty12_5 (fun _ => ⟨rfl, rfl⟩) dX12_init_28 sh_280 (by decide) ?_
  have u3 := u2.arr (zN_of (t := 0) (N := 403) sh_283 (by omega)) 5
  generalize wR (wN M2 283) 280 5 (some 283) = M3 at u3 ⊢
  refine qi_aload_n (i := 0) (x := 280) dX12_init_31 rfl rfl ?_
  refine qi_sipush (v := 403) dX12_init_32 rfl ?_
  refine qi_newa (N := 403) (t := 0) (ty := .int) dX12_init_35 sh_284 (by omega) rfl (by decide) ac_int (by decide) (by decide) (by decide) (by decide) (by decide) ?_
  refine qi_putR (x := 284) flX12_24 q_cls12 ty12_6 (fun _ => ⟨rfl, rfl⟩) dX12_init_37 sh_280 (by decide) ?_
  have u4 := u3.arr (zN_of (t := 0) (N := 403) sh_284 (by omega)) 6
  generalize wR (wN M3 284) 280 6 (some 284) = M4 at u4 ⊢
  refine qi_aload_n (i := 0) (x := 280) dX12_init_40 rfl rfl ?_
  refine qi_sipush (v := 403) dX12_init_41 rfl ?_
  refine qi_newa (N := 403) (t := 0) (ty := .int) dX12_init_44 sh_285 (by omega) rfl (by decide) ac_int (by decide) (by decide) (by decide) (by decide) (by decide) ?_
  refine qi_putR (x := 285) flX12_27 q_cls12 ty12_7 (fun _ => ⟨rfl, rfl⟩) dX12_init_46 sh_280 (by decide) ?_
  have u5 := u4.arr (zN_of (t := 0) (N := 403) sh_285 (by omega)) 7
  generalize wR (wN M4 285) 280 7 (some 285) = M5 at u5 ⊢
  refine qi_aload_n (i := 0) (x := 280) dX12_init_49 rfl rfl ?_
  refine qi_sipush (v := 403) dX12_init_50 rfl ?_
  refine qi_newa (N := 403) (t := 1) (ty := .long) dX12_init_53 sh_286 (by omega) rfl (by decide) ac_long (by decide) (by decide) (by decide) (by decide) (by decide) ?_
  refine qi_putR (x := 286) flX12_30 q_cls12 ty12_8 (fun _ => ⟨rfl, rfl⟩) dX12_init_55 sh_280 (by decide) ?_
  have u6 := u5.arr (zN_of (t := 1) (N := 403) sh_286 (by omega)) 8
  generalize wR (wN M5 286) 280 8 (some 286) = M6 at u6 ⊢
  refine qi_aload_n (i := 0) (x := 280) dX12_init_58 rfl rfl ?_
  refine qi_bipush (v := 17) dX12_init_59 rfl ?_
  refine qi_newa (N := 17) (t := 1) (ty := .long) dX12_init_61 sh_287 (by omega) rfl (by decide) ac_long (by decide) (by decide) (by decide) (by decide) (by decide) ?_
  refine qi_putR (x := 287) flX12_34 q_cls12 ty12_9 (fun _ => ⟨rfl, rfl⟩) dX12_init_63 sh_280 (by decide) ?_
  have u7 := u6.arr (zN_of (t := 1) (N := 17) sh_287 (by omega)) 9
  generalize wR (wN M6 287) 280 9 (some 287) = M7 at u7 ⊢
  refine qi_aload_n (i := 0) (x := 280) dX12_init_66 rfl rfl ?_
  refine qi_iconst (v := -1) dX12_init_67 rfl ?_
  refine qi_putI flX12_37 q_cls12 (ty12_17 _) dX12_init_68 sh_280 (by decide) ?_
  have u8 := u7.int 17 (-1)
  generalize wI M7 280 17 (-1) = M8 at u8 ⊢
  refine qi_aload_n (i := 0) (x := 280) dX12_init_71 rfl rfl ?_
  refine qi_bipush (v := 24) dX12_init_72 rfl ?_
  refine qi_newa (N := 24) (t := 1) (ty := .long) dX12_init_74 sh_288 (by omega) rfl (by decide) ac_long (by decide) (by decide) (by decide) (by decide) (by decide) ?_
  refine qi_putR (x := 288) flX12_40 q_cls12 ty12_21 (fun _ => ⟨rfl, rfl⟩) dX12_init_76 sh_280 (by decide) ?_
  have u9 := u8.arr (zN_of (t := 1) (N := 24) sh_288 (by omega)) 21
  generalize wR (wN M8 288) 280 21 (some 288) = M9 at u9 ⊢
  exact kk _ u9
set_option maxHeartbeats 8000000 in
theorem c_X12_c1 (g : qG) {Z : List Frame → Array Value → State → State → Prop} {M0 M : qM} {I : Nat → Int32} {R : Nat → Option Nat} (u9 : qUI J0 280 289 M0 M I R) (kk : ∀ M', qUI J0 280 298 M0 M' I (updF (updF (updF (updF (updF (updF (updF (updF (updF R 22 (some 289)) 23 (some 290)) 24 (some 291)) 25 (some 292)) 26 (some 293)) 27 (some 294)) 28 (some 295)) 29 (some 296)) 30 (some 297)) → qT g kX12_init (qR 2 52 12548) Z 149 [some (.ref 280)] [] 298 M' (17, 5773)) : qT g kX12_init (qR 2 52 12548) Z 79 [some (.ref 280)] [] 289 M (8, 5653) := by
  refine qi_aload_n (i := 0) (x := 280) dX12_init_79 rfl rfl ?_
  refine qi_bipush (v := 24) dX12_init_80 rfl ?_
  refine qi_newa (N := 24) (t := 0) (ty := .int) dX12_init_82 sh_289 (by omega) rfl (by decide) ac_int (by decide) (by decide) (by decide) (by decide) (by decide) ?_
  refine qi_putR (x := 289) flX12_43 q_cls12 ty12_22 (fun _ => ⟨rfl, rfl⟩) dX12_init_84 sh_280 (by decide) ?_
  have u10 := u9.arr (zN_of (t := 0) (N := 24) sh_289 (by omega)) 22
  generalize wR (wN M 289) 280 22 (some 289) = M10 at u10 ⊢
  refine qi_aload_n (i := 0) (x := 280) dX12_init_87 rfl rfl ?_
  refine qi_bipush (v := 24) dX12_init_88 rfl ?_
  refine qi_newa (N := 24) (t := 0) (ty := .int) dX12_init_90 sh_290 (by omega) rfl (by decide) ac_int (by decide) (by decide) (by decide) (by decide) (by decide) ?_
  refine qi_putR (x := 290) flX12_46 q_cls12 ty12_23 (fun _ => ⟨rfl, rfl⟩) dX12_init_92 sh_280 (by decide) ?_
  have u11 := u10.arr (zN_of (t := 0) (N := 24) sh_290 (by omega)) 23
  generalize wR (wN M10 290) 280 23 (some 290) = M11 at u11 ⊢
  refine qi_aload_n (i := 0) (x := 280) dX12_init_95 rfl rfl ?_
  refine qi_iconst (v := 2) dX12_init_96 rfl ?_
  refine qi_newa (N := 2) (t := 0) (ty := .int) dX12_init_97 sh_291 (by omega) rfl (by decide) ac_int (by decide) (by decide) (by decide) (by decide) (by decide) ?_
  refine qi_putR (x := 291) flX12_49 q_cls12 ty12_24 (fun _ => ⟨rfl, rfl⟩) dX12_init_99 sh_280 (by decide) ?_
  have u12 := u11.arr (zN_of (t := 0) (N := 2) sh_291 (by omega)) 24
  generalize wR (wN M11 291) 280 24 (some 291) = M12 at u12 ⊢
  refine qi_aload_n (i := 0) (x := 280) dX12_init_102 rfl rfl ?_
  refine qi_bipush (v := 10) dX12_init_103 rfl ?_
  refine qi_newa (N := 10) (t := 0) (ty := .int) dX12_init_105 sh_292 (by omega) rfl (by decide) ac_int (by decide) (by decide) (by decide) (by decide) (by decide) ?_
  refine qi_putR (x := 292) flX12_52 q_cls12 ty12_25 (fun _ => ⟨rfl, rfl⟩) dX12_init_107 sh_280 (by decide) ?_
  have u13 := u12.arr (zN_of (t := 0) (N := 10) sh_292 (by omega)) 25
  generalize wR (wN M12 292) 280 25 (some 292) = M13 at u13 ⊢
  refine qi_aload_n (i := 0) (x := 280) dX12_init_110 rfl rfl ?_
  refine qi_bipush (v := 10) dX12_init_111 rfl ?_
  refine qi_newa (N := 10) (t := 0) (ty := .int) dX12_init_113 sh_293 (by omega) rfl (by decide) ac_int (by decide) (by decide) (by decide) (by decide) (by decide) ?_
  refine qi_putR (x := 293) flX12_55 q_cls12 ty12_26 (fun _ => ⟨rfl, rfl⟩) dX12_init_115 sh_280 (by decide) ?_
  have u14 := u13.arr (zN_of (t := 0) (N := 10) sh_293 (by omega)) 26
  generalize wR (wN M13 293) 280 26 (some 293) = M14 at u14 ⊢
  refine qi_aload_n (i := 0) (x := 280) dX12_init_118 rfl rfl ?_
  refine qi_iconst (v := 2) dX12_init_119 rfl ?_
  refine qi_newa (N := 2) (t := 0) (ty := .int) dX12_init_120 sh_294 (by omega) rfl (by decide) ac_int (by decide) (by decide) (by decide) (by decide) (by decide) ?_
  refine qi_putR (x := 294) flX12_58 q_cls12 ty12_27 (fun _ => ⟨rfl, rfl⟩) dX12_init_122 sh_280 (by decide) ?_
  have u15 := u14.arr (zN_of (t := 0) (N := 2) sh_294 (by omega)) 27
  generalize wR (wN M14 294) 280 27 (some 294) = M15 at u15 ⊢
  refine qi_aload_n (i := 0) (x := 280) dX12_init_125 rfl rfl ?_
  refine qi_bipush (v := 16) dX12_init_126 rfl ?_
  refine qi_newa (N := 16) (t := 0) (ty := .int) dX12_init_128 sh_295 (by omega) rfl (by decide) ac_int (by decide) (by decide) (by decide) (by decide) (by decide) ?_
  refine qi_putR (x := 295) flX12_61 q_cls12 ty12_28 (fun _ => ⟨rfl, rfl⟩) dX12_init_130 sh_280 (by decide) ?_
  have u16 := u15.arr (zN_of (t := 0) (N := 16) sh_295 (by omega)) 28
  generalize wR (wN M15 295) 280 28 (some 295) = M16 at u16 ⊢
  refine qi_aload_n (i := 0) (x := 280) dX12_init_133 rfl rfl ?_
  refine qi_bipush (v := 16) dX12_init_134 rfl ?_
  refine qi_newa (N := 16) (t := 0) (ty := .int) dX12_init_136 sh_296 (by omega) rfl (by decide) ac_int (by decide) (by decide) (by decide) (by decide) (by decide) ?_
  refine qi_putR (x := 296) flX12_64 q_cls12 ty12_29 (fun _ => ⟨rfl, rfl⟩) dX12_init_138 sh_280 (by decide) ?_
  have u17 := u16.arr (zN_of (t := 0) (N := 16) sh_296 (by omega)) 29
  generalize wR (wN M16 296) 280 29 (some 296) = M17 at u17 ⊢
  refine qi_aload_n (i := 0) (x := 280) dX12_init_141 rfl rfl ?_
  refine qi_bipush (v := 16) dX12_init_142 rfl ?_
  refine qi_newa (N := 16) (t := 0) (ty := .int) dX12_init_144 sh_297 (by omega) rfl (by decide) ac_int (by decide) (by decide) (by decide) (by decide) (by decide) ?_
  refine qi_putR (x := 297) flX12_67 q_cls12 ty12_30 (fun _ => ⟨rfl, rfl⟩) dX12_init_146 sh_280 (by decide) ?_
  have u18 := u17.arr (zN_of (t := 0) (N := 16) sh_297 (by omega)) 30
  generalize wR (wN M17 297) 280 30 (some 297) = M18 at u18 ⊢
  exact kk _ u18
set_option maxHeartbeats 8000000 in
theorem c_X12_c2 (g : qG) {Z : List Frame → Array Value → State → State → Prop} {M0 M : qM} {I : Nat → Int32} {R : Nat → Option Nat} (u18 : qUI J0 280 298 M0 M I R) (kk : ∀ M', qUI J0 280 307 M0 M' I (updF (updF (updF (updF (updF (updF (updF (updF (updF R 31 (some 298)) 32 (some 299)) 33 (some 300)) 34 (some 301)) 35 (some 302)) 36 (some 303)) 37 (some 304)) 38 (some 305)) 39 (some 306)) → qT g kX12_init (qR 2 52 12548) Z 219 [some (.ref 280)] [] 307 M' (26, 6085)) : qT g kX12_init (qR 2 52 12548) Z 149 [some (.ref 280)] [] 298 M (17, 5773) := by
  refine qi_aload_n (i := 0) (x := 280) dX12_init_149 rfl rfl ?_
  refine qi_bipush (v := 16) dX12_init_150 rfl ?_
  refine qi_newa (N := 16) (t := 0) (ty := .int) dX12_init_152 sh_298 (by omega) rfl (by decide) ac_int (by decide) (by decide) (by decide) (by decide) (by decide) ?_
  refine qi_putR (x := 298) flX12_70 q_cls12 ty12_31 (fun _ => ⟨rfl, rfl⟩) dX12_init_154 sh_280 (by decide) ?_
  have u19 := u18.arr (zN_of (t := 0) (N := 16) sh_298 (by omega)) 31
  generalize wR (wN M 298) 280 31 (some 298) = M19 at u19 ⊢
  refine qi_aload_n (i := 0) (x := 280) dX12_init_157 rfl rfl ?_
  refine qi_iconst (v := 2) dX12_init_158 rfl ?_
  refine qi_newa (N := 2) (t := 0) (ty := .int) dX12_init_159 sh_299 (by omega) rfl (by decide) ac_int (by decide) (by decide) (by decide) (by decide) (by decide) ?_
  refine qi_putR (x := 299) flX12_73 q_cls12 ty12_32 (fun _ => ⟨rfl, rfl⟩) dX12_init_161 sh_280 (by decide) ?_
  have u20 := u19.arr (zN_of (t := 0) (N := 2) sh_299 (by omega)) 32
  generalize wR (wN M19 299) 280 32 (some 299) = M20 at u20 ⊢
  refine qi_aload_n (i := 0) (x := 280) dX12_init_164 rfl rfl ?_
  refine qi_bipush (v := 32) dX12_init_165 rfl ?_
  refine qi_newa (N := 32) (t := 0) (ty := .int) dX12_init_167 sh_300 (by omega) rfl (by decide) ac_int (by decide) (by decide) (by decide) (by decide) (by decide) ?_
  refine qi_putR (x := 300) flX12_76 q_cls12 ty12_33 (fun _ => ⟨rfl, rfl⟩) dX12_init_169 sh_280 (by decide) ?_
  have u21 := u20.arr (zN_of (t := 0) (N := 32) sh_300 (by omega)) 33
  generalize wR (wN M20 300) 280 33 (some 300) = M21 at u21 ⊢
  refine qi_aload_n (i := 0) (x := 280) dX12_init_172 rfl rfl ?_
  refine qi_bipush (v := 32) dX12_init_173 rfl ?_
  refine qi_newa (N := 32) (t := 0) (ty := .int) dX12_init_175 sh_301 (by omega) rfl (by decide) ac_int (by decide) (by decide) (by decide) (by decide) (by decide) ?_
  refine qi_putR (x := 301) flX12_79 q_cls12 ty12_34 (fun _ => ⟨rfl, rfl⟩) dX12_init_177 sh_280 (by decide) ?_
  have u22 := u21.arr (zN_of (t := 0) (N := 32) sh_301 (by omega)) 34
  generalize wR (wN M21 301) 280 34 (some 301) = M22 at u22 ⊢
  refine qi_aload_n (i := 0) (x := 280) dX12_init_180 rfl rfl ?_
  refine qi_iconst (v := 2) dX12_init_181 rfl ?_
  refine qi_newa (N := 2) (t := 0) (ty := .int) dX12_init_182 sh_302 (by omega) rfl (by decide) ac_int (by decide) (by decide) (by decide) (by decide) (by decide) ?_
  refine qi_putR (x := 302) flX12_82 q_cls12 ty12_35 (fun _ => ⟨rfl, rfl⟩) dX12_init_184 sh_280 (by decide) ?_
  have u23 := u22.arr (zN_of (t := 0) (N := 2) sh_302 (by omega)) 35
  generalize wR (wN M22 302) 280 35 (some 302) = M23 at u23 ⊢
  refine qi_aload_n (i := 0) (x := 280) dX12_init_187 rfl rfl ?_
  refine qi_bipush (v := 12) dX12_init_188 rfl ?_
  refine qi_newa (N := 12) (t := 0) (ty := .int) dX12_init_190 sh_303 (by omega) rfl (by decide) ac_int (by decide) (by decide) (by decide) (by decide) (by decide) ?_
  refine qi_putR (x := 303) flX12_85 q_cls12 ty12_36 (fun _ => ⟨rfl, rfl⟩) dX12_init_192 sh_280 (by decide) ?_
  have u24 := u23.arr (zN_of (t := 0) (N := 12) sh_303 (by omega)) 36
  generalize wR (wN M23 303) 280 36 (some 303) = M24 at u24 ⊢
  refine qi_aload_n (i := 0) (x := 280) dX12_init_195 rfl rfl ?_
  refine qi_bipush (v := 72) dX12_init_196 rfl ?_
  refine qi_newa (N := 72) (t := 0) (ty := .int) dX12_init_198 sh_304 (by omega) rfl (by decide) ac_int (by decide) (by decide) (by decide) (by decide) (by decide) ?_
  refine qi_putR (x := 304) flX12_88 q_cls12 ty12_37 (fun _ => ⟨rfl, rfl⟩) dX12_init_200 sh_280 (by decide) ?_
  have u25 := u24.arr (zN_of (t := 0) (N := 72) sh_304 (by omega)) 37
  generalize wR (wN M24 304) 280 37 (some 304) = M25 at u25 ⊢
  refine qi_aload_n (i := 0) (x := 280) dX12_init_203 rfl rfl ?_
  refine qi_bipush (v := 72) dX12_init_204 rfl ?_
  refine qi_newa (N := 72) (t := 0) (ty := .int) dX12_init_206 sh_305 (by omega) rfl (by decide) ac_int (by decide) (by decide) (by decide) (by decide) (by decide) ?_
  refine qi_putR (x := 305) flX12_91 q_cls12 ty12_38 (fun _ => ⟨rfl, rfl⟩) dX12_init_208 sh_280 (by decide) ?_
  have u26 := u25.arr (zN_of (t := 0) (N := 72) sh_305 (by omega)) 38
  generalize wR (wN M25 305) 280 38 (some 305) = M26 at u26 ⊢
  refine qi_aload_n (i := 0) (x := 280) dX12_init_211 rfl rfl ?_
  refine qi_bipush (v := 72) dX12_init_212 rfl ?_
  refine qi_newa (N := 72) (t := 0) (ty := .int) dX12_init_214 sh_306 (by omega) rfl (by decide) ac_int (by decide) (by decide) (by decide) (by decide) (by decide) ?_
  refine qi_putR (x := 306) flX12_94 q_cls12 ty12_39 (fun _ => ⟨rfl, rfl⟩) dX12_init_216 sh_280 (by decide) ?_
  have u27 := u26.arr (zN_of (t := 0) (N := 72) sh_306 (by omega)) 39
  generalize wR (wN M26 306) 280 39 (some 306) = M27 at u27 ⊢
  exact kk _ u27
set_option maxHeartbeats 8000000 in
theorem c_X12_c3 (g : qG) {Z : List Frame → Array Value → State → State → Prop} {M0 M : qM} {I : Nat → Int32} {R : Nat → Option Nat} (u27 : qUI J0 280 307 M0 M I R) (kk : ∀ M', qUI J0 280 316 M0 M' I (updF (updF (updF (updF (updF (updF (updF (updF (updF R 40 (some 307)) 41 (some 308)) 42 (some 309)) 43 (some 310)) 45 (some 311)) 46 (some 312)) 47 (some 313)) 48 (some 314)) 49 (some 315)) → qT g kX12_init (qR 2 52 12548) Z 294 [some (.ref 280)] [] 316 M' (35, 7457)) : qT g kX12_init (qR 2 52 12548) Z 219 [some (.ref 280)] [] 307 M (26, 6085) := by
  refine qi_aload_n (i := 0) (x := 280) dX12_init_219 rfl rfl ?_
  refine qi_iconst (v := 2) dX12_init_220 rfl ?_
  refine qi_newa (N := 2) (t := 0) (ty := .int) dX12_init_221 sh_307 (by omega) rfl (by decide) ac_int (by decide) (by decide) (by decide) (by decide) (by decide) ?_
  refine qi_putR (x := 307) flX12_97 q_cls12 ty12_40 (fun _ => ⟨rfl, rfl⟩) dX12_init_223 sh_280 (by decide) ?_
  have u28 := u27.arr (zN_of (t := 0) (N := 2) sh_307 (by omega)) 40
  generalize wR (wN M 307) 280 40 (some 307) = M28 at u28 ⊢
  refine qi_aload_n (i := 0) (x := 280) dX12_init_226 rfl rfl ?_
  refine qi_iconst (v := 2) dX12_init_227 rfl ?_
  refine qi_newa (N := 2) (t := 0) (ty := .int) dX12_init_228 sh_308 (by omega) rfl (by decide) ac_int (by decide) (by decide) (by decide) (by decide) (by decide) ?_
  refine qi_putR (x := 308) flX12_100 q_cls12 ty12_41 (fun _ => ⟨rfl, rfl⟩) dX12_init_230 sh_280 (by decide) ?_
  have u29 := u28.arr (zN_of (t := 0) (N := 2) sh_308 (by omega)) 41
  generalize wR (wN M28 308) 280 41 (some 308) = M29 at u29 ⊢
  refine qi_aload_n (i := 0) (x := 280) dX12_init_233 rfl rfl ?_
  refine qi_bipush (v := 34) dX12_init_234 rfl ?_
  refine qi_newa (N := 34) (t := 0) (ty := .int) dX12_init_236 sh_309 (by omega) rfl (by decide) ac_int (by decide) (by decide) (by decide) (by decide) (by decide) ?_
  refine qi_putR (x := 309) flX12_103 q_cls12 ty12_42 (fun _ => ⟨rfl, rfl⟩) dX12_init_238 sh_280 (by decide) ?_
  have u30 := u29.arr (zN_of (t := 0) (N := 34) sh_309 (by omega)) 42
  generalize wR (wN M29 309) 280 42 (some 309) = M30 at u30 ⊢
  refine qi_aload_n (i := 0) (x := 280) dX12_init_241 rfl rfl ?_
  refine qi_bipush (v := 34) dX12_init_242 rfl ?_
  refine qi_newa (N := 34) (t := 0) (ty := .int) dX12_init_244 sh_310 (by omega) rfl (by decide) ac_int (by decide) (by decide) (by decide) (by decide) (by decide) ?_
  refine qi_putR (x := 310) flX12_106 q_cls12 ty12_43 (fun _ => ⟨rfl, rfl⟩) dX12_init_246 sh_280 (by decide) ?_
  have u31 := u30.arr (zN_of (t := 0) (N := 34) sh_310 (by omega)) 43
  generalize wR (wN M30 310) 280 43 (some 310) = M31 at u31 ⊢
  refine qi_aload_n (i := 0) (x := 280) dX12_init_249 rfl rfl ?_
  refine qi_sipush (v := 260) dX12_init_250 rfl ?_
  refine qi_newa (N := 260) (t := 3) (ty := .boolean) dX12_init_253 sh_311 (by omega) rfl (by decide) ac_boolean (by decide) (by decide) (by decide) (by decide) (by decide) ?_
  refine qi_putR (x := 311) flX12_109 q_cls12 ty12_45 (fun _ => ⟨rfl, rfl⟩) dX12_init_255 sh_280 (by decide) ?_
  have u32 := u31.arr (zN_of (t := 3) (N := 260) sh_311 (by omega)) 45
  generalize wR (wN M31 311) 280 45 (some 311) = M32 at u32 ⊢
  refine qi_aload_n (i := 0) (x := 280) dX12_init_258 rfl rfl ?_
  refine qi_sipush (v := 260) dX12_init_259 rfl ?_
  refine qi_newa (N := 260) (t := 0) (ty := .int) dX12_init_262 sh_312 (by omega) rfl (by decide) ac_int (by decide) (by decide) (by decide) (by decide) (by decide) ?_
  refine qi_putR (x := 312) flX12_113 q_cls12 ty12_46 (fun _ => ⟨rfl, rfl⟩) dX12_init_264 sh_280 (by decide) ?_
  have u33 := u32.arr (zN_of (t := 0) (N := 260) sh_312 (by omega)) 46
  generalize wR (wN M32 312) 280 46 (some 312) = M33 at u33 ⊢
  refine qi_aload_n (i := 0) (x := 280) dX12_init_267 rfl rfl ?_
  refine qi_sipush (v := 260) dX12_init_268 rfl ?_
  refine qi_newa (N := 260) (t := 0) (ty := .int) dX12_init_271 sh_313 (by omega) rfl (by decide) ac_int (by decide) (by decide) (by decide) (by decide) (by decide) ?_
  refine qi_putR (x := 313) flX12_116 q_cls12 ty12_47 (fun _ => ⟨rfl, rfl⟩) dX12_init_273 sh_280 (by decide) ?_
  have u34 := u33.arr (zN_of (t := 0) (N := 260) sh_313 (by omega)) 47
  generalize wR (wN M33 313) 280 47 (some 313) = M34 at u34 ⊢
  refine qi_aload_n (i := 0) (x := 280) dX12_init_276 rfl rfl ?_
  refine qi_sipush (v := 260) dX12_init_277 rfl ?_
  refine qi_newa (N := 260) (t := 0) (ty := .int) dX12_init_280 sh_314 (by omega) rfl (by decide) ac_int (by decide) (by decide) (by decide) (by decide) (by decide) ?_
  refine qi_putR (x := 314) flX12_119 q_cls12 ty12_48 (fun _ => ⟨rfl, rfl⟩) dX12_init_282 sh_280 (by decide) ?_
  have u35 := u34.arr (zN_of (t := 0) (N := 260) sh_314 (by omega)) 48
  generalize wR (wN M34 314) 280 48 (some 314) = M35 at u35 ⊢
  refine qi_aload_n (i := 0) (x := 280) dX12_init_285 rfl rfl ?_
  refine qi_sipush (v := 260) dX12_init_286 rfl ?_
  refine qi_newa (N := 260) (t := 0) (ty := .int) dX12_init_289 sh_315 (by omega) rfl (by decide) ac_int (by decide) (by decide) (by decide) (by decide) (by decide) ?_
  refine qi_putR (x := 315) flX12_122 q_cls12 ty12_49 (fun _ => ⟨rfl, rfl⟩) dX12_init_291 sh_280 (by decide) ?_
  have u36 := u35.arr (zN_of (t := 0) (N := 260) sh_315 (by omega)) 49
  generalize wR (wN M35 315) 280 49 (some 315) = M36 at u36 ⊢
  exact kk _ u36
set_option maxHeartbeats 8000000 in
theorem c_X12_c4 (g : qG) {Z : List Frame → Array Value → State → State → Prop} {M0 M : qM} {I : Nat → Int32} {R : Nat → Option Nat} (u36 : qUI J0 280 316 M0 M I R) (kk : ∀ M', qUI J0 280 325 M0 M' I (updF (updF (updF (updF (updF (updF (updF (updF (updF R 51 (some 316)) 52 (some 317)) 53 (some 318)) 55 (some 319)) 56 (some 320)) 58 (some 321)) 59 (some 322)) 62 (some 323)) 63 (some 324)) → qT g kX12_init (qR 2 52 12548) Z 369 [some (.ref 280)] [] 325 M' (44, 9847)) : qT g kX12_init (qR 2 52 12548) Z 294 [some (.ref 280)] [] 316 M (35, 7457) := by
  refine qi_aload_n (i := 0) (x := 280) dX12_init_294 rfl rfl ?_
  refine qi_sipush (v := 840) dX12_init_295 rfl ?_
  refine qi_newa (N := 840) (t := 0) (ty := .int) dX12_init_298 sh_316 (by omega) rfl (by decide) ac_int (by decide) (by decide) (by decide) (by decide) (by decide) ?_
  refine qi_putR (x := 316) flX12_125 q_cls12 ty12_51 (fun _ => ⟨rfl, rfl⟩) dX12_init_300 sh_280 (by decide) ?_
  have u37 := u36.arr (zN_of (t := 0) (N := 840) sh_316 (by omega)) 51
  generalize wR (wN M 316) 280 51 (some 316) = M37 at u37 ⊢
  refine qi_aload_n (i := 0) (x := 280) dX12_init_303 rfl rfl ?_
  refine qi_sipush (v := 840) dX12_init_304 rfl ?_
  refine qi_newa (N := 840) (t := 0) (ty := .int) dX12_init_307 sh_317 (by omega) rfl (by decide) ac_int (by decide) (by decide) (by decide) (by decide) (by decide) ?_
  refine qi_putR (x := 317) flX12_128 q_cls12 ty12_52 (fun _ => ⟨rfl, rfl⟩) dX12_init_309 sh_280 (by decide) ?_
  have u38 := u37.arr (zN_of (t := 0) (N := 840) sh_317 (by omega)) 52
  generalize wR (wN M37 317) 280 52 (some 317) = M38 at u38 ⊢
  refine qi_aload_n (i := 0) (x := 280) dX12_init_312 rfl rfl ?_
  refine qi_bipush (v := 64) dX12_init_313 rfl ?_
  refine qi_newa (N := 64) (t := 0) (ty := .int) dX12_init_315 sh_318 (by omega) rfl (by decide) ac_int (by decide) (by decide) (by decide) (by decide) (by decide) ?_
  refine qi_putR (x := 318) flX12_131 q_cls12 ty12_53 (fun _ => ⟨rfl, rfl⟩) dX12_init_317 sh_280 (by decide) ?_
  have u39 := u38.arr (zN_of (t := 0) (N := 64) sh_318 (by omega)) 53
  generalize wR (wN M38 318) 280 53 (some 318) = M39 at u39 ⊢
  refine qi_aload_n (i := 0) (x := 280) dX12_init_320 rfl rfl ?_
  refine qi_bipush (v := 6) dX12_init_321 rfl ?_
  refine qi_newa (N := 6) (t := 0) (ty := .int) dX12_init_323 sh_319 (by omega) rfl (by decide) ac_int (by decide) (by decide) (by decide) (by decide) (by decide) ?_
  refine qi_putR (x := 319) flX12_134 q_cls12 ty12_55 (fun _ => ⟨rfl, rfl⟩) dX12_init_325 sh_280 (by decide) ?_
  have u40 := u39.arr (zN_of (t := 0) (N := 6) sh_319 (by omega)) 55
  generalize wR (wN M39 319) 280 55 (some 319) = M40 at u40 ⊢
  refine qi_aload_n (i := 0) (x := 280) dX12_init_328 rfl rfl ?_
  refine qi_sipush (v := 400) dX12_init_329 rfl ?_
  refine qi_newa (N := 400) (t := 0) (ty := .int) dX12_init_332 sh_320 (by omega) rfl (by decide) ac_int (by decide) (by decide) (by decide) (by decide) (by decide) ?_
  refine qi_putR (x := 320) flX12_137 q_cls12 ty12_56 (fun _ => ⟨rfl, rfl⟩) dX12_init_334 sh_280 (by decide) ?_
  have u41 := u40.arr (zN_of (t := 0) (N := 400) sh_320 (by omega)) 56
  generalize wR (wN M40 320) 280 56 (some 320) = M41 at u41 ⊢
  refine qi_aload_n (i := 0) (x := 280) dX12_init_337 rfl rfl ?_
  refine qi_bipush (v := 80) dX12_init_338 rfl ?_
  refine qi_newa (N := 80) (t := 0) (ty := .int) dX12_init_340 sh_321 (by omega) rfl (by decide) ac_int (by decide) (by decide) (by decide) (by decide) (by decide) ?_
  refine qi_putR (x := 321) flX12_140 q_cls12 ty12_58 (fun _ => ⟨rfl, rfl⟩) dX12_init_342 sh_280 (by decide) ?_
  have u42 := u41.arr (zN_of (t := 0) (N := 80) sh_321 (by omega)) 58
  generalize wR (wN M41 321) 280 58 (some 321) = M42 at u42 ⊢
  refine qi_aload_n (i := 0) (x := 280) dX12_init_345 rfl rfl ?_
  refine qi_bipush (v := 80) dX12_init_346 rfl ?_
  refine qi_newa (N := 80) (t := 0) (ty := .int) dX12_init_348 sh_322 (by omega) rfl (by decide) ac_int (by decide) (by decide) (by decide) (by decide) (by decide) ?_
  refine qi_putR (x := 322) flX12_143 q_cls12 ty12_59 (fun _ => ⟨rfl, rfl⟩) dX12_init_350 sh_280 (by decide) ?_
  have u43 := u42.arr (zN_of (t := 0) (N := 80) sh_322 (by omega)) 59
  generalize wR (wN M42 322) 280 59 (some 322) = M43 at u43 ⊢
  refine qi_aload_n (i := 0) (x := 280) dX12_init_353 rfl rfl ?_
  refine qi_bipush (v := 40) dX12_init_354 rfl ?_
  refine qi_newa (N := 40) (t := 0) (ty := .int) dX12_init_356 sh_323 (by omega) rfl (by decide) ac_int (by decide) (by decide) (by decide) (by decide) (by decide) ?_
  refine qi_putR (x := 323) flX12_146 q_cls12 ty12_62 (fun _ => ⟨rfl, rfl⟩) dX12_init_358 sh_280 (by decide) ?_
  have u44 := u43.arr (zN_of (t := 0) (N := 40) sh_323 (by omega)) 62
  generalize wR (wN M43 323) 280 62 (some 323) = M44 at u44 ⊢
  refine qi_aload_n (i := 0) (x := 280) dX12_init_361 rfl rfl ?_
  refine qi_bipush (v := 40) dX12_init_362 rfl ?_
  refine qi_newa (N := 40) (t := 1) (ty := .long) dX12_init_364 sh_324 (by omega) rfl (by decide) ac_long (by decide) (by decide) (by decide) (by decide) (by decide) ?_
  refine qi_putR (x := 324) flX12_149 q_cls12 ty12_63 (fun _ => ⟨rfl, rfl⟩) dX12_init_366 sh_280 (by decide) ?_
  have u45 := u44.arr (zN_of (t := 1) (N := 40) sh_324 (by omega)) 63
  generalize wR (wN M44 324) 280 63 (some 324) = M45 at u45 ⊢
  exact kk _ u45
set_option maxHeartbeats 8000000 in
theorem c_X12_c5 (g : qG) {Z : List Frame → Array Value → State → State → Prop} {M0 M : qM} {I : Nat → Int32} {R : Nat → Option Nat} (u45 : qUI J0 280 325 M0 M I R) (kk : ∀ M', qUI J0 280 333 M0 M' I (updF (updF (updF (updF (updF (updF (updF (updF R 65 (some 325)) 66 (some 326)) 68 (some 327)) 69 (some 328)) 73 (some 329)) 74 (some 330)) 75 (some 331)) 76 (some 332)) → qT g kX12_init (qR 2 52 12548) Z 432 [some (.ref 280)] [] 333 M' (52, 12548)) : qT g kX12_init (qR 2 52 12548) Z 369 [some (.ref 280)] [] 325 M (44, 9847) := by
  refine qi_aload_n (i := 0) (x := 280) dX12_init_369 rfl rfl ?_
  refine qi_sipush (v := 2400) dX12_init_370 rfl ?_
  refine qi_newa (N := 2400) (t := 0) (ty := .int) dX12_init_373 sh_325 (by omega) rfl (by decide) ac_int (by decide) (by decide) (by decide) (by decide) (by decide) ?_
  refine qi_putR (x := 325) flX12_152 q_cls12 ty12_65 (fun _ => ⟨rfl, rfl⟩) dX12_init_375 sh_280 (by decide) ?_
  have u46 := u45.arr (zN_of (t := 0) (N := 2400) sh_325 (by omega)) 65
  generalize wR (wN M 325) 280 65 (some 325) = M46 at u46 ⊢
  refine qi_aload_n (i := 0) (x := 280) dX12_init_378 rfl rfl ?_
  refine qi_bipush (v := 8) dX12_init_379 rfl ?_
  refine qi_newa (N := 8) (t := 0) (ty := .int) dX12_init_381 sh_326 (by omega) rfl (by decide) ac_int (by decide) (by decide) (by decide) (by decide) (by decide) ?_
  refine qi_putR (x := 326) flX12_155 q_cls12 ty12_66 (fun _ => ⟨rfl, rfl⟩) dX12_init_383 sh_280 (by decide) ?_
  have u47 := u46.arr (zN_of (t := 0) (N := 8) sh_326 (by omega)) 66
  generalize wR (wN M46 326) 280 66 (some 326) = M47 at u47 ⊢
  refine qi_aload_n (i := 0) (x := 280) dX12_init_386 rfl rfl ?_
  refine qi_iconst (v := 5) dX12_init_387 rfl ?_
  refine qi_newa (N := 5) (t := 0) (ty := .int) dX12_init_388 sh_327 (by omega) rfl (by decide) ac_int (by decide) (by decide) (by decide) (by decide) (by decide) ?_
  refine qi_putR (x := 327) flX12_158 q_cls12 ty12_68 (fun _ => ⟨rfl, rfl⟩) dX12_init_390 sh_280 (by decide) ?_
  have u48 := u47.arr (zN_of (t := 0) (N := 5) sh_327 (by omega)) 68
  generalize wR (wN M47 327) 280 68 (some 327) = M48 at u48 ⊢
  refine qi_aload_n (i := 0) (x := 280) dX12_init_393 rfl rfl ?_
  refine qi_iconst (v := 5) dX12_init_394 rfl ?_
  refine qi_newa (N := 5) (t := 0) (ty := .int) dX12_init_395 sh_328 (by omega) rfl (by decide) ac_int (by decide) (by decide) (by decide) (by decide) (by decide) ?_
  refine qi_putR (x := 328) flX12_161 q_cls12 ty12_69 (fun _ => ⟨rfl, rfl⟩) dX12_init_397 sh_280 (by decide) ?_
  have u49 := u48.arr (zN_of (t := 0) (N := 5) sh_328 (by omega)) 69
  generalize wR (wN M48 328) 280 69 (some 328) = M49 at u49 ⊢
  refine qi_aload_n (i := 0) (x := 280) dX12_init_400 rfl rfl ?_
  refine qi_bipush (v := 20) dX12_init_401 rfl ?_
  refine qi_newa (N := 20) (t := 0) (ty := .int) dX12_init_403 sh_329 (by omega) rfl (by decide) ac_int (by decide) (by decide) (by decide) (by decide) (by decide) ?_
  refine qi_putR (x := 329) flX12_164 q_cls12 ty12_73 (fun _ => ⟨rfl, rfl⟩) dX12_init_405 sh_280 (by decide) ?_
  have u50 := u49.arr (zN_of (t := 0) (N := 20) sh_329 (by omega)) 73
  generalize wR (wN M49 329) 280 73 (some 329) = M50 at u50 ⊢
  refine qi_aload_n (i := 0) (x := 280) dX12_init_408 rfl rfl ?_
  refine qi_bipush (v := 20) dX12_init_409 rfl ?_
  refine qi_newa (N := 20) (t := 0) (ty := .int) dX12_init_411 sh_330 (by omega) rfl (by decide) ac_int (by decide) (by decide) (by decide) (by decide) (by decide) ?_
  refine qi_putR (x := 330) flX12_167 q_cls12 ty12_74 (fun _ => ⟨rfl, rfl⟩) dX12_init_413 sh_280 (by decide) ?_
  have u51 := u50.arr (zN_of (t := 0) (N := 20) sh_330 (by omega)) 74
  generalize wR (wN M50 330) 280 74 (some 330) = M51 at u51 ⊢
  refine qi_aload_n (i := 0) (x := 280) dX12_init_416 rfl rfl ?_
  refine qi_iconst (v := 3) dX12_init_417 rfl ?_
  refine qi_newa (N := 3) (t := 3) (ty := .boolean) dX12_init_418 sh_331 (by omega) rfl (by decide) ac_boolean (by decide) (by decide) (by decide) (by decide) (by decide) ?_
  refine qi_putR (x := 331) flX12_170 q_cls12 ty12_75 (fun _ => ⟨rfl, rfl⟩) dX12_init_420 sh_280 (by decide) ?_
  have u52 := u51.arr (zN_of (t := 3) (N := 3) sh_331 (by omega)) 75
  generalize wR (wN M51 331) 280 75 (some 331) = M52 at u52 ⊢
  refine qi_aload_n (i := 0) (x := 280) dX12_init_423 rfl rfl ?_
  refine qi_sipush (v := 240) dX12_init_424 rfl ?_
  refine qi_newa (N := 240) (t := 0) (ty := .int) dX12_init_427 sh_332 (by omega) rfl (by decide) ac_int (by decide) (by decide) (by decide) (by decide) (by decide) ?_
  refine qi_putR (x := 332) flX12_173 q_cls12 ty12_76 (fun _ => ⟨rfl, rfl⟩) dX12_init_429 sh_280 (by decide) ?_
  have u53 := u52.arr (zN_of (t := 0) (N := 240) sh_332 (by omega)) 76
  generalize wR (wN M52 332) 280 76 (some 332) = M53 at u53 ⊢
  exact kk _ u53
set_option maxHeartbeats 8000000 in
theorem c_X12_a (g : qG) {Z : List Frame → Array Value → State → State → Prop} {M : qM} (hz : ∀ k, M.1 280 k = 0 ∧ M.2.1 280 k = 0) (kk : ∀ Mu, qUp J0 280 333 M Mu → Mu.2.2 280 40 = some 307 → Mu.2.2 280 9 = some 287 → qT g kX12_init (qR 2 52 12548) Z 432 [some (.ref 280)] [] 333 Mu (52, 12548)) : qT g kX12_init (qR 2 52 12548) Z 0 [some (.ref 280)] [] 281 M (0, 0) := by
  refine qi_aload_n (i := 0) (x := 280) dX12_init_0 rfl rfl ?_
  refine qi_objInit oiX12_7 oi_i oi_c dX12_init_1 (Nat.le_of_ble_eq_true rfl) ⟨by decide, by decide⟩ ?_
  have u : qUI J0 280 281 M M (fun _ => 0) (fun _ => none) := qUI.st hz
  refine c_X12_c0 g u (fun M1 v => ?_)
  clear u
  have u := v
  clear v
  refine c_X12_c1 g u (fun M1 v => ?_)
  clear u
  have u := v
  clear v
  refine c_X12_c2 g u (fun M1 v => ?_)
  clear u
  have u := v
  clear v
  refine c_X12_c3 g u (fun M1 v => ?_)
  clear u
  have u := v
  clear v
  refine c_X12_c4 g u (fun M1 v => ?_)
  clear u
  have u := v
  clear v
  refine c_X12_c5 g u (fun M1 v => ?_)
  clear u
  have u := v
  clear v
  have hfin : qUp J0 280 333 M M1 := by
    have key : ∀ k, k < 77 → (updF (updF (updF (updF (updF (updF (updF (updF (updF (updF (updF (updF (updF (updF (updF (updF (updF (updF (updF (updF (updF (updF (updF (updF (updF (updF (updF (updF (updF (updF (updF (updF (updF (updF (updF (updF (updF (updF (updF (updF (updF (updF (updF (updF (updF (updF (updF (updF (updF (updF (updF (updF (fun _ => none) 1 (some 281)) 3 (some 282)) 5 (some 283)) 6 (some 284)) 7 (some 285)) 8 (some 286)) 9 (some 287)) 21 (some 288)) 22 (some 289)) 23 (some 290)) 24 (some 291)) 25 (some 292)) 26 (some 293)) 27 (some 294)) 28 (some 295)) 29 (some 296)) 30 (some 297)) 31 (some 298)) 32 (some 299)) 33 (some 300)) 34 (some 301)) 35 (some 302)) 36 (some 303)) 37 (some 304)) 38 (some 305)) 39 (some 306)) 40 (some 307)) 41 (some 308)) 42 (some 309)) 43 (some 310)) 45 (some 311)) 46 (some 312)) 47 (some 313)) 48 (some 314)) 49 (some 315)) 51 (some 316)) 52 (some 317)) 53 (some 318)) 55 (some 319)) 56 (some 320)) 58 (some 321)) 59 (some 322)) 62 (some 323)) 63 (some 324)) 65 (some 325)) 66 (some 326)) 68 (some 327)) 69 (some 328)) 73 (some 329)) 74 (some 330)) 75 (some 331)) 76 (some 332)) k = q_ref 280 k := by decide +kernel
    refine qUI.fin u (fun k => ?_) (fun k x h => ?_) (fun _ => rfl)
    · unfold zI
      rw [sh_280]
      show _ = zc 12 k
      simp only [updF, zc]
      try grind
    · by_cases hk : k < 77
      · rw [← h]
        exact key k hk
      · have h2 : q_ref 280 k = none := by
          unfold q_ref
          rw [sh_280, if_pos (by decide), if_pos]
          rw [List.getD_eq_getElem?_getD, List.getElem?_eq_none]
          · rfl
          · exact Nat.le_trans (by decide) (Nat.not_lt.mp hk)
        rw [h2] at h
        cases h
  exact kk M1 hfin ((u.2.2.2 40).2.2 307 rfl) ((u.2.2.2 9).2.2 287 rfl)
set_option maxHeartbeats 8000000 in
theorem c_X12_init (g : qG) {M : qM} (hz : ∀ k, M.1 280 k = 0 ∧ M.2.1 280 k = 0) : qN g 2 kX12_init [.ref 280] (281) M 52 12548 333 (fun M' => ((∀ a k, a < 280 → qSm M M' a k) ∧ (∀ a k, 280 ≤ a → a < 333 → M'.1 a k = if a = 307 ∧ k = 0 then 999 else zI a k) ∧ (∀ i, i < 17 → M'.2.1 287 i = lN (wd27 i)) ∧ ∀ a k x, 280 ≤ a → a < 333 → q_ref a k = some x → M'.2.2 a k = some x)) := by
  refine qN.of (j := 0) (pn_RX12) rfl ?_
  show qT g kX12_init (qR 2 52 12548) (qZ g (fun v n' M' => n' = 333 ∧ v = none ∧ ((∀ a k, a < 280 → qSm M M' a k) ∧ (∀ a k, 280 ≤ a → a < 333 → M'.1 a k = if a = 307 ∧ k = 0 then 999 else zI a k) ∧ (∀ i, i < 17 → M'.2.1 287 i = lN (wd27 i)) ∧ ∀ a k x, 280 ≤ a → a < 333 → q_ref a k = some x → M'.2.2 a k = some x)) 52 12548) 0 [some (.ref 280)] [] 281 M (0, 0)
  refine c_X12_a g hz (fun Mu hfin hr40 hr9 => ?_)
  have k0 : kJ (wI Mu 307 0 999) (wI Mu 307 0 999) 0 := ⟨fun _ _ => rfl, rfl, fun _ _ _ => rfl, fun i hi => absurd hi (Nat.not_lt_zero _)⟩
  refine qi_aload_n (i := 0) (x := 280) dX12_init_432 rfl rfl ?_
  refine qi_getR (x := 307) flX12_97 dX12_init_433 sh_280 (by decide) hr40 ?_
  refine qi_iconst (v := 0) dX12_init_436 rfl ?_
  refine qi_sipush (v := 999) dX12_init_437 rfl ?_
  refine qi_iastN (j := 0) dX12_init_440 sh_307 (by decide) rfl (by omega) (by decide) ?_
  have hk0 : (wI Mu 307 0 999).2.2 280 9 = some 287 := hr9
  generalize hb : wI Mu 307 0 999 = MB at k0 hk0 ⊢
  refine qi_aload_n (i := 0) (x := 280) dX12_init_441 rfl rfl ?_
  refine qi_getR (x := 287) flX12_34 dX12_init_442 sh_280 (by decide) hk0 ?_
  refine qi_iconst (v := 0) dX12_init_445 rfl ?_
  refine qi_bipush (v := 119) dX12_init_446 rfl ?_
  refine qi_bipush (v := 97) dX12_init_448 rfl ?_
  refine qi_bipush (v := 116) dX12_init_450 rfl ?_
  refine qi_bipush (v := 101) dX12_init_452 rfl ?_
  refine qi_bipush (v := 114) dX12_init_454 rfl ?_
  refine qi_iconst (v := 0) dX12_init_456 rfl ?_
  refine qi_iconst (v := 0) dX12_init_457 rfl ?_
  refine qi_callzS (K' := kX12_word) (As := [.int 119, .int 97, .int 116, .int 101, .int 114, .int 0, .int 0]) mlX12_176 okX12_word dX12_init_458 (c_X12_word g 119 97 116 101 114 0 0) rfl rfl (Nat.le_of_ble_eq_true rfl) ⟨(Nat.le_of_ble_eq_true rfl), (Nat.le_of_ble_eq_true rfl)⟩ ⟨Nat.le_of_ble_eq_true rfl, Nat.le_of_ble_eq_true rfl⟩ ?_
  show qT g kX12_init (qR 2 52 12548) (qZ g (fun v n' M' => n' = 333 ∧ v = none ∧ ((∀ a k, a < 280 → qSm M M' a k) ∧ (∀ a k, 280 ≤ a → a < 333 → M'.1 a k = if a = 307 ∧ k = 0 then 999 else zI a k) ∧ (∀ i, i < 17 → M'.2.1 287 i = lN (wd27 i)) ∧ ∀ a k x, 280 ≤ a → a < 333 → q_ref a k = some x → M'.2.2 a k = some x)) 52 12548) 461 [some (.ref 280)] [.long (wdQ 119 97 116 101 114 0 0), .int 0, .ref 287] 333 MB (52, 12548)
  refine qe_topJ (y := lN (wd27 0)) (by decide +kernel) ?_
  refine qi_lastN (j := 0) dX12_init_461 sh_287 (by decide) rfl (by omega) (by decide) ?_
  have k1 := k0.step
  have hk1 : (wJ MB 287 0 (lN (wd27 0))).2.2 280 9 = some 287 := hk0
  generalize wJ MB 287 0 (lN (wd27 0)) = W1 at k1 hk1 ⊢
  refine qi_aload_n (i := 0) (x := 280) dX12_init_462 rfl rfl ?_
  refine qi_getR (x := 287) flX12_34 dX12_init_463 sh_280 (by decide) hk1 ?_
  refine qi_iconst (v := 1) dX12_init_466 rfl ?_
  refine qi_bipush (v := 104) dX12_init_467 rfl ?_
  refine qi_bipush (v := 101) dX12_init_469 rfl ?_
  refine qi_bipush (v := 105) dX12_init_471 rfl ?_
  refine qi_bipush (v := 114) dX12_init_473 rfl ?_
  refine qi_iconst (v := 0) dX12_init_475 rfl ?_
  refine qi_iconst (v := 0) dX12_init_476 rfl ?_
  refine qi_iconst (v := 0) dX12_init_477 rfl ?_
  refine qi_callzS (K' := kX12_word) (As := [.int 104, .int 101, .int 105, .int 114, .int 0, .int 0, .int 0]) mlX12_176 okX12_word dX12_init_478 (c_X12_word g 104 101 105 114 0 0 0) rfl rfl (Nat.le_of_ble_eq_true rfl) ⟨(Nat.le_of_ble_eq_true rfl), (Nat.le_of_ble_eq_true rfl)⟩ ⟨Nat.le_of_ble_eq_true rfl, Nat.le_of_ble_eq_true rfl⟩ ?_
  show qT g kX12_init (qR 2 52 12548) (qZ g (fun v n' M' => n' = 333 ∧ v = none ∧ ((∀ a k, a < 280 → qSm M M' a k) ∧ (∀ a k, 280 ≤ a → a < 333 → M'.1 a k = if a = 307 ∧ k = 0 then 999 else zI a k) ∧ (∀ i, i < 17 → M'.2.1 287 i = lN (wd27 i)) ∧ ∀ a k x, 280 ≤ a → a < 333 → q_ref a k = some x → M'.2.2 a k = some x)) 52 12548) 481 [some (.ref 280)] [.long (wdQ 104 101 105 114 0 0 0), .int 1, .ref 287] 333 W1 (52, 12548)
  refine qe_topJ (y := lN (wd27 1)) (by decide +kernel) ?_
  refine qi_lastN (j := 1) dX12_init_481 sh_287 (by decide) rfl (by omega) (by decide) ?_
  have k2 := k1.step
  have hk2 : (wJ W1 287 1 (lN (wd27 1))).2.2 280 9 = some 287 := hk1
  generalize wJ W1 287 1 (lN (wd27 1)) = W2 at k2 hk2 ⊢
  refine qi_aload_n (i := 0) (x := 280) dX12_init_482 rfl rfl ?_
  refine qi_getR (x := 287) flX12_34 dX12_init_483 sh_280 (by decide) hk2 ?_
  refine qi_iconst (v := 2) dX12_init_486 rfl ?_
  refine qi_bipush (v := 115) dX12_init_487 rfl ?_
  refine qi_bipush (v := 101) dX12_init_489 rfl ?_
  refine qi_bipush (v := 110) dX12_init_491 rfl ?_
  refine qi_bipush (v := 100) dX12_init_493 rfl ?_
  refine qi_bipush (v := 115) dX12_init_495 rfl ?_
  refine qi_iconst (v := 0) dX12_init_497 rfl ?_
  refine qi_iconst (v := 0) dX12_init_498 rfl ?_
  refine qi_callzS (K' := kX12_word) (As := [.int 115, .int 101, .int 110, .int 100, .int 115, .int 0, .int 0]) mlX12_176 okX12_word dX12_init_499 (c_X12_word g 115 101 110 100 115 0 0) rfl rfl (Nat.le_of_ble_eq_true rfl) ⟨(Nat.le_of_ble_eq_true rfl), (Nat.le_of_ble_eq_true rfl)⟩ ⟨Nat.le_of_ble_eq_true rfl, Nat.le_of_ble_eq_true rfl⟩ ?_
  show qT g kX12_init (qR 2 52 12548) (qZ g (fun v n' M' => n' = 333 ∧ v = none ∧ ((∀ a k, a < 280 → qSm M M' a k) ∧ (∀ a k, 280 ≤ a → a < 333 → M'.1 a k = if a = 307 ∧ k = 0 then 999 else zI a k) ∧ (∀ i, i < 17 → M'.2.1 287 i = lN (wd27 i)) ∧ ∀ a k x, 280 ≤ a → a < 333 → q_ref a k = some x → M'.2.2 a k = some x)) 52 12548) 502 [some (.ref 280)] [.long (wdQ 115 101 110 100 115 0 0), .int 2, .ref 287] 333 W2 (52, 12548)
  refine qe_topJ (y := lN (wd27 2)) (by decide +kernel) ?_
  refine qi_lastN (j := 2) dX12_init_502 sh_287 (by decide) rfl (by omega) (by decide) ?_
  have k3 := k2.step
  have hk3 : (wJ W2 287 2 (lN (wd27 2))).2.2 280 9 = some 287 := hk2
  generalize wJ W2 287 2 (lN (wd27 2)) = W3 at k3 hk3 ⊢
  refine qi_aload_n (i := 0) (x := 280) dX12_init_503 rfl rfl ?_
  refine qi_getR (x := 287) flX12_34 dX12_init_504 sh_280 (by decide) hk3 ?_
  refine qi_iconst (v := 3) dX12_init_507 rfl ?_
  refine qi_bipush (v := 100) dX12_init_508 rfl ?_
  refine qi_bipush (v := 114) dX12_init_510 rfl ?_
  refine qi_bipush (v := 121) dX12_init_512 rfl ?_
  refine qi_iconst (v := 0) dX12_init_514 rfl ?_
  refine qi_iconst (v := 0) dX12_init_515 rfl ?_
  refine qi_iconst (v := 0) dX12_init_516 rfl ?_
  refine qi_iconst (v := 0) dX12_init_517 rfl ?_
  refine qi_callzS (K' := kX12_word) (As := [.int 100, .int 114, .int 121, .int 0, .int 0, .int 0, .int 0]) mlX12_176 okX12_word dX12_init_518 (c_X12_word g 100 114 121 0 0 0 0) rfl rfl (Nat.le_of_ble_eq_true rfl) ⟨(Nat.le_of_ble_eq_true rfl), (Nat.le_of_ble_eq_true rfl)⟩ ⟨Nat.le_of_ble_eq_true rfl, Nat.le_of_ble_eq_true rfl⟩ ?_
  show qT g kX12_init (qR 2 52 12548) (qZ g (fun v n' M' => n' = 333 ∧ v = none ∧ ((∀ a k, a < 280 → qSm M M' a k) ∧ (∀ a k, 280 ≤ a → a < 333 → M'.1 a k = if a = 307 ∧ k = 0 then 999 else zI a k) ∧ (∀ i, i < 17 → M'.2.1 287 i = lN (wd27 i)) ∧ ∀ a k x, 280 ≤ a → a < 333 → q_ref a k = some x → M'.2.2 a k = some x)) 52 12548) 521 [some (.ref 280)] [.long (wdQ 100 114 121 0 0 0 0), .int 3, .ref 287] 333 W3 (52, 12548)
  refine qe_topJ (y := lN (wd27 3)) (by decide +kernel) ?_
  refine qi_lastN (j := 3) dX12_init_521 sh_287 (by decide) rfl (by omega) (by decide) ?_
  have k4 := k3.step
  have hk4 : (wJ W3 287 3 (lN (wd27 3))).2.2 280 9 = some 287 := hk3
  generalize wJ W3 287 3 (lN (wd27 3)) = W4 at k4 hk4 ⊢
  refine qi_aload_n (i := 0) (x := 280) dX12_init_522 rfl rfl ?_
  refine qi_getR (x := 287) flX12_34 dX12_init_523 sh_280 (by decide) hk4 ?_
  refine qi_iconst (v := 4) dX12_init_526 rfl ?_
  refine qi_bipush (v := 98) dX12_init_527 rfl ?_
  refine qi_bipush (v := 97) dX12_init_529 rfl ?_
  refine qi_bipush (v := 115) dX12_init_531 rfl ?_
  refine qi_bipush (v := 105) dX12_init_533 rfl ?_
  refine qi_bipush (v := 110) dX12_init_535 rfl ?_
  refine qi_iconst (v := 0) dX12_init_537 rfl ?_
  refine qi_iconst (v := 0) dX12_init_538 rfl ?_
  refine qi_callzS (K' := kX12_word) (As := [.int 98, .int 97, .int 115, .int 105, .int 110, .int 0, .int 0]) mlX12_176 okX12_word dX12_init_539 (c_X12_word g 98 97 115 105 110 0 0) rfl rfl (Nat.le_of_ble_eq_true rfl) ⟨(Nat.le_of_ble_eq_true rfl), (Nat.le_of_ble_eq_true rfl)⟩ ⟨Nat.le_of_ble_eq_true rfl, Nat.le_of_ble_eq_true rfl⟩ ?_
  show qT g kX12_init (qR 2 52 12548) (qZ g (fun v n' M' => n' = 333 ∧ v = none ∧ ((∀ a k, a < 280 → qSm M M' a k) ∧ (∀ a k, 280 ≤ a → a < 333 → M'.1 a k = if a = 307 ∧ k = 0 then 999 else zI a k) ∧ (∀ i, i < 17 → M'.2.1 287 i = lN (wd27 i)) ∧ ∀ a k x, 280 ≤ a → a < 333 → q_ref a k = some x → M'.2.2 a k = some x)) 52 12548) 542 [some (.ref 280)] [.long (wdQ 98 97 115 105 110 0 0), .int 4, .ref 287] 333 W4 (52, 12548)
  refine qe_topJ (y := lN (wd27 4)) (by decide +kernel) ?_
  refine qi_lastN (j := 4) dX12_init_542 sh_287 (by decide) rfl (by omega) (by decide) ?_
  have k5 := k4.step
  have hk5 : (wJ W4 287 4 (lN (wd27 4))).2.2 280 9 = some 287 := hk4
  generalize wJ W4 287 4 (lN (wd27 4)) = W5 at k5 hk5 ⊢
  refine qi_aload_n (i := 0) (x := 280) dX12_init_543 rfl rfl ?_
  refine qi_getR (x := 287) flX12_34 dX12_init_544 sh_280 (by decide) hk5 ?_
  refine qi_iconst (v := 5) dX12_init_547 rfl ?_
  refine qi_bipush (v := 99) dX12_init_548 rfl ?_
  refine qi_bipush (v := 108) dX12_init_550 rfl ?_
  refine qi_bipush (v := 97) dX12_init_552 rfl ?_
  refine qi_bipush (v := 105) dX12_init_554 rfl ?_
  refine qi_bipush (v := 109) dX12_init_556 rfl ?_
  refine qi_iconst (v := 0) dX12_init_558 rfl ?_
  refine qi_iconst (v := 0) dX12_init_559 rfl ?_
  refine qi_callzS (K' := kX12_word) (As := [.int 99, .int 108, .int 97, .int 105, .int 109, .int 0, .int 0]) mlX12_176 okX12_word dX12_init_560 (c_X12_word g 99 108 97 105 109 0 0) rfl rfl (Nat.le_of_ble_eq_true rfl) ⟨(Nat.le_of_ble_eq_true rfl), (Nat.le_of_ble_eq_true rfl)⟩ ⟨Nat.le_of_ble_eq_true rfl, Nat.le_of_ble_eq_true rfl⟩ ?_
  show qT g kX12_init (qR 2 52 12548) (qZ g (fun v n' M' => n' = 333 ∧ v = none ∧ ((∀ a k, a < 280 → qSm M M' a k) ∧ (∀ a k, 280 ≤ a → a < 333 → M'.1 a k = if a = 307 ∧ k = 0 then 999 else zI a k) ∧ (∀ i, i < 17 → M'.2.1 287 i = lN (wd27 i)) ∧ ∀ a k x, 280 ≤ a → a < 333 → q_ref a k = some x → M'.2.2 a k = some x)) 52 12548) 563 [some (.ref 280)] [.long (wdQ 99 108 97 105 109 0 0), .int 5, .ref 287] 333 W5 (52, 12548)
  refine qe_topJ (y := lN (wd27 5)) (by decide +kernel) ?_
  refine qi_lastN (j := 5) dX12_init_563 sh_287 (by decide) rfl (by omega) (by decide) ?_
  have k6 := k5.step
  have hk6 : (wJ W5 287 5 (lN (wd27 5))).2.2 280 9 = some 287 := hk5
  generalize wJ W5 287 5 (lN (wd27 5)) = W6 at k6 hk6 ⊢
  refine qi_aload_n (i := 0) (x := 280) dX12_init_564 rfl rfl ?_
  refine qi_getR (x := 287) flX12_34 dX12_init_565 sh_280 (by decide) hk6 ?_
  refine qi_bipush (v := 6) dX12_init_568 rfl ?_
  refine qi_bipush (v := 111) dX12_init_570 rfl ?_
  refine qi_bipush (v := 102) dX12_init_572 rfl ?_
  refine qi_iconst (v := 0) dX12_init_574 rfl ?_
  refine qi_iconst (v := 0) dX12_init_575 rfl ?_
  refine qi_iconst (v := 0) dX12_init_576 rfl ?_
  refine qi_iconst (v := 0) dX12_init_577 rfl ?_
  refine qi_iconst (v := 0) dX12_init_578 rfl ?_
  refine qi_callzS (K' := kX12_word) (As := [.int 111, .int 102, .int 0, .int 0, .int 0, .int 0, .int 0]) mlX12_176 okX12_word dX12_init_579 (c_X12_word g 111 102 0 0 0 0 0) rfl rfl (Nat.le_of_ble_eq_true rfl) ⟨(Nat.le_of_ble_eq_true rfl), (Nat.le_of_ble_eq_true rfl)⟩ ⟨Nat.le_of_ble_eq_true rfl, Nat.le_of_ble_eq_true rfl⟩ ?_
  show qT g kX12_init (qR 2 52 12548) (qZ g (fun v n' M' => n' = 333 ∧ v = none ∧ ((∀ a k, a < 280 → qSm M M' a k) ∧ (∀ a k, 280 ≤ a → a < 333 → M'.1 a k = if a = 307 ∧ k = 0 then 999 else zI a k) ∧ (∀ i, i < 17 → M'.2.1 287 i = lN (wd27 i)) ∧ ∀ a k x, 280 ≤ a → a < 333 → q_ref a k = some x → M'.2.2 a k = some x)) 52 12548) 582 [some (.ref 280)] [.long (wdQ 111 102 0 0 0 0 0), .int 6, .ref 287] 333 W6 (52, 12548)
  refine qe_topJ (y := lN (wd27 6)) (by decide +kernel) ?_
  refine qi_lastN (j := 6) dX12_init_582 sh_287 (by decide) rfl (by omega) (by decide) ?_
  have k7 := k6.step
  have hk7 : (wJ W6 287 6 (lN (wd27 6))).2.2 280 9 = some 287 := hk6
  generalize wJ W6 287 6 (lN (wd27 6)) = W7 at k7 hk7 ⊢
  refine qi_aload_n (i := 0) (x := 280) dX12_init_583 rfl rfl ?_
  refine qi_getR (x := 287) flX12_34 dX12_init_584 sh_280 (by decide) hk7 ?_
  refine qi_bipush (v := 7) dX12_init_587 rfl ?_
  refine qi_bipush (v := 115) dX12_init_589 rfl ?_
  refine qi_bipush (v := 101) dX12_init_591 rfl ?_
  refine qi_bipush (v := 101) dX12_init_593 rfl ?_
  refine qi_bipush (v := 100) dX12_init_595 rfl ?_
  refine qi_iconst (v := 0) dX12_init_597 rfl ?_
  refine qi_iconst (v := 0) dX12_init_598 rfl ?_
  refine qi_iconst (v := 0) dX12_init_599 rfl ?_
  refine qi_callzS (K' := kX12_word) (As := [.int 115, .int 101, .int 101, .int 100, .int 0, .int 0, .int 0]) mlX12_176 okX12_word dX12_init_600 (c_X12_word g 115 101 101 100 0 0 0) rfl rfl (Nat.le_of_ble_eq_true rfl) ⟨(Nat.le_of_ble_eq_true rfl), (Nat.le_of_ble_eq_true rfl)⟩ ⟨Nat.le_of_ble_eq_true rfl, Nat.le_of_ble_eq_true rfl⟩ ?_
  show qT g kX12_init (qR 2 52 12548) (qZ g (fun v n' M' => n' = 333 ∧ v = none ∧ ((∀ a k, a < 280 → qSm M M' a k) ∧ (∀ a k, 280 ≤ a → a < 333 → M'.1 a k = if a = 307 ∧ k = 0 then 999 else zI a k) ∧ (∀ i, i < 17 → M'.2.1 287 i = lN (wd27 i)) ∧ ∀ a k x, 280 ≤ a → a < 333 → q_ref a k = some x → M'.2.2 a k = some x)) 52 12548) 603 [some (.ref 280)] [.long (wdQ 115 101 101 100 0 0 0), .int 7, .ref 287] 333 W7 (52, 12548)
  refine qe_topJ (y := lN (wd27 7)) (by decide +kernel) ?_
  refine qi_lastN (j := 7) dX12_init_603 sh_287 (by decide) rfl (by omega) (by decide) ?_
  have k8 := k7.step
  have hk8 : (wJ W7 287 7 (lN (wd27 7))).2.2 280 9 = some 287 := hk7
  generalize wJ W7 287 7 (lN (wd27 7)) = W8 at k8 hk8 ⊢
  refine qi_aload_n (i := 0) (x := 280) dX12_init_604 rfl rfl ?_
  refine qi_getR (x := 287) flX12_34 dX12_init_605 sh_280 (by decide) hk8 ?_
  refine qi_bipush (v := 8) dX12_init_608 rfl ?_
  refine qi_bipush (v := 105) dX12_init_610 rfl ?_
  refine qi_bipush (v := 102) dX12_init_612 rfl ?_
  refine qi_iconst (v := 0) dX12_init_614 rfl ?_
  refine qi_iconst (v := 0) dX12_init_615 rfl ?_
  refine qi_iconst (v := 0) dX12_init_616 rfl ?_
  refine qi_iconst (v := 0) dX12_init_617 rfl ?_
  refine qi_iconst (v := 0) dX12_init_618 rfl ?_
  refine qi_callzS (K' := kX12_word) (As := [.int 105, .int 102, .int 0, .int 0, .int 0, .int 0, .int 0]) mlX12_176 okX12_word dX12_init_619 (c_X12_word g 105 102 0 0 0 0 0) rfl rfl (Nat.le_of_ble_eq_true rfl) ⟨(Nat.le_of_ble_eq_true rfl), (Nat.le_of_ble_eq_true rfl)⟩ ⟨Nat.le_of_ble_eq_true rfl, Nat.le_of_ble_eq_true rfl⟩ ?_
  show qT g kX12_init (qR 2 52 12548) (qZ g (fun v n' M' => n' = 333 ∧ v = none ∧ ((∀ a k, a < 280 → qSm M M' a k) ∧ (∀ a k, 280 ≤ a → a < 333 → M'.1 a k = if a = 307 ∧ k = 0 then 999 else zI a k) ∧ (∀ i, i < 17 → M'.2.1 287 i = lN (wd27 i)) ∧ ∀ a k x, 280 ≤ a → a < 333 → q_ref a k = some x → M'.2.2 a k = some x)) 52 12548) 622 [some (.ref 280)] [.long (wdQ 105 102 0 0 0 0 0), .int 8, .ref 287] 333 W8 (52, 12548)
  refine qe_topJ (y := lN (wd27 8)) (by decide +kernel) ?_
  refine qi_lastN (j := 8) dX12_init_622 sh_287 (by decide) rfl (by omega) (by decide) ?_
  have k9 := k8.step
  have hk9 : (wJ W8 287 8 (lN (wd27 8))).2.2 280 9 = some 287 := hk8
  generalize wJ W8 287 8 (lN (wd27 8)) = W9 at k9 hk9 ⊢
  refine qi_aload_n (i := 0) (x := 280) dX12_init_623 rfl rfl ?_
  refine qi_getR (x := 287) flX12_34 dX12_init_624 sh_280 (by decide) hk9 ?_
  refine qi_bipush (v := 9) dX12_init_627 rfl ?_
  refine qi_bipush (v := 116) dX12_init_629 rfl ?_
  refine qi_bipush (v := 104) dX12_init_631 rfl ?_
  refine qi_bipush (v := 101) dX12_init_633 rfl ?_
  refine qi_bipush (v := 110) dX12_init_635 rfl ?_
  refine qi_iconst (v := 0) dX12_init_637 rfl ?_
  refine qi_iconst (v := 0) dX12_init_638 rfl ?_
  refine qi_iconst (v := 0) dX12_init_639 rfl ?_
  refine qi_callzS (K' := kX12_word) (As := [.int 116, .int 104, .int 101, .int 110, .int 0, .int 0, .int 0]) mlX12_176 okX12_word dX12_init_640 (c_X12_word g 116 104 101 110 0 0 0) rfl rfl (Nat.le_of_ble_eq_true rfl) ⟨(Nat.le_of_ble_eq_true rfl), (Nat.le_of_ble_eq_true rfl)⟩ ⟨Nat.le_of_ble_eq_true rfl, Nat.le_of_ble_eq_true rfl⟩ ?_
  show qT g kX12_init (qR 2 52 12548) (qZ g (fun v n' M' => n' = 333 ∧ v = none ∧ ((∀ a k, a < 280 → qSm M M' a k) ∧ (∀ a k, 280 ≤ a → a < 333 → M'.1 a k = if a = 307 ∧ k = 0 then 999 else zI a k) ∧ (∀ i, i < 17 → M'.2.1 287 i = lN (wd27 i)) ∧ ∀ a k x, 280 ≤ a → a < 333 → q_ref a k = some x → M'.2.2 a k = some x)) 52 12548) 643 [some (.ref 280)] [.long (wdQ 116 104 101 110 0 0 0), .int 9, .ref 287] 333 W9 (52, 12548)
  refine qe_topJ (y := lN (wd27 9)) (by decide +kernel) ?_
  refine qi_lastN (j := 9) dX12_init_643 sh_287 (by decide) rfl (by omega) (by decide) ?_
  have k10 := k9.step
  have hk10 : (wJ W9 287 9 (lN (wd27 9))).2.2 280 9 = some 287 := hk9
  generalize wJ W9 287 9 (lN (wd27 9)) = W10 at k10 hk10 ⊢
  refine qi_aload_n (i := 0) (x := 280) dX12_init_644 rfl rfl ?_
  refine qi_getR (x := 287) flX12_34 dX12_init_645 sh_280 (by decide) hk10 ?_
  refine qi_bipush (v := 10) dX12_init_648 rfl ?_
  refine qi_bipush (v := 101) dX12_init_650 rfl ?_
  refine qi_bipush (v := 108) dX12_init_652 rfl ?_
  refine qi_bipush (v := 115) dX12_init_654 rfl ?_
  refine qi_bipush (v := 101) dX12_init_656 rfl ?_
  refine qi_iconst (v := 0) dX12_init_658 rfl ?_
  refine qi_iconst (v := 0) dX12_init_659 rfl ?_
  refine qi_iconst (v := 0) dX12_init_660 rfl ?_
  refine qi_callzS (K' := kX12_word) (As := [.int 101, .int 108, .int 115, .int 101, .int 0, .int 0, .int 0]) mlX12_176 okX12_word dX12_init_661 (c_X12_word g 101 108 115 101 0 0 0) rfl rfl (Nat.le_of_ble_eq_true rfl) ⟨(Nat.le_of_ble_eq_true rfl), (Nat.le_of_ble_eq_true rfl)⟩ ⟨Nat.le_of_ble_eq_true rfl, Nat.le_of_ble_eq_true rfl⟩ ?_
  show qT g kX12_init (qR 2 52 12548) (qZ g (fun v n' M' => n' = 333 ∧ v = none ∧ ((∀ a k, a < 280 → qSm M M' a k) ∧ (∀ a k, 280 ≤ a → a < 333 → M'.1 a k = if a = 307 ∧ k = 0 then 999 else zI a k) ∧ (∀ i, i < 17 → M'.2.1 287 i = lN (wd27 i)) ∧ ∀ a k x, 280 ≤ a → a < 333 → q_ref a k = some x → M'.2.2 a k = some x)) 52 12548) 664 [some (.ref 280)] [.long (wdQ 101 108 115 101 0 0 0), .int 10, .ref 287] 333 W10 (52, 12548)
  refine qe_topJ (y := lN (wd27 10)) (by decide +kernel) ?_
  refine qi_lastN (j := 10) dX12_init_664 sh_287 (by decide) rfl (by omega) (by decide) ?_
  have k11 := k10.step
  have hk11 : (wJ W10 287 10 (lN (wd27 10))).2.2 280 9 = some 287 := hk10
  generalize wJ W10 287 10 (lN (wd27 10)) = W11 at k11 hk11 ⊢
  refine qi_aload_n (i := 0) (x := 280) dX12_init_665 rfl rfl ?_
  refine qi_getR (x := 287) flX12_34 dX12_init_666 sh_280 (by decide) hk11 ?_
  refine qi_bipush (v := 11) dX12_init_669 rfl ?_
  refine qi_bipush (v := 119) dX12_init_671 rfl ?_
  refine qi_bipush (v := 101) dX12_init_673 rfl ?_
  refine qi_bipush (v := 101) dX12_init_675 rfl ?_
  refine qi_bipush (v := 107) dX12_init_677 rfl ?_
  refine qi_iconst (v := 0) dX12_init_679 rfl ?_
  refine qi_iconst (v := 0) dX12_init_680 rfl ?_
  refine qi_iconst (v := 0) dX12_init_681 rfl ?_
  refine qi_callzS (K' := kX12_word) (As := [.int 119, .int 101, .int 101, .int 107, .int 0, .int 0, .int 0]) mlX12_176 okX12_word dX12_init_682 (c_X12_word g 119 101 101 107 0 0 0) rfl rfl (Nat.le_of_ble_eq_true rfl) ⟨(Nat.le_of_ble_eq_true rfl), (Nat.le_of_ble_eq_true rfl)⟩ ⟨Nat.le_of_ble_eq_true rfl, Nat.le_of_ble_eq_true rfl⟩ ?_
  show qT g kX12_init (qR 2 52 12548) (qZ g (fun v n' M' => n' = 333 ∧ v = none ∧ ((∀ a k, a < 280 → qSm M M' a k) ∧ (∀ a k, 280 ≤ a → a < 333 → M'.1 a k = if a = 307 ∧ k = 0 then 999 else zI a k) ∧ (∀ i, i < 17 → M'.2.1 287 i = lN (wd27 i)) ∧ ∀ a k x, 280 ≤ a → a < 333 → q_ref a k = some x → M'.2.2 a k = some x)) 52 12548) 685 [some (.ref 280)] [.long (wdQ 119 101 101 107 0 0 0), .int 11, .ref 287] 333 W11 (52, 12548)
  refine qe_topJ (y := lN (wd27 11)) (by decide +kernel) ?_
  refine qi_lastN (j := 11) dX12_init_685 sh_287 (by decide) rfl (by omega) (by decide) ?_
  have k12 := k11.step
  have hk12 : (wJ W11 287 11 (lN (wd27 11))).2.2 280 9 = some 287 := hk11
  generalize wJ W11 287 11 (lN (wd27 11)) = W12 at k12 hk12 ⊢
  refine qi_aload_n (i := 0) (x := 280) dX12_init_686 rfl rfl ?_
  refine qi_getR (x := 287) flX12_34 dX12_init_687 sh_280 (by decide) hk12 ?_
  refine qi_bipush (v := 12) dX12_init_690 rfl ?_
  refine qi_bipush (v := 108) dX12_init_692 rfl ?_
  refine qi_bipush (v := 101) dX12_init_694 rfl ?_
  refine qi_bipush (v := 118) dX12_init_696 rfl ?_
  refine qi_bipush (v := 101) dX12_init_698 rfl ?_
  refine qi_bipush (v := 108) dX12_init_700 rfl ?_
  refine qi_iconst (v := 0) dX12_init_702 rfl ?_
  refine qi_iconst (v := 0) dX12_init_703 rfl ?_
  refine qi_callzS (K' := kX12_word) (As := [.int 108, .int 101, .int 118, .int 101, .int 108, .int 0, .int 0]) mlX12_176 okX12_word dX12_init_704 (c_X12_word g 108 101 118 101 108 0 0) rfl rfl (Nat.le_of_ble_eq_true rfl) ⟨(Nat.le_of_ble_eq_true rfl), (Nat.le_of_ble_eq_true rfl)⟩ ⟨Nat.le_of_ble_eq_true rfl, Nat.le_of_ble_eq_true rfl⟩ ?_
  show qT g kX12_init (qR 2 52 12548) (qZ g (fun v n' M' => n' = 333 ∧ v = none ∧ ((∀ a k, a < 280 → qSm M M' a k) ∧ (∀ a k, 280 ≤ a → a < 333 → M'.1 a k = if a = 307 ∧ k = 0 then 999 else zI a k) ∧ (∀ i, i < 17 → M'.2.1 287 i = lN (wd27 i)) ∧ ∀ a k x, 280 ≤ a → a < 333 → q_ref a k = some x → M'.2.2 a k = some x)) 52 12548) 707 [some (.ref 280)] [.long (wdQ 108 101 118 101 108 0 0), .int 12, .ref 287] 333 W12 (52, 12548)
  refine qe_topJ (y := lN (wd27 12)) (by decide +kernel) ?_
  refine qi_lastN (j := 12) dX12_init_707 sh_287 (by decide) rfl (by omega) (by decide) ?_
  have k13 := k12.step
  have hk13 : (wJ W12 287 12 (lN (wd27 12))).2.2 280 9 = some 287 := hk12
  generalize wJ W12 287 12 (lN (wd27 12)) = W13 at k13 hk13 ⊢
  refine qi_aload_n (i := 0) (x := 280) dX12_init_708 rfl rfl ?_
  refine qi_getR (x := 287) flX12_34 dX12_init_709 sh_280 (by decide) hk13 ?_
  refine qi_bipush (v := 13) dX12_init_712 rfl ?_
  refine qi_bipush (v := 115) dX12_init_714 rfl ?_
  refine qi_bipush (v := 97) dX12_init_716 rfl ?_
  refine qi_bipush (v := 108) dX12_init_718 rfl ?_
  refine qi_bipush (v := 116) dX12_init_720 rfl ?_
  refine qi_iconst (v := 0) dX12_init_722 rfl ?_
  refine qi_iconst (v := 0) dX12_init_723 rfl ?_
  refine qi_iconst (v := 0) dX12_init_724 rfl ?_
  refine qi_callzS (K' := kX12_word) (As := [.int 115, .int 97, .int 108, .int 116, .int 0, .int 0, .int 0]) mlX12_176 okX12_word dX12_init_725 (c_X12_word g 115 97 108 116 0 0 0) rfl rfl (Nat.le_of_ble_eq_true rfl) ⟨(Nat.le_of_ble_eq_true rfl), (Nat.le_of_ble_eq_true rfl)⟩ ⟨Nat.le_of_ble_eq_true rfl, Nat.le_of_ble_eq_true rfl⟩ ?_
  show qT g kX12_init (qR 2 52 12548) (qZ g (fun v n' M' => n' = 333 ∧ v = none ∧ ((∀ a k, a < 280 → qSm M M' a k) ∧ (∀ a k, 280 ≤ a → a < 333 → M'.1 a k = if a = 307 ∧ k = 0 then 999 else zI a k) ∧ (∀ i, i < 17 → M'.2.1 287 i = lN (wd27 i)) ∧ ∀ a k x, 280 ≤ a → a < 333 → q_ref a k = some x → M'.2.2 a k = some x)) 52 12548) 728 [some (.ref 280)] [.long (wdQ 115 97 108 116 0 0 0), .int 13, .ref 287] 333 W13 (52, 12548)
  refine qe_topJ (y := lN (wd27 13)) (by decide +kernel) ?_
  refine qi_lastN (j := 13) dX12_init_728 sh_287 (by decide) rfl (by omega) (by decide) ?_
  have k14 := k13.step
  have hk14 : (wJ W13 287 13 (lN (wd27 13))).2.2 280 9 = some 287 := hk13
  generalize wJ W13 287 13 (lN (wd27 13)) = W14 at k14 hk14 ⊢
  refine qi_aload_n (i := 0) (x := 280) dX12_init_729 rfl rfl ?_
  refine qi_getR (x := 287) flX12_34 dX12_init_730 sh_280 (by decide) hk14 ?_
  refine qi_bipush (v := 14) dX12_init_733 rfl ?_
  refine qi_bipush (v := 115) dX12_init_735 rfl ?_
  refine qi_bipush (v := 104) dX12_init_737 rfl ?_
  refine qi_bipush (v := 97) dX12_init_739 rfl ?_
  refine qi_bipush (v := 114) dX12_init_741 rfl ?_
  refine qi_bipush (v := 101) dX12_init_743 rfl ?_
  refine qi_iconst (v := 0) dX12_init_745 rfl ?_
  refine qi_iconst (v := 0) dX12_init_746 rfl ?_
  refine qi_callzS (K' := kX12_word) (As := [.int 115, .int 104, .int 97, .int 114, .int 101, .int 0, .int 0]) mlX12_176 okX12_word dX12_init_747 (c_X12_word g 115 104 97 114 101 0 0) rfl rfl (Nat.le_of_ble_eq_true rfl) ⟨(Nat.le_of_ble_eq_true rfl), (Nat.le_of_ble_eq_true rfl)⟩ ⟨Nat.le_of_ble_eq_true rfl, Nat.le_of_ble_eq_true rfl⟩ ?_
  show qT g kX12_init (qR 2 52 12548) (qZ g (fun v n' M' => n' = 333 ∧ v = none ∧ ((∀ a k, a < 280 → qSm M M' a k) ∧ (∀ a k, 280 ≤ a → a < 333 → M'.1 a k = if a = 307 ∧ k = 0 then 999 else zI a k) ∧ (∀ i, i < 17 → M'.2.1 287 i = lN (wd27 i)) ∧ ∀ a k x, 280 ≤ a → a < 333 → q_ref a k = some x → M'.2.2 a k = some x)) 52 12548) 750 [some (.ref 280)] [.long (wdQ 115 104 97 114 101 0 0), .int 14, .ref 287] 333 W14 (52, 12548)
  refine qe_topJ (y := lN (wd27 14)) (by decide +kernel) ?_
  refine qi_lastN (j := 14) dX12_init_750 sh_287 (by decide) rfl (by omega) (by decide) ?_
  have k15 := k14.step
  have hk15 : (wJ W14 287 14 (lN (wd27 14))).2.2 280 9 = some 287 := hk14
  generalize wJ W14 287 14 (lN (wd27 14)) = W15 at k15 hk15 ⊢
  refine qi_aload_n (i := 0) (x := 280) dX12_init_751 rfl rfl ?_
  refine qi_getR (x := 287) flX12_34 dX12_init_752 sh_280 (by decide) hk15 ?_
  refine qi_bipush (v := 15) dX12_init_755 rfl ?_
  refine qi_bipush (v := 115) dX12_init_757 rfl ?_
  refine qi_bipush (v := 101) dX12_init_759 rfl ?_
  refine qi_bipush (v := 110) dX12_init_761 rfl ?_
  refine qi_bipush (v := 116) dX12_init_763 rfl ?_
  refine qi_iconst (v := 0) dX12_init_765 rfl ?_
  refine qi_iconst (v := 0) dX12_init_766 rfl ?_
  refine qi_iconst (v := 0) dX12_init_767 rfl ?_
  refine qi_callzS (K' := kX12_word) (As := [.int 115, .int 101, .int 110, .int 116, .int 0, .int 0, .int 0]) mlX12_176 okX12_word dX12_init_768 (c_X12_word g 115 101 110 116 0 0 0) rfl rfl (Nat.le_of_ble_eq_true rfl) ⟨(Nat.le_of_ble_eq_true rfl), (Nat.le_of_ble_eq_true rfl)⟩ ⟨Nat.le_of_ble_eq_true rfl, Nat.le_of_ble_eq_true rfl⟩ ?_
  show qT g kX12_init (qR 2 52 12548) (qZ g (fun v n' M' => n' = 333 ∧ v = none ∧ ((∀ a k, a < 280 → qSm M M' a k) ∧ (∀ a k, 280 ≤ a → a < 333 → M'.1 a k = if a = 307 ∧ k = 0 then 999 else zI a k) ∧ (∀ i, i < 17 → M'.2.1 287 i = lN (wd27 i)) ∧ ∀ a k x, 280 ≤ a → a < 333 → q_ref a k = some x → M'.2.2 a k = some x)) 52 12548) 771 [some (.ref 280)] [.long (wdQ 115 101 110 116 0 0 0), .int 15, .ref 287] 333 W15 (52, 12548)
  refine qe_topJ (y := lN (wd27 15)) (by decide +kernel) ?_
  refine qi_lastN (j := 15) dX12_init_771 sh_287 (by decide) rfl (by omega) (by decide) ?_
  have k16 := k15.step
  have hk16 : (wJ W15 287 15 (lN (wd27 15))).2.2 280 9 = some 287 := hk15
  generalize wJ W15 287 15 (lN (wd27 15)) = W16 at k16 hk16 ⊢
  refine qi_aload_n (i := 0) (x := 280) dX12_init_772 rfl rfl ?_
  refine qi_getR (x := 287) flX12_34 dX12_init_773 sh_280 (by decide) hk16 ?_
  refine qi_bipush (v := 16) dX12_init_776 rfl ?_
  refine qi_bipush (v := 108) dX12_init_778 rfl ?_
  refine qi_bipush (v := 111) dX12_init_780 rfl ?_
  refine qi_bipush (v := 116) dX12_init_782 rfl ?_
  refine qi_iconst (v := 0) dX12_init_784 rfl ?_
  refine qi_iconst (v := 0) dX12_init_785 rfl ?_
  refine qi_iconst (v := 0) dX12_init_786 rfl ?_
  refine qi_iconst (v := 0) dX12_init_787 rfl ?_
  refine qi_callzS (K' := kX12_word) (As := [.int 108, .int 111, .int 116, .int 0, .int 0, .int 0, .int 0]) mlX12_176 okX12_word dX12_init_788 (c_X12_word g 108 111 116 0 0 0 0) rfl rfl (Nat.le_of_ble_eq_true rfl) ⟨(Nat.le_of_ble_eq_true rfl), (Nat.le_of_ble_eq_true rfl)⟩ ⟨Nat.le_of_ble_eq_true rfl, Nat.le_of_ble_eq_true rfl⟩ ?_
  show qT g kX12_init (qR 2 52 12548) (qZ g (fun v n' M' => n' = 333 ∧ v = none ∧ ((∀ a k, a < 280 → qSm M M' a k) ∧ (∀ a k, 280 ≤ a → a < 333 → M'.1 a k = if a = 307 ∧ k = 0 then 999 else zI a k) ∧ (∀ i, i < 17 → M'.2.1 287 i = lN (wd27 i)) ∧ ∀ a k x, 280 ≤ a → a < 333 → q_ref a k = some x → M'.2.2 a k = some x)) 52 12548) 791 [some (.ref 280)] [.long (wdQ 108 111 116 0 0 0 0), .int 16, .ref 287] 333 W16 (52, 12548)
  refine qe_topJ (y := lN (wd27 16)) (by decide +kernel) ?_
  refine qi_lastN (j := 16) dX12_init_791 sh_287 (by decide) rfl (by omega) (by decide) ?_
  have k17 := k16.step
  have hk17 : (wJ W16 287 16 (lN (wd27 16))).2.2 280 9 = some 287 := hk16
  generalize wJ W16 287 16 (lN (wd27 16)) = W17 at k17 hk17 ⊢
  refine qi_retN rfl dX12_init_792 (by decide) (?_)
  obtain ⟨e1, e2, e3, e4⟩ := k17
  subst hb
  refine ⟨fun a k ha => ?_, fun a k ha hb => ?_, e4, fun a k x ha hb hx => ?_⟩
  · obtain ⟨q1, q2, q3⟩ := hfin.1 a k ha
    refine ⟨(e1 a k).trans ?_, (e3 a k (by omega)).trans q2, by rw [e2]; exact q3⟩
    rw [wI_1, if_neg (by omega)]
    exact q1
  · rw [e1 a k, wI_1]
    by_cases c : a = 307 ∧ k = 0
    · rw [if_pos c, if_pos c]
    · rw [if_neg c, if_neg c]
      exact (hfin.2 a k ha hb).1
  · rw [e2]
    exact (hfin.2 a k ha hb).2.2 x hx
