/-! strings; pure calls at any number of cells -/
theorem fs_value : Cond.fieldLink RJ0 9 "java/lang/String" "value" "[B" ∈ qgood := (List.mem_filter.mpr ⟨List.mem_append_right _ (List.mem_of_getElem? (i := 1731) (by decide +kernel)), rfl⟩)
theorem fs_coder : Cond.fieldLink RJ0 15 "java/lang/String" "coder" "B" ∈ qgood := (List.mem_filter.mpr ⟨List.mem_append_right _ (List.mem_of_getElem? (i := 1732) (by decide +kernel)), rfl⟩)
theorem fs_comp : Cond.fieldLink RJ0 38 "java/lang/String" "COMPACT_STRINGS" "Z" ∈ qgood := (List.mem_filter.mpr ⟨List.mem_append_right _ (List.mem_of_getElem? (i := 67) (by decide +kernel)), rfl⟩)
theorem fs_fmt : Cond.fieldLink RJ0 1053 "jdk/internal/util/Preconditions" "SIOOBE_FORMATTER" "Ljava/util/function/BiFunction;" ∈ qgood := (List.mem_filter.mpr ⟨List.mem_append_right _ (List.mem_of_getElem? (i := 83) (by decide +kernel)), rfl⟩)
theorem dJ3c_0 : decode cJ3_checkIndex_8e157 0 = .ok (.iload_n 0, 1) := by decide +kernel
theorem dJ3c_1 : decode cJ3_checkIndex_8e157 1 = .ok (.ifCond .lt 8, 3) := by decide +kernel
theorem dJ3c_4 : decode cJ3_checkIndex_8e157 4 = .ok (.iload_n 0, 1) := by decide +kernel
theorem dJ3c_5 : decode cJ3_checkIndex_8e157 5 = .ok (.iload_n 1, 1) := by decide +kernel
theorem dJ3c_6 : decode cJ3_checkIndex_8e157 6 = .ok (.if_icmp .lt 10, 3) := by decide +kernel
theorem dJ3c_16 : decode cJ3_checkIndex_8e157 16 = .ok (.iload_n 0, 1) := by decide +kernel
theorem dJ3c_17 : decode cJ3_checkIndex_8e157 17 = .ok (.ireturn, 1) := by decide +kernel
/-- a pure answer, at any number of cells -/
def qPz (g : qG) (d : Nat) (K : qKt) (As : List Value) (n : Nat) (M : qM) (v : Option Value) : Prop := qCon g d K As n M 0 0 (fun r n' M' => n' = n ∧ r = v ∧ M' = M)
section Str
variable {g : qG} {K K' : qKt} {R : Room} {Z : List Frame → Array Value → State → State → Prop} {pc n d k idx : Nat} {L : List (Option Value)} {st stk As : List Value} {M : qM} {cs : Nat × Nat} {i : Nat} {v : Option Value}
theorem qPz.of (hy : plainName K.1.cls = true) {j : Nat} (hj : (qargs As).length + j = K.2.2.1) (h : qT g K (qR d 0 0) (qZ g (fun r n' M' => n' = n ∧ r = v ∧ M' = M) 0 0) 0 (qargs As ++ List.replicate j none) [] n M (0, 0)) : qPz g d K As n M v := qCon.of hy hj h
theorem ad_s : qad g (1000001 + i) = qext g (1 + i) := by
  unfold qad
  rw [if_neg (by omega), show 1000001 + i - 1000000 = 1 + i by omega]
theorem ad_b : qad g (1000003 + i) = qext g (3 + i) := by
  unfold qad
  rw [if_neg (by omega), show 1000003 + i - 1000000 = 3 + i by omega]
theorem qi_sval (hk : K.1.cls = RJ0) (hi : i < 2) (hd : decode K.2.1 pc = .ok (.getfield 9, 3)) (kk : qT g K R Z (pc + 3) L (.ref (1000003 + i) :: st) n M cs) : qT g K R Z pc L (.ref (1000001 + i) :: st) n M cs := by
  intro p e s m args below meth c0 H locs ls C hH hS hl
  have hX := C.2.2.2.2.2.2.2.2.2
  have hk2 := kk p e s m args below meth c0 H locs ls C hH hS hl
  simp only [List.map_cons, qv, ad_s, ad_b] at hk2 ⊢
  exact vk_getf C.1 C.2.1 (hX.2.1.1 i hi).2.2.1 hS C.2.2.2.1 (by rw [hk]; exact C.2.2.2.2.1 _ fs_value) (fun _ z => z) hd hk2
theorem qi_scod (hk : K.1.cls = RJ0) (hi : i < 2) (hd : decode K.2.1 pc = .ok (.getfield 15, 3)) (kk : qT g K R Z (pc + 3) L (.int 0 :: st) n M cs) : qT g K R Z pc L (.ref (1000001 + i) :: st) n M cs := by
  intro p e s m args below meth c0 H locs ls C hH hS hl
  have hX := C.2.2.2.2.2.2.2.2.2
  have hk2 := kk p e s m args below meth c0 H locs ls C hH hS hl
  simp only [List.map_cons, qv, ad_s, ad_b] at hk2 ⊢
  exact vk_getf C.1 C.2.1 (hX.2.1.1 i hi).2.1 hS C.2.2.2.1 (by rw [hk]; exact C.2.2.2.2.1 _ fs_coder) (fun _ z => z) hd hk2
theorem qi_scomp (hk : K.1.cls = RJ0) (hd : decode K.2.1 pc = .ok (.getstatic 38, 3)) (kk : qT g K R Z (pc + 3) L (.int 1 :: st) n M cs) : qT g K R Z pc L st n M cs := by
  intro p e s m args below meth c0 H locs ls C hH hS hl
  have hX := C.2.2.2.2.2.2.2.2.2
  exact va_gets C.1 C.2.1 hX.2.2.1 hS C.2.2.2.1 (by rw [hk]; exact C.2.2.2.2.1 _ fs_comp) (fun _ z => z) hd (kk p e s m args below meth c0 H locs ls C hH hS hl)
theorem qi_sfmt (hk : K.1.cls = RJ0) (hd : decode K.2.1 pc = .ok (.getstatic 1053, 3)) (kk : ∀ w : Value, w.category = 1 → qT g K R Z (pc + 3) L (w :: st) n M cs) : qT g K R Z pc L st n M cs := by
  intro p e s m args below meth c0 H locs ls C hH hS hl
  have hX := C.2.2.2.2.2.2.2.2.2
  rcases hX.1.2.2.2.2 with h | h
  · exact va_gets C.1 C.2.1 h hS C.2.2.2.1 (by rw [hk]; exact C.2.2.2.2.1 _ fs_fmt) (fun _ z => z) hd (kk .null rfl p e s m args below meth c0 H locs ls C hH hS hl)
  · exact va_gets C.1 C.2.1 h hS C.2.2.2.1 (by rw [hk]; exact C.2.2.2.2.1 _ fs_fmt) (fun _ z => z) hd (kk (.ref 1000005) rfl p e s m args below meth c0 H locs ls C hH hS hl)
theorem qi_sblen (hi : i < 2) (hd : decode K.2.1 pc = .ok (.arraylength, 1)) (kk : qT g K R Z (pc + 1) L (.int (nI (qlen.getD i 0)) :: st) n M cs) : qT g K R Z pc L (.ref (1000003 + i) :: st) n M cs := by
  intro p e s m args below meth c0 H locs ls C hH hS hl
  have hX := C.2.2.2.2.2.2.2.2.2
  have hk2 := kk p e s m args below meth c0 H locs ls C hH hS hl
  simp only [List.map_cons, qv, ad_s, ad_b] at hk2 ⊢
  exact va_tlen C.1 C.2.1 (hX.2.1.1 i hi).2.2.2 hS rfl hd hk2
theorem qi_sbld {j : Nat} (hi : i < 2) (hj : j < qlen.getD i 0) (hd : decode K.2.1 pc = .ok (.baload, 1)) (kk : qT g K R Z (pc + 1) L (.int ((qbyt.getD i []).getD j 0) :: st) n M cs) : qT g K R Z pc L (.int (nI j) :: .ref (1000003 + i) :: st) n M cs := by
  intro p e s m args below meth c0 H locs ls C hH hS hl
  have hX := C.2.2.2.2.2.2.2.2.2
  have hk2 := kk p e s m args below meth c0 H locs ls C hH hS hl
  have hl2 : qlen.getD i 0 < 100 := (show ∀ i, i < 2 → qlen.getD i 0 < 100 by decide) i hi
  simp only [List.map_cons, qv, ad_s, ad_b] at hk2 ⊢
  refine va_tb C.1 C.2.1 (hX.2.1.1 i hi).2.2.2 hS (pk_in j _ hj rfl (by omega)) ?_ hd hk2
  rw [nI_clamp (by omega)]
theorem qi_sldc0 (hk : K.1.cls = RX8) (hd : decode K.2.1 pc = .ok (.ldc 32, 2)) (kk : qT g K R Z (pc + 2) L (.ref (1000001 + 0) :: st) n M cs) : qT g K R Z pc L st n M cs := fun p e s m args below meth c0 H locs ls C hH hS hl =>
  va_ldcS C.1 C.2.1 C.2.2.2.1 (by rw [hk]; exact C.2.2.2.2.2.2.2.2.2.1.2.2.1) hd (kk p e s m args below meth c0 H locs ls C hH hS hl)
theorem qi_sldc1 (hk : K.1.cls = RX8) (hd : decode K.2.1 pc = .ok (.ldc 72, 2)) (kk : qT g K R Z (pc + 2) L (.ref (1000001 + 1) :: st) n M cs) : qT g K R Z pc L st n M cs := fun p e s m args below meth c0 H locs ls C hH hS hl =>
  va_ldcS C.1 C.2.1 C.2.2.2.1 (by rw [hk]; exact C.2.2.2.2.2.2.2.2.2.1.2.2.2.1) hd (kk p e s m args below meth c0 H locs ls C hH hS hl)
/-- a call on a string -/
theorem q_T {mc ms : Nat} {Q' : Option Value → Nat → qM → Prop} (hlk : qLV K.1.cls idx K') (hok : qok K' k) (hd : decode K.2.1 pc = .ok (.invokevirtual idx, 3)) (hm : qCon g d K' (.ref (1000001 + i) :: As) n M mc ms Q') (hi : i < 2) (hcl : K'.1.cls = "java/lang/String") (hk : As.length = k) (hst : (st.map fun v => v.category).sum ≤ 8) (hR : d + 1 ≤ R.frames ∧ 8 + (K'.2.2.1 + 11) + 40 * d ≤ R.locals) (hcs : cs.1 + mc ≤ R.cells ∧ cs.2 + ms ≤ R.slots)
    (kk : ∀ (v : Option Value) (n' : Nat) (M' : qM), Q' v n' M' → qT g K R Z (pc + 3) L (v.toList ++ st) n' M' (cs.1 + mc, cs.2 + ms)) : qT g K R Z pc L (As.reverse ++ .ref (1000001 + i) :: st) n M cs := by
  intro p e s m args below meth c0 H locs ls C hH hS hl
  have hts := C.2.2.2.2.1
  have hK := C.2.2.2.2.2.2.2.2.1
  have hX := C.2.2.2.2.2.2.2.2.2
  have hrec : ∃ cell : Cell, H[qad g (1000001 + i)]? = some cell ∧ cell.vm.isStatics = false ∧ s.vm.findClass K'.1.cls = some cell.cls := by
    rw [ad_s, hcl]
    exact vk_recv (i := i) hX.2.1 hi hS
  refine q_ret (st0 := (As.reverse ++ .ref (1000001 + i) :: st).map (qv g)) (a := (Value.ref (qad g (1000001 + i)) :: As.map (qv g)).toArray) (va_runV (As := As.map (qv g)) (rest := st.map (qv g)) (Ts := qgood) (own := K.1.cls) ⟨C.1, C.2.1, C.2.2.1, C.2.2.2.1, hts⟩ hm (C := K'.1.cls) (n := k) (bytes := K'.2.1) (maxL := K'.2.2.1) (ret := K'.2.2.2) ⟨q_callB hts hok hlk.1 hR, hts _ hlk.2.1, hts _ hlk.2.2⟩ ⟨qblind g n M _, hrec, fun U hU hW => ⟨rfl, q_pre hH hK hX hS hU hW⟩⟩ rfl (by rw [List.length_map]; exact hk) hl.1 (by simp [List.map_reverse, qv]) (q_rm (H := H) hst) hd hcs) C hS hl kk
theorem qi_callzT (hlk : qLV K.1.cls idx K') (hok : qok K' k) (hd : decode K.2.1 pc = .ok (.invokevirtual idx, 3)) (hm : qPz g d K' (.ref (1000001 + i) :: As) n M v) (hi : i < 2) (hcl : K'.1.cls = "java/lang/String") (hstk : stk = As.reverse ++ .ref (1000001 + i) :: st) (hk : As.length = k) (hst : (st.map fun v => v.category).sum ≤ 8) (hR : d + 1 ≤ R.frames ∧ 8 + (K'.2.2.1 + 11) + 40 * d ≤ R.locals) (hcs : cs.1 ≤ R.cells ∧ cs.2 ≤ R.slots) (kk : qT g K R Z (pc + 3) L (v.toList ++ st) n M cs) : qT g K R Z pc L stk n M cs := by
  subst hstk
  refine q_T hlk hok hd hm hi hcl hk hst hR hcs (fun v n' M' hq => ?_)
  obtain ⟨rfl, rfl, rfl⟩ := hq
  exact kk
theorem qi_callzV {b c : Nat} (hlk : qLV K.1.cls idx K') (hok : qok K' k) (hd : decode K.2.1 pc = .ok (.invokevirtual idx, 3)) (hm : qPz g d K' (.ref b :: As) n M v) (hb : qsh b = (c, 0)) (hc : c < 40) (hbc : (q_cl[c]?).map (fun q => q.1) = some K'.1.cls) (hbn : b < n) (hstk : stk = As.reverse ++ .ref b :: st) (hk : As.length = k) (hst : (st.map fun v => v.category).sum ≤ 8) (hR : d + 1 ≤ R.frames ∧ 8 + (K'.2.2.1 + 11) + 40 * d ≤ R.locals) (hcs : cs.1 ≤ R.cells ∧ cs.2 ≤ R.slots) (kk : qT g K R Z (pc + 3) L (v.toList ++ st) n M cs) : qT g K R Z pc L stk n M cs := by
  subst hstk
  refine q_V hlk hok hd hm hb hc hbc hbn hk hst hR hcs (fun v n' M' hq => ?_)
  obtain ⟨rfl, rfl, rfl⟩ := hq
  exact kk
theorem qi_callzS (hlk : qLS K.1.cls idx K') (hok : qok K' k) (hd : decode K.2.1 pc = .ok (.invokestatic idx, 3)) (hm : qPz g d K' As n M v) (hstk : stk = As.reverse ++ st) (hk : As.length = k) (hst : (st.map fun v => v.category).sum ≤ 8) (hR : d + 1 ≤ R.frames ∧ 8 + (K'.2.2.1 + 11) + 40 * d ≤ R.locals) (hcs : cs.1 ≤ R.cells ∧ cs.2 ≤ R.slots) (kk : qT g K R Z (pc + 3) L (v.toList ++ st) n M cs) : qT g K R Z pc L stk n M cs := by
  subst hstk
  refine q_S hlk hok hd hm hk hst hR hcs (fun v n' M' hq => ?_)
  obtain ⟨rfl, rfl, rfl⟩ := hq
  exact kk
theorem qi_callzSN (hlk : qLSN K.1.cls idx K') (hok : qok K' k) (hd : decode K.2.1 pc = .ok (.invokestatic idx, 3)) (hm : qPz g d K' As n M v) (hstk : stk = As.reverse ++ st) (hk : As.length = k) (hst : (st.map fun v => v.category).sum ≤ 8) (hR : d + 1 ≤ R.frames ∧ 8 + (K'.2.2.1 + 11) + 40 * d ≤ R.locals) (hcs : cs.1 ≤ R.cells ∧ cs.2 ≤ R.slots) (kk : qT g K R Z (pc + 3) L (v.toList ++ st) n M cs) : qT g K R Z pc L stk n M cs := by
  subst hstk
  refine q_SN hlk hok hd hm hk hst hR hcs (fun v n' M' hq => ?_)
  obtain ⟨rfl, rfl, rfl⟩ := hq
  exact kk
end Str
/-- the char at j -/
def chQ (i j : Nat) : Int32 := ((((qbyt.getD i []).getD j 0) &&& 255).toUInt32 % 65536).toInt32
theorem ch_all : ∀ i, i < 2 → ∀ j, j < qlen.getD i 0 → chQ i j = (qbyt.getD i []).getD j 0 ∧ narrow .char (.int (chQ i j)) = .int (chQ i j) := by decide +kernel
theorem shr_0 (a : Nat) (h : a < 2 ^ 31) : nI a >>> ((0 : Int32) &&& 31) = nI a := by simp
theorem c_coder (g : qG) {i : Nat} (hi : i < 2) {n : Nat} {M : qM} : qPz g 0 kJ0_coder_7d493 [.ref (1000001 + i)] n M (some (.int 0)) := by
  refine qPz.of (j := 0) (pn_RJ0) rfl ?_
  show qT g kJ0_coder_7d493 (qR 0 0 0) (qZ g (fun r n' M' => n' = n ∧ r = (some (.int 0)) ∧ M' = M) 0 0) 0 [some (.ref (1000001 + i))] [] n M (0, 0)
  refine qi_scomp rfl dJ0_coder_7d493_0 ?_
  refine qi_if_eq (tgt := 13) dJ0_coder_7d493_3 (by decide) (fun z => False.elim ((absurd z (by decide)))) (fun z => ?_)
  refine qi_aload_n (i := 0) (x := 1000001 + i) dJ0_coder_7d493_6 rfl rfl ?_
  refine qi_scod rfl hi dJ0_coder_7d493_7 ?_
  refine qi_goto (tgt := 14) dJ0_coder_7d493_10 (by decide) ?_
  exact qi_ireturn rfl rfl dJ0_coder_7d493_14 ⟨by decide, by decide⟩ ⟨rfl, rfl, rfl⟩
theorem c_isLatin1 (g : qG) {i : Nat} (hi : i < 2) {n : Nat} {M : qM} : qPz g 0 kJ0_isLatin1_aae02 [.ref (1000001 + i)] n M (some (.int 1)) := by
  refine qPz.of (j := 0) (pn_RJ0) rfl ?_
  show qT g kJ0_isLatin1_aae02 (qR 0 0 0) (qZ g (fun r n' M' => n' = n ∧ r = (some (.int 1)) ∧ M' = M) 0 0) 0 [some (.ref (1000001 + i))] [] n M (0, 0)
  refine qi_scomp rfl dJ0_isLatin1_aae02_0 ?_
  refine qi_if_eq (tgt := 17) dJ0_isLatin1_aae02_3 (by decide) (fun z => False.elim ((absurd z (by decide)))) (fun z => ?_)
  refine qi_aload_n (i := 0) (x := 1000001 + i) dJ0_isLatin1_aae02_6 rfl rfl ?_
  refine qi_scod rfl hi dJ0_isLatin1_aae02_7 ?_
  refine qi_if_ne (tgt := 17) dJ0_isLatin1_aae02_10 (by decide) (fun z => False.elim ((absurd rfl z))) (fun z => ?_)
  refine qi_iconst (v := 1) dJ0_isLatin1_aae02_13 rfl ?_
  refine qi_goto (tgt := 18) dJ0_isLatin1_aae02_14 (by decide) ?_
  exact qi_ireturn rfl rfl dJ0_isLatin1_aae02_18 ⟨by decide, by decide⟩ ⟨rfl, rfl, rfl⟩
theorem c_slength (g : qG) {i : Nat} (hi : i < 2) {n : Nat} {M : qM} : qPz g 1 kJ0_length_8abf5 [.ref (1000001 + i)] n M (some (.int (nI (qlen.getD i 0)))) := by
  refine qPz.of (j := 0) (pn_RJ0) rfl ?_
  show qT g kJ0_length_8abf5 (qR 1 0 0) (qZ g (fun r n' M' => n' = n ∧ r = (some (.int (nI (qlen.getD i 0)))) ∧ M' = M) 0 0) 0 [some (.ref (1000001 + i))] [] n M (0, 0)
  refine qi_aload_n (i := 0) (x := 1000001 + i) dJ0_length_8abf5_0 rfl rfl ?_
  refine qi_sval rfl hi dJ0_length_8abf5_1 ?_
  refine qi_sblen hi dJ0_length_8abf5_4 ?_
  refine qi_aload_n (i := 0) (x := 1000001 + i) dJ0_length_8abf5_5 rfl rfl ?_
  refine qi_callzT (K' := kJ0_coder_7d493) (As := []) mlJ0_335 okJ0_coder_7d493 dJ0_length_8abf5_6 (c_coder g hi) hi rfl rfl rfl (Nat.le_of_ble_eq_true rfl) ⟨(Nat.le_of_ble_eq_true rfl), (Nat.le_of_ble_eq_true rfl)⟩ ⟨Nat.le_of_ble_eq_true rfl, Nat.le_of_ble_eq_true rfl⟩ ?_
  show qT g kJ0_length_8abf5 (qR 1 0 0) (qZ g (fun r n' M' => n' = n ∧ r = (some (.int (nI (qlen.getD i 0)))) ∧ M' = M) 0 0) 9 [some (.ref (1000001 + i))] [.int 0, .int (nI (qlen.getD i 0))] n M (0, 0)
  refine qi_ishr dJ0_length_8abf5_9 ?_
  refine qe_top (y := nI (qlen.getD i 0)) (shr_0 _ (by have := (show ∀ i, i < 2 → qlen.getD i 0 < 100 by decide) i hi; omega)) ?_
  exact qi_ireturn rfl rfl dJ0_length_8abf5_10 ⟨by decide, by decide⟩ ⟨rfl, rfl, rfl⟩
theorem c_check3 (g : qG) {n : Nat} {M : qM} {j N : Nat} (hj : j < N) (hN : N < 2 ^ 31) (w : Value) (hw : w.category = 1) : qPz g 0 kJ3_checkIndex_8e157 [.int (nI j), .int (nI N), w] n M (some (.int (nI j))) := by
  have e : qargs [.int (nI j), .int (nI N), w] = [some (.int (nI j)), some (.int (nI N)), some w] := by cases w <;> first | rfl | cases hw
  refine qPz.of (j := 0) pn_RJ3 (by rw [e]; rfl) ?_
  rw [e]
  refine qi_iload_n (i := 0) (x := nI j) dJ3c_0 rfl rfl ?_
  refine qi_if_lt (tgt := 9) dJ3c_1 (by decide) (fun z => absurd z (nI_pos (by omega))) (fun _ => ?_)
  refine qi_iload_n (i := 0) (x := nI j) dJ3c_4 rfl rfl ?_
  refine qi_iload_n (i := 1) (x := nI N) dJ3c_5 rfl rfl ?_
  refine qi_icmp_lt (tgt := 16) dJ3c_6 (by decide) (fun _ => ?_) (fun z => absurd (nI_lt hj hN) z)
  refine qi_iload_n (i := 0) (x := nI j) dJ3c_16 rfl rfl ?_
  exact qi_ireturn rfl rfl dJ3c_17 ⟨by decide, by decide⟩ ⟨rfl, rfl, rfl⟩
theorem c_checkIndex (g : qG) {j N : Nat} (hj : j < N) (hN : N < 2 ^ 31) {n : Nat} {M : qM} : qPz g 1 kJ0_checkIndex_df160 [.int (nI j), .int (nI N)] n M none := by
  refine qPz.of (j := 0) (pn_RJ0) rfl ?_
  show qT g kJ0_checkIndex_df160 (qR 1 0 0) (qZ g (fun r n' M' => n' = n ∧ r = none ∧ M' = M) 0 0) 0 [some (.int (nI j)), some (.int (nI N))] [] n M (0, 0)
  refine qi_iload_n (i := 0) (x := nI j) dJ0_checkIndex_df160_0 rfl rfl ?_
  refine qi_iload_n (i := 1) (x := nI N) dJ0_checkIndex_df160_1 rfl rfl ?_
  refine qi_sfmt rfl dJ0_checkIndex_df160_2 (fun v hw => ?_)
  refine qi_callzS (K' := kJ3_checkIndex_8e157) (As := [.int (nI j), .int (nI N), v]) mlJ0_1059 okJ3_checkIndex_8e157 dJ0_checkIndex_df160_5 (c_check3 g hj hN v hw) rfl rfl (Nat.le_of_ble_eq_true rfl) ⟨(Nat.le_of_ble_eq_true rfl), (Nat.le_of_ble_eq_true rfl)⟩ ⟨Nat.le_of_ble_eq_true rfl, Nat.le_of_ble_eq_true rfl⟩ ?_
  show qT g kJ0_checkIndex_df160 (qR 1 0 0) (qZ g (fun r n' M' => n' = n ∧ r = none ∧ M' = M) 0 0) 8 [some (.int (nI j)), some (.int (nI N))] [.int (nI j)] n M (0, 0)
  refine qi_pop dJ0_checkIndex_df160_8 ?_
  exact qi_return rfl dJ0_checkIndex_df160_9 ⟨by decide, by decide⟩ ⟨rfl, rfl, rfl⟩
theorem c_charAt1 (g : qG) {i j : Nat} (hi : i < 2) (hj : j < qlen.getD i 0) {n : Nat} {M : qM} : qPz g 2 kJ1_charAt_3b067 [.ref (1000003 + i), .int (nI j)] n M (some (.int (chQ i j))) := by
  have hl2 : qlen.getD i 0 < 100 := (show ∀ i, i < 2 → qlen.getD i 0 < 100 by decide) i hi
  refine qPz.of (j := 0) (pn_RJ1) rfl ?_
  show qT g kJ1_charAt_3b067 (qR 2 0 0) (qZ g (fun r n' M' => n' = n ∧ r = (some (.int (chQ i j))) ∧ M' = M) 0 0) 0 [some (.ref (1000003 + i)), some (.int (nI j))] [] n M (0, 0)
  refine qi_iload_n (i := 1) (x := nI j) dJ1_charAt_3b067_0 rfl rfl ?_
  refine qi_aload_n (i := 0) (x := 1000003 + i) dJ1_charAt_3b067_1 rfl rfl ?_
  refine qi_sblen hi dJ1_charAt_3b067_2 ?_
  refine qi_callzS (K' := kJ0_checkIndex_df160) (As := [.int (nI j), .int (nI (qlen.getD i 0))]) mlJ1_9 okJ0_checkIndex_df160 dJ1_charAt_3b067_3 (c_checkIndex g hj (by omega)) rfl rfl (Nat.le_of_ble_eq_true rfl) ⟨(Nat.le_of_ble_eq_true rfl), (Nat.le_of_ble_eq_true rfl)⟩ ⟨Nat.le_of_ble_eq_true rfl, Nat.le_of_ble_eq_true rfl⟩ ?_
  show qT g kJ1_charAt_3b067 (qR 2 0 0) (qZ g (fun r n' M' => n' = n ∧ r = (some (.int (chQ i j))) ∧ M' = M) 0 0) 6 [some (.ref (1000003 + i)), some (.int (nI j))] [] n M (0, 0)
  refine qi_aload_n (i := 0) (x := 1000003 + i) dJ1_charAt_3b067_6 rfl rfl ?_
  refine qi_iload_n (i := 1) (x := nI j) dJ1_charAt_3b067_7 rfl rfl ?_
  refine qi_sbld (j := j) hi hj dJ1_charAt_3b067_8 ?_
  refine qi_sipush (v := 255) dJ1_charAt_3b067_9 rfl ?_
  refine qi_iand dJ1_charAt_3b067_12 ?_
  refine qi_i2c dJ1_charAt_3b067_13 ?_
  exact qi_ireturn rfl ((ch_all i hi j hj).2) dJ1_charAt_3b067_14 ⟨by decide, by decide⟩ ⟨rfl, rfl, rfl⟩
theorem c_charAt (g : qG) {i j : Nat} (hi : i < 2) (hj : j < qlen.getD i 0) {n : Nat} {M : qM} : qPz g 3 kJ0_charAt_5068e [.ref (1000001 + i), .int (nI j)] n M (some (.int (chQ i j))) := by
  refine qPz.of (j := 0) (pn_RJ0) rfl ?_
  show qT g kJ0_charAt_5068e (qR 3 0 0) (qZ g (fun r n' M' => n' = n ∧ r = (some (.int (chQ i j))) ∧ M' = M) 0 0) 0 [some (.ref (1000001 + i)), some (.int (nI j))] [] n M (0, 0)
  refine qi_aload_n (i := 0) (x := 1000001 + i) dJ0_charAt_5068e_0 rfl rfl ?_
  refine qi_callzT (K' := kJ0_isLatin1_aae02) (As := []) mlJ0_492 okJ0_isLatin1_aae02 dJ0_charAt_5068e_1 (c_isLatin1 g hi) hi rfl rfl rfl (Nat.le_of_ble_eq_true rfl) ⟨(Nat.le_of_ble_eq_true rfl), (Nat.le_of_ble_eq_true rfl)⟩ ⟨Nat.le_of_ble_eq_true rfl, Nat.le_of_ble_eq_true rfl⟩ ?_
  show qT g kJ0_charAt_5068e (qR 3 0 0) (qZ g (fun r n' M' => n' = n ∧ r = (some (.int (chQ i j))) ∧ M' = M) 0 0) 4 [some (.ref (1000001 + i)), some (.int (nI j))] [.int 1] n M (0, 0)
  refine qi_if_eq (tgt := 16) dJ0_charAt_5068e_4 (by decide) (fun z => False.elim ((absurd z (by decide)))) (fun z => ?_)
  refine qi_aload_n (i := 0) (x := 1000001 + i) dJ0_charAt_5068e_7 rfl rfl ?_
  refine qi_sval rfl hi dJ0_charAt_5068e_8 ?_
  refine qi_iload_n (i := 1) (x := nI j) dJ0_charAt_5068e_11 rfl rfl ?_
  refine qi_callzS (K' := kJ1_charAt_3b067) (As := [.ref (1000003 + i), .int (nI j)]) mlJ0_495 okJ1_charAt_3b067 dJ0_charAt_5068e_12 (c_charAt1 g hi hj) rfl rfl (Nat.le_of_ble_eq_true rfl) ⟨(Nat.le_of_ble_eq_true rfl), (Nat.le_of_ble_eq_true rfl)⟩ ⟨Nat.le_of_ble_eq_true rfl, Nat.le_of_ble_eq_true rfl⟩ ?_
  show qT g kJ0_charAt_5068e (qR 3 0 0) (qZ g (fun r n' M' => n' = n ∧ r = (some (.int (chQ i j))) ∧ M' = M) 0 0) 15 [some (.ref (1000001 + i)), some (.int (nI j))] [.int (chQ i j)] n M (0, 0)
  exact qi_ireturn rfl ((ch_all i hi j hj).2) dJ0_charAt_5068e_15 ⟨by decide, by decide⟩ ⟨rfl, rfl, rfl⟩
