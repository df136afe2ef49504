/-! calls and ends -/
/-- contracts of methods that make nothing, once all cells stand (333 of them) -/
def qI (g : qG) (d : Nat) (K : qKt) (As : List Value) (M : qM) (Q : Int32 → qM → Prop) : Prop := qCon g d K As 333 M 0 0 (fun v n' M' => n' = 333 ∧ ∃ r : Int32, v = some (.int r) ∧ Q r M')
def qJ (g : qG) (d : Nat) (K : qKt) (As : List Value) (M : qM) (Q : Int64 → qM → Prop) : Prop := qCon g d K As 333 M 0 0 (fun v n' M' => n' = 333 ∧ ∃ r : Int64, v = some (.long r) ∧ Q r M')
def qV (g : qG) (d : Nat) (K : qKt) (As : List Value) (M : qM) (Q : qM → Prop) : Prop := qCon g d K As 333 M 0 0 (fun v n' M' => n' = 333 ∧ v = none ∧ Q M')
/-- the constructors make cells: n before, n' behind -/
def qN (g : qG) (d : Nat) (K : qKt) (As : List Value) (n : Nat) (M : qM) (mc ms n' : Nat) (Q : qM → Prop) : Prop := qCon g d K As n M mc ms (fun v n2 M' => n2 = n' ∧ v = none ∧ Q M')
def qok (K : qKt) (k : Nat) : Prop := Cond.code K.1 K.2.1 K.2.2.1 K.2.2.2 ∈ qgood ∧ Cond.initialized K.1.cls ∈ qgood ∧ (K.1.cls ≠ "java/lang/invoke/MethodHandle" ∧ K.1.cls ≠ "java/lang/invoke/VarHandle") ∧ (parseMethodDescriptor K.1.desc).map (fun d => d.parameters.length) = some k
def qLV (own : String) (idx : Nat) (K : qKt) : Prop := Cond.methodLink own idx K.1 ∈ qgood ∧ Cond.instanceMethod K.1 ∈ qgood ∧ Cond.selects K.1.cls K.1 K.1 ∈ qgood
def qLS (own : String) (idx : Nat) (K : qKt) : Prop := Cond.methodLink own idx K.1 ∈ qgood ∧ Cond.static K.1 ∈ qgood
def qLI (own : String) (idx : Nat) (K : qKt) : Prop := Cond.methodLink own idx K.1 ∈ qgood ∧ Cond.instanceMethod K.1 ∈ qgood ∧ K.1.name = "<init>" ∧ K.2.2.2 = none
def qLSN (own : String) (idx : Nat) (K : qKt) : Prop := ∃ hh : String, Cond.methodLinkNest own idx K.1 hh ∈ qnest ∧ Cond.static K.1 ∈ qgood
def qLIN (own : String) (idx : Nat) (K : qKt) : Prop := ∃ hh : String, Cond.methodLinkNest own idx K.1 hh ∈ qnest ∧ Cond.instanceMethod K.1 ∈ qgood ∧ K.1.name = "<init>" ∧ K.2.2.2 = none
theorem qgood_g {w : Cond} (h : w ∈ qgood) : (w.onTables && w.keeps) = true ∨ ∃ ty, w = .arrayClass ty := good_of_word (List.mem_filter.mp h).2
theorem qGood {K : qKt} {k : Nat} (h : qok K k) : GoodIn qgood (qws K) := by
  intro w hw
  rcases List.mem_cons.mp hw with e | e
  · rw [e]
    exact ⟨h.1, qgood_g h.1⟩
  · exact ⟨e, qgood_g e⟩
section Calls
variable {g : qG} {K K' : qKt} {R : Room} {Z : List Frame → Array Value → State → State → Prop} {pc n d mc ms k idx : Nat} {L : List (Option Value)} {st stk As : List Value} {M : qM} {cs : Nat × Nat} {Q' : Option Value → Nat → qM → Prop}
theorem q_catsum (g : qG) : ∀ st : List Value, ((st.map (qv g)).map fun v => v.category).sum = (st.map fun v => v.category).sum
  | [] => rfl
  | v :: r => by
    simp only [List.map_cons, List.sum_cons, qv_cat, q_catsum g r]
theorem q_callB {s : State} {args : Array Value} {own : String} (hts : ∀ w ∈ qgood, w.before args s = true) (hok : qok K' k) (hl : Cond.methodLink own idx K'.1 ∈ qgood) (hR : d + 1 ≤ R.frames ∧ 8 + (K'.2.2.1 + 11) + 40 * d ≤ R.locals) : CallB R s args own idx K'.1 K'.2.1 K'.2.2.1 K'.2.2.2 (qws K') (qR d mc ms) mc ms k :=
  callB_of k hts (qGood hok) rfl rfl rfl (hts _ hok.2.1) (hts _ hl) ⟨hok.2.2.1.1, hok.2.2.1.2, hok.2.2.2⟩ hR
theorem q_callN {s : State} {args : Array Value} {own hh : String} (hts : ∀ w ∈ qgood, w.before args s = true) (hok : qok K' k) (hl : va_Nw (.methodLinkNest own idx K'.1 hh) s) (hR : d + 1 ≤ R.frames ∧ 8 + (K'.2.2.1 + 11) + 40 * d ≤ R.locals) : va_CN R s args own idx K'.1 hh K'.2.1 K'.2.2.1 K'.2.2.2 (qws K') (qR d mc ms) mc ms k :=
  va_cnB k hts (qGood hok) rfl rfl rfl hl (hts _ hok.2.1) ⟨hok.2.2.1.1, hok.2.2.1.2, hok.2.2.2⟩ hR
/-- behind a call -/
theorem q_ret {p : Program} {e : Env} {s : State} {m : MethodId} {args : Array Value} {below : List Frame} {meth : Method} {c : Code} {H : Heap} {locs : List Loc} {ls : Array Slot} {a : Array Value} {st0 : List Value}
    (hr : va_Run p (qL g) e R s m args below meth c H locs cs.1 cs.2 mc ms (F0 m pc ls st0) (st.map (qv g)) (qQ g Q' a) (fun q : Nat => qB g ≤ q)) (C : qC g K p s m args meth c) (hS : va_S (fun q : Nat => qB g ≤ q) s.heap H locs) (hl : lv_has ls K.2.2.1 (qlv g 0 L))
    (kk : ∀ (v : Option Value) (n' : Nat) (M' : qM), Q' v n' M' → qT g K R Z (pc + 3) L (v.toList ++ st) n' M' (cs.1 + mc, cs.2 + ms)) : W p (qL g) e R s m args below meth c H locs cs.1 cs.2 (Z below args s) (F0 m pc ls st0) := by
  intro T hT X
  obtain ⟨v, st₀, t, T', Lc, h0, X', hL, e1, e2, ⟨⟨v', n', M', hv, hQ, hH⟩, hz, hk⟩, stp⟩ := hr T hT X
  cases hv
  rw [h0] at hz hk
  have hS' : va_S (fun q : Nat => qB g ≤ q) s.heap T'.heap (locs ++ Lc) := by
    refine ⟨Nat.le_trans hS.1 (by rw [e1]; exact hz), fun q h1 h2 => ?_, fun q hq => ?_⟩
    · rw [e1, hk q (Nat.lt_of_lt_of_le h1 hS.1) h2]
      exact hS.2.1 q h1 h2
    · rcases List.mem_append.mp hq with h | h
      · exact hS.2.2 q h
      · exact hL q h
  obtain ⟨t2, a1, b1⟩ := kk v' n' M' hQ p e s m args below meth c T'.heap (locs ++ Lc) ls C (by rw [e1]; exact hH) hS' hl T' rfl X'
  refine ⟨t2, stp t2 ?_, b1⟩
  cases v' <;> exact a1
theorem q_pre {s U : State} {H : Heap} {locs : List Loc} (hH : qH g n M H) (hK : va_K (qD g) q_cl (qtys g) s) (hX : qX g s s.heap) (hS : va_S (fun q : Nat => qB g ≤ q) s.heap H locs) (hU : U.heap = H) (hW : s.WarmedH U.vm) : qPre g n M U :=
  ⟨by rw [hU]; exact hH, va_K.moved hW.alike hK, by rw [hU]; exact hX.step hS hW⟩
theorem q_rm {H : Heap} {m : MethodId} {ls : Array Slot} {st0 : List Value} (h : (st.map fun v => v.category).sum ≤ 8) : 2 * (F0 m pc ls st0).monitorRoom + ((st.map (qv g)).map fun v => v.category).sum ≤ 8 := by
  rw [q_catsum]
  exact lv_room h
theorem q_V {b c : Nat} (hlk : qLV K.1.cls idx K') (hok : qok K' k) (hd : decode K.2.1 pc = .ok (.invokevirtual idx, 3)) (hm : qCon g d K' (.ref b :: As) n M mc ms Q') (hb : qsh b = (c, 0)) (hc : c < 40) (hbc : (q_cl[c]?).map (fun q => q.1) = some K'.1.cls) (hbn : b < n) (hk : As.length = k) (hst : (st.map fun v => v.category).sum ≤ 8) (hR : d + 1 ≤ R.frames ∧ 8 + (K'.2.2.1 + 11) + 40 * d ≤ R.locals) (hcs : cs.1 + mc ≤ R.cells ∧ cs.2 + ms ≤ R.slots)
    (kk : ∀ (v : Option Value) (n' : Nat) (M' : qM), Q' v n' M' → qT g K R Z (pc + 3) L (v.toList ++ st) n' M' (cs.1 + mc, cs.2 + ms)) : qT g K R Z pc L (As.reverse ++ .ref b :: st) n M cs := by
  intro p e s m args below meth c0 H locs ls C hH hS hl
  have hts := C.2.2.2.2.1
  have hK := C.2.2.2.2.2.2.2.2.1
  have hX := C.2.2.2.2.2.2.2.2.2
  have hrec : ∃ cell : Cell, H[qad g b]? = some cell ∧ cell.vm.isStatics = false ∧ s.vm.findClass K'.1.cls = some cell.cls := by
    rw [hH.ad hbn]
    cases hq : q_cl[c]? with
    | none => rw [hq] at hbc; cases hbc
    | some q =>
      rw [hq] at hbc
      have hqc : q.1 = K'.1.cls := Option.some.inj hbc
      rw [← hqc]
      exact va_recv (tys := qtys g) hK (hH.one hbn) hq (q0 := 0) (by rw [qel_o hb hc]; rfl)
  refine q_ret (st0 := (As.reverse ++ .ref b :: st).map (qv g)) (a := (Value.ref (qad g b) :: As.map (qv g)).toArray) (va_runV (As := As.map (qv g)) (rest := st.map (qv g)) (Ts := qgood) (own := K.1.cls) ⟨C.1, C.2.1, C.2.2.1, C.2.2.2.1, hts⟩ hm (C := K'.1.cls) (n := k) (bytes := K'.2.1) (maxL := K'.2.2.1) (ret := K'.2.2.2) ⟨q_callB hts hok hlk.1 hR, hts _ hlk.2.1, hts _ hlk.2.2⟩ ⟨qblind g n M _, hrec, fun U hU hW => ⟨rfl, q_pre hH hK hX hS hU hW⟩⟩ rfl (by rw [List.length_map]; exact hk) hl.1 (by simp [List.map_reverse, qv]) (q_rm (H := H) hst) hd hcs) C hS hl kk
theorem q_S (hlk : qLS K.1.cls idx K') (hok : qok K' k) (hd : decode K.2.1 pc = .ok (.invokestatic idx, 3)) (hm : qCon g d K' As n M mc ms Q') (hk : As.length = k) (hst : (st.map fun v => v.category).sum ≤ 8) (hR : d + 1 ≤ R.frames ∧ 8 + (K'.2.2.1 + 11) + 40 * d ≤ R.locals) (hcs : cs.1 + mc ≤ R.cells ∧ cs.2 + ms ≤ R.slots)
    (kk : ∀ (v : Option Value) (n' : Nat) (M' : qM), Q' v n' M' → qT g K R Z (pc + 3) L (v.toList ++ st) n' M' (cs.1 + mc, cs.2 + ms)) : qT g K R Z pc L (As.reverse ++ st) n M cs := by
  intro p e s m args below meth c0 H locs ls C hH hS hl
  have hts := C.2.2.2.2.1
  have hK := C.2.2.2.2.2.2.2.2.1
  have hX := C.2.2.2.2.2.2.2.2.2
  refine q_ret (st0 := (As.reverse ++ st).map (qv g)) (a := (As.map (qv g)).toArray) (va_runS (As := As.map (qv g)) (rest := st.map (qv g)) (Ts := qgood) (own := K.1.cls) ⟨C.1, C.2.1, C.2.2.1, C.2.2.2.1, hts⟩ hm (n := k) (bytes := K'.2.1) (maxL := K'.2.2.1) (ret := K'.2.2.2) ⟨q_callB hts hok hlk.1 hR, hts _ hlk.2⟩ ⟨qblind g n M _, fun U hU hW => ⟨rfl, q_pre hH hK hX hS hU hW⟩⟩ rfl (by rw [List.length_map]; exact hk) hl.1 (by simp [List.map_reverse]) (q_rm (H := H) hst) hd hcs) C hS hl kk
theorem q_SN (hlk : qLSN K.1.cls idx K') (hok : qok K' k) (hd : decode K.2.1 pc = .ok (.invokestatic idx, 3)) (hm : qCon g d K' As n M mc ms Q') (hk : As.length = k) (hst : (st.map fun v => v.category).sum ≤ 8) (hR : d + 1 ≤ R.frames ∧ 8 + (K'.2.2.1 + 11) + 40 * d ≤ R.locals) (hcs : cs.1 + mc ≤ R.cells ∧ cs.2 + ms ≤ R.slots)
    (kk : ∀ (v : Option Value) (n' : Nat) (M' : qM), Q' v n' M' → qT g K R Z (pc + 3) L (v.toList ++ st) n' M' (cs.1 + mc, cs.2 + ms)) : qT g K R Z pc L (As.reverse ++ st) n M cs := by
  intro p e s m args below meth c0 H locs ls C hH hS hl
  have hts := C.2.2.2.2.1
  have hK := C.2.2.2.2.2.2.2.2.1
  have hX := C.2.2.2.2.2.2.2.2.2
  obtain ⟨hh, hl1, hl2⟩ := hlk
  refine q_ret (st0 := (As.reverse ++ st).map (qv g)) (a := (As.map (qv g)).toArray) (va_runSN (As := As.map (qv g)) (rest := st.map (qv g)) (Ts := qgood) (own := K.1.cls) ⟨C.1, C.2.1, C.2.2.1, C.2.2.2.1, hts⟩ hm (n := k) (bytes := K'.2.1) (maxL := K'.2.2.1) (ret := K'.2.2.2) ⟨q_callN hts hok (hX.1.1 _ hl1) hR, hts _ hl2, trivial⟩ ⟨qblind g n M _, fun U hU hW => ⟨rfl, q_pre hH hK hX hS hU hW⟩⟩ rfl (by rw [List.length_map]; exact hk) hl.1 (by simp [List.map_reverse]) (q_rm (H := H) hst) hd hcs) C hS hl kk
theorem q_I {b : Nat} (hlk : qLI K.1.cls idx K') (hok : qok K' k) (hd : decode K.2.1 pc = .ok (.invokespecial idx, 3)) (hm : qCon g d K' (.ref b :: As) n M mc ms Q') (hk : As.length = k) (hst : (st.map fun v => v.category).sum ≤ 8) (hR : d + 1 ≤ R.frames ∧ 8 + (K'.2.2.1 + 11) + 40 * d ≤ R.locals) (hcs : cs.1 + mc ≤ R.cells ∧ cs.2 + ms ≤ R.slots)
    (kk : ∀ (v : Option Value) (n' : Nat) (M' : qM), Q' v n' M' → qT g K R Z (pc + 3) L (v.toList ++ st) n' M' (cs.1 + mc, cs.2 + ms)) : qT g K R Z pc L (As.reverse ++ .ref b :: st) n M cs := by
  intro p e s m args below meth c0 H locs ls C hH hS hl
  have hts := C.2.2.2.2.1
  have hK := C.2.2.2.2.2.2.2.2.1
  have hX := C.2.2.2.2.2.2.2.2.2
  have hcb := q_callB (R := R) (mc := mc) (ms := ms) (d := d) hts hok hlk.1 hR
  rw [hlk.2.2.2] at hcb
  refine q_ret (st0 := (As.reverse ++ .ref b :: st).map (qv g)) (a := (Value.ref (qad g b) :: As.map (qv g)).toArray) (va_runI (As := As.map (qv g)) (rest := st.map (qv g)) (Ts := qgood) (own := K.1.cls) ⟨C.1, C.2.1, C.2.2.1, C.2.2.2.1, hts⟩ hm (n := k) (bytes := K'.2.1) (maxL := K'.2.2.1) ⟨hcb, hlk.2.2.1, hts _ hlk.2.1⟩ ⟨qblind g n M _, fun U hU hW => ⟨rfl, q_pre hH hK hX hS hU hW⟩⟩ rfl (by rw [List.length_map]; exact hk) hl.1 (by simp [List.map_reverse, qv]) (q_rm (H := H) hst) hd hcs) C hS hl kk
theorem q_IN {b : Nat} (hlk : qLIN K.1.cls idx K') (hok : qok K' k) (hd : decode K.2.1 pc = .ok (.invokespecial idx, 3)) (hm : qCon g d K' (.ref b :: As) n M mc ms Q') (hk : As.length = k) (hst : (st.map fun v => v.category).sum ≤ 8) (hR : d + 1 ≤ R.frames ∧ 8 + (K'.2.2.1 + 11) + 40 * d ≤ R.locals) (hcs : cs.1 + mc ≤ R.cells ∧ cs.2 + ms ≤ R.slots)
    (kk : ∀ (v : Option Value) (n' : Nat) (M' : qM), Q' v n' M' → qT g K R Z (pc + 3) L (v.toList ++ st) n' M' (cs.1 + mc, cs.2 + ms)) : qT g K R Z pc L (As.reverse ++ .ref b :: st) n M cs := by
  intro p e s m args below meth c0 H locs ls C hH hS hl
  have hts := C.2.2.2.2.1
  have hK := C.2.2.2.2.2.2.2.2.1
  have hX := C.2.2.2.2.2.2.2.2.2
  obtain ⟨hh, hl1, hl2, hl3, hl4⟩ := hlk
  have hcb := q_callN (R := R) (mc := mc) (ms := ms) (d := d) hts hok (hX.1.1 _ hl1) hR
  rw [hl4] at hcb
  refine q_ret (st0 := (As.reverse ++ .ref b :: st).map (qv g)) (a := (Value.ref (qad g b) :: As.map (qv g)).toArray) (va_runIN (As := As.map (qv g)) (rest := st.map (qv g)) (Ts := qgood) (own := K.1.cls) ⟨C.1, C.2.1, C.2.2.1, C.2.2.2.1, hts⟩ hm (n := k) (bytes := K'.2.1) (maxL := K'.2.2.1) ⟨hcb, hl3, hts _ hl2⟩ ⟨qblind g n M _, fun U hU hW => ⟨rfl, q_pre hH hK hX hS hU hW⟩⟩ rfl (by rw [List.length_map]; exact hk) hl.1 (by simp [List.map_reverse, qv]) (q_rm (H := H) hst) hd hcs) C hS hl kk
theorem qi_callVI {b c : Nat} {Q : Int32 → qM → Prop} (hlk : qLV K.1.cls idx K') (hok : qok K' k) (hd : decode K.2.1 pc = .ok (.invokevirtual idx, 3)) (hm : qI g d K' (.ref b :: As) M Q) (hb : qsh b = (c, 0)) (hc : c < 40) (hbc : (q_cl[c]?).map (fun q => q.1) = some K'.1.cls) (hbn : b < 333) (hstk : stk = As.reverse ++ .ref b :: st) (hk : As.length = k) (hst : (st.map fun v => v.category).sum ≤ 8) (hR : d + 1 ≤ R.frames ∧ 8 + (K'.2.2.1 + 11) + 40 * d ≤ R.locals) (hcs : cs.1 ≤ R.cells ∧ cs.2 ≤ R.slots) (kk : ∀ (r : Int32) (M' : qM), Q r M' → qT g K R Z (pc + 3) L (.int r :: st) 333 M' cs) : qT g K R Z pc L stk 333 M cs := by
  subst hstk
  refine q_V hlk hok hd hm hb hc hbc hbn hk hst hR hcs (fun v n' M' hq => ?_)
  obtain ⟨rfl, r, rfl, hq⟩ := hq
  exact kk r M' hq
theorem qi_callVJ {b c : Nat} {Q : Int64 → qM → Prop} (hlk : qLV K.1.cls idx K') (hok : qok K' k) (hd : decode K.2.1 pc = .ok (.invokevirtual idx, 3)) (hm : qJ g d K' (.ref b :: As) M Q) (hb : qsh b = (c, 0)) (hc : c < 40) (hbc : (q_cl[c]?).map (fun q => q.1) = some K'.1.cls) (hbn : b < 333) (hstk : stk = As.reverse ++ .ref b :: st) (hk : As.length = k) (hst : (st.map fun v => v.category).sum ≤ 8) (hR : d + 1 ≤ R.frames ∧ 8 + (K'.2.2.1 + 11) + 40 * d ≤ R.locals) (hcs : cs.1 ≤ R.cells ∧ cs.2 ≤ R.slots) (kk : ∀ (r : Int64) (M' : qM), Q r M' → qT g K R Z (pc + 3) L (.long r :: st) 333 M' cs) : qT g K R Z pc L stk 333 M cs := by
  subst hstk
  refine q_V hlk hok hd hm hb hc hbc hbn hk hst hR hcs (fun v n' M' hq => ?_)
  obtain ⟨rfl, r, rfl, hq⟩ := hq
  exact kk r M' hq
theorem qi_callVV {b c : Nat} {Q : qM → Prop} (hlk : qLV K.1.cls idx K') (hok : qok K' k) (hd : decode K.2.1 pc = .ok (.invokevirtual idx, 3)) (hm : qV g d K' (.ref b :: As) M Q) (hb : qsh b = (c, 0)) (hc : c < 40) (hbc : (q_cl[c]?).map (fun q => q.1) = some K'.1.cls) (hbn : b < 333) (hstk : stk = As.reverse ++ .ref b :: st) (hk : As.length = k) (hst : (st.map fun v => v.category).sum ≤ 8) (hR : d + 1 ≤ R.frames ∧ 8 + (K'.2.2.1 + 11) + 40 * d ≤ R.locals) (hcs : cs.1 ≤ R.cells ∧ cs.2 ≤ R.slots) (kk : ∀ (M' : qM), Q M' → qT g K R Z (pc + 3) L (st) 333 M' cs) : qT g K R Z pc L stk 333 M cs := by
  subst hstk
  refine q_V hlk hok hd hm hb hc hbc hbn hk hst hR hcs (fun v n' M' hq => ?_)
  obtain ⟨rfl, rfl, hq⟩ := hq
  exact kk M' hq
theorem qi_callSI {Q : Int32 → qM → Prop} (hlk : qLS K.1.cls idx K') (hok : qok K' k) (hd : decode K.2.1 pc = .ok (.invokestatic idx, 3)) (hm : qI g d K' As M Q) (hstk : stk = As.reverse ++ st) (hk : As.length = k) (hst : (st.map fun v => v.category).sum ≤ 8) (hR : d + 1 ≤ R.frames ∧ 8 + (K'.2.2.1 + 11) + 40 * d ≤ R.locals) (hcs : cs.1 ≤ R.cells ∧ cs.2 ≤ R.slots) (kk : ∀ (r : Int32) (M' : qM), Q r M' → qT g K R Z (pc + 3) L (.int r :: st) 333 M' cs) : qT g K R Z pc L stk 333 M cs := by
  subst hstk
  refine q_S hlk hok hd hm hk hst hR hcs (fun v n' M' hq => ?_)
  obtain ⟨rfl, r, rfl, hq⟩ := hq
  exact kk r M' hq
theorem qi_callSJ {Q : Int64 → qM → Prop} (hlk : qLS K.1.cls idx K') (hok : qok K' k) (hd : decode K.2.1 pc = .ok (.invokestatic idx, 3)) (hm : qJ g d K' As M Q) (hstk : stk = As.reverse ++ st) (hk : As.length = k) (hst : (st.map fun v => v.category).sum ≤ 8) (hR : d + 1 ≤ R.frames ∧ 8 + (K'.2.2.1 + 11) + 40 * d ≤ R.locals) (hcs : cs.1 ≤ R.cells ∧ cs.2 ≤ R.slots) (kk : ∀ (r : Int64) (M' : qM), Q r M' → qT g K R Z (pc + 3) L (.long r :: st) 333 M' cs) : qT g K R Z pc L stk 333 M cs := by
  subst hstk
  refine q_S hlk hok hd hm hk hst hR hcs (fun v n' M' hq => ?_)
  obtain ⟨rfl, r, rfl, hq⟩ := hq
  exact kk r M' hq
theorem qi_callSV {Q : qM → Prop} (hlk : qLS K.1.cls idx K') (hok : qok K' k) (hd : decode K.2.1 pc = .ok (.invokestatic idx, 3)) (hm : qV g d K' As M Q) (hstk : stk = As.reverse ++ st) (hk : As.length = k) (hst : (st.map fun v => v.category).sum ≤ 8) (hR : d + 1 ≤ R.frames ∧ 8 + (K'.2.2.1 + 11) + 40 * d ≤ R.locals) (hcs : cs.1 ≤ R.cells ∧ cs.2 ≤ R.slots) (kk : ∀ (M' : qM), Q M' → qT g K R Z (pc + 3) L (st) 333 M' cs) : qT g K R Z pc L stk 333 M cs := by
  subst hstk
  refine q_S hlk hok hd hm hk hst hR hcs (fun v n' M' hq => ?_)
  obtain ⟨rfl, rfl, hq⟩ := hq
  exact kk M' hq
theorem qi_callSNI {Q : Int32 → qM → Prop} (hlk : qLSN K.1.cls idx K') (hok : qok K' k) (hd : decode K.2.1 pc = .ok (.invokestatic idx, 3)) (hm : qI g d K' As M Q) (hstk : stk = As.reverse ++ st) (hk : As.length = k) (hst : (st.map fun v => v.category).sum ≤ 8) (hR : d + 1 ≤ R.frames ∧ 8 + (K'.2.2.1 + 11) + 40 * d ≤ R.locals) (hcs : cs.1 ≤ R.cells ∧ cs.2 ≤ R.slots) (kk : ∀ (r : Int32) (M' : qM), Q r M' → qT g K R Z (pc + 3) L (.int r :: st) 333 M' cs) : qT g K R Z pc L stk 333 M cs := by
  subst hstk
  refine q_SN hlk hok hd hm hk hst hR hcs (fun v n' M' hq => ?_)
  obtain ⟨rfl, r, rfl, hq⟩ := hq
  exact kk r M' hq
theorem qi_callSNJ {Q : Int64 → qM → Prop} (hlk : qLSN K.1.cls idx K') (hok : qok K' k) (hd : decode K.2.1 pc = .ok (.invokestatic idx, 3)) (hm : qJ g d K' As M Q) (hstk : stk = As.reverse ++ st) (hk : As.length = k) (hst : (st.map fun v => v.category).sum ≤ 8) (hR : d + 1 ≤ R.frames ∧ 8 + (K'.2.2.1 + 11) + 40 * d ≤ R.locals) (hcs : cs.1 ≤ R.cells ∧ cs.2 ≤ R.slots) (kk : ∀ (r : Int64) (M' : qM), Q r M' → qT g K R Z (pc + 3) L (.long r :: st) 333 M' cs) : qT g K R Z pc L stk 333 M cs := by
  subst hstk
  refine q_SN hlk hok hd hm hk hst hR hcs (fun v n' M' hq => ?_)
  obtain ⟨rfl, r, rfl, hq⟩ := hq
  exact kk r M' hq
theorem qi_callSNV {Q : qM → Prop} (hlk : qLSN K.1.cls idx K') (hok : qok K' k) (hd : decode K.2.1 pc = .ok (.invokestatic idx, 3)) (hm : qV g d K' As M Q) (hstk : stk = As.reverse ++ st) (hk : As.length = k) (hst : (st.map fun v => v.category).sum ≤ 8) (hR : d + 1 ≤ R.frames ∧ 8 + (K'.2.2.1 + 11) + 40 * d ≤ R.locals) (hcs : cs.1 ≤ R.cells ∧ cs.2 ≤ R.slots) (kk : ∀ (M' : qM), Q M' → qT g K R Z (pc + 3) L (st) 333 M' cs) : qT g K R Z pc L stk 333 M cs := by
  subst hstk
  refine q_SN hlk hok hd hm hk hst hR hcs (fun v n' M' hq => ?_)
  obtain ⟨rfl, rfl, hq⟩ := hq
  exact kk M' hq
theorem qi_callI {b n2 : Nat} {Q : qM → Prop} (hlk : qLI K.1.cls idx K') (hok : qok K' k) (hd : decode K.2.1 pc = .ok (.invokespecial idx, 3)) (hm : qN g d K' (.ref b :: As) n M mc ms n2 Q) (hstk : stk = As.reverse ++ .ref b :: st) (hk : As.length = k) (hst : (st.map fun v => v.category).sum ≤ 8) (hR : d + 1 ≤ R.frames ∧ 8 + (K'.2.2.1 + 11) + 40 * d ≤ R.locals) (hcs : cs.1 + mc ≤ R.cells ∧ cs.2 + ms ≤ R.slots) (kk : ∀ (M' : qM), Q M' → qT g K R Z (pc + 3) L st n2 M' (cs.1 + mc, cs.2 + ms)) : qT g K R Z pc L stk n M cs := by
  subst hstk
  refine q_I hlk hok hd hm hk hst hR hcs (fun v n' M' hq => ?_)
  obtain ⟨rfl, rfl, hq⟩ := hq
  exact kk M' hq
theorem qi_callIN {b n2 : Nat} {Q : qM → Prop} (hlk : qLIN K.1.cls idx K') (hok : qok K' k) (hd : decode K.2.1 pc = .ok (.invokespecial idx, 3)) (hm : qN g d K' (.ref b :: As) n M mc ms n2 Q) (hstk : stk = As.reverse ++ .ref b :: st) (hk : As.length = k) (hst : (st.map fun v => v.category).sum ≤ 8) (hR : d + 1 ≤ R.frames ∧ 8 + (K'.2.2.1 + 11) + 40 * d ≤ R.locals) (hcs : cs.1 + mc ≤ R.cells ∧ cs.2 + ms ≤ R.slots) (kk : ∀ (M' : qM), Q M' → qT g K R Z (pc + 3) L st n2 M' (cs.1 + mc, cs.2 + ms)) : qT g K R Z pc L stk n M cs := by
  subst hstk
  refine q_IN hlk hok hd hm hk hst hR hcs (fun v n' M' hq => ?_)
  obtain ⟨rfl, rfl, hq⟩ := hq
  exact kk M' hq
/-- Object.<init> -/
theorem qi_objInit {a : Nat} (hlk : Cond.methodLink K.1.cls idx Lib.objectInit ∈ qgood) (h1 : Cond.instanceMethod Lib.objectInit ∈ qgood) (h2 : Cond.code Lib.objectInit ⟨#[0xb1]⟩ 1 none ∈ qgood) (hd : decode K.2.1 pc = .ok (.invokespecial idx, 3)) (hst : (st.map fun v => v.category).sum ≤ 8) (hR : 1 ≤ R.frames ∧ 20 ≤ R.locals) (kk : qT g K R Z (pc + 3) L st n M cs) : qT g K R Z pc L (.ref a :: st) n M cs := by
  intro p e s m args below meth c0 H locs ls C hH hS hl
  have hts := C.2.2.2.2.1
  exact W.objInit C.1 C.2.1 C.2.2.2.1 (hts _ hlk) (hts _ h1) (hts _ h2) rfl (by rw [C.2.2.1]; exact hl.1) rfl hd hR.1 (by have := q_rm (g := g) (pc := pc) (H := H) (m := m) (ls := ls) (st0 := Value.ref (qad g a) :: st.map (qv g)) hst; exact Nat.le_trans (Nat.add_le_add_right this 12) hR.2) (kk p e s m args below meth c0 H locs ls C hH hS hl)
/-- Math -/
theorem qi_min {x y : Int32} (hlk : Cond.methodLink K.1.cls idx Lib.Math.min.name ∈ qgood) (h1 : Cond.static Lib.Math.min.name ∈ qgood) (h2 : Cond.initialized "java/lang/Math" ∈ qgood) (h3 : Cond.code Lib.Math.min.name Lib.Math.min.code 2 (some .int) ∈ qgood) (hd : decode K.2.1 pc = .ok (.invokestatic idx, 3)) (hst : (st.map fun v => v.category).sum ≤ 8) (hR : 1 ≤ R.frames ∧ 40 ≤ R.locals) (hcs : cs.1 ≤ R.cells ∧ cs.2 ≤ R.slots) (kk : qT g K R Z (pc + 3) L (.int (if y < x then y else x) :: st) n M cs) : qT g K R Z pc L (.int y :: .int x :: st) n M cs := by
  intro p e s m args below meth c0 H locs ls C hH hS hl
  have hts := C.2.2.2.2.1
  exact va_mmin C.1 C.2.1 (C.2.2.1.trans hl.1.symm) C.2.2.2.1 (hts _ hlk) (hts _ h1) (hts _ h2) (hts _ h3) hR.1 (by rw [q_catsum]; omega) hcs.1 hcs.2 hd (kk p e s m args below meth c0 H locs ls C hH hS hl)
theorem qi_max {x y : Int32} (hlk : Cond.methodLink K.1.cls idx Lib.Math.max.name ∈ qgood) (h1 : Cond.static Lib.Math.max.name ∈ qgood) (h2 : Cond.initialized "java/lang/Math" ∈ qgood) (h3 : Cond.code Lib.Math.max.name Lib.Math.max.code 2 (some .int) ∈ qgood) (hd : decode K.2.1 pc = .ok (.invokestatic idx, 3)) (hst : (st.map fun v => v.category).sum ≤ 8) (hR : 1 ≤ R.frames ∧ 40 ≤ R.locals) (hcs : cs.1 ≤ R.cells ∧ cs.2 ≤ R.slots) (kk : qT g K R Z (pc + 3) L (.int (if x < y then y else x) :: st) n M cs) : qT g K R Z pc L (.int y :: .int x :: st) n M cs := by
  intro p e s m args below meth c0 H locs ls C hH hS hl
  have hts := C.2.2.2.2.1
  exact va_mmax C.1 C.2.1 (C.2.2.1.trans hl.1.symm) C.2.2.2.1 (hts _ hlk) (hts _ h1) (hts _ h2) (hts _ h3) hR.1 (by rw [q_catsum]; omega) hcs.1 hcs.2 hd (kk p e s m args below meth c0 H locs ls C hH hS hl)
theorem qi_minJ {x y : Int64} (hlk : Cond.methodLink K.1.cls idx Lib.MathLoose.min_long.x ∈ qgood) (h1 : Cond.static Lib.MathLoose.min_long.x ∈ qgood) (h2 : Cond.initialized "java/lang/Math" ∈ qgood) (h3 : Cond.code Lib.MathLoose.min_long.x Lib.MathLoose.min_long.code 4 (some .long) ∈ qgood) (hd : decode K.2.1 pc = .ok (.invokestatic idx, 3)) (hst : (st.map fun v => v.category).sum ≤ 8) (hR : 1 ≤ R.frames ∧ 40 ≤ R.locals) (hcs : cs.1 ≤ R.cells ∧ cs.2 ≤ R.slots) (kk : qT g K R Z (pc + 3) L (.long (if y < x then y else x) :: st) n M cs) : qT g K R Z pc L (.long y :: .long x :: st) n M cs := by
  intro p e s m args below meth c0 H locs ls C hH hS hl
  have hts := C.2.2.2.2.1
  exact va_mmin_long C.1 C.2.1 (C.2.2.1.trans hl.1.symm) C.2.2.2.1 (hts _ hlk) (hts _ h1) (hts _ h2) (hts _ h3) hR.1 (by rw [q_catsum]; omega) hcs.1 hcs.2 hd (kk p e s m args below meth c0 H locs ls C hH hS hl)
theorem qi_maxJ {x y : Int64} (hlk : Cond.methodLink K.1.cls idx Lib.MathLoose.max_long.x ∈ qgood) (h1 : Cond.static Lib.MathLoose.max_long.x ∈ qgood) (h2 : Cond.initialized "java/lang/Math" ∈ qgood) (h3 : Cond.code Lib.MathLoose.max_long.x Lib.MathLoose.max_long.code 4 (some .long) ∈ qgood) (hd : decode K.2.1 pc = .ok (.invokestatic idx, 3)) (hst : (st.map fun v => v.category).sum ≤ 8) (hR : 1 ≤ R.frames ∧ 40 ≤ R.locals) (hcs : cs.1 ≤ R.cells ∧ cs.2 ≤ R.slots) (kk : qT g K R Z (pc + 3) L (.long (if y < x then x else y) :: st) n M cs) : qT g K R Z pc L (.long y :: .long x :: st) n M cs := by
  intro p e s m args below meth c0 H locs ls C hH hS hl
  have hts := C.2.2.2.2.1
  exact va_mmax_long C.1 C.2.1 (C.2.2.1.trans hl.1.symm) C.2.2.2.1 (hts _ hlk) (hts _ h1) (hts _ h2) (hts _ h3) hR.1 (by rw [q_catsum]; omega) hcs.1 hcs.2 hd (kk p e s m args below meth c0 H locs ls C hH hS hl)
/-- ends -/
theorem qi_ireturn {Q : Option Value → Nat → qM → Prop} {x : Int32} {ty : FieldType} (hr : K.2.2.2 = some ty) (hn : narrow ty (.int x) = .int x) (hd : decode K.2.1 pc = .ok (.ireturn, 1)) (hcs : cs.1 ≤ mc ∧ cs.2 ≤ ms) (hQ : Q (some (.int x)) n M) : qT g K R (qZ g Q mc ms) pc L [.int x] n M cs := by
  intro p e s m args below meth c0 H locs ls C hH hS hl
  refine W.widen hcs.1 hcs.2 ?_
  exact W.zret C.1 C.2.1 (C.2.2.2.2.2.1.trans hr) hn (fun t ht hW => ⟨⟨_, n, M, rfl, hQ, by rw [ht]; exact hH⟩, hS.F ht⟩) hS.2.2 hd C.2.2.2.2.2.2.1
theorem qi_lreturn {Q : Option Value → Nat → qM → Prop} {x : Int64} (hr : K.2.2.2 = some .long) (hd : decode K.2.1 pc = .ok (.lreturn, 1)) (hcs : cs.1 ≤ mc ∧ cs.2 ≤ ms) (hQ : Q (some (.long x)) n M) : qT g K R (qZ g Q mc ms) pc L [.long x] n M cs := by
  intro p e s m args below meth c0 H locs ls C hH hS hl
  refine W.widen hcs.1 hcs.2 ?_
  exact W.lret C.1 C.2.1 (C.2.2.2.2.2.1.trans hr) (fun t ht hW => ⟨⟨_, n, M, rfl, hQ, by rw [ht]; exact hH⟩, hS.F ht⟩) hS.2.2 hd C.2.2.2.2.2.2.1
theorem qi_return {Q : Option Value → Nat → qM → Prop} (hr : K.2.2.2 = none) (hd : decode K.2.1 pc = .ok (.return_, 1)) (hcs : cs.1 ≤ mc ∧ cs.2 ≤ ms) (hQ : Q none n M) : qT g K R (qZ g Q mc ms) pc L [] n M cs := by
  intro p e s m args below meth c0 H locs ls C hH hS hl
  refine W.widen hcs.1 hcs.2 ?_
  exact W.vret C.1 C.2.1 (C.2.2.2.2.2.1.trans hr) (fun t ht hW => ⟨⟨none, n, M, rfl, hQ, by rw [ht]; exact hH⟩, hS.F ht⟩) hS.2.2 hd C.2.2.2.2.2.2.1
theorem qi_retI {Q : Int32 → qM → Prop} {x : Int32} {ty : FieldType} (hr : K.2.2.2 = some ty) (hn : narrow ty (.int x) = .int x) (hd : decode K.2.1 pc = .ok (.ireturn, 1)) (hQ : Q x M) : qT g K R (qZ g (fun v n' M' => n' = 333 ∧ ∃ r : Int32, v = some (.int r) ∧ Q r M') 0 0) pc L [.int x] 333 M (0, 0) :=
  qi_ireturn hr hn hd ⟨Nat.le_refl _, Nat.le_refl _⟩ ⟨rfl, x, rfl, hQ⟩
theorem qi_retJ {Q : Int64 → qM → Prop} {x : Int64} (hr : K.2.2.2 = some .long) (hd : decode K.2.1 pc = .ok (.lreturn, 1)) (hQ : Q x M) : qT g K R (qZ g (fun v n' M' => n' = 333 ∧ ∃ r : Int64, v = some (.long r) ∧ Q r M') 0 0) pc L [.long x] 333 M (0, 0) :=
  qi_lreturn hr hd ⟨Nat.le_refl _, Nat.le_refl _⟩ ⟨rfl, x, rfl, hQ⟩
theorem qi_retV {Q : qM → Prop} (hr : K.2.2.2 = none) (hd : decode K.2.1 pc = .ok (.return_, 1)) (hQ : Q M) : qT g K R (qZ g (fun v n' M' => n' = 333 ∧ v = none ∧ Q M') 0 0) pc L [] 333 M (0, 0) :=
  qi_return hr hd ⟨Nat.le_refl _, Nat.le_refl _⟩ ⟨rfl, rfl, hQ⟩
theorem qI.of {As : List Value} {Q : Int32 → qM → Prop} (hy : plainName K.1.cls = true) {j : Nat} (hj : (qargs As).length + j = K.2.2.1) (h : qT g K (qR d 0 0) (qZ g (fun v n' M' => n' = 333 ∧ ∃ r : Int32, v = some (.int r) ∧ Q r M') 0 0) 0 (qargs As ++ List.replicate j none) [] 333 M (0, 0)) : qI g d K As M Q := qCon.of hy hj h
theorem qJ.of {As : List Value} {Q : Int64 → qM → Prop} (hy : plainName K.1.cls = true) {j : Nat} (hj : (qargs As).length + j = K.2.2.1) (h : qT g K (qR d 0 0) (qZ g (fun v n' M' => n' = 333 ∧ ∃ r : Int64, v = some (.long r) ∧ Q r M') 0 0) 0 (qargs As ++ List.replicate j none) [] 333 M (0, 0)) : qJ g d K As M Q := qCon.of hy hj h
theorem qV.of {As : List Value} {Q : qM → Prop} (hy : plainName K.1.cls = true) {j : Nat} (hj : (qargs As).length + j = K.2.2.1) (h : qT g K (qR d 0 0) (qZ g (fun v n' M' => n' = 333 ∧ v = none ∧ Q M') 0 0) 0 (qargs As ++ List.replicate j none) [] 333 M (0, 0)) : qV g d K As M Q := qCon.of hy hj h
theorem qN.of {As : List Value} {n2 : Nat} {Q : qM → Prop} (hy : plainName K.1.cls = true) {j : Nat} (hj : (qargs As).length + j = K.2.2.1) (h : qT g K (qR d mc ms) (qZ g (fun v n' M' => n' = n2 ∧ v = none ∧ Q M') mc ms) 0 (qargs As ++ List.replicate j none) [] n M (0, 0)) : qN g d K As n M mc ms n2 Q := qCon.of hy hj h
theorem qi_retN {n2 : Nat} {Q : qM → Prop} (hr : K.2.2.2 = none) (hd : decode K.2.1 pc = .ok (.return_, 1)) (hcs : cs.1 ≤ mc ∧ cs.2 ≤ ms) (hQ : Q M) : qT g K R (qZ g (fun v n' M' => n' = n2 ∧ v = none ∧ Q M') mc ms) pc L [] n2 M cs :=
  qi_return hr hd hcs ⟨rfl, rfl, hQ⟩
end Calls
