/-! arrays: writes; what is made; copies -/
section Mem2
variable {g : qG} {K : qKt} {R : Room} {Z : List Frame → Array Value → State → State → Prop} {pc n : Nat} {L : List (Option Value)} {st : List Value} {M : qM} {cs : Nat × Nat} {a : Nat}
theorem q_updI {M : qM} {a k : Nat} {x : Int32} {cA : ClassId} {len : Nat} : arrV cA len (fun j => .int ((wI M a k x).1 a j)) = arrV cA len (updV (fun j => .int (M.1 a j)) k (.int x)) := by
  congr 1
  funext j
  by_cases h : j = k <;> simp [wI, updV, h]
theorem q_updJ {M : qM} {a k : Nat} {x : Int64} {cA : ClassId} {len : Nat} : arrV cA len (fun j => .long ((wJ M a k x).2.1 a j)) = arrV cA len (updV (fun j => .long (M.2.1 a j)) k (.long x)) := by
  congr 1
  funext j
  by_cases h : j = k <;> simp [wJ, updV, h]
theorem qi_iast {len : Nat} {i x : Int32} (hd : decode K.2.1 pc = .ok (.iastore, 1)) (hs : qsh a = (40, len)) (ha : a < n) (hin : vp_in i len) (kk : qT g K R Z (pc + 1) L st n (wI M a i.toNatClampNeg x) cs) : qT g K R Z pc L (.int x :: .int i :: .ref a :: st) n M cs := by
  intro p e s m args below meth c0 H locs ls C hH hS hl
  show W _ _ _ _ _ _ _ _ _ _ _ _ _ _ _ (F0 m pc ls (.int x :: .int i :: .ref (qad g a) :: st.map (qv g)))
  rw [hH.ad ha]
  have hc := hH.2.2 a ha
  rw [qel_i hs] at hc
  refine W.iast C.1 C.2.1 (cell := vp_cell (qcA g 0) (len, .inl (M.1 a))) hc ((C.2.2.2.2.2.2.2.2.1.2 0 _ rfl).1 len (fun j => .int (M.1 a j))) (fun q => by cases q) (by show ¬ (i < 0 ∨ (arrV _ _ _).slots.size ≤ _); rw [arrV_size]; exact hin) rfl rfl hd fun H1 e1 z oq => ?_
  refine kk p e s m args below meth c0 H1 _ ls C (hH.put (a := a) ?_ z oq (fun j hj => qel_wI hj)) (hS.put z oq (Nat.le_add_right _ _)) hl
  rw [qel_i hs]
  show H1[qB g + a]? = some (vp_cell _ _)
  rw [e1, vp_cell_i, vp_cell_i, arrV_store, q_updI]
theorem qi_last {len : Nat} {i : Int32} {x : Int64} (hd : decode K.2.1 pc = .ok (.lastore, 1)) (hs : qsh a = (41, len)) (ha : a < n) (hin : vp_in i len) (kk : qT g K R Z (pc + 1) L st n (wJ M a i.toNatClampNeg x) cs) : qT g K R Z pc L (.long x :: .int i :: .ref a :: st) n M cs := by
  intro p e s m args below meth c0 H locs ls C hH hS hl
  show W _ _ _ _ _ _ _ _ _ _ _ _ _ _ _ (F0 m pc ls (.long x :: .int i :: .ref (qad g a) :: st.map (qv g)))
  rw [hH.ad ha]
  have hc := hH.2.2 a ha
  rw [qel_j hs] at hc
  refine W.last C.1 C.2.1 (cell := vp_cell (qcA g 1) (len, .inr (.inl (M.2.1 a)))) hc ((C.2.2.2.2.2.2.2.2.1.2 1 _ rfl).1 len (fun j => .long (M.2.1 a j))) (fun q => by cases q) (by show ¬ (i < 0 ∨ (arrV _ _ _).slots.size ≤ _); rw [arrV_size]; exact hin) rfl rfl hd fun H1 e1 z oq => ?_
  refine kk p e s m args below meth c0 H1 _ ls C (hH.put (a := a) ?_ z oq (fun j hj => qel_wJ hj)) (hS.put z oq (Nat.le_add_right _ _)) hl
  rw [qel_j hs]
  show H1[qB g + a]? = some (vp_cell _ _)
  rw [e1, vp_cell_l, vp_cell_l, arrV_store, q_updJ]
theorem qi_bast {len : Nat} {i x : Int32} (hd : decode K.2.1 pc = .ok (.bastore, 1)) (hs : qsh a = (42, len)) (ha : a < n) (hin : vp_in i len) (hx : narrow .byte (.int x) = .int x) (kk : qT g K R Z (pc + 1) L st n (wI M a i.toNatClampNeg x) cs) : qT g K R Z pc L (.int x :: .int i :: .ref a :: st) n M cs := by
  intro p e s m args below meth c0 H locs ls C hH hS hl
  show W _ _ _ _ _ _ _ _ _ _ _ _ _ _ _ (F0 m pc ls (.int x :: .int i :: .ref (qad g a) :: st.map (qv g)))
  rw [hH.ad ha]
  have hc := hH.2.2 a ha
  rw [qel_b hs] at hc
  refine W.bast C.1 C.2.1 (cell := vp_cell (qcA g 2) (len, .inl (M.1 a))) hc ((C.2.2.2.2.2.2.2.2.1.2 2 _ rfl).1 len (fun j => .int (M.1 a j))) (fun q => by cases q) (by show ¬ (i < 0 ∨ (arrV _ _ _).slots.size ≤ _); rw [arrV_size]; exact hin) rfl rfl hd fun H1 e1 z oq => ?_
  refine kk p e s m args below meth c0 H1 _ ls C (hH.put (a := a) ?_ z oq (fun j hj => qel_wI hj)) (hS.put z oq (Nat.le_add_right _ _)) hl
  rw [qel_b hs]
  show H1[qB g + a]? = some (vp_cell _ _)
  rw [e1, hx, vp_cell_i, vp_cell_i, arrV_store, q_updI]
theorem qi_zast {len : Nat} {i x : Int32} (hd : decode K.2.1 pc = .ok (.bastore, 1)) (hs : qsh a = (43, len)) (ha : a < n) (hin : vp_in i len) (hx : narrow .boolean (.int x) = .int x) (kk : qT g K R Z (pc + 1) L st n (wI M a i.toNatClampNeg x) cs) : qT g K R Z pc L (.int x :: .int i :: .ref a :: st) n M cs := by
  intro p e s m args below meth c0 H locs ls C hH hS hl
  show W _ _ _ _ _ _ _ _ _ _ _ _ _ _ _ (F0 m pc ls (.int x :: .int i :: .ref (qad g a) :: st.map (qv g)))
  rw [hH.ad ha]
  have hc := hH.2.2 a ha
  rw [qel_z hs] at hc
  refine W.zast C.1 C.2.1 (cell := vp_cell (qcA g 3) (len, .inl (M.1 a))) hc ((C.2.2.2.2.2.2.2.2.1.2 3 _ rfl).1 len (fun j => .int (M.1 a j))) (fun q => by cases q) (by show ¬ (i < 0 ∨ (arrV _ _ _).slots.size ≤ _); rw [arrV_size]; exact hin) rfl rfl hd fun H1 e1 z oq => ?_
  refine kk p e s m args below meth c0 H1 _ ls C (hH.put (a := a) ?_ z oq (fun j hj => qel_wI hj)) (hS.put z oq (Nat.le_add_right _ _)) hl
  rw [qel_z hs]
  show H1[qB g + a]? = some (vp_cell _ _)
  rw [e1, hx, vp_cell_i, vp_cell_i, arrV_store, q_updI]
/-- a reference to an object of class RX6 into an array -/
theorem qi_aast {len x : Nat} {i : Int32} (hd : decode K.2.1 pc = .ok (.aastore, 1)) (hs : qsh a = (44, len)) (ha : a < n) (hin : vp_in i len) (hsx : qsh x = (6, 0)) (hx : x < n) (kk : qT g K R Z (pc + 1) L st n (wR M a i.toNatClampNeg (some x)) cs) : qT g K R Z pc L (.ref x :: .int i :: .ref a :: st) n M cs := by
  intro p e s m args below meth c0 H locs ls C hH hS hl
  show W _ _ _ _ _ _ _ _ _ _ _ _ _ _ _ (F0 m pc ls (.ref (qad g x) :: .int i :: .ref (qad g a) :: st.map (qv g)))
  rw [hH.ad ha, hH.ad hx]
  have hc := hH.2.2 a ha
  rw [qel_r hs] at hc
  have hlt : i.toNatClampNeg < len := Nat.not_le.mp fun q => hin (Or.inr q)
  have h0 : ¬ i < 0 := fun q => hin (Or.inl q)
  have hv := hH.2.2 x hx
  rw [qel_o hsx (by decide)] at hv
  obtain ⟨r', hr', cellV, g1, g2, g3, -⟩ := hv
  have hr'' : r' = (RX6, TX6, 8) := Option.some.inj (hr'.symm.trans rfl)
  subst hr''
  have hK := C.2.2.2.2.2.2.2.2.1
  have hcls := (hK.1 6 (RX6, TX6, 8) rfl).2
  obtain ⟨kA, comp, k1, k2, k3, -⟩ := (hK.2 4 _ rfl).2
  have hcomp : comp = (qD g).1 6 := Option.some.inj (k3.symm.trans hcls.1)
  subst hcomp
  obtain ⟨kC, hkC, -⟩ := hcls.2
  refine W.aast C.1 C.2.1 (cell := vp_cell (qcA g 4) (len, .inr (.inr (.inr (.inr (fun j => (M.2.2 a j).map (qad g))))))) hc (fun q h => by cases h) (fun h => by cases h) k1 k2 rfl hkC ⟨h0, by show _ < (arrV _ _ _).slots.size; rw [arrV_size]; exact hlt⟩ g1 (fun q h => by rw [g3] at h; cases h) (by rw [g2]; exact hkC) (by rw [g2]; exact va_assign hcls) rfl rfl hd fun H1 e1 z oq => ?_
  refine kk p e s m args below meth c0 H1 _ ls C (hH.put (a := a) ?_ z oq (fun j hj => qel_wR hj)) (hS.put z oq (Nat.le_add_right _ _)) hl
  rw [qel_r hs]
  show H1[qB g + a]? = some (vp_cell _ _)
  rw [e1, vp_cell_q, vp_cell_q, arrV_store]
  congr 2
  funext j
  by_cases hj : j = i.toNatClampNeg
  · subst hj
    simp [updV, wR, va_rf, hH.ad hx]
  · simp [updV, wR, hj]
/-- a new cell behind the others -/
theorem qH.push {H H1 : Heap} (h : qH g n M H) (hn : n < 1000000) (e : va_at (qD g) q_cl (qB g + n, qel g (wN M n) n) H1) (z : H1.size = H.size + 1) (oq : ∀ q : Nat, q < H.size → H1[q]? = H[q]?) : qH g (n + 1) (wN M n) H1 := by
  refine ⟨by rw [z, h.1]; omega, by omega, fun i hi => ?_⟩
  by_cases hia : i = n
  · subst hia
    exact e
  · rw [qel_wN hia]
    exact (h.2.2 i (by omega)).kept (oq _ (by show qB g + i < H.size; rw [h.1]; omega))
theorem q_Spush {A : Nat → Prop} {H0 H H1 : Heap} {locs : List Loc} (hS : va_S A H0 H locs) (z : H1.size = H.size + 1) (oq : ∀ q : Nat, q < H.size → H1[q]? = H[q]?) : va_S A H0 H1 locs :=
  ⟨Nat.le_trans hS.1 (by omega), fun x h1 h2 => (oq x (Nat.lt_of_lt_of_le h1 hS.1)).trans (hS.2.1 x h1 h2), hS.2.2⟩
theorem qi_new {c idx N : Nat} {C : String} {T : u_T} {ty : Nat → FieldType} (hd : decode K.2.1 pc = .ok (.new idx, 3)) (hs : qsh n = (c, 0)) (hn : n < 1000000) (hc : q_cl[c]? = some (C, T, N)) (hN : N = qnf c) (hc40 : c < 40) (hin : ∀ w ∈ u_ws C T N, w ∈ qgood) (hty : ∀ k, k < N → parseFieldDescriptor (T k).2.2.1 = some (ty k))
    (hdf : ∀ k, k < N → defaultValue (ty k) = (if qft c k = 0 then .int 0 else if qft c k = 1 then .long 0 else .null)) (hcl : Cond.classLink K.1.cls idx C ∈ qgood) (hinst : Cond.instantiable C N ∈ qgood) (hini : Cond.initialized C ∈ qgood) (hcells : cs.1 + 1 ≤ R.cells) (hslots : cs.2 + N ≤ R.slots)
    (kk : qT g K R Z (pc + 3) L (.ref n :: st) (n + 1) (wN M n) (cs.1 + 1, cs.2 + N)) : qT g K R Z pc L st n M cs := by
  intro p e s m args below meth c0 H locs ls C' hH hS hl
  have hts := C'.2.2.2.2.1
  have hKn := C'.2.2.2.2.2.2.2.2.1.1 c _ hc
  refine W.newcK C'.1 C'.2.1 C'.2.2.2.1 (hts _ hcl) (hts _ hinst) (hts _ hini) rfl hd hcells hslots hKn.2.1 rfl fun H1 kC hkC e1 z1 o1 => ?_
  have hq : qH g (n + 1) (wN M n) H1 := by
    refine hH.push hn ?_ z1 o1
    rw [qel_o hs hc40]
    rw [hH.1] at e1
    refine ⟨_, hc, (u_born ty hts hin hKn hkC e1 hty).to (fun j hj => ?_)⟩
    rw [hdf j hj]
    unfold vp_V
    rw [List.getD_eq_getElem?_getD, qflds (hN ▸ hj)]
    show _ = qfv g c n (wN M n) j
    unfold qfv
    simp only [wN]
    split
    · simp
    · split <;> simp [va_rf]
  have := kk p e s m args below meth c0 H1 locs ls C' hq (q_Spush hS z1 o1) hl
  show W _ _ _ _ _ _ _ _ _ _ _ _ _ _ _ (F0 m (pc + 3) ls (.ref H.size :: st.map (qv g)))
  rw [hH.1, show qB g + n = qad g n from by unfold qad; rw [if_pos hn]]
  exact this
theorem qi_newa {t N : Nat} {k : Int32} {atype : ArrayType} {ty : FieldType} (hd : decode K.2.1 pc = .ok (.newarray atype, 2)) (hs : qsh n = (40 + t, N)) (hn : n < 1000000) (hty : newarray.typeOf atype = ty) (ht : (t = 0 ∧ ty = .int) ∨ (t = 1 ∧ ty = .long) ∨ (t = 2 ∧ ty = .byte) ∨ (t = 3 ∧ ty = .boolean)) (hw : Cond.arrayClass ty ∈ qgood) (hk0 : ¬ k < 0) (hk : k.toNatClampNeg = N) (hN : N ≤ 10000) (hcells : cs.1 + 1 ≤ R.cells) (hslots : cs.2 + N ≤ R.slots)
    (kk : qT g K R Z (pc + 2) L (.ref n :: st) (n + 1) (wN M n) (cs.1 + 1, cs.2 + N)) : qT g K R Z pc L (.int k :: st) n M cs := by
  subst hty
  intro p e s m args below meth c0 H locs ls C' hH hS hl
  have hts := C'.2.2.2.2.1
  have hK := C'.2.2.2.2.2.2.2.2.1
  have hb : N * componentBytes (newarray.typeOf atype) ≤ 536870912 := by
    have : componentBytes (newarray.typeOf atype) ≤ 8 := by cases atype <;> decide
    exact Nat.le_trans (Nat.mul_le_mul hN this) (by decide)
  refine va_newaK C'.1 C'.2.1 (hts _ hw) rfl hd rfl hk0 hk hb hcells hslots rfl fun H1 cA e1 z1 o1 hAr hNm => ?_
  rw [hH.1] at e1
  have at_ : ∀ (c1 : ClassId), (newarray.typeOf atype = .int ∨ newarray.typeOf atype = .long ∨ newarray.typeOf atype = .byte ∨ newarray.typeOf atype = .boolean) → (qtys g)[t]? = some (c1, newarray.typeOf atype) → cA = c1 := by
    intro c1 h0 h1
    have h2 := (hK.2 t _ h1).2
    have h3 : s.vm.findClass ("[" ++ (newarray.typeOf atype).toString) = some c1 := by
      rcases h0 with h0 | h0 | h0 | h0 <;> (rw [h0] at h2 ⊢; exact h2)
    exact Option.some.inj (hNm.symm.trans h3)
  have hq : qH g (n + 1) (wN M n) H1 := by
    refine hH.push hn ?_ z1 o1
    rcases ht with ⟨rfl, h1⟩ | ⟨rfl, h1⟩ | ⟨rfl, h1⟩ | ⟨rfl, h1⟩
    · rw [qel_i hs, ← at_ (qcA g 0) (Or.inl h1) (by rw [h1]; rfl)]
      show H1[qB g + n]? = some (vp_cell _ _)
      rw [e1, h1, vp_cell_i]
      congr 2
      funext j
      simp [wN, defaultValue]
    · rw [qel_j hs, ← at_ (qcA g 1) (Or.inr (Or.inl h1)) (by rw [h1]; rfl)]
      show H1[qB g + n]? = some (vp_cell _ _)
      rw [e1, h1, vp_cell_l]
      congr 2
      funext j
      simp [wN, defaultValue]
    · rw [qel_b hs, ← at_ (qcA g 2) (Or.inr (Or.inr (Or.inl h1))) (by rw [h1]; rfl)]
      show H1[qB g + n]? = some (vp_cell _ _)
      rw [e1, h1, vp_cell_i]
      congr 2
      funext j
      simp [wN, defaultValue]
    · rw [qel_z hs, ← at_ (qcA g 3) (Or.inr (Or.inr (Or.inr h1))) (by rw [h1]; rfl)]
      show H1[qB g + n]? = some (vp_cell _ _)
      rw [e1, h1, vp_cell_i]
      congr 2
      funext j
      simp [wN, defaultValue]
  have := kk p e s m args below meth c0 H1 locs ls C' hq (q_Spush hS z1 o1) hl
  show W _ _ _ _ _ _ _ _ _ _ _ _ _ _ _ (F0 m (pc + 2) ls (.ref H.size :: st.map (qv g)))
  rw [hH.1, show qB g + n = qad g n from by unfold qad; rw [if_pos hn]]
  exact this
theorem qi_newq {N idx : Nat} {k : Int32} (hd : decode K.2.1 pc = .ok (.anewarray idx, 3)) (hs : qsh n = (44, N)) (hn : n < 1000000) (hcl : Cond.classLink K.1.cls idx RX6 ∈ qgood) (hk0 : ¬ k < 0) (hk : k.toNatClampNeg = N) (hN : N ≤ 10000) (hcells : cs.1 + 1 ≤ R.cells) (hslots : cs.2 + N ≤ R.slots)
    (kk : qT g K R Z (pc + 3) L (.ref n :: st) (n + 1) (wN M n) (cs.1 + 1, cs.2 + N)) : qT g K R Z pc L (.int k :: st) n M cs := by
  subst hk
  intro p e s m args below meth c0 H locs ls C' hH hS hl
  have hts := C'.2.2.2.2.1
  have hK := C'.2.2.2.2.2.2.2.2.1
  refine W.anew C'.1 C'.2.1 C'.2.2.2.1 (hts _ hcl) (va_AO.use C'.2.2.2.2.2.2.2.2.2.1.2.1) rfl hd rfl hk0 (by omega) hcells hslots fun cA kA comp f1 f2 f3 f4 => ?_
  generalize hH1 : H.push ({ cls := cA, slots := Array.replicate k.toNatClampNeg .null, vm := .none } : Cell) = H1
  have z1 : H1.size = H.size + 1 := by rw [← hH1, Array.size_push]
  have e1 : H1[H.size]? = some (arrV cA k.toNatClampNeg (fun _ => .null)) := by rw [← hH1, Array.getElem?_push_size, ← arrV_new]
  have o1 : ∀ q : Nat, q < H.size → H1[q]? = H[q]? := fun q hq => by rw [← hH1, Array.getElem?_push, if_neg (Nat.ne_of_lt hq)]
  rw [hH.1] at e1
  have hcA : cA = qcA g 4 := by
    obtain ⟨kA, comp, k1, k2, k3, k4⟩ := (hK.2 4 _ rfl).2
    exact Option.some.inj (f1.symm.trans k4)
  have hq : qH g (n + 1) (wN M n) H1 := by
    refine hH.push hn ?_ z1 o1
    rw [qel_r hs, ← hcA]
    show H1[qB g + n]? = some (vp_cell _ _)
    rw [e1, vp_cell_q]
    congr 2
    funext j
    simp [wN, va_rf]
  have := kk p e s m args below meth c0 H1 locs ls C' hq (q_Spush hS z1 o1) hl
  show W _ _ _ _ _ _ _ _ _ _ _ _ _ _ _ (F0 m (pc + 3) ls (.ref H.size :: st.map (qv g)))
  rw [hH.1, show qB g + n = qad g n from by unfold qad; rw [if_pos hn]]
  exact this
end Mem2
