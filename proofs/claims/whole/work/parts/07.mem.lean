/-! the rules of memory -/
/-- a field of a class of ours, by its link in a class: class c, place k, kind t; the type that is stored -/
def qFld (own : String) (idx c k t : Nat) : Prop := ∃ (C : String) (T : u_T) (N : Nat), q_cl[c]? = some (C, T, N) ∧ N = qnf c ∧ c < 40 ∧ k < N ∧ (∀ w ∈ u_ws C T N, w ∈ qgood) ∧ Cond.fieldLink own idx (T k).1 (T k).2.1 (T k).2.2.1 ∈ qgood ∧ qft c k = t
/-- a class of ours -/
def qCls (c : Nat) : Prop := ∃ (C : String) (T : u_T) (N : Nat) (ty : Nat → FieldType), q_cl[c]? = some (C, T, N) ∧ N = qnf c ∧ c < 40 ∧ (∀ w ∈ u_ws C T N, w ∈ qgood) ∧ (∀ k, k < N → parseFieldDescriptor (T k).2.2.1 = some (ty k)) ∧ (∀ a, a < N → ∀ b, b < N → a ≠ b → (T a).2.1 ≠ (T b).2.1)
def qTy (c k : Nat) (fin : Bool) (P : FieldType → Prop) : Prop := ∃ (C : String) (T : u_T) (N : Nat) (ty : FieldType), q_cl[c]? = some (C, T, N) ∧ (T k).2.2.2 = fin ∧ parseFieldDescriptor (T k).2.2.1 = some ty ∧ P ty ∧ (T k).1 = C
section Mem
variable {g : qG} {K : qKt} {R : Room} {Z : List Frame → Array Value → State → State → Prop} {pc n : Nat} {L : List (Option Value)} {st : List Value} {M : qM} {cs : Nat × Nat} {a : Nat}
theorem qflds {c k i : Nat} (hk : k < qnf c) : ((List.range (qnf c)).map (qfv g c i M))[k]? = some (qfv g c i M k) := by
  rw [List.getElem?_map, List.getElem?_range hk]
  rfl
theorem q_get {c k t idx : Nat} {v : Value} (hf : qFld K.1.cls idx c k t) (hd : decode K.2.1 pc = .ok (.getfield idx, 3)) (hs : qsh a = (c, 0)) (ha : a < n) (hv : qfv g c a M k = qv g v) (kk : qT g K R Z (pc + 3) L (v :: st) n M cs) : qT g K R Z pc L (.ref a :: st) n M cs := by
  intro p e s m args below meth c0 H locs ls C hH hS hl
  obtain ⟨C0, T, N, h1, h2, h3, h4, h5, h6, h7⟩ := hf
  show W _ _ _ _ _ _ _ _ _ _ _ _ _ _ _ (F0 m pc ls (.ref (qad g a) :: st.map (qv g)))
  rw [hH.ad ha]
  refine va_get (D := qD g) (cl := q_cl) (tys := qtys g) (ref := (T k).1) (C := C0) (T := T) (N := N) (Ts := qgood) (ws := [(qB g + a, qel g M a)]) C.1 C.2.1 C.2.2.2.2.1 h5 C.2.2.2.1 C.2.2.2.2.2.2.2.2.1 (hH.one ha) 0 (fs := (List.range (qnf c)).map (qfv g c a M)) (by rw [qel_o hs h3]; rfl) h1 k h4 (C.2.2.2.2.1 _ h6) (fun _ h => h) (v := qv g v) (by rw [qflds (h2 ▸ h4), hv]) hd (kk p e s m args below meth c0 H locs ls C hH hS hl)
theorem qi_getI {c k idx : Nat} {x : Int32} (hf : qFld K.1.cls idx c k 0) (hd : decode K.2.1 pc = .ok (.getfield idx, 3)) (hs : qsh a = (c, 0)) (ha : a < n) (hx : M.1 a k = x) (kk : qT g K R Z (pc + 3) L (.int x :: st) n M cs) : qT g K R Z pc L (.ref a :: st) n M cs := by
  refine q_get hf hd hs ha (v := .int x) ?_ kk
  obtain ⟨_, _, _, -, -, -, -, -, -, h7⟩ := hf
  simp [qfv, h7, hx, qv]
theorem qi_getJ {c k idx : Nat} {x : Int64} (hf : qFld K.1.cls idx c k 1) (hd : decode K.2.1 pc = .ok (.getfield idx, 3)) (hs : qsh a = (c, 0)) (ha : a < n) (hx : M.2.1 a k = x) (kk : qT g K R Z (pc + 3) L (.long x :: st) n M cs) : qT g K R Z pc L (.ref a :: st) n M cs := by
  refine q_get hf hd hs ha (v := .long x) ?_ kk
  obtain ⟨_, _, _, -, -, -, -, -, -, h7⟩ := hf
  simp [qfv, h7, hx, qv]
theorem qi_getR {c k idx x : Nat} (hf : qFld K.1.cls idx c k 2) (hd : decode K.2.1 pc = .ok (.getfield idx, 3)) (hs : qsh a = (c, 0)) (ha : a < n) (hx : M.2.2 a k = some x) (kk : qT g K R Z (pc + 3) L (.ref x :: st) n M cs) : qT g K R Z pc L (.ref a :: st) n M cs := by
  refine q_get hf hd hs ha (v := .ref x) ?_ kk
  obtain ⟨_, _, _, -, -, -, -, -, -, h7⟩ := hf
  simp [qfv, h7, hx, qv, va_rf]
theorem q_put {c k t idx : Nat} {v : Value} {M' : qM} {fin : Bool} (hf : qFld K.1.cls idx c k t) (hc : qCls c) (hty : qTy c k fin (fun ty => narrow ty (qv g v) = qv g v ∧ fits ty (qv g v) = true)) (hfin : fin = true → K.1.name = "<init>" ∧ (q_cl[c]?).map (·.1) = some K.1.cls) (hd : decode K.2.1 pc = .ok (.putfield idx, 3)) (hs : qsh a = (c, 0)) (ha : a < n)
    (hM : ∀ i, i ≠ a → qel g M' i = qel g M i) (hv : qfv g c a M' k = qv g v) (ho : ∀ j, j ≠ k → qfv g c a M' j = qfv g c a M j) (kk : qT g K R Z (pc + 3) L st n M' cs) : qT g K R Z pc L (v :: .ref a :: st) n M cs := by
  intro p e s m args below meth c0 H locs ls C hH hS hl
  obtain ⟨C0, T, N, h1, h2, h3, h4, h5, h6, h7⟩ := hf
  obtain ⟨C1, T1, N1, ty0, g1, g2, -, -, g5, g6⟩ := hc
  cases h1.symm.trans g1
  obtain ⟨C1, T1, N1, ty, e1, e2, e3, ⟨e4, e5⟩, e6⟩ := hty
  cases h1.symm.trans e1
  show W _ _ _ _ _ _ _ _ _ _ _ _ _ _ _ (F0 m pc ls (qv g v :: .ref (qad g a) :: st.map (qv g)))
  rw [hH.ad ha]
  have hx := C.1; have hb := C.2.1; have hown := C.2.2.2.1; have hts := C.2.2.2.2.1; have hK := C.2.2.2.2.2.2.2.2.1
  have hap := va_apart (own := K.1.cls) hts h5 ty0 g5 g6 hK h1
  have hat := hH.2.2 a ha
  rw [qel_o hs h3] at hat
  obtain ⟨r, q0, cell, q1, q2, q3, q4⟩ := hat
  cases h1.symm.trans q0
  obtain ⟨hSl, hfc, kC, hkC, hkind⟩ := hK.1 c _ h1
  obtain ⟨cf, kf, fi, f, hi, hsl⟩ := hSl k h4
  have hlay := hts _ (h5 _ (u_in_lay h4))
  have hst := (u_facts hfc hkC (u_lays hts h5 h4) hi).1
  have hlk := hts _ h6
  have hkN : k < qnf c := h2 ▸ h4
  have fin_ : ∀ (H' : Heap) (locs' : List Loc), H'[qB g + a]? = some (cell.setSlot (qD g |>.2 c k) (qv g v)) → H'.size = H.size → (∀ q, q ≠ qB g + a → H'[q]? = H[q]?) → qH g n M' H' := by
    intro H' _ a1 a2 a3
    refine hH.put (a := a) ?_ a2 a3 hM
    rw [qel_o hs h3]
    refine ⟨_, h1, t_OB.to (V := updV (vp_V ((List.range (qnf c)).map (qfv g c a M))) k (qv g v)) ⟨_, a1, q2, q3, t_set q4 hap h4 (qv g v)⟩ (fun j hj => ?_)⟩
    have hjN : j < qnf c := h2 ▸ hj
    have r1 : vp_V ((List.range (qnf c)).map (qfv g c a M')) j = qfv g c a M' j := by
      unfold vp_V
      rw [List.getD_eq_getElem?_getD, qflds hjN]; rfl
    have r2 : vp_V ((List.range (qnf c)).map (qfv g c a M)) j = qfv g c a M j := by
      unfold vp_V
      rw [List.getD_eq_getElem?_getD, qflds hjN]; rfl
    rw [r1]
    by_cases hjk : j = k
    · subst hjk
      simp [updV, hv]
    · simp only [updV, if_neg hjk]
      rw [r2, ho j hjk]
  unfold u_lay at hlay
  cases fin with
  | false =>
    rw [if_neg (by rw [e2]; decide)] at hlay
    have h8 := u_store hfc hkC hkind hlay hi e3 e4 e5
    refine W.putK hx hb (f := f) ⟨hown, hlk, ⟨_, _, _, hi⟩, hst⟩ (by rw [q2]; exact h8) q1 q3 (by rw [hsl]; exact k2_hasslot (q4 k h4)) rfl rfl hd fun H' a1 a2 a3 => ?_
    rw [hsl] at a1 ⊢
    exact kk p e s m args below meth c0 H' _ ls C (fin_ H' [] a1 a2 a3) (hS.put a2 a3 (Nat.le_add_right _ _)) hl
  | true =>
    rw [if_pos e2] at hlay
    obtain ⟨hin, hcls⟩ := hfin rfl
    have hC0 : C0 = K.1.cls := by
      rw [h1] at hcls
      exact Option.some.inj hcls
    have hcf : m.cls = cf := by
      obtain ⟨_, _, c', _, _, _, -, -, hf', -, -, -, hown2, -⟩ := Cond.laysFinal_spec hlay
      have e1 : c' = cf := by have := hi.symm.trans hf'; simp at this; exact this.1.symm
      rw [e6, hC0] at hown2
      rw [← e1]; exact Option.some.inj (hown.symm.trans hown2)
    have h8 := u_fits hfc hkC hkind (Or.inr hlay) hi e3 e4 e5
    refine W.putFinK hx hb hown hlk hi hst hcf (by rw [C.2.2.2.2.2.2.2.1]; exact hin) (by rw [q2]; exact h8) q1 q3 (by rw [hsl]; exact k2_hasslot (q4 k h4)) rfl rfl hd fun H' a1 a2 a3 => ?_
    rw [hsl] at a1 ⊢
    exact kk p e s m args below meth c0 H' _ ls C (fin_ H' [] a1 a2 a3) (hS.put a2 a3 (Nat.le_add_right _ _)) hl
theorem qi_putI {c k idx : Nat} {x : Int32} (hf : qFld K.1.cls idx c k 0) (hc : qCls c) (hty : qTy c k false (fun ty => narrow ty (.int x) = .int x ∧ fits ty (.int x) = true)) (hd : decode K.2.1 pc = .ok (.putfield idx, 3)) (hs : qsh a = (c, 0)) (ha : a < n) (kk : qT g K R Z (pc + 3) L st n (wI M a k x) cs) : qT g K R Z pc L (.int x :: .ref a :: st) n M cs := by
  refine q_put hf hc hty (fun h => by cases h) hd hs ha (fun i hi => qel_wI hi) ?_ (fun j hj => ?_) kk
  · obtain ⟨_, _, _, -, -, -, -, -, -, h7⟩ := hf
    simp [qfv, h7, wI, qv]
  · simp [qfv, wI, hj]
theorem qi_putJ {c k idx : Nat} {x : Int64} (hf : qFld K.1.cls idx c k 1) (hc : qCls c) (hty : qTy c k false (fun ty => narrow ty (.long x) = .long x ∧ fits ty (.long x) = true)) (hd : decode K.2.1 pc = .ok (.putfield idx, 3)) (hs : qsh a = (c, 0)) (ha : a < n) (kk : qT g K R Z (pc + 3) L st n (wJ M a k x) cs) : qT g K R Z pc L (.long x :: .ref a :: st) n M cs := by
  refine q_put hf hc hty (fun h => by cases h) hd hs ha (fun i hi => qel_wJ hi) ?_ (fun j hj => ?_) kk
  · obtain ⟨_, _, _, -, -, -, -, -, -, h7⟩ := hf
    simp [qfv, h7, wJ, qv]
  · simp [qfv, wJ, hj]
theorem qi_putR {c k idx x : Nat} {fin : Bool} (hf : qFld K.1.cls idx c k 2) (hc : qCls c) (hty : qTy c k fin (fun ty => ∀ y : Nat, narrow ty (.ref y) = .ref y ∧ fits ty (.ref y) = true)) (hfin : fin = true → K.1.name = "<init>" ∧ (q_cl[c]?).map (·.1) = some K.1.cls) (hd : decode K.2.1 pc = .ok (.putfield idx, 3)) (hs : qsh a = (c, 0)) (ha : a < n) (kk : qT g K R Z (pc + 3) L st n (wR M a k (some x)) cs) : qT g K R Z pc L (.ref x :: .ref a :: st) n M cs := by
  refine q_put (v := .ref x) hf hc ?_ hfin hd hs ha (fun i hi => qel_wR hi) ?_ (fun j hj => ?_) kk
  · obtain ⟨C1, T1, N1, ty, e1, e2, e3, e4, e6⟩ := hty
    exact ⟨C1, T1, N1, ty, e1, e2, e3, e4 _, e6⟩
  · obtain ⟨_, _, _, -, -, -, -, -, -, h7⟩ := hf
    simp [qfv, h7, wR, qv, va_rf]
  · simp [qfv, wR, hj]
theorem qi_putN {c k idx : Nat} {fin : Bool} (hf : qFld K.1.cls idx c k 2) (hc : qCls c) (hty : qTy c k fin (fun ty => narrow ty .null = .null ∧ fits ty .null = true)) (hfin : fin = true → K.1.name = "<init>" ∧ (q_cl[c]?).map (·.1) = some K.1.cls) (hd : decode K.2.1 pc = .ok (.putfield idx, 3)) (hs : qsh a = (c, 0)) (ha : a < n) (kk : qT g K R Z (pc + 3) L st n (wR M a k none) cs) : qT g K R Z pc L (.null :: .ref a :: st) n M cs := by
  refine q_put (v := .null) hf hc hty hfin hd hs ha (fun i hi => qel_wR hi) ?_ (fun j hj => ?_) kk
  · obtain ⟨_, _, _, -, -, -, -, -, -, h7⟩ := hf
    simp [qfv, h7, wR, qv, va_rf]
  · simp [qfv, wR, hj]
/-- arrays: reads -/
theorem qi_iald {len : Nat} {i x : Int32} (hd : decode K.2.1 pc = .ok (.iaload, 1)) (hs : qsh a = (40, len)) (ha : a < n) (hin : vp_in i len) (hx : M.1 a i.toNatClampNeg = x) (kk : qT g K R Z (pc + 1) L (.int x :: st) n M cs) : qT g K R Z pc L (.int i :: .ref a :: st) n M cs := by
  subst hx
  intro p e s m args below meth c0 H locs ls C hH hS hl
  show W _ _ _ _ _ _ _ _ _ _ _ _ _ _ _ (F0 m pc ls (.int i :: .ref (qad g a) :: st.map (qv g)))
  rw [hH.ad ha]
  exact va_iald (tys := qtys g) (ws := [(qB g + a, qel g M a)]) C.1 C.2.1 C.2.2.2.2.2.2.2.2.1 (hH.one ha) 0 0 (f := M.1 a) (by rw [qel_i hs]; rfl) rfl hin hd (kk p e s m args below meth c0 H locs ls C hH hS hl)
theorem qi_bald {len : Nat} {i x : Int32} (hd : decode K.2.1 pc = .ok (.baload, 1)) (hs : qsh a = (42, len)) (ha : a < n) (hin : vp_in i len) (hx : M.1 a i.toNatClampNeg = x) (kk : qT g K R Z (pc + 1) L (.int x :: st) n M cs) : qT g K R Z pc L (.int i :: .ref a :: st) n M cs := by
  subst hx
  intro p e s m args below meth c0 H locs ls C hH hS hl
  show W _ _ _ _ _ _ _ _ _ _ _ _ _ _ _ (F0 m pc ls (.int i :: .ref (qad g a) :: st.map (qv g)))
  rw [hH.ad ha]
  exact va_bald (tys := qtys g) (ws := [(qB g + a, qel g M a)]) C.1 C.2.1 C.2.2.2.2.2.2.2.2.1 (hH.one ha) 0 2 (f := M.1 a) (by rw [qel_b hs]; rfl) rfl hin hd (kk p e s m args below meth c0 H locs ls C hH hS hl)
theorem qi_zald {len : Nat} {i x : Int32} (hd : decode K.2.1 pc = .ok (.baload, 1)) (hs : qsh a = (43, len)) (ha : a < n) (hin : vp_in i len) (hx : M.1 a i.toNatClampNeg = x) (kk : qT g K R Z (pc + 1) L (.int x :: st) n M cs) : qT g K R Z pc L (.int i :: .ref a :: st) n M cs := by
  subst hx
  intro p e s m args below meth c0 H locs ls C hH hS hl
  show W _ _ _ _ _ _ _ _ _ _ _ _ _ _ _ (F0 m pc ls (.int i :: .ref (qad g a) :: st.map (qv g)))
  rw [hH.ad ha]
  exact va_zald (tys := qtys g) (ws := [(qB g + a, qel g M a)]) C.1 C.2.1 C.2.2.2.2.2.2.2.2.1 (hH.one ha) 0 3 (f := M.1 a) (by rw [qel_z hs]; rfl) rfl hin hd (kk p e s m args below meth c0 H locs ls C hH hS hl)
theorem qi_lald {len : Nat} {i : Int32} {x : Int64} (hd : decode K.2.1 pc = .ok (.laload, 1)) (hs : qsh a = (41, len)) (ha : a < n) (hin : vp_in i len) (hx : M.2.1 a i.toNatClampNeg = x) (kk : qT g K R Z (pc + 1) L (.long x :: st) n M cs) : qT g K R Z pc L (.int i :: .ref a :: st) n M cs := by
  subst hx
  intro p e s m args below meth c0 H locs ls C hH hS hl
  show W _ _ _ _ _ _ _ _ _ _ _ _ _ _ _ (F0 m pc ls (.int i :: .ref (qad g a) :: st.map (qv g)))
  rw [hH.ad ha]
  exact va_lald (tys := qtys g) (ws := [(qB g + a, qel g M a)]) C.1 C.2.1 C.2.2.2.2.2.2.2.2.1 (hH.one ha) 0 1 (f := M.2.1 a) (by rw [qel_j hs]; rfl) rfl hin hd (kk p e s m args below meth c0 H locs ls C hH hS hl)
theorem qi_aald {len x : Nat} {i : Int32} (hd : decode K.2.1 pc = .ok (.aaload, 1)) (hs : qsh a = (44, len)) (ha : a < n) (hin : vp_in i len) (hx : M.2.2 a i.toNatClampNeg = some x) (kk : qT g K R Z (pc + 1) L (.ref x :: st) n M cs) : qT g K R Z pc L (.int i :: .ref a :: st) n M cs := by
  intro p e s m args below meth c0 H locs ls C hH hS hl
  show W _ _ _ _ _ _ _ _ _ _ _ _ _ _ _ (F0 m pc ls (.int i :: .ref (qad g a) :: st.map (qv g)))
  rw [hH.ad ha]
  refine va_aldq (tys := qtys g) (ws := [(qB g + a, qel g M a)]) (C := RX6) C.1 C.2.1 C.2.2.2.2.2.2.2.2.1 (hH.one ha) 0 4 (f := fun j => (M.2.2 a j).map (qad g)) (by rw [qel_r hs]; rfl) rfl hin hd ?_
  have := kk p e s m args below meth c0 H locs ls C hH hS hl
  rw [hx]
  exact this
theorem qi_alen {t len : Nat} {v : Int32} (hd : decode K.2.1 pc = .ok (.arraylength, 1)) (hs : qsh a = (t, len)) (ht : 40 ≤ t ∧ t < 45) (ha : a < n) (hv : Int32.ofNat len = v) (kk : qT g K R Z (pc + 1) L (.int v :: st) n M cs) : qT g K R Z pc L (.ref a :: st) n M cs := by
  intro p e s m args below meth c0 H locs ls C hH hS hl
  show W _ _ _ _ _ _ _ _ _ _ _ _ _ _ _ (F0 m pc ls (.ref (qad g a) :: st.map (qv g)))
  rw [hH.ad ha]
  have fin_ := fun (t0 : Nat) (cA : ClassId) (x : vp_A) (ty : FieldType) (hel : qel g M a = .inl (cA, x)) (hty : (qtys g)[t0]? = some (cA, ty)) (hx1 : x.1 = len) => va_alen (tys := qtys g) (ws := [(qB g + a, qel g M a)]) C.1 C.2.1 C.2.2.2.2.2.2.2.2.1 (hH.one ha) 0 t0 (x := x) (by rw [hel]; rfl) hty (v := v) (by rw [hx1]; exact hv) hd (kk p e s m args below meth c0 H locs ls C hH hS hl)
  rcases (show t = 40 ∨ t = 41 ∨ t = 42 ∨ t = 43 ∨ t = 44 by omega) with rfl | rfl | rfl | rfl | rfl
  · exact fin_ 0 _ _ _ (qel_i hs) rfl rfl
  · exact fin_ 1 _ _ _ (qel_j hs) rfl rfl
  · exact fin_ 2 _ _ _ (qel_b hs) rfl rfl
  · exact fin_ 3 _ _ _ (qel_z hs) rfl rfl
  · exact fin_ 4 _ _ _ (qel_r hs) rfl rfl
end Mem
