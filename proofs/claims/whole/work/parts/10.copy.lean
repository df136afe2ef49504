/-! System.arraycopy of ints from one row to another, from 0 to 0; the script -/
section Copy
variable {g : qG} {K : qKt} {R : Room} {Z : List Frame → Array Value → State → State → Prop} {pc n idx : Nat} {L : List (Option Value)} {st : List Value} {M : qM} {cs : Nat × Nat} {a b : Nat}
/-- the first k places of row a are row b's -/
def wC (M : qM) (b a k : Nat) : qM := (fun c j => if c = a ∧ j < k then M.1 b j else M.1 c j, M.2)
theorem qel_wC {i k : Nat} (h : i ≠ a) : qel g (wC M b a k) i = qel g M i := by
  have e : (wC M b a k).1 i = M.1 i := by funext j; simp [wC, h]
  have e2 : qfv g (qsh i).1 i (wC M b a k) = qfv g (qsh i).1 i M := by funext j; simp only [qfv, e]; rfl
  simp only [qel, e, e2]
  rfl
theorem qi_copy {k : Int32} {N n0 n1 : Nat} (hlk : Cond.methodLink K.1.cls idx arraycopyName ∈ qgood) (h1 : Cond.native arraycopyName ∈ qgood) (h2 : Cond.static arraycopyName ∈ qgood) (h3 : Cond.initialized "java/lang/System" ∈ qgood) (hd : decode K.2.1 pc = .ok (.invokestatic idx, 3)) (hsb : qsh b = (40, n0)) (hb : b < n) (hsa : qsh a = (40, n1)) (ha : a < n) (hk0 : ¬ k < 0) (hk : k.toNatClampNeg = N) (hN0 : N ≤ n0) (hN1 : N ≤ n1) (hst : (st.map fun v => v.category).sum ≤ 8) (hR : 1 ≤ R.frames ∧ 8 + (nativeFrameWords "java/lang/System" "arraycopy" 5 + 11) ≤ R.locals)
    (kk : qT g K R Z (pc + 3) L st n (wC M b a N) cs) : qT g K R Z pc L (.int k :: .int 0 :: .ref a :: .int 0 :: .ref b :: st) n M cs := by
  intro p e s m args below meth c0 H locs ls C hH hS hl
  have hts := C.2.2.2.2.1
  have hK := C.2.2.2.2.2.2.2.2.1
  show W _ _ _ _ _ _ _ _ _ _ _ _ _ _ _ (F0 m pc ls (.int k :: .int 0 :: .ref (qad g a) :: .int 0 :: .ref (qad g b) :: st.map (qv g)))
  rw [hH.ad ha, hH.ad hb]
  have ea := hH.2.2 a ha
  have eb := hH.2.2 b hb
  rw [qel_i hsa] at ea
  rw [qel_i hsb] at eb
  have hc0 : H[qB g + b]? = some (vp_cell (qcA g 0) (n0, .inl (M.1 b))) := eb
  have hc1 : H[qB g + a]? = some (vp_cell (qcA g 0) (n1, .inl (M.1 a))) := ea
  intro T hT X
  obtain ⟨-, k0, hk0', cm0, hkk0⟩ := (hK.2 0 _ rfl).1 n0 (fun j => .int (M.1 b j))
  obtain ⟨-, k1, hk1', cm1, hkk1⟩ := (hK.2 0 _ rfl).1 n1 (fun j => .int (M.1 a j))
  have z0 : (0 : Int32).toNatClampNeg = 0 := by decide
  have zi : (0 : Int32).toInt = 0 := by decide
  have nn : k.toInt = (k.toNatClampNeg : Int) := by
    have hz0 : (0 : Int) ≤ k.toInt := by
      have := Int32.not_lt.mp hk0
      simpa using Int32.le_iff_toInt_le.mp this
    show k.toInt = ((k.toInt.toNat : Nat) : Int)
    omega
  obtain ⟨vm', X', step⟩ := X.arraycopy C.1 C.2.2.2.1 (hts _ hlk) (hts _ h1) (hts _ h2) (hts _ h3) (src := qB g + b) (dst := qB g + a) (cs := vp_cell (qcA g 0) (n0, .inl (M.1 b))) (cd := vp_cell (qcA g 0) (n1, .inl (M.1 a))) (srcPos := 0) (destPos := 0) (n := k) (by rw [hT]; exact hc0) (by rw [hT]; exact hc1)
    (fun _ h => by cases h) (fun _ h => by cases h) (fun h => by cases h) (fun h => by cases h) hk0' hk1' hkk0 hkk1 (by simp [refKind]) (by decide) (by decide) hk0
    (by rw [zi, nn, hk]; show ¬ _ > ((arrV (qcA g 0) n0 (fun j => .int (M.1 b j))).slots.size : Int); rw [arrV_size]; omega)
    (by rw [zi, nn, hk]; show ¬ _ > ((arrV (qcA g 0) n1 (fun j => .int (M.1 a j))).slots.size : Int); rw [arrV_size]; omega)
    (fun vm₁ _ i hi => by
      have e : (vp_cell (qcA g 0) (n0, .inl (M.1 b))).slots.getD ((0 : Int32).toNatClampNeg + i) .null = .int (M.1 b ((0 : Int32).toNatClampNeg + i)) := by
        show (arrV (qcA g 0) n0 (fun j => .int (M.1 b j))).slots.getD _ _ = _
        rw [Array.getD_eq_getD_getElem?, arrV_read _ _ (by rw [z0]; omega)]
        rfl
      refine ⟨?_, ?_⟩
      · rw [e]
        rfl
      · rw [e]
        exact trivial)
    (g := F0 m pc ls (.int k :: .int 0 :: .ref (qB g + a) :: .int 0 :: .ref (qB g + b) :: st.map (qv g))) rfl (by rw [C.2.2.1]; exact hl.1) (rest := st.map (qv g)) rfl (by rw [C.2.1]; exact hd) hR.1 (by show 2 * 0 + _ + _ ≤ _; rw [q_catsum]; omega)
  have e1 : copied (vp_cell (qcA g 0) (n0, .inl (M.1 b))) (vp_cell (qcA g 0) (n1, .inl (M.1 a))) 0 0 k = vp_cell (qcA g 0) (n1, .inl (va_cpy (M.1 b) (M.1 a) (0 : Int32).toNatClampNeg (0 : Int32).toNatClampNeg k.toNatClampNeg)) := va_copied (fun z => .int z) (qcA g 0) (qcA g 0) (M.1 b) (M.1 a) (by rw [z0, hk]; omega)
  rw [e1] at X' step
  have hl1 : qB g + a < H.size := (Array.getElem?_eq_some_iff.mp hc1).1
  generalize hH1 : ((T.setVm vm').setCell (qB g + a) (vp_cell (qcA g 0) (n1, .inl (va_cpy (M.1 b) (M.1 a) (0 : Int32).toNatClampNeg (0 : Int32).toNatClampNeg k.toNatClampNeg)))) = T1 at X' step
  have hheap : T1.heap = H.setIfInBounds (qB g + a) (vp_cell (qcA g 0) (n1, .inl (va_cpy (M.1 b) (M.1 a) (0 : Int32).toNatClampNeg (0 : Int32).toNatClampNeg k.toNatClampNeg))) := by rw [← hH1, ← hT]; rfl
  have oq : ∀ q : Nat, q ≠ qB g + a → T1.heap[q]? = H[q]? := fun q hq => by rw [hheap]; simp [Array.getElem?_setIfInBounds, Ne.symm hq]
  have hz : T1.heap.size = H.size := by rw [hheap]; simp
  have hat : T1.heap[qB g + a]? = some (vp_cell (qcA g 0) (n1, .inl (va_cpy (M.1 b) (M.1 a) (0 : Int32).toNatClampNeg (0 : Int32).toNatClampNeg k.toNatClampNeg))) := by rw [hheap]; simp [Array.getElem?_setIfInBounds, hl1]
  have hq : qH g n (wC M b a N) T1.heap := by
    refine hH.put (a := a) ?_ hz oq (fun i hi => qel_wC hi)
    rw [qel_i hsa]
    show T1.heap[qB g + a]? = some (vp_cell _ _)
    rw [hat, vp_cell_i, vp_cell_i]
    congr 2
    funext j
    rw [z0, hk]
    by_cases hj : j < N <;> simp [va_cpy, wC, hj]
  refine (kk p e s m args below meth c0 T1.heap _ ls C hq ⟨by rw [hz]; exact hS.1, fun q g1 g2 => ?_, fun q hq => ?_⟩ hl T1 rfl X').elim fun t ht => ⟨t, step t ht.1, ht.2⟩
  · rw [oq q (fun e => g2 (by rw [e]; exact Nat.le_add_right _ _))]
    exact hS.2.1 q g1 g2
  · rcases List.mem_append.mp hq with h | h
    · exact hS.2.2 q h
    · obtain ⟨z, -, hz⟩ := List.mem_map.mp h
      rw [← hz]
      exact Nat.le_add_right _ _
theorem qi_slen {v : Int32} (hd : decode K.2.1 pc = .ok (.arraylength, 1)) (hv : Int32.ofNat g.2.2.2.2.2.2.1 = v) (kk : qT g K R Z (pc + 1) L (.int v :: st) n M cs) : qT g K R Z pc L (.ref 1000000 :: st) n M cs := by
  subst hv
  intro p e s m args below meth c0 H locs ls C hH hS hl
  obtain ⟨h7, h8, h9⟩ := C.2.2.2.2.2.2.2.2.2.2.2.2
  exact va_slen C.1 C.2.1 h7 h8 h9 hS hd (kk p e s m args below meth c0 H locs ls C hH hS hl)
theorem qi_sld {i x : Int32} (hd : decode K.2.1 pc = .ok (.iaload, 1)) (hin : vp_in i g.2.2.2.2.2.2.1) (hx : g.2.2.2.2.2.2.2 i.toNatClampNeg = x) (kk : qT g K R Z (pc + 1) L (.int x :: st) n M cs) : qT g K R Z pc L (.int i :: .ref 1000000 :: st) n M cs := by
  subst hx
  intro p e s m args below meth c0 H locs ls C hH hS hl
  obtain ⟨h7, h8, h9⟩ := C.2.2.2.2.2.2.2.2.2.2.2.2
  exact va_sld C.1 C.2.1 h7 h8 h9 hS hin hd (kk p e s m args below meth c0 H locs ls C hH hS hl)
end Copy
