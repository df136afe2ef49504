/-! the judgement: from this point of a method, with these locals, this stack and this memory, the machine comes to an end that Z allows -/
def qnest : List Cond := lw_tbl.filter (fun w => match w with | .methodLinkNest .. => true | _ => false)
abbrev qtx0 : String := "water heir sends dry basin claim seed of if then else week level salt share sent lot "
abbrev qtx1 : String := ";=+-*/<()"
def qlen : List Nat := [85, 9]
def qbyt : List (List Int32) := [qtx0.toList.map (fun c => Int32.ofNat c.toNat), qtx1.toList.map (fun c => Int32.ofNat c.toNat)]
/-- what stands below the cells that we make, and isn't written -/
def qX (g : qG) (U : State) (H : Heap) : Prop :=
  ((∀ w ∈ qnest, va_Nw w U) ∧ va_AO RX6 U ∧ vk_R RX8 32 qtx0 (qext g 1) U ∧ vk_R RX8 72 qtx1 (qext g 2) U ∧ (va_Z "jdk/internal/util/Preconditions" "SIOOBE_FORMATTER" "Ljava/util/function/BiFunction;" .null (fun q : Nat => qB g ≤ q) U H ∨ va_Z "jdk/internal/util/Preconditions" "SIOOBE_FORMATTER" "Ljava/util/function/BiFunction;" (.ref (qext g 5)) (fun q : Nat => qB g ≤ q) U H)) ∧
  vk_S 2 qlen qbyt (fun i => qext g (1 + i)) (fun i => qext g (3 + i)) (fun q : Nat => qB g ≤ q) U H ∧
  va_Z "java/lang/String" "COMPACT_STRINGS" "Z" (.int 1) (fun q : Nat => qB g ≤ q) U H ∧
  (va_X (qext g 0) g.2.2.2.2.2.2.1 g.2.2.2.2.2.2.2 U H ∧ qext g 0 < H.size ∧ ¬ qB g ≤ qext g 0)
theorem qnest_is {w : Cond} (h : w ∈ qnest) : ∃ a i x hh, w = .methodLinkNest a i x hh := by
  have h2 := (List.mem_filter.mp h).2
  cases w <;> first | exact ⟨_, _, _, _, rfl⟩ | simp at h2
theorem qX.step {g : qG} {s U : State} {H : Heap} {locs : List Loc} (h : qX g s s.heap) (hS : va_S (fun q : Nat => qB g ≤ q) s.heap H locs) (hW : s.WarmedH U.vm) : qX g U H := by
  obtain ⟨⟨h1, h2, h3, h4⟩, h5, h6, h7, h8, h9⟩ := h
  refine ⟨⟨fun w hw => ?_, va_AO.moved hW.alike h2, vk_R.warm hW h3, vk_R.warm hW h4.1, h4.2.imp (fun z => (z.moved hW.alike).kept hS.2.1) (fun z => (z.moved hW.alike).kept hS.2.1)⟩, (h5.moved hW.alike).kept hS.2.1, (h6.moved hW.alike).kept hS.2.1, ?_, Nat.lt_of_lt_of_le h8 hS.1, h9⟩
  · obtain ⟨a, i, x, hh, rfl⟩ := qnest_is hw
    exact va_Nw.warmM hW (h1 _ hw)
  · exact (h7.moved hW.alike).kept (hS.2.1 _ h8 h9)
theorem qX.same {g : qG} {u U : State} {H : Heap} (hv : u.vm = U.vm) (h : qX g u H) : qX g U H := by
  have ha : u.vm.Alike U.vm := by rw [hv]; exact Vm.Alike.refl _
  obtain ⟨⟨h1, h2, h3, h4⟩, h5, h6, h7, h8, h9⟩ := h
  refine ⟨⟨fun w hw => ?_, va_AO.moved ha h2, vk_R.same hv.symm h3, vk_R.same hv.symm h4.1, h4.2.imp (fun z => z.moved ha) (fun z => z.moved ha)⟩, h5.moved ha, h6.moved ha, h7.moved ha, h8, h9⟩
  obtain ⟨a, i, x, hh, rfl⟩ := qnest_is hw
  exact va_Nw.same rfl hv (h1 _ hw)
/-- what holds all through a method -/
def qC (g : qG) (K : qKt) (p : Program) (s : State) (m : MethodId) (args : Array Value) (meth : Method) (c : Code) : Prop :=
  p.tables.exec = Jvm.exec ∧ c.code = K.2.1 ∧ c.maxLocals = K.2.2.1 ∧ s.vm.findClass K.1.cls = some m.cls ∧ (∀ w ∈ qgood, w.before args s = true) ∧ meth.sig.returnType = K.2.2.2 ∧ meth.locks = false ∧ meth.name = K.1.name ∧ va_K (qD g) q_cl (qtys g) s ∧ qX g s s.heap
def qT (g : qG) (K : qKt) (R : Room) (Z : List Frame → Array Value → State → State → Prop) (pc : Nat) (L : List (Option Value)) (st : List Value) (n : Nat) (M : qM) (cs : Nat × Nat) : Prop :=
  ∀ (p : Program) (e : Env) (s : State) (m : MethodId) (args : Array Value) (below : List Frame) (meth : Method) (c : Code) (H : Heap) (locs : List Loc) (ls : Array Slot), qC g K p s m args meth c → qH g n M H → va_S (fun q : Nat => qB g ≤ q) s.heap H locs → lv_has ls K.2.2.1 (qlv g 0 L) → W p (qL g) e R s m args below meth c H locs cs.1 cs.2 (Z below args s) (F0 m pc ls (st.map (qv g)))
/-- a method's end -/
def qQ (g : qG) (Q : Option Value → Nat → qM → Prop) : Array Value → State → Outcome → State → Prop := fun _ st oc t => (∃ (v : Option Value) (n' : Nat) (M' : qM), oc = .returned (v.map (qv g)) ∧ Q v n' M' ∧ qH g n' M' t.heap) ∧ va_F (fun q : Nat => qB g ≤ q) st t
def qZ (g : qG) (Q : Option Value → Nat → qM → Prop) (mc ms : Nat) : List Frame → Array Value → State → State → Prop := fun below args s => MQ below (qQ g Q) args s mc ms (fun q : Nat => qB g ≤ q)
def qR (d mc ms : Nat) : Room := { frames := d, cells := mc, slots := ms, locals := 40 * d }
def qPre (g : qG) (n : Nat) (M : qM) (U : State) : Prop := qH g n M U.heap ∧ va_K (qD g) q_cl (qtys g) U ∧ qX g U U.heap
def qws (K : qKt) : List Cond := Cond.code K.1 K.2.1 K.2.2.1 K.2.2.2 :: qgood
/-- a method's contract at these arguments in this memory -/
def qCon (g : qG) (d : Nat) (K : qKt) (As : List Value) (n : Nat) (M : qM) (mc ms : Nat) (Q : Option Value → Nat → qM → Prop) : Prop :=
  Met (qL g) K.1 (qws K) (qR d mc ms) (va_Pc (As.map (qv g)) (qPre g n M)) (qQ g Q) mc ms (fun q : Nat => qB g ≤ q)
theorem qblind (g : qG) (n : Nat) (M : qM) (av : List Value) : FrameBlind (va_Pc av (qPre g n M)) := by
  intro a U f mk h
  obtain ⟨h1, h2, h3, h4⟩ := h
  exact ⟨h1, h2, va_K.moved (u := U) (U := U.calling f mk a) (Vm.Alike.refl U.vm) h3, qX.same (u := U) (U := U.calling f mk a) rfl h4⟩
/-- the locals at the entry -/
def qargs : List Value → List (Option Value)
  | [] => []
  | .long x :: r => some (.long x) :: none :: qargs r
  | .double x :: r => some (.double x) :: none :: qargs r
  | v :: r => some v :: qargs r
theorem qargs_in (g : qG) : ∀ (As : List Value) (k : Nat) (x : Nat × Value), x ∈ qlv g k (qargs As) → x ∈ lv_args k (As.map (qv g))
  | [], k, x, h => by simp [qargs, qlv] at h
  | v :: r, k, x, h => by
    have step : ∀ q, x ∈ qlv g q (qargs r) → x ∈ lv_args q (r.map (qv g)) := fun q hq => qargs_in g r q x hq
    cases v <;> simp only [qargs, qlv, List.mem_cons] at h <;> rcases h with h | h <;>
      first
        | (subst h; exact List.mem_cons_self)
        | (refine List.mem_cons_of_mem _ ?_; exact step _ h)
theorem qlv_pad (g : qG) : ∀ (L : List (Option Value)) (k j : Nat), qlv g k (L ++ List.replicate j none) = qlv g k L
  | [], k, j => by
    induction j generalizing k with
    | zero => rfl
    | succ j ih => exact ih (k + 1)
  | none :: r, k, j => qlv_pad g r (k + 1) j
  | some v :: r, k, j => by
    show (k, qv g v) :: qlv g (k + 1) (r ++ List.replicate j none) = (k, qv g v) :: qlv g (k + 1) r
    rw [qlv_pad g r (k + 1) j]
theorem qslots_len (g : qG) : ∀ As : List Value, (lg_sl (As.map (qv g))).length = (qargs As).length
  | [] => rfl
  | v :: r => by
    have := qslots_len g r
    cases v <;> simp_all [lg_sl, qargs, qv, Value.category] <;> omega
theorem qCon.of {g : qG} {d : Nat} {K : qKt} {As : List Value} {n : Nat} {M : qM} {mc ms : Nat} {Q : Option Value → Nat → qM → Prop} (hy : plainName K.1.cls = true) {j : Nat} (hj : (qargs As).length + j = K.2.2.1)
    (h : qT g K (qR d mc ms) (qZ g Q mc ms) 0 (qargs As ++ List.replicate j none) [] n M (0, 0)) : qCon g d K As n M mc ms Q := by
  refine Met.ofW (cc := K.2.1) (maxL := K.2.2.1) (ret := K.2.2.2) hy rfl ?_
  intro p e s m args below meth c s₁ B hml hv
  obtain ⟨rfl, hH, hK, hX⟩ := hv
  have hts := atoms_spec (ws := qws K) B.pre
  have hle : (lg_sl (As.map (qv g))).length ≤ K.2.2.1 := by rw [qslots_len]; omega
  have hl := lv_entry (As.map (qv g)) (n := K.2.2.1) hle
  rw [lg_entry_eq]
  refine h p e s m _ below meth c s.heap [] _ ⟨B.exec, B.bytes, hml, findClass_of_methodNamed B.named, fun w hw => hts w (List.mem_cons_of_mem _ hw), B.returns, B.notSynchronized, (name_of_methodNamed B.named B.method).1, hK, hX⟩ hH va_S.rf ⟨hl.1, hl.2.1, fun x hx => hl.2.2 x ?_⟩
  rw [qlv_pad] at hx
  exact qargs_in g As 0 x hx
