/-! the reference's expression: what it holds while it reads -/
def qEX (M : qM) (S : Nat) (T : qTk) (a : Nat) (s : Nat × Nat) (N : qNm) (nc : Nat) (W : List Nat) (o cd : Nat) (acc : List Int32) : Prop := qYK M S T a s N nc ∧ wtS M W ∧ M.1 280 12 = nI o ∧ M.1 280 50 = nI (cd + acc.length) ∧ cellR (M.1 316) (M.1 317) cd acc
def okW (W : List Nat) : Prop := ∀ w, w ∈ W → w = 6 ∨ w = 8 ∨ w = 9 ∨ w = 10 ∨ w = 15
def enW (W : List Nat) : Prop := W = [] ∨ ∃ W', W = W' ++ [6]
def wl (k : Nat) : List Nat := if k = 0 then [] else [kmQ k]
section EX
variable {M M' : qM} {S : Nat} {T : qTk} {a a1 : Nat} {s : Nat × Nat} {N : qNm} {nc : Nat} {W : List Nat} {o cd : Nat} {acc : List Int32}
theorem qEX.step (h : qEX M S T a s N nc W o cd acc) (hK : qYK M' S T a1 s N nc) (hf : qFr SYt M M') : qEX M' S T a1 s N nc W o cd acc := ⟨hK, h.2.1.fr hf (fun b j z => by unfold SYt at z; omega), (hf.1 _ _ (by unfold SYt; omega)).trans h.2.2.1, (hf.1 _ _ (by unfold SYt; omega)).trans h.2.2.2.1, cellR_fr h.2.2.2.2 hf (fun j _ => by unfold SYt; omega)⟩
theorem qEX.out {R : List Nat} (h : qEX M S T a s N nc (W ++ R.reverse) o cd acc) (h1 : wtS M' W) (h2 : M'.1 280 50 = nI (cd + acc.length + R.length)) (h3 : cellR (M'.1 316) (M'.1 317) (cd + acc.length) (R.map emC)) (hf : qFr (SCo (cd + acc.length) (cd + acc.length + R.length)) M M') : qEX M' S T a s N nc W o cd (acc ++ R.map emC) := ⟨h.1.fr hf (fun b j z => by unfold SCo at z; omega), h1, (hf.1 _ _ (by unfold SCo; omega)).trans h.2.2.1, by rw [List.length_append, List.length_map, ← Nat.add_assoc]; exact h2, cellR_a.mpr ⟨cellR_fr h.2.2.2.2 hf (fun j hj => by unfold SCo; omega), h3⟩⟩
theorem qEX.opn (h : qEX M S T a s N nc W o cd acc) (o' : Nat) : qEX (wI M 280 12 (nI o')) S T a s N nc W o' cd acc := by
  have hf : qFr (fun b j => b = 280 ∧ j = 12) M (wI M 280 12 (nI o')) := qFr.rf.wI ⟨rfl, rfl⟩
  exact ⟨h.1.fr hf (fun b j z => by omega), h.2.1.fr hf (fun b j z => by omega), wI_s _ _ _ _, (wI_k (by decide)).trans h.2.2.2.1, h.2.2.2.2⟩
theorem wtS.push (h : wtS M W) (w : Nat) : wtS (wI (wI M 318 W.length (nI w)) 280 54 (nI (W.length + 1))) (W ++ [w]) := by
  have l : (W ++ [w]).length = W.length + 1 := by rw [List.length_append]; rfl
  refine ⟨by rw [wI_s, l], fun i hi => ?_⟩
  rw [l] at hi
  rw [wI_a (by decide)]
  by_cases e : i = W.length
  · rw [e, wI_s, getD_end]
  · rw [wI_k e, h.2 i (by omega), getD_ahead (by omega)]
theorem qEX.push (h : qEX M S T a s N nc W o cd acc) (w : Nat) : qEX (wI (wI M 318 W.length (nI w)) 280 54 (nI (W.length + 1))) S T a s N nc (W ++ [w]) o cd acc := by
  have hf : qFr (fun b j => b = 318 ∨ (b = 280 ∧ j = 54)) M (wI (wI M 318 W.length (nI w)) 280 54 (nI (W.length + 1))) := (qFr.rf.wI (by omega)).wI (by omega)
  exact ⟨h.1.fr hf (fun b j z => by omega), h.2.1.push w, (hf.1 _ _ (by omega)).trans h.2.2.1, (hf.1 _ _ (by omega)).trans h.2.2.2.1, cellR_fr h.2.2.2.2 hf (fun j _ => by omega)⟩
theorem qEX.pop {w : Nat} (h : qEX M S T a s N nc (W ++ [w]) o cd acc) : qEX (wI M 280 54 (nI W.length)) S T a s N nc W o cd acc := by
  have hf : qFr (fun b j => b = 280 ∧ j = 54) M (wI M 280 54 (nI W.length)) := qFr.rf.wI ⟨rfl, rfl⟩
  have l : (W ++ [w]).length = W.length + 1 := by rw [List.length_append]; rfl
  exact ⟨h.1.fr hf (fun b j z => by omega), ⟨wI_s _ _ _ _, fun i hi => by rw [wI_a (by decide), h.2.1.2 i (by omega), getD_ahead hi]⟩, (wI_k (by decide)).trans h.2.2.1, (wI_k (by decide)).trans h.2.2.2.1, cellR_fr h.2.2.2.2 hf (fun j _ => by omega)⟩
theorem qEX.code {es : List Int32} (h : qEX M S T a s N nc W o cd acc) (hK : qYK M' S T a1 s N nc) (hc : M'.1 280 50 = nI (cd + acc.length + es.length)) (hr : cellR (M'.1 316) (M'.1 317) (cd + acc.length) es) (hf : qFr (SUn2 (cd + acc.length)) M M') : qEX M' S T a1 s N nc W o cd (acc ++ es) := ⟨hK, h.2.1.fr hf (fun b j z => by unfold SUn2 SYt at z; omega), (hf.1 _ _ (by unfold SUn2 SYt; omega)).trans h.2.2.1, by rw [List.length_append, ← Nat.add_assoc]; exact hc, cellR_a.mpr ⟨cellR_fr h.2.2.2.2 hf (fun j hj => by unfold SUn2 SYt; omega), hr⟩⟩
end EX
theorem dec_rev : ∀ L : List Nat, ∃ R B : List Nat, L = R ++ B ∧ (∀ r, r ∈ R → ¬ r = 6) ∧ (B = [] ∨ ∃ B', B = 6 :: B')
  | [] => ⟨[], [], rfl, fun r h => (nomatch h), Or.inl rfl⟩
  | w :: L => by
    by_cases c : w = 6
    · exact ⟨[], w :: L, rfl, fun r h => (nomatch h), Or.inr ⟨L, by rw [c]⟩⟩
    · obtain ⟨R, B, h1, h2, h3⟩ := dec_rev L
      refine ⟨w :: R, B, by rw [h1]; rfl, fun r hr => ?_, h3⟩
      rcases List.mem_cons.mp hr with h | h
      · rw [h]
        exact c
      · exact h2 r h
theorem dec_W (W : List Nat) : ∃ B R : List Nat, W = B ++ R.reverse ∧ (∀ r, r ∈ R → ¬ r = 6) ∧ (B = [] ∨ ∃ B', B = B' ++ [6]) := by
  obtain ⟨R, B, h1, h2, h3⟩ := dec_rev W.reverse
  refine ⟨B.reverse, R, ?_, h2, ?_⟩
  · rw [← List.reverse_append, ← h1, List.reverse_reverse]
  · rcases h3 with h | ⟨B', h⟩
    · exact Or.inl (by rw [h]; rfl)
    · exact Or.inr ⟨B'.reverse, by rw [h, List.reverse_cons]⟩
abbrev opA (k : Nat) : Prop := k = 0 ∨ k = 43 ∨ k = 45
abbrev opM (k : Nat) : Prop := k = 0 ∨ k = 42 ∨ k = 47
theorem opA.k {k : Nat} (h : opA k) : opK k := by unfold opK; omega
theorem opM.k {k : Nat} (h : opM k) : opK k := by unfold opK; omega
theorem wl_len (k : Nat) : (wl k).length ≤ 1 := by
  unfold wl
  split
  · exact Nat.zero_le _
  · exact Nat.le_refl _
theorem wl_em {k : Nat} (h : opK k) : (wl k).map emC = sgL k ∧ (wl k).length = pdN k := by
  rcases h with h | h | h | h | h <;> subst h <;> exact ⟨rfl, rfl⟩
theorem wl_rev (k : Nat) : (wl k).reverse = wl k := by
  unfold wl
  split <;> rfl
theorem wl_rev2 (j k : Nat) : (wl j ++ wl k).reverse = wl k ++ wl j := by rw [List.reverse_append, wl_rev, wl_rev]
theorem wl_ok {k : Nat} (h : opK k) : ∀ w, w ∈ wl k → w = 8 ∨ w = 9 ∨ w = 10 ∨ w = 15 := by
  rcases h with h | h | h | h | h <;> subst h <;> decide
theorem wlM_st {k : Nat} (h : opM k) : ∀ w, w ∈ wl k → ¬ stQ 1 w := by
  intro w hw
  unfold stQ
  rcases h with h | h | h <;> subst h
  · cases hw
  · have : w = 10 := List.mem_singleton.mp (show w ∈ [10] from hw)
    omega
  · have : w = 15 := List.mem_singleton.mp (show w ∈ [15] from hw)
    omega
theorem okW.app {A B : List Nat} (h1 : okW A) (h2 : okW B) : okW (A ++ B) := fun w hw => (List.mem_append.mp hw).elim (h1 w) (h2 w)
theorem okW.wl {k : Nat} (h : opK k) : okW (wl k) := fun w hw => Or.inr (wl_ok h w hw)
theorem okW.six : okW [6] := fun w hw => Or.inl (List.mem_singleton.mp hw)
theorem okW.lt {W : List Nat} (h : okW W) : ∀ w, w ∈ W → w < 100 := fun w hw => by have := h w hw; omega
def SE (S cd : Nat) : Nat → Nat → Prop := fun b j => (b = 280 ∧ (j = 11 ∨ j = 12 ∨ j = 13 ∨ j = 14 ∨ j = 50 ∨ j = 54)) ∨ b = 318 ∨ ((b = 316 ∨ b = 317) ∧ cd ≤ j ∧ j < 420 * S + 420)
abbrev okX (S : Nat) (T : qTk) (s : Nat × Nat) (N : qNm) (nc cd : Nat) (v : Nat × List Int32) (M' : qM) : Prop := qYK M' S T v.1 s N nc ∧ M'.1 280 12 = 0 ∧ M'.1 280 50 = nI (cd + v.2.length) ∧ cellR (M'.1 316) (M'.1 317) cd v.2
theorem opn_case {k : Nat} (h : opK k) : kmQ k = 8 ∨ kmQ k = 9 ∨ kmQ k = 10 ∨ kmQ k = 15 ∨ k = 0 := by
  rcases h with h | h | h | h | h <;> subst h <;> decide
/-- a unit, an E of the reference: from the reading of a unit (A) to what comes behind it (B) -/
def unC (S : Nat) (T : qTk) (s : Nat × Nat) (N : qNm) (nc cd ck : Nat) (res : Except qE (Nat × List Int32)) (F A B : qM → Prop) (n : Nat) : Prop := ∀ (a : Nat) (W : List Nat) (acc : List Int32) (M1 : qM), qEX M1 S T a s N nc W (6 - n) cd acc → okW W → W.length ≤ 3 * (6 - n) + 2 → ck + acc.length + W.length ≤ a → F M1 → (∀ e, unQ T (exS T n) a = .error e → res = .error e) → (∀ v, unQ T (exS T n) a = .ok v → ∀ M2, qEX M2 S T v.1 s N nc W (6 - n) cd (acc ++ v.2) → F M2 → B M2) → A M1
def loC (S : Nat) (T : qTk) (s : Nat × Nat) (N : qNm) (nc cd ck : Nat) (res : Except qE (Nat × List Int32)) (F A B : qM → Prop) (n : Nat) : Prop := ∀ (m a ad mu : Nat) (W : List Nat) (accP accS : List Int32) (M1 : qM), opA ad → opM mu → qEX M1 S T a s N nc (W ++ (wl ad ++ wl mu)) (6 - n) cd (accP ++ accS) → okW W → enW W → W.length ≤ 3 * (6 - n) → ck + (accP ++ accS).length + (W ++ (wl ad ++ wl mu)).length ≤ a → F M1 → 401 ≤ a + m → (∀ e, loQ T (unQ T (exS T n)) m a ad mu accS = .error e → res = .error e) → (∀ v, loQ T (unQ T (exS T n)) m a ad mu accS = .ok v → ∀ M2 ad' mu' acc1, opA ad' → opM mu' → qEX M2 S T v.1 s N nc (W ++ (wl ad' ++ wl mu')) (6 - n) cd acc1 → acc1 ++ sgL mu' ++ sgL ad' = accP ++ v.2 → ¬ (kAt T v.1 = 43 ∨ kAt T v.1 = 45 ∨ kAt T v.1 = 42 ∨ kAt T v.1 = 47) → ck + acc1.length + (W ++ (wl ad' ++ wl mu')).length ≤ v.1 → F M2 → B M2) → A M1
theorem exS_ok {T : qTk} (hT : okTk T) {n a : Nat} {v : Nat × List Int32} (h : unQ T (exS T n) a = .ok v) : a < v.1 ∧ v.1 ≤ 400 ∧ v.2.length + a ≤ v.1 := by
  have := un_ok (n := n) hT (S := exS T n) (fun F z => by
    cases n with
    | zero => cases z
    | succ k => cases z; exact ⟨by omega, fun a r h => ex_ok hT k a r h⟩) h
  exact ⟨this.1, this.2.1, this.2.2.1⟩
