/-! more rules: places as numbers, answers by equations; the references that stay -/
def qoffL : List (List Nat) := [[1, 2, 0, 0], [1, 2, 3, 0, 0, 0, 0], [1, 2, 3, 0, 0], [1, 2, 3, 4, 5, 6, 7, 8, 9, 10, 14, 0, 0, 0, 0, 0, 0], [1, 6, 7, 8, 0, 0, 0, 0, 0, 0, 0, 0], [1, 2, 0, 0, 0, 0, 0], [1, 2, 3, 4, 5, 0, 0, 0], [1, 0], [1, 2, 3, 4, 0, 0], [1, 2, 3, 0, 0], [1, 2, 3, 4, 0, 0], [1, 3, 12, 214, 218, 221, 224, 230, 236, 0, 0, 0], [0, 1, 0, 2, 0, 3, 4, 5, 6, 7, 0, 0, 0, 0, 0, 0, 0, 0, 0, 0, 0, 8, 9, 10, 11, 12, 13, 14, 15, 16, 17, 18, 19, 20, 21, 22, 23, 24, 25, 26, 27, 28, 29, 30, 0, 31, 32, 33, 34, 35, 0, 36, 37, 38, 0, 39, 40, 0, 41, 42, 0, 0, 43, 44, 0, 45, 46, 0, 47, 48, 0, 0, 0, 49, 50, 51, 52]]
def q_ref (a k : Nat) : Option Nat := if (qsh a).1 < 40 then (if (qoffL.getD (qsh a).1 []).getD k 0 = 0 then none else some (a + (qoffL.getD (qsh a).1 []).getD k 0)) else if a = 13 then (if k < 30 then some (16 + 6 * k) else none) else if a = 14 then (if k < 3 then some (196 + 6 * k) else none) else none
def qRf (M : qM) : Prop := ∀ a k x, q_ref a k = some x → M.2.2 a k = some x
def qFr (S : Nat → Nat → Prop) (M M' : qM) : Prop := (∀ b j, ¬ S b j → M'.1 b j = M.1 b j) ∧ (∀ b j, ¬ S b j → M'.2.1 b j = M.2.1 b j) ∧ M'.2.2 = M.2.2
theorem qRf.fr {S : Nat → Nat → Prop} {M M' : qM} (h : qRf M) (hf : qFr S M M') : qRf M' := fun a k x hx => by rw [hf.2.2]; exact h a k x hx
theorem qFr.rf {S : Nat → Nat → Prop} {M : qM} : qFr S M M := ⟨fun _ _ _ => rfl, fun _ _ _ => rfl, rfl⟩
theorem qFr.tr {S : Nat → Nat → Prop} {M M' M2 : qM} (h : qFr S M M') (h2 : qFr S M' M2) : qFr S M M2 := ⟨fun b j hb => (h2.1 b j hb).trans (h.1 b j hb), fun b j hb => (h2.2.1 b j hb).trans (h.2.1 b j hb), h2.2.2.trans h.2.2⟩
theorem qFr.mono {S S' : Nat → Nat → Prop} {M M' : qM} (h : qFr S M M') (hs : ∀ b j, S b j → S' b j) : qFr S' M M' := ⟨fun b j hb => h.1 b j (fun z => hb (hs b j z)), fun b j hb => h.2.1 b j (fun z => hb (hs b j z)), h.2.2⟩
theorem qFr.wI {S : Nat → Nat → Prop} {M M0 : qM} {a k : Nat} {x : Int32} (h : qFr S M0 M) (ha : S a k) : qFr S M0 (wI M a k x) := h.tr ⟨fun b j hb => if_neg (c := b = a ∧ j = k) (fun z => hb (by rw [z.1, z.2]; exact ha)), fun _ _ _ => rfl, rfl⟩
theorem qFr.wJ {S : Nat → Nat → Prop} {M M0 : qM} {a k : Nat} {x : Int64} (h : qFr S M0 M) (ha : S a k) : qFr S M0 (wJ M a k x) := h.tr ⟨fun _ _ _ => rfl, fun b j hb => if_neg (c := b = a ∧ j = k) (fun z => hb (by rw [z.1, z.2]; exact ha)), rfl⟩
theorem qFr.wC {S : Nat → Nat → Prop} {M M0 : qM} {b a k : Nat} (h : qFr S M0 M) (ha : ∀ j, j < k → S a j) : qFr S M0 (wC M b a k) := h.tr ⟨fun c j hc => if_neg (c := c = a ∧ j < k) (fun z => hc (by rw [z.1]; exact ha j z.2)), fun _ _ _ => rfl, rfl⟩
theorem wI_1 (M : qM) (a k : Nat) (x : Int32) (b j : Nat) : (wI M a k x).1 b j = if b = a ∧ j = k then x else M.1 b j := rfl
theorem wI_2 (M : qM) (a k : Nat) (x : Int32) : (wI M a k x).2 = M.2 := rfl
theorem wJ_1 (M : qM) (a k : Nat) (x : Int64) : (wJ M a k x).1 = M.1 := rfl
theorem wJ_2 (M : qM) (a k : Nat) (x : Int64) (b j : Nat) : (wJ M a k x).2.1 b j = if b = a ∧ j = k then x else M.2.1 b j := rfl
theorem wJ_3 (M : qM) (a k : Nat) (x : Int64) : (wJ M a k x).2.2 = M.2.2 := rfl
theorem wC_1 (M : qM) (b a k c j : Nat) : (wC M b a k).1 c j = if c = a ∧ j < k then M.1 b j else M.1 c j := rfl
theorem wC_2 (M : qM) (b a k : Nat) : (wC M b a k).2 = M.2 := rfl
theorem wI_s (M : qM) (a k : Nat) (x : Int32) : (wI M a k x).1 a k = x := if_pos ⟨rfl, rfl⟩
theorem wJ_s (M : qM) (a k : Nat) (x : Int64) : (wJ M a k x).2.1 a k = x := if_pos ⟨rfl, rfl⟩
theorem wI_o {M : qM} {a k : Nat} {x : Int32} {b j : Nat} (h : ¬ (b = a ∧ j = k)) : (wI M a k x).1 b j = M.1 b j := if_neg h
theorem wI_a {M : qM} {a k : Nat} {x : Int32} {b j : Nat} (h : b ≠ a) : (wI M a k x).1 b j = M.1 b j := if_neg (fun z => h z.1)
theorem wI_k {M : qM} {a k : Nat} {x : Int32} {b j : Nat} (h : j ≠ k) : (wI M a k x).1 b j = M.1 b j := if_neg (fun z => h z.2)
theorem qref_0_0 {a : Nat} (h : qsh a = (0, 0)) : q_ref a 0 = some (a + 1) := by unfold q_ref; rw [h]; rfl
theorem qref_0_1 {a : Nat} (h : qsh a = (0, 0)) : q_ref a 1 = some (a + 2) := by unfold q_ref; rw [h]; rfl
theorem qref_1_0 {a : Nat} (h : qsh a = (1, 0)) : q_ref a 0 = some (a + 1) := by unfold q_ref; rw [h]; rfl
theorem qref_1_1 {a : Nat} (h : qsh a = (1, 0)) : q_ref a 1 = some (a + 2) := by unfold q_ref; rw [h]; rfl
theorem qref_1_2 {a : Nat} (h : qsh a = (1, 0)) : q_ref a 2 = some (a + 3) := by unfold q_ref; rw [h]; rfl
theorem qref_2_0 {a : Nat} (h : qsh a = (2, 0)) : q_ref a 0 = some (a + 1) := by unfold q_ref; rw [h]; rfl
theorem qref_2_1 {a : Nat} (h : qsh a = (2, 0)) : q_ref a 1 = some (a + 2) := by unfold q_ref; rw [h]; rfl
theorem qref_2_2 {a : Nat} (h : qsh a = (2, 0)) : q_ref a 2 = some (a + 3) := by unfold q_ref; rw [h]; rfl
theorem qref_3_0 {a : Nat} (h : qsh a = (3, 0)) : q_ref a 0 = some (a + 1) := by unfold q_ref; rw [h]; rfl
theorem qref_3_1 {a : Nat} (h : qsh a = (3, 0)) : q_ref a 1 = some (a + 2) := by unfold q_ref; rw [h]; rfl
theorem qref_3_2 {a : Nat} (h : qsh a = (3, 0)) : q_ref a 2 = some (a + 3) := by unfold q_ref; rw [h]; rfl
theorem qref_3_3 {a : Nat} (h : qsh a = (3, 0)) : q_ref a 3 = some (a + 4) := by unfold q_ref; rw [h]; rfl
theorem qref_3_4 {a : Nat} (h : qsh a = (3, 0)) : q_ref a 4 = some (a + 5) := by unfold q_ref; rw [h]; rfl
theorem qref_3_5 {a : Nat} (h : qsh a = (3, 0)) : q_ref a 5 = some (a + 6) := by unfold q_ref; rw [h]; rfl
theorem qref_3_6 {a : Nat} (h : qsh a = (3, 0)) : q_ref a 6 = some (a + 7) := by unfold q_ref; rw [h]; rfl
theorem qref_3_7 {a : Nat} (h : qsh a = (3, 0)) : q_ref a 7 = some (a + 8) := by unfold q_ref; rw [h]; rfl
theorem qref_3_8 {a : Nat} (h : qsh a = (3, 0)) : q_ref a 8 = some (a + 9) := by unfold q_ref; rw [h]; rfl
theorem qref_3_9 {a : Nat} (h : qsh a = (3, 0)) : q_ref a 9 = some (a + 10) := by unfold q_ref; rw [h]; rfl
theorem qref_3_10 {a : Nat} (h : qsh a = (3, 0)) : q_ref a 10 = some (a + 14) := by unfold q_ref; rw [h]; rfl
theorem qref_4_0 {a : Nat} (h : qsh a = (4, 0)) : q_ref a 0 = some (a + 1) := by unfold q_ref; rw [h]; rfl
theorem qref_4_1 {a : Nat} (h : qsh a = (4, 0)) : q_ref a 1 = some (a + 6) := by unfold q_ref; rw [h]; rfl
theorem qref_4_2 {a : Nat} (h : qsh a = (4, 0)) : q_ref a 2 = some (a + 7) := by unfold q_ref; rw [h]; rfl
theorem qref_4_3 {a : Nat} (h : qsh a = (4, 0)) : q_ref a 3 = some (a + 8) := by unfold q_ref; rw [h]; rfl
theorem qref_5_0 {a : Nat} (h : qsh a = (5, 0)) : q_ref a 0 = some (a + 1) := by unfold q_ref; rw [h]; rfl
theorem qref_5_1 {a : Nat} (h : qsh a = (5, 0)) : q_ref a 1 = some (a + 2) := by unfold q_ref; rw [h]; rfl
theorem qref_6_0 {a : Nat} (h : qsh a = (6, 0)) : q_ref a 0 = some (a + 1) := by unfold q_ref; rw [h]; rfl
theorem qref_6_1 {a : Nat} (h : qsh a = (6, 0)) : q_ref a 1 = some (a + 2) := by unfold q_ref; rw [h]; rfl
theorem qref_6_2 {a : Nat} (h : qsh a = (6, 0)) : q_ref a 2 = some (a + 3) := by unfold q_ref; rw [h]; rfl
theorem qref_6_3 {a : Nat} (h : qsh a = (6, 0)) : q_ref a 3 = some (a + 4) := by unfold q_ref; rw [h]; rfl
theorem qref_6_4 {a : Nat} (h : qsh a = (6, 0)) : q_ref a 4 = some (a + 5) := by unfold q_ref; rw [h]; rfl
theorem qref_7_0 {a : Nat} (h : qsh a = (7, 0)) : q_ref a 0 = some (a + 1) := by unfold q_ref; rw [h]; rfl
theorem qref_8_0 {a : Nat} (h : qsh a = (8, 0)) : q_ref a 0 = some (a + 1) := by unfold q_ref; rw [h]; rfl
theorem qref_8_1 {a : Nat} (h : qsh a = (8, 0)) : q_ref a 1 = some (a + 2) := by unfold q_ref; rw [h]; rfl
theorem qref_8_2 {a : Nat} (h : qsh a = (8, 0)) : q_ref a 2 = some (a + 3) := by unfold q_ref; rw [h]; rfl
theorem qref_8_3 {a : Nat} (h : qsh a = (8, 0)) : q_ref a 3 = some (a + 4) := by unfold q_ref; rw [h]; rfl
theorem qref_9_0 {a : Nat} (h : qsh a = (9, 0)) : q_ref a 0 = some (a + 1) := by unfold q_ref; rw [h]; rfl
theorem qref_9_1 {a : Nat} (h : qsh a = (9, 0)) : q_ref a 1 = some (a + 2) := by unfold q_ref; rw [h]; rfl
theorem qref_9_2 {a : Nat} (h : qsh a = (9, 0)) : q_ref a 2 = some (a + 3) := by unfold q_ref; rw [h]; rfl
theorem qref_10_0 {a : Nat} (h : qsh a = (10, 0)) : q_ref a 0 = some (a + 1) := by unfold q_ref; rw [h]; rfl
theorem qref_10_1 {a : Nat} (h : qsh a = (10, 0)) : q_ref a 1 = some (a + 2) := by unfold q_ref; rw [h]; rfl
theorem qref_10_2 {a : Nat} (h : qsh a = (10, 0)) : q_ref a 2 = some (a + 3) := by unfold q_ref; rw [h]; rfl
theorem qref_10_3 {a : Nat} (h : qsh a = (10, 0)) : q_ref a 3 = some (a + 4) := by unfold q_ref; rw [h]; rfl
theorem qref_11_0 {a : Nat} (h : qsh a = (11, 0)) : q_ref a 0 = some (a + 1) := by unfold q_ref; rw [h]; rfl
theorem qref_11_1 {a : Nat} (h : qsh a = (11, 0)) : q_ref a 1 = some (a + 3) := by unfold q_ref; rw [h]; rfl
theorem qref_11_2 {a : Nat} (h : qsh a = (11, 0)) : q_ref a 2 = some (a + 12) := by unfold q_ref; rw [h]; rfl
theorem qref_11_3 {a : Nat} (h : qsh a = (11, 0)) : q_ref a 3 = some (a + 214) := by unfold q_ref; rw [h]; rfl
theorem qref_11_4 {a : Nat} (h : qsh a = (11, 0)) : q_ref a 4 = some (a + 218) := by unfold q_ref; rw [h]; rfl
theorem qref_11_5 {a : Nat} (h : qsh a = (11, 0)) : q_ref a 5 = some (a + 221) := by unfold q_ref; rw [h]; rfl
theorem qref_11_6 {a : Nat} (h : qsh a = (11, 0)) : q_ref a 6 = some (a + 224) := by unfold q_ref; rw [h]; rfl
theorem qref_11_7 {a : Nat} (h : qsh a = (11, 0)) : q_ref a 7 = some (a + 230) := by unfold q_ref; rw [h]; rfl
theorem qref_11_8 {a : Nat} (h : qsh a = (11, 0)) : q_ref a 8 = some (a + 236) := by unfold q_ref; rw [h]; rfl
theorem qref_12_1 {a : Nat} (h : qsh a = (12, 0)) : q_ref a 1 = some (a + 1) := by unfold q_ref; rw [h]; rfl
theorem qref_12_3 {a : Nat} (h : qsh a = (12, 0)) : q_ref a 3 = some (a + 2) := by unfold q_ref; rw [h]; rfl
theorem qref_12_5 {a : Nat} (h : qsh a = (12, 0)) : q_ref a 5 = some (a + 3) := by unfold q_ref; rw [h]; rfl
theorem qref_12_6 {a : Nat} (h : qsh a = (12, 0)) : q_ref a 6 = some (a + 4) := by unfold q_ref; rw [h]; rfl
theorem qref_12_7 {a : Nat} (h : qsh a = (12, 0)) : q_ref a 7 = some (a + 5) := by unfold q_ref; rw [h]; rfl
theorem qref_12_8 {a : Nat} (h : qsh a = (12, 0)) : q_ref a 8 = some (a + 6) := by unfold q_ref; rw [h]; rfl
theorem qref_12_9 {a : Nat} (h : qsh a = (12, 0)) : q_ref a 9 = some (a + 7) := by unfold q_ref; rw [h]; rfl
theorem qref_12_21 {a : Nat} (h : qsh a = (12, 0)) : q_ref a 21 = some (a + 8) := by unfold q_ref; rw [h]; rfl
theorem qref_12_22 {a : Nat} (h : qsh a = (12, 0)) : q_ref a 22 = some (a + 9) := by unfold q_ref; rw [h]; rfl
theorem qref_12_23 {a : Nat} (h : qsh a = (12, 0)) : q_ref a 23 = some (a + 10) := by unfold q_ref; rw [h]; rfl
theorem qref_12_24 {a : Nat} (h : qsh a = (12, 0)) : q_ref a 24 = some (a + 11) := by unfold q_ref; rw [h]; rfl
theorem qref_12_25 {a : Nat} (h : qsh a = (12, 0)) : q_ref a 25 = some (a + 12) := by unfold q_ref; rw [h]; rfl
theorem qref_12_26 {a : Nat} (h : qsh a = (12, 0)) : q_ref a 26 = some (a + 13) := by unfold q_ref; rw [h]; rfl
theorem qref_12_27 {a : Nat} (h : qsh a = (12, 0)) : q_ref a 27 = some (a + 14) := by unfold q_ref; rw [h]; rfl
theorem qref_12_28 {a : Nat} (h : qsh a = (12, 0)) : q_ref a 28 = some (a + 15) := by unfold q_ref; rw [h]; rfl
theorem qref_12_29 {a : Nat} (h : qsh a = (12, 0)) : q_ref a 29 = some (a + 16) := by unfold q_ref; rw [h]; rfl
theorem qref_12_30 {a : Nat} (h : qsh a = (12, 0)) : q_ref a 30 = some (a + 17) := by unfold q_ref; rw [h]; rfl
theorem qref_12_31 {a : Nat} (h : qsh a = (12, 0)) : q_ref a 31 = some (a + 18) := by unfold q_ref; rw [h]; rfl
theorem qref_12_32 {a : Nat} (h : qsh a = (12, 0)) : q_ref a 32 = some (a + 19) := by unfold q_ref; rw [h]; rfl
theorem qref_12_33 {a : Nat} (h : qsh a = (12, 0)) : q_ref a 33 = some (a + 20) := by unfold q_ref; rw [h]; rfl
theorem qref_12_34 {a : Nat} (h : qsh a = (12, 0)) : q_ref a 34 = some (a + 21) := by unfold q_ref; rw [h]; rfl
theorem qref_12_35 {a : Nat} (h : qsh a = (12, 0)) : q_ref a 35 = some (a + 22) := by unfold q_ref; rw [h]; rfl
theorem qref_12_36 {a : Nat} (h : qsh a = (12, 0)) : q_ref a 36 = some (a + 23) := by unfold q_ref; rw [h]; rfl
theorem qref_12_37 {a : Nat} (h : qsh a = (12, 0)) : q_ref a 37 = some (a + 24) := by unfold q_ref; rw [h]; rfl
theorem qref_12_38 {a : Nat} (h : qsh a = (12, 0)) : q_ref a 38 = some (a + 25) := by unfold q_ref; rw [h]; rfl
theorem qref_12_39 {a : Nat} (h : qsh a = (12, 0)) : q_ref a 39 = some (a + 26) := by unfold q_ref; rw [h]; rfl
theorem qref_12_40 {a : Nat} (h : qsh a = (12, 0)) : q_ref a 40 = some (a + 27) := by unfold q_ref; rw [h]; rfl
theorem qref_12_41 {a : Nat} (h : qsh a = (12, 0)) : q_ref a 41 = some (a + 28) := by unfold q_ref; rw [h]; rfl
theorem qref_12_42 {a : Nat} (h : qsh a = (12, 0)) : q_ref a 42 = some (a + 29) := by unfold q_ref; rw [h]; rfl
theorem qref_12_43 {a : Nat} (h : qsh a = (12, 0)) : q_ref a 43 = some (a + 30) := by unfold q_ref; rw [h]; rfl
theorem qref_12_45 {a : Nat} (h : qsh a = (12, 0)) : q_ref a 45 = some (a + 31) := by unfold q_ref; rw [h]; rfl
theorem qref_12_46 {a : Nat} (h : qsh a = (12, 0)) : q_ref a 46 = some (a + 32) := by unfold q_ref; rw [h]; rfl
theorem qref_12_47 {a : Nat} (h : qsh a = (12, 0)) : q_ref a 47 = some (a + 33) := by unfold q_ref; rw [h]; rfl
theorem qref_12_48 {a : Nat} (h : qsh a = (12, 0)) : q_ref a 48 = some (a + 34) := by unfold q_ref; rw [h]; rfl
theorem qref_12_49 {a : Nat} (h : qsh a = (12, 0)) : q_ref a 49 = some (a + 35) := by unfold q_ref; rw [h]; rfl
theorem qref_12_51 {a : Nat} (h : qsh a = (12, 0)) : q_ref a 51 = some (a + 36) := by unfold q_ref; rw [h]; rfl
theorem qref_12_52 {a : Nat} (h : qsh a = (12, 0)) : q_ref a 52 = some (a + 37) := by unfold q_ref; rw [h]; rfl
theorem qref_12_53 {a : Nat} (h : qsh a = (12, 0)) : q_ref a 53 = some (a + 38) := by unfold q_ref; rw [h]; rfl
theorem qref_12_55 {a : Nat} (h : qsh a = (12, 0)) : q_ref a 55 = some (a + 39) := by unfold q_ref; rw [h]; rfl
theorem qref_12_56 {a : Nat} (h : qsh a = (12, 0)) : q_ref a 56 = some (a + 40) := by unfold q_ref; rw [h]; rfl
theorem qref_12_58 {a : Nat} (h : qsh a = (12, 0)) : q_ref a 58 = some (a + 41) := by unfold q_ref; rw [h]; rfl
theorem qref_12_59 {a : Nat} (h : qsh a = (12, 0)) : q_ref a 59 = some (a + 42) := by unfold q_ref; rw [h]; rfl
theorem qref_12_62 {a : Nat} (h : qsh a = (12, 0)) : q_ref a 62 = some (a + 43) := by unfold q_ref; rw [h]; rfl
theorem qref_12_63 {a : Nat} (h : qsh a = (12, 0)) : q_ref a 63 = some (a + 44) := by unfold q_ref; rw [h]; rfl
theorem qref_12_65 {a : Nat} (h : qsh a = (12, 0)) : q_ref a 65 = some (a + 45) := by unfold q_ref; rw [h]; rfl
theorem qref_12_66 {a : Nat} (h : qsh a = (12, 0)) : q_ref a 66 = some (a + 46) := by unfold q_ref; rw [h]; rfl
theorem qref_12_68 {a : Nat} (h : qsh a = (12, 0)) : q_ref a 68 = some (a + 47) := by unfold q_ref; rw [h]; rfl
theorem qref_12_69 {a : Nat} (h : qsh a = (12, 0)) : q_ref a 69 = some (a + 48) := by unfold q_ref; rw [h]; rfl
theorem qref_12_73 {a : Nat} (h : qsh a = (12, 0)) : q_ref a 73 = some (a + 49) := by unfold q_ref; rw [h]; rfl
theorem qref_12_74 {a : Nat} (h : qsh a = (12, 0)) : q_ref a 74 = some (a + 50) := by unfold q_ref; rw [h]; rfl
theorem qref_12_75 {a : Nat} (h : qsh a = (12, 0)) : q_ref a 75 = some (a + 51) := by unfold q_ref; rw [h]; rfl
theorem qref_12_76 {a : Nat} (h : qsh a = (12, 0)) : q_ref a 76 = some (a + 52) := by unfold q_ref; rw [h]; rfl
theorem qref_e {k : Nat} (h : k < 30) : q_ref 13 k = some (16 + 6 * k) := by show (if k < 30 then _ else _) = _; rw [if_pos h]
theorem qref_s {k : Nat} (h : k < 3) : q_ref 14 k = some (196 + 6 * k) := by show (if k < 3 then _ else _) = _; rw [if_pos h]
theorem pn_RJ0 : plainName RJ0 = true := by decide +kernel
theorem pn_RJ1 : plainName RJ1 = true := by decide +kernel
theorem pn_RJ11 : plainName RJ11 = true := by decide +kernel
theorem pn_RJ2 : plainName RJ2 = true := by decide +kernel
theorem pn_RJ3 : plainName RJ3 = true := by decide +kernel
theorem pn_RJ6 : plainName RJ6 = true := by decide +kernel
theorem pn_RL : plainName RL = true := by decide +kernel
theorem pn_RX0 : plainName RX0 = true := by decide +kernel
theorem pn_RX1 : plainName RX1 = true := by decide +kernel
theorem pn_RX10 : plainName RX10 = true := by decide +kernel
theorem pn_RX11 : plainName RX11 = true := by decide +kernel
theorem pn_RX12 : plainName RX12 = true := by decide +kernel
theorem pn_RX2 : plainName RX2 = true := by decide +kernel
theorem pn_RX3 : plainName RX3 = true := by decide +kernel
theorem pn_RX4 : plainName RX4 = true := by decide +kernel
theorem pn_RX5 : plainName RX5 = true := by decide +kernel
theorem pn_RX6 : plainName RX6 = true := by decide +kernel
theorem pn_RX7 : plainName RX7 = true := by decide +kernel
theorem pn_RX8 : plainName RX8 = true := by decide +kernel
theorem pn_RX9 : plainName RX9 = true := by decide +kernel
abbrev qZI (g : qG) (Q : Int32 → qM → Prop) : List Frame → Array Value → State → State → Prop := qZ g (fun v n' M' => n' = 333 ∧ ∃ r : Int32, v = some (.int r) ∧ Q r M') 0 0
abbrev qZJ (g : qG) (Q : Int64 → qM → Prop) : List Frame → Array Value → State → State → Prop := qZ g (fun v n' M' => n' = 333 ∧ ∃ r : Int64, v = some (.long r) ∧ Q r M') 0 0
abbrev qZV (g : qG) (Q : qM → Prop) : List Frame → Array Value → State → State → Prop := qZ g (fun v n' M' => n' = 333 ∧ v = none ∧ Q M') 0 0
abbrev qZN (g : qG) (mc ms n2 : Nat) (Q : qM → Prop) : List Frame → Array Value → State → State → Prop := qZ g (fun v n' M' => n' = n2 ∧ v = none ∧ Q M') mc ms
section More
variable {g : qG} {K K' : qKt} {R : Room} {Z : List Frame → Array Value → State → State → Prop} {pc n d k idx : Nat} {L : List (Option Value)} {st stk As : List Value} {M : qM} {cs : Nat × Nat} {a j : Nat}
theorem qi_ialdN {len : Nat} {i : Int32} {x : Int32} (hd : decode K.2.1 pc = .ok (.iaload, 1)) (hs : qsh a = (40, len)) (ha : a < n) (hi : i = nI j) (hj : j < len) (hl : len < 10000) (hx : M.1 a j = x) (kk : qT g K R Z (pc + 1) L (.int x :: st) n M cs) : qT g K R Z pc L (.int i :: .ref a :: st) n M cs := by
  subst hi
  exact qi_iald hd hs ha (vp_in_nI hj (by omega)) (by rw [nI_clamp (by omega)]; exact hx) kk
theorem qi_baldN {len : Nat} {i : Int32} {x : Int32} (hd : decode K.2.1 pc = .ok (.baload, 1)) (hs : qsh a = (42, len)) (ha : a < n) (hi : i = nI j) (hj : j < len) (hl : len < 10000) (hx : M.1 a j = x) (kk : qT g K R Z (pc + 1) L (.int x :: st) n M cs) : qT g K R Z pc L (.int i :: .ref a :: st) n M cs := by
  subst hi
  exact qi_bald hd hs ha (vp_in_nI hj (by omega)) (by rw [nI_clamp (by omega)]; exact hx) kk
theorem qi_zaldN {len : Nat} {i : Int32} {x : Int32} (hd : decode K.2.1 pc = .ok (.baload, 1)) (hs : qsh a = (43, len)) (ha : a < n) (hi : i = nI j) (hj : j < len) (hl : len < 10000) (hx : M.1 a j = x) (kk : qT g K R Z (pc + 1) L (.int x :: st) n M cs) : qT g K R Z pc L (.int i :: .ref a :: st) n M cs := by
  subst hi
  exact qi_zald hd hs ha (vp_in_nI hj (by omega)) (by rw [nI_clamp (by omega)]; exact hx) kk
theorem qi_laldN {len : Nat} {i : Int32} {x : Int64} (hd : decode K.2.1 pc = .ok (.laload, 1)) (hs : qsh a = (41, len)) (ha : a < n) (hi : i = nI j) (hj : j < len) (hl : len < 10000) (hx : M.2.1 a j = x) (kk : qT g K R Z (pc + 1) L (.long x :: st) n M cs) : qT g K R Z pc L (.int i :: .ref a :: st) n M cs := by
  subst hi
  exact qi_lald hd hs ha (vp_in_nI hj (by omega)) (by rw [nI_clamp (by omega)]; exact hx) kk
theorem qi_aaldN {len x : Nat} {i : Int32} (hd : decode K.2.1 pc = .ok (.aaload, 1)) (hs : qsh a = (44, len)) (ha : a < n) (hi : i = nI j) (hj : j < len) (hl : len < 10000) (hx : M.2.2 a j = some x) (kk : qT g K R Z (pc + 1) L (.ref x :: st) n M cs) : qT g K R Z pc L (.int i :: .ref a :: st) n M cs := by
  subst hi
  exact qi_aald hd hs ha (vp_in_nI hj (by omega)) (by rw [nI_clamp (by omega)]; exact hx) kk
theorem qi_iastN {len : Nat} {i : Int32} {x : Int32} (hd : decode K.2.1 pc = .ok (.iastore, 1)) (hs : qsh a = (40, len)) (ha : a < n) (hi : i = nI j) (hj : j < len) (hl : len < 10000)  (kk : qT g K R Z (pc + 1) L st n (wI M a j x) cs) : qT g K R Z pc L (.int x :: .int i :: .ref a :: st) n M cs := by
  subst hi
  refine qi_iast hd hs ha (vp_in_nI hj (by omega))  ?_
  rw [nI_clamp (by omega)]
  exact kk
theorem qi_bastN {len : Nat} {i : Int32} {x : Int32} (hd : decode K.2.1 pc = .ok (.bastore, 1)) (hs : qsh a = (42, len)) (ha : a < n) (hi : i = nI j) (hj : j < len) (hl : len < 10000) (hb : narrow .byte (.int x) = .int x) (kk : qT g K R Z (pc + 1) L st n (wI M a j x) cs) : qT g K R Z pc L (.int x :: .int i :: .ref a :: st) n M cs := by
  subst hi
  refine qi_bast hd hs ha (vp_in_nI hj (by omega)) hb ?_
  rw [nI_clamp (by omega)]
  exact kk
theorem qi_zastN {len : Nat} {i : Int32} {x : Int32} (hd : decode K.2.1 pc = .ok (.bastore, 1)) (hs : qsh a = (43, len)) (ha : a < n) (hi : i = nI j) (hj : j < len) (hl : len < 10000) (hb : narrow .boolean (.int x) = .int x) (kk : qT g K R Z (pc + 1) L st n (wI M a j x) cs) : qT g K R Z pc L (.int x :: .int i :: .ref a :: st) n M cs := by
  subst hi
  refine qi_zast hd hs ha (vp_in_nI hj (by omega)) hb ?_
  rw [nI_clamp (by omega)]
  exact kk
theorem qi_lastN {len : Nat} {i : Int32} {x : Int64} (hd : decode K.2.1 pc = .ok (.lastore, 1)) (hs : qsh a = (41, len)) (ha : a < n) (hi : i = nI j) (hj : j < len) (hl : len < 10000)  (kk : qT g K R Z (pc + 1) L st n (wJ M a j x) cs) : qT g K R Z pc L (.long x :: .int i :: .ref a :: st) n M cs := by
  subst hi
  refine qi_last hd hs ha (vp_in_nI hj (by omega))  ?_
  rw [nI_clamp (by omega)]
  exact kk
theorem qi_aastN {len x : Nat} {i : Int32} (hd : decode K.2.1 pc = .ok (.aastore, 1)) (hs : qsh a = (44, len)) (ha : a < n) (hi : i = nI j) (hj : j < len) (hl : len < 10000) (hsx : qsh x = (6, 0)) (hx : x < n) (kk : qT g K R Z (pc + 1) L st n (wR M a j (some x)) cs) : qT g K R Z pc L (.ref x :: .int i :: .ref a :: st) n M cs := by
  subst hi
  refine qi_aast hd hs ha (vp_in_nI hj (by omega)) hsx hx ?_
  rw [nI_clamp (by omega)]
  exact kk
theorem qe_top {x y : Int32} (h : x = y) (kk : qT g K R Z pc L (.int y :: st) n M cs) : qT g K R Z pc L (.int x :: st) n M cs := by rw [h]; exact kk
theorem qe_topJ {x y : Int64} (h : x = y) (kk : qT g K R Z pc L (.long y :: st) n M cs) : qT g K R Z pc L (.long x :: st) n M cs := by rw [h]; exact kk
theorem qe_snd {x y : Int32} {v : Value} (h : x = y) (kk : qT g K R Z pc L (v :: .int y :: st) n M cs) : qT g K R Z pc L (v :: .int x :: st) n M cs := by rw [h]; exact kk
theorem qe_mem {M' : qM} (h : M = M') (kk : qT g K R Z pc L st n M' cs) : qT g K R Z pc L st n M cs := by rw [h]; exact kk
theorem qi_callPVI {b c : Nat} {v : Int32} (hlk : qLV K.1.cls idx K') (hok : qok K' k) (hd : decode K.2.1 pc = .ok (.invokevirtual idx, 3)) (hm : qI g d K' (.ref b :: As) M (fun r M' => r = v ∧ M' = M)) (hb : qsh b = (c, 0)) (hc : c < 40) (hbc : (q_cl[c]?).map (fun q => q.1) = some K'.1.cls) (hbn : b < 333) (hstk : stk = As.reverse ++ .ref b :: st) (hk : As.length = k) (hst : (st.map fun v => v.category).sum ≤ 8) (hR : d + 1 ≤ R.frames ∧ 8 + (K'.2.2.1 + 11) + 40 * d ≤ R.locals) (hcs : cs.1 ≤ R.cells ∧ cs.2 ≤ R.slots) (kk : qT g K R Z (pc + 3) L (.int v :: st) 333 M cs) : qT g K R Z pc L stk 333 M cs := by
  refine qi_callVI hlk hok hd hm hb hc hbc hbn hstk hk hst hR hcs (fun r M' h => ?_)
  obtain ⟨rfl, rfl⟩ := h
  exact kk
theorem qi_callPVJ {b c : Nat} {v : Int64} (hlk : qLV K.1.cls idx K') (hok : qok K' k) (hd : decode K.2.1 pc = .ok (.invokevirtual idx, 3)) (hm : qJ g d K' (.ref b :: As) M (fun r M' => r = v ∧ M' = M)) (hb : qsh b = (c, 0)) (hc : c < 40) (hbc : (q_cl[c]?).map (fun q => q.1) = some K'.1.cls) (hbn : b < 333) (hstk : stk = As.reverse ++ .ref b :: st) (hk : As.length = k) (hst : (st.map fun v => v.category).sum ≤ 8) (hR : d + 1 ≤ R.frames ∧ 8 + (K'.2.2.1 + 11) + 40 * d ≤ R.locals) (hcs : cs.1 ≤ R.cells ∧ cs.2 ≤ R.slots) (kk : qT g K R Z (pc + 3) L (.long v :: st) 333 M cs) : qT g K R Z pc L stk 333 M cs := by
  refine qi_callVJ hlk hok hd hm hb hc hbc hbn hstk hk hst hR hcs (fun r M' h => ?_)
  obtain ⟨rfl, rfl⟩ := h
  exact kk
theorem qi_callPSI {v : Int32} (hlk : qLS K.1.cls idx K') (hok : qok K' k) (hd : decode K.2.1 pc = .ok (.invokestatic idx, 3)) (hm : qI g d K' As M (fun r M' => r = v ∧ M' = M)) (hstk : stk = As.reverse ++ st) (hk : As.length = k) (hst : (st.map fun v => v.category).sum ≤ 8) (hR : d + 1 ≤ R.frames ∧ 8 + (K'.2.2.1 + 11) + 40 * d ≤ R.locals) (hcs : cs.1 ≤ R.cells ∧ cs.2 ≤ R.slots) (kk : qT g K R Z (pc + 3) L (.int v :: st) 333 M cs) : qT g K R Z pc L stk 333 M cs := by
  refine qi_callSI hlk hok hd hm hstk hk hst hR hcs (fun r M' h => ?_)
  obtain ⟨rfl, rfl⟩ := h
  exact kk
theorem qi_callPSJ {v : Int64} (hlk : qLS K.1.cls idx K') (hok : qok K' k) (hd : decode K.2.1 pc = .ok (.invokestatic idx, 3)) (hm : qJ g d K' As M (fun r M' => r = v ∧ M' = M)) (hstk : stk = As.reverse ++ st) (hk : As.length = k) (hst : (st.map fun v => v.category).sum ≤ 8) (hR : d + 1 ≤ R.frames ∧ 8 + (K'.2.2.1 + 11) + 40 * d ≤ R.locals) (hcs : cs.1 ≤ R.cells ∧ cs.2 ≤ R.slots) (kk : qT g K R Z (pc + 3) L (.long v :: st) 333 M cs) : qT g K R Z pc L stk 333 M cs := by
  refine qi_callSJ hlk hok hd hm hstk hk hst hR hcs (fun r M' h => ?_)
  obtain ⟨rfl, rfl⟩ := h
  exact kk
theorem qi_callPSNI {v : Int32} (hlk : qLSN K.1.cls idx K') (hok : qok K' k) (hd : decode K.2.1 pc = .ok (.invokestatic idx, 3)) (hm : qI g d K' As M (fun r M' => r = v ∧ M' = M)) (hstk : stk = As.reverse ++ st) (hk : As.length = k) (hst : (st.map fun v => v.category).sum ≤ 8) (hR : d + 1 ≤ R.frames ∧ 8 + (K'.2.2.1 + 11) + 40 * d ≤ R.locals) (hcs : cs.1 ≤ R.cells ∧ cs.2 ≤ R.slots) (kk : qT g K R Z (pc + 3) L (.int v :: st) 333 M cs) : qT g K R Z pc L stk 333 M cs := by
  refine qi_callSNI hlk hok hd hm hstk hk hst hR hcs (fun r M' h => ?_)
  obtain ⟨rfl, rfl⟩ := h
  exact kk
theorem qi_callPSNJ {v : Int64} (hlk : qLSN K.1.cls idx K') (hok : qok K' k) (hd : decode K.2.1 pc = .ok (.invokestatic idx, 3)) (hm : qJ g d K' As M (fun r M' => r = v ∧ M' = M)) (hstk : stk = As.reverse ++ st) (hk : As.length = k) (hst : (st.map fun v => v.category).sum ≤ 8) (hR : d + 1 ≤ R.frames ∧ 8 + (K'.2.2.1 + 11) + 40 * d ≤ R.locals) (hcs : cs.1 ≤ R.cells ∧ cs.2 ≤ R.slots) (kk : qT g K R Z (pc + 3) L (.long v :: st) 333 M cs) : qT g K R Z pc L stk 333 M cs := by
  refine qi_callSNJ hlk hok hd hm hstk hk hst hR hcs (fun r M' h => ?_)
  obtain ⟨rfl, rfl⟩ := h
  exact kk
end More
