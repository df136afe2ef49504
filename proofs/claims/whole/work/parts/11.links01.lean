theorem ty0_0 : qTy 0 0 true (fun ty => ∀ y : Nat, narrow ty (.ref y) = .ref y ∧ fits ty (.ref y) = true) := ⟨RX0, TX0, 4, tyX0 0, rfl, rfl, by decide +kernel, fun y => ⟨rfl, rfl⟩, rfl⟩
theorem ty0_1 : qTy 0 1 true (fun ty => ∀ y : Nat, narrow ty (.ref y) = .ref y ∧ fits ty (.ref y) = true) := ⟨RX0, TX0, 4, tyX0 1, rfl, rfl, by decide +kernel, fun y => ⟨rfl, rfl⟩, rfl⟩
theorem ty0_2 (x : Int32) : qTy 0 2 false (fun ty => narrow ty (.int x) = .int x ∧ fits ty (.int x) = true) := ⟨RX0, TX0, 4, .int, rfl, rfl, by decide +kernel, ⟨rfl, rfl⟩, rfl⟩
theorem ty0_3 (x : Int32) : qTy 0 3 false (fun ty => narrow ty (.int x) = .int x ∧ fits ty (.int x) = true) := ⟨RX0, TX0, 4, .int, rfl, rfl, by decide +kernel, ⟨rfl, rfl⟩, rfl⟩
theorem ty1_0 : qTy 1 0 true (fun ty => ∀ y : Nat, narrow ty (.ref y) = .ref y ∧ fits ty (.ref y) = true) := ⟨RX1, TX1, 7, tyX1 0, rfl, rfl, by decide +kernel, fun y => ⟨rfl, rfl⟩, rfl⟩
theorem ty1_1 : qTy 1 1 true (fun ty => ∀ y : Nat, narrow ty (.ref y) = .ref y ∧ fits ty (.ref y) = true) := ⟨RX1, TX1, 7, tyX1 1, rfl, rfl, by decide +kernel, fun y => ⟨rfl, rfl⟩, rfl⟩
theorem ty1_2 : qTy 1 2 true (fun ty => ∀ y : Nat, narrow ty (.ref y) = .ref y ∧ fits ty (.ref y) = true) := ⟨RX1, TX1, 7, tyX1 2, rfl, rfl, by decide +kernel, fun y => ⟨rfl, rfl⟩, rfl⟩
theorem ty1_3 (x : Int32) : qTy 1 3 false (fun ty => narrow ty (.int x) = .int x ∧ fits ty (.int x) = true) := ⟨RX1, TX1, 7, .int, rfl, rfl, by decide +kernel, ⟨rfl, rfl⟩, rfl⟩
theorem ty1_4 (x : Int32) : qTy 1 4 false (fun ty => narrow ty (.int x) = .int x ∧ fits ty (.int x) = true) := ⟨RX1, TX1, 7, .int, rfl, rfl, by decide +kernel, ⟨rfl, rfl⟩, rfl⟩
theorem ty1_5 (x : Int32) : qTy 1 5 false (fun ty => narrow ty (.int x) = .int x ∧ fits ty (.int x) = true) := ⟨RX1, TX1, 7, .int, rfl, rfl, by decide +kernel, ⟨rfl, rfl⟩, rfl⟩
theorem ty1_6 (x : Int32) : qTy 1 6 false (fun ty => narrow ty (.int x) = .int x ∧ fits ty (.int x) = true) := ⟨RX1, TX1, 7, .int, rfl, rfl, by decide +kernel, ⟨rfl, rfl⟩, rfl⟩
theorem ty2_0 : qTy 2 0 true (fun ty => ∀ y : Nat, narrow ty (.ref y) = .ref y ∧ fits ty (.ref y) = true) := ⟨RX2, TX2, 5, tyX2 0, rfl, rfl, by decide +kernel, fun y => ⟨rfl, rfl⟩, rfl⟩
theorem ty2_1 : qTy 2 1 true (fun ty => ∀ y : Nat, narrow ty (.ref y) = .ref y ∧ fits ty (.ref y) = true) := ⟨RX2, TX2, 5, tyX2 1, rfl, rfl, by decide +kernel, fun y => ⟨rfl, rfl⟩, rfl⟩
theorem ty2_2 : qTy 2 2 true (fun ty => ∀ y : Nat, narrow ty (.ref y) = .ref y ∧ fits ty (.ref y) = true) := ⟨RX2, TX2, 5, tyX2 2, rfl, rfl, by decide +kernel, fun y => ⟨rfl, rfl⟩, rfl⟩
theorem ty2_3 (x : Int32) : qTy 2 3 false (fun ty => narrow ty (.int x) = .int x ∧ fits ty (.int x) = true) := ⟨RX2, TX2, 5, .int, rfl, rfl, by decide +kernel, ⟨rfl, rfl⟩, rfl⟩
theorem ty2_4 (x : Int32) : qTy 2 4 false (fun ty => narrow ty (.int x) = .int x ∧ fits ty (.int x) = true) := ⟨RX2, TX2, 5, .int, rfl, rfl, by decide +kernel, ⟨rfl, rfl⟩, rfl⟩
theorem ty3_0 : qTy 3 0 true (fun ty => ∀ y : Nat, narrow ty (.ref y) = .ref y ∧ fits ty (.ref y) = true) := ⟨RX3, TX3, 17, tyX3 0, rfl, rfl, by decide +kernel, fun y => ⟨rfl, rfl⟩, rfl⟩
theorem ty3_1 : qTy 3 1 true (fun ty => ∀ y : Nat, narrow ty (.ref y) = .ref y ∧ fits ty (.ref y) = true) := ⟨RX3, TX3, 17, tyX3 1, rfl, rfl, by decide +kernel, fun y => ⟨rfl, rfl⟩, rfl⟩
theorem ty3_2 : qTy 3 2 true (fun ty => ∀ y : Nat, narrow ty (.ref y) = .ref y ∧ fits ty (.ref y) = true) := ⟨RX3, TX3, 17, tyX3 2, rfl, rfl, by decide +kernel, fun y => ⟨rfl, rfl⟩, rfl⟩
theorem ty3_3 : qTy 3 3 true (fun ty => ∀ y : Nat, narrow ty (.ref y) = .ref y ∧ fits ty (.ref y) = true) := ⟨RX3, TX3, 17, tyX3 3, rfl, rfl, by decide +kernel, fun y => ⟨rfl, rfl⟩, rfl⟩
theorem ty3_4 : qTy 3 4 true (fun ty => ∀ y : Nat, narrow ty (.ref y) = .ref y ∧ fits ty (.ref y) = true) := ⟨RX3, TX3, 17, tyX3 4, rfl, rfl, by decide +kernel, fun y => ⟨rfl, rfl⟩, rfl⟩
theorem ty3_5 : qTy 3 5 true (fun ty => ∀ y : Nat, narrow ty (.ref y) = .ref y ∧ fits ty (.ref y) = true) := ⟨RX3, TX3, 17, tyX3 5, rfl, rfl, by decide +kernel, fun y => ⟨rfl, rfl⟩, rfl⟩
theorem ty3_6 : qTy 3 6 true (fun ty => ∀ y : Nat, narrow ty (.ref y) = .ref y ∧ fits ty (.ref y) = true) := ⟨RX3, TX3, 17, tyX3 6, rfl, rfl, by decide +kernel, fun y => ⟨rfl, rfl⟩, rfl⟩
theorem ty3_7 : qTy 3 7 true (fun ty => ∀ y : Nat, narrow ty (.ref y) = .ref y ∧ fits ty (.ref y) = true) := ⟨RX3, TX3, 17, tyX3 7, rfl, rfl, by decide +kernel, fun y => ⟨rfl, rfl⟩, rfl⟩
theorem ty3_8 : qTy 3 8 true (fun ty => ∀ y : Nat, narrow ty (.ref y) = .ref y ∧ fits ty (.ref y) = true) := ⟨RX3, TX3, 17, tyX3 8, rfl, rfl, by decide +kernel, fun y => ⟨rfl, rfl⟩, rfl⟩
theorem ty3_9 : qTy 3 9 true (fun ty => ∀ y : Nat, narrow ty (.ref y) = .ref y ∧ fits ty (.ref y) = true) := ⟨RX3, TX3, 17, tyX3 9, rfl, rfl, by decide +kernel, fun y => ⟨rfl, rfl⟩, rfl⟩
theorem ty3_10 : qTy 3 10 true (fun ty => ∀ y : Nat, narrow ty (.ref y) = .ref y ∧ fits ty (.ref y) = true) := ⟨RX3, TX3, 17, tyX3 10, rfl, rfl, by decide +kernel, fun y => ⟨rfl, rfl⟩, rfl⟩
theorem ty3_11 (x : Int32) : qTy 3 11 false (fun ty => narrow ty (.int x) = .int x ∧ fits ty (.int x) = true) := ⟨RX3, TX3, 17, .int, rfl, rfl, by decide +kernel, ⟨rfl, rfl⟩, rfl⟩
theorem ty3_12 (x : Int32) : qTy 3 12 false (fun ty => narrow ty (.int x) = .int x ∧ fits ty (.int x) = true) := ⟨RX3, TX3, 17, .int, rfl, rfl, by decide +kernel, ⟨rfl, rfl⟩, rfl⟩
theorem ty3_13 (x : Int32) : qTy 3 13 false (fun ty => narrow ty (.int x) = .int x ∧ fits ty (.int x) = true) := ⟨RX3, TX3, 17, .int, rfl, rfl, by decide +kernel, ⟨rfl, rfl⟩, rfl⟩
theorem ty3_14 (x : Int32) : qTy 3 14 false (fun ty => narrow ty (.int x) = .int x ∧ fits ty (.int x) = true) := ⟨RX3, TX3, 17, .int, rfl, rfl, by decide +kernel, ⟨rfl, rfl⟩, rfl⟩
theorem ty3_15 (x : Int32) : qTy 3 15 false (fun ty => narrow ty (.int x) = .int x ∧ fits ty (.int x) = true) := ⟨RX3, TX3, 17, .int, rfl, rfl, by decide +kernel, ⟨rfl, rfl⟩, rfl⟩
theorem ty3_16 (x : Int32) : qTy 3 16 false (fun ty => narrow ty (.int x) = .int x ∧ fits ty (.int x) = true) := ⟨RX3, TX3, 17, .int, rfl, rfl, by decide +kernel, ⟨rfl, rfl⟩, rfl⟩
theorem ty4_0 : qTy 4 0 true (fun ty => ∀ y : Nat, narrow ty (.ref y) = .ref y ∧ fits ty (.ref y) = true) := ⟨RX4, TX4, 12, tyX4 0, rfl, rfl, by decide +kernel, fun y => ⟨rfl, rfl⟩, rfl⟩
theorem ty4_1 : qTy 4 1 true (fun ty => ∀ y : Nat, narrow ty (.ref y) = .ref y ∧ fits ty (.ref y) = true) := ⟨RX4, TX4, 12, tyX4 1, rfl, rfl, by decide +kernel, fun y => ⟨rfl, rfl⟩, rfl⟩
theorem ty4_2 : qTy 4 2 true (fun ty => ∀ y : Nat, narrow ty (.ref y) = .ref y ∧ fits ty (.ref y) = true) := ⟨RX4, TX4, 12, tyX4 2, rfl, rfl, by decide +kernel, fun y => ⟨rfl, rfl⟩, rfl⟩
theorem ty4_3 : qTy 4 3 true (fun ty => ∀ y : Nat, narrow ty (.ref y) = .ref y ∧ fits ty (.ref y) = true) := ⟨RX4, TX4, 12, tyX4 3, rfl, rfl, by decide +kernel, fun y => ⟨rfl, rfl⟩, rfl⟩
theorem ty4_4 (x : Int32) : qTy 4 4 false (fun ty => narrow ty (.int x) = .int x ∧ fits ty (.int x) = true) := ⟨RX4, TX4, 12, .int, rfl, rfl, by decide +kernel, ⟨rfl, rfl⟩, rfl⟩
theorem ty4_5 : qTy 4 5 false (fun ty => ∀ y : Nat, narrow ty (.ref y) = .ref y ∧ fits ty (.ref y) = true) := ⟨RX4, TX4, 12, tyX4 5, rfl, rfl, by decide +kernel, fun y => ⟨rfl, rfl⟩, rfl⟩
theorem tyn4_5 : qTy 4 5 false (fun ty => narrow ty .null = .null ∧ fits ty .null = true) := ⟨RX4, TX4, 12, tyX4 5, rfl, rfl, by decide +kernel, ⟨rfl, rfl⟩, rfl⟩
theorem ty4_6 (x : Int32) : qTy 4 6 false (fun ty => narrow ty (.int x) = .int x ∧ fits ty (.int x) = true) := ⟨RX4, TX4, 12, .int, rfl, rfl, by decide +kernel, ⟨rfl, rfl⟩, rfl⟩
theorem ty4_7 (x : Int32) : qTy 4 7 false (fun ty => narrow ty (.int x) = .int x ∧ fits ty (.int x) = true) := ⟨RX4, TX4, 12, .int, rfl, rfl, by decide +kernel, ⟨rfl, rfl⟩, rfl⟩
theorem ty4_8 (x : Int32) : qTy 4 8 false (fun ty => narrow ty (.int x) = .int x ∧ fits ty (.int x) = true) := ⟨RX4, TX4, 12, .int, rfl, rfl, by decide +kernel, ⟨rfl, rfl⟩, rfl⟩
theorem ty4_9 (x : Int32) : qTy 4 9 false (fun ty => narrow ty (.int x) = .int x ∧ fits ty (.int x) = true) := ⟨RX4, TX4, 12, .int, rfl, rfl, by decide +kernel, ⟨rfl, rfl⟩, rfl⟩
theorem ty4_10 (x : Int32) : qTy 4 10 false (fun ty => narrow ty (.int x) = .int x ∧ fits ty (.int x) = true) := ⟨RX4, TX4, 12, .int, rfl, rfl, by decide +kernel, ⟨rfl, rfl⟩, rfl⟩
theorem ty4_11 (x : Int32) : qTy 4 11 false (fun ty => narrow ty (.int x) = .int x ∧ fits ty (.int x) = true) := ⟨RX4, TX4, 12, .int, rfl, rfl, by decide +kernel, ⟨rfl, rfl⟩, rfl⟩
theorem ty5_0 : qTy 5 0 true (fun ty => ∀ y : Nat, narrow ty (.ref y) = .ref y ∧ fits ty (.ref y) = true) := ⟨RX5, TX5, 7, tyX5 0, rfl, rfl, by decide +kernel, fun y => ⟨rfl, rfl⟩, rfl⟩
theorem ty5_1 : qTy 5 1 true (fun ty => ∀ y : Nat, narrow ty (.ref y) = .ref y ∧ fits ty (.ref y) = true) := ⟨RX5, TX5, 7, tyX5 1, rfl, rfl, by decide +kernel, fun y => ⟨rfl, rfl⟩, rfl⟩
theorem ty5_2 (x : Int32) : qTy 5 2 false (fun ty => narrow ty (.int x) = .int x ∧ fits ty (.int x) = true) := ⟨RX5, TX5, 7, .int, rfl, rfl, by decide +kernel, ⟨rfl, rfl⟩, rfl⟩
theorem ty5_3 (x : Int64) : qTy 5 3 false (fun ty => narrow ty (.long x) = .long x ∧ fits ty (.long x) = true) := ⟨RX5, TX5, 7, .long, rfl, rfl, by decide +kernel, ⟨rfl, rfl⟩, rfl⟩
theorem ty5_4 (x : Int32) : qTy 5 4 false (fun ty => narrow ty (.int x) = .int x ∧ fits ty (.int x) = true) := ⟨RX5, TX5, 7, .int, rfl, rfl, by decide +kernel, ⟨rfl, rfl⟩, rfl⟩
theorem ty5_5 (x : Int32) : qTy 5 5 false (fun ty => narrow ty (.int x) = .int x ∧ fits ty (.int x) = true) := ⟨RX5, TX5, 7, .int, rfl, rfl, by decide +kernel, ⟨rfl, rfl⟩, rfl⟩
theorem ty5_6 (x : Int32) : qTy 5 6 false (fun ty => narrow ty (.int x) = .int x ∧ fits ty (.int x) = true) := ⟨RX5, TX5, 7, .int, rfl, rfl, by decide +kernel, ⟨rfl, rfl⟩, rfl⟩
theorem ty6_0 : qTy 6 0 true (fun ty => ∀ y : Nat, narrow ty (.ref y) = .ref y ∧ fits ty (.ref y) = true) := ⟨RX6, TX6, 8, tyX6 0, rfl, rfl, by decide +kernel, fun y => ⟨rfl, rfl⟩, rfl⟩
theorem ty6_1 : qTy 6 1 true (fun ty => ∀ y : Nat, narrow ty (.ref y) = .ref y ∧ fits ty (.ref y) = true) := ⟨RX6, TX6, 8, tyX6 1, rfl, rfl, by decide +kernel, fun y => ⟨rfl, rfl⟩, rfl⟩
theorem ty6_2 : qTy 6 2 true (fun ty => ∀ y : Nat, narrow ty (.ref y) = .ref y ∧ fits ty (.ref y) = true) := ⟨RX6, TX6, 8, tyX6 2, rfl, rfl, by decide +kernel, fun y => ⟨rfl, rfl⟩, rfl⟩
theorem ty6_3 : qTy 6 3 true (fun ty => ∀ y : Nat, narrow ty (.ref y) = .ref y ∧ fits ty (.ref y) = true) := ⟨RX6, TX6, 8, tyX6 3, rfl, rfl, by decide +kernel, fun y => ⟨rfl, rfl⟩, rfl⟩
theorem ty6_4 : qTy 6 4 true (fun ty => ∀ y : Nat, narrow ty (.ref y) = .ref y ∧ fits ty (.ref y) = true) := ⟨RX6, TX6, 8, tyX6 4, rfl, rfl, by decide +kernel, fun y => ⟨rfl, rfl⟩, rfl⟩
theorem ty6_5 (x : Int32) : qTy 6 5 false (fun ty => narrow ty (.int x) = .int x ∧ fits ty (.int x) = true) := ⟨RX6, TX6, 8, .int, rfl, rfl, by decide +kernel, ⟨rfl, rfl⟩, rfl⟩
theorem ty6_6 (x : Int32) : qTy 6 6 false (fun ty => narrow ty (.int x) = .int x ∧ fits ty (.int x) = true) := ⟨RX6, TX6, 8, .int, rfl, rfl, by decide +kernel, ⟨rfl, rfl⟩, rfl⟩
theorem ty6_7 (x : Int32) : qTy 6 7 false (fun ty => narrow ty (.int x) = .int x ∧ fits ty (.int x) = true) := ⟨RX6, TX6, 8, .int, rfl, rfl, by decide +kernel, ⟨rfl, rfl⟩, rfl⟩
theorem ty7_0 : qTy 7 0 true (fun ty => ∀ y : Nat, narrow ty (.ref y) = .ref y ∧ fits ty (.ref y) = true) := ⟨RX7, TX7, 2, tyX7 0, rfl, rfl, by decide +kernel, fun y => ⟨rfl, rfl⟩, rfl⟩
theorem ty7_1 (x : Int32) : qTy 7 1 false (fun ty => narrow ty (.int x) = .int x ∧ fits ty (.int x) = true) := ⟨RX7, TX7, 2, .int, rfl, rfl, by decide +kernel, ⟨rfl, rfl⟩, rfl⟩
theorem ty8_0 : qTy 8 0 true (fun ty => ∀ y : Nat, narrow ty (.ref y) = .ref y ∧ fits ty (.ref y) = true) := ⟨RX8, TX8, 6, tyX8 0, rfl, rfl, by decide +kernel, fun y => ⟨rfl, rfl⟩, rfl⟩
theorem ty8_1 : qTy 8 1 true (fun ty => ∀ y : Nat, narrow ty (.ref y) = .ref y ∧ fits ty (.ref y) = true) := ⟨RX8, TX8, 6, tyX8 1, rfl, rfl, by decide +kernel, fun y => ⟨rfl, rfl⟩, rfl⟩
theorem ty8_2 : qTy 8 2 true (fun ty => ∀ y : Nat, narrow ty (.ref y) = .ref y ∧ fits ty (.ref y) = true) := ⟨RX8, TX8, 6, tyX8 2, rfl, rfl, by decide +kernel, fun y => ⟨rfl, rfl⟩, rfl⟩
theorem ty8_3 : qTy 8 3 true (fun ty => ∀ y : Nat, narrow ty (.ref y) = .ref y ∧ fits ty (.ref y) = true) := ⟨RX8, TX8, 6, tyX8 3, rfl, rfl, by decide +kernel, fun y => ⟨rfl, rfl⟩, rfl⟩
theorem ty8_4 (x : Int32) : qTy 8 4 false (fun ty => narrow ty (.int x) = .int x ∧ fits ty (.int x) = true) := ⟨RX8, TX8, 6, .int, rfl, rfl, by decide +kernel, ⟨rfl, rfl⟩, rfl⟩
theorem ty8_5 (x : Int32) : qTy 8 5 false (fun ty => narrow ty (.int x) = .int x ∧ fits ty (.int x) = true) := ⟨RX8, TX8, 6, .int, rfl, rfl, by decide +kernel, ⟨rfl, rfl⟩, rfl⟩
theorem ty9_0 : qTy 9 0 true (fun ty => ∀ y : Nat, narrow ty (.ref y) = .ref y ∧ fits ty (.ref y) = true) := ⟨RX9, TX9, 5, tyX9 0, rfl, rfl, by decide +kernel, fun y => ⟨rfl, rfl⟩, rfl⟩
theorem ty9_1 : qTy 9 1 true (fun ty => ∀ y : Nat, narrow ty (.ref y) = .ref y ∧ fits ty (.ref y) = true) := ⟨RX9, TX9, 5, tyX9 1, rfl, rfl, by decide +kernel, fun y => ⟨rfl, rfl⟩, rfl⟩
theorem ty9_2 : qTy 9 2 true (fun ty => ∀ y : Nat, narrow ty (.ref y) = .ref y ∧ fits ty (.ref y) = true) := ⟨RX9, TX9, 5, tyX9 2, rfl, rfl, by decide +kernel, fun y => ⟨rfl, rfl⟩, rfl⟩
theorem ty9_3 (x : Int32) : qTy 9 3 false (fun ty => narrow ty (.int x) = .int x ∧ fits ty (.int x) = true) := ⟨RX9, TX9, 5, .int, rfl, rfl, by decide +kernel, ⟨rfl, rfl⟩, rfl⟩
theorem ty9_4 (x : Int32) : qTy 9 4 false (fun ty => narrow ty (.int x) = .int x ∧ fits ty (.int x) = true) := ⟨RX9, TX9, 5, .int, rfl, rfl, by decide +kernel, ⟨rfl, rfl⟩, rfl⟩
theorem ty10_0 : qTy 10 0 true (fun ty => ∀ y : Nat, narrow ty (.ref y) = .ref y ∧ fits ty (.ref y) = true) := ⟨RX10, TX10, 6, tyX10 0, rfl, rfl, by decide +kernel, fun y => ⟨rfl, rfl⟩, rfl⟩
theorem ty10_1 : qTy 10 1 true (fun ty => ∀ y : Nat, narrow ty (.ref y) = .ref y ∧ fits ty (.ref y) = true) := ⟨RX10, TX10, 6, tyX10 1, rfl, rfl, by decide +kernel, fun y => ⟨rfl, rfl⟩, rfl⟩
theorem ty10_2 : qTy 10 2 true (fun ty => ∀ y : Nat, narrow ty (.ref y) = .ref y ∧ fits ty (.ref y) = true) := ⟨RX10, TX10, 6, tyX10 2, rfl, rfl, by decide +kernel, fun y => ⟨rfl, rfl⟩, rfl⟩
theorem ty10_3 : qTy 10 3 true (fun ty => ∀ y : Nat, narrow ty (.ref y) = .ref y ∧ fits ty (.ref y) = true) := ⟨RX10, TX10, 6, tyX10 3, rfl, rfl, by decide +kernel, fun y => ⟨rfl, rfl⟩, rfl⟩
theorem ty10_4 (x : Int32) : qTy 10 4 false (fun ty => narrow ty (.int x) = .int x ∧ fits ty (.int x) = true) := ⟨RX10, TX10, 6, .int, rfl, rfl, by decide +kernel, ⟨rfl, rfl⟩, rfl⟩
theorem ty10_5 (x : Int32) : qTy 10 5 false (fun ty => narrow ty (.int x) = .int x ∧ fits ty (.int x) = true) := ⟨RX10, TX10, 6, .int, rfl, rfl, by decide +kernel, ⟨rfl, rfl⟩, rfl⟩
theorem ty11_0 : qTy 11 0 true (fun ty => ∀ y : Nat, narrow ty (.ref y) = .ref y ∧ fits ty (.ref y) = true) := ⟨RX11, TX11, 12, tyX11 0, rfl, rfl, by decide +kernel, fun y => ⟨rfl, rfl⟩, rfl⟩
theorem ty11_1 : qTy 11 1 true (fun ty => ∀ y : Nat, narrow ty (.ref y) = .ref y ∧ fits ty (.ref y) = true) := ⟨RX11, TX11, 12, tyX11 1, rfl, rfl, by decide +kernel, fun y => ⟨rfl, rfl⟩, rfl⟩
theorem ty11_2 : qTy 11 2 true (fun ty => ∀ y : Nat, narrow ty (.ref y) = .ref y ∧ fits ty (.ref y) = true) := ⟨RX11, TX11, 12, tyX11 2, rfl, rfl, by decide +kernel, fun y => ⟨rfl, rfl⟩, rfl⟩
theorem ty11_3 : qTy 11 3 true (fun ty => ∀ y : Nat, narrow ty (.ref y) = .ref y ∧ fits ty (.ref y) = true) := ⟨RX11, TX11, 12, tyX11 3, rfl, rfl, by decide +kernel, fun y => ⟨rfl, rfl⟩, rfl⟩
theorem ty11_4 : qTy 11 4 true (fun ty => ∀ y : Nat, narrow ty (.ref y) = .ref y ∧ fits ty (.ref y) = true) := ⟨RX11, TX11, 12, tyX11 4, rfl, rfl, by decide +kernel, fun y => ⟨rfl, rfl⟩, rfl⟩
theorem ty11_5 : qTy 11 5 true (fun ty => ∀ y : Nat, narrow ty (.ref y) = .ref y ∧ fits ty (.ref y) = true) := ⟨RX11, TX11, 12, tyX11 5, rfl, rfl, by decide +kernel, fun y => ⟨rfl, rfl⟩, rfl⟩
theorem ty11_6 : qTy 11 6 true (fun ty => ∀ y : Nat, narrow ty (.ref y) = .ref y ∧ fits ty (.ref y) = true) := ⟨RX11, TX11, 12, tyX11 6, rfl, rfl, by decide +kernel, fun y => ⟨rfl, rfl⟩, rfl⟩
theorem ty11_7 : qTy 11 7 true (fun ty => ∀ y : Nat, narrow ty (.ref y) = .ref y ∧ fits ty (.ref y) = true) := ⟨RX11, TX11, 12, tyX11 7, rfl, rfl, by decide +kernel, fun y => ⟨rfl, rfl⟩, rfl⟩
theorem ty11_8 : qTy 11 8 true (fun ty => ∀ y : Nat, narrow ty (.ref y) = .ref y ∧ fits ty (.ref y) = true) := ⟨RX11, TX11, 12, tyX11 8, rfl, rfl, by decide +kernel, fun y => ⟨rfl, rfl⟩, rfl⟩
theorem ty11_9 : qTy 11 9 false (fun ty => ∀ y : Nat, narrow ty (.ref y) = .ref y ∧ fits ty (.ref y) = true) := ⟨RX11, TX11, 12, tyX11 9, rfl, rfl, by decide +kernel, fun y => ⟨rfl, rfl⟩, rfl⟩
theorem tyn11_9 : qTy 11 9 false (fun ty => narrow ty .null = .null ∧ fits ty .null = true) := ⟨RX11, TX11, 12, tyX11 9, rfl, rfl, by decide +kernel, ⟨rfl, rfl⟩, rfl⟩
theorem ty11_10 : qTy 11 10 false (fun ty => ∀ y : Nat, narrow ty (.ref y) = .ref y ∧ fits ty (.ref y) = true) := ⟨RX11, TX11, 12, tyX11 10, rfl, rfl, by decide +kernel, fun y => ⟨rfl, rfl⟩, rfl⟩
theorem tyn11_10 : qTy 11 10 false (fun ty => narrow ty .null = .null ∧ fits ty .null = true) := ⟨RX11, TX11, 12, tyX11 10, rfl, rfl, by decide +kernel, ⟨rfl, rfl⟩, rfl⟩
theorem ty11_11 (x : Int32) : qTy 11 11 false (fun ty => narrow ty (.int x) = .int x ∧ fits ty (.int x) = true) := ⟨RX11, TX11, 12, .int, rfl, rfl, by decide +kernel, ⟨rfl, rfl⟩, rfl⟩
theorem ty12_0 (x : Int32) : qTy 12 0 false (fun ty => narrow ty (.int x) = .int x ∧ fits ty (.int x) = true) := ⟨RX12, TX12, 77, .int, rfl, rfl, by decide +kernel, ⟨rfl, rfl⟩, rfl⟩
theorem ty12_1 : qTy 12 1 true (fun ty => ∀ y : Nat, narrow ty (.ref y) = .ref y ∧ fits ty (.ref y) = true) := ⟨RX12, TX12, 77, tyX12 1, rfl, rfl, by decide +kernel, fun y => ⟨rfl, rfl⟩, rfl⟩
theorem ty12_2 (x : Int32) : qTy 12 2 false (fun ty => narrow ty (.int x) = .int x ∧ fits ty (.int x) = true) := ⟨RX12, TX12, 77, .int, rfl, rfl, by decide +kernel, ⟨rfl, rfl⟩, rfl⟩
theorem ty12_3 : qTy 12 3 true (fun ty => ∀ y : Nat, narrow ty (.ref y) = .ref y ∧ fits ty (.ref y) = true) := ⟨RX12, TX12, 77, tyX12 3, rfl, rfl, by decide +kernel, fun y => ⟨rfl, rfl⟩, rfl⟩
theorem ty12_4 (x : Int32) : qTy 12 4 false (fun ty => narrow ty (.int x) = .int x ∧ fits ty (.int x) = true) := ⟨RX12, TX12, 77, .int, rfl, rfl, by decide +kernel, ⟨rfl, rfl⟩, rfl⟩
theorem ty12_5 : qTy 12 5 true (fun ty => ∀ y : Nat, narrow ty (.ref y) = .ref y ∧ fits ty (.ref y) = true) := ⟨RX12, TX12, 77, tyX12 5, rfl, rfl, by decide +kernel, fun y => ⟨rfl, rfl⟩, rfl⟩
theorem ty12_6 : qTy 12 6 true (fun ty => ∀ y : Nat, narrow ty (.ref y) = .ref y ∧ fits ty (.ref y) = true) := ⟨RX12, TX12, 77, tyX12 6, rfl, rfl, by decide +kernel, fun y => ⟨rfl, rfl⟩, rfl⟩
theorem ty12_7 : qTy 12 7 true (fun ty => ∀ y : Nat, narrow ty (.ref y) = .ref y ∧ fits ty (.ref y) = true) := ⟨RX12, TX12, 77, tyX12 7, rfl, rfl, by decide +kernel, fun y => ⟨rfl, rfl⟩, rfl⟩
theorem ty12_8 : qTy 12 8 true (fun ty => ∀ y : Nat, narrow ty (.ref y) = .ref y ∧ fits ty (.ref y) = true) := ⟨RX12, TX12, 77, tyX12 8, rfl, rfl, by decide +kernel, fun y => ⟨rfl, rfl⟩, rfl⟩
theorem ty12_9 : qTy 12 9 true (fun ty => ∀ y : Nat, narrow ty (.ref y) = .ref y ∧ fits ty (.ref y) = true) := ⟨RX12, TX12, 77, tyX12 9, rfl, rfl, by decide +kernel, fun y => ⟨rfl, rfl⟩, rfl⟩
theorem ty12_10 (x : Int32) : qTy 12 10 false (fun ty => narrow ty (.int x) = .int x ∧ fits ty (.int x) = true) := ⟨RX12, TX12, 77, .int, rfl, rfl, by decide +kernel, ⟨rfl, rfl⟩, rfl⟩
theorem ty12_11 (x : Int32) : qTy 12 11 false (fun ty => narrow ty (.int x) = .int x ∧ fits ty (.int x) = true) := ⟨RX12, TX12, 77, .int, rfl, rfl, by decide +kernel, ⟨rfl, rfl⟩, rfl⟩
theorem ty12_12 (x : Int32) : qTy 12 12 false (fun ty => narrow ty (.int x) = .int x ∧ fits ty (.int x) = true) := ⟨RX12, TX12, 77, .int, rfl, rfl, by decide +kernel, ⟨rfl, rfl⟩, rfl⟩
theorem ty12_13 (x : Int32) : qTy 12 13 false (fun ty => narrow ty (.int x) = .int x ∧ fits ty (.int x) = true) := ⟨RX12, TX12, 77, .int, rfl, rfl, by decide +kernel, ⟨rfl, rfl⟩, rfl⟩
theorem ty12_14 (x : Int32) : qTy 12 14 false (fun ty => narrow ty (.int x) = .int x ∧ fits ty (.int x) = true) := ⟨RX12, TX12, 77, .int, rfl, rfl, by decide +kernel, ⟨rfl, rfl⟩, rfl⟩
theorem ty12_15 (x : Int32) : qTy 12 15 false (fun ty => narrow ty (.int x) = .int x ∧ fits ty (.int x) = true) := ⟨RX12, TX12, 77, .int, rfl, rfl, by decide +kernel, ⟨rfl, rfl⟩, rfl⟩
theorem ty12_16 (x : Int32) : qTy 12 16 false (fun ty => narrow ty (.int x) = .int x ∧ fits ty (.int x) = true) := ⟨RX12, TX12, 77, .int, rfl, rfl, by decide +kernel, ⟨rfl, rfl⟩, rfl⟩
theorem ty12_17 (x : Int32) : qTy 12 17 false (fun ty => narrow ty (.int x) = .int x ∧ fits ty (.int x) = true) := ⟨RX12, TX12, 77, .int, rfl, rfl, by decide +kernel, ⟨rfl, rfl⟩, rfl⟩
theorem ty12_18 (x : Int32) : qTy 12 18 false (fun ty => narrow ty (.int x) = .int x ∧ fits ty (.int x) = true) := ⟨RX12, TX12, 77, .int, rfl, rfl, by decide +kernel, ⟨rfl, rfl⟩, rfl⟩
theorem ty12_19 (x : Int32) : qTy 12 19 false (fun ty => narrow ty (.int x) = .int x ∧ fits ty (.int x) = true) := ⟨RX12, TX12, 77, .int, rfl, rfl, by decide +kernel, ⟨rfl, rfl⟩, rfl⟩
theorem ty12_20 (x : Int32) : qTy 12 20 false (fun ty => narrow ty (.int x) = .int x ∧ fits ty (.int x) = true) := ⟨RX12, TX12, 77, .int, rfl, rfl, by decide +kernel, ⟨rfl, rfl⟩, rfl⟩
theorem ty12_21 : qTy 12 21 true (fun ty => ∀ y : Nat, narrow ty (.ref y) = .ref y ∧ fits ty (.ref y) = true) := ⟨RX12, TX12, 77, tyX12 21, rfl, rfl, by decide +kernel, fun y => ⟨rfl, rfl⟩, rfl⟩
theorem ty12_22 : qTy 12 22 true (fun ty => ∀ y : Nat, narrow ty (.ref y) = .ref y ∧ fits ty (.ref y) = true) := ⟨RX12, TX12, 77, tyX12 22, rfl, rfl, by decide +kernel, fun y => ⟨rfl, rfl⟩, rfl⟩
theorem ty12_23 : qTy 12 23 true (fun ty => ∀ y : Nat, narrow ty (.ref y) = .ref y ∧ fits ty (.ref y) = true) := ⟨RX12, TX12, 77, tyX12 23, rfl, rfl, by decide +kernel, fun y => ⟨rfl, rfl⟩, rfl⟩
theorem ty12_24 : qTy 12 24 true (fun ty => ∀ y : Nat, narrow ty (.ref y) = .ref y ∧ fits ty (.ref y) = true) := ⟨RX12, TX12, 77, tyX12 24, rfl, rfl, by decide +kernel, fun y => ⟨rfl, rfl⟩, rfl⟩
theorem ty12_25 : qTy 12 25 true (fun ty => ∀ y : Nat, narrow ty (.ref y) = .ref y ∧ fits ty (.ref y) = true) := ⟨RX12, TX12, 77, tyX12 25, rfl, rfl, by decide +kernel, fun y => ⟨rfl, rfl⟩, rfl⟩
theorem ty12_26 : qTy 12 26 true (fun ty => ∀ y : Nat, narrow ty (.ref y) = .ref y ∧ fits ty (.ref y) = true) := ⟨RX12, TX12, 77, tyX12 26, rfl, rfl, by decide +kernel, fun y => ⟨rfl, rfl⟩, rfl⟩
theorem ty12_27 : qTy 12 27 true (fun ty => ∀ y : Nat, narrow ty (.ref y) = .ref y ∧ fits ty (.ref y) = true) := ⟨RX12, TX12, 77, tyX12 27, rfl, rfl, by decide +kernel, fun y => ⟨rfl, rfl⟩, rfl⟩
theorem ty12_28 : qTy 12 28 true (fun ty => ∀ y : Nat, narrow ty (.ref y) = .ref y ∧ fits ty (.ref y) = true) := ⟨RX12, TX12, 77, tyX12 28, rfl, rfl, by decide +kernel, fun y => ⟨rfl, rfl⟩, rfl⟩
theorem ty12_29 : qTy 12 29 true (fun ty => ∀ y : Nat, narrow ty (.ref y) = .ref y ∧ fits ty (.ref y) = true) := ⟨RX12, TX12, 77, tyX12 29, rfl, rfl, by decide +kernel, fun y => ⟨rfl, rfl⟩, rfl⟩
theorem ty12_30 : qTy 12 30 true (fun ty => ∀ y : Nat, narrow ty (.ref y) = .ref y ∧ fits ty (.ref y) = true) := ⟨RX12, TX12, 77, tyX12 30, rfl, rfl, by decide +kernel, fun y => ⟨rfl, rfl⟩, rfl⟩
theorem ty12_31 : qTy 12 31 true (fun ty => ∀ y : Nat, narrow ty (.ref y) = .ref y ∧ fits ty (.ref y) = true) := ⟨RX12, TX12, 77, tyX12 31, rfl, rfl, by decide +kernel, fun y => ⟨rfl, rfl⟩, rfl⟩
theorem ty12_32 : qTy 12 32 true (fun ty => ∀ y : Nat, narrow ty (.ref y) = .ref y ∧ fits ty (.ref y) = true) := ⟨RX12, TX12, 77, tyX12 32, rfl, rfl, by decide +kernel, fun y => ⟨rfl, rfl⟩, rfl⟩
theorem ty12_33 : qTy 12 33 true (fun ty => ∀ y : Nat, narrow ty (.ref y) = .ref y ∧ fits ty (.ref y) = true) := ⟨RX12, TX12, 77, tyX12 33, rfl, rfl, by decide +kernel, fun y => ⟨rfl, rfl⟩, rfl⟩
theorem ty12_34 : qTy 12 34 true (fun ty => ∀ y : Nat, narrow ty (.ref y) = .ref y ∧ fits ty (.ref y) = true) := ⟨RX12, TX12, 77, tyX12 34, rfl, rfl, by decide +kernel, fun y => ⟨rfl, rfl⟩, rfl⟩
theorem ty12_35 : qTy 12 35 true (fun ty => ∀ y : Nat, narrow ty (.ref y) = .ref y ∧ fits ty (.ref y) = true) := ⟨RX12, TX12, 77, tyX12 35, rfl, rfl, by decide +kernel, fun y => ⟨rfl, rfl⟩, rfl⟩
theorem ty12_36 : qTy 12 36 true (fun ty => ∀ y : Nat, narrow ty (.ref y) = .ref y ∧ fits ty (.ref y) = true) := ⟨RX12, TX12, 77, tyX12 36, rfl, rfl, by decide +kernel, fun y => ⟨rfl, rfl⟩, rfl⟩
theorem ty12_37 : qTy 12 37 true (fun ty => ∀ y : Nat, narrow ty (.ref y) = .ref y ∧ fits ty (.ref y) = true) := ⟨RX12, TX12, 77, tyX12 37, rfl, rfl, by decide +kernel, fun y => ⟨rfl, rfl⟩, rfl⟩
theorem ty12_38 : qTy 12 38 true (fun ty => ∀ y : Nat, narrow ty (.ref y) = .ref y ∧ fits ty (.ref y) = true) := ⟨RX12, TX12, 77, tyX12 38, rfl, rfl, by decide +kernel, fun y => ⟨rfl, rfl⟩, rfl⟩
theorem ty12_39 : qTy 12 39 true (fun ty => ∀ y : Nat, narrow ty (.ref y) = .ref y ∧ fits ty (.ref y) = true) := ⟨RX12, TX12, 77, tyX12 39, rfl, rfl, by decide +kernel, fun y => ⟨rfl, rfl⟩, rfl⟩
theorem ty12_40 : qTy 12 40 true (fun ty => ∀ y : Nat, narrow ty (.ref y) = .ref y ∧ fits ty (.ref y) = true) := ⟨RX12, TX12, 77, tyX12 40, rfl, rfl, by decide +kernel, fun y => ⟨rfl, rfl⟩, rfl⟩
theorem ty12_41 : qTy 12 41 true (fun ty => ∀ y : Nat, narrow ty (.ref y) = .ref y ∧ fits ty (.ref y) = true) := ⟨RX12, TX12, 77, tyX12 41, rfl, rfl, by decide +kernel, fun y => ⟨rfl, rfl⟩, rfl⟩
theorem ty12_42 : qTy 12 42 true (fun ty => ∀ y : Nat, narrow ty (.ref y) = .ref y ∧ fits ty (.ref y) = true) := ⟨RX12, TX12, 77, tyX12 42, rfl, rfl, by decide +kernel, fun y => ⟨rfl, rfl⟩, rfl⟩
theorem ty12_43 : qTy 12 43 true (fun ty => ∀ y : Nat, narrow ty (.ref y) = .ref y ∧ fits ty (.ref y) = true) := ⟨RX12, TX12, 77, tyX12 43, rfl, rfl, by decide +kernel, fun y => ⟨rfl, rfl⟩, rfl⟩
theorem ty12_44 (x : Int32) : qTy 12 44 false (fun ty => narrow ty (.int x) = .int x ∧ fits ty (.int x) = true) := ⟨RX12, TX12, 77, .int, rfl, rfl, by decide +kernel, ⟨rfl, rfl⟩, rfl⟩
theorem ty12_45 : qTy 12 45 true (fun ty => ∀ y : Nat, narrow ty (.ref y) = .ref y ∧ fits ty (.ref y) = true) := ⟨RX12, TX12, 77, tyX12 45, rfl, rfl, by decide +kernel, fun y => ⟨rfl, rfl⟩, rfl⟩
theorem ty12_46 : qTy 12 46 true (fun ty => ∀ y : Nat, narrow ty (.ref y) = .ref y ∧ fits ty (.ref y) = true) := ⟨RX12, TX12, 77, tyX12 46, rfl, rfl, by decide +kernel, fun y => ⟨rfl, rfl⟩, rfl⟩
theorem ty12_47 : qTy 12 47 true (fun ty => ∀ y : Nat, narrow ty (.ref y) = .ref y ∧ fits ty (.ref y) = true) := ⟨RX12, TX12, 77, tyX12 47, rfl, rfl, by decide +kernel, fun y => ⟨rfl, rfl⟩, rfl⟩
theorem ty12_48 : qTy 12 48 true (fun ty => ∀ y : Nat, narrow ty (.ref y) = .ref y ∧ fits ty (.ref y) = true) := ⟨RX12, TX12, 77, tyX12 48, rfl, rfl, by decide +kernel, fun y => ⟨rfl, rfl⟩, rfl⟩
theorem ty12_49 : qTy 12 49 true (fun ty => ∀ y : Nat, narrow ty (.ref y) = .ref y ∧ fits ty (.ref y) = true) := ⟨RX12, TX12, 77, tyX12 49, rfl, rfl, by decide +kernel, fun y => ⟨rfl, rfl⟩, rfl⟩
theorem ty12_50 (x : Int32) : qTy 12 50 false (fun ty => narrow ty (.int x) = .int x ∧ fits ty (.int x) = true) := ⟨RX12, TX12, 77, .int, rfl, rfl, by decide +kernel, ⟨rfl, rfl⟩, rfl⟩
theorem ty12_51 : qTy 12 51 true (fun ty => ∀ y : Nat, narrow ty (.ref y) = .ref y ∧ fits ty (.ref y) = true) := ⟨RX12, TX12, 77, tyX12 51, rfl, rfl, by decide +kernel, fun y => ⟨rfl, rfl⟩, rfl⟩
theorem ty12_52 : qTy 12 52 true (fun ty => ∀ y : Nat, narrow ty (.ref y) = .ref y ∧ fits ty (.ref y) = true) := ⟨RX12, TX12, 77, tyX12 52, rfl, rfl, by decide +kernel, fun y => ⟨rfl, rfl⟩, rfl⟩
theorem ty12_53 : qTy 12 53 true (fun ty => ∀ y : Nat, narrow ty (.ref y) = .ref y ∧ fits ty (.ref y) = true) := ⟨RX12, TX12, 77, tyX12 53, rfl, rfl, by decide +kernel, fun y => ⟨rfl, rfl⟩, rfl⟩
theorem ty12_54 (x : Int32) : qTy 12 54 false (fun ty => narrow ty (.int x) = .int x ∧ fits ty (.int x) = true) := ⟨RX12, TX12, 77, .int, rfl, rfl, by decide +kernel, ⟨rfl, rfl⟩, rfl⟩
theorem ty12_55 : qTy 12 55 true (fun ty => ∀ y : Nat, narrow ty (.ref y) = .ref y ∧ fits ty (.ref y) = true) := ⟨RX12, TX12, 77, tyX12 55, rfl, rfl, by decide +kernel, fun y => ⟨rfl, rfl⟩, rfl⟩
theorem ty12_56 : qTy 12 56 true (fun ty => ∀ y : Nat, narrow ty (.ref y) = .ref y ∧ fits ty (.ref y) = true) := ⟨RX12, TX12, 77, tyX12 56, rfl, rfl, by decide +kernel, fun y => ⟨rfl, rfl⟩, rfl⟩
theorem ty12_57 (x : Int32) (h : x = 0 ∨ x = 1) : qTy 12 57 false (fun ty => narrow ty (.int x) = .int x ∧ fits ty (.int x) = true) := ⟨RX12, TX12, 77, .boolean, rfl, rfl, by decide +kernel, (by rcases h with rfl | rfl <;> exact ⟨rfl, rfl⟩), rfl⟩
theorem ty12_58 : qTy 12 58 true (fun ty => ∀ y : Nat, narrow ty (.ref y) = .ref y ∧ fits ty (.ref y) = true) := ⟨RX12, TX12, 77, tyX12 58, rfl, rfl, by decide +kernel, fun y => ⟨rfl, rfl⟩, rfl⟩
theorem ty12_59 : qTy 12 59 true (fun ty => ∀ y : Nat, narrow ty (.ref y) = .ref y ∧ fits ty (.ref y) = true) := ⟨RX12, TX12, 77, tyX12 59, rfl, rfl, by decide +kernel, fun y => ⟨rfl, rfl⟩, rfl⟩
theorem ty12_60 (x : Int32) : qTy 12 60 false (fun ty => narrow ty (.int x) = .int x ∧ fits ty (.int x) = true) := ⟨RX12, TX12, 77, .int, rfl, rfl, by decide +kernel, ⟨rfl, rfl⟩, rfl⟩
theorem ty12_61 (x : Int32) : qTy 12 61 false (fun ty => narrow ty (.int x) = .int x ∧ fits ty (.int x) = true) := ⟨RX12, TX12, 77, .int, rfl, rfl, by decide +kernel, ⟨rfl, rfl⟩, rfl⟩
theorem ty12_62 : qTy 12 62 true (fun ty => ∀ y : Nat, narrow ty (.ref y) = .ref y ∧ fits ty (.ref y) = true) := ⟨RX12, TX12, 77, tyX12 62, rfl, rfl, by decide +kernel, fun y => ⟨rfl, rfl⟩, rfl⟩
theorem ty12_63 : qTy 12 63 true (fun ty => ∀ y : Nat, narrow ty (.ref y) = .ref y ∧ fits ty (.ref y) = true) := ⟨RX12, TX12, 77, tyX12 63, rfl, rfl, by decide +kernel, fun y => ⟨rfl, rfl⟩, rfl⟩
theorem ty12_64 (x : Int32) : qTy 12 64 false (fun ty => narrow ty (.int x) = .int x ∧ fits ty (.int x) = true) := ⟨RX12, TX12, 77, .int, rfl, rfl, by decide +kernel, ⟨rfl, rfl⟩, rfl⟩
theorem ty12_65 : qTy 12 65 true (fun ty => ∀ y : Nat, narrow ty (.ref y) = .ref y ∧ fits ty (.ref y) = true) := ⟨RX12, TX12, 77, tyX12 65, rfl, rfl, by decide +kernel, fun y => ⟨rfl, rfl⟩, rfl⟩
theorem ty12_66 : qTy 12 66 true (fun ty => ∀ y : Nat, narrow ty (.ref y) = .ref y ∧ fits ty (.ref y) = true) := ⟨RX12, TX12, 77, tyX12 66, rfl, rfl, by decide +kernel, fun y => ⟨rfl, rfl⟩, rfl⟩
theorem ty12_67 (x : Int32) : qTy 12 67 false (fun ty => narrow ty (.int x) = .int x ∧ fits ty (.int x) = true) := ⟨RX12, TX12, 77, .int, rfl, rfl, by decide +kernel, ⟨rfl, rfl⟩, rfl⟩
theorem ty12_68 : qTy 12 68 true (fun ty => ∀ y : Nat, narrow ty (.ref y) = .ref y ∧ fits ty (.ref y) = true) := ⟨RX12, TX12, 77, tyX12 68, rfl, rfl, by decide +kernel, fun y => ⟨rfl, rfl⟩, rfl⟩
theorem ty12_69 : qTy 12 69 true (fun ty => ∀ y : Nat, narrow ty (.ref y) = .ref y ∧ fits ty (.ref y) = true) := ⟨RX12, TX12, 77, tyX12 69, rfl, rfl, by decide +kernel, fun y => ⟨rfl, rfl⟩, rfl⟩
theorem ty12_70 (x : Int64) : qTy 12 70 false (fun ty => narrow ty (.long x) = .long x ∧ fits ty (.long x) = true) := ⟨RX12, TX12, 77, .long, rfl, rfl, by decide +kernel, ⟨rfl, rfl⟩, rfl⟩
theorem ty12_71 (x : Int32) : qTy 12 71 false (fun ty => narrow ty (.int x) = .int x ∧ fits ty (.int x) = true) := ⟨RX12, TX12, 77, .int, rfl, rfl, by decide +kernel, ⟨rfl, rfl⟩, rfl⟩
theorem ty12_72 (x : Int32) : qTy 12 72 false (fun ty => narrow ty (.int x) = .int x ∧ fits ty (.int x) = true) := ⟨RX12, TX12, 77, .int, rfl, rfl, by decide +kernel, ⟨rfl, rfl⟩, rfl⟩
theorem ty12_73 : qTy 12 73 true (fun ty => ∀ y : Nat, narrow ty (.ref y) = .ref y ∧ fits ty (.ref y) = true) := ⟨RX12, TX12, 77, tyX12 73, rfl, rfl, by decide +kernel, fun y => ⟨rfl, rfl⟩, rfl⟩
theorem ty12_74 : qTy 12 74 true (fun ty => ∀ y : Nat, narrow ty (.ref y) = .ref y ∧ fits ty (.ref y) = true) := ⟨RX12, TX12, 77, tyX12 74, rfl, rfl, by decide +kernel, fun y => ⟨rfl, rfl⟩, rfl⟩
theorem ty12_75 : qTy 12 75 true (fun ty => ∀ y : Nat, narrow ty (.ref y) = .ref y ∧ fits ty (.ref y) = true) := ⟨RX12, TX12, 77, tyX12 75, rfl, rfl, by decide +kernel, fun y => ⟨rfl, rfl⟩, rfl⟩
theorem ty12_76 : qTy 12 76 true (fun ty => ∀ y : Nat, narrow ty (.ref y) = .ref y ∧ fits ty (.ref y) = true) := ⟨RX12, TX12, 77, tyX12 76, rfl, rfl, by decide +kernel, fun y => ⟨rfl, rfl⟩, rfl⟩
