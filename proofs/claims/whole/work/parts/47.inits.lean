/-! ## the constructors -/
theorem ai_in : Cond.arrayClass .int ∈ gw_ := (tb_in 58 (by decide +kernel) rfl)
theorem az_in : Cond.arrayClass .boolean ∈ gw_ := (tb_in 220 (by decide +kernel) rfl)
abbrev nX0_init : Mt_ := (yX0_init, (cX0_init, (4, (none, (1, 24)))))
theorem ni_X0 : Cond.initialized nX0_init.1.cls ∈ gw_ ∧ Cond.code nX0_init.1 nX0_init.2.1 nX0_init.2.2.1 nX0_init.2.2.2.1 ∈ gw_ ∧ (nX0_init.1.cls ≠ "java/lang/invoke/MethodHandle" ∧ nX0_init.1.cls ≠ "java/lang/invoke/VarHandle" ∧ (parseMethodDescriptor nX0_init.1.desc).map (fun d => d.parameters.length) = some 3) ∧ plainName nX0_init.1.cls = true := ⟨(tb_in 7 (by decide +kernel) rfl), (tb_in 194 (by decide +kernel) rfl), ⟨by decide +kernel, by decide +kernel, by decide +kernel⟩, by decide +kernel⟩
theorem nm_X0 : Cond.instanceMethod nX0_init.1 ∈ gw_ := (tb_in 193 (by decide +kernel) rfl)
theorem no_X0 : Cond.methodLink nX0_init.1.cls 3 objectInit ∈ gw_ := (tb_in 195 (by decide +kernel) rfl)
theorem pf_0_0 : ∀ C T N, vwCl[0]? = some (C, T, N) → ((T 0).2.2.2 = true ∧ (T 0).1 = RX0 ∧ parseFieldDescriptor (T 0).2.2.1 = some (tyX0 0)) ∧ (∀ a, a < N → ∀ b, b < N → a ≠ b → (T a).2.1 ≠ (T b).2.1) ∧ ∃ t0 : Nat → FieldType, ∀ k, k < N → parseFieldDescriptor (T k).2.2.1 = some (t0 k) := by
  intro C T N h
  cases h
  exact ⟨⟨rfl, rfl, tyX0_ok 0 (by decide)⟩, nmX0, tyX0, tyX0_ok⟩
theorem pf_0_1 : ∀ C T N, vwCl[0]? = some (C, T, N) → ((T 1).2.2.2 = true ∧ (T 1).1 = RX0 ∧ parseFieldDescriptor (T 1).2.2.1 = some (tyX0 1)) ∧ (∀ a, a < N → ∀ b, b < N → a ≠ b → (T a).2.1 ≠ (T b).2.1) ∧ ∃ t0 : Nat → FieldType, ∀ k, k < N → parseFieldDescriptor (T k).2.2.1 = some (t0 k) := by
  intro C T N h
  cases h
  exact ⟨⟨rfl, rfl, tyX0_ok 1 (by decide)⟩, nmX0, tyX0, tyX0_ok⟩
theorem pf_0_2 : ∀ C T N, vwCl[0]? = some (C, T, N) → ((T 2).2.2.2 = true ∧ (T 2).1 = RX0 ∧ parseFieldDescriptor (T 2).2.2.1 = some (tyX0 2)) ∧ (∀ a, a < N → ∀ b, b < N → a ≠ b → (T a).2.1 ≠ (T b).2.1) ∧ ∃ t0 : Nat → FieldType, ∀ k, k < N → parseFieldDescriptor (T k).2.2.1 = some (t0 k) := by
  intro C T N h
  cases h
  exact ⟨⟨rfl, rfl, tyX0_ok 2 (by decide)⟩, nmX0, tyX0, tyX0_ok⟩
theorem pf_0_3 : ∀ C T N, vwCl[0]? = some (C, T, N) → ((T 3).2.2.2 = true ∧ (T 3).1 = RX0 ∧ parseFieldDescriptor (T 3).2.2.1 = some (tyX0 3)) ∧ (∀ a, a < N → ∀ b, b < N → a ≠ b → (T a).2.1 ≠ (T b).2.1) ∧ ∃ t0 : Nat → FieldType, ∀ k, k < N → parseFieldDescriptor (T k).2.2.1 = some (t0 k) := by
  intro C T N h
  cases h
  exact ⟨⟨rfl, rfl, tyX0_ok 3 (by decide)⟩, nmX0, tyX0, tyX0_ok⟩
theorem pf_0_4 : ∀ C T N, vwCl[0]? = some (C, T, N) → ((T 4).2.2.2 = true ∧ (T 4).1 = RX0 ∧ parseFieldDescriptor (T 4).2.2.1 = some (tyX0 4)) ∧ (∀ a, a < N → ∀ b, b < N → a ≠ b → (T a).2.1 ≠ (T b).2.1) ∧ ∃ t0 : Nat → FieldType, ∀ k, k < N → parseFieldDescriptor (T k).2.2.1 = some (t0 k) := by
  intro C T N h
  cases h
  exact ⟨⟨rfl, rfl, tyX0_ok 4 (by decide)⟩, nmX0, tyX0, tyX0_ok⟩
theorem pf_0_5 : ∀ C T N, vwCl[0]? = some (C, T, N) → ((T 5).2.2.2 = false ∧ (T 5).1 = RX0 ∧ parseFieldDescriptor (T 5).2.2.1 = some (tyX0 5)) ∧ (∀ a, a < N → ∀ b, b < N → a ≠ b → (T a).2.1 ≠ (T b).2.1) ∧ ∃ t0 : Nat → FieldType, ∀ k, k < N → parseFieldDescriptor (T k).2.2.1 = some (t0 k) := by
  intro C T N h
  cases h
  exact ⟨⟨rfl, rfl, tyX0_ok 5 (by decide)⟩, nmX0, tyX0, tyX0_ok⟩
theorem pf_0_6 : ∀ C T N, vwCl[0]? = some (C, T, N) → ((T 6).2.2.2 = false ∧ (T 6).1 = RX0 ∧ parseFieldDescriptor (T 6).2.2.1 = some (tyX0 6)) ∧ (∀ a, a < N → ∀ b, b < N → a ≠ b → (T a).2.1 ≠ (T b).2.1) ∧ ∃ t0 : Nat → FieldType, ∀ k, k < N → parseFieldDescriptor (T k).2.2.1 = some (t0 k) := by
  intro C T N h
  cases h
  exact ⟨⟨rfl, rfl, tyX0_ok 6 (by decide)⟩, nmX0, tyX0, tyX0_ok⟩
abbrev nX1_init : Mt_ := (yX1_init, (cX1_init, (1, (none, (1, 24)))))
theorem ni_X1 : Cond.initialized nX1_init.1.cls ∈ gw_ ∧ Cond.code nX1_init.1 nX1_init.2.1 nX1_init.2.2.1 nX1_init.2.2.2.1 ∈ gw_ ∧ (nX1_init.1.cls ≠ "java/lang/invoke/MethodHandle" ∧ nX1_init.1.cls ≠ "java/lang/invoke/VarHandle" ∧ (parseMethodDescriptor nX1_init.1.desc).map (fun d => d.parameters.length) = some 0) ∧ plainName nX1_init.1.cls = true := ⟨(tb_in 5 (by decide +kernel) rfl), (tb_in 90 (by decide +kernel) rfl), ⟨by decide +kernel, by decide +kernel, by decide +kernel⟩, by decide +kernel⟩
theorem nm_X1 : Cond.instanceMethod nX1_init.1 ∈ gw_ := (tb_in 89 (by decide +kernel) rfl)
theorem no_X1 : Cond.methodLink nX1_init.1.cls 3 objectInit ∈ gw_ := (tb_in 91 (by decide +kernel) rfl)
theorem pf_1_0 : ∀ C T N, vwCl[1]? = some (C, T, N) → ((T 0).2.2.2 = false ∧ (T 0).1 = RX1 ∧ parseFieldDescriptor (T 0).2.2.1 = some (tyX1 0)) ∧ (∀ a, a < N → ∀ b, b < N → a ≠ b → (T a).2.1 ≠ (T b).2.1) ∧ ∃ t0 : Nat → FieldType, ∀ k, k < N → parseFieldDescriptor (T k).2.2.1 = some (t0 k) := by
  intro C T N h
  cases h
  exact ⟨⟨rfl, rfl, tyX1_ok 0 (by decide)⟩, nmX1, tyX1, tyX1_ok⟩
theorem pf_1_1 : ∀ C T N, vwCl[1]? = some (C, T, N) → ((T 1).2.2.2 = true ∧ (T 1).1 = RX1 ∧ parseFieldDescriptor (T 1).2.2.1 = some (tyX1 1)) ∧ (∀ a, a < N → ∀ b, b < N → a ≠ b → (T a).2.1 ≠ (T b).2.1) ∧ ∃ t0 : Nat → FieldType, ∀ k, k < N → parseFieldDescriptor (T k).2.2.1 = some (t0 k) := by
  intro C T N h
  cases h
  exact ⟨⟨rfl, rfl, tyX1_ok 1 (by decide)⟩, nmX1, tyX1, tyX1_ok⟩
theorem pf_1_2 : ∀ C T N, vwCl[1]? = some (C, T, N) → ((T 2).2.2.2 = true ∧ (T 2).1 = RX1 ∧ parseFieldDescriptor (T 2).2.2.1 = some (tyX1 2)) ∧ (∀ a, a < N → ∀ b, b < N → a ≠ b → (T a).2.1 ≠ (T b).2.1) ∧ ∃ t0 : Nat → FieldType, ∀ k, k < N → parseFieldDescriptor (T k).2.2.1 = some (t0 k) := by
  intro C T N h
  cases h
  exact ⟨⟨rfl, rfl, tyX1_ok 2 (by decide)⟩, nmX1, tyX1, tyX1_ok⟩
theorem pf_1_3 : ∀ C T N, vwCl[1]? = some (C, T, N) → ((T 3).2.2.2 = false ∧ (T 3).1 = RX1 ∧ parseFieldDescriptor (T 3).2.2.1 = some (tyX1 3)) ∧ (∀ a, a < N → ∀ b, b < N → a ≠ b → (T a).2.1 ≠ (T b).2.1) ∧ ∃ t0 : Nat → FieldType, ∀ k, k < N → parseFieldDescriptor (T k).2.2.1 = some (t0 k) := by
  intro C T N h
  cases h
  exact ⟨⟨rfl, rfl, tyX1_ok 3 (by decide)⟩, nmX1, tyX1, tyX1_ok⟩
theorem pf_1_4 : ∀ C T N, vwCl[1]? = some (C, T, N) → ((T 4).2.2.2 = true ∧ (T 4).1 = RX1 ∧ parseFieldDescriptor (T 4).2.2.1 = some (tyX1 4)) ∧ (∀ a, a < N → ∀ b, b < N → a ≠ b → (T a).2.1 ≠ (T b).2.1) ∧ ∃ t0 : Nat → FieldType, ∀ k, k < N → parseFieldDescriptor (T k).2.2.1 = some (t0 k) := by
  intro C T N h
  cases h
  exact ⟨⟨rfl, rfl, tyX1_ok 4 (by decide)⟩, nmX1, tyX1, tyX1_ok⟩
theorem pf_1_5 : ∀ C T N, vwCl[1]? = some (C, T, N) → ((T 5).2.2.2 = true ∧ (T 5).1 = RX1 ∧ parseFieldDescriptor (T 5).2.2.1 = some (tyX1 5)) ∧ (∀ a, a < N → ∀ b, b < N → a ≠ b → (T a).2.1 ≠ (T b).2.1) ∧ ∃ t0 : Nat → FieldType, ∀ k, k < N → parseFieldDescriptor (T k).2.2.1 = some (t0 k) := by
  intro C T N h
  cases h
  exact ⟨⟨rfl, rfl, tyX1_ok 5 (by decide)⟩, nmX1, tyX1, tyX1_ok⟩
theorem pf_1_6 : ∀ C T N, vwCl[1]? = some (C, T, N) → ((T 6).2.2.2 = false ∧ (T 6).1 = RX1 ∧ parseFieldDescriptor (T 6).2.2.1 = some (tyX1 6)) ∧ (∀ a, a < N → ∀ b, b < N → a ≠ b → (T a).2.1 ≠ (T b).2.1) ∧ ∃ t0 : Nat → FieldType, ∀ k, k < N → parseFieldDescriptor (T k).2.2.1 = some (t0 k) := by
  intro C T N h
  cases h
  exact ⟨⟨rfl, rfl, tyX1_ok 6 (by decide)⟩, nmX1, tyX1, tyX1_ok⟩
theorem pf_1_7 : ∀ C T N, vwCl[1]? = some (C, T, N) → ((T 7).2.2.2 = false ∧ (T 7).1 = RX1 ∧ parseFieldDescriptor (T 7).2.2.1 = some (tyX1 7)) ∧ (∀ a, a < N → ∀ b, b < N → a ≠ b → (T a).2.1 ≠ (T b).2.1) ∧ ∃ t0 : Nat → FieldType, ∀ k, k < N → parseFieldDescriptor (T k).2.2.1 = some (t0 k) := by
  intro C T N h
  cases h
  exact ⟨⟨rfl, rfl, tyX1_ok 7 (by decide)⟩, nmX1, tyX1, tyX1_ok⟩
theorem pf_1_8 : ∀ C T N, vwCl[1]? = some (C, T, N) → ((T 8).2.2.2 = true ∧ (T 8).1 = RX1 ∧ parseFieldDescriptor (T 8).2.2.1 = some (tyX1 8)) ∧ (∀ a, a < N → ∀ b, b < N → a ≠ b → (T a).2.1 ≠ (T b).2.1) ∧ ∃ t0 : Nat → FieldType, ∀ k, k < N → parseFieldDescriptor (T k).2.2.1 = some (t0 k) := by
  intro C T N h
  cases h
  exact ⟨⟨rfl, rfl, tyX1_ok 8 (by decide)⟩, nmX1, tyX1, tyX1_ok⟩
theorem pf_1_9 : ∀ C T N, vwCl[1]? = some (C, T, N) → ((T 9).2.2.2 = true ∧ (T 9).1 = RX1 ∧ parseFieldDescriptor (T 9).2.2.1 = some (tyX1 9)) ∧ (∀ a, a < N → ∀ b, b < N → a ≠ b → (T a).2.1 ≠ (T b).2.1) ∧ ∃ t0 : Nat → FieldType, ∀ k, k < N → parseFieldDescriptor (T k).2.2.1 = some (t0 k) := by
  intro C T N h
  cases h
  exact ⟨⟨rfl, rfl, tyX1_ok 9 (by decide)⟩, nmX1, tyX1, tyX1_ok⟩
theorem pf_1_10 : ∀ C T N, vwCl[1]? = some (C, T, N) → ((T 10).2.2.2 = true ∧ (T 10).1 = RX1 ∧ parseFieldDescriptor (T 10).2.2.1 = some (tyX1 10)) ∧ (∀ a, a < N → ∀ b, b < N → a ≠ b → (T a).2.1 ≠ (T b).2.1) ∧ ∃ t0 : Nat → FieldType, ∀ k, k < N → parseFieldDescriptor (T k).2.2.1 = some (t0 k) := by
  intro C T N h
  cases h
  exact ⟨⟨rfl, rfl, tyX1_ok 10 (by decide)⟩, nmX1, tyX1, tyX1_ok⟩
theorem pf_1_11 : ∀ C T N, vwCl[1]? = some (C, T, N) → ((T 11).2.2.2 = true ∧ (T 11).1 = RX1 ∧ parseFieldDescriptor (T 11).2.2.1 = some (tyX1 11)) ∧ (∀ a, a < N → ∀ b, b < N → a ≠ b → (T a).2.1 ≠ (T b).2.1) ∧ ∃ t0 : Nat → FieldType, ∀ k, k < N → parseFieldDescriptor (T k).2.2.1 = some (t0 k) := by
  intro C T N h
  cases h
  exact ⟨⟨rfl, rfl, tyX1_ok 11 (by decide)⟩, nmX1, tyX1, tyX1_ok⟩
theorem pf_1_12 : ∀ C T N, vwCl[1]? = some (C, T, N) → ((T 12).2.2.2 = true ∧ (T 12).1 = RX1 ∧ parseFieldDescriptor (T 12).2.2.1 = some (tyX1 12)) ∧ (∀ a, a < N → ∀ b, b < N → a ≠ b → (T a).2.1 ≠ (T b).2.1) ∧ ∃ t0 : Nat → FieldType, ∀ k, k < N → parseFieldDescriptor (T k).2.2.1 = some (t0 k) := by
  intro C T N h
  cases h
  exact ⟨⟨rfl, rfl, tyX1_ok 12 (by decide)⟩, nmX1, tyX1, tyX1_ok⟩
theorem pf_1_13 : ∀ C T N, vwCl[1]? = some (C, T, N) → ((T 13).2.2.2 = true ∧ (T 13).1 = RX1 ∧ parseFieldDescriptor (T 13).2.2.1 = some (tyX1 13)) ∧ (∀ a, a < N → ∀ b, b < N → a ≠ b → (T a).2.1 ≠ (T b).2.1) ∧ ∃ t0 : Nat → FieldType, ∀ k, k < N → parseFieldDescriptor (T k).2.2.1 = some (t0 k) := by
  intro C T N h
  cases h
  exact ⟨⟨rfl, rfl, tyX1_ok 13 (by decide)⟩, nmX1, tyX1, tyX1_ok⟩
abbrev nX2_init : Mt_ := (yX2_init, (cX2_init, (2, (none, (1, 24)))))
theorem ni_X2 : Cond.initialized nX2_init.1.cls ∈ gw_ ∧ Cond.code nX2_init.1 nX2_init.2.1 nX2_init.2.2.1 nX2_init.2.2.2.1 ∈ gw_ ∧ (nX2_init.1.cls ≠ "java/lang/invoke/MethodHandle" ∧ nX2_init.1.cls ≠ "java/lang/invoke/VarHandle" ∧ (parseMethodDescriptor nX2_init.1.desc).map (fun d => d.parameters.length) = some 1) ∧ plainName nX2_init.1.cls = true := ⟨(tb_in 4 (by decide +kernel) rfl), (tb_in 65 (by decide +kernel) rfl), ⟨by decide +kernel, by decide +kernel, by decide +kernel⟩, by decide +kernel⟩
theorem nm_X2 : Cond.instanceMethod nX2_init.1 ∈ gw_ := (tb_in 64 (by decide +kernel) rfl)
theorem no_X2 : Cond.methodLink nX2_init.1.cls 1 objectInit ∈ gw_ := (tb_in 66 (by decide +kernel) rfl)
theorem pf_2_0 : ∀ C T N, vwCl[2]? = some (C, T, N) → ((T 0).2.2.2 = true ∧ (T 0).1 = RX2 ∧ parseFieldDescriptor (T 0).2.2.1 = some (tyX2 0)) ∧ (∀ a, a < N → ∀ b, b < N → a ≠ b → (T a).2.1 ≠ (T b).2.1) ∧ ∃ t0 : Nat → FieldType, ∀ k, k < N → parseFieldDescriptor (T k).2.2.1 = some (t0 k) := by
  intro C T N h
  cases h
  exact ⟨⟨rfl, rfl, tyX2_ok 0 (by decide)⟩, nmX2, tyX2, tyX2_ok⟩
theorem pf_2_1 : ∀ C T N, vwCl[2]? = some (C, T, N) → ((T 1).2.2.2 = true ∧ (T 1).1 = RX2 ∧ parseFieldDescriptor (T 1).2.2.1 = some (tyX2 1)) ∧ (∀ a, a < N → ∀ b, b < N → a ≠ b → (T a).2.1 ≠ (T b).2.1) ∧ ∃ t0 : Nat → FieldType, ∀ k, k < N → parseFieldDescriptor (T k).2.2.1 = some (t0 k) := by
  intro C T N h
  cases h
  exact ⟨⟨rfl, rfl, tyX2_ok 1 (by decide)⟩, nmX2, tyX2, tyX2_ok⟩
theorem pf_2_2 : ∀ C T N, vwCl[2]? = some (C, T, N) → ((T 2).2.2.2 = false ∧ (T 2).1 = RX2 ∧ parseFieldDescriptor (T 2).2.2.1 = some (tyX2 2)) ∧ (∀ a, a < N → ∀ b, b < N → a ≠ b → (T a).2.1 ≠ (T b).2.1) ∧ ∃ t0 : Nat → FieldType, ∀ k, k < N → parseFieldDescriptor (T k).2.2.1 = some (t0 k) := by
  intro C T N h
  cases h
  exact ⟨⟨rfl, rfl, tyX2_ok 2 (by decide)⟩, nmX2, tyX2, tyX2_ok⟩
abbrev nX3_init : Mt_ := (yX3_init, (cX3_init, (2, (none, (1, 24)))))
theorem ni_X3 : Cond.initialized nX3_init.1.cls ∈ gw_ ∧ Cond.code nX3_init.1 nX3_init.2.1 nX3_init.2.2.1 nX3_init.2.2.2.1 ∈ gw_ ∧ (nX3_init.1.cls ≠ "java/lang/invoke/MethodHandle" ∧ nX3_init.1.cls ≠ "java/lang/invoke/VarHandle" ∧ (parseMethodDescriptor nX3_init.1.desc).map (fun d => d.parameters.length) = some 1) ∧ plainName nX3_init.1.cls = true := ⟨(tb_in 6 (by decide +kernel) rfl), (tb_in 160 (by decide +kernel) rfl), ⟨by decide +kernel, by decide +kernel, by decide +kernel⟩, by decide +kernel⟩
theorem nm_X3 : Cond.instanceMethod nX3_init.1 ∈ gw_ := (tb_in 159 (by decide +kernel) rfl)
theorem no_X3 : Cond.methodLink nX3_init.1.cls 3 objectInit ∈ gw_ := (tb_in 161 (by decide +kernel) rfl)
theorem pf_3_0 : ∀ C T N, vwCl[3]? = some (C, T, N) → ((T 0).2.2.2 = true ∧ (T 0).1 = RX3 ∧ parseFieldDescriptor (T 0).2.2.1 = some (tyX3 0)) ∧ (∀ a, a < N → ∀ b, b < N → a ≠ b → (T a).2.1 ≠ (T b).2.1) ∧ ∃ t0 : Nat → FieldType, ∀ k, k < N → parseFieldDescriptor (T k).2.2.1 = some (t0 k) := by
  intro C T N h
  cases h
  exact ⟨⟨rfl, rfl, tyX3_ok 0 (by decide)⟩, nmX3, tyX3, tyX3_ok⟩
theorem pf_3_1 : ∀ C T N, vwCl[3]? = some (C, T, N) → ((T 1).2.2.2 = true ∧ (T 1).1 = RX3 ∧ parseFieldDescriptor (T 1).2.2.1 = some (tyX3 1)) ∧ (∀ a, a < N → ∀ b, b < N → a ≠ b → (T a).2.1 ≠ (T b).2.1) ∧ ∃ t0 : Nat → FieldType, ∀ k, k < N → parseFieldDescriptor (T k).2.2.1 = some (t0 k) := by
  intro C T N h
  cases h
  exact ⟨⟨rfl, rfl, tyX3_ok 1 (by decide)⟩, nmX3, tyX3, tyX3_ok⟩
theorem pf_3_2 : ∀ C T N, vwCl[3]? = some (C, T, N) → ((T 2).2.2.2 = true ∧ (T 2).1 = RX3 ∧ parseFieldDescriptor (T 2).2.2.1 = some (tyX3 2)) ∧ (∀ a, a < N → ∀ b, b < N → a ≠ b → (T a).2.1 ≠ (T b).2.1) ∧ ∃ t0 : Nat → FieldType, ∀ k, k < N → parseFieldDescriptor (T k).2.2.1 = some (t0 k) := by
  intro C T N h
  cases h
  exact ⟨⟨rfl, rfl, tyX3_ok 2 (by decide)⟩, nmX3, tyX3, tyX3_ok⟩
theorem pf_3_3 : ∀ C T N, vwCl[3]? = some (C, T, N) → ((T 3).2.2.2 = false ∧ (T 3).1 = RX3 ∧ parseFieldDescriptor (T 3).2.2.1 = some (tyX3 3)) ∧ (∀ a, a < N → ∀ b, b < N → a ≠ b → (T a).2.1 ≠ (T b).2.1) ∧ ∃ t0 : Nat → FieldType, ∀ k, k < N → parseFieldDescriptor (T k).2.2.1 = some (t0 k) := by
  intro C T N h
  cases h
  exact ⟨⟨rfl, rfl, tyX3_ok 3 (by decide)⟩, nmX3, tyX3, tyX3_ok⟩
theorem pf_3_4 : ∀ C T N, vwCl[3]? = some (C, T, N) → ((T 4).2.2.2 = false ∧ (T 4).1 = RX3 ∧ parseFieldDescriptor (T 4).2.2.1 = some (tyX3 4)) ∧ (∀ a, a < N → ∀ b, b < N → a ≠ b → (T a).2.1 ≠ (T b).2.1) ∧ ∃ t0 : Nat → FieldType, ∀ k, k < N → parseFieldDescriptor (T k).2.2.1 = some (t0 k) := by
  intro C T N h
  cases h
  exact ⟨⟨rfl, rfl, tyX3_ok 4 (by decide)⟩, nmX3, tyX3, tyX3_ok⟩
theorem pf_3_5 : ∀ C T N, vwCl[3]? = some (C, T, N) → ((T 5).2.2.2 = false ∧ (T 5).1 = RX3 ∧ parseFieldDescriptor (T 5).2.2.1 = some (tyX3 5)) ∧ (∀ a, a < N → ∀ b, b < N → a ≠ b → (T a).2.1 ≠ (T b).2.1) ∧ ∃ t0 : Nat → FieldType, ∀ k, k < N → parseFieldDescriptor (T k).2.2.1 = some (t0 k) := by
  intro C T N h
  cases h
  exact ⟨⟨rfl, rfl, tyX3_ok 5 (by decide)⟩, nmX3, tyX3, tyX3_ok⟩
theorem pf_3_6 : ∀ C T N, vwCl[3]? = some (C, T, N) → ((T 6).2.2.2 = false ∧ (T 6).1 = RX3 ∧ parseFieldDescriptor (T 6).2.2.1 = some (tyX3 6)) ∧ (∀ a, a < N → ∀ b, b < N → a ≠ b → (T a).2.1 ≠ (T b).2.1) ∧ ∃ t0 : Nat → FieldType, ∀ k, k < N → parseFieldDescriptor (T k).2.2.1 = some (t0 k) := by
  intro C T N h
  cases h
  exact ⟨⟨rfl, rfl, tyX3_ok 6 (by decide)⟩, nmX3, tyX3, tyX3_ok⟩
abbrev nX4_init : Mt_ := (yX4_init, (cX4_init, (1, (none, (1, 24)))))
theorem ni_X4 : Cond.initialized nX4_init.1.cls ∈ gw_ ∧ Cond.code nX4_init.1 nX4_init.2.1 nX4_init.2.2.1 nX4_init.2.2.2.1 ∈ gw_ ∧ (nX4_init.1.cls ≠ "java/lang/invoke/MethodHandle" ∧ nX4_init.1.cls ≠ "java/lang/invoke/VarHandle" ∧ (parseMethodDescriptor nX4_init.1.desc).map (fun d => d.parameters.length) = some 0) ∧ plainName nX4_init.1.cls = true := ⟨(tb_in 8 (by decide +kernel) rfl), (tb_in 224 (by decide +kernel) rfl), ⟨by decide +kernel, by decide +kernel, by decide +kernel⟩, by decide +kernel⟩
theorem nm_X4 : Cond.instanceMethod nX4_init.1 ∈ gw_ := (tb_in 223 (by decide +kernel) rfl)
theorem no_X4 : Cond.methodLink nX4_init.1.cls 3 objectInit ∈ gw_ := (tb_in 225 (by decide +kernel) rfl)
theorem pf_4_0 : ∀ C T N, vwCl[4]? = some (C, T, N) → ((T 0).2.2.2 = true ∧ (T 0).1 = RX4 ∧ parseFieldDescriptor (T 0).2.2.1 = some (tyX4 0)) ∧ (∀ a, a < N → ∀ b, b < N → a ≠ b → (T a).2.1 ≠ (T b).2.1) ∧ ∃ t0 : Nat → FieldType, ∀ k, k < N → parseFieldDescriptor (T k).2.2.1 = some (t0 k) := by
  intro C T N h
  cases h
  exact ⟨⟨rfl, rfl, tyX4_ok 0 (by decide)⟩, nmX4, tyX4, tyX4_ok⟩
theorem pf_4_1 : ∀ C T N, vwCl[4]? = some (C, T, N) → ((T 1).2.2.2 = false ∧ (T 1).1 = RX4 ∧ parseFieldDescriptor (T 1).2.2.1 = some (tyX4 1)) ∧ (∀ a, a < N → ∀ b, b < N → a ≠ b → (T a).2.1 ≠ (T b).2.1) ∧ ∃ t0 : Nat → FieldType, ∀ k, k < N → parseFieldDescriptor (T k).2.2.1 = some (t0 k) := by
  intro C T N h
  cases h
  exact ⟨⟨rfl, rfl, tyX4_ok 1 (by decide)⟩, nmX4, tyX4, tyX4_ok⟩
theorem pf_4_2 : ∀ C T N, vwCl[4]? = some (C, T, N) → ((T 2).2.2.2 = false ∧ (T 2).1 = RX4 ∧ parseFieldDescriptor (T 2).2.2.1 = some (tyX4 2)) ∧ (∀ a, a < N → ∀ b, b < N → a ≠ b → (T a).2.1 ≠ (T b).2.1) ∧ ∃ t0 : Nat → FieldType, ∀ k, k < N → parseFieldDescriptor (T k).2.2.1 = some (t0 k) := by
  intro C T N h
  cases h
  exact ⟨⟨rfl, rfl, tyX4_ok 2 (by decide)⟩, nmX4, tyX4, tyX4_ok⟩
theorem pf_4_3 : ∀ C T N, vwCl[4]? = some (C, T, N) → ((T 3).2.2.2 = false ∧ (T 3).1 = RX4 ∧ parseFieldDescriptor (T 3).2.2.1 = some (tyX4 3)) ∧ (∀ a, a < N → ∀ b, b < N → a ≠ b → (T a).2.1 ≠ (T b).2.1) ∧ ∃ t0 : Nat → FieldType, ∀ k, k < N → parseFieldDescriptor (T k).2.2.1 = some (t0 k) := by
  intro C T N h
  cases h
  exact ⟨⟨rfl, rfl, tyX4_ok 3 (by decide)⟩, nmX4, tyX4, tyX4_ok⟩
abbrev nX5_init : Mt_ := (yX5_init, (cX5_init, (3, (none, (2, 40)))))
theorem ni_X5 : Cond.initialized nX5_init.1.cls ∈ gw_ ∧ Cond.code nX5_init.1 nX5_init.2.1 nX5_init.2.2.1 nX5_init.2.2.2.1 ∈ gw_ ∧ (nX5_init.1.cls ≠ "java/lang/invoke/MethodHandle" ∧ nX5_init.1.cls ≠ "java/lang/invoke/VarHandle" ∧ (parseMethodDescriptor nX5_init.1.desc).map (fun d => d.parameters.length) = some 2) ∧ plainName nX5_init.1.cls = true := ⟨(tb_in 2 (by decide +kernel) rfl), (tb_in 30 (by decide +kernel) rfl), ⟨by decide +kernel, by decide +kernel, by decide +kernel⟩, by decide +kernel⟩
theorem nm_X5 : Cond.instanceMethod nX5_init.1 ∈ gw_ := (tb_in 29 (by decide +kernel) rfl)
theorem no_X5 : Cond.methodLink nX5_init.1.cls 3 objectInit ∈ gw_ := (tb_in 31 (by decide +kernel) rfl)
theorem pf_5_0 : ∀ C T N, vwCl[5]? = some (C, T, N) → ((T 0).2.2.2 = true ∧ (T 0).1 = RX5 ∧ parseFieldDescriptor (T 0).2.2.1 = some (tyX5 0)) ∧ (∀ a, a < N → ∀ b, b < N → a ≠ b → (T a).2.1 ≠ (T b).2.1) ∧ ∃ t0 : Nat → FieldType, ∀ k, k < N → parseFieldDescriptor (T k).2.2.1 = some (t0 k) := by
  intro C T N h
  cases h
  exact ⟨⟨rfl, rfl, tyX5_ok 0 (by decide)⟩, nmX5, tyX5, tyX5_ok⟩
theorem pf_5_1 : ∀ C T N, vwCl[5]? = some (C, T, N) → ((T 1).2.2.2 = true ∧ (T 1).1 = RX5 ∧ parseFieldDescriptor (T 1).2.2.1 = some (tyX5 1)) ∧ (∀ a, a < N → ∀ b, b < N → a ≠ b → (T a).2.1 ≠ (T b).2.1) ∧ ∃ t0 : Nat → FieldType, ∀ k, k < N → parseFieldDescriptor (T k).2.2.1 = some (t0 k) := by
  intro C T N h
  cases h
  exact ⟨⟨rfl, rfl, tyX5_ok 1 (by decide)⟩, nmX5, tyX5, tyX5_ok⟩
theorem pf_5_2 : ∀ C T N, vwCl[5]? = some (C, T, N) → ((T 2).2.2.2 = true ∧ (T 2).1 = RX5 ∧ parseFieldDescriptor (T 2).2.2.1 = some (tyX5 2)) ∧ (∀ a, a < N → ∀ b, b < N → a ≠ b → (T a).2.1 ≠ (T b).2.1) ∧ ∃ t0 : Nat → FieldType, ∀ k, k < N → parseFieldDescriptor (T k).2.2.1 = some (t0 k) := by
  intro C T N h
  cases h
  exact ⟨⟨rfl, rfl, tyX5_ok 2 (by decide)⟩, nmX5, tyX5, tyX5_ok⟩
theorem pf_5_3 : ∀ C T N, vwCl[5]? = some (C, T, N) → ((T 3).2.2.2 = false ∧ (T 3).1 = RX5 ∧ parseFieldDescriptor (T 3).2.2.1 = some (tyX5 3)) ∧ (∀ a, a < N → ∀ b, b < N → a ≠ b → (T a).2.1 ≠ (T b).2.1) ∧ ∃ t0 : Nat → FieldType, ∀ k, k < N → parseFieldDescriptor (T k).2.2.1 = some (t0 k) := by
  intro C T N h
  cases h
  exact ⟨⟨rfl, rfl, tyX5_ok 3 (by decide)⟩, nmX5, tyX5, tyX5_ok⟩
abbrev nX6_init : Mt_ := (yX6_init, (cX6_init, (5, (none, (3, 62)))))
theorem ni_X6 : Cond.initialized nX6_init.1.cls ∈ gw_ ∧ Cond.code nX6_init.1 nX6_init.2.1 nX6_init.2.2.1 nX6_init.2.2.2.1 ∈ gw_ ∧ (nX6_init.1.cls ≠ "java/lang/invoke/MethodHandle" ∧ nX6_init.1.cls ≠ "java/lang/invoke/VarHandle" ∧ (parseMethodDescriptor nX6_init.1.desc).map (fun d => d.parameters.length) = some 0) ∧ plainName nX6_init.1.cls = true := ⟨(tb_in 1 (by decide +kernel) rfl), (tb_in 21 (by decide +kernel) rfl), ⟨by decide +kernel, by decide +kernel, by decide +kernel⟩, by decide +kernel⟩
theorem nm_X6 : Cond.instanceMethod nX6_init.1 ∈ gw_ := (tb_in 20 (by decide +kernel) rfl)
theorem no_X6 : Cond.methodLink nX6_init.1.cls 3 objectInit ∈ gw_ := (tb_in 22 (by decide +kernel) rfl)
theorem pf_6_0 : ∀ C T N, vwCl[6]? = some (C, T, N) → ((T 0).2.2.2 = true ∧ (T 0).1 = RX6 ∧ parseFieldDescriptor (T 0).2.2.1 = some (tyX6 0)) ∧ (∀ a, a < N → ∀ b, b < N → a ≠ b → (T a).2.1 ≠ (T b).2.1) ∧ ∃ t0 : Nat → FieldType, ∀ k, k < N → parseFieldDescriptor (T k).2.2.1 = some (t0 k) := by
  intro C T N h
  cases h
  exact ⟨⟨rfl, rfl, tyX6_ok 0 (by decide)⟩, nmX6, tyX6, tyX6_ok⟩
theorem pf_6_1 : ∀ C T N, vwCl[6]? = some (C, T, N) → ((T 1).2.2.2 = true ∧ (T 1).1 = RX6 ∧ parseFieldDescriptor (T 1).2.2.1 = some (tyX6 1)) ∧ (∀ a, a < N → ∀ b, b < N → a ≠ b → (T a).2.1 ≠ (T b).2.1) ∧ ∃ t0 : Nat → FieldType, ∀ k, k < N → parseFieldDescriptor (T k).2.2.1 = some (t0 k) := by
  intro C T N h
  cases h
  exact ⟨⟨rfl, rfl, tyX6_ok 1 (by decide)⟩, nmX6, tyX6, tyX6_ok⟩
theorem pf_6_2 : ∀ C T N, vwCl[6]? = some (C, T, N) → ((T 2).2.2.2 = true ∧ (T 2).1 = RX6 ∧ parseFieldDescriptor (T 2).2.2.1 = some (tyX6 2)) ∧ (∀ a, a < N → ∀ b, b < N → a ≠ b → (T a).2.1 ≠ (T b).2.1) ∧ ∃ t0 : Nat → FieldType, ∀ k, k < N → parseFieldDescriptor (T k).2.2.1 = some (t0 k) := by
  intro C T N h
  cases h
  exact ⟨⟨rfl, rfl, tyX6_ok 2 (by decide)⟩, nmX6, tyX6, tyX6_ok⟩
theorem pf_6_3 : ∀ C T N, vwCl[6]? = some (C, T, N) → ((T 3).2.2.2 = true ∧ (T 3).1 = RX6 ∧ parseFieldDescriptor (T 3).2.2.1 = some (tyX6 3)) ∧ (∀ a, a < N → ∀ b, b < N → a ≠ b → (T a).2.1 ≠ (T b).2.1) ∧ ∃ t0 : Nat → FieldType, ∀ k, k < N → parseFieldDescriptor (T k).2.2.1 = some (t0 k) := by
  intro C T N h
  cases h
  exact ⟨⟨rfl, rfl, tyX6_ok 3 (by decide)⟩, nmX6, tyX6, tyX6_ok⟩
theorem pf_6_4 : ∀ C T N, vwCl[6]? = some (C, T, N) → ((T 4).2.2.2 = true ∧ (T 4).1 = RX6 ∧ parseFieldDescriptor (T 4).2.2.1 = some (tyX6 4)) ∧ (∀ a, a < N → ∀ b, b < N → a ≠ b → (T a).2.1 ≠ (T b).2.1) ∧ ∃ t0 : Nat → FieldType, ∀ k, k < N → parseFieldDescriptor (T k).2.2.1 = some (t0 k) := by
  intro C T N h
  cases h
  exact ⟨⟨rfl, rfl, tyX6_ok 4 (by decide)⟩, nmX6, tyX6, tyX6_ok⟩
theorem pf_6_5 : ∀ C T N, vwCl[6]? = some (C, T, N) → ((T 5).2.2.2 = true ∧ (T 5).1 = RX6 ∧ parseFieldDescriptor (T 5).2.2.1 = some (tyX6 5)) ∧ (∀ a, a < N → ∀ b, b < N → a ≠ b → (T a).2.1 ≠ (T b).2.1) ∧ ∃ t0 : Nat → FieldType, ∀ k, k < N → parseFieldDescriptor (T k).2.2.1 = some (t0 k) := by
  intro C T N h
  cases h
  exact ⟨⟨rfl, rfl, tyX6_ok 5 (by decide)⟩, nmX6, tyX6, tyX6_ok⟩
theorem pf_6_6 : ∀ C T N, vwCl[6]? = some (C, T, N) → ((T 6).2.2.2 = true ∧ (T 6).1 = RX6 ∧ parseFieldDescriptor (T 6).2.2.1 = some (tyX6 6)) ∧ (∀ a, a < N → ∀ b, b < N → a ≠ b → (T a).2.1 ≠ (T b).2.1) ∧ ∃ t0 : Nat → FieldType, ∀ k, k < N → parseFieldDescriptor (T k).2.2.1 = some (t0 k) := by
  intro C T N h
  cases h
  exact ⟨⟨rfl, rfl, tyX6_ok 6 (by decide)⟩, nmX6, tyX6, tyX6_ok⟩
theorem pf_6_7 : ∀ C T N, vwCl[6]? = some (C, T, N) → ((T 7).2.2.2 = true ∧ (T 7).1 = RX6 ∧ parseFieldDescriptor (T 7).2.2.1 = some (tyX6 7)) ∧ (∀ a, a < N → ∀ b, b < N → a ≠ b → (T a).2.1 ≠ (T b).2.1) ∧ ∃ t0 : Nat → FieldType, ∀ k, k < N → parseFieldDescriptor (T k).2.2.1 = some (t0 k) := by
  intro C T N h
  cases h
  exact ⟨⟨rfl, rfl, tyX6_ok 7 (by decide)⟩, nmX6, tyX6, tyX6_ok⟩
theorem pf_6_8 : ∀ C T N, vwCl[6]? = some (C, T, N) → ((T 8).2.2.2 = true ∧ (T 8).1 = RX6 ∧ parseFieldDescriptor (T 8).2.2.1 = some (tyX6 8)) ∧ (∀ a, a < N → ∀ b, b < N → a ≠ b → (T a).2.1 ≠ (T b).2.1) ∧ ∃ t0 : Nat → FieldType, ∀ k, k < N → parseFieldDescriptor (T k).2.2.1 = some (t0 k) := by
  intro C T N h
  cases h
  exact ⟨⟨rfl, rfl, tyX6_ok 8 (by decide)⟩, nmX6, tyX6, tyX6_ok⟩
theorem pf_6_9 : ∀ C T N, vwCl[6]? = some (C, T, N) → ((T 9).2.2.2 = false ∧ (T 9).1 = RX6 ∧ parseFieldDescriptor (T 9).2.2.1 = some (tyX6 9)) ∧ (∀ a, a < N → ∀ b, b < N → a ≠ b → (T a).2.1 ≠ (T b).2.1) ∧ ∃ t0 : Nat → FieldType, ∀ k, k < N → parseFieldDescriptor (T k).2.2.1 = some (t0 k) := by
  intro C T N h
  cases h
  exact ⟨⟨rfl, rfl, tyX6_ok 9 (by decide)⟩, nmX6, tyX6, tyX6_ok⟩
theorem pf_6_10 : ∀ C T N, vwCl[6]? = some (C, T, N) → ((T 10).2.2.2 = false ∧ (T 10).1 = RX6 ∧ parseFieldDescriptor (T 10).2.2.1 = some (tyX6 10)) ∧ (∀ a, a < N → ∀ b, b < N → a ≠ b → (T a).2.1 ≠ (T b).2.1) ∧ ∃ t0 : Nat → FieldType, ∀ k, k < N → parseFieldDescriptor (T k).2.2.1 = some (t0 k) := by
  intro C T N h
  cases h
  exact ⟨⟨rfl, rfl, tyX6_ok 10 (by decide)⟩, nmX6, tyX6, tyX6_ok⟩
abbrev nX7_init : Mt_ := (yX7_init, (cX7_init, (2, (none, (1, 24)))))
theorem ni_X7 : Cond.initialized nX7_init.1.cls ∈ gw_ ∧ Cond.code nX7_init.1 nX7_init.2.1 nX7_init.2.2.1 nX7_init.2.2.2.1 ∈ gw_ ∧ (nX7_init.1.cls ≠ "java/lang/invoke/MethodHandle" ∧ nX7_init.1.cls ≠ "java/lang/invoke/VarHandle" ∧ (parseMethodDescriptor nX7_init.1.desc).map (fun d => d.parameters.length) = some 0) ∧ plainName nX7_init.1.cls = true := ⟨(tb_in 9 (by decide +kernel) rfl), (tb_in 741 (by decide +kernel) rfl), ⟨by decide +kernel, by decide +kernel, by decide +kernel⟩, by decide +kernel⟩
theorem nm_X7 : Cond.instanceMethod nX7_init.1 ∈ gw_ := (tb_in 740 (by decide +kernel) rfl)
theorem no_X7 : Cond.methodLink nX7_init.1.cls 1 objectInit ∈ gw_ := (tb_in 742 (by decide +kernel) rfl)
theorem pf_7_0 : ∀ C T N, vwCl[7]? = some (C, T, N) → ((T 0).2.2.2 = true ∧ (T 0).1 = RX7 ∧ parseFieldDescriptor (T 0).2.2.1 = some (tyX7 0)) ∧ (∀ a, a < N → ∀ b, b < N → a ≠ b → (T a).2.1 ≠ (T b).2.1) ∧ ∃ t0 : Nat → FieldType, ∀ k, k < N → parseFieldDescriptor (T k).2.2.1 = some (t0 k) := by
  intro C T N h
  cases h
  exact ⟨⟨rfl, rfl, tyX7_ok 0 (by decide)⟩, nmX7, tyX7, tyX7_ok⟩
theorem pf_7_1 : ∀ C T N, vwCl[7]? = some (C, T, N) → ((T 1).2.2.2 = true ∧ (T 1).1 = RX7 ∧ parseFieldDescriptor (T 1).2.2.1 = some (tyX7 1)) ∧ (∀ a, a < N → ∀ b, b < N → a ≠ b → (T a).2.1 ≠ (T b).2.1) ∧ ∃ t0 : Nat → FieldType, ∀ k, k < N → parseFieldDescriptor (T k).2.2.1 = some (t0 k) := by
  intro C T N h
  cases h
  exact ⟨⟨rfl, rfl, tyX7_ok 1 (by decide)⟩, nmX7, tyX7, tyX7_ok⟩
theorem pf_7_2 : ∀ C T N, vwCl[7]? = some (C, T, N) → ((T 2).2.2.2 = true ∧ (T 2).1 = RX7 ∧ parseFieldDescriptor (T 2).2.2.1 = some (tyX7 2)) ∧ (∀ a, a < N → ∀ b, b < N → a ≠ b → (T a).2.1 ≠ (T b).2.1) ∧ ∃ t0 : Nat → FieldType, ∀ k, k < N → parseFieldDescriptor (T k).2.2.1 = some (t0 k) := by
  intro C T N h
  cases h
  exact ⟨⟨rfl, rfl, tyX7_ok 2 (by decide)⟩, nmX7, tyX7, tyX7_ok⟩
theorem pf_7_3 : ∀ C T N, vwCl[7]? = some (C, T, N) → ((T 3).2.2.2 = true ∧ (T 3).1 = RX7 ∧ parseFieldDescriptor (T 3).2.2.1 = some (tyX7 3)) ∧ (∀ a, a < N → ∀ b, b < N → a ≠ b → (T a).2.1 ≠ (T b).2.1) ∧ ∃ t0 : Nat → FieldType, ∀ k, k < N → parseFieldDescriptor (T k).2.2.1 = some (t0 k) := by
  intro C T N h
  cases h
  exact ⟨⟨rfl, rfl, tyX7_ok 3 (by decide)⟩, nmX7, tyX7, tyX7_ok⟩
theorem pf_7_4 : ∀ C T N, vwCl[7]? = some (C, T, N) → ((T 4).2.2.2 = false ∧ (T 4).1 = RX7 ∧ parseFieldDescriptor (T 4).2.2.1 = some (tyX7 4)) ∧ (∀ a, a < N → ∀ b, b < N → a ≠ b → (T a).2.1 ≠ (T b).2.1) ∧ ∃ t0 : Nat → FieldType, ∀ k, k < N → parseFieldDescriptor (T k).2.2.1 = some (t0 k) := by
  intro C T N h
  cases h
  exact ⟨⟨rfl, rfl, tyX7_ok 4 (by decide)⟩, nmX7, tyX7, tyX7_ok⟩
theorem pf_7_5 : ∀ C T N, vwCl[7]? = some (C, T, N) → ((T 5).2.2.2 = true ∧ (T 5).1 = RX7 ∧ parseFieldDescriptor (T 5).2.2.1 = some (tyX7 5)) ∧ (∀ a, a < N → ∀ b, b < N → a ≠ b → (T a).2.1 ≠ (T b).2.1) ∧ ∃ t0 : Nat → FieldType, ∀ k, k < N → parseFieldDescriptor (T k).2.2.1 = some (t0 k) := by
  intro C T N h
  cases h
  exact ⟨⟨rfl, rfl, tyX7_ok 5 (by decide)⟩, nmX7, tyX7, tyX7_ok⟩
theorem pf_7_6 : ∀ C T N, vwCl[7]? = some (C, T, N) → ((T 6).2.2.2 = true ∧ (T 6).1 = RX7 ∧ parseFieldDescriptor (T 6).2.2.1 = some (tyX7 6)) ∧ (∀ a, a < N → ∀ b, b < N → a ≠ b → (T a).2.1 ≠ (T b).2.1) ∧ ∃ t0 : Nat → FieldType, ∀ k, k < N → parseFieldDescriptor (T k).2.2.1 = some (t0 k) := by
  intro C T N h
  cases h
  exact ⟨⟨rfl, rfl, tyX7_ok 6 (by decide)⟩, nmX7, tyX7, tyX7_ok⟩
theorem pf_7_7 : ∀ C T N, vwCl[7]? = some (C, T, N) → ((T 7).2.2.2 = false ∧ (T 7).1 = RX7 ∧ parseFieldDescriptor (T 7).2.2.1 = some (tyX7 7)) ∧ (∀ a, a < N → ∀ b, b < N → a ≠ b → (T a).2.1 ≠ (T b).2.1) ∧ ∃ t0 : Nat → FieldType, ∀ k, k < N → parseFieldDescriptor (T k).2.2.1 = some (t0 k) := by
  intro C T N h
  cases h
  exact ⟨⟨rfl, rfl, tyX7_ok 7 (by decide)⟩, nmX7, tyX7, tyX7_ok⟩
theorem pf_7_8 : ∀ C T N, vwCl[7]? = some (C, T, N) → ((T 8).2.2.2 = true ∧ (T 8).1 = RX7 ∧ parseFieldDescriptor (T 8).2.2.1 = some (tyX7 8)) ∧ (∀ a, a < N → ∀ b, b < N → a ≠ b → (T a).2.1 ≠ (T b).2.1) ∧ ∃ t0 : Nat → FieldType, ∀ k, k < N → parseFieldDescriptor (T k).2.2.1 = some (t0 k) := by
  intro C T N h
  cases h
  exact ⟨⟨rfl, rfl, tyX7_ok 8 (by decide)⟩, nmX7, tyX7, tyX7_ok⟩
theorem pf_7_9 : ∀ C T N, vwCl[7]? = some (C, T, N) → ((T 9).2.2.2 = true ∧ (T 9).1 = RX7 ∧ parseFieldDescriptor (T 9).2.2.1 = some (tyX7 9)) ∧ (∀ a, a < N → ∀ b, b < N → a ≠ b → (T a).2.1 ≠ (T b).2.1) ∧ ∃ t0 : Nat → FieldType, ∀ k, k < N → parseFieldDescriptor (T k).2.2.1 = some (t0 k) := by
  intro C T N h
  cases h
  exact ⟨⟨rfl, rfl, tyX7_ok 9 (by decide)⟩, nmX7, tyX7, tyX7_ok⟩
theorem pf_7_10 : ∀ C T N, vwCl[7]? = some (C, T, N) → ((T 10).2.2.2 = true ∧ (T 10).1 = RX7 ∧ parseFieldDescriptor (T 10).2.2.1 = some (tyX7 10)) ∧ (∀ a, a < N → ∀ b, b < N → a ≠ b → (T a).2.1 ≠ (T b).2.1) ∧ ∃ t0 : Nat → FieldType, ∀ k, k < N → parseFieldDescriptor (T k).2.2.1 = some (t0 k) := by
  intro C T N h
  cases h
  exact ⟨⟨rfl, rfl, tyX7_ok 10 (by decide)⟩, nmX7, tyX7, tyX7_ok⟩
theorem pf_7_11 : ∀ C T N, vwCl[7]? = some (C, T, N) → ((T 11).2.2.2 = true ∧ (T 11).1 = RX7 ∧ parseFieldDescriptor (T 11).2.2.1 = some (tyX7 11)) ∧ (∀ a, a < N → ∀ b, b < N → a ≠ b → (T a).2.1 ≠ (T b).2.1) ∧ ∃ t0 : Nat → FieldType, ∀ k, k < N → parseFieldDescriptor (T k).2.2.1 = some (t0 k) := by
  intro C T N h
  cases h
  exact ⟨⟨rfl, rfl, tyX7_ok 11 (by decide)⟩, nmX7, tyX7, tyX7_ok⟩
theorem pf_7_12 : ∀ C T N, vwCl[7]? = some (C, T, N) → ((T 12).2.2.2 = false ∧ (T 12).1 = RX7 ∧ parseFieldDescriptor (T 12).2.2.1 = some (tyX7 12)) ∧ (∀ a, a < N → ∀ b, b < N → a ≠ b → (T a).2.1 ≠ (T b).2.1) ∧ ∃ t0 : Nat → FieldType, ∀ k, k < N → parseFieldDescriptor (T k).2.2.1 = some (t0 k) := by
  intro C T N h
  cases h
  exact ⟨⟨rfl, rfl, tyX7_ok 12 (by decide)⟩, nmX7, tyX7, tyX7_ok⟩
theorem pf_7_13 : ∀ C T N, vwCl[7]? = some (C, T, N) → ((T 13).2.2.2 = false ∧ (T 13).1 = RX7 ∧ parseFieldDescriptor (T 13).2.2.1 = some (tyX7 13)) ∧ (∀ a, a < N → ∀ b, b < N → a ≠ b → (T a).2.1 ≠ (T b).2.1) ∧ ∃ t0 : Nat → FieldType, ∀ k, k < N → parseFieldDescriptor (T k).2.2.1 = some (t0 k) := by
  intro C T N h
  cases h
  exact ⟨⟨rfl, rfl, tyX7_ok 13 (by decide)⟩, nmX7, tyX7, tyX7_ok⟩
theorem pf_7_14 : ∀ C T N, vwCl[7]? = some (C, T, N) → ((T 14).2.2.2 = true ∧ (T 14).1 = RX7 ∧ parseFieldDescriptor (T 14).2.2.1 = some (tyX7 14)) ∧ (∀ a, a < N → ∀ b, b < N → a ≠ b → (T a).2.1 ≠ (T b).2.1) ∧ ∃ t0 : Nat → FieldType, ∀ k, k < N → parseFieldDescriptor (T k).2.2.1 = some (t0 k) := by
  intro C T N h
  cases h
  exact ⟨⟨rfl, rfl, tyX7_ok 14 (by decide)⟩, nmX7, tyX7, tyX7_ok⟩
theorem pf_7_15 : ∀ C T N, vwCl[7]? = some (C, T, N) → ((T 15).2.2.2 = true ∧ (T 15).1 = RX7 ∧ parseFieldDescriptor (T 15).2.2.1 = some (tyX7 15)) ∧ (∀ a, a < N → ∀ b, b < N → a ≠ b → (T a).2.1 ≠ (T b).2.1) ∧ ∃ t0 : Nat → FieldType, ∀ k, k < N → parseFieldDescriptor (T k).2.2.1 = some (t0 k) := by
  intro C T N h
  cases h
  exact ⟨⟨rfl, rfl, tyX7_ok 15 (by decide)⟩, nmX7, tyX7, tyX7_ok⟩
theorem pf_7_16 : ∀ C T N, vwCl[7]? = some (C, T, N) → ((T 16).2.2.2 = false ∧ (T 16).1 = RX7 ∧ parseFieldDescriptor (T 16).2.2.1 = some (tyX7 16)) ∧ (∀ a, a < N → ∀ b, b < N → a ≠ b → (T a).2.1 ≠ (T b).2.1) ∧ ∃ t0 : Nat → FieldType, ∀ k, k < N → parseFieldDescriptor (T k).2.2.1 = some (t0 k) := by
  intro C T N h
  cases h
  exact ⟨⟨rfl, rfl, tyX7_ok 16 (by decide)⟩, nmX7, tyX7, tyX7_ok⟩
theorem pf_7_17 : ∀ C T N, vwCl[7]? = some (C, T, N) → ((T 17).2.2.2 = false ∧ (T 17).1 = RX7 ∧ parseFieldDescriptor (T 17).2.2.1 = some (tyX7 17)) ∧ (∀ a, a < N → ∀ b, b < N → a ≠ b → (T a).2.1 ≠ (T b).2.1) ∧ ∃ t0 : Nat → FieldType, ∀ k, k < N → parseFieldDescriptor (T k).2.2.1 = some (t0 k) := by
  intro C T N h
  cases h
  exact ⟨⟨rfl, rfl, tyX7_ok 17 (by decide)⟩, nmX7, tyX7, tyX7_ok⟩
theorem pf_7_18 : ∀ C T N, vwCl[7]? = some (C, T, N) → ((T 18).2.2.2 = true ∧ (T 18).1 = RX7 ∧ parseFieldDescriptor (T 18).2.2.1 = some (tyX7 18)) ∧ (∀ a, a < N → ∀ b, b < N → a ≠ b → (T a).2.1 ≠ (T b).2.1) ∧ ∃ t0 : Nat → FieldType, ∀ k, k < N → parseFieldDescriptor (T k).2.2.1 = some (t0 k) := by
  intro C T N h
  cases h
  exact ⟨⟨rfl, rfl, tyX7_ok 18 (by decide)⟩, nmX7, tyX7, tyX7_ok⟩
theorem pf_7_19 : ∀ C T N, vwCl[7]? = some (C, T, N) → ((T 19).2.2.2 = false ∧ (T 19).1 = RX7 ∧ parseFieldDescriptor (T 19).2.2.1 = some (tyX7 19)) ∧ (∀ a, a < N → ∀ b, b < N → a ≠ b → (T a).2.1 ≠ (T b).2.1) ∧ ∃ t0 : Nat → FieldType, ∀ k, k < N → parseFieldDescriptor (T k).2.2.1 = some (t0 k) := by
  intro C T N h
  cases h
  exact ⟨⟨rfl, rfl, tyX7_ok 19 (by decide)⟩, nmX7, tyX7, tyX7_ok⟩
theorem pf_7_20 : ∀ C T N, vwCl[7]? = some (C, T, N) → ((T 20).2.2.2 = false ∧ (T 20).1 = RX7 ∧ parseFieldDescriptor (T 20).2.2.1 = some (tyX7 20)) ∧ (∀ a, a < N → ∀ b, b < N → a ≠ b → (T a).2.1 ≠ (T b).2.1) ∧ ∃ t0 : Nat → FieldType, ∀ k, k < N → parseFieldDescriptor (T k).2.2.1 = some (t0 k) := by
  intro C T N h
  cases h
  exact ⟨⟨rfl, rfl, tyX7_ok 20 (by decide)⟩, nmX7, tyX7, tyX7_ok⟩
theorem pf_7_21 : ∀ C T N, vwCl[7]? = some (C, T, N) → ((T 21).2.2.2 = false ∧ (T 21).1 = RX7 ∧ parseFieldDescriptor (T 21).2.2.1 = some (tyX7 21)) ∧ (∀ a, a < N → ∀ b, b < N → a ≠ b → (T a).2.1 ≠ (T b).2.1) ∧ ∃ t0 : Nat → FieldType, ∀ k, k < N → parseFieldDescriptor (T k).2.2.1 = some (t0 k) := by
  intro C T N h
  cases h
  exact ⟨⟨rfl, rfl, tyX7_ok 21 (by decide)⟩, nmX7, tyX7, tyX7_ok⟩
theorem pf_7_22 : ∀ C T N, vwCl[7]? = some (C, T, N) → ((T 22).2.2.2 = false ∧ (T 22).1 = RX7 ∧ parseFieldDescriptor (T 22).2.2.1 = some (tyX7 22)) ∧ (∀ a, a < N → ∀ b, b < N → a ≠ b → (T a).2.1 ≠ (T b).2.1) ∧ ∃ t0 : Nat → FieldType, ∀ k, k < N → parseFieldDescriptor (T k).2.2.1 = some (t0 k) := by
  intro C T N h
  cases h
  exact ⟨⟨rfl, rfl, tyX7_ok 22 (by decide)⟩, nmX7, tyX7, tyX7_ok⟩
theorem pf_7_23 : ∀ C T N, vwCl[7]? = some (C, T, N) → ((T 23).2.2.2 = true ∧ (T 23).1 = RX7 ∧ parseFieldDescriptor (T 23).2.2.1 = some (tyX7 23)) ∧ (∀ a, a < N → ∀ b, b < N → a ≠ b → (T a).2.1 ≠ (T b).2.1) ∧ ∃ t0 : Nat → FieldType, ∀ k, k < N → parseFieldDescriptor (T k).2.2.1 = some (t0 k) := by
  intro C T N h
  cases h
  exact ⟨⟨rfl, rfl, tyX7_ok 23 (by decide)⟩, nmX7, tyX7, tyX7_ok⟩
theorem pf_7_24 : ∀ C T N, vwCl[7]? = some (C, T, N) → ((T 24).2.2.2 = true ∧ (T 24).1 = RX7 ∧ parseFieldDescriptor (T 24).2.2.1 = some (tyX7 24)) ∧ (∀ a, a < N → ∀ b, b < N → a ≠ b → (T a).2.1 ≠ (T b).2.1) ∧ ∃ t0 : Nat → FieldType, ∀ k, k < N → parseFieldDescriptor (T k).2.2.1 = some (t0 k) := by
  intro C T N h
  cases h
  exact ⟨⟨rfl, rfl, tyX7_ok 24 (by decide)⟩, nmX7, tyX7, tyX7_ok⟩
theorem pf_7_25 : ∀ C T N, vwCl[7]? = some (C, T, N) → ((T 25).2.2.2 = false ∧ (T 25).1 = RX7 ∧ parseFieldDescriptor (T 25).2.2.1 = some (tyX7 25)) ∧ (∀ a, a < N → ∀ b, b < N → a ≠ b → (T a).2.1 ≠ (T b).2.1) ∧ ∃ t0 : Nat → FieldType, ∀ k, k < N → parseFieldDescriptor (T k).2.2.1 = some (t0 k) := by
  intro C T N h
  cases h
  exact ⟨⟨rfl, rfl, tyX7_ok 25 (by decide)⟩, nmX7, tyX7, tyX7_ok⟩
theorem nw_9 : Cond.classLink "DrownedNames" 9 RX5 ∈ gw_ ∧ Cond.instantiable RX5 4 ∈ gw_ ∧ Cond.initialized RX5 ∈ gw_ := ⟨(tb_in 25 (by decide +kernel) rfl), (tb_in 26 (by decide +kernel) rfl), (tb_in 2 (by decide +kernel) rfl)⟩
theorem nw_30 : Cond.classLink "DrownedNames" 30 RX2 ∈ gw_ ∧ Cond.instantiable RX2 3 ∈ gw_ ∧ Cond.initialized RX2 ∈ gw_ := ⟨(tb_in 61 (by decide +kernel) rfl), (tb_in 62 (by decide +kernel) rfl), (tb_in 4 (by decide +kernel) rfl)⟩
theorem nw_45 : Cond.classLink "DrownedNames" 45 RX1 ∈ gw_ ∧ Cond.instantiable RX1 14 ∈ gw_ ∧ Cond.initialized RX1 ∈ gw_ := ⟨(tb_in 86 (by decide +kernel) rfl), (tb_in 87 (by decide +kernel) rfl), (tb_in 5 (by decide +kernel) rfl)⟩
theorem nw_48 : Cond.classLink "DrownedNames" 48 RX3 ∈ gw_ ∧ Cond.instantiable RX3 7 ∈ gw_ ∧ Cond.initialized RX3 ∈ gw_ := ⟨(tb_in 156 (by decide +kernel) rfl), (tb_in 157 (by decide +kernel) rfl), (tb_in 6 (by decide +kernel) rfl)⟩
theorem nw_64 : Cond.classLink "DrownedNames" 64 RX0 ∈ gw_ ∧ Cond.instantiable RX0 7 ∈ gw_ ∧ Cond.initialized RX0 ∈ gw_ := ⟨(tb_in 190 (by decide +kernel) rfl), (tb_in 191 (by decide +kernel) rfl), (tb_in 7 (by decide +kernel) rfl)⟩
theorem nw_39 : Cond.classLink "DrownedNames" 39 RX4 ∈ gw_ ∧ Cond.instantiable RX4 4 ∈ gw_ ∧ Cond.initialized RX4 ∈ gw_ := ⟨(tb_in 84 (by decide +kernel) rfl), (tb_in 221 (by decide +kernel) rfl), (tb_in 8 (by decide +kernel) rfl)⟩
theorem nw_L7 : Cond.classLink "DrownedNamesLaw" 7 RX6 ∈ gw_ ∧ Cond.instantiable RX6 11 ∈ gw_ ∧ Cond.initialized RX6 ∈ gw_ := ⟨(tb_in 17 (by decide +kernel) rfl), (tb_in 18 (by decide +kernel) rfl), (tb_in 1 (by decide +kernel) rfl)⟩
theorem nw_L10 : Cond.classLink "DrownedNamesLaw" 10 RX7 ∈ gw_ ∧ Cond.instantiable RX7 26 ∈ gw_ ∧ Cond.initialized RX7 ∈ gw_ := ⟨(tb_in 737 (by decide +kernel) rfl), (tb_in 738 (by decide +kernel) rfl), (tb_in 9 (by decide +kernel) rfl)⟩
theorem g_app {ws : va_W} {k : Nat} {c z : Nat × va_E} (h : ws[k]? = some c) : (ws ++ [z])[k]? = some c := by rw [List.getElem?_append_left (List.getElem?_eq_some_iff.mp h).1]; exact h
theorem g_set {ws : va_W} {k : Nat} {c z : Nat × va_E} (h : ws[k]? = some c) : (ws.set k z)[k]? = some z := List.getElem?_set_self (List.getElem?_eq_some_iff.mp h).1
theorem g_ne {ws : va_W} {k j : Nat} {c d z : Nat × va_E} (hj : ws[j]? = some d) (h : ws[k]? = some c) (e : k ≠ j) : (ws.set j z)[k]? = some c := by rw [List.getElem?_set_ne (Ne.symm e)]; exact h
theorem g_last {ws : va_W} {z : Nat × va_E} : (ws ++ [z])[ws.length]? = some z := by simp
theorem g_nf0 {ws : va_W} {q0 : Nat} {c' d z : Nat × va_E} (h : ws[q0]? = some d) : (ws ++ [z]).set q0 c' = ws.set q0 c' ++ [z] := by
  have hl : q0 < ws.length := (List.getElem?_eq_some_iff.mp h).1
  rw [List.set_append_left _ _ hl]
theorem g_nf {ws zs : va_W} {q0 : Nat} {c c' d z : Nat × va_E} (h : ws[q0]? = some d) : ((ws.set q0 c ++ zs) ++ [z]).set q0 c' = ws.set q0 c' ++ (zs ++ [z]) := by
  have hl : q0 < ws.length := (List.getElem?_eq_some_iff.mp h).1
  rw [List.append_assoc, List.set_append_left _ _ (by rw [List.length_set]; exact hl), List.set_set]
theorem g_lt {ws : va_W} {k : Nat} {c : Nat × va_E} (h : ws[k]? = some c) : ws.length ≠ k := fun e => by have := (List.getElem?_eq_some_iff.mp h).1; omega
section
variable {l : Launch} {D : Dt_} {ws : va_W} {w0 : List Nat} {sz a q0 : Nat} {post : Option Av_ → va_W → Prop}
theorem ku_coder_0 (h : post (some (vi_ 0)) ws) : U_ l D mJ0_coder_7d493 (w0, (sz, (0, 0))) (CN_ D mJ0_coder_7d493 (w0, (sz, (0, 0))) post) 0 [some (vr_ (D.2.2 (100 + 0)))] [] ws 0 0 := by
  refine U_getCS (pc := 0) dJ0_coder_7d493_0 (tb_in 40 (by decide +kernel) rfl) ?_
  refine U_if_eq (tgt := 13) (pc := 3) dJ0_coder_7d493_3 (by decide) (by decide) (fun h3 => absurd h3 (by decide)) (fun h3 => ?_)
  refine U_aload_n (pc := 6) dJ0_coder_7d493_6 rfl rfl ?_
  refine U_strC (i := 0) (pc := 7) dJ0_coder_7d493_7 (tb_in 1190 (by decide +kernel) rfl) (by decide) ?_
  refine U_goto (tgt := 14) (pc := 10) dJ0_coder_7d493_10 (by decide) ?_
  exact U_ireturn (pc := 14) dJ0_coder_7d493_14 rfl rfl rfl rfl h
theorem ku_length_0 (h : post (some (vi_ 3)) ws) : U_ l D mJ0_length_8abf5 (w0, (sz, (0, 0))) (CN_ D mJ0_length_8abf5 (w0, (sz, (0, 0))) post) 0 [some (vr_ (D.2.2 (100 + 0)))] [] ws 0 0 := by
  refine U_aload_n (pc := 0) dJ0_length_8abf5_0 rfl rfl ?_
  refine U_strV (i := 0) (pc := 1) dJ0_length_8abf5_1 (tb_in 1189 (by decide +kernel) rfl) (by decide) ?_
  refine U_strL (i := 0) (n := 3) (pc := 4) dJ0_length_8abf5_4 (by decide) rfl ?_
  refine U_aload_n (pc := 5) dJ0_length_8abf5_5 rfl rfl ?_
  refine U_callS (i := 0) (pc := 6) (rest := [_]) dJ0_length_8abf5_6 ⟨kJ0_335, iJ0_coder_7d493, by decide, by decide⟩ rfl (by decide) rfl rfl (Nat.le_of_ble_eq_true rfl) (Nat.le_of_ble_eq_true rfl) ⟨Nat.le_of_ble_eq_true rfl, Nat.le_of_ble_eq_true rfl⟩ (fun sz => ?_)
  refine ku_coder_0 ?_
  show U_ _ _ _ _ _ _ _ [_, _] _ _ _
  refine U_ishr (pc := 9) dJ0_length_8abf5_9 ?_
  exact U_ireturn (pc := 10) dJ0_length_8abf5_10 rfl rfl rfl rfl h
theorem ku_coder_1 (h : post (some (vi_ 0)) ws) : U_ l D mJ0_coder_7d493 (w0, (sz, (0, 0))) (CN_ D mJ0_coder_7d493 (w0, (sz, (0, 0))) post) 0 [some (vr_ (D.2.2 (100 + 1)))] [] ws 0 0 := by
  refine U_getCS (pc := 0) dJ0_coder_7d493_0 (tb_in 40 (by decide +kernel) rfl) ?_
  refine U_if_eq (tgt := 13) (pc := 3) dJ0_coder_7d493_3 (by decide) (by decide) (fun h3 => absurd h3 (by decide)) (fun h3 => ?_)
  refine U_aload_n (pc := 6) dJ0_coder_7d493_6 rfl rfl ?_
  refine U_strC (i := 1) (pc := 7) dJ0_coder_7d493_7 (tb_in 1190 (by decide +kernel) rfl) (by decide) ?_
  refine U_goto (tgt := 14) (pc := 10) dJ0_coder_7d493_10 (by decide) ?_
  exact U_ireturn (pc := 14) dJ0_coder_7d493_14 rfl rfl rfl rfl h
theorem ku_length_1 (h : post (some (vi_ 4)) ws) : U_ l D mJ0_length_8abf5 (w0, (sz, (0, 0))) (CN_ D mJ0_length_8abf5 (w0, (sz, (0, 0))) post) 0 [some (vr_ (D.2.2 (100 + 1)))] [] ws 0 0 := by
  refine U_aload_n (pc := 0) dJ0_length_8abf5_0 rfl rfl ?_
  refine U_strV (i := 1) (pc := 1) dJ0_length_8abf5_1 (tb_in 1189 (by decide +kernel) rfl) (by decide) ?_
  refine U_strL (i := 1) (n := 4) (pc := 4) dJ0_length_8abf5_4 (by decide) rfl ?_
  refine U_aload_n (pc := 5) dJ0_length_8abf5_5 rfl rfl ?_
  refine U_callS (i := 1) (pc := 6) (rest := [_]) dJ0_length_8abf5_6 ⟨kJ0_335, iJ0_coder_7d493, by decide, by decide⟩ rfl (by decide) rfl rfl (Nat.le_of_ble_eq_true rfl) (Nat.le_of_ble_eq_true rfl) ⟨Nat.le_of_ble_eq_true rfl, Nat.le_of_ble_eq_true rfl⟩ (fun sz => ?_)
  refine ku_coder_1 ?_
  show U_ _ _ _ _ _ _ _ [_, _] _ _ _
  refine U_ishr (pc := 9) dJ0_length_8abf5_9 ?_
  exact U_ireturn (pc := 10) dJ0_length_8abf5_10 rfl rfl rfl rfl h
theorem ku_coder_2 (h : post (some (vi_ 0)) ws) : U_ l D mJ0_coder_7d493 (w0, (sz, (0, 0))) (CN_ D mJ0_coder_7d493 (w0, (sz, (0, 0))) post) 0 [some (vr_ (D.2.2 (100 + 2)))] [] ws 0 0 := by
  refine U_getCS (pc := 0) dJ0_coder_7d493_0 (tb_in 40 (by decide +kernel) rfl) ?_
  refine U_if_eq (tgt := 13) (pc := 3) dJ0_coder_7d493_3 (by decide) (by decide) (fun h3 => absurd h3 (by decide)) (fun h3 => ?_)
  refine U_aload_n (pc := 6) dJ0_coder_7d493_6 rfl rfl ?_
  refine U_strC (i := 2) (pc := 7) dJ0_coder_7d493_7 (tb_in 1190 (by decide +kernel) rfl) (by decide) ?_
  refine U_goto (tgt := 14) (pc := 10) dJ0_coder_7d493_10 (by decide) ?_
  exact U_ireturn (pc := 14) dJ0_coder_7d493_14 rfl rfl rfl rfl h
theorem ku_length_2 (h : post (some (vi_ 4)) ws) : U_ l D mJ0_length_8abf5 (w0, (sz, (0, 0))) (CN_ D mJ0_length_8abf5 (w0, (sz, (0, 0))) post) 0 [some (vr_ (D.2.2 (100 + 2)))] [] ws 0 0 := by
  refine U_aload_n (pc := 0) dJ0_length_8abf5_0 rfl rfl ?_
  refine U_strV (i := 2) (pc := 1) dJ0_length_8abf5_1 (tb_in 1189 (by decide +kernel) rfl) (by decide) ?_
  refine U_strL (i := 2) (n := 4) (pc := 4) dJ0_length_8abf5_4 (by decide) rfl ?_
  refine U_aload_n (pc := 5) dJ0_length_8abf5_5 rfl rfl ?_
  refine U_callS (i := 2) (pc := 6) (rest := [_]) dJ0_length_8abf5_6 ⟨kJ0_335, iJ0_coder_7d493, by decide, by decide⟩ rfl (by decide) rfl rfl (Nat.le_of_ble_eq_true rfl) (Nat.le_of_ble_eq_true rfl) ⟨Nat.le_of_ble_eq_true rfl, Nat.le_of_ble_eq_true rfl⟩ (fun sz => ?_)
  refine ku_coder_2 ?_
  show U_ _ _ _ _ _ _ _ [_, _] _ _ _
  refine U_ishr (pc := 9) dJ0_length_8abf5_9 ?_
  exact U_ireturn (pc := 10) dJ0_length_8abf5_10 rfl rfl rfl rfl h
theorem ki_X5_0 (he : ws[q0]? = some (a, .inr (5, [.null, .int 0, .null, .int 0]))) (h : ∀ q : Nat, post none ((((ws.set q0 (a, .inr (5, [.ref (D.2.2 (100 + 0)), .int 0, .null, .int 0]))).set q0 (a, .inr (5, [.ref (D.2.2 (100 + 0)), .int (Int32.ofInt (4)), .null, .int 0]))) ++ ([(q, .inl (D.2.1.1, 23, .inl (fun _ => 0)))] : va_W)).set q0 (a, .inr (5, [.ref (D.2.2 (100 + 0)), .int (Int32.ofInt (4)), .ref q, .int 0])))) : U_ l D nX5_init (w0, (sz, (1, 23))) (CN_ D nX5_init (w0, (sz, (1, 23))) post) 0 [some (vr_ a), some (vr_ (D.2.2 (100 + 0))), some (vi_ 6)] [] ws 0 0 := by
  refine U_aload_n (pc := 0) dX5_init_0 rfl rfl ?_
  refine U_obj (pc := 1) dX5_init_1 no_X5 ⟨(Nat.le_of_ble_eq_true rfl), (Nat.le_of_ble_eq_true rfl)⟩ ?_
  refine U_aload_n (pc := 4) dX5_init_4 rfl rfl ?_
  refine U_aload_n (pc := 5) dX5_init_5 rfl rfl ?_
  refine U_putF (q0 := q0) (pc := 6) dX5_init_6 fX5_9 rfl rfl he pf_5_0 rfl rfl (Nat.le_of_ble_eq_true rfl) ?_
  refine U_aload_n (pc := 9) dX5_init_9 rfl rfl ?_
  refine U_aload_n (pc := 10) dX5_init_10 rfl rfl ?_
  refine U_callS (i := 0) (pc := 11) (rest := [_]) dX5_init_11 ⟨kX5_15, iJ0_length_8abf5, by decide, by decide⟩ rfl (by decide) rfl rfl (Nat.le_of_ble_eq_true rfl) (Nat.le_of_ble_eq_true rfl) ⟨Nat.le_of_ble_eq_true rfl, Nat.le_of_ble_eq_true rfl⟩ (fun sz => ?_)
  refine ku_length_0 ?_
  show U_ _ _ _ _ _ _ _ [_, _] _ _ _
  refine U_iconst (pc := 14) dX5_init_14 ?_
  refine U_iadd (pc := 15) dX5_init_15 ?_
  refine U_putF (q0 := q0) (pc := 16) dX5_init_16 fX5_21 rfl rfl (g_set he) pf_5_1 rfl rfl (Nat.le_of_ble_eq_true rfl) ?_
  refine U_aload_n (pc := 19) dX5_init_19 rfl rfl ?_
  refine U_iload_n (pc := 20) dX5_init_20 rfl rfl ?_
  refine U_aload_n (pc := 21) dX5_init_21 rfl rfl ?_
  refine U_get (q0 := q0) (v := vi_ (4)) (pc := 22) dX5_init_22 fX5_21 rfl (g_set (g_set he)) rfl ?_
  refine U_imul (pc := 25) dX5_init_25 ?_
  refine U_iconst (pc := 26) dX5_init_26 ?_
  refine U_isub (pc := 27) dX5_init_27 ?_
  refine U_newi (N := 23) (pc := 28) dX5_init_28 ai_in (by decide) (by decide) (by decide) ⟨Nat.le_of_ble_eq_true rfl, Nat.le_of_ble_eq_true rfl⟩ (fun q => ?_)
  refine U_putF (q0 := q0) (pc := 30) dX5_init_30 fX5_25 rfl rfl (g_app (g_set (g_set he))) pf_5_2 rfl rfl (Nat.le_of_ble_eq_true rfl) ?_
  exact U_return (pc := 33) dX5_init_33 rfl rfl rfl (h q)
theorem ki_X5_1 (he : ws[q0]? = some (a, .inr (5, [.null, .int 0, .null, .int 0]))) (h : ∀ q : Nat, post none ((((ws.set q0 (a, .inr (5, [.ref (D.2.2 (100 + 1)), .int 0, .null, .int 0]))).set q0 (a, .inr (5, [.ref (D.2.2 (100 + 1)), .int (Int32.ofInt (5)), .null, .int 0]))) ++ ([(q, .inl (D.2.1.1, 39, .inl (fun _ => 0)))] : va_W)).set q0 (a, .inr (5, [.ref (D.2.2 (100 + 1)), .int (Int32.ofInt (5)), .ref q, .int 0])))) : U_ l D nX5_init (w0, (sz, (1, 39))) (CN_ D nX5_init (w0, (sz, (1, 39))) post) 0 [some (vr_ a), some (vr_ (D.2.2 (100 + 1))), some (vi_ 8)] [] ws 0 0 := by
  refine U_aload_n (pc := 0) dX5_init_0 rfl rfl ?_
  refine U_obj (pc := 1) dX5_init_1 no_X5 ⟨(Nat.le_of_ble_eq_true rfl), (Nat.le_of_ble_eq_true rfl)⟩ ?_
  refine U_aload_n (pc := 4) dX5_init_4 rfl rfl ?_
  refine U_aload_n (pc := 5) dX5_init_5 rfl rfl ?_
  refine U_putF (q0 := q0) (pc := 6) dX5_init_6 fX5_9 rfl rfl he pf_5_0 rfl rfl (Nat.le_of_ble_eq_true rfl) ?_
  refine U_aload_n (pc := 9) dX5_init_9 rfl rfl ?_
  refine U_aload_n (pc := 10) dX5_init_10 rfl rfl ?_
  refine U_callS (i := 1) (pc := 11) (rest := [_]) dX5_init_11 ⟨kX5_15, iJ0_length_8abf5, by decide, by decide⟩ rfl (by decide) rfl rfl (Nat.le_of_ble_eq_true rfl) (Nat.le_of_ble_eq_true rfl) ⟨Nat.le_of_ble_eq_true rfl, Nat.le_of_ble_eq_true rfl⟩ (fun sz => ?_)
  refine ku_length_1 ?_
  show U_ _ _ _ _ _ _ _ [_, _] _ _ _
  refine U_iconst (pc := 14) dX5_init_14 ?_
  refine U_iadd (pc := 15) dX5_init_15 ?_
  refine U_putF (q0 := q0) (pc := 16) dX5_init_16 fX5_21 rfl rfl (g_set he) pf_5_1 rfl rfl (Nat.le_of_ble_eq_true rfl) ?_
  refine U_aload_n (pc := 19) dX5_init_19 rfl rfl ?_
  refine U_iload_n (pc := 20) dX5_init_20 rfl rfl ?_
  refine U_aload_n (pc := 21) dX5_init_21 rfl rfl ?_
  refine U_get (q0 := q0) (v := vi_ (5)) (pc := 22) dX5_init_22 fX5_21 rfl (g_set (g_set he)) rfl ?_
  refine U_imul (pc := 25) dX5_init_25 ?_
  refine U_iconst (pc := 26) dX5_init_26 ?_
  refine U_isub (pc := 27) dX5_init_27 ?_
  refine U_newi (N := 39) (pc := 28) dX5_init_28 ai_in (by decide) (by decide) (by decide) ⟨Nat.le_of_ble_eq_true rfl, Nat.le_of_ble_eq_true rfl⟩ (fun q => ?_)
  refine U_putF (q0 := q0) (pc := 30) dX5_init_30 fX5_25 rfl rfl (g_app (g_set (g_set he))) pf_5_2 rfl rfl (Nat.le_of_ble_eq_true rfl) ?_
  exact U_return (pc := 33) dX5_init_33 rfl rfl rfl (h q)
theorem ki_X5_2 (he : ws[q0]? = some (a, .inr (5, [.null, .int 0, .null, .int 0]))) (h : ∀ q : Nat, post none ((((ws.set q0 (a, .inr (5, [.ref (D.2.2 (100 + 2)), .int 0, .null, .int 0]))).set q0 (a, .inr (5, [.ref (D.2.2 (100 + 2)), .int (Int32.ofInt (5)), .null, .int 0]))) ++ ([(q, .inl (D.2.1.1, 59, .inl (fun _ => 0)))] : va_W)).set q0 (a, .inr (5, [.ref (D.2.2 (100 + 2)), .int (Int32.ofInt (5)), .ref q, .int 0])))) : U_ l D nX5_init (w0, (sz, (1, 59))) (CN_ D nX5_init (w0, (sz, (1, 59))) post) 0 [some (vr_ a), some (vr_ (D.2.2 (100 + 2))), some (vi_ 12)] [] ws 0 0 := by
  refine U_aload_n (pc := 0) dX5_init_0 rfl rfl ?_
  refine U_obj (pc := 1) dX5_init_1 no_X5 ⟨(Nat.le_of_ble_eq_true rfl), (Nat.le_of_ble_eq_true rfl)⟩ ?_
  refine U_aload_n (pc := 4) dX5_init_4 rfl rfl ?_
  refine U_aload_n (pc := 5) dX5_init_5 rfl rfl ?_
  refine U_putF (q0 := q0) (pc := 6) dX5_init_6 fX5_9 rfl rfl he pf_5_0 rfl rfl (Nat.le_of_ble_eq_true rfl) ?_
  refine U_aload_n (pc := 9) dX5_init_9 rfl rfl ?_
  refine U_aload_n (pc := 10) dX5_init_10 rfl rfl ?_
  refine U_callS (i := 2) (pc := 11) (rest := [_]) dX5_init_11 ⟨kX5_15, iJ0_length_8abf5, by decide, by decide⟩ rfl (by decide) rfl rfl (Nat.le_of_ble_eq_true rfl) (Nat.le_of_ble_eq_true rfl) ⟨Nat.le_of_ble_eq_true rfl, Nat.le_of_ble_eq_true rfl⟩ (fun sz => ?_)
  refine ku_length_2 ?_
  show U_ _ _ _ _ _ _ _ [_, _] _ _ _
  refine U_iconst (pc := 14) dX5_init_14 ?_
  refine U_iadd (pc := 15) dX5_init_15 ?_
  refine U_putF (q0 := q0) (pc := 16) dX5_init_16 fX5_21 rfl rfl (g_set he) pf_5_1 rfl rfl (Nat.le_of_ble_eq_true rfl) ?_
  refine U_aload_n (pc := 19) dX5_init_19 rfl rfl ?_
  refine U_iload_n (pc := 20) dX5_init_20 rfl rfl ?_
  refine U_aload_n (pc := 21) dX5_init_21 rfl rfl ?_
  refine U_get (q0 := q0) (v := vi_ (5)) (pc := 22) dX5_init_22 fX5_21 rfl (g_set (g_set he)) rfl ?_
  refine U_imul (pc := 25) dX5_init_25 ?_
  refine U_iconst (pc := 26) dX5_init_26 ?_
  refine U_isub (pc := 27) dX5_init_27 ?_
  refine U_newi (N := 59) (pc := 28) dX5_init_28 ai_in (by decide) (by decide) (by decide) ⟨Nat.le_of_ble_eq_true rfl, Nat.le_of_ble_eq_true rfl⟩ (fun q => ?_)
  refine U_putF (q0 := q0) (pc := 30) dX5_init_30 fX5_25 rfl rfl (g_app (g_set (g_set he))) pf_5_2 rfl rfl (Nat.le_of_ble_eq_true rfl) ?_
  exact U_return (pc := 33) dX5_init_33 rfl rfl rfl (h q)
theorem ki_X2_12 (he : ws[q0]? = some (a, .inr (2, [.null, .null, .int 0]))) (h : ∀ q r : Nat, post none ((((ws ++ ([(q, .inl (D.2.1.1, 12, .inl (fun _ => 0)))] : va_W)).set q0 (a, .inr (2, [.ref q, .null, .int 0]))) ++ ([(r, .inl (D.2.1.1, 12, .inl (fun _ => 0)))] : va_W)).set q0 (a, .inr (2, [.ref q, .ref r, .int 0])))) : U_ l D nX2_init (w0, (sz, (2, 24))) (CN_ D nX2_init (w0, (sz, (2, 24))) post) 0 [some (vr_ a), some (vi_ 12)] [] ws 0 0 := by
  refine U_aload_n (pc := 0) dX2_init_0 rfl rfl ?_
  refine U_obj (pc := 1) dX2_init_1 no_X2 ⟨(Nat.le_of_ble_eq_true rfl), (Nat.le_of_ble_eq_true rfl)⟩ ?_
  refine U_aload_n (pc := 4) dX2_init_4 rfl rfl ?_
  refine U_iload_n (pc := 5) dX2_init_5 rfl rfl ?_
  refine U_newi (N := 12) (pc := 6) dX2_init_6 ai_in (by decide) (by decide) (by decide) ⟨Nat.le_of_ble_eq_true rfl, Nat.le_of_ble_eq_true rfl⟩ (fun q => ?_)
  refine U_putF (q0 := q0) (pc := 8) dX2_init_8 fX2_7 rfl rfl (g_app he) pf_2_0 rfl rfl (Nat.le_of_ble_eq_true rfl) ?_
  refine U_aload_n (pc := 11) dX2_init_11 rfl rfl ?_
  refine U_iload_n (pc := 12) dX2_init_12 rfl rfl ?_
  refine U_newi (N := 12) (pc := 13) dX2_init_13 ai_in (by decide) (by decide) (by decide) ⟨Nat.le_of_ble_eq_true rfl, Nat.le_of_ble_eq_true rfl⟩ (fun r => ?_)
  refine U_putF (q0 := q0) (pc := 15) dX2_init_15 fX2_13 rfl rfl (g_app (g_set (g_app he))) pf_2_1 rfl rfl (Nat.le_of_ble_eq_true rfl) ?_
  exact U_return (pc := 18) dX2_init_18 rfl rfl rfl (h q r)
theorem ki_X2_8 (he : ws[q0]? = some (a, .inr (2, [.null, .null, .int 0]))) (h : ∀ q r : Nat, post none ((((ws ++ ([(q, .inl (D.2.1.1, 8, .inl (fun _ => 0)))] : va_W)).set q0 (a, .inr (2, [.ref q, .null, .int 0]))) ++ ([(r, .inl (D.2.1.1, 8, .inl (fun _ => 0)))] : va_W)).set q0 (a, .inr (2, [.ref q, .ref r, .int 0])))) : U_ l D nX2_init (w0, (sz, (2, 16))) (CN_ D nX2_init (w0, (sz, (2, 16))) post) 0 [some (vr_ a), some (vi_ 8)] [] ws 0 0 := by
  refine U_aload_n (pc := 0) dX2_init_0 rfl rfl ?_
  refine U_obj (pc := 1) dX2_init_1 no_X2 ⟨(Nat.le_of_ble_eq_true rfl), (Nat.le_of_ble_eq_true rfl)⟩ ?_
  refine U_aload_n (pc := 4) dX2_init_4 rfl rfl ?_
  refine U_iload_n (pc := 5) dX2_init_5 rfl rfl ?_
  refine U_newi (N := 8) (pc := 6) dX2_init_6 ai_in (by decide) (by decide) (by decide) ⟨Nat.le_of_ble_eq_true rfl, Nat.le_of_ble_eq_true rfl⟩ (fun q => ?_)
  refine U_putF (q0 := q0) (pc := 8) dX2_init_8 fX2_7 rfl rfl (g_app he) pf_2_0 rfl rfl (Nat.le_of_ble_eq_true rfl) ?_
  refine U_aload_n (pc := 11) dX2_init_11 rfl rfl ?_
  refine U_iload_n (pc := 12) dX2_init_12 rfl rfl ?_
  refine U_newi (N := 8) (pc := 13) dX2_init_13 ai_in (by decide) (by decide) (by decide) ⟨Nat.le_of_ble_eq_true rfl, Nat.le_of_ble_eq_true rfl⟩ (fun r => ?_)
  refine U_putF (q0 := q0) (pc := 15) dX2_init_15 fX2_13 rfl rfl (g_app (g_set (g_app he))) pf_2_1 rfl rfl (Nat.le_of_ble_eq_true rfl) ?_
  exact U_return (pc := 18) dX2_init_18 rfl rfl rfl (h q r)
theorem ki_X4 (he : ws[q0]? = some (a, .inr (4, [.null, .int 0, .int 0, .int 0]))) (h : ∀ q : Nat, post none (((ws ++ ([(q, .inl (D.2.1.1, 60, .inl (fun _ => 0)))] : va_W)).set q0 (a, .inr (4, [.ref q, .int 0, .int 0, .int 0]))).set q0 (a, .inr (4, [.ref q, .int (Int32.ofInt (1)), .int 0, .int 0])))) : U_ l D nX4_init (w0, (sz, (1, 60))) (CN_ D nX4_init (w0, (sz, (1, 60))) post) 0 [some (vr_ a)] [] ws 0 0 := by
  refine U_aload_n (pc := 0) dX4_init_0 rfl rfl ?_
  refine U_obj (pc := 1) dX4_init_1 no_X4 ⟨(Nat.le_of_ble_eq_true rfl), (Nat.le_of_ble_eq_true rfl)⟩ ?_
  refine U_aload_n (pc := 4) dX4_init_4 rfl rfl ?_
  refine U_bipush (pc := 5) dX4_init_5 (by decide) ?_
  refine U_newi (N := 60) (pc := 7) dX4_init_7 ai_in (by decide) (by decide) (by decide) ⟨Nat.le_of_ble_eq_true rfl, Nat.le_of_ble_eq_true rfl⟩ (fun q => ?_)
  refine U_putF (q0 := q0) (pc := 9) dX4_init_9 fX4_9 rfl rfl (g_app he) pf_4_0 rfl rfl (Nat.le_of_ble_eq_true rfl) ?_
  refine U_aload_n (pc := 12) dX4_init_12 rfl rfl ?_
  refine U_iconst (pc := 13) dX4_init_13 ?_
  refine U_put (q0 := q0) (pc := 14) dX4_init_14 fX4_15 rfl rfl (g_set (g_app he)) pf_4_1 rfl rfl (Nat.le_of_ble_eq_true rfl) ?_
  exact U_return (pc := 17) dX4_init_17 rfl rfl rfl (h q)
theorem ki_X1 (he : ws[q0]? = some (a, .inr (1, [.int 0, .null, .null, .int 0, .null, .null, .int 0, .int 0, .null, .null, .null, .null, .null, .null]))) (h : ∀ p1 p2 p3 p4 p5 p6 p7 p8 p9 p10 : Nat, post none ((((((((((((((((((((ws ++ ([(p1, .inl (D.2.1.1, 6, .inl (fun _ => 0)))] : va_W)).set q0 (a, .inr (1, [.int 0, .ref p1, .null, .int 0, .null, .null, .int 0, .int 0, .null, .null, .null, .null, .null, .null]))) ++ ([(p2, .inl (D.2.1.1, 6, .inl (fun _ => 0)))] : va_W)).set q0 (a, .inr (1, [.int 0, .ref p1, .ref p2, .int 0, .null, .null, .int 0, .int 0, .null, .null, .null, .null, .null, .null]))) ++ ([(p3, .inl (D.2.1.1, 8, .inl (fun _ => 0)))] : va_W)).set q0 (a, .inr (1, [.int 0, .ref p1, .ref p2, .int 0, .ref p3, .null, .int 0, .int 0, .null, .null, .null, .null, .null, .null]))) ++ ([(p4, .inl (D.2.1.1, 8, .inl (fun _ => 0)))] : va_W)).set q0 (a, .inr (1, [.int 0, .ref p1, .ref p2, .int 0, .ref p3, .ref p4, .int 0, .int 0, .null, .null, .null, .null, .null, .null]))) ++ ([(p5, .inl (D.2.1.1, 12, .inl (fun _ => 0)))] : va_W)).set q0 (a, .inr (1, [.int 0, .ref p1, .ref p2, .int 0, .ref p3, .ref p4, .int 0, .int 0, .ref p5, .null, .null, .null, .null, .null]))) ++ ([(p6, .inl (D.2.1.1, 12, .inl (fun _ => 0)))] : va_W)).set q0 (a, .inr (1, [.int 0, .ref p1, .ref p2, .int 0, .ref p3, .ref p4, .int 0, .int 0, .ref p5, .ref p6, .null, .null, .null, .null]))) ++ ([(p7, .inl (D.2.1.1, 12, .inl (fun _ => 0)))] : va_W)).set q0 (a, .inr (1, [.int 0, .ref p1, .ref p2, .int 0, .ref p3, .ref p4, .int 0, .int 0, .ref p5, .ref p6, .ref p7, .null, .null, .null]))) ++ ([(p8, .inl (D.2.1.1, 8, .inl (fun _ => 0)))] : va_W)).set q0 (a, .inr (1, [.int 0, .ref p1, .ref p2, .int 0, .ref p3, .ref p4, .int 0, .int 0, .ref p5, .ref p6, .ref p7, .ref p8, .null, .null]))) ++ ([(p9, .inl (D.2.1.1, 12, .inl (fun _ => 0)))] : va_W)).set q0 (a, .inr (1, [.int 0, .ref p1, .ref p2, .int 0, .ref p3, .ref p4, .int 0, .int 0, .ref p5, .ref p6, .ref p7, .ref p8, .ref p9, .null]))) ++ ([(p10, .inl (D.2.1.1, 12, .inl (fun _ => 0)))] : va_W)).set q0 (a, .inr (1, [.int 0, .ref p1, .ref p2, .int 0, .ref p3, .ref p4, .int 0, .int 0, .ref p5, .ref p6, .ref p7, .ref p8, .ref p9, .ref p10])))) : U_ l D nX1_init (w0, (sz, (10, 96))) (CN_ D nX1_init (w0, (sz, (10, 96))) post) 0 [some (vr_ a)] [] ws 0 0 := by
  refine U_aload_n (pc := 0) dX1_init_0 rfl rfl ?_
  refine U_obj (pc := 1) dX1_init_1 no_X1 ⟨(Nat.le_of_ble_eq_true rfl), (Nat.le_of_ble_eq_true rfl)⟩ ?_
  refine U_aload_n (pc := 4) dX1_init_4 rfl rfl ?_
  refine U_bipush (pc := 5) dX1_init_5 (by decide) ?_
  refine U_newi (N := 6) (pc := 7) dX1_init_7 ai_in (by decide) (by decide) (by decide) ⟨Nat.le_of_ble_eq_true rfl, Nat.le_of_ble_eq_true rfl⟩ (fun p1 => ?_)
  refine U_putF (q0 := q0) (pc := 9) dX1_init_9 fX1_9 rfl rfl (g_app he) pf_1_1 rfl rfl (Nat.le_of_ble_eq_true rfl) ?_
  refine U_aload_n (pc := 12) dX1_init_12 rfl rfl ?_
  refine U_bipush (pc := 13) dX1_init_13 (by decide) ?_
  refine U_newi (N := 6) (pc := 15) dX1_init_15 ai_in (by decide) (by decide) (by decide) ⟨Nat.le_of_ble_eq_true rfl, Nat.le_of_ble_eq_true rfl⟩ (fun p2 => ?_)
  refine U_putF (q0 := q0) (pc := 17) dX1_init_17 fX1_15 rfl rfl (g_app (g_set (g_app he))) pf_1_2 rfl rfl (Nat.le_of_ble_eq_true rfl) ?_
  refine U_aload_n (pc := 20) dX1_init_20 rfl rfl ?_
  refine U_bipush (pc := 21) dX1_init_21 (by decide) ?_
  refine U_newi (N := 8) (pc := 23) dX1_init_23 ai_in (by decide) (by decide) (by decide) ⟨Nat.le_of_ble_eq_true rfl, Nat.le_of_ble_eq_true rfl⟩ (fun p3 => ?_)
  refine U_putF (q0 := q0) (pc := 25) dX1_init_25 fX1_18 rfl rfl (g_app (g_set (g_app (g_set (g_app he))))) pf_1_4 rfl rfl (Nat.le_of_ble_eq_true rfl) ?_
  refine U_aload_n (pc := 28) dX1_init_28 rfl rfl ?_
  refine U_bipush (pc := 29) dX1_init_29 (by decide) ?_
  refine U_newi (N := 8) (pc := 31) dX1_init_31 ai_in (by decide) (by decide) (by decide) ⟨Nat.le_of_ble_eq_true rfl, Nat.le_of_ble_eq_true rfl⟩ (fun p4 => ?_)
  refine U_putF (q0 := q0) (pc := 33) dX1_init_33 fX1_21 rfl rfl (g_app (g_set (g_app (g_set (g_app (g_set (g_app he))))))) pf_1_5 rfl rfl (Nat.le_of_ble_eq_true rfl) ?_
  refine U_aload_n (pc := 36) dX1_init_36 rfl rfl ?_
  refine U_bipush (pc := 37) dX1_init_37 (by decide) ?_
  refine U_newi (N := 12) (pc := 39) dX1_init_39 ai_in (by decide) (by decide) (by decide) ⟨Nat.le_of_ble_eq_true rfl, Nat.le_of_ble_eq_true rfl⟩ (fun p5 => ?_)
  refine U_putF (q0 := q0) (pc := 41) dX1_init_41 fX1_24 rfl rfl (g_app (g_set (g_app (g_set (g_app (g_set (g_app (g_set (g_app he))))))))) pf_1_8 rfl rfl (Nat.le_of_ble_eq_true rfl) ?_
  refine U_aload_n (pc := 44) dX1_init_44 rfl rfl ?_
  refine U_bipush (pc := 45) dX1_init_45 (by decide) ?_
  refine U_newi (N := 12) (pc := 47) dX1_init_47 ai_in (by decide) (by decide) (by decide) ⟨Nat.le_of_ble_eq_true rfl, Nat.le_of_ble_eq_true rfl⟩ (fun p6 => ?_)
  refine U_putF (q0 := q0) (pc := 49) dX1_init_49 fX1_27 rfl rfl (g_app (g_set (g_app (g_set (g_app (g_set (g_app (g_set (g_app (g_set (g_app he))))))))))) pf_1_9 rfl rfl (Nat.le_of_ble_eq_true rfl) ?_
  refine U_aload_n (pc := 52) dX1_init_52 rfl rfl ?_
  refine U_bipush (pc := 53) dX1_init_53 (by decide) ?_
  refine U_newi (N := 12) (pc := 55) dX1_init_55 ai_in (by decide) (by decide) (by decide) ⟨Nat.le_of_ble_eq_true rfl, Nat.le_of_ble_eq_true rfl⟩ (fun p7 => ?_)
  refine U_putF (q0 := q0) (pc := 57) dX1_init_57 fX1_30 rfl rfl (g_app (g_set (g_app (g_set (g_app (g_set (g_app (g_set (g_app (g_set (g_app (g_set (g_app he))))))))))))) pf_1_10 rfl rfl (Nat.le_of_ble_eq_true rfl) ?_
  refine U_aload_n (pc := 60) dX1_init_60 rfl rfl ?_
  refine U_bipush (pc := 61) dX1_init_61 (by decide) ?_
  refine U_newi (N := 8) (pc := 63) dX1_init_63 ai_in (by decide) (by decide) (by decide) ⟨Nat.le_of_ble_eq_true rfl, Nat.le_of_ble_eq_true rfl⟩ (fun p8 => ?_)
  refine U_putF (q0 := q0) (pc := 65) dX1_init_65 fX1_33 rfl rfl (g_app (g_set (g_app (g_set (g_app (g_set (g_app (g_set (g_app (g_set (g_app (g_set (g_app (g_set (g_app he))))))))))))))) pf_1_11 rfl rfl (Nat.le_of_ble_eq_true rfl) ?_
  refine U_aload_n (pc := 68) dX1_init_68 rfl rfl ?_
  refine U_bipush (pc := 69) dX1_init_69 (by decide) ?_
  refine U_newi (N := 12) (pc := 71) dX1_init_71 ai_in (by decide) (by decide) (by decide) ⟨Nat.le_of_ble_eq_true rfl, Nat.le_of_ble_eq_true rfl⟩ (fun p9 => ?_)
  refine U_putF (q0 := q0) (pc := 73) dX1_init_73 fX1_36 rfl rfl (g_app (g_set (g_app (g_set (g_app (g_set (g_app (g_set (g_app (g_set (g_app (g_set (g_app (g_set (g_app (g_set (g_app he))))))))))))))))) pf_1_12 rfl rfl (Nat.le_of_ble_eq_true rfl) ?_
  refine U_aload_n (pc := 76) dX1_init_76 rfl rfl ?_
  refine U_bipush (pc := 77) dX1_init_77 (by decide) ?_
  refine U_newi (N := 12) (pc := 79) dX1_init_79 ai_in (by decide) (by decide) (by decide) ⟨Nat.le_of_ble_eq_true rfl, Nat.le_of_ble_eq_true rfl⟩ (fun p10 => ?_)
  refine U_putF (q0 := q0) (pc := 81) dX1_init_81 fX1_39 rfl rfl (g_app (g_set (g_app (g_set (g_app (g_set (g_app (g_set (g_app (g_set (g_app (g_set (g_app (g_set (g_app (g_set (g_app (g_set (g_app he))))))))))))))))))) pf_1_13 rfl rfl (Nat.le_of_ble_eq_true rfl) ?_
  exact U_return (pc := 84) dX1_init_84 rfl rfl rfl (h p1 p2 p3 p4 p5 p6 p7 p8 p9 p10)
theorem ki_X1n (he : ws[q0]? = some (a, .inr (1, [.int 0, .null, .null, .int 0, .null, .null, .int 0, .int 0, .null, .null, .null, .null, .null, .null]))) (h : ∀ p1 p2 p3 p4 p5 p6 p7 p8 p9 p10 : Nat, post none (ws.set q0 (a, .inr (1, [.int 0, .ref p1, .ref p2, .int 0, .ref p3, .ref p4, .int 0, .int 0, .ref p5, .ref p6, .ref p7, .ref p8, .ref p9, .ref p10])) ++ ([(p1, .inl (D.2.1.1, 6, .inl (fun _ => 0))), (p2, .inl (D.2.1.1, 6, .inl (fun _ => 0))), (p3, .inl (D.2.1.1, 8, .inl (fun _ => 0))), (p4, .inl (D.2.1.1, 8, .inl (fun _ => 0))), (p5, .inl (D.2.1.1, 12, .inl (fun _ => 0))), (p6, .inl (D.2.1.1, 12, .inl (fun _ => 0))), (p7, .inl (D.2.1.1, 12, .inl (fun _ => 0))), (p8, .inl (D.2.1.1, 8, .inl (fun _ => 0))), (p9, .inl (D.2.1.1, 12, .inl (fun _ => 0))), (p10, .inl (D.2.1.1, 12, .inl (fun _ => 0)))] : va_W))) : U_ l D nX1_init (w0, (sz, (10, 96))) (CN_ D nX1_init (w0, (sz, (10, 96))) post) 0 [some (vr_ a)] [] ws 0 0 := by
  refine ki_X1 he (fun p1 p2 p3 p4 p5 p6 p7 p8 p9 p10 => ?_)
  rw [g_nf0 he, g_nf he, g_nf he, g_nf he, g_nf he, g_nf he, g_nf he, g_nf he, g_nf he, g_nf he]
  simp only [List.cons_append, List.nil_append]
  exact h p1 p2 p3 p4 p5 p6 p7 p8 p9 p10
theorem ki_X3 {b : Nat} (he : ws[q0]? = some (a, .inr (3, [.null, .null, .null, .int 0, .int 0, .int 0, .int 0]))) (h : ∀ q r : Nat, post none (((((ws ++ ([(q, .inl (D.2.1.1, 8, .inl (fun _ => 0)))] : va_W)).set q0 (a, .inr (3, [.null, .ref q, .null, .int 0, .int 0, .int 0, .int 0]))) ++ ([(r, .inl (D.2.1.1, 6, .inl (fun _ => 0)))] : va_W)).set q0 (a, .inr (3, [.null, .ref q, .ref r, .int 0, .int 0, .int 0, .int 0]))).set q0 (a, .inr (3, [.ref b, .ref q, .ref r, .int 0, .int 0, .int 0, .int 0])))) : U_ l D nX3_init (w0, (sz, (2, 14))) (CN_ D nX3_init (w0, (sz, (2, 14))) post) 0 [some (vr_ a), some (vr_ b)] [] ws 0 0 := by
  refine U_aload_n (pc := 0) dX3_init_0 rfl rfl ?_
  refine U_obj (pc := 1) dX3_init_1 no_X3 ⟨(Nat.le_of_ble_eq_true rfl), (Nat.le_of_ble_eq_true rfl)⟩ ?_
  refine U_aload_n (pc := 4) dX3_init_4 rfl rfl ?_
  refine U_bipush (pc := 5) dX3_init_5 (by decide) ?_
  refine U_newi (N := 8) (pc := 7) dX3_init_7 ai_in (by decide) (by decide) (by decide) ⟨Nat.le_of_ble_eq_true rfl, Nat.le_of_ble_eq_true rfl⟩ (fun q => ?_)
  refine U_putF (q0 := q0) (pc := 9) dX3_init_9 fX3_9 rfl rfl (g_app he) pf_3_1 rfl rfl (Nat.le_of_ble_eq_true rfl) ?_
  refine U_aload_n (pc := 12) dX3_init_12 rfl rfl ?_
  refine U_bipush (pc := 13) dX3_init_13 (by decide) ?_
  refine U_newi (N := 6) (pc := 15) dX3_init_15 ai_in (by decide) (by decide) (by decide) ⟨Nat.le_of_ble_eq_true rfl, Nat.le_of_ble_eq_true rfl⟩ (fun r => ?_)
  refine U_putF (q0 := q0) (pc := 17) dX3_init_17 fX3_15 rfl rfl (g_app (g_set (g_app he))) pf_3_2 rfl rfl (Nat.le_of_ble_eq_true rfl) ?_
  refine U_aload_n (pc := 20) dX3_init_20 rfl rfl ?_
  refine U_aload_n (pc := 21) dX3_init_21 rfl rfl ?_
  refine U_putF (q0 := q0) (pc := 22) dX3_init_22 fX3_18 rfl rfl (g_set (g_app (g_set (g_app he)))) pf_3_0 rfl rfl (Nat.le_of_ble_eq_true rfl) ?_
  exact U_return (pc := 25) dX3_init_25 rfl rfl rfl (h q r)
theorem ki_X0 {b b2 b3 : Nat} (he : ws[q0]? = some (a, .inr (0, [.null, .null, .null, .null, .null, .int 0, .int 0]))) (h : ∀ q r : Nat, post none (((((((ws ++ ([(q, .inl (D.2.1.2.1, 256, .inl (fun _ => 0)))] : va_W)).set q0 (a, .inr (0, [.null, .null, .null, .ref q, .null, .int 0, .int 0]))) ++ ([(r, .inl (D.2.1.1, 100, .inl (fun _ => 0)))] : va_W)).set q0 (a, .inr (0, [.null, .null, .null, .ref q, .ref r, .int 0, .int 0]))).set q0 (a, .inr (0, [.ref b, .null, .null, .ref q, .ref r, .int 0, .int 0]))).set q0 (a, .inr (0, [.ref b, .ref b2, .null, .ref q, .ref r, .int 0, .int 0]))).set q0 (a, .inr (0, [.ref b, .ref b2, .ref b3, .ref q, .ref r, .int 0, .int 0])))) : U_ l D nX0_init (w0, (sz, (2, 356))) (CN_ D nX0_init (w0, (sz, (2, 356))) post) 0 [some (vr_ a), some (vr_ b), some (vr_ b2), some (vr_ b3)] [] ws 0 0 := by
  refine U_aload_n (pc := 0) dX0_init_0 rfl rfl ?_
  refine U_obj (pc := 1) dX0_init_1 no_X0 ⟨(Nat.le_of_ble_eq_true rfl), (Nat.le_of_ble_eq_true rfl)⟩ ?_
  refine U_aload_n (pc := 4) dX0_init_4 rfl rfl ?_
  refine U_sipush (pc := 5) dX0_init_5 (by decide) ?_
  refine U_newz (N := 256) (pc := 8) dX0_init_8 az_in (by decide) (by decide) (by decide) ⟨Nat.le_of_ble_eq_true rfl, Nat.le_of_ble_eq_true rfl⟩ (fun q => ?_)
  refine U_putF (q0 := q0) (pc := 10) dX0_init_10 fX0_9 rfl rfl (g_app he) pf_0_3 rfl rfl (Nat.le_of_ble_eq_true rfl) ?_
  refine U_aload_n (pc := 13) dX0_init_13 rfl rfl ?_
  refine U_bipush (pc := 14) dX0_init_14 (by decide) ?_
  refine U_newi (N := 100) (pc := 16) dX0_init_16 ai_in (by decide) (by decide) (by decide) ⟨Nat.le_of_ble_eq_true rfl, Nat.le_of_ble_eq_true rfl⟩ (fun r => ?_)
  refine U_putF (q0 := q0) (pc := 18) dX0_init_18 fX0_15 rfl rfl (g_app (g_set (g_app he))) pf_0_4 rfl rfl (Nat.le_of_ble_eq_true rfl) ?_
  refine U_aload_n (pc := 21) dX0_init_21 rfl rfl ?_
  refine U_aload_n (pc := 22) dX0_init_22 rfl rfl ?_
  refine U_putF (q0 := q0) (pc := 23) dX0_init_23 fX0_19 rfl rfl (g_set (g_app (g_set (g_app he)))) pf_0_0 rfl rfl (Nat.le_of_ble_eq_true rfl) ?_
  refine U_aload_n (pc := 26) dX0_init_26 rfl rfl ?_
  refine U_aload_n (pc := 27) dX0_init_27 rfl rfl ?_
  refine U_putF (q0 := q0) (pc := 28) dX0_init_28 fX0_23 rfl rfl (g_set (g_set (g_app (g_set (g_app he))))) pf_0_1 rfl rfl (Nat.le_of_ble_eq_true rfl) ?_
  refine U_aload_n (pc := 31) dX0_init_31 rfl rfl ?_
  refine U_aload_n (pc := 32) dX0_init_32 rfl rfl ?_
  refine U_putF (q0 := q0) (pc := 33) dX0_init_33 fX0_27 rfl rfl (g_set (g_set (g_set (g_app (g_set (g_app he)))))) pf_0_2 rfl rfl (Nat.le_of_ble_eq_true rfl) ?_
  exact U_return (pc := 36) dX0_init_36 rfl rfl rfl (h q r)
end
