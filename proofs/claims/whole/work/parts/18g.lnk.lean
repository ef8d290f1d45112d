theorem m_kt_0 : ∀ k, k < 3 → m_kt (TX0 k).2.2.1 (tyX0 k) := fun k hk => match k, hk with
  | 0, _ => Or.inr (Or.inr (Or.inr ⟨by decide, Or.inl ⟨_, rfl⟩⟩))
  | 1, _ => Or.inl ⟨by decide, rfl⟩
  | 2, _ => Or.inl ⟨by decide, rfl⟩
  | k + 3, hk => absurd hk (by omega)
theorem m_uw_0 : ∀ w ∈ u_ws RX0 TX0 3, w ∈ lw_tbl ∧ goodWord w = true := by decide +kernel
set_option maxRecDepth 100000 in
theorem m_tc_0 : (∀ w ∈ u_ws RX0 TX0 3, w ∈ m_ws0) ∧ (∃ ty : Nat → FieldType, ∀ k, k < 3 → parseFieldDescriptor (TX0 k).2.2.1 = some (ty k) ∧ m_kt (TX0 k).2.2.1 (ty k)) ∧ (∀ a, a < 3 → ∀ b, b < 3 → a ≠ b → (TX0 a).2.1 ≠ (TX0 b).2.1) ∧ (∀ k, k < 3 → (TX0 k).1 = RX0) ∧ Cond.instantiable RX0 3 ∈ m_ws0 ∧ Cond.initialized RX0 ∈ m_ws0 := ⟨fun w h => m_inL (m_uw_0 w h).1 (m_uw_0 w h).2, ⟨tyX0, fun k hk => ⟨tyX0_ok k hk, m_kt_0 k hk⟩⟩, nmX0, by decide +kernel, m_in1 (i := 235) rfl rfl, m_in1 (i := 11) rfl rfl⟩
theorem m_kt_1 : ∀ k, k < 2 → m_kt (TX1 k).2.2.1 (tyX1 k) := fun k hk => match k, hk with
  | 0, _ => Or.inr (Or.inr (Or.inr ⟨by decide, Or.inr ⟨_, rfl⟩⟩))
  | 1, _ => Or.inl ⟨by decide, rfl⟩
  | k + 2, hk => absurd hk (by omega)
theorem m_uw_1 : ∀ w ∈ u_ws RX1 TX1 2, w ∈ lw_tbl ∧ goodWord w = true := by decide +kernel
set_option maxRecDepth 100000 in
theorem m_tc_1 : (∀ w ∈ u_ws RX1 TX1 2, w ∈ m_ws0) ∧ (∃ ty : Nat → FieldType, ∀ k, k < 2 → parseFieldDescriptor (TX1 k).2.2.1 = some (ty k) ∧ m_kt (TX1 k).2.2.1 (ty k)) ∧ (∀ a, a < 2 → ∀ b, b < 2 → a ≠ b → (TX1 a).2.1 ≠ (TX1 b).2.1) ∧ (∀ k, k < 2 → (TX1 k).1 = RX1) ∧ Cond.instantiable RX1 2 ∈ m_ws0 ∧ Cond.initialized RX1 ∈ m_ws0 := ⟨fun w h => m_inL (m_uw_1 w h).1 (m_uw_1 w h).2, ⟨tyX1, fun k hk => ⟨tyX1_ok k hk, m_kt_1 k hk⟩⟩, nmX1, by decide +kernel, m_in1 (i := 209) rfl rfl, m_in1 (i := 9) rfl rfl⟩
theorem m_kt_2 : ∀ k, k < 7 → m_kt (TX2 k).2.2.1 (tyX2 k) := fun k hk => match k, hk with
  | 0, _ => Or.inl ⟨by decide, rfl⟩
  | 1, _ => Or.inl ⟨by decide, rfl⟩
  | 2, _ => Or.inl ⟨by decide, rfl⟩
  | 3, _ => Or.inr (Or.inr (Or.inr ⟨by decide, Or.inr ⟨_, rfl⟩⟩))
  | 4, _ => Or.inr (Or.inr (Or.inr ⟨by decide, Or.inr ⟨_, rfl⟩⟩))
  | 5, _ => Or.inr (Or.inr (Or.inr ⟨by decide, Or.inr ⟨_, rfl⟩⟩))
  | 6, _ => Or.inr (Or.inr (Or.inr ⟨by decide, Or.inr ⟨_, rfl⟩⟩))
  | k + 7, hk => absurd hk (by omega)
theorem m_uw_2 : ∀ w ∈ u_ws RX2 TX2 7, w ∈ lw_tbl ∧ goodWord w = true := by decide +kernel
set_option maxRecDepth 100000 in
theorem m_tc_2 : (∀ w ∈ u_ws RX2 TX2 7, w ∈ m_ws0) ∧ (∃ ty : Nat → FieldType, ∀ k, k < 7 → parseFieldDescriptor (TX2 k).2.2.1 = some (ty k) ∧ m_kt (TX2 k).2.2.1 (ty k)) ∧ (∀ a, a < 7 → ∀ b, b < 7 → a ≠ b → (TX2 a).2.1 ≠ (TX2 b).2.1) ∧ (∀ k, k < 7 → (TX2 k).1 = RX2) ∧ Cond.instantiable RX2 7 ∈ m_ws0 ∧ Cond.initialized RX2 ∈ m_ws0 := ⟨fun w h => m_inL (m_uw_2 w h).1 (m_uw_2 w h).2, ⟨tyX2, fun k hk => ⟨tyX2_ok k hk, m_kt_2 k hk⟩⟩, nmX2, by decide +kernel, m_in2 (i := 14) rfl rfl, m_in1 (i := 12) rfl rfl⟩
theorem m_kt_3 : ∀ k, k < 10 → m_kt (TX3 k).2.2.1 (tyX3 k) := fun k hk => match k, hk with
  | 0, _ => Or.inr (Or.inr (Or.inr ⟨by decide, Or.inl ⟨_, rfl⟩⟩))
  | 1, _ => Or.inr (Or.inr (Or.inr ⟨by decide, Or.inr ⟨_, rfl⟩⟩))
  | 2, _ => Or.inl ⟨by decide, rfl⟩
  | 3, _ => Or.inl ⟨by decide, rfl⟩
  | 4, _ => Or.inl ⟨by decide, rfl⟩
  | 5, _ => Or.inl ⟨by decide, rfl⟩
  | 6, _ => Or.inl ⟨by decide, rfl⟩
  | 7, _ => Or.inl ⟨by decide, rfl⟩
  | 8, _ => Or.inl ⟨by decide, rfl⟩
  | 9, _ => Or.inl ⟨by decide, rfl⟩
  | k + 10, hk => absurd hk (by omega)
theorem m_uw_3 : ∀ w ∈ u_ws RX3 TX3 10, w ∈ lw_tbl ∧ goodWord w = true := by decide +kernel
set_option maxRecDepth 100000 in
theorem m_tc_3 : (∀ w ∈ u_ws RX3 TX3 10, w ∈ m_ws0) ∧ (∃ ty : Nat → FieldType, ∀ k, k < 10 → parseFieldDescriptor (TX3 k).2.2.1 = some (ty k) ∧ m_kt (TX3 k).2.2.1 (ty k)) ∧ (∀ a, a < 10 → ∀ b, b < 10 → a ≠ b → (TX3 a).2.1 ≠ (TX3 b).2.1) ∧ (∀ k, k < 10 → (TX3 k).1 = RX3) ∧ Cond.instantiable RX3 10 ∈ m_ws0 ∧ Cond.initialized RX3 ∈ m_ws0 := ⟨fun w h => m_inL (m_uw_3 w h).1 (m_uw_3 w h).2, ⟨tyX3, fun k hk => ⟨tyX3_ok k hk, m_kt_3 k hk⟩⟩, nmX3, by decide +kernel, m_in1 (i := 166) rfl rfl, m_in1 (i := 8) rfl rfl⟩
theorem m_kt_4 : ∀ k, k < 2 → m_kt (TX4 k).2.2.1 (tyX4 k) := fun k hk => match k, hk with
  | 0, _ => Or.inr (Or.inr (Or.inr ⟨by decide, Or.inr ⟨_, rfl⟩⟩))
  | 1, _ => Or.inl ⟨by decide, rfl⟩
  | k + 2, hk => absurd hk (by omega)
theorem m_uw_4 : ∀ w ∈ u_ws RX4 TX4 2, w ∈ lw_tbl ∧ goodWord w = true := by decide +kernel
set_option maxRecDepth 100000 in
theorem m_tc_4 : (∀ w ∈ u_ws RX4 TX4 2, w ∈ m_ws0) ∧ (∃ ty : Nat → FieldType, ∀ k, k < 2 → parseFieldDescriptor (TX4 k).2.2.1 = some (ty k) ∧ m_kt (TX4 k).2.2.1 (ty k)) ∧ (∀ a, a < 2 → ∀ b, b < 2 → a ≠ b → (TX4 a).2.1 ≠ (TX4 b).2.1) ∧ (∀ k, k < 2 → (TX4 k).1 = RX4) ∧ Cond.instantiable RX4 2 ∈ m_ws0 ∧ Cond.initialized RX4 ∈ m_ws0 := ⟨fun w h => m_inL (m_uw_4 w h).1 (m_uw_4 w h).2, ⟨tyX4, fun k hk => ⟨tyX4_ok k hk, m_kt_4 k hk⟩⟩, nmX4, by decide +kernel, m_in1 (i := 73) rfl rfl, m_in1 (i := 5) rfl rfl⟩
theorem m_kt_5 : ∀ k, k < 7 → m_kt (TX5 k).2.2.1 (tyX5 k) := fun k hk => match k, hk with
  | 0, _ => Or.inr (Or.inr (Or.inr ⟨by decide, Or.inr ⟨_, rfl⟩⟩))
  | 1, _ => Or.inr (Or.inr (Or.inr ⟨by decide, Or.inr ⟨_, rfl⟩⟩))
  | 2, _ => Or.inr (Or.inr (Or.inr ⟨by decide, Or.inr ⟨_, rfl⟩⟩))
  | 3, _ => Or.inr (Or.inr (Or.inr ⟨by decide, Or.inr ⟨_, rfl⟩⟩))
  | 4, _ => Or.inr (Or.inr (Or.inr ⟨by decide, Or.inr ⟨_, rfl⟩⟩))
  | 5, _ => Or.inl ⟨by decide, rfl⟩
  | 6, _ => Or.inl ⟨by decide, rfl⟩
  | k + 7, hk => absurd hk (by omega)
theorem m_uw_5 : ∀ w ∈ u_ws RX5 TX5 7, w ∈ lw_tbl ∧ goodWord w = true := by decide +kernel
set_option maxRecDepth 100000 in
theorem m_tc_5 : (∀ w ∈ u_ws RX5 TX5 7, w ∈ m_ws0) ∧ (∃ ty : Nat → FieldType, ∀ k, k < 7 → parseFieldDescriptor (TX5 k).2.2.1 = some (ty k) ∧ m_kt (TX5 k).2.2.1 (ty k)) ∧ (∀ a, a < 7 → ∀ b, b < 7 → a ≠ b → (TX5 a).2.1 ≠ (TX5 b).2.1) ∧ (∀ k, k < 7 → (TX5 k).1 = RX5) ∧ Cond.instantiable RX5 7 ∈ m_ws0 ∧ Cond.initialized RX5 ∈ m_ws0 := ⟨fun w h => m_inL (m_uw_5 w h).1 (m_uw_5 w h).2, ⟨tyX5, fun k hk => ⟨tyX5_ok k hk, m_kt_5 k hk⟩⟩, nmX5, by decide +kernel, m_in1 (i := 136) rfl rfl, m_in1 (i := 7) rfl rfl⟩
theorem m_kt_6 : ∀ k, k < 3 → m_kt (TX6 k).2.2.1 (tyX6 k) := fun k hk => match k, hk with
  | 0, _ => Or.inr (Or.inr (Or.inr ⟨by decide, Or.inr ⟨_, rfl⟩⟩))
  | 1, _ => Or.inl ⟨by decide, rfl⟩
  | 2, _ => Or.inl ⟨by decide, rfl⟩
  | k + 3, hk => absurd hk (by omega)
theorem m_uw_6 : ∀ w ∈ u_ws RX6 TX6 3, w ∈ lw_tbl ∧ goodWord w = true := by decide +kernel
set_option maxRecDepth 100000 in
theorem m_tc_6 : (∀ w ∈ u_ws RX6 TX6 3, w ∈ m_ws0) ∧ (∃ ty : Nat → FieldType, ∀ k, k < 3 → parseFieldDescriptor (TX6 k).2.2.1 = some (ty k) ∧ m_kt (TX6 k).2.2.1 (ty k)) ∧ (∀ a, a < 3 → ∀ b, b < 3 → a ≠ b → (TX6 a).2.1 ≠ (TX6 b).2.1) ∧ (∀ k, k < 3 → (TX6 k).1 = RX6) ∧ Cond.instantiable RX6 3 ∈ m_ws0 ∧ Cond.initialized RX6 ∈ m_ws0 := ⟨fun w h => m_inL (m_uw_6 w h).1 (m_uw_6 w h).2, ⟨tyX6, fun k hk => ⟨tyX6_ok k hk, m_kt_6 k hk⟩⟩, nmX6, by decide +kernel, m_in1 (i := 48) rfl rfl, m_in1 (i := 3) rfl rfl⟩
theorem m_kt_7 : ∀ k, k < 9 → m_kt (TX7 k).2.2.1 (tyX7 k) := fun k hk => match k, hk with
  | 0, _ => Or.inr (Or.inr (Or.inr ⟨by decide, Or.inl ⟨_, rfl⟩⟩))
  | 1, _ => Or.inr (Or.inr (Or.inr ⟨by decide, Or.inl ⟨_, rfl⟩⟩))
  | 2, _ => Or.inr (Or.inr (Or.inr ⟨by decide, Or.inl ⟨_, rfl⟩⟩))
  | 3, _ => Or.inr (Or.inr (Or.inr ⟨by decide, Or.inl ⟨_, rfl⟩⟩))
  | 4, _ => Or.inr (Or.inr (Or.inr ⟨by decide, Or.inl ⟨_, rfl⟩⟩))
  | 5, _ => Or.inr (Or.inr (Or.inr ⟨by decide, Or.inl ⟨_, rfl⟩⟩))
  | 6, _ => Or.inr (Or.inr (Or.inr ⟨by decide, Or.inl ⟨_, rfl⟩⟩))
  | 7, _ => Or.inl ⟨by decide, rfl⟩
  | 8, _ => Or.inl ⟨by decide, rfl⟩
  | k + 9, hk => absurd hk (by omega)
theorem m_uw_7 : ∀ w ∈ u_ws RX7 TX7 9, w ∈ lw_tbl ∧ goodWord w = true := by decide +kernel
set_option maxRecDepth 100000 in
theorem m_tc_7 : (∀ w ∈ u_ws RX7 TX7 9, w ∈ m_ws0) ∧ (∃ ty : Nat → FieldType, ∀ k, k < 9 → parseFieldDescriptor (TX7 k).2.2.1 = some (ty k) ∧ m_kt (TX7 k).2.2.1 (ty k)) ∧ (∀ a, a < 9 → ∀ b, b < 9 → a ≠ b → (TX7 a).2.1 ≠ (TX7 b).2.1) ∧ (∀ k, k < 9 → (TX7 k).1 = RX7) ∧ Cond.instantiable RX7 9 ∈ m_ws0 ∧ Cond.initialized RX7 ∈ m_ws0 := ⟨fun w h => m_inL (m_uw_7 w h).1 (m_uw_7 w h).2, ⟨tyX7, fun k hk => ⟨tyX7_ok k hk, m_kt_7 k hk⟩⟩, nmX7, by decide +kernel, m_in1 (i := 67) rfl rfl, m_in1 (i := 4) rfl rfl⟩
theorem m_kt_8 : ∀ k, k < 2 → m_kt (TX8 k).2.2.1 (tyX8 k) := fun k hk => match k, hk with
  | 0, _ => Or.inr (Or.inr (Or.inr ⟨by decide, Or.inr ⟨_, rfl⟩⟩))
  | 1, _ => Or.inr (Or.inr (Or.inr ⟨by decide, Or.inr ⟨_, rfl⟩⟩))
  | k + 2, hk => absurd hk (by omega)
theorem m_uw_8 : ∀ w ∈ u_ws RX8 TX8 2, w ∈ lw_tbl ∧ goodWord w = true := by decide +kernel
set_option maxRecDepth 100000 in
theorem m_tc_8 : (∀ w ∈ u_ws RX8 TX8 2, w ∈ m_ws0) ∧ (∃ ty : Nat → FieldType, ∀ k, k < 2 → parseFieldDescriptor (TX8 k).2.2.1 = some (ty k) ∧ m_kt (TX8 k).2.2.1 (ty k)) ∧ (∀ a, a < 2 → ∀ b, b < 2 → a ≠ b → (TX8 a).2.1 ≠ (TX8 b).2.1) ∧ (∀ k, k < 2 → (TX8 k).1 = RX8) ∧ Cond.instantiable RX8 2 ∈ m_ws0 ∧ Cond.initialized RX8 ∈ m_ws0 := ⟨fun w h => m_inL (m_uw_8 w h).1 (m_uw_8 w h).2, ⟨tyX8, fun k hk => ⟨tyX8_ok k hk, m_kt_8 k hk⟩⟩, nmX8, by decide +kernel, m_in1 (i := 222) rfl rfl, m_in1 (i := 10) rfl rfl⟩
theorem m_kt_9 : ∀ k, k < 1 → m_kt (TX10 k).2.2.1 (tyX10 k) := fun k hk => match k, hk with
  | 0, _ => Or.inr (Or.inr (Or.inr ⟨by decide, Or.inr ⟨_, rfl⟩⟩))
  | k + 1, hk => absurd hk (by omega)
theorem m_uw_9 : ∀ w ∈ u_ws RX10 TX10 1, w ∈ lw_tbl ∧ goodWord w = true := by decide +kernel
set_option maxRecDepth 100000 in
theorem m_tc_9 : (∀ w ∈ u_ws RX10 TX10 1, w ∈ m_ws0) ∧ (∃ ty : Nat → FieldType, ∀ k, k < 1 → parseFieldDescriptor (TX10 k).2.2.1 = some (ty k) ∧ m_kt (TX10 k).2.2.1 (ty k)) ∧ (∀ a, a < 1 → ∀ b, b < 1 → a ≠ b → (TX10 a).2.1 ≠ (TX10 b).2.1) ∧ (∀ k, k < 1 → (TX10 k).1 = RX10) ∧ Cond.instantiable RX10 1 ∈ m_ws0 ∧ Cond.initialized RX10 ∈ m_ws0 := ⟨fun w h => m_inL (m_uw_9 w h).1 (m_uw_9 w h).2, ⟨tyX10, fun k hk => ⟨tyX10_ok k hk, m_kt_9 k hk⟩⟩, nmX10, by decide +kernel, m_in1 (i := 31) rfl rfl, m_in1 (i := 2) rfl rfl⟩
theorem m_kt_10 : ∀ k, k < 13 → m_kt (TX11 k).2.2.1 (tyX11 k) := fun k hk => match k, hk with
  | 0, _ => Or.inr (Or.inr (Or.inr ⟨by decide, Or.inl ⟨_, rfl⟩⟩))
  | 1, _ => Or.inr (Or.inr (Or.inr ⟨by decide, Or.inl ⟨_, rfl⟩⟩))
  | 2, _ => Or.inr (Or.inr (Or.inr ⟨by decide, Or.inl ⟨_, rfl⟩⟩))
  | 3, _ => Or.inr (Or.inr (Or.inr ⟨by decide, Or.inl ⟨_, rfl⟩⟩))
  | 4, _ => Or.inr (Or.inr (Or.inr ⟨by decide, Or.inl ⟨_, rfl⟩⟩))
  | 5, _ => Or.inr (Or.inr (Or.inr ⟨by decide, Or.inl ⟨_, rfl⟩⟩))
  | 6, _ => Or.inr (Or.inr (Or.inr ⟨by decide, Or.inl ⟨_, rfl⟩⟩))
  | 7, _ => Or.inr (Or.inr (Or.inr ⟨by decide, Or.inr ⟨_, rfl⟩⟩))
  | 8, _ => Or.inr (Or.inr (Or.inr ⟨by decide, Or.inl ⟨_, rfl⟩⟩))
  | 9, _ => Or.inr (Or.inr (Or.inr ⟨by decide, Or.inl ⟨_, rfl⟩⟩))
  | 10, _ => Or.inr (Or.inr (Or.inr ⟨by decide, Or.inl ⟨_, rfl⟩⟩))
  | 11, _ => Or.inr (Or.inr (Or.inr ⟨by decide, Or.inl ⟨_, rfl⟩⟩))
  | 12, _ => Or.inr (Or.inr (Or.inr ⟨by decide, Or.inl ⟨_, rfl⟩⟩))
  | k + 13, hk => absurd hk (by omega)
theorem m_uw_10 : ∀ w ∈ u_ws RX11 TX11 13, w ∈ lw_tbl ∧ goodWord w = true := by decide +kernel
set_option maxRecDepth 100000 in
theorem m_tc_10 : (∀ w ∈ u_ws RX11 TX11 13, w ∈ m_ws0) ∧ (∃ ty : Nat → FieldType, ∀ k, k < 13 → parseFieldDescriptor (TX11 k).2.2.1 = some (ty k) ∧ m_kt (TX11 k).2.2.1 (ty k)) ∧ (∀ a, a < 13 → ∀ b, b < 13 → a ≠ b → (TX11 a).2.1 ≠ (TX11 b).2.1) ∧ (∀ k, k < 13 → (TX11 k).1 = RX11) ∧ Cond.instantiable RX11 13 ∈ m_ws0 ∧ Cond.initialized RX11 ∈ m_ws0 := ⟨fun w h => m_inL (m_uw_10 w h).1 (m_uw_10 w h).2, ⟨tyX11, fun k hk => ⟨tyX11_ok k hk, m_kt_10 k hk⟩⟩, nmX11, by decide +kernel, m_in1 (i := 23) rfl rfl, m_in1 (i := 1) rfl rfl⟩
theorem m_kt_11 : ∀ k, k < 36 → m_kt (TX12 k).2.2.1 (tyX12 k) := fun k hk => match k, hk with
  | 0, _ => Or.inr (Or.inr (Or.inr ⟨by decide, Or.inr ⟨_, rfl⟩⟩))
  | 1, _ => Or.inr (Or.inr (Or.inr ⟨by decide, Or.inr ⟨_, rfl⟩⟩))
  | 2, _ => Or.inr (Or.inr (Or.inr ⟨by decide, Or.inr ⟨_, rfl⟩⟩))
  | 3, _ => Or.inr (Or.inr (Or.inr ⟨by decide, Or.inr ⟨_, rfl⟩⟩))
  | 4, _ => Or.inl ⟨by decide, rfl⟩
  | 5, _ => Or.inl ⟨by decide, rfl⟩
  | 6, _ => Or.inl ⟨by decide, rfl⟩
  | 7, _ => Or.inl ⟨by decide, rfl⟩
  | 8, _ => Or.inl ⟨by decide, rfl⟩
  | 9, _ => Or.inl ⟨by decide, rfl⟩
  | 10, _ => Or.inl ⟨by decide, rfl⟩
  | 11, _ => Or.inr (Or.inl ⟨by decide, rfl⟩)
  | 12, _ => Or.inl ⟨by decide, rfl⟩
  | 13, _ => Or.inl ⟨by decide, rfl⟩
  | 14, _ => Or.inl ⟨by decide, rfl⟩
  | 15, _ => Or.inr (Or.inr (Or.inr ⟨by decide, Or.inr ⟨_, rfl⟩⟩))
  | 16, _ => Or.inl ⟨by decide, rfl⟩
  | 17, _ => Or.inl ⟨by decide, rfl⟩
  | 18, _ => Or.inr (Or.inr (Or.inl ⟨by decide, rfl⟩))
  | 19, _ => Or.inl ⟨by decide, rfl⟩
  | 20, _ => Or.inr (Or.inr (Or.inr ⟨by decide, Or.inr ⟨_, rfl⟩⟩))
  | 21, _ => Or.inr (Or.inr (Or.inr ⟨by decide, Or.inr ⟨_, rfl⟩⟩))
  | 22, _ => Or.inr (Or.inr (Or.inr ⟨by decide, Or.inr ⟨_, rfl⟩⟩))
  | 23, _ => Or.inr (Or.inr (Or.inl ⟨by decide, rfl⟩))
  | 24, _ => Or.inr (Or.inr (Or.inr ⟨by decide, Or.inr ⟨_, rfl⟩⟩))
  | 25, _ => Or.inr (Or.inr (Or.inr ⟨by decide, Or.inr ⟨_, rfl⟩⟩))
  | 26, _ => Or.inr (Or.inr (Or.inr ⟨by decide, Or.inr ⟨_, rfl⟩⟩))
  | 27, _ => Or.inr (Or.inr (Or.inr ⟨by decide, Or.inr ⟨_, rfl⟩⟩))
  | 28, _ => Or.inr (Or.inr (Or.inr ⟨by decide, Or.inr ⟨_, rfl⟩⟩))
  | 29, _ => Or.inr (Or.inr (Or.inr ⟨by decide, Or.inr ⟨_, rfl⟩⟩))
  | 30, _ => Or.inr (Or.inr (Or.inr ⟨by decide, Or.inr ⟨_, rfl⟩⟩))
  | 31, _ => Or.inr (Or.inl ⟨by decide, rfl⟩)
  | 32, _ => Or.inr (Or.inl ⟨by decide, rfl⟩)
  | 33, _ => Or.inr (Or.inr (Or.inr ⟨by decide, Or.inr ⟨_, rfl⟩⟩))
  | 34, _ => Or.inr (Or.inr (Or.inr ⟨by decide, Or.inr ⟨_, rfl⟩⟩))
  | 35, _ => Or.inr (Or.inr (Or.inr ⟨by decide, Or.inr ⟨_, rfl⟩⟩))
  | k + 36, hk => absurd hk (by omega)
theorem m_uw_11 : ∀ w ∈ u_ws RX12 TX12 36, w ∈ lw_tbl ∧ goodWord w = true := by decide +kernel
set_option maxRecDepth 100000 in
theorem m_tc_11 : (∀ w ∈ u_ws RX12 TX12 36, w ∈ m_ws0) ∧ (∃ ty : Nat → FieldType, ∀ k, k < 36 → parseFieldDescriptor (TX12 k).2.2.1 = some (ty k) ∧ m_kt (TX12 k).2.2.1 (ty k)) ∧ (∀ a, a < 36 → ∀ b, b < 36 → a ≠ b → (TX12 a).2.1 ≠ (TX12 b).2.1) ∧ (∀ k, k < 36 → (TX12 k).1 = RX12) ∧ Cond.instantiable RX12 36 ∈ m_ws0 ∧ Cond.initialized RX12 ∈ m_ws0 := ⟨fun w h => m_inL (m_uw_11 w h).1 (m_uw_11 w h).2, ⟨tyX12, fun k hk => ⟨tyX12_ok k hk, m_kt_11 k hk⟩⟩, nmX12, by decide +kernel, m_in6 (i := 53) rfl rfl, m_in1 (i := 13) rfl rfl⟩
theorem m_TC_ok : m_TC := by
  intro ci C T N h
  match ci, h with
  | 0, h => cases h; exact m_tc_0
  | 1, h => cases h; exact m_tc_1
  | 2, h => cases h; exact m_tc_2
  | 3, h => cases h; exact m_tc_3
  | 4, h => cases h; exact m_tc_4
  | 5, h => cases h; exact m_tc_5
  | 6, h => cases h; exact m_tc_6
  | 7, h => cases h; exact m_tc_7
  | 8, h => cases h; exact m_tc_8
  | 9, h => cases h; exact m_tc_9
  | 10, h => cases h; exact m_tc_10
  | 11, h => cases h; exact m_tc_11
  | n + 12, h => simp [vwCl] at h
set_option maxRecDepth 100000 in
theorem m_lg_all : ∀ q ∈ m_lg, (q.2.2 = 0 ∧ Cond.fieldLink (m_cnm q.1) q.2.1 "java/lang/String" "COMPACT_STRINGS" "Z" ∈ m_ws0) ∨ (q.2.2 = 1 ∧ Cond.fieldLink (m_cnm q.1) q.2.1 "LeftGlove$Reader" "FORMS" "[I" ∈ m_ws0) ∨ (q.2.2 = 2 ∧ Cond.fieldLink (m_cnm q.1) q.2.1 "jdk/internal/util/Preconditions" "SIOOBE_FORMATTER" "Ljava/util/function/BiFunction;" ∈ m_ws0) := List.forall_mem_cons.mpr ⟨Or.inr (Or.inl ⟨rfl, m_in3 (i := 131) rfl rfl⟩), List.forall_mem_cons.mpr ⟨Or.inr (Or.inr ⟨rfl, m_in2 (i := 171) rfl rfl⟩), List.forall_mem_cons.mpr ⟨Or.inl ⟨rfl, m_in2 (i := 155) rfl rfl⟩, (fun _ h => absurd h List.not_mem_nil)⟩⟩⟩
theorem m_TG_ok : m_TG := fun j q h => m_lg_all q (List.mem_of_getElem? h)
set_option maxRecDepth 100000 in
theorem m_lc_all : ∀ q ∈ m_lc, ∃ (C : String) (T : u_T) (N : Nat), vwCl[q.2.2]? = some (C, T, N) ∧ Cond.classLink (m_cnm q.1) q.2.1 C ∈ m_ws0 := List.forall_mem_cons.mpr ⟨⟨RX11, TX11, 13, rfl, m_in1 (i := 22) rfl rfl⟩, List.forall_mem_cons.mpr ⟨⟨RX12, TX12, 36, rfl, m_in6 (i := 52) rfl rfl⟩, List.forall_mem_cons.mpr ⟨⟨RX10, TX10, 1, rfl, m_in1 (i := 30) rfl rfl⟩, List.forall_mem_cons.mpr ⟨⟨RX6, TX6, 3, rfl, m_in1 (i := 47) rfl rfl⟩, List.forall_mem_cons.mpr ⟨⟨RX7, TX7, 9, rfl, m_in1 (i := 66) rfl rfl⟩, List.forall_mem_cons.mpr ⟨⟨RX5, TX5, 7, rfl, m_in1 (i := 134) rfl rfl⟩, List.forall_mem_cons.mpr ⟨⟨RX3, TX3, 10, rfl, m_in1 (i := 165) rfl rfl⟩, List.forall_mem_cons.mpr ⟨⟨RX1, TX1, 2, rfl, m_in1 (i := 208) rfl rfl⟩, List.forall_mem_cons.mpr ⟨⟨RX8, TX8, 2, rfl, m_in1 (i := 221) rfl rfl⟩, List.forall_mem_cons.mpr ⟨⟨RX0, TX0, 3, rfl, m_in1 (i := 234) rfl rfl⟩, List.forall_mem_cons.mpr ⟨⟨RX2, TX2, 7, rfl, m_in2 (i := 13) rfl rfl⟩, List.forall_mem_cons.mpr ⟨⟨RX4, TX4, 2, rfl, m_in2 (i := 0) rfl rfl⟩, List.forall_mem_cons.mpr ⟨⟨RX5, TX5, 7, rfl, m_in1 (i := 171) rfl rfl⟩, List.forall_mem_cons.mpr ⟨⟨RX4, TX4, 2, rfl, m_in1 (i := 72) rfl rfl⟩, (fun _ h => absurd h List.not_mem_nil)⟩⟩⟩⟩⟩⟩⟩⟩⟩⟩⟩⟩⟩⟩
theorem m_TL_ok : m_TL := fun j q h => m_lc_all q (List.mem_of_getElem? h)
set_option maxRecDepth 100000 in
theorem m_ld_all : ∀ q ∈ m_ld, Cond.constant (m_cnm q.1) q.2.1 q.2.2 ∈ m_ws0 := List.forall_mem_cons.mpr ⟨m_in8 (i := 176) rfl rfl, List.forall_mem_cons.mpr ⟨m_in5 (i := 83) rfl rfl, List.forall_mem_cons.mpr ⟨m_in5 (i := 84) rfl rfl, List.forall_mem_cons.mpr ⟨m_in5 (i := 85) rfl rfl, List.forall_mem_cons.mpr ⟨m_in8 (i := 77) rfl rfl, List.forall_mem_cons.mpr ⟨m_in4 (i := 192) rfl rfl, List.forall_mem_cons.mpr ⟨m_in6 (i := 210) rfl rfl, (fun _ h => absurd h List.not_mem_nil)⟩⟩⟩⟩⟩⟩⟩
set_option maxRecDepth 100000 in
theorem m_ll_all : ∀ q ∈ m_ll, Cond.constantLong (m_cnm q.1) q.2.1 q.2.2 ∈ m_ws0 := List.forall_mem_cons.mpr ⟨m_in9 (i := 19) rfl rfl, List.forall_mem_cons.mpr ⟨m_in8 (i := 225) rfl rfl, List.forall_mem_cons.mpr ⟨m_in8 (i := 230) rfl rfl, List.forall_mem_cons.mpr ⟨m_in8 (i := 47) rfl rfl, List.forall_mem_cons.mpr ⟨m_in8 (i := 48) rfl rfl, List.forall_mem_cons.mpr ⟨m_in8 (i := 49) rfl rfl, List.forall_mem_cons.mpr ⟨m_in7 (i := 227) rfl rfl, List.forall_mem_cons.mpr ⟨m_in7 (i := 228) rfl rfl, List.forall_mem_cons.mpr ⟨m_in4 (i := 78) rfl rfl, List.forall_mem_cons.mpr ⟨m_in4 (i := 79) rfl rfl, List.forall_mem_cons.mpr ⟨m_in6 (i := 214) rfl rfl, (fun _ h => absurd h List.not_mem_nil)⟩⟩⟩⟩⟩⟩⟩⟩⟩⟩⟩
set_option maxRecDepth 100000 in
theorem m_ls_all : ∀ q ∈ m_ls, m_cnm q.1 = "LeftGlove$Words" ∧ ((q.2.1 = 9 ∧ q.2.2 = 0) ∨ (q.2.1 = 21 ∧ q.2.2 = 1)) := List.forall_mem_cons.mpr ⟨⟨rfl, Or.inr ⟨rfl, rfl⟩⟩, List.forall_mem_cons.mpr ⟨⟨rfl, Or.inl ⟨rfl, rfl⟩⟩, (fun _ h => absurd h List.not_mem_nil)⟩⟩
theorem m_TD_ok : m_TD := ⟨fun j q h => m_ld_all q (List.mem_of_getElem? h), fun j q h => m_ll_all q (List.mem_of_getElem? h), fun j q h => m_ls_all q (List.mem_of_getElem? h)⟩
theorem m_TA_ok : m_TA := ⟨m_in1 (i := 46) rfl rfl, m_in6 (i := 170) rfl rfl, m_in6 (i := 171) rfl rfl, m_in1 (i := 134) rfl rfl, m_in1 (i := 53) rfl rfl, rfl⟩
theorem m_Tab_ok : m_Tab := ⟨m_T8_ok, m_T3_ok, m_TC_ok, m_TG_ok, m_TL_ok, m_TD_ok, m_TA_ok⟩
