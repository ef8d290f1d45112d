set_option maxRecDepth 100000 in
theorem m_t8_2 : ∀ e ∈ m_i2, decode prog_1_method_48_code e.1 = .ok (e.2.1, e.2.2.1) ∧ m_okI 2 e.1 e.2.1 e.2.2.1 e.2.2.2 = true := by decide +kernel
set_option maxRecDepth 100000 in
theorem m_t8_3 : ∀ e ∈ m_i3, decode prog_14_method_150_code e.1 = .ok (e.2.1, e.2.2.1) ∧ m_okI 3 e.1 e.2.1 e.2.2.1 e.2.2.2 = true := by decide +kernel
set_option maxRecDepth 100000 in
theorem m_t8_4 : ∀ e ∈ m_i4, decode prog_1_method_47_code e.1 = .ok (e.2.1, e.2.2.1) ∧ m_okI 4 e.1 e.2.1 e.2.2.1 e.2.2.2 = true := by decide +kernel
set_option maxRecDepth 100000 in
theorem m_t8_5 : ∀ e ∈ m_i5, decode prog_14_method_149_code e.1 = .ok (e.2.1, e.2.2.1) ∧ m_okI 5 e.1 e.2.1 e.2.2.1 e.2.2.2 = true := by decide +kernel
set_option maxRecDepth 100000 in
theorem m_t8_6 : ∀ e ∈ m_i6, decode prog_1_method_46_code e.1 = .ok (e.2.1, e.2.2.1) ∧ m_okI 6 e.1 e.2.1 e.2.2.1 e.2.2.2 = true := by decide +kernel
set_option maxRecDepth 100000 in
theorem m_t8_7 : ∀ e ∈ m_i7, decode prog_9_method_2_code e.1 = .ok (e.2.1, e.2.2.1) ∧ m_okI 7 e.1 e.2.1 e.2.2.1 e.2.2.2 = true := by decide +kernel
set_option maxRecDepth 100000 in
theorem m_t8_8 : ∀ e ∈ m_i8, decode prog_6_method_6_code e.1 = .ok (e.2.1, e.2.2.1) ∧ m_okI 8 e.1 e.2.1 e.2.2.1 e.2.2.2 = true := by decide +kernel
set_option maxRecDepth 100000 in
theorem m_t8_9 : ∀ e ∈ m_i9, decode prog_8_method_5_code e.1 = .ok (e.2.1, e.2.2.1) ∧ m_okI 9 e.1 e.2.1 e.2.2.1 e.2.2.2 = true := by decide +kernel
set_option maxRecDepth 100000 in
theorem m_t8_10 : ∀ e ∈ m_i10, decode prog_14_method_111_code e.1 = .ok (e.2.1, e.2.2.1) ∧ m_okI 10 e.1 e.2.1 e.2.2.1 e.2.2.2 = true := by decide +kernel
set_option maxRecDepth 100000 in
theorem m_t8_11 : ∀ e ∈ m_i11, decode prog_1_method_45_code e.1 = .ok (e.2.1, e.2.2.1) ∧ m_okI 11 e.1 e.2.1 e.2.2.1 e.2.2.2 = true := by decide +kernel
set_option maxRecDepth 100000 in
theorem m_t8_12 : ∀ e ∈ m_i12, decode prog_14_method_110_code e.1 = .ok (e.2.1, e.2.2.1) ∧ m_okI 12 e.1 e.2.1 e.2.2.1 e.2.2.2 = true := by decide +kernel
set_option maxRecDepth 100000 in
theorem m_t8_13 : ∀ e ∈ m_i13, decode prog_1_method_44_code e.1 = .ok (e.2.1, e.2.2.1) ∧ m_okI 13 e.1 e.2.1 e.2.2.1 e.2.2.2 = true := by decide +kernel
set_option maxRecDepth 100000 in
theorem m_t8_14 : ∀ e ∈ m_i14, decode prog_12_method_25_code e.1 = .ok (e.2.1, e.2.2.1) ∧ m_okI 14 e.1 e.2.1 e.2.2.1 e.2.2.2 = true := by decide +kernel
set_option maxRecDepth 100000 in
theorem m_t8_15 : ∀ e ∈ m_i15, decode prog_14_method_109_code e.1 = .ok (e.2.1, e.2.2.1) ∧ m_okI 15 e.1 e.2.1 e.2.2.1 e.2.2.2 = true := by decide +kernel
set_option maxRecDepth 100000 in
theorem m_t8_16 : ∀ e ∈ m_i16, decode prog_1_method_43_code e.1 = .ok (e.2.1, e.2.2.1) ∧ m_okI 16 e.1 e.2.1 e.2.2.1 e.2.2.2 = true := by decide +kernel
set_option maxRecDepth 100000 in
theorem m_t8_17_0 : ∀ e ∈ m_i17_0, decode prog_14_method_148_code e.1 = .ok (e.2.1, e.2.2.1) ∧ m_okI 17 e.1 e.2.1 e.2.2.1 e.2.2.2 = true := by decide +kernel
set_option maxRecDepth 100000 in
theorem m_t8_17_1 : ∀ e ∈ m_i17_1, decode prog_14_method_148_code e.1 = .ok (e.2.1, e.2.2.1) ∧ m_okI 17 e.1 e.2.1 e.2.2.1 e.2.2.2 = true := by decide +kernel
theorem m_t8_17 : ∀ e ∈ m_i17, decode prog_14_method_148_code e.1 = .ok (e.2.1, e.2.2.1) ∧ m_okI 17 e.1 e.2.1 e.2.2.1 e.2.2.2 = true := List.forall_mem_append.mpr ⟨m_t8_17_0, m_t8_17_1⟩
set_option maxRecDepth 100000 in
theorem m_t8_18 : ∀ e ∈ m_i18, decode prog_1_method_42_code e.1 = .ok (e.2.1, e.2.2.1) ∧ m_okI 18 e.1 e.2.1 e.2.2.1 e.2.2.2 = true := by decide +kernel
set_option maxRecDepth 100000 in
theorem m_t8_19 : ∀ e ∈ m_i19, decode prog_1_method_62_code e.1 = .ok (e.2.1, e.2.2.1) ∧ m_okI 19 e.1 e.2.1 e.2.2.1 e.2.2.2 = true := by decide +kernel
set_option maxRecDepth 100000 in
theorem m_t8_20_0 : ∀ e ∈ m_i20_0, decode prog_14_method_147_code e.1 = .ok (e.2.1, e.2.2.1) ∧ m_okI 20 e.1 e.2.1 e.2.2.1 e.2.2.2 = true := by decide +kernel
set_option maxRecDepth 100000 in
theorem m_t8_20_1 : ∀ e ∈ m_i20_1, decode prog_14_method_147_code e.1 = .ok (e.2.1, e.2.2.1) ∧ m_okI 20 e.1 e.2.1 e.2.2.1 e.2.2.2 = true := by decide +kernel
theorem m_t8_20 : ∀ e ∈ m_i20, decode prog_14_method_147_code e.1 = .ok (e.2.1, e.2.2.1) ∧ m_okI 20 e.1 e.2.1 e.2.2.1 e.2.2.2 = true := List.forall_mem_append.mpr ⟨m_t8_20_0, m_t8_20_1⟩
set_option maxRecDepth 100000 in
theorem m_t8_21 : ∀ e ∈ m_i21, decode prog_1_method_41_code e.1 = .ok (e.2.1, e.2.2.1) ∧ m_okI 21 e.1 e.2.1 e.2.2.1 e.2.2.2 = true := by decide +kernel
set_option maxRecDepth 100000 in
theorem m_t8_22 : ∀ e ∈ m_i22, decode prog_14_method_112_code e.1 = .ok (e.2.1, e.2.2.1) ∧ m_okI 22 e.1 e.2.1 e.2.2.1 e.2.2.2 = true := by decide +kernel
set_option maxRecDepth 100000 in
theorem m_t8_23 : ∀ e ∈ m_i23, decode prog_1_method_40_code e.1 = .ok (e.2.1, e.2.2.1) ∧ m_okI 23 e.1 e.2.1 e.2.2.1 e.2.2.2 = true := by decide +kernel
set_option maxRecDepth 100000 in
theorem m_t8_24 : ∀ e ∈ m_i24, decode prog_12_method_23_code e.1 = .ok (e.2.1, e.2.2.1) ∧ m_okI 24 e.1 e.2.1 e.2.2.1 e.2.2.2 = true := by decide +kernel
set_option maxRecDepth 100000 in
theorem m_t8_25 : ∀ e ∈ m_i25, decode prog_14_method_146_code e.1 = .ok (e.2.1, e.2.2.1) ∧ m_okI 25 e.1 e.2.1 e.2.2.1 e.2.2.2 = true := by decide +kernel
set_option maxRecDepth 100000 in
theorem m_t8_26_0 : ∀ e ∈ m_i26_0, decode prog_14_method_145_code e.1 = .ok (e.2.1, e.2.2.1) ∧ m_okI 26 e.1 e.2.1 e.2.2.1 e.2.2.2 = true := by decide +kernel
set_option maxRecDepth 100000 in
theorem m_t8_26_1 : ∀ e ∈ m_i26_1, decode prog_14_method_145_code e.1 = .ok (e.2.1, e.2.2.1) ∧ m_okI 26 e.1 e.2.1 e.2.2.1 e.2.2.2 = true := by decide +kernel
theorem m_t8_26 : ∀ e ∈ m_i26, decode prog_14_method_145_code e.1 = .ok (e.2.1, e.2.2.1) ∧ m_okI 26 e.1 e.2.1 e.2.2.1 e.2.2.2 = true := List.forall_mem_append.mpr ⟨m_t8_26_0, m_t8_26_1⟩
set_option maxRecDepth 100000 in
theorem m_t8_27 : ∀ e ∈ m_i27, decode prog_1_method_39_code e.1 = .ok (e.2.1, e.2.2.1) ∧ m_okI 27 e.1 e.2.1 e.2.2.1 e.2.2.2 = true := by decide +kernel
set_option maxRecDepth 100000 in
theorem m_t8_28 : ∀ e ∈ m_i28, decode prog_2_method_6_code e.1 = .ok (e.2.1, e.2.2.1) ∧ m_okI 28 e.1 e.2.1 e.2.2.1 e.2.2.2 = true := by decide +kernel
set_option maxRecDepth 100000 in
theorem m_t8_29_0 : ∀ e ∈ m_i29_0, decode prog_2_method_7_code e.1 = .ok (e.2.1, e.2.2.1) ∧ m_okI 29 e.1 e.2.1 e.2.2.1 e.2.2.2 = true := by decide +kernel
set_option maxRecDepth 100000 in
theorem m_t8_29_1 : ∀ e ∈ m_i29_1, decode prog_2_method_7_code e.1 = .ok (e.2.1, e.2.2.1) ∧ m_okI 29 e.1 e.2.1 e.2.2.1 e.2.2.2 = true := by decide +kernel
theorem m_t8_29 : ∀ e ∈ m_i29, decode prog_2_method_7_code e.1 = .ok (e.2.1, e.2.2.1) ∧ m_okI 29 e.1 e.2.1 e.2.2.1 e.2.2.2 = true := List.forall_mem_append.mpr ⟨m_t8_29_0, m_t8_29_1⟩
set_option maxRecDepth 100000 in
theorem m_t8_30 : ∀ e ∈ m_i30, decode prog_2_method_8_code e.1 = .ok (e.2.1, e.2.2.1) ∧ m_okI 30 e.1 e.2.1 e.2.2.1 e.2.2.2 = true := by decide +kernel
set_option maxRecDepth 100000 in
theorem m_t8_31_0 : ∀ e ∈ m_i31_0, decode prog_14_method_144_code e.1 = .ok (e.2.1, e.2.2.1) ∧ m_okI 31 e.1 e.2.1 e.2.2.1 e.2.2.2 = true := by decide +kernel
set_option maxRecDepth 100000 in
theorem m_t8_31_1 : ∀ e ∈ m_i31_1, decode prog_14_method_144_code e.1 = .ok (e.2.1, e.2.2.1) ∧ m_okI 31 e.1 e.2.1 e.2.2.1 e.2.2.2 = true := by decide +kernel
set_option maxRecDepth 100000 in
theorem m_t8_31_2 : ∀ e ∈ m_i31_2, decode prog_14_method_144_code e.1 = .ok (e.2.1, e.2.2.1) ∧ m_okI 31 e.1 e.2.1 e.2.2.1 e.2.2.2 = true := by decide +kernel
theorem m_t8_31 : ∀ e ∈ m_i31, decode prog_14_method_144_code e.1 = .ok (e.2.1, e.2.2.1) ∧ m_okI 31 e.1 e.2.1 e.2.2.1 e.2.2.2 = true := List.forall_mem_append.mpr ⟨m_t8_31_0, List.forall_mem_append.mpr ⟨m_t8_31_1, m_t8_31_2⟩⟩
set_option maxRecDepth 100000 in
theorem m_t8_32 : ∀ e ∈ m_i32, decode prog_1_method_38_code e.1 = .ok (e.2.1, e.2.2.1) ∧ m_okI 32 e.1 e.2.1 e.2.2.1 e.2.2.2 = true := by decide +kernel
set_option maxRecDepth 100000 in
theorem m_t8_33_0 : ∀ e ∈ m_i33_0, decode prog_4_method_11_code e.1 = .ok (e.2.1, e.2.2.1) ∧ m_okI 33 e.1 e.2.1 e.2.2.1 e.2.2.2 = true := by decide +kernel
set_option maxRecDepth 100000 in
theorem m_t8_33_1 : ∀ e ∈ m_i33_1, decode prog_4_method_11_code e.1 = .ok (e.2.1, e.2.2.1) ∧ m_okI 33 e.1 e.2.1 e.2.2.1 e.2.2.2 = true := by decide +kernel
theorem m_t8_33 : ∀ e ∈ m_i33, decode prog_4_method_11_code e.1 = .ok (e.2.1, e.2.2.1) ∧ m_okI 33 e.1 e.2.1 e.2.2.1 e.2.2.2 = true := List.forall_mem_append.mpr ⟨m_t8_33_0, m_t8_33_1⟩
set_option maxRecDepth 100000 in
theorem m_t8_34 : ∀ e ∈ m_i34, decode prog_14_method_143_code e.1 = .ok (e.2.1, e.2.2.1) ∧ m_okI 34 e.1 e.2.1 e.2.2.1 e.2.2.2 = true := by decide +kernel
set_option maxRecDepth 100000 in
theorem m_t8_35_0 : ∀ e ∈ m_i35_0, decode prog_14_method_142_code e.1 = .ok (e.2.1, e.2.2.1) ∧ m_okI 35 e.1 e.2.1 e.2.2.1 e.2.2.2 = true := by decide +kernel
set_option maxRecDepth 100000 in
theorem m_t8_35_1 : ∀ e ∈ m_i35_1, decode prog_14_method_142_code e.1 = .ok (e.2.1, e.2.2.1) ∧ m_okI 35 e.1 e.2.1 e.2.2.1 e.2.2.2 = true := by decide +kernel
theorem m_t8_35 : ∀ e ∈ m_i35, decode prog_14_method_142_code e.1 = .ok (e.2.1, e.2.2.1) ∧ m_okI 35 e.1 e.2.1 e.2.2.1 e.2.2.2 = true := List.forall_mem_append.mpr ⟨m_t8_35_0, m_t8_35_1⟩
set_option maxRecDepth 100000 in
theorem m_t8_36 : ∀ e ∈ m_i36, decode prog_14_method_141_code e.1 = .ok (e.2.1, e.2.2.1) ∧ m_okI 36 e.1 e.2.1 e.2.2.1 e.2.2.2 = true := by decide +kernel
set_option maxRecDepth 100000 in
theorem m_t8_37 : ∀ e ∈ m_i37, decode prog_1_method_37_code e.1 = .ok (e.2.1, e.2.2.1) ∧ m_okI 37 e.1 e.2.1 e.2.2.1 e.2.2.2 = true := by decide +kernel
set_option maxRecDepth 100000 in
theorem m_t8_38 : ∀ e ∈ m_i38, decode prog_4_method_10_code e.1 = .ok (e.2.1, e.2.2.1) ∧ m_okI 38 e.1 e.2.1 e.2.2.1 e.2.2.2 = true := by decide +kernel
set_option maxRecDepth 100000 in
theorem m_t8_39_0 : ∀ e ∈ m_i39_0, decode prog_4_method_8_code e.1 = .ok (e.2.1, e.2.2.1) ∧ m_okI 39 e.1 e.2.1 e.2.2.1 e.2.2.2 = true := by decide +kernel
set_option maxRecDepth 100000 in
theorem m_t8_39_1 : ∀ e ∈ m_i39_1, decode prog_4_method_8_code e.1 = .ok (e.2.1, e.2.2.1) ∧ m_okI 39 e.1 e.2.1 e.2.2.1 e.2.2.2 = true := by decide +kernel
theorem m_t8_39 : ∀ e ∈ m_i39, decode prog_4_method_8_code e.1 = .ok (e.2.1, e.2.2.1) ∧ m_okI 39 e.1 e.2.1 e.2.2.1 e.2.2.2 = true := List.forall_mem_append.mpr ⟨m_t8_39_0, m_t8_39_1⟩
set_option maxRecDepth 100000 in
theorem m_a8_0 : m_all8 0 [m_i0, m_i1, m_i2, m_i3, m_i4, m_i5, m_i6, m_i7, m_i8, m_i9, m_i10, m_i11, m_i12, m_i13, m_i14, m_i15, m_i16, m_i17, m_i18, m_i19, m_i20, m_i21, m_i22, m_i23, m_i24, m_i25, m_i26, m_i27, m_i28, m_i29, m_i30, m_i31, m_i32, m_i33, m_i34, m_i35, m_i36, m_i37, m_i38, m_i39] := ⟨m_t8_0, m_t8_1, m_t8_2, m_t8_3, m_t8_4, m_t8_5, m_t8_6, m_t8_7, m_t8_8, m_t8_9, m_t8_10, m_t8_11, m_t8_12, m_t8_13, m_t8_14, m_t8_15, m_t8_16, m_t8_17, m_t8_18, m_t8_19, m_t8_20, m_t8_21, m_t8_22, m_t8_23, m_t8_24, m_t8_25, m_t8_26, m_t8_27, m_t8_28, m_t8_29, m_t8_30, m_t8_31, m_t8_32, m_t8_33, m_t8_34, m_t8_35, m_t8_36, m_t8_37, m_t8_38, m_t8_39, trivial⟩
set_option maxRecDepth 100000 in
theorem m_t8_40_0 : ∀ e ∈ m_i40_0, decode prog_4_method_9_code e.1 = .ok (e.2.1, e.2.2.1) ∧ m_okI 40 e.1 e.2.1 e.2.2.1 e.2.2.2 = true := by decide +kernel
set_option maxRecDepth 100000 in
theorem m_t8_40_1 : ∀ e ∈ m_i40_1, decode prog_4_method_9_code e.1 = .ok (e.2.1, e.2.2.1) ∧ m_okI 40 e.1 e.2.1 e.2.2.1 e.2.2.2 = true := by decide +kernel
theorem m_t8_40 : ∀ e ∈ m_i40, decode prog_4_method_9_code e.1 = .ok (e.2.1, e.2.2.1) ∧ m_okI 40 e.1 e.2.1 e.2.2.1 e.2.2.2 = true := List.forall_mem_append.mpr ⟨m_t8_40_0, m_t8_40_1⟩
set_option maxRecDepth 100000 in
theorem m_t8_41_0 : ∀ e ∈ m_i41_0, decode prog_14_method_140_code e.1 = .ok (e.2.1, e.2.2.1) ∧ m_okI 41 e.1 e.2.1 e.2.2.1 e.2.2.2 = true := by decide +kernel
set_option maxRecDepth 100000 in
theorem m_t8_41_1 : ∀ e ∈ m_i41_1, decode prog_14_method_140_code e.1 = .ok (e.2.1, e.2.2.1) ∧ m_okI 41 e.1 e.2.1 e.2.2.1 e.2.2.2 = true := by decide +kernel
theorem m_t8_41 : ∀ e ∈ m_i41, decode prog_14_method_140_code e.1 = .ok (e.2.1, e.2.2.1) ∧ m_okI 41 e.1 e.2.1 e.2.2.1 e.2.2.2 = true := List.forall_mem_append.mpr ⟨m_t8_41_0, m_t8_41_1⟩
set_option maxRecDepth 100000 in
theorem m_t8_42 : ∀ e ∈ m_i42, decode prog_1_method_36_code e.1 = .ok (e.2.1, e.2.2.1) ∧ m_okI 42 e.1 e.2.1 e.2.2.1 e.2.2.2 = true := by decide +kernel
set_option maxRecDepth 100000 in
theorem m_t8_43_0 : ∀ e ∈ m_i43_0, decode prog_14_method_139_code e.1 = .ok (e.2.1, e.2.2.1) ∧ m_okI 43 e.1 e.2.1 e.2.2.1 e.2.2.2 = true := by decide +kernel
set_option maxRecDepth 100000 in
theorem m_t8_43_1 : ∀ e ∈ m_i43_1, decode prog_14_method_139_code e.1 = .ok (e.2.1, e.2.2.1) ∧ m_okI 43 e.1 e.2.1 e.2.2.1 e.2.2.2 = true := by decide +kernel
theorem m_t8_43 : ∀ e ∈ m_i43, decode prog_14_method_139_code e.1 = .ok (e.2.1, e.2.2.1) ∧ m_okI 43 e.1 e.2.1 e.2.2.1 e.2.2.2 = true := List.forall_mem_append.mpr ⟨m_t8_43_0, m_t8_43_1⟩
set_option maxRecDepth 100000 in
theorem m_t8_44 : ∀ e ∈ m_i44, decode prog_14_method_138_code e.1 = .ok (e.2.1, e.2.2.1) ∧ m_okI 44 e.1 e.2.1 e.2.2.1 e.2.2.2 = true := by decide +kernel
set_option maxRecDepth 100000 in
theorem m_t8_45 : ∀ e ∈ m_i45, decode prog_1_method_35_code e.1 = .ok (e.2.1, e.2.2.1) ∧ m_okI 45 e.1 e.2.1 e.2.2.1 e.2.2.2 = true := by decide +kernel
set_option maxRecDepth 100000 in
theorem m_t8_46 : ∀ e ∈ m_i46, decode prog_12_method_29_code e.1 = .ok (e.2.1, e.2.2.1) ∧ m_okI 46 e.1 e.2.1 e.2.2.1 e.2.2.2 = true := by decide +kernel
set_option maxRecDepth 100000 in
theorem m_t8_47 : ∀ e ∈ m_i47, decode prog_12_method_28_code e.1 = .ok (e.2.1, e.2.2.1) ∧ m_okI 47 e.1 e.2.1 e.2.2.1 e.2.2.2 = true := by decide +kernel
set_option maxRecDepth 100000 in
theorem m_t8_48_0 : ∀ e ∈ m_i48_0, decode prog_14_method_137_code e.1 = .ok (e.2.1, e.2.2.1) ∧ m_okI 48 e.1 e.2.1 e.2.2.1 e.2.2.2 = true := by decide +kernel
set_option maxRecDepth 100000 in
theorem m_t8_48_1 : ∀ e ∈ m_i48_1, decode prog_14_method_137_code e.1 = .ok (e.2.1, e.2.2.1) ∧ m_okI 48 e.1 e.2.1 e.2.2.1 e.2.2.2 = true := by decide +kernel
set_option maxRecDepth 100000 in
theorem m_t8_48_2 : ∀ e ∈ m_i48_2, decode prog_14_method_137_code e.1 = .ok (e.2.1, e.2.2.1) ∧ m_okI 48 e.1 e.2.1 e.2.2.1 e.2.2.2 = true := by decide +kernel
theorem m_t8_48 : ∀ e ∈ m_i48, decode prog_14_method_137_code e.1 = .ok (e.2.1, e.2.2.1) ∧ m_okI 48 e.1 e.2.1 e.2.2.1 e.2.2.2 = true := List.forall_mem_append.mpr ⟨m_t8_48_0, List.forall_mem_append.mpr ⟨m_t8_48_1, m_t8_48_2⟩⟩
set_option maxRecDepth 100000 in
theorem m_t8_49_0 : ∀ e ∈ m_i49_0, decode prog_14_method_136_code e.1 = .ok (e.2.1, e.2.2.1) ∧ m_okI 49 e.1 e.2.1 e.2.2.1 e.2.2.2 = true := by decide +kernel
set_option maxRecDepth 100000 in
theorem m_t8_49_1 : ∀ e ∈ m_i49_1, decode prog_14_method_136_code e.1 = .ok (e.2.1, e.2.2.1) ∧ m_okI 49 e.1 e.2.1 e.2.2.1 e.2.2.2 = true := by decide +kernel
theorem m_t8_49 : ∀ e ∈ m_i49, decode prog_14_method_136_code e.1 = .ok (e.2.1, e.2.2.1) ∧ m_okI 49 e.1 e.2.1 e.2.2.1 e.2.2.2 = true := List.forall_mem_append.mpr ⟨m_t8_49_0, m_t8_49_1⟩
set_option maxRecDepth 100000 in
theorem m_t8_50 : ∀ e ∈ m_i50, decode prog_1_method_34_code e.1 = .ok (e.2.1, e.2.2.1) ∧ m_okI 50 e.1 e.2.1 e.2.2.1 e.2.2.2 = true := by decide +kernel
set_option maxRecDepth 100000 in
theorem m_t8_51_0 : ∀ e ∈ m_i51_0, decode prog_4_method_5_code e.1 = .ok (e.2.1, e.2.2.1) ∧ m_okI 51 e.1 e.2.1 e.2.2.1 e.2.2.2 = true := by decide +kernel
set_option maxRecDepth 100000 in
theorem m_t8_51_1 : ∀ e ∈ m_i51_1, decode prog_4_method_5_code e.1 = .ok (e.2.1, e.2.2.1) ∧ m_okI 51 e.1 e.2.1 e.2.2.1 e.2.2.2 = true := by decide +kernel
theorem m_t8_51 : ∀ e ∈ m_i51, decode prog_4_method_5_code e.1 = .ok (e.2.1, e.2.2.1) ∧ m_okI 51 e.1 e.2.1 e.2.2.1 e.2.2.2 = true := List.forall_mem_append.mpr ⟨m_t8_51_0, m_t8_51_1⟩
set_option maxRecDepth 100000 in
theorem m_t8_52 : ∀ e ∈ m_i52, decode prog_4_method_7_code e.1 = .ok (e.2.1, e.2.2.1) ∧ m_okI 52 e.1 e.2.1 e.2.2.1 e.2.2.2 = true := by decide +kernel
set_option maxRecDepth 100000 in
theorem m_t8_53_0 : ∀ e ∈ m_i53_0, decode prog_4_method_6_code e.1 = .ok (e.2.1, e.2.2.1) ∧ m_okI 53 e.1 e.2.1 e.2.2.1 e.2.2.2 = true := by decide +kernel
set_option maxRecDepth 100000 in
theorem m_t8_53_1 : ∀ e ∈ m_i53_1, decode prog_4_method_6_code e.1 = .ok (e.2.1, e.2.2.1) ∧ m_okI 53 e.1 e.2.1 e.2.2.1 e.2.2.2 = true := by decide +kernel
theorem m_t8_53 : ∀ e ∈ m_i53, decode prog_4_method_6_code e.1 = .ok (e.2.1, e.2.2.1) ∧ m_okI 53 e.1 e.2.1 e.2.2.1 e.2.2.2 = true := List.forall_mem_append.mpr ⟨m_t8_53_0, m_t8_53_1⟩
set_option maxRecDepth 100000 in
theorem m_t8_54 : ∀ e ∈ m_i54, decode prog_14_method_135_code e.1 = .ok (e.2.1, e.2.2.1) ∧ m_okI 54 e.1 e.2.1 e.2.2.1 e.2.2.2 = true := by decide +kernel
set_option maxRecDepth 100000 in
theorem m_t8_55 : ∀ e ∈ m_i55, decode prog_1_method_33_code e.1 = .ok (e.2.1, e.2.2.1) ∧ m_okI 55 e.1 e.2.1 e.2.2.1 e.2.2.2 = true := by decide +kernel
set_option maxRecDepth 100000 in
theorem m_t8_56_0 : ∀ e ∈ m_i56_0, decode prog_14_method_134_code e.1 = .ok (e.2.1, e.2.2.1) ∧ m_okI 56 e.1 e.2.1 e.2.2.1 e.2.2.2 = true := by decide +kernel
set_option maxRecDepth 100000 in
theorem m_t8_56_1 : ∀ e ∈ m_i56_1, decode prog_14_method_134_code e.1 = .ok (e.2.1, e.2.2.1) ∧ m_okI 56 e.1 e.2.1 e.2.2.1 e.2.2.2 = true := by decide +kernel
theorem m_t8_56 : ∀ e ∈ m_i56, decode prog_14_method_134_code e.1 = .ok (e.2.1, e.2.2.1) ∧ m_okI 56 e.1 e.2.1 e.2.2.1 e.2.2.2 = true := List.forall_mem_append.mpr ⟨m_t8_56_0, m_t8_56_1⟩
set_option maxRecDepth 100000 in
theorem m_t8_57 : ∀ e ∈ m_i57, decode prog_14_method_133_code e.1 = .ok (e.2.1, e.2.2.1) ∧ m_okI 57 e.1 e.2.1 e.2.2.1 e.2.2.2 = true := by decide +kernel
set_option maxRecDepth 100000 in
theorem m_t8_58 : ∀ e ∈ m_i58, decode prog_14_method_132_code e.1 = .ok (e.2.1, e.2.2.1) ∧ m_okI 58 e.1 e.2.1 e.2.2.1 e.2.2.2 = true := by decide +kernel
set_option maxRecDepth 100000 in
theorem m_t8_59_0 : ∀ e ∈ m_i59_0, decode prog_1_method_32_code e.1 = .ok (e.2.1, e.2.2.1) ∧ m_okI 59 e.1 e.2.1 e.2.2.1 e.2.2.2 = true := by decide +kernel
set_option maxRecDepth 100000 in
theorem m_t8_59_1 : ∀ e ∈ m_i59_1, decode prog_1_method_32_code e.1 = .ok (e.2.1, e.2.2.1) ∧ m_okI 59 e.1 e.2.1 e.2.2.1 e.2.2.2 = true := by decide +kernel
theorem m_t8_59 : ∀ e ∈ m_i59, decode prog_1_method_32_code e.1 = .ok (e.2.1, e.2.2.1) ∧ m_okI 59 e.1 e.2.1 e.2.2.1 e.2.2.2 = true := List.forall_mem_append.mpr ⟨m_t8_59_0, m_t8_59_1⟩
set_option maxRecDepth 100000 in
theorem m_t8_60 : ∀ e ∈ m_i60, decode prog_10_method_11_code e.1 = .ok (e.2.1, e.2.2.1) ∧ m_okI 60 e.1 e.2.1 e.2.2.1 e.2.2.2 = true := by decide +kernel
set_option maxRecDepth 100000 in
theorem m_t8_61 : ∀ e ∈ m_i61, decode prog_10_method_10_code e.1 = .ok (e.2.1, e.2.2.1) ∧ m_okI 61 e.1 e.2.1 e.2.2.1 e.2.2.2 = true := by decide +kernel
set_option maxRecDepth 100000 in
theorem m_t8_62 : ∀ e ∈ m_i62, decode prog_14_method_131_code e.1 = .ok (e.2.1, e.2.2.1) ∧ m_okI 62 e.1 e.2.1 e.2.2.1 e.2.2.2 = true := by decide +kernel
set_option maxRecDepth 100000 in
theorem m_t8_63 : ∀ e ∈ m_i63, decode prog_14_method_128_code e.1 = .ok (e.2.1, e.2.2.1) ∧ m_okI 63 e.1 e.2.1 e.2.2.1 e.2.2.2 = true := by decide +kernel
set_option maxRecDepth 100000 in
theorem m_t8_64_0 : ∀ e ∈ m_i64_0, decode prog_14_method_129_code e.1 = .ok (e.2.1, e.2.2.1) ∧ m_okI 64 e.1 e.2.1 e.2.2.1 e.2.2.2 = true := by decide +kernel
set_option maxRecDepth 100000 in
theorem m_t8_64_1 : ∀ e ∈ m_i64_1, decode prog_14_method_129_code e.1 = .ok (e.2.1, e.2.2.1) ∧ m_okI 64 e.1 e.2.1 e.2.2.1 e.2.2.2 = true := by decide +kernel
theorem m_t8_64 : ∀ e ∈ m_i64, decode prog_14_method_129_code e.1 = .ok (e.2.1, e.2.2.1) ∧ m_okI 64 e.1 e.2.1 e.2.2.1 e.2.2.2 = true := List.forall_mem_append.mpr ⟨m_t8_64_0, m_t8_64_1⟩
set_option maxRecDepth 100000 in
theorem m_t8_65 : ∀ e ∈ m_i65, decode prog_14_method_127_code e.1 = .ok (e.2.1, e.2.2.1) ∧ m_okI 65 e.1 e.2.1 e.2.2.1 e.2.2.2 = true := by decide +kernel
set_option maxRecDepth 100000 in
theorem m_t8_66 : ∀ e ∈ m_i66, decode prog_14_method_126_code e.1 = .ok (e.2.1, e.2.2.1) ∧ m_okI 66 e.1 e.2.1 e.2.2.1 e.2.2.2 = true := by decide +kernel
set_option maxRecDepth 100000 in
theorem m_t8_67 : ∀ e ∈ m_i67, decode prog_14_method_15_code e.1 = .ok (e.2.1, e.2.2.1) ∧ m_okI 67 e.1 e.2.1 e.2.2.1 e.2.2.2 = true := by decide +kernel
set_option maxRecDepth 100000 in
theorem m_t8_68 : ∀ e ∈ m_i68, decode prog_14_method_130_code e.1 = .ok (e.2.1, e.2.2.1) ∧ m_okI 68 e.1 e.2.1 e.2.2.1 e.2.2.2 = true := by decide +kernel
set_option maxRecDepth 100000 in
theorem m_t8_69 : ∀ e ∈ m_i69, decode prog_1_method_31_code e.1 = .ok (e.2.1, e.2.2.1) ∧ m_okI 69 e.1 e.2.1 e.2.2.1 e.2.2.2 = true := by decide +kernel
set_option maxRecDepth 100000 in
theorem m_t8_70 : ∀ e ∈ m_i70, decode prog_10_method_4_code e.1 = .ok (e.2.1, e.2.2.1) ∧ m_okI 70 e.1 e.2.1 e.2.2.1 e.2.2.2 = true := by decide +kernel
set_option maxRecDepth 100000 in
theorem m_t8_71 : ∀ e ∈ m_i71, decode prog_10_method_5_code e.1 = .ok (e.2.1, e.2.2.1) ∧ m_okI 71 e.1 e.2.1 e.2.2.1 e.2.2.2 = true := by decide +kernel
set_option maxRecDepth 100000 in
theorem m_t8_72 : ∀ e ∈ m_i72, decode prog_10_method_6_code e.1 = .ok (e.2.1, e.2.2.1) ∧ m_okI 72 e.1 e.2.1 e.2.2.1 e.2.2.2 = true := by decide +kernel
set_option maxRecDepth 100000 in
theorem m_t8_73 : ∀ e ∈ m_i73, decode prog_10_method_9_code e.1 = .ok (e.2.1, e.2.2.1) ∧ m_okI 73 e.1 e.2.1 e.2.2.1 e.2.2.2 = true := by decide +kernel
set_option maxRecDepth 100000 in
theorem m_t8_74 : ∀ e ∈ m_i74, decode prog_10_method_7_code e.1 = .ok (e.2.1, e.2.2.1) ∧ m_okI 74 e.1 e.2.1 e.2.2.1 e.2.2.2 = true := by decide +kernel
set_option maxRecDepth 100000 in
theorem m_t8_75 : ∀ e ∈ m_i75, decode prog_10_method_8_code e.1 = .ok (e.2.1, e.2.2.1) ∧ m_okI 75 e.1 e.2.1 e.2.2.1 e.2.2.2 = true := by decide +kernel
set_option maxRecDepth 100000 in
theorem m_t8_76 : ∀ e ∈ m_i76, decode prog_10_method_2_code e.1 = .ok (e.2.1, e.2.2.1) ∧ m_okI 76 e.1 e.2.1 e.2.2.1 e.2.2.2 = true := by decide +kernel
set_option maxRecDepth 100000 in
theorem m_t8_77 : ∀ e ∈ m_i77, decode prog_10_method_3_code e.1 = .ok (e.2.1, e.2.2.1) ∧ m_okI 77 e.1 e.2.1 e.2.2.1 e.2.2.2 = true := by decide +kernel
set_option maxRecDepth 100000 in
theorem m_t8_78 : ∀ e ∈ m_i78, decode prog_1_method_61_code e.1 = .ok (e.2.1, e.2.2.1) ∧ m_okI 78 e.1 e.2.1 e.2.2.1 e.2.2.2 = true := by decide +kernel
set_option maxRecDepth 100000 in
theorem m_t8_79 : ∀ e ∈ m_i79, decode prog_14_method_125_code e.1 = .ok (e.2.1, e.2.2.1) ∧ m_okI 79 e.1 e.2.1 e.2.2.1 e.2.2.2 = true := by decide +kernel
set_option maxRecDepth 100000 in
theorem m_a8_1 : m_all8 40 [m_i40, m_i41, m_i42, m_i43, m_i44, m_i45, m_i46, m_i47, m_i48, m_i49, m_i50, m_i51, m_i52, m_i53, m_i54, m_i55, m_i56, m_i57, m_i58, m_i59, m_i60, m_i61, m_i62, m_i63, m_i64, m_i65, m_i66, m_i67, m_i68, m_i69, m_i70, m_i71, m_i72, m_i73, m_i74, m_i75, m_i76, m_i77, m_i78, m_i79] := ⟨m_t8_40, m_t8_41, m_t8_42, m_t8_43, m_t8_44, m_t8_45, m_t8_46, m_t8_47, m_t8_48, m_t8_49, m_t8_50, m_t8_51, m_t8_52, m_t8_53, m_t8_54, m_t8_55, m_t8_56, m_t8_57, m_t8_58, m_t8_59, m_t8_60, m_t8_61, m_t8_62, m_t8_63, m_t8_64, m_t8_65, m_t8_66, m_t8_67, m_t8_68, m_t8_69, m_t8_70, m_t8_71, m_t8_72, m_t8_73, m_t8_74, m_t8_75, m_t8_76, m_t8_77, m_t8_78, m_t8_79, trivial⟩
