def m_P2 (q : Nat × Nat × Nat × Nat) : Prop := (q.2.2.1 = 9000 → Cond.methodLink (m_cnm q.1) q.2.1 objectInit ∈ m_ws0) ∧ (q.2.2.1 = 9001 → Cond.methodLink (m_cnm q.1) q.2.1 arraycopyName ∈ m_ws0) ∧ (q.2.2.1 < m_ins.length → m_okM q.2.2.1 ∧ (q.2.2.2 = 0 → Cond.methodLink (m_cnm q.1) q.2.1 (m_Y q.2.2.1) ∈ m_ws0) ∧ (q.2.2.2 ≠ 0 → m_KD q.2.2.1 = 0 ∧ (m_cnm q.1, q.2.1, m_Y q.2.2.1) ∈ m_nests))
theorem m_P2a {c i : Nat} (h : Cond.methodLink (m_cnm c) i objectInit ∈ m_ws0) : m_P2 (c, i, 9000, 0) := ⟨fun _ => h, fun z => absurd z (show ¬ (9000 : Nat) = 9001 by decide), fun z => absurd z (show ¬ 9000 < m_ins.length by decide +kernel)⟩
theorem m_P2b {c i : Nat} (h : Cond.methodLink (m_cnm c) i arraycopyName ∈ m_ws0) : m_P2 (c, i, 9001, 0) := ⟨fun z => absurd z (show ¬ (9001 : Nat) = 9000 by decide), fun _ => h, fun z => absurd z (show ¬ 9001 < m_ins.length by decide +kernel)⟩
theorem m_P2c {c i k : Nat} (hk : Nat.blt k 9000 = true) (hM : m_okM k) (h : Cond.methodLink (m_cnm c) i (m_Y k) ∈ m_ws0) : m_P2 (c, i, k, 0) := by
  have hk : k < 9000 := Nat.blt_eq.mp hk
  exact ⟨fun z => by dsimp only at z; omega, fun z => by dsimp only at z; omega, fun _ => ⟨hM, fun _ => h, fun z => absurd rfl z⟩⟩
theorem m_P2d {c i k : Nat} (hk : Nat.blt k 9000 = true) (hM : m_okM k) (h : m_KD k = 0 ∧ (m_cnm c, i, m_Y k) ∈ m_nests) : m_P2 (c, i, k, 1) := by
  have hk : k < 9000 := Nat.blt_eq.mp hk
  exact ⟨fun z => by dsimp only at z; omega, fun z => by dsimp only at z; omega, fun _ => ⟨hM, fun z => by dsimp only at z; omega, fun _ => h⟩⟩
set_option maxRecDepth 100000 in
theorem m_l2_0 : m_P2 (0, 9, 359, 0) := m_P2c rfl m_ok_359 (m_in1 (i := 24) rfl rfl)
set_option maxRecDepth 100000 in
theorem m_l2_1 : m_P2 (0, 12, 357, 0) := m_P2c rfl m_ok_357 (m_in6 (i := 54) rfl rfl)
set_option maxRecDepth 100000 in
theorem m_l2_2 : m_P2 (0, 13, 353, 0) := m_P2c rfl m_ok_353 (m_in2 (i := 84) rfl rfl)
set_option maxRecDepth 100000 in
theorem m_l2_3 : m_P2 (0, 17, 351, 0) := m_P2c rfl m_ok_351 (m_in6 (i := 172) rfl rfl)
set_option maxRecDepth 100000 in
theorem m_l2_4 : m_P2 (0, 18, 348, 0) := m_P2c rfl m_ok_348 (m_in2 (i := 99) rfl rfl)
set_option maxRecDepth 100000 in
theorem m_l2_5 : m_P2 (0, 22, 346, 0) := m_P2c rfl m_ok_346 (m_in6 (i := 179) rfl rfl)
set_option maxRecDepth 100000 in
theorem m_l2_6 : m_P2 (0, 23, 345, 0) := m_P2c rfl m_ok_345 (m_in2 (i := 111) rfl rfl)
set_option maxRecDepth 100000 in
theorem m_l2_7 : m_P2 (0, 27, 344, 0) := m_P2c rfl m_ok_344 (m_in6 (i := 187) rfl rfl)
set_option maxRecDepth 100000 in
theorem m_l2_8 : m_P2 (0, 28, 291, 0) := m_P2c rfl m_ok_291 (m_in2 (i := 116) rfl rfl)
set_option maxRecDepth 100000 in
theorem m_l2_9 : m_P2 (0, 32, 250, 0) := m_P2c rfl m_ok_250 (m_in6 (i := 191) rfl rfl)
set_option maxRecDepth 100000 in
theorem m_l2_10 : m_P2 (0, 33, 249, 0) := m_P2c rfl m_ok_249 (m_in3 (i := 145) rfl rfl)
set_option maxRecDepth 100000 in
theorem m_l2_11 : m_P2 (0, 36, 248, 0) := m_P2c rfl m_ok_248 (m_in7 (i := 107) rfl rfl)
set_option maxRecDepth 100000 in
theorem m_l2_12 : m_P2 (0, 37, 246, 0) := m_P2c rfl m_ok_246 (m_in3 (i := 149) rfl rfl)
set_option maxRecDepth 100000 in
theorem m_l2_13 : m_P2 (0, 41, 245, 0) := m_P2c rfl m_ok_245 (m_in7 (i := 111) rfl rfl)
set_option maxRecDepth 100000 in
theorem m_l2_14 : m_P2 (0, 42, 237, 0) := m_P2c rfl m_ok_237 (m_in3 (i := 157) rfl rfl)
set_option maxRecDepth 100000 in
theorem m_l2_15 : m_P2 (0, 45, 231, 0) := m_P2c rfl m_ok_231 (m_in7 (i := 119) rfl rfl)
set_option maxRecDepth 100000 in
theorem m_l2_16 : m_P2 (0, 46, 226, 0) := m_P2c rfl m_ok_226 (m_in3 (i := 189) rfl rfl)
set_option maxRecDepth 100000 in
theorem m_l2_17 : m_P2 (0, 49, 220, 0) := m_P2c rfl m_ok_220 (m_in7 (i := 143) rfl rfl)
set_option maxRecDepth 100000 in
theorem m_l2_18 : m_P2 (0, 50, 217, 0) := m_P2c rfl m_ok_217 (m_in3 (i := 210) rfl rfl)
set_option maxRecDepth 100000 in
theorem m_l2_19 : m_P2 (0, 54, 214, 0) := m_P2c rfl m_ok_214 (m_in7 (i := 166) rfl rfl)
set_option maxRecDepth 100000 in
theorem m_l2_20 : m_P2 (0, 55, 212, 0) := m_P2c rfl m_ok_212 (m_in3 (i := 222) rfl rfl)
set_option maxRecDepth 100000 in
theorem m_l2_21 : m_P2 (0, 58, 211, 0) := m_P2c rfl m_ok_211 (m_in7 (i := 178) rfl rfl)
set_option maxRecDepth 100000 in
theorem m_l2_22 : m_P2 (0, 59, 209, 0) := m_P2c rfl m_ok_209 (m_in3 (i := 230) rfl rfl)
set_option maxRecDepth 100000 in
theorem m_l2_23 : m_P2 (0, 62, 208, 0) := m_P2c rfl m_ok_208 (m_in7 (i := 182) rfl rfl)
set_option maxRecDepth 100000 in
theorem m_l2_24 : m_P2 (0, 63, 183, 0) := m_P2c rfl m_ok_183 (m_in3 (i := 238) rfl rfl)
set_option maxRecDepth 100000 in
theorem m_l2_25 : m_P2 (0, 66, 168, 0) := m_P2c rfl m_ok_168 (m_in7 (i := 186) rfl rfl)
set_option maxRecDepth 100000 in
theorem m_l2_26 : m_P2 (0, 67, 166, 0) := m_P2c rfl m_ok_166 (m_in4 (i := 97) rfl rfl)
set_option maxRecDepth 100000 in
theorem m_l2_27 : m_P2 (0, 70, 165, 0) := m_P2c rfl m_ok_165 (m_in8 (i := 3) rfl rfl)
set_option maxRecDepth 100000 in
theorem m_l2_28 : m_P2 (0, 71, 159, 0) := m_P2c rfl m_ok_159 (m_in4 (i := 105) rfl rfl)
set_option maxRecDepth 100000 in
theorem m_l2_29 : m_P2 (0, 74, 149, 0) := m_P2c rfl m_ok_149 (m_in8 (i := 7) rfl rfl)
set_option maxRecDepth 100000 in
theorem m_l2_30 : m_P2 (0, 75, 145, 0) := m_P2c rfl m_ok_145 (m_in4 (i := 132) rfl rfl)
set_option maxRecDepth 100000 in
theorem m_l2_31 : m_P2 (0, 78, 143, 0) := m_P2c rfl m_ok_143 (m_in8 (i := 50) rfl rfl)
set_option maxRecDepth 100000 in
theorem m_l2_32 : m_P2 (0, 79, 139, 0) := m_P2c rfl m_ok_139 (m_in4 (i := 158) rfl rfl)
set_option maxRecDepth 100000 in
theorem m_l2_33 : m_P2 (0, 82, 137, 0) := m_P2c rfl m_ok_137 (m_in8 (i := 65) rfl rfl)
set_option maxRecDepth 100000 in
theorem m_l2_34 : m_P2 (0, 83, 134, 0) := m_P2c rfl m_ok_134 (m_in4 (i := 175) rfl rfl)
set_option maxRecDepth 100000 in
theorem m_l2_35 : m_P2 (0, 86, 133, 0) := m_P2c rfl m_ok_133 (m_in7 (i := 115) rfl rfl)
set_option maxRecDepth 100000 in
theorem m_l2_36 : m_P2 (0, 87, 131, 0) := m_P2c rfl m_ok_131 (m_in4 (i := 187) rfl rfl)
set_option maxRecDepth 100000 in
theorem m_l2_37 : m_P2 (0, 90, 129, 0) := m_P2c rfl m_ok_129 (m_in8 (i := 73) rfl rfl)
set_option maxRecDepth 100000 in
theorem m_l2_38 : m_P2 (0, 91, 128, 0) := m_P2c rfl m_ok_128 (m_in4 (i := 201) rfl rfl)
set_option maxRecDepth 100000 in
theorem m_l2_39 : m_P2 (0, 94, 127, 0) := m_P2c rfl m_ok_127 (m_in8 (i := 82) rfl rfl)
set_option maxRecDepth 100000 in
theorem m_l2_40 : m_P2 (0, 95, 126, 0) := m_P2c rfl m_ok_126 (m_in4 (i := 206) rfl rfl)
set_option maxRecDepth 100000 in
theorem m_l2_41 : m_P2 (0, 98, 125, 0) := m_P2c rfl m_ok_125 (m_in8 (i := 86) rfl rfl)
set_option maxRecDepth 100000 in
theorem m_l2_42 : m_P2 (0, 99, 120, 0) := m_P2c rfl m_ok_120 (m_in4 (i := 210) rfl rfl)
set_option maxRecDepth 100000 in
theorem m_l2_43 : m_P2 (0, 102, 117, 0) := m_P2c rfl m_ok_117 (m_in8 (i := 90) rfl rfl)
set_option maxRecDepth 100000 in
theorem m_l2_44 : m_P2 (0, 103, 115, 0) := m_P2c rfl m_ok_115 (m_in4 (i := 230) rfl rfl)
set_option maxRecDepth 100000 in
theorem m_l2_45 : m_P2 (0, 107, 112, 0) := m_P2c rfl m_ok_112 (m_in8 (i := 122) rfl rfl)
set_option maxRecDepth 100000 in
theorem m_l2_46 : m_P2 (0, 108, 111, 0) := m_P2c rfl m_ok_111 (m_in4 (i := 238) rfl rfl)
set_option maxRecDepth 100000 in
theorem m_l2_47 : m_P2 (0, 111, 110, 0) := m_P2c rfl m_ok_110 (m_in8 (i := 134) rfl rfl)
set_option maxRecDepth 100000 in
theorem m_l2_48 : m_P2 (0, 112, 109, 0) := m_P2c rfl m_ok_109 (m_in5 (i := 2) rfl rfl)
set_option maxRecDepth 100000 in
theorem m_l2_49 : m_P2 (0, 115, 108, 0) := m_P2c rfl m_ok_108 (m_in8 (i := 118) rfl rfl)
set_option maxRecDepth 100000 in
theorem m_l2_50 : m_P2 (0, 116, 106, 0) := m_P2c rfl m_ok_106 (m_in5 (i := 6) rfl rfl)
set_option maxRecDepth 100000 in
theorem m_l2_51 : m_P2 (0, 119, 105, 0) := m_P2c rfl m_ok_105 (m_in8 (i := 138) rfl rfl)
set_option maxRecDepth 100000 in
theorem m_l2_52 : m_P2 (0, 120, 98, 0) := m_P2c rfl m_ok_98 (m_in5 (i := 14) rfl rfl)
set_option maxRecDepth 100000 in
theorem m_l2_53 : m_P2 (0, 123, 95, 0) := m_P2c rfl m_ok_95 (m_in8 (i := 142) rfl rfl)
set_option maxRecDepth 100000 in
theorem m_l2_54 : m_P2 (0, 124, 92, 0) := m_P2c rfl m_ok_92 (m_in5 (i := 46) rfl rfl)
set_option maxRecDepth 100000 in
theorem m_l2_55 : m_P2 (0, 127, 90, 0) := m_P2c rfl m_ok_90 (m_in8 (i := 154) rfl rfl)
set_option maxRecDepth 100000 in
theorem m_l2_56 : m_P2 (0, 128, 88, 0) := m_P2c rfl m_ok_88 (m_in5 (i := 59) rfl rfl)
set_option maxRecDepth 100000 in
theorem m_l2_57 : m_P2 (0, 131, 87, 0) := m_P2c rfl m_ok_87 (m_in8 (i := 161) rfl rfl)
set_option maxRecDepth 100000 in
theorem m_l2_58 : m_P2 (0, 132, 82, 0) := m_P2c rfl m_ok_82 (m_in5 (i := 68) rfl rfl)
set_option maxRecDepth 100000 in
theorem m_l2_59 : m_P2 (0, 136, 79, 0) := m_P2c rfl m_ok_79 (m_in8 (i := 165) rfl rfl)
set_option maxRecDepth 100000 in
theorem m_l2_60 : m_P2 (0, 137, 69, 0) := m_P2c rfl m_ok_69 (m_in5 (i := 92) rfl rfl)
set_option maxRecDepth 100000 in
theorem m_l2_61 : m_P2 (0, 140, 62, 0) := m_P2c rfl m_ok_62 (m_in8 (i := 177) rfl rfl)
set_option maxRecDepth 100000 in
theorem m_l2_62 : m_P2 (0, 141, 59, 0) := m_P2c rfl m_ok_59 (m_in5 (i := 134) rfl rfl)
set_option maxRecDepth 100000 in
theorem m_l2_63 : m_P2 (0, 145, 56, 0) := m_P2c rfl m_ok_56 (m_in8 (i := 205) rfl rfl)
set_option maxRecDepth 100000 in
theorem m_l2_64 : m_P2 (0, 146, 55, 0) := m_P2c rfl m_ok_55 (m_in5 (i := 148) rfl rfl)
set_option maxRecDepth 100000 in
theorem m_l2_65 : m_P2 (0, 149, 54, 0) := m_P2c rfl m_ok_54 (m_in8 (i := 217) rfl rfl)
set_option maxRecDepth 100000 in
theorem m_l2_66 : m_P2 (0, 150, 50, 0) := m_P2c rfl m_ok_50 (m_in5 (i := 152) rfl rfl)
set_option maxRecDepth 100000 in
theorem m_l2_67 : m_P2 (0, 154, 48, 0) := m_P2c rfl m_ok_48 (m_in8 (i := 221) rfl rfl)
set_option maxRecDepth 100000 in
theorem m_l2_68 : m_P2 (0, 155, 45, 0) := m_P2c rfl m_ok_45 (m_in5 (i := 169) rfl rfl)
set_option maxRecDepth 100000 in
theorem m_l2_69 : m_P2 (0, 158, 43, 0) := m_P2c rfl m_ok_43 (m_in8 (i := 231) rfl rfl)
set_option maxRecDepth 100000 in
theorem m_l2_70 : m_P2 (0, 159, 42, 0) := m_P2c rfl m_ok_42 (m_in5 (i := 184) rfl rfl)
set_option maxRecDepth 100000 in
theorem m_l2_71 : m_P2 (0, 162, 41, 0) := m_P2c rfl m_ok_41 (m_in8 (i := 239) rfl rfl)
set_option maxRecDepth 100000 in
theorem m_l2_72 : m_P2 (0, 163, 37, 0) := m_P2c rfl m_ok_37 (m_in5 (i := 188) rfl rfl)
set_option maxRecDepth 100000 in
theorem m_l2_73 : m_P2 (0, 166, 34, 0) := m_P2c rfl m_ok_34 (m_in9 (i := 3) rfl rfl)
set_option maxRecDepth 100000 in
theorem m_l2_74 : m_P2 (0, 167, 32, 0) := m_P2c rfl m_ok_32 (m_in5 (i := 206) rfl rfl)
set_option maxRecDepth 100000 in
theorem m_l2_75 : m_P2 (0, 171, 31, 0) := m_P2c rfl m_ok_31 (m_in9 (i := 15) rfl rfl)
set_option maxRecDepth 100000 in
theorem m_l2_76 : m_P2 (0, 172, 27, 0) := m_P2c rfl m_ok_27 (m_in5 (i := 214) rfl rfl)
set_option maxRecDepth 100000 in
theorem m_l2_77 : m_P2 (0, 175, 25, 0) := m_P2c rfl m_ok_25 (m_in9 (i := 20) rfl rfl)
set_option maxRecDepth 100000 in
theorem m_l2_78 : m_P2 (0, 176, 23, 0) := m_P2c rfl m_ok_23 (m_in5 (i := 231) rfl rfl)
set_option maxRecDepth 100000 in
theorem m_l2_79 : m_P2 (0, 179, 22, 0) := m_P2c rfl m_ok_22 (m_in8 (i := 114) rfl rfl)
set_option maxRecDepth 100000 in
theorem m_l2_80 : m_P2 (0, 180, 21, 0) := m_P2c rfl m_ok_21 (m_in5 (i := 239) rfl rfl)
set_option maxRecDepth 100000 in
theorem m_l2_81 : m_P2 (0, 183, 20, 0) := m_P2c rfl m_ok_20 (m_in9 (i := 28) rfl rfl)
set_option maxRecDepth 100000 in
theorem m_l2_82 : m_P2 (0, 184, 18, 0) := m_P2c rfl m_ok_18 (m_in6 (i := 3) rfl rfl)
set_option maxRecDepth 100000 in
theorem m_l2_83 : m_P2 (0, 187, 17, 0) := m_P2c rfl m_ok_17 (m_in9 (i := 32) rfl rfl)
set_option maxRecDepth 100000 in
theorem m_l2_84 : m_P2 (0, 188, 16, 0) := m_P2c rfl m_ok_16 (m_in6 (i := 11) rfl rfl)
set_option maxRecDepth 100000 in
theorem m_l2_85 : m_P2 (0, 191, 15, 0) := m_P2c rfl m_ok_15 (m_in8 (i := 102) rfl rfl)
set_option maxRecDepth 100000 in
theorem m_l2_86 : m_P2 (0, 192, 13, 0) := m_P2c rfl m_ok_13 (m_in6 (i := 15) rfl rfl)
set_option maxRecDepth 100000 in
theorem m_l2_87 : m_P2 (0, 195, 12, 0) := m_P2c rfl m_ok_12 (m_in8 (i := 106) rfl rfl)
set_option maxRecDepth 100000 in
theorem m_l2_88 : m_P2 (0, 196, 11, 0) := m_P2c rfl m_ok_11 (m_in6 (i := 23) rfl rfl)
set_option maxRecDepth 100000 in
theorem m_l2_89 : m_P2 (0, 199, 10, 0) := m_P2c rfl m_ok_10 (m_in8 (i := 110) rfl rfl)
set_option maxRecDepth 100000 in
theorem m_l2_90 : m_P2 (0, 200, 6, 0) := m_P2c rfl m_ok_6 (m_in6 (i := 27) rfl rfl)
set_option maxRecDepth 100000 in
theorem m_l2_91 : m_P2 (0, 203, 5, 0) := m_P2c rfl m_ok_5 (m_in9 (i := 36) rfl rfl)
set_option maxRecDepth 100000 in
theorem m_l2_92 : m_P2 (0, 204, 4, 0) := m_P2c rfl m_ok_4 (m_in6 (i := 44) rfl rfl)
set_option maxRecDepth 100000 in
theorem m_l2_93 : m_P2 (0, 207, 3, 0) := m_P2c rfl m_ok_3 (m_in9 (i := 40) rfl rfl)
set_option maxRecDepth 100000 in
theorem m_l2_94 : m_P2 (0, 208, 2, 0) := m_P2c rfl m_ok_2 (m_in6 (i := 48) rfl rfl)
set_option maxRecDepth 100000 in
theorem m_l2_95 : m_P2 (0, 211, 1, 0) := m_P2c rfl m_ok_1 (m_in9 (i := 44) rfl rfl)
set_option maxRecDepth 100000 in
theorem m_l2_96 : m_P2 (1, 81, 352, 0) := m_P2c rfl m_ok_352 (m_in6 (i := 176) rfl rfl)
set_option maxRecDepth 100000 in
theorem m_l2_97 : m_P2 (1, 77, 358, 0) := m_P2c rfl m_ok_358 (m_in6 (i := 58) rfl rfl)
set_option maxRecDepth 100000 in
theorem m_l2_98 : m_P2 (2, 245, 116, 0) := m_P2c rfl m_ok_116 (m_in4 (i := 234) rfl rfl)
set_option maxRecDepth 100000 in
theorem m_l2_99 : m_P2 (2, 383, 9, 0) := m_P2c rfl m_ok_9 (m_in6 (i := 31) rfl rfl)
set_option maxRecDepth 100000 in
theorem m_l2_100 : m_P2 (2, 386, 7, 0) := m_P2c rfl m_ok_7 (m_in6 (i := 35) rfl rfl)
set_option maxRecDepth 100000 in
theorem m_l2_101 : m_P2 (3, 46, 8, 0) := m_P2c rfl m_ok_8 (m_in6 (i := 39) rfl rfl)
set_option maxRecDepth 100000 in
theorem m_l2_102 : m_P2 (4, 23, 103, 0) := m_P2c rfl m_ok_103 (m_in6 (i := 43) rfl rfl)
set_option maxRecDepth 100000 in
theorem m_l2_103 : m_P2 (5, 35, 9001, 0) := m_P2b (m_in3 (i := 168) rfl rfl)
set_option maxRecDepth 100000 in
theorem m_l2_104 : m_P2 (2, 212, 241, 0) := m_P2c rfl m_ok_241 (m_in4 (i := 193) rfl rfl)
set_option maxRecDepth 100000 in
theorem m_l2_105 : m_P2 (1, 89, 223, 0) := m_P2c rfl m_ok_223 (m_in7 (i := 151) rfl rfl)
set_option maxRecDepth 100000 in
theorem m_l2_106 : m_P2 (1, 85, 224, 0) := m_P2c rfl m_ok_224 (m_in7 (i := 155) rfl rfl)
set_option maxRecDepth 100000 in
theorem m_l2_107 : m_P2 (2, 380, 14, 0) := m_P2c rfl m_ok_14 (m_in6 (i := 19) rfl rfl)
set_option maxRecDepth 100000 in
theorem m_l2_108 : m_P2 (6, 44, 228, 0) := m_P2c rfl m_ok_228 (m_in3 (i := 197) rfl rfl)
set_option maxRecDepth 100000 in
theorem m_l2_109 : m_P2 (6, 25, 241, 0) := m_P2c rfl m_ok_241 (m_in3 (i := 177) rfl rfl)
set_option maxRecDepth 100000 in
theorem m_l2_110 : m_P2 (1, 352, 236, 0) := m_P2c rfl m_ok_236 (m_in7 (i := 127) rfl rfl)
set_option maxRecDepth 100000 in
theorem m_l2_111 : m_P2 (1, 426, 119, 0) := m_P2c rfl m_ok_119 (m_in8 (i := 94) rfl rfl)
set_option maxRecDepth 100000 in
theorem m_l2_112 : m_P2 (1, 429, 118, 0) := m_P2c rfl m_ok_118 (m_in8 (i := 98) rfl rfl)
set_option maxRecDepth 100000 in
theorem m_l2_113 : m_P2 (2, 208, 242, 0) := m_P2c rfl m_ok_242 (m_in4 (i := 191) rfl rfl)
set_option maxRecDepth 100000 in
theorem m_l2_114 : m_P2 (2, 239, 122, 0) := m_P2c rfl m_ok_122 (m_in4 (i := 222) rfl rfl)
set_option maxRecDepth 100000 in
theorem m_l2_115 : m_P2 (2, 242, 121, 0) := m_P2c rfl m_ok_121 (m_in4 (i := 226) rfl rfl)
set_option maxRecDepth 100000 in
theorem m_l2_116 : m_P2 (1, 365, 225, 0) := m_P2c rfl m_ok_225 (m_in7 (i := 147) rfl rfl)
set_option maxRecDepth 100000 in
theorem m_l2_117 : m_P2 (1, 342, 153, 0) := m_P2c rfl m_ok_153 (m_in8 (i := 39) rfl rfl)
set_option maxRecDepth 100000 in
theorem m_l2_118 : m_P2 (2, 177, 207, 0) := m_P2c rfl m_ok_207 (m_in4 (i := 6) rfl rfl)
set_option maxRecDepth 100000 in
theorem m_l2_119 : m_P2 (2, 376, 19, 0) := m_P2c rfl m_ok_19 (m_in6 (i := 7) rfl rfl)
set_option maxRecDepth 100000 in
theorem m_l2_120 : m_P2 (2, 276, 103, 0) := m_P2c rfl m_ok_103 (m_in5 (i := 45) rfl rfl)
set_option maxRecDepth 100000 in
theorem m_l2_121 : m_P2 (2, 230, 230, 0) := m_P2c rfl m_ok_230 (m_in4 (i := 205) rfl rfl)
set_option maxRecDepth 100000 in
theorem m_l2_122 : m_P2 (2, 223, 185, 0) := m_P2c rfl m_ok_185 (m_in4 (i := 196) rfl rfl)
set_option maxRecDepth 100000 in
theorem m_l2_123 : m_P2 (2, 342, 104, 0) := m_P2c rfl m_ok_104 (m_in5 (i := 66) rfl rfl)
set_option maxRecDepth 100000 in
theorem m_l2_124 : m_P2 (2, 100, 356, 0) := m_P2c rfl m_ok_356 (m_in2 (i := 115) rfl rfl)
set_option maxRecDepth 100000 in
theorem m_l2_125 : m_P2 (2, 348, 367, 0) := m_P2c rfl m_ok_367 (m_in5 (i := 67) rfl rfl)
set_option maxRecDepth 100000 in
theorem m_l2_126 : m_P2 (2, 367, 24, 0) := m_P2c rfl m_ok_24 (m_in5 (i := 235) rfl rfl)
set_option maxRecDepth 100000 in
theorem m_l2_127 : m_P2 (6, 29, 229, 0) := m_P2c rfl m_ok_229 (m_in3 (i := 201) rfl rfl)
set_option maxRecDepth 100000 in
theorem m_l2_128 : m_P2 (1, 444, 81, 0) := m_P2c rfl m_ok_81 (m_in8 (i := 173) rfl rfl)
set_option maxRecDepth 100000 in
theorem m_l2_129 : m_P2 (1, 500, 26, 0) := m_P2c rfl m_ok_26 (m_in9 (i := 24) rfl rfl)
set_option maxRecDepth 100000 in
theorem m_l2_130 : m_P2 (1, 264, 278, 0) := m_P2c rfl m_ok_278 (m_in7 (i := 5) rfl rfl)
set_option maxRecDepth 100000 in
theorem m_l2_131 : m_P2 (2, 363, 28, 0) := m_P2c rfl m_ok_28 (m_in5 (i := 218) rfl rfl)
set_option maxRecDepth 100000 in
theorem m_l2_132 : m_P2 (7, 66, 229, 0) := m_P2c rfl m_ok_229 (m_in5 (i := 222) rfl rfl)
set_option maxRecDepth 100000 in
theorem m_l2_133 : m_P2 (7, 33, 241, 0) := m_P2c rfl m_ok_241 (m_in5 (i := 27) rfl rfl)
set_option maxRecDepth 100000 in
theorem m_l2_134 : m_P2 (7, 70, 29, 0) := m_P2c rfl m_ok_29 (m_in5 (i := 223) rfl rfl)
set_option maxRecDepth 100000 in
theorem m_l2_135 : m_P2 (7, 74, 30, 0) := m_P2c rfl m_ok_30 (m_in5 (i := 227) rfl rfl)
set_option maxRecDepth 100000 in
theorem m_l2_136 : m_P2 (1, 291, 179, 0) := m_P2c rfl m_ok_179 (m_in7 (i := 218) rfl rfl)
set_option maxRecDepth 100000 in
theorem m_l2_137 : m_P2 (2, 359, 33, 0) := m_P2c rfl m_ok_33 (m_in5 (i := 210) rfl rfl)
set_option maxRecDepth 100000 in
theorem m_l2_138 : m_P2 (8, 65, 52, 0) := m_P2c rfl m_ok_52 (m_in5 (i := 164) rfl rfl)
set_option maxRecDepth 100000 in
theorem m_l2_139 : m_P2 (1, 495, 35, 0) := m_P2c rfl m_ok_35 (m_in9 (i := 7) rfl rfl)
set_option maxRecDepth 100000 in
theorem m_l2_140 : m_P2 (1, 492, 36, 0) := m_P2c rfl m_ok_36 (m_in9 (i := 11) rfl rfl)
set_option maxRecDepth 100000 in
theorem m_l2_141 : m_P2 (1, 93, 91, 0) := m_P2c rfl m_ok_91 (m_in8 (i := 158) rfl rfl)
set_option maxRecDepth 100000 in
theorem m_l2_142 : m_P2 (2, 351, 39, 0) := m_P2c rfl m_ok_39 (m_in5 (i := 192) rfl rfl)
set_option maxRecDepth 100000 in
theorem m_l2_143 : m_P2 (2, 355, 38, 0) := m_P2c rfl m_ok_38 (m_in5 (i := 201) rfl rfl)
set_option maxRecDepth 100000 in
theorem m_l2_144 : m_P2 (8, 90, 39, 0) := m_P2c rfl m_ok_39 (m_in5 (i := 205) rfl rfl)
set_option maxRecDepth 100000 in
theorem m_l2_145 : m_P2 (8, 32, 86, 0) := m_P2c rfl m_ok_86 (m_in5 (i := 80) rfl rfl)
set_option maxRecDepth 100000 in
theorem m_l2_146 : m_P2 (8, 78, 40, 0) := m_P2c rfl m_ok_40 (m_in5 (i := 196) rfl rfl)
set_option maxRecDepth 100000 in
theorem m_l2_147 : m_P2 (8, 43, 103, 0) := m_P2c rfl m_ok_103 (m_in5 (i := 86) rfl rfl)
set_option maxRecDepth 100000 in
theorem m_l2_148 : m_P2 (8, 85, 93, 0) := m_P2c rfl m_ok_93 (m_in5 (i := 200) rfl rfl)
set_option maxRecDepth 100000 in
theorem m_l2_149 : m_P2 (1, 489, 44, 0) := m_P2c rfl m_ok_44 (m_in8 (i := 235) rfl rfl)
set_option maxRecDepth 100000 in
theorem m_l2_150 : m_P2 (2, 330, 229, 0) := m_P2c rfl m_ok_229 (m_in5 (i := 173) rfl rfl)
set_option maxRecDepth 100000 in
theorem m_l2_151 : m_P2 (2, 333, 46, 0) := m_P2c rfl m_ok_46 (m_in5 (i := 174) rfl rfl)
set_option maxRecDepth 100000 in
theorem m_l2_152 : m_P2 (2, 336, 47, 0) := m_P2c rfl m_ok_47 (m_in5 (i := 183) rfl rfl)
set_option maxRecDepth 100000 in
theorem m_l2_153 : m_P2 (6, 62, 47, 0) := m_P2c rfl m_ok_47 (m_in5 (i := 178) rfl rfl)
set_option maxRecDepth 100000 in
theorem m_l2_154 : m_P2 (6, 59, 330, 0) := m_P2c rfl m_ok_330 (m_in5 (i := 182) rfl rfl)
set_option maxRecDepth 100000 in
theorem m_l2_155 : m_P2 (1, 485, 49, 0) := m_P2c rfl m_ok_49 (m_in8 (i := 226) rfl rfl)
set_option maxRecDepth 100000 in
theorem m_l2_156 : m_P2 (2, 320, 51, 0) := m_P2c rfl m_ok_51 (m_in5 (i := 156) rfl rfl)
set_option maxRecDepth 100000 in
theorem m_l2_157 : m_P2 (8, 55, 53, 0) := m_P2c rfl m_ok_53 (m_in5 (i := 160) rfl rfl)
set_option maxRecDepth 100000 in
theorem m_l2_158 : m_P2 (8, 49, 369, 0) := m_P2c rfl m_ok_369 (m_in5 (i := 91) rfl rfl)
set_option maxRecDepth 100000 in
theorem m_l2_159 : m_P2 (8, 69, 189, 1) := m_P2d rfl m_ok_189 ⟨rfl, List.mem_of_getElem? (i := 3) rfl⟩
set_option maxRecDepth 100000 in
theorem m_l2_160 : m_P2 (2, 285, 89, 0) := m_P2c rfl m_ok_89 (m_in5 (i := 63) rfl rfl)
set_option maxRecDepth 100000 in
theorem m_l2_161 : m_P2 (1, 463, 68, 0) := m_P2c rfl m_ok_68 (m_in8 (i := 181) rfl rfl)
set_option maxRecDepth 100000 in
theorem m_l2_162 : m_P2 (1, 469, 58, 0) := m_P2c rfl m_ok_58 (m_in8 (i := 209) rfl rfl)
set_option maxRecDepth 100000 in
theorem m_l2_163 : m_P2 (1, 472, 57, 0) := m_P2c rfl m_ok_57 (m_in8 (i := 213) rfl rfl)
set_option maxRecDepth 100000 in
theorem m_l2_164 : m_P2 (1, 454, 66, 0) := m_P2c rfl m_ok_66 (m_in8 (i := 197) rfl rfl)
set_option maxRecDepth 100000 in
theorem m_l2_165 : m_P2 (2, 296, 78, 0) := m_P2c rfl m_ok_78 (m_in5 (i := 96) rfl rfl)
set_option maxRecDepth 100000 in
theorem m_l2_166 : m_P2 (2, 306, 77, 0) := m_P2c rfl m_ok_77 (m_in5 (i := 138) rfl rfl)
set_option maxRecDepth 100000 in
theorem m_l2_167 : m_P2 (2, 309, 61, 0) := m_P2c rfl m_ok_61 (m_in5 (i := 139) rfl rfl)
set_option maxRecDepth 100000 in
theorem m_l2_168 : m_P2 (2, 313, 60, 0) := m_P2c rfl m_ok_60 (m_in5 (i := 144) rfl rfl)
set_option maxRecDepth 100000 in
theorem m_l2_169 : m_P2 (9, 21, 76, 0) := m_P2c rfl m_ok_76 (m_in5 (i := 108) rfl rfl)
set_option maxRecDepth 100000 in
theorem m_l2_170 : m_P2 (9, 33, 73, 0) := m_P2c rfl m_ok_73 (m_in5 (i := 125) rfl rfl)
set_option maxRecDepth 100000 in
theorem m_l2_171 : m_P2 (9, 58, 242, 0) := m_P2c rfl m_ok_242 (m_in5 (i := 143) rfl rfl)
set_option maxRecDepth 100000 in
theorem m_l2_172 : m_P2 (1, 466, 63, 0) := m_P2c rfl m_ok_63 (m_in8 (i := 185) rfl rfl)
set_option maxRecDepth 100000 in
theorem m_l2_173 : m_P2 (1, 457, 64, 0) := m_P2c rfl m_ok_64 (m_in8 (i := 189) rfl rfl)
set_option maxRecDepth 100000 in
theorem m_l2_174 : m_P2 (1, 460, 65, 0) := m_P2c rfl m_ok_65 (m_in8 (i := 193) rfl rfl)
set_option maxRecDepth 100000 in
theorem m_l2_175 : m_P2 (1, 451, 67, 0) := m_P2c rfl m_ok_67 (m_in8 (i := 201) rfl rfl)
set_option maxRecDepth 100000 in
theorem m_l2_176 : m_P2 (2, 299, 70, 0) := m_P2c rfl m_ok_70 (m_in5 (i := 100) rfl rfl)
set_option maxRecDepth 100000 in
theorem m_l2_177 : m_P2 (2, 303, 76, 0) := m_P2c rfl m_ok_76 (m_in5 (i := 133) rfl rfl)
set_option maxRecDepth 100000 in
theorem m_l2_178 : m_P2 (9, 18, 77, 0) := m_P2c rfl m_ok_77 (m_in5 (i := 104) rfl rfl)
set_option maxRecDepth 100000 in
theorem m_l2_179 : m_P2 (9, 25, 71, 0) := m_P2c rfl m_ok_71 (m_in5 (i := 112) rfl rfl)
set_option maxRecDepth 100000 in
theorem m_l2_180 : m_P2 (9, 29, 74, 0) := m_P2c rfl m_ok_74 (m_in5 (i := 116) rfl rfl)
set_option maxRecDepth 100000 in
theorem m_l2_181 : m_P2 (9, 36, 72, 0) := m_P2c rfl m_ok_72 (m_in5 (i := 129) rfl rfl)
set_option maxRecDepth 100000 in
theorem m_l2_182 : m_P2 (9, 45, 75, 0) := m_P2c rfl m_ok_75 (m_in5 (i := 120) rfl rfl)
set_option maxRecDepth 100000 in
theorem m_l2_183 : m_P2 (9, 49, 241, 0) := m_P2c rfl m_ok_241 (m_in5 (i := 123) rfl rfl)
set_option maxRecDepth 100000 in
theorem m_l2_184 : m_P2 (9, 53, 190, 0) := m_P2c rfl m_ok_190 (m_in5 (i := 124) rfl rfl)
set_option maxRecDepth 100000 in
theorem m_l2_185 : m_P2 (1, 448, 80, 0) := m_P2c rfl m_ok_80 (m_in8 (i := 169) rfl rfl)
set_option maxRecDepth 100000 in
theorem m_l2_186 : m_P2 (2, 289, 83, 0) := m_P2c rfl m_ok_83 (m_in5 (i := 72) rfl rfl)
set_option maxRecDepth 100000 in
theorem m_l2_187 : m_P2 (8, 24, 84, 0) := m_P2c rfl m_ok_84 (m_in5 (i := 76) rfl rfl)
set_option maxRecDepth 100000 in
theorem m_l2_188 : m_P2 (8, 46, 85, 0) := m_P2c rfl m_ok_85 (m_in5 (i := 87) rfl rfl)
set_option maxRecDepth 100000 in
theorem m_l2_189 : m_P2 (2, 279, 93, 0) := m_P2c rfl m_ok_93 (m_in5 (i := 50) rfl rfl)
set_option maxRecDepth 100000 in
theorem m_l2_190 : m_P2 (6, 56, 94, 0) := m_P2c rfl m_ok_94 (m_in5 (i := 54) rfl rfl)
set_option maxRecDepth 100000 in
theorem m_l2_191 : m_P2 (6, 41, 242, 0) := m_P2c rfl m_ok_242 (m_in3 (i := 173) rfl rfl)
set_option maxRecDepth 100000 in
theorem m_l2_192 : m_P2 (6, 52, 190, 0) := m_P2c rfl m_ok_190 (m_in5 (i := 58) rfl rfl)
set_option maxRecDepth 100000 in
theorem m_l2_193 : m_P2 (1, 441, 96, 0) := m_P2c rfl m_ok_96 (m_in8 (i := 146) rfl rfl)
set_option maxRecDepth 100000 in
theorem m_l2_194 : m_P2 (1, 438, 97, 0) := m_P2c rfl m_ok_97 (m_in8 (i := 150) rfl rfl)
set_option maxRecDepth 100000 in
theorem m_l2_195 : m_P2 (2, 264, 100, 0) := m_P2c rfl m_ok_100 (m_in5 (i := 18) rfl rfl)
set_option maxRecDepth 100000 in
theorem m_l2_196 : m_P2 (2, 268, 99, 0) := m_P2c rfl m_ok_99 (m_in5 (i := 41) rfl rfl)
set_option maxRecDepth 100000 in
theorem m_l2_197 : m_P2 (7, 48, 103, 0) := m_P2c rfl m_ok_103 (m_in5 (i := 33) rfl rfl)
set_option maxRecDepth 100000 in
theorem m_l2_198 : m_P2 (7, 20, 104, 0) := m_P2c rfl m_ok_104 (m_in5 (i := 22) rfl rfl)
set_option maxRecDepth 100000 in
theorem m_l2_199 : m_P2 (7, 29, 228, 0) := m_P2c rfl m_ok_228 (m_in5 (i := 26) rfl rfl)
set_option maxRecDepth 100000 in
theorem m_l2_200 : m_P2 (7, 37, 101, 0) := m_P2c rfl m_ok_101 (m_in5 (i := 28) rfl rfl)
set_option maxRecDepth 100000 in
theorem m_l2_201 : m_P2 (7, 45, 367, 0) := m_P2c rfl m_ok_367 (m_in5 (i := 32) rfl rfl)
set_option maxRecDepth 100000 in
theorem m_l2_202 : m_P2 (7, 52, 102, 0) := m_P2c rfl m_ok_102 (m_in5 (i := 37) rfl rfl)
set_option maxRecDepth 100000 in
theorem m_l2_203 : m_P2 (7, 56, 107, 0) := m_P2c rfl m_ok_107 (m_in5 (i := 40) rfl rfl)
set_option maxRecDepth 100000 in
theorem m_l2_204 : m_P2 (2, 258, 107, 0) := m_P2c rfl m_ok_107 (m_in5 (i := 10) rfl rfl)
set_option maxRecDepth 100000 in
theorem m_l2_205 : m_P2 (1, 314, 158, 0) := m_P2c rfl m_ok_158 (m_in8 (i := 31) rfl rfl)
set_option maxRecDepth 100000 in
theorem m_l2_206 : m_P2 (2, 215, 204, 0) := m_P2c rfl m_ok_204 (m_in4 (i := 194) rfl rfl)
set_option maxRecDepth 100000 in
theorem m_l2_207 : m_P2 (1, 432, 114, 0) := m_P2c rfl m_ok_114 (m_in8 (i := 126) rfl rfl)
set_option maxRecDepth 100000 in
theorem m_l2_208 : m_P2 (1, 389, 151, 0) := m_P2c rfl m_ok_151 (m_in8 (i := 15) rfl rfl)
set_option maxRecDepth 100000 in
theorem m_l2_209 : m_P2 (1, 435, 113, 0) := m_P2c rfl m_ok_113 (m_in8 (i := 130) rfl rfl)
set_option maxRecDepth 100000 in
theorem m_l2_210 : m_P2 (2, 251, 164, 0) := m_P2c rfl m_ok_164 (m_in4 (i := 113) rfl rfl)
set_option maxRecDepth 100000 in
theorem m_l2_211 : m_P2 (2, 160, 206, 0) := m_P2c rfl m_ok_206 (m_in4 (i := 2) rfl rfl)
set_option maxRecDepth 100000 in
theorem m_l2_212 : m_P2 (2, 247, 161, 0) := m_P2c rfl m_ok_161 (m_in4 (i := 117) rfl rfl)
set_option maxRecDepth 100000 in
theorem m_l2_213 : m_P2 (6, 15, 9001, 0) := m_P2b (m_in4 (i := 126) rfl rfl)
set_option maxRecDepth 100000 in
theorem m_l2_214 : m_P2 (2, 233, 124, 0) := m_P2c rfl m_ok_124 (m_in4 (i := 214) rfl rfl)
set_option maxRecDepth 100000 in
theorem m_l2_215 : m_P2 (2, 236, 123, 0) := m_P2c rfl m_ok_123 (m_in4 (i := 218) rfl rfl)
set_option maxRecDepth 100000 in
theorem m_l2_216 : m_P2 (1, 377, 172, 0) := m_P2c rfl m_ok_172 (m_in7 (i := 194) rfl rfl)
set_option maxRecDepth 100000 in
theorem m_l2_217 : m_P2 (1, 285, 181, 0) := m_P2c rfl m_ok_181 (m_in7 (i := 214) rfl rfl)
set_option maxRecDepth 100000 in
theorem m_l2_218 : m_P2 (1, 333, 156, 0) := m_P2c rfl m_ok_156 (m_in8 (i := 23) rfl rfl)
set_option maxRecDepth 100000 in
theorem m_l2_219 : m_P2 (1, 336, 155, 0) := m_P2c rfl m_ok_155 (m_in8 (i := 35) rfl rfl)
set_option maxRecDepth 100000 in
theorem m_l2_220 : m_P2 (1, 423, 130, 0) := m_P2c rfl m_ok_130 (m_in8 (i := 78) rfl rfl)
set_option maxRecDepth 100000 in
theorem m_l2_221 : m_P2 (2, 218, 194, 0) := m_P2c rfl m_ok_194 (m_in4 (i := 195) rfl rfl)
set_option maxRecDepth 100000 in
theorem m_l2_222 : m_P2 (2, 227, 132, 0) := m_P2c rfl m_ok_132 (m_in4 (i := 197) rfl rfl)
set_option maxRecDepth 100000 in
theorem m_l2_223 : m_P2 (2, 201, 135, 0) := m_P2c rfl m_ok_135 (m_in4 (i := 179) rfl rfl)
set_option maxRecDepth 100000 in
theorem m_l2_224 : m_P2 (5, 29, 244, 0) := m_P2c rfl m_ok_244 (m_in3 (i := 165) rfl rfl)
set_option maxRecDepth 100000 in
theorem m_l2_225 : m_P2 (5, 41, 136, 0) := m_P2c rfl m_ok_136 (m_in4 (i := 183) rfl rfl)
set_option maxRecDepth 100000 in
theorem m_l2_226 : m_P2 (1, 358, 234, 0) := m_P2c rfl m_ok_234 (m_in7 (i := 131) rfl rfl)
set_option maxRecDepth 100000 in
theorem m_l2_227 : m_P2 (1, 349, 152, 0) := m_P2c rfl m_ok_152 (m_in8 (i := 43) rfl rfl)
set_option maxRecDepth 100000 in
theorem m_l2_228 : m_P2 (1, 419, 138, 0) := m_P2c rfl m_ok_138 (m_in8 (i := 69) rfl rfl)
set_option maxRecDepth 100000 in
theorem m_l2_229 : m_P2 (1, 355, 235, 0) := m_P2c rfl m_ok_235 (m_in7 (i := 123) rfl rfl)
set_option maxRecDepth 100000 in
theorem m_l2_230 : m_P2 (1, 361, 232, 0) := m_P2c rfl m_ok_232 (m_in7 (i := 135) rfl rfl)
set_option maxRecDepth 100000 in
theorem m_l2_231 : m_P2 (1, 368, 221, 0) := m_P2c rfl m_ok_221 (m_in7 (i := 159) rfl rfl)
set_option maxRecDepth 100000 in
theorem m_l2_232 : m_P2 (1, 374, 215, 0) := m_P2c rfl m_ok_215 (m_in7 (i := 170) rfl rfl)
set_option maxRecDepth 100000 in
theorem m_l2_233 : m_P2 (1, 345, 233, 0) := m_P2c rfl m_ok_233 (m_in7 (i := 139) rfl rfl)
set_option maxRecDepth 100000 in
theorem m_l2_234 : m_P2 (1, 371, 216, 0) := m_P2c rfl m_ok_216 (m_in7 (i := 174) rfl rfl)
set_option maxRecDepth 100000 in
theorem m_l2_235 : m_P2 (1, 383, 171, 0) := m_P2c rfl m_ok_171 (m_in7 (i := 190) rfl rfl)
set_option maxRecDepth 100000 in
theorem m_l2_236 : m_P2 (1, 386, 169, 0) := m_P2c rfl m_ok_169 (m_in7 (i := 235) rfl rfl)
set_option maxRecDepth 100000 in
theorem m_l2_237 : m_P2 (2, 131, 243, 0) := m_P2c rfl m_ok_243 (m_in3 (i := 161) rfl rfl)
set_option maxRecDepth 100000 in
theorem m_l2_238 : m_P2 (2, 188, 142, 0) := m_P2c rfl m_ok_142 (m_in4 (i := 162) rfl rfl)
set_option maxRecDepth 100000 in
theorem m_l2_239 : m_P2 (2, 191, 162, 0) := m_P2c rfl m_ok_162 (m_in4 (i := 166) rfl rfl)
set_option maxRecDepth 100000 in
theorem m_l2_240 : m_P2 (2, 195, 140, 0) := m_P2c rfl m_ok_140 (m_in4 (i := 167) rfl rfl)
set_option maxRecDepth 100000 in
theorem m_l2_241 : m_P2 (2, 198, 239, 0) := m_P2c rfl m_ok_239 (m_in3 (i := 185) rfl rfl)
set_option maxRecDepth 100000 in
theorem m_l2_242 : m_P2 (2, 135, 240, 0) := m_P2c rfl m_ok_240 (m_in3 (i := 169) rfl rfl)
set_option maxRecDepth 100000 in
theorem m_l2_243 : m_P2 (2, 421, 141, 0) := m_P2c rfl m_ok_141 (m_in4 (i := 171) rfl rfl)
set_option maxRecDepth 100000 in
theorem m_l2_244 : m_P2 (2, 143, 227, 0) := m_P2c rfl m_ok_227 (m_in3 (i := 193) rfl rfl)
set_option maxRecDepth 100000 in
theorem m_l2_245 : m_P2 (2, 146, 219, 0) := m_P2c rfl m_ok_219 (m_in3 (i := 214) rfl rfl)
set_option maxRecDepth 100000 in
theorem m_l2_246 : m_P2 (2, 154, 213, 0) := m_P2c rfl m_ok_213 (m_in3 (i := 226) rfl rfl)
set_option maxRecDepth 100000 in
theorem m_l2_247 : m_P2 (2, 163, 184, 0) := m_P2c rfl m_ok_184 (m_in4 (i := 10) rfl rfl)
set_option maxRecDepth 100000 in
theorem m_l2_248 : m_P2 (1, 416, 144, 0) := m_P2c rfl m_ok_144 (m_in8 (i := 54) rfl rfl)
set_option maxRecDepth 100000 in
theorem m_l2_249 : m_P2 (1, 395, 351, 0) := m_P2c rfl m_ok_351 (m_in8 (i := 58) rfl rfl)
set_option maxRecDepth 100000 in
theorem m_l2_250 : m_P2 (1, 398, 231, 0) := m_P2c rfl m_ok_231 (m_in8 (i := 59) rfl rfl)
set_option maxRecDepth 100000 in
theorem m_l2_251 : m_P2 (1, 401, 220, 0) := m_P2c rfl m_ok_220 (m_in8 (i := 60) rfl rfl)
set_option maxRecDepth 100000 in
theorem m_l2_252 : m_P2 (1, 404, 214, 0) := m_P2c rfl m_ok_214 (m_in8 (i := 61) rfl rfl)
set_option maxRecDepth 100000 in
theorem m_l2_253 : m_P2 (1, 407, 211, 0) := m_P2c rfl m_ok_211 (m_in8 (i := 62) rfl rfl)
set_option maxRecDepth 100000 in
theorem m_l2_254 : m_P2 (1, 410, 168, 0) := m_P2c rfl m_ok_168 (m_in8 (i := 63) rfl rfl)
set_option maxRecDepth 100000 in
theorem m_l2_255 : m_P2 (1, 413, 165, 0) := m_P2c rfl m_ok_165 (m_in8 (i := 64) rfl rfl)
set_option maxRecDepth 100000 in
theorem m_l2_256 : m_P2 (1, 392, 150, 0) := m_P2c rfl m_ok_150 (m_in8 (i := 11) rfl rfl)
set_option maxRecDepth 100000 in
theorem m_l2_257 : m_P2 (2, 184, 146, 0) := m_P2c rfl m_ok_146 (m_in4 (i := 136) rfl rfl)
set_option maxRecDepth 100000 in
theorem m_l2_258 : m_P2 (2, 394, 148, 0) := m_P2c rfl m_ok_148 (m_in4 (i := 140) rfl rfl)
set_option maxRecDepth 100000 in
theorem m_l2_259 : m_P2 (2, 397, 147, 0) := m_P2c rfl m_ok_147 (m_in4 (i := 147) rfl rfl)
set_option maxRecDepth 100000 in
theorem m_l2_260 : m_P2 (2, 400, 353, 0) := m_P2c rfl m_ok_353 (m_in4 (i := 151) rfl rfl)
set_option maxRecDepth 100000 in
theorem m_l2_261 : m_P2 (2, 403, 237, 0) := m_P2c rfl m_ok_237 (m_in4 (i := 152) rfl rfl)
set_option maxRecDepth 100000 in
theorem m_l2_262 : m_P2 (2, 406, 226, 0) := m_P2c rfl m_ok_226 (m_in4 (i := 153) rfl rfl)
set_option maxRecDepth 100000 in
theorem m_l2_263 : m_P2 (2, 409, 217, 0) := m_P2c rfl m_ok_217 (m_in4 (i := 154) rfl rfl)
set_option maxRecDepth 100000 in
theorem m_l2_264 : m_P2 (2, 412, 212, 0) := m_P2c rfl m_ok_212 (m_in4 (i := 155) rfl rfl)
set_option maxRecDepth 100000 in
theorem m_l2_265 : m_P2 (2, 415, 183, 0) := m_P2c rfl m_ok_183 (m_in4 (i := 156) rfl rfl)
set_option maxRecDepth 100000 in
theorem m_l2_266 : m_P2 (2, 418, 166, 0) := m_P2c rfl m_ok_166 (m_in4 (i := 157) rfl rfl)
set_option maxRecDepth 100000 in
theorem m_l2_267 : m_P2 (2, 174, 160, 0) := m_P2c rfl m_ok_160 (m_in4 (i := 109) rfl rfl)
set_option maxRecDepth 100000 in
theorem m_l2_268 : m_P2 (11, 43, 202, 0) := m_P2c rfl m_ok_202 (m_in4 (i := 40) rfl rfl)
set_option maxRecDepth 100000 in
theorem m_l2_269 : m_P2 (11, 47, 200, 0) := m_P2c rfl m_ok_200 (m_in4 (i := 144) rfl rfl)
set_option maxRecDepth 100000 in
theorem m_l2_270 : m_P2 (11, 51, 201, 0) := m_P2c rfl m_ok_201 (m_in4 (i := 145) rfl rfl)
set_option maxRecDepth 100000 in
theorem m_l2_271 : m_P2 (11, 54, 199, 0) := m_P2c rfl m_ok_199 (m_in4 (i := 146) rfl rfl)
set_option maxRecDepth 100000 in
theorem m_l2_272 : m_P2 (1, 339, 154, 0) := m_P2c rfl m_ok_154 (m_in8 (i := 19) rfl rfl)
set_option maxRecDepth 100000 in
theorem m_l2_273 : m_P2 (1, 310, 222, 0) := m_P2c rfl m_ok_222 (m_in7 (i := 163) rfl rfl)
set_option maxRecDepth 100000 in
theorem m_l2_274 : m_P2 (1, 324, 182, 0) := m_P2c rfl m_ok_182 (m_in7 (i := 198) rfl rfl)
set_option maxRecDepth 100000 in
theorem m_l2_275 : m_P2 (1, 320, 173, 0) := m_P2c rfl m_ok_173 (m_in7 (i := 202) rfl rfl)
set_option maxRecDepth 100000 in
theorem m_l2_276 : m_P2 (1, 317, 157, 0) := m_P2c rfl m_ok_157 (m_in8 (i := 27) rfl rfl)
set_option maxRecDepth 100000 in
theorem m_l2_277 : m_P2 (12, 40, 164, 0) := m_P2c rfl m_ok_164 (m_in4 (i := 121) rfl rfl)
set_option maxRecDepth 100000 in
theorem m_l2_278 : m_P2 (12, 49, 241, 0) := m_P2c rfl m_ok_241 (m_in4 (i := 31) rfl rfl)
set_option maxRecDepth 100000 in
theorem m_l2_279 : m_P2 (12, 52, 185, 0) := m_P2c rfl m_ok_185 (m_in4 (i := 15) rfl rfl)
set_option maxRecDepth 100000 in
theorem m_l2_280 : m_P2 (12, 31, 330, 0) := m_P2c rfl m_ok_330 (m_in4 (i := 95) rfl rfl)
set_option maxRecDepth 100000 in
theorem m_l2_281 : m_P2 (12, 56, 355, 0) := m_P2c rfl m_ok_355 (m_in4 (i := 96) rfl rfl)
set_option maxRecDepth 100000 in
theorem m_l2_282 : m_P2 (12, 60, 204, 0) := m_P2c rfl m_ok_204 (m_in4 (i := 27) rfl rfl)
set_option maxRecDepth 100000 in
theorem m_l2_283 : m_P2 (12, 63, 163, 0) := m_P2c rfl m_ok_163 (m_in4 (i := 122) rfl rfl)
set_option maxRecDepth 100000 in
theorem m_l2_284 : m_P2 (12, 67, 228, 0) := m_P2c rfl m_ok_228 (m_in4 (i := 127) rfl rfl)
set_option maxRecDepth 100000 in
theorem m_l2_285 : m_P2 (12, 71, 162, 0) := m_P2c rfl m_ok_162 (m_in4 (i := 128) rfl rfl)
set_option maxRecDepth 100000 in
theorem m_l2_286 : m_P2 (6, 37, 355, 0) := m_P2c rfl m_ok_355 (m_in2 (i := 95) rfl rfl)
set_option maxRecDepth 100000 in
theorem m_l2_287 : m_P2 (1, 380, 170, 0) := m_P2c rfl m_ok_170 (m_in7 (i := 239) rfl rfl)
set_option maxRecDepth 100000 in
theorem m_l2_288 : m_P2 (2, 167, 167, 0) := m_P2c rfl m_ok_167 (m_in4 (i := 101) rfl rfl)
set_option maxRecDepth 100000 in
theorem m_l2_289 : m_P2 (2, 139, 238, 0) := m_P2c rfl m_ok_238 (m_in3 (i := 181) rfl rfl)
set_option maxRecDepth 100000 in
theorem m_l2_290 : m_P2 (12, 75, 229, 0) := m_P2c rfl m_ok_229 (m_in4 (i := 14) rfl rfl)
set_option maxRecDepth 100000 in
theorem m_l2_291 : m_P2 (1, 307, 174, 0) := m_P2c rfl m_ok_174 (m_in7 (i := 206) rfl rfl)
set_option maxRecDepth 100000 in
theorem m_l2_292 : m_P2 (1, 288, 180, 0) := m_P2c rfl m_ok_180 (m_in7 (i := 210) rfl rfl)
set_option maxRecDepth 100000 in
theorem m_l2_293 : m_P2 (1, 295, 177, 0) := m_P2c rfl m_ok_177 (m_in7 (i := 221) rfl rfl)
set_option maxRecDepth 100000 in
theorem m_l2_294 : m_P2 (1, 299, 176, 0) := m_P2c rfl m_ok_176 (m_in7 (i := 229) rfl rfl)
set_option maxRecDepth 100000 in
theorem m_l2_295 : m_P2 (1, 303, 175, 0) := m_P2c rfl m_ok_175 (m_in7 (i := 232) rfl rfl)
set_option maxRecDepth 100000 in
theorem m_l2_296 : m_P2 (1, 281, 178, 0) := m_P2c rfl m_ok_178 (m_in7 (i := 224) rfl rfl)
set_option maxRecDepth 100000 in
theorem m_l2_297 : m_P2 (12, 15, 317, 0) := m_P2c rfl m_ok_317 (m_in4 (i := 19) rfl rfl)
set_option maxRecDepth 100000 in
theorem m_l2_298 : m_P2 (12, 21, 203, 0) := m_P2c rfl m_ok_203 (m_in4 (i := 20) rfl rfl)
set_option maxRecDepth 100000 in
theorem m_l2_299 : m_P2 (12, 25, 186, 0) := m_P2c rfl m_ok_186 (m_in4 (i := 32) rfl rfl)
set_option maxRecDepth 100000 in
theorem m_l2_300 : m_P2 (12, 37, 369, 0) := m_P2c rfl m_ok_369 (m_in4 (i := 67) rfl rfl)
set_option maxRecDepth 100000 in
theorem m_l2_301 : m_P2 (12, 86, 201, 0) := m_P2c rfl m_ok_201 (m_in4 (i := 36) rfl rfl)
set_option maxRecDepth 100000 in
theorem m_l2_302 : m_P2 (12, 89, 200, 0) := m_P2c rfl m_ok_200 (m_in4 (i := 44) rfl rfl)
set_option maxRecDepth 100000 in
theorem m_l2_303 : m_P2 (12, 92, 199, 0) := m_P2c rfl m_ok_199 (m_in4 (i := 48) rfl rfl)
set_option maxRecDepth 100000 in
theorem m_l2_304 : m_P2 (12, 95, 198, 0) := m_P2c rfl m_ok_198 (m_in4 (i := 52) rfl rfl)
set_option maxRecDepth 100000 in
theorem m_l2_305 : m_P2 (12, 99, 302, 0) := m_P2c rfl m_ok_302 (m_in4 (i := 56) rfl rfl)
set_option maxRecDepth 100000 in
theorem m_l2_306 : m_P2 (12, 102, 196, 0) := m_P2c rfl m_ok_196 (m_in4 (i := 57) rfl rfl)
set_option maxRecDepth 100000 in
theorem m_l2_307 : m_P2 (12, 105, 195, 0) := m_P2c rfl m_ok_195 (m_in4 (i := 63) rfl rfl)
set_option maxRecDepth 100000 in
theorem m_l2_308 : m_P2 (12, 108, 194, 0) := m_P2c rfl m_ok_194 (m_in4 (i := 68) rfl rfl)
set_option maxRecDepth 100000 in
theorem m_l2_309 : m_P2 (12, 111, 187, 0) := m_P2c rfl m_ok_187 (m_in4 (i := 72) rfl rfl)
set_option maxRecDepth 100000 in
theorem m_l2_310 : m_P2 (12, 118, 191, 0) := m_P2c rfl m_ok_191 (m_in4 (i := 75) rfl rfl)
set_option maxRecDepth 100000 in
theorem m_l2_311 : m_P2 (12, 122, 189, 1) := m_P2d rfl m_ok_189 ⟨rfl, List.mem_of_getElem? (i := 2) rfl⟩
set_option maxRecDepth 100000 in
theorem m_l2_312 : m_P2 (12, 125, 188, 0) := m_P2c rfl m_ok_188 (m_in4 (i := 92) rfl rfl)
set_option maxRecDepth 100000 in
theorem m_l2_313 : m_P2 (2, 389, 190, 0) := m_P2c rfl m_ok_190 (m_in4 (i := 89) rfl rfl)
set_option maxRecDepth 100000 in
theorem m_l2_314 : m_P2 (12, 133, 193, 0) := m_P2c rfl m_ok_193 (m_in4 (i := 80) rfl rfl)
set_option maxRecDepth 100000 in
theorem m_l2_315 : m_P2 (12, 136, 192, 0) := m_P2c rfl m_ok_192 (m_in4 (i := 83) rfl rfl)
set_option maxRecDepth 100000 in
theorem m_l2_316 : m_P2 (12, 79, 205, 0) := m_P2c rfl m_ok_205 (m_in4 (i := 23) rfl rfl)
set_option maxRecDepth 100000 in
theorem m_l2_317 : m_P2 (12, 115, 197, 0) := m_P2c rfl m_ok_197 (m_in4 (i := 60) rfl rfl)
set_option maxRecDepth 100000 in
theorem m_l2_318 : m_P2 (6, 47, 369, 0) := m_P2c rfl m_ok_369 (m_in3 (i := 209) rfl rfl)
set_option maxRecDepth 100000 in
theorem m_l2_319 : m_P2 (2, 124, 247, 0) := m_P2c rfl m_ok_247 (m_in3 (i := 153) rfl rfl)
set_option maxRecDepth 100000 in
theorem m_l2_320 : m_P2 (2, 157, 210, 0) := m_P2c rfl m_ok_210 (m_in3 (i := 234) rfl rfl)
set_option maxRecDepth 100000 in
theorem m_l2_321 : m_P2 (2, 150, 218, 0) := m_P2c rfl m_ok_218 (m_in3 (i := 218) rfl rfl)
set_option maxRecDepth 100000 in
theorem m_l2_322 : m_P2 (6, 33, 356, 1) := m_P2d rfl m_ok_356 ⟨rfl, List.mem_of_getElem? (i := 0) rfl⟩
set_option maxRecDepth 100000 in
theorem m_l2_323 : m_P2 (6, 21, 230, 0) := m_P2c rfl m_ok_230 (m_in3 (i := 205) rfl rfl)
set_option maxRecDepth 100000 in
theorem m_l2_324 : m_P2 (1, 274, 251, 0) := m_P2c rfl m_ok_251 (m_in6 (i := 195) rfl rfl)
set_option maxRecDepth 100000 in
theorem m_l2_325 : m_P2 (1, 191, 286, 0) := m_P2c rfl m_ok_286 (m_in6 (i := 199) rfl rfl)
set_option maxRecDepth 100000 in
theorem m_l2_326 : m_P2 (1, 271, 252, 0) := m_P2c rfl m_ok_252 (m_in6 (i := 218) rfl rfl)
set_option maxRecDepth 100000 in
theorem m_l2_327 : m_P2 (1, 258, 279, 0) := m_P2c rfl m_ok_279 (m_in6 (i := 222) rfl rfl)
set_option maxRecDepth 100000 in
theorem m_l2_328 : m_P2 (1, 268, 253, 0) := m_P2c rfl m_ok_253 (m_in7 (i := 8) rfl rfl)
set_option maxRecDepth 100000 in
theorem m_l2_329 : m_P2 (1, 147, 282, 0) := m_P2c rfl m_ok_282 (m_in6 (i := 226) rfl rfl)
set_option maxRecDepth 100000 in
theorem m_l2_330 : m_P2 (1, 248, 275, 0) := m_P2c rfl m_ok_275 (m_in7 (i := 12) rfl rfl)
set_option maxRecDepth 100000 in
theorem m_l2_331 : m_P2 (1, 252, 273, 0) := m_P2c rfl m_ok_273 (m_in7 (i := 24) rfl rfl)
set_option maxRecDepth 100000 in
theorem m_l2_332 : m_P2 (1, 135, 285, 0) := m_P2c rfl m_ok_285 (m_in6 (i := 235) rfl rfl)
set_option maxRecDepth 100000 in
theorem m_l2_333 : m_P2 (1, 237, 277, 0) := m_P2c rfl m_ok_277 (m_in7 (i := 16) rfl rfl)
set_option maxRecDepth 100000 in
theorem m_l2_334 : m_P2 (1, 255, 254, 0) := m_P2c rfl m_ok_254 (m_in7 (i := 32) rfl rfl)
set_option maxRecDepth 100000 in
theorem m_l2_335 : m_P2 (1, 241, 255, 0) := m_P2c rfl m_ok_255 (m_in7 (i := 36) rfl rfl)
set_option maxRecDepth 100000 in
theorem m_l2_336 : m_P2 (1, 231, 261, 0) := m_P2c rfl m_ok_261 (m_in7 (i := 40) rfl rfl)
set_option maxRecDepth 100000 in
theorem m_l2_337 : m_P2 (1, 234, 256, 0) := m_P2c rfl m_ok_256 (m_in7 (i := 87) rfl rfl)
set_option maxRecDepth 100000 in
theorem m_l2_338 : m_P2 (1, 185, 271, 0) := m_P2c rfl m_ok_271 (m_in7 (i := 52) rfl rfl)
set_option maxRecDepth 100000 in
theorem m_l2_339 : m_P2 (1, 213, 264, 0) := m_P2c rfl m_ok_264 (m_in7 (i := 71) rfl rfl)
set_option maxRecDepth 100000 in
theorem m_l2_340 : m_P2 (1, 194, 260, 0) := m_P2c rfl m_ok_260 (m_in7 (i := 91) rfl rfl)
set_option maxRecDepth 100000 in
theorem m_l2_341 : m_P2 (1, 197, 259, 0) := m_P2c rfl m_ok_259 (m_in7 (i := 95) rfl rfl)
set_option maxRecDepth 100000 in
theorem m_l2_342 : m_P2 (1, 174, 265, 0) := m_P2c rfl m_ok_265 (m_in7 (i := 75) rfl rfl)
set_option maxRecDepth 100000 in
theorem m_l2_343 : m_P2 (1, 200, 262, 0) := m_P2c rfl m_ok_262 (m_in7 (i := 83) rfl rfl)
set_option maxRecDepth 100000 in
theorem m_l2_344 : m_P2 (1, 203, 258, 0) := m_P2c rfl m_ok_258 (m_in7 (i := 99) rfl rfl)
set_option maxRecDepth 100000 in
theorem m_l2_345 : m_P2 (1, 157, 280, 0) := m_P2c rfl m_ok_280 (m_in7 (i := 2) rfl rfl)
set_option maxRecDepth 100000 in
theorem m_l2_346 : m_P2 (1, 206, 281, 0) := m_P2c rfl m_ok_281 (m_in6 (i := 238) rfl rfl)
set_option maxRecDepth 100000 in
theorem m_l2_347 : m_P2 (1, 139, 284, 0) := m_P2c rfl m_ok_284 (m_in6 (i := 232) rfl rfl)
set_option maxRecDepth 100000 in
theorem m_l2_348 : m_P2 (1, 210, 257, 0) := m_P2c rfl m_ok_257 (m_in7 (i := 103) rfl rfl)
set_option maxRecDepth 100000 in
theorem m_l2_349 : m_P2 (1, 188, 270, 0) := m_P2c rfl m_ok_270 (m_in7 (i := 48) rfl rfl)
set_option maxRecDepth 100000 in
theorem m_l2_350 : m_P2 (1, 171, 269, 0) := m_P2c rfl m_ok_269 (m_in7 (i := 64) rfl rfl)
set_option maxRecDepth 100000 in
theorem m_l2_351 : m_P2 (1, 143, 283, 0) := m_P2c rfl m_ok_283 (m_in6 (i := 229) rfl rfl)
set_option maxRecDepth 100000 in
theorem m_l2_352 : m_P2 (1, 161, 274, 0) := m_P2c rfl m_ok_274 (m_in7 (i := 28) rfl rfl)
set_option maxRecDepth 100000 in
theorem m_l2_353 : m_P2 (1, 225, 266, 0) := m_P2c rfl m_ok_266 (m_in7 (i := 44) rfl rfl)
set_option maxRecDepth 100000 in
theorem m_l2_354 : m_P2 (1, 228, 263, 0) := m_P2c rfl m_ok_263 (m_in7 (i := 79) rfl rfl)
set_option maxRecDepth 100000 in
theorem m_l2_355 : m_P2 (1, 181, 272, 0) := m_P2c rfl m_ok_272 (m_in7 (i := 56) rfl rfl)
set_option maxRecDepth 100000 in
theorem m_l2_356 : m_P2 (1, 219, 268, 0) := m_P2c rfl m_ok_268 (m_in7 (i := 60) rfl rfl)
set_option maxRecDepth 100000 in
theorem m_l2_357 : m_P2 (1, 222, 267, 0) := m_P2c rfl m_ok_267 (m_in7 (i := 67) rfl rfl)
set_option maxRecDepth 100000 in
theorem m_l2_358 : m_P2 (1, 244, 276, 0) := m_P2c rfl m_ok_276 (m_in7 (i := 20) rfl rfl)
set_option maxRecDepth 100000 in
theorem m_l2_359 : m_P2 (1, 107, 290, 0) := m_P2c rfl m_ok_290 (m_in6 (i := 203) rfl rfl)
set_option maxRecDepth 100000 in
theorem m_l2_360 : m_P2 (1, 116, 289, 0) := m_P2c rfl m_ok_289 (m_in6 (i := 207) rfl rfl)
set_option maxRecDepth 100000 in
theorem m_l2_361 : m_P2 (1, 123, 288, 0) := m_P2c rfl m_ok_288 (m_in6 (i := 211) rfl rfl)
set_option maxRecDepth 100000 in
theorem m_l2_362 : m_P2 (1, 132, 287, 0) := m_P2c rfl m_ok_287 (m_in6 (i := 215) rfl rfl)
set_option maxRecDepth 100000 in
theorem m_l2_363 : m_P2 (2, 107, 293, 0) := m_P2c rfl m_ok_293 (m_in2 (i := 120) rfl rfl)
set_option maxRecDepth 100000 in
theorem m_l2_364 : m_P2 (2, 114, 292, 0) := m_P2c rfl m_ok_292 (m_in3 (i := 137) rfl rfl)
set_option maxRecDepth 100000 in
theorem m_l2_365 : m_P2 (11, 57, 9001, 0) := m_P2b (m_in3 (i := 141) rfl rfl)
set_option maxRecDepth 100000 in
theorem m_l2_366 : m_P2 (14, 32, 343, 0) := m_P2c rfl m_ok_343 (m_in2 (i := 124) rfl rfl)
set_option maxRecDepth 100000 in
theorem m_l2_367 : m_P2 (14, 38, 321, 0) := m_P2c rfl m_ok_321 (m_in2 (i := 128) rfl rfl)
set_option maxRecDepth 100000 in
theorem m_l2_368 : m_P2 (14, 46, 294, 0) := m_P2c rfl m_ok_294 (m_in3 (i := 28) rfl rfl)
set_option maxRecDepth 100000 in
theorem m_l2_369 : m_P2 (14, 89, 320, 0) := m_P2c rfl m_ok_320 (m_in3 (i := 32) rfl rfl)
set_option maxRecDepth 100000 in
theorem m_l2_370 : m_P2 (14, 92, 319, 0) := m_P2c rfl m_ok_319 (m_in3 (i := 35) rfl rfl)
set_option maxRecDepth 100000 in
theorem m_l2_371 : m_P2 (14, 95, 318, 0) := m_P2c rfl m_ok_318 (m_in3 (i := 39) rfl rfl)
set_option maxRecDepth 100000 in
theorem m_l2_372 : m_P2 (14, 98, 317, 0) := m_P2c rfl m_ok_317 (m_in3 (i := 42) rfl rfl)
set_option maxRecDepth 100000 in
theorem m_l2_373 : m_P2 (14, 107, 316, 0) := m_P2c rfl m_ok_316 (m_in3 (i := 46) rfl rfl)
set_option maxRecDepth 100000 in
theorem m_l2_374 : m_P2 (14, 111, 297, 0) := m_P2c rfl m_ok_297 (m_in3 (i := 50) rfl rfl)
set_option maxRecDepth 100000 in
theorem m_l2_375 : m_P2 (14, 114, 296, 0) := m_P2c rfl m_ok_296 (m_in3 (i := 127) rfl rfl)
set_option maxRecDepth 100000 in
theorem m_l2_376 : m_P2 (14, 117, 295, 0) := m_P2c rfl m_ok_295 (m_in3 (i := 133) rfl rfl)
set_option maxRecDepth 100000 in
theorem m_l2_377 : m_P2 (14, 120, 312, 0) := m_P2c rfl m_ok_312 (m_in3 (i := 75) rfl rfl)
set_option maxRecDepth 100000 in
theorem m_l2_378 : m_P2 (14, 126, 314, 0) := m_P2c rfl m_ok_314 (m_in3 (i := 62) rfl rfl)
set_option maxRecDepth 100000 in
theorem m_l2_379 : m_P2 (14, 137, 298, 0) := m_P2c rfl m_ok_298 (m_in3 (i := 54) rfl rfl)
set_option maxRecDepth 100000 in
theorem m_l2_380 : m_P2 (14, 140, 311, 0) := m_P2c rfl m_ok_311 (m_in3 (i := 83) rfl rfl)
set_option maxRecDepth 100000 in
theorem m_l2_381 : m_P2 (14, 143, 299, 0) := m_P2c rfl m_ok_299 (m_in3 (i := 58) rfl rfl)
set_option maxRecDepth 100000 in
theorem m_l2_382 : m_P2 (14, 146, 313, 0) := m_P2c rfl m_ok_313 (m_in3 (i := 71) rfl rfl)
set_option maxRecDepth 100000 in
theorem m_l2_383 : m_P2 (14, 149, 310, 0) := m_P2c rfl m_ok_310 (m_in3 (i := 79) rfl rfl)
set_option maxRecDepth 100000 in
theorem m_l2_384 : m_P2 (14, 152, 303, 0) := m_P2c rfl m_ok_303 (m_in3 (i := 88) rfl rfl)
set_option maxRecDepth 100000 in
theorem m_l2_385 : m_P2 (14, 155, 300, 0) := m_P2c rfl m_ok_300 (m_in3 (i := 116) rfl rfl)
set_option maxRecDepth 100000 in
theorem m_l2_386 : m_P2 (14, 158, 302, 0) := m_P2c rfl m_ok_302 (m_in3 (i := 120) rfl rfl)
set_option maxRecDepth 100000 in
theorem m_l2_387 : m_P2 (14, 161, 301, 0) := m_P2c rfl m_ok_301 (m_in3 (i := 123) rfl rfl)
set_option maxRecDepth 100000 in
theorem m_l2_388 : m_P2 (15, 27, 302, 0) := m_P2c rfl m_ok_302 (m_in3 (i := 126) rfl rfl)
set_option maxRecDepth 100000 in
theorem m_l2_389 : m_P2 (14, 164, 306, 0) := m_P2c rfl m_ok_306 (m_in3 (i := 92) rfl rfl)
set_option maxRecDepth 100000 in
theorem m_l2_390 : m_P2 (14, 167, 305, 0) := m_P2c rfl m_ok_305 (m_in3 (i := 107) rfl rfl)
set_option maxRecDepth 100000 in
theorem m_l2_391 : m_P2 (14, 170, 304, 0) := m_P2c rfl m_ok_304 (m_in3 (i := 112) rfl rfl)
set_option maxRecDepth 100000 in
theorem m_l2_392 : m_P2 (11, 40, 311, 0) := m_P2c rfl m_ok_311 (m_in3 (i := 111) rfl rfl)
set_option maxRecDepth 100000 in
theorem m_l2_393 : m_P2 (11, 36, 315, 0) := m_P2c rfl m_ok_315 (m_in3 (i := 87) rfl rfl)
set_option maxRecDepth 100000 in
theorem m_l2_394 : m_P2 (14, 173, 307, 0) := m_P2c rfl m_ok_307 (m_in3 (i := 96) rfl rfl)
set_option maxRecDepth 100000 in
theorem m_l2_395 : m_P2 (14, 176, 308, 0) := m_P2c rfl m_ok_308 (m_in3 (i := 100) rfl rfl)
set_option maxRecDepth 100000 in
theorem m_l2_396 : m_P2 (14, 179, 309, 0) := m_P2c rfl m_ok_309 (m_in3 (i := 104) rfl rfl)
set_option maxRecDepth 100000 in
theorem m_l2_397 : m_P2 (14, 130, 356, 1) := m_P2d rfl m_ok_356 ⟨rfl, List.mem_of_getElem? (i := 1) rfl⟩
set_option maxRecDepth 100000 in
theorem m_l2_398 : m_P2 (14, 134, 315, 0) := m_P2c rfl m_ok_315 (m_in3 (i := 67) rfl rfl)
set_option maxRecDepth 100000 in
theorem m_l2_399 : m_P2 (14, 53, 342, 0) := m_P2c rfl m_ok_342 (m_in2 (i := 132) rfl rfl)
set_option maxRecDepth 100000 in
theorem m_l2_400 : m_P2 (14, 57, 341, 0) := m_P2c rfl m_ok_341 (m_in2 (i := 136) rfl rfl)
set_option maxRecDepth 100000 in
theorem m_l2_401 : m_P2 (14, 60, 332, 0) := m_P2c rfl m_ok_332 (m_in2 (i := 139) rfl rfl)
set_option maxRecDepth 100000 in
theorem m_l2_402 : m_P2 (14, 63, 331, 0) := m_P2c rfl m_ok_331 (m_in2 (i := 195) rfl rfl)
set_option maxRecDepth 100000 in
theorem m_l2_403 : m_P2 (14, 66, 329, 0) := m_P2c rfl m_ok_329 (m_in2 (i := 198) rfl rfl)
set_option maxRecDepth 100000 in
theorem m_l2_404 : m_P2 (14, 69, 322, 0) := m_P2c rfl m_ok_322 (m_in2 (i := 205) rfl rfl)
set_option maxRecDepth 100000 in
theorem m_l2_405 : m_P2 (14, 85, 323, 0) := m_P2c rfl m_ok_323 (m_in2 (i := 209) rfl rfl)
set_option maxRecDepth 100000 in
theorem m_l2_406 : m_P2 (15, 23, 324, 0) := m_P2c rfl m_ok_324 (m_in2 (i := 213) rfl rfl)
set_option maxRecDepth 100000 in
theorem m_l2_407 : m_P2 (16, 633, 325, 0) := m_P2c rfl m_ok_325 (m_in2 (i := 217) rfl rfl)
set_option maxRecDepth 100000 in
theorem m_l2_408 : m_P2 (16, 492, 338, 0) := m_P2c rfl m_ok_338 (m_in2 (i := 161) rfl rfl)
set_option maxRecDepth 100000 in
theorem m_l2_409 : m_P2 (16, 505, 339, 0) := m_P2c rfl m_ok_339 (m_in2 (i := 221) rfl rfl)
set_option maxRecDepth 100000 in
theorem m_l2_410 : m_P2 (16, 637, 326, 0) := m_P2c rfl m_ok_326 (m_in2 (i := 222) rfl rfl)
set_option maxRecDepth 100000 in
theorem m_l2_411 : m_P2 (17, 88, 328, 0) := m_P2c rfl m_ok_328 (m_in2 (i := 225) rfl rfl)
set_option maxRecDepth 100000 in
theorem m_l2_412 : m_P2 (17, 92, 369, 0) := m_P2c rfl m_ok_369 (m_in2 (i := 228) rfl rfl)
set_option maxRecDepth 100000 in
theorem m_l2_413 : m_P2 (17, 38, 330, 0) := m_P2c rfl m_ok_330 (m_in2 (i := 229) rfl rfl)
set_option maxRecDepth 100000 in
theorem m_l2_414 : m_P2 (17, 95, 327, 0) := m_P2c rfl m_ok_327 (m_in2 (i := 230) rfl rfl)
set_option maxRecDepth 100000 in
theorem m_l2_415 : m_P2 (14, 79, 330, 0) := m_P2c rfl m_ok_330 (m_in2 (i := 202) rfl rfl)
set_option maxRecDepth 100000 in
theorem m_l2_416 : m_P2 (14, 72, 333, 0) := m_P2c rfl m_ok_333 (m_in2 (i := 143) rfl rfl)
set_option maxRecDepth 100000 in
theorem m_l2_417 : m_P2 (15, 11, 339, 0) := m_P2c rfl m_ok_339 (m_in2 (i := 147) rfl rfl)
set_option maxRecDepth 100000 in
theorem m_l2_418 : m_P2 (15, 17, 334, 0) := m_P2c rfl m_ok_334 (m_in2 (i := 157) rfl rfl)
set_option maxRecDepth 100000 in
theorem m_l2_419 : m_P2 (16, 495, 335, 0) := m_P2c rfl m_ok_335 (m_in2 (i := 165) rfl rfl)
set_option maxRecDepth 100000 in
theorem m_l2_420 : m_P2 (17, 9, 336, 0) := m_P2c rfl m_ok_336 (m_in2 (i := 168) rfl rfl)
set_option maxRecDepth 100000 in
theorem m_l2_421 : m_P2 (16, 1059, 337, 0) := m_P2c rfl m_ok_337 (m_in2 (i := 173) rfl rfl)
set_option maxRecDepth 100000 in
theorem m_l2_422 : m_P2 (16, 335, 340, 0) := m_P2c rfl m_ok_340 (m_in2 (i := 151) rfl rfl)
set_option maxRecDepth 100000 in
theorem m_l2_423 : m_P2 (1, 100, 347, 0) := m_P2c rfl m_ok_347 (m_in6 (i := 183) rfl rfl)
set_option maxRecDepth 100000 in
theorem m_l2_424 : m_P2 (2, 88, 350, 0) := m_P2c rfl m_ok_350 (m_in2 (i := 103) rfl rfl)
set_option maxRecDepth 100000 in
theorem m_l2_425 : m_P2 (2, 92, 349, 0) := m_P2c rfl m_ok_349 (m_in2 (i := 107) rfl rfl)
set_option maxRecDepth 100000 in
theorem m_l2_426 : m_P2 (2, 84, 354, 0) := m_P2c rfl m_ok_354 (m_in2 (i := 88) rfl rfl)
set_option maxRecDepth 100000 in
theorem m_l2_427 : m_P2 (1, 1, 9000, 0) := m_P2a (m_in6 (i := 57) rfl rfl)
set_option maxRecDepth 100000 in
theorem m_l2_428 : m_P2 (2, 1, 9000, 0) := m_P2a (m_in1 (i := 27) rfl rfl)
set_option maxRecDepth 100000 in
theorem m_l2_429 : m_P2 (2, 9, 371, 0) := m_P2c rfl m_ok_371 (m_in1 (i := 32) rfl rfl)
set_option maxRecDepth 100000 in
theorem m_l2_430 : m_P2 (2, 18, 370, 0) := m_P2c rfl m_ok_370 (m_in1 (i := 49) rfl rfl)
set_option maxRecDepth 100000 in
theorem m_l2_431 : m_P2 (2, 25, 366, 0) := m_P2c rfl m_ok_366 (m_in1 (i := 68) rfl rfl)
set_option maxRecDepth 100000 in
theorem m_l2_432 : m_P2 (2, 48, 365, 0) := m_P2c rfl m_ok_365 (m_in1 (i := 137) rfl rfl)
set_option maxRecDepth 100000 in
theorem m_l2_433 : m_P2 (2, 51, 364, 0) := m_P2c rfl m_ok_364 (m_in1 (i := 167) rfl rfl)
set_option maxRecDepth 100000 in
theorem m_l2_434 : m_P2 (2, 58, 363, 0) := m_P2c rfl m_ok_363 (m_in1 (i := 210) rfl rfl)
set_option maxRecDepth 100000 in
theorem m_l2_435 : m_P2 (2, 65, 362, 0) := m_P2c rfl m_ok_362 (m_in1 (i := 223) rfl rfl)
set_option maxRecDepth 100000 in
theorem m_l2_436 : m_P2 (2, 72, 361, 0) := m_P2c rfl m_ok_361 (m_in1 (i := 236) rfl rfl)
set_option maxRecDepth 100000 in
theorem m_l2_437 : m_P2 (2, 79, 360, 0) := m_P2c rfl m_ok_360 (m_in2 (i := 15) rfl rfl)
set_option maxRecDepth 100000 in
theorem m_l2_438 : m_P2 (8, 3, 9000, 0) := m_P2a (m_in2 (i := 18) rfl rfl)
set_option maxRecDepth 100000 in
theorem m_l2_439 : m_P2 (7, 3, 9000, 0) := m_P2a (m_in1 (i := 239) rfl rfl)
set_option maxRecDepth 100000 in
theorem m_l2_440 : m_P2 (7, 11, 368, 0) := m_P2c rfl m_ok_368 (m_in2 (i := 1) rfl rfl)
set_option maxRecDepth 100000 in
theorem m_l2_441 : m_P2 (9, 3, 9000, 0) := m_P2a (m_in1 (i := 226) rfl rfl)
set_option maxRecDepth 100000 in
theorem m_l2_442 : m_P2 (12, 3, 9000, 0) := m_P2a (m_in1 (i := 213) rfl rfl)
set_option maxRecDepth 100000 in
theorem m_l2_443 : m_P2 (14, 3, 9000, 0) := m_P2a (m_in1 (i := 170) rfl rfl)
set_option maxRecDepth 100000 in
theorem m_l2_444 : m_P2 (14, 11, 365, 0) := m_P2c rfl m_ok_365 (m_in1 (i := 172) rfl rfl)
set_option maxRecDepth 100000 in
theorem m_l2_445 : m_P2 (11, 3, 9000, 0) := m_P2a (m_in1 (i := 140) rfl rfl)
set_option maxRecDepth 100000 in
theorem m_l2_446 : m_P2 (3, 3, 9000, 0) := m_P2a (m_in1 (i := 71) rfl rfl)
set_option maxRecDepth 100000 in
theorem m_l2_447 : m_P2 (3, 11, 368, 0) := m_P2c rfl m_ok_368 (m_in1 (i := 74) rfl rfl)
set_option maxRecDepth 100000 in
theorem m_l2_448 : m_P2 (3, 20, 367, 0) := m_P2c rfl m_ok_367 (m_in1 (i := 91) rfl rfl)
set_option maxRecDepth 100000 in
theorem m_l2_449 : m_P2 (4, 1, 9000, 0) := m_P2a (m_in1 (i := 77) rfl rfl)
set_option maxRecDepth 100000 in
theorem m_l2_450 : m_P2 (4, 7, 369, 0) := m_P2c rfl m_ok_369 (m_in1 (i := 78) rfl rfl)
set_option maxRecDepth 100000 in
theorem m_l2_451 : m_P2 (5, 3, 9000, 0) := m_P2a (m_in1 (i := 52) rfl rfl)
set_option maxRecDepth 100000 in
theorem m_l2_452 : m_P2 (6, 3, 9000, 0) := m_P2a (m_in1 (i := 35) rfl rfl)
