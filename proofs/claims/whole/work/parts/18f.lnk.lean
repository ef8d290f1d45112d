def m_P3 (q : Nat × Nat × Nat × Nat) : Prop := (q.2.2.1 ≠ 100 → ∃ (C : String) (T : u_T) (N : Nat), vwCl[q.2.2.1]? = some (C, T, N) ∧ q.2.2.2 < N ∧ Cond.fieldLink (m_cnm q.1) q.2.1 C (T q.2.2.2).2.1 (T q.2.2.2).2.2.1 ∈ m_ws0) ∧
  (q.2.2.1 = 100 → (q.2.2.2 = 0 ∧ Cond.fieldLink (m_cnm q.1) q.2.1 "java/lang/String" "value" "[B" ∈ m_ws0) ∨ (q.2.2.2 = 1 ∧ Cond.fieldLink (m_cnm q.1) q.2.1 "java/lang/String" "coder" "B" ∈ m_ws0))
set_option maxRecDepth 100000 in
theorem m_l2c_0 : ∀ q ∈ ([(0, 9, 359, 0), (0, 12, 357, 0), (0, 13, 353, 0), (0, 17, 351, 0), (0, 18, 348, 0), (0, 22, 346, 0), (0, 23, 345, 0), (0, 27, 344, 0), (0, 28, 291, 0), (0, 32, 250, 0), (0, 33, 249, 0), (0, 36, 248, 0), (0, 37, 246, 0), (0, 41, 245, 0), (0, 42, 237, 0), (0, 45, 231, 0), (0, 46, 226, 0), (0, 49, 220, 0), (0, 50, 217, 0), (0, 54, 214, 0), (0, 55, 212, 0), (0, 58, 211, 0), (0, 59, 209, 0), (0, 62, 208, 0), (0, 63, 183, 0), (0, 66, 168, 0), (0, 67, 166, 0), (0, 70, 165, 0), (0, 71, 159, 0), (0, 74, 149, 0), (0, 75, 145, 0), (0, 78, 143, 0), (0, 79, 139, 0), (0, 82, 137, 0), (0, 83, 134, 0), (0, 86, 133, 0), (0, 87, 131, 0), (0, 90, 129, 0), (0, 91, 128, 0), (0, 94, 127, 0), (0, 95, 126, 0), (0, 98, 125, 0), (0, 99, 120, 0), (0, 102, 117, 0), (0, 103, 115, 0), (0, 107, 112, 0), (0, 108, 111, 0), (0, 111, 110, 0), (0, 112, 109, 0), (0, 115, 108, 0)] : List (Nat × Nat × Nat × Nat)), m_P2 q := List.forall_mem_cons.mpr ⟨m_l2_0, List.forall_mem_cons.mpr ⟨m_l2_1, List.forall_mem_cons.mpr ⟨m_l2_2, List.forall_mem_cons.mpr ⟨m_l2_3, List.forall_mem_cons.mpr ⟨m_l2_4, List.forall_mem_cons.mpr ⟨m_l2_5, List.forall_mem_cons.mpr ⟨m_l2_6, List.forall_mem_cons.mpr ⟨m_l2_7, List.forall_mem_cons.mpr ⟨m_l2_8, List.forall_mem_cons.mpr ⟨m_l2_9, List.forall_mem_cons.mpr ⟨m_l2_10, List.forall_mem_cons.mpr ⟨m_l2_11, List.forall_mem_cons.mpr ⟨m_l2_12, List.forall_mem_cons.mpr ⟨m_l2_13, List.forall_mem_cons.mpr ⟨m_l2_14, List.forall_mem_cons.mpr ⟨m_l2_15, List.forall_mem_cons.mpr ⟨m_l2_16, List.forall_mem_cons.mpr ⟨m_l2_17, List.forall_mem_cons.mpr ⟨m_l2_18, List.forall_mem_cons.mpr ⟨m_l2_19, List.forall_mem_cons.mpr ⟨m_l2_20, List.forall_mem_cons.mpr ⟨m_l2_21, List.forall_mem_cons.mpr ⟨m_l2_22, List.forall_mem_cons.mpr ⟨m_l2_23, List.forall_mem_cons.mpr ⟨m_l2_24, List.forall_mem_cons.mpr ⟨m_l2_25, List.forall_mem_cons.mpr ⟨m_l2_26, List.forall_mem_cons.mpr ⟨m_l2_27, List.forall_mem_cons.mpr ⟨m_l2_28, List.forall_mem_cons.mpr ⟨m_l2_29, List.forall_mem_cons.mpr ⟨m_l2_30, List.forall_mem_cons.mpr ⟨m_l2_31, List.forall_mem_cons.mpr ⟨m_l2_32, List.forall_mem_cons.mpr ⟨m_l2_33, List.forall_mem_cons.mpr ⟨m_l2_34, List.forall_mem_cons.mpr ⟨m_l2_35, List.forall_mem_cons.mpr ⟨m_l2_36, List.forall_mem_cons.mpr ⟨m_l2_37, List.forall_mem_cons.mpr ⟨m_l2_38, List.forall_mem_cons.mpr ⟨m_l2_39, List.forall_mem_cons.mpr ⟨m_l2_40, List.forall_mem_cons.mpr ⟨m_l2_41, List.forall_mem_cons.mpr ⟨m_l2_42, List.forall_mem_cons.mpr ⟨m_l2_43, List.forall_mem_cons.mpr ⟨m_l2_44, List.forall_mem_cons.mpr ⟨m_l2_45, List.forall_mem_cons.mpr ⟨m_l2_46, List.forall_mem_cons.mpr ⟨m_l2_47, List.forall_mem_cons.mpr ⟨m_l2_48, List.forall_mem_cons.mpr ⟨m_l2_49, (fun _ h => absurd h List.not_mem_nil)⟩⟩⟩⟩⟩⟩⟩⟩⟩⟩⟩⟩⟩⟩⟩⟩⟩⟩⟩⟩⟩⟩⟩⟩⟩⟩⟩⟩⟩⟩⟩⟩⟩⟩⟩⟩⟩⟩⟩⟩⟩⟩⟩⟩⟩⟩⟩⟩⟩⟩
set_option maxRecDepth 100000 in
theorem m_l2c_1 : ∀ q ∈ ([(0, 116, 106, 0), (0, 119, 105, 0), (0, 120, 98, 0), (0, 123, 95, 0), (0, 124, 92, 0), (0, 127, 90, 0), (0, 128, 88, 0), (0, 131, 87, 0), (0, 132, 82, 0), (0, 136, 79, 0), (0, 137, 69, 0), (0, 140, 62, 0), (0, 141, 59, 0), (0, 145, 56, 0), (0, 146, 55, 0), (0, 149, 54, 0), (0, 150, 50, 0), (0, 154, 48, 0), (0, 155, 45, 0), (0, 158, 43, 0), (0, 159, 42, 0), (0, 162, 41, 0), (0, 163, 37, 0), (0, 166, 34, 0), (0, 167, 32, 0), (0, 171, 31, 0), (0, 172, 27, 0), (0, 175, 25, 0), (0, 176, 23, 0), (0, 179, 22, 0), (0, 180, 21, 0), (0, 183, 20, 0), (0, 184, 18, 0), (0, 187, 17, 0), (0, 188, 16, 0), (0, 191, 15, 0), (0, 192, 13, 0), (0, 195, 12, 0), (0, 196, 11, 0), (0, 199, 10, 0), (0, 200, 6, 0), (0, 203, 5, 0), (0, 204, 4, 0), (0, 207, 3, 0), (0, 208, 2, 0), (0, 211, 1, 0), (1, 81, 352, 0), (1, 77, 358, 0), (2, 245, 116, 0), (2, 383, 9, 0)] : List (Nat × Nat × Nat × Nat)), m_P2 q := List.forall_mem_cons.mpr ⟨m_l2_50, List.forall_mem_cons.mpr ⟨m_l2_51, List.forall_mem_cons.mpr ⟨m_l2_52, List.forall_mem_cons.mpr ⟨m_l2_53, List.forall_mem_cons.mpr ⟨m_l2_54, List.forall_mem_cons.mpr ⟨m_l2_55, List.forall_mem_cons.mpr ⟨m_l2_56, List.forall_mem_cons.mpr ⟨m_l2_57, List.forall_mem_cons.mpr ⟨m_l2_58, List.forall_mem_cons.mpr ⟨m_l2_59, List.forall_mem_cons.mpr ⟨m_l2_60, List.forall_mem_cons.mpr ⟨m_l2_61, List.forall_mem_cons.mpr ⟨m_l2_62, List.forall_mem_cons.mpr ⟨m_l2_63, List.forall_mem_cons.mpr ⟨m_l2_64, List.forall_mem_cons.mpr ⟨m_l2_65, List.forall_mem_cons.mpr ⟨m_l2_66, List.forall_mem_cons.mpr ⟨m_l2_67, List.forall_mem_cons.mpr ⟨m_l2_68, List.forall_mem_cons.mpr ⟨m_l2_69, List.forall_mem_cons.mpr ⟨m_l2_70, List.forall_mem_cons.mpr ⟨m_l2_71, List.forall_mem_cons.mpr ⟨m_l2_72, List.forall_mem_cons.mpr ⟨m_l2_73, List.forall_mem_cons.mpr ⟨m_l2_74, List.forall_mem_cons.mpr ⟨m_l2_75, List.forall_mem_cons.mpr ⟨m_l2_76, List.forall_mem_cons.mpr ⟨m_l2_77, List.forall_mem_cons.mpr ⟨m_l2_78, List.forall_mem_cons.mpr ⟨m_l2_79, List.forall_mem_cons.mpr ⟨m_l2_80, List.forall_mem_cons.mpr ⟨m_l2_81, List.forall_mem_cons.mpr ⟨m_l2_82, List.forall_mem_cons.mpr ⟨m_l2_83, List.forall_mem_cons.mpr ⟨m_l2_84, List.forall_mem_cons.mpr ⟨m_l2_85, List.forall_mem_cons.mpr ⟨m_l2_86, List.forall_mem_cons.mpr ⟨m_l2_87, List.forall_mem_cons.mpr ⟨m_l2_88, List.forall_mem_cons.mpr ⟨m_l2_89, List.forall_mem_cons.mpr ⟨m_l2_90, List.forall_mem_cons.mpr ⟨m_l2_91, List.forall_mem_cons.mpr ⟨m_l2_92, List.forall_mem_cons.mpr ⟨m_l2_93, List.forall_mem_cons.mpr ⟨m_l2_94, List.forall_mem_cons.mpr ⟨m_l2_95, List.forall_mem_cons.mpr ⟨m_l2_96, List.forall_mem_cons.mpr ⟨m_l2_97, List.forall_mem_cons.mpr ⟨m_l2_98, List.forall_mem_cons.mpr ⟨m_l2_99, (fun _ h => absurd h List.not_mem_nil)⟩⟩⟩⟩⟩⟩⟩⟩⟩⟩⟩⟩⟩⟩⟩⟩⟩⟩⟩⟩⟩⟩⟩⟩⟩⟩⟩⟩⟩⟩⟩⟩⟩⟩⟩⟩⟩⟩⟩⟩⟩⟩⟩⟩⟩⟩⟩⟩⟩⟩
set_option maxRecDepth 100000 in
theorem m_l2c_2 : ∀ q ∈ ([(2, 386, 7, 0), (3, 46, 8, 0), (4, 23, 103, 0), (5, 35, 9001, 0), (2, 212, 241, 0), (1, 89, 223, 0), (1, 85, 224, 0), (2, 380, 14, 0), (6, 44, 228, 0), (6, 25, 241, 0), (1, 352, 236, 0), (1, 426, 119, 0), (1, 429, 118, 0), (2, 208, 242, 0), (2, 239, 122, 0), (2, 242, 121, 0), (1, 365, 225, 0), (1, 342, 153, 0), (2, 177, 207, 0), (2, 376, 19, 0), (2, 276, 103, 0), (2, 230, 230, 0), (2, 223, 185, 0), (2, 342, 104, 0), (2, 100, 356, 0), (2, 348, 367, 0), (2, 367, 24, 0), (6, 29, 229, 0), (1, 444, 81, 0), (1, 500, 26, 0), (1, 264, 278, 0), (2, 363, 28, 0), (7, 66, 229, 0), (7, 33, 241, 0), (7, 70, 29, 0), (7, 74, 30, 0), (1, 291, 179, 0), (2, 359, 33, 0), (8, 65, 52, 0), (1, 495, 35, 0), (1, 492, 36, 0), (1, 93, 91, 0), (2, 351, 39, 0), (2, 355, 38, 0), (8, 90, 39, 0), (8, 32, 86, 0), (8, 78, 40, 0), (8, 43, 103, 0), (8, 85, 93, 0), (1, 489, 44, 0)] : List (Nat × Nat × Nat × Nat)), m_P2 q := List.forall_mem_cons.mpr ⟨m_l2_100, List.forall_mem_cons.mpr ⟨m_l2_101, List.forall_mem_cons.mpr ⟨m_l2_102, List.forall_mem_cons.mpr ⟨m_l2_103, List.forall_mem_cons.mpr ⟨m_l2_104, List.forall_mem_cons.mpr ⟨m_l2_105, List.forall_mem_cons.mpr ⟨m_l2_106, List.forall_mem_cons.mpr ⟨m_l2_107, List.forall_mem_cons.mpr ⟨m_l2_108, List.forall_mem_cons.mpr ⟨m_l2_109, List.forall_mem_cons.mpr ⟨m_l2_110, List.forall_mem_cons.mpr ⟨m_l2_111, List.forall_mem_cons.mpr ⟨m_l2_112, List.forall_mem_cons.mpr ⟨m_l2_113, List.forall_mem_cons.mpr ⟨m_l2_114, List.forall_mem_cons.mpr ⟨m_l2_115, List.forall_mem_cons.mpr ⟨m_l2_116, List.forall_mem_cons.mpr ⟨m_l2_117, List.forall_mem_cons.mpr ⟨m_l2_118, List.forall_mem_cons.mpr ⟨m_l2_119, List.forall_mem_cons.mpr ⟨m_l2_120, List.forall_mem_cons.mpr ⟨m_l2_121, List.forall_mem_cons.mpr ⟨m_l2_122, List.forall_mem_cons.mpr ⟨m_l2_123, List.forall_mem_cons.mpr ⟨m_l2_124, List.forall_mem_cons.mpr ⟨m_l2_125, List.forall_mem_cons.mpr ⟨m_l2_126, List.forall_mem_cons.mpr ⟨m_l2_127, List.forall_mem_cons.mpr ⟨m_l2_128, List.forall_mem_cons.mpr ⟨m_l2_129, List.forall_mem_cons.mpr ⟨m_l2_130, List.forall_mem_cons.mpr ⟨m_l2_131, List.forall_mem_cons.mpr ⟨m_l2_132, List.forall_mem_cons.mpr ⟨m_l2_133, List.forall_mem_cons.mpr ⟨m_l2_134, List.forall_mem_cons.mpr ⟨m_l2_135, List.forall_mem_cons.mpr ⟨m_l2_136, List.forall_mem_cons.mpr ⟨m_l2_137, List.forall_mem_cons.mpr ⟨m_l2_138, List.forall_mem_cons.mpr ⟨m_l2_139, List.forall_mem_cons.mpr ⟨m_l2_140, List.forall_mem_cons.mpr ⟨m_l2_141, List.forall_mem_cons.mpr ⟨m_l2_142, List.forall_mem_cons.mpr ⟨m_l2_143, List.forall_mem_cons.mpr ⟨m_l2_144, List.forall_mem_cons.mpr ⟨m_l2_145, List.forall_mem_cons.mpr ⟨m_l2_146, List.forall_mem_cons.mpr ⟨m_l2_147, List.forall_mem_cons.mpr ⟨m_l2_148, List.forall_mem_cons.mpr ⟨m_l2_149, (fun _ h => absurd h List.not_mem_nil)⟩⟩⟩⟩⟩⟩⟩⟩⟩⟩⟩⟩⟩⟩⟩⟩⟩⟩⟩⟩⟩⟩⟩⟩⟩⟩⟩⟩⟩⟩⟩⟩⟩⟩⟩⟩⟩⟩⟩⟩⟩⟩⟩⟩⟩⟩⟩⟩⟩⟩
set_option maxRecDepth 100000 in
theorem m_l2c_3 : ∀ q ∈ ([(2, 330, 229, 0), (2, 333, 46, 0), (2, 336, 47, 0), (6, 62, 47, 0), (6, 59, 330, 0), (1, 485, 49, 0), (2, 320, 51, 0), (8, 55, 53, 0), (8, 49, 369, 0), (8, 69, 189, 1), (2, 285, 89, 0), (1, 463, 68, 0), (1, 469, 58, 0), (1, 472, 57, 0), (1, 454, 66, 0), (2, 296, 78, 0), (2, 306, 77, 0), (2, 309, 61, 0), (2, 313, 60, 0), (9, 21, 76, 0), (9, 33, 73, 0), (9, 58, 242, 0), (1, 466, 63, 0), (1, 457, 64, 0), (1, 460, 65, 0), (1, 451, 67, 0), (2, 299, 70, 0), (2, 303, 76, 0), (9, 18, 77, 0), (9, 25, 71, 0), (9, 29, 74, 0), (9, 36, 72, 0), (9, 45, 75, 0), (9, 49, 241, 0), (9, 53, 190, 0), (1, 448, 80, 0), (2, 289, 83, 0), (8, 24, 84, 0), (8, 46, 85, 0), (2, 279, 93, 0), (6, 56, 94, 0), (6, 41, 242, 0), (6, 52, 190, 0), (1, 441, 96, 0), (1, 438, 97, 0), (2, 264, 100, 0), (2, 268, 99, 0), (7, 48, 103, 0), (7, 20, 104, 0), (7, 29, 228, 0)] : List (Nat × Nat × Nat × Nat)), m_P2 q := List.forall_mem_cons.mpr ⟨m_l2_150, List.forall_mem_cons.mpr ⟨m_l2_151, List.forall_mem_cons.mpr ⟨m_l2_152, List.forall_mem_cons.mpr ⟨m_l2_153, List.forall_mem_cons.mpr ⟨m_l2_154, List.forall_mem_cons.mpr ⟨m_l2_155, List.forall_mem_cons.mpr ⟨m_l2_156, List.forall_mem_cons.mpr ⟨m_l2_157, List.forall_mem_cons.mpr ⟨m_l2_158, List.forall_mem_cons.mpr ⟨m_l2_159, List.forall_mem_cons.mpr ⟨m_l2_160, List.forall_mem_cons.mpr ⟨m_l2_161, List.forall_mem_cons.mpr ⟨m_l2_162, List.forall_mem_cons.mpr ⟨m_l2_163, List.forall_mem_cons.mpr ⟨m_l2_164, List.forall_mem_cons.mpr ⟨m_l2_165, List.forall_mem_cons.mpr ⟨m_l2_166, List.forall_mem_cons.mpr ⟨m_l2_167, List.forall_mem_cons.mpr ⟨m_l2_168, List.forall_mem_cons.mpr ⟨m_l2_169, List.forall_mem_cons.mpr ⟨m_l2_170, List.forall_mem_cons.mpr ⟨m_l2_171, List.forall_mem_cons.mpr ⟨m_l2_172, List.forall_mem_cons.mpr ⟨m_l2_173, List.forall_mem_cons.mpr ⟨m_l2_174, List.forall_mem_cons.mpr ⟨m_l2_175, List.forall_mem_cons.mpr ⟨m_l2_176, List.forall_mem_cons.mpr ⟨m_l2_177, List.forall_mem_cons.mpr ⟨m_l2_178, List.forall_mem_cons.mpr ⟨m_l2_179, List.forall_mem_cons.mpr ⟨m_l2_180, List.forall_mem_cons.mpr ⟨m_l2_181, List.forall_mem_cons.mpr ⟨m_l2_182, List.forall_mem_cons.mpr ⟨m_l2_183, List.forall_mem_cons.mpr ⟨m_l2_184, List.forall_mem_cons.mpr ⟨m_l2_185, List.forall_mem_cons.mpr ⟨m_l2_186, List.forall_mem_cons.mpr ⟨m_l2_187, List.forall_mem_cons.mpr ⟨m_l2_188, List.forall_mem_cons.mpr ⟨m_l2_189, List.forall_mem_cons.mpr ⟨m_l2_190, List.forall_mem_cons.mpr ⟨m_l2_191, List.forall_mem_cons.mpr ⟨m_l2_192, List.forall_mem_cons.mpr ⟨m_l2_193, List.forall_mem_cons.mpr ⟨m_l2_194, List.forall_mem_cons.mpr ⟨m_l2_195, List.forall_mem_cons.mpr ⟨m_l2_196, List.forall_mem_cons.mpr ⟨m_l2_197, List.forall_mem_cons.mpr ⟨m_l2_198, List.forall_mem_cons.mpr ⟨m_l2_199, (fun _ h => absurd h List.not_mem_nil)⟩⟩⟩⟩⟩⟩⟩⟩⟩⟩⟩⟩⟩⟩⟩⟩⟩⟩⟩⟩⟩⟩⟩⟩⟩⟩⟩⟩⟩⟩⟩⟩⟩⟩⟩⟩⟩⟩⟩⟩⟩⟩⟩⟩⟩⟩⟩⟩⟩⟩
set_option maxRecDepth 100000 in
theorem m_l2c_4 : ∀ q ∈ ([(7, 37, 101, 0), (7, 45, 367, 0), (7, 52, 102, 0), (7, 56, 107, 0), (2, 258, 107, 0), (1, 314, 158, 0), (2, 215, 204, 0), (1, 432, 114, 0), (1, 389, 151, 0), (1, 435, 113, 0), (2, 251, 164, 0), (2, 160, 206, 0), (2, 247, 161, 0), (6, 15, 9001, 0), (2, 233, 124, 0), (2, 236, 123, 0), (1, 377, 172, 0), (1, 285, 181, 0), (1, 333, 156, 0), (1, 336, 155, 0), (1, 423, 130, 0), (2, 218, 194, 0), (2, 227, 132, 0), (2, 201, 135, 0), (5, 29, 244, 0), (5, 41, 136, 0), (1, 358, 234, 0), (1, 349, 152, 0), (1, 419, 138, 0), (1, 355, 235, 0), (1, 361, 232, 0), (1, 368, 221, 0), (1, 374, 215, 0), (1, 345, 233, 0), (1, 371, 216, 0), (1, 383, 171, 0), (1, 386, 169, 0), (2, 131, 243, 0), (2, 188, 142, 0), (2, 191, 162, 0), (2, 195, 140, 0), (2, 198, 239, 0), (2, 135, 240, 0), (2, 421, 141, 0), (2, 143, 227, 0), (2, 146, 219, 0), (2, 154, 213, 0), (2, 163, 184, 0), (1, 416, 144, 0), (1, 395, 351, 0)] : List (Nat × Nat × Nat × Nat)), m_P2 q := List.forall_mem_cons.mpr ⟨m_l2_200, List.forall_mem_cons.mpr ⟨m_l2_201, List.forall_mem_cons.mpr ⟨m_l2_202, List.forall_mem_cons.mpr ⟨m_l2_203, List.forall_mem_cons.mpr ⟨m_l2_204, List.forall_mem_cons.mpr ⟨m_l2_205, List.forall_mem_cons.mpr ⟨m_l2_206, List.forall_mem_cons.mpr ⟨m_l2_207, List.forall_mem_cons.mpr ⟨m_l2_208, List.forall_mem_cons.mpr ⟨m_l2_209, List.forall_mem_cons.mpr ⟨m_l2_210, List.forall_mem_cons.mpr ⟨m_l2_211, List.forall_mem_cons.mpr ⟨m_l2_212, List.forall_mem_cons.mpr ⟨m_l2_213, List.forall_mem_cons.mpr ⟨m_l2_214, List.forall_mem_cons.mpr ⟨m_l2_215, List.forall_mem_cons.mpr ⟨m_l2_216, List.forall_mem_cons.mpr ⟨m_l2_217, List.forall_mem_cons.mpr ⟨m_l2_218, List.forall_mem_cons.mpr ⟨m_l2_219, List.forall_mem_cons.mpr ⟨m_l2_220, List.forall_mem_cons.mpr ⟨m_l2_221, List.forall_mem_cons.mpr ⟨m_l2_222, List.forall_mem_cons.mpr ⟨m_l2_223, List.forall_mem_cons.mpr ⟨m_l2_224, List.forall_mem_cons.mpr ⟨m_l2_225, List.forall_mem_cons.mpr ⟨m_l2_226, List.forall_mem_cons.mpr ⟨m_l2_227, List.forall_mem_cons.mpr ⟨m_l2_228, List.forall_mem_cons.mpr ⟨m_l2_229, List.forall_mem_cons.mpr ⟨m_l2_230, List.forall_mem_cons.mpr ⟨m_l2_231, List.forall_mem_cons.mpr ⟨m_l2_232, List.forall_mem_cons.mpr ⟨m_l2_233, List.forall_mem_cons.mpr ⟨m_l2_234, List.forall_mem_cons.mpr ⟨m_l2_235, List.forall_mem_cons.mpr ⟨m_l2_236, List.forall_mem_cons.mpr ⟨m_l2_237, List.forall_mem_cons.mpr ⟨m_l2_238, List.forall_mem_cons.mpr ⟨m_l2_239, List.forall_mem_cons.mpr ⟨m_l2_240, List.forall_mem_cons.mpr ⟨m_l2_241, List.forall_mem_cons.mpr ⟨m_l2_242, List.forall_mem_cons.mpr ⟨m_l2_243, List.forall_mem_cons.mpr ⟨m_l2_244, List.forall_mem_cons.mpr ⟨m_l2_245, List.forall_mem_cons.mpr ⟨m_l2_246, List.forall_mem_cons.mpr ⟨m_l2_247, List.forall_mem_cons.mpr ⟨m_l2_248, List.forall_mem_cons.mpr ⟨m_l2_249, (fun _ h => absurd h List.not_mem_nil)⟩⟩⟩⟩⟩⟩⟩⟩⟩⟩⟩⟩⟩⟩⟩⟩⟩⟩⟩⟩⟩⟩⟩⟩⟩⟩⟩⟩⟩⟩⟩⟩⟩⟩⟩⟩⟩⟩⟩⟩⟩⟩⟩⟩⟩⟩⟩⟩⟩⟩
set_option maxRecDepth 100000 in
theorem m_l2c_5 : ∀ q ∈ ([(1, 398, 231, 0), (1, 401, 220, 0), (1, 404, 214, 0), (1, 407, 211, 0), (1, 410, 168, 0), (1, 413, 165, 0), (1, 392, 150, 0), (2, 184, 146, 0), (2, 394, 148, 0), (2, 397, 147, 0), (2, 400, 353, 0), (2, 403, 237, 0), (2, 406, 226, 0), (2, 409, 217, 0), (2, 412, 212, 0), (2, 415, 183, 0), (2, 418, 166, 0), (2, 174, 160, 0), (11, 43, 202, 0), (11, 47, 200, 0), (11, 51, 201, 0), (11, 54, 199, 0), (1, 339, 154, 0), (1, 310, 222, 0), (1, 324, 182, 0), (1, 320, 173, 0), (1, 317, 157, 0), (12, 40, 164, 0), (12, 49, 241, 0), (12, 52, 185, 0), (12, 31, 330, 0), (12, 56, 355, 0), (12, 60, 204, 0), (12, 63, 163, 0), (12, 67, 228, 0), (12, 71, 162, 0), (6, 37, 355, 0), (1, 380, 170, 0), (2, 167, 167, 0), (2, 139, 238, 0), (12, 75, 229, 0), (1, 307, 174, 0), (1, 288, 180, 0), (1, 295, 177, 0), (1, 299, 176, 0), (1, 303, 175, 0), (1, 281, 178, 0), (12, 15, 317, 0), (12, 21, 203, 0), (12, 25, 186, 0)] : List (Nat × Nat × Nat × Nat)), m_P2 q := List.forall_mem_cons.mpr ⟨m_l2_250, List.forall_mem_cons.mpr ⟨m_l2_251, List.forall_mem_cons.mpr ⟨m_l2_252, List.forall_mem_cons.mpr ⟨m_l2_253, List.forall_mem_cons.mpr ⟨m_l2_254, List.forall_mem_cons.mpr ⟨m_l2_255, List.forall_mem_cons.mpr ⟨m_l2_256, List.forall_mem_cons.mpr ⟨m_l2_257, List.forall_mem_cons.mpr ⟨m_l2_258, List.forall_mem_cons.mpr ⟨m_l2_259, List.forall_mem_cons.mpr ⟨m_l2_260, List.forall_mem_cons.mpr ⟨m_l2_261, List.forall_mem_cons.mpr ⟨m_l2_262, List.forall_mem_cons.mpr ⟨m_l2_263, List.forall_mem_cons.mpr ⟨m_l2_264, List.forall_mem_cons.mpr ⟨m_l2_265, List.forall_mem_cons.mpr ⟨m_l2_266, List.forall_mem_cons.mpr ⟨m_l2_267, List.forall_mem_cons.mpr ⟨m_l2_268, List.forall_mem_cons.mpr ⟨m_l2_269, List.forall_mem_cons.mpr ⟨m_l2_270, List.forall_mem_cons.mpr ⟨m_l2_271, List.forall_mem_cons.mpr ⟨m_l2_272, List.forall_mem_cons.mpr ⟨m_l2_273, List.forall_mem_cons.mpr ⟨m_l2_274, List.forall_mem_cons.mpr ⟨m_l2_275, List.forall_mem_cons.mpr ⟨m_l2_276, List.forall_mem_cons.mpr ⟨m_l2_277, List.forall_mem_cons.mpr ⟨m_l2_278, List.forall_mem_cons.mpr ⟨m_l2_279, List.forall_mem_cons.mpr ⟨m_l2_280, List.forall_mem_cons.mpr ⟨m_l2_281, List.forall_mem_cons.mpr ⟨m_l2_282, List.forall_mem_cons.mpr ⟨m_l2_283, List.forall_mem_cons.mpr ⟨m_l2_284, List.forall_mem_cons.mpr ⟨m_l2_285, List.forall_mem_cons.mpr ⟨m_l2_286, List.forall_mem_cons.mpr ⟨m_l2_287, List.forall_mem_cons.mpr ⟨m_l2_288, List.forall_mem_cons.mpr ⟨m_l2_289, List.forall_mem_cons.mpr ⟨m_l2_290, List.forall_mem_cons.mpr ⟨m_l2_291, List.forall_mem_cons.mpr ⟨m_l2_292, List.forall_mem_cons.mpr ⟨m_l2_293, List.forall_mem_cons.mpr ⟨m_l2_294, List.forall_mem_cons.mpr ⟨m_l2_295, List.forall_mem_cons.mpr ⟨m_l2_296, List.forall_mem_cons.mpr ⟨m_l2_297, List.forall_mem_cons.mpr ⟨m_l2_298, List.forall_mem_cons.mpr ⟨m_l2_299, (fun _ h => absurd h List.not_mem_nil)⟩⟩⟩⟩⟩⟩⟩⟩⟩⟩⟩⟩⟩⟩⟩⟩⟩⟩⟩⟩⟩⟩⟩⟩⟩⟩⟩⟩⟩⟩⟩⟩⟩⟩⟩⟩⟩⟩⟩⟩⟩⟩⟩⟩⟩⟩⟩⟩⟩⟩
set_option maxRecDepth 100000 in
theorem m_l2c_6 : ∀ q ∈ ([(12, 37, 369, 0), (12, 86, 201, 0), (12, 89, 200, 0), (12, 92, 199, 0), (12, 95, 198, 0), (12, 99, 302, 0), (12, 102, 196, 0), (12, 105, 195, 0), (12, 108, 194, 0), (12, 111, 187, 0), (12, 118, 191, 0), (12, 122, 189, 1), (12, 125, 188, 0), (2, 389, 190, 0), (12, 133, 193, 0), (12, 136, 192, 0), (12, 79, 205, 0), (12, 115, 197, 0), (6, 47, 369, 0), (2, 124, 247, 0), (2, 157, 210, 0), (2, 150, 218, 0), (6, 33, 356, 1), (6, 21, 230, 0), (1, 274, 251, 0), (1, 191, 286, 0), (1, 271, 252, 0), (1, 258, 279, 0), (1, 268, 253, 0), (1, 147, 282, 0), (1, 248, 275, 0), (1, 252, 273, 0), (1, 135, 285, 0), (1, 237, 277, 0), (1, 255, 254, 0), (1, 241, 255, 0), (1, 231, 261, 0), (1, 234, 256, 0), (1, 185, 271, 0), (1, 213, 264, 0), (1, 194, 260, 0), (1, 197, 259, 0), (1, 174, 265, 0), (1, 200, 262, 0), (1, 203, 258, 0), (1, 157, 280, 0), (1, 206, 281, 0), (1, 139, 284, 0), (1, 210, 257, 0), (1, 188, 270, 0)] : List (Nat × Nat × Nat × Nat)), m_P2 q := List.forall_mem_cons.mpr ⟨m_l2_300, List.forall_mem_cons.mpr ⟨m_l2_301, List.forall_mem_cons.mpr ⟨m_l2_302, List.forall_mem_cons.mpr ⟨m_l2_303, List.forall_mem_cons.mpr ⟨m_l2_304, List.forall_mem_cons.mpr ⟨m_l2_305, List.forall_mem_cons.mpr ⟨m_l2_306, List.forall_mem_cons.mpr ⟨m_l2_307, List.forall_mem_cons.mpr ⟨m_l2_308, List.forall_mem_cons.mpr ⟨m_l2_309, List.forall_mem_cons.mpr ⟨m_l2_310, List.forall_mem_cons.mpr ⟨m_l2_311, List.forall_mem_cons.mpr ⟨m_l2_312, List.forall_mem_cons.mpr ⟨m_l2_313, List.forall_mem_cons.mpr ⟨m_l2_314, List.forall_mem_cons.mpr ⟨m_l2_315, List.forall_mem_cons.mpr ⟨m_l2_316, List.forall_mem_cons.mpr ⟨m_l2_317, List.forall_mem_cons.mpr ⟨m_l2_318, List.forall_mem_cons.mpr ⟨m_l2_319, List.forall_mem_cons.mpr ⟨m_l2_320, List.forall_mem_cons.mpr ⟨m_l2_321, List.forall_mem_cons.mpr ⟨m_l2_322, List.forall_mem_cons.mpr ⟨m_l2_323, List.forall_mem_cons.mpr ⟨m_l2_324, List.forall_mem_cons.mpr ⟨m_l2_325, List.forall_mem_cons.mpr ⟨m_l2_326, List.forall_mem_cons.mpr ⟨m_l2_327, List.forall_mem_cons.mpr ⟨m_l2_328, List.forall_mem_cons.mpr ⟨m_l2_329, List.forall_mem_cons.mpr ⟨m_l2_330, List.forall_mem_cons.mpr ⟨m_l2_331, List.forall_mem_cons.mpr ⟨m_l2_332, List.forall_mem_cons.mpr ⟨m_l2_333, List.forall_mem_cons.mpr ⟨m_l2_334, List.forall_mem_cons.mpr ⟨m_l2_335, List.forall_mem_cons.mpr ⟨m_l2_336, List.forall_mem_cons.mpr ⟨m_l2_337, List.forall_mem_cons.mpr ⟨m_l2_338, List.forall_mem_cons.mpr ⟨m_l2_339, List.forall_mem_cons.mpr ⟨m_l2_340, List.forall_mem_cons.mpr ⟨m_l2_341, List.forall_mem_cons.mpr ⟨m_l2_342, List.forall_mem_cons.mpr ⟨m_l2_343, List.forall_mem_cons.mpr ⟨m_l2_344, List.forall_mem_cons.mpr ⟨m_l2_345, List.forall_mem_cons.mpr ⟨m_l2_346, List.forall_mem_cons.mpr ⟨m_l2_347, List.forall_mem_cons.mpr ⟨m_l2_348, List.forall_mem_cons.mpr ⟨m_l2_349, (fun _ h => absurd h List.not_mem_nil)⟩⟩⟩⟩⟩⟩⟩⟩⟩⟩⟩⟩⟩⟩⟩⟩⟩⟩⟩⟩⟩⟩⟩⟩⟩⟩⟩⟩⟩⟩⟩⟩⟩⟩⟩⟩⟩⟩⟩⟩⟩⟩⟩⟩⟩⟩⟩⟩⟩⟩
set_option maxRecDepth 100000 in
theorem m_l2c_7 : ∀ q ∈ ([(1, 171, 269, 0), (1, 143, 283, 0), (1, 161, 274, 0), (1, 225, 266, 0), (1, 228, 263, 0), (1, 181, 272, 0), (1, 219, 268, 0), (1, 222, 267, 0), (1, 244, 276, 0), (1, 107, 290, 0), (1, 116, 289, 0), (1, 123, 288, 0), (1, 132, 287, 0), (2, 107, 293, 0), (2, 114, 292, 0), (11, 57, 9001, 0), (14, 32, 343, 0), (14, 38, 321, 0), (14, 46, 294, 0), (14, 89, 320, 0), (14, 92, 319, 0), (14, 95, 318, 0), (14, 98, 317, 0), (14, 107, 316, 0), (14, 111, 297, 0), (14, 114, 296, 0), (14, 117, 295, 0), (14, 120, 312, 0), (14, 126, 314, 0), (14, 137, 298, 0), (14, 140, 311, 0), (14, 143, 299, 0), (14, 146, 313, 0), (14, 149, 310, 0), (14, 152, 303, 0), (14, 155, 300, 0), (14, 158, 302, 0), (14, 161, 301, 0), (15, 27, 302, 0), (14, 164, 306, 0), (14, 167, 305, 0), (14, 170, 304, 0), (11, 40, 311, 0), (11, 36, 315, 0), (14, 173, 307, 0), (14, 176, 308, 0), (14, 179, 309, 0), (14, 130, 356, 1), (14, 134, 315, 0), (14, 53, 342, 0)] : List (Nat × Nat × Nat × Nat)), m_P2 q := List.forall_mem_cons.mpr ⟨m_l2_350, List.forall_mem_cons.mpr ⟨m_l2_351, List.forall_mem_cons.mpr ⟨m_l2_352, List.forall_mem_cons.mpr ⟨m_l2_353, List.forall_mem_cons.mpr ⟨m_l2_354, List.forall_mem_cons.mpr ⟨m_l2_355, List.forall_mem_cons.mpr ⟨m_l2_356, List.forall_mem_cons.mpr ⟨m_l2_357, List.forall_mem_cons.mpr ⟨m_l2_358, List.forall_mem_cons.mpr ⟨m_l2_359, List.forall_mem_cons.mpr ⟨m_l2_360, List.forall_mem_cons.mpr ⟨m_l2_361, List.forall_mem_cons.mpr ⟨m_l2_362, List.forall_mem_cons.mpr ⟨m_l2_363, List.forall_mem_cons.mpr ⟨m_l2_364, List.forall_mem_cons.mpr ⟨m_l2_365, List.forall_mem_cons.mpr ⟨m_l2_366, List.forall_mem_cons.mpr ⟨m_l2_367, List.forall_mem_cons.mpr ⟨m_l2_368, List.forall_mem_cons.mpr ⟨m_l2_369, List.forall_mem_cons.mpr ⟨m_l2_370, List.forall_mem_cons.mpr ⟨m_l2_371, List.forall_mem_cons.mpr ⟨m_l2_372, List.forall_mem_cons.mpr ⟨m_l2_373, List.forall_mem_cons.mpr ⟨m_l2_374, List.forall_mem_cons.mpr ⟨m_l2_375, List.forall_mem_cons.mpr ⟨m_l2_376, List.forall_mem_cons.mpr ⟨m_l2_377, List.forall_mem_cons.mpr ⟨m_l2_378, List.forall_mem_cons.mpr ⟨m_l2_379, List.forall_mem_cons.mpr ⟨m_l2_380, List.forall_mem_cons.mpr ⟨m_l2_381, List.forall_mem_cons.mpr ⟨m_l2_382, List.forall_mem_cons.mpr ⟨m_l2_383, List.forall_mem_cons.mpr ⟨m_l2_384, List.forall_mem_cons.mpr ⟨m_l2_385, List.forall_mem_cons.mpr ⟨m_l2_386, List.forall_mem_cons.mpr ⟨m_l2_387, List.forall_mem_cons.mpr ⟨m_l2_388, List.forall_mem_cons.mpr ⟨m_l2_389, List.forall_mem_cons.mpr ⟨m_l2_390, List.forall_mem_cons.mpr ⟨m_l2_391, List.forall_mem_cons.mpr ⟨m_l2_392, List.forall_mem_cons.mpr ⟨m_l2_393, List.forall_mem_cons.mpr ⟨m_l2_394, List.forall_mem_cons.mpr ⟨m_l2_395, List.forall_mem_cons.mpr ⟨m_l2_396, List.forall_mem_cons.mpr ⟨m_l2_397, List.forall_mem_cons.mpr ⟨m_l2_398, List.forall_mem_cons.mpr ⟨m_l2_399, (fun _ h => absurd h List.not_mem_nil)⟩⟩⟩⟩⟩⟩⟩⟩⟩⟩⟩⟩⟩⟩⟩⟩⟩⟩⟩⟩⟩⟩⟩⟩⟩⟩⟩⟩⟩⟩⟩⟩⟩⟩⟩⟩⟩⟩⟩⟩⟩⟩⟩⟩⟩⟩⟩⟩⟩⟩
set_option maxRecDepth 100000 in
theorem m_l2c_8 : ∀ q ∈ ([(14, 57, 341, 0), (14, 60, 332, 0), (14, 63, 331, 0), (14, 66, 329, 0), (14, 69, 322, 0), (14, 85, 323, 0), (15, 23, 324, 0), (16, 633, 325, 0), (16, 492, 338, 0), (16, 505, 339, 0), (16, 637, 326, 0), (17, 88, 328, 0), (17, 92, 369, 0), (17, 38, 330, 0), (17, 95, 327, 0), (14, 79, 330, 0), (14, 72, 333, 0), (15, 11, 339, 0), (15, 17, 334, 0), (16, 495, 335, 0), (17, 9, 336, 0), (16, 1059, 337, 0), (16, 335, 340, 0), (1, 100, 347, 0), (2, 88, 350, 0), (2, 92, 349, 0), (2, 84, 354, 0), (1, 1, 9000, 0), (2, 1, 9000, 0), (2, 9, 371, 0), (2, 18, 370, 0), (2, 25, 366, 0), (2, 48, 365, 0), (2, 51, 364, 0), (2, 58, 363, 0), (2, 65, 362, 0), (2, 72, 361, 0), (2, 79, 360, 0), (8, 3, 9000, 0), (7, 3, 9000, 0), (7, 11, 368, 0), (9, 3, 9000, 0), (12, 3, 9000, 0), (14, 3, 9000, 0), (14, 11, 365, 0), (11, 3, 9000, 0), (3, 3, 9000, 0), (3, 11, 368, 0), (3, 20, 367, 0), (4, 1, 9000, 0)] : List (Nat × Nat × Nat × Nat)), m_P2 q := List.forall_mem_cons.mpr ⟨m_l2_400, List.forall_mem_cons.mpr ⟨m_l2_401, List.forall_mem_cons.mpr ⟨m_l2_402, List.forall_mem_cons.mpr ⟨m_l2_403, List.forall_mem_cons.mpr ⟨m_l2_404, List.forall_mem_cons.mpr ⟨m_l2_405, List.forall_mem_cons.mpr ⟨m_l2_406, List.forall_mem_cons.mpr ⟨m_l2_407, List.forall_mem_cons.mpr ⟨m_l2_408, List.forall_mem_cons.mpr ⟨m_l2_409, List.forall_mem_cons.mpr ⟨m_l2_410, List.forall_mem_cons.mpr ⟨m_l2_411, List.forall_mem_cons.mpr ⟨m_l2_412, List.forall_mem_cons.mpr ⟨m_l2_413, List.forall_mem_cons.mpr ⟨m_l2_414, List.forall_mem_cons.mpr ⟨m_l2_415, List.forall_mem_cons.mpr ⟨m_l2_416, List.forall_mem_cons.mpr ⟨m_l2_417, List.forall_mem_cons.mpr ⟨m_l2_418, List.forall_mem_cons.mpr ⟨m_l2_419, List.forall_mem_cons.mpr ⟨m_l2_420, List.forall_mem_cons.mpr ⟨m_l2_421, List.forall_mem_cons.mpr ⟨m_l2_422, List.forall_mem_cons.mpr ⟨m_l2_423, List.forall_mem_cons.mpr ⟨m_l2_424, List.forall_mem_cons.mpr ⟨m_l2_425, List.forall_mem_cons.mpr ⟨m_l2_426, List.forall_mem_cons.mpr ⟨m_l2_427, List.forall_mem_cons.mpr ⟨m_l2_428, List.forall_mem_cons.mpr ⟨m_l2_429, List.forall_mem_cons.mpr ⟨m_l2_430, List.forall_mem_cons.mpr ⟨m_l2_431, List.forall_mem_cons.mpr ⟨m_l2_432, List.forall_mem_cons.mpr ⟨m_l2_433, List.forall_mem_cons.mpr ⟨m_l2_434, List.forall_mem_cons.mpr ⟨m_l2_435, List.forall_mem_cons.mpr ⟨m_l2_436, List.forall_mem_cons.mpr ⟨m_l2_437, List.forall_mem_cons.mpr ⟨m_l2_438, List.forall_mem_cons.mpr ⟨m_l2_439, List.forall_mem_cons.mpr ⟨m_l2_440, List.forall_mem_cons.mpr ⟨m_l2_441, List.forall_mem_cons.mpr ⟨m_l2_442, List.forall_mem_cons.mpr ⟨m_l2_443, List.forall_mem_cons.mpr ⟨m_l2_444, List.forall_mem_cons.mpr ⟨m_l2_445, List.forall_mem_cons.mpr ⟨m_l2_446, List.forall_mem_cons.mpr ⟨m_l2_447, List.forall_mem_cons.mpr ⟨m_l2_448, List.forall_mem_cons.mpr ⟨m_l2_449, (fun _ h => absurd h List.not_mem_nil)⟩⟩⟩⟩⟩⟩⟩⟩⟩⟩⟩⟩⟩⟩⟩⟩⟩⟩⟩⟩⟩⟩⟩⟩⟩⟩⟩⟩⟩⟩⟩⟩⟩⟩⟩⟩⟩⟩⟩⟩⟩⟩⟩⟩⟩⟩⟩⟩⟩⟩
set_option maxRecDepth 100000 in
theorem m_l2c_9 : ∀ q ∈ ([(4, 7, 369, 0), (5, 3, 9000, 0), (6, 3, 9000, 0)] : List (Nat × Nat × Nat × Nat)), m_P2 q := List.forall_mem_cons.mpr ⟨m_l2_450, List.forall_mem_cons.mpr ⟨m_l2_451, List.forall_mem_cons.mpr ⟨m_l2_452, (fun _ h => absurd h List.not_mem_nil)⟩⟩⟩
set_option maxRecDepth 100000 in
theorem m_l2_all : ∀ q ∈ m_lm, m_P2 q := List.forall_mem_append.mpr ⟨m_l2c_0, List.forall_mem_append.mpr ⟨m_l2c_1, List.forall_mem_append.mpr ⟨m_l2c_2, List.forall_mem_append.mpr ⟨m_l2c_3, List.forall_mem_append.mpr ⟨m_l2c_4, List.forall_mem_append.mpr ⟨m_l2c_5, List.forall_mem_append.mpr ⟨m_l2c_6, List.forall_mem_append.mpr ⟨m_l2c_7, List.forall_mem_append.mpr ⟨m_l2c_8, m_l2c_9⟩⟩⟩⟩⟩⟩⟩⟩⟩
theorem m_T2_ok : m_T2 := ⟨fun j q h => m_l2_all q (List.mem_of_getElem? h), m_in1 (i := 28) rfl rfl, m_in1 (i := 29) rfl rfl, m_in3 (i := 143) rfl rfl, m_in3 (i := 142) rfl rfl, m_in1 (i := 20) rfl rfl⟩
set_option maxRecDepth 100000 in
theorem m_l3_0 : m_P3 (1, 7, 11, 0) := ⟨fun _ => ⟨RX12, TX12, 36, rfl, by decide, m_in6 (i := 61) rfl rfl⟩, fun h => absurd h (by decide)⟩
set_option maxRecDepth 100000 in
theorem m_l3_1 : m_P3 (1, 97, 11, 4) := ⟨fun _ => ⟨RX12, TX12, 36, rfl, by decide, m_in6 (i := 65) rfl rfl⟩, fun h => absurd h (by decide)⟩
set_option maxRecDepth 100000 in
theorem m_l3_2 : m_P3 (2, 10, 10, 0) := ⟨fun _ => ⟨RX11, TX11, 13, rfl, by decide, m_in2 (i := 44) rfl rfl⟩, fun h => absurd h (by decide)⟩
set_option maxRecDepth 100000 in
theorem m_l3_3 : m_P3 (2, 170, 9, 0) := ⟨fun _ => ⟨RX10, TX10, 1, rfl, by decide, m_in1 (i := 42) rfl rfl⟩, fun h => absurd h (by decide)⟩
set_option maxRecDepth 100000 in
theorem m_l3_4 : m_P3 (2, 26, 10, 2) := ⟨fun _ => ⟨RX11, TX11, 13, rfl, by decide, m_in2 (i := 46) rfl rfl⟩, fun h => absurd h (by decide)⟩
set_option maxRecDepth 100000 in
theorem m_l3_5 : m_P3 (2, 104, 7, 7) := ⟨fun _ => ⟨RX7, TX7, 9, rfl, by decide, m_in1 (i := 112) rfl rfl⟩, fun h => absurd h (by decide)⟩
set_option maxRecDepth 100000 in
theorem m_l3_6 : m_P3 (2, 128, 7, 8) := ⟨fun _ => ⟨RX7, TX7, 9, rfl, by decide, m_in1 (i := 114) rfl rfl⟩, fun h => absurd h (by decide)⟩
set_option maxRecDepth 100000 in
theorem m_l3_7 : m_P3 (2, 19, 10, 1) := ⟨fun _ => ⟨RX11, TX11, 13, rfl, by decide, m_in2 (i := 45) rfl rfl⟩, fun h => absurd h (by decide)⟩
set_option maxRecDepth 100000 in
theorem m_l3_8 : m_P3 (2, 205, 6, 2) := ⟨fun _ => ⟨RX6, TX6, 3, rfl, by decide, m_in1 (i := 58) rfl rfl⟩, fun h => absurd h (by decide)⟩
set_option maxRecDepth 100000 in
theorem m_l3_9 : m_P3 (2, 282, 7, 1) := ⟨fun _ => ⟨RX7, TX7, 9, rfl, by decide, m_in1 (i := 98) rfl rfl⟩, fun h => absurd h (by decide)⟩
set_option maxRecDepth 100000 in
theorem m_l3_10 : m_P3 (2, 275, 4, 1) := ⟨fun _ => ⟨RX4, TX4, 2, rfl, by decide, m_in1 (i := 85) rfl rfl⟩, fun h => absurd h (by decide)⟩
set_option maxRecDepth 100000 in
theorem m_l3_11 : m_P3 (2, 317, 7, 2) := ⟨fun _ => ⟨RX7, TX7, 9, rfl, by decide, m_in1 (i := 100) rfl rfl⟩, fun h => absurd h (by decide)⟩
set_option maxRecDepth 100000 in
theorem m_l3_12 : m_P3 (2, 339, 7, 3) := ⟨fun _ => ⟨RX7, TX7, 9, rfl, by decide, m_in1 (i := 103) rfl rfl⟩, fun h => absurd h (by decide)⟩
set_option maxRecDepth 100000 in
theorem m_l3_13 : m_P3 (2, 370, 7, 5) := ⟨fun _ => ⟨RX7, TX7, 9, rfl, by decide, m_in1 (i := 108) rfl rfl⟩, fun h => absurd h (by decide)⟩
set_option maxRecDepth 100000 in
theorem m_l3_14 : m_P3 (2, 52, 10, 8) := ⟨fun _ => ⟨RX11, TX11, 13, rfl, by decide, m_in2 (i := 52) rfl rfl⟩, fun h => absurd h (by decide)⟩
set_option maxRecDepth 100000 in
theorem m_l3_15 : m_P3 (2, 96, 3, 2) := ⟨fun _ => ⟨RX3, TX3, 10, rfl, by decide, m_in1 (i := 177) rfl rfl⟩, fun h => absurd h (by decide)⟩
set_option maxRecDepth 100000 in
theorem m_l3_16 : m_P3 (1, 13, 11, 1) := ⟨fun _ => ⟨RX12, TX12, 36, rfl, by decide, m_in6 (i := 62) rfl rfl⟩, fun h => absurd h (by decide)⟩
set_option maxRecDepth 100000 in
theorem m_l3_17 : m_P3 (2, 30, 10, 3) := ⟨fun _ => ⟨RX11, TX11, 13, rfl, by decide, m_in2 (i := 47) rfl rfl⟩, fun h => absurd h (by decide)⟩
set_option maxRecDepth 100000 in
theorem m_l3_18 : m_P3 (2, 33, 10, 4) := ⟨fun _ => ⟨RX11, TX11, 13, rfl, by decide, m_in2 (i := 48) rfl rfl⟩, fun h => absurd h (by decide)⟩
set_option maxRecDepth 100000 in
theorem m_l3_19 : m_P3 (2, 36, 10, 5) := ⟨fun _ => ⟨RX11, TX11, 13, rfl, by decide, m_in2 (i := 49) rfl rfl⟩, fun h => absurd h (by decide)⟩
set_option maxRecDepth 100000 in
theorem m_l3_20 : m_P3 (3, 14, 7, 0) := ⟨fun _ => ⟨RX7, TX7, 9, rfl, by decide, m_in1 (i := 95) rfl rfl⟩, fun h => absurd h (by decide)⟩
set_option maxRecDepth 100000 in
theorem m_l3_21 : m_P3 (3, 24, 7, 1) := ⟨fun _ => ⟨RX7, TX7, 9, rfl, by decide, m_in1 (i := 97) rfl rfl⟩, fun h => absurd h (by decide)⟩
set_option maxRecDepth 100000 in
theorem m_l3_22 : m_P3 (3, 27, 7, 2) := ⟨fun _ => ⟨RX7, TX7, 9, rfl, by decide, m_in1 (i := 99) rfl rfl⟩, fun h => absurd h (by decide)⟩
set_option maxRecDepth 100000 in
theorem m_l3_23 : m_P3 (3, 30, 7, 3) := ⟨fun _ => ⟨RX7, TX7, 9, rfl, by decide, m_in1 (i := 101) rfl rfl⟩, fun h => absurd h (by decide)⟩
set_option maxRecDepth 100000 in
theorem m_l3_24 : m_P3 (3, 33, 7, 4) := ⟨fun _ => ⟨RX7, TX7, 9, rfl, by decide, m_in1 (i := 104) rfl rfl⟩, fun h => absurd h (by decide)⟩
set_option maxRecDepth 100000 in
theorem m_l3_25 : m_P3 (3, 36, 7, 5) := ⟨fun _ => ⟨RX7, TX7, 9, rfl, by decide, m_in1 (i := 107) rfl rfl⟩, fun h => absurd h (by decide)⟩
set_option maxRecDepth 100000 in
theorem m_l3_26 : m_P3 (3, 39, 7, 6) := ⟨fun _ => ⟨RX7, TX7, 9, rfl, by decide, m_in1 (i := 109) rfl rfl⟩, fun h => absurd h (by decide)⟩
set_option maxRecDepth 100000 in
theorem m_l3_27 : m_P3 (3, 50, 7, 7) := ⟨fun _ => ⟨RX7, TX7, 9, rfl, by decide, m_in1 (i := 111) rfl rfl⟩, fun h => absurd h (by decide)⟩
set_option maxRecDepth 100000 in
theorem m_l3_28 : m_P3 (3, 42, 7, 8) := ⟨fun _ => ⟨RX7, TX7, 9, rfl, by decide, m_in1 (i := 113) rfl rfl⟩, fun h => absurd h (by decide)⟩
set_option maxRecDepth 100000 in
theorem m_l3_29 : m_P3 (4, 13, 4, 0) := ⟨fun _ => ⟨RX4, TX4, 2, rfl, by decide, m_in1 (i := 81) rfl rfl⟩, fun h => absurd h (by decide)⟩
set_option maxRecDepth 100000 in
theorem m_l3_30 : m_P3 (4, 19, 4, 1) := ⟨fun _ => ⟨RX4, TX4, 2, rfl, by decide, m_in1 (i := 82) rfl rfl⟩, fun h => absurd h (by decide)⟩
set_option maxRecDepth 100000 in
theorem m_l3_31 : m_P3 (5, 15, 6, 0) := ⟨fun _ => ⟨RX6, TX6, 3, rfl, by decide, m_in1 (i := 55) rfl rfl⟩, fun h => absurd h (by decide)⟩
set_option maxRecDepth 100000 in
theorem m_l3_32 : m_P3 (5, 22, 6, 1) := ⟨fun _ => ⟨RX6, TX6, 3, rfl, by decide, m_in1 (i := 56) rfl rfl⟩, fun h => absurd h (by decide)⟩
set_option maxRecDepth 100000 in
theorem m_l3_33 : m_P3 (5, 26, 6, 2) := ⟨fun _ => ⟨RX6, TX6, 3, rfl, by decide, m_in1 (i := 57) rfl rfl⟩, fun h => absurd h (by decide)⟩
set_option maxRecDepth 100000 in
theorem m_l3_34 : m_P3 (2, 59, 10, 9) := ⟨fun _ => ⟨RX11, TX11, 13, rfl, by decide, m_in2 (i := 53) rfl rfl⟩, fun h => absurd h (by decide)⟩
set_option maxRecDepth 100000 in
theorem m_l3_35 : m_P3 (2, 373, 7, 6) := ⟨fun _ => ⟨RX7, TX7, 9, rfl, by decide, m_in1 (i := 110) rfl rfl⟩, fun h => absurd h (by decide)⟩
set_option maxRecDepth 100000 in
theorem m_l3_36 : m_P3 (6, 11, 9, 0) := ⟨fun _ => ⟨RX10, TX10, 1, rfl, by decide, m_in1 (i := 36) rfl rfl⟩, fun h => absurd h (by decide)⟩
set_option maxRecDepth 100000 in
theorem m_l3_37 : m_P3 (2, 73, 10, 11) := ⟨fun _ => ⟨RX11, TX11, 13, rfl, by decide, m_in2 (i := 55) rfl rfl⟩, fun h => absurd h (by decide)⟩
set_option maxRecDepth 100000 in
theorem m_l3_38 : m_P3 (7, 60, 0, 1) := ⟨fun _ => ⟨RX0, TX0, 3, rfl, by decide, m_in2 (i := 4) rfl rfl⟩, fun h => absurd h (by decide)⟩
set_option maxRecDepth 100000 in
theorem m_l3_39 : m_P3 (7, 63, 0, 2) := ⟨fun _ => ⟨RX0, TX0, 3, rfl, by decide, m_in2 (i := 5) rfl rfl⟩, fun h => absurd h (by decide)⟩
set_option maxRecDepth 100000 in
theorem m_l3_40 : m_P3 (7, 23, 9, 0) := ⟨fun _ => ⟨RX10, TX10, 1, rfl, by decide, m_in1 (i := 38) rfl rfl⟩, fun h => absurd h (by decide)⟩
set_option maxRecDepth 100000 in
theorem m_l3_41 : m_P3 (1, 71, 11, 34) := ⟨fun _ => ⟨RX12, TX12, 36, rfl, by decide, m_in6 (i := 95) rfl rfl⟩, fun h => absurd h (by decide)⟩
set_option maxRecDepth 100000 in
theorem m_l3_42 : m_P3 (1, 74, 11, 35) := ⟨fun _ => ⟨RX12, TX12, 36, rfl, by decide, m_in6 (i := 96) rfl rfl⟩, fun h => absurd h (by decide)⟩
set_option maxRecDepth 100000 in
theorem m_l3_43 : m_P3 (2, 80, 10, 12) := ⟨fun _ => ⟨RX11, TX11, 13, rfl, by decide, m_in2 (i := 56) rfl rfl⟩, fun h => absurd h (by decide)⟩
set_option maxRecDepth 100000 in
theorem m_l3_44 : m_P3 (2, 324, 2, 2) := ⟨fun _ => ⟨RX2, TX2, 7, rfl, by decide, m_in2 (i := 24) rfl rfl⟩, fun h => absurd h (by decide)⟩
set_option maxRecDepth 100000 in
theorem m_l3_45 : m_P3 (2, 327, 2, 1) := ⟨fun _ => ⟨RX2, TX2, 7, rfl, by decide, m_in2 (i := 22) rfl rfl⟩, fun h => absurd h (by decide)⟩
set_option maxRecDepth 100000 in
theorem m_l3_46 : m_P3 (8, 18, 2, 5) := ⟨fun _ => ⟨RX2, TX2, 7, rfl, by decide, m_in2 (i := 27) rfl rfl⟩, fun h => absurd h (by decide)⟩
set_option maxRecDepth 100000 in
theorem m_l3_47 : m_P3 (8, 21, 2, 6) := ⟨fun _ => ⟨RX2, TX2, 7, rfl, by decide, m_in2 (i := 28) rfl rfl⟩, fun h => absurd h (by decide)⟩
set_option maxRecDepth 100000 in
theorem m_l3_48 : m_P3 (1, 68, 11, 33) := ⟨fun _ => ⟨RX12, TX12, 36, rfl, by decide, m_in6 (i := 94) rfl rfl⟩, fun h => absurd h (by decide)⟩
set_option maxRecDepth 100000 in
theorem m_l3_49 : m_P3 (8, 94, 9, 0) := ⟨fun _ => ⟨RX10, TX10, 1, rfl, by decide, m_in1 (i := 41) rfl rfl⟩, fun h => absurd h (by decide)⟩
set_option maxRecDepth 100000 in
theorem m_l3_50 : m_P3 (8, 72, 7, 3) := ⟨fun _ => ⟨RX7, TX7, 9, rfl, by decide, m_in1 (i := 102) rfl rfl⟩, fun h => absurd h (by decide)⟩
set_option maxRecDepth 100000 in
theorem m_l3_51 : m_P3 (8, 38, 4, 1) := ⟨fun _ => ⟨RX4, TX4, 2, rfl, by decide, m_in1 (i := 84) rfl rfl⟩, fun h => absurd h (by decide)⟩
set_option maxRecDepth 100000 in
theorem m_l3_52 : m_P3 (8, 15, 2, 4) := ⟨fun _ => ⟨RX2, TX2, 7, rfl, by decide, m_in2 (i := 26) rfl rfl⟩, fun h => absurd h (by decide)⟩
set_option maxRecDepth 100000 in
theorem m_l3_53 : m_P3 (8, 82, 7, 4) := ⟨fun _ => ⟨RX7, TX7, 9, rfl, by decide, m_in1 (i := 105) rfl rfl⟩, fun h => absurd h (by decide)⟩
set_option maxRecDepth 100000 in
theorem m_l3_54 : m_P3 (2, 345, 7, 4) := ⟨fun _ => ⟨RX7, TX7, 9, rfl, by decide, m_in1 (i := 106) rfl rfl⟩, fun h => absurd h (by decide)⟩
set_option maxRecDepth 100000 in
theorem m_l3_55 : m_P3 (1, 478, 11, 32) := ⟨fun _ => ⟨RX12, TX12, 36, rfl, by decide, m_in6 (i := 93) rfl rfl⟩, fun h => absurd h (by decide)⟩
set_option maxRecDepth 100000 in
theorem m_l3_56 : m_P3 (1, 475, 11, 31) := ⟨fun _ => ⟨RX12, TX12, 36, rfl, by decide, m_in6 (i := 92) rfl rfl⟩, fun h => absurd h (by decide)⟩
set_option maxRecDepth 100000 in
theorem m_l3_57 : m_P3 (8, 59, 2, 1) := ⟨fun _ => ⟨RX2, TX2, 7, rfl, by decide, m_in2 (i := 21) rfl rfl⟩, fun h => absurd h (by decide)⟩
set_option maxRecDepth 100000 in
theorem m_l3_58 : m_P3 (8, 62, 2, 2) := ⟨fun _ => ⟨RX2, TX2, 7, rfl, by decide, m_in2 (i := 23) rfl rfl⟩, fun h => absurd h (by decide)⟩
set_option maxRecDepth 100000 in
theorem m_l3_59 : m_P3 (1, 62, 11, 29) := ⟨fun _ => ⟨RX12, TX12, 36, rfl, by decide, m_in6 (i := 90) rfl rfl⟩, fun h => absurd h (by decide)⟩
set_option maxRecDepth 100000 in
theorem m_l3_60 : m_P3 (2, 66, 10, 10) := ⟨fun _ => ⟨RX11, TX11, 13, rfl, by decide, m_in2 (i := 54) rfl rfl⟩, fun h => absurd h (by decide)⟩
set_option maxRecDepth 100000 in
theorem m_l3_61 : m_P3 (9, 40, 9, 0) := ⟨fun _ => ⟨RX10, TX10, 1, rfl, by decide, m_in1 (i := 40) rfl rfl⟩, fun h => absurd h (by decide)⟩
set_option maxRecDepth 100000 in
theorem m_l3_62 : m_P3 (9, 9, 8, 0) := ⟨fun _ => ⟨RX8, TX8, 2, rfl, by decide, m_in1 (i := 227) rfl rfl⟩, fun h => absurd h (by decide)⟩
set_option maxRecDepth 100000 in
theorem m_l3_63 : m_P3 (1, 65, 11, 30) := ⟨fun _ => ⟨RX12, TX12, 36, rfl, by decide, m_in6 (i := 91) rfl rfl⟩, fun h => absurd h (by decide)⟩
set_option maxRecDepth 100000 in
theorem m_l3_64 : m_P3 (9, 15, 8, 1) := ⟨fun _ => ⟨RX8, TX8, 2, rfl, by decide, m_in1 (i := 228) rfl rfl⟩, fun h => absurd h (by decide)⟩
set_option maxRecDepth 100000 in
theorem m_l3_65 : m_P3 (1, 56, 11, 27) := ⟨fun _ => ⟨RX12, TX12, 36, rfl, by decide, m_in6 (i := 88) rfl rfl⟩, fun h => absurd h (by decide)⟩
set_option maxRecDepth 100000 in
theorem m_l3_66 : m_P3 (1, 59, 11, 28) := ⟨fun _ => ⟨RX12, TX12, 36, rfl, by decide, m_in6 (i := 89) rfl rfl⟩, fun h => absurd h (by decide)⟩
set_option maxRecDepth 100000 in
theorem m_l3_67 : m_P3 (2, 293, 2, 0) := ⟨fun _ => ⟨RX2, TX2, 7, rfl, by decide, m_in2 (i := 20) rfl rfl⟩, fun h => absurd h (by decide)⟩
set_option maxRecDepth 100000 in
theorem m_l3_68 : m_P3 (8, 11, 2, 3) := ⟨fun _ => ⟨RX2, TX2, 7, rfl, by decide, m_in2 (i := 25) rfl rfl⟩, fun h => absurd h (by decide)⟩
set_option maxRecDepth 100000 in
theorem m_l3_69 : m_P3 (8, 28, 2, 0) := ⟨fun _ => ⟨RX2, TX2, 7, rfl, by decide, m_in2 (i := 19) rfl rfl⟩, fun h => absurd h (by decide)⟩
set_option maxRecDepth 100000 in
theorem m_l3_70 : m_P3 (1, 53, 11, 26) := ⟨fun _ => ⟨RX12, TX12, 36, rfl, by decide, m_in6 (i := 87) rfl rfl⟩, fun h => absurd h (by decide)⟩
set_option maxRecDepth 100000 in
theorem m_l3_71 : m_P3 (2, 254, 7, 0) := ⟨fun _ => ⟨RX7, TX7, 9, rfl, by decide, m_in1 (i := 96) rfl rfl⟩, fun h => absurd h (by decide)⟩
set_option maxRecDepth 100000 in
theorem m_l3_72 : m_P3 (2, 272, 0, 0) := ⟨fun _ => ⟨RX0, TX0, 3, rfl, by decide, m_in2 (i := 3) rfl rfl⟩, fun h => absurd h (by decide)⟩
set_option maxRecDepth 100000 in
theorem m_l3_73 : m_P3 (7, 14, 0, 0) := ⟨fun _ => ⟨RX0, TX0, 3, rfl, by decide, m_in2 (i := 2) rfl rfl⟩, fun h => absurd h (by decide)⟩
set_option maxRecDepth 100000 in
theorem m_l3_74 : m_P3 (7, 41, 4, 1) := ⟨fun _ => ⟨RX4, TX4, 2, rfl, by decide, m_in1 (i := 83) rfl rfl⟩, fun h => absurd h (by decide)⟩
set_option maxRecDepth 100000 in
theorem m_l3_75 : m_P3 (1, 47, 11, 24) := ⟨fun _ => ⟨RX12, TX12, 36, rfl, by decide, m_in6 (i := 85) rfl rfl⟩, fun h => absurd h (by decide)⟩
set_option maxRecDepth 100000 in
theorem m_l3_76 : m_P3 (2, 39, 10, 6) := ⟨fun _ => ⟨RX11, TX11, 13, rfl, by decide, m_in2 (i := 50) rfl rfl⟩, fun h => absurd h (by decide)⟩
set_option maxRecDepth 100000 in
theorem m_l3_77 : m_P3 (1, 50, 11, 25) := ⟨fun _ => ⟨RX12, TX12, 36, rfl, by decide, m_in6 (i := 86) rfl rfl⟩, fun h => absurd h (by decide)⟩
set_option maxRecDepth 100000 in
theorem m_l3_78 : m_P3 (1, 43, 11, 23) := ⟨fun _ => ⟨RX12, TX12, 36, rfl, by decide, m_in6 (i := 84) rfl rfl⟩, fun h => absurd h (by decide)⟩
set_option maxRecDepth 100000 in
theorem m_l3_79 : m_P3 (1, 16, 11, 2) := ⟨fun _ => ⟨RX12, TX12, 36, rfl, by decide, m_in6 (i := 63) rfl rfl⟩, fun h => absurd h (by decide)⟩
set_option maxRecDepth 100000 in
theorem m_l3_80 : m_P3 (2, 181, 5, 5) := ⟨fun _ => ⟨RX5, TX5, 7, rfl, by decide, m_in1 (i := 148) rfl rfl⟩, fun h => absurd h (by decide)⟩
set_option maxRecDepth 100000 in
theorem m_l3_81 : m_P3 (11, 9, 5, 0) := ⟨fun _ => ⟨RX5, TX5, 7, rfl, by decide, m_in1 (i := 141) rfl rfl⟩, fun h => absurd h (by decide)⟩
set_option maxRecDepth 100000 in
theorem m_l3_82 : m_P3 (1, 32, 11, 20) := ⟨fun _ => ⟨RX12, TX12, 36, rfl, by decide, m_in6 (i := 81) rfl rfl⟩, fun h => absurd h (by decide)⟩
set_option maxRecDepth 100000 in
theorem m_l3_83 : m_P3 (12, 46, 9, 0) := ⟨fun _ => ⟨RX10, TX10, 1, rfl, by decide, m_in1 (i := 39) rfl rfl⟩, fun h => absurd h (by decide)⟩
set_option maxRecDepth 100000 in
theorem m_l3_84 : m_P3 (1, 35, 11, 21) := ⟨fun _ => ⟨RX12, TX12, 36, rfl, by decide, m_in6 (i := 82) rfl rfl⟩, fun h => absurd h (by decide)⟩
set_option maxRecDepth 100000 in
theorem m_l3_85 : m_P3 (1, 39, 11, 22) := ⟨fun _ => ⟨RX12, TX12, 36, rfl, by decide, m_in6 (i := 83) rfl rfl⟩, fun h => absurd h (by decide)⟩
set_option maxRecDepth 100000 in
theorem m_l3_86 : m_P3 (12, 82, 1, 1) := ⟨fun _ => ⟨RX1, TX1, 2, rfl, by decide, m_in1 (i := 215) rfl rfl⟩, fun h => absurd h (by decide)⟩
set_option maxRecDepth 100000 in
theorem m_l3_87 : m_P3 (12, 11, 1, 0) := ⟨fun _ => ⟨RX1, TX1, 2, rfl, by decide, m_in1 (i := 214) rfl rfl⟩, fun h => absurd h (by decide)⟩
set_option maxRecDepth 100000 in
theorem m_l3_88 : m_P3 (11, 21, 5, 3) := ⟨fun _ => ⟨RX5, TX5, 7, rfl, by decide, m_in1 (i := 144) rfl rfl⟩, fun h => absurd h (by decide)⟩
set_option maxRecDepth 100000 in
theorem m_l3_89 : m_P3 (11, 15, 5, 1) := ⟨fun _ => ⟨RX5, TX5, 7, rfl, by decide, m_in1 (i := 142) rfl rfl⟩, fun h => absurd h (by decide)⟩
set_option maxRecDepth 100000 in
theorem m_l3_90 : m_P3 (11, 18, 5, 2) := ⟨fun _ => ⟨RX5, TX5, 7, rfl, by decide, m_in1 (i := 143) rfl rfl⟩, fun h => absurd h (by decide)⟩
set_option maxRecDepth 100000 in
theorem m_l3_91 : m_P3 (11, 29, 5, 5) := ⟨fun _ => ⟨RX5, TX5, 7, rfl, by decide, m_in1 (i := 146) rfl rfl⟩, fun h => absurd h (by decide)⟩
set_option maxRecDepth 100000 in
theorem m_l3_92 : m_P3 (2, 44, 10, 7) := ⟨fun _ => ⟨RX11, TX11, 13, rfl, by decide, m_in2 (i := 51) rfl rfl⟩, fun h => absurd h (by decide)⟩
set_option maxRecDepth 100000 in
theorem m_l3_93 : m_P3 (5, 18, 9, 0) := ⟨fun _ => ⟨RX10, TX10, 1, rfl, by decide, m_in1 (i := 37) rfl rfl⟩, fun h => absurd h (by decide)⟩
set_option maxRecDepth 100000 in
theorem m_l3_94 : m_P3 (1, 22, 11, 5) := ⟨fun _ => ⟨RX12, TX12, 36, rfl, by decide, m_in6 (i := 66) rfl rfl⟩, fun h => absurd h (by decide)⟩
set_option maxRecDepth 100000 in
theorem m_l3_95 : m_P3 (1, 26, 11, 6) := ⟨fun _ => ⟨RX12, TX12, 36, rfl, by decide, m_in6 (i := 67) rfl rfl⟩, fun h => absurd h (by decide)⟩
set_option maxRecDepth 100000 in
theorem m_l3_96 : m_P3 (2, 118, 3, 3) := ⟨fun _ => ⟨RX3, TX3, 10, rfl, by decide, m_in1 (i := 179) rfl rfl⟩, fun h => absurd h (by decide)⟩
set_option maxRecDepth 100000 in
theorem m_l3_97 : m_P3 (2, 121, 3, 4) := ⟨fun _ => ⟨RX3, TX3, 10, rfl, by decide, m_in1 (i := 181) rfl rfl⟩, fun h => absurd h (by decide)⟩
set_option maxRecDepth 100000 in
theorem m_l3_98 : m_P3 (1, 110, 11, 8) := ⟨fun _ => ⟨RX12, TX12, 36, rfl, by decide, m_in6 (i := 69) rfl rfl⟩, fun h => absurd h (by decide)⟩
set_option maxRecDepth 100000 in
theorem m_l3_99 : m_P3 (1, 151, 11, 12) := ⟨fun _ => ⟨RX12, TX12, 36, rfl, by decide, m_in6 (i := 73) rfl rfl⟩, fun h => absurd h (by decide)⟩
set_option maxRecDepth 100000 in
theorem m_l3_100 : m_P3 (1, 154, 11, 13) := ⟨fun _ => ⟨RX12, TX12, 36, rfl, by decide, m_in6 (i := 74) rfl rfl⟩, fun h => absurd h (by decide)⟩
set_option maxRecDepth 100000 in
theorem m_l3_101 : m_P3 (1, 261, 11, 19) := ⟨fun _ => ⟨RX12, TX12, 36, rfl, by decide, m_in6 (i := 80) rfl rfl⟩, fun h => absurd h (by decide)⟩
set_option maxRecDepth 100000 in
theorem m_l3_102 : m_P3 (1, 104, 11, 7) := ⟨fun _ => ⟨RX12, TX12, 36, rfl, by decide, m_in6 (i := 68) rfl rfl⟩, fun h => absurd h (by decide)⟩
set_option maxRecDepth 100000 in
theorem m_l3_103 : m_P3 (1, 113, 11, 9) := ⟨fun _ => ⟨RX12, TX12, 36, rfl, by decide, m_in6 (i := 70) rfl rfl⟩, fun h => absurd h (by decide)⟩
set_option maxRecDepth 100000 in
theorem m_l3_104 : m_P3 (1, 165, 11, 14) := ⟨fun _ => ⟨RX12, TX12, 36, rfl, by decide, m_in6 (i := 75) rfl rfl⟩, fun h => absurd h (by decide)⟩
set_option maxRecDepth 100000 in
theorem m_l3_105 : m_P3 (1, 168, 11, 16) := ⟨fun _ => ⟨RX12, TX12, 36, rfl, by decide, m_in6 (i := 77) rfl rfl⟩, fun h => absurd h (by decide)⟩
set_option maxRecDepth 100000 in
theorem m_l3_106 : m_P3 (1, 178, 11, 17) := ⟨fun _ => ⟨RX12, TX12, 36, rfl, by decide, m_in6 (i := 78) rfl rfl⟩, fun h => absurd h (by decide)⟩
set_option maxRecDepth 100000 in
theorem m_l3_107 : m_P3 (1, 216, 11, 18) := ⟨fun _ => ⟨RX12, TX12, 36, rfl, by decide, m_in6 (i := 79) rfl rfl⟩, fun h => absurd h (by decide)⟩
set_option maxRecDepth 100000 in
theorem m_l3_108 : m_P3 (1, 119, 11, 10) := ⟨fun _ => ⟨RX12, TX12, 36, rfl, by decide, m_in6 (i := 71) rfl rfl⟩, fun h => absurd h (by decide)⟩
set_option maxRecDepth 100000 in
theorem m_l3_109 : m_P3 (1, 29, 11, 15) := ⟨fun _ => ⟨RX12, TX12, 36, rfl, by decide, m_in6 (i := 76) rfl rfl⟩, fun h => absurd h (by decide)⟩
set_option maxRecDepth 100000 in
theorem m_l3_110 : m_P3 (1, 126, 11, 11) := ⟨fun _ => ⟨RX12, TX12, 36, rfl, by decide, m_in6 (i := 72) rfl rfl⟩, fun h => absurd h (by decide)⟩
set_option maxRecDepth 100000 in
theorem m_l3_111 : m_P3 (1, 19, 11, 3) := ⟨fun _ => ⟨RX12, TX12, 36, rfl, by decide, m_in6 (i := 64) rfl rfl⟩, fun h => absurd h (by decide)⟩
set_option maxRecDepth 100000 in
theorem m_l3_112 : m_P3 (2, 110, 3, 0) := ⟨fun _ => ⟨RX3, TX3, 10, rfl, by decide, m_in1 (i := 174) rfl rfl⟩, fun h => absurd h (by decide)⟩
set_option maxRecDepth 100000 in
theorem m_l3_113 : m_P3 (11, 26, 5, 4) := ⟨fun _ => ⟨RX5, TX5, 7, rfl, by decide, m_in1 (i := 145) rfl rfl⟩, fun h => absurd h (by decide)⟩
set_option maxRecDepth 100000 in
theorem m_l3_114 : m_P3 (11, 33, 5, 6) := ⟨fun _ => ⟨RX5, TX5, 7, rfl, by decide, m_in1 (i := 149) rfl rfl⟩, fun h => absurd h (by decide)⟩
set_option maxRecDepth 100000 in
theorem m_l3_115 : m_P3 (14, 12, 3, 0) := ⟨fun _ => ⟨RX3, TX3, 10, rfl, by decide, m_in1 (i := 173) rfl rfl⟩, fun h => absurd h (by decide)⟩
set_option maxRecDepth 100000 in
theorem m_l3_116 : m_P3 (14, 22, 3, 3) := ⟨fun _ => ⟨RX3, TX3, 10, rfl, by decide, m_in1 (i := 178) rfl rfl⟩, fun h => absurd h (by decide)⟩
set_option maxRecDepth 100000 in
theorem m_l3_117 : m_P3 (14, 26, 3, 4) := ⟨fun _ => ⟨RX3, TX3, 10, rfl, by decide, m_in1 (i := 180) rfl rfl⟩, fun h => absurd h (by decide)⟩
set_option maxRecDepth 100000 in
theorem m_l3_118 : m_P3 (14, 35, 3, 8) := ⟨fun _ => ⟨RX3, TX3, 10, rfl, by decide, m_in1 (i := 185) rfl rfl⟩, fun h => absurd h (by decide)⟩
set_option maxRecDepth 100000 in
theorem m_l3_119 : m_P3 (14, 41, 3, 5) := ⟨fun _ => ⟨RX3, TX3, 10, rfl, by decide, m_in1 (i := 182) rfl rfl⟩, fun h => absurd h (by decide)⟩
set_option maxRecDepth 100000 in
theorem m_l3_120 : m_P3 (14, 101, 5, 5) := ⟨fun _ => ⟨RX5, TX5, 7, rfl, by decide, m_in1 (i := 147) rfl rfl⟩, fun h => absurd h (by decide)⟩
set_option maxRecDepth 100000 in
theorem m_l3_121 : m_P3 (14, 104, 3, 9) := ⟨fun _ => ⟨RX3, TX3, 10, rfl, by decide, m_in1 (i := 186) rfl rfl⟩, fun h => absurd h (by decide)⟩
set_option maxRecDepth 100000 in
theorem m_l3_122 : m_P3 (14, 76, 3, 6) := ⟨fun _ => ⟨RX3, TX3, 10, rfl, by decide, m_in1 (i := 183) rfl rfl⟩, fun h => absurd h (by decide)⟩
set_option maxRecDepth 100000 in
theorem m_l3_123 : m_P3 (14, 50, 3, 7) := ⟨fun _ => ⟨RX3, TX3, 10, rfl, by decide, m_in1 (i := 184) rfl rfl⟩, fun h => absurd h (by decide)⟩
set_option maxRecDepth 100000 in
theorem m_l3_124 : m_P3 (14, 29, 3, 2) := ⟨fun _ => ⟨RX3, TX3, 10, rfl, by decide, m_in1 (i := 176) rfl rfl⟩, fun h => absurd h (by decide)⟩
set_option maxRecDepth 100000 in
theorem m_l3_125 : m_P3 (14, 18, 3, 1) := ⟨fun _ => ⟨RX3, TX3, 10, rfl, by decide, m_in1 (i := 175) rfl rfl⟩, fun h => absurd h (by decide)⟩
set_option maxRecDepth 100000 in
theorem m_l3_126 : m_P3 (16, 9, 100, 0) := ⟨fun h => absurd rfl h, fun _ => Or.inl ⟨rfl, m_in9 (i := 48) rfl rfl⟩⟩
set_option maxRecDepth 100000 in
theorem m_l3_127 : m_P3 (16, 15, 100, 1) := ⟨fun h => absurd rfl h, fun _ => Or.inr ⟨rfl, m_in9 (i := 49) rfl rfl⟩⟩
set_option maxRecDepth 100000 in
theorem m_l3_all : ∀ q ∈ m_lf, m_P3 q := List.forall_mem_cons.mpr ⟨m_l3_0, List.forall_mem_cons.mpr ⟨m_l3_1, List.forall_mem_cons.mpr ⟨m_l3_2, List.forall_mem_cons.mpr ⟨m_l3_3, List.forall_mem_cons.mpr ⟨m_l3_4, List.forall_mem_cons.mpr ⟨m_l3_5, List.forall_mem_cons.mpr ⟨m_l3_6, List.forall_mem_cons.mpr ⟨m_l3_7, List.forall_mem_cons.mpr ⟨m_l3_8, List.forall_mem_cons.mpr ⟨m_l3_9, List.forall_mem_cons.mpr ⟨m_l3_10, List.forall_mem_cons.mpr ⟨m_l3_11, List.forall_mem_cons.mpr ⟨m_l3_12, List.forall_mem_cons.mpr ⟨m_l3_13, List.forall_mem_cons.mpr ⟨m_l3_14, List.forall_mem_cons.mpr ⟨m_l3_15, List.forall_mem_cons.mpr ⟨m_l3_16, List.forall_mem_cons.mpr ⟨m_l3_17, List.forall_mem_cons.mpr ⟨m_l3_18, List.forall_mem_cons.mpr ⟨m_l3_19, List.forall_mem_cons.mpr ⟨m_l3_20, List.forall_mem_cons.mpr ⟨m_l3_21, List.forall_mem_cons.mpr ⟨m_l3_22, List.forall_mem_cons.mpr ⟨m_l3_23, List.forall_mem_cons.mpr ⟨m_l3_24, List.forall_mem_cons.mpr ⟨m_l3_25, List.forall_mem_cons.mpr ⟨m_l3_26, List.forall_mem_cons.mpr ⟨m_l3_27, List.forall_mem_cons.mpr ⟨m_l3_28, List.forall_mem_cons.mpr ⟨m_l3_29, List.forall_mem_cons.mpr ⟨m_l3_30, List.forall_mem_cons.mpr ⟨m_l3_31, List.forall_mem_cons.mpr ⟨m_l3_32, List.forall_mem_cons.mpr ⟨m_l3_33, List.forall_mem_cons.mpr ⟨m_l3_34, List.forall_mem_cons.mpr ⟨m_l3_35, List.forall_mem_cons.mpr ⟨m_l3_36, List.forall_mem_cons.mpr ⟨m_l3_37, List.forall_mem_cons.mpr ⟨m_l3_38, List.forall_mem_cons.mpr ⟨m_l3_39, List.forall_mem_cons.mpr ⟨m_l3_40, List.forall_mem_cons.mpr ⟨m_l3_41, List.forall_mem_cons.mpr ⟨m_l3_42, List.forall_mem_cons.mpr ⟨m_l3_43, List.forall_mem_cons.mpr ⟨m_l3_44, List.forall_mem_cons.mpr ⟨m_l3_45, List.forall_mem_cons.mpr ⟨m_l3_46, List.forall_mem_cons.mpr ⟨m_l3_47, List.forall_mem_cons.mpr ⟨m_l3_48, List.forall_mem_cons.mpr ⟨m_l3_49, List.forall_mem_cons.mpr ⟨m_l3_50, List.forall_mem_cons.mpr ⟨m_l3_51, List.forall_mem_cons.mpr ⟨m_l3_52, List.forall_mem_cons.mpr ⟨m_l3_53, List.forall_mem_cons.mpr ⟨m_l3_54, List.forall_mem_cons.mpr ⟨m_l3_55, List.forall_mem_cons.mpr ⟨m_l3_56, List.forall_mem_cons.mpr ⟨m_l3_57, List.forall_mem_cons.mpr ⟨m_l3_58, List.forall_mem_cons.mpr ⟨m_l3_59, List.forall_mem_cons.mpr ⟨m_l3_60, List.forall_mem_cons.mpr ⟨m_l3_61, List.forall_mem_cons.mpr ⟨m_l3_62, List.forall_mem_cons.mpr ⟨m_l3_63, List.forall_mem_cons.mpr ⟨m_l3_64, List.forall_mem_cons.mpr ⟨m_l3_65, List.forall_mem_cons.mpr ⟨m_l3_66, List.forall_mem_cons.mpr ⟨m_l3_67, List.forall_mem_cons.mpr ⟨m_l3_68, List.forall_mem_cons.mpr ⟨m_l3_69, List.forall_mem_cons.mpr ⟨m_l3_70, List.forall_mem_cons.mpr ⟨m_l3_71, List.forall_mem_cons.mpr ⟨m_l3_72, List.forall_mem_cons.mpr ⟨m_l3_73, List.forall_mem_cons.mpr ⟨m_l3_74, List.forall_mem_cons.mpr ⟨m_l3_75, List.forall_mem_cons.mpr ⟨m_l3_76, List.forall_mem_cons.mpr ⟨m_l3_77, List.forall_mem_cons.mpr ⟨m_l3_78, List.forall_mem_cons.mpr ⟨m_l3_79, List.forall_mem_cons.mpr ⟨m_l3_80, List.forall_mem_cons.mpr ⟨m_l3_81, List.forall_mem_cons.mpr ⟨m_l3_82, List.forall_mem_cons.mpr ⟨m_l3_83, List.forall_mem_cons.mpr ⟨m_l3_84, List.forall_mem_cons.mpr ⟨m_l3_85, List.forall_mem_cons.mpr ⟨m_l3_86, List.forall_mem_cons.mpr ⟨m_l3_87, List.forall_mem_cons.mpr ⟨m_l3_88, List.forall_mem_cons.mpr ⟨m_l3_89, List.forall_mem_cons.mpr ⟨m_l3_90, List.forall_mem_cons.mpr ⟨m_l3_91, List.forall_mem_cons.mpr ⟨m_l3_92, List.forall_mem_cons.mpr ⟨m_l3_93, List.forall_mem_cons.mpr ⟨m_l3_94, List.forall_mem_cons.mpr ⟨m_l3_95, List.forall_mem_cons.mpr ⟨m_l3_96, List.forall_mem_cons.mpr ⟨m_l3_97, List.forall_mem_cons.mpr ⟨m_l3_98, List.forall_mem_cons.mpr ⟨m_l3_99, List.forall_mem_cons.mpr ⟨m_l3_100, List.forall_mem_cons.mpr ⟨m_l3_101, List.forall_mem_cons.mpr ⟨m_l3_102, List.forall_mem_cons.mpr ⟨m_l3_103, List.forall_mem_cons.mpr ⟨m_l3_104, List.forall_mem_cons.mpr ⟨m_l3_105, List.forall_mem_cons.mpr ⟨m_l3_106, List.forall_mem_cons.mpr ⟨m_l3_107, List.forall_mem_cons.mpr ⟨m_l3_108, List.forall_mem_cons.mpr ⟨m_l3_109, List.forall_mem_cons.mpr ⟨m_l3_110, List.forall_mem_cons.mpr ⟨m_l3_111, List.forall_mem_cons.mpr ⟨m_l3_112, List.forall_mem_cons.mpr ⟨m_l3_113, List.forall_mem_cons.mpr ⟨m_l3_114, List.forall_mem_cons.mpr ⟨m_l3_115, List.forall_mem_cons.mpr ⟨m_l3_116, List.forall_mem_cons.mpr ⟨m_l3_117, List.forall_mem_cons.mpr ⟨m_l3_118, List.forall_mem_cons.mpr ⟨m_l3_119, List.forall_mem_cons.mpr ⟨m_l3_120, List.forall_mem_cons.mpr ⟨m_l3_121, List.forall_mem_cons.mpr ⟨m_l3_122, List.forall_mem_cons.mpr ⟨m_l3_123, List.forall_mem_cons.mpr ⟨m_l3_124, List.forall_mem_cons.mpr ⟨m_l3_125, List.forall_mem_cons.mpr ⟨m_l3_126, List.forall_mem_cons.mpr ⟨m_l3_127, (fun _ h => absurd h List.not_mem_nil)⟩⟩⟩⟩⟩⟩⟩⟩⟩⟩⟩⟩⟩⟩⟩⟩⟩⟩⟩⟩⟩⟩⟩⟩⟩⟩⟩⟩⟩⟩⟩⟩⟩⟩⟩⟩⟩⟩⟩⟩⟩⟩⟩⟩⟩⟩⟩⟩⟩⟩⟩⟩⟩⟩⟩⟩⟩⟩⟩⟩⟩⟩⟩⟩⟩⟩⟩⟩⟩⟩⟩⟩⟩⟩⟩⟩⟩⟩⟩⟩⟩⟩⟩⟩⟩⟩⟩⟩⟩⟩⟩⟩⟩⟩⟩⟩⟩⟩⟩⟩⟩⟩⟩⟩⟩⟩⟩⟩⟩⟩⟩⟩⟩⟩⟩⟩⟩⟩⟩⟩⟩⟩⟩⟩⟩⟩⟩⟩
theorem m_T3_ok : m_T3 := fun j q h => m_l3_all q (List.mem_of_getElem? h)
