set_option maxRecDepth 100000 in
theorem m_t8_80_0 : ∀ e ∈ m_i80_0, decode prog_14_method_124_code e.1 = .ok (e.2.1, e.2.2.1) ∧ m_okI 80 e.1 e.2.1 e.2.2.1 e.2.2.2 = true := by decide +kernel
set_option maxRecDepth 100000 in
theorem m_t8_80_1 : ∀ e ∈ m_i80_1, decode prog_14_method_124_code e.1 = .ok (e.2.1, e.2.2.1) ∧ m_okI 80 e.1 e.2.1 e.2.2.1 e.2.2.2 = true := by decide +kernel
theorem m_t8_80 : ∀ e ∈ m_i80, decode prog_14_method_124_code e.1 = .ok (e.2.1, e.2.2.1) ∧ m_okI 80 e.1 e.2.1 e.2.2.1 e.2.2.2 = true := List.forall_mem_append.mpr ⟨m_t8_80_0, m_t8_80_1⟩
set_option maxRecDepth 100000 in
theorem m_t8_81 : ∀ e ∈ m_i81, decode prog_14_method_7_code e.1 = .ok (e.2.1, e.2.2.1) ∧ m_okI 81 e.1 e.2.1 e.2.2.1 e.2.2.2 = true := by decide +kernel
set_option maxRecDepth 100000 in
theorem m_t8_82 : ∀ e ∈ m_i82, decode prog_1_method_30_code e.1 = .ok (e.2.1, e.2.2.1) ∧ m_okI 82 e.1 e.2.1 e.2.2.1 e.2.2.2 = true := by decide +kernel
set_option maxRecDepth 100000 in
theorem m_t8_83 : ∀ e ∈ m_i83, decode prog_4_method_2_code e.1 = .ok (e.2.1, e.2.2.1) ∧ m_okI 83 e.1 e.2.1 e.2.2.1 e.2.2.2 = true := by decide +kernel
set_option maxRecDepth 100000 in
theorem m_t8_84 : ∀ e ∈ m_i84, decode prog_4_method_3_code e.1 = .ok (e.2.1, e.2.2.1) ∧ m_okI 84 e.1 e.2.1 e.2.2.1 e.2.2.2 = true := by decide +kernel
set_option maxRecDepth 100000 in
theorem m_t8_85 : ∀ e ∈ m_i85, decode prog_4_method_4_code e.1 = .ok (e.2.1, e.2.2.1) ∧ m_okI 85 e.1 e.2.1 e.2.2.1 e.2.2.2 = true := by decide +kernel
set_option maxRecDepth 100000 in
theorem m_t8_86 : ∀ e ∈ m_i86, decode prog_16_method_49_code e.1 = .ok (e.2.1, e.2.2.1) ∧ m_okI 86 e.1 e.2.1 e.2.2.1 e.2.2.2 = true := by decide +kernel
set_option maxRecDepth 100000 in
theorem m_t8_87 : ∀ e ∈ m_i87, decode prog_14_method_123_code e.1 = .ok (e.2.1, e.2.2.1) ∧ m_okI 87 e.1 e.2.1 e.2.2.1 e.2.2.2 = true := by decide +kernel
set_option maxRecDepth 100000 in
theorem m_t8_88 : ∀ e ∈ m_i88, decode prog_1_method_29_code e.1 = .ok (e.2.1, e.2.2.1) ∧ m_okI 88 e.1 e.2.1 e.2.2.1 e.2.2.2 = true := by decide +kernel
set_option maxRecDepth 100000 in
theorem m_t8_89 : ∀ e ∈ m_i89, decode prog_1_method_51_code e.1 = .ok (e.2.1, e.2.2.1) ∧ m_okI 89 e.1 e.2.1 e.2.2.1 e.2.2.2 = true := by decide +kernel
set_option maxRecDepth 100000 in
theorem m_t8_90 : ∀ e ∈ m_i90, decode prog_14_method_122_code e.1 = .ok (e.2.1, e.2.2.1) ∧ m_okI 90 e.1 e.2.1 e.2.2.1 e.2.2.2 = true := by decide +kernel
set_option maxRecDepth 100000 in
theorem m_t8_91 : ∀ e ∈ m_i91, decode prog_14_method_6_code e.1 = .ok (e.2.1, e.2.2.1) ∧ m_okI 91 e.1 e.2.1 e.2.2.1 e.2.2.2 = true := by decide +kernel
set_option maxRecDepth 100000 in
theorem m_t8_92 : ∀ e ∈ m_i92, decode prog_1_method_28_code e.1 = .ok (e.2.1, e.2.2.1) ∧ m_okI 92 e.1 e.2.1 e.2.2.1 e.2.2.2 = true := by decide +kernel
set_option maxRecDepth 100000 in
theorem m_t8_93 : ∀ e ∈ m_i93, decode prog_12_method_27_code e.1 = .ok (e.2.1, e.2.2.1) ∧ m_okI 93 e.1 e.2.1 e.2.2.1 e.2.2.2 = true := by decide +kernel
set_option maxRecDepth 100000 in
theorem m_t8_94 : ∀ e ∈ m_i94, decode prog_12_method_26_code e.1 = .ok (e.2.1, e.2.2.1) ∧ m_okI 94 e.1 e.2.1 e.2.2.1 e.2.2.2 = true := by decide +kernel
set_option maxRecDepth 100000 in
theorem m_t8_95_0 : ∀ e ∈ m_i95_0, decode prog_14_method_121_code e.1 = .ok (e.2.1, e.2.2.1) ∧ m_okI 95 e.1 e.2.1 e.2.2.1 e.2.2.2 = true := by decide +kernel
set_option maxRecDepth 100000 in
theorem m_t8_95_1 : ∀ e ∈ m_i95_1, decode prog_14_method_121_code e.1 = .ok (e.2.1, e.2.2.1) ∧ m_okI 95 e.1 e.2.1 e.2.2.1 e.2.2.2 = true := by decide +kernel
theorem m_t8_95 : ∀ e ∈ m_i95, decode prog_14_method_121_code e.1 = .ok (e.2.1, e.2.2.1) ∧ m_okI 95 e.1 e.2.1 e.2.2.1 e.2.2.2 = true := List.forall_mem_append.mpr ⟨m_t8_95_0, m_t8_95_1⟩
set_option maxRecDepth 100000 in
theorem m_t8_96 : ∀ e ∈ m_i96, decode prog_14_method_120_code e.1 = .ok (e.2.1, e.2.2.1) ∧ m_okI 96 e.1 e.2.1 e.2.2.1 e.2.2.2 = true := by decide +kernel
set_option maxRecDepth 100000 in
theorem m_t8_97 : ∀ e ∈ m_i97, decode prog_14_method_119_code e.1 = .ok (e.2.1, e.2.2.1) ∧ m_okI 97 e.1 e.2.1 e.2.2.1 e.2.2.2 = true := by decide +kernel
set_option maxRecDepth 100000 in
theorem m_t8_98 : ∀ e ∈ m_i98, decode prog_1_method_27_code e.1 = .ok (e.2.1, e.2.2.1) ∧ m_okI 98 e.1 e.2.1 e.2.2.1 e.2.2.2 = true := by decide +kernel
set_option maxRecDepth 100000 in
theorem m_t8_99 : ∀ e ∈ m_i99, decode prog_2_method_5_code e.1 = .ok (e.2.1, e.2.2.1) ∧ m_okI 99 e.1 e.2.1 e.2.2.1 e.2.2.2 = true := by decide +kernel
set_option maxRecDepth 100000 in
theorem m_t8_100 : ∀ e ∈ m_i100, decode prog_2_method_2_code e.1 = .ok (e.2.1, e.2.2.1) ∧ m_okI 100 e.1 e.2.1 e.2.2.1 e.2.2.2 = true := by decide +kernel
set_option maxRecDepth 100000 in
theorem m_t8_101 : ∀ e ∈ m_i101, decode prog_2_method_3_code e.1 = .ok (e.2.1, e.2.2.1) ∧ m_okI 101 e.1 e.2.1 e.2.2.1 e.2.2.2 = true := by decide +kernel
set_option maxRecDepth 100000 in
theorem m_t8_102 : ∀ e ∈ m_i102, decode prog_2_method_4_code e.1 = .ok (e.2.1, e.2.2.1) ∧ m_okI 102 e.1 e.2.1 e.2.2.1 e.2.2.2 = true := by decide +kernel
set_option maxRecDepth 100000 in
theorem m_t8_103 : ∀ e ∈ m_i103, decode prog_6_method_4_code e.1 = .ok (e.2.1, e.2.2.1) ∧ m_okI 103 e.1 e.2.1 e.2.2.1 e.2.2.2 = true := by decide +kernel
set_option maxRecDepth 100000 in
theorem m_t8_104 : ∀ e ∈ m_i104, decode prog_6_method_5_code e.1 = .ok (e.2.1, e.2.2.1) ∧ m_okI 104 e.1 e.2.1 e.2.2.1 e.2.2.2 = true := by decide +kernel
set_option maxRecDepth 100000 in
theorem m_t8_105 : ∀ e ∈ m_i105, decode prog_14_method_118_code e.1 = .ok (e.2.1, e.2.2.1) ∧ m_okI 105 e.1 e.2.1 e.2.2.1 e.2.2.2 = true := by decide +kernel
set_option maxRecDepth 100000 in
theorem m_t8_106 : ∀ e ∈ m_i106, decode prog_1_method_26_code e.1 = .ok (e.2.1, e.2.2.1) ∧ m_okI 106 e.1 e.2.1 e.2.2.1 e.2.2.2 = true := by decide +kernel
set_option maxRecDepth 100000 in
theorem m_t8_107 : ∀ e ∈ m_i107, decode prog_6_method_3_code e.1 = .ok (e.2.1, e.2.2.1) ∧ m_okI 107 e.1 e.2.1 e.2.2.1 e.2.2.2 = true := by decide +kernel
set_option maxRecDepth 100000 in
theorem m_t8_108 : ∀ e ∈ m_i108, decode prog_14_method_113_code e.1 = .ok (e.2.1, e.2.2.1) ∧ m_okI 108 e.1 e.2.1 e.2.2.1 e.2.2.2 = true := by decide +kernel
set_option maxRecDepth 100000 in
theorem m_t8_109 : ∀ e ∈ m_i109, decode prog_1_method_25_code e.1 = .ok (e.2.1, e.2.2.1) ∧ m_okI 109 e.1 e.2.1 e.2.2.1 e.2.2.2 = true := by decide +kernel
set_option maxRecDepth 100000 in
theorem m_t8_110 : ∀ e ∈ m_i110, decode prog_14_method_117_code e.1 = .ok (e.2.1, e.2.2.1) ∧ m_okI 110 e.1 e.2.1 e.2.2.1 e.2.2.2 = true := by decide +kernel
set_option maxRecDepth 100000 in
theorem m_t8_111 : ∀ e ∈ m_i111, decode prog_1_method_24_code e.1 = .ok (e.2.1, e.2.2.1) ∧ m_okI 111 e.1 e.2.1 e.2.2.1 e.2.2.2 = true := by decide +kernel
set_option maxRecDepth 100000 in
theorem m_t8_112_0 : ∀ e ∈ m_i112_0, decode prog_14_method_116_code e.1 = .ok (e.2.1, e.2.2.1) ∧ m_okI 112 e.1 e.2.1 e.2.2.1 e.2.2.2 = true := by decide +kernel
set_option maxRecDepth 100000 in
theorem m_t8_112_1 : ∀ e ∈ m_i112_1, decode prog_14_method_116_code e.1 = .ok (e.2.1, e.2.2.1) ∧ m_okI 112 e.1 e.2.1 e.2.2.1 e.2.2.2 = true := by decide +kernel
theorem m_t8_112 : ∀ e ∈ m_i112, decode prog_14_method_116_code e.1 = .ok (e.2.1, e.2.2.1) ∧ m_okI 112 e.1 e.2.1 e.2.2.1 e.2.2.2 = true := List.forall_mem_append.mpr ⟨m_t8_112_0, m_t8_112_1⟩
set_option maxRecDepth 100000 in
theorem m_t8_113 : ∀ e ∈ m_i113, decode prog_14_method_115_code e.1 = .ok (e.2.1, e.2.2.1) ∧ m_okI 113 e.1 e.2.1 e.2.2.1 e.2.2.2 = true := by decide +kernel
set_option maxRecDepth 100000 in
theorem m_t8_114 : ∀ e ∈ m_i114, decode prog_14_method_114_code e.1 = .ok (e.2.1, e.2.2.1) ∧ m_okI 114 e.1 e.2.1 e.2.2.1 e.2.2.2 = true := by decide +kernel
set_option maxRecDepth 100000 in
theorem m_t8_115_0 : ∀ e ∈ m_i115_0, decode prog_1_method_23_code e.1 = .ok (e.2.1, e.2.2.1) ∧ m_okI 115 e.1 e.2.1 e.2.2.1 e.2.2.2 = true := by decide +kernel
set_option maxRecDepth 100000 in
theorem m_t8_115_1 : ∀ e ∈ m_i115_1, decode prog_1_method_23_code e.1 = .ok (e.2.1, e.2.2.1) ∧ m_okI 115 e.1 e.2.1 e.2.2.1 e.2.2.2 = true := by decide +kernel
theorem m_t8_115 : ∀ e ∈ m_i115, decode prog_1_method_23_code e.1 = .ok (e.2.1, e.2.2.1) ∧ m_okI 115 e.1 e.2.1 e.2.2.1 e.2.2.2 = true := List.forall_mem_append.mpr ⟨m_t8_115_0, m_t8_115_1⟩
set_option maxRecDepth 100000 in
theorem m_t8_116 : ∀ e ∈ m_i116, decode prog_12_method_4_code e.1 = .ok (e.2.1, e.2.2.1) ∧ m_okI 116 e.1 e.2.1 e.2.2.1 e.2.2.2 = true := by decide +kernel
set_option maxRecDepth 100000 in
theorem m_t8_117 : ∀ e ∈ m_i117, decode prog_14_method_108_code e.1 = .ok (e.2.1, e.2.2.1) ∧ m_okI 117 e.1 e.2.1 e.2.2.1 e.2.2.2 = true := by decide +kernel
set_option maxRecDepth 100000 in
theorem m_t8_118 : ∀ e ∈ m_i118, decode prog_14_method_107_code e.1 = .ok (e.2.1, e.2.2.1) ∧ m_okI 118 e.1 e.2.1 e.2.2.1 e.2.2.2 = true := by decide +kernel
set_option maxRecDepth 100000 in
theorem m_t8_119 : ∀ e ∈ m_i119, decode prog_14_method_106_code e.1 = .ok (e.2.1, e.2.2.1) ∧ m_okI 119 e.1 e.2.1 e.2.2.1 e.2.2.2 = true := by decide +kernel
set_option maxRecDepth 100000 in
theorem m_a8_2 : m_all8 80 [m_i80, m_i81, m_i82, m_i83, m_i84, m_i85, m_i86, m_i87, m_i88, m_i89, m_i90, m_i91, m_i92, m_i93, m_i94, m_i95, m_i96, m_i97, m_i98, m_i99, m_i100, m_i101, m_i102, m_i103, m_i104, m_i105, m_i106, m_i107, m_i108, m_i109, m_i110, m_i111, m_i112, m_i113, m_i114, m_i115, m_i116, m_i117, m_i118, m_i119] := ⟨m_t8_80, m_t8_81, m_t8_82, m_t8_83, m_t8_84, m_t8_85, m_t8_86, m_t8_87, m_t8_88, m_t8_89, m_t8_90, m_t8_91, m_t8_92, m_t8_93, m_t8_94, m_t8_95, m_t8_96, m_t8_97, m_t8_98, m_t8_99, m_t8_100, m_t8_101, m_t8_102, m_t8_103, m_t8_104, m_t8_105, m_t8_106, m_t8_107, m_t8_108, m_t8_109, m_t8_110, m_t8_111, m_t8_112, m_t8_113, m_t8_114, m_t8_115, m_t8_116, m_t8_117, m_t8_118, m_t8_119, trivial⟩
set_option maxRecDepth 100000 in
theorem m_t8_120 : ∀ e ∈ m_i120, decode prog_1_method_22_code e.1 = .ok (e.2.1, e.2.2.1) ∧ m_okI 120 e.1 e.2.1 e.2.2.1 e.2.2.2 = true := by decide +kernel
set_option maxRecDepth 100000 in
theorem m_t8_121 : ∀ e ∈ m_i121, decode prog_12_method_33_code e.1 = .ok (e.2.1, e.2.2.1) ∧ m_okI 121 e.1 e.2.1 e.2.2.1 e.2.2.2 = true := by decide +kernel
set_option maxRecDepth 100000 in
theorem m_t8_122 : ∀ e ∈ m_i122, decode prog_12_method_32_code e.1 = .ok (e.2.1, e.2.2.1) ∧ m_okI 122 e.1 e.2.1 e.2.2.1 e.2.2.2 = true := by decide +kernel
set_option maxRecDepth 100000 in
theorem m_t8_123 : ∀ e ∈ m_i123, decode prog_12_method_31_code e.1 = .ok (e.2.1, e.2.2.1) ∧ m_okI 123 e.1 e.2.1 e.2.2.1 e.2.2.2 = true := by decide +kernel
set_option maxRecDepth 100000 in
theorem m_t8_124 : ∀ e ∈ m_i124, decode prog_12_method_8_code e.1 = .ok (e.2.1, e.2.2.1) ∧ m_okI 124 e.1 e.2.1 e.2.2.1 e.2.2.2 = true := by decide +kernel
set_option maxRecDepth 100000 in
theorem m_t8_125 : ∀ e ∈ m_i125, decode prog_14_method_105_code e.1 = .ok (e.2.1, e.2.2.1) ∧ m_okI 125 e.1 e.2.1 e.2.2.1 e.2.2.2 = true := by decide +kernel
set_option maxRecDepth 100000 in
theorem m_t8_126 : ∀ e ∈ m_i126, decode prog_1_method_21_code e.1 = .ok (e.2.1, e.2.2.1) ∧ m_okI 126 e.1 e.2.1 e.2.2.1 e.2.2.2 = true := by decide +kernel
set_option maxRecDepth 100000 in
theorem m_t8_127 : ∀ e ∈ m_i127, decode prog_14_method_104_code e.1 = .ok (e.2.1, e.2.2.1) ∧ m_okI 127 e.1 e.2.1 e.2.2.1 e.2.2.2 = true := by decide +kernel
set_option maxRecDepth 100000 in
theorem m_t8_128_0 : ∀ e ∈ m_i128_0, decode prog_1_method_20_code e.1 = .ok (e.2.1, e.2.2.1) ∧ m_okI 128 e.1 e.2.1 e.2.2.1 e.2.2.2 = true := by decide +kernel
set_option maxRecDepth 100000 in
theorem m_t8_128_1 : ∀ e ∈ m_i128_1, decode prog_1_method_20_code e.1 = .ok (e.2.1, e.2.2.1) ∧ m_okI 128 e.1 e.2.1 e.2.2.1 e.2.2.2 = true := by decide +kernel
theorem m_t8_128 : ∀ e ∈ m_i128, decode prog_1_method_20_code e.1 = .ok (e.2.1, e.2.2.1) ∧ m_okI 128 e.1 e.2.1 e.2.2.1 e.2.2.2 = true := List.forall_mem_append.mpr ⟨m_t8_128_0, m_t8_128_1⟩
set_option maxRecDepth 100000 in
theorem m_t8_129 : ∀ e ∈ m_i129, decode prog_14_method_103_code e.1 = .ok (e.2.1, e.2.2.1) ∧ m_okI 129 e.1 e.2.1 e.2.2.1 e.2.2.2 = true := by decide +kernel
set_option maxRecDepth 100000 in
theorem m_t8_130 : ∀ e ∈ m_i130, decode prog_14_method_102_code e.1 = .ok (e.2.1, e.2.2.1) ∧ m_okI 130 e.1 e.2.1 e.2.2.1 e.2.2.2 = true := by decide +kernel
set_option maxRecDepth 100000 in
theorem m_t8_131_0 : ∀ e ∈ m_i131_0, decode prog_1_method_19_code e.1 = .ok (e.2.1, e.2.2.1) ∧ m_okI 131 e.1 e.2.1 e.2.2.1 e.2.2.2 = true := by decide +kernel
set_option maxRecDepth 100000 in
theorem m_t8_131_1 : ∀ e ∈ m_i131_1, decode prog_1_method_19_code e.1 = .ok (e.2.1, e.2.2.1) ∧ m_okI 131 e.1 e.2.1 e.2.2.1 e.2.2.2 = true := by decide +kernel
theorem m_t8_131 : ∀ e ∈ m_i131, decode prog_1_method_19_code e.1 = .ok (e.2.1, e.2.2.1) ∧ m_okI 131 e.1 e.2.1 e.2.2.1 e.2.2.2 = true := List.forall_mem_append.mpr ⟨m_t8_131_0, m_t8_131_1⟩
set_option maxRecDepth 100000 in
theorem m_t8_132 : ∀ e ∈ m_i132, decode prog_12_method_24_code e.1 = .ok (e.2.1, e.2.2.1) ∧ m_okI 132 e.1 e.2.1 e.2.2.1 e.2.2.2 = true := by decide +kernel
set_option maxRecDepth 100000 in
theorem m_t8_133_0 : ∀ e ∈ m_i133_0, decode prog_14_method_80_code e.1 = .ok (e.2.1, e.2.2.1) ∧ m_okI 133 e.1 e.2.1 e.2.2.1 e.2.2.2 = true := by decide +kernel
set_option maxRecDepth 100000 in
theorem m_t8_133_1 : ∀ e ∈ m_i133_1, decode prog_14_method_80_code e.1 = .ok (e.2.1, e.2.2.1) ∧ m_okI 133 e.1 e.2.1 e.2.2.1 e.2.2.2 = true := by decide +kernel
theorem m_t8_133 : ∀ e ∈ m_i133, decode prog_14_method_80_code e.1 = .ok (e.2.1, e.2.2.1) ∧ m_okI 133 e.1 e.2.1 e.2.2.1 e.2.2.2 = true := List.forall_mem_append.mpr ⟨m_t8_133_0, m_t8_133_1⟩
set_option maxRecDepth 100000 in
theorem m_t8_134 : ∀ e ∈ m_i134, decode prog_1_method_18_code e.1 = .ok (e.2.1, e.2.2.1) ∧ m_okI 134 e.1 e.2.1 e.2.2.1 e.2.2.2 = true := by decide +kernel
set_option maxRecDepth 100000 in
theorem m_t8_135 : ∀ e ∈ m_i135, decode prog_8_method_4_code e.1 = .ok (e.2.1, e.2.2.1) ∧ m_okI 135 e.1 e.2.1 e.2.2.1 e.2.2.2 = true := by decide +kernel
set_option maxRecDepth 100000 in
theorem m_t8_136_0 : ∀ e ∈ m_i136_0, decode prog_12_method_5_code e.1 = .ok (e.2.1, e.2.2.1) ∧ m_okI 136 e.1 e.2.1 e.2.2.1 e.2.2.2 = true := by decide +kernel
set_option maxRecDepth 100000 in
theorem m_t8_136_1 : ∀ e ∈ m_i136_1, decode prog_12_method_5_code e.1 = .ok (e.2.1, e.2.2.1) ∧ m_okI 136 e.1 e.2.1 e.2.2.1 e.2.2.2 = true := by decide +kernel
theorem m_t8_136 : ∀ e ∈ m_i136, decode prog_12_method_5_code e.1 = .ok (e.2.1, e.2.2.1) ∧ m_okI 136 e.1 e.2.1 e.2.2.1 e.2.2.2 = true := List.forall_mem_append.mpr ⟨m_t8_136_0, m_t8_136_1⟩
set_option maxRecDepth 100000 in
theorem m_t8_137 : ∀ e ∈ m_i137, decode prog_14_method_101_code e.1 = .ok (e.2.1, e.2.2.1) ∧ m_okI 137 e.1 e.2.1 e.2.2.1 e.2.2.2 = true := by decide +kernel
set_option maxRecDepth 100000 in
theorem m_t8_138_0 : ∀ e ∈ m_i138_0, decode prog_14_method_100_code e.1 = .ok (e.2.1, e.2.2.1) ∧ m_okI 138 e.1 e.2.1 e.2.2.1 e.2.2.2 = true := by decide +kernel
set_option maxRecDepth 100000 in
theorem m_t8_138_1 : ∀ e ∈ m_i138_1, decode prog_14_method_100_code e.1 = .ok (e.2.1, e.2.2.1) ∧ m_okI 138 e.1 e.2.1 e.2.2.1 e.2.2.2 = true := by decide +kernel
set_option maxRecDepth 100000 in
theorem m_t8_138_2 : ∀ e ∈ m_i138_2, decode prog_14_method_100_code e.1 = .ok (e.2.1, e.2.2.1) ∧ m_okI 138 e.1 e.2.1 e.2.2.1 e.2.2.2 = true := by decide +kernel
theorem m_t8_138 : ∀ e ∈ m_i138, decode prog_14_method_100_code e.1 = .ok (e.2.1, e.2.2.1) ∧ m_okI 138 e.1 e.2.1 e.2.2.1 e.2.2.2 = true := List.forall_mem_append.mpr ⟨m_t8_138_0, List.forall_mem_append.mpr ⟨m_t8_138_1, m_t8_138_2⟩⟩
set_option maxRecDepth 100000 in
theorem m_t8_139 : ∀ e ∈ m_i139, decode prog_1_method_17_code e.1 = .ok (e.2.1, e.2.2.1) ∧ m_okI 139 e.1 e.2.1 e.2.2.1 e.2.2.2 = true := by decide +kernel
set_option maxRecDepth 100000 in
theorem m_t8_140_0 : ∀ e ∈ m_i140_0, decode prog_1_method_59_code e.1 = .ok (e.2.1, e.2.2.1) ∧ m_okI 140 e.1 e.2.1 e.2.2.1 e.2.2.2 = true := by decide +kernel
set_option maxRecDepth 100000 in
theorem m_t8_140_1 : ∀ e ∈ m_i140_1, decode prog_1_method_59_code e.1 = .ok (e.2.1, e.2.2.1) ∧ m_okI 140 e.1 e.2.1 e.2.2.1 e.2.2.2 = true := by decide +kernel
theorem m_t8_140 : ∀ e ∈ m_i140, decode prog_1_method_59_code e.1 = .ok (e.2.1, e.2.2.1) ∧ m_okI 140 e.1 e.2.1 e.2.2.1 e.2.2.2 = true := List.forall_mem_append.mpr ⟨m_t8_140_0, m_t8_140_1⟩
set_option maxRecDepth 100000 in
theorem m_t8_141 : ∀ e ∈ m_i141, decode prog_1_method_60_code e.1 = .ok (e.2.1, e.2.2.1) ∧ m_okI 141 e.1 e.2.1 e.2.2.1 e.2.2.2 = true := by decide +kernel
set_option maxRecDepth 100000 in
theorem m_t8_142 : ∀ e ∈ m_i142, decode prog_12_method_18_code e.1 = .ok (e.2.1, e.2.2.1) ∧ m_okI 142 e.1 e.2.1 e.2.2.1 e.2.2.2 = true := by decide +kernel
set_option maxRecDepth 100000 in
theorem m_t8_143 : ∀ e ∈ m_i143, decode prog_14_method_99_code e.1 = .ok (e.2.1, e.2.2.1) ∧ m_okI 143 e.1 e.2.1 e.2.2.1 e.2.2.2 = true := by decide +kernel
set_option maxRecDepth 100000 in
theorem m_t8_144_0 : ∀ e ∈ m_i144_0, decode prog_14_method_98_code e.1 = .ok (e.2.1, e.2.2.1) ∧ m_okI 144 e.1 e.2.1 e.2.2.1 e.2.2.2 = true := by decide +kernel
set_option maxRecDepth 100000 in
theorem m_t8_144_1 : ∀ e ∈ m_i144_1, decode prog_14_method_98_code e.1 = .ok (e.2.1, e.2.2.1) ∧ m_okI 144 e.1 e.2.1 e.2.2.1 e.2.2.2 = true := by decide +kernel
theorem m_t8_144 : ∀ e ∈ m_i144, decode prog_14_method_98_code e.1 = .ok (e.2.1, e.2.2.1) ∧ m_okI 144 e.1 e.2.1 e.2.2.1 e.2.2.2 = true := List.forall_mem_append.mpr ⟨m_t8_144_0, m_t8_144_1⟩
set_option maxRecDepth 100000 in
theorem m_t8_145 : ∀ e ∈ m_i145, decode prog_1_method_16_code e.1 = .ok (e.2.1, e.2.2.1) ∧ m_okI 145 e.1 e.2.1 e.2.2.1 e.2.2.2 = true := by decide +kernel
set_option maxRecDepth 100000 in
theorem m_t8_146_0 : ∀ e ∈ m_i146_0, decode prog_1_method_58_code e.1 = .ok (e.2.1, e.2.2.1) ∧ m_okI 146 e.1 e.2.1 e.2.2.1 e.2.2.2 = true := by decide +kernel
set_option maxRecDepth 100000 in
theorem m_t8_146_1 : ∀ e ∈ m_i146_1, decode prog_1_method_58_code e.1 = .ok (e.2.1, e.2.2.1) ∧ m_okI 146 e.1 e.2.1 e.2.2.1 e.2.2.2 = true := by decide +kernel
theorem m_t8_146 : ∀ e ∈ m_i146, decode prog_1_method_58_code e.1 = .ok (e.2.1, e.2.2.1) ∧ m_okI 146 e.1 e.2.1 e.2.2.1 e.2.2.2 = true := List.forall_mem_append.mpr ⟨m_t8_146_0, m_t8_146_1⟩
set_option maxRecDepth 100000 in
theorem m_t8_147 : ∀ e ∈ m_i147, decode prog_7_method_11_code e.1 = .ok (e.2.1, e.2.2.1) ∧ m_okI 147 e.1 e.2.1 e.2.2.1 e.2.2.2 = true := by decide +kernel
set_option maxRecDepth 100000 in
theorem m_t8_148 : ∀ e ∈ m_i148, decode prog_7_method_15_code e.1 = .ok (e.2.1, e.2.2.1) ∧ m_okI 148 e.1 e.2.1 e.2.2.1 e.2.2.2 = true := by decide +kernel
set_option maxRecDepth 100000 in
theorem m_t8_149 : ∀ e ∈ m_i149, decode prog_14_method_97_code e.1 = .ok (e.2.1, e.2.2.1) ∧ m_okI 149 e.1 e.2.1 e.2.2.1 e.2.2.2 = true := by decide +kernel
set_option maxRecDepth 100000 in
theorem m_t8_150 : ∀ e ∈ m_i150, decode prog_14_method_96_code e.1 = .ok (e.2.1, e.2.2.1) ∧ m_okI 150 e.1 e.2.1 e.2.2.1 e.2.2.2 = true := by decide +kernel
set_option maxRecDepth 100000 in
theorem m_t8_151_0 : ∀ e ∈ m_i151_0, decode prog_14_method_78_code e.1 = .ok (e.2.1, e.2.2.1) ∧ m_okI 151 e.1 e.2.1 e.2.2.1 e.2.2.2 = true := by decide +kernel
set_option maxRecDepth 100000 in
theorem m_t8_151_1 : ∀ e ∈ m_i151_1, decode prog_14_method_78_code e.1 = .ok (e.2.1, e.2.2.1) ∧ m_okI 151 e.1 e.2.1 e.2.2.1 e.2.2.2 = true := by decide +kernel
theorem m_t8_151 : ∀ e ∈ m_i151, decode prog_14_method_78_code e.1 = .ok (e.2.1, e.2.2.1) ∧ m_okI 151 e.1 e.2.1 e.2.2.1 e.2.2.2 = true := List.forall_mem_append.mpr ⟨m_t8_151_0, m_t8_151_1⟩
set_option maxRecDepth 100000 in
theorem m_t8_152 : ∀ e ∈ m_i152, decode prog_14_method_76_code e.1 = .ok (e.2.1, e.2.2.1) ∧ m_okI 152 e.1 e.2.1 e.2.2.1 e.2.2.2 = true := by decide +kernel
set_option maxRecDepth 100000 in
theorem m_t8_153 : ∀ e ∈ m_i153, decode prog_14_method_74_code e.1 = .ok (e.2.1, e.2.2.1) ∧ m_okI 153 e.1 e.2.1 e.2.2.1 e.2.2.2 = true := by decide +kernel
set_option maxRecDepth 100000 in
theorem m_t8_154_0 : ∀ e ∈ m_i154_0, decode prog_14_method_77_code e.1 = .ok (e.2.1, e.2.2.1) ∧ m_okI 154 e.1 e.2.1 e.2.2.1 e.2.2.2 = true := by decide +kernel
set_option maxRecDepth 100000 in
theorem m_t8_154_1 : ∀ e ∈ m_i154_1, decode prog_14_method_77_code e.1 = .ok (e.2.1, e.2.2.1) ∧ m_okI 154 e.1 e.2.1 e.2.2.1 e.2.2.2 = true := by decide +kernel
theorem m_t8_154 : ∀ e ∈ m_i154, decode prog_14_method_77_code e.1 = .ok (e.2.1, e.2.2.1) ∧ m_okI 154 e.1 e.2.1 e.2.2.1 e.2.2.2 = true := List.forall_mem_append.mpr ⟨m_t8_154_0, m_t8_154_1⟩
set_option maxRecDepth 100000 in
theorem m_t8_155 : ∀ e ∈ m_i155, decode prog_14_method_72_code e.1 = .ok (e.2.1, e.2.2.1) ∧ m_okI 155 e.1 e.2.1 e.2.2.1 e.2.2.2 = true := by decide +kernel
set_option maxRecDepth 100000 in
theorem m_t8_156 : ∀ e ∈ m_i156, decode prog_14_method_71_code e.1 = .ok (e.2.1, e.2.2.1) ∧ m_okI 156 e.1 e.2.1 e.2.2.1 e.2.2.2 = true := by decide +kernel
set_option maxRecDepth 100000 in
theorem m_t8_157_0 : ∀ e ∈ m_i157_0, decode prog_14_method_70_code e.1 = .ok (e.2.1, e.2.2.1) ∧ m_okI 157 e.1 e.2.1 e.2.2.1 e.2.2.2 = true := by decide +kernel
set_option maxRecDepth 100000 in
theorem m_t8_157_1 : ∀ e ∈ m_i157_1, decode prog_14_method_70_code e.1 = .ok (e.2.1, e.2.2.1) ∧ m_okI 157 e.1 e.2.1 e.2.2.1 e.2.2.2 = true := by decide +kernel
theorem m_t8_157 : ∀ e ∈ m_i157, decode prog_14_method_70_code e.1 = .ok (e.2.1, e.2.2.1) ∧ m_okI 157 e.1 e.2.1 e.2.2.1 e.2.2.2 = true := List.forall_mem_append.mpr ⟨m_t8_157_0, m_t8_157_1⟩
set_option maxRecDepth 100000 in
theorem m_t8_158 : ∀ e ∈ m_i158, decode prog_14_method_13_code e.1 = .ok (e.2.1, e.2.2.1) ∧ m_okI 158 e.1 e.2.1 e.2.2.1 e.2.2.2 = true := by decide +kernel
set_option maxRecDepth 100000 in
theorem m_t8_159 : ∀ e ∈ m_i159, decode prog_1_method_15_code e.1 = .ok (e.2.1, e.2.2.1) ∧ m_okI 159 e.1 e.2.1 e.2.2.1 e.2.2.2 = true := by decide +kernel
set_option maxRecDepth 100000 in
theorem m_a8_3 : m_all8 120 [m_i120, m_i121, m_i122, m_i123, m_i124, m_i125, m_i126, m_i127, m_i128, m_i129, m_i130, m_i131, m_i132, m_i133, m_i134, m_i135, m_i136, m_i137, m_i138, m_i139, m_i140, m_i141, m_i142, m_i143, m_i144, m_i145, m_i146, m_i147, m_i148, m_i149, m_i150, m_i151, m_i152, m_i153, m_i154, m_i155, m_i156, m_i157, m_i158, m_i159] := ⟨m_t8_120, m_t8_121, m_t8_122, m_t8_123, m_t8_124, m_t8_125, m_t8_126, m_t8_127, m_t8_128, m_t8_129, m_t8_130, m_t8_131, m_t8_132, m_t8_133, m_t8_134, m_t8_135, m_t8_136, m_t8_137, m_t8_138, m_t8_139, m_t8_140, m_t8_141, m_t8_142, m_t8_143, m_t8_144, m_t8_145, m_t8_146, m_t8_147, m_t8_148, m_t8_149, m_t8_150, m_t8_151, m_t8_152, m_t8_153, m_t8_154, m_t8_155, m_t8_156, m_t8_157, m_t8_158, m_t8_159, trivial⟩
set_option maxRecDepth 100000 in
theorem m_t8_160 : ∀ e ∈ m_i160, decode prog_1_method_57_code e.1 = .ok (e.2.1, e.2.2.1) ∧ m_okI 160 e.1 e.2.1 e.2.2.1 e.2.2.2 = true := by decide +kernel
set_option maxRecDepth 100000 in
theorem m_t8_161_0 : ∀ e ∈ m_i161_0, decode prog_3_method_3_code e.1 = .ok (e.2.1, e.2.2.1) ∧ m_okI 161 e.1 e.2.1 e.2.2.1 e.2.2.2 = true := by decide +kernel
set_option maxRecDepth 100000 in
theorem m_t8_161_1 : ∀ e ∈ m_i161_1, decode prog_3_method_3_code e.1 = .ok (e.2.1, e.2.2.1) ∧ m_okI 161 e.1 e.2.1 e.2.2.1 e.2.2.2 = true := by decide +kernel
set_option maxRecDepth 100000 in
theorem m_t8_161_2 : ∀ e ∈ m_i161_2, decode prog_3_method_3_code e.1 = .ok (e.2.1, e.2.2.1) ∧ m_okI 161 e.1 e.2.1 e.2.2.1 e.2.2.2 = true := by decide +kernel
theorem m_t8_161 : ∀ e ∈ m_i161, decode prog_3_method_3_code e.1 = .ok (e.2.1, e.2.2.1) ∧ m_okI 161 e.1 e.2.1 e.2.2.1 e.2.2.2 = true := List.forall_mem_append.mpr ⟨m_t8_161_0, List.forall_mem_append.mpr ⟨m_t8_161_1, m_t8_161_2⟩⟩
set_option maxRecDepth 100000 in
theorem m_t8_162 : ∀ e ∈ m_i162, decode prog_12_method_19_code e.1 = .ok (e.2.1, e.2.2.1) ∧ m_okI 162 e.1 e.2.1 e.2.2.1 e.2.2.2 = true := by decide +kernel
set_option maxRecDepth 100000 in
theorem m_t8_163 : ∀ e ∈ m_i163, decode prog_12_method_30_code e.1 = .ok (e.2.1, e.2.2.1) ∧ m_okI 163 e.1 e.2.1 e.2.2.1 e.2.2.2 = true := by decide +kernel
set_option maxRecDepth 100000 in
theorem m_t8_164 : ∀ e ∈ m_i164, decode prog_12_method_11_code e.1 = .ok (e.2.1, e.2.2.1) ∧ m_okI 164 e.1 e.2.1 e.2.2.1 e.2.2.2 = true := by decide +kernel
set_option maxRecDepth 100000 in
theorem m_t8_165 : ∀ e ∈ m_i165, decode prog_14_method_95_code e.1 = .ok (e.2.1, e.2.2.1) ∧ m_okI 165 e.1 e.2.1 e.2.2.1 e.2.2.2 = true := by decide +kernel
set_option maxRecDepth 100000 in
theorem m_t8_166 : ∀ e ∈ m_i166, decode prog_1_method_14_code e.1 = .ok (e.2.1, e.2.2.1) ∧ m_okI 166 e.1 e.2.1 e.2.2.1 e.2.2.2 = true := by decide +kernel
set_option maxRecDepth 100000 in
theorem m_t8_167 : ∀ e ∈ m_i167, decode prog_3_method_5_code e.1 = .ok (e.2.1, e.2.2.1) ∧ m_okI 167 e.1 e.2.1 e.2.2.1 e.2.2.2 = true := by decide +kernel
set_option maxRecDepth 100000 in
theorem m_t8_168 : ∀ e ∈ m_i168, decode prog_14_method_94_code e.1 = .ok (e.2.1, e.2.2.1) ∧ m_okI 168 e.1 e.2.1 e.2.2.1 e.2.2.2 = true := by decide +kernel
set_option maxRecDepth 100000 in
theorem m_t8_169 : ∀ e ∈ m_i169, decode prog_14_method_93_code e.1 = .ok (e.2.1, e.2.2.1) ∧ m_okI 169 e.1 e.2.1 e.2.2.1 e.2.2.2 = true := by decide +kernel
set_option maxRecDepth 100000 in
theorem m_t8_170 : ∀ e ∈ m_i170, decode prog_14_method_92_code e.1 = .ok (e.2.1, e.2.2.1) ∧ m_okI 170 e.1 e.2.1 e.2.2.1 e.2.2.2 = true := by decide +kernel
set_option maxRecDepth 100000 in
theorem m_t8_171 : ∀ e ∈ m_i171, decode prog_14_method_91_code e.1 = .ok (e.2.1, e.2.2.1) ∧ m_okI 171 e.1 e.2.1 e.2.2.1 e.2.2.2 = true := by decide +kernel
set_option maxRecDepth 100000 in
theorem m_t8_172 : ∀ e ∈ m_i172, decode prog_14_method_75_code e.1 = .ok (e.2.1, e.2.2.1) ∧ m_okI 172 e.1 e.2.1 e.2.2.1 e.2.2.2 = true := by decide +kernel
set_option maxRecDepth 100000 in
theorem m_t8_173 : ∀ e ∈ m_i173, decode prog_14_method_69_code e.1 = .ok (e.2.1, e.2.2.1) ∧ m_okI 173 e.1 e.2.1 e.2.2.1 e.2.2.2 = true := by decide +kernel
set_option maxRecDepth 100000 in
theorem m_t8_174_0 : ∀ e ∈ m_i174_0, decode prog_14_method_68_code e.1 = .ok (e.2.1, e.2.2.1) ∧ m_okI 174 e.1 e.2.1 e.2.2.1 e.2.2.2 = true := by decide +kernel
