-- names and links: written by wip/whole/gen/gen_eqs.py
set_option maxRecDepth 20000 in
theorem m_rlt {a r ρ : Nat} (h : a = r) (h2 : r < ρ) : a < ρ := by rw [h]; exact h2
set_option maxRecDepth 20000 in
theorem e_miss {x : m_X} {ρ k pc : Nat} {L : m_L} {st : List Value} {σ : m_H} (h : m_at k pc = none) : m_D x ρ k pc L st σ = none := m_D_none (by unfold m_nxt; rw [h])
set_option maxRecDepth 20000 in
theorem e_ifT {x : m_X} {ρ k pc j : Nat} {L : m_L} {st : List Value} {σ : m_H} {o : Option m_R} {c : Jvm.ClassFile.Cond} {off : Int} {t : Nat} {a : Int32} (h : m_at k pc = some (.ifCond c off, 3, j)) (ht : m_tg pc off = t) (hc : m_cd1 c a 0 = true) (e : m_D x ρ k t L st σ = o) : m_D x ρ k pc L (.int a :: st) σ = o := e_go h (by show m_go (if m_cd1 c a 0 then m_tg pc off else pc + 3) L st σ = _; rw [hc, ← ht]; rfl) e
theorem e_ifF {x : m_X} {ρ k pc j : Nat} {L : m_L} {st : List Value} {σ : m_H} {o : Option m_R} {c : Jvm.ClassFile.Cond} {off : Int} {a : Int32} (h : m_at k pc = some (.ifCond c off, 3, j)) (hc : m_cd1 c a 0 = false) (e : m_D x ρ k (pc + 3) L st σ = o) : m_D x ρ k pc L (.int a :: st) σ = o := e_go h (by show m_go (if m_cd1 c a 0 then m_tg pc off else pc + 3) L st σ = _; rw [hc]; rfl) e
theorem e_icT {x : m_X} {ρ k pc j : Nat} {L : m_L} {st : List Value} {σ : m_H} {o : Option m_R} {c : Jvm.ClassFile.Cond} {off : Int} {t : Nat} {a b : Int32} (h : m_at k pc = some (.if_icmp c off, 3, j)) (ht : m_tg pc off = t) (hc : m_cd1 c a b = true) (e : m_D x ρ k t L st σ = o) : m_D x ρ k pc L (.int b :: .int a :: st) σ = o := e_go h (by show m_go (if m_cd1 c a b then m_tg pc off else pc + 3) L st σ = _; rw [hc, ← ht]; rfl) e
theorem e_icF {x : m_X} {ρ k pc j : Nat} {L : m_L} {st : List Value} {σ : m_H} {o : Option m_R} {c : Jvm.ClassFile.Cond} {off : Int} {a b : Int32} (h : m_at k pc = some (.if_icmp c off, 3, j)) (hc : m_cd1 c a b = false) (e : m_D x ρ k (pc + 3) L st σ = o) : m_D x ρ k pc L (.int b :: .int a :: st) σ = o := e_go h (by show m_go (if m_cd1 c a b then m_tg pc off else pc + 3) L st σ = _; rw [hc]; rfl) e
set_option maxRecDepth 20000 in
theorem lm_0 : m_lm[0]? = some (0, 9, 359, 0) := rfl
set_option maxRecDepth 20000 in
theorem lm_1 : m_lm[1]? = some (0, 12, 357, 0) := rfl
set_option maxRecDepth 20000 in
theorem lm_2 : m_lm[2]? = some (0, 13, 353, 0) := rfl
set_option maxRecDepth 20000 in
theorem lm_3 : m_lm[3]? = some (0, 17, 351, 0) := rfl
set_option maxRecDepth 20000 in
theorem lm_4 : m_lm[4]? = some (0, 18, 348, 0) := rfl
set_option maxRecDepth 20000 in
theorem lm_5 : m_lm[5]? = some (0, 22, 346, 0) := rfl
set_option maxRecDepth 20000 in
theorem lm_6 : m_lm[6]? = some (0, 23, 345, 0) := rfl
set_option maxRecDepth 20000 in
theorem lm_7 : m_lm[7]? = some (0, 27, 344, 0) := rfl
set_option maxRecDepth 20000 in
theorem lm_8 : m_lm[8]? = some (0, 28, 291, 0) := rfl
set_option maxRecDepth 20000 in
theorem lm_9 : m_lm[9]? = some (0, 32, 250, 0) := rfl
set_option maxRecDepth 20000 in
theorem lm_10 : m_lm[10]? = some (0, 33, 249, 0) := rfl
set_option maxRecDepth 20000 in
theorem lm_11 : m_lm[11]? = some (0, 36, 248, 0) := rfl
set_option maxRecDepth 20000 in
theorem lm_12 : m_lm[12]? = some (0, 37, 246, 0) := rfl
set_option maxRecDepth 20000 in
theorem lm_13 : m_lm[13]? = some (0, 41, 245, 0) := rfl
set_option maxRecDepth 20000 in
theorem lm_14 : m_lm[14]? = some (0, 42, 237, 0) := rfl
set_option maxRecDepth 20000 in
theorem lm_15 : m_lm[15]? = some (0, 45, 231, 0) := rfl
set_option maxRecDepth 20000 in
theorem lm_16 : m_lm[16]? = some (0, 46, 226, 0) := rfl
set_option maxRecDepth 20000 in
theorem lm_17 : m_lm[17]? = some (0, 49, 220, 0) := rfl
set_option maxRecDepth 20000 in
theorem lm_18 : m_lm[18]? = some (0, 50, 217, 0) := rfl
set_option maxRecDepth 20000 in
theorem lm_19 : m_lm[19]? = some (0, 54, 214, 0) := rfl
set_option maxRecDepth 20000 in
theorem lm_20 : m_lm[20]? = some (0, 55, 212, 0) := rfl
set_option maxRecDepth 20000 in
theorem lm_21 : m_lm[21]? = some (0, 58, 211, 0) := rfl
set_option maxRecDepth 20000 in
theorem lm_22 : m_lm[22]? = some (0, 59, 209, 0) := rfl
set_option maxRecDepth 20000 in
theorem lm_23 : m_lm[23]? = some (0, 62, 208, 0) := rfl
set_option maxRecDepth 20000 in
theorem lm_24 : m_lm[24]? = some (0, 63, 183, 0) := rfl
set_option maxRecDepth 20000 in
theorem lm_25 : m_lm[25]? = some (0, 66, 168, 0) := rfl
set_option maxRecDepth 20000 in
theorem lm_26 : m_lm[26]? = some (0, 67, 166, 0) := rfl
set_option maxRecDepth 20000 in
theorem lm_27 : m_lm[27]? = some (0, 70, 165, 0) := rfl
set_option maxRecDepth 20000 in
theorem lm_28 : m_lm[28]? = some (0, 71, 159, 0) := rfl
set_option maxRecDepth 20000 in
theorem lm_29 : m_lm[29]? = some (0, 74, 149, 0) := rfl
set_option maxRecDepth 20000 in
theorem lm_30 : m_lm[30]? = some (0, 75, 145, 0) := rfl
set_option maxRecDepth 20000 in
theorem lm_31 : m_lm[31]? = some (0, 78, 143, 0) := rfl
set_option maxRecDepth 20000 in
theorem lm_32 : m_lm[32]? = some (0, 79, 139, 0) := rfl
set_option maxRecDepth 20000 in
theorem lm_33 : m_lm[33]? = some (0, 82, 137, 0) := rfl
set_option maxRecDepth 20000 in
theorem lm_34 : m_lm[34]? = some (0, 83, 134, 0) := rfl
set_option maxRecDepth 20000 in
theorem lm_35 : m_lm[35]? = some (0, 86, 133, 0) := rfl
set_option maxRecDepth 20000 in
theorem lm_36 : m_lm[36]? = some (0, 87, 131, 0) := rfl
set_option maxRecDepth 20000 in
theorem lm_37 : m_lm[37]? = some (0, 90, 129, 0) := rfl
set_option maxRecDepth 20000 in
theorem lm_38 : m_lm[38]? = some (0, 91, 128, 0) := rfl
set_option maxRecDepth 20000 in
theorem lm_39 : m_lm[39]? = some (0, 94, 127, 0) := rfl
set_option maxRecDepth 20000 in
theorem lm_40 : m_lm[40]? = some (0, 95, 126, 0) := rfl
set_option maxRecDepth 20000 in
theorem lm_41 : m_lm[41]? = some (0, 98, 125, 0) := rfl
set_option maxRecDepth 20000 in
theorem lm_42 : m_lm[42]? = some (0, 99, 120, 0) := rfl
set_option maxRecDepth 20000 in
theorem lm_43 : m_lm[43]? = some (0, 102, 117, 0) := rfl
set_option maxRecDepth 20000 in
theorem lm_44 : m_lm[44]? = some (0, 103, 115, 0) := rfl
set_option maxRecDepth 20000 in
theorem lm_45 : m_lm[45]? = some (0, 107, 112, 0) := rfl
set_option maxRecDepth 20000 in
theorem lm_46 : m_lm[46]? = some (0, 108, 111, 0) := rfl
set_option maxRecDepth 20000 in
theorem lm_47 : m_lm[47]? = some (0, 111, 110, 0) := rfl
set_option maxRecDepth 20000 in
theorem lm_48 : m_lm[48]? = some (0, 112, 109, 0) := rfl
set_option maxRecDepth 20000 in
theorem lm_49 : m_lm[49]? = some (0, 115, 108, 0) := rfl
set_option maxRecDepth 20000 in
theorem lm_50 : m_lm[50]? = some (0, 116, 106, 0) := rfl
set_option maxRecDepth 20000 in
theorem lm_51 : m_lm[51]? = some (0, 119, 105, 0) := rfl
set_option maxRecDepth 20000 in
theorem lm_52 : m_lm[52]? = some (0, 120, 98, 0) := rfl
set_option maxRecDepth 20000 in
theorem lm_53 : m_lm[53]? = some (0, 123, 95, 0) := rfl
set_option maxRecDepth 20000 in
theorem lm_54 : m_lm[54]? = some (0, 124, 92, 0) := rfl
set_option maxRecDepth 20000 in
theorem lm_55 : m_lm[55]? = some (0, 127, 90, 0) := rfl
set_option maxRecDepth 20000 in
theorem lm_56 : m_lm[56]? = some (0, 128, 88, 0) := rfl
set_option maxRecDepth 20000 in
theorem lm_57 : m_lm[57]? = some (0, 131, 87, 0) := rfl
set_option maxRecDepth 20000 in
theorem lm_58 : m_lm[58]? = some (0, 132, 82, 0) := rfl
set_option maxRecDepth 20000 in
theorem lm_59 : m_lm[59]? = some (0, 136, 79, 0) := rfl
set_option maxRecDepth 20000 in
theorem lm_60 : m_lm[60]? = some (0, 137, 69, 0) := rfl
set_option maxRecDepth 20000 in
theorem lm_61 : m_lm[61]? = some (0, 140, 62, 0) := rfl
set_option maxRecDepth 20000 in
theorem lm_62 : m_lm[62]? = some (0, 141, 59, 0) := rfl
set_option maxRecDepth 20000 in
theorem lm_63 : m_lm[63]? = some (0, 145, 56, 0) := rfl
set_option maxRecDepth 20000 in
theorem lm_64 : m_lm[64]? = some (0, 146, 55, 0) := rfl
set_option maxRecDepth 20000 in
theorem lm_65 : m_lm[65]? = some (0, 149, 54, 0) := rfl
set_option maxRecDepth 20000 in
theorem lm_66 : m_lm[66]? = some (0, 150, 50, 0) := rfl
set_option maxRecDepth 20000 in
theorem lm_67 : m_lm[67]? = some (0, 154, 48, 0) := rfl
set_option maxRecDepth 20000 in
theorem lm_68 : m_lm[68]? = some (0, 155, 45, 0) := rfl
set_option maxRecDepth 20000 in
theorem lm_69 : m_lm[69]? = some (0, 158, 43, 0) := rfl
set_option maxRecDepth 20000 in
theorem lm_70 : m_lm[70]? = some (0, 159, 42, 0) := rfl
set_option maxRecDepth 20000 in
theorem lm_71 : m_lm[71]? = some (0, 162, 41, 0) := rfl
set_option maxRecDepth 20000 in
theorem lm_72 : m_lm[72]? = some (0, 163, 37, 0) := rfl
set_option maxRecDepth 20000 in
theorem lm_73 : m_lm[73]? = some (0, 166, 34, 0) := rfl
set_option maxRecDepth 20000 in
theorem lm_74 : m_lm[74]? = some (0, 167, 32, 0) := rfl
set_option maxRecDepth 20000 in
theorem lm_75 : m_lm[75]? = some (0, 171, 31, 0) := rfl
set_option maxRecDepth 20000 in
theorem lm_76 : m_lm[76]? = some (0, 172, 27, 0) := rfl
set_option maxRecDepth 20000 in
theorem lm_77 : m_lm[77]? = some (0, 175, 25, 0) := rfl
set_option maxRecDepth 20000 in
theorem lm_78 : m_lm[78]? = some (0, 176, 23, 0) := rfl
set_option maxRecDepth 20000 in
theorem lm_79 : m_lm[79]? = some (0, 179, 22, 0) := rfl
set_option maxRecDepth 20000 in
theorem lm_80 : m_lm[80]? = some (0, 180, 21, 0) := rfl
set_option maxRecDepth 20000 in
theorem lm_81 : m_lm[81]? = some (0, 183, 20, 0) := rfl
set_option maxRecDepth 20000 in
theorem lm_82 : m_lm[82]? = some (0, 184, 18, 0) := rfl
set_option maxRecDepth 20000 in
theorem lm_83 : m_lm[83]? = some (0, 187, 17, 0) := rfl
set_option maxRecDepth 20000 in
theorem lm_84 : m_lm[84]? = some (0, 188, 16, 0) := rfl
set_option maxRecDepth 20000 in
theorem lm_85 : m_lm[85]? = some (0, 191, 15, 0) := rfl
set_option maxRecDepth 20000 in
theorem lm_86 : m_lm[86]? = some (0, 192, 13, 0) := rfl
set_option maxRecDepth 20000 in
theorem lm_87 : m_lm[87]? = some (0, 195, 12, 0) := rfl
set_option maxRecDepth 20000 in
theorem lm_88 : m_lm[88]? = some (0, 196, 11, 0) := rfl
set_option maxRecDepth 20000 in
theorem lm_89 : m_lm[89]? = some (0, 199, 10, 0) := rfl
set_option maxRecDepth 20000 in
theorem lm_90 : m_lm[90]? = some (0, 200, 6, 0) := rfl
set_option maxRecDepth 20000 in
theorem lm_91 : m_lm[91]? = some (0, 203, 5, 0) := rfl
set_option maxRecDepth 20000 in
theorem lm_92 : m_lm[92]? = some (0, 204, 4, 0) := rfl
set_option maxRecDepth 20000 in
theorem lm_93 : m_lm[93]? = some (0, 207, 3, 0) := rfl
set_option maxRecDepth 20000 in
theorem lm_94 : m_lm[94]? = some (0, 208, 2, 0) := rfl
set_option maxRecDepth 20000 in
theorem lm_95 : m_lm[95]? = some (0, 211, 1, 0) := rfl
set_option maxRecDepth 20000 in
theorem lm_96 : m_lm[96]? = some (1, 81, 352, 0) := rfl
set_option maxRecDepth 20000 in
theorem lm_97 : m_lm[97]? = some (1, 77, 358, 0) := rfl
set_option maxRecDepth 20000 in
theorem lm_98 : m_lm[98]? = some (2, 245, 116, 0) := rfl
set_option maxRecDepth 20000 in
theorem lm_99 : m_lm[99]? = some (2, 383, 9, 0) := rfl
set_option maxRecDepth 20000 in
theorem lm_100 : m_lm[100]? = some (2, 386, 7, 0) := rfl
set_option maxRecDepth 20000 in
theorem lm_101 : m_lm[101]? = some (3, 46, 8, 0) := rfl
set_option maxRecDepth 20000 in
theorem lm_102 : m_lm[102]? = some (4, 23, 103, 0) := rfl
set_option maxRecDepth 20000 in
theorem lm_103 : m_lm[103]? = some (5, 35, 9001, 0) := rfl
set_option maxRecDepth 20000 in
theorem lm_104 : m_lm[104]? = some (2, 212, 241, 0) := rfl
set_option maxRecDepth 20000 in
theorem lm_105 : m_lm[105]? = some (1, 89, 223, 0) := rfl
set_option maxRecDepth 20000 in
theorem lm_106 : m_lm[106]? = some (1, 85, 224, 0) := rfl
set_option maxRecDepth 20000 in
theorem lm_107 : m_lm[107]? = some (2, 380, 14, 0) := rfl
set_option maxRecDepth 20000 in
theorem lm_108 : m_lm[108]? = some (6, 44, 228, 0) := rfl
set_option maxRecDepth 20000 in
theorem lm_109 : m_lm[109]? = some (6, 25, 241, 0) := rfl
set_option maxRecDepth 20000 in
theorem lm_110 : m_lm[110]? = some (1, 352, 236, 0) := rfl
set_option maxRecDepth 20000 in
theorem lm_111 : m_lm[111]? = some (1, 426, 119, 0) := rfl
set_option maxRecDepth 20000 in
theorem lm_112 : m_lm[112]? = some (1, 429, 118, 0) := rfl
set_option maxRecDepth 20000 in
theorem lm_113 : m_lm[113]? = some (2, 208, 242, 0) := rfl
set_option maxRecDepth 20000 in
theorem lm_114 : m_lm[114]? = some (2, 239, 122, 0) := rfl
set_option maxRecDepth 20000 in
theorem lm_115 : m_lm[115]? = some (2, 242, 121, 0) := rfl
set_option maxRecDepth 20000 in
theorem lm_116 : m_lm[116]? = some (1, 365, 225, 0) := rfl
set_option maxRecDepth 20000 in
theorem lm_117 : m_lm[117]? = some (1, 342, 153, 0) := rfl
set_option maxRecDepth 20000 in
theorem lm_118 : m_lm[118]? = some (2, 177, 207, 0) := rfl
set_option maxRecDepth 20000 in
theorem lm_119 : m_lm[119]? = some (2, 376, 19, 0) := rfl
set_option maxRecDepth 20000 in
theorem lm_120 : m_lm[120]? = some (2, 276, 103, 0) := rfl
set_option maxRecDepth 20000 in
theorem lm_121 : m_lm[121]? = some (2, 230, 230, 0) := rfl
set_option maxRecDepth 20000 in
theorem lm_122 : m_lm[122]? = some (2, 223, 185, 0) := rfl
set_option maxRecDepth 20000 in
theorem lm_123 : m_lm[123]? = some (2, 342, 104, 0) := rfl
set_option maxRecDepth 20000 in
theorem lm_124 : m_lm[124]? = some (2, 100, 356, 0) := rfl
set_option maxRecDepth 20000 in
theorem lm_125 : m_lm[125]? = some (2, 348, 367, 0) := rfl
set_option maxRecDepth 20000 in
theorem lm_126 : m_lm[126]? = some (2, 367, 24, 0) := rfl
set_option maxRecDepth 20000 in
theorem lm_127 : m_lm[127]? = some (6, 29, 229, 0) := rfl
set_option maxRecDepth 20000 in
theorem lm_128 : m_lm[128]? = some (1, 444, 81, 0) := rfl
set_option maxRecDepth 20000 in
theorem lm_129 : m_lm[129]? = some (1, 500, 26, 0) := rfl
set_option maxRecDepth 20000 in
theorem lm_130 : m_lm[130]? = some (1, 264, 278, 0) := rfl
set_option maxRecDepth 20000 in
theorem lm_131 : m_lm[131]? = some (2, 363, 28, 0) := rfl
set_option maxRecDepth 20000 in
theorem lm_132 : m_lm[132]? = some (7, 66, 229, 0) := rfl
set_option maxRecDepth 20000 in
theorem lm_133 : m_lm[133]? = some (7, 33, 241, 0) := rfl
set_option maxRecDepth 20000 in
theorem lm_134 : m_lm[134]? = some (7, 70, 29, 0) := rfl
set_option maxRecDepth 20000 in
theorem lm_135 : m_lm[135]? = some (7, 74, 30, 0) := rfl
set_option maxRecDepth 20000 in
theorem lm_136 : m_lm[136]? = some (1, 291, 179, 0) := rfl
set_option maxRecDepth 20000 in
theorem lm_137 : m_lm[137]? = some (2, 359, 33, 0) := rfl
set_option maxRecDepth 20000 in
theorem lm_138 : m_lm[138]? = some (8, 65, 52, 0) := rfl
set_option maxRecDepth 20000 in
theorem lm_139 : m_lm[139]? = some (1, 495, 35, 0) := rfl
set_option maxRecDepth 20000 in
theorem lm_140 : m_lm[140]? = some (1, 492, 36, 0) := rfl
set_option maxRecDepth 20000 in
theorem lm_141 : m_lm[141]? = some (1, 93, 91, 0) := rfl
set_option maxRecDepth 20000 in
theorem lm_142 : m_lm[142]? = some (2, 351, 39, 0) := rfl
set_option maxRecDepth 20000 in
theorem lm_143 : m_lm[143]? = some (2, 355, 38, 0) := rfl
set_option maxRecDepth 20000 in
theorem lm_144 : m_lm[144]? = some (8, 90, 39, 0) := rfl
set_option maxRecDepth 20000 in
theorem lm_145 : m_lm[145]? = some (8, 32, 86, 0) := rfl
set_option maxRecDepth 20000 in
theorem lm_146 : m_lm[146]? = some (8, 78, 40, 0) := rfl
set_option maxRecDepth 20000 in
theorem lm_147 : m_lm[147]? = some (8, 43, 103, 0) := rfl
set_option maxRecDepth 20000 in
theorem lm_148 : m_lm[148]? = some (8, 85, 93, 0) := rfl
set_option maxRecDepth 20000 in
theorem lm_149 : m_lm[149]? = some (1, 489, 44, 0) := rfl
set_option maxRecDepth 20000 in
theorem lm_150 : m_lm[150]? = some (2, 330, 229, 0) := rfl
set_option maxRecDepth 20000 in
theorem lm_151 : m_lm[151]? = some (2, 333, 46, 0) := rfl
set_option maxRecDepth 20000 in
theorem lm_152 : m_lm[152]? = some (2, 336, 47, 0) := rfl
set_option maxRecDepth 20000 in
theorem lm_153 : m_lm[153]? = some (6, 62, 47, 0) := rfl
set_option maxRecDepth 20000 in
theorem lm_154 : m_lm[154]? = some (6, 59, 330, 0) := rfl
set_option maxRecDepth 20000 in
theorem lm_155 : m_lm[155]? = some (1, 485, 49, 0) := rfl
set_option maxRecDepth 20000 in
theorem lm_156 : m_lm[156]? = some (2, 320, 51, 0) := rfl
set_option maxRecDepth 20000 in
theorem lm_157 : m_lm[157]? = some (8, 55, 53, 0) := rfl
set_option maxRecDepth 20000 in
theorem lm_158 : m_lm[158]? = some (8, 49, 369, 0) := rfl
set_option maxRecDepth 20000 in
theorem lm_159 : m_lm[159]? = some (8, 69, 189, 1) := rfl
set_option maxRecDepth 20000 in
theorem lm_160 : m_lm[160]? = some (2, 285, 89, 0) := rfl
set_option maxRecDepth 20000 in
theorem lm_161 : m_lm[161]? = some (1, 463, 68, 0) := rfl
set_option maxRecDepth 20000 in
theorem lm_162 : m_lm[162]? = some (1, 469, 58, 0) := rfl
set_option maxRecDepth 20000 in
theorem lm_163 : m_lm[163]? = some (1, 472, 57, 0) := rfl
set_option maxRecDepth 20000 in
theorem lm_164 : m_lm[164]? = some (1, 454, 66, 0) := rfl
set_option maxRecDepth 20000 in
theorem lm_165 : m_lm[165]? = some (2, 296, 78, 0) := rfl
set_option maxRecDepth 20000 in
theorem lm_166 : m_lm[166]? = some (2, 306, 77, 0) := rfl
set_option maxRecDepth 20000 in
theorem lm_167 : m_lm[167]? = some (2, 309, 61, 0) := rfl
set_option maxRecDepth 20000 in
theorem lm_168 : m_lm[168]? = some (2, 313, 60, 0) := rfl
set_option maxRecDepth 20000 in
theorem lm_169 : m_lm[169]? = some (9, 21, 76, 0) := rfl
set_option maxRecDepth 20000 in
theorem lm_170 : m_lm[170]? = some (9, 33, 73, 0) := rfl
set_option maxRecDepth 20000 in
theorem lm_171 : m_lm[171]? = some (9, 58, 242, 0) := rfl
set_option maxRecDepth 20000 in
theorem lm_172 : m_lm[172]? = some (1, 466, 63, 0) := rfl
set_option maxRecDepth 20000 in
theorem lm_173 : m_lm[173]? = some (1, 457, 64, 0) := rfl
set_option maxRecDepth 20000 in
theorem lm_174 : m_lm[174]? = some (1, 460, 65, 0) := rfl
set_option maxRecDepth 20000 in
theorem lm_175 : m_lm[175]? = some (1, 451, 67, 0) := rfl
set_option maxRecDepth 20000 in
theorem lm_176 : m_lm[176]? = some (2, 299, 70, 0) := rfl
set_option maxRecDepth 20000 in
theorem lm_177 : m_lm[177]? = some (2, 303, 76, 0) := rfl
set_option maxRecDepth 20000 in
theorem lm_178 : m_lm[178]? = some (9, 18, 77, 0) := rfl
set_option maxRecDepth 20000 in
theorem lm_179 : m_lm[179]? = some (9, 25, 71, 0) := rfl
set_option maxRecDepth 20000 in
theorem lm_180 : m_lm[180]? = some (9, 29, 74, 0) := rfl
set_option maxRecDepth 20000 in
theorem lm_181 : m_lm[181]? = some (9, 36, 72, 0) := rfl
set_option maxRecDepth 20000 in
theorem lm_182 : m_lm[182]? = some (9, 45, 75, 0) := rfl
set_option maxRecDepth 20000 in
theorem lm_183 : m_lm[183]? = some (9, 49, 241, 0) := rfl
set_option maxRecDepth 20000 in
theorem lm_184 : m_lm[184]? = some (9, 53, 190, 0) := rfl
set_option maxRecDepth 20000 in
theorem lm_185 : m_lm[185]? = some (1, 448, 80, 0) := rfl
set_option maxRecDepth 20000 in
theorem lm_186 : m_lm[186]? = some (2, 289, 83, 0) := rfl
set_option maxRecDepth 20000 in
theorem lm_187 : m_lm[187]? = some (8, 24, 84, 0) := rfl
set_option maxRecDepth 20000 in
theorem lm_188 : m_lm[188]? = some (8, 46, 85, 0) := rfl
set_option maxRecDepth 20000 in
theorem lm_189 : m_lm[189]? = some (2, 279, 93, 0) := rfl
set_option maxRecDepth 20000 in
theorem lm_190 : m_lm[190]? = some (6, 56, 94, 0) := rfl
set_option maxRecDepth 20000 in
theorem lm_191 : m_lm[191]? = some (6, 41, 242, 0) := rfl
set_option maxRecDepth 20000 in
theorem lm_192 : m_lm[192]? = some (6, 52, 190, 0) := rfl
set_option maxRecDepth 20000 in
theorem lm_193 : m_lm[193]? = some (1, 441, 96, 0) := rfl
set_option maxRecDepth 20000 in
theorem lm_194 : m_lm[194]? = some (1, 438, 97, 0) := rfl
set_option maxRecDepth 20000 in
theorem lm_195 : m_lm[195]? = some (2, 264, 100, 0) := rfl
set_option maxRecDepth 20000 in
theorem lm_196 : m_lm[196]? = some (2, 268, 99, 0) := rfl
set_option maxRecDepth 20000 in
theorem lm_197 : m_lm[197]? = some (7, 48, 103, 0) := rfl
set_option maxRecDepth 20000 in
theorem lm_198 : m_lm[198]? = some (7, 20, 104, 0) := rfl
set_option maxRecDepth 20000 in
theorem lm_199 : m_lm[199]? = some (7, 29, 228, 0) := rfl
set_option maxRecDepth 20000 in
theorem lm_200 : m_lm[200]? = some (7, 37, 101, 0) := rfl
set_option maxRecDepth 20000 in
theorem lm_201 : m_lm[201]? = some (7, 45, 367, 0) := rfl
set_option maxRecDepth 20000 in
theorem lm_202 : m_lm[202]? = some (7, 52, 102, 0) := rfl
set_option maxRecDepth 20000 in
theorem lm_203 : m_lm[203]? = some (7, 56, 107, 0) := rfl
set_option maxRecDepth 20000 in
theorem lm_204 : m_lm[204]? = some (2, 258, 107, 0) := rfl
set_option maxRecDepth 20000 in
theorem lm_205 : m_lm[205]? = some (1, 314, 158, 0) := rfl
set_option maxRecDepth 20000 in
theorem lm_206 : m_lm[206]? = some (2, 215, 204, 0) := rfl
set_option maxRecDepth 20000 in
theorem lm_207 : m_lm[207]? = some (1, 432, 114, 0) := rfl
set_option maxRecDepth 20000 in
theorem lm_208 : m_lm[208]? = some (1, 389, 151, 0) := rfl
set_option maxRecDepth 20000 in
theorem lm_209 : m_lm[209]? = some (1, 435, 113, 0) := rfl
set_option maxRecDepth 20000 in
theorem lm_210 : m_lm[210]? = some (2, 251, 164, 0) := rfl
set_option maxRecDepth 20000 in
theorem lm_211 : m_lm[211]? = some (2, 160, 206, 0) := rfl
set_option maxRecDepth 20000 in
theorem lm_212 : m_lm[212]? = some (2, 247, 161, 0) := rfl
set_option maxRecDepth 20000 in
theorem lm_213 : m_lm[213]? = some (6, 15, 9001, 0) := rfl
set_option maxRecDepth 20000 in
theorem lm_214 : m_lm[214]? = some (2, 233, 124, 0) := rfl
set_option maxRecDepth 20000 in
theorem lm_215 : m_lm[215]? = some (2, 236, 123, 0) := rfl
set_option maxRecDepth 20000 in
theorem lm_216 : m_lm[216]? = some (1, 377, 172, 0) := rfl
set_option maxRecDepth 20000 in
theorem lm_217 : m_lm[217]? = some (1, 285, 181, 0) := rfl
set_option maxRecDepth 20000 in
theorem lm_218 : m_lm[218]? = some (1, 333, 156, 0) := rfl
set_option maxRecDepth 20000 in
theorem lm_219 : m_lm[219]? = some (1, 336, 155, 0) := rfl
set_option maxRecDepth 20000 in
theorem lm_220 : m_lm[220]? = some (1, 423, 130, 0) := rfl
set_option maxRecDepth 20000 in
theorem lm_221 : m_lm[221]? = some (2, 218, 194, 0) := rfl
set_option maxRecDepth 20000 in
theorem lm_222 : m_lm[222]? = some (2, 227, 132, 0) := rfl
set_option maxRecDepth 20000 in
theorem lm_223 : m_lm[223]? = some (2, 201, 135, 0) := rfl
set_option maxRecDepth 20000 in
theorem lm_224 : m_lm[224]? = some (5, 29, 244, 0) := rfl
set_option maxRecDepth 20000 in
theorem lm_225 : m_lm[225]? = some (5, 41, 136, 0) := rfl
set_option maxRecDepth 20000 in
theorem lm_226 : m_lm[226]? = some (1, 358, 234, 0) := rfl
set_option maxRecDepth 20000 in
theorem lm_227 : m_lm[227]? = some (1, 349, 152, 0) := rfl
set_option maxRecDepth 20000 in
theorem lm_228 : m_lm[228]? = some (1, 419, 138, 0) := rfl
set_option maxRecDepth 20000 in
theorem lm_229 : m_lm[229]? = some (1, 355, 235, 0) := rfl
set_option maxRecDepth 20000 in
theorem lm_230 : m_lm[230]? = some (1, 361, 232, 0) := rfl
set_option maxRecDepth 20000 in
theorem lm_231 : m_lm[231]? = some (1, 368, 221, 0) := rfl
set_option maxRecDepth 20000 in
theorem lm_232 : m_lm[232]? = some (1, 374, 215, 0) := rfl
set_option maxRecDepth 20000 in
theorem lm_233 : m_lm[233]? = some (1, 345, 233, 0) := rfl
set_option maxRecDepth 20000 in
theorem lm_234 : m_lm[234]? = some (1, 371, 216, 0) := rfl
set_option maxRecDepth 20000 in
theorem lm_235 : m_lm[235]? = some (1, 383, 171, 0) := rfl
set_option maxRecDepth 20000 in
theorem lm_236 : m_lm[236]? = some (1, 386, 169, 0) := rfl
set_option maxRecDepth 20000 in
theorem lm_237 : m_lm[237]? = some (2, 131, 243, 0) := rfl
set_option maxRecDepth 20000 in
theorem lm_238 : m_lm[238]? = some (2, 188, 142, 0) := rfl
set_option maxRecDepth 20000 in
theorem lm_239 : m_lm[239]? = some (2, 191, 162, 0) := rfl
set_option maxRecDepth 20000 in
theorem lm_240 : m_lm[240]? = some (2, 195, 140, 0) := rfl
set_option maxRecDepth 20000 in
theorem lm_241 : m_lm[241]? = some (2, 198, 239, 0) := rfl
set_option maxRecDepth 20000 in
theorem lm_242 : m_lm[242]? = some (2, 135, 240, 0) := rfl
set_option maxRecDepth 20000 in
theorem lm_243 : m_lm[243]? = some (2, 421, 141, 0) := rfl
set_option maxRecDepth 20000 in
theorem lm_244 : m_lm[244]? = some (2, 143, 227, 0) := rfl
set_option maxRecDepth 20000 in
theorem lm_245 : m_lm[245]? = some (2, 146, 219, 0) := rfl
set_option maxRecDepth 20000 in
theorem lm_246 : m_lm[246]? = some (2, 154, 213, 0) := rfl
set_option maxRecDepth 20000 in
theorem lm_247 : m_lm[247]? = some (2, 163, 184, 0) := rfl
set_option maxRecDepth 20000 in
theorem lm_248 : m_lm[248]? = some (1, 416, 144, 0) := rfl
set_option maxRecDepth 20000 in
theorem lm_249 : m_lm[249]? = some (1, 395, 351, 0) := rfl
set_option maxRecDepth 20000 in
theorem lm_250 : m_lm[250]? = some (1, 398, 231, 0) := rfl
set_option maxRecDepth 20000 in
theorem lm_251 : m_lm[251]? = some (1, 401, 220, 0) := rfl
set_option maxRecDepth 20000 in
theorem lm_252 : m_lm[252]? = some (1, 404, 214, 0) := rfl
set_option maxRecDepth 20000 in
theorem lm_253 : m_lm[253]? = some (1, 407, 211, 0) := rfl
set_option maxRecDepth 20000 in
theorem lm_254 : m_lm[254]? = some (1, 410, 168, 0) := rfl
set_option maxRecDepth 20000 in
theorem lm_255 : m_lm[255]? = some (1, 413, 165, 0) := rfl
set_option maxRecDepth 20000 in
theorem lm_256 : m_lm[256]? = some (1, 392, 150, 0) := rfl
set_option maxRecDepth 20000 in
theorem lm_257 : m_lm[257]? = some (2, 184, 146, 0) := rfl
set_option maxRecDepth 20000 in
theorem lm_258 : m_lm[258]? = some (2, 394, 148, 0) := rfl
set_option maxRecDepth 20000 in
theorem lm_259 : m_lm[259]? = some (2, 397, 147, 0) := rfl
set_option maxRecDepth 20000 in
theorem lm_260 : m_lm[260]? = some (2, 400, 353, 0) := rfl
set_option maxRecDepth 20000 in
theorem lm_261 : m_lm[261]? = some (2, 403, 237, 0) := rfl
set_option maxRecDepth 20000 in
theorem lm_262 : m_lm[262]? = some (2, 406, 226, 0) := rfl
set_option maxRecDepth 20000 in
theorem lm_263 : m_lm[263]? = some (2, 409, 217, 0) := rfl
set_option maxRecDepth 20000 in
theorem lm_264 : m_lm[264]? = some (2, 412, 212, 0) := rfl
set_option maxRecDepth 20000 in
theorem lm_265 : m_lm[265]? = some (2, 415, 183, 0) := rfl
set_option maxRecDepth 20000 in
theorem lm_266 : m_lm[266]? = some (2, 418, 166, 0) := rfl
set_option maxRecDepth 20000 in
theorem lm_267 : m_lm[267]? = some (2, 174, 160, 0) := rfl
set_option maxRecDepth 20000 in
theorem lm_268 : m_lm[268]? = some (11, 43, 202, 0) := rfl
set_option maxRecDepth 20000 in
theorem lm_269 : m_lm[269]? = some (11, 47, 200, 0) := rfl
set_option maxRecDepth 20000 in
theorem lm_270 : m_lm[270]? = some (11, 51, 201, 0) := rfl
set_option maxRecDepth 20000 in
theorem lm_271 : m_lm[271]? = some (11, 54, 199, 0) := rfl
set_option maxRecDepth 20000 in
theorem lm_272 : m_lm[272]? = some (1, 339, 154, 0) := rfl
set_option maxRecDepth 20000 in
theorem lm_273 : m_lm[273]? = some (1, 310, 222, 0) := rfl
set_option maxRecDepth 20000 in
theorem lm_274 : m_lm[274]? = some (1, 324, 182, 0) := rfl
set_option maxRecDepth 20000 in
theorem lm_275 : m_lm[275]? = some (1, 320, 173, 0) := rfl
set_option maxRecDepth 20000 in
theorem lm_276 : m_lm[276]? = some (1, 317, 157, 0) := rfl
set_option maxRecDepth 20000 in
theorem lm_277 : m_lm[277]? = some (12, 40, 164, 0) := rfl
set_option maxRecDepth 20000 in
theorem lm_278 : m_lm[278]? = some (12, 49, 241, 0) := rfl
set_option maxRecDepth 20000 in
theorem lm_279 : m_lm[279]? = some (12, 52, 185, 0) := rfl
set_option maxRecDepth 20000 in
theorem lm_280 : m_lm[280]? = some (12, 31, 330, 0) := rfl
set_option maxRecDepth 20000 in
theorem lm_281 : m_lm[281]? = some (12, 56, 355, 0) := rfl
set_option maxRecDepth 20000 in
theorem lm_282 : m_lm[282]? = some (12, 60, 204, 0) := rfl
set_option maxRecDepth 20000 in
theorem lm_283 : m_lm[283]? = some (12, 63, 163, 0) := rfl
set_option maxRecDepth 20000 in
theorem lm_284 : m_lm[284]? = some (12, 67, 228, 0) := rfl
set_option maxRecDepth 20000 in
theorem lm_285 : m_lm[285]? = some (12, 71, 162, 0) := rfl
set_option maxRecDepth 20000 in
theorem lm_286 : m_lm[286]? = some (6, 37, 355, 0) := rfl
set_option maxRecDepth 20000 in
theorem lm_287 : m_lm[287]? = some (1, 380, 170, 0) := rfl
set_option maxRecDepth 20000 in
theorem lm_288 : m_lm[288]? = some (2, 167, 167, 0) := rfl
set_option maxRecDepth 20000 in
theorem lm_289 : m_lm[289]? = some (2, 139, 238, 0) := rfl
set_option maxRecDepth 20000 in
theorem lm_290 : m_lm[290]? = some (12, 75, 229, 0) := rfl
set_option maxRecDepth 20000 in
theorem lm_291 : m_lm[291]? = some (1, 307, 174, 0) := rfl
set_option maxRecDepth 20000 in
theorem lm_292 : m_lm[292]? = some (1, 288, 180, 0) := rfl
set_option maxRecDepth 20000 in
theorem lm_293 : m_lm[293]? = some (1, 295, 177, 0) := rfl
set_option maxRecDepth 20000 in
theorem lm_294 : m_lm[294]? = some (1, 299, 176, 0) := rfl
set_option maxRecDepth 20000 in
theorem lm_295 : m_lm[295]? = some (1, 303, 175, 0) := rfl
set_option maxRecDepth 20000 in
theorem lm_296 : m_lm[296]? = some (1, 281, 178, 0) := rfl
set_option maxRecDepth 20000 in
theorem lm_297 : m_lm[297]? = some (12, 15, 317, 0) := rfl
set_option maxRecDepth 20000 in
theorem lm_298 : m_lm[298]? = some (12, 21, 203, 0) := rfl
set_option maxRecDepth 20000 in
theorem lm_299 : m_lm[299]? = some (12, 25, 186, 0) := rfl
set_option maxRecDepth 20000 in
theorem lm_300 : m_lm[300]? = some (12, 37, 369, 0) := rfl
set_option maxRecDepth 20000 in
theorem lm_301 : m_lm[301]? = some (12, 86, 201, 0) := rfl
set_option maxRecDepth 20000 in
theorem lm_302 : m_lm[302]? = some (12, 89, 200, 0) := rfl
set_option maxRecDepth 20000 in
theorem lm_303 : m_lm[303]? = some (12, 92, 199, 0) := rfl
set_option maxRecDepth 20000 in
theorem lm_304 : m_lm[304]? = some (12, 95, 198, 0) := rfl
set_option maxRecDepth 20000 in
theorem lm_305 : m_lm[305]? = some (12, 99, 302, 0) := rfl
set_option maxRecDepth 20000 in
theorem lm_306 : m_lm[306]? = some (12, 102, 196, 0) := rfl
set_option maxRecDepth 20000 in
theorem lm_307 : m_lm[307]? = some (12, 105, 195, 0) := rfl
set_option maxRecDepth 20000 in
theorem lm_308 : m_lm[308]? = some (12, 108, 194, 0) := rfl
set_option maxRecDepth 20000 in
theorem lm_309 : m_lm[309]? = some (12, 111, 187, 0) := rfl
set_option maxRecDepth 20000 in
theorem lm_310 : m_lm[310]? = some (12, 118, 191, 0) := rfl
set_option maxRecDepth 20000 in
theorem lm_311 : m_lm[311]? = some (12, 122, 189, 1) := rfl
set_option maxRecDepth 20000 in
theorem lm_312 : m_lm[312]? = some (12, 125, 188, 0) := rfl
set_option maxRecDepth 20000 in
theorem lm_313 : m_lm[313]? = some (2, 389, 190, 0) := rfl
set_option maxRecDepth 20000 in
theorem lm_314 : m_lm[314]? = some (12, 133, 193, 0) := rfl
set_option maxRecDepth 20000 in
theorem lm_315 : m_lm[315]? = some (12, 136, 192, 0) := rfl
set_option maxRecDepth 20000 in
theorem lm_316 : m_lm[316]? = some (12, 79, 205, 0) := rfl
set_option maxRecDepth 20000 in
theorem lm_317 : m_lm[317]? = some (12, 115, 197, 0) := rfl
set_option maxRecDepth 20000 in
theorem lm_318 : m_lm[318]? = some (6, 47, 369, 0) := rfl
set_option maxRecDepth 20000 in
theorem lm_319 : m_lm[319]? = some (2, 124, 247, 0) := rfl
set_option maxRecDepth 20000 in
theorem lm_320 : m_lm[320]? = some (2, 157, 210, 0) := rfl
set_option maxRecDepth 20000 in
theorem lm_321 : m_lm[321]? = some (2, 150, 218, 0) := rfl
set_option maxRecDepth 20000 in
theorem lm_322 : m_lm[322]? = some (6, 33, 356, 1) := rfl
set_option maxRecDepth 20000 in
theorem lm_323 : m_lm[323]? = some (6, 21, 230, 0) := rfl
set_option maxRecDepth 20000 in
theorem lm_324 : m_lm[324]? = some (1, 274, 251, 0) := rfl
set_option maxRecDepth 20000 in
theorem lm_325 : m_lm[325]? = some (1, 191, 286, 0) := rfl
set_option maxRecDepth 20000 in
theorem lm_326 : m_lm[326]? = some (1, 271, 252, 0) := rfl
set_option maxRecDepth 20000 in
theorem lm_327 : m_lm[327]? = some (1, 258, 279, 0) := rfl
set_option maxRecDepth 20000 in
theorem lm_328 : m_lm[328]? = some (1, 268, 253, 0) := rfl
set_option maxRecDepth 20000 in
theorem lm_329 : m_lm[329]? = some (1, 147, 282, 0) := rfl
set_option maxRecDepth 20000 in
theorem lm_330 : m_lm[330]? = some (1, 248, 275, 0) := rfl
set_option maxRecDepth 20000 in
theorem lm_331 : m_lm[331]? = some (1, 252, 273, 0) := rfl
set_option maxRecDepth 20000 in
theorem lm_332 : m_lm[332]? = some (1, 135, 285, 0) := rfl
set_option maxRecDepth 20000 in
theorem lm_333 : m_lm[333]? = some (1, 237, 277, 0) := rfl
set_option maxRecDepth 20000 in
theorem lm_334 : m_lm[334]? = some (1, 255, 254, 0) := rfl
set_option maxRecDepth 20000 in
theorem lm_335 : m_lm[335]? = some (1, 241, 255, 0) := rfl
set_option maxRecDepth 20000 in
theorem lm_336 : m_lm[336]? = some (1, 231, 261, 0) := rfl
set_option maxRecDepth 20000 in
theorem lm_337 : m_lm[337]? = some (1, 234, 256, 0) := rfl
set_option maxRecDepth 20000 in
theorem lm_338 : m_lm[338]? = some (1, 185, 271, 0) := rfl
set_option maxRecDepth 20000 in
theorem lm_339 : m_lm[339]? = some (1, 213, 264, 0) := rfl
set_option maxRecDepth 20000 in
theorem lm_340 : m_lm[340]? = some (1, 194, 260, 0) := rfl
set_option maxRecDepth 20000 in
theorem lm_341 : m_lm[341]? = some (1, 197, 259, 0) := rfl
set_option maxRecDepth 20000 in
theorem lm_342 : m_lm[342]? = some (1, 174, 265, 0) := rfl
set_option maxRecDepth 20000 in
theorem lm_343 : m_lm[343]? = some (1, 200, 262, 0) := rfl
set_option maxRecDepth 20000 in
theorem lm_344 : m_lm[344]? = some (1, 203, 258, 0) := rfl
set_option maxRecDepth 20000 in
theorem lm_345 : m_lm[345]? = some (1, 157, 280, 0) := rfl
set_option maxRecDepth 20000 in
theorem lm_346 : m_lm[346]? = some (1, 206, 281, 0) := rfl
set_option maxRecDepth 20000 in
theorem lm_347 : m_lm[347]? = some (1, 139, 284, 0) := rfl
set_option maxRecDepth 20000 in
theorem lm_348 : m_lm[348]? = some (1, 210, 257, 0) := rfl
set_option maxRecDepth 20000 in
theorem lm_349 : m_lm[349]? = some (1, 188, 270, 0) := rfl
set_option maxRecDepth 20000 in
theorem lm_350 : m_lm[350]? = some (1, 171, 269, 0) := rfl
set_option maxRecDepth 20000 in
theorem lm_351 : m_lm[351]? = some (1, 143, 283, 0) := rfl
set_option maxRecDepth 20000 in
theorem lm_352 : m_lm[352]? = some (1, 161, 274, 0) := rfl
set_option maxRecDepth 20000 in
theorem lm_353 : m_lm[353]? = some (1, 225, 266, 0) := rfl
set_option maxRecDepth 20000 in
theorem lm_354 : m_lm[354]? = some (1, 228, 263, 0) := rfl
set_option maxRecDepth 20000 in
theorem lm_355 : m_lm[355]? = some (1, 181, 272, 0) := rfl
set_option maxRecDepth 20000 in
theorem lm_356 : m_lm[356]? = some (1, 219, 268, 0) := rfl
set_option maxRecDepth 20000 in
theorem lm_357 : m_lm[357]? = some (1, 222, 267, 0) := rfl
set_option maxRecDepth 20000 in
theorem lm_358 : m_lm[358]? = some (1, 244, 276, 0) := rfl
set_option maxRecDepth 20000 in
theorem lm_359 : m_lm[359]? = some (1, 107, 290, 0) := rfl
set_option maxRecDepth 20000 in
theorem lm_360 : m_lm[360]? = some (1, 116, 289, 0) := rfl
set_option maxRecDepth 20000 in
theorem lm_361 : m_lm[361]? = some (1, 123, 288, 0) := rfl
set_option maxRecDepth 20000 in
theorem lm_362 : m_lm[362]? = some (1, 132, 287, 0) := rfl
set_option maxRecDepth 20000 in
theorem lm_363 : m_lm[363]? = some (2, 107, 293, 0) := rfl
set_option maxRecDepth 20000 in
theorem lm_364 : m_lm[364]? = some (2, 114, 292, 0) := rfl
set_option maxRecDepth 20000 in
theorem lm_365 : m_lm[365]? = some (11, 57, 9001, 0) := rfl
set_option maxRecDepth 20000 in
theorem lm_366 : m_lm[366]? = some (14, 32, 343, 0) := rfl
set_option maxRecDepth 20000 in
theorem lm_367 : m_lm[367]? = some (14, 38, 321, 0) := rfl
set_option maxRecDepth 20000 in
theorem lm_368 : m_lm[368]? = some (14, 46, 294, 0) := rfl
set_option maxRecDepth 20000 in
theorem lm_369 : m_lm[369]? = some (14, 89, 320, 0) := rfl
set_option maxRecDepth 20000 in
theorem lm_370 : m_lm[370]? = some (14, 92, 319, 0) := rfl
set_option maxRecDepth 20000 in
theorem lm_371 : m_lm[371]? = some (14, 95, 318, 0) := rfl
set_option maxRecDepth 20000 in
theorem lm_372 : m_lm[372]? = some (14, 98, 317, 0) := rfl
set_option maxRecDepth 20000 in
theorem lm_373 : m_lm[373]? = some (14, 107, 316, 0) := rfl
set_option maxRecDepth 20000 in
theorem lm_374 : m_lm[374]? = some (14, 111, 297, 0) := rfl
set_option maxRecDepth 20000 in
theorem lm_375 : m_lm[375]? = some (14, 114, 296, 0) := rfl
set_option maxRecDepth 20000 in
theorem lm_376 : m_lm[376]? = some (14, 117, 295, 0) := rfl
set_option maxRecDepth 20000 in
theorem lm_377 : m_lm[377]? = some (14, 120, 312, 0) := rfl
set_option maxRecDepth 20000 in
theorem lm_378 : m_lm[378]? = some (14, 126, 314, 0) := rfl
set_option maxRecDepth 20000 in
theorem lm_379 : m_lm[379]? = some (14, 137, 298, 0) := rfl
set_option maxRecDepth 20000 in
theorem lm_380 : m_lm[380]? = some (14, 140, 311, 0) := rfl
set_option maxRecDepth 20000 in
theorem lm_381 : m_lm[381]? = some (14, 143, 299, 0) := rfl
set_option maxRecDepth 20000 in
theorem lm_382 : m_lm[382]? = some (14, 146, 313, 0) := rfl
set_option maxRecDepth 20000 in
theorem lm_383 : m_lm[383]? = some (14, 149, 310, 0) := rfl
set_option maxRecDepth 20000 in
theorem lm_384 : m_lm[384]? = some (14, 152, 303, 0) := rfl
set_option maxRecDepth 20000 in
theorem lm_385 : m_lm[385]? = some (14, 155, 300, 0) := rfl
set_option maxRecDepth 20000 in
theorem lm_386 : m_lm[386]? = some (14, 158, 302, 0) := rfl
set_option maxRecDepth 20000 in
theorem lm_387 : m_lm[387]? = some (14, 161, 301, 0) := rfl
set_option maxRecDepth 20000 in
theorem lm_388 : m_lm[388]? = some (15, 27, 302, 0) := rfl
set_option maxRecDepth 20000 in
theorem lm_389 : m_lm[389]? = some (14, 164, 306, 0) := rfl
set_option maxRecDepth 20000 in
theorem lm_390 : m_lm[390]? = some (14, 167, 305, 0) := rfl
set_option maxRecDepth 20000 in
theorem lm_391 : m_lm[391]? = some (14, 170, 304, 0) := rfl
set_option maxRecDepth 20000 in
theorem lm_392 : m_lm[392]? = some (11, 40, 311, 0) := rfl
set_option maxRecDepth 20000 in
theorem lm_393 : m_lm[393]? = some (11, 36, 315, 0) := rfl
set_option maxRecDepth 20000 in
theorem lm_394 : m_lm[394]? = some (14, 173, 307, 0) := rfl
set_option maxRecDepth 20000 in
theorem lm_395 : m_lm[395]? = some (14, 176, 308, 0) := rfl
set_option maxRecDepth 20000 in
theorem lm_396 : m_lm[396]? = some (14, 179, 309, 0) := rfl
set_option maxRecDepth 20000 in
theorem lm_397 : m_lm[397]? = some (14, 130, 356, 1) := rfl
set_option maxRecDepth 20000 in
theorem lm_398 : m_lm[398]? = some (14, 134, 315, 0) := rfl
set_option maxRecDepth 20000 in
theorem lm_399 : m_lm[399]? = some (14, 53, 342, 0) := rfl
set_option maxRecDepth 20000 in
theorem lm_400 : m_lm[400]? = some (14, 57, 341, 0) := rfl
set_option maxRecDepth 20000 in
theorem lm_401 : m_lm[401]? = some (14, 60, 332, 0) := rfl
set_option maxRecDepth 20000 in
theorem lm_402 : m_lm[402]? = some (14, 63, 331, 0) := rfl
set_option maxRecDepth 20000 in
theorem lm_403 : m_lm[403]? = some (14, 66, 329, 0) := rfl
set_option maxRecDepth 20000 in
theorem lm_404 : m_lm[404]? = some (14, 69, 322, 0) := rfl
set_option maxRecDepth 20000 in
theorem lm_405 : m_lm[405]? = some (14, 85, 323, 0) := rfl
set_option maxRecDepth 20000 in
theorem lm_406 : m_lm[406]? = some (15, 23, 324, 0) := rfl
set_option maxRecDepth 20000 in
theorem lm_407 : m_lm[407]? = some (16, 633, 325, 0) := rfl
set_option maxRecDepth 20000 in
theorem lm_408 : m_lm[408]? = some (16, 492, 338, 0) := rfl
set_option maxRecDepth 20000 in
theorem lm_409 : m_lm[409]? = some (16, 505, 339, 0) := rfl
set_option maxRecDepth 20000 in
theorem lm_410 : m_lm[410]? = some (16, 637, 326, 0) := rfl
set_option maxRecDepth 20000 in
theorem lm_411 : m_lm[411]? = some (17, 88, 328, 0) := rfl
set_option maxRecDepth 20000 in
theorem lm_412 : m_lm[412]? = some (17, 92, 369, 0) := rfl
set_option maxRecDepth 20000 in
theorem lm_413 : m_lm[413]? = some (17, 38, 330, 0) := rfl
set_option maxRecDepth 20000 in
theorem lm_414 : m_lm[414]? = some (17, 95, 327, 0) := rfl
set_option maxRecDepth 20000 in
theorem lm_415 : m_lm[415]? = some (14, 79, 330, 0) := rfl
set_option maxRecDepth 20000 in
theorem lm_416 : m_lm[416]? = some (14, 72, 333, 0) := rfl
set_option maxRecDepth 20000 in
theorem lm_417 : m_lm[417]? = some (15, 11, 339, 0) := rfl
set_option maxRecDepth 20000 in
theorem lm_418 : m_lm[418]? = some (15, 17, 334, 0) := rfl
set_option maxRecDepth 20000 in
theorem lm_419 : m_lm[419]? = some (16, 495, 335, 0) := rfl
set_option maxRecDepth 20000 in
theorem lm_420 : m_lm[420]? = some (17, 9, 336, 0) := rfl
set_option maxRecDepth 20000 in
theorem lm_421 : m_lm[421]? = some (16, 1059, 337, 0) := rfl
set_option maxRecDepth 20000 in
theorem lm_422 : m_lm[422]? = some (16, 335, 340, 0) := rfl
set_option maxRecDepth 20000 in
theorem lm_423 : m_lm[423]? = some (1, 100, 347, 0) := rfl
set_option maxRecDepth 20000 in
theorem lm_424 : m_lm[424]? = some (2, 88, 350, 0) := rfl
set_option maxRecDepth 20000 in
theorem lm_425 : m_lm[425]? = some (2, 92, 349, 0) := rfl
set_option maxRecDepth 20000 in
theorem lm_426 : m_lm[426]? = some (2, 84, 354, 0) := rfl
set_option maxRecDepth 20000 in
theorem lm_427 : m_lm[427]? = some (1, 1, 9000, 0) := rfl
set_option maxRecDepth 20000 in
theorem lm_428 : m_lm[428]? = some (2, 1, 9000, 0) := rfl
set_option maxRecDepth 20000 in
theorem lm_429 : m_lm[429]? = some (2, 9, 371, 0) := rfl
set_option maxRecDepth 20000 in
theorem lm_430 : m_lm[430]? = some (2, 18, 370, 0) := rfl
set_option maxRecDepth 20000 in
theorem lm_431 : m_lm[431]? = some (2, 25, 366, 0) := rfl
set_option maxRecDepth 20000 in
theorem lm_432 : m_lm[432]? = some (2, 48, 365, 0) := rfl
set_option maxRecDepth 20000 in
theorem lm_433 : m_lm[433]? = some (2, 51, 364, 0) := rfl
set_option maxRecDepth 20000 in
theorem lm_434 : m_lm[434]? = some (2, 58, 363, 0) := rfl
set_option maxRecDepth 20000 in
theorem lm_435 : m_lm[435]? = some (2, 65, 362, 0) := rfl
set_option maxRecDepth 20000 in
theorem lm_436 : m_lm[436]? = some (2, 72, 361, 0) := rfl
set_option maxRecDepth 20000 in
theorem lm_437 : m_lm[437]? = some (2, 79, 360, 0) := rfl
set_option maxRecDepth 20000 in
theorem lm_438 : m_lm[438]? = some (8, 3, 9000, 0) := rfl
set_option maxRecDepth 20000 in
theorem lm_439 : m_lm[439]? = some (7, 3, 9000, 0) := rfl
set_option maxRecDepth 20000 in
theorem lm_440 : m_lm[440]? = some (7, 11, 368, 0) := rfl
set_option maxRecDepth 20000 in
theorem lm_441 : m_lm[441]? = some (9, 3, 9000, 0) := rfl
set_option maxRecDepth 20000 in
theorem lm_442 : m_lm[442]? = some (12, 3, 9000, 0) := rfl
set_option maxRecDepth 20000 in
theorem lm_443 : m_lm[443]? = some (14, 3, 9000, 0) := rfl
set_option maxRecDepth 20000 in
theorem lm_444 : m_lm[444]? = some (14, 11, 365, 0) := rfl
set_option maxRecDepth 20000 in
theorem lm_445 : m_lm[445]? = some (11, 3, 9000, 0) := rfl
set_option maxRecDepth 20000 in
theorem lm_446 : m_lm[446]? = some (3, 3, 9000, 0) := rfl
set_option maxRecDepth 20000 in
theorem lm_447 : m_lm[447]? = some (3, 11, 368, 0) := rfl
set_option maxRecDepth 20000 in
theorem lm_448 : m_lm[448]? = some (3, 20, 367, 0) := rfl
set_option maxRecDepth 20000 in
theorem lm_449 : m_lm[449]? = some (4, 1, 9000, 0) := rfl
set_option maxRecDepth 20000 in
theorem lm_450 : m_lm[450]? = some (4, 7, 369, 0) := rfl
set_option maxRecDepth 20000 in
theorem lm_451 : m_lm[451]? = some (5, 3, 9000, 0) := rfl
set_option maxRecDepth 20000 in
theorem lm_452 : m_lm[452]? = some (6, 3, 9000, 0) := rfl
set_option maxRecDepth 20000 in
theorem lf_0 : m_lf[0]? = some (1, 7, 11, 0) := rfl
set_option maxRecDepth 20000 in
theorem lf_1 : m_lf[1]? = some (1, 97, 11, 4) := rfl
set_option maxRecDepth 20000 in
theorem lf_2 : m_lf[2]? = some (2, 10, 10, 0) := rfl
set_option maxRecDepth 20000 in
theorem lf_3 : m_lf[3]? = some (2, 170, 9, 0) := rfl
set_option maxRecDepth 20000 in
theorem lf_4 : m_lf[4]? = some (2, 26, 10, 2) := rfl
set_option maxRecDepth 20000 in
theorem lf_5 : m_lf[5]? = some (2, 104, 7, 7) := rfl
set_option maxRecDepth 20000 in
theorem lf_6 : m_lf[6]? = some (2, 128, 7, 8) := rfl
set_option maxRecDepth 20000 in
theorem lf_7 : m_lf[7]? = some (2, 19, 10, 1) := rfl
set_option maxRecDepth 20000 in
theorem lf_8 : m_lf[8]? = some (2, 205, 6, 2) := rfl
set_option maxRecDepth 20000 in
theorem lf_9 : m_lf[9]? = some (2, 282, 7, 1) := rfl
set_option maxRecDepth 20000 in
theorem lf_10 : m_lf[10]? = some (2, 275, 4, 1) := rfl
set_option maxRecDepth 20000 in
theorem lf_11 : m_lf[11]? = some (2, 317, 7, 2) := rfl
set_option maxRecDepth 20000 in
theorem lf_12 : m_lf[12]? = some (2, 339, 7, 3) := rfl
set_option maxRecDepth 20000 in
theorem lf_13 : m_lf[13]? = some (2, 370, 7, 5) := rfl
set_option maxRecDepth 20000 in
theorem lf_14 : m_lf[14]? = some (2, 52, 10, 8) := rfl
set_option maxRecDepth 20000 in
theorem lf_15 : m_lf[15]? = some (2, 96, 3, 2) := rfl
set_option maxRecDepth 20000 in
theorem lf_16 : m_lf[16]? = some (1, 13, 11, 1) := rfl
set_option maxRecDepth 20000 in
theorem lf_17 : m_lf[17]? = some (2, 30, 10, 3) := rfl
set_option maxRecDepth 20000 in
theorem lf_18 : m_lf[18]? = some (2, 33, 10, 4) := rfl
set_option maxRecDepth 20000 in
theorem lf_19 : m_lf[19]? = some (2, 36, 10, 5) := rfl
set_option maxRecDepth 20000 in
theorem lf_20 : m_lf[20]? = some (3, 14, 7, 0) := rfl
set_option maxRecDepth 20000 in
theorem lf_21 : m_lf[21]? = some (3, 24, 7, 1) := rfl
set_option maxRecDepth 20000 in
theorem lf_22 : m_lf[22]? = some (3, 27, 7, 2) := rfl
set_option maxRecDepth 20000 in
theorem lf_23 : m_lf[23]? = some (3, 30, 7, 3) := rfl
set_option maxRecDepth 20000 in
theorem lf_24 : m_lf[24]? = some (3, 33, 7, 4) := rfl
set_option maxRecDepth 20000 in
theorem lf_25 : m_lf[25]? = some (3, 36, 7, 5) := rfl
set_option maxRecDepth 20000 in
theorem lf_26 : m_lf[26]? = some (3, 39, 7, 6) := rfl
set_option maxRecDepth 20000 in
theorem lf_27 : m_lf[27]? = some (3, 50, 7, 7) := rfl
set_option maxRecDepth 20000 in
theorem lf_28 : m_lf[28]? = some (3, 42, 7, 8) := rfl
set_option maxRecDepth 20000 in
theorem lf_29 : m_lf[29]? = some (4, 13, 4, 0) := rfl
set_option maxRecDepth 20000 in
theorem lf_30 : m_lf[30]? = some (4, 19, 4, 1) := rfl
set_option maxRecDepth 20000 in
theorem lf_31 : m_lf[31]? = some (5, 15, 6, 0) := rfl
set_option maxRecDepth 20000 in
theorem lf_32 : m_lf[32]? = some (5, 22, 6, 1) := rfl
set_option maxRecDepth 20000 in
theorem lf_33 : m_lf[33]? = some (5, 26, 6, 2) := rfl
set_option maxRecDepth 20000 in
theorem lf_34 : m_lf[34]? = some (2, 59, 10, 9) := rfl
set_option maxRecDepth 20000 in
theorem lf_35 : m_lf[35]? = some (2, 373, 7, 6) := rfl
set_option maxRecDepth 20000 in
theorem lf_36 : m_lf[36]? = some (6, 11, 9, 0) := rfl
set_option maxRecDepth 20000 in
theorem lf_37 : m_lf[37]? = some (2, 73, 10, 11) := rfl
set_option maxRecDepth 20000 in
theorem lf_38 : m_lf[38]? = some (7, 60, 0, 1) := rfl
set_option maxRecDepth 20000 in
theorem lf_39 : m_lf[39]? = some (7, 63, 0, 2) := rfl
set_option maxRecDepth 20000 in
theorem lf_40 : m_lf[40]? = some (7, 23, 9, 0) := rfl
set_option maxRecDepth 20000 in
theorem lf_41 : m_lf[41]? = some (1, 71, 11, 34) := rfl
set_option maxRecDepth 20000 in
theorem lf_42 : m_lf[42]? = some (1, 74, 11, 35) := rfl
set_option maxRecDepth 20000 in
theorem lf_43 : m_lf[43]? = some (2, 80, 10, 12) := rfl
set_option maxRecDepth 20000 in
theorem lf_44 : m_lf[44]? = some (2, 324, 2, 2) := rfl
set_option maxRecDepth 20000 in
theorem lf_45 : m_lf[45]? = some (2, 327, 2, 1) := rfl
set_option maxRecDepth 20000 in
theorem lf_46 : m_lf[46]? = some (8, 18, 2, 5) := rfl
set_option maxRecDepth 20000 in
theorem lf_47 : m_lf[47]? = some (8, 21, 2, 6) := rfl
set_option maxRecDepth 20000 in
theorem lf_48 : m_lf[48]? = some (1, 68, 11, 33) := rfl
set_option maxRecDepth 20000 in
theorem lf_49 : m_lf[49]? = some (8, 94, 9, 0) := rfl
set_option maxRecDepth 20000 in
theorem lf_50 : m_lf[50]? = some (8, 72, 7, 3) := rfl
set_option maxRecDepth 20000 in
theorem lf_51 : m_lf[51]? = some (8, 38, 4, 1) := rfl
set_option maxRecDepth 20000 in
theorem lf_52 : m_lf[52]? = some (8, 15, 2, 4) := rfl
set_option maxRecDepth 20000 in
theorem lf_53 : m_lf[53]? = some (8, 82, 7, 4) := rfl
set_option maxRecDepth 20000 in
theorem lf_54 : m_lf[54]? = some (2, 345, 7, 4) := rfl
set_option maxRecDepth 20000 in
theorem lf_55 : m_lf[55]? = some (1, 478, 11, 32) := rfl
set_option maxRecDepth 20000 in
theorem lf_56 : m_lf[56]? = some (1, 475, 11, 31) := rfl
set_option maxRecDepth 20000 in
theorem lf_57 : m_lf[57]? = some (8, 59, 2, 1) := rfl
set_option maxRecDepth 20000 in
theorem lf_58 : m_lf[58]? = some (8, 62, 2, 2) := rfl
set_option maxRecDepth 20000 in
theorem lf_59 : m_lf[59]? = some (1, 62, 11, 29) := rfl
set_option maxRecDepth 20000 in
theorem lf_60 : m_lf[60]? = some (2, 66, 10, 10) := rfl
set_option maxRecDepth 20000 in
theorem lf_61 : m_lf[61]? = some (9, 40, 9, 0) := rfl
set_option maxRecDepth 20000 in
theorem lf_62 : m_lf[62]? = some (9, 9, 8, 0) := rfl
set_option maxRecDepth 20000 in
theorem lf_63 : m_lf[63]? = some (1, 65, 11, 30) := rfl
set_option maxRecDepth 20000 in
theorem lf_64 : m_lf[64]? = some (9, 15, 8, 1) := rfl
set_option maxRecDepth 20000 in
theorem lf_65 : m_lf[65]? = some (1, 56, 11, 27) := rfl
set_option maxRecDepth 20000 in
theorem lf_66 : m_lf[66]? = some (1, 59, 11, 28) := rfl
set_option maxRecDepth 20000 in
theorem lf_67 : m_lf[67]? = some (2, 293, 2, 0) := rfl
set_option maxRecDepth 20000 in
theorem lf_68 : m_lf[68]? = some (8, 11, 2, 3) := rfl
set_option maxRecDepth 20000 in
theorem lf_69 : m_lf[69]? = some (8, 28, 2, 0) := rfl
set_option maxRecDepth 20000 in
theorem lf_70 : m_lf[70]? = some (1, 53, 11, 26) := rfl
set_option maxRecDepth 20000 in
theorem lf_71 : m_lf[71]? = some (2, 254, 7, 0) := rfl
set_option maxRecDepth 20000 in
theorem lf_72 : m_lf[72]? = some (2, 272, 0, 0) := rfl
set_option maxRecDepth 20000 in
theorem lf_73 : m_lf[73]? = some (7, 14, 0, 0) := rfl
set_option maxRecDepth 20000 in
theorem lf_74 : m_lf[74]? = some (7, 41, 4, 1) := rfl
set_option maxRecDepth 20000 in
theorem lf_75 : m_lf[75]? = some (1, 47, 11, 24) := rfl
set_option maxRecDepth 20000 in
theorem lf_76 : m_lf[76]? = some (2, 39, 10, 6) := rfl
set_option maxRecDepth 20000 in
theorem lf_77 : m_lf[77]? = some (1, 50, 11, 25) := rfl
set_option maxRecDepth 20000 in
theorem lf_78 : m_lf[78]? = some (1, 43, 11, 23) := rfl
set_option maxRecDepth 20000 in
theorem lf_79 : m_lf[79]? = some (1, 16, 11, 2) := rfl
set_option maxRecDepth 20000 in
theorem lf_80 : m_lf[80]? = some (2, 181, 5, 5) := rfl
set_option maxRecDepth 20000 in
theorem lf_81 : m_lf[81]? = some (11, 9, 5, 0) := rfl
set_option maxRecDepth 20000 in
theorem lf_82 : m_lf[82]? = some (1, 32, 11, 20) := rfl
set_option maxRecDepth 20000 in
theorem lf_83 : m_lf[83]? = some (12, 46, 9, 0) := rfl
set_option maxRecDepth 20000 in
theorem lf_84 : m_lf[84]? = some (1, 35, 11, 21) := rfl
set_option maxRecDepth 20000 in
theorem lf_85 : m_lf[85]? = some (1, 39, 11, 22) := rfl
set_option maxRecDepth 20000 in
theorem lf_86 : m_lf[86]? = some (12, 82, 1, 1) := rfl
set_option maxRecDepth 20000 in
theorem lf_87 : m_lf[87]? = some (12, 11, 1, 0) := rfl
set_option maxRecDepth 20000 in
theorem lf_88 : m_lf[88]? = some (11, 21, 5, 3) := rfl
set_option maxRecDepth 20000 in
theorem lf_89 : m_lf[89]? = some (11, 15, 5, 1) := rfl
set_option maxRecDepth 20000 in
theorem lf_90 : m_lf[90]? = some (11, 18, 5, 2) := rfl
set_option maxRecDepth 20000 in
theorem lf_91 : m_lf[91]? = some (11, 29, 5, 5) := rfl
set_option maxRecDepth 20000 in
theorem lf_92 : m_lf[92]? = some (2, 44, 10, 7) := rfl
set_option maxRecDepth 20000 in
theorem lf_93 : m_lf[93]? = some (5, 18, 9, 0) := rfl
set_option maxRecDepth 20000 in
theorem lf_94 : m_lf[94]? = some (1, 22, 11, 5) := rfl
set_option maxRecDepth 20000 in
theorem lf_95 : m_lf[95]? = some (1, 26, 11, 6) := rfl
set_option maxRecDepth 20000 in
theorem lf_96 : m_lf[96]? = some (2, 118, 3, 3) := rfl
set_option maxRecDepth 20000 in
theorem lf_97 : m_lf[97]? = some (2, 121, 3, 4) := rfl
set_option maxRecDepth 20000 in
theorem lf_98 : m_lf[98]? = some (1, 110, 11, 8) := rfl
set_option maxRecDepth 20000 in
theorem lf_99 : m_lf[99]? = some (1, 151, 11, 12) := rfl
set_option maxRecDepth 20000 in
theorem lf_100 : m_lf[100]? = some (1, 154, 11, 13) := rfl
set_option maxRecDepth 20000 in
theorem lf_101 : m_lf[101]? = some (1, 261, 11, 19) := rfl
set_option maxRecDepth 20000 in
theorem lf_102 : m_lf[102]? = some (1, 104, 11, 7) := rfl
set_option maxRecDepth 20000 in
theorem lf_103 : m_lf[103]? = some (1, 113, 11, 9) := rfl
set_option maxRecDepth 20000 in
theorem lf_104 : m_lf[104]? = some (1, 165, 11, 14) := rfl
set_option maxRecDepth 20000 in
theorem lf_105 : m_lf[105]? = some (1, 168, 11, 16) := rfl
set_option maxRecDepth 20000 in
theorem lf_106 : m_lf[106]? = some (1, 178, 11, 17) := rfl
set_option maxRecDepth 20000 in
theorem lf_107 : m_lf[107]? = some (1, 216, 11, 18) := rfl
set_option maxRecDepth 20000 in
theorem lf_108 : m_lf[108]? = some (1, 119, 11, 10) := rfl
set_option maxRecDepth 20000 in
theorem lf_109 : m_lf[109]? = some (1, 29, 11, 15) := rfl
set_option maxRecDepth 20000 in
theorem lf_110 : m_lf[110]? = some (1, 126, 11, 11) := rfl
set_option maxRecDepth 20000 in
theorem lf_111 : m_lf[111]? = some (1, 19, 11, 3) := rfl
set_option maxRecDepth 20000 in
theorem lf_112 : m_lf[112]? = some (2, 110, 3, 0) := rfl
set_option maxRecDepth 20000 in
theorem lf_113 : m_lf[113]? = some (11, 26, 5, 4) := rfl
set_option maxRecDepth 20000 in
theorem lf_114 : m_lf[114]? = some (11, 33, 5, 6) := rfl
set_option maxRecDepth 20000 in
theorem lf_115 : m_lf[115]? = some (14, 12, 3, 0) := rfl
set_option maxRecDepth 20000 in
theorem lf_116 : m_lf[116]? = some (14, 22, 3, 3) := rfl
set_option maxRecDepth 20000 in
theorem lf_117 : m_lf[117]? = some (14, 26, 3, 4) := rfl
set_option maxRecDepth 20000 in
theorem lf_118 : m_lf[118]? = some (14, 35, 3, 8) := rfl
set_option maxRecDepth 20000 in
theorem lf_119 : m_lf[119]? = some (14, 41, 3, 5) := rfl
set_option maxRecDepth 20000 in
theorem lf_120 : m_lf[120]? = some (14, 101, 5, 5) := rfl
set_option maxRecDepth 20000 in
theorem lf_121 : m_lf[121]? = some (14, 104, 3, 9) := rfl
set_option maxRecDepth 20000 in
theorem lf_122 : m_lf[122]? = some (14, 76, 3, 6) := rfl
set_option maxRecDepth 20000 in
theorem lf_123 : m_lf[123]? = some (14, 50, 3, 7) := rfl
set_option maxRecDepth 20000 in
theorem lf_124 : m_lf[124]? = some (14, 29, 3, 2) := rfl
set_option maxRecDepth 20000 in
theorem lf_125 : m_lf[125]? = some (14, 18, 3, 1) := rfl
set_option maxRecDepth 20000 in
theorem lf_126 : m_lf[126]? = some (16, 9, 100, 0) := rfl
set_option maxRecDepth 20000 in
theorem lf_127 : m_lf[127]? = some (16, 15, 100, 1) := rfl
set_option maxRecDepth 20000 in
theorem lg_0 : m_lg[0]? = some (14, 123, 1) := rfl
set_option maxRecDepth 20000 in
theorem lg_1 : m_lg[1]? = some (16, 1053, 2) := rfl
set_option maxRecDepth 20000 in
theorem lg_2 : m_lg[2]? = some (16, 38, 0) := rfl
set_option maxRecDepth 20000 in
theorem ft_0_0 : m_ft 0 0 = 2 := by decide +kernel
set_option maxRecDepth 20000 in
theorem ft_0_1 : m_ft 0 1 = 0 := by decide +kernel
set_option maxRecDepth 20000 in
theorem ft_0_2 : m_ft 0 2 = 0 := by decide +kernel
set_option maxRecDepth 20000 in
theorem ft_1_0 : m_ft 1 0 = 2 := by decide +kernel
set_option maxRecDepth 20000 in
theorem ft_1_1 : m_ft 1 1 = 0 := by decide +kernel
set_option maxRecDepth 20000 in
theorem ft_2_0 : m_ft 2 0 = 0 := by decide +kernel
set_option maxRecDepth 20000 in
theorem ft_2_1 : m_ft 2 1 = 0 := by decide +kernel
set_option maxRecDepth 20000 in
theorem ft_2_2 : m_ft 2 2 = 0 := by decide +kernel
set_option maxRecDepth 20000 in
theorem ft_2_3 : m_ft 2 3 = 2 := by decide +kernel
set_option maxRecDepth 20000 in
theorem ft_2_4 : m_ft 2 4 = 2 := by decide +kernel
set_option maxRecDepth 20000 in
theorem ft_2_5 : m_ft 2 5 = 2 := by decide +kernel
set_option maxRecDepth 20000 in
theorem ft_2_6 : m_ft 2 6 = 2 := by decide +kernel
set_option maxRecDepth 20000 in
theorem ft_3_0 : m_ft 3 0 = 2 := by decide +kernel
set_option maxRecDepth 20000 in
theorem ft_3_1 : m_ft 3 1 = 2 := by decide +kernel
set_option maxRecDepth 20000 in
theorem ft_3_2 : m_ft 3 2 = 0 := by decide +kernel
set_option maxRecDepth 20000 in
theorem ft_3_3 : m_ft 3 3 = 0 := by decide +kernel
set_option maxRecDepth 20000 in
theorem ft_3_4 : m_ft 3 4 = 0 := by decide +kernel
set_option maxRecDepth 20000 in
theorem ft_3_5 : m_ft 3 5 = 0 := by decide +kernel
set_option maxRecDepth 20000 in
theorem ft_3_6 : m_ft 3 6 = 0 := by decide +kernel
set_option maxRecDepth 20000 in
theorem ft_3_7 : m_ft 3 7 = 0 := by decide +kernel
set_option maxRecDepth 20000 in
theorem ft_3_8 : m_ft 3 8 = 0 := by decide +kernel
set_option maxRecDepth 20000 in
theorem ft_3_9 : m_ft 3 9 = 0 := by decide +kernel
set_option maxRecDepth 20000 in
theorem ft_4_0 : m_ft 4 0 = 2 := by decide +kernel
set_option maxRecDepth 20000 in
theorem ft_4_1 : m_ft 4 1 = 0 := by decide +kernel
set_option maxRecDepth 20000 in
theorem ft_5_0 : m_ft 5 0 = 2 := by decide +kernel
set_option maxRecDepth 20000 in
theorem ft_5_1 : m_ft 5 1 = 2 := by decide +kernel
set_option maxRecDepth 20000 in
theorem ft_5_2 : m_ft 5 2 = 2 := by decide +kernel
set_option maxRecDepth 20000 in
theorem ft_5_3 : m_ft 5 3 = 2 := by decide +kernel
set_option maxRecDepth 20000 in
theorem ft_5_4 : m_ft 5 4 = 2 := by decide +kernel
set_option maxRecDepth 20000 in
theorem ft_5_5 : m_ft 5 5 = 0 := by decide +kernel
set_option maxRecDepth 20000 in
theorem ft_5_6 : m_ft 5 6 = 0 := by decide +kernel
set_option maxRecDepth 20000 in
theorem ft_6_0 : m_ft 6 0 = 2 := by decide +kernel
set_option maxRecDepth 20000 in
theorem ft_6_1 : m_ft 6 1 = 0 := by decide +kernel
set_option maxRecDepth 20000 in
theorem ft_6_2 : m_ft 6 2 = 0 := by decide +kernel
set_option maxRecDepth 20000 in
theorem ft_7_0 : m_ft 7 0 = 2 := by decide +kernel
set_option maxRecDepth 20000 in
theorem ft_7_1 : m_ft 7 1 = 2 := by decide +kernel
set_option maxRecDepth 20000 in
theorem ft_7_2 : m_ft 7 2 = 2 := by decide +kernel
set_option maxRecDepth 20000 in
theorem ft_7_3 : m_ft 7 3 = 2 := by decide +kernel
set_option maxRecDepth 20000 in
theorem ft_7_4 : m_ft 7 4 = 2 := by decide +kernel
set_option maxRecDepth 20000 in
theorem ft_7_5 : m_ft 7 5 = 2 := by decide +kernel
set_option maxRecDepth 20000 in
theorem ft_7_6 : m_ft 7 6 = 2 := by decide +kernel
set_option maxRecDepth 20000 in
theorem ft_7_7 : m_ft 7 7 = 0 := by decide +kernel
set_option maxRecDepth 20000 in
theorem ft_7_8 : m_ft 7 8 = 0 := by decide +kernel
set_option maxRecDepth 20000 in
theorem ft_8_0 : m_ft 8 0 = 2 := by decide +kernel
set_option maxRecDepth 20000 in
theorem ft_8_1 : m_ft 8 1 = 2 := by decide +kernel
set_option maxRecDepth 20000 in
theorem ft_9_0 : m_ft 9 0 = 2 := by decide +kernel
set_option maxRecDepth 20000 in
theorem ft_10_0 : m_ft 10 0 = 2 := by decide +kernel
set_option maxRecDepth 20000 in
theorem ft_10_1 : m_ft 10 1 = 2 := by decide +kernel
set_option maxRecDepth 20000 in
theorem ft_10_2 : m_ft 10 2 = 2 := by decide +kernel
set_option maxRecDepth 20000 in
theorem ft_10_3 : m_ft 10 3 = 2 := by decide +kernel
set_option maxRecDepth 20000 in
theorem ft_10_4 : m_ft 10 4 = 2 := by decide +kernel
set_option maxRecDepth 20000 in
theorem ft_10_5 : m_ft 10 5 = 2 := by decide +kernel
set_option maxRecDepth 20000 in
theorem ft_10_6 : m_ft 10 6 = 2 := by decide +kernel
set_option maxRecDepth 20000 in
theorem ft_10_7 : m_ft 10 7 = 2 := by decide +kernel
set_option maxRecDepth 20000 in
theorem ft_10_8 : m_ft 10 8 = 2 := by decide +kernel
set_option maxRecDepth 20000 in
theorem ft_10_9 : m_ft 10 9 = 2 := by decide +kernel
set_option maxRecDepth 20000 in
theorem ft_10_10 : m_ft 10 10 = 2 := by decide +kernel
set_option maxRecDepth 20000 in
theorem ft_10_11 : m_ft 10 11 = 2 := by decide +kernel
set_option maxRecDepth 20000 in
theorem ft_10_12 : m_ft 10 12 = 2 := by decide +kernel
set_option maxRecDepth 20000 in
theorem ft_11_0 : m_ft 11 0 = 2 := by decide +kernel
set_option maxRecDepth 20000 in
theorem ft_11_1 : m_ft 11 1 = 2 := by decide +kernel
set_option maxRecDepth 20000 in
theorem ft_11_2 : m_ft 11 2 = 2 := by decide +kernel
set_option maxRecDepth 20000 in
theorem ft_11_3 : m_ft 11 3 = 2 := by decide +kernel
set_option maxRecDepth 20000 in
theorem ft_11_4 : m_ft 11 4 = 0 := by decide +kernel
set_option maxRecDepth 20000 in
theorem ft_11_5 : m_ft 11 5 = 0 := by decide +kernel
set_option maxRecDepth 20000 in
theorem ft_11_6 : m_ft 11 6 = 0 := by decide +kernel
set_option maxRecDepth 20000 in
theorem ft_11_7 : m_ft 11 7 = 0 := by decide +kernel
set_option maxRecDepth 20000 in
theorem ft_11_8 : m_ft 11 8 = 0 := by decide +kernel
set_option maxRecDepth 20000 in
theorem ft_11_9 : m_ft 11 9 = 0 := by decide +kernel
set_option maxRecDepth 20000 in
theorem ft_11_10 : m_ft 11 10 = 0 := by decide +kernel
set_option maxRecDepth 20000 in
theorem ft_11_11 : m_ft 11 11 = 1 := by decide +kernel
set_option maxRecDepth 20000 in
theorem ft_11_12 : m_ft 11 12 = 0 := by decide +kernel
set_option maxRecDepth 20000 in
theorem ft_11_13 : m_ft 11 13 = 0 := by decide +kernel
set_option maxRecDepth 20000 in
theorem ft_11_14 : m_ft 11 14 = 0 := by decide +kernel
set_option maxRecDepth 20000 in
theorem ft_11_15 : m_ft 11 15 = 2 := by decide +kernel
set_option maxRecDepth 20000 in
theorem ft_11_16 : m_ft 11 16 = 0 := by decide +kernel
set_option maxRecDepth 20000 in
theorem ft_11_17 : m_ft 11 17 = 0 := by decide +kernel
set_option maxRecDepth 20000 in
theorem ft_11_18 : m_ft 11 18 = 3 := by decide +kernel
set_option maxRecDepth 20000 in
theorem ft_11_19 : m_ft 11 19 = 0 := by decide +kernel
set_option maxRecDepth 20000 in
theorem ft_11_20 : m_ft 11 20 = 2 := by decide +kernel
set_option maxRecDepth 20000 in
theorem ft_11_21 : m_ft 11 21 = 2 := by decide +kernel
set_option maxRecDepth 20000 in
theorem ft_11_22 : m_ft 11 22 = 2 := by decide +kernel
set_option maxRecDepth 20000 in
theorem ft_11_23 : m_ft 11 23 = 3 := by decide +kernel
set_option maxRecDepth 20000 in
theorem ft_11_24 : m_ft 11 24 = 2 := by decide +kernel
set_option maxRecDepth 20000 in
theorem ft_11_25 : m_ft 11 25 = 2 := by decide +kernel
set_option maxRecDepth 20000 in
theorem ft_11_26 : m_ft 11 26 = 2 := by decide +kernel
set_option maxRecDepth 20000 in
theorem ft_11_27 : m_ft 11 27 = 2 := by decide +kernel
set_option maxRecDepth 20000 in
theorem ft_11_28 : m_ft 11 28 = 2 := by decide +kernel
set_option maxRecDepth 20000 in
theorem ft_11_29 : m_ft 11 29 = 2 := by decide +kernel
set_option maxRecDepth 20000 in
theorem ft_11_30 : m_ft 11 30 = 2 := by decide +kernel
set_option maxRecDepth 20000 in
theorem ft_11_31 : m_ft 11 31 = 1 := by decide +kernel
set_option maxRecDepth 20000 in
theorem ft_11_32 : m_ft 11 32 = 1 := by decide +kernel
set_option maxRecDepth 20000 in
theorem ft_11_33 : m_ft 11 33 = 2 := by decide +kernel
set_option maxRecDepth 20000 in
theorem ft_11_34 : m_ft 11 34 = 2 := by decide +kernel
set_option maxRecDepth 20000 in
theorem ft_11_35 : m_ft 11 35 = 2 := by decide +kernel
abbrev k_L_law : Nat := 0
set_option maxRecDepth 20000 in
theorem r_L_law : m_ins.getD k_L_law [] = m_i0 := rfl
set_option maxRecDepth 20000 in
theorem w_L_law : m_cw k_L_law 1 4 := ⟨by decide +kernel, rfl, rfl⟩
set_option maxRecDepth 20000 in
theorem q_L_law (as : List Value) : m_rank k_L_law as = 100 := rfl
abbrev k_M_about : Nat := 1
set_option maxRecDepth 20000 in
theorem r_M_about : m_ins.getD k_M_about [] = m_i1 := rfl
set_option maxRecDepth 20000 in
theorem w_M_about : m_cw k_M_about 1 2 := ⟨by decide +kernel, rfl, rfl⟩
set_option maxRecDepth 20000 in
theorem q_M_about (as : List Value) : m_rank k_M_about as = 2 := rfl
abbrev k_G_about : Nat := 2
set_option maxRecDepth 20000 in
theorem r_G_about : m_ins.getD k_G_about [] = m_i2 := rfl
set_option maxRecDepth 20000 in
theorem w_G_about : m_cw k_G_about 1 2 := ⟨by decide +kernel, rfl, rfl⟩
set_option maxRecDepth 20000 in
theorem q_G_about (as : List Value) : m_rank k_G_about as = 1 := rfl
abbrev k_M_back : Nat := 3
set_option maxRecDepth 20000 in
theorem r_M_back : m_ins.getD k_M_back [] = m_i3 := rfl
set_option maxRecDepth 20000 in
theorem w_M_back : m_cw k_M_back 0 1 := ⟨by decide +kernel, rfl, rfl⟩
set_option maxRecDepth 20000 in
theorem q_M_back (as : List Value) : m_rank k_M_back as = 2 := rfl
abbrev k_G_back : Nat := 4
set_option maxRecDepth 20000 in
theorem r_G_back : m_ins.getD k_G_back [] = m_i4 := rfl
set_option maxRecDepth 20000 in
theorem w_G_back : m_cw k_G_back 0 1 := ⟨by decide +kernel, rfl, rfl⟩
set_option maxRecDepth 20000 in
theorem q_G_back (as : List Value) : m_rank k_G_back as = 4 := rfl
abbrev k_M_image : Nat := 5
set_option maxRecDepth 20000 in
theorem r_M_image : m_ins.getD k_M_image [] = m_i5 := rfl
set_option maxRecDepth 20000 in
theorem w_M_image : m_cw k_M_image 0 1 := ⟨by decide +kernel, rfl, rfl⟩
set_option maxRecDepth 20000 in
theorem q_M_image (as : List Value) : m_rank k_M_image as = 2 := rfl
abbrev k_G_image : Nat := 6
set_option maxRecDepth 20000 in
theorem r_G_image : m_ins.getD k_G_image [] = m_i6 := rfl
set_option maxRecDepth 20000 in
theorem w_G_image : m_cw k_G_image 0 1 := ⟨by decide +kernel, rfl, rfl⟩
set_option maxRecDepth 20000 in
theorem q_G_image (as : List Value) : m_rank k_G_image as = 4 := rfl
abbrev k_Told_takeOver : Nat := 7
set_option maxRecDepth 20000 in
theorem r_Told_takeOver : m_ins.getD k_Told_takeOver [] = m_i7 := rfl
set_option maxRecDepth 20000 in
theorem w_Told_takeOver : m_cw k_Told_takeOver 1 2 := ⟨by decide +kernel, rfl, rfl⟩
set_option maxRecDepth 20000 in
theorem q_Told_takeOver (as : List Value) : m_rank k_Told_takeOver as = 3 := rfl
abbrev k_Row_takeOver : Nat := 8
set_option maxRecDepth 20000 in
theorem r_Row_takeOver : m_ins.getD k_Row_takeOver [] = m_i8 := rfl
set_option maxRecDepth 20000 in
theorem w_Row_takeOver : m_cw k_Row_takeOver 1 3 := ⟨by decide +kernel, rfl, rfl⟩
set_option maxRecDepth 20000 in
theorem q_Row_takeOver (as : List Value) : m_rank k_Row_takeOver as = 2 := rfl
abbrev k_Steps_takeOver : Nat := 9
set_option maxRecDepth 20000 in
theorem r_Steps_takeOver : m_ins.getD k_Steps_takeOver [] = m_i9 := rfl
set_option maxRecDepth 20000 in
theorem w_Steps_takeOver : m_cw k_Steps_takeOver 1 3 := ⟨by decide +kernel, rfl, rfl⟩
set_option maxRecDepth 20000 in
theorem q_Steps_takeOver (as : List Value) : m_rank k_Steps_takeOver as = 1 := rfl
abbrev k_M_coldest : Nat := 10
set_option maxRecDepth 20000 in
theorem r_M_coldest : m_ins.getD k_M_coldest [] = m_i10 := rfl
set_option maxRecDepth 20000 in
theorem w_M_coldest : m_cw k_M_coldest 0 3 := ⟨by decide +kernel, rfl, rfl⟩
set_option maxRecDepth 20000 in
theorem q_M_coldest (as : List Value) : m_rank k_M_coldest as = 1 := rfl
abbrev k_G_coldest : Nat := 11
set_option maxRecDepth 20000 in
theorem r_G_coldest : m_ins.getD k_G_coldest [] = m_i11 := rfl
set_option maxRecDepth 20000 in
theorem w_G_coldest : m_cw k_G_coldest 0 3 := ⟨by decide +kernel, rfl, rfl⟩
set_option maxRecDepth 20000 in
theorem q_G_coldest (as : List Value) : m_rank k_G_coldest as = 2 := rfl
abbrev k_M_pairs : Nat := 12
set_option maxRecDepth 20000 in
theorem r_M_pairs : m_ins.getD k_M_pairs [] = m_i12 := rfl
set_option maxRecDepth 20000 in
theorem w_M_pairs : m_cw k_M_pairs 0 4 := ⟨by decide +kernel, rfl, rfl⟩
set_option maxRecDepth 20000 in
theorem q_M_pairs (as : List Value) : m_rank k_M_pairs as = 3 := rfl
abbrev k_G_pairs : Nat := 13
set_option maxRecDepth 20000 in
theorem r_G_pairs : m_ins.getD k_G_pairs [] = m_i13 := rfl
set_option maxRecDepth 20000 in
theorem w_G_pairs : m_cw k_G_pairs 0 4 := ⟨by decide +kernel, rfl, rfl⟩
set_option maxRecDepth 20000 in
theorem q_G_pairs (as : List Value) : m_rank k_G_pairs as = 5 := rfl
abbrev k_World_isPair : Nat := 14
set_option maxRecDepth 20000 in
theorem r_World_isPair : m_ins.getD k_World_isPair [] = m_i14 := rfl
set_option maxRecDepth 20000 in
theorem w_World_isPair : m_cw k_World_isPair 2 3 := ⟨by decide +kernel, rfl, rfl⟩
set_option maxRecDepth 20000 in
theorem q_World_isPair (as : List Value) : m_rank k_World_isPair as = 4 := rfl
abbrev k_M_fined : Nat := 15
set_option maxRecDepth 20000 in
theorem r_M_fined : m_ins.getD k_M_fined [] = m_i15 := rfl
set_option maxRecDepth 20000 in
theorem w_M_fined : m_cw k_M_fined 1 4 := ⟨by decide +kernel, rfl, rfl⟩
set_option maxRecDepth 20000 in
theorem q_M_fined (as : List Value) : m_rank k_M_fined as = 3 := rfl
abbrev k_G_fined : Nat := 16
set_option maxRecDepth 20000 in
theorem r_G_fined : m_ins.getD k_G_fined [] = m_i16 := rfl
set_option maxRecDepth 20000 in
theorem w_G_fined : m_cw k_G_fined 1 4 := ⟨by decide +kernel, rfl, rfl⟩
set_option maxRecDepth 20000 in
theorem q_G_fined (as : List Value) : m_rank k_G_fined as = 3 := rfl
abbrev k_M_whoseLaw : Nat := 17
set_option maxRecDepth 20000 in
theorem r_M_whoseLaw : m_ins.getD k_M_whoseLaw [] = m_i17 := rfl
set_option maxRecDepth 20000 in
theorem w_M_whoseLaw : m_cw k_M_whoseLaw 0 5 := ⟨by decide +kernel, rfl, rfl⟩
set_option maxRecDepth 20000 in
theorem q_M_whoseLaw (as : List Value) : m_rank k_M_whoseLaw as = 7 := rfl
abbrev k_G_whoseLaw : Nat := 18
set_option maxRecDepth 20000 in
theorem r_G_whoseLaw : m_ins.getD k_G_whoseLaw [] = m_i18 := rfl
set_option maxRecDepth 20000 in
theorem w_G_whoseLaw : m_cw k_G_whoseLaw 0 3 := ⟨by decide +kernel, rfl, rfl⟩
set_option maxRecDepth 20000 in
theorem q_G_whoseLaw (as : List Value) : m_rank k_G_whoseLaw as = 7 := rfl
abbrev k_G_explainsGrowth : Nat := 19
set_option maxRecDepth 20000 in
theorem r_G_explainsGrowth : m_ins.getD k_G_explainsGrowth [] = m_i19 := rfl
set_option maxRecDepth 20000 in
theorem w_G_explainsGrowth : m_cw k_G_explainsGrowth 1 5 := ⟨by decide +kernel, rfl, rfl⟩
set_option maxRecDepth 20000 in
theorem q_G_explainsGrowth (as : List Value) : m_rank k_G_explainsGrowth as = 6 := rfl
abbrev k_M_grown : Nat := 20
set_option maxRecDepth 20000 in
theorem r_M_grown : m_ins.getD k_M_grown [] = m_i20 := rfl
set_option maxRecDepth 20000 in
theorem w_M_grown : m_cw k_M_grown 2 3 := ⟨by decide +kernel, rfl, rfl⟩
set_option maxRecDepth 20000 in
theorem q_M_grown (as : List Value) : m_rank k_M_grown as = 3 := rfl
abbrev k_G_grown : Nat := 21
set_option maxRecDepth 20000 in
theorem r_G_grown : m_ins.getD k_G_grown [] = m_i21 := rfl
set_option maxRecDepth 20000 in
theorem w_G_grown : m_cw k_G_grown 2 4 := ⟨by decide +kernel, rfl, rfl⟩
set_option maxRecDepth 20000 in
theorem q_G_grown (as : List Value) : m_rank k_G_grown as = 2 := rfl
abbrev k_M_richest : Nat := 22
set_option maxRecDepth 20000 in
theorem r_M_richest : m_ins.getD k_M_richest [] = m_i22 := rfl
set_option maxRecDepth 20000 in
theorem w_M_richest : m_cw k_M_richest 0 6 := ⟨by decide +kernel, rfl, rfl⟩
set_option maxRecDepth 20000 in
theorem q_M_richest (as : List Value) : m_rank k_M_richest as = 2 := rfl
abbrev k_G_richest : Nat := 23
set_option maxRecDepth 20000 in
theorem r_G_richest : m_ins.getD k_G_richest [] = m_i23 := rfl
set_option maxRecDepth 20000 in
theorem w_G_richest : m_cw k_G_richest 0 5 := ⟨by decide +kernel, rfl, rfl⟩
set_option maxRecDepth 20000 in
theorem q_G_richest (as : List Value) : m_rank k_G_richest as = 4 := rfl
abbrev k_World_workOfLefts : Nat := 24
set_option maxRecDepth 20000 in
theorem r_World_workOfLefts : m_ins.getD k_World_workOfLefts [] = m_i24 := rfl
set_option maxRecDepth 20000 in
theorem w_World_workOfLefts : m_cw k_World_workOfLefts 1 4 := ⟨by decide +kernel, rfl, rfl⟩
set_option maxRecDepth 20000 in
theorem q_World_workOfLefts (as : List Value) : m_rank k_World_workOfLefts as = 3 := rfl
abbrev k_M_ring : Nat := 25
set_option maxRecDepth 20000 in
theorem r_M_ring : m_ins.getD k_M_ring [] = m_i25 := rfl
set_option maxRecDepth 20000 in
theorem w_M_ring : m_cw k_M_ring 0 3 := ⟨by decide +kernel, rfl, rfl⟩
set_option maxRecDepth 20000 in
theorem q_M_ring (as : List Value) : m_rank k_M_ring as = 3 := rfl
abbrev k_M_isRing : Nat := 26
set_option maxRecDepth 20000 in
theorem r_M_isRing : m_ins.getD k_M_isRing [] = m_i26 := rfl
set_option maxRecDepth 20000 in
theorem w_M_isRing : m_cw k_M_isRing 1 8 := ⟨by decide +kernel, rfl, rfl⟩
set_option maxRecDepth 20000 in
theorem q_M_isRing (as : List Value) : m_rank k_M_isRing as = 2 := rfl
abbrev k_G_ring : Nat := 27
set_option maxRecDepth 20000 in
theorem r_G_ring : m_ins.getD k_G_ring [] = m_i27 := rfl
set_option maxRecDepth 20000 in
theorem w_G_ring : m_cw k_G_ring 0 1 := ⟨by decide +kernel, rfl, rfl⟩
set_option maxRecDepth 20000 in
theorem q_G_ring (as : List Value) : m_rank k_G_ring as = 15 := rfl
abbrev k_Duties_shortestRing : Nat := 28
set_option maxRecDepth 20000 in
theorem r_Duties_shortestRing : m_ins.getD k_Duties_shortestRing [] = m_i28 := rfl
set_option maxRecDepth 20000 in
theorem w_Duties_shortestRing : m_cw k_Duties_shortestRing 1 4 := ⟨by decide +kernel, rfl, rfl⟩
set_option maxRecDepth 20000 in
theorem q_Duties_shortestRing (as : List Value) : m_rank k_Duties_shortestRing as = 14 := rfl
abbrev k_Duties_seekRing : Nat := 29
set_option maxRecDepth 20000 in
theorem r_Duties_seekRing : m_ins.getD k_Duties_seekRing [] = m_i29 := rfl
set_option maxRecDepth 20000 in
theorem w_Duties_seekRing : m_cw k_Duties_seekRing 6 11 := ⟨by decide +kernel, rfl, rfl⟩
set_option maxRecDepth 20000 in
theorem q_Duties_seekRing_ge (as : List Value) : 3 ≤ m_rank k_Duties_seekRing as := by show 3 ≤ 3 + _; omega
set_option maxRecDepth 20000 in
theorem m_rk_Duties_seekRing (as : List Value) : m_rank k_Duties_seekRing as ≤ 13 := by
  show 3 + (10 - m_ai as 6) ≤ 13
  omega
abbrev k_Duties_noteRing : Nat := 30
set_option maxRecDepth 20000 in
theorem r_Duties_noteRing : m_ins.getD k_Duties_noteRing [] = m_i30 := rfl
set_option maxRecDepth 20000 in
theorem w_Duties_noteRing : m_cw k_Duties_noteRing 2 3 := ⟨by decide +kernel, rfl, rfl⟩
set_option maxRecDepth 20000 in
theorem q_Duties_noteRing (as : List Value) : m_rank k_Duties_noteRing as = 1 := rfl
abbrev k_M_frosts : Nat := 31
set_option maxRecDepth 20000 in
theorem r_M_frosts : m_ins.getD k_M_frosts [] = m_i31 := rfl
set_option maxRecDepth 20000 in
theorem w_M_frosts : m_cw k_M_frosts 5 12 := ⟨by decide +kernel, rfl, rfl⟩
set_option maxRecDepth 20000 in
theorem q_M_frosts (as : List Value) : m_rank k_M_frosts as = 2 := rfl
abbrev k_G_frosts : Nat := 32
set_option maxRecDepth 20000 in
theorem r_G_frosts : m_ins.getD k_G_frosts [] = m_i32 := rfl
set_option maxRecDepth 20000 in
theorem w_G_frosts : m_cw k_G_frosts 5 6 := ⟨by decide +kernel, rfl, rfl⟩
set_option maxRecDepth 20000 in
theorem q_G_frosts (as : List Value) : m_rank k_G_frosts as = 5 := rfl
abbrev k_Puzzles_oddsOfFrosts : Nat := 33
set_option maxRecDepth 20000 in
theorem r_Puzzles_oddsOfFrosts : m_ins.getD k_Puzzles_oddsOfFrosts [] = m_i33 := rfl
set_option maxRecDepth 20000 in
theorem w_Puzzles_oddsOfFrosts : m_cw k_Puzzles_oddsOfFrosts 4 9 := ⟨by decide +kernel, rfl, rfl⟩
set_option maxRecDepth 20000 in
theorem q_Puzzles_oddsOfFrosts (as : List Value) : m_rank k_Puzzles_oddsOfFrosts as = 4 := rfl
abbrev k_M_lives : Nat := 34
set_option maxRecDepth 20000 in
theorem r_M_lives : m_ins.getD k_M_lives [] = m_i34 := rfl
set_option maxRecDepth 20000 in
theorem w_M_lives : m_cw k_M_lives 1 4 := ⟨by decide +kernel, rfl, rfl⟩
set_option maxRecDepth 20000 in
theorem q_M_lives (as : List Value) : m_rank k_M_lives as = 4 := rfl
abbrev k_M_layWays : Nat := 35
set_option maxRecDepth 20000 in
theorem r_M_layWays : m_ins.getD k_M_layWays [] = m_i35 := rfl
set_option maxRecDepth 20000 in
theorem w_M_layWays : m_cw k_M_layWays 2 8 := ⟨by decide +kernel, rfl, rfl⟩
set_option maxRecDepth 20000 in
theorem q_M_layWays (as : List Value) : m_rank k_M_layWays as = 3 := rfl
abbrev k_M_isFitting : Nat := 36
set_option maxRecDepth 20000 in
theorem r_M_isFitting : m_ins.getD k_M_isFitting [] = m_i36 := rfl
set_option maxRecDepth 20000 in
theorem w_M_isFitting : m_cw k_M_isFitting 2 3 := ⟨by decide +kernel, rfl, rfl⟩
set_option maxRecDepth 20000 in
theorem q_M_isFitting (as : List Value) : m_rank k_M_isFitting as = 2 := rfl
abbrev k_G_lives : Nat := 37
set_option maxRecDepth 20000 in
theorem r_G_lives : m_ins.getD k_G_lives [] = m_i37 := rfl
set_option maxRecDepth 20000 in
theorem w_G_lives : m_cw k_G_lives 1 2 := ⟨by decide +kernel, rfl, rfl⟩
set_option maxRecDepth 20000 in
theorem q_G_lives (as : List Value) : m_rank k_G_lives as = 7 := rfl
abbrev k_Puzzles_sureOwner : Nat := 38
set_option maxRecDepth 20000 in
theorem r_Puzzles_sureOwner : m_ins.getD k_Puzzles_sureOwner [] = m_i38 := rfl
set_option maxRecDepth 20000 in
theorem w_Puzzles_sureOwner : m_cw k_Puzzles_sureOwner 3 6 := ⟨by decide +kernel, rfl, rfl⟩
set_option maxRecDepth 20000 in
theorem q_Puzzles_sureOwner (as : List Value) : m_rank k_Puzzles_sureOwner as = 6 := rfl
abbrev k_Puzzles_waysOf : Nat := 39
set_option maxRecDepth 20000 in
theorem r_Puzzles_waysOf : m_ins.getD k_Puzzles_waysOf [] = m_i39 := rfl
set_option maxRecDepth 20000 in
theorem w_Puzzles_waysOf : m_cw k_Puzzles_waysOf 4 9 := ⟨by decide +kernel, rfl, rfl⟩
set_option maxRecDepth 20000 in
theorem q_Puzzles_waysOf (as : List Value) : m_rank k_Puzzles_waysOf as = 5 := rfl
abbrev k_Puzzles_giveNext : Nat := 40
set_option maxRecDepth 20000 in
theorem r_Puzzles_giveNext : m_ins.getD k_Puzzles_giveNext [] = m_i40 := rfl
set_option maxRecDepth 20000 in
theorem w_Puzzles_giveNext : m_cw k_Puzzles_giveNext 4 10 := ⟨by decide +kernel, rfl, rfl⟩
set_option maxRecDepth 20000 in
theorem q_Puzzles_giveNext (as : List Value) : m_rank k_Puzzles_giveNext as = 4 := rfl
abbrev k_M_chest : Nat := 41
set_option maxRecDepth 20000 in
theorem r_M_chest : m_ins.getD k_M_chest [] = m_i41 := rfl
set_option maxRecDepth 20000 in
theorem w_M_chest : m_cw k_M_chest 2 3 := ⟨by decide +kernel, rfl, rfl⟩
set_option maxRecDepth 20000 in
theorem q_M_chest (as : List Value) : m_rank k_M_chest as = 2 := rfl
abbrev k_G_chest : Nat := 42
set_option maxRecDepth 20000 in
theorem r_G_chest : m_ins.getD k_G_chest [] = m_i42 := rfl
set_option maxRecDepth 20000 in
theorem w_G_chest : m_cw k_G_chest 2 4 := ⟨by decide +kernel, rfl, rfl⟩
set_option maxRecDepth 20000 in
theorem q_G_chest (as : List Value) : m_rank k_G_chest as = 2 := rfl
abbrev k_M_auction : Nat := 43
set_option maxRecDepth 20000 in
theorem r_M_auction : m_ins.getD k_M_auction [] = m_i43 := rfl
set_option maxRecDepth 20000 in
theorem w_M_auction : m_cw k_M_auction 2 6 := ⟨by decide +kernel, rfl, rfl⟩
set_option maxRecDepth 20000 in
theorem q_M_auction (as : List Value) : m_rank k_M_auction as = 3 := rfl
abbrev k_M_bidOf : Nat := 44
set_option maxRecDepth 20000 in
theorem r_M_bidOf : m_ins.getD k_M_bidOf [] = m_i44 := rfl
set_option maxRecDepth 20000 in
theorem w_M_bidOf : m_cw k_M_bidOf 2 4 := ⟨by decide +kernel, rfl, rfl⟩
set_option maxRecDepth 20000 in
theorem q_M_bidOf (as : List Value) : m_rank k_M_bidOf as = 2 := rfl
abbrev k_G_auction : Nat := 45
set_option maxRecDepth 20000 in
theorem r_G_auction : m_ins.getD k_G_auction [] = m_i45 := rfl
set_option maxRecDepth 20000 in
theorem w_G_auction : m_cw k_G_auction 2 5 := ⟨by decide +kernel, rfl, rfl⟩
set_option maxRecDepth 20000 in
theorem q_G_auction (as : List Value) : m_rank k_G_auction as = 4 := rfl
abbrev k_World_highestBidder : Nat := 46
set_option maxRecDepth 20000 in
theorem r_World_highestBidder : m_ins.getD k_World_highestBidder [] = m_i46 := rfl
set_option maxRecDepth 20000 in
theorem w_World_highestBidder : m_cw k_World_highestBidder 2 6 := ⟨by decide +kernel, rfl, rfl⟩
set_option maxRecDepth 20000 in
theorem q_World_highestBidder (as : List Value) : m_rank k_World_highestBidder as = 3 := rfl
abbrev k_World_bidOf : Nat := 47
set_option maxRecDepth 20000 in
theorem r_World_bidOf : m_ins.getD k_World_bidOf [] = m_i47 := rfl
set_option maxRecDepth 20000 in
theorem w_World_bidOf : m_cw k_World_bidOf 2 3 := ⟨by decide +kernel, rfl, rfl⟩
set_option maxRecDepth 20000 in
theorem q_World_bidOf (as : List Value) : m_rank k_World_bidOf as = 2 := rfl
abbrev k_M_estate : Nat := 48
set_option maxRecDepth 20000 in
theorem r_M_estate : m_ins.getD k_M_estate [] = m_i48 := rfl
set_option maxRecDepth 20000 in
theorem w_M_estate : m_cw k_M_estate 3 17 := ⟨by decide +kernel, rfl, rfl⟩
set_option maxRecDepth 20000 in
theorem q_M_estate (as : List Value) : m_rank k_M_estate as = 3 := rfl
abbrev k_M_partAlike : Nat := 49
set_option maxRecDepth 20000 in
theorem r_M_partAlike : m_ins.getD k_M_partAlike [] = m_i49 := rfl
set_option maxRecDepth 20000 in
theorem w_M_partAlike : m_cw k_M_partAlike 1 9 := ⟨by decide +kernel, rfl, rfl⟩
set_option maxRecDepth 20000 in
theorem q_M_partAlike (as : List Value) : m_rank k_M_partAlike as = 2 := rfl
abbrev k_G_estate : Nat := 50
set_option maxRecDepth 20000 in
theorem r_G_estate : m_ins.getD k_G_estate [] = m_i50 := rfl
set_option maxRecDepth 20000 in
theorem w_G_estate : m_cw k_G_estate 3 4 := ⟨by decide +kernel, rfl, rfl⟩
set_option maxRecDepth 20000 in
theorem q_G_estate (as : List Value) : m_rank k_G_estate as = 5 := rfl
abbrev k_Puzzles_share : Nat := 51
set_option maxRecDepth 20000 in
theorem r_Puzzles_share : m_ins.getD k_Puzzles_share [] = m_i51 := rfl
set_option maxRecDepth 20000 in
theorem w_Puzzles_share : m_cw k_Puzzles_share 3 6 := ⟨by decide +kernel, rfl, rfl⟩
set_option maxRecDepth 20000 in
theorem q_Puzzles_share (as : List Value) : m_rank k_Puzzles_share as = 4 := rfl
abbrev k_Puzzles_lowestTerms : Nat := 52
set_option maxRecDepth 20000 in
theorem r_Puzzles_lowestTerms : m_ins.getD k_Puzzles_lowestTerms [] = m_i52 := rfl
set_option maxRecDepth 20000 in
theorem w_Puzzles_lowestTerms : m_cw k_Puzzles_lowestTerms 2 4 := ⟨by decide +kernel, rfl, rfl⟩
set_option maxRecDepth 20000 in
theorem q_Puzzles_lowestTerms (as : List Value) : m_rank k_Puzzles_lowestTerms as = 3 := rfl
abbrev k_Puzzles_levelled : Nat := 53
set_option maxRecDepth 20000 in
theorem r_Puzzles_levelled : m_ins.getD k_Puzzles_levelled [] = m_i53 := rfl
set_option maxRecDepth 20000 in
theorem w_Puzzles_levelled : m_cw k_Puzzles_levelled 3 10 := ⟨by decide +kernel, rfl, rfl⟩
set_option maxRecDepth 20000 in
theorem q_Puzzles_levelled (as : List Value) : m_rank k_Puzzles_levelled as = 2 := rfl
abbrev k_M_claim : Nat := 54
set_option maxRecDepth 20000 in
theorem r_M_claim : m_ins.getD k_M_claim [] = m_i54 := rfl
set_option maxRecDepth 20000 in
theorem w_M_claim : m_cw k_M_claim 1 2 := ⟨by decide +kernel, rfl, rfl⟩
set_option maxRecDepth 20000 in
theorem q_M_claim (as : List Value) : m_rank k_M_claim as = 2 := rfl
abbrev k_G_claim : Nat := 55
set_option maxRecDepth 20000 in
theorem r_G_claim : m_ins.getD k_G_claim [] = m_i55 := rfl
set_option maxRecDepth 20000 in
theorem w_G_claim : m_cw k_G_claim 1 2 := ⟨by decide +kernel, rfl, rfl⟩
set_option maxRecDepth 20000 in
theorem q_G_claim (as : List Value) : m_rank k_G_claim as = 3 := rfl
abbrev k_M_unrest : Nat := 56
set_option maxRecDepth 20000 in
theorem r_M_unrest : m_ins.getD k_M_unrest [] = m_i56 := rfl
set_option maxRecDepth 20000 in
theorem w_M_unrest : m_cw k_M_unrest 7 11 := ⟨by decide +kernel, rfl, rfl⟩
set_option maxRecDepth 20000 in
theorem q_M_unrest (as : List Value) : m_rank k_M_unrest as = 5 := rfl
abbrev k_M_wouldGo : Nat := 57
set_option maxRecDepth 20000 in
theorem r_M_wouldGo : m_ins.getD k_M_wouldGo [] = m_i57 := rfl
set_option maxRecDepth 20000 in
theorem w_M_wouldGo : m_cw k_M_wouldGo 2 3 := ⟨by decide +kernel, rfl, rfl⟩
set_option maxRecDepth 20000 in
theorem q_M_wouldGo (as : List Value) : m_rank k_M_wouldGo as = 4 := rfl
abbrev k_M_isTaken : Nat := 58
set_option maxRecDepth 20000 in
theorem r_M_isTaken : m_ins.getD k_M_isTaken [] = m_i58 := rfl
set_option maxRecDepth 20000 in
theorem w_M_isTaken : m_cw k_M_isTaken 3 4 := ⟨by decide +kernel, rfl, rfl⟩
set_option maxRecDepth 20000 in
theorem q_M_isTaken (as : List Value) : m_rank k_M_isTaken as = 2 := rfl
abbrev k_G_unrest : Nat := 59
set_option maxRecDepth 20000 in
theorem r_G_unrest : m_ins.getD k_G_unrest [] = m_i59 := rfl
set_option maxRecDepth 20000 in
theorem w_G_unrest : m_cw k_G_unrest 7 9 := ⟨by decide +kernel, rfl, rfl⟩
set_option maxRecDepth 20000 in
theorem q_G_unrest (as : List Value) : m_rank k_G_unrest as = 5 := rfl
abbrev k_Weddings_restless : Nat := 60
set_option maxRecDepth 20000 in
theorem r_Weddings_restless : m_ins.getD k_Weddings_restless [] = m_i60 := rfl
set_option maxRecDepth 20000 in
theorem w_Weddings_restless : m_cw k_Weddings_restless 2 7 := ⟨by decide +kernel, rfl, rfl⟩
set_option maxRecDepth 20000 in
theorem q_Weddings_restless (as : List Value) : m_rank k_Weddings_restless as = 4 := rfl
abbrev k_Weddings_takes : Nat := 61
set_option maxRecDepth 20000 in
theorem r_Weddings_takes : m_ins.getD k_Weddings_takes [] = m_i61 := rfl
set_option maxRecDepth 20000 in
theorem w_Weddings_takes : m_cw k_Weddings_takes 4 6 := ⟨by decide +kernel, rfl, rfl⟩
set_option maxRecDepth 20000 in
theorem q_Weddings_takes (as : List Value) : m_rank k_Weddings_takes as = 2 := rfl
abbrev k_M_weds : Nat := 62
set_option maxRecDepth 20000 in
theorem r_M_weds : m_ins.getD k_M_weds [] = m_i62 := rfl
set_option maxRecDepth 20000 in
theorem w_M_weds : m_cw k_M_weds 2 3 := ⟨by decide +kernel, rfl, rfl⟩
set_option maxRecDepth 20000 in
theorem q_M_weds (as : List Value) : m_rank k_M_weds as = 7 := rfl
abbrev k_M_wed : Nat := 63
set_option maxRecDepth 20000 in
theorem r_M_wed : m_ins.getD k_M_wed [] = m_i63 := rfl
set_option maxRecDepth 20000 in
theorem w_M_wed : m_cw k_M_wed 1 3 := ⟨by decide +kernel, rfl, rfl⟩
set_option maxRecDepth 20000 in
theorem q_M_wed (as : List Value) : m_rank k_M_wed as = 6 := rfl
abbrev k_M_askOn : Nat := 64
set_option maxRecDepth 20000 in
theorem r_M_askOn : m_ins.getD k_M_askOn [] = m_i64 := rfl
set_option maxRecDepth 20000 in
theorem w_M_askOn : m_cw k_M_askOn 2 6 := ⟨by decide +kernel, rfl, rfl⟩
set_option maxRecDepth 20000 in
theorem q_M_askOn (as : List Value) : m_rank k_M_askOn as = 5 := rfl
abbrev k_M_nextOf : Nat := 65
set_option maxRecDepth 20000 in
theorem r_M_nextOf : m_ins.getD k_M_nextOf [] = m_i65 := rfl
set_option maxRecDepth 20000 in
theorem w_M_nextOf : m_cw k_M_nextOf 3 6 := ⟨by decide +kernel, rfl, rfl⟩
set_option maxRecDepth 20000 in
theorem q_M_nextOf (as : List Value) : m_rank k_M_nextOf as = 4 := rfl
abbrev k_M_isRather : Nat := 66
set_option maxRecDepth 20000 in
theorem r_M_isRather : m_ins.getD k_M_isRather [] = m_i66 := rfl
set_option maxRecDepth 20000 in
theorem w_M_isRather : m_cw k_M_isRather 3 5 := ⟨by decide +kernel, rfl, rfl⟩
set_option maxRecDepth 20000 in
theorem q_M_isRather (as : List Value) : m_rank k_M_isRather as = 3 := rfl
abbrev k_M_apart : Nat := 67
set_option maxRecDepth 20000 in
theorem r_M_apart : m_ins.getD k_M_apart [] = m_i67 := rfl
set_option maxRecDepth 20000 in
theorem w_M_apart : m_cw k_M_apart 2 3 := ⟨by decide +kernel, rfl, rfl⟩
set_option maxRecDepth 20000 in
theorem q_M_apart (as : List Value) : m_rank k_M_apart as = 2 := rfl
abbrev k_M_canWed : Nat := 68
set_option maxRecDepth 20000 in
theorem r_M_canWed : m_ins.getD k_M_canWed [] = m_i68 := rfl
set_option maxRecDepth 20000 in
theorem w_M_canWed : m_cw k_M_canWed 1 2 := ⟨by decide +kernel, rfl, rfl⟩
set_option maxRecDepth 20000 in
theorem q_M_canWed (as : List Value) : m_rank k_M_canWed as = 2 := rfl
abbrev k_G_weds : Nat := 69
set_option maxRecDepth 20000 in
theorem r_G_weds : m_ins.getD k_G_weds [] = m_i69 := rfl
set_option maxRecDepth 20000 in
theorem w_G_weds : m_cw k_G_weds 2 3 := ⟨by decide +kernel, rfl, rfl⟩
set_option maxRecDepth 20000 in
theorem q_G_weds (as : List Value) : m_rank k_G_weds as = 6 := rfl
abbrev k_Weddings_wedAll : Nat := 70
set_option maxRecDepth 20000 in
theorem r_Weddings_wedAll : m_ins.getD k_Weddings_wedAll [] = m_i70 := rfl
set_option maxRecDepth 20000 in
theorem w_Weddings_wedAll : m_cw k_Weddings_wedAll 2 6 := ⟨by decide +kernel, rfl, rfl⟩
set_option maxRecDepth 20000 in
theorem q_Weddings_wedAll (as : List Value) : m_rank k_Weddings_wedAll as = 5 := rfl
abbrev k_Weddings_asksOn : Nat := 71
set_option maxRecDepth 20000 in
theorem r_Weddings_asksOn : m_ins.getD k_Weddings_asksOn [] = m_i71 := rfl
set_option maxRecDepth 20000 in
theorem w_Weddings_asksOn : m_cw k_Weddings_asksOn 3 5 := ⟨by decide +kernel, rfl, rfl⟩
set_option maxRecDepth 20000 in
theorem q_Weddings_asksOn (as : List Value) : m_rank k_Weddings_asksOn as = 4 := rfl
abbrev k_Weddings_part : Nat := 72
set_option maxRecDepth 20000 in
theorem r_Weddings_part : m_ins.getD k_Weddings_part [] = m_i72 := rfl
set_option maxRecDepth 20000 in
theorem w_Weddings_part : m_cw k_Weddings_part 1 3 := ⟨by decide +kernel, rfl, rfl⟩
set_option maxRecDepth 20000 in
theorem q_Weddings_part (as : List Value) : m_rank k_Weddings_part as = 2 := rfl
abbrev k_Weddings_wouldRather : Nat := 73
set_option maxRecDepth 20000 in
theorem r_Weddings_wouldRather : m_ins.getD k_Weddings_wouldRather [] = m_i73 := rfl
set_option maxRecDepth 20000 in
theorem w_Weddings_wouldRather : m_cw k_Weddings_wouldRather 3 5 := ⟨by decide +kernel, rfl, rfl⟩
set_option maxRecDepth 20000 in
theorem q_Weddings_wouldRather (as : List Value) : m_rank k_Weddings_wouldRather as = 3 := rfl
abbrev k_Weddings_nextToAsk : Nat := 74
set_option maxRecDepth 20000 in
theorem r_Weddings_nextToAsk : m_ins.getD k_Weddings_nextToAsk [] = m_i74 := rfl
set_option maxRecDepth 20000 in
theorem w_Weddings_nextToAsk : m_cw k_Weddings_nextToAsk 3 7 := ⟨by decide +kernel, rfl, rfl⟩
set_option maxRecDepth 20000 in
theorem q_Weddings_nextToAsk (as : List Value) : m_rank k_Weddings_nextToAsk as = 3 := rfl
abbrev k_Weddings_isAhead : Nat := 75
set_option maxRecDepth 20000 in
theorem r_Weddings_isAhead : m_ins.getD k_Weddings_isAhead [] = m_i75 := rfl
set_option maxRecDepth 20000 in
theorem w_Weddings_isAhead : m_cw k_Weddings_isAhead 4 6 := ⟨by decide +kernel, rfl, rfl⟩
set_option maxRecDepth 20000 in
theorem q_Weddings_isAhead (as : List Value) : m_rank k_Weddings_isAhead as = 2 := rfl
abbrev k_Weddings_mateOf : Nat := 76
set_option maxRecDepth 20000 in
theorem r_Weddings_mateOf : m_ins.getD k_Weddings_mateOf [] = m_i76 := rfl
set_option maxRecDepth 20000 in
theorem w_Weddings_mateOf : m_cw k_Weddings_mateOf 1 2 := ⟨by decide +kernel, rfl, rfl⟩
set_option maxRecDepth 20000 in
theorem q_Weddings_mateOf (as : List Value) : m_rank k_Weddings_mateOf as = 1 := rfl
abbrev k_Weddings_leaveAll : Nat := 77
set_option maxRecDepth 20000 in
theorem r_Weddings_leaveAll : m_ins.getD k_Weddings_leaveAll [] = m_i77 := rfl
set_option maxRecDepth 20000 in
theorem w_Weddings_leaveAll : m_cw k_Weddings_leaveAll 0 2 := ⟨by decide +kernel, rfl, rfl⟩
set_option maxRecDepth 20000 in
theorem q_Weddings_leaveAll (as : List Value) : m_rank k_Weddings_leaveAll as = 1 := rfl
abbrev k_G_canWed : Nat := 78
set_option maxRecDepth 20000 in
theorem r_G_canWed : m_ins.getD k_G_canWed [] = m_i78 := rfl
set_option maxRecDepth 20000 in
theorem w_G_canWed : m_cw k_G_canWed 1 2 := ⟨by decide +kernel, rfl, rfl⟩
set_option maxRecDepth 20000 in
theorem q_G_canWed (as : List Value) : m_rank k_G_canWed as = 2 := rfl
abbrev k_M_tries : Nat := 79
set_option maxRecDepth 20000 in
theorem r_M_tries : m_ins.getD k_M_tries [] = m_i79 := rfl
set_option maxRecDepth 20000 in
theorem w_M_tries : m_cw k_M_tries 2 3 := ⟨by decide +kernel, rfl, rfl⟩
set_option maxRecDepth 20000 in
theorem q_M_tries (as : List Value) : m_rank k_M_tries as = 3 := rfl
abbrev k_M_layTries : Nat := 80
set_option maxRecDepth 20000 in
theorem r_M_layTries : m_ins.getD k_M_layTries [] = m_i80 := rfl
set_option maxRecDepth 20000 in
theorem w_M_layTries : m_cw k_M_layTries 1 6 := ⟨by decide +kernel, rfl, rfl⟩
set_option maxRecDepth 20000 in
theorem q_M_layTries (as : List Value) : m_rank k_M_layTries as = 2 := rfl
abbrev k_M_bits : Nat := 81
set_option maxRecDepth 20000 in
theorem r_M_bits : m_ins.getD k_M_bits [] = m_i81 := rfl
set_option maxRecDepth 20000 in
theorem w_M_bits : m_cw k_M_bits 1 3 := ⟨by decide +kernel, rfl, rfl⟩
set_option maxRecDepth 20000 in
theorem q_M_bits (as : List Value) : m_rank k_M_bits as = 1 := rfl
abbrev k_G_tries : Nat := 82
set_option maxRecDepth 20000 in
theorem r_G_tries : m_ins.getD k_G_tries [] = m_i82 := rfl
set_option maxRecDepth 20000 in
theorem w_G_tries : m_cw k_G_tries 2 5 := ⟨by decide +kernel, rfl, rfl⟩
set_option maxRecDepth 20000 in
theorem q_G_tries (as : List Value) : m_rank k_G_tries as = 4 := rfl
abbrev k_Puzzles_fewestTries : Nat := 83
set_option maxRecDepth 20000 in
theorem r_Puzzles_fewestTries : m_ins.getD k_Puzzles_fewestTries [] = m_i83 := rfl
set_option maxRecDepth 20000 in
theorem w_Puzzles_fewestTries : m_cw k_Puzzles_fewestTries 2 5 := ⟨by decide +kernel, rfl, rfl⟩
set_option maxRecDepth 20000 in
theorem q_Puzzles_fewestTries (as : List Value) : m_rank k_Puzzles_fewestTries as = 3 := rfl
abbrev k_Puzzles_triesOf : Nat := 84
set_option maxRecDepth 20000 in
theorem r_Puzzles_triesOf : m_ins.getD k_Puzzles_triesOf [] = m_i84 := rfl
set_option maxRecDepth 20000 in
theorem w_Puzzles_triesOf : m_cw k_Puzzles_triesOf 2 8 := ⟨by decide +kernel, rfl, rfl⟩
set_option maxRecDepth 20000 in
theorem q_Puzzles_triesOf (as : List Value) : m_rank k_Puzzles_triesOf as = 2 := rfl
abbrev k_Puzzles_triesKnown : Nat := 85
set_option maxRecDepth 20000 in
theorem r_Puzzles_triesKnown : m_ins.getD k_Puzzles_triesKnown [] = m_i85 := rfl
set_option maxRecDepth 20000 in
theorem w_Puzzles_triesKnown : m_cw k_Puzzles_triesKnown 1 2 := ⟨by decide +kernel, rfl, rfl⟩
set_option maxRecDepth 20000 in
theorem q_Puzzles_triesKnown (as : List Value) : m_rank k_Puzzles_triesKnown as = 1 := rfl
abbrev k_Integer_bitCount : Nat := 86
set_option maxRecDepth 20000 in
theorem r_Integer_bitCount : m_ins.getD k_Integer_bitCount [] = m_i86 := rfl
set_option maxRecDepth 20000 in
theorem w_Integer_bitCount : m_cw k_Integer_bitCount 1 1 := ⟨by decide +kernel, rfl, rfl⟩
set_option maxRecDepth 20000 in
theorem q_Integer_bitCount (as : List Value) : m_rank k_Integer_bitCount as = 1 := rfl
abbrev k_M_test : Nat := 87
set_option maxRecDepth 20000 in
theorem r_M_test : m_ins.getD k_M_test [] = m_i87 := rfl
set_option maxRecDepth 20000 in
theorem w_M_test : m_cw k_M_test 1 2 := ⟨by decide +kernel, rfl, rfl⟩
set_option maxRecDepth 20000 in
theorem q_M_test (as : List Value) : m_rank k_M_test as = 2 := rfl
abbrev k_G_test : Nat := 88
set_option maxRecDepth 20000 in
theorem r_G_test : m_ins.getD k_G_test [] = m_i88 := rfl
set_option maxRecDepth 20000 in
theorem w_G_test : m_cw k_G_test 1 2 := ⟨by decide +kernel, rfl, rfl⟩
set_option maxRecDepth 20000 in
theorem q_G_test (as : List Value) : m_rank k_G_test as = 3 := rfl
abbrev k_G_toldInto : Nat := 89
set_option maxRecDepth 20000 in
theorem r_G_toldInto : m_ins.getD k_G_toldInto [] = m_i89 := rfl
set_option maxRecDepth 20000 in
theorem w_G_toldInto : m_cw k_G_toldInto 3 3 := ⟨by decide +kernel, rfl, rfl⟩
set_option maxRecDepth 20000 in
theorem q_G_toldInto (as : List Value) : m_rank k_G_toldInto as = 2 := rfl
abbrev k_M_whose : Nat := 90
set_option maxRecDepth 20000 in
theorem r_M_whose : m_ins.getD k_M_whose [] = m_i90 := rfl
set_option maxRecDepth 20000 in
theorem w_M_whose : m_cw k_M_whose 2 5 := ⟨by decide +kernel, rfl, rfl⟩
set_option maxRecDepth 20000 in
theorem q_M_whose (as : List Value) : m_rank k_M_whose as = 2 := rfl
abbrev k_M_off : Nat := 91
set_option maxRecDepth 20000 in
theorem r_M_off : m_ins.getD k_M_off [] = m_i91 := rfl
set_option maxRecDepth 20000 in
theorem w_M_off : m_cw k_M_off 1 1 := ⟨by decide +kernel, rfl, rfl⟩
set_option maxRecDepth 20000 in
theorem q_M_off (as : List Value) : m_rank k_M_off as = 1 := rfl
abbrev k_G_whose : Nat := 92
set_option maxRecDepth 20000 in
theorem r_G_whose : m_ins.getD k_G_whose [] = m_i92 := rfl
set_option maxRecDepth 20000 in
theorem w_G_whose : m_cw k_G_whose 2 3 := ⟨by decide +kernel, rfl, rfl⟩
set_option maxRecDepth 20000 in
theorem q_G_whose (as : List Value) : m_rank k_G_whose as = 4 := rfl
abbrev k_World_whomFits : Nat := 93
set_option maxRecDepth 20000 in
theorem r_World_whomFits : m_ins.getD k_World_whomFits [] = m_i93 := rfl
set_option maxRecDepth 20000 in
theorem w_World_whomFits : m_cw k_World_whomFits 2 5 := ⟨by decide +kernel, rfl, rfl⟩
set_option maxRecDepth 20000 in
theorem q_World_whomFits (as : List Value) : m_rank k_World_whomFits as = 3 := rfl
abbrev k_World_fits : Nat := 94
set_option maxRecDepth 20000 in
theorem r_World_fits : m_ins.getD k_World_fits [] = m_i94 := rfl
set_option maxRecDepth 20000 in
theorem w_World_fits : m_cw k_World_fits 3 4 := ⟨by decide +kernel, rfl, rfl⟩
set_option maxRecDepth 20000 in
theorem q_World_fits (as : List Value) : m_rank k_World_fits as = 2 := rfl
abbrev k_M_order : Nat := 95
set_option maxRecDepth 20000 in
theorem r_M_order : m_ins.getD k_M_order [] = m_i95 := rfl
set_option maxRecDepth 20000 in
theorem w_M_order : m_cw k_M_order 2 7 := ⟨by decide +kernel, rfl, rfl⟩
set_option maxRecDepth 20000 in
theorem q_M_order (as : List Value) : m_rank k_M_order as = 4 := rfl
abbrev k_M_layDuties : Nat := 96
set_option maxRecDepth 20000 in
theorem r_M_layDuties : m_ins.getD k_M_layDuties [] = m_i96 := rfl
set_option maxRecDepth 20000 in
theorem w_M_layDuties : m_cw k_M_layDuties 1 5 := ⟨by decide +kernel, rfl, rfl⟩
set_option maxRecDepth 20000 in
theorem q_M_layDuties (as : List Value) : m_rank k_M_layDuties as = 3 := rfl
abbrev k_M_isSooner : Nat := 97
set_option maxRecDepth 20000 in
theorem r_M_isSooner : m_ins.getD k_M_isSooner [] = m_i97 := rfl
set_option maxRecDepth 20000 in
theorem w_M_isSooner : m_cw k_M_isSooner 2 4 := ⟨by decide +kernel, rfl, rfl⟩
set_option maxRecDepth 20000 in
theorem q_M_isSooner (as : List Value) : m_rank k_M_isSooner as = 2 := rfl
abbrev k_G_order : Nat := 98
set_option maxRecDepth 20000 in
theorem r_G_order : m_ins.getD k_G_order [] = m_i98 := rfl
set_option maxRecDepth 20000 in
theorem w_G_order : m_cw k_G_order 2 3 := ⟨by decide +kernel, rfl, rfl⟩
set_option maxRecDepth 20000 in
theorem q_G_order (as : List Value) : m_rank k_G_order as = 5 := rfl
abbrev k_Duties_cost : Nat := 99
set_option maxRecDepth 20000 in
theorem r_Duties_cost : m_ins.getD k_Duties_cost [] = m_i99 := rfl
set_option maxRecDepth 20000 in
theorem w_Duties_cost : m_cw k_Duties_cost 2 6 := ⟨by decide +kernel, rfl, rfl⟩
set_option maxRecDepth 20000 in
theorem q_Duties_cost (as : List Value) : m_rank k_Duties_cost as = 2 := rfl
abbrev k_Duties_arrange : Nat := 100
set_option maxRecDepth 20000 in
theorem r_Duties_arrange : m_ins.getD k_Duties_arrange [] = m_i100 := rfl
set_option maxRecDepth 20000 in
theorem w_Duties_arrange : m_cw k_Duties_arrange 3 5 := ⟨by decide +kernel, rfl, rfl⟩
set_option maxRecDepth 20000 in
theorem q_Duties_arrange (as : List Value) : m_rank k_Duties_arrange as = 4 := rfl
abbrev k_Duties_arrangeIn : Nat := 101
set_option maxRecDepth 20000 in
theorem r_Duties_arrangeIn : m_ins.getD k_Duties_arrangeIn [] = m_i101 := rfl
set_option maxRecDepth 20000 in
theorem w_Duties_arrangeIn : m_cw k_Duties_arrangeIn 3 5 := ⟨by decide +kernel, rfl, rfl⟩
set_option maxRecDepth 20000 in
theorem q_Duties_arrangeIn (as : List Value) : m_rank k_Duties_arrangeIn as = 3 := rfl
abbrev k_Duties_isDearer : Nat := 102
set_option maxRecDepth 20000 in
theorem r_Duties_isDearer : m_ins.getD k_Duties_isDearer [] = m_i102 := rfl
set_option maxRecDepth 20000 in
theorem w_Duties_isDearer : m_cw k_Duties_isDearer 4 4 := ⟨by decide +kernel, rfl, rfl⟩
set_option maxRecDepth 20000 in
theorem q_Duties_isDearer (as : List Value) : m_rank k_Duties_isDearer as = 2 := rfl
abbrev k_Row_itemAt : Nat := 103
set_option maxRecDepth 20000 in
theorem r_Row_itemAt : m_ins.getD k_Row_itemAt [] = m_i103 := rfl
set_option maxRecDepth 20000 in
theorem w_Row_itemAt : m_cw k_Row_itemAt 1 2 := ⟨by decide +kernel, rfl, rfl⟩
set_option maxRecDepth 20000 in
theorem q_Row_itemAt (as : List Value) : m_rank k_Row_itemAt as = 1 := rfl
abbrev k_Row_empty : Nat := 104
set_option maxRecDepth 20000 in
theorem r_Row_empty : m_ins.getD k_Row_empty [] = m_i104 := rfl
set_option maxRecDepth 20000 in
theorem w_Row_empty : m_cw k_Row_empty 0 1 := ⟨by decide +kernel, rfl, rfl⟩
set_option maxRecDepth 20000 in
theorem q_Row_empty (as : List Value) : m_rank k_Row_empty as = 1 := rfl
abbrev k_M_price : Nat := 105
set_option maxRecDepth 20000 in
theorem r_M_price : m_ins.getD k_M_price [] = m_i105 := rfl
set_option maxRecDepth 20000 in
theorem w_M_price : m_cw k_M_price 2 3 := ⟨by decide +kernel, rfl, rfl⟩
set_option maxRecDepth 20000 in
theorem q_M_price (as : List Value) : m_rank k_M_price as = 2 := rfl
abbrev k_G_price : Nat := 106
set_option maxRecDepth 20000 in
theorem r_G_price : m_ins.getD k_G_price [] = m_i106 := rfl
set_option maxRecDepth 20000 in
theorem w_G_price : m_cw k_G_price 2 3 := ⟨by decide +kernel, rfl, rfl⟩
set_option maxRecDepth 20000 in
theorem q_G_price (as : List Value) : m_rank k_G_price as = 2 := rfl
abbrev k_Row_change : Nat := 107
set_option maxRecDepth 20000 in
theorem r_Row_change : m_ins.getD k_Row_change [] = m_i107 := rfl
set_option maxRecDepth 20000 in
theorem w_Row_change : m_cw k_Row_change 2 3 := ⟨by decide +kernel, rfl, rfl⟩
set_option maxRecDepth 20000 in
theorem q_Row_change (as : List Value) : m_rank k_Row_change as = 1 := rfl
abbrev k_M_free : Nat := 108
set_option maxRecDepth 20000 in
theorem r_M_free : m_ins.getD k_M_free [] = m_i108 := rfl
set_option maxRecDepth 20000 in
theorem w_M_free : m_cw k_M_free 0 3 := ⟨by decide +kernel, rfl, rfl⟩
set_option maxRecDepth 20000 in
theorem q_M_free (as : List Value) : m_rank k_M_free as = 4 := rfl
abbrev k_G_free : Nat := 109
set_option maxRecDepth 20000 in
theorem r_G_free : m_ins.getD k_G_free [] = m_i109 := rfl
set_option maxRecDepth 20000 in
theorem w_G_free : m_cw k_G_free 0 3 := ⟨by decide +kernel, rfl, rfl⟩
set_option maxRecDepth 20000 in
theorem q_G_free (as : List Value) : m_rank k_G_free as = 2 := rfl
abbrev k_M_firstFine : Nat := 110
set_option maxRecDepth 20000 in
theorem r_M_firstFine : m_ins.getD k_M_firstFine [] = m_i110 := rfl
set_option maxRecDepth 20000 in
theorem w_M_firstFine : m_cw k_M_firstFine 1 4 := ⟨by decide +kernel, rfl, rfl⟩
set_option maxRecDepth 20000 in
theorem q_M_firstFine (as : List Value) : m_rank k_M_firstFine as = 9 := rfl
abbrev k_G_firstFine : Nat := 111
set_option maxRecDepth 20000 in
theorem r_G_firstFine : m_ins.getD k_G_firstFine [] = m_i111 := rfl
set_option maxRecDepth 20000 in
theorem w_G_firstFine : m_cw k_G_firstFine 1 4 := ⟨by decide +kernel, rfl, rfl⟩
set_option maxRecDepth 20000 in
theorem q_G_firstFine (as : List Value) : m_rank k_G_firstFine as = 7 := rfl
abbrev k_M_foretold : Nat := 112
set_option maxRecDepth 20000 in
theorem r_M_foretold : m_ins.getD k_M_foretold [] = m_i112 := rfl
set_option maxRecDepth 20000 in
theorem w_M_foretold : m_cw k_M_foretold 3 5 := ⟨by decide +kernel, rfl, rfl⟩
set_option maxRecDepth 20000 in
theorem q_M_foretold (as : List Value) : m_rank k_M_foretold as = 9 := rfl
abbrev k_M_putBack : Nat := 113
set_option maxRecDepth 20000 in
theorem r_M_putBack : m_ins.getD k_M_putBack [] = m_i113 := rfl
set_option maxRecDepth 20000 in
theorem w_M_putBack : m_cw k_M_putBack 0 2 := ⟨by decide +kernel, rfl, rfl⟩
set_option maxRecDepth 20000 in
theorem q_M_putBack (as : List Value) : m_rank k_M_putBack as = 1 := rfl
abbrev k_M_setAside : Nat := 114
set_option maxRecDepth 20000 in
theorem r_M_setAside : m_ins.getD k_M_setAside [] = m_i114 := rfl
set_option maxRecDepth 20000 in
theorem w_M_setAside : m_cw k_M_setAside 0 2 := ⟨by decide +kernel, rfl, rfl⟩
set_option maxRecDepth 20000 in
theorem q_M_setAside (as : List Value) : m_rank k_M_setAside as = 1 := rfl
abbrev k_G_foretold : Nat := 115
set_option maxRecDepth 20000 in
theorem r_G_foretold : m_ins.getD k_G_foretold [] = m_i115 := rfl
set_option maxRecDepth 20000 in
theorem w_G_foretold : m_cw k_G_foretold 3 6 := ⟨by decide +kernel, rfl, rfl⟩
set_option maxRecDepth 20000 in
theorem q_G_foretold (as : List Value) : m_rank k_G_foretold as = 7 := rfl
abbrev k_World_takeOver : Nat := 116
set_option maxRecDepth 20000 in
theorem r_World_takeOver : m_ins.getD k_World_takeOver [] = m_i116 := rfl
set_option maxRecDepth 20000 in
theorem w_World_takeOver : m_cw k_World_takeOver 1 2 := ⟨by decide +kernel, rfl, rfl⟩
set_option maxRecDepth 20000 in
theorem q_World_takeOver (as : List Value) : m_rank k_World_takeOver as = 1 := rfl
abbrev k_M_book : Nat := 117
set_option maxRecDepth 20000 in
theorem r_M_book : m_ins.getD k_M_book [] = m_i117 := rfl
set_option maxRecDepth 20000 in
theorem w_M_book : m_cw k_M_book 2 3 := ⟨by decide +kernel, rfl, rfl⟩
set_option maxRecDepth 20000 in
theorem q_M_book (as : List Value) : m_rank k_M_book as = 3 := rfl
abbrev k_M_entry : Nat := 118
set_option maxRecDepth 20000 in
theorem r_M_entry : m_ins.getD k_M_entry [] = m_i118 := rfl
set_option maxRecDepth 20000 in
theorem w_M_entry : m_cw k_M_entry 2 4 := ⟨by decide +kernel, rfl, rfl⟩
set_option maxRecDepth 20000 in
theorem q_M_entry (as : List Value) : m_rank k_M_entry as = 2 := rfl
abbrev k_M_shown : Nat := 119
set_option maxRecDepth 20000 in
theorem r_M_shown : m_ins.getD k_M_shown [] = m_i119 := rfl
set_option maxRecDepth 20000 in
theorem w_M_shown : m_cw k_M_shown 0 1 := ⟨by decide +kernel, rfl, rfl⟩
set_option maxRecDepth 20000 in
theorem q_M_shown (as : List Value) : m_rank k_M_shown as = 1 := rfl
abbrev k_G_book : Nat := 120
set_option maxRecDepth 20000 in
theorem r_G_book : m_ins.getD k_G_book [] = m_i120 := rfl
set_option maxRecDepth 20000 in
theorem w_G_book : m_cw k_G_book 2 3 := ⟨by decide +kernel, rfl, rfl⟩
set_option maxRecDepth 20000 in
theorem q_G_book (as : List Value) : m_rank k_G_book as = 3 := rfl
abbrev k_World_fineCoins : Nat := 121
set_option maxRecDepth 20000 in
theorem r_World_fineCoins : m_ins.getD k_World_fineCoins [] = m_i121 := rfl
set_option maxRecDepth 20000 in
theorem w_World_fineCoins : m_cw k_World_fineCoins 1 2 := ⟨by decide +kernel, rfl, rfl⟩
set_option maxRecDepth 20000 in
theorem q_World_fineCoins (as : List Value) : m_rank k_World_fineCoins as = 2 := rfl
abbrev k_World_fineWho : Nat := 122
set_option maxRecDepth 20000 in
theorem r_World_fineWho : m_ins.getD k_World_fineWho [] = m_i122 := rfl
set_option maxRecDepth 20000 in
theorem w_World_fineWho : m_cw k_World_fineWho 1 2 := ⟨by decide +kernel, rfl, rfl⟩
set_option maxRecDepth 20000 in
theorem q_World_fineWho (as : List Value) : m_rank k_World_fineWho as = 2 := rfl
abbrev k_World_fineDay : Nat := 123
set_option maxRecDepth 20000 in
theorem r_World_fineDay : m_ins.getD k_World_fineDay [] = m_i123 := rfl
set_option maxRecDepth 20000 in
theorem w_World_fineDay : m_cw k_World_fineDay 1 2 := ⟨by decide +kernel, rfl, rfl⟩
set_option maxRecDepth 20000 in
theorem q_World_fineDay (as : List Value) : m_rank k_World_fineDay as = 2 := rfl
abbrev k_World_hasFine : Nat := 124
set_option maxRecDepth 20000 in
theorem r_World_hasFine : m_ins.getD k_World_hasFine [] = m_i124 := rfl
set_option maxRecDepth 20000 in
theorem w_World_hasFine : m_cw k_World_hasFine 1 2 := ⟨by decide +kernel, rfl, rfl⟩
set_option maxRecDepth 20000 in
theorem q_World_hasFine (as : List Value) : m_rank k_World_hasFine as = 1 := rfl
abbrev k_M_is : Nat := 125
set_option maxRecDepth 20000 in
theorem r_M_is : m_ins.getD k_M_is [] = m_i125 := rfl
set_option maxRecDepth 20000 in
theorem w_M_is : m_cw k_M_is 1 2 := ⟨by decide +kernel, rfl, rfl⟩
set_option maxRecDepth 20000 in
theorem q_M_is (as : List Value) : m_rank k_M_is as = 2 := rfl
abbrev k_G_is : Nat := 126
set_option maxRecDepth 20000 in
theorem r_G_is : m_ins.getD k_G_is [] = m_i126 := rfl
set_option maxRecDepth 20000 in
theorem w_G_is : m_cw k_G_is 1 2 := ⟨by decide +kernel, rfl, rfl⟩
set_option maxRecDepth 20000 in
theorem q_G_is (as : List Value) : m_rank k_G_is as = 1 := rfl
abbrev k_M_ofGlove : Nat := 127
set_option maxRecDepth 20000 in
theorem r_M_ofGlove : m_ins.getD k_M_ofGlove [] = m_i127 := rfl
set_option maxRecDepth 20000 in
theorem w_M_ofGlove : m_cw k_M_ofGlove 2 3 := ⟨by decide +kernel, rfl, rfl⟩
set_option maxRecDepth 20000 in
theorem q_M_ofGlove (as : List Value) : m_rank k_M_ofGlove as = 7 := rfl
abbrev k_G_ofGlove : Nat := 128
set_option maxRecDepth 20000 in
theorem r_G_ofGlove : m_ins.getD k_G_ofGlove [] = m_i128 := rfl
set_option maxRecDepth 20000 in
theorem w_G_ofGlove : m_cw k_G_ofGlove 2 3 := ⟨by decide +kernel, rfl, rfl⟩
set_option maxRecDepth 20000 in
theorem q_G_ofGlove (as : List Value) : m_rank k_G_ofGlove as = 6 := rfl
abbrev k_M_of : Nat := 129
set_option maxRecDepth 20000 in
theorem r_M_of : m_ins.getD k_M_of [] = m_i129 := rfl
set_option maxRecDepth 20000 in
theorem w_M_of : m_cw k_M_of 2 3 := ⟨by decide +kernel, rfl, rfl⟩
set_option maxRecDepth 20000 in
theorem q_M_of (as : List Value) : m_rank k_M_of as = 7 := rfl
abbrev k_M_sumOf : Nat := 130
set_option maxRecDepth 20000 in
theorem r_M_sumOf : m_ins.getD k_M_sumOf [] = m_i130 := rfl
set_option maxRecDepth 20000 in
theorem w_M_sumOf : m_cw k_M_sumOf 1 4 := ⟨by decide +kernel, rfl, rfl⟩
set_option maxRecDepth 20000 in
theorem q_M_sumOf (as : List Value) : m_rank k_M_sumOf as = 3 := rfl
abbrev k_G_of : Nat := 131
set_option maxRecDepth 20000 in
theorem r_G_of : m_ins.getD k_G_of [] = m_i131 := rfl
set_option maxRecDepth 20000 in
theorem w_G_of : m_cw k_G_of 2 3 := ⟨by decide +kernel, rfl, rfl⟩
set_option maxRecDepth 20000 in
theorem q_G_of (as : List Value) : m_rank k_G_of as = 6 := rfl
abbrev k_World_balanceOf : Nat := 132
set_option maxRecDepth 20000 in
theorem r_World_balanceOf : m_ins.getD k_World_balanceOf [] = m_i132 := rfl
set_option maxRecDepth 20000 in
theorem w_World_balanceOf : m_cw k_World_balanceOf 1 4 := ⟨by decide +kernel, rfl, rfl⟩
set_option maxRecDepth 20000 in
theorem q_World_balanceOf (as : List Value) : m_rank k_World_balanceOf as = 4 := rfl
abbrev k_M_undo : Nat := 133
set_option maxRecDepth 20000 in
theorem r_M_undo : m_ins.getD k_M_undo [] = m_i133 := rfl
set_option maxRecDepth 20000 in
theorem w_M_undo : m_cw k_M_undo 0 3 := ⟨by decide +kernel, rfl, rfl⟩
set_option maxRecDepth 20000 in
theorem q_M_undo (as : List Value) : m_rank k_M_undo as = 1 := rfl
abbrev k_G_undo : Nat := 134
set_option maxRecDepth 20000 in
theorem r_G_undo : m_ins.getD k_G_undo [] = m_i134 := rfl
set_option maxRecDepth 20000 in
theorem w_G_undo : m_cw k_G_undo 0 1 := ⟨by decide +kernel, rfl, rfl⟩
set_option maxRecDepth 20000 in
theorem q_G_undo (as : List Value) : m_rank k_G_undo as = 3 := rfl
abbrev k_Steps_takeBack : Nat := 135
set_option maxRecDepth 20000 in
theorem r_Steps_takeBack : m_ins.getD k_Steps_takeBack [] = m_i135 := rfl
set_option maxRecDepth 20000 in
theorem w_Steps_takeBack : m_cw k_Steps_takeBack 1 2 := ⟨by decide +kernel, rfl, rfl⟩
set_option maxRecDepth 20000 in
theorem q_Steps_takeBack (as : List Value) : m_rank k_Steps_takeBack as = 2 := rfl
abbrev k_World_takeBack : Nat := 136
set_option maxRecDepth 20000 in
theorem r_World_takeBack : m_ins.getD k_World_takeBack [] = m_i136 := rfl
set_option maxRecDepth 20000 in
theorem w_World_takeBack : m_cw k_World_takeBack 1 4 := ⟨by decide +kernel, rfl, rfl⟩
set_option maxRecDepth 20000 in
theorem q_World_takeBack (as : List Value) : m_rank k_World_takeBack as = 1 := rfl
abbrev k_M_winters : Nat := 137
set_option maxRecDepth 20000 in
theorem r_M_winters : m_ins.getD k_M_winters [] = m_i137 := rfl
set_option maxRecDepth 20000 in
theorem w_M_winters : m_cw k_M_winters 2 5 := ⟨by decide +kernel, rfl, rfl⟩
set_option maxRecDepth 20000 in
theorem q_M_winters (as : List Value) : m_rank k_M_winters as = 10 := rfl
abbrev k_M_happens : Nat := 138
set_option maxRecDepth 20000 in
theorem r_M_happens : m_ins.getD k_M_happens [] = m_i138 := rfl
set_option maxRecDepth 20000 in
theorem w_M_happens : m_cw k_M_happens 1 4 := ⟨by decide +kernel, rfl, rfl⟩
set_option maxRecDepth 20000 in
theorem q_M_happens (as : List Value) : m_rank k_M_happens as = 9 := rfl
abbrev k_G_winters : Nat := 139
set_option maxRecDepth 20000 in
theorem r_G_winters : m_ins.getD k_G_winters [] = m_i139 := rfl
set_option maxRecDepth 20000 in
theorem w_G_winters : m_cw k_G_winters 2 5 := ⟨by decide +kernel, rfl, rfl⟩
set_option maxRecDepth 20000 in
theorem q_G_winters (as : List Value) : m_rank k_G_winters as = 9 := rfl
abbrev k_G_drawDeed : Nat := 140
set_option maxRecDepth 20000 in
theorem r_G_drawDeed : m_ins.getD k_G_drawDeed [] = m_i140 := rfl
set_option maxRecDepth 20000 in
theorem w_G_drawDeed : m_cw k_G_drawDeed 1 5 := ⟨by decide +kernel, rfl, rfl⟩
set_option maxRecDepth 20000 in
theorem q_G_drawDeed (as : List Value) : m_rank k_G_drawDeed as = 8 := rfl
abbrev k_G_drawOnGlove : Nat := 141
set_option maxRecDepth 20000 in
theorem r_G_drawOnGlove : m_ins.getD k_G_drawOnGlove [] = m_i141 := rfl
set_option maxRecDepth 20000 in
theorem w_G_drawOnGlove : m_cw k_G_drawOnGlove 4 5 := ⟨by decide +kernel, rfl, rfl⟩
set_option maxRecDepth 20000 in
theorem q_G_drawOnGlove (as : List Value) : m_rank k_G_drawOnGlove as = 7 := rfl
abbrev k_World_sow : Nat := 142
set_option maxRecDepth 20000 in
theorem r_World_sow : m_ins.getD k_World_sow [] = m_i142 := rfl
set_option maxRecDepth 20000 in
theorem w_World_sow : m_cw k_World_sow 1 2 := ⟨by decide +kernel, rfl, rfl⟩
set_option maxRecDepth 20000 in
theorem q_World_sow (as : List Value) : m_rank k_World_sow as = 1 := rfl
abbrev k_M_played : Nat := 143
set_option maxRecDepth 20000 in
theorem r_M_played : m_ins.getD k_M_played [] = m_i143 := rfl
set_option maxRecDepth 20000 in
theorem w_M_played : m_cw k_M_played 1 3 := ⟨by decide +kernel, rfl, rfl⟩
set_option maxRecDepth 20000 in
theorem q_M_played (as : List Value) : m_rank k_M_played as = 11 := rfl
abbrev k_M_isPlayed : Nat := 144
set_option maxRecDepth 20000 in
theorem r_M_isPlayed : m_ins.getD k_M_isPlayed [] = m_i144 := rfl
set_option maxRecDepth 20000 in
theorem w_M_isPlayed : m_cw k_M_isPlayed 1 4 := ⟨by decide +kernel, rfl, rfl⟩
set_option maxRecDepth 20000 in
theorem q_M_isPlayed (as : List Value) : m_rank k_M_isPlayed as = 10 := rfl
abbrev k_G_played : Nat := 145
set_option maxRecDepth 20000 in
theorem r_G_played : m_ins.getD k_G_played [] = m_i145 := rfl
set_option maxRecDepth 20000 in
theorem w_G_played : m_cw k_G_played 1 4 := ⟨by decide +kernel, rfl, rfl⟩
set_option maxRecDepth 20000 in
theorem q_G_played (as : List Value) : m_rank k_G_played as = 9 := rfl
abbrev k_G_isDone : Nat := 146
set_option maxRecDepth 20000 in
theorem r_G_isDone : m_ins.getD k_G_isDone [] = m_i146 := rfl
set_option maxRecDepth 20000 in
theorem w_G_isDone : m_cw k_G_isDone 2 5 := ⟨by decide +kernel, rfl, rfl⟩
set_option maxRecDepth 20000 in
theorem q_G_isDone (as : List Value) : m_rank k_G_isDone as = 8 := rfl
abbrev k_Script_kindAt : Nat := 147
set_option maxRecDepth 20000 in
theorem r_Script_kindAt : m_ins.getD k_Script_kindAt [] = m_i147 := rfl
set_option maxRecDepth 20000 in
theorem w_Script_kindAt : m_cw k_Script_kindAt 1 2 := ⟨by decide +kernel, rfl, rfl⟩
set_option maxRecDepth 20000 in
theorem q_Script_kindAt (as : List Value) : m_rank k_Script_kindAt as = 2 := rfl
abbrev k_Script_numberAt : Nat := 148
set_option maxRecDepth 20000 in
theorem r_Script_numberAt : m_ins.getD k_Script_numberAt [] = m_i148 := rfl
set_option maxRecDepth 20000 in
theorem w_Script_numberAt : m_cw k_Script_numberAt 2 4 := ⟨by decide +kernel, rfl, rfl⟩
set_option maxRecDepth 20000 in
theorem q_Script_numberAt (as : List Value) : m_rank k_Script_numberAt as = 3 := rfl
abbrev k_M_day : Nat := 149
set_option maxRecDepth 20000 in
theorem r_M_day : m_ins.getD k_M_day [] = m_i149 := rfl
set_option maxRecDepth 20000 in
theorem w_M_day : m_cw k_M_day 1 2 := ⟨by decide +kernel, rfl, rfl⟩
set_option maxRecDepth 20000 in
theorem q_M_day (as : List Value) : m_rank k_M_day as = 10 := rfl
abbrev k_M_arePassed : Nat := 150
set_option maxRecDepth 20000 in
theorem r_M_arePassed : m_ins.getD k_M_arePassed [] = m_i150 := rfl
set_option maxRecDepth 20000 in
theorem w_M_arePassed : m_cw k_M_arePassed 1 3 := ⟨by decide +kernel, rfl, rfl⟩
set_option maxRecDepth 20000 in
theorem q_M_arePassed (as : List Value) : m_rank k_M_arePassed as = 9 := rfl
abbrev k_M_goOn : Nat := 151
set_option maxRecDepth 20000 in
theorem r_M_goOn : m_ins.getD k_M_goOn [] = m_i151 := rfl
set_option maxRecDepth 20000 in
theorem w_M_goOn : m_cw k_M_goOn 0 2 := ⟨by decide +kernel, rfl, rfl⟩
set_option maxRecDepth 20000 in
theorem q_M_goOn (as : List Value) : m_rank k_M_goOn as = 8 := rfl
abbrev k_M_anew : Nat := 152
set_option maxRecDepth 20000 in
theorem r_M_anew : m_ins.getD k_M_anew [] = m_i152 := rfl
set_option maxRecDepth 20000 in
theorem w_M_anew : m_cw k_M_anew 0 1 := ⟨by decide +kernel, rfl, rfl⟩
set_option maxRecDepth 20000 in
theorem q_M_anew (as : List Value) : m_rank k_M_anew as = 1 := rfl
abbrev k_M_growsOf : Nat := 153
set_option maxRecDepth 20000 in
theorem r_M_growsOf : m_ins.getD k_M_growsOf [] = m_i153 := rfl
set_option maxRecDepth 20000 in
theorem w_M_growsOf : m_cw k_M_growsOf 2 3 := ⟨by decide +kernel, rfl, rfl⟩
set_option maxRecDepth 20000 in
theorem q_M_growsOf (as : List Value) : m_rank k_M_growsOf as = 6 := rfl
abbrev k_M_live : Nat := 154
set_option maxRecDepth 20000 in
theorem r_M_live : m_ins.getD k_M_live [] = m_i154 := rfl
set_option maxRecDepth 20000 in
theorem w_M_live : m_cw k_M_live 1 2 := ⟨by decide +kernel, rfl, rfl⟩
set_option maxRecDepth 20000 in
theorem q_M_live (as : List Value) : m_rank k_M_live as = 7 := rfl
abbrev k_M_fineOf : Nat := 155
set_option maxRecDepth 20000 in
theorem r_M_fineOf : m_ins.getD k_M_fineOf [] = m_i155 := rfl
set_option maxRecDepth 20000 in
theorem w_M_fineOf : m_cw k_M_fineOf 1 2 := ⟨by decide +kernel, rfl, rfl⟩
set_option maxRecDepth 20000 in
theorem q_M_fineOf (as : List Value) : m_rank k_M_fineOf as = 6 := rfl
abbrev k_M_chillOf : Nat := 156
set_option maxRecDepth 20000 in
theorem r_M_chillOf : m_ins.getD k_M_chillOf [] = m_i156 := rfl
set_option maxRecDepth 20000 in
theorem w_M_chillOf : m_cw k_M_chillOf 1 2 := ⟨by decide +kernel, rfl, rfl⟩
set_option maxRecDepth 20000 in
theorem q_M_chillOf (as : List Value) : m_rank k_M_chillOf as = 6 := rfl
abbrev k_M_nameOne : Nat := 157
set_option maxRecDepth 20000 in
theorem r_M_nameOne : m_ins.getD k_M_nameOne [] = m_i157 := rfl
set_option maxRecDepth 20000 in
theorem w_M_nameOne : m_cw k_M_nameOne 1 2 := ⟨by decide +kernel, rfl, rfl⟩
set_option maxRecDepth 20000 in
theorem q_M_nameOne (as : List Value) : m_rank k_M_nameOne as = 4 := rfl
abbrev k_M_rightsOf : Nat := 158
set_option maxRecDepth 20000 in
theorem r_M_rightsOf : m_ins.getD k_M_rightsOf [] = m_i158 := rfl
set_option maxRecDepth 20000 in
theorem w_M_rightsOf : m_cw k_M_rightsOf 1 4 := ⟨by decide +kernel, rfl, rfl⟩
set_option maxRecDepth 20000 in
theorem q_M_rightsOf (as : List Value) : m_rank k_M_rightsOf as = 3 := rfl
abbrev k_G_day : Nat := 159
set_option maxRecDepth 20000 in
theorem r_G_day : m_ins.getD k_G_day [] = m_i159 := rfl
set_option maxRecDepth 20000 in
theorem w_G_day : m_cw k_G_day 1 2 := ⟨by decide +kernel, rfl, rfl⟩
set_option maxRecDepth 20000 in
theorem q_G_day (as : List Value) : m_rank k_G_day as = 8 := rfl
abbrev k_G_letDaysPass : Nat := 160
set_option maxRecDepth 20000 in
theorem r_G_letDaysPass : m_ins.getD k_G_letDaysPass [] = m_i160 := rfl
set_option maxRecDepth 20000 in
theorem w_G_letDaysPass : m_cw k_G_letDaysPass 1 3 := ⟨by decide +kernel, rfl, rfl⟩
set_option maxRecDepth 20000 in
theorem q_G_letDaysPass (as : List Value) : m_rank k_G_letDaysPass as = 7 := rfl
abbrev k_Law_passDay : Nat := 161
set_option maxRecDepth 20000 in
theorem r_Law_passDay : m_ins.getD k_Law_passDay [] = m_i161 := rfl
set_option maxRecDepth 20000 in
theorem w_Law_passDay : m_cw k_Law_passDay 2 9 := ⟨by decide +kernel, rfl, rfl⟩
set_option maxRecDepth 20000 in
theorem q_Law_passDay (as : List Value) : m_rank k_Law_passDay as = 6 := rfl
abbrev k_World_draw : Nat := 162
set_option maxRecDepth 20000 in
theorem r_World_draw : m_ins.getD k_World_draw [] = m_i162 := rfl
set_option maxRecDepth 20000 in
theorem w_World_draw : m_cw k_World_draw 0 2 := ⟨by decide +kernel, rfl, rfl⟩
set_option maxRecDepth 20000 in
theorem q_World_draw (as : List Value) : m_rank k_World_draw as = 1 := rfl
abbrev k_World_writeFine : Nat := 163
set_option maxRecDepth 20000 in
theorem r_World_writeFine : m_ins.getD k_World_writeFine [] = m_i163 := rfl
set_option maxRecDepth 20000 in
theorem w_World_writeFine : m_cw k_World_writeFine 2 3 := ⟨by decide +kernel, rfl, rfl⟩
set_option maxRecDepth 20000 in
theorem q_World_writeFine (as : List Value) : m_rank k_World_writeFine as = 2 := rfl
abbrev k_World_dayCanPass : Nat := 164
set_option maxRecDepth 20000 in
theorem r_World_dayCanPass : m_ins.getD k_World_dayCanPass [] = m_i164 := rfl
set_option maxRecDepth 20000 in
theorem w_World_dayCanPass : m_cw k_World_dayCanPass 0 1 := ⟨by decide +kernel, rfl, rfl⟩
set_option maxRecDepth 20000 in
theorem q_World_dayCanPass (as : List Value) : m_rank k_World_dayCanPass as = 1 := rfl
abbrev k_M_redeem : Nat := 165
set_option maxRecDepth 20000 in
theorem r_M_redeem : m_ins.getD k_M_redeem [] = m_i165 := rfl
set_option maxRecDepth 20000 in
theorem w_M_redeem : m_cw k_M_redeem 1 3 := ⟨by decide +kernel, rfl, rfl⟩
set_option maxRecDepth 20000 in
theorem q_M_redeem (as : List Value) : m_rank k_M_redeem as = 7 := rfl
abbrev k_G_redeem : Nat := 166
set_option maxRecDepth 20000 in
theorem r_G_redeem : m_ins.getD k_G_redeem [] = m_i166 := rfl
set_option maxRecDepth 20000 in
theorem w_G_redeem : m_cw k_G_redeem 1 2 := ⟨by decide +kernel, rfl, rfl⟩
set_option maxRecDepth 20000 in
theorem q_G_redeem (as : List Value) : m_rank k_G_redeem as = 7 := rfl
abbrev k_Law_buyBack : Nat := 167
set_option maxRecDepth 20000 in
theorem r_Law_buyBack : m_ins.getD k_Law_buyBack [] = m_i167 := rfl
set_option maxRecDepth 20000 in
theorem w_Law_buyBack : m_cw k_Law_buyBack 3 7 := ⟨by decide +kernel, rfl, rfl⟩
set_option maxRecDepth 20000 in
theorem q_Law_buyBack (as : List Value) : m_rank k_Law_buyBack as = 6 := rfl
abbrev k_M_pledge : Nat := 168
set_option maxRecDepth 20000 in
theorem r_M_pledge : m_ins.getD k_M_pledge [] = m_i168 := rfl
set_option maxRecDepth 20000 in
theorem w_M_pledge : m_cw k_M_pledge 1 2 := ⟨by decide +kernel, rfl, rfl⟩
set_option maxRecDepth 20000 in
theorem q_M_pledge (as : List Value) : m_rank k_M_pledge as = 8 := rfl
abbrev k_M_pledgeNow : Nat := 169
set_option maxRecDepth 20000 in
theorem r_M_pledgeNow : m_ins.getD k_M_pledgeNow [] = m_i169 := rfl
set_option maxRecDepth 20000 in
theorem w_M_pledgeNow : m_cw k_M_pledgeNow 1 3 := ⟨by decide +kernel, rfl, rfl⟩
set_option maxRecDepth 20000 in
theorem q_M_pledgeNow (as : List Value) : m_rank k_M_pledgeNow as = 7 := rfl
abbrev k_M_gain : Nat := 170
set_option maxRecDepth 20000 in
theorem r_M_gain : m_ins.getD k_M_gain [] = m_i170 := rfl
set_option maxRecDepth 20000 in
theorem w_M_gain : m_cw k_M_gain 2 3 := ⟨by decide +kernel, rfl, rfl⟩
set_option maxRecDepth 20000 in
theorem q_M_gain (as : List Value) : m_rank k_M_gain as = 2 := rfl
abbrev k_M_canPledge : Nat := 171
set_option maxRecDepth 20000 in
theorem r_M_canPledge : m_ins.getD k_M_canPledge [] = m_i171 := rfl
set_option maxRecDepth 20000 in
theorem w_M_canPledge : m_cw k_M_canPledge 1 2 := ⟨by decide +kernel, rfl, rfl⟩
set_option maxRecDepth 20000 in
theorem q_M_canPledge (as : List Value) : m_rank k_M_canPledge as = 7 := rfl
abbrev k_M_pawnOf : Nat := 172
set_option maxRecDepth 20000 in
theorem r_M_pawnOf : m_ins.getD k_M_pawnOf [] = m_i172 := rfl
set_option maxRecDepth 20000 in
theorem w_M_pawnOf : m_cw k_M_pawnOf 1 2 := ⟨by decide +kernel, rfl, rfl⟩
set_option maxRecDepth 20000 in
theorem q_M_pawnOf (as : List Value) : m_rank k_M_pawnOf as = 6 := rfl
abbrev k_M_says : Nat := 173
set_option maxRecDepth 20000 in
theorem r_M_says : m_ins.getD k_M_says [] = m_i173 := rfl
set_option maxRecDepth 20000 in
theorem w_M_says : m_cw k_M_says 4 6 := ⟨by decide +kernel, rfl, rfl⟩
set_option maxRecDepth 20000 in
theorem q_M_says (as : List Value) : m_rank k_M_says as = 5 := rfl
abbrev k_M_summedUp : Nat := 174
set_option maxRecDepth 20000 in
theorem r_M_summedUp : m_ins.getD k_M_summedUp [] = m_i174 := rfl
set_option maxRecDepth 20000 in
theorem w_M_summedUp : m_cw k_M_summedUp 2 10 := ⟨by decide +kernel, rfl, rfl⟩
set_option maxRecDepth 20000 in
theorem q_M_summedUp (as : List Value) : m_rank k_M_summedUp as = 4 := rfl
abbrev k_M_joined : Nat := 175
set_option maxRecDepth 20000 in
theorem r_M_joined : m_ins.getD k_M_joined [] = m_i175 := rfl
set_option maxRecDepth 20000 in
theorem w_M_joined : m_cw k_M_joined 3 3 := ⟨by decide +kernel, rfl, rfl⟩
set_option maxRecDepth 20000 in
theorem q_M_joined (as : List Value) : m_rank k_M_joined as = 1 := rfl
abbrev k_M_isAsked : Nat := 176
set_option maxRecDepth 20000 in
theorem r_M_isAsked : m_ins.getD k_M_isAsked [] = m_i176 := rfl
set_option maxRecDepth 20000 in
theorem w_M_isAsked : m_cw k_M_isAsked 3 5 := ⟨by decide +kernel, rfl, rfl⟩
set_option maxRecDepth 20000 in
theorem q_M_isAsked (as : List Value) : m_rank k_M_isAsked as = 1 := rfl
abbrev k_M_two : Nat := 177
set_option maxRecDepth 20000 in
theorem r_M_two : m_ins.getD k_M_two [] = m_i177 := rfl
set_option maxRecDepth 20000 in
theorem w_M_two : m_cw k_M_two 3 5 := ⟨by decide +kernel, rfl, rfl⟩
set_option maxRecDepth 20000 in
theorem q_M_two (as : List Value) : m_rank k_M_two as = 2 := rfl
abbrev k_M_clip : Nat := 178
set_option maxRecDepth 20000 in
theorem r_M_clip : m_ins.getD k_M_clip [] = m_i178 := rfl
set_option maxRecDepth 20000 in
theorem w_M_clip : m_cw k_M_clip 1 2 := ⟨by decide +kernel, rfl, rfl⟩
set_option maxRecDepth 20000 in
theorem q_M_clip (as : List Value) : m_rank k_M_clip as = 1 := rfl
abbrev k_M_common : Nat := 179
set_option maxRecDepth 20000 in
theorem r_M_common : m_ins.getD k_M_common [] = m_i179 := rfl
set_option maxRecDepth 20000 in
theorem w_M_common : m_cw k_M_common 2 10 := ⟨by decide +kernel, rfl, rfl⟩
set_option maxRecDepth 20000 in
theorem q_M_common (as : List Value) : m_rank k_M_common as = 1 := rfl
abbrev k_M_leftsBy : Nat := 180
set_option maxRecDepth 20000 in
theorem r_M_leftsBy : m_ins.getD k_M_leftsBy [] = m_i180 := rfl
set_option maxRecDepth 20000 in
theorem w_M_leftsBy : m_cw k_M_leftsBy 1 3 := ⟨by decide +kernel, rfl, rfl⟩
set_option maxRecDepth 20000 in
theorem q_M_leftsBy (as : List Value) : m_rank k_M_leftsBy as = 3 := rfl
abbrev k_M_leftsOf : Nat := 181
set_option maxRecDepth 20000 in
theorem r_M_leftsOf : m_ins.getD k_M_leftsOf [] = m_i181 := rfl
set_option maxRecDepth 20000 in
theorem w_M_leftsOf : m_cw k_M_leftsOf 1 4 := ⟨by decide +kernel, rfl, rfl⟩
set_option maxRecDepth 20000 in
theorem q_M_leftsOf (as : List Value) : m_rank k_M_leftsOf as = 2 := rfl
abbrev k_M_nameGlove : Nat := 182
set_option maxRecDepth 20000 in
theorem r_M_nameGlove : m_ins.getD k_M_nameGlove [] = m_i182 := rfl
set_option maxRecDepth 20000 in
theorem w_M_nameGlove : m_cw k_M_nameGlove 1 2 := ⟨by decide +kernel, rfl, rfl⟩
set_option maxRecDepth 20000 in
theorem q_M_nameGlove (as : List Value) : m_rank k_M_nameGlove as = 2 := rfl
abbrev k_G_pledge : Nat := 183
set_option maxRecDepth 20000 in
theorem r_G_pledge : m_ins.getD k_G_pledge [] = m_i183 := rfl
set_option maxRecDepth 20000 in
theorem w_G_pledge : m_cw k_G_pledge 1 2 := ⟨by decide +kernel, rfl, rfl⟩
set_option maxRecDepth 20000 in
theorem q_G_pledge (as : List Value) : m_rank k_G_pledge as = 7 := rfl
abbrev k_Law_pawnOff : Nat := 184
set_option maxRecDepth 20000 in
theorem r_Law_pawnOff : m_ins.getD k_Law_pawnOff [] = m_i184 := rfl
set_option maxRecDepth 20000 in
theorem w_Law_pawnOff : m_cw k_Law_pawnOff 3 6 := ⟨by decide +kernel, rfl, rfl⟩
set_option maxRecDepth 20000 in
theorem q_Law_pawnOff (as : List Value) : m_rank k_Law_pawnOff as = 6 := rfl
abbrev k_Law_amount : Nat := 185
set_option maxRecDepth 20000 in
theorem r_Law_amount : m_ins.getD k_Law_amount [] = m_i185 := rfl
set_option maxRecDepth 20000 in
theorem w_Law_amount : m_cw k_Law_amount 4 7 := ⟨by decide +kernel, rfl, rfl⟩
set_option maxRecDepth 20000 in
theorem q_Law_amount (as : List Value) : m_rank k_Law_amount as = 5 := rfl
abbrev k_Law_reckoned : Nat := 186
set_option maxRecDepth 20000 in
theorem r_Law_reckoned : m_ins.getD k_Law_reckoned [] = m_i186 := rfl
set_option maxRecDepth 20000 in
theorem w_Law_reckoned : m_cw k_Law_reckoned 4 10 := ⟨by decide +kernel, rfl, rfl⟩
set_option maxRecDepth 20000 in
theorem q_Law_reckoned (as : List Value) : m_rank k_Law_reckoned as = 4 := rfl
abbrev k_Law_joined : Nat := 187
set_option maxRecDepth 20000 in
theorem r_Law_joined : m_ins.getD k_Law_joined [] = m_i187 := rfl
set_option maxRecDepth 20000 in
theorem w_Law_joined : m_cw k_Law_joined 3 3 := ⟨by decide +kernel, rfl, rfl⟩
set_option maxRecDepth 20000 in
theorem q_Law_joined (as : List Value) : m_rank k_Law_joined as = 3 := rfl
abbrev k_Law_holds : Nat := 188
set_option maxRecDepth 20000 in
theorem r_Law_holds : m_ins.getD k_Law_holds [] = m_i188 := rfl
set_option maxRecDepth 20000 in
theorem w_Law_holds : m_cw k_Law_holds 3 3 := ⟨by decide +kernel, rfl, rfl⟩
set_option maxRecDepth 20000 in
theorem q_Law_holds (as : List Value) : m_rank k_Law_holds as = 1 := rfl
abbrev k_G_commonOf : Nat := 189
set_option maxRecDepth 20000 in
theorem r_G_commonOf : m_ins.getD k_G_commonOf [] = m_i189 := rfl
set_option maxRecDepth 20000 in
theorem w_G_commonOf : m_cw k_G_commonOf 2 6 := ⟨by decide +kernel, rfl, rfl⟩
set_option maxRecDepth 20000 in
theorem q_G_commonOf (as : List Value) : m_rank k_G_commonOf as = 2 := rfl
abbrev k_Math_abs : Nat := 190
set_option maxRecDepth 20000 in
theorem r_Math_abs : m_ins.getD k_Math_abs [] = m_i190 := rfl
set_option maxRecDepth 20000 in
theorem w_Math_abs : m_cw k_Math_abs 1 1 := ⟨by decide +kernel, rfl, rfl⟩
set_option maxRecDepth 20000 in
theorem q_Math_abs (as : List Value) : m_rank k_Math_abs as = 1 := rfl
abbrev k_Law_bounded : Nat := 191
set_option maxRecDepth 20000 in
theorem r_Law_bounded : m_ins.getD k_Law_bounded [] = m_i191 := rfl
set_option maxRecDepth 20000 in
theorem w_Law_bounded : m_cw k_Law_bounded 1 2 := ⟨by decide +kernel, rfl, rfl⟩
set_option maxRecDepth 20000 in
theorem q_Law_bounded (as : List Value) : m_rank k_Law_bounded as = 2 := rfl
abbrev k_Math_max_JJ : Nat := 192
set_option maxRecDepth 20000 in
theorem r_Math_max_JJ : m_ins.getD k_Math_max_JJ [] = m_i192 := rfl
set_option maxRecDepth 20000 in
theorem w_Math_max_JJ : m_cw k_Math_max_JJ 2 4 := ⟨by decide +kernel, rfl, rfl⟩
set_option maxRecDepth 20000 in
theorem q_Math_max_JJ (as : List Value) : m_rank k_Math_max_JJ as = 1 := rfl
abbrev k_Math_min_JJ : Nat := 193
set_option maxRecDepth 20000 in
theorem r_Math_min_JJ : m_ins.getD k_Math_min_JJ [] = m_i193 := rfl
set_option maxRecDepth 20000 in
theorem w_Math_min_JJ : m_cw k_Math_min_JJ 2 4 := ⟨by decide +kernel, rfl, rfl⟩
set_option maxRecDepth 20000 in
theorem q_Math_min_JJ (as : List Value) : m_rank k_Math_min_JJ as = 1 := rfl
abbrev k_World_leftsOf : Nat := 194
set_option maxRecDepth 20000 in
theorem r_World_leftsOf : m_ins.getD k_World_leftsOf [] = m_i194 := rfl
set_option maxRecDepth 20000 in
theorem w_World_leftsOf : m_cw k_World_leftsOf 1 4 := ⟨by decide +kernel, rfl, rfl⟩
set_option maxRecDepth 20000 in
theorem q_World_leftsOf (as : List Value) : m_rank k_World_leftsOf as = 1 := rfl
abbrev k_Law_pop : Nat := 195
set_option maxRecDepth 20000 in
theorem r_Law_pop : m_ins.getD k_Law_pop [] = m_i195 := rfl
set_option maxRecDepth 20000 in
theorem w_Law_pop : m_cw k_Law_pop 0 1 := ⟨by decide +kernel, rfl, rfl⟩
set_option maxRecDepth 20000 in
theorem q_Law_pop (as : List Value) : m_rank k_Law_pop as = 1 := rfl
abbrev k_Law_named : Nat := 196
set_option maxRecDepth 20000 in
theorem r_Law_named : m_ins.getD k_Law_named [] = m_i196 := rfl
set_option maxRecDepth 20000 in
theorem w_Law_named : m_cw k_Law_named 3 3 := ⟨by decide +kernel, rfl, rfl⟩
set_option maxRecDepth 20000 in
theorem q_Law_named (as : List Value) : m_rank k_Law_named as = 3 := rfl
abbrev k_Law_cellsOf : Nat := 197
set_option maxRecDepth 20000 in
theorem r_Law_cellsOf : m_ins.getD k_Law_cellsOf [] = m_i197 := rfl
set_option maxRecDepth 20000 in
theorem w_Law_cellsOf : m_cw k_Law_cellsOf 1 1 := ⟨by decide +kernel, rfl, rfl⟩
set_option maxRecDepth 20000 in
theorem q_Law_cellsOf (as : List Value) : m_rank k_Law_cellsOf as = 1 := rfl
abbrev k_Law_push : Nat := 198
set_option maxRecDepth 20000 in
theorem r_Law_push : m_ins.getD k_Law_push [] = m_i198 := rfl
set_option maxRecDepth 20000 in
theorem w_Law_push : m_cw k_Law_push 1 2 := ⟨by decide +kernel, rfl, rfl⟩
set_option maxRecDepth 20000 in
theorem q_Law_push (as : List Value) : m_rank k_Law_push as = 1 := rfl
abbrev k_Script_cellAt : Nat := 199
set_option maxRecDepth 20000 in
theorem r_Script_cellAt : m_ins.getD k_Script_cellAt [] = m_i199 := rfl
set_option maxRecDepth 20000 in
theorem w_Script_cellAt : m_cw k_Script_cellAt 1 2 := ⟨by decide +kernel, rfl, rfl⟩
set_option maxRecDepth 20000 in
theorem q_Script_cellAt (as : List Value) : m_rank k_Script_cellAt as = 1 := rfl
abbrev k_Script_startOf : Nat := 200
set_option maxRecDepth 20000 in
theorem r_Script_startOf : m_ins.getD k_Script_startOf [] = m_i200 := rfl
set_option maxRecDepth 20000 in
theorem w_Script_startOf : m_cw k_Script_startOf 1 2 := ⟨by decide +kernel, rfl, rfl⟩
set_option maxRecDepth 20000 in
theorem q_Script_startOf (as : List Value) : m_rank k_Script_startOf as = 2 := rfl
abbrev k_Script_stopOf : Nat := 201
set_option maxRecDepth 20000 in
theorem r_Script_stopOf : m_ins.getD k_Script_stopOf [] = m_i201 := rfl
set_option maxRecDepth 20000 in
theorem w_Script_stopOf : m_cw k_Script_stopOf 1 2 := ⟨by decide +kernel, rfl, rfl⟩
set_option maxRecDepth 20000 in
theorem q_Script_stopOf (as : List Value) : m_rank k_Script_stopOf as = 2 := rfl
abbrev k_Script_hasClause : Nat := 202
set_option maxRecDepth 20000 in
theorem r_Script_hasClause : m_ins.getD k_Script_hasClause [] = m_i202 := rfl
set_option maxRecDepth 20000 in
theorem w_Script_hasClause : m_cw k_Script_hasClause 1 2 := ⟨by decide +kernel, rfl, rfl⟩
set_option maxRecDepth 20000 in
theorem q_Script_hasClause (as : List Value) : m_rank k_Script_hasClause as = 1 := rfl
abbrev k_Law_plainAmount : Nat := 203
set_option maxRecDepth 20000 in
theorem r_Law_plainAmount : m_ins.getD k_Law_plainAmount [] = m_i203 := rfl
set_option maxRecDepth 20000 in
theorem w_Law_plainAmount : m_cw k_Law_plainAmount 3 3 := ⟨by decide +kernel, rfl, rfl⟩
set_option maxRecDepth 20000 in
theorem q_Law_plainAmount (as : List Value) : m_rank k_Law_plainAmount as = 3 := rfl
abbrev k_World_rightsOf : Nat := 204
set_option maxRecDepth 20000 in
theorem r_World_rightsOf : m_ins.getD k_World_rightsOf [] = m_i204 := rfl
set_option maxRecDepth 20000 in
theorem w_World_rightsOf : m_cw k_World_rightsOf 1 5 := ⟨by decide +kernel, rfl, rfl⟩
set_option maxRecDepth 20000 in
theorem q_World_rightsOf (as : List Value) : m_rank k_World_rightsOf as = 1 := rfl
abbrev k_World_bareHandsOf : Nat := 205
set_option maxRecDepth 20000 in
theorem r_World_bareHandsOf : m_ins.getD k_World_bareHandsOf [] = m_i205 := rfl
set_option maxRecDepth 20000 in
theorem w_World_bareHandsOf : m_cw k_World_bareHandsOf 1 7 := ⟨by decide +kernel, rfl, rfl⟩
set_option maxRecDepth 20000 in
theorem q_World_bareHandsOf (as : List Value) : m_rank k_World_bareHandsOf as = 2 := rfl
abbrev k_G_ruling : Nat := 206
set_option maxRecDepth 20000 in
theorem r_G_ruling : m_ins.getD k_G_ruling [] = m_i206 := rfl
set_option maxRecDepth 20000 in
theorem w_G_ruling : m_cw k_G_ruling 0 1 := ⟨by decide +kernel, rfl, rfl⟩
set_option maxRecDepth 20000 in
theorem q_G_ruling (as : List Value) : m_rank k_G_ruling as = 3 := rfl
abbrev k_G_scriptAt : Nat := 207
set_option maxRecDepth 20000 in
theorem r_G_scriptAt : m_ins.getD k_G_scriptAt [] = m_i207 := rfl
set_option maxRecDepth 20000 in
theorem w_G_scriptAt : m_cw k_G_scriptAt 1 2 := ⟨by decide +kernel, rfl, rfl⟩
set_option maxRecDepth 20000 in
theorem q_G_scriptAt (as : List Value) : m_rank k_G_scriptAt as = 2 := rfl
abbrev k_M_find : Nat := 208
set_option maxRecDepth 20000 in
theorem r_M_find : m_ins.getD k_M_find [] = m_i208 := rfl
set_option maxRecDepth 20000 in
theorem w_M_find : m_cw k_M_find 2 3 := ⟨by decide +kernel, rfl, rfl⟩
set_option maxRecDepth 20000 in
theorem q_M_find (as : List Value) : m_rank k_M_find as = 3 := rfl
abbrev k_G_find : Nat := 209
set_option maxRecDepth 20000 in
theorem r_G_find : m_ins.getD k_G_find [] = m_i209 := rfl
set_option maxRecDepth 20000 in
theorem w_G_find : m_cw k_G_find 2 3 := ⟨by decide +kernel, rfl, rfl⟩
set_option maxRecDepth 20000 in
theorem q_G_find (as : List Value) : m_rank k_G_find as = 4 := rfl
abbrev k_World_pickUp : Nat := 210
set_option maxRecDepth 20000 in
theorem r_World_pickUp : m_ins.getD k_World_pickUp [] = m_i210 := rfl
set_option maxRecDepth 20000 in
theorem w_World_pickUp : m_cw k_World_pickUp 2 3 := ⟨by decide +kernel, rfl, rfl⟩
set_option maxRecDepth 20000 in
theorem q_World_pickUp (as : List Value) : m_rank k_World_pickUp as = 3 := rfl
abbrev k_M_lose : Nat := 211
set_option maxRecDepth 20000 in
theorem r_M_lose : m_ins.getD k_M_lose [] = m_i211 := rfl
set_option maxRecDepth 20000 in
theorem w_M_lose : m_cw k_M_lose 1 2 := ⟨by decide +kernel, rfl, rfl⟩
set_option maxRecDepth 20000 in
theorem q_M_lose (as : List Value) : m_rank k_M_lose as = 4 := rfl
abbrev k_G_lose : Nat := 212
set_option maxRecDepth 20000 in
theorem r_G_lose : m_ins.getD k_G_lose [] = m_i212 := rfl
set_option maxRecDepth 20000 in
theorem w_G_lose : m_cw k_G_lose 1 2 := ⟨by decide +kernel, rfl, rfl⟩
set_option maxRecDepth 20000 in
theorem q_G_lose (as : List Value) : m_rank k_G_lose as = 4 := rfl
abbrev k_World_drop : Nat := 213
set_option maxRecDepth 20000 in
theorem r_World_drop : m_ins.getD k_World_drop [] = m_i213 := rfl
set_option maxRecDepth 20000 in
theorem w_World_drop : m_cw k_World_drop 1 2 := ⟨by decide +kernel, rfl, rfl⟩
set_option maxRecDepth 20000 in
theorem q_World_drop (as : List Value) : m_rank k_World_drop as = 3 := rfl
abbrev k_M_pass : Nat := 214
set_option maxRecDepth 20000 in
theorem r_M_pass : m_ins.getD k_M_pass [] = m_i214 := rfl
set_option maxRecDepth 20000 in
theorem w_M_pass : m_cw k_M_pass 2 3 := ⟨by decide +kernel, rfl, rfl⟩
set_option maxRecDepth 20000 in
theorem q_M_pass (as : List Value) : m_rank k_M_pass as = 5 := rfl
abbrev k_M_canPass : Nat := 215
set_option maxRecDepth 20000 in
theorem r_M_canPass : m_ins.getD k_M_canPass [] = m_i215 := rfl
set_option maxRecDepth 20000 in
theorem w_M_canPass : m_cw k_M_canPass 2 3 := ⟨by decide +kernel, rfl, rfl⟩
set_option maxRecDepth 20000 in
theorem q_M_canPass (as : List Value) : m_rank k_M_canPass as = 4 := rfl
abbrev k_M_isOwed : Nat := 216
set_option maxRecDepth 20000 in
theorem r_M_isOwed : m_ins.getD k_M_isOwed [] = m_i216 := rfl
set_option maxRecDepth 20000 in
theorem w_M_isOwed : m_cw k_M_isOwed 1 2 := ⟨by decide +kernel, rfl, rfl⟩
set_option maxRecDepth 20000 in
theorem q_M_isOwed (as : List Value) : m_rank k_M_isOwed as = 3 := rfl
abbrev k_G_pass : Nat := 217
set_option maxRecDepth 20000 in
theorem r_G_pass : m_ins.getD k_G_pass [] = m_i217 := rfl
set_option maxRecDepth 20000 in
theorem w_G_pass : m_cw k_G_pass 2 3 := ⟨by decide +kernel, rfl, rfl⟩
set_option maxRecDepth 20000 in
theorem q_G_pass (as : List Value) : m_rank k_G_pass as = 4 := rfl
abbrev k_G_keptIf : Nat := 218
set_option maxRecDepth 20000 in
theorem r_G_keptIf : m_ins.getD k_G_keptIf [] = m_i218 := rfl
set_option maxRecDepth 20000 in
theorem w_G_keptIf : m_cw k_G_keptIf 1 2 := ⟨by decide +kernel, rfl, rfl⟩
set_option maxRecDepth 20000 in
theorem q_G_keptIf (as : List Value) : m_rank k_G_keptIf as = 3 := rfl
abbrev k_World_handOn : Nat := 219
set_option maxRecDepth 20000 in
theorem r_World_handOn : m_ins.getD k_World_handOn [] = m_i219 := rfl
set_option maxRecDepth 20000 in
theorem w_World_handOn : m_cw k_World_handOn 2 4 := ⟨by decide +kernel, rfl, rfl⟩
set_option maxRecDepth 20000 in
theorem q_World_handOn (as : List Value) : m_rank k_World_handOn as = 3 := rfl
abbrev k_M_work : Nat := 220
set_option maxRecDepth 20000 in
theorem r_M_work : m_ins.getD k_M_work [] = m_i220 := rfl
set_option maxRecDepth 20000 in
theorem w_M_work : m_cw k_M_work 2 3 := ⟨by decide +kernel, rfl, rfl⟩
set_option maxRecDepth 20000 in
theorem q_M_work (as : List Value) : m_rank k_M_work as = 3 := rfl
abbrev k_M_workNow : Nat := 221
set_option maxRecDepth 20000 in
theorem r_M_workNow : m_ins.getD k_M_workNow [] = m_i221 := rfl
set_option maxRecDepth 20000 in
theorem w_M_workNow : m_cw k_M_workNow 2 3 := ⟨by decide +kernel, rfl, rfl⟩
set_option maxRecDepth 20000 in
theorem q_M_workNow (as : List Value) : m_rank k_M_workNow as = 2 := rfl
abbrev k_M_cut : Nat := 222
set_option maxRecDepth 20000 in
theorem r_M_cut : m_ins.getD k_M_cut [] = m_i222 := rfl
set_option maxRecDepth 20000 in
theorem w_M_cut : m_cw k_M_cut 3 4 := ⟨by decide +kernel, rfl, rfl⟩
set_option maxRecDepth 20000 in
theorem q_M_cut (as : List Value) : m_rank k_M_cut as = 1 := rfl
abbrev k_M_isOpen : Nat := 223
set_option maxRecDepth 20000 in
theorem r_M_isOpen : m_ins.getD k_M_isOpen [] = m_i223 := rfl
set_option maxRecDepth 20000 in
theorem w_M_isOpen : m_cw k_M_isOpen 1 2 := ⟨by decide +kernel, rfl, rfl⟩
set_option maxRecDepth 20000 in
theorem q_M_isOpen (as : List Value) : m_rank k_M_isOpen as = 2 := rfl
abbrev k_M_get : Nat := 224
set_option maxRecDepth 20000 in
theorem r_M_get : m_ins.getD k_M_get [] = m_i224 := rfl
set_option maxRecDepth 20000 in
theorem w_M_get : m_cw k_M_get 2 3 := ⟨by decide +kernel, rfl, rfl⟩
set_option maxRecDepth 20000 in
theorem q_M_get (as : List Value) : m_rank k_M_get as = 1 := rfl
abbrev k_M_isGlove : Nat := 225
set_option maxRecDepth 20000 in
theorem r_M_isGlove : m_ins.getD k_M_isGlove [] = m_i225 := rfl
set_option maxRecDepth 20000 in
theorem w_M_isGlove : m_cw k_M_isGlove 1 2 := ⟨by decide +kernel, rfl, rfl⟩
set_option maxRecDepth 20000 in
theorem q_M_isGlove (as : List Value) : m_rank k_M_isGlove as = 2 := rfl
abbrev k_G_work : Nat := 226
set_option maxRecDepth 20000 in
theorem r_G_work : m_ins.getD k_G_work [] = m_i226 := rfl
set_option maxRecDepth 20000 in
theorem w_G_work : m_cw k_G_work 2 3 := ⟨by decide +kernel, rfl, rfl⟩
set_option maxRecDepth 20000 in
theorem q_G_work (as : List Value) : m_rank k_G_work as = 5 := rfl
abbrev k_World_labour : Nat := 227
set_option maxRecDepth 20000 in
theorem r_World_labour : m_ins.getD k_World_labour [] = m_i227 := rfl
set_option maxRecDepth 20000 in
theorem w_World_labour : m_cw k_World_labour 2 4 := ⟨by decide +kernel, rfl, rfl⟩
set_option maxRecDepth 20000 in
theorem q_World_labour (as : List Value) : m_rank k_World_labour as = 4 := rfl
abbrev k_World_isOpen : Nat := 228
set_option maxRecDepth 20000 in
theorem r_World_isOpen : m_ins.getD k_World_isOpen [] = m_i228 := rfl
set_option maxRecDepth 20000 in
theorem w_World_isOpen : m_cw k_World_isOpen 1 2 := ⟨by decide +kernel, rfl, rfl⟩
set_option maxRecDepth 20000 in
theorem q_World_isOpen (as : List Value) : m_rank k_World_isOpen as = 3 := rfl
abbrev k_World_isHow : Nat := 229
set_option maxRecDepth 20000 in
theorem r_World_isHow : m_ins.getD k_World_isHow [] = m_i229 := rfl
set_option maxRecDepth 20000 in
theorem w_World_isHow : m_cw k_World_isHow 2 3 := ⟨by decide +kernel, rfl, rfl⟩
set_option maxRecDepth 20000 in
theorem q_World_isHow (as : List Value) : m_rank k_World_isHow as = 2 := rfl
abbrev k_World_hasGlove : Nat := 230
set_option maxRecDepth 20000 in
theorem r_World_hasGlove : m_ins.getD k_World_hasGlove [] = m_i230 := rfl
set_option maxRecDepth 20000 in
theorem w_World_hasGlove : m_cw k_World_hasGlove 1 2 := ⟨by decide +kernel, rfl, rfl⟩
set_option maxRecDepth 20000 in
theorem q_World_hasGlove (as : List Value) : m_rank k_World_hasGlove as = 1 := rfl
abbrev k_M_bargain : Nat := 231
set_option maxRecDepth 20000 in
theorem r_M_bargain : m_ins.getD k_M_bargain [] = m_i231 := rfl
set_option maxRecDepth 20000 in
theorem w_M_bargain : m_cw k_M_bargain 5 6 := ⟨by decide +kernel, rfl, rfl⟩
set_option maxRecDepth 20000 in
theorem q_M_bargain (as : List Value) : m_rank k_M_bargain as = 4 := rfl
abbrev k_M_bargainNow : Nat := 232
set_option maxRecDepth 20000 in
theorem r_M_bargainNow : m_ins.getD k_M_bargainNow [] = m_i232 := rfl
set_option maxRecDepth 20000 in
theorem w_M_bargainNow : m_cw k_M_bargainNow 5 7 := ⟨by decide +kernel, rfl, rfl⟩
set_option maxRecDepth 20000 in
theorem q_M_bargainNow (as : List Value) : m_rank k_M_bargainNow as = 2 := rfl
abbrev k_M_put : Nat := 233
set_option maxRecDepth 20000 in
theorem r_M_put : m_ins.getD k_M_put [] = m_i233 := rfl
set_option maxRecDepth 20000 in
theorem w_M_put : m_cw k_M_put 3 4 := ⟨by decide +kernel, rfl, rfl⟩
set_option maxRecDepth 20000 in
theorem q_M_put (as : List Value) : m_rank k_M_put as = 1 := rfl
abbrev k_M_keep : Nat := 234
set_option maxRecDepth 20000 in
theorem r_M_keep : m_ins.getD k_M_keep [] = m_i234 := rfl
set_option maxRecDepth 20000 in
theorem w_M_keep : m_cw k_M_keep 0 3 := ⟨by decide +kernel, rfl, rfl⟩
set_option maxRecDepth 20000 in
theorem q_M_keep (as : List Value) : m_rank k_M_keep as = 1 := rfl
abbrev k_M_canBargain : Nat := 235
set_option maxRecDepth 20000 in
theorem r_M_canBargain : m_ins.getD k_M_canBargain [] = m_i235 := rfl
set_option maxRecDepth 20000 in
theorem w_M_canBargain : m_cw k_M_canBargain 2 3 := ⟨by decide +kernel, rfl, rfl⟩
set_option maxRecDepth 20000 in
theorem q_M_canBargain (as : List Value) : m_rank k_M_canBargain as = 3 := rfl
abbrev k_M_isOne : Nat := 236
set_option maxRecDepth 20000 in
theorem r_M_isOne : m_ins.getD k_M_isOne [] = m_i236 := rfl
set_option maxRecDepth 20000 in
theorem w_M_isOne : m_cw k_M_isOne 1 2 := ⟨by decide +kernel, rfl, rfl⟩
set_option maxRecDepth 20000 in
theorem q_M_isOne (as : List Value) : m_rank k_M_isOne as = 2 := rfl
abbrev k_G_bargain : Nat := 237
set_option maxRecDepth 20000 in
theorem r_G_bargain : m_ins.getD k_G_bargain [] = m_i237 := rfl
set_option maxRecDepth 20000 in
theorem w_G_bargain : m_cw k_G_bargain 5 6 := ⟨by decide +kernel, rfl, rfl⟩
set_option maxRecDepth 20000 in
theorem q_G_bargain (as : List Value) : m_rank k_G_bargain as = 4 := rfl
abbrev k_G_kept : Nat := 238
set_option maxRecDepth 20000 in
theorem r_G_kept : m_ins.getD k_G_kept [] = m_i238 := rfl
set_option maxRecDepth 20000 in
theorem w_G_kept : m_cw k_G_kept 1 2 := ⟨by decide +kernel, rfl, rfl⟩
set_option maxRecDepth 20000 in
theorem q_G_kept (as : List Value) : m_rank k_G_kept as = 3 := rfl
abbrev k_Steps_keep : Nat := 239
set_option maxRecDepth 20000 in
theorem r_Steps_keep : m_ins.getD k_Steps_keep [] = m_i239 := rfl
set_option maxRecDepth 20000 in
theorem w_Steps_keep : m_cw k_Steps_keep 0 1 := ⟨by decide +kernel, rfl, rfl⟩
set_option maxRecDepth 20000 in
theorem q_Steps_keep (as : List Value) : m_rank k_Steps_keep as = 2 := rfl
abbrev k_World_strike : Nat := 240
set_option maxRecDepth 20000 in
theorem r_World_strike : m_ins.getD k_World_strike [] = m_i240 := rfl
set_option maxRecDepth 20000 in
theorem w_World_strike : m_cw k_World_strike 5 8 := ⟨by decide +kernel, rfl, rfl⟩
set_option maxRecDepth 20000 in
theorem q_World_strike (as : List Value) : m_rank k_World_strike as = 2 := rfl
abbrev k_World_at : Nat := 241
set_option maxRecDepth 20000 in
theorem r_World_at : m_ins.getD k_World_at [] = m_i241 := rfl
set_option maxRecDepth 20000 in
theorem w_World_at : m_cw k_World_at 2 4 := ⟨by decide +kernel, rfl, rfl⟩
set_option maxRecDepth 20000 in
theorem q_World_at (as : List Value) : m_rank k_World_at as = 1 := rfl
abbrev k_World_hasOne : Nat := 242
set_option maxRecDepth 20000 in
theorem r_World_hasOne : m_ins.getD k_World_hasOne [] = m_i242 := rfl
set_option maxRecDepth 20000 in
theorem w_World_hasOne : m_cw k_World_hasOne 1 2 := ⟨by decide +kernel, rfl, rfl⟩
set_option maxRecDepth 20000 in
theorem q_World_hasOne (as : List Value) : m_rank k_World_hasOne as = 1 := rfl
abbrev k_Steps_mark : Nat := 243
set_option maxRecDepth 20000 in
theorem r_Steps_mark : m_ins.getD k_Steps_mark [] = m_i243 := rfl
set_option maxRecDepth 20000 in
theorem w_Steps_mark : m_cw k_Steps_mark 1 2 := ⟨by decide +kernel, rfl, rfl⟩
set_option maxRecDepth 20000 in
theorem q_Steps_mark (as : List Value) : m_rank k_Steps_mark as = 2 := rfl
abbrev k_Math_floorMod : Nat := 244
set_option maxRecDepth 20000 in
theorem r_Math_floorMod : m_ins.getD k_Math_floorMod [] = m_i244 := rfl
set_option maxRecDepth 20000 in
theorem w_Math_floorMod : m_cw k_Math_floorMod 2 3 := ⟨by decide +kernel, rfl, rfl⟩
set_option maxRecDepth 20000 in
theorem q_Math_floorMod (as : List Value) : m_rank k_Math_floorMod as = 1 := rfl
abbrev k_M_by : Nat := 245
set_option maxRecDepth 20000 in
theorem r_M_by : m_ins.getD k_M_by [] = m_i245 := rfl
set_option maxRecDepth 20000 in
theorem w_M_by : m_cw k_M_by 1 2 := ⟨by decide +kernel, rfl, rfl⟩
set_option maxRecDepth 20000 in
theorem q_M_by (as : List Value) : m_rank k_M_by as = 2 := rfl
abbrev k_G_by : Nat := 246
set_option maxRecDepth 20000 in
theorem r_G_by : m_ins.getD k_G_by [] = m_i246 := rfl
set_option maxRecDepth 20000 in
theorem w_G_by : m_cw k_G_by 1 2 := ⟨by decide +kernel, rfl, rfl⟩
set_option maxRecDepth 20000 in
theorem q_G_by (as : List Value) : m_rank k_G_by as = 2 := rfl
abbrev k_G_isText : Nat := 247
set_option maxRecDepth 20000 in
theorem r_G_isText : m_ins.getD k_G_isText [] = m_i247 := rfl
set_option maxRecDepth 20000 in
theorem w_G_isText : m_cw k_G_isText 1 2 := ⟨by decide +kernel, rfl, rfl⟩
set_option maxRecDepth 20000 in
theorem q_G_isText (as : List Value) : m_rank k_G_isText as = 1 := rfl
abbrev k_M_fault : Nat := 248
set_option maxRecDepth 20000 in
theorem r_M_fault : m_ins.getD k_M_fault [] = m_i248 := rfl
set_option maxRecDepth 20000 in
theorem w_M_fault : m_cw k_M_fault 1 2 := ⟨by decide +kernel, rfl, rfl⟩
set_option maxRecDepth 20000 in
theorem q_M_fault (as : List Value) : m_rank k_M_fault as = 1 := rfl
abbrev k_G_fault : Nat := 249
set_option maxRecDepth 20000 in
theorem r_G_fault : m_ins.getD k_G_fault [] = m_i249 := rfl
set_option maxRecDepth 20000 in
theorem w_G_fault : m_cw k_G_fault 1 2 := ⟨by decide +kernel, rfl, rfl⟩
set_option maxRecDepth 20000 in
theorem q_G_fault (as : List Value) : m_rank k_G_fault as = 1 := rfl
abbrev k_M_text : Nat := 250
set_option maxRecDepth 20000 in
theorem r_M_text : m_ins.getD k_M_text [] = m_i250 := rfl
set_option maxRecDepth 20000 in
theorem w_M_text : m_cw k_M_text 0 1 := ⟨by decide +kernel, rfl, rfl⟩
set_option maxRecDepth 20000 in
theorem q_M_text (as : List Value) : m_rank k_M_text as = 13 := rfl
abbrev k_M_readText : Nat := 251
set_option maxRecDepth 20000 in
theorem r_M_readText : m_ins.getD k_M_readText [] = m_i251 := rfl
set_option maxRecDepth 20000 in
theorem w_M_readText : m_cw k_M_readText 0 2 := ⟨by decide +kernel, rfl, rfl⟩
set_option maxRecDepth 20000 in
theorem q_M_readText (as : List Value) : m_rank k_M_readText as = 12 := rfl
abbrev k_M_clause : Nat := 252
set_option maxRecDepth 20000 in
theorem r_M_clause : m_ins.getD k_M_clause [] = m_i252 := rfl
set_option maxRecDepth 20000 in
theorem w_M_clause : m_cw k_M_clause 0 5 := ⟨by decide +kernel, rfl, rfl⟩
set_option maxRecDepth 20000 in
theorem q_M_clause (as : List Value) : m_rank k_M_clause as = 11 := rfl
abbrev k_M_body : Nat := 253
set_option maxRecDepth 20000 in
theorem r_M_body : m_ins.getD k_M_body [] = m_i253 := rfl
set_option maxRecDepth 20000 in
theorem w_M_body : m_cw k_M_body 2 3 := ⟨by decide +kernel, rfl, rfl⟩
set_option maxRecDepth 20000 in
theorem q_M_body (as : List Value) : m_rank k_M_body as = 10 := rfl
abbrev k_M_lawClause : Nat := 254
set_option maxRecDepth 20000 in
theorem r_M_lawClause : m_ins.getD k_M_lawClause [] = m_i254 := rfl
set_option maxRecDepth 20000 in
theorem w_M_lawClause : m_cw k_M_lawClause 1 3 := ⟨by decide +kernel, rfl, rfl⟩
set_option maxRecDepth 20000 in
theorem q_M_lawClause (as : List Value) : m_rank k_M_lawClause as = 9 := rfl
abbrev k_M_summed : Nat := 255
set_option maxRecDepth 20000 in
theorem r_M_summed : m_ins.getD k_M_summed [] = m_i255 := rfl
set_option maxRecDepth 20000 in
theorem w_M_summed : m_cw k_M_summed 0 2 := ⟨by decide +kernel, rfl, rfl⟩
set_option maxRecDepth 20000 in
theorem q_M_summed (as : List Value) : m_rank k_M_summed as = 8 := rfl
abbrev k_M_beginOne : Nat := 256
set_option maxRecDepth 20000 in
theorem r_M_beginOne : m_ins.getD k_M_beginOne [] = m_i256 := rfl
set_option maxRecDepth 20000 in
theorem w_M_beginOne : m_cw k_M_beginOne 0 2 := ⟨by decide +kernel, rfl, rfl⟩
set_option maxRecDepth 20000 in
theorem q_M_beginOne (as : List Value) : m_rank k_M_beginOne as = 7 := rfl
abbrev k_M_isAskAhead : Nat := 257
set_option maxRecDepth 20000 in
theorem r_M_isAskAhead : m_ins.getD k_M_isAskAhead [] = m_i257 := rfl
set_option maxRecDepth 20000 in
theorem w_M_isAskAhead : m_cw k_M_isAskAhead 0 1 := ⟨by decide +kernel, rfl, rfl⟩
set_option maxRecDepth 20000 in
theorem q_M_isAskAhead (as : List Value) : m_rank k_M_isAskAhead as = 4 := rfl
abbrev k_M_opened : Nat := 258
set_option maxRecDepth 20000 in
theorem r_M_opened : m_ins.getD k_M_opened [] = m_i258 := rfl
set_option maxRecDepth 20000 in
theorem w_M_opened : m_cw k_M_opened 1 2 := ⟨by decide +kernel, rfl, rfl⟩
set_option maxRecDepth 20000 in
theorem q_M_opened (as : List Value) : m_rank k_M_opened as = 3 := rfl
abbrev k_M_isOf : Nat := 259
set_option maxRecDepth 20000 in
theorem r_M_isOf : m_ins.getD k_M_isOf [] = m_i259 := rfl
set_option maxRecDepth 20000 in
theorem w_M_isOf : m_cw k_M_isOf 1 2 := ⟨by decide +kernel, rfl, rfl⟩
set_option maxRecDepth 20000 in
theorem q_M_isOf (as : List Value) : m_rank k_M_isOf as = 1 := rfl
abbrev k_M_nameOf : Nat := 260
set_option maxRecDepth 20000 in
theorem r_M_nameOf : m_ins.getD k_M_nameOf [] = m_i260 := rfl
set_option maxRecDepth 20000 in
theorem w_M_nameOf : m_cw k_M_nameOf 0 1 := ⟨by decide +kernel, rfl, rfl⟩
set_option maxRecDepth 20000 in
theorem q_M_nameOf (as : List Value) : m_rank k_M_nameOf as = 6 := rfl
abbrev k_M_behindOne : Nat := 261
set_option maxRecDepth 20000 in
theorem r_M_behindOne : m_ins.getD k_M_behindOne [] = m_i261 := rfl
set_option maxRecDepth 20000 in
theorem w_M_behindOne : m_cw k_M_behindOne 0 4 := ⟨by decide +kernel, rfl, rfl⟩
set_option maxRecDepth 20000 in
theorem q_M_behindOne (as : List Value) : m_rank k_M_behindOne as = 5 := rfl
abbrev k_M_endOne : Nat := 262
set_option maxRecDepth 20000 in
theorem r_M_endOne : m_ins.getD k_M_endOne [] = m_i262 := rfl
set_option maxRecDepth 20000 in
theorem w_M_endOne : m_cw k_M_endOne 0 1 := ⟨by decide +kernel, rfl, rfl⟩
set_option maxRecDepth 20000 in
theorem q_M_endOne (as : List Value) : m_rank k_M_endOne as = 4 := rfl
abbrev k_M_partOf : Nat := 263
set_option maxRecDepth 20000 in
theorem r_M_partOf : m_ins.getD k_M_partOf [] = m_i263 := rfl
set_option maxRecDepth 20000 in
theorem w_M_partOf : m_cw k_M_partOf 1 2 := ⟨by decide +kernel, rfl, rfl⟩
set_option maxRecDepth 20000 in
theorem q_M_partOf (as : List Value) : m_rank k_M_partOf as = 4 := rfl
abbrev k_M_settle : Nat := 264
set_option maxRecDepth 20000 in
theorem r_M_settle : m_ins.getD k_M_settle [] = m_i264 := rfl
set_option maxRecDepth 20000 in
theorem w_M_settle : m_cw k_M_settle 1 2 := ⟨by decide +kernel, rfl, rfl⟩
set_option maxRecDepth 20000 in
theorem q_M_settle (as : List Value) : m_rank k_M_settle as = 2 := rfl
abbrev k_M_emit : Nat := 265
set_option maxRecDepth 20000 in
theorem r_M_emit : m_ins.getD k_M_emit [] = m_i265 := rfl
set_option maxRecDepth 20000 in
theorem w_M_emit : m_cw k_M_emit 2 3 := ⟨by decide +kernel, rfl, rfl⟩
set_option maxRecDepth 20000 in
theorem q_M_emit (as : List Value) : m_rank k_M_emit as = 1 := rfl
abbrev k_M_betweenOf : Nat := 266
set_option maxRecDepth 20000 in
theorem r_M_betweenOf : m_ins.getD k_M_betweenOf [] = m_i266 := rfl
set_option maxRecDepth 20000 in
theorem w_M_betweenOf : m_cw k_M_betweenOf 0 1 := ⟨by decide +kernel, rfl, rfl⟩
set_option maxRecDepth 20000 in
theorem q_M_betweenOf (as : List Value) : m_rank k_M_betweenOf as = 4 := rfl
abbrev k_M_compareOf : Nat := 267
set_option maxRecDepth 20000 in
theorem r_M_compareOf : m_ins.getD k_M_compareOf [] = m_i267 := rfl
set_option maxRecDepth 20000 in
theorem w_M_compareOf : m_cw k_M_compareOf 0 1 := ⟨by decide +kernel, rfl, rfl⟩
set_option maxRecDepth 20000 in
theorem q_M_compareOf (as : List Value) : m_rank k_M_compareOf as = 1 := rfl
abbrev k_M_isCompared : Nat := 268
set_option maxRecDepth 20000 in
theorem r_M_isCompared : m_ins.getD k_M_isCompared [] = m_i268 := rfl
set_option maxRecDepth 20000 in
theorem w_M_isCompared : m_cw k_M_isCompared 0 2 := ⟨by decide +kernel, rfl, rfl⟩
set_option maxRecDepth 20000 in
theorem q_M_isCompared (as : List Value) : m_rank k_M_isCompared as = 2 := rfl
abbrev k_M_rank : Nat := 269
set_option maxRecDepth 20000 in
theorem r_M_rank : m_ins.getD k_M_rank [] = m_i269 := rfl
set_option maxRecDepth 20000 in
theorem w_M_rank : m_cw k_M_rank 1 1 := ⟨by decide +kernel, rfl, rfl⟩
set_option maxRecDepth 20000 in
theorem q_M_rank (as : List Value) : m_rank k_M_rank as = 1 := rfl
abbrev k_M_isAskHere : Nat := 270
set_option maxRecDepth 20000 in
theorem r_M_isAskHere : m_ins.getD k_M_isAskHere [] = m_i270 := rfl
set_option maxRecDepth 20000 in
theorem w_M_isAskHere : m_cw k_M_isAskHere 0 1 := ⟨by decide +kernel, rfl, rfl⟩
set_option maxRecDepth 20000 in
theorem q_M_isAskHere (as : List Value) : m_rank k_M_isAskHere as = 3 := rfl
abbrev k_M_openNow : Nat := 271
set_option maxRecDepth 20000 in
theorem r_M_openNow : m_ins.getD k_M_openNow [] = m_i271 := rfl
set_option maxRecDepth 20000 in
theorem w_M_openNow : m_cw k_M_openNow 0 1 := ⟨by decide +kernel, rfl, rfl⟩
set_option maxRecDepth 20000 in
theorem q_M_openNow (as : List Value) : m_rank k_M_openNow as = 2 := rfl
abbrev k_M_openAt : Nat := 272
set_option maxRecDepth 20000 in
theorem r_M_openAt : m_ins.getD k_M_openAt [] = m_i272 := rfl
set_option maxRecDepth 20000 in
theorem w_M_openAt : m_cw k_M_openAt 0 2 := ⟨by decide +kernel, rfl, rfl⟩
set_option maxRecDepth 20000 in
theorem q_M_openAt (as : List Value) : m_rank k_M_openAt as = 1 := rfl
abbrev k_M_oweClause : Nat := 273
set_option maxRecDepth 20000 in
theorem r_M_oweClause : m_ins.getD k_M_oweClause [] = m_i273 := rfl
set_option maxRecDepth 20000 in
theorem w_M_oweClause : m_cw k_M_oweClause 1 3 := ⟨by decide +kernel, rfl, rfl⟩
set_option maxRecDepth 20000 in
theorem q_M_oweClause (as : List Value) : m_rank k_M_oweClause as = 5 := rfl
abbrev k_M_isLeather : Nat := 274
set_option maxRecDepth 20000 in
theorem r_M_isLeather : m_ins.getD k_M_isLeather [] = m_i274 := rfl
set_option maxRecDepth 20000 in
theorem w_M_isLeather : m_cw k_M_isLeather 0 1 := ⟨by decide +kernel, rfl, rfl⟩
set_option maxRecDepth 20000 in
theorem q_M_isLeather (as : List Value) : m_rank k_M_isLeather as = 4 := rfl
abbrev k_M_pair : Nat := 275
set_option maxRecDepth 20000 in
theorem r_M_pair : m_ins.getD k_M_pair [] = m_i275 := rfl
set_option maxRecDepth 20000 in
theorem w_M_pair : m_cw k_M_pair 6 9 := ⟨by decide +kernel, rfl, rfl⟩
set_option maxRecDepth 20000 in
theorem q_M_pair (as : List Value) : m_rank k_M_pair as = 5 := rfl
abbrev k_M_worded : Nat := 276
set_option maxRecDepth 20000 in
theorem r_M_worded : m_ins.getD k_M_worded [] = m_i276 := rfl
set_option maxRecDepth 20000 in
theorem w_M_worded : m_cw k_M_worded 4 6 := ⟨by decide +kernel, rfl, rfl⟩
set_option maxRecDepth 20000 in
theorem q_M_worded (as : List Value) : m_rank k_M_worded as = 4 := rfl
abbrev k_M_figure : Nat := 277
set_option maxRecDepth 20000 in
theorem r_M_figure : m_ins.getD k_M_figure [] = m_i277 := rfl
set_option maxRecDepth 20000 in
theorem w_M_figure : m_cw k_M_figure 3 4 := ⟨by decide +kernel, rfl, rfl⟩
set_option maxRecDepth 20000 in
theorem q_M_figure (as : List Value) : m_rank k_M_figure as = 3 := rfl
abbrev k_M_has : Nat := 278
set_option maxRecDepth 20000 in
theorem r_M_has : m_ins.getD k_M_has [] = m_i278 := rfl
set_option maxRecDepth 20000 in
theorem w_M_has : m_cw k_M_has 2 2 := ⟨by decide +kernel, rfl, rfl⟩
set_option maxRecDepth 20000 in
theorem q_M_has (as : List Value) : m_rank k_M_has as = 1 := rfl
abbrev k_M_sortOf : Nat := 279
set_option maxRecDepth 20000 in
theorem r_M_sortOf : m_ins.getD k_M_sortOf [] = m_i279 := rfl
set_option maxRecDepth 20000 in
theorem w_M_sortOf : m_cw k_M_sortOf 0 1 := ⟨by decide +kernel, rfl, rfl⟩
set_option maxRecDepth 20000 in
theorem q_M_sortOf (as : List Value) : m_rank k_M_sortOf as = 6 := rfl
abbrev k_M_w6 : Nat := 280
set_option maxRecDepth 20000 in
theorem r_M_w6 : m_ins.getD k_M_w6 [] = m_i280 := rfl
set_option maxRecDepth 20000 in
theorem w_M_w6 : m_cw k_M_w6 6 6 := ⟨by decide +kernel, rfl, rfl⟩
set_option maxRecDepth 20000 in
theorem q_M_w6 (as : List Value) : m_rank k_M_w6 as = 5 := rfl
abbrev k_M_isWord : Nat := 281
set_option maxRecDepth 20000 in
theorem r_M_isWord : m_ins.getD k_M_isWord [] = m_i281 := rfl
set_option maxRecDepth 20000 in
theorem w_M_isWord : m_cw k_M_isWord 1 3 := ⟨by decide +kernel, rfl, rfl⟩
set_option maxRecDepth 20000 in
theorem q_M_isWord (as : List Value) : m_rank k_M_isWord as = 1 := rfl
abbrev k_M_w5 : Nat := 282
set_option maxRecDepth 20000 in
theorem r_M_w5 : m_ins.getD k_M_w5 [] = m_i282 := rfl
set_option maxRecDepth 20000 in
theorem w_M_w5 : m_cw k_M_w5 5 5 := ⟨by decide +kernel, rfl, rfl⟩
set_option maxRecDepth 20000 in
theorem q_M_w5 (as : List Value) : m_rank k_M_w5 as = 4 := rfl
abbrev k_M_w4 : Nat := 283
set_option maxRecDepth 20000 in
theorem r_M_w4 : m_ins.getD k_M_w4 [] = m_i283 := rfl
set_option maxRecDepth 20000 in
theorem w_M_w4 : m_cw k_M_w4 4 4 := ⟨by decide +kernel, rfl, rfl⟩
set_option maxRecDepth 20000 in
theorem q_M_w4 (as : List Value) : m_rank k_M_w4 as = 3 := rfl
abbrev k_M_w3 : Nat := 284
set_option maxRecDepth 20000 in
theorem r_M_w3 : m_ins.getD k_M_w3 [] = m_i284 := rfl
set_option maxRecDepth 20000 in
theorem w_M_w3 : m_cw k_M_w3 3 3 := ⟨by decide +kernel, rfl, rfl⟩
set_option maxRecDepth 20000 in
theorem q_M_w3 (as : List Value) : m_rank k_M_w3 as = 2 := rfl
abbrev k_M_w2 : Nat := 285
set_option maxRecDepth 20000 in
theorem r_M_w2 : m_ins.getD k_M_w2 [] = m_i285 := rfl
set_option maxRecDepth 20000 in
theorem w_M_w2 : m_cw k_M_w2 2 2 := ⟨by decide +kernel, rfl, rfl⟩
set_option maxRecDepth 20000 in
theorem q_M_w2 (as : List Value) : m_rank k_M_w2 as = 1 := rfl
abbrev k_M_nextToken : Nat := 286
set_option maxRecDepth 20000 in
theorem r_M_nextToken : m_ins.getD k_M_nextToken [] = m_i286 := rfl
set_option maxRecDepth 20000 in
theorem w_M_nextToken : m_cw k_M_nextToken 0 2 := ⟨by decide +kernel, rfl, rfl⟩
set_option maxRecDepth 20000 in
theorem q_M_nextToken (as : List Value) : m_rank k_M_nextToken as = 2 := rfl
abbrev k_M_isSign : Nat := 287
set_option maxRecDepth 20000 in
theorem r_M_isSign : m_ins.getD k_M_isSign [] = m_i287 := rfl
set_option maxRecDepth 20000 in
theorem w_M_isSign : m_cw k_M_isSign 1 1 := ⟨by decide +kernel, rfl, rfl⟩
set_option maxRecDepth 20000 in
theorem q_M_isSign (as : List Value) : m_rank k_M_isSign as = 1 := rfl
abbrev k_M_isLetterByte : Nat := 288
set_option maxRecDepth 20000 in
theorem r_M_isLetterByte : m_ins.getD k_M_isLetterByte [] = m_i288 := rfl
set_option maxRecDepth 20000 in
theorem w_M_isLetterByte : m_cw k_M_isLetterByte 1 1 := ⟨by decide +kernel, rfl, rfl⟩
set_option maxRecDepth 20000 in
theorem q_M_isLetterByte (as : List Value) : m_rank k_M_isLetterByte as = 1 := rfl
abbrev k_M_isFigure : Nat := 289
set_option maxRecDepth 20000 in
theorem r_M_isFigure : m_ins.getD k_M_isFigure [] = m_i289 := rfl
set_option maxRecDepth 20000 in
theorem w_M_isFigure : m_cw k_M_isFigure 1 1 := ⟨by decide +kernel, rfl, rfl⟩
set_option maxRecDepth 20000 in
theorem q_M_isFigure (as : List Value) : m_rank k_M_isFigure as = 1 := rfl
abbrev k_M_byteAt : Nat := 290
set_option maxRecDepth 20000 in
theorem r_M_byteAt : m_ins.getD k_M_byteAt [] = m_i290 := rfl
set_option maxRecDepth 20000 in
theorem w_M_byteAt : m_cw k_M_byteAt 1 2 := ⟨by decide +kernel, rfl, rfl⟩
set_option maxRecDepth 20000 in
theorem q_M_byteAt (as : List Value) : m_rank k_M_byteAt as = 1 := rfl
abbrev k_G_text : Nat := 291
set_option maxRecDepth 20000 in
theorem r_G_text : m_ins.getD k_G_text [] = m_i291 := rfl
set_option maxRecDepth 20000 in
theorem w_G_text : m_cw k_G_text 0 3 := ⟨by decide +kernel, rfl, rfl⟩
set_option maxRecDepth 20000 in
theorem q_G_text (as : List Value) : m_rank k_G_text as = 99 := rfl
abbrev k_Script_takeOver : Nat := 292
set_option maxRecDepth 20000 in
theorem r_Script_takeOver : m_ins.getD k_Script_takeOver [] = m_i292 := rfl
set_option maxRecDepth 20000 in
theorem w_Script_takeOver : m_cw k_Script_takeOver 1 2 := ⟨by decide +kernel, rfl, rfl⟩
set_option maxRecDepth 20000 in
theorem q_Script_takeOver (as : List Value) : m_rank k_Script_takeOver as = 1 := rfl
abbrev k_Reader_readTape : Nat := 293
set_option maxRecDepth 20000 in
theorem r_Reader_readTape : m_ins.getD k_Reader_readTape [] = m_i293 := rfl
set_option maxRecDepth 20000 in
theorem w_Reader_readTape : m_cw k_Reader_readTape 0 2 := ⟨by decide +kernel, rfl, rfl⟩
set_option maxRecDepth 20000 in
theorem q_Reader_readTape (as : List Value) : m_rank k_Reader_readTape as = 98 := rfl
abbrev k_Reader_readClause : Nat := 294
set_option maxRecDepth 20000 in
theorem r_Reader_readClause : m_ins.getD k_Reader_readClause [] = m_i294 := rfl
set_option maxRecDepth 20000 in
theorem w_Reader_readClause : m_cw k_Reader_readClause 0 2 := ⟨by decide +kernel, rfl, rfl⟩
set_option maxRecDepth 20000 in
theorem q_Reader_readClause (as : List Value) : m_rank k_Reader_readClause as = 97 := rfl
abbrev k_Script_endClause : Nat := 295
set_option maxRecDepth 20000 in
theorem r_Script_endClause : m_ins.getD k_Script_endClause [] = m_i295 := rfl
set_option maxRecDepth 20000 in
theorem w_Script_endClause : m_cw k_Script_endClause 0 1 := ⟨by decide +kernel, rfl, rfl⟩
set_option maxRecDepth 20000 in
theorem q_Script_endClause (as : List Value) : m_rank k_Script_endClause as = 1 := rfl
abbrev k_Reader_readNumbers : Nat := 296
set_option maxRecDepth 20000 in
theorem r_Reader_readNumbers : m_ins.getD k_Reader_readNumbers [] = m_i296 := rfl
set_option maxRecDepth 20000 in
theorem w_Reader_readNumbers : m_cw k_Reader_readNumbers 1 4 := ⟨by decide +kernel, rfl, rfl⟩
set_option maxRecDepth 20000 in
theorem q_Reader_readNumbers (as : List Value) : m_rank k_Reader_readNumbers as = 9 := rfl
abbrev k_Reader_readSum : Nat := 297
set_option maxRecDepth 20000 in
theorem r_Reader_readSum : m_ins.getD k_Reader_readSum [] = m_i297 := rfl
set_option maxRecDepth 20000 in
theorem w_Reader_readSum : m_cw k_Reader_readSum 1 5 := ⟨by decide +kernel, rfl, rfl⟩
set_option maxRecDepth 20000 in
theorem q_Reader_readSum_ge (as : List Value) : 9 ≤ m_rank k_Reader_readSum as := by show 9 ≤ 9 + 3 + _; omega
set_option maxRecDepth 20000 in
theorem m_rk_Reader_readSum (as : List Value) : m_rank k_Reader_readSum as ≤ 96 := by
  show 9 + 3 + 8 * (10 - m_ai as 1) ≤ 96
  omega
abbrev k_Reader_readProduct : Nat := 298
set_option maxRecDepth 20000 in
theorem r_Reader_readProduct : m_ins.getD k_Reader_readProduct [] = m_i298 := rfl
set_option maxRecDepth 20000 in
theorem w_Reader_readProduct : m_cw k_Reader_readProduct 1 5 := ⟨by decide +kernel, rfl, rfl⟩
set_option maxRecDepth 20000 in
theorem q_Reader_readProduct_ge (as : List Value) : 9 ≤ m_rank k_Reader_readProduct as := by show 9 ≤ 9 + 2 + _; omega
set_option maxRecDepth 20000 in
theorem m_rk_Reader_readProduct (as : List Value) : m_rank k_Reader_readProduct as ≤ 96 := by
  show 9 + 2 + 8 * (10 - m_ai as 1) ≤ 96
  omega
abbrev k_Reader_readOne : Nat := 299
set_option maxRecDepth 20000 in
theorem r_Reader_readOne : m_ins.getD k_Reader_readOne [] = m_i299 := rfl
set_option maxRecDepth 20000 in
theorem w_Reader_readOne : m_cw k_Reader_readOne 1 2 := ⟨by decide +kernel, rfl, rfl⟩
set_option maxRecDepth 20000 in
theorem q_Reader_readOne_ge (as : List Value) : 9 ≤ m_rank k_Reader_readOne as := by show 9 ≤ 9 + 1 + _; omega
set_option maxRecDepth 20000 in
theorem m_rk_Reader_readOne (as : List Value) : m_rank k_Reader_readOne as ≤ 96 := by
  show 9 + 1 + 8 * (10 - m_ai as 1) ≤ 96
  omega
abbrev k_Reader_readName : Nat := 300
set_option maxRecDepth 20000 in
theorem r_Reader_readName : m_ins.getD k_Reader_readName [] = m_i300 := rfl
set_option maxRecDepth 20000 in
theorem w_Reader_readName : m_cw k_Reader_readName 0 1 := ⟨by decide +kernel, rfl, rfl⟩
set_option maxRecDepth 20000 in
theorem q_Reader_readName (as : List Value) : m_rank k_Reader_readName as = 8 := rfl
abbrev k_Words_isNameOf : Nat := 301
set_option maxRecDepth 20000 in
theorem r_Words_isNameOf : m_ins.getD k_Words_isNameOf [] = m_i301 := rfl
set_option maxRecDepth 20000 in
theorem w_Words_isNameOf : m_cw k_Words_isNameOf 2 4 := ⟨by decide +kernel, rfl, rfl⟩
set_option maxRecDepth 20000 in
theorem q_Words_isNameOf (as : List Value) : m_rank k_Words_isNameOf as = 2 := rfl
abbrev k_Words_isName : Nat := 302
set_option maxRecDepth 20000 in
theorem r_Words_isName : m_ins.getD k_Words_isName [] = m_i302 := rfl
set_option maxRecDepth 20000 in
theorem w_Words_isName : m_cw k_Words_isName 1 1 := ⟨by decide +kernel, rfl, rfl⟩
set_option maxRecDepth 20000 in
theorem q_Words_isName (as : List Value) : m_rank k_Words_isName as = 1 := rfl
abbrev k_Reader_readChoice : Nat := 303
set_option maxRecDepth 20000 in
theorem r_Reader_readChoice : m_ins.getD k_Reader_readChoice [] = m_i303 := rfl
set_option maxRecDepth 20000 in
theorem w_Reader_readChoice : m_cw k_Reader_readChoice 1 4 := ⟨by decide +kernel, rfl, rfl⟩
set_option maxRecDepth 20000 in
theorem q_Reader_readChoice_ge (as : List Value) : 9 ≤ m_rank k_Reader_readChoice as := by show 9 ≤ 9 + 7 + _; omega
set_option maxRecDepth 20000 in
theorem m_rk_Reader_readChoice (as : List Value) : m_rank k_Reader_readChoice as ≤ 96 := by
  show 9 + 7 + 8 * (10 - m_ai as 1) ≤ 96
  omega
abbrev k_Script_aimHere : Nat := 304
set_option maxRecDepth 20000 in
theorem r_Script_aimHere : m_ins.getD k_Script_aimHere [] = m_i304 := rfl
set_option maxRecDepth 20000 in
theorem w_Script_aimHere : m_cw k_Script_aimHere 1 2 := ⟨by decide +kernel, rfl, rfl⟩
set_option maxRecDepth 20000 in
theorem q_Script_aimHere (as : List Value) : m_rank k_Script_aimHere as = 1 := rfl
abbrev k_Script_addLeap : Nat := 305
set_option maxRecDepth 20000 in
theorem r_Script_addLeap : m_ins.getD k_Script_addLeap [] = m_i305 := rfl
set_option maxRecDepth 20000 in
theorem w_Script_addLeap : m_cw k_Script_addLeap 1 2 := ⟨by decide +kernel, rfl, rfl⟩
set_option maxRecDepth 20000 in
theorem q_Script_addLeap (as : List Value) : m_rank k_Script_addLeap as = 3 := rfl
abbrev k_Reader_readEither : Nat := 306
set_option maxRecDepth 20000 in
theorem r_Reader_readEither : m_ins.getD k_Reader_readEither [] = m_i306 := rfl
set_option maxRecDepth 20000 in
theorem w_Reader_readEither : m_cw k_Reader_readEither 1 4 := ⟨by decide +kernel, rfl, rfl⟩
set_option maxRecDepth 20000 in
theorem q_Reader_readEither_ge (as : List Value) : 9 ≤ m_rank k_Reader_readEither as := by show 9 ≤ 9 + 6 + _; omega
set_option maxRecDepth 20000 in
theorem m_rk_Reader_readEither (as : List Value) : m_rank k_Reader_readEither as ≤ 96 := by
  show 9 + 6 + 8 * (10 - m_ai as 1) ≤ 96
  omega
abbrev k_Reader_readBoth : Nat := 307
set_option maxRecDepth 20000 in
theorem r_Reader_readBoth : m_ins.getD k_Reader_readBoth [] = m_i307 := rfl
set_option maxRecDepth 20000 in
theorem w_Reader_readBoth : m_cw k_Reader_readBoth 1 4 := ⟨by decide +kernel, rfl, rfl⟩
set_option maxRecDepth 20000 in
theorem q_Reader_readBoth_ge (as : List Value) : 9 ≤ m_rank k_Reader_readBoth as := by show 9 ≤ 9 + 5 + _; omega
set_option maxRecDepth 20000 in
theorem m_rk_Reader_readBoth (as : List Value) : m_rank k_Reader_readBoth as ≤ 96 := by
  show 9 + 5 + 8 * (10 - m_ai as 1) ≤ 96
  omega
abbrev k_Reader_readAsk : Nat := 308
set_option maxRecDepth 20000 in
theorem r_Reader_readAsk : m_ins.getD k_Reader_readAsk [] = m_i308 := rfl
set_option maxRecDepth 20000 in
theorem w_Reader_readAsk : m_cw k_Reader_readAsk 1 3 := ⟨by decide +kernel, rfl, rfl⟩
set_option maxRecDepth 20000 in
theorem q_Reader_readAsk_ge (as : List Value) : 9 ≤ m_rank k_Reader_readAsk as := by show 9 ≤ 9 + 4 + _; omega
set_option maxRecDepth 20000 in
theorem m_rk_Reader_readAsk (as : List Value) : m_rank k_Reader_readAsk as ≤ 96 := by
  show 9 + 4 + 8 * (10 - m_ai as 1) ≤ 96
  omega
abbrev k_Words_compares : Nat := 309
set_option maxRecDepth 20000 in
theorem r_Words_compares : m_ins.getD k_Words_compares [] = m_i309 := rfl
set_option maxRecDepth 20000 in
theorem w_Words_compares : m_cw k_Words_compares 1 1 := ⟨by decide +kernel, rfl, rfl⟩
set_option maxRecDepth 20000 in
theorem q_Words_compares (as : List Value) : m_rank k_Words_compares as = 1 := rfl
abbrev k_Reader_does : Nat := 310
set_option maxRecDepth 20000 in
theorem r_Reader_does : m_ins.getD k_Reader_does [] = m_i310 := rfl
set_option maxRecDepth 20000 in
theorem w_Reader_does : m_cw k_Reader_does 1 2 := ⟨by decide +kernel, rfl, rfl⟩
set_option maxRecDepth 20000 in
theorem q_Reader_does (as : List Value) : m_rank k_Reader_does as = 3 := rfl
abbrev k_Script_addDeed : Nat := 311
set_option maxRecDepth 20000 in
theorem r_Script_addDeed : m_ins.getD k_Script_addDeed [] = m_i311 := rfl
set_option maxRecDepth 20000 in
theorem w_Script_addDeed : m_cw k_Script_addDeed 1 2 := ⟨by decide +kernel, rfl, rfl⟩
set_option maxRecDepth 20000 in
theorem q_Script_addDeed (as : List Value) : m_rank k_Script_addDeed as = 2 := rfl
abbrev k_Reader_expects : Nat := 312
set_option maxRecDepth 20000 in
theorem r_Reader_expects : m_ins.getD k_Reader_expects [] = m_i312 := rfl
set_option maxRecDepth 20000 in
theorem w_Reader_expects : m_cw k_Reader_expects 1 2 := ⟨by decide +kernel, rfl, rfl⟩
set_option maxRecDepth 20000 in
theorem q_Reader_expects (as : List Value) : m_rank k_Reader_expects as = 8 := rfl
abbrev k_Reader_opens : Nat := 313
set_option maxRecDepth 20000 in
theorem r_Reader_opens : m_ins.getD k_Reader_opens [] = m_i313 := rfl
set_option maxRecDepth 20000 in
theorem w_Reader_opens : m_cw k_Reader_opens 1 2 := ⟨by decide +kernel, rfl, rfl⟩
set_option maxRecDepth 20000 in
theorem q_Reader_opens (as : List Value) : m_rank k_Reader_opens as = 8 := rfl
abbrev k_Reader_readNumber : Nat := 314
set_option maxRecDepth 20000 in
theorem r_Reader_readNumber : m_ins.getD k_Reader_readNumber [] = m_i314 := rfl
set_option maxRecDepth 20000 in
theorem w_Reader_readNumber : m_cw k_Reader_readNumber 2 3 := ⟨by decide +kernel, rfl, rfl⟩
set_option maxRecDepth 20000 in
theorem q_Reader_readNumber (as : List Value) : m_rank k_Reader_readNumber as = 8 := rfl
abbrev k_Script_add : Nat := 315
set_option maxRecDepth 20000 in
theorem r_Script_add : m_ins.getD k_Script_add [] = m_i315 := rfl
set_option maxRecDepth 20000 in
theorem w_Script_add : m_cw k_Script_add 1 2 := ⟨by decide +kernel, rfl, rfl⟩
set_option maxRecDepth 20000 in
theorem q_Script_add (as : List Value) : m_rank k_Script_add as = 1 := rfl
abbrev k_Script_startClause : Nat := 316
set_option maxRecDepth 20000 in
theorem r_Script_startClause : m_ins.getD k_Script_startClause [] = m_i316 := rfl
set_option maxRecDepth 20000 in
theorem w_Script_startClause : m_cw k_Script_startClause 1 2 := ⟨by decide +kernel, rfl, rfl⟩
set_option maxRecDepth 20000 in
theorem q_Script_startClause (as : List Value) : m_rank k_Script_startClause as = 1 := rfl
abbrev k_Script_lawAt : Nat := 317
set_option maxRecDepth 20000 in
theorem r_Script_lawAt : m_ins.getD k_Script_lawAt [] = m_i317 := rfl
set_option maxRecDepth 20000 in
theorem w_Script_lawAt : m_cw k_Script_lawAt 1 2 := ⟨by decide +kernel, rfl, rfl⟩
set_option maxRecDepth 20000 in
theorem q_Script_lawAt (as : List Value) : m_rank k_Script_lawAt as = 1 := rfl
abbrev k_Words_isLaw : Nat := 318
set_option maxRecDepth 20000 in
theorem r_Words_isLaw : m_ins.getD k_Words_isLaw [] = m_i318 := rfl
set_option maxRecDepth 20000 in
theorem w_Words_isLaw : m_cw k_Words_isLaw 1 1 := ⟨by decide +kernel, rfl, rfl⟩
set_option maxRecDepth 20000 in
theorem q_Words_isLaw (as : List Value) : m_rank k_Words_isLaw as = 1 := rfl
abbrev k_Reader_fails : Nat := 319
set_option maxRecDepth 20000 in
theorem r_Reader_fails : m_ins.getD k_Reader_fails [] = m_i319 := rfl
set_option maxRecDepth 20000 in
theorem w_Reader_fails : m_cw k_Reader_fails 1 2 := ⟨by decide +kernel, rfl, rfl⟩
set_option maxRecDepth 20000 in
theorem q_Reader_fails (as : List Value) : m_rank k_Reader_fails as = 1 := rfl
abbrev k_Words_isClauseStart : Nat := 320
set_option maxRecDepth 20000 in
theorem r_Words_isClauseStart : m_ins.getD k_Words_isClauseStart [] = m_i320 := rfl
set_option maxRecDepth 20000 in
theorem w_Words_isClauseStart : m_cw k_Words_isClauseStart 1 1 := ⟨by decide +kernel, rfl, rfl⟩
set_option maxRecDepth 20000 in
theorem q_Words_isClauseStart (as : List Value) : m_rank k_Words_isClauseStart as = 1 := rfl
abbrev k_Reader_advance : Nat := 321
set_option maxRecDepth 20000 in
theorem r_Reader_advance : m_ins.getD k_Reader_advance [] = m_i321 := rfl
set_option maxRecDepth 20000 in
theorem w_Reader_advance : m_cw k_Reader_advance 0 2 := ⟨by decide +kernel, rfl, rfl⟩
set_option maxRecDepth 20000 in
theorem q_Reader_advance (as : List Value) : m_rank k_Reader_advance as = 7 := rfl
abbrev k_Reader_advanceOverSymbol : Nat := 322
set_option maxRecDepth 20000 in
theorem r_Reader_advanceOverSymbol : m_ins.getD k_Reader_advanceOverSymbol [] = m_i322 := rfl
set_option maxRecDepth 20000 in
theorem w_Reader_advanceOverSymbol : m_cw k_Reader_advanceOverSymbol 0 2 := ⟨by decide +kernel, rfl, rfl⟩
set_option maxRecDepth 20000 in
theorem q_Reader_advanceOverSymbol (as : List Value) : m_rank k_Reader_advanceOverSymbol as = 6 := rfl
abbrev k_Words_symbolOf : Nat := 323
set_option maxRecDepth 20000 in
theorem r_Words_symbolOf : m_ins.getD k_Words_symbolOf [] = m_i323 := rfl
set_option maxRecDepth 20000 in
theorem w_Words_symbolOf : m_cw k_Words_symbolOf 1 2 := ⟨by decide +kernel, rfl, rfl⟩
set_option maxRecDepth 20000 in
theorem q_Words_symbolOf (as : List Value) : m_rank k_Words_symbolOf as = 5 := rfl
abbrev k_String_indexOf_I : Nat := 324
set_option maxRecDepth 20000 in
theorem r_String_indexOf_I : m_ins.getD k_String_indexOf_I [] = m_i324 := rfl
set_option maxRecDepth 20000 in
theorem w_String_indexOf_I : m_cw k_String_indexOf_I 1 2 := ⟨by decide +kernel, rfl, rfl⟩
set_option maxRecDepth 20000 in
theorem q_String_indexOf_I (as : List Value) : m_rank k_String_indexOf_I as = 4 := rfl
abbrev k_String_indexOf_II : Nat := 325
set_option maxRecDepth 20000 in
theorem r_String_indexOf_II : m_ins.getD k_String_indexOf_II [] = m_i325 := rfl
set_option maxRecDepth 20000 in
theorem w_String_indexOf_II : m_cw k_String_indexOf_II 2 3 := ⟨by decide +kernel, rfl, rfl⟩
set_option maxRecDepth 20000 in
theorem q_String_indexOf_II (as : List Value) : m_rank k_String_indexOf_II as = 3 := rfl
abbrev k_Latin1_indexOf : Nat := 326
set_option maxRecDepth 20000 in
theorem r_Latin1_indexOf : m_ins.getD k_Latin1_indexOf [] = m_i326 := rfl
set_option maxRecDepth 20000 in
theorem w_Latin1_indexOf : m_cw k_Latin1_indexOf 4 4 := ⟨by decide +kernel, rfl, rfl⟩
set_option maxRecDepth 20000 in
theorem q_Latin1_indexOf (as : List Value) : m_rank k_Latin1_indexOf as = 2 := rfl
abbrev k_Latin1_indexOfChar : Nat := 327
set_option maxRecDepth 20000 in
theorem r_Latin1_indexOfChar : m_ins.getD k_Latin1_indexOfChar [] = m_i327 := rfl
set_option maxRecDepth 20000 in
theorem w_Latin1_indexOfChar : m_cw k_Latin1_indexOfChar 4 6 := ⟨by decide +kernel, rfl, rfl⟩
set_option maxRecDepth 20000 in
theorem q_Latin1_indexOfChar (as : List Value) : m_rank k_Latin1_indexOfChar as = 1 := rfl
abbrev k_Latin1_canEncode : Nat := 328
set_option maxRecDepth 20000 in
theorem r_Latin1_canEncode : m_ins.getD k_Latin1_canEncode [] = m_i328 := rfl
set_option maxRecDepth 20000 in
theorem w_Latin1_canEncode : m_cw k_Latin1_canEncode 1 1 := ⟨by decide +kernel, rfl, rfl⟩
set_option maxRecDepth 20000 in
theorem q_Latin1_canEncode (as : List Value) : m_rank k_Latin1_canEncode as = 1 := rfl
abbrev k_Reader_advanceOverNumber : Nat := 329
set_option maxRecDepth 20000 in
theorem r_Reader_advanceOverNumber : m_ins.getD k_Reader_advanceOverNumber [] = m_i329 := rfl
set_option maxRecDepth 20000 in
theorem w_Reader_advanceOverNumber : m_cw k_Reader_advanceOverNumber 0 2 := ⟨by decide +kernel, rfl, rfl⟩
set_option maxRecDepth 20000 in
theorem q_Reader_advanceOverNumber (as : List Value) : m_rank k_Reader_advanceOverNumber as = 2 := rfl
abbrev k_Math_min_II : Nat := 330
set_option maxRecDepth 20000 in
theorem r_Math_min_II : m_ins.getD k_Math_min_II [] = m_i330 := rfl
set_option maxRecDepth 20000 in
theorem w_Math_min_II : m_cw k_Math_min_II 2 2 := ⟨by decide +kernel, rfl, rfl⟩
set_option maxRecDepth 20000 in
theorem q_Math_min_II (as : List Value) : m_rank k_Math_min_II as = 1 := rfl
abbrev k_Reader_isDigit : Nat := 331
set_option maxRecDepth 20000 in
theorem r_Reader_isDigit : m_ins.getD k_Reader_isDigit [] = m_i331 := rfl
set_option maxRecDepth 20000 in
theorem w_Reader_isDigit : m_cw k_Reader_isDigit 1 1 := ⟨by decide +kernel, rfl, rfl⟩
set_option maxRecDepth 20000 in
theorem q_Reader_isDigit (as : List Value) : m_rank k_Reader_isDigit as = 1 := rfl
abbrev k_Reader_advanceOverWord : Nat := 332
set_option maxRecDepth 20000 in
theorem r_Reader_advanceOverWord : m_ins.getD k_Reader_advanceOverWord [] = m_i332 := rfl
set_option maxRecDepth 20000 in
theorem w_Reader_advanceOverWord : m_cw k_Reader_advanceOverWord 0 2 := ⟨by decide +kernel, rfl, rfl⟩
set_option maxRecDepth 20000 in
theorem q_Reader_advanceOverWord (as : List Value) : m_rank k_Reader_advanceOverWord as = 6 := rfl
abbrev k_Words_wordOf : Nat := 333
set_option maxRecDepth 20000 in
theorem r_Words_wordOf : m_ins.getD k_Words_wordOf [] = m_i333 := rfl
set_option maxRecDepth 20000 in
theorem w_Words_wordOf : m_cw k_Words_wordOf 3 8 := ⟨by decide +kernel, rfl, rfl⟩
set_option maxRecDepth 20000 in
theorem q_Words_wordOf (as : List Value) : m_rank k_Words_wordOf as = 5 := rfl
abbrev k_String_charAt : Nat := 334
set_option maxRecDepth 20000 in
theorem r_String_charAt : m_ins.getD k_String_charAt [] = m_i334 := rfl
set_option maxRecDepth 20000 in
theorem w_String_charAt : m_cw k_String_charAt 1 2 := ⟨by decide +kernel, rfl, rfl⟩
set_option maxRecDepth 20000 in
theorem q_String_charAt (as : List Value) : m_rank k_String_charAt as = 4 := rfl
abbrev k_Latin1_charAt : Nat := 335
set_option maxRecDepth 20000 in
theorem r_Latin1_charAt : m_ins.getD k_Latin1_charAt [] = m_i335 := rfl
set_option maxRecDepth 20000 in
theorem w_Latin1_charAt : m_cw k_Latin1_charAt 2 2 := ⟨by decide +kernel, rfl, rfl⟩
set_option maxRecDepth 20000 in
theorem q_Latin1_charAt (as : List Value) : m_rank k_Latin1_charAt as = 3 := rfl
abbrev k_String_checkIndex : Nat := 336
set_option maxRecDepth 20000 in
theorem r_String_checkIndex : m_ins.getD k_String_checkIndex [] = m_i336 := rfl
set_option maxRecDepth 20000 in
theorem w_String_checkIndex : m_cw k_String_checkIndex 2 2 := ⟨by decide +kernel, rfl, rfl⟩
set_option maxRecDepth 20000 in
theorem q_String_checkIndex (as : List Value) : m_rank k_String_checkIndex as = 2 := rfl
abbrev k_Prec_checkIndex : Nat := 337
set_option maxRecDepth 20000 in
theorem r_Prec_checkIndex : m_ins.getD k_Prec_checkIndex [] = m_i337 := rfl
set_option maxRecDepth 20000 in
theorem w_Prec_checkIndex : m_cw k_Prec_checkIndex 3 3 := ⟨by decide +kernel, rfl, rfl⟩
set_option maxRecDepth 20000 in
theorem q_Prec_checkIndex (as : List Value) : m_rank k_Prec_checkIndex as = 1 := rfl
abbrev k_String_isLatin1 : Nat := 338
set_option maxRecDepth 20000 in
theorem r_String_isLatin1 : m_ins.getD k_String_isLatin1 [] = m_i338 := rfl
set_option maxRecDepth 20000 in
theorem w_String_isLatin1 : m_cw k_String_isLatin1 0 1 := ⟨by decide +kernel, rfl, rfl⟩
set_option maxRecDepth 20000 in
theorem q_String_isLatin1 (as : List Value) : m_rank k_String_isLatin1 as = 1 := rfl
abbrev k_String_length : Nat := 339
set_option maxRecDepth 20000 in
theorem r_String_length : m_ins.getD k_String_length [] = m_i339 := rfl
set_option maxRecDepth 20000 in
theorem w_String_length : m_cw k_String_length 0 1 := ⟨by decide +kernel, rfl, rfl⟩
set_option maxRecDepth 20000 in
theorem q_String_length (as : List Value) : m_rank k_String_length as = 2 := rfl
abbrev k_String_coder : Nat := 340
set_option maxRecDepth 20000 in
theorem r_String_coder : m_ins.getD k_String_coder [] = m_i340 := rfl
set_option maxRecDepth 20000 in
theorem w_String_coder : m_cw k_String_coder 0 1 := ⟨by decide +kernel, rfl, rfl⟩
set_option maxRecDepth 20000 in
theorem q_String_coder (as : List Value) : m_rank k_String_coder as = 1 := rfl
abbrev k_Reader_isLetter : Nat := 341
set_option maxRecDepth 20000 in
theorem r_Reader_isLetter : m_ins.getD k_Reader_isLetter [] = m_i341 := rfl
set_option maxRecDepth 20000 in
theorem w_Reader_isLetter : m_cw k_Reader_isLetter 1 1 := ⟨by decide +kernel, rfl, rfl⟩
set_option maxRecDepth 20000 in
theorem q_Reader_isLetter (as : List Value) : m_rank k_Reader_isLetter as = 1 := rfl
abbrev k_Reader_isTapeAt : Nat := 342
set_option maxRecDepth 20000 in
theorem r_Reader_isTapeAt : m_ins.getD k_Reader_isTapeAt [] = m_i342 := rfl
set_option maxRecDepth 20000 in
theorem w_Reader_isTapeAt : m_cw k_Reader_isTapeAt 1 2 := ⟨by decide +kernel, rfl, rfl⟩
set_option maxRecDepth 20000 in
theorem q_Reader_isTapeAt (as : List Value) : m_rank k_Reader_isTapeAt as = 1 := rfl
abbrev k_Script_empty : Nat := 343
set_option maxRecDepth 20000 in
theorem r_Script_empty : m_ins.getD k_Script_empty [] = m_i343 := rfl
set_option maxRecDepth 20000 in
theorem w_Script_empty : m_cw k_Script_empty 0 2 := ⟨by decide +kernel, rfl, rfl⟩
set_option maxRecDepth 20000 in
theorem q_Script_empty (as : List Value) : m_rank k_Script_empty as = 1 := rfl
abbrev k_M_end : Nat := 344
set_option maxRecDepth 20000 in
theorem r_M_end : m_ins.getD k_M_end [] = m_i344 := rfl
set_option maxRecDepth 20000 in
theorem w_M_end : m_cw k_M_end 1 2 := ⟨by decide +kernel, rfl, rfl⟩
set_option maxRecDepth 20000 in
theorem q_M_end (as : List Value) : m_rank k_M_end as = 2 := rfl
abbrev k_G_end : Nat := 345
set_option maxRecDepth 20000 in
theorem r_G_end : m_ins.getD k_G_end [] = m_i345 := rfl
set_option maxRecDepth 20000 in
theorem w_G_end : m_cw k_G_end 1 2 := ⟨by decide +kernel, rfl, rfl⟩
set_option maxRecDepth 20000 in
theorem q_G_end (as : List Value) : m_rank k_G_end as = 2 := rfl
abbrev k_M_feed : Nat := 346
set_option maxRecDepth 20000 in
theorem r_M_feed : m_ins.getD k_M_feed [] = m_i346 := rfl
set_option maxRecDepth 20000 in
theorem w_M_feed : m_cw k_M_feed 5 6 := ⟨by decide +kernel, rfl, rfl⟩
set_option maxRecDepth 20000 in
theorem q_M_feed (as : List Value) : m_rank k_M_feed as = 2 := rfl
abbrev k_M_four : Nat := 347
set_option maxRecDepth 20000 in
theorem r_M_four : m_ins.getD k_M_four [] = m_i347 := rfl
set_option maxRecDepth 20000 in
theorem w_M_four : m_cw k_M_four 1 3 := ⟨by decide +kernel, rfl, rfl⟩
set_option maxRecDepth 20000 in
theorem q_M_four (as : List Value) : m_rank k_M_four as = 1 := rfl
abbrev k_G_feed : Nat := 348
set_option maxRecDepth 20000 in
theorem r_G_feed : m_ins.getD k_G_feed [] = m_i348 := rfl
set_option maxRecDepth 20000 in
theorem w_G_feed : m_cw k_G_feed 5 6 := ⟨by decide +kernel, rfl, rfl⟩
set_option maxRecDepth 20000 in
theorem q_G_feed (as : List Value) : m_rank k_G_feed as = 2 := rfl
abbrev k_Reader_take : Nat := 349
set_option maxRecDepth 20000 in
theorem r_Reader_take : m_ins.getD k_Reader_take [] = m_i349 := rfl
set_option maxRecDepth 20000 in
theorem w_Reader_take : m_cw k_Reader_take 1 3 := ⟨by decide +kernel, rfl, rfl⟩
set_option maxRecDepth 20000 in
theorem q_Reader_take (as : List Value) : m_rank k_Reader_take as = 1 := rfl
abbrev k_Reader_hasRoom : Nat := 350
set_option maxRecDepth 20000 in
theorem r_Reader_hasRoom : m_ins.getD k_Reader_hasRoom [] = m_i350 := rfl
set_option maxRecDepth 20000 in
theorem w_Reader_hasRoom : m_cw k_Reader_hasRoom 0 1 := ⟨by decide +kernel, rfl, rfl⟩
set_option maxRecDepth 20000 in
theorem q_Reader_hasRoom (as : List Value) : m_rank k_Reader_hasRoom as = 1 := rfl
abbrev k_M_one : Nat := 351
set_option maxRecDepth 20000 in
theorem r_M_one : m_ins.getD k_M_one [] = m_i351 := rfl
set_option maxRecDepth 20000 in
theorem w_M_one : m_cw k_M_one 2 4 := ⟨by decide +kernel, rfl, rfl⟩
set_option maxRecDepth 20000 in
theorem q_M_one (as : List Value) : m_rank k_M_one as = 2 := rfl
abbrev k_M_isIn : Nat := 352
set_option maxRecDepth 20000 in
theorem r_M_isIn : m_ins.getD k_M_isIn [] = m_i352 := rfl
set_option maxRecDepth 20000 in
theorem w_M_isIn : m_cw k_M_isIn 3 3 := ⟨by decide +kernel, rfl, rfl⟩
set_option maxRecDepth 20000 in
theorem q_M_isIn (as : List Value) : m_rank k_M_isIn as = 1 := rfl
abbrev k_G_one : Nat := 353
set_option maxRecDepth 20000 in
theorem r_G_one : m_ins.getD k_G_one [] = m_i353 := rfl
set_option maxRecDepth 20000 in
theorem w_G_one : m_cw k_G_one 2 3 := ⟨by decide +kernel, rfl, rfl⟩
set_option maxRecDepth 20000 in
theorem q_G_one (as : List Value) : m_rank k_G_one as = 3 := rfl
abbrev k_World_tellOne : Nat := 354
set_option maxRecDepth 20000 in
theorem r_World_tellOne : m_ins.getD k_World_tellOne [] = m_i354 := rfl
set_option maxRecDepth 20000 in
theorem w_World_tellOne : m_cw k_World_tellOne 2 4 := ⟨by decide +kernel, rfl, rfl⟩
set_option maxRecDepth 20000 in
theorem q_World_tellOne (as : List Value) : m_rank k_World_tellOne as = 2 := rfl
abbrev k_World_change : Nat := 355
set_option maxRecDepth 20000 in
theorem r_World_change : m_ins.getD k_World_change [] = m_i355 := rfl
set_option maxRecDepth 20000 in
theorem w_World_change : m_cw k_World_change 3 5 := ⟨by decide +kernel, rfl, rfl⟩
set_option maxRecDepth 20000 in
theorem q_World_change (as : List Value) : m_rank k_World_change as = 1 := rfl
abbrev k_G_isIn : Nat := 356
set_option maxRecDepth 20000 in
theorem r_G_isIn : m_ins.getD k_G_isIn [] = m_i356 := rfl
set_option maxRecDepth 20000 in
theorem w_G_isIn : m_cw k_G_isIn 3 3 := ⟨by decide +kernel, rfl, rfl⟩
set_option maxRecDepth 20000 in
theorem q_G_isIn (as : List Value) : m_rank k_G_isIn as = 1 := rfl
abbrev k_M_init : Nat := 357
set_option maxRecDepth 20000 in
theorem r_M_init : m_ins.getD k_M_init [] = m_i357 := rfl
set_option maxRecDepth 20000 in
theorem w_M_init : m_cw k_M_init 0 2 := ⟨by decide +kernel, rfl, rfl⟩
set_option maxRecDepth 20000 in
theorem q_M_init (as : List Value) : m_rank k_M_init as = 2 := rfl
abbrev k_M_copy : Nat := 358
set_option maxRecDepth 20000 in
theorem r_M_copy : m_ins.getD k_M_copy [] = m_i358 := rfl
set_option maxRecDepth 20000 in
theorem w_M_copy : m_cw k_M_copy 2 3 := ⟨by decide +kernel, rfl, rfl⟩
set_option maxRecDepth 20000 in
theorem q_M_copy (as : List Value) : m_rank k_M_copy as = 1 := rfl
abbrev k_G_init : Nat := 359
set_option maxRecDepth 20000 in
theorem r_G_init : m_ins.getD k_G_init [] = m_i359 := rfl
set_option maxRecDepth 20000 in
theorem w_G_init : m_cw k_G_init 0 2 := ⟨by decide +kernel, rfl, rfl⟩
set_option maxRecDepth 20000 in
theorem q_G_init (as : List Value) : m_rank k_G_init as = 4 := rfl
abbrev k_Puzzles_init : Nat := 360
set_option maxRecDepth 20000 in
theorem r_Puzzles_init : m_ins.getD k_Puzzles_init [] = m_i360 := rfl
set_option maxRecDepth 20000 in
theorem w_Puzzles_init : m_cw k_Puzzles_init 0 1 := ⟨by decide +kernel, rfl, rfl⟩
set_option maxRecDepth 20000 in
theorem q_Puzzles_init (as : List Value) : m_rank k_Puzzles_init as = 1 := rfl
abbrev k_Duties_init : Nat := 361
set_option maxRecDepth 20000 in
theorem r_Duties_init : m_ins.getD k_Duties_init [] = m_i361 := rfl
set_option maxRecDepth 20000 in
theorem w_Duties_init : m_cw k_Duties_init 0 1 := ⟨by decide +kernel, rfl, rfl⟩
set_option maxRecDepth 20000 in
theorem q_Duties_init (as : List Value) : m_rank k_Duties_init as = 3 := rfl
abbrev k_Weddings_init : Nat := 362
set_option maxRecDepth 20000 in
theorem r_Weddings_init : m_ins.getD k_Weddings_init [] = m_i362 := rfl
set_option maxRecDepth 20000 in
theorem w_Weddings_init : m_cw k_Weddings_init 0 1 := ⟨by decide +kernel, rfl, rfl⟩
set_option maxRecDepth 20000 in
theorem q_Weddings_init (as : List Value) : m_rank k_Weddings_init as = 1 := rfl
abbrev k_Law_init : Nat := 363
set_option maxRecDepth 20000 in
theorem r_Law_init : m_ins.getD k_Law_init [] = m_i363 := rfl
set_option maxRecDepth 20000 in
theorem w_Law_init : m_cw k_Law_init 0 1 := ⟨by decide +kernel, rfl, rfl⟩
set_option maxRecDepth 20000 in
theorem q_Law_init (as : List Value) : m_rank k_Law_init as = 1 := rfl
abbrev k_Reader_init : Nat := 364
set_option maxRecDepth 20000 in
theorem r_Reader_init : m_ins.getD k_Reader_init [] = m_i364 := rfl
set_option maxRecDepth 20000 in
theorem w_Reader_init : m_cw k_Reader_init 0 1 := ⟨by decide +kernel, rfl, rfl⟩
set_option maxRecDepth 20000 in
theorem q_Reader_init (as : List Value) : m_rank k_Reader_init as = 2 := rfl
abbrev k_Script_init : Nat := 365
set_option maxRecDepth 20000 in
theorem r_Script_init : m_ins.getD k_Script_init [] = m_i365 := rfl
set_option maxRecDepth 20000 in
theorem w_Script_init : m_cw k_Script_init 0 1 := ⟨by decide +kernel, rfl, rfl⟩
set_option maxRecDepth 20000 in
theorem q_Script_init (as : List Value) : m_rank k_Script_init as = 1 := rfl
abbrev k_Told_init : Nat := 366
set_option maxRecDepth 20000 in
theorem r_Told_init : m_ins.getD k_Told_init [] = m_i366 := rfl
set_option maxRecDepth 20000 in
theorem w_Told_init : m_cw k_Told_init 0 2 := ⟨by decide +kernel, rfl, rfl⟩
set_option maxRecDepth 20000 in
theorem q_Told_init (as : List Value) : m_rank k_Told_init as = 3 := rfl
abbrev k_Row_put : Nat := 367
set_option maxRecDepth 20000 in
theorem r_Row_put : m_ins.getD k_Row_put [] = m_i367 := rfl
set_option maxRecDepth 20000 in
theorem w_Row_put : m_cw k_Row_put 1 2 := ⟨by decide +kernel, rfl, rfl⟩
set_option maxRecDepth 20000 in
theorem q_Row_put (as : List Value) : m_rank k_Row_put as = 1 := rfl
abbrev k_Row_init : Nat := 368
set_option maxRecDepth 20000 in
theorem r_Row_init : m_ins.getD k_Row_init [] = m_i368 := rfl
set_option maxRecDepth 20000 in
theorem w_Row_init : m_cw k_Row_init 1 2 := ⟨by decide +kernel, rfl, rfl⟩
set_option maxRecDepth 20000 in
theorem q_Row_init (as : List Value) : m_rank k_Row_init as = 2 := rfl
abbrev k_Math_max_II : Nat := 369
set_option maxRecDepth 20000 in
theorem r_Math_max_II : m_ins.getD k_Math_max_II [] = m_i369 := rfl
set_option maxRecDepth 20000 in
theorem w_Math_max_II : m_cw k_Math_max_II 2 2 := ⟨by decide +kernel, rfl, rfl⟩
set_option maxRecDepth 20000 in
theorem q_Math_max_II (as : List Value) : m_rank k_Math_max_II as = 1 := rfl
abbrev k_Steps_init : Nat := 370
set_option maxRecDepth 20000 in
theorem r_Steps_init : m_ins.getD k_Steps_init [] = m_i370 := rfl
set_option maxRecDepth 20000 in
theorem w_Steps_init : m_cw k_Steps_init 0 1 := ⟨by decide +kernel, rfl, rfl⟩
set_option maxRecDepth 20000 in
theorem q_Steps_init (as : List Value) : m_rank k_Steps_init as = 1 := rfl
abbrev k_World_init : Nat := 371
set_option maxRecDepth 20000 in
theorem r_World_init : m_ins.getD k_World_init [] = m_i371 := rfl
set_option maxRecDepth 20000 in
theorem w_World_init : m_cw k_World_init 0 1 := ⟨by decide +kernel, rfl, rfl⟩
set_option maxRecDepth 20000 in
theorem q_World_init (as : List Value) : m_rank k_World_init as = 1 := rfl
