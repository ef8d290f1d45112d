-- what holds of every world's cells, and its methods
def WI (c : Fn) : Prop :=
  (0 ≤ c 0 ∧ c 0 ≤ 7 ∧ 0 ≤ c 22 ∧ c 22 ≤ 9999 ∧ 0 ≤ c 23 ∧ c 23 ≤ 9 ∧ 0 ≤ c 24 ∧ c 24 < 30467 ∧ 0 ≤ c 25 ∧ c 25 ≤ 12 ∧ 0 ≤ c 26 ∧ c 26 ≤ 30)
  ∧ (∀ p, 0 ≤ p → p < 7 → 0 ≤ c (1 + p) ∧ c (1 + p) ≤ 9 ∧ 0 ≤ c (8 + p) ∧ c (8 + p) ≤ 9999 ∧ 0 ≤ c (15 + p) ∧ c (15 + p) ≤ 9999)
  ∧ (∀ g, 0 ≤ g → g < 12 → 0 ≤ c (27 + g) ∧ c (27 + g) ≤ 6 ∧ 0 ≤ c (39 + g) ∧ c (39 + g) ≤ 6 ∧ 0 ≤ c (51 + g) ∧ c (51 + g) ≤ 99 ∧ 0 ≤ c (63 + g) ∧ c (63 + g) ≤ 2 ∧ 0 ≤ c (75 + g) ∧ c (75 + g) ≤ 9 ∧ 0 ≤ c (87 + g) ∧ c (87 + g) ≤ 9 ∧ 0 ≤ c (99 + g) ∧ c (99 + g) ≤ 3)
  ∧ (∀ g, 0 ≤ g → g < c 25 → c (27 + g) < c 0 ∧ c (39 + g) < c 0 ∧ ¬ c (27 + g) = c (39 + g))
  ∧ (∀ i, 0 ≤ i → i < 30 → 0 ≤ c (111 + i) ∧ c (111 + i) < 10000000)
theorem WI_c {c : Fn} (h : WI c) : 0 ≤ c 0 ∧ c 0 ≤ 7 ∧ 0 ≤ c 22 ∧ c 22 ≤ 9999 ∧ 0 ≤ c 23 ∧ c 23 ≤ 9 ∧ 0 ≤ c 24 ∧ c 24 < 30467 ∧ 0 ≤ c 25 ∧ c 25 ≤ 12 ∧ 0 ≤ c 26 ∧ c 26 ≤ 30 := h.1
theorem WI_p {c : Fn} (h : WI c) {p : Int} (h0 : 0 ≤ p) (h1 : p < 7) : 0 ≤ c (1 + p) ∧ c (1 + p) ≤ 9 ∧ 0 ≤ c (8 + p) ∧ c (8 + p) ≤ 9999 ∧ 0 ≤ c (15 + p) ∧ c (15 + p) ≤ 9999 := h.2.1 p h0 h1
theorem WI_g {c : Fn} (h : WI c) {g : Int} (h0 : 0 ≤ g) (h1 : g < 12) : 0 ≤ c (27 + g) ∧ c (27 + g) ≤ 6 ∧ 0 ≤ c (39 + g) ∧ c (39 + g) ≤ 6 ∧ 0 ≤ c (51 + g) ∧ c (51 + g) ≤ 99 ∧ 0 ≤ c (63 + g) ∧ c (63 + g) ≤ 2 ∧ 0 ≤ c (75 + g) ∧ c (75 + g) ≤ 9 ∧ 0 ≤ c (87 + g) ∧ c (87 + g) ≤ 9 ∧ 0 ≤ c (99 + g) ∧ c (99 + g) ≤ 3 := h.2.2.1 g h0 h1
theorem WI_h {c : Fn} (h : WI c) {g : Int} (h0 : 0 ≤ g) (h1 : g < c 25) : c (27 + g) < c 0 ∧ c (39 + g) < c 0 ∧ ¬ c (27 + g) = c (39 + g) := h.2.2.2.1 g h0 h1
theorem WI_b {c : Fn} (h : WI c) {i : Int} (h0 : 0 ≤ i) (h1 : i < 30) : 0 ≤ c (111 + i) ∧ c (111 + i) < 10000000 := h.2.2.2.2 i h0 h1
section
variable (x : m_X) (F G : Nat → Fn)
theorem C_at_any (w : Nat) (n1 n2 : Int32) (hw : w = 1 ∨ w = 51 ∨ w = 101) : ∃ v : Int32, m_M x k_World_at [.ref w, .int n1, .int n2] (mk F G) = some (some (.int v), mk F G) := by
  rw [E_World_at]
  simp (disch := omega) only [isO_W, fR_W_0, ia_W, is_W, b_I, b_L, b_V, b_R, b_N, b_N0, Option.bind_some, ↓reduceIte, bq0, bq1, bz0, bz1, ite_not, Classical.not_not]
  split
  · exact ⟨_, rfl⟩
  · split
    · exact ⟨_, rfl⟩
    · rename_i h1 h2
      have h3 : n1 + n2 = jI (n1 + n2).toInt := (jI_of _).symm
      have h4 : 0 ≤ (n1 + n2).toInt := by
        rw [Int32.lt_iff_toInt_lt] at h1
        have : (0 : Int32).toInt = 0 := by decide
        omega
      have h5 : (n1 + n2).toInt < 141 := by
        rw [Int32.le_iff_toInt_le] at h2
        have : (141 : Int32).toInt = 141 := by decide
        omega
      rw [h3]
      simp (disch := omega) only [isO_W, fR_W_0, ia_W, is_W, b_I, b_L, b_V, b_R, b_N, b_N0, Option.bind_some, ↓reduceIte, bq0, bq1, bz0, bz1, ite_not, Classical.not_not]
      exact ⟨_, rfl⟩
theorem C_hasGlove {w : Nat} {g : Int} (hw : w = 1 ∨ w = 51 ∨ w = 101) (hg : rg g) (hc : rg (F (w + 1) 25)) : m_M x k_World_hasGlove [.ref w, .int (jI g)] (mk F G) = some (some (.int (jI (if 0 ≤ g ∧ g < F (w + 1) 25 then 1 else 0))), mk F G) := by
  unfold rg at *
  rw [E_World_hasGlove]
  simp (disch := omega) only [lit_0, lit_1, lit_2, lit_3, lit_4, lit_5, lit_6, lit_7, lit_8, lit_9, lit_10, lit_11, lit_12, lit_13, lit_14, lit_15, lit_16, lit_17, lit_18, lit_19, lit_20, lit_21, lit_22, lit_23, lit_24, lit_25, lit_26, lit_27, lit_28, lit_29, lit_30, lit_31, lit_32, lit_33, lit_34, lit_35, lit_36, lit_37, lit_38, lit_39, lit_40, lit_41, lit_42, lit_43, lit_44, lit_45, lit_46, lit_47, lit_48, lit_49, lit_50, lit_51, lit_52, lit_53, lit_54, lit_55, lit_56, lit_57, lit_58, lit_59, lit_60, lit_61, lit_62, lit_63, lit_64, lit_65, lit_67, lit_70, lit_71, lit_73, lit_75, lit_78, lit_84, lit_85, lit_86, lit_87, lit_89, lit_90, lit_91, lit_95, lit_96, lit_97, lit_98, lit_99, lit_100, lit_101, lit_102, lit_103, lit_104, lit_105, lit_107, lit_108, lit_109, lit_110, lit_111, lit_112, lit_114, lit_115, lit_116, lit_117, lit_119, lit_121, lit_122, lit_126, lit_127, lit_128, lit_130, lit_134, lit_137, lit_139, lit_140, lit_141, lit_145, lit_152, lit_159, lit_160, lit_168, lit_174, lit_180, lit_183, lit_192, lit_199, lit_236, lit_251, lit_255, lit_272, lit_284, lit_300, lit_330, lit_373, lit_753, lit_800, lit_896, lit_900, lit_1000, lit_1001, lit_1002, lit_1003, lit_1079, lit_1276, lit_1330, lit_1450, lit_3012, lit_3016, lit_3300, lit_8430, lit_9999, lit_10000, lit_11730, lit_30467, lit_65536, lit_99999, lit_100000, lit_1000000, lit_252645135, lit_858993459, lit_1000000000, lit_1431655765, jI_add, jI_sub, jI_mul, jI_neg, jI_lt, jI_le, jI_eq, isO_W, fR_W_0, ia_W, is_W, b_I, b_L, b_V, b_R, b_N, b_N0, Option.bind_some, ↓reduceIte, bq0, bq1, bz0, bz1, ite_not, Classical.not_not]
  split
  · rw [if_neg (by omega)]
  · split
    · rw [if_neg (by omega)]
    · rw [if_pos (by omega)]
theorem C_hasFine {w : Nat} {g : Int} (hw : w = 1 ∨ w = 51 ∨ w = 101) (hg : rg g) (hc : rg (F (w + 1) 26)) : m_M x k_World_hasFine [.ref w, .int (jI g)] (mk F G) = some (some (.int (jI (if 0 ≤ g ∧ g < F (w + 1) 26 then 1 else 0))), mk F G) := by
  unfold rg at *
  rw [E_World_hasFine]
  simp (disch := omega) only [lit_0, lit_1, lit_2, lit_3, lit_4, lit_5, lit_6, lit_7, lit_8, lit_9, lit_10, lit_11, lit_12, lit_13, lit_14, lit_15, lit_16, lit_17, lit_18, lit_19, lit_20, lit_21, lit_22, lit_23, lit_24, lit_25, lit_26, lit_27, lit_28, lit_29, lit_30, lit_31, lit_32, lit_33, lit_34, lit_35, lit_36, lit_37, lit_38, lit_39, lit_40, lit_41, lit_42, lit_43, lit_44, lit_45, lit_46, lit_47, lit_48, lit_49, lit_50, lit_51, lit_52, lit_53, lit_54, lit_55, lit_56, lit_57, lit_58, lit_59, lit_60, lit_61, lit_62, lit_63, lit_64, lit_65, lit_67, lit_70, lit_71, lit_73, lit_75, lit_78, lit_84, lit_85, lit_86, lit_87, lit_89, lit_90, lit_91, lit_95, lit_96, lit_97, lit_98, lit_99, lit_100, lit_101, lit_102, lit_103, lit_104, lit_105, lit_107, lit_108, lit_109, lit_110, lit_111, lit_112, lit_114, lit_115, lit_116, lit_117, lit_119, lit_121, lit_122, lit_126, lit_127, lit_128, lit_130, lit_134, lit_137, lit_139, lit_140, lit_141, lit_145, lit_152, lit_159, lit_160, lit_168, lit_174, lit_180, lit_183, lit_192, lit_199, lit_236, lit_251, lit_255, lit_272, lit_284, lit_300, lit_330, lit_373, lit_753, lit_800, lit_896, lit_900, lit_1000, lit_1001, lit_1002, lit_1003, lit_1079, lit_1276, lit_1330, lit_1450, lit_3012, lit_3016, lit_3300, lit_8430, lit_9999, lit_10000, lit_11730, lit_30467, lit_65536, lit_99999, lit_100000, lit_1000000, lit_252645135, lit_858993459, lit_1000000000, lit_1431655765, jI_add, jI_sub, jI_mul, jI_neg, jI_lt, jI_le, jI_eq, isO_W, fR_W_0, ia_W, is_W, b_I, b_L, b_V, b_R, b_N, b_N0, Option.bind_some, ↓reduceIte, bq0, bq1, bz0, bz1, ite_not, Classical.not_not]
  split
  · rw [if_neg (by omega)]
  · split
    · rw [if_neg (by omega)]
    · rw [if_pos (by omega)]
theorem C_isHow {w : Nat} {g h : Int} (hw : w = 1 ∨ w = 51 ∨ w = 101) (hi : WI (F (w + 1))) (hg : rg g) (hh : rg h) : m_M x k_World_isHow [.ref w, .int (jI g), .int (jI h)] (mk F G) = some (some (.int (jI (if 0 ≤ g ∧ g < F (w + 1) 25 ∧ F (w + 1) (99 + g) = h then 1 else 0))), mk F G) := by
  have hc := WI_c hi
  unfold rg at *
  rw [E_World_isHow, C_hasGlove x F G hw hg (by unfold rg; omega)]
  simp (disch := omega) only [lit_0, lit_1, lit_2, lit_3, lit_4, lit_5, lit_6, lit_7, lit_8, lit_9, lit_10, lit_11, lit_12, lit_13, lit_14, lit_15, lit_16, lit_17, lit_18, lit_19, lit_20, lit_21, lit_22, lit_23, lit_24, lit_25, lit_26, lit_27, lit_28, lit_29, lit_30, lit_31, lit_32, lit_33, lit_34, lit_35, lit_36, lit_37, lit_38, lit_39, lit_40, lit_41, lit_42, lit_43, lit_44, lit_45, lit_46, lit_47, lit_48, lit_49, lit_50, lit_51, lit_52, lit_53, lit_54, lit_55, lit_56, lit_57, lit_58, lit_59, lit_60, lit_61, lit_62, lit_63, lit_64, lit_65, lit_67, lit_70, lit_71, lit_73, lit_75, lit_78, lit_84, lit_85, lit_86, lit_87, lit_89, lit_90, lit_91, lit_95, lit_96, lit_97, lit_98, lit_99, lit_100, lit_101, lit_102, lit_103, lit_104, lit_105, lit_107, lit_108, lit_109, lit_110, lit_111, lit_112, lit_114, lit_115, lit_116, lit_117, lit_119, lit_121, lit_122, lit_126, lit_127, lit_128, lit_130, lit_134, lit_137, lit_139, lit_140, lit_141, lit_145, lit_152, lit_159, lit_160, lit_168, lit_174, lit_180, lit_183, lit_192, lit_199, lit_236, lit_251, lit_255, lit_272, lit_284, lit_300, lit_330, lit_373, lit_753, lit_800, lit_896, lit_900, lit_1000, lit_1001, lit_1002, lit_1003, lit_1079, lit_1276, lit_1330, lit_1450, lit_3012, lit_3016, lit_3300, lit_8430, lit_9999, lit_10000, lit_11730, lit_30467, lit_65536, lit_99999, lit_100000, lit_1000000, lit_252645135, lit_858993459, lit_1000000000, lit_1431655765, jI_add, jI_sub, jI_mul, jI_neg, jI_lt, jI_le, jI_eq, isO_W, fR_W_0, ia_W, is_W, b_I, b_L, b_V, b_R, b_N, b_N0, Option.bind_some, ↓reduceIte, bq0, bq1, bz0, bz1, ite_not, Classical.not_not]
  by_cases h1 : 0 ≤ g ∧ g < F (w + 1) 25
  · have h2 := WI_g hi h1.1 (by omega)
    rw [if_pos h1, C_at x F G hw (by omega) (by omega)]
    simp (disch := omega) only [lit_0, lit_1, lit_2, lit_3, lit_4, lit_5, lit_6, lit_7, lit_8, lit_9, lit_10, lit_11, lit_12, lit_13, lit_14, lit_15, lit_16, lit_17, lit_18, lit_19, lit_20, lit_21, lit_22, lit_23, lit_24, lit_25, lit_26, lit_27, lit_28, lit_29, lit_30, lit_31, lit_32, lit_33, lit_34, lit_35, lit_36, lit_37, lit_38, lit_39, lit_40, lit_41, lit_42, lit_43, lit_44, lit_45, lit_46, lit_47, lit_48, lit_49, lit_50, lit_51, lit_52, lit_53, lit_54, lit_55, lit_56, lit_57, lit_58, lit_59, lit_60, lit_61, lit_62, lit_63, lit_64, lit_65, lit_67, lit_70, lit_71, lit_73, lit_75, lit_78, lit_84, lit_85, lit_86, lit_87, lit_89, lit_90, lit_91, lit_95, lit_96, lit_97, lit_98, lit_99, lit_100, lit_101, lit_102, lit_103, lit_104, lit_105, lit_107, lit_108, lit_109, lit_110, lit_111, lit_112, lit_114, lit_115, lit_116, lit_117, lit_119, lit_121, lit_122, lit_126, lit_127, lit_128, lit_130, lit_134, lit_137, lit_139, lit_140, lit_141, lit_145, lit_152, lit_159, lit_160, lit_168, lit_174, lit_180, lit_183, lit_192, lit_199, lit_236, lit_251, lit_255, lit_272, lit_284, lit_300, lit_330, lit_373, lit_753, lit_800, lit_896, lit_900, lit_1000, lit_1001, lit_1002, lit_1003, lit_1079, lit_1276, lit_1330, lit_1450, lit_3012, lit_3016, lit_3300, lit_8430, lit_9999, lit_10000, lit_11730, lit_30467, lit_65536, lit_99999, lit_100000, lit_1000000, lit_252645135, lit_858993459, lit_1000000000, lit_1431655765, jI_add, jI_sub, jI_mul, jI_neg, jI_lt, jI_le, jI_eq, isO_W, fR_W_0, ia_W, is_W, b_I, b_L, b_V, b_R, b_N, b_N0, Option.bind_some, ↓reduceIte, bq0, bq1, bz0, bz1, ite_not, Classical.not_not]
    split
    · rw [if_pos (by omega)]
    · rw [if_neg (by omega)]
  · rw [if_neg h1, if_neg (by omega)]
theorem C_isOpen {w : Nat} {g : Int} (hw : w = 1 ∨ w = 51 ∨ w = 101) (hi : WI (F (w + 1))) (hg : rg g) : m_M x k_World_isOpen [.ref w, .int (jI g)] (mk F G) = some (some (.int (jI (if 0 ≤ g ∧ g < F (w + 1) 25 ∧ (F (w + 1) (99 + g) = 0 ∨ F (w + 1) (99 + g) = 3) then 1 else 0))), mk F G) := by
  rw [E_World_isOpen]
  simp (disch := omega) only [lit_0, lit_1, lit_2, lit_3, lit_4, lit_5, lit_6, lit_7, lit_8, lit_9, lit_10, lit_11, lit_12, lit_13, lit_14, lit_15, lit_16, lit_17, lit_18, lit_19, lit_20, lit_21, lit_22, lit_23, lit_24, lit_25, lit_26, lit_27, lit_28, lit_29, lit_30, lit_31, lit_32, lit_33, lit_34, lit_35, lit_36, lit_37, lit_38, lit_39, lit_40, lit_41, lit_42, lit_43, lit_44, lit_45, lit_46, lit_47, lit_48, lit_49, lit_50, lit_51, lit_52, lit_53, lit_54, lit_55, lit_56, lit_57, lit_58, lit_59, lit_60, lit_61, lit_62, lit_63, lit_64, lit_65, lit_67, lit_70, lit_71, lit_73, lit_75, lit_78, lit_84, lit_85, lit_86, lit_87, lit_89, lit_90, lit_91, lit_95, lit_96, lit_97, lit_98, lit_99, lit_100, lit_101, lit_102, lit_103, lit_104, lit_105, lit_107, lit_108, lit_109, lit_110, lit_111, lit_112, lit_114, lit_115, lit_116, lit_117, lit_119, lit_121, lit_122, lit_126, lit_127, lit_128, lit_130, lit_134, lit_137, lit_139, lit_140, lit_141, lit_145, lit_152, lit_159, lit_160, lit_168, lit_174, lit_180, lit_183, lit_192, lit_199, lit_236, lit_251, lit_255, lit_272, lit_284, lit_300, lit_330, lit_373, lit_753, lit_800, lit_896, lit_900, lit_1000, lit_1001, lit_1002, lit_1003, lit_1079, lit_1276, lit_1330, lit_1450, lit_3012, lit_3016, lit_3300, lit_8430, lit_9999, lit_10000, lit_11730, lit_30467, lit_65536, lit_99999, lit_100000, lit_1000000, lit_252645135, lit_858993459, lit_1000000000, lit_1431655765, isO_W, fR_W_0, ia_W, is_W, b_I, b_L, b_V, b_R, b_N, b_N0, Option.bind_some, ↓reduceIte, bq0, bq1, bz0, bz1, ite_not, Classical.not_not]
  rw [C_isHow x F G hw hi hg (by unfold rg; omega)]
  simp (disch := omega) only [isO_W, fR_W_0, ia_W, is_W, b_I, b_L, b_V, b_R, b_N, b_N0, Option.bind_some, ↓reduceIte, bq0, bq1, bz0, bz1, ite_not, Classical.not_not]
  rw [C_isHow x F G hw hi hg (by unfold rg; omega)]
  simp (disch := omega) only [isO_W, fR_W_0, ia_W, is_W, b_I, b_L, b_V, b_R, b_N, b_N0, Option.bind_some, ↓reduceIte, bq0, bq1, bz0, bz1, ite_not, Classical.not_not]
  split
  · rw [if_pos (by omega)]
  · split
    · rw [if_pos (by omega)]
    · rw [if_neg (by omega)]
theorem C_dayCanPass {w : Nat} (hw : w = 1 ∨ w = 51 ∨ w = 101) (hc : rg (F (w + 1) 22)) : m_M x k_World_dayCanPass [.ref w] (mk F G) = some (some (.int (jI (if F (w + 1) 22 < 9999 then 1 else 0))), mk F G) := by
  unfold rg at *
  rw [E_World_dayCanPass]
  simp (disch := omega) only [lit_0, lit_1, lit_2, lit_3, lit_4, lit_5, lit_6, lit_7, lit_8, lit_9, lit_10, lit_11, lit_12, lit_13, lit_14, lit_15, lit_16, lit_17, lit_18, lit_19, lit_20, lit_21, lit_22, lit_23, lit_24, lit_25, lit_26, lit_27, lit_28, lit_29, lit_30, lit_31, lit_32, lit_33, lit_34, lit_35, lit_36, lit_37, lit_38, lit_39, lit_40, lit_41, lit_42, lit_43, lit_44, lit_45, lit_46, lit_47, lit_48, lit_49, lit_50, lit_51, lit_52, lit_53, lit_54, lit_55, lit_56, lit_57, lit_58, lit_59, lit_60, lit_61, lit_62, lit_63, lit_64, lit_65, lit_67, lit_70, lit_71, lit_73, lit_75, lit_78, lit_84, lit_85, lit_86, lit_87, lit_89, lit_90, lit_91, lit_95, lit_96, lit_97, lit_98, lit_99, lit_100, lit_101, lit_102, lit_103, lit_104, lit_105, lit_107, lit_108, lit_109, lit_110, lit_111, lit_112, lit_114, lit_115, lit_116, lit_117, lit_119, lit_121, lit_122, lit_126, lit_127, lit_128, lit_130, lit_134, lit_137, lit_139, lit_140, lit_141, lit_145, lit_152, lit_159, lit_160, lit_168, lit_174, lit_180, lit_183, lit_192, lit_199, lit_236, lit_251, lit_255, lit_272, lit_284, lit_300, lit_330, lit_373, lit_753, lit_800, lit_896, lit_900, lit_1000, lit_1001, lit_1002, lit_1003, lit_1079, lit_1276, lit_1330, lit_1450, lit_3012, lit_3016, lit_3300, lit_8430, lit_9999, lit_10000, lit_11730, lit_30467, lit_65536, lit_99999, lit_100000, lit_1000000, lit_252645135, lit_858993459, lit_1000000000, lit_1431655765, jI_add, jI_sub, jI_mul, jI_neg, jI_lt, jI_le, jI_eq, isO_W, fR_W_0, ia_W, is_W, b_I, b_L, b_V, b_R, b_N, b_N0, Option.bind_some, ↓reduceIte, bq0, bq1, bz0, bz1, ite_not, Classical.not_not]
  split
  · rw [if_neg (by omega)]
  · rw [if_pos (by omega)]
theorem C_max {a b : Int} (ha : rg a) (hb : rg b) : m_M x k_Math_max_II [.int (jI a), .int (jI b)] (mk F G) = some (some (.int (jI (max a b))), mk F G) := by
  unfold rg at *
  rw [E_Math_max_II]
  simp (disch := omega) only [jI_lt, jI_le, jI_eq]
  split
  · rw [Int.max_eq_right (by omega)]
  · rw [Int.max_eq_left (by omega)]
theorem C_min {a b : Int} (ha : rg a) (hb : rg b) : m_M x k_Math_min_II [.int (jI a), .int (jI b)] (mk F G) = some (some (.int (jI (min a b))), mk F G) := by
  unfold rg at *
  rw [E_Math_min_II]
  simp (disch := omega) only [jI_lt, jI_le, jI_eq]
  split
  · rw [Int.min_eq_right (by omega)]
  · rw [Int.min_eq_left (by omega)]
theorem C_abs {a : Int} (ha : -2147483648 < a) (ha2 : a ≤ 2147483647) : m_M x k_Math_abs [.int (jI a)] (mk F G) = some (some (.int (jI (if 0 ≤ a then a else -a))), mk F G) := by
  rw [E_Math_abs]
  simp (disch := omega) only [lit_0, lit_1, lit_2, lit_3, lit_4, lit_5, lit_6, lit_7, lit_8, lit_9, lit_10, lit_11, lit_12, lit_13, lit_14, lit_15, lit_16, lit_17, lit_18, lit_19, lit_20, lit_21, lit_22, lit_23, lit_24, lit_25, lit_26, lit_27, lit_28, lit_29, lit_30, lit_31, lit_32, lit_33, lit_34, lit_35, lit_36, lit_37, lit_38, lit_39, lit_40, lit_41, lit_42, lit_43, lit_44, lit_45, lit_46, lit_47, lit_48, lit_49, lit_50, lit_51, lit_52, lit_53, lit_54, lit_55, lit_56, lit_57, lit_58, lit_59, lit_60, lit_61, lit_62, lit_63, lit_64, lit_65, lit_67, lit_70, lit_71, lit_73, lit_75, lit_78, lit_84, lit_85, lit_86, lit_87, lit_89, lit_90, lit_91, lit_95, lit_96, lit_97, lit_98, lit_99, lit_100, lit_101, lit_102, lit_103, lit_104, lit_105, lit_107, lit_108, lit_109, lit_110, lit_111, lit_112, lit_114, lit_115, lit_116, lit_117, lit_119, lit_121, lit_122, lit_126, lit_127, lit_128, lit_130, lit_134, lit_137, lit_139, lit_140, lit_141, lit_145, lit_152, lit_159, lit_160, lit_168, lit_174, lit_180, lit_183, lit_192, lit_199, lit_236, lit_251, lit_255, lit_272, lit_284, lit_300, lit_330, lit_373, lit_753, lit_800, lit_896, lit_900, lit_1000, lit_1001, lit_1002, lit_1003, lit_1079, lit_1276, lit_1330, lit_1450, lit_3012, lit_3016, lit_3300, lit_8430, lit_9999, lit_10000, lit_11730, lit_30467, lit_65536, lit_99999, lit_100000, lit_1000000, lit_252645135, lit_858993459, lit_1000000000, lit_1431655765, jI_lt, jI_le, jI_eq, jI_add, jI_sub, jI_mul, jI_neg]
  split <;> rfl
end
