-- small calls: undo, by, end, fault, feed, is, about
section
variable (x : m_X) (F G : Nat → Fn)
theorem ok_fault {k : Int} (hR : Rel F) (hk : rg k) : Ok x F G k_G_fault k_M_fault [.int (jI k)] := by
  have h := hR.2.2.2.2.1
  unfold RD at h
  unfold rg at hk
  have e1 : m_M x k_G_fault [.ref 0, .int (jI k)] (mk F G) = some (some (.int (jI (if k = 0 then F 128 3 else if k = 1 then F 128 4 else -1))), mk F G) := by
    rw [E_G_fault]
    simp (disch := omega) only [lit_0, lit_1, lit_2, lit_3, lit_4, lit_5, lit_6, lit_7, lit_8, lit_9, lit_10, lit_11, lit_12, lit_13, lit_14, lit_15, lit_16, lit_17, lit_18, lit_19, lit_20, lit_21, lit_22, lit_23, lit_24, lit_25, lit_26, lit_27, lit_28, lit_29, lit_30, lit_31, lit_32, lit_33, lit_34, lit_35, lit_36, lit_37, lit_38, lit_39, lit_40, lit_41, lit_42, lit_43, lit_44, lit_45, lit_46, lit_47, lit_48, lit_49, lit_50, lit_51, lit_52, lit_53, lit_54, lit_55, lit_56, lit_57, lit_58, lit_59, lit_60, lit_61, lit_62, lit_63, lit_64, lit_65, lit_67, lit_70, lit_71, lit_73, lit_75, lit_78, lit_84, lit_85, lit_86, lit_87, lit_89, lit_90, lit_91, lit_95, lit_96, lit_97, lit_98, lit_99, lit_100, lit_101, lit_102, lit_103, lit_104, lit_105, lit_107, lit_108, lit_109, lit_110, lit_111, lit_112, lit_114, lit_115, lit_116, lit_117, lit_119, lit_121, lit_122, lit_126, lit_127, lit_128, lit_130, lit_134, lit_137, lit_139, lit_140, lit_141, lit_145, lit_152, lit_159, lit_160, lit_168, lit_174, lit_180, lit_183, lit_192, lit_199, lit_236, lit_251, lit_255, lit_272, lit_284, lit_300, lit_330, lit_373, lit_753, lit_800, lit_896, lit_900, lit_1000, lit_1001, lit_1002, lit_1003, lit_1079, lit_1276, lit_1330, lit_1450, lit_3012, lit_3016, lit_3300, lit_8430, lit_9999, lit_10000, lit_11730, lit_30467, lit_65536, lit_99999, lit_100000, lit_1000000, lit_252645135, lit_858993459, lit_1000000000, lit_1431655765, jI_add, jI_sub, jI_mul, jI_neg, jI_lt, jI_le, jI_eq, isO_0, fR_0_0, fR_0_1, fR_0_2, fR_0_3, fR_0_4, fR_0_5, fR_0_6, fR_0_7, fR_0_8, fR_0_9, fR_0_10, fR_0_11, fR_0_12, isO_128, fR_128_0, fR_128_1, fI_128_2, pf_128_2, fI_128_3, pf_128_3, fI_128_4, pf_128_4, fI_128_5, pf_128_5, fI_128_6, pf_128_6, fI_128_7, pf_128_7, fI_128_8, pf_128_8, fI_128_9, pf_128_9, b_I, b_L, b_V, b_R, b_N, b_N0, Option.bind_some, ↓reduceIte, bq0, bq1, bz0, bz1, ite_not, Classical.not_not]
    repeat' split
    all_goals rfl
  have e2 : m_M x k_M_fault [.ref 149, .int (jI k)] (mk F G) = some (some (.int (jI (if k = 0 then F 128 3 else if k = 1 then F 128 4 else -1))), mk F G) := by
    rw [E_M_fault]
    simp (disch := omega) only [lit_0, lit_1, lit_2, lit_3, lit_4, lit_5, lit_6, lit_7, lit_8, lit_9, lit_10, lit_11, lit_12, lit_13, lit_14, lit_15, lit_16, lit_17, lit_18, lit_19, lit_20, lit_21, lit_22, lit_23, lit_24, lit_25, lit_26, lit_27, lit_28, lit_29, lit_30, lit_31, lit_32, lit_33, lit_34, lit_35, lit_36, lit_37, lit_38, lit_39, lit_40, lit_41, lit_42, lit_43, lit_44, lit_45, lit_46, lit_47, lit_48, lit_49, lit_50, lit_51, lit_52, lit_53, lit_54, lit_55, lit_56, lit_57, lit_58, lit_59, lit_60, lit_61, lit_62, lit_63, lit_64, lit_65, lit_67, lit_70, lit_71, lit_73, lit_75, lit_78, lit_84, lit_85, lit_86, lit_87, lit_89, lit_90, lit_91, lit_95, lit_96, lit_97, lit_98, lit_99, lit_100, lit_101, lit_102, lit_103, lit_104, lit_105, lit_107, lit_108, lit_109, lit_110, lit_111, lit_112, lit_114, lit_115, lit_116, lit_117, lit_119, lit_121, lit_122, lit_126, lit_127, lit_128, lit_130, lit_134, lit_137, lit_139, lit_140, lit_141, lit_145, lit_152, lit_159, lit_160, lit_168, lit_174, lit_180, lit_183, lit_192, lit_199, lit_236, lit_251, lit_255, lit_272, lit_284, lit_300, lit_330, lit_373, lit_753, lit_800, lit_896, lit_900, lit_1000, lit_1001, lit_1002, lit_1003, lit_1079, lit_1276, lit_1330, lit_1450, lit_3012, lit_3016, lit_3300, lit_8430, lit_9999, lit_10000, lit_11730, lit_30467, lit_65536, lit_99999, lit_100000, lit_1000000, lit_252645135, lit_858993459, lit_1000000000, lit_1431655765, jI_add, jI_sub, jI_mul, jI_neg, jI_lt, jI_le, jI_eq, isO_149, fI_149_5, fI_149_6, b_I, b_L, b_V, b_R, b_N, b_N0, Option.bind_some, ↓reduceIte, bq0, bq1, bz0, bz1, ite_not, Classical.not_not, h.2.2.2.1, h.2.2.2.2.1]
    repeat' split
    all_goals rfl
  exact Ok_pure hR e1 e2
theorem ok_is {k : Int} (hR : Rel F) (hk : rg k) : Ok x F G k_G_is k_M_is [.int (jI k)] := by
  have hv := Rel_V0 hR
  have hk' := hk
  unfold rg at hk'
  have fw : m_fR (mk F G) 9 0 1 = some 2 := fR_W_0 F G (w := 1) (Or.inl rfl)
  have e1 : m_M x k_G_is [.ref 0, .int (jI k)] (mk F G) = some (some (.int (jI (if k = 0 then F 2 22 else if k = 1 then F 2 23 else if k = 2 then F 2 24 else if k = 3 then F 2 25 else -2))), mk F G) := by
    rw [E_G_is]
    simp (disch := omega) only [lit_0, lit_1, lit_2, lit_3, lit_4, lit_5, lit_6, lit_7, lit_8, lit_9, lit_10, lit_11, lit_12, lit_13, lit_14, lit_15, lit_16, lit_17, lit_18, lit_19, lit_20, lit_21, lit_22, lit_23, lit_24, lit_25, lit_26, lit_27, lit_28, lit_29, lit_30, lit_31, lit_32, lit_33, lit_34, lit_35, lit_36, lit_37, lit_38, lit_39, lit_40, lit_41, lit_42, lit_43, lit_44, lit_45, lit_46, lit_47, lit_48, lit_49, lit_50, lit_51, lit_52, lit_53, lit_54, lit_55, lit_56, lit_57, lit_58, lit_59, lit_60, lit_61, lit_62, lit_63, lit_64, lit_65, lit_67, lit_70, lit_71, lit_73, lit_75, lit_78, lit_84, lit_85, lit_86, lit_87, lit_89, lit_90, lit_91, lit_95, lit_96, lit_97, lit_98, lit_99, lit_100, lit_101, lit_102, lit_103, lit_104, lit_105, lit_107, lit_108, lit_109, lit_110, lit_111, lit_112, lit_114, lit_115, lit_116, lit_117, lit_119, lit_121, lit_122, lit_126, lit_127, lit_128, lit_130, lit_134, lit_137, lit_139, lit_140, lit_141, lit_145, lit_152, lit_159, lit_160, lit_168, lit_174, lit_180, lit_183, lit_192, lit_199, lit_236, lit_251, lit_255, lit_272, lit_284, lit_300, lit_330, lit_373, lit_753, lit_800, lit_896, lit_900, lit_1000, lit_1001, lit_1002, lit_1003, lit_1079, lit_1276, lit_1330, lit_1450, lit_3012, lit_3016, lit_3300, lit_8430, lit_9999, lit_10000, lit_11730, lit_30467, lit_65536, lit_99999, lit_100000, lit_1000000, lit_252645135, lit_858993459, lit_1000000000, lit_1431655765, jI_add, jI_sub, jI_mul, jI_neg, jI_lt, jI_le, jI_eq, isO_0, fR_0_0, fR_0_1, fR_0_2, fR_0_3, fR_0_4, fR_0_5, fR_0_6, fR_0_7, fR_0_8, fR_0_9, fR_0_10, fR_0_11, fR_0_12, fw, ia_2, is_2, b_I, b_L, b_V, b_R, b_N, b_N0, Option.bind_some, ↓reduceIte, bq0, bq1, bz0, bz1, ite_not, Classical.not_not]
    repeat' split
    all_goals rfl
  have e2 : m_M x k_M_is [.ref 149, .int (jI k)] (mk F G) = some (some (.int (jI (if k = 0 then F 2 22 else if k = 1 then F 2 23 else if k = 2 then F 2 24 else if k = 3 then F 2 25 else -2))), mk F G) := by
    rw [E_M_is]
    simp (disch := first | omega | assumption | (unfold rg; omega)) only [lit_0, lit_1, lit_2, lit_3, lit_4, lit_5, lit_6, lit_7, lit_8, lit_9, lit_10, lit_11, lit_12, lit_13, lit_14, lit_15, lit_16, lit_17, lit_18, lit_19, lit_20, lit_21, lit_22, lit_23, lit_24, lit_25, lit_26, lit_27, lit_28, lit_29, lit_30, lit_31, lit_32, lit_33, lit_34, lit_35, lit_36, lit_37, lit_38, lit_39, lit_40, lit_41, lit_42, lit_43, lit_44, lit_45, lit_46, lit_47, lit_48, lit_49, lit_50, lit_51, lit_52, lit_53, lit_54, lit_55, lit_56, lit_57, lit_58, lit_59, lit_60, lit_61, lit_62, lit_63, lit_64, lit_65, lit_67, lit_70, lit_71, lit_73, lit_75, lit_78, lit_84, lit_85, lit_86, lit_87, lit_89, lit_90, lit_91, lit_95, lit_96, lit_97, lit_98, lit_99, lit_100, lit_101, lit_102, lit_103, lit_104, lit_105, lit_107, lit_108, lit_109, lit_110, lit_111, lit_112, lit_114, lit_115, lit_116, lit_117, lit_119, lit_121, lit_122, lit_126, lit_127, lit_128, lit_130, lit_134, lit_137, lit_139, lit_140, lit_141, lit_145, lit_152, lit_159, lit_160, lit_168, lit_174, lit_180, lit_183, lit_192, lit_199, lit_236, lit_251, lit_255, lit_272, lit_284, lit_300, lit_330, lit_373, lit_753, lit_800, lit_896, lit_900, lit_1000, lit_1001, lit_1002, lit_1003, lit_1079, lit_1276, lit_1330, lit_1450, lit_3012, lit_3016, lit_3300, lit_8430, lit_9999, lit_10000, lit_11730, lit_30467, lit_65536, lit_99999, lit_100000, lit_1000000, lit_252645135, lit_858993459, lit_1000000000, lit_1431655765, jI_add, jI_sub, jI_mul, jI_neg, isO_149, fR_149_0, b_I, b_L, b_V, b_R, b_N, b_N0, Option.bind_some, ↓reduceIte, bq0, bq1, bz0, bz1, ite_not, Classical.not_not, M_isIn]
    by_cases q : 0 ≤ k ∧ k ≤ 3
    · have e : k = 0 ∨ k = 1 ∨ k = 2 ∨ k = 3 := by omega
      rw [if_pos q, ia_150 x F G (by omega) (by omega)]
      rcases e with rfl | rfl | rfl | rfl
      · have : F 150 8 = F 2 22 := by rw [← hv.2.1, V_22]
        simp [this]
      · have : F 150 9 = F 2 23 := by rw [← hv.2.2.1, V_23]
        simp [this]
      · have : F 150 10 = F 2 24 := by rw [← hv.2.2.2.1, V_24]
        simp [this]
      · have : F 150 11 = F 2 25 := by rw [← hv.2.2.2.2, V_25]
        simp [this]
    · rw [if_neg q, if_neg (by omega), if_neg (by omega), if_neg (by omega), if_neg (by omega)]
  exact Ok_pure hR e1 e2
theorem ok_about {k : Int} (hR : Rel F) (hk : rg k) : Ok x F G k_G_about k_M_about [.int (jI k)] := by
  have hv := Rel_V0 hR
  have hk' := hk
  unfold rg at hk'
  have hg := hR.1.1
  obtain ⟨r0, r1, r2, r3, r4, r5⟩ := hR.2.2.1
  unfold RT0 at r0
  unfold RT2 at r2
  unfold RT3 at r3
  unfold RT4 at r4
  unfold RT5 at r5
  simp only [Nat.reduceAdd] at r2 r3 r4 r5
  have h := hR.2.2.2.2.1
  unfold RD at h
  have fw : m_fR (mk F G) 9 0 1 = some 2 := fR_W_0 F G (w := 1) (Or.inl rfl)
  have e1 : m_M x k_G_about [.ref 0, .int (jI k)] (mk F G) = some (some (.int (jI (if k = 0 then F 2 0 else if k = 1 then F 36 7 else if k = 2 then F 36 8 else if k = 3 then F 3 2 else if k = 4 then F 39 1 else if k = 5 then F 41 1 else if k = 6 then F 43 1 else if k = 7 then F 47 1 else if k = 8 then F 128 2 else -2))), mk F G) := by
    rw [E_G_about]
    simp (disch := omega) only [lit_0, lit_1, lit_2, lit_3, lit_4, lit_5, lit_6, lit_7, lit_8, lit_9, lit_10, lit_11, lit_12, lit_13, lit_14, lit_15, lit_16, lit_17, lit_18, lit_19, lit_20, lit_21, lit_22, lit_23, lit_24, lit_25, lit_26, lit_27, lit_28, lit_29, lit_30, lit_31, lit_32, lit_33, lit_34, lit_35, lit_36, lit_37, lit_38, lit_39, lit_40, lit_41, lit_42, lit_43, lit_44, lit_45, lit_46, lit_47, lit_48, lit_49, lit_50, lit_51, lit_52, lit_53, lit_54, lit_55, lit_56, lit_57, lit_58, lit_59, lit_60, lit_61, lit_62, lit_63, lit_64, lit_65, lit_67, lit_70, lit_71, lit_73, lit_75, lit_78, lit_84, lit_85, lit_86, lit_87, lit_89, lit_90, lit_91, lit_95, lit_96, lit_97, lit_98, lit_99, lit_100, lit_101, lit_102, lit_103, lit_104, lit_105, lit_107, lit_108, lit_109, lit_110, lit_111, lit_112, lit_114, lit_115, lit_116, lit_117, lit_119, lit_121, lit_122, lit_126, lit_127, lit_128, lit_130, lit_134, lit_137, lit_139, lit_140, lit_141, lit_145, lit_152, lit_159, lit_160, lit_168, lit_174, lit_180, lit_183, lit_192, lit_199, lit_236, lit_251, lit_255, lit_272, lit_284, lit_300, lit_330, lit_373, lit_753, lit_800, lit_896, lit_900, lit_1000, lit_1001, lit_1002, lit_1003, lit_1079, lit_1276, lit_1330, lit_1450, lit_3012, lit_3016, lit_3300, lit_8430, lit_9999, lit_10000, lit_11730, lit_30467, lit_65536, lit_99999, lit_100000, lit_1000000, lit_252645135, lit_858993459, lit_1000000000, lit_1431655765, jI_add, jI_sub, jI_mul, jI_neg, jI_lt, jI_le, jI_eq, isO_0, fR_0_0, fR_0_1, fR_0_2, fR_0_3, fR_0_4, fR_0_5, fR_0_6, fR_0_7, fR_0_8, fR_0_9, fR_0_10, fR_0_11, fR_0_12, fw, ia_2, is_2, b_I, b_L, b_V, b_R, b_N, b_N0, Option.bind_some, ↓reduceIte, bq0, bq1, bz0, bz1, ite_not, Classical.not_not, isO_T, fR_T_0, fR_T_1, fR_T_2, fR_T_3, fR_T_4, fR_T_5, fR_T_6, fI_T_7, pf_T_7, fI_T_8, pf_T_8, isO_S, fR_S_0, fI_S_1, fI_S_2, pf_S_1, pf_S_2, aa_S, isO_R, fR_R_0, fI_R_1, pf_R_1, isO_128, fR_128_0, fR_128_1, fI_128_2, pf_128_2, fI_128_3, pf_128_3, fI_128_4, pf_128_4, fI_128_5, pf_128_5, fI_128_6, pf_128_6, fI_128_7, pf_128_7, fI_128_8, pf_128_8, fI_128_9, pf_128_9, Nat.reduceAdd]
    repeat' split
    all_goals rfl
  have e2 : m_M x k_M_about [.ref 149, .int (jI k)] (mk F G) = some (some (.int (jI (if k = 0 then F 2 0 else if k = 1 then F 36 7 else if k = 2 then F 36 8 else if k = 3 then F 3 2 else if k = 4 then F 39 1 else if k = 5 then F 41 1 else if k = 6 then F 43 1 else if k = 7 then F 47 1 else if k = 8 then F 128 2 else -2))), mk F G) := by
    rw [E_M_about]
    simp (disch := first | omega | assumption | (unfold rg; omega)) only [lit_0, lit_1, lit_2, lit_3, lit_4, lit_5, lit_6, lit_7, lit_8, lit_9, lit_10, lit_11, lit_12, lit_13, lit_14, lit_15, lit_16, lit_17, lit_18, lit_19, lit_20, lit_21, lit_22, lit_23, lit_24, lit_25, lit_26, lit_27, lit_28, lit_29, lit_30, lit_31, lit_32, lit_33, lit_34, lit_35, lit_36, lit_37, lit_38, lit_39, lit_40, lit_41, lit_42, lit_43, lit_44, lit_45, lit_46, lit_47, lit_48, lit_49, lit_50, lit_51, lit_52, lit_53, lit_54, lit_55, lit_56, lit_57, lit_58, lit_59, lit_60, lit_61, lit_62, lit_63, lit_64, lit_65, lit_67, lit_70, lit_71, lit_73, lit_75, lit_78, lit_84, lit_85, lit_86, lit_87, lit_89, lit_90, lit_91, lit_95, lit_96, lit_97, lit_98, lit_99, lit_100, lit_101, lit_102, lit_103, lit_104, lit_105, lit_107, lit_108, lit_109, lit_110, lit_111, lit_112, lit_114, lit_115, lit_116, lit_117, lit_119, lit_121, lit_122, lit_126, lit_127, lit_128, lit_130, lit_134, lit_137, lit_139, lit_140, lit_141, lit_145, lit_152, lit_159, lit_160, lit_168, lit_174, lit_180, lit_183, lit_192, lit_199, lit_236, lit_251, lit_255, lit_272, lit_284, lit_300, lit_330, lit_373, lit_753, lit_800, lit_896, lit_900, lit_1000, lit_1001, lit_1002, lit_1003, lit_1079, lit_1276, lit_1330, lit_1450, lit_3012, lit_3016, lit_3300, lit_8430, lit_9999, lit_10000, lit_11730, lit_30467, lit_65536, lit_99999, lit_100000, lit_1000000, lit_252645135, lit_858993459, lit_1000000000, lit_1431655765, jI_add, jI_sub, jI_mul, jI_neg, jI_lt, jI_le, jI_eq, isO_149, fR_149_0, fI_149_4, b_I, b_L, b_V, b_R, b_N, b_N0, Option.bind_some, ↓reduceIte, bq0, bq1, bz0, bz1, ite_not, Classical.not_not, M_isIn]
    by_cases q : 0 ≤ k ∧ k ≤ 7
    · have e : k = 0 ∨ k = 1 ∨ k = 2 ∨ k = 3 ∨ k = 4 ∨ k = 5 ∨ k = 6 ∨ k = 7 := by omega
      rw [if_pos q, ia_150 x F G (by omega) (by omega)]
      rcases e with rfl | rfl | rfl | rfl | rfl | rfl | rfl | rfl
      · have : F 150 0 = F 2 0 := by rw [← hv.1, V_0]
        simp [this]
      · simp [r0.1]
      · simp [r0.2.2.2.1]
      · simp [hg.2.2.2.2]
      · simp [r2.1]
      · simp [r3.1]
      · simp [r4.1]
      · simp [r5.1]
    · have n0 : ¬ k = 0 := by omega
      have n1 : ¬ k = 1 := by omega
      have n2 : ¬ k = 2 := by omega
      have n3 : ¬ k = 3 := by omega
      have n4 : ¬ k = 4 := by omega
      have n5 : ¬ k = 5 := by omega
      have n6 : ¬ k = 6 := by omega
      have n7 : ¬ k = 7 := by omega
      simp only [if_neg q, if_neg n0, if_neg n1, if_neg n2, if_neg n3, if_neg n4, if_neg n5, if_neg n6, if_neg n7]
      by_cases q8 : k = 8
      · rw [if_pos q8, if_pos q8, h.1]
      · rw [if_neg q8, if_neg q8]
  exact Ok_pure hR e1 e2
theorem ok_end {k : Int} (hR : Rel F) (hk : rg k) : Ok x F G k_G_end k_M_end [.int (jI k)] := by
  have h := hR.2.2.2.2.1
  have hd := h
  unfold RD at h
  have e1 : m_M x k_G_end [.ref 0, .int (jI k)] (mk F G) = if 0 ≤ k ∧ k ≤ F 128 2 then some (some (.int (jI k)), mk (sA F 128 (u (F 128) 2 k)) G) else some (some (.int (jI (-1))), mk F G) := by
    rw [E_G_end]
    simp (disch := first | omega | assumption | (unfold rg; omega)) only [lit_0, lit_1, lit_2, lit_3, lit_4, lit_5, lit_6, lit_7, lit_8, lit_9, lit_10, lit_11, lit_12, lit_13, lit_14, lit_15, lit_16, lit_17, lit_18, lit_19, lit_20, lit_21, lit_22, lit_23, lit_24, lit_25, lit_26, lit_27, lit_28, lit_29, lit_30, lit_31, lit_32, lit_33, lit_34, lit_35, lit_36, lit_37, lit_38, lit_39, lit_40, lit_41, lit_42, lit_43, lit_44, lit_45, lit_46, lit_47, lit_48, lit_49, lit_50, lit_51, lit_52, lit_53, lit_54, lit_55, lit_56, lit_57, lit_58, lit_59, lit_60, lit_61, lit_62, lit_63, lit_64, lit_65, lit_67, lit_70, lit_71, lit_73, lit_75, lit_78, lit_84, lit_85, lit_86, lit_87, lit_89, lit_90, lit_91, lit_95, lit_96, lit_97, lit_98, lit_99, lit_100, lit_101, lit_102, lit_103, lit_104, lit_105, lit_107, lit_108, lit_109, lit_110, lit_111, lit_112, lit_114, lit_115, lit_116, lit_117, lit_119, lit_121, lit_122, lit_126, lit_127, lit_128, lit_130, lit_134, lit_137, lit_139, lit_140, lit_141, lit_145, lit_152, lit_159, lit_160, lit_168, lit_174, lit_180, lit_183, lit_192, lit_199, lit_236, lit_251, lit_255, lit_272, lit_284, lit_300, lit_330, lit_373, lit_753, lit_800, lit_896, lit_900, lit_1000, lit_1001, lit_1002, lit_1003, lit_1079, lit_1276, lit_1330, lit_1450, lit_3012, lit_3016, lit_3300, lit_8430, lit_9999, lit_10000, lit_11730, lit_30467, lit_65536, lit_99999, lit_100000, lit_1000000, lit_252645135, lit_858993459, lit_1000000000, lit_1431655765, jI_add, jI_sub, jI_mul, jI_neg, isO_0, fR_0_0, fR_0_1, fR_0_2, fR_0_3, fR_0_4, fR_0_5, fR_0_6, fR_0_7, fR_0_8, fR_0_9, fR_0_10, fR_0_11, fR_0_12, isO_128, fR_128_0, fR_128_1, fI_128_2, pf_128_2, fI_128_3, pf_128_3, fI_128_4, pf_128_4, fI_128_5, pf_128_5, fI_128_6, pf_128_6, fI_128_7, pf_128_7, fI_128_8, pf_128_8, fI_128_9, pf_128_9, b_I, b_L, b_V, b_R, b_N, b_N0, Option.bind_some, ↓reduceIte, bq0, bq1, bz0, bz1, ite_not, Classical.not_not, C_isIn]
  have e2 : ∀ F' : Nat → Fn, F' 149 = F 149 → m_M x k_M_end [.ref 149, .int (jI k)] (mk F' G) = if 0 ≤ k ∧ k ≤ F 128 2 then some (some (.int (jI k)), mk (sA F' 149 (u (F 149) 4 k)) G) else some (some (.int (jI (-1))), mk F' G) := by
    intro F' e
    rw [E_M_end]
    simp (disch := first | omega | assumption | (unfold rg; omega)) only [lit_0, lit_1, lit_2, lit_3, lit_4, lit_5, lit_6, lit_7, lit_8, lit_9, lit_10, lit_11, lit_12, lit_13, lit_14, lit_15, lit_16, lit_17, lit_18, lit_19, lit_20, lit_21, lit_22, lit_23, lit_24, lit_25, lit_26, lit_27, lit_28, lit_29, lit_30, lit_31, lit_32, lit_33, lit_34, lit_35, lit_36, lit_37, lit_38, lit_39, lit_40, lit_41, lit_42, lit_43, lit_44, lit_45, lit_46, lit_47, lit_48, lit_49, lit_50, lit_51, lit_52, lit_53, lit_54, lit_55, lit_56, lit_57, lit_58, lit_59, lit_60, lit_61, lit_62, lit_63, lit_64, lit_65, lit_67, lit_70, lit_71, lit_73, lit_75, lit_78, lit_84, lit_85, lit_86, lit_87, lit_89, lit_90, lit_91, lit_95, lit_96, lit_97, lit_98, lit_99, lit_100, lit_101, lit_102, lit_103, lit_104, lit_105, lit_107, lit_108, lit_109, lit_110, lit_111, lit_112, lit_114, lit_115, lit_116, lit_117, lit_119, lit_121, lit_122, lit_126, lit_127, lit_128, lit_130, lit_134, lit_137, lit_139, lit_140, lit_141, lit_145, lit_152, lit_159, lit_160, lit_168, lit_174, lit_180, lit_183, lit_192, lit_199, lit_236, lit_251, lit_255, lit_272, lit_284, lit_300, lit_330, lit_373, lit_753, lit_800, lit_896, lit_900, lit_1000, lit_1001, lit_1002, lit_1003, lit_1079, lit_1276, lit_1330, lit_1450, lit_3012, lit_3016, lit_3300, lit_8430, lit_9999, lit_10000, lit_11730, lit_30467, lit_65536, lit_99999, lit_100000, lit_1000000, lit_252645135, lit_858993459, lit_1000000000, lit_1431655765, jI_add, jI_sub, jI_mul, jI_neg, isO_149, fI_149_4, pf_149_4, b_I, b_L, b_V, b_R, b_N, b_N0, Option.bind_some, ↓reduceIte, bq0, bq1, bz0, bz1, ite_not, Classical.not_not, M_isIn, e, h.1]
  by_cases hC : 0 ≤ k ∧ k ≤ F 128 2
  · have q := e2 (sA F 128 (u (F 128) 2 k)) (sA_ne _ _ (by omega))
    rw [if_pos hC] at e1 q
    refine ⟨_, _, _, _, e1, q, ?_⟩
    have eo : ∀ b, ¬ b = 128 → ¬ b = 149 → sA (sA F 128 (u (F 128) 2 k)) 149 (u (F 149) 4 k) b = F b := fun b h1 h2 => by rw [sA_ne _ _ h2, sA_ne _ _ h1]
    refine Rel_live hR (fun b hb => eo b (by omega) (by omega)) ?_ ?_ ?_
    · unfold RD
      rw [sA_eq, sA_ne _ _ (by omega : ¬ 128 = 149), sA_eq, eo 153 (by omega) (by omega), eo 135 (by omega) (by omega), u_eq, u_eq, u_ne _ _ (by omega), u_ne _ _ (by omega), u_ne _ _ (by omega), u_ne _ _ (by omega), u_ne _ _ (by omega)]
      refine ⟨rfl, hC.1, by omega, h.2.2.2.1, h.2.2.2.2.1, h.2.2.2.2.2.1, h.2.2.2.2.2.2.1, h.2.2.2.2.2.2.2.1, ?_⟩
      intro i i0 i1
      exact h.2.2.2.2.2.2.2.2 i i0 (by omega)
    · rw [eo 150 (by omega) (by omega)]
      exact RS_ob (eo _ (by omega) (by omega)) (eo _ (by omega) (by omega)) (fun i hi => eo _ (by omega) (by omega)) hR.1
    · intro j _
      rw [eo 150 (by omega) (by omega)]
  · have q := e2 F rfl
    rw [if_neg hC] at e1 q
    exact Ok_pure hR e1 q
theorem ok_by {k : Int} (hR : Rel F) (hk : rg k) : Ok x F G k_G_by k_M_by [.int (jI k)] := by
  have hk' := hk
  unfold rg at hk'
  obtain ⟨r0, r1, r2, r3, r4, r5⟩ := hR.2.2.1
  have r0' := r0
  unfold RT0 at r0'
  have hit := C_isText x F G (t := k) hk (by omega) (by omega)
  have e1 : m_M x k_G_by [.ref 0, .int (jI k)] (mk F G) = if -1 ≤ k ∧ k < F 36 7 then some (some (.int (jI 1)), mk (sA F 36 (u (F 36) 8 k)) G) else some (some (.int (jI 0)), mk F G) := by
    rw [E_G_by]
    simp (disch := omega) only [lit_0, lit_1, lit_2, lit_3, lit_4, lit_5, lit_6, lit_7, lit_8, lit_9, lit_10, lit_11, lit_12, lit_13, lit_14, lit_15, lit_16, lit_17, lit_18, lit_19, lit_20, lit_21, lit_22, lit_23, lit_24, lit_25, lit_26, lit_27, lit_28, lit_29, lit_30, lit_31, lit_32, lit_33, lit_34, lit_35, lit_36, lit_37, lit_38, lit_39, lit_40, lit_41, lit_42, lit_43, lit_44, lit_45, lit_46, lit_47, lit_48, lit_49, lit_50, lit_51, lit_52, lit_53, lit_54, lit_55, lit_56, lit_57, lit_58, lit_59, lit_60, lit_61, lit_62, lit_63, lit_64, lit_65, lit_67, lit_70, lit_71, lit_73, lit_75, lit_78, lit_84, lit_85, lit_86, lit_87, lit_89, lit_90, lit_91, lit_95, lit_96, lit_97, lit_98, lit_99, lit_100, lit_101, lit_102, lit_103, lit_104, lit_105, lit_107, lit_108, lit_109, lit_110, lit_111, lit_112, lit_114, lit_115, lit_116, lit_117, lit_119, lit_121, lit_122, lit_126, lit_127, lit_128, lit_130, lit_134, lit_137, lit_139, lit_140, lit_141, lit_145, lit_152, lit_159, lit_160, lit_168, lit_174, lit_180, lit_183, lit_192, lit_199, lit_236, lit_251, lit_255, lit_272, lit_284, lit_300, lit_330, lit_373, lit_753, lit_800, lit_896, lit_900, lit_1000, lit_1001, lit_1002, lit_1003, lit_1079, lit_1276, lit_1330, lit_1450, lit_3012, lit_3016, lit_3300, lit_8430, lit_9999, lit_10000, lit_11730, lit_30467, lit_65536, lit_99999, lit_100000, lit_1000000, lit_252645135, lit_858993459, lit_1000000000, lit_1431655765, jI_add, jI_sub, jI_mul, jI_neg, jI_lt, jI_le, jI_eq, isO_0, fR_0_0, fR_0_1, fR_0_2, fR_0_3, fR_0_4, fR_0_5, fR_0_6, fR_0_7, fR_0_8, fR_0_9, fR_0_10, fR_0_11, fR_0_12, isO_T, fR_T_0, fR_T_1, fR_T_2, fR_T_3, fR_T_4, fR_T_5, fR_T_6, fI_T_7, pf_T_7, fI_T_8, pf_T_8, b_I, b_L, b_V, b_R, b_N, b_N0, Option.bind_some, ↓reduceIte, bq0, bq1, bz0, bz1, ite_not, Classical.not_not, hit]
    by_cases q0 : k = -1
    · rw [if_pos q0, if_pos (by omega)]
    · rw [if_neg q0]
      by_cases q1 : 0 ≤ k ∧ k < F 36 7
      · rw [if_pos q1, if_pos (by omega)]
      · rw [if_neg q1, if_neg (by omega)]
  have e2 : ∀ F' : Nat → Fn, F' 150 = F 150 → m_M x k_M_by [.ref 149, .int (jI k)] (mk F' G) = if -1 ≤ k ∧ k < F 36 7 then some (some (.int (jI 1)), mk (sA F' 150 (u (F 150) 2 k)) G) else some (some (.int (jI 0)), mk F' G) := by
    intro F' e
    rw [E_M_by]
    simp (disch := first | omega | assumption | (unfold rg; omega)) only [lit_0, lit_1, lit_2, lit_3, lit_4, lit_5, lit_6, lit_7, lit_8, lit_9, lit_10, lit_11, lit_12, lit_13, lit_14, lit_15, lit_16, lit_17, lit_18, lit_19, lit_20, lit_21, lit_22, lit_23, lit_24, lit_25, lit_26, lit_27, lit_28, lit_29, lit_30, lit_31, lit_32, lit_33, lit_34, lit_35, lit_36, lit_37, lit_38, lit_39, lit_40, lit_41, lit_42, lit_43, lit_44, lit_45, lit_46, lit_47, lit_48, lit_49, lit_50, lit_51, lit_52, lit_53, lit_54, lit_55, lit_56, lit_57, lit_58, lit_59, lit_60, lit_61, lit_62, lit_63, lit_64, lit_65, lit_67, lit_70, lit_71, lit_73, lit_75, lit_78, lit_84, lit_85, lit_86, lit_87, lit_89, lit_90, lit_91, lit_95, lit_96, lit_97, lit_98, lit_99, lit_100, lit_101, lit_102, lit_103, lit_104, lit_105, lit_107, lit_108, lit_109, lit_110, lit_111, lit_112, lit_114, lit_115, lit_116, lit_117, lit_119, lit_121, lit_122, lit_126, lit_127, lit_128, lit_130, lit_134, lit_137, lit_139, lit_140, lit_141, lit_145, lit_152, lit_159, lit_160, lit_168, lit_174, lit_180, lit_183, lit_192, lit_199, lit_236, lit_251, lit_255, lit_272, lit_284, lit_300, lit_330, lit_373, lit_753, lit_800, lit_896, lit_900, lit_1000, lit_1001, lit_1002, lit_1003, lit_1079, lit_1276, lit_1330, lit_1450, lit_3012, lit_3016, lit_3300, lit_8430, lit_9999, lit_10000, lit_11730, lit_30467, lit_65536, lit_99999, lit_100000, lit_1000000, lit_252645135, lit_858993459, lit_1000000000, lit_1431655765, jI_add, jI_sub, jI_mul, jI_neg, isO_149, fR_149_0, ia_150, is_150, b_I, b_L, b_V, b_R, b_N, b_N0, Option.bind_some, ↓reduceIte, bq0, bq1, bz0, bz1, ite_not, Classical.not_not, M_isIn, e, r0'.1]
    by_cases q1 : -1 ≤ k ∧ k < F 36 7
    · rw [if_pos q1, if_pos (by omega)]
    · rw [if_neg q1, if_neg (by omega)]
  by_cases hC : -1 ≤ k ∧ k < F 36 7
  · have q := e2 (sA F 36 (u (F 36) 8 k)) (sA_ne _ _ (by omega))
    rw [if_pos hC] at e1 q
    refine ⟨_, _, _, _, e1, q, ?_⟩
    have eo : ∀ b, ¬ b = 36 → ¬ b = 150 → sA (sA F 36 (u (F 36) 8 k)) 150 (u (F 150) 2 k) b = F b := fun b h1 h2 => by rw [sA_ne _ _ h2, sA_ne _ _ h1]
    have e36 : sA (sA F 36 (u (F 36) 8 k)) 150 (u (F 150) 2 k) 36 = u (F 36) 8 k := by rw [sA_ne _ _ (by omega), sA_eq]
    refine Rel_told hR (fun b h1 h2 => eo b (by omega) h2) ?_ ?_ ?_
    · intro j hj
      rw [sA_eq, u_ne _ _ (by omega)]
    · rw [sA_eq]
      refine ⟨?_, RT1_cg (fun _ _ _ => by rw [eo _ (by omega) (by omega)]) (fun k _ _ => u_ne _ _ (by omega)) r1, RT2_cg (by rw [eo _ (by omega) (by omega)]) (fun _ _ _ => by rw [eo _ (by omega) (by omega)]) (u_ne _ _ (by omega)) (fun k _ _ => u_ne _ _ (by omega)) r2, RT3_cg (by rw [eo _ (by omega) (by omega)]) (fun _ _ _ => by rw [eo _ (by omega) (by omega)]) (u_ne _ _ (by omega)) (fun k _ _ => u_ne _ _ (by omega)) r3, RT4_cg (by rw [eo _ (by omega) (by omega)]) (by rw [eo _ (by omega) (by omega)]) (fun _ _ _ => by rw [eo _ (by omega) (by omega), eo _ (by omega) (by omega)]; exact ⟨rfl, rfl⟩) (u_ne _ _ (by omega)) (fun k _ _ => u_ne _ _ (by omega)) r4, RT5_cg (by rw [eo _ (by omega) (by omega)]) (by rw [eo _ (by omega) (by omega)]) (fun _ _ _ => by rw [eo _ (by omega) (by omega), eo _ (by omega) (by omega)]; exact ⟨rfl, rfl⟩) (u_ne _ _ (by omega)) (fun k _ _ => u_ne _ _ (by omega)) r5⟩
      unfold RT0
      rw [e36, u_eq, u_eq, u_ne _ _ (by omega), u_ne _ _ (by omega)]
      omega
    · rw [e36, u_ne _ _ (by omega)]
  · have q := e2 F rfl
    rw [if_neg hC] at e1 q
    exact Ok_pure hR e1 q
theorem ok_undo (hR : Rel F) : Ok x F G k_G_undo k_M_undo [] := by
  have hw : WI (F 2) := RS_WI hR.1
  have hc := WI_c hw
  have g := hR.1
  have g1 := hR.1.1
  have fS : m_fI (mk F G) 6 2 3 = some (jI (F 3 2)) := fI_S_2 F G (w := 3) (Or.inl rfl)
  by_cases hm : F 3 2 = 0
  · have e1 : m_M x k_G_undo [.ref 0] (mk F G) = some (some (.int (jI (-1))), mk F G) := by
      have et : m_M x k_Steps_takeBack [.ref 3, .ref 1] (mk F G) = some (some (.int (jI 0)), mk F G) := by
        rw [E_Steps_takeBack]
        simp (disch := omega) only [lit_0, lit_1, lit_2, lit_3, lit_4, lit_5, lit_6, lit_7, lit_8, lit_9, lit_10, lit_11, lit_12, lit_13, lit_14, lit_15, lit_16, lit_17, lit_18, lit_19, lit_20, lit_21, lit_22, lit_23, lit_24, lit_25, lit_26, lit_27, lit_28, lit_29, lit_30, lit_31, lit_32, lit_33, lit_34, lit_35, lit_36, lit_37, lit_38, lit_39, lit_40, lit_41, lit_42, lit_43, lit_44, lit_45, lit_46, lit_47, lit_48, lit_49, lit_50, lit_51, lit_52, lit_53, lit_54, lit_55, lit_56, lit_57, lit_58, lit_59, lit_60, lit_61, lit_62, lit_63, lit_64, lit_65, lit_67, lit_70, lit_71, lit_73, lit_75, lit_78, lit_84, lit_85, lit_86, lit_87, lit_89, lit_90, lit_91, lit_95, lit_96, lit_97, lit_98, lit_99, lit_100, lit_101, lit_102, lit_103, lit_104, lit_105, lit_107, lit_108, lit_109, lit_110, lit_111, lit_112, lit_114, lit_115, lit_116, lit_117, lit_119, lit_121, lit_122, lit_126, lit_127, lit_128, lit_130, lit_134, lit_137, lit_139, lit_140, lit_141, lit_145, lit_152, lit_159, lit_160, lit_168, lit_174, lit_180, lit_183, lit_192, lit_199, lit_236, lit_251, lit_255, lit_272, lit_284, lit_300, lit_330, lit_373, lit_753, lit_800, lit_896, lit_900, lit_1000, lit_1001, lit_1002, lit_1003, lit_1079, lit_1276, lit_1330, lit_1450, lit_3012, lit_3016, lit_3300, lit_8430, lit_9999, lit_10000, lit_11730, lit_30467, lit_65536, lit_99999, lit_100000, lit_1000000, lit_252645135, lit_858993459, lit_1000000000, lit_1431655765, jI_lt, jI_le, jI_eq, isO_S, fR_S_0, fI_S_1, fI_S_2, pf_S_1, pf_S_2, aa_S, b_I, b_L, b_V, b_R, b_N, b_N0, Option.bind_some, ↓reduceIte, bq0, bq1, bz0, bz1, ite_not, Classical.not_not]
        rw [if_neg (by omega)]
      rw [E_G_undo]
      simp only [lit_0, lit_1, lit_2, lit_3, lit_4, lit_5, lit_6, lit_7, lit_8, lit_9, lit_10, lit_11, lit_12, lit_13, lit_14, lit_15, lit_16, lit_17, lit_18, lit_19, lit_20, lit_21, lit_22, lit_23, lit_24, lit_25, lit_26, lit_27, lit_28, lit_29, lit_30, lit_31, lit_32, lit_33, lit_34, lit_35, lit_36, lit_37, lit_38, lit_39, lit_40, lit_41, lit_42, lit_43, lit_44, lit_45, lit_46, lit_47, lit_48, lit_49, lit_50, lit_51, lit_52, lit_53, lit_54, lit_55, lit_56, lit_57, lit_58, lit_59, lit_60, lit_61, lit_62, lit_63, lit_64, lit_65, lit_67, lit_70, lit_71, lit_73, lit_75, lit_78, lit_84, lit_85, lit_86, lit_87, lit_89, lit_90, lit_91, lit_95, lit_96, lit_97, lit_98, lit_99, lit_100, lit_101, lit_102, lit_103, lit_104, lit_105, lit_107, lit_108, lit_109, lit_110, lit_111, lit_112, lit_114, lit_115, lit_116, lit_117, lit_119, lit_121, lit_122, lit_126, lit_127, lit_128, lit_130, lit_134, lit_137, lit_139, lit_140, lit_141, lit_145, lit_152, lit_159, lit_160, lit_168, lit_174, lit_180, lit_183, lit_192, lit_199, lit_236, lit_251, lit_255, lit_272, lit_284, lit_300, lit_330, lit_373, lit_753, lit_800, lit_896, lit_900, lit_1000, lit_1001, lit_1002, lit_1003, lit_1079, lit_1276, lit_1330, lit_1450, lit_3012, lit_3016, lit_3300, lit_8430, lit_9999, lit_10000, lit_11730, lit_30467, lit_65536, lit_99999, lit_100000, lit_1000000, lit_252645135, lit_858993459, lit_1000000000, lit_1431655765, jI_add, jI_sub, jI_mul, jI_neg, isO_0, fR_0_0, fR_0_1, fR_0_2, fR_0_3, fR_0_4, fR_0_5, fR_0_6, fR_0_7, fR_0_8, fR_0_9, fR_0_10, fR_0_11, fR_0_12, b_I, b_L, b_V, b_R, b_N, b_N0, Option.bind_some, ↓reduceIte, bq0, bq1, bz0, bz1, ite_not, Classical.not_not, et]
    have e2 : m_M x k_M_undo [.ref 149] (mk F G) = some (some (.int (jI (-1))), mk F G) := by
      rw [E_M_undo]
      simp (disch := omega) only [lit_0, lit_1, lit_2, lit_3, lit_4, lit_5, lit_6, lit_7, lit_8, lit_9, lit_10, lit_11, lit_12, lit_13, lit_14, lit_15, lit_16, lit_17, lit_18, lit_19, lit_20, lit_21, lit_22, lit_23, lit_24, lit_25, lit_26, lit_27, lit_28, lit_29, lit_30, lit_31, lit_32, lit_33, lit_34, lit_35, lit_36, lit_37, lit_38, lit_39, lit_40, lit_41, lit_42, lit_43, lit_44, lit_45, lit_46, lit_47, lit_48, lit_49, lit_50, lit_51, lit_52, lit_53, lit_54, lit_55, lit_56, lit_57, lit_58, lit_59, lit_60, lit_61, lit_62, lit_63, lit_64, lit_65, lit_67, lit_70, lit_71, lit_73, lit_75, lit_78, lit_84, lit_85, lit_86, lit_87, lit_89, lit_90, lit_91, lit_95, lit_96, lit_97, lit_98, lit_99, lit_100, lit_101, lit_102, lit_103, lit_104, lit_105, lit_107, lit_108, lit_109, lit_110, lit_111, lit_112, lit_114, lit_115, lit_116, lit_117, lit_119, lit_121, lit_122, lit_126, lit_127, lit_128, lit_130, lit_134, lit_137, lit_139, lit_140, lit_141, lit_145, lit_152, lit_159, lit_160, lit_168, lit_174, lit_180, lit_183, lit_192, lit_199, lit_236, lit_251, lit_255, lit_272, lit_284, lit_300, lit_330, lit_373, lit_753, lit_800, lit_896, lit_900, lit_1000, lit_1001, lit_1002, lit_1003, lit_1079, lit_1276, lit_1330, lit_1450, lit_3012, lit_3016, lit_3300, lit_8430, lit_9999, lit_10000, lit_11730, lit_30467, lit_65536, lit_99999, lit_100000, lit_1000000, lit_252645135, lit_858993459, lit_1000000000, lit_1431655765, jI_add, jI_sub, jI_mul, jI_neg, jI_lt, jI_le, jI_eq, isO_149, fR_149_0, ia_150, is_150, b_I, b_L, b_V, b_R, b_N, b_N0, Option.bind_some, ↓reduceIte, bq0, bq1, bz0, bz1, ite_not, Classical.not_not]
      rw [if_pos (by omega)]
    exact Ok_pure hR e1 e2
  · have hr := g.2.1 (F 3 2 - 1) (by omega) (by omega)
    have hl := g.2.2.1 (F 3 2 - 1) (by omega) (by omega)
    have en : F 3 2 - 1 + 1 = F 3 2 := by omega
    rw [en, rowC_top] at hl
    rw [rowC_lo F 1 3 (by omega)] at hr hl
    have hrc := WI_c hr.1
    have hle := hl.1
    have r0 : F (3 + 2 + ((F 3 1 + (F 3 2 - 1)) % 31).toNat) 0 = F 150 (180 + 104 * (F 150 3 - 1)) := by
      rw [hr.2.1.1 0 (by unfold vok; omega) (by omega), V_0, rowM_lo _ (by omega)]
      have e : F 3 2 - 1 = F 150 3 - 1 := by omega
      rw [e]
      rfl
    have c0 : F 2 0 = F 150 0 := by
      have q := (Rel_V0 hR).1
      rw [V_0] at q
      exact q.symm
    have et := C_takeBackS x F G (s := 3) (w := 1) (Or.inl rfl) (Or.inl rfl) (by omega) (by omega) (by omega) (by omega) (by omega) (by exact hle) (by exact hc.2.1)
    generalize hF1 : sA (sA (sA F 3 (u (F 3) 2 (F 3 2 - 1))) (3 + 2 + ((F 3 1 + (F 3 2 - 1)) % 31).toNat) (u (tbk (F (3 + 2 + ((F 3 1 + (F 3 2 - 1)) % 31).toNat)) (F (1 + 1)) (F (1 + 1) 0)) 0 (F (1 + 1) 0))) (1 + 1) (cp (u (tbk (F (3 + 2 + ((F 3 1 + (F 3 2 - 1)) % 31).toNat)) (F (1 + 1)) (F (1 + 1) 0)) 0 (F (1 + 1) 0)) (F (1 + 1)) 0 0 141) = F1 at et
    have up : ∀ b, 36 ≤ b → F1 b = F b := by
      intro b hb
      rw [← hF1, sA_ne _ _ (by omega), sA_ne _ _ (by omega), sA_ne _ _ (by omega)]
    have f3 : F1 3 = u (F 3) 2 (F 3 2 - 1) := by
      rw [← hF1, sA_ne _ _ (by omega), sA_ne _ _ (by omega), sA_eq]
    have f2 : ∀ k, 0 ≤ k → k < 141 → F1 (1 + 1) k = u (tbk (F (3 + 2 + ((F 3 1 + (F 3 2 - 1)) % 31).toNat)) (F (1 + 1)) (F (1 + 1) 0)) 0 (F (1 + 1) 0) k := by
      intro k k0 k1
      rw [← hF1, sA_eq, cp_in _ _ k0 k1]
    have fr : ∀ i, 0 ≤ i → i < F 3 2 - 1 → F1 (3 + 2 + ((F 3 1 + i) % 31).toNat) = F (3 + 2 + ((F 3 1 + i) % 31).toNat) := by
      intro i i0 i1
      rw [← hF1, sA_ne _ _ (by omega), sA_ne _ _ (by omega), sA_ne _ _ (by omega)]
    have e1 : m_M x k_G_undo [.ref 0] (mk F G) = some (some (.int (jI (F 3 2 - 1))), mk F1 G) := by
      have fS1 : m_fI (mk F1 G) 6 2 3 = some (jI (F 3 2 - 1)) := by
        rw [fI_S_2 F1 G (w := 3) (Or.inl rfl), f3, u_eq]
      rw [E_G_undo]
      simp only [lit_0, lit_1, lit_2, lit_3, lit_4, lit_5, lit_6, lit_7, lit_8, lit_9, lit_10, lit_11, lit_12, lit_13, lit_14, lit_15, lit_16, lit_17, lit_18, lit_19, lit_20, lit_21, lit_22, lit_23, lit_24, lit_25, lit_26, lit_27, lit_28, lit_29, lit_30, lit_31, lit_32, lit_33, lit_34, lit_35, lit_36, lit_37, lit_38, lit_39, lit_40, lit_41, lit_42, lit_43, lit_44, lit_45, lit_46, lit_47, lit_48, lit_49, lit_50, lit_51, lit_52, lit_53, lit_54, lit_55, lit_56, lit_57, lit_58, lit_59, lit_60, lit_61, lit_62, lit_63, lit_64, lit_65, lit_67, lit_70, lit_71, lit_73, lit_75, lit_78, lit_84, lit_85, lit_86, lit_87, lit_89, lit_90, lit_91, lit_95, lit_96, lit_97, lit_98, lit_99, lit_100, lit_101, lit_102, lit_103, lit_104, lit_105, lit_107, lit_108, lit_109, lit_110, lit_111, lit_112, lit_114, lit_115, lit_116, lit_117, lit_119, lit_121, lit_122, lit_126, lit_127, lit_128, lit_130, lit_134, lit_137, lit_139, lit_140, lit_141, lit_145, lit_152, lit_159, lit_160, lit_168, lit_174, lit_180, lit_183, lit_192, lit_199, lit_236, lit_251, lit_255, lit_272, lit_284, lit_300, lit_330, lit_373, lit_753, lit_800, lit_896, lit_900, lit_1000, lit_1001, lit_1002, lit_1003, lit_1079, lit_1276, lit_1330, lit_1450, lit_3012, lit_3016, lit_3300, lit_8430, lit_9999, lit_10000, lit_11730, lit_30467, lit_65536, lit_99999, lit_100000, lit_1000000, lit_252645135, lit_858993459, lit_1000000000, lit_1431655765, jI_add, jI_sub, jI_mul, jI_neg, isO_0, fR_0_0, fR_0_1, fR_0_2, fR_0_3, fR_0_4, fR_0_5, fR_0_6, fR_0_7, fR_0_8, fR_0_9, fR_0_10, fR_0_11, fR_0_12, b_I, b_L, b_V, b_R, b_N, b_N0, Option.bind_some, ↓reduceIte, bq0, bq1, bz0, bz1, ite_not, Classical.not_not, et]
      rw [if_neg (show ¬ jI 1 = jI 0 by decide), fS1]
      rfl
    have e2 := M_undo x F1 G (by rw [up 150 (by omega)]; omega) (by rw [up 150 (by omega)]; omega) (by rw [up 150 (by omega), ← r0]; omega) (by rw [up 150 (by omega), ← r0, ← c0]; exact hle) (by rw [up 150 (by omega), ← c0]; omega)
    rw [up 150 (by omega), if_neg (by omega)] at e2
    have e3 : F 150 3 - 1 = F 3 2 - 1 := by omega
    rw [e3] at e2
    refine ⟨_, _, _, _, e1, e2, ?_⟩
    have hrs := RS_undo (F' := F1) g (by omega) (by rw [f3, u_ne _ _ (by omega)]) (by rw [f3, u_eq]) f2 fr
    have eo : ∀ b, 36 ≤ b → ¬ b = 150 → sA F1 150 (mUndo (F 150)) b = F b := fun b h1 h2 => by rw [sA_ne _ _ h2, up b h1]
    refine Rel_live hR (fun b hb => eo b (by omega) (by omega)) ?_ ?_ ?_
    · refine RD_cg ?_ ?_ (eo _ (by omega) (by omega)) (eo _ (by omega) (by omega)) hR.2.2.2.2.1
      · rw [eo 128 (by omega) (by omega)]; exact ⟨rfl, rfl, rfl⟩
      · rw [eo 149 (by omega) (by omega)]; exact ⟨rfl, rfl, rfl, rfl⟩
    · rw [sA_eq]
      exact RS_sA (by omega) (by omega) (by omega) hrs
    · intro k hk
      rw [sA_eq]
      by_cases q : k < 8
      · exact mUndo_lo q (by omega) (by rw [← r0]; omega)
      · exact mUndo_hi (by omega) (by rw [← c0]; omega)
theorem ok_feed {a b c d e : Int32} (hR : Rel F) : Ok x F G k_G_feed k_M_feed [.int a, .int b, .int c, .int d, .int e] := by
  have h := hR.2.2.2.2.1
  unfold RD at h
  have e1 : m_M x k_Reader_hasRoom [.ref 128] (mk F G) = some (some (.int (jI (if F 128 2 + 20 ≤ 300 then 1 else 0))), mk F G) := by
    rw [E_Reader_hasRoom]
    simp (disch := omega) only [lit_0, lit_1, lit_2, lit_3, lit_4, lit_5, lit_6, lit_7, lit_8, lit_9, lit_10, lit_11, lit_12, lit_13, lit_14, lit_15, lit_16, lit_17, lit_18, lit_19, lit_20, lit_21, lit_22, lit_23, lit_24, lit_25, lit_26, lit_27, lit_28, lit_29, lit_30, lit_31, lit_32, lit_33, lit_34, lit_35, lit_36, lit_37, lit_38, lit_39, lit_40, lit_41, lit_42, lit_43, lit_44, lit_45, lit_46, lit_47, lit_48, lit_49, lit_50, lit_51, lit_52, lit_53, lit_54, lit_55, lit_56, lit_57, lit_58, lit_59, lit_60, lit_61, lit_62, lit_63, lit_64, lit_65, lit_67, lit_70, lit_71, lit_73, lit_75, lit_78, lit_84, lit_85, lit_86, lit_87, lit_89, lit_90, lit_91, lit_95, lit_96, lit_97, lit_98, lit_99, lit_100, lit_101, lit_102, lit_103, lit_104, lit_105, lit_107, lit_108, lit_109, lit_110, lit_111, lit_112, lit_114, lit_115, lit_116, lit_117, lit_119, lit_121, lit_122, lit_126, lit_127, lit_128, lit_130, lit_134, lit_137, lit_139, lit_140, lit_141, lit_145, lit_152, lit_159, lit_160, lit_168, lit_174, lit_180, lit_183, lit_192, lit_199, lit_236, lit_251, lit_255, lit_272, lit_284, lit_300, lit_330, lit_373, lit_753, lit_800, lit_896, lit_900, lit_1000, lit_1001, lit_1002, lit_1003, lit_1079, lit_1276, lit_1330, lit_1450, lit_3012, lit_3016, lit_3300, lit_8430, lit_9999, lit_10000, lit_11730, lit_30467, lit_65536, lit_99999, lit_100000, lit_1000000, lit_252645135, lit_858993459, lit_1000000000, lit_1431655765, jI_add, jI_sub, jI_mul, jI_neg, jI_lt, jI_le, jI_eq, isO_128, fR_128_0, fR_128_1, fI_128_2, pf_128_2, fI_128_3, pf_128_3, fI_128_4, pf_128_4, fI_128_5, pf_128_5, fI_128_6, pf_128_6, fI_128_7, pf_128_7, fI_128_8, pf_128_8, fI_128_9, pf_128_9, b_I, b_L, b_V, b_R, b_N, b_N0, Option.bind_some, ↓reduceIte, bq0, bq1, bz0, bz1, ite_not, Classical.not_not]
    by_cases q : F 128 2 + 20 ≤ 300
    · rw [if_neg (by omega), if_pos q]
    · rw [if_pos (by omega), if_neg q]
  by_cases hC : F 128 2 + 20 ≤ 300
  · have tk : ∀ (H : Nat → Fn) (n : Int32) (l : Int), H 128 2 = l → 0 ≤ l → l ≤ 296 → m_M x k_Reader_take [.ref 128, .int n] (mk H G) = some (none, mk (sA (sA H 135 (tk4 (H 135) l n)) 128 (u (H 128) 2 (l + 1 + 1 + 1 + 1))) G) := by
      intro H n l hl l0 l1
      have q := C_take x H G (n := n) (by omega) (by omega)
      rw [hl] at q
      exact q
    have fr : ∀ (H : Nat → Fn) (n : Int32) (l : Int), H 149 4 = l → 0 ≤ l → l ≤ 296 → m_M x k_M_four [.ref 149, .int n] (mk H G) = some (none, mk (sA (sA H 153 (tk4 (H 153) l n)) 149 (u (H 149) 4 (l + 1 + 1 + 1 + 1))) G) := by
      intro H n l hl l0 l1
      have q := M_four x H G (n := n) (by omega) (by omega)
      rw [hl] at q
      exact q
    generalize hl : F 128 2 = l at *
    have c1 := tk F a l hl (by omega) (by omega)
    have c2 := fun f g => tk (sA (sA F 135 f) 128 (u g 2 (l + 1 + 1 + 1 + 1))) b (l + 1 + 1 + 1 + 1) (by rw [sA_eq, u_eq]) (by omega) (by omega)
    have c3 := fun f g => tk (sA (sA F 135 f) 128 (u g 2 (l + 1 + 1 + 1 + 1 + 1 + 1 + 1 + 1))) c (l + 1 + 1 + 1 + 1 + 1 + 1 + 1 + 1) (by rw [sA_eq, u_eq]) (by omega) (by omega)
    have c4 := fun f g => tk (sA (sA F 135 f) 128 (u g 2 (l + 1 + 1 + 1 + 1 + 1 + 1 + 1 + 1 + 1 + 1 + 1 + 1))) d (l + 1 + 1 + 1 + 1 + 1 + 1 + 1 + 1 + 1 + 1 + 1 + 1) (by rw [sA_eq, u_eq]) (by omega) (by omega)
    have c5 := fun f g => tk (sA (sA F 135 f) 128 (u g 2 (l + 1 + 1 + 1 + 1 + 1 + 1 + 1 + 1 + 1 + 1 + 1 + 1 + 1 + 1 + 1 + 1))) e (l + 1 + 1 + 1 + 1 + 1 + 1 + 1 + 1 + 1 + 1 + 1 + 1 + 1 + 1 + 1 + 1) (by rw [sA_eq, u_eq]) (by omega) (by omega)
    simp (disch := omega) only [sA_eq, sA_ne, sA_sw, sA_sA, u_u] at c2 c3 c4 c5
    generalize hT : tk4 (tk4 (tk4 (tk4 (tk4 (F 135) l a) (l + 1 + 1 + 1 + 1) b) (l + 1 + 1 + 1 + 1 + 1 + 1 + 1 + 1) c) (l + 1 + 1 + 1 + 1 + 1 + 1 + 1 + 1 + 1 + 1 + 1 + 1) d) (l + 1 + 1 + 1 + 1 + 1 + 1 + 1 + 1 + 1 + 1 + 1 + 1 + 1 + 1 + 1 + 1) e = T at *
    have eC : m_M x k_G_feed [.ref 0, .int a, .int b, .int c, .int d, .int e] (mk F G) = some (some (.int (jI (l + 1 + 1 + 1 + 1 + 1 + 1 + 1 + 1 + 1 + 1 + 1 + 1 + 1 + 1 + 1 + 1 + 1 + 1 + 1 + 1))), mk (sA (sA F 135 T) 128 (u (F 128) 2 (l + 1 + 1 + 1 + 1 + 1 + 1 + 1 + 1 + 1 + 1 + 1 + 1 + 1 + 1 + 1 + 1 + 1 + 1 + 1 + 1))) G) := by
      rw [if_pos hC] at e1
      rw [E_G_feed]
      simp only [isO_0, fR_0_0, fR_0_1, fR_0_2, fR_0_3, fR_0_4, fR_0_5, fR_0_6, fR_0_7, fR_0_8, fR_0_9, fR_0_10, fR_0_11, fR_0_12, b_I, b_L, b_V, b_R, b_N, b_N0, Option.bind_some, ↓reduceIte, bq0, bq1, bz0, bz1, ite_not, Classical.not_not, e1]
      rw [if_neg (show ¬ jI 1 = 0 by decide)]
      simp only [isO_0, fR_0_0, fR_0_1, fR_0_2, fR_0_3, fR_0_4, fR_0_5, fR_0_6, fR_0_7, fR_0_8, fR_0_9, fR_0_10, fR_0_11, fR_0_12, b_I, b_L, b_V, b_R, b_N, b_N0, Option.bind_some, ↓reduceIte, bq0, bq1, bz0, bz1, ite_not, Classical.not_not, c1, c2, c3, c4, c5, hT, fI_128_2, sA_eq, u_eq]
    have eM : ∀ H : Nat → Fn, H 149 = F 149 → H 153 = F 153 → m_M x k_M_feed [.ref 149, .int a, .int b, .int c, .int d, .int e] (mk H G) = some (some (.int (jI (l + 1 + 1 + 1 + 1 + 1 + 1 + 1 + 1 + 1 + 1 + 1 + 1 + 1 + 1 + 1 + 1 + 1 + 1 + 1 + 1))), mk (sA (sA H 153 (tk4 (tk4 (tk4 (tk4 (tk4 (F 153) l a) (l + 1 + 1 + 1 + 1) b) (l + 1 + 1 + 1 + 1 + 1 + 1 + 1 + 1) c) (l + 1 + 1 + 1 + 1 + 1 + 1 + 1 + 1 + 1 + 1 + 1 + 1) d) (l + 1 + 1 + 1 + 1 + 1 + 1 + 1 + 1 + 1 + 1 + 1 + 1 + 1 + 1 + 1 + 1) e)) 149 (u (F 149) 4 (l + 1 + 1 + 1 + 1 + 1 + 1 + 1 + 1 + 1 + 1 + 1 + 1 + 1 + 1 + 1 + 1 + 1 + 1 + 1 + 1))) G) := by
      intro H h9 h3
      have m1 := fr H a l (by rw [h9, h.1]) (by omega) (by omega)
      rw [h9, h3] at m1
      have m2 := fun f => fr (sA (sA H 153 f) 149 (u (F 149) 4 (l + 1 + 1 + 1 + 1))) b (l + 1 + 1 + 1 + 1) (by rw [sA_eq, u_eq]) (by omega) (by omega)
      have m3 := fun f => fr (sA (sA H 153 f) 149 (u (F 149) 4 (l + 1 + 1 + 1 + 1 + 1 + 1 + 1 + 1))) c (l + 1 + 1 + 1 + 1 + 1 + 1 + 1 + 1) (by rw [sA_eq, u_eq]) (by omega) (by omega)
      have m4 := fun f => fr (sA (sA H 153 f) 149 (u (F 149) 4 (l + 1 + 1 + 1 + 1 + 1 + 1 + 1 + 1 + 1 + 1 + 1 + 1))) d (l + 1 + 1 + 1 + 1 + 1 + 1 + 1 + 1 + 1 + 1 + 1 + 1) (by rw [sA_eq, u_eq]) (by omega) (by omega)
      have m5 := fun f => fr (sA (sA H 153 f) 149 (u (F 149) 4 (l + 1 + 1 + 1 + 1 + 1 + 1 + 1 + 1 + 1 + 1 + 1 + 1 + 1 + 1 + 1 + 1))) e (l + 1 + 1 + 1 + 1 + 1 + 1 + 1 + 1 + 1 + 1 + 1 + 1 + 1 + 1 + 1 + 1) (by rw [sA_eq, u_eq]) (by omega) (by omega)
      simp (disch := omega) only [sA_eq, sA_ne, sA_sw, sA_sA, u_u] at m2 m3 m4 m5
      have hroom : jI l + 20 ≤ 300 := by
        have e20 : (20 : Int32) = jI 20 := by decide
        have e300 : (300 : Int32) = jI 300 := by decide
        rw [e20, e300, jI_add, jI_le (by omega) (by omega) (by omega) (by omega)]
        exact hC
      rw [E_M_feed, isO_149, if_pos rfl, fI_149_4, Option.bind_some, h9, h.1, if_pos hroom]
      simp only [m1, m2, m3, m4, m5, b_V, fI_149_4, sA_eq, u_eq, Option.bind_some]
    have q := eM (sA (sA F 135 T) 128 (u (F 128) 2 (l + 1 + 1 + 1 + 1 + 1 + 1 + 1 + 1 + 1 + 1 + 1 + 1 + 1 + 1 + 1 + 1 + 1 + 1 + 1 + 1))) (by rw [sA_ne _ _ (by omega), sA_ne _ _ (by omega)]) (by rw [sA_ne _ _ (by omega), sA_ne _ _ (by omega)])
    refine ⟨_, _, _, _, eC, q, ?_⟩
    have hb := tk4_ok e (tk4_ok d (tk4_ok c (tk4_ok b (tk4_ok a (f := F 135) (g := F 153) (l := l) h.2.2.2.2.2.2.2.2))))
    rw [hT] at hb
    generalize tk4 (tk4 (tk4 (tk4 (tk4 (F 153) l a) (l + 1 + 1 + 1 + 1) b) (l + 1 + 1 + 1 + 1 + 1 + 1 + 1 + 1) c) (l + 1 + 1 + 1 + 1 + 1 + 1 + 1 + 1 + 1 + 1 + 1 + 1) d) (l + 1 + 1 + 1 + 1 + 1 + 1 + 1 + 1 + 1 + 1 + 1 + 1 + 1 + 1 + 1 + 1) e = T2 at *
    have eo : ∀ z, ¬ z = 128 → ¬ z = 135 → ¬ z = 149 → ¬ z = 153 → sA (sA (sA (sA F 135 T) 128 (u (F 128) 2 (l + 1 + 1 + 1 + 1 + 1 + 1 + 1 + 1 + 1 + 1 + 1 + 1 + 1 + 1 + 1 + 1 + 1 + 1 + 1 + 1))) 153 T2) 149 (u (F 149) 4 (l + 1 + 1 + 1 + 1 + 1 + 1 + 1 + 1 + 1 + 1 + 1 + 1 + 1 + 1 + 1 + 1 + 1 + 1 + 1 + 1)) z = F z := fun z h1 h2 h3 h4 => by rw [sA_ne _ _ h3, sA_ne _ _ h4, sA_ne _ _ h1, sA_ne _ _ h2]
    refine Rel_live hR (fun z hz => eo z (by omega) (by omega) (by omega) (by omega)) ?_ ?_ ?_
    · unfold RD
      have a1 : sA (sA (sA (sA F 135 T) 128 (u (F 128) 2 (l + 1 + 1 + 1 + 1 + 1 + 1 + 1 + 1 + 1 + 1 + 1 + 1 + 1 + 1 + 1 + 1 + 1 + 1 + 1 + 1))) 153 T2) 149 (u (F 149) 4 (l + 1 + 1 + 1 + 1 + 1 + 1 + 1 + 1 + 1 + 1 + 1 + 1 + 1 + 1 + 1 + 1 + 1 + 1 + 1 + 1)) 149 = u (F 149) 4 (l + 1 + 1 + 1 + 1 + 1 + 1 + 1 + 1 + 1 + 1 + 1 + 1 + 1 + 1 + 1 + 1 + 1 + 1 + 1 + 1) := sA_eq _ _ _
      have a2 : sA (sA (sA (sA F 135 T) 128 (u (F 128) 2 (l + 1 + 1 + 1 + 1 + 1 + 1 + 1 + 1 + 1 + 1 + 1 + 1 + 1 + 1 + 1 + 1 + 1 + 1 + 1 + 1))) 153 T2) 149 (u (F 149) 4 (l + 1 + 1 + 1 + 1 + 1 + 1 + 1 + 1 + 1 + 1 + 1 + 1 + 1 + 1 + 1 + 1 + 1 + 1 + 1 + 1)) 153 = T2 := by rw [sA_ne _ _ (by omega), sA_eq]
      have a3 : sA (sA (sA (sA F 135 T) 128 (u (F 128) 2 (l + 1 + 1 + 1 + 1 + 1 + 1 + 1 + 1 + 1 + 1 + 1 + 1 + 1 + 1 + 1 + 1 + 1 + 1 + 1 + 1))) 153 T2) 149 (u (F 149) 4 (l + 1 + 1 + 1 + 1 + 1 + 1 + 1 + 1 + 1 + 1 + 1 + 1 + 1 + 1 + 1 + 1 + 1 + 1 + 1 + 1)) 128 = u (F 128) 2 (l + 1 + 1 + 1 + 1 + 1 + 1 + 1 + 1 + 1 + 1 + 1 + 1 + 1 + 1 + 1 + 1 + 1 + 1 + 1 + 1) := by rw [sA_ne _ _ (by omega), sA_ne _ _ (by omega), sA_eq]
      have a4 : sA (sA (sA (sA F 135 T) 128 (u (F 128) 2 (l + 1 + 1 + 1 + 1 + 1 + 1 + 1 + 1 + 1 + 1 + 1 + 1 + 1 + 1 + 1 + 1 + 1 + 1 + 1 + 1))) 153 T2) 149 (u (F 149) 4 (l + 1 + 1 + 1 + 1 + 1 + 1 + 1 + 1 + 1 + 1 + 1 + 1 + 1 + 1 + 1 + 1 + 1 + 1 + 1 + 1)) 135 = T := by rw [sA_ne _ _ (by omega), sA_ne _ _ (by omega), sA_ne _ _ (by omega), sA_eq]
      rw [a1, a2, a3, a4, u_eq, u_eq, u_ne _ _ (by omega), u_ne _ _ (by omega), u_ne _ _ (by omega), u_ne _ _ (by omega), u_ne _ _ (by omega)]
      refine ⟨rfl, by omega, by omega, h.2.2.2.1, h.2.2.2.2.1, h.2.2.2.2.2.1, h.2.2.2.2.2.2.1, h.2.2.2.2.2.2.2.1, ?_⟩
      intro i i0 i1
      exact hb i i0 i1
    · rw [eo 150 (by omega) (by omega) (by omega) (by omega)]
      exact RS_ob (eo _ (by omega) (by omega) (by omega) (by omega)) (eo _ (by omega) (by omega) (by omega) (by omega)) (fun i hi => eo _ (by omega) (by omega) (by omega) (by omega)) hR.1
    · intro k _
      rw [eo 150 (by omega) (by omega) (by omega) (by omega)]
  · have eC : m_M x k_G_feed [.ref 0, .int a, .int b, .int c, .int d, .int e] (mk F G) = some (some (.int (jI (-1))), mk F G) := by
      rw [if_neg hC] at e1
      rw [E_G_feed]
      simp only [lit_0, lit_1, lit_2, lit_3, lit_4, lit_5, lit_6, lit_7, lit_8, lit_9, lit_10, lit_11, lit_12, lit_13, lit_14, lit_15, lit_16, lit_17, lit_18, lit_19, lit_20, lit_21, lit_22, lit_23, lit_24, lit_25, lit_26, lit_27, lit_28, lit_29, lit_30, lit_31, lit_32, lit_33, lit_34, lit_35, lit_36, lit_37, lit_38, lit_39, lit_40, lit_41, lit_42, lit_43, lit_44, lit_45, lit_46, lit_47, lit_48, lit_49, lit_50, lit_51, lit_52, lit_53, lit_54, lit_55, lit_56, lit_57, lit_58, lit_59, lit_60, lit_61, lit_62, lit_63, lit_64, lit_65, lit_67, lit_70, lit_71, lit_73, lit_75, lit_78, lit_84, lit_85, lit_86, lit_87, lit_89, lit_90, lit_91, lit_95, lit_96, lit_97, lit_98, lit_99, lit_100, lit_101, lit_102, lit_103, lit_104, lit_105, lit_107, lit_108, lit_109, lit_110, lit_111, lit_112, lit_114, lit_115, lit_116, lit_117, lit_119, lit_121, lit_122, lit_126, lit_127, lit_128, lit_130, lit_134, lit_137, lit_139, lit_140, lit_141, lit_145, lit_152, lit_159, lit_160, lit_168, lit_174, lit_180, lit_183, lit_192, lit_199, lit_236, lit_251, lit_255, lit_272, lit_284, lit_300, lit_330, lit_373, lit_753, lit_800, lit_896, lit_900, lit_1000, lit_1001, lit_1002, lit_1003, lit_1079, lit_1276, lit_1330, lit_1450, lit_3012, lit_3016, lit_3300, lit_8430, lit_9999, lit_10000, lit_11730, lit_30467, lit_65536, lit_99999, lit_100000, lit_1000000, lit_252645135, lit_858993459, lit_1000000000, lit_1431655765, jI_add, jI_sub, jI_mul, jI_neg, isO_0, fR_0_0, fR_0_1, fR_0_2, fR_0_3, fR_0_4, fR_0_5, fR_0_6, fR_0_7, fR_0_8, fR_0_9, fR_0_10, fR_0_11, fR_0_12, b_I, b_L, b_V, b_R, b_N, b_N0, Option.bind_some, ↓reduceIte, bq0, bq1, bz0, bz1, ite_not, Classical.not_not, e1]
    have eM : m_M x k_M_feed [.ref 149, .int a, .int b, .int c, .int d, .int e] (mk F G) = some (some (.int (jI (-1))), mk F G) := by
      rw [E_M_feed]
      simp (disch := omega) only [lit_0, lit_1, lit_2, lit_3, lit_4, lit_5, lit_6, lit_7, lit_8, lit_9, lit_10, lit_11, lit_12, lit_13, lit_14, lit_15, lit_16, lit_17, lit_18, lit_19, lit_20, lit_21, lit_22, lit_23, lit_24, lit_25, lit_26, lit_27, lit_28, lit_29, lit_30, lit_31, lit_32, lit_33, lit_34, lit_35, lit_36, lit_37, lit_38, lit_39, lit_40, lit_41, lit_42, lit_43, lit_44, lit_45, lit_46, lit_47, lit_48, lit_49, lit_50, lit_51, lit_52, lit_53, lit_54, lit_55, lit_56, lit_57, lit_58, lit_59, lit_60, lit_61, lit_62, lit_63, lit_64, lit_65, lit_67, lit_70, lit_71, lit_73, lit_75, lit_78, lit_84, lit_85, lit_86, lit_87, lit_89, lit_90, lit_91, lit_95, lit_96, lit_97, lit_98, lit_99, lit_100, lit_101, lit_102, lit_103, lit_104, lit_105, lit_107, lit_108, lit_109, lit_110, lit_111, lit_112, lit_114, lit_115, lit_116, lit_117, lit_119, lit_121, lit_122, lit_126, lit_127, lit_128, lit_130, lit_134, lit_137, lit_139, lit_140, lit_141, lit_145, lit_152, lit_159, lit_160, lit_168, lit_174, lit_180, lit_183, lit_192, lit_199, lit_236, lit_251, lit_255, lit_272, lit_284, lit_300, lit_330, lit_373, lit_753, lit_800, lit_896, lit_900, lit_1000, lit_1001, lit_1002, lit_1003, lit_1079, lit_1276, lit_1330, lit_1450, lit_3012, lit_3016, lit_3300, lit_8430, lit_9999, lit_10000, lit_11730, lit_30467, lit_65536, lit_99999, lit_100000, lit_1000000, lit_252645135, lit_858993459, lit_1000000000, lit_1431655765, jI_add, jI_sub, jI_mul, jI_neg, jI_lt, jI_le, jI_eq, isO_149, fI_149_4, b_I, b_L, b_V, b_R, b_N, b_N0, Option.bind_some, ↓reduceIte, bq0, bq1, bz0, bz1, ite_not, Classical.not_not, h.1]
      rw [if_neg hC]
    exact Ok_pure hR eC eM
end
