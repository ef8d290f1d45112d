-- reckoning: the class's cells and the model's
def stk (g : Fn) : List Int → Prop
  | [] => True
  | v :: l => g (l.length : Int) = v ∧ stk g l
def stkB (g : Fn) : List Bool → Prop
  | [] => True
  | b :: l => g (l.length : Int) = (if b then 1 else 0) ∧ stkB g l
theorem stk_u {g : Fn} {z v : Int} : ∀ {l : List Int}, stk g l → (l.length : Int) ≤ z → stk (u g z v) l := by
  intro l
  induction l with
  | nil => intro _ _; trivial
  | cons a l ih =>
    intro h hz
    simp only [List.length_cons] at hz
    exact ⟨by rw [u_ne _ _ (by omega)]; exact h.1, ih h.2 (by omega)⟩
theorem stkB_u {g : Fn} {z v : Int} : ∀ {l : List Bool}, stkB g l → (l.length : Int) ≤ z → stkB (u g z v) l := by
  intro l
  induction l with
  | nil => intro _ _; trivial
  | cons a l ih =>
    intro h hz
    simp only [List.length_cons] at hz
    exact ⟨by rw [u_ne _ _ (by omega)]; exact h.1, ih h.2 (by omega)⟩
/-- what a name of a law of sort s says of q in the world c -/
def nmR (s : Int) (c : Fn) (q t : Int) : Int := if t = 11 then c 22 else if t = 12 then c 23 else if s ≤ 1 then (if t = 13 then q else if t = 14 then c (1 + q) else if t = 15 then c (8 + q) else if t = 16 then c (15 + q) else if t = 17 then rights c q else if t = 18 then bare c q else 0) else (if t = 19 then c (51 + q) else if t = 20 then c (63 + q) else if t = 21 then c (87 + q) else if t = 22 then c (75 + q) else if t = 23 then c (27 + q) else if t = 24 then c (39 + q) else 0)
abbrev qok (s q : Int) : Prop := 0 ≤ q ∧ q < 12 ∧ (s ≤ 1 → q < 7)
theorem okE_nmR {c : Fn} {s q : Int} (hi : WI c) (hq : qok s q) : okE (nmR s c q) (lefts c) := by
  have hc := WI_c hi
  have hr := rights_le (c := c) q (by omega)
  have hl := lefts_le (c := c) q (by omega)
  have hb : 0 ≤ bare c q ∧ bare c q ≤ 2 := by unfold bare; omega
  refine ⟨?_, ?_⟩
  · intro t
    have b0 : bd 0 := by unfold bd; omega
    unfold nmR
    by_cases hs : s ≤ 1
    · have hp := WI_p hi hq.1 (hq.2.2 hs)
      have q7 := hq.2.2 hs
      simp only [if_pos hs]
      repeat' split
      all_goals (unfold bd; omega)
    · have hg := WI_g hi hq.1 hq.2.1
      simp only [if_neg hs]
      repeat' split
      all_goals (unfold bd; omega)
  · intro k
    have h := lefts_le (c := c) k (by omega)
    omega
def agr (F F1 : Nat → Fn) : Prop := ∀ b, ¬ b = 136 → ¬ b = 137 → F1 b = F b
theorem agr_tr {F F1 F2 : Nat → Fn} (h1 : agr F F1) (h2 : agr F1 F2) : agr F F2 := fun b a c => (h2 b a c).trans (h1 b a c)
section
variable (x : m_X) (F G : Nat → Fn)
theorem C_cellAt {P : Nat} {i : Int} (hP : P = 104 ∨ P = 110 ∨ P = 116 ∨ P = 122 ∨ P = 129) (h0 : 0 ≤ i) (h1 : i < 300) : m_M x k_Script_cellAt [.ref P, .int (jI i)] (mk F G) = some (some (.int (jI (F (P + 4) i))), mk F G) := by
  rw [E_Script_cellAt]
  simp (disch := omega) only [lit_0, lit_1, lit_2, lit_3, lit_4, lit_5, lit_6, lit_7, lit_8, lit_9, lit_10, lit_11, lit_12, lit_13, lit_14, lit_15, lit_16, lit_17, lit_18, lit_19, lit_20, lit_21, lit_22, lit_23, lit_24, lit_25, lit_26, lit_27, lit_28, lit_29, lit_30, lit_31, lit_32, lit_33, lit_34, lit_35, lit_36, lit_37, lit_38, lit_39, lit_40, lit_41, lit_42, lit_43, lit_44, lit_45, lit_46, lit_47, lit_48, lit_49, lit_50, lit_51, lit_52, lit_53, lit_54, lit_55, lit_56, lit_57, lit_58, lit_59, lit_60, lit_61, lit_62, lit_63, lit_64, lit_65, lit_67, lit_70, lit_71, lit_73, lit_75, lit_78, lit_84, lit_85, lit_86, lit_87, lit_89, lit_90, lit_91, lit_95, lit_96, lit_97, lit_98, lit_99, lit_100, lit_101, lit_102, lit_103, lit_104, lit_105, lit_107, lit_108, lit_109, lit_110, lit_111, lit_112, lit_114, lit_115, lit_116, lit_117, lit_119, lit_121, lit_122, lit_126, lit_127, lit_128, lit_130, lit_134, lit_137, lit_139, lit_140, lit_141, lit_145, lit_152, lit_159, lit_160, lit_168, lit_174, lit_180, lit_183, lit_192, lit_199, lit_236, lit_251, lit_255, lit_272, lit_284, lit_300, lit_330, lit_373, lit_753, lit_800, lit_896, lit_900, lit_1000, lit_1001, lit_1002, lit_1003, lit_1079, lit_1276, lit_1330, lit_1450, lit_3012, lit_3016, lit_3300, lit_8430, lit_9999, lit_10000, lit_11730, lit_30467, lit_65536, lit_99999, lit_100000, lit_1000000, lit_252645135, lit_858993459, lit_1000000000, lit_1431655765, jI_lt, jI_le, jI_eq, isO_P, fR_P_0, fR_P_1, fR_P_2, fR_P_3, fR_P_4, fI_P_5, pf_P_5, fI_P_6, pf_P_6, ia_P1, is_P1, len_P1, ia_P2, is_P2, len_P2, ia_P3, is_P3, len_P3, ia_P4, is_P4, len_P4, ia_P5, is_P5, len_P5, b_I, b_L, b_V, b_R, b_N, b_N0, Option.bind_some, ↓reduceIte, bq0, bq1, bz0, bz1, ite_not, Classical.not_not, if_pos, if_neg]
theorem C_hasClause {P : Nat} {k : Int} (hP : P = 104 ∨ P = 110 ∨ P = 116 ∨ P = 122 ∨ P = 129) (h0 : 0 ≤ k) (h1 : k < F P 5) (h2 : F P 5 ≤ 24) : m_M x k_Script_hasClause [.ref P, .int (jI k)] (mk F G) = some (some (.int (jI 1)), mk F G) := by
  rw [E_Script_hasClause]
  simp (disch := omega) only [lit_0, lit_1, lit_2, lit_3, lit_4, lit_5, lit_6, lit_7, lit_8, lit_9, lit_10, lit_11, lit_12, lit_13, lit_14, lit_15, lit_16, lit_17, lit_18, lit_19, lit_20, lit_21, lit_22, lit_23, lit_24, lit_25, lit_26, lit_27, lit_28, lit_29, lit_30, lit_31, lit_32, lit_33, lit_34, lit_35, lit_36, lit_37, lit_38, lit_39, lit_40, lit_41, lit_42, lit_43, lit_44, lit_45, lit_46, lit_47, lit_48, lit_49, lit_50, lit_51, lit_52, lit_53, lit_54, lit_55, lit_56, lit_57, lit_58, lit_59, lit_60, lit_61, lit_62, lit_63, lit_64, lit_65, lit_67, lit_70, lit_71, lit_73, lit_75, lit_78, lit_84, lit_85, lit_86, lit_87, lit_89, lit_90, lit_91, lit_95, lit_96, lit_97, lit_98, lit_99, lit_100, lit_101, lit_102, lit_103, lit_104, lit_105, lit_107, lit_108, lit_109, lit_110, lit_111, lit_112, lit_114, lit_115, lit_116, lit_117, lit_119, lit_121, lit_122, lit_126, lit_127, lit_128, lit_130, lit_134, lit_137, lit_139, lit_140, lit_141, lit_145, lit_152, lit_159, lit_160, lit_168, lit_174, lit_180, lit_183, lit_192, lit_199, lit_236, lit_251, lit_255, lit_272, lit_284, lit_300, lit_330, lit_373, lit_753, lit_800, lit_896, lit_900, lit_1000, lit_1001, lit_1002, lit_1003, lit_1079, lit_1276, lit_1330, lit_1450, lit_3012, lit_3016, lit_3300, lit_8430, lit_9999, lit_10000, lit_11730, lit_30467, lit_65536, lit_99999, lit_100000, lit_1000000, lit_252645135, lit_858993459, lit_1000000000, lit_1431655765, jI_lt, jI_le, jI_eq, isO_P, fR_P_0, fR_P_1, fR_P_2, fR_P_3, fR_P_4, fI_P_5, pf_P_5, fI_P_6, pf_P_6, ia_P1, is_P1, len_P1, ia_P2, is_P2, len_P2, ia_P3, is_P3, len_P3, ia_P4, is_P4, len_P4, ia_P5, is_P5, len_P5, b_I, b_L, b_V, b_R, b_N, b_N0, Option.bind_some, ↓reduceIte, bq0, bq1, bz0, bz1, ite_not, Classical.not_not, if_pos, if_neg]
theorem C_startOf {P : Nat} {k : Int} (hP : P = 104 ∨ P = 110 ∨ P = 116 ∨ P = 122 ∨ P = 129) (h0 : 0 ≤ k) (h1 : k < F P 5) (h2 : F P 5 ≤ 24) : m_M x k_Script_startOf [.ref P, .int (jI k)] (mk F G) = some (some (.int (jI (F (P + 2) k))), mk F G) := by
  rw [E_Script_startOf, C_hasClause x F G hP h0 h1 h2]
  simp (disch := omega) only [lit_0, lit_1, lit_2, lit_3, lit_4, lit_5, lit_6, lit_7, lit_8, lit_9, lit_10, lit_11, lit_12, lit_13, lit_14, lit_15, lit_16, lit_17, lit_18, lit_19, lit_20, lit_21, lit_22, lit_23, lit_24, lit_25, lit_26, lit_27, lit_28, lit_29, lit_30, lit_31, lit_32, lit_33, lit_34, lit_35, lit_36, lit_37, lit_38, lit_39, lit_40, lit_41, lit_42, lit_43, lit_44, lit_45, lit_46, lit_47, lit_48, lit_49, lit_50, lit_51, lit_52, lit_53, lit_54, lit_55, lit_56, lit_57, lit_58, lit_59, lit_60, lit_61, lit_62, lit_63, lit_64, lit_65, lit_67, lit_70, lit_71, lit_73, lit_75, lit_78, lit_84, lit_85, lit_86, lit_87, lit_89, lit_90, lit_91, lit_95, lit_96, lit_97, lit_98, lit_99, lit_100, lit_101, lit_102, lit_103, lit_104, lit_105, lit_107, lit_108, lit_109, lit_110, lit_111, lit_112, lit_114, lit_115, lit_116, lit_117, lit_119, lit_121, lit_122, lit_126, lit_127, lit_128, lit_130, lit_134, lit_137, lit_139, lit_140, lit_141, lit_145, lit_152, lit_159, lit_160, lit_168, lit_174, lit_180, lit_183, lit_192, lit_199, lit_236, lit_251, lit_255, lit_272, lit_284, lit_300, lit_330, lit_373, lit_753, lit_800, lit_896, lit_900, lit_1000, lit_1001, lit_1002, lit_1003, lit_1079, lit_1276, lit_1330, lit_1450, lit_3012, lit_3016, lit_3300, lit_8430, lit_9999, lit_10000, lit_11730, lit_30467, lit_65536, lit_99999, lit_100000, lit_1000000, lit_252645135, lit_858993459, lit_1000000000, lit_1431655765, jI_lt, jI_le, jI_eq, isO_P, fR_P_0, fR_P_1, fR_P_2, fR_P_3, fR_P_4, fI_P_5, pf_P_5, fI_P_6, pf_P_6, ia_P1, is_P1, len_P1, ia_P2, is_P2, len_P2, ia_P3, is_P3, len_P3, ia_P4, is_P4, len_P4, ia_P5, is_P5, len_P5, b_I, b_L, b_V, b_R, b_N, b_N0, Option.bind_some, ↓reduceIte, bq0, bq1, bz0, bz1, ite_not, Classical.not_not, if_pos, if_neg]
theorem C_stopOf {P : Nat} {k : Int} (hP : P = 104 ∨ P = 110 ∨ P = 116 ∨ P = 122 ∨ P = 129) (h0 : 0 ≤ k) (h1 : k < F P 5) (h2 : F P 5 ≤ 24) : m_M x k_Script_stopOf [.ref P, .int (jI k)] (mk F G) = some (some (.int (jI (F (P + 3) k))), mk F G) := by
  rw [E_Script_stopOf, C_hasClause x F G hP h0 h1 h2]
  simp (disch := omega) only [lit_0, lit_1, lit_2, lit_3, lit_4, lit_5, lit_6, lit_7, lit_8, lit_9, lit_10, lit_11, lit_12, lit_13, lit_14, lit_15, lit_16, lit_17, lit_18, lit_19, lit_20, lit_21, lit_22, lit_23, lit_24, lit_25, lit_26, lit_27, lit_28, lit_29, lit_30, lit_31, lit_32, lit_33, lit_34, lit_35, lit_36, lit_37, lit_38, lit_39, lit_40, lit_41, lit_42, lit_43, lit_44, lit_45, lit_46, lit_47, lit_48, lit_49, lit_50, lit_51, lit_52, lit_53, lit_54, lit_55, lit_56, lit_57, lit_58, lit_59, lit_60, lit_61, lit_62, lit_63, lit_64, lit_65, lit_67, lit_70, lit_71, lit_73, lit_75, lit_78, lit_84, lit_85, lit_86, lit_87, lit_89, lit_90, lit_91, lit_95, lit_96, lit_97, lit_98, lit_99, lit_100, lit_101, lit_102, lit_103, lit_104, lit_105, lit_107, lit_108, lit_109, lit_110, lit_111, lit_112, lit_114, lit_115, lit_116, lit_117, lit_119, lit_121, lit_122, lit_126, lit_127, lit_128, lit_130, lit_134, lit_137, lit_139, lit_140, lit_141, lit_145, lit_152, lit_159, lit_160, lit_168, lit_174, lit_180, lit_183, lit_192, lit_199, lit_236, lit_251, lit_255, lit_272, lit_284, lit_300, lit_330, lit_373, lit_753, lit_800, lit_896, lit_900, lit_1000, lit_1001, lit_1002, lit_1003, lit_1079, lit_1276, lit_1330, lit_1450, lit_3012, lit_3016, lit_3300, lit_8430, lit_9999, lit_10000, lit_11730, lit_30467, lit_65536, lit_99999, lit_100000, lit_1000000, lit_252645135, lit_858993459, lit_1000000000, lit_1431655765, jI_lt, jI_le, jI_eq, isO_P, fR_P_0, fR_P_1, fR_P_2, fR_P_3, fR_P_4, fI_P_5, pf_P_5, fI_P_6, pf_P_6, ia_P1, is_P1, len_P1, ia_P2, is_P2, len_P2, ia_P3, is_P3, len_P3, ia_P4, is_P4, len_P4, ia_P5, is_P5, len_P5, b_I, b_L, b_V, b_R, b_N, b_N0, Option.bind_some, ↓reduceIte, bq0, bq1, bz0, bz1, ite_not, Classical.not_not, if_pos, if_neg]
theorem C_lawAt {P : Nat} {k : Int} (hP : P = 104 ∨ P = 110 ∨ P = 116 ∨ P = 122 ∨ P = 129) (h0 : 0 ≤ k) (h1 : k < 4) : m_M x k_Script_lawAt [.ref P, .int (jI k)] (mk F G) = some (some (.int (jI (F (P + 5) k))), mk F G) := by
  rw [E_Script_lawAt]
  simp (disch := omega) only [lit_0, lit_1, lit_2, lit_3, lit_4, lit_5, lit_6, lit_7, lit_8, lit_9, lit_10, lit_11, lit_12, lit_13, lit_14, lit_15, lit_16, lit_17, lit_18, lit_19, lit_20, lit_21, lit_22, lit_23, lit_24, lit_25, lit_26, lit_27, lit_28, lit_29, lit_30, lit_31, lit_32, lit_33, lit_34, lit_35, lit_36, lit_37, lit_38, lit_39, lit_40, lit_41, lit_42, lit_43, lit_44, lit_45, lit_46, lit_47, lit_48, lit_49, lit_50, lit_51, lit_52, lit_53, lit_54, lit_55, lit_56, lit_57, lit_58, lit_59, lit_60, lit_61, lit_62, lit_63, lit_64, lit_65, lit_67, lit_70, lit_71, lit_73, lit_75, lit_78, lit_84, lit_85, lit_86, lit_87, lit_89, lit_90, lit_91, lit_95, lit_96, lit_97, lit_98, lit_99, lit_100, lit_101, lit_102, lit_103, lit_104, lit_105, lit_107, lit_108, lit_109, lit_110, lit_111, lit_112, lit_114, lit_115, lit_116, lit_117, lit_119, lit_121, lit_122, lit_126, lit_127, lit_128, lit_130, lit_134, lit_137, lit_139, lit_140, lit_141, lit_145, lit_152, lit_159, lit_160, lit_168, lit_174, lit_180, lit_183, lit_192, lit_199, lit_236, lit_251, lit_255, lit_272, lit_284, lit_300, lit_330, lit_373, lit_753, lit_800, lit_896, lit_900, lit_1000, lit_1001, lit_1002, lit_1003, lit_1079, lit_1276, lit_1330, lit_1450, lit_3012, lit_3016, lit_3300, lit_8430, lit_9999, lit_10000, lit_11730, lit_30467, lit_65536, lit_99999, lit_100000, lit_1000000, lit_252645135, lit_858993459, lit_1000000000, lit_1431655765, jI_lt, jI_le, jI_eq, isO_P, fR_P_0, fR_P_1, fR_P_2, fR_P_3, fR_P_4, fI_P_5, pf_P_5, fI_P_6, pf_P_6, ia_P1, is_P1, len_P1, ia_P2, is_P2, len_P2, ia_P3, is_P3, len_P3, ia_P4, is_P4, len_P4, ia_P5, is_P5, len_P5, b_I, b_L, b_V, b_R, b_N, b_N0, Option.bind_some, ↓reduceIte, bq0, bq1, bz0, bz1, ite_not, Classical.not_not, if_pos, if_neg]
theorem C_isName {d : Int} (hd : rg d) : m_M x k_Words_isName [.int (jI d)] (mk F G) = some (some (.int (jI (if 11 ≤ d ∧ d ≤ 24 then 1 else 0))), mk F G) := by
  unfold rg at hd
  rw [E_Words_isName]
  simp (disch := omega) only [lit_0, lit_1, lit_2, lit_3, lit_4, lit_5, lit_6, lit_7, lit_8, lit_9, lit_10, lit_11, lit_12, lit_13, lit_14, lit_15, lit_16, lit_17, lit_18, lit_19, lit_20, lit_21, lit_22, lit_23, lit_24, lit_25, lit_26, lit_27, lit_28, lit_29, lit_30, lit_31, lit_32, lit_33, lit_34, lit_35, lit_36, lit_37, lit_38, lit_39, lit_40, lit_41, lit_42, lit_43, lit_44, lit_45, lit_46, lit_47, lit_48, lit_49, lit_50, lit_51, lit_52, lit_53, lit_54, lit_55, lit_56, lit_57, lit_58, lit_59, lit_60, lit_61, lit_62, lit_63, lit_64, lit_65, lit_67, lit_70, lit_71, lit_73, lit_75, lit_78, lit_84, lit_85, lit_86, lit_87, lit_89, lit_90, lit_91, lit_95, lit_96, lit_97, lit_98, lit_99, lit_100, lit_101, lit_102, lit_103, lit_104, lit_105, lit_107, lit_108, lit_109, lit_110, lit_111, lit_112, lit_114, lit_115, lit_116, lit_117, lit_119, lit_121, lit_122, lit_126, lit_127, lit_128, lit_130, lit_134, lit_137, lit_139, lit_140, lit_141, lit_145, lit_152, lit_159, lit_160, lit_168, lit_174, lit_180, lit_183, lit_192, lit_199, lit_236, lit_251, lit_255, lit_272, lit_284, lit_300, lit_330, lit_373, lit_753, lit_800, lit_896, lit_900, lit_1000, lit_1001, lit_1002, lit_1003, lit_1079, lit_1276, lit_1330, lit_1450, lit_3012, lit_3016, lit_3300, lit_8430, lit_9999, lit_10000, lit_11730, lit_30467, lit_65536, lit_99999, lit_100000, lit_1000000, lit_252645135, lit_858993459, lit_1000000000, lit_1431655765, jI_lt, jI_le, jI_eq]
  by_cases h1 : d < 11
  · rw [if_pos h1, if_neg (by omega)]
  · rw [if_neg h1]
    by_cases h2 : 24 < d
    · rw [if_pos h2, if_neg (by omega)]
    · rw [if_neg h2, if_pos (by omega)]
theorem C_named {w : Nat} {s d q : Int} (hw : w = 1 ∨ w = 51 ∨ w = 101) (hi : WI (F (w + 1))) (hq : qok s q) (hd : nmok s d) : m_M x k_Law_named [.int (jI d), .ref w, .int (jI q)] (mk F G) = some (some (.int (jI (nmR s (F (w + 1)) q d))), mk F G) := by
  have hr : rg q := by unfold rg; omega
  have e : d = 11 ∨ d = 12 ∨ (s ≤ 1 ∧ q < 7 ∧ (d = 13 ∨ d = 14 ∨ d = 15 ∨ d = 16 ∨ d = 17 ∨ d = 18)) ∨ (¬ s ≤ 1 ∧ (d = 19 ∨ d = 20 ∨ d = 21 ∨ d = 22 ∨ d = 23 ∨ d = 24)) := by
    unfold nmok at hd
    omega
  rw [E_Law_named]
  rcases e with rfl | rfl | ⟨hs, hq7, e⟩ | ⟨hs, e⟩
  · simp (disch := omega) only [lit_0, lit_1, lit_2, lit_3, lit_4, lit_5, lit_6, lit_7, lit_8, lit_9, lit_10, lit_11, lit_12, lit_13, lit_14, lit_15, lit_16, lit_17, lit_18, lit_19, lit_20, lit_21, lit_22, lit_23, lit_24, lit_25, lit_26, lit_27, lit_28, lit_29, lit_30, lit_31, lit_32, lit_33, lit_34, lit_35, lit_36, lit_37, lit_38, lit_39, lit_40, lit_41, lit_42, lit_43, lit_44, lit_45, lit_46, lit_47, lit_48, lit_49, lit_50, lit_51, lit_52, lit_53, lit_54, lit_55, lit_56, lit_57, lit_58, lit_59, lit_60, lit_61, lit_62, lit_63, lit_64, lit_65, lit_67, lit_70, lit_71, lit_73, lit_75, lit_78, lit_84, lit_85, lit_86, lit_87, lit_89, lit_90, lit_91, lit_95, lit_96, lit_97, lit_98, lit_99, lit_100, lit_101, lit_102, lit_103, lit_104, lit_105, lit_107, lit_108, lit_109, lit_110, lit_111, lit_112, lit_114, lit_115, lit_116, lit_117, lit_119, lit_121, lit_122, lit_126, lit_127, lit_128, lit_130, lit_134, lit_137, lit_139, lit_140, lit_141, lit_145, lit_152, lit_159, lit_160, lit_168, lit_174, lit_180, lit_183, lit_192, lit_199, lit_236, lit_251, lit_255, lit_272, lit_284, lit_300, lit_330, lit_373, lit_753, lit_800, lit_896, lit_900, lit_1000, lit_1001, lit_1002, lit_1003, lit_1079, lit_1276, lit_1330, lit_1450, lit_3012, lit_3016, lit_3300, lit_8430, lit_9999, lit_10000, lit_11730, lit_30467, lit_65536, lit_99999, lit_100000, lit_1000000, lit_252645135, lit_858993459, lit_1000000000, lit_1431655765, jI_lt, jI_le, jI_eq, isO_W, fR_W_0, ia_W, is_W, b_I, b_L, b_V, b_R, b_N, b_N0, Option.bind_some, ↓reduceIte, bq0, bq1, bz0, bz1, ite_not, Classical.not_not, if_pos, if_neg, nmR]
  · simp (disch := omega) only [lit_0, lit_1, lit_2, lit_3, lit_4, lit_5, lit_6, lit_7, lit_8, lit_9, lit_10, lit_11, lit_12, lit_13, lit_14, lit_15, lit_16, lit_17, lit_18, lit_19, lit_20, lit_21, lit_22, lit_23, lit_24, lit_25, lit_26, lit_27, lit_28, lit_29, lit_30, lit_31, lit_32, lit_33, lit_34, lit_35, lit_36, lit_37, lit_38, lit_39, lit_40, lit_41, lit_42, lit_43, lit_44, lit_45, lit_46, lit_47, lit_48, lit_49, lit_50, lit_51, lit_52, lit_53, lit_54, lit_55, lit_56, lit_57, lit_58, lit_59, lit_60, lit_61, lit_62, lit_63, lit_64, lit_65, lit_67, lit_70, lit_71, lit_73, lit_75, lit_78, lit_84, lit_85, lit_86, lit_87, lit_89, lit_90, lit_91, lit_95, lit_96, lit_97, lit_98, lit_99, lit_100, lit_101, lit_102, lit_103, lit_104, lit_105, lit_107, lit_108, lit_109, lit_110, lit_111, lit_112, lit_114, lit_115, lit_116, lit_117, lit_119, lit_121, lit_122, lit_126, lit_127, lit_128, lit_130, lit_134, lit_137, lit_139, lit_140, lit_141, lit_145, lit_152, lit_159, lit_160, lit_168, lit_174, lit_180, lit_183, lit_192, lit_199, lit_236, lit_251, lit_255, lit_272, lit_284, lit_300, lit_330, lit_373, lit_753, lit_800, lit_896, lit_900, lit_1000, lit_1001, lit_1002, lit_1003, lit_1079, lit_1276, lit_1330, lit_1450, lit_3012, lit_3016, lit_3300, lit_8430, lit_9999, lit_10000, lit_11730, lit_30467, lit_65536, lit_99999, lit_100000, lit_1000000, lit_252645135, lit_858993459, lit_1000000000, lit_1431655765, jI_lt, jI_le, jI_eq, isO_W, fR_W_0, ia_W, is_W, b_I, b_L, b_V, b_R, b_N, b_N0, Option.bind_some, ↓reduceIte, bq0, bq1, bz0, bz1, ite_not, Classical.not_not, if_pos, if_neg, nmR]
  · rcases e with rfl | rfl | rfl | rfl | rfl | rfl
    · simp (disch := first | omega | assumption) only [lit_0, lit_1, lit_2, lit_3, lit_4, lit_5, lit_6, lit_7, lit_8, lit_9, lit_10, lit_11, lit_12, lit_13, lit_14, lit_15, lit_16, lit_17, lit_18, lit_19, lit_20, lit_21, lit_22, lit_23, lit_24, lit_25, lit_26, lit_27, lit_28, lit_29, lit_30, lit_31, lit_32, lit_33, lit_34, lit_35, lit_36, lit_37, lit_38, lit_39, lit_40, lit_41, lit_42, lit_43, lit_44, lit_45, lit_46, lit_47, lit_48, lit_49, lit_50, lit_51, lit_52, lit_53, lit_54, lit_55, lit_56, lit_57, lit_58, lit_59, lit_60, lit_61, lit_62, lit_63, lit_64, lit_65, lit_67, lit_70, lit_71, lit_73, lit_75, lit_78, lit_84, lit_85, lit_86, lit_87, lit_89, lit_90, lit_91, lit_95, lit_96, lit_97, lit_98, lit_99, lit_100, lit_101, lit_102, lit_103, lit_104, lit_105, lit_107, lit_108, lit_109, lit_110, lit_111, lit_112, lit_114, lit_115, lit_116, lit_117, lit_119, lit_121, lit_122, lit_126, lit_127, lit_128, lit_130, lit_134, lit_137, lit_139, lit_140, lit_141, lit_145, lit_152, lit_159, lit_160, lit_168, lit_174, lit_180, lit_183, lit_192, lit_199, lit_236, lit_251, lit_255, lit_272, lit_284, lit_300, lit_330, lit_373, lit_753, lit_800, lit_896, lit_900, lit_1000, lit_1001, lit_1002, lit_1003, lit_1079, lit_1276, lit_1330, lit_1450, lit_3012, lit_3016, lit_3300, lit_8430, lit_9999, lit_10000, lit_11730, lit_30467, lit_65536, lit_99999, lit_100000, lit_1000000, lit_252645135, lit_858993459, lit_1000000000, lit_1431655765, jI_lt, jI_le, jI_eq, isO_W, fR_W_0, ia_W, is_W, b_I, b_L, b_V, b_R, b_N, b_N0, Option.bind_some, ↓reduceIte, bq0, bq1, bz0, bz1, ite_not, Classical.not_not, if_pos, if_neg, nmR]
    · simp (disch := first | omega | assumption) only [lit_0, lit_1, lit_2, lit_3, lit_4, lit_5, lit_6, lit_7, lit_8, lit_9, lit_10, lit_11, lit_12, lit_13, lit_14, lit_15, lit_16, lit_17, lit_18, lit_19, lit_20, lit_21, lit_22, lit_23, lit_24, lit_25, lit_26, lit_27, lit_28, lit_29, lit_30, lit_31, lit_32, lit_33, lit_34, lit_35, lit_36, lit_37, lit_38, lit_39, lit_40, lit_41, lit_42, lit_43, lit_44, lit_45, lit_46, lit_47, lit_48, lit_49, lit_50, lit_51, lit_52, lit_53, lit_54, lit_55, lit_56, lit_57, lit_58, lit_59, lit_60, lit_61, lit_62, lit_63, lit_64, lit_65, lit_67, lit_70, lit_71, lit_73, lit_75, lit_78, lit_84, lit_85, lit_86, lit_87, lit_89, lit_90, lit_91, lit_95, lit_96, lit_97, lit_98, lit_99, lit_100, lit_101, lit_102, lit_103, lit_104, lit_105, lit_107, lit_108, lit_109, lit_110, lit_111, lit_112, lit_114, lit_115, lit_116, lit_117, lit_119, lit_121, lit_122, lit_126, lit_127, lit_128, lit_130, lit_134, lit_137, lit_139, lit_140, lit_141, lit_145, lit_152, lit_159, lit_160, lit_168, lit_174, lit_180, lit_183, lit_192, lit_199, lit_236, lit_251, lit_255, lit_272, lit_284, lit_300, lit_330, lit_373, lit_753, lit_800, lit_896, lit_900, lit_1000, lit_1001, lit_1002, lit_1003, lit_1079, lit_1276, lit_1330, lit_1450, lit_3012, lit_3016, lit_3300, lit_8430, lit_9999, lit_10000, lit_11730, lit_30467, lit_65536, lit_99999, lit_100000, lit_1000000, lit_252645135, lit_858993459, lit_1000000000, lit_1431655765, jI_lt, jI_le, jI_eq, isO_W, fR_W_0, ia_W, is_W, b_I, b_L, b_V, b_R, b_N, b_N0, Option.bind_some, ↓reduceIte, bq0, bq1, bz0, bz1, ite_not, Classical.not_not, if_pos, if_neg, nmR, E_Law_cellsOf, C_at]
    · simp (disch := first | omega | assumption) only [lit_0, lit_1, lit_2, lit_3, lit_4, lit_5, lit_6, lit_7, lit_8, lit_9, lit_10, lit_11, lit_12, lit_13, lit_14, lit_15, lit_16, lit_17, lit_18, lit_19, lit_20, lit_21, lit_22, lit_23, lit_24, lit_25, lit_26, lit_27, lit_28, lit_29, lit_30, lit_31, lit_32, lit_33, lit_34, lit_35, lit_36, lit_37, lit_38, lit_39, lit_40, lit_41, lit_42, lit_43, lit_44, lit_45, lit_46, lit_47, lit_48, lit_49, lit_50, lit_51, lit_52, lit_53, lit_54, lit_55, lit_56, lit_57, lit_58, lit_59, lit_60, lit_61, lit_62, lit_63, lit_64, lit_65, lit_67, lit_70, lit_71, lit_73, lit_75, lit_78, lit_84, lit_85, lit_86, lit_87, lit_89, lit_90, lit_91, lit_95, lit_96, lit_97, lit_98, lit_99, lit_100, lit_101, lit_102, lit_103, lit_104, lit_105, lit_107, lit_108, lit_109, lit_110, lit_111, lit_112, lit_114, lit_115, lit_116, lit_117, lit_119, lit_121, lit_122, lit_126, lit_127, lit_128, lit_130, lit_134, lit_137, lit_139, lit_140, lit_141, lit_145, lit_152, lit_159, lit_160, lit_168, lit_174, lit_180, lit_183, lit_192, lit_199, lit_236, lit_251, lit_255, lit_272, lit_284, lit_300, lit_330, lit_373, lit_753, lit_800, lit_896, lit_900, lit_1000, lit_1001, lit_1002, lit_1003, lit_1079, lit_1276, lit_1330, lit_1450, lit_3012, lit_3016, lit_3300, lit_8430, lit_9999, lit_10000, lit_11730, lit_30467, lit_65536, lit_99999, lit_100000, lit_1000000, lit_252645135, lit_858993459, lit_1000000000, lit_1431655765, jI_lt, jI_le, jI_eq, isO_W, fR_W_0, ia_W, is_W, b_I, b_L, b_V, b_R, b_N, b_N0, Option.bind_some, ↓reduceIte, bq0, bq1, bz0, bz1, ite_not, Classical.not_not, if_pos, if_neg, nmR, E_Law_cellsOf, C_at]
    · simp (disch := first | omega | assumption) only [lit_0, lit_1, lit_2, lit_3, lit_4, lit_5, lit_6, lit_7, lit_8, lit_9, lit_10, lit_11, lit_12, lit_13, lit_14, lit_15, lit_16, lit_17, lit_18, lit_19, lit_20, lit_21, lit_22, lit_23, lit_24, lit_25, lit_26, lit_27, lit_28, lit_29, lit_30, lit_31, lit_32, lit_33, lit_34, lit_35, lit_36, lit_37, lit_38, lit_39, lit_40, lit_41, lit_42, lit_43, lit_44, lit_45, lit_46, lit_47, lit_48, lit_49, lit_50, lit_51, lit_52, lit_53, lit_54, lit_55, lit_56, lit_57, lit_58, lit_59, lit_60, lit_61, lit_62, lit_63, lit_64, lit_65, lit_67, lit_70, lit_71, lit_73, lit_75, lit_78, lit_84, lit_85, lit_86, lit_87, lit_89, lit_90, lit_91, lit_95, lit_96, lit_97, lit_98, lit_99, lit_100, lit_101, lit_102, lit_103, lit_104, lit_105, lit_107, lit_108, lit_109, lit_110, lit_111, lit_112, lit_114, lit_115, lit_116, lit_117, lit_119, lit_121, lit_122, lit_126, lit_127, lit_128, lit_130, lit_134, lit_137, lit_139, lit_140, lit_141, lit_145, lit_152, lit_159, lit_160, lit_168, lit_174, lit_180, lit_183, lit_192, lit_199, lit_236, lit_251, lit_255, lit_272, lit_284, lit_300, lit_330, lit_373, lit_753, lit_800, lit_896, lit_900, lit_1000, lit_1001, lit_1002, lit_1003, lit_1079, lit_1276, lit_1330, lit_1450, lit_3012, lit_3016, lit_3300, lit_8430, lit_9999, lit_10000, lit_11730, lit_30467, lit_65536, lit_99999, lit_100000, lit_1000000, lit_252645135, lit_858993459, lit_1000000000, lit_1431655765, jI_lt, jI_le, jI_eq, isO_W, fR_W_0, ia_W, is_W, b_I, b_L, b_V, b_R, b_N, b_N0, Option.bind_some, ↓reduceIte, bq0, bq1, bz0, bz1, ite_not, Classical.not_not, if_pos, if_neg, nmR, E_Law_cellsOf, C_at]
    · simp (disch := first | omega | assumption) only [lit_0, lit_1, lit_2, lit_3, lit_4, lit_5, lit_6, lit_7, lit_8, lit_9, lit_10, lit_11, lit_12, lit_13, lit_14, lit_15, lit_16, lit_17, lit_18, lit_19, lit_20, lit_21, lit_22, lit_23, lit_24, lit_25, lit_26, lit_27, lit_28, lit_29, lit_30, lit_31, lit_32, lit_33, lit_34, lit_35, lit_36, lit_37, lit_38, lit_39, lit_40, lit_41, lit_42, lit_43, lit_44, lit_45, lit_46, lit_47, lit_48, lit_49, lit_50, lit_51, lit_52, lit_53, lit_54, lit_55, lit_56, lit_57, lit_58, lit_59, lit_60, lit_61, lit_62, lit_63, lit_64, lit_65, lit_67, lit_70, lit_71, lit_73, lit_75, lit_78, lit_84, lit_85, lit_86, lit_87, lit_89, lit_90, lit_91, lit_95, lit_96, lit_97, lit_98, lit_99, lit_100, lit_101, lit_102, lit_103, lit_104, lit_105, lit_107, lit_108, lit_109, lit_110, lit_111, lit_112, lit_114, lit_115, lit_116, lit_117, lit_119, lit_121, lit_122, lit_126, lit_127, lit_128, lit_130, lit_134, lit_137, lit_139, lit_140, lit_141, lit_145, lit_152, lit_159, lit_160, lit_168, lit_174, lit_180, lit_183, lit_192, lit_199, lit_236, lit_251, lit_255, lit_272, lit_284, lit_300, lit_330, lit_373, lit_753, lit_800, lit_896, lit_900, lit_1000, lit_1001, lit_1002, lit_1003, lit_1079, lit_1276, lit_1330, lit_1450, lit_3012, lit_3016, lit_3300, lit_8430, lit_9999, lit_10000, lit_11730, lit_30467, lit_65536, lit_99999, lit_100000, lit_1000000, lit_252645135, lit_858993459, lit_1000000000, lit_1431655765, jI_lt, jI_le, jI_eq, isO_W, fR_W_0, ia_W, is_W, b_I, b_L, b_V, b_R, b_N, b_N0, Option.bind_some, ↓reduceIte, bq0, bq1, bz0, bz1, ite_not, Classical.not_not, if_pos, if_neg, nmR, C_rightsOf]
    · simp (disch := first | omega | assumption) only [lit_0, lit_1, lit_2, lit_3, lit_4, lit_5, lit_6, lit_7, lit_8, lit_9, lit_10, lit_11, lit_12, lit_13, lit_14, lit_15, lit_16, lit_17, lit_18, lit_19, lit_20, lit_21, lit_22, lit_23, lit_24, lit_25, lit_26, lit_27, lit_28, lit_29, lit_30, lit_31, lit_32, lit_33, lit_34, lit_35, lit_36, lit_37, lit_38, lit_39, lit_40, lit_41, lit_42, lit_43, lit_44, lit_45, lit_46, lit_47, lit_48, lit_49, lit_50, lit_51, lit_52, lit_53, lit_54, lit_55, lit_56, lit_57, lit_58, lit_59, lit_60, lit_61, lit_62, lit_63, lit_64, lit_65, lit_67, lit_70, lit_71, lit_73, lit_75, lit_78, lit_84, lit_85, lit_86, lit_87, lit_89, lit_90, lit_91, lit_95, lit_96, lit_97, lit_98, lit_99, lit_100, lit_101, lit_102, lit_103, lit_104, lit_105, lit_107, lit_108, lit_109, lit_110, lit_111, lit_112, lit_114, lit_115, lit_116, lit_117, lit_119, lit_121, lit_122, lit_126, lit_127, lit_128, lit_130, lit_134, lit_137, lit_139, lit_140, lit_141, lit_145, lit_152, lit_159, lit_160, lit_168, lit_174, lit_180, lit_183, lit_192, lit_199, lit_236, lit_251, lit_255, lit_272, lit_284, lit_300, lit_330, lit_373, lit_753, lit_800, lit_896, lit_900, lit_1000, lit_1001, lit_1002, lit_1003, lit_1079, lit_1276, lit_1330, lit_1450, lit_3012, lit_3016, lit_3300, lit_8430, lit_9999, lit_10000, lit_11730, lit_30467, lit_65536, lit_99999, lit_100000, lit_1000000, lit_252645135, lit_858993459, lit_1000000000, lit_1431655765, jI_lt, jI_le, jI_eq, isO_W, fR_W_0, ia_W, is_W, b_I, b_L, b_V, b_R, b_N, b_N0, Option.bind_some, ↓reduceIte, bq0, bq1, bz0, bz1, ite_not, Classical.not_not, if_pos, if_neg, nmR, C_bareHandsOf]
  · rcases e with rfl | rfl | rfl | rfl | rfl | rfl
    all_goals simp (disch := first | omega | assumption) only [lit_0, lit_1, lit_2, lit_3, lit_4, lit_5, lit_6, lit_7, lit_8, lit_9, lit_10, lit_11, lit_12, lit_13, lit_14, lit_15, lit_16, lit_17, lit_18, lit_19, lit_20, lit_21, lit_22, lit_23, lit_24, lit_25, lit_26, lit_27, lit_28, lit_29, lit_30, lit_31, lit_32, lit_33, lit_34, lit_35, lit_36, lit_37, lit_38, lit_39, lit_40, lit_41, lit_42, lit_43, lit_44, lit_45, lit_46, lit_47, lit_48, lit_49, lit_50, lit_51, lit_52, lit_53, lit_54, lit_55, lit_56, lit_57, lit_58, lit_59, lit_60, lit_61, lit_62, lit_63, lit_64, lit_65, lit_67, lit_70, lit_71, lit_73, lit_75, lit_78, lit_84, lit_85, lit_86, lit_87, lit_89, lit_90, lit_91, lit_95, lit_96, lit_97, lit_98, lit_99, lit_100, lit_101, lit_102, lit_103, lit_104, lit_105, lit_107, lit_108, lit_109, lit_110, lit_111, lit_112, lit_114, lit_115, lit_116, lit_117, lit_119, lit_121, lit_122, lit_126, lit_127, lit_128, lit_130, lit_134, lit_137, lit_139, lit_140, lit_141, lit_145, lit_152, lit_159, lit_160, lit_168, lit_174, lit_180, lit_183, lit_192, lit_199, lit_236, lit_251, lit_255, lit_272, lit_284, lit_300, lit_330, lit_373, lit_753, lit_800, lit_896, lit_900, lit_1000, lit_1001, lit_1002, lit_1003, lit_1079, lit_1276, lit_1330, lit_1450, lit_3012, lit_3016, lit_3300, lit_8430, lit_9999, lit_10000, lit_11730, lit_30467, lit_65536, lit_99999, lit_100000, lit_1000000, lit_252645135, lit_858993459, lit_1000000000, lit_1431655765, jI_lt, jI_le, jI_eq, isO_W, fR_W_0, ia_W, is_W, b_I, b_L, b_V, b_R, b_N, b_N0, Option.bind_some, ↓reduceIte, bq0, bq1, bz0, bz1, ite_not, Classical.not_not, if_pos, if_neg, nmR, E_Law_cellsOf, C_at]
theorem P_push {v : Int} {st : List Int} (hst : st.length ≤ 63) (h1 : F 136 1 = st.length) (h2 : stk (F 137) st) : ∃ F2, m_M x k_Law_push [.ref 136, .int (jI v)] (mk F G) = some (none, mk F2 G) ∧ agr F F2 ∧ F2 136 1 = ((v :: st).length : Nat) ∧ stk (F2 137) (v :: st) := by
  refine ⟨sA (sA F 137 (u (F 137) (F 136 1) v)) 136 (u (F 136) 1 (F 136 1 + 1)), ?_, ?_, ?_, ?_⟩
  · rw [E_Law_push]
    simp (disch := omega) only [lit_0, lit_1, lit_2, lit_3, lit_4, lit_5, lit_6, lit_7, lit_8, lit_9, lit_10, lit_11, lit_12, lit_13, lit_14, lit_15, lit_16, lit_17, lit_18, lit_19, lit_20, lit_21, lit_22, lit_23, lit_24, lit_25, lit_26, lit_27, lit_28, lit_29, lit_30, lit_31, lit_32, lit_33, lit_34, lit_35, lit_36, lit_37, lit_38, lit_39, lit_40, lit_41, lit_42, lit_43, lit_44, lit_45, lit_46, lit_47, lit_48, lit_49, lit_50, lit_51, lit_52, lit_53, lit_54, lit_55, lit_56, lit_57, lit_58, lit_59, lit_60, lit_61, lit_62, lit_63, lit_64, lit_65, lit_67, lit_70, lit_71, lit_73, lit_75, lit_78, lit_84, lit_85, lit_86, lit_87, lit_89, lit_90, lit_91, lit_95, lit_96, lit_97, lit_98, lit_99, lit_100, lit_101, lit_102, lit_103, lit_104, lit_105, lit_107, lit_108, lit_109, lit_110, lit_111, lit_112, lit_114, lit_115, lit_116, lit_117, lit_119, lit_121, lit_122, lit_126, lit_127, lit_128, lit_130, lit_134, lit_137, lit_139, lit_140, lit_141, lit_145, lit_152, lit_159, lit_160, lit_168, lit_174, lit_180, lit_183, lit_192, lit_199, lit_236, lit_251, lit_255, lit_272, lit_284, lit_300, lit_330, lit_373, lit_753, lit_800, lit_896, lit_900, lit_1000, lit_1001, lit_1002, lit_1003, lit_1079, lit_1276, lit_1330, lit_1450, lit_3012, lit_3016, lit_3300, lit_8430, lit_9999, lit_10000, lit_11730, lit_30467, lit_65536, lit_99999, lit_100000, lit_1000000, lit_252645135, lit_858993459, lit_1000000000, lit_1431655765, jI_lt, jI_le, jI_eq, jI_add, jI_sub, jI_mul, jI_neg, isO_136, fR_136_0, fI_136_1, pf_136_1, ia_137, is_137, b_I, b_L, b_V, b_R, b_N, b_N0, Option.bind_some, ↓reduceIte, bq0, bq1, bz0, bz1, ite_not, Classical.not_not, if_pos, if_neg, sA_ne]
  · intro b h3 h4
    rw [sA_ne _ _ h3, sA_ne _ _ h4]
  · rw [sA_eq, u_eq, h1, List.length_cons]
    omega
  · rw [sA_ne _ _ (by omega), sA_eq, h1]
    exact ⟨u_eq _ _ _, stk_u h2 (Int.le_refl _)⟩
theorem P_pop {v : Int} {st : List Int} (hst : st.length ≤ 63) (h1 : F 136 1 = ((v :: st).length : Nat)) (h2 : stk (F 137) (v :: st)) : ∃ F2, m_M x k_Law_pop [.ref 136] (mk F G) = some (some (.int (jI v)), mk F2 G) ∧ agr F F2 ∧ F2 136 1 = st.length ∧ stk (F2 137) st := by
  rw [List.length_cons] at h1
  refine ⟨sA F 136 (u (F 136) 1 (F 136 1 - 1)), ?_, ?_, ?_, ?_⟩
  · rw [E_Law_pop]
    simp (disch := omega) only [lit_0, lit_1, lit_2, lit_3, lit_4, lit_5, lit_6, lit_7, lit_8, lit_9, lit_10, lit_11, lit_12, lit_13, lit_14, lit_15, lit_16, lit_17, lit_18, lit_19, lit_20, lit_21, lit_22, lit_23, lit_24, lit_25, lit_26, lit_27, lit_28, lit_29, lit_30, lit_31, lit_32, lit_33, lit_34, lit_35, lit_36, lit_37, lit_38, lit_39, lit_40, lit_41, lit_42, lit_43, lit_44, lit_45, lit_46, lit_47, lit_48, lit_49, lit_50, lit_51, lit_52, lit_53, lit_54, lit_55, lit_56, lit_57, lit_58, lit_59, lit_60, lit_61, lit_62, lit_63, lit_64, lit_65, lit_67, lit_70, lit_71, lit_73, lit_75, lit_78, lit_84, lit_85, lit_86, lit_87, lit_89, lit_90, lit_91, lit_95, lit_96, lit_97, lit_98, lit_99, lit_100, lit_101, lit_102, lit_103, lit_104, lit_105, lit_107, lit_108, lit_109, lit_110, lit_111, lit_112, lit_114, lit_115, lit_116, lit_117, lit_119, lit_121, lit_122, lit_126, lit_127, lit_128, lit_130, lit_134, lit_137, lit_139, lit_140, lit_141, lit_145, lit_152, lit_159, lit_160, lit_168, lit_174, lit_180, lit_183, lit_192, lit_199, lit_236, lit_251, lit_255, lit_272, lit_284, lit_300, lit_330, lit_373, lit_753, lit_800, lit_896, lit_900, lit_1000, lit_1001, lit_1002, lit_1003, lit_1079, lit_1276, lit_1330, lit_1450, lit_3012, lit_3016, lit_3300, lit_8430, lit_9999, lit_10000, lit_11730, lit_30467, lit_65536, lit_99999, lit_100000, lit_1000000, lit_252645135, lit_858993459, lit_1000000000, lit_1431655765, jI_lt, jI_le, jI_eq, jI_add, jI_sub, jI_mul, jI_neg, isO_136, fR_136_0, fI_136_1, pf_136_1, b_I, b_L, b_V, b_R, b_N, b_N0, Option.bind_some, ↓reduceIte, bq0, bq1, bz0, bz1, ite_not, Classical.not_not, if_pos, if_neg, sA_eq, u_eq]
    have e : F 136 1 - 1 = (st.length : Int) := by omega
    simp (disch := omega) only [e, ia_137, is_137, b_I, b_L, b_V, b_R, b_N, b_N0, Option.bind_some, ↓reduceIte, bq0, bq1, bz0, bz1, ite_not, Classical.not_not, sA_ne]
    rw [h2.1]
  · intro b h3 h4
    rw [sA_ne _ _ h3]
  · rw [sA_eq, u_eq, h1]
    omega
  · rw [sA_ne _ _ (by omega)]
    exact h2.2
theorem C_reck {w P : Nat} {q e s0 : Int} {n2 : Int32} (hw : w = 1 ∨ w = 51 ∨ w = 101) (hP : P = 104 ∨ P = 110 ∨ P = 116 ∨ P = 122 ∨ P = 129) (hq : qok s0 q) (hi : WI (F (w + 1))) (he : e ≤ 300) : ∀ (n : Nat) (i : Int) (st : List Int) (j : Int) (st' : List Int), CR s0 (F (P + 4)) (nmR s0 (F (w + 1)) q) (lefts (F (w + 1))) n i st j st' → 0 ≤ i → j ≤ e → ∀ (F1 : Nat → Fn) d7 d8 d9, m_nl d7 = true → m_nl d8 = true → m_nl d9 = true → agr F F1 → F1 136 1 = st.length → stk (F1 137) st → ∃ F2 d7' d8' d9', m_nl d7' = true ∧ m_nl d8' = true ∧ m_nl d9' = true ∧ agr F F2 ∧ F2 136 1 = st'.length ∧ stk (F2 137) st' ∧ m_D x 4 k_Law_reckoned 19 [some (.ref 136), some (.ref P), some (.int n2), some (.ref w), some (.int (jI q)), some (.int (jI e)), some (.int (jI i)), d7, d8, d9] [] (mk F1 G) = m_D x 4 k_Law_reckoned 19 [some (.ref 136), some (.ref P), some (.int n2), some (.ref w), some (.int (jI q)), some (.int (jI e)), some (.int (jI j)), d7', d8', d9'] [] (mk F2 G) := by
  intro n
  induction n with
  | zero =>
    intro i st j st' hr h0 hj F1 d7 d8 d9 h7 h8 h9 ha ht hs
    obtain ⟨r1, r2⟩ := hr
    subst r1 r2
    exact ⟨F1, d7, d8, d9, h7, h8, h9, ha, ht, hs, rfl⟩
  | succ n ih =>
    intro i st j st' hr h0 hj F1 d7 d8 d9 h7 h8 h9 ha ht hs
    obtain ⟨hij, hst, hbd, i1, st1, hcs, hi1, hr2⟩ := hr
    have hPw : ¬ P + 4 = 136 ∧ ¬ P + 4 = 137 := by omega
    have hww : ¬ w + 1 = 136 ∧ ¬ w + 1 = 137 := by omega
    have ec : F1 (P + 4) = F (P + 4) := ha _ hPw.1 hPw.2
    have ew : F1 (w + 1) = F (w + 1) := ha _ hww.1 hww.2
    have hle : ¬ (jI e ≤ jI i) := by
      rw [jI_le (by omega) (by omega) (by omega) (by omega)]
      omega
    have hcell := C_cellAt x F1 G hP h0 (by omega)
    rw [ec] at hcell
    have start : m_D x 4 k_Law_reckoned 19 [some (.ref 136), some (.ref P), some (.int n2), some (.ref w), some (.int (jI q)), some (.int (jI e)), some (.int (jI i)), d7, d8, d9] [] (mk F1 G) = _ := E_Law_reckoned_19 x 4 (by omega) (mk F1 G) 136 P n2 w (jI q) (jI e) (jI i) d7 d8 d9 h7 h8 h9
    rw [if_neg hle, hcell, b_I] at start
    unfold CS at hcs
    rcases hcs with ⟨c1, c2, c3, c4⟩ | ⟨d, c1, c2, c0, c3, c4, c5⟩ | ⟨c1, v, s, c2, c3, c4, c5, c6, c7⟩ | ⟨c1, c2, c3, c4, c5⟩ | ⟨c1, c2, v, s, c3, c4, c5⟩ | ⟨c1, c2, v, s, c3, c4⟩ | ⟨c1, c2, v, s, c3, c4⟩ | ⟨d, r, l, s, c1, c2, c3, c4, c5⟩
    · subst c3 c4
      have hn : ¬ (jI (F (P + 4) i) < 0) := by
        rw [lit_0, jI_lt (by omega) (by omega) (by omega) (by omega)]
        omega
      obtain ⟨F2, p1, p2, p3, p4⟩ := P_push x F1 G (v := F (P + 4) i) hst ht hs
      rw [if_neg hn, p1, b_V, lit_1, jI_add] at start
      obtain ⟨Fz, e7, e8, e9, k1, k2, k3, k4, k5, k6, k7⟩ := ih _ _ j st' hr2 (by omega) hj F2 (some (.int (jI (F (P + 4) i)))) (some (.int (-jI 1 - jI (F (P + 4) i)))) d9 rfl rfl h9 (agr_tr ha p2) p3 p4
      refine ⟨Fz, e7, e8, e9, k1, k2, k3, k4, k5, k6, ?_⟩
      rw [start]
      exact k7
    · subst c4 c5
      have hn : jI (F (P + 4) i) < 0 := by
        rw [c3, lit_0, jI_lt (by omega) (by omega) (by omega) (by omega)]
        omega
      have ed : (-1 : Int32) - jI (F (P + 4) i) = jI d := by
        rw [c3, lit_1, jI_neg, jI_sub]
        congr 1
        omega
      have hN := C_isName x F1 G (d := d) (by unfold rg; omega)
      rw [if_pos ⟨c1, c2⟩] at hN
      have hnm := C_named x F1 G (w := w) (s := s0) (d := d) (q := q) hw (by rw [ew]; exact hi) hq c0
      rw [ew] at hnm
      obtain ⟨F2, p1, p2, p3, p4⟩ := P_push x F1 G (v := nmR s0 (F (w + 1)) q d) hst ht hs
      rw [if_pos hn, ed, hN, b_I, if_neg (show ¬ jI 1 = 0 by decide), hnm, b_I, p1, b_V, lit_1, jI_add] at start
      obtain ⟨Fz, e7, e8, e9, k1, k2, k3, k4, k5, k6, k7⟩ := ih _ _ j st' hr2 (by omega) hj F2 (some (.int (jI (F (P + 4) i)))) (some (.int (jI d))) d9 rfl rfl h9 (agr_tr ha p2) p3 p4
      refine ⟨Fz, e7, e8, e9, k1, k2, k3, k4, k5, k6, ?_⟩
      rw [start]
      exact k7
    · subst c2 c4
      have hn : jI (F (P + 4) i) < 0 := by
        rw [c1, lit_0, jI_lt (by omega) (by omega) (by omega) (by omega)]
        omega
      have ed : (-1 : Int32) - jI (F (P + 4) i) = jI 31 := by
        rw [c1, lit_1, jI_neg, jI_sub]
        rfl
      have hN := C_isName x F1 G (d := 31) (by unfold rg; omega)
      rw [if_neg (by omega)] at hN
      obtain ⟨F2, p1, p2, p3, p4⟩ := P_pop x F1 G (v := v) (st := st1) (by simp only [List.length_cons] at hst; omega) ht hs
      rw [if_pos hn, ed, hN, b_I, if_pos (show jI 0 = 0 by decide), if_pos (show jI 31 = 31 by decide), if_neg (show ¬ jI 31 = 32 by decide), p1, b_I] at start
      have ec2 : F2 (P + 4) = F (P + 4) := (p2 _ hPw.1 hPw.2).trans ec
      rcases c3 with rfl | rfl
      · rw [if_pos rfl] at c5
        rw [if_pos (show jI 0 = 0 by decide)] at start
        subst c5
        have hcell2 := C_cellAt x F2 G hP (i := i + 1) (by omega) (by omega)
        rw [ec2] at hcell2
        have hmx := C_max x F2 G (a := i + 1) (b := F (P + 4) (i + 1) - 1) (by unfold rg; omega) (by unfold rg; omega)
        have em : max (i + 1) (F (P + 4) (i + 1) - 1) + 1 = F (P + 4) (i + 1) := by omega
        rw [E_Law_reckoned_110 x 4 (by omega) _ _ _ _ _ _ _ _ _ _ _ _ h9, if_neg (show ¬ (1 : Int32) = 0 by decide), lit_1, jI_add, hcell2, b_I, jI_sub, hmx, b_I, jI_add, em] at start
        obtain ⟨Fz, e7, e8, e9, k1, k2, k3, k4, k5, k6, k7⟩ := ih _ _ j st' hr2 (by omega) hj F2 (some (.int (jI (F (P + 4) i)))) (some (.int (jI 31))) (some (.int (jI 1))) rfl rfl rfl (agr_tr ha p2) p3 p4
        refine ⟨Fz, e7, e8, e9, k1, k2, k3, k4, k5, k6, ?_⟩
        rw [start]
        exact k7
      · rw [if_neg (by omega)] at c5
        rw [if_neg (show ¬ jI 1 = 0 by decide)] at start
        subst c5
        rw [E_Law_reckoned_110 x 4 (by omega) _ _ _ _ _ _ _ _ _ _ _ _ h9, if_pos rfl, lit_1, jI_add, jI_add] at start
        have e2 : i + 1 + 1 = i + 2 := by omega
        rw [e2] at start
        obtain ⟨Fz, e7, e8, e9, k1, k2, k3, k4, k5, k6, k7⟩ := ih _ _ j st' hr2 (by omega) hj F2 (some (.int (jI (F (P + 4) i)))) (some (.int (jI 31))) (some (.int 0)) rfl rfl rfl (agr_tr ha p2) p3 p4
        refine ⟨Fz, e7, e8, e9, k1, k2, k3, k4, k5, k6, ?_⟩
        rw [start]
        exact k7
    · subst c2 c3
      have hn : jI (F (P + 4) i) < 0 := by
        rw [c1, lit_0, jI_lt (by omega) (by omega) (by omega) (by omega)]
        omega
      have ed : (-1 : Int32) - jI (F (P + 4) i) = jI 32 := by
        rw [c1, lit_1, jI_neg, jI_sub]
        rfl
      have hN := C_isName x F1 G (d := 32) (by unfold rg; omega)
      rw [if_neg (by omega)] at hN
      rw [if_pos hn, ed, hN, b_I, if_pos (show jI 0 = 0 by decide), if_neg (show ¬ jI 32 = 31 by decide), if_pos (show jI 32 = 32 by decide), if_pos (show jI 32 = 32 by decide)] at start
      have hcell2 := C_cellAt x F1 G hP (i := i + 1) (by omega) (by omega)
      rw [ec] at hcell2
      have hmx := C_max x F1 G (a := i + 1) (b := F (P + 4) (i + 1) - 1) (by unfold rg; omega) (by unfold rg; omega)
      have em : max (i + 1) (F (P + 4) (i + 1) - 1) + 1 = F (P + 4) (i + 1) := by omega
      rw [E_Law_reckoned_110 x 4 (by omega) _ _ _ _ _ _ _ _ _ _ _ _ h9, if_neg (show ¬ (1 : Int32) = 0 by decide), lit_1, jI_add, hcell2, b_I, jI_sub, hmx, b_I, jI_add, em] at start
      obtain ⟨Fz, e7, e8, e9, k1, k2, k3, k4, k5, k6, k7⟩ := ih _ _ j st' hr2 (by omega) hj F1 (some (.int (jI (F (P + 4) i)))) (some (.int (jI 32))) (some (.int (jI 1))) rfl rfl rfl ha ht hs
      refine ⟨Fz, e7, e8, e9, k1, k2, k3, k4, k5, k6, ?_⟩
      rw [start]
      exact k7
    · subst c2 c3 c5
      have hn : jI (F (P + 4) i) < 0 := by
        rw [c1, lit_0, jI_lt (by omega) (by omega) (by omega) (by omega)]
        omega
      have ed : (-1 : Int32) - jI (F (P + 4) i) = jI 36 := by
        rw [c1, lit_1, jI_neg, jI_sub]
        rfl
      have hN := C_isName x F1 G (d := 36) (by unfold rg; omega)
      rw [if_neg (by omega)] at hN
      simp only [List.length_cons] at hst
      obtain ⟨F2, p1, p2, p3, p4⟩ := P_pop x F1 G (v := v) (st := s) (by omega) ht hs
      obtain ⟨F3, q1, q2, q3, q4⟩ := P_push x F2 G (v := 1 - v) (st := s) (by omega) p3 p4
      rw [if_pos hn, ed, hN, b_I, if_pos (show jI 0 = 0 by decide), if_neg (show ¬ jI 36 = 31 by decide), if_neg (show ¬ jI 36 = 32 by decide), if_pos (show jI 36 = 36 by decide), p1, b_I, lit_1, jI_sub, q1, b_V, jI_add] at start
      obtain ⟨Fz, e7, e8, e9, k1, k2, k3, k4, k5, k6, k7⟩ := ih _ _ j st' hr2 (by omega) hj F3 (some (.int (jI (F (P + 4) i)))) (some (.int (jI 36))) d9 rfl rfl h9 (agr_tr (agr_tr ha p2) q2) q3 q4
      refine ⟨Fz, e7, e8, e9, k1, k2, k3, k4, k5, k6, ?_⟩
      rw [start]
      exact k7
    · subst c2 c3 c4
      have hn : jI (F (P + 4) i) < 0 := by
        rw [c1, lit_0, jI_lt (by omega) (by omega) (by omega) (by omega)]
        omega
      have ed : (-1 : Int32) - jI (F (P + 4) i) = jI 50 := by
        rw [c1, lit_1, jI_neg, jI_sub]
        rfl
      have hN := C_isName x F1 G (d := 50) (by unfold rg; omega)
      rw [if_neg (by omega)] at hN
      simp only [List.length_cons] at hst
      obtain ⟨F2, p1, p2, p3, p4⟩ := P_pop x F1 G (v := v) (st := s) (by omega) ht hs
      obtain ⟨F3, q1, q2, q3, q4⟩ := P_push x F2 G (v := -v) (st := s) (by omega) p3 p4
      rw [if_pos hn, ed, hN, b_I, if_pos (show jI 0 = 0 by decide), if_neg (show ¬ jI 50 = 31 by decide), if_neg (show ¬ jI 50 = 32 by decide), if_neg (show ¬ jI 50 = 36 by decide), if_pos (show jI 50 = 50 by decide), p1, b_I, jI_neg, q1, b_V, lit_1, jI_add] at start
      obtain ⟨Fz, e7, e8, e9, k1, k2, k3, k4, k5, k6, k7⟩ := ih _ _ j st' hr2 (by omega) hj F3 (some (.int (jI (F (P + 4) i)))) (some (.int (jI 50))) d9 rfl rfl h9 (agr_tr (agr_tr ha p2) q2) q3 q4
      refine ⟨Fz, e7, e8, e9, k1, k2, k3, k4, k5, k6, ?_⟩
      rw [start]
      exact k7
    · subst c2 c3 c4
      have hn : jI (F (P + 4) i) < 0 := by
        rw [c1, lit_0, jI_lt (by omega) (by omega) (by omega) (by omega)]
        omega
      have ed : (-1 : Int32) - jI (F (P + 4) i) = jI 29 := by
        rw [c1, lit_1, jI_neg, jI_sub]
        rfl
      have hN := C_isName x F1 G (d := 29) (by unfold rg; omega)
      rw [if_neg (by omega)] at hN
      have hv := hbd v (by simp)
      unfold bd at hv
      simp only [List.length_cons] at hst
      obtain ⟨F2, p1, p2, p3, p4⟩ := P_pop x F1 G (v := v) (st := s) (by omega) ht hs
      have ew2 : F2 (w + 1) = F (w + 1) := (p2 _ hww.1 hww.2).trans ew
      have hlf := C_leftsOf x F2 G (w := w) (p := v) hw (by rw [ew2]; exact hi) (by unfold rg; omega)
      rw [ew2] at hlf
      obtain ⟨F3, q1, q2, q3, q4⟩ := P_push x F2 G (v := lefts (F (w + 1)) v) (st := s) (by omega) p3 p4
      rw [if_pos hn, ed, hN, b_I, if_pos (show jI 0 = 0 by decide), if_neg (show ¬ jI 29 = 31 by decide), if_neg (show ¬ jI 29 = 32 by decide), if_neg (show ¬ jI 29 = 36 by decide), if_neg (show ¬ jI 29 = 50 by decide), if_pos (show jI 29 = 29 by decide), p1, b_I, hlf, b_I, q1, b_V, lit_1, jI_add] at start
      obtain ⟨Fz, e7, e8, e9, k1, k2, k3, k4, k5, k6, k7⟩ := ih _ _ j st' hr2 (by omega) hj F3 (some (.int (jI (F (P + 4) i)))) (some (.int (jI 29))) d9 rfl rfl h9 (agr_tr (agr_tr ha p2) q2) q3 q4
      refine ⟨Fz, e7, e8, e9, k1, k2, k3, k4, k5, k6, ?_⟩
      rw [start]
      exact k7
    · subst c3 c4 c5
      have hdr : 26 < d ∧ d < 50 ∧ ¬ d = 29 ∧ ¬ d = 31 ∧ ¬ d = 32 ∧ ¬ d = 36 := by
        unfold isBin at c2
        omega
      have hn : jI (F (P + 4) i) < 0 := by
        rw [c1, lit_0, jI_lt (by omega) (by omega) (by omega) (by omega)]
        omega
      have ed : (-1 : Int32) - jI (F (P + 4) i) = jI d := by
        rw [c1, lit_1, jI_neg, jI_sub]
        congr 1
        omega
      have hN := C_isName x F1 G (d := d) (by unfold rg; omega)
      rw [if_neg (by omega)] at hN
      have hv1 := hbd r (by simp)
      have hv2 := hbd l (by simp)
      simp only [List.length_cons] at hst
      obtain ⟨F2, p1, p2, p3, p4⟩ := P_pop x F1 G (v := r) (st := l :: s) (by simp only [List.length_cons]; omega) ht hs
      obtain ⟨F3, q1, q2, q3, q4⟩ := P_pop x F2 G (v := l) (st := s) (by omega) p3 p4
      obtain ⟨F4, r1, r2, r3, r4⟩ := P_push x F3 G (v := cbin d l r) (st := s) (by omega) q3 q4
      have dn : ∀ z, ¬ d = z → -2147483648 ≤ z → z ≤ 2147483647 → ¬ jI d = jI z := by
        intro z hz z1 z2
        rw [jI_eq (by omega) (by omega) z1 z2]
        exact hz
      have d31 : ¬ jI d = 31 := dn 31 (by omega) (by omega) (by omega)
      have d32 : ¬ jI d = 32 := dn 32 (by omega) (by omega) (by omega)
      have d36 : ¬ jI d = 36 := dn 36 (by omega) (by omega) (by omega)
      have d50 : ¬ jI d = 50 := dn 50 (by omega) (by omega) (by omega)
      have d29 : ¬ jI d = 29 := dn 29 (by omega) (by omega) (by omega)
      rw [if_pos hn, ed, hN, b_I, if_pos (show jI 0 = 0 by decide), if_neg d31, if_neg d32, if_neg d36, if_neg d50, if_neg d29, p1, b_I, q1, b_I, C_joined x F3 G c2 hv2 hv1, b_I, r1, b_V, lit_1, jI_add] at start
      obtain ⟨Fz, e7, e8, e9, k1, k2, k3, k4, k5, k6, k7⟩ := ih _ _ j st' hr2 (by omega) hj F4 (some (.int (jI (F (P + 4) i)))) (some (.int (jI d))) (some (.int (jI r))) rfl rfl rfl (agr_tr (agr_tr (agr_tr ha p2) q2) r2) r3 r4
      refine ⟨Fz, e7, e8, e9, k1, k2, k3, k4, k5, k6, ?_⟩
      rw [start]
      exact k7
theorem C_reckoned {w P : Nat} {q k s0 : Int} {f : LEnv} (hw : w = 1 ∨ w = 51 ∨ w = 101) (hP : P = 104 ∨ P = 110 ∨ P = 116 ∨ P = 122 ∨ P = 129) (hq : qok s0 q) (hi : WI (F (w + 1))) (h0 : 0 ≤ k) (h1 : k < F P 5) (h2 : F P 5 ≤ 24) (hs0 : 0 ≤ F (P + 2) k) (hs1 : F (P + 3) k ≤ 300) (hc : CC s0 (F (P + 4)) (F (P + 2) k) (F (P + 3) k) f 50) : ∃ F2, m_M x k_Law_reckoned [.ref 136, .ref P, .int (jI k), .ref w, .int (jI q)] (mk F G) = some (some (.int (jI (f (nmR s0 (F (w + 1)) q) (lefts (F (w + 1)))))), mk F2 G) ∧ agr F F2 := by
  obtain ⟨n, hr⟩ := hc _ _ (okE_nmR hi hq) [] (by simp) (by simp)
  have a1 : agr F (sA F 136 (u (F 136) 1 0)) := fun b h3 h4 => sA_ne _ _ h3
  have eP : ∀ j, j < 6 → sA F 136 (u (F 136) 1 0) (P + j) = F (P + j) := fun j hj => sA_ne _ _ (by omega)
  have e0 : sA F 136 (u (F 136) 1 0) P = F P := sA_ne _ _ (by omega)
  have st1 := C_stopOf x (sA F 136 (u (F 136) 1 0)) G hP h0 (by rw [e0]; exact h1) (by rw [e0]; exact h2)
  have st2 := C_startOf x (sA F 136 (u (F 136) 1 0)) G hP h0 (by rw [e0]; exact h1) (by rw [e0]; exact h2)
  rw [eP 3 (by omega)] at st1
  rw [eP 2 (by omega)] at st2
  obtain ⟨F2, d7, d8, d9, m7, m8, m9, k1, k2, k3, k4⟩ := C_reck x F G (n2 := jI k) (e := F (P + 3) k) hw hP hq hi hs1 n _ [] _ _ hr hs0 (Int.le_refl _) (sA F 136 (u (F 136) 1 0)) none none none rfl rfl rfl a1 (by rw [sA_eq, u_eq]; rfl) trivial
  obtain ⟨F3, p1, p2, p3, p4⟩ := P_pop x F2 G (st := []) (by simp) k2 k3
  refine ⟨F3, ?_, agr_tr k1 p2⟩
  rw [E_Law_reckoned]
  simp only [lit_0, lit_1, lit_2, lit_3, lit_4, lit_5, lit_6, lit_7, lit_8, lit_9, lit_10, lit_11, lit_12, lit_13, lit_14, lit_15, lit_16, lit_17, lit_18, lit_19, lit_20, lit_21, lit_22, lit_23, lit_24, lit_25, lit_26, lit_27, lit_28, lit_29, lit_30, lit_31, lit_32, lit_33, lit_34, lit_35, lit_36, lit_37, lit_38, lit_39, lit_40, lit_41, lit_42, lit_43, lit_44, lit_45, lit_46, lit_47, lit_48, lit_49, lit_50, lit_51, lit_52, lit_53, lit_54, lit_55, lit_56, lit_57, lit_58, lit_59, lit_60, lit_61, lit_62, lit_63, lit_64, lit_65, lit_67, lit_70, lit_71, lit_73, lit_75, lit_78, lit_84, lit_85, lit_86, lit_87, lit_89, lit_90, lit_91, lit_95, lit_96, lit_97, lit_98, lit_99, lit_100, lit_101, lit_102, lit_103, lit_104, lit_105, lit_107, lit_108, lit_109, lit_110, lit_111, lit_112, lit_114, lit_115, lit_116, lit_117, lit_119, lit_121, lit_122, lit_126, lit_127, lit_128, lit_130, lit_134, lit_137, lit_139, lit_140, lit_141, lit_145, lit_152, lit_159, lit_160, lit_168, lit_174, lit_180, lit_183, lit_192, lit_199, lit_236, lit_251, lit_255, lit_272, lit_284, lit_300, lit_330, lit_373, lit_753, lit_800, lit_896, lit_900, lit_1000, lit_1001, lit_1002, lit_1003, lit_1079, lit_1276, lit_1330, lit_1450, lit_3012, lit_3016, lit_3300, lit_8430, lit_9999, lit_10000, lit_11730, lit_30467, lit_65536, lit_99999, lit_100000, lit_1000000, lit_252645135, lit_858993459, lit_1000000000, lit_1431655765, isO_136, fR_136_0, fI_136_1, pf_136_1, b_I, b_L, b_V, b_R, b_N, b_N0, Option.bind_some, ↓reduceIte, bq0, bq1, bz0, bz1, ite_not, Classical.not_not, st1, st2]
  rw [k4, E_Law_reckoned_19 x 4 (by omega) _ _ _ _ _ _ _ _ _ _ _ m7 m8 m9]
  have hle : F (P + 3) k ≤ F (P + 3) k := Int.le_refl _
  rw [if_pos (Int32.le_refl _), p1, b_I]
end
