-- calls that only ask: pairs, book, fined, of, ofGlove
theorem jI_md (a b : Int) : jI a - jI (a / b) * jI b = jI (a % b) := by
  rw [jI_mul, jI_sub]
  congr 1
  rw [Int.emod_def, Int.mul_comm]
section
variable (x : m_X) (F G : Nat → Fn)
theorem C_pairs (hi : WI (F 2)) : m_M x k_G_pairs [.ref 0] (mk F G) = some (some (.int (jI (prT (F 2) (F 2 25)))), mk F G) := by
  have hc := WI_c hi
  have fw : m_fR (mk F G) 9 0 1 = some 2 := fR_W_0 F G (w := 1) (Or.inl rfl)
  have key : ∀ b, 1 ≤ b → b ≤ (if F 2 25 ≤ 1 then 1 else F 2 25) → ∀ d3, m_nl d3 = true → m_D x 5 k_G_pairs 4 [some (.ref 0), some (.int (jI (prT (F 2) b))), some (.int (jI b)), d3] [] (mk F G) = some (some (.int (jI (if F 2 25 ≤ 1 then 0 else prT (F 2) (F 2 25)))), mk F G) := by
    apply down
    · intro d3 hd
      rw [E_G_pairs_4 x 5 (by omega) _ _ _ _ _ hd]
      simp (disch := omega) only [lit_0, lit_1, lit_2, lit_3, lit_4, lit_5, lit_6, lit_7, lit_8, lit_9, lit_10, lit_11, lit_12, lit_13, lit_14, lit_15, lit_16, lit_17, lit_18, lit_19, lit_20, lit_21, lit_22, lit_23, lit_24, lit_25, lit_26, lit_27, lit_28, lit_29, lit_30, lit_31, lit_32, lit_33, lit_34, lit_35, lit_36, lit_37, lit_38, lit_39, lit_40, lit_41, lit_42, lit_43, lit_44, lit_45, lit_46, lit_47, lit_48, lit_49, lit_50, lit_51, lit_52, lit_53, lit_54, lit_55, lit_56, lit_57, lit_58, lit_59, lit_60, lit_61, lit_62, lit_63, lit_64, lit_65, lit_67, lit_70, lit_71, lit_73, lit_75, lit_78, lit_84, lit_85, lit_86, lit_87, lit_89, lit_90, lit_91, lit_95, lit_96, lit_97, lit_98, lit_99, lit_100, lit_101, lit_102, lit_103, lit_104, lit_105, lit_107, lit_108, lit_109, lit_110, lit_111, lit_112, lit_114, lit_115, lit_116, lit_117, lit_119, lit_121, lit_122, lit_126, lit_127, lit_128, lit_130, lit_134, lit_137, lit_139, lit_140, lit_141, lit_145, lit_152, lit_159, lit_160, lit_168, lit_174, lit_180, lit_183, lit_192, lit_199, lit_236, lit_251, lit_255, lit_272, lit_284, lit_300, lit_330, lit_373, lit_753, lit_800, lit_896, lit_900, lit_1000, lit_1001, lit_1002, lit_1003, lit_1079, lit_1276, lit_1330, lit_1450, lit_3012, lit_3016, lit_3300, lit_8430, lit_9999, lit_10000, lit_11730, lit_30467, lit_65536, lit_99999, lit_100000, lit_1000000, lit_252645135, lit_858993459, lit_1000000000, lit_1431655765, isO_0, fR_0_0, fR_0_1, fR_0_2, fR_0_3, fR_0_4, fR_0_5, fR_0_6, fR_0_7, fR_0_8, fR_0_9, fR_0_10, fR_0_11, fR_0_12, fw, ia_2, is_2, b_I, b_L, b_V, b_R, b_N, b_N0, Option.bind_some, ↓reduceIte, bq0, bq1, bz0, bz1, ite_not, Classical.not_not]
      by_cases q : F 2 25 ≤ 1
      · rw [if_pos q, if_pos q]
        simp (disch := omega) only [jI_lt, jI_le, jI_eq]
        rw [if_pos q]
        rfl
      · rw [if_neg q, if_neg q, if_pos (Int32.le_refl _)]
    · intro b b0 b1 ih d3 hd
      have hb : b < F 2 25 := by split at b1 <;> omega
      rw [if_neg (by omega)] at ih ⊢
      have gb := WI_g hi (g := b) (by omega) (by omega)
      rw [E_G_pairs_4 x 5 (by omega) _ _ _ _ _ hd]
      simp (disch := omega) only [lit_0, lit_1, lit_2, lit_3, lit_4, lit_5, lit_6, lit_7, lit_8, lit_9, lit_10, lit_11, lit_12, lit_13, lit_14, lit_15, lit_16, lit_17, lit_18, lit_19, lit_20, lit_21, lit_22, lit_23, lit_24, lit_25, lit_26, lit_27, lit_28, lit_29, lit_30, lit_31, lit_32, lit_33, lit_34, lit_35, lit_36, lit_37, lit_38, lit_39, lit_40, lit_41, lit_42, lit_43, lit_44, lit_45, lit_46, lit_47, lit_48, lit_49, lit_50, lit_51, lit_52, lit_53, lit_54, lit_55, lit_56, lit_57, lit_58, lit_59, lit_60, lit_61, lit_62, lit_63, lit_64, lit_65, lit_67, lit_70, lit_71, lit_73, lit_75, lit_78, lit_84, lit_85, lit_86, lit_87, lit_89, lit_90, lit_91, lit_95, lit_96, lit_97, lit_98, lit_99, lit_100, lit_101, lit_102, lit_103, lit_104, lit_105, lit_107, lit_108, lit_109, lit_110, lit_111, lit_112, lit_114, lit_115, lit_116, lit_117, lit_119, lit_121, lit_122, lit_126, lit_127, lit_128, lit_130, lit_134, lit_137, lit_139, lit_140, lit_141, lit_145, lit_152, lit_159, lit_160, lit_168, lit_174, lit_180, lit_183, lit_192, lit_199, lit_236, lit_251, lit_255, lit_272, lit_284, lit_300, lit_330, lit_373, lit_753, lit_800, lit_896, lit_900, lit_1000, lit_1001, lit_1002, lit_1003, lit_1079, lit_1276, lit_1330, lit_1450, lit_3012, lit_3016, lit_3300, lit_8430, lit_9999, lit_10000, lit_11730, lit_30467, lit_65536, lit_99999, lit_100000, lit_1000000, lit_252645135, lit_858993459, lit_1000000000, lit_1431655765, jI_lt, jI_le, jI_eq, isO_0, fR_0_0, fR_0_1, fR_0_2, fR_0_3, fR_0_4, fR_0_5, fR_0_6, fR_0_7, fR_0_8, fR_0_9, fR_0_10, fR_0_11, fR_0_12, fw, ia_2, is_2, b_I, b_L, b_V, b_R, b_N, b_N0, Option.bind_some, ↓reduceIte, bq0, bq1, bz0, bz1, ite_not, Classical.not_not]
      rw [if_neg (by omega)]
      have et : prT (F 2) (b + 1) = prT (F 2) b + prS (F 2) b := by
        unfold prT
        rw [sm_s _ (by omega)]
      rw [et] at ih
      have inner : ∀ a, 0 ≤ a → a ≤ b → m_D x 5 k_G_pairs 20 [some (.ref 0), some (.int (jI (prT (F 2) b + sm (fun a => prB (F 2) a b) a))), some (.int (jI b)), some (.int (jI a))] [] (mk F G) = some (some (.int (jI (prT (F 2) (F 2 25)))), mk F G) := by
        apply down
        · rw [E_G_pairs_20 x 5 (by omega), if_pos (Int32.le_refl _), lit_1, jI_add]
          exact ih _ rfl
        · intro a a0 a1 ia
          have hp := C_isPair x F G (w := 1) (a := a) (b := b) (Or.inl rfl) hi a0 (by simp only [Nat.reduceAdd]; omega) (by omega) (by simp only [Nat.reduceAdd]; omega)
          simp only [Nat.reduceAdd] at hp
          have ep : (if (F 2 (99 + a) = 0 ∨ F 2 (99 + a) = 3) ∧ (F 2 (99 + b) = 0 ∨ F 2 (99 + b) = 3) ∧ F 2 (87 + a) = F 2 (87 + b) ∧ F 2 (63 + a) = F 2 (63 + b) then (1 : Int) else 0) = prB (F 2) a b := rfl
          rw [ep] at hp
          have hpr : prB (F 2) a b = 0 ∨ prB (F 2) a b = 1 := by unfold prB; split <;> omega
          rw [sm_s _ a0] at ia
          rw [E_G_pairs_20 x 5 (by omega)]
          simp (disch := omega) only [lit_0, lit_1, lit_2, lit_3, lit_4, lit_5, lit_6, lit_7, lit_8, lit_9, lit_10, lit_11, lit_12, lit_13, lit_14, lit_15, lit_16, lit_17, lit_18, lit_19, lit_20, lit_21, lit_22, lit_23, lit_24, lit_25, lit_26, lit_27, lit_28, lit_29, lit_30, lit_31, lit_32, lit_33, lit_34, lit_35, lit_36, lit_37, lit_38, lit_39, lit_40, lit_41, lit_42, lit_43, lit_44, lit_45, lit_46, lit_47, lit_48, lit_49, lit_50, lit_51, lit_52, lit_53, lit_54, lit_55, lit_56, lit_57, lit_58, lit_59, lit_60, lit_61, lit_62, lit_63, lit_64, lit_65, lit_67, lit_70, lit_71, lit_73, lit_75, lit_78, lit_84, lit_85, lit_86, lit_87, lit_89, lit_90, lit_91, lit_95, lit_96, lit_97, lit_98, lit_99, lit_100, lit_101, lit_102, lit_103, lit_104, lit_105, lit_107, lit_108, lit_109, lit_110, lit_111, lit_112, lit_114, lit_115, lit_116, lit_117, lit_119, lit_121, lit_122, lit_126, lit_127, lit_128, lit_130, lit_134, lit_137, lit_139, lit_140, lit_141, lit_145, lit_152, lit_159, lit_160, lit_168, lit_174, lit_180, lit_183, lit_192, lit_199, lit_236, lit_251, lit_255, lit_272, lit_284, lit_300, lit_330, lit_373, lit_753, lit_800, lit_896, lit_900, lit_1000, lit_1001, lit_1002, lit_1003, lit_1079, lit_1276, lit_1330, lit_1450, lit_3012, lit_3016, lit_3300, lit_8430, lit_9999, lit_10000, lit_11730, lit_30467, lit_65536, lit_99999, lit_100000, lit_1000000, lit_252645135, lit_858993459, lit_1000000000, lit_1431655765, jI_add, jI_sub, jI_mul, jI_neg, jI_lt, jI_le, jI_eq, isO_0, fR_0_0, fR_0_1, fR_0_2, fR_0_3, fR_0_4, fR_0_5, fR_0_6, fR_0_7, fR_0_8, fR_0_9, fR_0_10, fR_0_11, fR_0_12, b_I, b_L, b_V, b_R, b_N, b_N0, Option.bind_some, ↓reduceIte, bq0, bq1, bz0, bz1, ite_not, Classical.not_not, hp]
          rw [if_neg (by omega)]
          rcases hpr with q | q
          · rw [if_pos q]
            rw [q, Int.add_zero] at ia
            exact ia
          · rw [if_neg (by omega), Int.add_assoc]
            rw [q] at ia
            exact ia
      have i0 := inner 0 (by omega) (by omega)
      rw [sm_0, Int.add_zero] at i0
      exact i0
  have k1 := key 1 (by omega) (by split <;> omega) none rfl
  have e1 : prT (F 2) 1 = 0 := by
    have : prT (F 2) (0 + 1) = prT (F 2) 0 + prS (F 2) 0 := by unfold prT; rw [sm_s _ (by omega)]
    rw [show (1 : Int) = 0 + 1 from rfl, this]
    rfl
  have e2 : (if F 2 25 ≤ 1 then 0 else prT (F 2) (F 2 25)) = prT (F 2) (F 2 25) := by
    by_cases q : F 2 25 ≤ 1
    · rw [if_pos q]
      have e : F 2 25 = 0 ∨ F 2 25 = 1 := by omega
      rcases e with e | e <;> rw [e]
      · rfl
      · exact e1.symm
    · rw [if_neg q]
  rw [e1, e2] at k1
  rw [E_G_pairs]
  simp only [lit_0, lit_1, lit_2, lit_3, lit_4, lit_5, lit_6, lit_7, lit_8, lit_9, lit_10, lit_11, lit_12, lit_13, lit_14, lit_15, lit_16, lit_17, lit_18, lit_19, lit_20, lit_21, lit_22, lit_23, lit_24, lit_25, lit_26, lit_27, lit_28, lit_29, lit_30, lit_31, lit_32, lit_33, lit_34, lit_35, lit_36, lit_37, lit_38, lit_39, lit_40, lit_41, lit_42, lit_43, lit_44, lit_45, lit_46, lit_47, lit_48, lit_49, lit_50, lit_51, lit_52, lit_53, lit_54, lit_55, lit_56, lit_57, lit_58, lit_59, lit_60, lit_61, lit_62, lit_63, lit_64, lit_65, lit_67, lit_70, lit_71, lit_73, lit_75, lit_78, lit_84, lit_85, lit_86, lit_87, lit_89, lit_90, lit_91, lit_95, lit_96, lit_97, lit_98, lit_99, lit_100, lit_101, lit_102, lit_103, lit_104, lit_105, lit_107, lit_108, lit_109, lit_110, lit_111, lit_112, lit_114, lit_115, lit_116, lit_117, lit_119, lit_121, lit_122, lit_126, lit_127, lit_128, lit_130, lit_134, lit_137, lit_139, lit_140, lit_141, lit_145, lit_152, lit_159, lit_160, lit_168, lit_174, lit_180, lit_183, lit_192, lit_199, lit_236, lit_251, lit_255, lit_272, lit_284, lit_300, lit_330, lit_373, lit_753, lit_800, lit_896, lit_900, lit_1000, lit_1001, lit_1002, lit_1003, lit_1079, lit_1276, lit_1330, lit_1450, lit_3012, lit_3016, lit_3300, lit_8430, lit_9999, lit_10000, lit_11730, lit_30467, lit_65536, lit_99999, lit_100000, lit_1000000, lit_252645135, lit_858993459, lit_1000000000, lit_1431655765, isO_0, fR_0_0, fR_0_1, fR_0_2, fR_0_3, fR_0_4, fR_0_5, fR_0_6, fR_0_7, fR_0_8, fR_0_9, fR_0_10, fR_0_11, fR_0_12, b_I, b_L, b_V, b_R, b_N, b_N0, Option.bind_some, ↓reduceIte, bq0, bq1, bz0, bz1, ite_not, Classical.not_not]
  exact k1
theorem M_pairs (hi : WI (V (F 150))) : m_M x k_M_pairs [.ref 149] (mk F G) = some (some (.int (jI (prT (V (F 150)) (V (F 150) 25)))), mk F G) := by
  have hc := WI_c hi
  have key : ∀ b, 0 ≤ b → b ≤ V (F 150) 25 → ∀ d3, m_nl d3 = true → m_D x 3 k_M_pairs 4 [some (.ref 149), some (.int (jI (prT (V (F 150)) b))), some (.int (jI b)), d3] [] (mk F G) = some (some (.int (jI (prT (V (F 150)) (V (F 150) 25)))), mk F G) := by
    apply down
    · intro d3 hd
      rw [E_M_pairs_4 x 3 (by omega) _ _ _ _ _ hd]
      simp (disch := omega) only [lit_0, lit_1, lit_2, lit_3, lit_4, lit_5, lit_6, lit_7, lit_8, lit_9, lit_10, lit_11, lit_12, lit_13, lit_14, lit_15, lit_16, lit_17, lit_18, lit_19, lit_20, lit_21, lit_22, lit_23, lit_24, lit_25, lit_26, lit_27, lit_28, lit_29, lit_30, lit_31, lit_32, lit_33, lit_34, lit_35, lit_36, lit_37, lit_38, lit_39, lit_40, lit_41, lit_42, lit_43, lit_44, lit_45, lit_46, lit_47, lit_48, lit_49, lit_50, lit_51, lit_52, lit_53, lit_54, lit_55, lit_56, lit_57, lit_58, lit_59, lit_60, lit_61, lit_62, lit_63, lit_64, lit_65, lit_67, lit_70, lit_71, lit_73, lit_75, lit_78, lit_84, lit_85, lit_86, lit_87, lit_89, lit_90, lit_91, lit_95, lit_96, lit_97, lit_98, lit_99, lit_100, lit_101, lit_102, lit_103, lit_104, lit_105, lit_107, lit_108, lit_109, lit_110, lit_111, lit_112, lit_114, lit_115, lit_116, lit_117, lit_119, lit_121, lit_122, lit_126, lit_127, lit_128, lit_130, lit_134, lit_137, lit_139, lit_140, lit_141, lit_145, lit_152, lit_159, lit_160, lit_168, lit_174, lit_180, lit_183, lit_192, lit_199, lit_236, lit_251, lit_255, lit_272, lit_284, lit_300, lit_330, lit_373, lit_753, lit_800, lit_896, lit_900, lit_1000, lit_1001, lit_1002, lit_1003, lit_1079, lit_1276, lit_1330, lit_1450, lit_3012, lit_3016, lit_3300, lit_8430, lit_9999, lit_10000, lit_11730, lit_30467, lit_65536, lit_99999, lit_100000, lit_1000000, lit_252645135, lit_858993459, lit_1000000000, lit_1431655765, fR_149_0, va_11, b_I, b_L, b_V, b_R, b_N, b_N0, Option.bind_some, ↓reduceIte, bq0, bq1, bz0, bz1, ite_not, Classical.not_not]
      rw [if_pos (Int32.le_refl _)]
    · intro b b0 b1 ih d3 hd
      have gb := WI_g hi (g := b) (by omega) (by omega)
      rw [E_M_pairs_4 x 3 (by omega) _ _ _ _ _ hd]
      simp (disch := omega) only [lit_0, lit_1, lit_2, lit_3, lit_4, lit_5, lit_6, lit_7, lit_8, lit_9, lit_10, lit_11, lit_12, lit_13, lit_14, lit_15, lit_16, lit_17, lit_18, lit_19, lit_20, lit_21, lit_22, lit_23, lit_24, lit_25, lit_26, lit_27, lit_28, lit_29, lit_30, lit_31, lit_32, lit_33, lit_34, lit_35, lit_36, lit_37, lit_38, lit_39, lit_40, lit_41, lit_42, lit_43, lit_44, lit_45, lit_46, lit_47, lit_48, lit_49, lit_50, lit_51, lit_52, lit_53, lit_54, lit_55, lit_56, lit_57, lit_58, lit_59, lit_60, lit_61, lit_62, lit_63, lit_64, lit_65, lit_67, lit_70, lit_71, lit_73, lit_75, lit_78, lit_84, lit_85, lit_86, lit_87, lit_89, lit_90, lit_91, lit_95, lit_96, lit_97, lit_98, lit_99, lit_100, lit_101, lit_102, lit_103, lit_104, lit_105, lit_107, lit_108, lit_109, lit_110, lit_111, lit_112, lit_114, lit_115, lit_116, lit_117, lit_119, lit_121, lit_122, lit_126, lit_127, lit_128, lit_130, lit_134, lit_137, lit_139, lit_140, lit_141, lit_145, lit_152, lit_159, lit_160, lit_168, lit_174, lit_180, lit_183, lit_192, lit_199, lit_236, lit_251, lit_255, lit_272, lit_284, lit_300, lit_330, lit_373, lit_753, lit_800, lit_896, lit_900, lit_1000, lit_1001, lit_1002, lit_1003, lit_1079, lit_1276, lit_1330, lit_1450, lit_3012, lit_3016, lit_3300, lit_8430, lit_9999, lit_10000, lit_11730, lit_30467, lit_65536, lit_99999, lit_100000, lit_1000000, lit_252645135, lit_858993459, lit_1000000000, lit_1431655765, jI_lt, jI_le, jI_eq, fR_149_0, va_11, b_I, b_L, b_V, b_R, b_N, b_N0, Option.bind_some, ↓reduceIte, bq0, bq1, bz0, bz1, ite_not, Classical.not_not]
      rw [if_neg (by omega)]
      have et : prT (V (F 150)) (b + 1) = prT (V (F 150)) b + prS (V (F 150)) b := by
        unfold prT
        rw [sm_s _ (by omega)]
      rw [et] at ih
      have inner : ∀ a, 0 ≤ a → a ≤ b → m_D x 3 k_M_pairs 17 [some (.ref 149), some (.int (jI (prT (V (F 150)) b + sm (fun a => prB (V (F 150)) a b) a))), some (.int (jI b)), some (.int (jI a))] [] (mk F G) = some (some (.int (jI (prT (V (F 150)) (V (F 150) 25)))), mk F G) := by
        apply down
        · rw [E_M_pairs_17 x 3 (by omega), if_pos (Int32.le_refl _), lit_1, jI_add]
          exact ih _ rfl
        · intro a a0 a1 ia
          have ga := WI_g hi (g := a) (by omega) (by omega)
          rw [sm_s _ a0] at ia
          rw [E_M_pairs_17 x 3 (by omega)]
          simp (disch := first | omega | assumption) only [lit_0, lit_1, lit_2, lit_3, lit_4, lit_5, lit_6, lit_7, lit_8, lit_9, lit_10, lit_11, lit_12, lit_13, lit_14, lit_15, lit_16, lit_17, lit_18, lit_19, lit_20, lit_21, lit_22, lit_23, lit_24, lit_25, lit_26, lit_27, lit_28, lit_29, lit_30, lit_31, lit_32, lit_33, lit_34, lit_35, lit_36, lit_37, lit_38, lit_39, lit_40, lit_41, lit_42, lit_43, lit_44, lit_45, lit_46, lit_47, lit_48, lit_49, lit_50, lit_51, lit_52, lit_53, lit_54, lit_55, lit_56, lit_57, lit_58, lit_59, lit_60, lit_61, lit_62, lit_63, lit_64, lit_65, lit_67, lit_70, lit_71, lit_73, lit_75, lit_78, lit_84, lit_85, lit_86, lit_87, lit_89, lit_90, lit_91, lit_95, lit_96, lit_97, lit_98, lit_99, lit_100, lit_101, lit_102, lit_103, lit_104, lit_105, lit_107, lit_108, lit_109, lit_110, lit_111, lit_112, lit_114, lit_115, lit_116, lit_117, lit_119, lit_121, lit_122, lit_126, lit_127, lit_128, lit_130, lit_134, lit_137, lit_139, lit_140, lit_141, lit_145, lit_152, lit_159, lit_160, lit_168, lit_174, lit_180, lit_183, lit_192, lit_199, lit_236, lit_251, lit_255, lit_272, lit_284, lit_300, lit_330, lit_373, lit_753, lit_800, lit_896, lit_900, lit_1000, lit_1001, lit_1002, lit_1003, lit_1079, lit_1276, lit_1330, lit_1450, lit_3012, lit_3016, lit_3300, lit_8430, lit_9999, lit_10000, lit_11730, lit_30467, lit_65536, lit_99999, lit_100000, lit_1000000, lit_252645135, lit_858993459, lit_1000000000, lit_1431655765, jI_add, jI_sub, jI_mul, jI_neg, jI_lt, jI_le, jI_eq, b_I, b_L, b_V, b_R, b_N, b_N0, Option.bind_some, ↓reduceIte, bq0, bq1, bz0, bz1, ite_not, Classical.not_not, M_isOpen, M_get, Int.reduceMul, Int.reduceAdd]
          rw [if_neg (by omega)]
          by_cases q1 : V (F 150) (99 + b) = 0 ∨ V (F 150) (99 + b) = 3
          · rw [if_pos q1]
            by_cases q2 : V (F 150) (99 + a) = 0 ∨ V (F 150) (99 + a) = 3
            · rw [if_pos q2]
              by_cases q3 : V (F 150) (87 + b) = V (F 150) (87 + a)
              · rw [if_pos q3]
                by_cases q4 : V (F 150) (63 + b) = V (F 150) (63 + a)
                · have e : prB (V (F 150)) a b = 1 := by unfold prB; rw [if_pos ⟨q2, q1, q3.symm, q4.symm⟩]
                  rw [e, ← Int.add_assoc] at ia
                  rw [if_pos q4]
                  exact ia
                · have e : prB (V (F 150)) a b = 0 := by unfold prB; rw [if_neg (fun z => q4 z.2.2.2.symm)]
                  rw [e, ← Int.add_assoc] at ia
                  rw [if_neg q4]
                  exact ia
              · have e : prB (V (F 150)) a b = 0 := by unfold prB; rw [if_neg (fun z => q3 z.2.2.1.symm)]
                rw [e, ← Int.add_assoc] at ia
                rw [if_neg q3]
                exact ia
            · have e : prB (V (F 150)) a b = 0 := by unfold prB; rw [if_neg (fun z => q2 z.1)]
              rw [e, ← Int.add_assoc] at ia
              rw [if_neg q2]
              exact ia
          · have e : prB (V (F 150)) a b = 0 := by unfold prB; rw [if_neg (fun z => q1 z.2.1)]
            rw [e, ← Int.add_assoc] at ia
            rw [if_neg q1]
            exact ia
      have i0 := inner 0 (by omega) (by omega)
      rw [sm_0, Int.add_zero] at i0
      exact i0
  rw [E_M_pairs]
  simp only [lit_0, lit_1, lit_2, lit_3, lit_4, lit_5, lit_6, lit_7, lit_8, lit_9, lit_10, lit_11, lit_12, lit_13, lit_14, lit_15, lit_16, lit_17, lit_18, lit_19, lit_20, lit_21, lit_22, lit_23, lit_24, lit_25, lit_26, lit_27, lit_28, lit_29, lit_30, lit_31, lit_32, lit_33, lit_34, lit_35, lit_36, lit_37, lit_38, lit_39, lit_40, lit_41, lit_42, lit_43, lit_44, lit_45, lit_46, lit_47, lit_48, lit_49, lit_50, lit_51, lit_52, lit_53, lit_54, lit_55, lit_56, lit_57, lit_58, lit_59, lit_60, lit_61, lit_62, lit_63, lit_64, lit_65, lit_67, lit_70, lit_71, lit_73, lit_75, lit_78, lit_84, lit_85, lit_86, lit_87, lit_89, lit_90, lit_91, lit_95, lit_96, lit_97, lit_98, lit_99, lit_100, lit_101, lit_102, lit_103, lit_104, lit_105, lit_107, lit_108, lit_109, lit_110, lit_111, lit_112, lit_114, lit_115, lit_116, lit_117, lit_119, lit_121, lit_122, lit_126, lit_127, lit_128, lit_130, lit_134, lit_137, lit_139, lit_140, lit_141, lit_145, lit_152, lit_159, lit_160, lit_168, lit_174, lit_180, lit_183, lit_192, lit_199, lit_236, lit_251, lit_255, lit_272, lit_284, lit_300, lit_330, lit_373, lit_753, lit_800, lit_896, lit_900, lit_1000, lit_1001, lit_1002, lit_1003, lit_1079, lit_1276, lit_1330, lit_1450, lit_3012, lit_3016, lit_3300, lit_8430, lit_9999, lit_10000, lit_11730, lit_30467, lit_65536, lit_99999, lit_100000, lit_1000000, lit_252645135, lit_858993459, lit_1000000000, lit_1431655765, isO_149, b_I, b_L, b_V, b_R, b_N, b_N0, Option.bind_some, ↓reduceIte, bq0, bq1, bz0, bz1, ite_not, Classical.not_not]
  exact key 0 (by omega) (by omega) none rfl
theorem ok_pairs (hR : Rel F) : Ok x F G k_G_pairs k_M_pairs [] := by
  have hi : WI (F 2) := RS_WI hR.1
  have hc := WI_c hi
  have e := M_pairs x F G (RS_WV hR.1)
  have hv := Rel_V hR
  rw [hv 25 (by unfold vok; omega), prT_cg (c := V (F 150)) (d := F 2) hv (by omega)] at e
  exact Ok_pure hR (C_pairs x F G hi) e
-- the book
theorem M_shown (h0 : 0 ≤ F 150 12) (h1 : F 150 12 ≤ 100000) : m_M x k_M_shown [.ref 149] (mk F G) = some (some (.int (jI (min (F 150 12) 30))), mk F G) := by
  rw [E_M_shown]
  simp (disch := omega) only [lit_0, lit_1, lit_2, lit_3, lit_4, lit_5, lit_6, lit_7, lit_8, lit_9, lit_10, lit_11, lit_12, lit_13, lit_14, lit_15, lit_16, lit_17, lit_18, lit_19, lit_20, lit_21, lit_22, lit_23, lit_24, lit_25, lit_26, lit_27, lit_28, lit_29, lit_30, lit_31, lit_32, lit_33, lit_34, lit_35, lit_36, lit_37, lit_38, lit_39, lit_40, lit_41, lit_42, lit_43, lit_44, lit_45, lit_46, lit_47, lit_48, lit_49, lit_50, lit_51, lit_52, lit_53, lit_54, lit_55, lit_56, lit_57, lit_58, lit_59, lit_60, lit_61, lit_62, lit_63, lit_64, lit_65, lit_67, lit_70, lit_71, lit_73, lit_75, lit_78, lit_84, lit_85, lit_86, lit_87, lit_89, lit_90, lit_91, lit_95, lit_96, lit_97, lit_98, lit_99, lit_100, lit_101, lit_102, lit_103, lit_104, lit_105, lit_107, lit_108, lit_109, lit_110, lit_111, lit_112, lit_114, lit_115, lit_116, lit_117, lit_119, lit_121, lit_122, lit_126, lit_127, lit_128, lit_130, lit_134, lit_137, lit_139, lit_140, lit_141, lit_145, lit_152, lit_159, lit_160, lit_168, lit_174, lit_180, lit_183, lit_192, lit_199, lit_236, lit_251, lit_255, lit_272, lit_284, lit_300, lit_330, lit_373, lit_753, lit_800, lit_896, lit_900, lit_1000, lit_1001, lit_1002, lit_1003, lit_1079, lit_1276, lit_1330, lit_1450, lit_3012, lit_3016, lit_3300, lit_8430, lit_9999, lit_10000, lit_11730, lit_30467, lit_65536, lit_99999, lit_100000, lit_1000000, lit_252645135, lit_858993459, lit_1000000000, lit_1431655765, jI_lt, jI_le, jI_eq, isO_149, fR_149_0, ia_150, is_150, b_I, b_L, b_V, b_R, b_N, b_N0, Option.bind_some, ↓reduceIte, bq0, bq1, bz0, bz1, ite_not, Classical.not_not]
  by_cases q : 30 ≤ F 150 12
  · rw [if_pos q, Int.min_eq_right (by omega)]
  · rw [if_neg q, Int.min_eq_left (by omega)]
theorem M_entry {c : Fn} {i k : Int} (hi : WI c) (hb : RB c (F 150)) (h0 : 0 ≤ i) (h1 : i < c 26) (hk0 : 0 ≤ k) (hk1 : k ≤ 2) : m_M x k_M_entry [.ref 149, .int (jI i), .int (jI k)] (mk F G) = some (some (.int (jI (if k = 0 then c (111 + i) / 1000 else if k = 1 then c (111 + i) / 100 % 10 else c (111 + i) % 100))), mk F G) := by
  have hc := WI_c hi
  have hbb := WI_b hi h0 (by omega)
  obtain ⟨b1, b2, b3, b4⟩ := hb
  have q := b4 i h0 h1
  rw [E_M_entry]
  simp (disch := omega) only [lit_0, lit_1, lit_2, lit_3, lit_4, lit_5, lit_6, lit_7, lit_8, lit_9, lit_10, lit_11, lit_12, lit_13, lit_14, lit_15, lit_16, lit_17, lit_18, lit_19, lit_20, lit_21, lit_22, lit_23, lit_24, lit_25, lit_26, lit_27, lit_28, lit_29, lit_30, lit_31, lit_32, lit_33, lit_34, lit_35, lit_36, lit_37, lit_38, lit_39, lit_40, lit_41, lit_42, lit_43, lit_44, lit_45, lit_46, lit_47, lit_48, lit_49, lit_50, lit_51, lit_52, lit_53, lit_54, lit_55, lit_56, lit_57, lit_58, lit_59, lit_60, lit_61, lit_62, lit_63, lit_64, lit_65, lit_67, lit_70, lit_71, lit_73, lit_75, lit_78, lit_84, lit_85, lit_86, lit_87, lit_89, lit_90, lit_91, lit_95, lit_96, lit_97, lit_98, lit_99, lit_100, lit_101, lit_102, lit_103, lit_104, lit_105, lit_107, lit_108, lit_109, lit_110, lit_111, lit_112, lit_114, lit_115, lit_116, lit_117, lit_119, lit_121, lit_122, lit_126, lit_127, lit_128, lit_130, lit_134, lit_137, lit_139, lit_140, lit_141, lit_145, lit_152, lit_159, lit_160, lit_168, lit_174, lit_180, lit_183, lit_192, lit_199, lit_236, lit_251, lit_255, lit_272, lit_284, lit_300, lit_330, lit_373, lit_753, lit_800, lit_896, lit_900, lit_1000, lit_1001, lit_1002, lit_1003, lit_1079, lit_1276, lit_1330, lit_1450, lit_3012, lit_3016, lit_3300, lit_8430, lit_9999, lit_10000, lit_11730, lit_30467, lit_65536, lit_99999, lit_100000, lit_1000000, lit_252645135, lit_858993459, lit_1000000000, lit_1431655765, jI_add, jI_sub, jI_mul, jI_neg, isO_149, fR_149_0, ia_150, is_150, b_I, b_L, b_V, b_R, b_N, b_N0, Option.bind_some, ↓reduceIte, bq0, bq1, bz0, bz1, ite_not, Classical.not_not, M_shown, ← b3, jI_modn]
  rw [q.2]
  generalize c (111 + i) = v at *
  have r0 : 0 ≤ v / 1000 ∧ v / 1000 ≤ 9999 ∧ 0 ≤ v / 100 % 10 ∧ 0 ≤ v % 100 ∧ v % 100 ≤ 99 := by omega
  have d1 : ((v / 1000 * 8 + v / 100 % 10) * 100 + v % 100) / 800 = v / 1000 := by omega
  have d2 : ((v / 1000 * 8 + v / 100 % 10) * 100 + v % 100) / 100 % 8 = v / 100 % 10 := by omega
  have d3 : ((v / 1000 * 8 + v / 100 % 10) * 100 + v % 100) % 100 = v % 100 := by omega
  have d4 : ((v / 1000 * 8 + v / 100 % 10) * 100 + v % 100) / 100 ≤ 80000 ∧ 0 ≤ ((v / 1000 * 8 + v / 100 % 10) * 100 + v % 100) / 100 := by omega
  simp (disch := omega) only [jI_lt, jI_le, jI_eq, jI_dvn, jI_md, d1, d2, d3]
  repeat' split
  all_goals rfl
theorem ok_book {i k : Int} (hR : Rel F) (hi0 : rg i) (hk : rg k) : Ok x F G k_G_book k_M_book [.int (jI i), .int (jI k)] := by
  have hi : WI (F 2) := RS_WI hR.1
  have hc := WI_c hi
  have hrb : RB (F 2) (F 150) := (RS_top hR.1).2.2
  have hi' := hi0
  have hk' := hk
  unfold rg at hi' hk'
  have hrb' := hrb
  unfold RB at hrb'
  have fw : m_fR (mk F G) 9 0 1 = some 2 := fR_W_0 F G (w := 1) (Or.inl rfl)
  have hf := C_hasFine x F G (w := 1) (g := i) (Or.inl rfl) hi0 (by unfold rg; simp only [Nat.reduceAdd]; omega)
  simp only [Nat.reduceAdd] at hf
  have hsh := M_shown x F G hrb'.1 (by omega)
  rw [← hrb'.2.2.1] at hsh
  by_cases q0 : i = -1
  · have e1 : m_M x k_G_book [.ref 0, .int (jI i), .int (jI k)] (mk F G) = some (some (.int (jI (F 2 26))), mk F G) := by
      rw [E_G_book]
      simp (disch := omega) only [lit_0, lit_1, lit_2, lit_3, lit_4, lit_5, lit_6, lit_7, lit_8, lit_9, lit_10, lit_11, lit_12, lit_13, lit_14, lit_15, lit_16, lit_17, lit_18, lit_19, lit_20, lit_21, lit_22, lit_23, lit_24, lit_25, lit_26, lit_27, lit_28, lit_29, lit_30, lit_31, lit_32, lit_33, lit_34, lit_35, lit_36, lit_37, lit_38, lit_39, lit_40, lit_41, lit_42, lit_43, lit_44, lit_45, lit_46, lit_47, lit_48, lit_49, lit_50, lit_51, lit_52, lit_53, lit_54, lit_55, lit_56, lit_57, lit_58, lit_59, lit_60, lit_61, lit_62, lit_63, lit_64, lit_65, lit_67, lit_70, lit_71, lit_73, lit_75, lit_78, lit_84, lit_85, lit_86, lit_87, lit_89, lit_90, lit_91, lit_95, lit_96, lit_97, lit_98, lit_99, lit_100, lit_101, lit_102, lit_103, lit_104, lit_105, lit_107, lit_108, lit_109, lit_110, lit_111, lit_112, lit_114, lit_115, lit_116, lit_117, lit_119, lit_121, lit_122, lit_126, lit_127, lit_128, lit_130, lit_134, lit_137, lit_139, lit_140, lit_141, lit_145, lit_152, lit_159, lit_160, lit_168, lit_174, lit_180, lit_183, lit_192, lit_199, lit_236, lit_251, lit_255, lit_272, lit_284, lit_300, lit_330, lit_373, lit_753, lit_800, lit_896, lit_900, lit_1000, lit_1001, lit_1002, lit_1003, lit_1079, lit_1276, lit_1330, lit_1450, lit_3012, lit_3016, lit_3300, lit_8430, lit_9999, lit_10000, lit_11730, lit_30467, lit_65536, lit_99999, lit_100000, lit_1000000, lit_252645135, lit_858993459, lit_1000000000, lit_1431655765, jI_add, jI_sub, jI_mul, jI_neg, jI_lt, jI_le, jI_eq, isO_0, fR_0_0, fR_0_1, fR_0_2, fR_0_3, fR_0_4, fR_0_5, fR_0_6, fR_0_7, fR_0_8, fR_0_9, fR_0_10, fR_0_11, fR_0_12, fw, ia_2, is_2, b_I, b_L, b_V, b_R, b_N, b_N0, Option.bind_some, ↓reduceIte, bq0, bq1, bz0, bz1, ite_not, Classical.not_not]
      rw [if_pos q0]
    have e2 : m_M x k_M_book [.ref 149, .int (jI i), .int (jI k)] (mk F G) = some (some (.int (jI (F 2 26))), mk F G) := by
      rw [E_M_book]
      simp (disch := omega) only [lit_0, lit_1, lit_2, lit_3, lit_4, lit_5, lit_6, lit_7, lit_8, lit_9, lit_10, lit_11, lit_12, lit_13, lit_14, lit_15, lit_16, lit_17, lit_18, lit_19, lit_20, lit_21, lit_22, lit_23, lit_24, lit_25, lit_26, lit_27, lit_28, lit_29, lit_30, lit_31, lit_32, lit_33, lit_34, lit_35, lit_36, lit_37, lit_38, lit_39, lit_40, lit_41, lit_42, lit_43, lit_44, lit_45, lit_46, lit_47, lit_48, lit_49, lit_50, lit_51, lit_52, lit_53, lit_54, lit_55, lit_56, lit_57, lit_58, lit_59, lit_60, lit_61, lit_62, lit_63, lit_64, lit_65, lit_67, lit_70, lit_71, lit_73, lit_75, lit_78, lit_84, lit_85, lit_86, lit_87, lit_89, lit_90, lit_91, lit_95, lit_96, lit_97, lit_98, lit_99, lit_100, lit_101, lit_102, lit_103, lit_104, lit_105, lit_107, lit_108, lit_109, lit_110, lit_111, lit_112, lit_114, lit_115, lit_116, lit_117, lit_119, lit_121, lit_122, lit_126, lit_127, lit_128, lit_130, lit_134, lit_137, lit_139, lit_140, lit_141, lit_145, lit_152, lit_159, lit_160, lit_168, lit_174, lit_180, lit_183, lit_192, lit_199, lit_236, lit_251, lit_255, lit_272, lit_284, lit_300, lit_330, lit_373, lit_753, lit_800, lit_896, lit_900, lit_1000, lit_1001, lit_1002, lit_1003, lit_1079, lit_1276, lit_1330, lit_1450, lit_3012, lit_3016, lit_3300, lit_8430, lit_9999, lit_10000, lit_11730, lit_30467, lit_65536, lit_99999, lit_100000, lit_1000000, lit_252645135, lit_858993459, lit_1000000000, lit_1431655765, jI_add, jI_sub, jI_mul, jI_neg, jI_lt, jI_le, jI_eq, isO_149, b_I, b_L, b_V, b_R, b_N, b_N0, Option.bind_some, ↓reduceIte, bq0, bq1, bz0, bz1, ite_not, Classical.not_not, hsh]
      rw [if_pos q0]
    exact Ok_pure hR e1 e2
  · by_cases q1 : 0 ≤ i ∧ i < F 2 26
    · have a1 := C_fineDay x F G (w := 1) (i := i) (Or.inl rfl) hi q1.1 (by omega)
      have a2 := C_fineWho x F G (w := 1) (i := i) (Or.inl rfl) hi q1.1 (by omega)
      have a3 := C_fineCoins x F G (w := 1) (i := i) (Or.inl rfl) hi q1.1 (by omega)
      simp only [Nat.reduceAdd] at a1 a2 a3
      have e1 : m_M x k_G_book [.ref 0, .int (jI i), .int (jI k)] (mk F G) = some (some (.int (jI (if 0 ≤ k ∧ k ≤ 2 then (if k = 0 then F 2 (111 + i) / 1000 else if k = 1 then F 2 (111 + i) / 100 % 10 else F 2 (111 + i) % 100) else -2))), mk F G) := by
        rw [E_G_book]
        simp (disch := omega) only [lit_0, lit_1, lit_2, lit_3, lit_4, lit_5, lit_6, lit_7, lit_8, lit_9, lit_10, lit_11, lit_12, lit_13, lit_14, lit_15, lit_16, lit_17, lit_18, lit_19, lit_20, lit_21, lit_22, lit_23, lit_24, lit_25, lit_26, lit_27, lit_28, lit_29, lit_30, lit_31, lit_32, lit_33, lit_34, lit_35, lit_36, lit_37, lit_38, lit_39, lit_40, lit_41, lit_42, lit_43, lit_44, lit_45, lit_46, lit_47, lit_48, lit_49, lit_50, lit_51, lit_52, lit_53, lit_54, lit_55, lit_56, lit_57, lit_58, lit_59, lit_60, lit_61, lit_62, lit_63, lit_64, lit_65, lit_67, lit_70, lit_71, lit_73, lit_75, lit_78, lit_84, lit_85, lit_86, lit_87, lit_89, lit_90, lit_91, lit_95, lit_96, lit_97, lit_98, lit_99, lit_100, lit_101, lit_102, lit_103, lit_104, lit_105, lit_107, lit_108, lit_109, lit_110, lit_111, lit_112, lit_114, lit_115, lit_116, lit_117, lit_119, lit_121, lit_122, lit_126, lit_127, lit_128, lit_130, lit_134, lit_137, lit_139, lit_140, lit_141, lit_145, lit_152, lit_159, lit_160, lit_168, lit_174, lit_180, lit_183, lit_192, lit_199, lit_236, lit_251, lit_255, lit_272, lit_284, lit_300, lit_330, lit_373, lit_753, lit_800, lit_896, lit_900, lit_1000, lit_1001, lit_1002, lit_1003, lit_1079, lit_1276, lit_1330, lit_1450, lit_3012, lit_3016, lit_3300, lit_8430, lit_9999, lit_10000, lit_11730, lit_30467, lit_65536, lit_99999, lit_100000, lit_1000000, lit_252645135, lit_858993459, lit_1000000000, lit_1431655765, jI_add, jI_sub, jI_mul, jI_neg, jI_lt, jI_le, jI_eq, isO_0, fR_0_0, fR_0_1, fR_0_2, fR_0_3, fR_0_4, fR_0_5, fR_0_6, fR_0_7, fR_0_8, fR_0_9, fR_0_10, fR_0_11, fR_0_12, b_I, b_L, b_V, b_R, b_N, b_N0, Option.bind_some, ↓reduceIte, bq0, bq1, bz0, bz1, ite_not, Classical.not_not, hf, a1, a2, a3]
        rw [if_neg q0, if_pos q1]
        by_cases k0 : k = 0
        · rw [if_pos k0, if_pos (by omega), if_pos k0]
        · by_cases k1 : k = 1
          · rw [if_neg k0, if_pos k1, if_pos (by omega), if_neg k0, if_pos k1]
          · by_cases k2 : k = 2
            · rw [if_neg k0, if_neg k1, if_pos k2, if_pos (by omega), if_neg k0, if_neg k1]
            · rw [if_neg k0, if_neg k1, if_neg k2, if_neg (by omega)]
      have e2 : m_M x k_M_book [.ref 149, .int (jI i), .int (jI k)] (mk F G) = some (some (.int (jI (if 0 ≤ k ∧ k ≤ 2 then (if k = 0 then F 2 (111 + i) / 1000 else if k = 1 then F 2 (111 + i) / 100 % 10 else F 2 (111 + i) % 100) else -2))), mk F G) := by
        rw [E_M_book]
        simp (disch := first | omega | assumption | (unfold rg; omega)) only [lit_0, lit_1, lit_2, lit_3, lit_4, lit_5, lit_6, lit_7, lit_8, lit_9, lit_10, lit_11, lit_12, lit_13, lit_14, lit_15, lit_16, lit_17, lit_18, lit_19, lit_20, lit_21, lit_22, lit_23, lit_24, lit_25, lit_26, lit_27, lit_28, lit_29, lit_30, lit_31, lit_32, lit_33, lit_34, lit_35, lit_36, lit_37, lit_38, lit_39, lit_40, lit_41, lit_42, lit_43, lit_44, lit_45, lit_46, lit_47, lit_48, lit_49, lit_50, lit_51, lit_52, lit_53, lit_54, lit_55, lit_56, lit_57, lit_58, lit_59, lit_60, lit_61, lit_62, lit_63, lit_64, lit_65, lit_67, lit_70, lit_71, lit_73, lit_75, lit_78, lit_84, lit_85, lit_86, lit_87, lit_89, lit_90, lit_91, lit_95, lit_96, lit_97, lit_98, lit_99, lit_100, lit_101, lit_102, lit_103, lit_104, lit_105, lit_107, lit_108, lit_109, lit_110, lit_111, lit_112, lit_114, lit_115, lit_116, lit_117, lit_119, lit_121, lit_122, lit_126, lit_127, lit_128, lit_130, lit_134, lit_137, lit_139, lit_140, lit_141, lit_145, lit_152, lit_159, lit_160, lit_168, lit_174, lit_180, lit_183, lit_192, lit_199, lit_236, lit_251, lit_255, lit_272, lit_284, lit_300, lit_330, lit_373, lit_753, lit_800, lit_896, lit_900, lit_1000, lit_1001, lit_1002, lit_1003, lit_1079, lit_1276, lit_1330, lit_1450, lit_3012, lit_3016, lit_3300, lit_8430, lit_9999, lit_10000, lit_11730, lit_30467, lit_65536, lit_99999, lit_100000, lit_1000000, lit_252645135, lit_858993459, lit_1000000000, lit_1431655765, jI_add, jI_sub, jI_mul, jI_neg, jI_lt, jI_le, jI_eq, isO_149, b_I, b_L, b_V, b_R, b_N, b_N0, Option.bind_some, ↓reduceIte, bq0, bq1, bz0, bz1, ite_not, Classical.not_not, hsh, M_isIn]
        rw [if_neg q0, if_pos (by omega)]
        by_cases k3 : 0 ≤ k ∧ k ≤ 2
        · rw [if_pos k3, if_pos k3, M_entry x F G hi hrb q1.1 q1.2 k3.1 k3.2, b_I]
        · rw [if_neg k3, if_neg k3]
      exact Ok_pure hR e1 e2
    · have e1 : m_M x k_G_book [.ref 0, .int (jI i), .int (jI k)] (mk F G) = some (some (.int (jI (-2))), mk F G) := by
        rw [E_G_book]
        simp (disch := omega) only [lit_0, lit_1, lit_2, lit_3, lit_4, lit_5, lit_6, lit_7, lit_8, lit_9, lit_10, lit_11, lit_12, lit_13, lit_14, lit_15, lit_16, lit_17, lit_18, lit_19, lit_20, lit_21, lit_22, lit_23, lit_24, lit_25, lit_26, lit_27, lit_28, lit_29, lit_30, lit_31, lit_32, lit_33, lit_34, lit_35, lit_36, lit_37, lit_38, lit_39, lit_40, lit_41, lit_42, lit_43, lit_44, lit_45, lit_46, lit_47, lit_48, lit_49, lit_50, lit_51, lit_52, lit_53, lit_54, lit_55, lit_56, lit_57, lit_58, lit_59, lit_60, lit_61, lit_62, lit_63, lit_64, lit_65, lit_67, lit_70, lit_71, lit_73, lit_75, lit_78, lit_84, lit_85, lit_86, lit_87, lit_89, lit_90, lit_91, lit_95, lit_96, lit_97, lit_98, lit_99, lit_100, lit_101, lit_102, lit_103, lit_104, lit_105, lit_107, lit_108, lit_109, lit_110, lit_111, lit_112, lit_114, lit_115, lit_116, lit_117, lit_119, lit_121, lit_122, lit_126, lit_127, lit_128, lit_130, lit_134, lit_137, lit_139, lit_140, lit_141, lit_145, lit_152, lit_159, lit_160, lit_168, lit_174, lit_180, lit_183, lit_192, lit_199, lit_236, lit_251, lit_255, lit_272, lit_284, lit_300, lit_330, lit_373, lit_753, lit_800, lit_896, lit_900, lit_1000, lit_1001, lit_1002, lit_1003, lit_1079, lit_1276, lit_1330, lit_1450, lit_3012, lit_3016, lit_3300, lit_8430, lit_9999, lit_10000, lit_11730, lit_30467, lit_65536, lit_99999, lit_100000, lit_1000000, lit_252645135, lit_858993459, lit_1000000000, lit_1431655765, jI_add, jI_sub, jI_mul, jI_neg, jI_lt, jI_le, jI_eq, isO_0, fR_0_0, fR_0_1, fR_0_2, fR_0_3, fR_0_4, fR_0_5, fR_0_6, fR_0_7, fR_0_8, fR_0_9, fR_0_10, fR_0_11, fR_0_12, b_I, b_L, b_V, b_R, b_N, b_N0, Option.bind_some, ↓reduceIte, bq0, bq1, bz0, bz1, ite_not, Classical.not_not, hf]
        rw [if_neg q0, if_neg q1]
      have e2 : m_M x k_M_book [.ref 149, .int (jI i), .int (jI k)] (mk F G) = some (some (.int (jI (-2))), mk F G) := by
        rw [E_M_book]
        simp (disch := first | omega | assumption | (unfold rg; omega)) only [lit_0, lit_1, lit_2, lit_3, lit_4, lit_5, lit_6, lit_7, lit_8, lit_9, lit_10, lit_11, lit_12, lit_13, lit_14, lit_15, lit_16, lit_17, lit_18, lit_19, lit_20, lit_21, lit_22, lit_23, lit_24, lit_25, lit_26, lit_27, lit_28, lit_29, lit_30, lit_31, lit_32, lit_33, lit_34, lit_35, lit_36, lit_37, lit_38, lit_39, lit_40, lit_41, lit_42, lit_43, lit_44, lit_45, lit_46, lit_47, lit_48, lit_49, lit_50, lit_51, lit_52, lit_53, lit_54, lit_55, lit_56, lit_57, lit_58, lit_59, lit_60, lit_61, lit_62, lit_63, lit_64, lit_65, lit_67, lit_70, lit_71, lit_73, lit_75, lit_78, lit_84, lit_85, lit_86, lit_87, lit_89, lit_90, lit_91, lit_95, lit_96, lit_97, lit_98, lit_99, lit_100, lit_101, lit_102, lit_103, lit_104, lit_105, lit_107, lit_108, lit_109, lit_110, lit_111, lit_112, lit_114, lit_115, lit_116, lit_117, lit_119, lit_121, lit_122, lit_126, lit_127, lit_128, lit_130, lit_134, lit_137, lit_139, lit_140, lit_141, lit_145, lit_152, lit_159, lit_160, lit_168, lit_174, lit_180, lit_183, lit_192, lit_199, lit_236, lit_251, lit_255, lit_272, lit_284, lit_300, lit_330, lit_373, lit_753, lit_800, lit_896, lit_900, lit_1000, lit_1001, lit_1002, lit_1003, lit_1079, lit_1276, lit_1330, lit_1450, lit_3012, lit_3016, lit_3300, lit_8430, lit_9999, lit_10000, lit_11730, lit_30467, lit_65536, lit_99999, lit_100000, lit_1000000, lit_252645135, lit_858993459, lit_1000000000, lit_1431655765, jI_add, jI_sub, jI_mul, jI_neg, jI_lt, jI_le, jI_eq, isO_149, b_I, b_L, b_V, b_R, b_N, b_N0, Option.bind_some, ↓reduceIte, bq0, bq1, bz0, bz1, ite_not, Classical.not_not, hsh, M_isIn]
        rw [if_neg q0, if_neg (by omega)]
      exact Ok_pure hR e1 e2
def finS (c : Fn) (p n : Int) : Int := sm (fun i => if p = -1 ∨ c (111 + i) / 100 % 10 = p then c (111 + i) % 100 else 0) n
theorem C_fined {p : Int} (hi : WI (F 2)) (hp : rg p) : m_D x 3 k_G_fined 23 [some (.ref 0), some (.int (jI p)), some (.int (jI 0)), some (.int (jI 0))] [] (mk F G) = some (some (.int (jI (finS (F 2) p (F 2 26)))), mk F G) := by
  have hc := WI_c hi
  unfold rg at hp
  have fw : m_fR (mk F G) 9 0 1 = some 2 := fR_W_0 F G (w := 1) (Or.inl rfl)
  have key : ∀ i, 0 ≤ i → i ≤ F 2 26 → m_D x 3 k_G_fined 23 [some (.ref 0), some (.int (jI p)), some (.int (jI (finS (F 2) p i))), some (.int (jI i))] [] (mk F G) = some (some (.int (jI (finS (F 2) p (F 2 26)))), mk F G) := by
    apply down
    · rw [E_G_fined_23 x 3 (by omega)]
      simp (disch := omega) only [lit_0, lit_1, lit_2, lit_3, lit_4, lit_5, lit_6, lit_7, lit_8, lit_9, lit_10, lit_11, lit_12, lit_13, lit_14, lit_15, lit_16, lit_17, lit_18, lit_19, lit_20, lit_21, lit_22, lit_23, lit_24, lit_25, lit_26, lit_27, lit_28, lit_29, lit_30, lit_31, lit_32, lit_33, lit_34, lit_35, lit_36, lit_37, lit_38, lit_39, lit_40, lit_41, lit_42, lit_43, lit_44, lit_45, lit_46, lit_47, lit_48, lit_49, lit_50, lit_51, lit_52, lit_53, lit_54, lit_55, lit_56, lit_57, lit_58, lit_59, lit_60, lit_61, lit_62, lit_63, lit_64, lit_65, lit_67, lit_70, lit_71, lit_73, lit_75, lit_78, lit_84, lit_85, lit_86, lit_87, lit_89, lit_90, lit_91, lit_95, lit_96, lit_97, lit_98, lit_99, lit_100, lit_101, lit_102, lit_103, lit_104, lit_105, lit_107, lit_108, lit_109, lit_110, lit_111, lit_112, lit_114, lit_115, lit_116, lit_117, lit_119, lit_121, lit_122, lit_126, lit_127, lit_128, lit_130, lit_134, lit_137, lit_139, lit_140, lit_141, lit_145, lit_152, lit_159, lit_160, lit_168, lit_174, lit_180, lit_183, lit_192, lit_199, lit_236, lit_251, lit_255, lit_272, lit_284, lit_300, lit_330, lit_373, lit_753, lit_800, lit_896, lit_900, lit_1000, lit_1001, lit_1002, lit_1003, lit_1079, lit_1276, lit_1330, lit_1450, lit_3012, lit_3016, lit_3300, lit_8430, lit_9999, lit_10000, lit_11730, lit_30467, lit_65536, lit_99999, lit_100000, lit_1000000, lit_252645135, lit_858993459, lit_1000000000, lit_1431655765, isO_0, fR_0_0, fR_0_1, fR_0_2, fR_0_3, fR_0_4, fR_0_5, fR_0_6, fR_0_7, fR_0_8, fR_0_9, fR_0_10, fR_0_11, fR_0_12, fw, ia_2, is_2, b_I, b_L, b_V, b_R, b_N, b_N0, Option.bind_some, ↓reduceIte, bq0, bq1, bz0, bz1, ite_not, Classical.not_not]
      rw [if_pos (Int32.le_refl _)]
    · intro i i0 i1 ih
      have hb := WI_b hi i0 (by omega)
      have a2 := C_fineWho x F G (w := 1) (i := i) (Or.inl rfl) hi i0 (by omega)
      have a3 := C_fineCoins x F G (w := 1) (i := i) (Or.inl rfl) hi i0 (by omega)
      simp only [Nat.reduceAdd] at a2 a3
      have es : finS (F 2) p (i + 1) = finS (F 2) p i + (if p = -1 ∨ F 2 (111 + i) / 100 % 10 = p then F 2 (111 + i) % 100 else 0) := by
        unfold finS
        rw [sm_s _ i0]
      rw [es] at ih
      rw [E_G_fined_23 x 3 (by omega)]
      simp (disch := omega) only [lit_0, lit_1, lit_2, lit_3, lit_4, lit_5, lit_6, lit_7, lit_8, lit_9, lit_10, lit_11, lit_12, lit_13, lit_14, lit_15, lit_16, lit_17, lit_18, lit_19, lit_20, lit_21, lit_22, lit_23, lit_24, lit_25, lit_26, lit_27, lit_28, lit_29, lit_30, lit_31, lit_32, lit_33, lit_34, lit_35, lit_36, lit_37, lit_38, lit_39, lit_40, lit_41, lit_42, lit_43, lit_44, lit_45, lit_46, lit_47, lit_48, lit_49, lit_50, lit_51, lit_52, lit_53, lit_54, lit_55, lit_56, lit_57, lit_58, lit_59, lit_60, lit_61, lit_62, lit_63, lit_64, lit_65, lit_67, lit_70, lit_71, lit_73, lit_75, lit_78, lit_84, lit_85, lit_86, lit_87, lit_89, lit_90, lit_91, lit_95, lit_96, lit_97, lit_98, lit_99, lit_100, lit_101, lit_102, lit_103, lit_104, lit_105, lit_107, lit_108, lit_109, lit_110, lit_111, lit_112, lit_114, lit_115, lit_116, lit_117, lit_119, lit_121, lit_122, lit_126, lit_127, lit_128, lit_130, lit_134, lit_137, lit_139, lit_140, lit_141, lit_145, lit_152, lit_159, lit_160, lit_168, lit_174, lit_180, lit_183, lit_192, lit_199, lit_236, lit_251, lit_255, lit_272, lit_284, lit_300, lit_330, lit_373, lit_753, lit_800, lit_896, lit_900, lit_1000, lit_1001, lit_1002, lit_1003, lit_1079, lit_1276, lit_1330, lit_1450, lit_3012, lit_3016, lit_3300, lit_8430, lit_9999, lit_10000, lit_11730, lit_30467, lit_65536, lit_99999, lit_100000, lit_1000000, lit_252645135, lit_858993459, lit_1000000000, lit_1431655765, jI_add, jI_sub, jI_mul, jI_neg, jI_lt, jI_le, jI_eq, isO_0, fR_0_0, fR_0_1, fR_0_2, fR_0_3, fR_0_4, fR_0_5, fR_0_6, fR_0_7, fR_0_8, fR_0_9, fR_0_10, fR_0_11, fR_0_12, fw, ia_2, is_2, b_I, b_L, b_V, b_R, b_N, b_N0, Option.bind_some, ↓reduceIte, bq0, bq1, bz0, bz1, ite_not, Classical.not_not, a2, a3]
      rw [if_neg (by omega)]
      by_cases q : p = -1
      · rw [if_pos (Or.inl q)] at ih
        rw [if_pos q]
        exact ih
      · rw [if_neg q]
        by_cases q2 : F 2 (111 + i) / 100 % 10 = p
        · rw [if_pos (Or.inr q2)] at ih
          rw [if_pos q2]
          exact ih
        · rw [if_neg (fun z => by omega), Int.add_zero] at ih
          rw [if_neg q2]
          exact ih
  exact key 0 (by omega) (by omega)
theorem M_fined {c : Fn} {p : Int} (hi : WI c) (hb : RB c (F 150)) (hp : rg p) : m_D x 3 k_M_fined 20 [some (.ref 149), some (.int (jI p)), some (.int (jI 0)), some (.int (jI 0))] [] (mk F G) = some (some (.int (jI (finS c p (c 26)))), mk F G) := by
  have hc := WI_c hi
  unfold rg at hp
  have hb' := hb
  unfold RB at hb'
  have hsh := M_shown x F G hb'.1 (by omega)
  rw [← hb'.2.2.1] at hsh
  have key : ∀ i, 0 ≤ i → i ≤ c 26 → m_D x 3 k_M_fined 20 [some (.ref 149), some (.int (jI p)), some (.int (jI (finS c p i))), some (.int (jI i))] [] (mk F G) = some (some (.int (jI (finS c p (c 26)))), mk F G) := by
    apply down
    · rw [E_M_fined_20 x 3 (by omega), hsh, b_I, if_pos (Int32.le_refl _)]
    · intro i i0 i1 ih
      have hbb := WI_b hi i0 (by omega)
      have a2 := M_entry x F G (k := 1) hi hb i0 i1 (by omega) (by omega)
      have a3 := M_entry x F G (k := 2) hi hb i0 i1 (by omega) (by omega)
      rw [if_neg (by omega), if_pos rfl] at a2
      rw [if_neg (by omega), if_neg (by omega)] at a3
      have es : finS c p (i + 1) = finS c p i + (if p = -1 ∨ c (111 + i) / 100 % 10 = p then c (111 + i) % 100 else 0) := by
        unfold finS
        rw [sm_s _ i0]
      rw [es] at ih
      rw [E_M_fined_20 x 3 (by omega)]
      simp (disch := omega) only [lit_0, lit_1, lit_2, lit_3, lit_4, lit_5, lit_6, lit_7, lit_8, lit_9, lit_10, lit_11, lit_12, lit_13, lit_14, lit_15, lit_16, lit_17, lit_18, lit_19, lit_20, lit_21, lit_22, lit_23, lit_24, lit_25, lit_26, lit_27, lit_28, lit_29, lit_30, lit_31, lit_32, lit_33, lit_34, lit_35, lit_36, lit_37, lit_38, lit_39, lit_40, lit_41, lit_42, lit_43, lit_44, lit_45, lit_46, lit_47, lit_48, lit_49, lit_50, lit_51, lit_52, lit_53, lit_54, lit_55, lit_56, lit_57, lit_58, lit_59, lit_60, lit_61, lit_62, lit_63, lit_64, lit_65, lit_67, lit_70, lit_71, lit_73, lit_75, lit_78, lit_84, lit_85, lit_86, lit_87, lit_89, lit_90, lit_91, lit_95, lit_96, lit_97, lit_98, lit_99, lit_100, lit_101, lit_102, lit_103, lit_104, lit_105, lit_107, lit_108, lit_109, lit_110, lit_111, lit_112, lit_114, lit_115, lit_116, lit_117, lit_119, lit_121, lit_122, lit_126, lit_127, lit_128, lit_130, lit_134, lit_137, lit_139, lit_140, lit_141, lit_145, lit_152, lit_159, lit_160, lit_168, lit_174, lit_180, lit_183, lit_192, lit_199, lit_236, lit_251, lit_255, lit_272, lit_284, lit_300, lit_330, lit_373, lit_753, lit_800, lit_896, lit_900, lit_1000, lit_1001, lit_1002, lit_1003, lit_1079, lit_1276, lit_1330, lit_1450, lit_3012, lit_3016, lit_3300, lit_8430, lit_9999, lit_10000, lit_11730, lit_30467, lit_65536, lit_99999, lit_100000, lit_1000000, lit_252645135, lit_858993459, lit_1000000000, lit_1431655765, jI_add, jI_sub, jI_mul, jI_neg, jI_lt, jI_le, jI_eq, b_I, b_L, b_V, b_R, b_N, b_N0, Option.bind_some, ↓reduceIte, bq0, bq1, bz0, bz1, ite_not, Classical.not_not, hsh, a2, a3]
      rw [if_neg (by omega)]
      by_cases q : p = -1
      · rw [if_pos (Or.inl q)] at ih
        rw [if_pos q]
        exact ih
      · rw [if_neg q]
        by_cases q2 : c (111 + i) / 100 % 10 = p
        · rw [if_pos (Or.inr q2)] at ih
          rw [if_pos q2]
          exact ih
        · rw [if_neg (fun z => by omega)] at ih
          rw [if_neg q2]
          exact ih
  exact key 0 (by omega) (by omega)
theorem ok_fined {p : Int} (hR : Rel F) (hp : rg p) : Ok x F G k_G_fined k_M_fined [.int (jI p)] := by
  have hi : WI (F 2) := RS_WI hR.1
  have hc := WI_c hi
  have hrb : RB (F 2) (F 150) := (RS_top hR.1).2.2
  have hp' := hp
  unfold rg at hp'
  have hv0 := Rel_V0 hR
  have hf := C_hasOne x F G (w := 1) (p := p) (Or.inl rfl) hp (by unfold rg; simp only [Nat.reduceAdd]; omega)
  simp only [Nat.reduceAdd] at hf
  have ho := M_isOne x F G (p := p) (RS_WV hR.1) hp
  rw [hv0.1] at ho
  by_cases q : p = -1 ∨ (0 ≤ p ∧ p < F 2 0)
  · have e1 : m_M x k_G_fined [.ref 0, .int (jI p)] (mk F G) = some (some (.int (jI (finS (F 2) p (F 2 26)))), mk F G) := by
      rw [E_G_fined]
      simp (disch := omega) only [lit_0, lit_1, lit_2, lit_3, lit_4, lit_5, lit_6, lit_7, lit_8, lit_9, lit_10, lit_11, lit_12, lit_13, lit_14, lit_15, lit_16, lit_17, lit_18, lit_19, lit_20, lit_21, lit_22, lit_23, lit_24, lit_25, lit_26, lit_27, lit_28, lit_29, lit_30, lit_31, lit_32, lit_33, lit_34, lit_35, lit_36, lit_37, lit_38, lit_39, lit_40, lit_41, lit_42, lit_43, lit_44, lit_45, lit_46, lit_47, lit_48, lit_49, lit_50, lit_51, lit_52, lit_53, lit_54, lit_55, lit_56, lit_57, lit_58, lit_59, lit_60, lit_61, lit_62, lit_63, lit_64, lit_65, lit_67, lit_70, lit_71, lit_73, lit_75, lit_78, lit_84, lit_85, lit_86, lit_87, lit_89, lit_90, lit_91, lit_95, lit_96, lit_97, lit_98, lit_99, lit_100, lit_101, lit_102, lit_103, lit_104, lit_105, lit_107, lit_108, lit_109, lit_110, lit_111, lit_112, lit_114, lit_115, lit_116, lit_117, lit_119, lit_121, lit_122, lit_126, lit_127, lit_128, lit_130, lit_134, lit_137, lit_139, lit_140, lit_141, lit_145, lit_152, lit_159, lit_160, lit_168, lit_174, lit_180, lit_183, lit_192, lit_199, lit_236, lit_251, lit_255, lit_272, lit_284, lit_300, lit_330, lit_373, lit_753, lit_800, lit_896, lit_900, lit_1000, lit_1001, lit_1002, lit_1003, lit_1079, lit_1276, lit_1330, lit_1450, lit_3012, lit_3016, lit_3300, lit_8430, lit_9999, lit_10000, lit_11730, lit_30467, lit_65536, lit_99999, lit_100000, lit_1000000, lit_252645135, lit_858993459, lit_1000000000, lit_1431655765, jI_add, jI_sub, jI_mul, jI_neg, jI_lt, jI_le, jI_eq, isO_0, fR_0_0, fR_0_1, fR_0_2, fR_0_3, fR_0_4, fR_0_5, fR_0_6, fR_0_7, fR_0_8, fR_0_9, fR_0_10, fR_0_11, fR_0_12, b_I, b_L, b_V, b_R, b_N, b_N0, Option.bind_some, ↓reduceIte, bq0, bq1, bz0, bz1, ite_not, Classical.not_not, hf, C_fined x F G hi hp]
      by_cases q0 : p = -1
      · rw [if_pos q0]
      · rw [if_neg q0, if_pos (by omega)]
    have e2 : m_M x k_M_fined [.ref 149, .int (jI p)] (mk F G) = some (some (.int (jI (finS (F 2) p (F 2 26)))), mk F G) := by
      rw [E_M_fined]
      simp (disch := omega) only [lit_0, lit_1, lit_2, lit_3, lit_4, lit_5, lit_6, lit_7, lit_8, lit_9, lit_10, lit_11, lit_12, lit_13, lit_14, lit_15, lit_16, lit_17, lit_18, lit_19, lit_20, lit_21, lit_22, lit_23, lit_24, lit_25, lit_26, lit_27, lit_28, lit_29, lit_30, lit_31, lit_32, lit_33, lit_34, lit_35, lit_36, lit_37, lit_38, lit_39, lit_40, lit_41, lit_42, lit_43, lit_44, lit_45, lit_46, lit_47, lit_48, lit_49, lit_50, lit_51, lit_52, lit_53, lit_54, lit_55, lit_56, lit_57, lit_58, lit_59, lit_60, lit_61, lit_62, lit_63, lit_64, lit_65, lit_67, lit_70, lit_71, lit_73, lit_75, lit_78, lit_84, lit_85, lit_86, lit_87, lit_89, lit_90, lit_91, lit_95, lit_96, lit_97, lit_98, lit_99, lit_100, lit_101, lit_102, lit_103, lit_104, lit_105, lit_107, lit_108, lit_109, lit_110, lit_111, lit_112, lit_114, lit_115, lit_116, lit_117, lit_119, lit_121, lit_122, lit_126, lit_127, lit_128, lit_130, lit_134, lit_137, lit_139, lit_140, lit_141, lit_145, lit_152, lit_159, lit_160, lit_168, lit_174, lit_180, lit_183, lit_192, lit_199, lit_236, lit_251, lit_255, lit_272, lit_284, lit_300, lit_330, lit_373, lit_753, lit_800, lit_896, lit_900, lit_1000, lit_1001, lit_1002, lit_1003, lit_1079, lit_1276, lit_1330, lit_1450, lit_3012, lit_3016, lit_3300, lit_8430, lit_9999, lit_10000, lit_11730, lit_30467, lit_65536, lit_99999, lit_100000, lit_1000000, lit_252645135, lit_858993459, lit_1000000000, lit_1431655765, jI_add, jI_sub, jI_mul, jI_neg, jI_lt, jI_le, jI_eq, isO_149, b_I, b_L, b_V, b_R, b_N, b_N0, Option.bind_some, ↓reduceIte, bq0, bq1, bz0, bz1, ite_not, Classical.not_not, ho, M_fined x F G hi hrb hp]
      by_cases q0 : p = -1
      · rw [if_pos q0]
      · rw [if_neg q0, if_pos (by omega)]
    exact Ok_pure hR e1 e2
  · have e1 : m_M x k_G_fined [.ref 0, .int (jI p)] (mk F G) = some (some (.int (jI (-2))), mk F G) := by
      rw [E_G_fined]
      simp (disch := omega) only [lit_0, lit_1, lit_2, lit_3, lit_4, lit_5, lit_6, lit_7, lit_8, lit_9, lit_10, lit_11, lit_12, lit_13, lit_14, lit_15, lit_16, lit_17, lit_18, lit_19, lit_20, lit_21, lit_22, lit_23, lit_24, lit_25, lit_26, lit_27, lit_28, lit_29, lit_30, lit_31, lit_32, lit_33, lit_34, lit_35, lit_36, lit_37, lit_38, lit_39, lit_40, lit_41, lit_42, lit_43, lit_44, lit_45, lit_46, lit_47, lit_48, lit_49, lit_50, lit_51, lit_52, lit_53, lit_54, lit_55, lit_56, lit_57, lit_58, lit_59, lit_60, lit_61, lit_62, lit_63, lit_64, lit_65, lit_67, lit_70, lit_71, lit_73, lit_75, lit_78, lit_84, lit_85, lit_86, lit_87, lit_89, lit_90, lit_91, lit_95, lit_96, lit_97, lit_98, lit_99, lit_100, lit_101, lit_102, lit_103, lit_104, lit_105, lit_107, lit_108, lit_109, lit_110, lit_111, lit_112, lit_114, lit_115, lit_116, lit_117, lit_119, lit_121, lit_122, lit_126, lit_127, lit_128, lit_130, lit_134, lit_137, lit_139, lit_140, lit_141, lit_145, lit_152, lit_159, lit_160, lit_168, lit_174, lit_180, lit_183, lit_192, lit_199, lit_236, lit_251, lit_255, lit_272, lit_284, lit_300, lit_330, lit_373, lit_753, lit_800, lit_896, lit_900, lit_1000, lit_1001, lit_1002, lit_1003, lit_1079, lit_1276, lit_1330, lit_1450, lit_3012, lit_3016, lit_3300, lit_8430, lit_9999, lit_10000, lit_11730, lit_30467, lit_65536, lit_99999, lit_100000, lit_1000000, lit_252645135, lit_858993459, lit_1000000000, lit_1431655765, jI_add, jI_sub, jI_mul, jI_neg, jI_lt, jI_le, jI_eq, isO_0, fR_0_0, fR_0_1, fR_0_2, fR_0_3, fR_0_4, fR_0_5, fR_0_6, fR_0_7, fR_0_8, fR_0_9, fR_0_10, fR_0_11, fR_0_12, b_I, b_L, b_V, b_R, b_N, b_N0, Option.bind_some, ↓reduceIte, bq0, bq1, bz0, bz1, ite_not, Classical.not_not, hf]
      rw [if_neg (by omega), if_neg (by omega)]
    have e2 : m_M x k_M_fined [.ref 149, .int (jI p)] (mk F G) = some (some (.int (jI (-2))), mk F G) := by
      rw [E_M_fined]
      simp (disch := omega) only [lit_0, lit_1, lit_2, lit_3, lit_4, lit_5, lit_6, lit_7, lit_8, lit_9, lit_10, lit_11, lit_12, lit_13, lit_14, lit_15, lit_16, lit_17, lit_18, lit_19, lit_20, lit_21, lit_22, lit_23, lit_24, lit_25, lit_26, lit_27, lit_28, lit_29, lit_30, lit_31, lit_32, lit_33, lit_34, lit_35, lit_36, lit_37, lit_38, lit_39, lit_40, lit_41, lit_42, lit_43, lit_44, lit_45, lit_46, lit_47, lit_48, lit_49, lit_50, lit_51, lit_52, lit_53, lit_54, lit_55, lit_56, lit_57, lit_58, lit_59, lit_60, lit_61, lit_62, lit_63, lit_64, lit_65, lit_67, lit_70, lit_71, lit_73, lit_75, lit_78, lit_84, lit_85, lit_86, lit_87, lit_89, lit_90, lit_91, lit_95, lit_96, lit_97, lit_98, lit_99, lit_100, lit_101, lit_102, lit_103, lit_104, lit_105, lit_107, lit_108, lit_109, lit_110, lit_111, lit_112, lit_114, lit_115, lit_116, lit_117, lit_119, lit_121, lit_122, lit_126, lit_127, lit_128, lit_130, lit_134, lit_137, lit_139, lit_140, lit_141, lit_145, lit_152, lit_159, lit_160, lit_168, lit_174, lit_180, lit_183, lit_192, lit_199, lit_236, lit_251, lit_255, lit_272, lit_284, lit_300, lit_330, lit_373, lit_753, lit_800, lit_896, lit_900, lit_1000, lit_1001, lit_1002, lit_1003, lit_1079, lit_1276, lit_1330, lit_1450, lit_3012, lit_3016, lit_3300, lit_8430, lit_9999, lit_10000, lit_11730, lit_30467, lit_65536, lit_99999, lit_100000, lit_1000000, lit_252645135, lit_858993459, lit_1000000000, lit_1431655765, jI_add, jI_sub, jI_mul, jI_neg, jI_lt, jI_le, jI_eq, isO_149, b_I, b_L, b_V, b_R, b_N, b_N0, Option.bind_some, ↓reduceIte, bq0, bq1, bz0, bz1, ite_not, Classical.not_not, ho]
      rw [if_neg (by omega), if_neg (by omega)]
    exact Ok_pure hR e1 e2
end
