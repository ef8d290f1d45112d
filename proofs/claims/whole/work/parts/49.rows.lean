-- steps and rows of the class
theorem shp_S {s i : Nat} (hs : s = 3 ∨ s = 53) (hi : i < 31) : shp (s + 2 + i) = (0, 141, []) := by
  have h1 : ∀ i : Fin 31, shp (3 + 2 + i.val) = (0, 141, []) := by decide
  have h2 : ∀ i : Fin 31, shp (53 + 2 + i.val) = (0, 141, []) := by decide
  rcases hs with rfl | rfl
  · exact h1 ⟨i, hi⟩
  · exact h2 ⟨i, hi⟩
theorem shp_W {w : Nat} (hw : w = 1 ∨ w = 51 ∨ w = 101) : shp (w + 1) = (0, 141, []) := by
  rcases hw with rfl | rfl | rfl <;> rfl
def rL (w : Nat) : Nat := if w = 37 ∨ w = 87 ∨ w = 142 then 12 else if w = 41 ∨ w = 43 ∨ w = 45 ∨ w = 91 ∨ w = 93 ∨ w = 95 then 6 else 8
theorem rL_le (w : Nat) : rL w ≤ 12 := by
  unfold rL
  split
  · omega
  · split <;> omega
theorem shp_R {w : Nat} (hw : w = 37 ∨ w = 39 ∨ w = 41 ∨ w = 43 ∨ w = 45 ∨ w = 47 ∨ w = 49 ∨ w = 87 ∨ w = 89 ∨ w = 91 ∨ w = 93 ∨ w = 95 ∨ w = 97 ∨ w = 99 ∨ w = 142) : shp (w + 1) = (0, rL w, []) := by
  rcases hw with rfl | rfl | rfl | rfl | rfl | rfl | rfl | rfl | rfl | rfl | rfl | rfl | rfl | rfl | rfl <;> rfl
theorem R_lt {w : Nat} (hw : w = 37 ∨ w = 39 ∨ w = 41 ∨ w = 43 ∨ w = 45 ∨ w = 47 ∨ w = 49 ∨ w = 87 ∨ w = 89 ∨ w = 91 ∨ w = 93 ∨ w = 95 ∨ w = 97 ∨ w = 99 ∨ w = 142) : w + 1 < 168 := by omega
/-- the row r with c's people behind r's put in -/
def tbk (r c : Fn) (p : Int) : Fn := fun k => if (1 + r 0 ≤ k ∧ k < 1 + p) ∨ (8 + r 0 ≤ k ∧ k < 8 + p) ∨ (15 + r 0 ≤ k ∧ k < 15 + p) then c k else r k
theorem tbk_s (r c : Fn) {p : Int} (h0 : r 0 ≤ p) (h00 : 0 ≤ r 0) (h1 : p < 7) : u (u (u (tbk r c p) (1 + p) (c (1 + p))) (8 + p) (c (8 + p))) (15 + p) (c (15 + p)) = tbk r c (p + 1) := by
  funext k
  simp only [u, tbk]
  by_cases h3 : k = 15 + p
  · rw [if_pos h3, if_pos (by omega), h3]
  · rw [if_neg h3]
    by_cases h2 : k = 8 + p
    · rw [if_pos h2, if_pos (by omega), h2]
    · rw [if_neg h2]
      by_cases h1 : k = 1 + p
      · rw [if_pos h1, if_pos (by omega), h1]
      · rw [if_neg h1]
        by_cases h : (1 + r 0 ≤ k ∧ k < 1 + p) ∨ (8 + r 0 ≤ k ∧ k < 8 + p) ∨ (15 + r 0 ≤ k ∧ k < 15 + p)
        · rw [if_pos h, if_pos (by omega)]
        · rw [if_neg h, if_neg (by omega)]
section
variable (x : m_X) (F G : Nat → Fn)
theorem C_floorMod {a : Int} (h0 : 0 ≤ a) (h1 : a < 62) : m_M x k_Math_floorMod [.int (jI a), .int (jI 31)] (mk F G) = some (some (.int (jI (a % 31))), mk F G) := by
  have hx : ∀ n : Fin 62, (0 : Int32) ≤ jI (n.val : Int) ^^^ jI 31 := by decide
  have hx2 := hx ⟨a.toNat, by omega⟩
  have e : ((a.toNat : Nat) : Int) = a := by omega
  simp only [e] at hx2
  rw [E_Math_floorMod, if_neg (by decide), if_pos hx2]
  simp (disch := omega) only [jI_add, jI_sub, jI_mul, jI_neg, jI_dvn]
  have e2 : a - a / 31 * 31 = a % 31 := by omega
  rw [e2]
theorem C_mark {s w : Nat} (hs : s = 3 ∨ s = 53) (hw : w = 1 ∨ w = 51 ∨ w = 101) (h1 : 0 ≤ F s 1) (h2 : F s 1 ≤ 30) (h3 : 0 ≤ F s 2) (h4 : F s 2 ≤ 30) : m_M x k_Steps_mark [.ref s, .ref w] (mk F G) = some (none, mk (sA F (s + 2 + ((F s 1 + F s 2) % 31).toNat) (cp (F (w + 1)) (F (s + 2 + ((F s 1 + F s 2) % 31).toNat)) 0 0 141)) G) := by
  rw [E_Steps_mark]
  simp (disch := omega) only [lit_0, lit_1, lit_2, lit_3, lit_4, lit_5, lit_6, lit_7, lit_8, lit_9, lit_10, lit_11, lit_12, lit_13, lit_14, lit_15, lit_16, lit_17, lit_18, lit_19, lit_20, lit_21, lit_22, lit_23, lit_24, lit_25, lit_26, lit_27, lit_28, lit_29, lit_30, lit_31, lit_32, lit_33, lit_34, lit_35, lit_36, lit_37, lit_38, lit_39, lit_40, lit_41, lit_42, lit_43, lit_44, lit_45, lit_46, lit_47, lit_48, lit_49, lit_50, lit_51, lit_52, lit_53, lit_54, lit_55, lit_56, lit_57, lit_58, lit_59, lit_60, lit_61, lit_62, lit_63, lit_64, lit_65, lit_67, lit_70, lit_71, lit_73, lit_75, lit_78, lit_84, lit_85, lit_86, lit_87, lit_89, lit_90, lit_91, lit_95, lit_96, lit_97, lit_98, lit_99, lit_100, lit_101, lit_102, lit_103, lit_104, lit_105, lit_107, lit_108, lit_109, lit_110, lit_111, lit_112, lit_114, lit_115, lit_116, lit_117, lit_119, lit_121, lit_122, lit_126, lit_127, lit_128, lit_130, lit_134, lit_137, lit_139, lit_140, lit_141, lit_145, lit_152, lit_159, lit_160, lit_168, lit_174, lit_180, lit_183, lit_192, lit_199, lit_236, lit_251, lit_255, lit_272, lit_284, lit_300, lit_330, lit_373, lit_753, lit_800, lit_896, lit_900, lit_1000, lit_1001, lit_1002, lit_1003, lit_1079, lit_1276, lit_1330, lit_1450, lit_3012, lit_3016, lit_3300, lit_8430, lit_9999, lit_10000, lit_11730, lit_30467, lit_65536, lit_99999, lit_100000, lit_1000000, lit_252645135, lit_858993459, lit_1000000000, lit_1431655765, jI_add, jI_sub, jI_mul, jI_neg, isO_W, fR_W_0, ia_W, is_W, isO_S, fR_S_0, fI_S_1, fI_S_2, pf_S_1, pf_S_2, aa_S, b_I, b_L, b_V, b_R, b_N, b_N0, Option.bind_some, ↓reduceIte, bq0, bq1, bz0, bz1, ite_not, Classical.not_not, C_floorMod]
  rw [mk_cpy (n := 141) (m := 141) F G (by omega) (by omega) (shp_W hw) (shp_S hs (by omega)) (by omega) (by omega) (by omega) (by omega) (by omega) (by omega) (by omega)]
  rfl
theorem C_keepS {s : Nat} (hs : s = 3 ∨ s = 53) (h1 : 0 ≤ F s 1) (h2 : F s 1 ≤ 30) (h3 : 0 ≤ F s 2) (h4 : F s 2 ≤ 30) : m_M x k_Steps_keep [.ref s] (mk F G) = some (none, mk (sA F s (if F s 2 < 30 then u (F s) 2 (F s 2 + 1) else u (F s) 1 ((F s 1 + 1) % 31))) G) := by
  rw [E_Steps_keep]
  simp (disch := omega) only [lit_0, lit_1, lit_2, lit_3, lit_4, lit_5, lit_6, lit_7, lit_8, lit_9, lit_10, lit_11, lit_12, lit_13, lit_14, lit_15, lit_16, lit_17, lit_18, lit_19, lit_20, lit_21, lit_22, lit_23, lit_24, lit_25, lit_26, lit_27, lit_28, lit_29, lit_30, lit_31, lit_32, lit_33, lit_34, lit_35, lit_36, lit_37, lit_38, lit_39, lit_40, lit_41, lit_42, lit_43, lit_44, lit_45, lit_46, lit_47, lit_48, lit_49, lit_50, lit_51, lit_52, lit_53, lit_54, lit_55, lit_56, lit_57, lit_58, lit_59, lit_60, lit_61, lit_62, lit_63, lit_64, lit_65, lit_67, lit_70, lit_71, lit_73, lit_75, lit_78, lit_84, lit_85, lit_86, lit_87, lit_89, lit_90, lit_91, lit_95, lit_96, lit_97, lit_98, lit_99, lit_100, lit_101, lit_102, lit_103, lit_104, lit_105, lit_107, lit_108, lit_109, lit_110, lit_111, lit_112, lit_114, lit_115, lit_116, lit_117, lit_119, lit_121, lit_122, lit_126, lit_127, lit_128, lit_130, lit_134, lit_137, lit_139, lit_140, lit_141, lit_145, lit_152, lit_159, lit_160, lit_168, lit_174, lit_180, lit_183, lit_192, lit_199, lit_236, lit_251, lit_255, lit_272, lit_284, lit_300, lit_330, lit_373, lit_753, lit_800, lit_896, lit_900, lit_1000, lit_1001, lit_1002, lit_1003, lit_1079, lit_1276, lit_1330, lit_1450, lit_3012, lit_3016, lit_3300, lit_8430, lit_9999, lit_10000, lit_11730, lit_30467, lit_65536, lit_99999, lit_100000, lit_1000000, lit_252645135, lit_858993459, lit_1000000000, lit_1431655765, jI_add, jI_sub, jI_mul, jI_neg, jI_lt, jI_le, jI_eq, isO_S, fR_S_0, fI_S_1, fI_S_2, pf_S_1, pf_S_2, aa_S, b_I, b_L, b_V, b_R, b_N, b_N0, Option.bind_some, ↓reduceIte, bq0, bq1, bz0, bz1, ite_not, Classical.not_not, C_floorMod]
  by_cases h : F s 2 < 30
  · rw [if_neg (by omega), if_pos h]
  · rw [if_pos (by omega), if_neg h]
theorem C_takeBackW {s w i : Nat} (hs : s = 3 ∨ s = 53) (hi : i < 31) (hw : w = 1 ∨ w = 51 ∨ w = 101) (h0 : 0 ≤ F (s + 2 + i) 0) (h1 : F (s + 2 + i) 0 ≤ F (w + 1) 0) (h2 : F (w + 1) 0 ≤ 7) : m_M x k_World_takeBack [.ref w, .ref (s + 2 + i)] (mk F G) = some (none, mk (sA (sA F (s + 2 + i) (u (tbk (F (s + 2 + i)) (F (w + 1)) (F (w + 1) 0)) 0 (F (w + 1) 0))) (w + 1) (cp (u (tbk (F (s + 2 + i)) (F (w + 1)) (F (w + 1) 0)) 0 (F (w + 1) 0)) (F (w + 1)) 0 0 141)) G) := by
  have hne : ¬ w + 1 = s + 2 + i := by omega
  have hia : ∀ (F : Nat → Fn) {z : Int}, 0 ≤ z → z < 141 → m_ia x (mk F G) (s + 2 + i) (jI z) = some (jI (F (s + 2 + i) z)) := fun F z a b => mk_ia (n := 141) x F G (by omega) (shp_S hs hi) (by omega) a b
  have his : ∀ (F : Nat → Fn) {z : Int} (v : Int), 0 ≤ z → z < 141 → m_is (mk F G) (s + 2 + i) (jI z) (jI v) = some (mk (sA F (s + 2 + i) (u (F (s + 2 + i)) z v)) G) := fun F z v a b => mk_is (n := 141) F G v (by omega) (shp_S hs hi) (by omega) a b
  have key : ∀ p, F (s + 2 + i) 0 ≤ p → p ≤ F (w + 1) 0 → m_D x 1 k_World_takeBack 11 [some (.ref w), some (.ref (s + 2 + i)), some (.int (jI (F (w + 1) 0))), some (.int (jI p))] [] (mk (sA F (s + 2 + i) (tbk (F (s + 2 + i)) (F (w + 1)) p)) G) = some (none, mk (sA (sA F (s + 2 + i) (u (tbk (F (s + 2 + i)) (F (w + 1)) (F (w + 1) 0)) 0 (F (w + 1) 0))) (w + 1) (cp (u (tbk (F (s + 2 + i)) (F (w + 1)) (F (w + 1) 0)) 0 (F (w + 1) 0)) (F (w + 1)) 0 0 141)) G) := by
    apply down
    · rw [E_World_takeBack_11 x 1 (by omega)]
      simp (disch := omega) only [lit_0, lit_1, lit_2, lit_3, lit_4, lit_5, lit_6, lit_7, lit_8, lit_9, lit_10, lit_11, lit_12, lit_13, lit_14, lit_15, lit_16, lit_17, lit_18, lit_19, lit_20, lit_21, lit_22, lit_23, lit_24, lit_25, lit_26, lit_27, lit_28, lit_29, lit_30, lit_31, lit_32, lit_33, lit_34, lit_35, lit_36, lit_37, lit_38, lit_39, lit_40, lit_41, lit_42, lit_43, lit_44, lit_45, lit_46, lit_47, lit_48, lit_49, lit_50, lit_51, lit_52, lit_53, lit_54, lit_55, lit_56, lit_57, lit_58, lit_59, lit_60, lit_61, lit_62, lit_63, lit_64, lit_65, lit_67, lit_70, lit_71, lit_73, lit_75, lit_78, lit_84, lit_85, lit_86, lit_87, lit_89, lit_90, lit_91, lit_95, lit_96, lit_97, lit_98, lit_99, lit_100, lit_101, lit_102, lit_103, lit_104, lit_105, lit_107, lit_108, lit_109, lit_110, lit_111, lit_112, lit_114, lit_115, lit_116, lit_117, lit_119, lit_121, lit_122, lit_126, lit_127, lit_128, lit_130, lit_134, lit_137, lit_139, lit_140, lit_141, lit_145, lit_152, lit_159, lit_160, lit_168, lit_174, lit_180, lit_183, lit_192, lit_199, lit_236, lit_251, lit_255, lit_272, lit_284, lit_300, lit_330, lit_373, lit_753, lit_800, lit_896, lit_900, lit_1000, lit_1001, lit_1002, lit_1003, lit_1079, lit_1276, lit_1330, lit_1450, lit_3012, lit_3016, lit_3300, lit_8430, lit_9999, lit_10000, lit_11730, lit_30467, lit_65536, lit_99999, lit_100000, lit_1000000, lit_252645135, lit_858993459, lit_1000000000, lit_1431655765, jI_lt, jI_le, jI_eq]
      rw [if_neg (by omega), if_pos (by omega)]
      simp (disch := omega) only [lit_0, lit_1, lit_2, lit_3, lit_4, lit_5, lit_6, lit_7, lit_8, lit_9, lit_10, lit_11, lit_12, lit_13, lit_14, lit_15, lit_16, lit_17, lit_18, lit_19, lit_20, lit_21, lit_22, lit_23, lit_24, lit_25, lit_26, lit_27, lit_28, lit_29, lit_30, lit_31, lit_32, lit_33, lit_34, lit_35, lit_36, lit_37, lit_38, lit_39, lit_40, lit_41, lit_42, lit_43, lit_44, lit_45, lit_46, lit_47, lit_48, lit_49, lit_50, lit_51, lit_52, lit_53, lit_54, lit_55, lit_56, lit_57, lit_58, lit_59, lit_60, lit_61, lit_62, lit_63, lit_64, lit_65, lit_67, lit_70, lit_71, lit_73, lit_75, lit_78, lit_84, lit_85, lit_86, lit_87, lit_89, lit_90, lit_91, lit_95, lit_96, lit_97, lit_98, lit_99, lit_100, lit_101, lit_102, lit_103, lit_104, lit_105, lit_107, lit_108, lit_109, lit_110, lit_111, lit_112, lit_114, lit_115, lit_116, lit_117, lit_119, lit_121, lit_122, lit_126, lit_127, lit_128, lit_130, lit_134, lit_137, lit_139, lit_140, lit_141, lit_145, lit_152, lit_159, lit_160, lit_168, lit_174, lit_180, lit_183, lit_192, lit_199, lit_236, lit_251, lit_255, lit_272, lit_284, lit_300, lit_330, lit_373, lit_753, lit_800, lit_896, lit_900, lit_1000, lit_1001, lit_1002, lit_1003, lit_1079, lit_1276, lit_1330, lit_1450, lit_3012, lit_3016, lit_3300, lit_8430, lit_9999, lit_10000, lit_11730, lit_30467, lit_65536, lit_99999, lit_100000, lit_1000000, lit_252645135, lit_858993459, lit_1000000000, lit_1431655765, isO_W, fR_W_0, ia_W, is_W, b_I, b_L, b_V, b_R, b_N, b_N0, Option.bind_some, ↓reduceIte, bq0, bq1, bz0, bz1, ite_not, Classical.not_not, his, sA_eq, sA_sA]
      rw [mk_cpy (n := 141) (m := 141) _ G (by omega) (by omega) (shp_S hs hi) (shp_W hw) (by omega) (by omega) (by omega) (by omega) (by omega) (by omega) (by omega)]
      simp only [Option.bind_some, sA_eq, sA_ne _ _ hne]
    · intro p hp0 hp1 ih
      rw [E_World_takeBack_11 x 1 (by omega)]
      simp (disch := omega) only [lit_0, lit_1, lit_2, lit_3, lit_4, lit_5, lit_6, lit_7, lit_8, lit_9, lit_10, lit_11, lit_12, lit_13, lit_14, lit_15, lit_16, lit_17, lit_18, lit_19, lit_20, lit_21, lit_22, lit_23, lit_24, lit_25, lit_26, lit_27, lit_28, lit_29, lit_30, lit_31, lit_32, lit_33, lit_34, lit_35, lit_36, lit_37, lit_38, lit_39, lit_40, lit_41, lit_42, lit_43, lit_44, lit_45, lit_46, lit_47, lit_48, lit_49, lit_50, lit_51, lit_52, lit_53, lit_54, lit_55, lit_56, lit_57, lit_58, lit_59, lit_60, lit_61, lit_62, lit_63, lit_64, lit_65, lit_67, lit_70, lit_71, lit_73, lit_75, lit_78, lit_84, lit_85, lit_86, lit_87, lit_89, lit_90, lit_91, lit_95, lit_96, lit_97, lit_98, lit_99, lit_100, lit_101, lit_102, lit_103, lit_104, lit_105, lit_107, lit_108, lit_109, lit_110, lit_111, lit_112, lit_114, lit_115, lit_116, lit_117, lit_119, lit_121, lit_122, lit_126, lit_127, lit_128, lit_130, lit_134, lit_137, lit_139, lit_140, lit_141, lit_145, lit_152, lit_159, lit_160, lit_168, lit_174, lit_180, lit_183, lit_192, lit_199, lit_236, lit_251, lit_255, lit_272, lit_284, lit_300, lit_330, lit_373, lit_753, lit_800, lit_896, lit_900, lit_1000, lit_1001, lit_1002, lit_1003, lit_1079, lit_1276, lit_1330, lit_1450, lit_3012, lit_3016, lit_3300, lit_8430, lit_9999, lit_10000, lit_11730, lit_30467, lit_65536, lit_99999, lit_100000, lit_1000000, lit_252645135, lit_858993459, lit_1000000000, lit_1431655765, jI_lt, jI_le, jI_eq]
      rw [if_neg (by omega), if_neg (by omega), if_neg (by omega)]
      simp (disch := omega) only [lit_0, lit_1, lit_2, lit_3, lit_4, lit_5, lit_6, lit_7, lit_8, lit_9, lit_10, lit_11, lit_12, lit_13, lit_14, lit_15, lit_16, lit_17, lit_18, lit_19, lit_20, lit_21, lit_22, lit_23, lit_24, lit_25, lit_26, lit_27, lit_28, lit_29, lit_30, lit_31, lit_32, lit_33, lit_34, lit_35, lit_36, lit_37, lit_38, lit_39, lit_40, lit_41, lit_42, lit_43, lit_44, lit_45, lit_46, lit_47, lit_48, lit_49, lit_50, lit_51, lit_52, lit_53, lit_54, lit_55, lit_56, lit_57, lit_58, lit_59, lit_60, lit_61, lit_62, lit_63, lit_64, lit_65, lit_67, lit_70, lit_71, lit_73, lit_75, lit_78, lit_84, lit_85, lit_86, lit_87, lit_89, lit_90, lit_91, lit_95, lit_96, lit_97, lit_98, lit_99, lit_100, lit_101, lit_102, lit_103, lit_104, lit_105, lit_107, lit_108, lit_109, lit_110, lit_111, lit_112, lit_114, lit_115, lit_116, lit_117, lit_119, lit_121, lit_122, lit_126, lit_127, lit_128, lit_130, lit_134, lit_137, lit_139, lit_140, lit_141, lit_145, lit_152, lit_159, lit_160, lit_168, lit_174, lit_180, lit_183, lit_192, lit_199, lit_236, lit_251, lit_255, lit_272, lit_284, lit_300, lit_330, lit_373, lit_753, lit_800, lit_896, lit_900, lit_1000, lit_1001, lit_1002, lit_1003, lit_1079, lit_1276, lit_1330, lit_1450, lit_3012, lit_3016, lit_3300, lit_8430, lit_9999, lit_10000, lit_11730, lit_30467, lit_65536, lit_99999, lit_100000, lit_1000000, lit_252645135, lit_858993459, lit_1000000000, lit_1431655765, jI_add, jI_sub, jI_mul, jI_neg, isO_W, fR_W_0, ia_W, is_W, b_I, b_L, b_V, b_R, b_N, b_N0, Option.bind_some, ↓reduceIte, bq0, bq1, bz0, bz1, ite_not, Classical.not_not, his, hia, sA_eq, sA_sA, sA_ne _ _ hne]
      rw [tbk_s _ _ hp0 h0 (by omega)]
      exact ih
  have e0 : tbk (F (s + 2 + i)) (F (w + 1)) (F (s + 2 + i) 0) = F (s + 2 + i) := by
    funext k
    unfold tbk
    rw [if_neg (by omega)]
  have k0 := key _ (Int.le_refl _) h1
  rw [e0, sA_self] at k0
  rw [E_World_takeBack]
  simp (disch := omega) only [lit_0, lit_1, lit_2, lit_3, lit_4, lit_5, lit_6, lit_7, lit_8, lit_9, lit_10, lit_11, lit_12, lit_13, lit_14, lit_15, lit_16, lit_17, lit_18, lit_19, lit_20, lit_21, lit_22, lit_23, lit_24, lit_25, lit_26, lit_27, lit_28, lit_29, lit_30, lit_31, lit_32, lit_33, lit_34, lit_35, lit_36, lit_37, lit_38, lit_39, lit_40, lit_41, lit_42, lit_43, lit_44, lit_45, lit_46, lit_47, lit_48, lit_49, lit_50, lit_51, lit_52, lit_53, lit_54, lit_55, lit_56, lit_57, lit_58, lit_59, lit_60, lit_61, lit_62, lit_63, lit_64, lit_65, lit_67, lit_70, lit_71, lit_73, lit_75, lit_78, lit_84, lit_85, lit_86, lit_87, lit_89, lit_90, lit_91, lit_95, lit_96, lit_97, lit_98, lit_99, lit_100, lit_101, lit_102, lit_103, lit_104, lit_105, lit_107, lit_108, lit_109, lit_110, lit_111, lit_112, lit_114, lit_115, lit_116, lit_117, lit_119, lit_121, lit_122, lit_126, lit_127, lit_128, lit_130, lit_134, lit_137, lit_139, lit_140, lit_141, lit_145, lit_152, lit_159, lit_160, lit_168, lit_174, lit_180, lit_183, lit_192, lit_199, lit_236, lit_251, lit_255, lit_272, lit_284, lit_300, lit_330, lit_373, lit_753, lit_800, lit_896, lit_900, lit_1000, lit_1001, lit_1002, lit_1003, lit_1079, lit_1276, lit_1330, lit_1450, lit_3012, lit_3016, lit_3300, lit_8430, lit_9999, lit_10000, lit_11730, lit_30467, lit_65536, lit_99999, lit_100000, lit_1000000, lit_252645135, lit_858993459, lit_1000000000, lit_1431655765, isO_W, fR_W_0, ia_W, is_W, b_I, b_L, b_V, b_R, b_N, b_N0, Option.bind_some, ↓reduceIte, bq0, bq1, bz0, bz1, ite_not, Classical.not_not, hia]
  exact k0
theorem C_takeBackS {s w : Nat} (hs : s = 3 ∨ s = 53) (hw : w = 1 ∨ w = 51 ∨ w = 101) (h1 : 0 ≤ F s 1) (h2 : F s 1 ≤ 30) (h3 : 1 ≤ F s 2) (h4 : F s 2 ≤ 30) (h5 : 0 ≤ F (s + 2 + ((F s 1 + (F s 2 - 1)) % 31).toNat) 0) (h6 : F (s + 2 + ((F s 1 + (F s 2 - 1)) % 31).toNat) 0 ≤ F (w + 1) 0) (h7 : F (w + 1) 0 ≤ 7) : m_M x k_Steps_takeBack [.ref s, .ref w] (mk F G) = some (some (.int (jI 1)), mk (sA (sA (sA F s (u (F s) 2 (F s 2 - 1))) (s + 2 + ((F s 1 + (F s 2 - 1)) % 31).toNat) (u (tbk (F (s + 2 + ((F s 1 + (F s 2 - 1)) % 31).toNat)) (F (w + 1)) (F (w + 1) 0)) 0 (F (w + 1) 0))) (w + 1) (cp (u (tbk (F (s + 2 + ((F s 1 + (F s 2 - 1)) % 31).toNat)) (F (w + 1)) (F (w + 1) 0)) 0 (F (w + 1) 0)) (F (w + 1)) 0 0 141)) G) := by
  have e1 : sA F s (u (F s) 2 (F s 2 - 1)) (s + 2 + ((F s 1 + (F s 2 - 1)) % 31).toNat) = F (s + 2 + ((F s 1 + (F s 2 - 1)) % 31).toNat) := sA_ne _ _ (by omega)
  have e2 : sA F s (u (F s) 2 (F s 2 - 1)) (w + 1) = F (w + 1) := sA_ne _ _ (by omega)
  rw [E_Steps_takeBack]
  simp (disch := omega) only [lit_0, lit_1, lit_2, lit_3, lit_4, lit_5, lit_6, lit_7, lit_8, lit_9, lit_10, lit_11, lit_12, lit_13, lit_14, lit_15, lit_16, lit_17, lit_18, lit_19, lit_20, lit_21, lit_22, lit_23, lit_24, lit_25, lit_26, lit_27, lit_28, lit_29, lit_30, lit_31, lit_32, lit_33, lit_34, lit_35, lit_36, lit_37, lit_38, lit_39, lit_40, lit_41, lit_42, lit_43, lit_44, lit_45, lit_46, lit_47, lit_48, lit_49, lit_50, lit_51, lit_52, lit_53, lit_54, lit_55, lit_56, lit_57, lit_58, lit_59, lit_60, lit_61, lit_62, lit_63, lit_64, lit_65, lit_67, lit_70, lit_71, lit_73, lit_75, lit_78, lit_84, lit_85, lit_86, lit_87, lit_89, lit_90, lit_91, lit_95, lit_96, lit_97, lit_98, lit_99, lit_100, lit_101, lit_102, lit_103, lit_104, lit_105, lit_107, lit_108, lit_109, lit_110, lit_111, lit_112, lit_114, lit_115, lit_116, lit_117, lit_119, lit_121, lit_122, lit_126, lit_127, lit_128, lit_130, lit_134, lit_137, lit_139, lit_140, lit_141, lit_145, lit_152, lit_159, lit_160, lit_168, lit_174, lit_180, lit_183, lit_192, lit_199, lit_236, lit_251, lit_255, lit_272, lit_284, lit_300, lit_330, lit_373, lit_753, lit_800, lit_896, lit_900, lit_1000, lit_1001, lit_1002, lit_1003, lit_1079, lit_1276, lit_1330, lit_1450, lit_3012, lit_3016, lit_3300, lit_8430, lit_9999, lit_10000, lit_11730, lit_30467, lit_65536, lit_99999, lit_100000, lit_1000000, lit_252645135, lit_858993459, lit_1000000000, lit_1431655765, jI_add, jI_sub, jI_mul, jI_neg, jI_lt, jI_le, jI_eq, isO_S, fR_S_0, fI_S_1, fI_S_2, pf_S_1, pf_S_2, aa_S, b_I, b_L, b_V, b_R, b_N, b_N0, Option.bind_some, ↓reduceIte, bq0, bq1, bz0, bz1, ite_not, Classical.not_not]
  rw [if_pos (by omega)]
  simp (disch := omega) only [lit_0, lit_1, lit_2, lit_3, lit_4, lit_5, lit_6, lit_7, lit_8, lit_9, lit_10, lit_11, lit_12, lit_13, lit_14, lit_15, lit_16, lit_17, lit_18, lit_19, lit_20, lit_21, lit_22, lit_23, lit_24, lit_25, lit_26, lit_27, lit_28, lit_29, lit_30, lit_31, lit_32, lit_33, lit_34, lit_35, lit_36, lit_37, lit_38, lit_39, lit_40, lit_41, lit_42, lit_43, lit_44, lit_45, lit_46, lit_47, lit_48, lit_49, lit_50, lit_51, lit_52, lit_53, lit_54, lit_55, lit_56, lit_57, lit_58, lit_59, lit_60, lit_61, lit_62, lit_63, lit_64, lit_65, lit_67, lit_70, lit_71, lit_73, lit_75, lit_78, lit_84, lit_85, lit_86, lit_87, lit_89, lit_90, lit_91, lit_95, lit_96, lit_97, lit_98, lit_99, lit_100, lit_101, lit_102, lit_103, lit_104, lit_105, lit_107, lit_108, lit_109, lit_110, lit_111, lit_112, lit_114, lit_115, lit_116, lit_117, lit_119, lit_121, lit_122, lit_126, lit_127, lit_128, lit_130, lit_134, lit_137, lit_139, lit_140, lit_141, lit_145, lit_152, lit_159, lit_160, lit_168, lit_174, lit_180, lit_183, lit_192, lit_199, lit_236, lit_251, lit_255, lit_272, lit_284, lit_300, lit_330, lit_373, lit_753, lit_800, lit_896, lit_900, lit_1000, lit_1001, lit_1002, lit_1003, lit_1079, lit_1276, lit_1330, lit_1450, lit_3012, lit_3016, lit_3300, lit_8430, lit_9999, lit_10000, lit_11730, lit_30467, lit_65536, lit_99999, lit_100000, lit_1000000, lit_252645135, lit_858993459, lit_1000000000, lit_1431655765, jI_add, jI_sub, jI_mul, jI_neg, isO_S, fR_S_0, fI_S_1, fI_S_2, pf_S_1, pf_S_2, aa_S, b_I, b_L, b_V, b_R, b_N, b_N0, Option.bind_some, ↓reduceIte, bq0, bq1, bz0, bz1, ite_not, Classical.not_not, sA_eq, u_eq, u_ne, C_floorMod]
  rw [C_takeBackW x _ G hs (by omega) hw (by rw [e1]; exact h5) (by rw [e1, e2]; exact h6) (by rw [e2]; exact h7)]
  simp only [e1, e2, b_V]
theorem C_takeOverS {s r : Nat} (hs : s = 3 ∧ r = 53 ∨ s = 53 ∧ r = 3) : ∃ F', m_M x k_Steps_takeOver [.ref s, .ref r] (mk F G) = some (none, mk F' G) ∧ (∀ i : Nat, i < 31 → F' (s + 2 + i) = cp (F (r + 2 + i)) (F (s + 2 + i)) 0 0 141) ∧ F' s = u (u (F s) 1 (F r 1)) 2 (F r 2) ∧ (∀ b, ¬ b = s → (∀ i : Nat, i < 31 → ¬ b = s + 2 + i) → F' b = F b) := by
  have hs1 : s = 3 ∨ s = 53 := by omega
  have hr1 : r = 3 ∨ r = 53 := by omega
  have key : ∀ n : Int, 0 ≤ n → n ≤ 31 → ∀ F1 : Nat → Fn, (∀ i : Nat, (i : Int) < n → F1 (s + 2 + i) = cp (F (r + 2 + i)) (F (s + 2 + i)) 0 0 141) → (∀ i : Nat, n ≤ (i : Int) → F1 (s + 2 + i) = F (s + 2 + i)) → (∀ b, (∀ i : Nat, i < 31 → ¬ b = s + 2 + i) → F1 b = F b) → ∃ F', m_D x 1 k_Steps_takeOver 2 [some (.ref s), some (.ref r), some (.int (jI n))] [] (mk F1 G) = some (none, mk F' G) ∧ (∀ i : Nat, i < 31 → F' (s + 2 + i) = cp (F (r + 2 + i)) (F (s + 2 + i)) 0 0 141) ∧ F' s = u (u (F s) 1 (F r 1)) 2 (F r 2) ∧ (∀ b, ¬ b = s → (∀ i : Nat, i < 31 → ¬ b = s + 2 + i) → F' b = F b) := by
    apply down
    · intro F1 h1 h2 h3
      have es : F1 s = F s := h3 s (by intro i hi; omega)
      have er : F1 r = F r := h3 r (by intro i hi; omega)
      rw [E_Steps_takeOver_2 x 1 (by omega)]
      simp (disch := omega) only [lit_0, lit_1, lit_2, lit_3, lit_4, lit_5, lit_6, lit_7, lit_8, lit_9, lit_10, lit_11, lit_12, lit_13, lit_14, lit_15, lit_16, lit_17, lit_18, lit_19, lit_20, lit_21, lit_22, lit_23, lit_24, lit_25, lit_26, lit_27, lit_28, lit_29, lit_30, lit_31, lit_32, lit_33, lit_34, lit_35, lit_36, lit_37, lit_38, lit_39, lit_40, lit_41, lit_42, lit_43, lit_44, lit_45, lit_46, lit_47, lit_48, lit_49, lit_50, lit_51, lit_52, lit_53, lit_54, lit_55, lit_56, lit_57, lit_58, lit_59, lit_60, lit_61, lit_62, lit_63, lit_64, lit_65, lit_67, lit_70, lit_71, lit_73, lit_75, lit_78, lit_84, lit_85, lit_86, lit_87, lit_89, lit_90, lit_91, lit_95, lit_96, lit_97, lit_98, lit_99, lit_100, lit_101, lit_102, lit_103, lit_104, lit_105, lit_107, lit_108, lit_109, lit_110, lit_111, lit_112, lit_114, lit_115, lit_116, lit_117, lit_119, lit_121, lit_122, lit_126, lit_127, lit_128, lit_130, lit_134, lit_137, lit_139, lit_140, lit_141, lit_145, lit_152, lit_159, lit_160, lit_168, lit_174, lit_180, lit_183, lit_192, lit_199, lit_236, lit_251, lit_255, lit_272, lit_284, lit_300, lit_330, lit_373, lit_753, lit_800, lit_896, lit_900, lit_1000, lit_1001, lit_1002, lit_1003, lit_1079, lit_1276, lit_1330, lit_1450, lit_3012, lit_3016, lit_3300, lit_8430, lit_9999, lit_10000, lit_11730, lit_30467, lit_65536, lit_99999, lit_100000, lit_1000000, lit_252645135, lit_858993459, lit_1000000000, lit_1431655765, jI_lt, jI_le, jI_eq]
      rw [if_pos (by omega)]
      simp (disch := omega) only [lit_0, lit_1, lit_2, lit_3, lit_4, lit_5, lit_6, lit_7, lit_8, lit_9, lit_10, lit_11, lit_12, lit_13, lit_14, lit_15, lit_16, lit_17, lit_18, lit_19, lit_20, lit_21, lit_22, lit_23, lit_24, lit_25, lit_26, lit_27, lit_28, lit_29, lit_30, lit_31, lit_32, lit_33, lit_34, lit_35, lit_36, lit_37, lit_38, lit_39, lit_40, lit_41, lit_42, lit_43, lit_44, lit_45, lit_46, lit_47, lit_48, lit_49, lit_50, lit_51, lit_52, lit_53, lit_54, lit_55, lit_56, lit_57, lit_58, lit_59, lit_60, lit_61, lit_62, lit_63, lit_64, lit_65, lit_67, lit_70, lit_71, lit_73, lit_75, lit_78, lit_84, lit_85, lit_86, lit_87, lit_89, lit_90, lit_91, lit_95, lit_96, lit_97, lit_98, lit_99, lit_100, lit_101, lit_102, lit_103, lit_104, lit_105, lit_107, lit_108, lit_109, lit_110, lit_111, lit_112, lit_114, lit_115, lit_116, lit_117, lit_119, lit_121, lit_122, lit_126, lit_127, lit_128, lit_130, lit_134, lit_137, lit_139, lit_140, lit_141, lit_145, lit_152, lit_159, lit_160, lit_168, lit_174, lit_180, lit_183, lit_192, lit_199, lit_236, lit_251, lit_255, lit_272, lit_284, lit_300, lit_330, lit_373, lit_753, lit_800, lit_896, lit_900, lit_1000, lit_1001, lit_1002, lit_1003, lit_1079, lit_1276, lit_1330, lit_1450, lit_3012, lit_3016, lit_3300, lit_8430, lit_9999, lit_10000, lit_11730, lit_30467, lit_65536, lit_99999, lit_100000, lit_1000000, lit_252645135, lit_858993459, lit_1000000000, lit_1431655765, isO_S, fR_S_0, fI_S_1, fI_S_2, pf_S_1, pf_S_2, aa_S, b_I, b_L, b_V, b_R, b_N, b_N0, Option.bind_some, ↓reduceIte, bq0, bq1, bz0, bz1, ite_not, Classical.not_not, sA_eq, sA_sA, sA_ne]
      refine ⟨_, rfl, ?_, ?_, ?_⟩
      · intro i hi
        rw [sA_ne _ _ (by omega)]
        exact h1 i (by omega)
      · rw [sA_eq, es, er]
      · intro b hb hb2
        rw [sA_ne _ _ hb]
        exact h3 b hb2
    · intro n h0 hn ih F1 h1 h2 h3
      rw [E_Steps_takeOver_2 x 1 (by omega)]
      simp (disch := omega) only [lit_0, lit_1, lit_2, lit_3, lit_4, lit_5, lit_6, lit_7, lit_8, lit_9, lit_10, lit_11, lit_12, lit_13, lit_14, lit_15, lit_16, lit_17, lit_18, lit_19, lit_20, lit_21, lit_22, lit_23, lit_24, lit_25, lit_26, lit_27, lit_28, lit_29, lit_30, lit_31, lit_32, lit_33, lit_34, lit_35, lit_36, lit_37, lit_38, lit_39, lit_40, lit_41, lit_42, lit_43, lit_44, lit_45, lit_46, lit_47, lit_48, lit_49, lit_50, lit_51, lit_52, lit_53, lit_54, lit_55, lit_56, lit_57, lit_58, lit_59, lit_60, lit_61, lit_62, lit_63, lit_64, lit_65, lit_67, lit_70, lit_71, lit_73, lit_75, lit_78, lit_84, lit_85, lit_86, lit_87, lit_89, lit_90, lit_91, lit_95, lit_96, lit_97, lit_98, lit_99, lit_100, lit_101, lit_102, lit_103, lit_104, lit_105, lit_107, lit_108, lit_109, lit_110, lit_111, lit_112, lit_114, lit_115, lit_116, lit_117, lit_119, lit_121, lit_122, lit_126, lit_127, lit_128, lit_130, lit_134, lit_137, lit_139, lit_140, lit_141, lit_145, lit_152, lit_159, lit_160, lit_168, lit_174, lit_180, lit_183, lit_192, lit_199, lit_236, lit_251, lit_255, lit_272, lit_284, lit_300, lit_330, lit_373, lit_753, lit_800, lit_896, lit_900, lit_1000, lit_1001, lit_1002, lit_1003, lit_1079, lit_1276, lit_1330, lit_1450, lit_3012, lit_3016, lit_3300, lit_8430, lit_9999, lit_10000, lit_11730, lit_30467, lit_65536, lit_99999, lit_100000, lit_1000000, lit_252645135, lit_858993459, lit_1000000000, lit_1431655765, jI_add, jI_sub, jI_mul, jI_neg, jI_lt, jI_le, jI_eq]
      rw [if_neg (by omega)]
      simp (disch := omega) only [lit_0, lit_1, lit_2, lit_3, lit_4, lit_5, lit_6, lit_7, lit_8, lit_9, lit_10, lit_11, lit_12, lit_13, lit_14, lit_15, lit_16, lit_17, lit_18, lit_19, lit_20, lit_21, lit_22, lit_23, lit_24, lit_25, lit_26, lit_27, lit_28, lit_29, lit_30, lit_31, lit_32, lit_33, lit_34, lit_35, lit_36, lit_37, lit_38, lit_39, lit_40, lit_41, lit_42, lit_43, lit_44, lit_45, lit_46, lit_47, lit_48, lit_49, lit_50, lit_51, lit_52, lit_53, lit_54, lit_55, lit_56, lit_57, lit_58, lit_59, lit_60, lit_61, lit_62, lit_63, lit_64, lit_65, lit_67, lit_70, lit_71, lit_73, lit_75, lit_78, lit_84, lit_85, lit_86, lit_87, lit_89, lit_90, lit_91, lit_95, lit_96, lit_97, lit_98, lit_99, lit_100, lit_101, lit_102, lit_103, lit_104, lit_105, lit_107, lit_108, lit_109, lit_110, lit_111, lit_112, lit_114, lit_115, lit_116, lit_117, lit_119, lit_121, lit_122, lit_126, lit_127, lit_128, lit_130, lit_134, lit_137, lit_139, lit_140, lit_141, lit_145, lit_152, lit_159, lit_160, lit_168, lit_174, lit_180, lit_183, lit_192, lit_199, lit_236, lit_251, lit_255, lit_272, lit_284, lit_300, lit_330, lit_373, lit_753, lit_800, lit_896, lit_900, lit_1000, lit_1001, lit_1002, lit_1003, lit_1079, lit_1276, lit_1330, lit_1450, lit_3012, lit_3016, lit_3300, lit_8430, lit_9999, lit_10000, lit_11730, lit_30467, lit_65536, lit_99999, lit_100000, lit_1000000, lit_252645135, lit_858993459, lit_1000000000, lit_1431655765, isO_S, fR_S_0, fI_S_1, fI_S_2, pf_S_1, pf_S_2, aa_S, b_I, b_L, b_V, b_R, b_N, b_N0, Option.bind_some, ↓reduceIte, bq0, bq1, bz0, bz1, ite_not, Classical.not_not]
      have en : n.toNat < 31 := by omega
      rw [mk_cpy (n := 141) (m := 141) F1 G (by omega) (by omega) (shp_S hr1 en) (shp_S hs1 en) (by omega) (by omega) (by omega) (by omega) (by omega) (by omega) (by omega)]
      have e1 : F1 (s + 2 + n.toNat) = F (s + 2 + n.toNat) := h2 _ (by omega)
      have e2 : F1 (r + 2 + n.toNat) = F (r + 2 + n.toNat) := h3 _ (by intro i hi; omega)
      rw [Option.bind_some, e1, e2]
      apply ih
      · intro i hi
        by_cases e : i = n.toNat
        · rw [e, sA_eq]
        · rw [sA_ne _ _ (by omega)]
          exact h1 i (by omega)
      · intro i hi
        rw [sA_ne _ _ (by omega)]
        exact h2 i (by omega)
      · intro b hb
        rw [sA_ne _ _ (hb _ en)]
        exact h3 b hb
  obtain ⟨F', e, h⟩ := key 0 (by omega) (by omega) F (by intro i hi; omega) (by intro i hi; rfl) (by intro b hb; rfl)
  refine ⟨F', ?_, h⟩
  rw [E_Steps_takeOver]
  simp (disch := omega) only [lit_0, lit_1, lit_2, lit_3, lit_4, lit_5, lit_6, lit_7, lit_8, lit_9, lit_10, lit_11, lit_12, lit_13, lit_14, lit_15, lit_16, lit_17, lit_18, lit_19, lit_20, lit_21, lit_22, lit_23, lit_24, lit_25, lit_26, lit_27, lit_28, lit_29, lit_30, lit_31, lit_32, lit_33, lit_34, lit_35, lit_36, lit_37, lit_38, lit_39, lit_40, lit_41, lit_42, lit_43, lit_44, lit_45, lit_46, lit_47, lit_48, lit_49, lit_50, lit_51, lit_52, lit_53, lit_54, lit_55, lit_56, lit_57, lit_58, lit_59, lit_60, lit_61, lit_62, lit_63, lit_64, lit_65, lit_67, lit_70, lit_71, lit_73, lit_75, lit_78, lit_84, lit_85, lit_86, lit_87, lit_89, lit_90, lit_91, lit_95, lit_96, lit_97, lit_98, lit_99, lit_100, lit_101, lit_102, lit_103, lit_104, lit_105, lit_107, lit_108, lit_109, lit_110, lit_111, lit_112, lit_114, lit_115, lit_116, lit_117, lit_119, lit_121, lit_122, lit_126, lit_127, lit_128, lit_130, lit_134, lit_137, lit_139, lit_140, lit_141, lit_145, lit_152, lit_159, lit_160, lit_168, lit_174, lit_180, lit_183, lit_192, lit_199, lit_236, lit_251, lit_255, lit_272, lit_284, lit_300, lit_330, lit_373, lit_753, lit_800, lit_896, lit_900, lit_1000, lit_1001, lit_1002, lit_1003, lit_1079, lit_1276, lit_1330, lit_1450, lit_3012, lit_3016, lit_3300, lit_8430, lit_9999, lit_10000, lit_11730, lit_30467, lit_65536, lit_99999, lit_100000, lit_1000000, lit_252645135, lit_858993459, lit_1000000000, lit_1431655765, isO_S, fR_S_0, fI_S_1, fI_S_2, pf_S_1, pf_S_2, aa_S, b_I, b_L, b_V, b_R, b_N, b_N0, Option.bind_some, ↓reduceIte, bq0, bq1, bz0, bz1, ite_not, Classical.not_not]
  exact e
theorem C_itemAt {w : Nat} {i : Int} (hw : w = 37 ∨ w = 39 ∨ w = 41 ∨ w = 43 ∨ w = 45 ∨ w = 47 ∨ w = 49 ∨ w = 87 ∨ w = 89 ∨ w = 91 ∨ w = 93 ∨ w = 95 ∨ w = 97 ∨ w = 99 ∨ w = 142) (h0 : 0 ≤ i) (h1 : i < rL w) : m_M x k_Row_itemAt [.ref w, .int (jI i)] (mk F G) = some (some (.int (jI (F (w + 1) i))), mk F G) := by
  have hl := rL_le w
  rw [E_Row_itemAt, isO_R F G hw, if_pos rfl, fR_R_0 F G hw, Option.bind_some, mk_len x F G (R_lt hw) (shp_R hw) (by omega), Option.bind_some, Option.bind_some, mk_ia (n := rL w) x F G (R_lt hw) (shp_R hw) (by omega) h0 h1, Option.bind_some]
  simp (disch := omega) only [lit_0, lit_1, lit_2, lit_3, lit_4, lit_5, lit_6, lit_7, lit_8, lit_9, lit_10, lit_11, lit_12, lit_13, lit_14, lit_15, lit_16, lit_17, lit_18, lit_19, lit_20, lit_21, lit_22, lit_23, lit_24, lit_25, lit_26, lit_27, lit_28, lit_29, lit_30, lit_31, lit_32, lit_33, lit_34, lit_35, lit_36, lit_37, lit_38, lit_39, lit_40, lit_41, lit_42, lit_43, lit_44, lit_45, lit_46, lit_47, lit_48, lit_49, lit_50, lit_51, lit_52, lit_53, lit_54, lit_55, lit_56, lit_57, lit_58, lit_59, lit_60, lit_61, lit_62, lit_63, lit_64, lit_65, lit_67, lit_70, lit_71, lit_73, lit_75, lit_78, lit_84, lit_85, lit_86, lit_87, lit_89, lit_90, lit_91, lit_95, lit_96, lit_97, lit_98, lit_99, lit_100, lit_101, lit_102, lit_103, lit_104, lit_105, lit_107, lit_108, lit_109, lit_110, lit_111, lit_112, lit_114, lit_115, lit_116, lit_117, lit_119, lit_121, lit_122, lit_126, lit_127, lit_128, lit_130, lit_134, lit_137, lit_139, lit_140, lit_141, lit_145, lit_152, lit_159, lit_160, lit_168, lit_174, lit_180, lit_183, lit_192, lit_199, lit_236, lit_251, lit_255, lit_272, lit_284, lit_300, lit_330, lit_373, lit_753, lit_800, lit_896, lit_900, lit_1000, lit_1001, lit_1002, lit_1003, lit_1079, lit_1276, lit_1330, lit_1450, lit_3012, lit_3016, lit_3300, lit_8430, lit_9999, lit_10000, lit_11730, lit_30467, lit_65536, lit_99999, lit_100000, lit_1000000, lit_252645135, lit_858993459, lit_1000000000, lit_1431655765, jI_lt, jI_le, jI_eq]
  rw [if_neg (by omega), if_neg (by omega)]
theorem C_rowChange {w : Nat} {i v : Int} (hw : w = 37 ∨ w = 39 ∨ w = 41 ∨ w = 43 ∨ w = 45 ∨ w = 47 ∨ w = 49 ∨ w = 87 ∨ w = 89 ∨ w = 91 ∨ w = 93 ∨ w = 95 ∨ w = 97 ∨ w = 99 ∨ w = 142) (h0 : 0 ≤ i) (h1 : i < rL w) : m_M x k_Row_change [.ref w, .int (jI i), .int (jI v)] (mk F G) = some (none, mk (sA F (w + 1) (u (F (w + 1)) i v)) G) := by
  have hl := rL_le w
  rw [E_Row_change, isO_R F G hw, if_pos rfl, fR_R_0 F G hw, Option.bind_some, mk_len x F G (R_lt hw) (shp_R hw) (by omega), Option.bind_some, Option.bind_some, mk_is (n := rL w) F G v (R_lt hw) (shp_R hw) (by omega) h0 h1, Option.bind_some]
  simp (disch := omega) only [lit_0, lit_1, lit_2, lit_3, lit_4, lit_5, lit_6, lit_7, lit_8, lit_9, lit_10, lit_11, lit_12, lit_13, lit_14, lit_15, lit_16, lit_17, lit_18, lit_19, lit_20, lit_21, lit_22, lit_23, lit_24, lit_25, lit_26, lit_27, lit_28, lit_29, lit_30, lit_31, lit_32, lit_33, lit_34, lit_35, lit_36, lit_37, lit_38, lit_39, lit_40, lit_41, lit_42, lit_43, lit_44, lit_45, lit_46, lit_47, lit_48, lit_49, lit_50, lit_51, lit_52, lit_53, lit_54, lit_55, lit_56, lit_57, lit_58, lit_59, lit_60, lit_61, lit_62, lit_63, lit_64, lit_65, lit_67, lit_70, lit_71, lit_73, lit_75, lit_78, lit_84, lit_85, lit_86, lit_87, lit_89, lit_90, lit_91, lit_95, lit_96, lit_97, lit_98, lit_99, lit_100, lit_101, lit_102, lit_103, lit_104, lit_105, lit_107, lit_108, lit_109, lit_110, lit_111, lit_112, lit_114, lit_115, lit_116, lit_117, lit_119, lit_121, lit_122, lit_126, lit_127, lit_128, lit_130, lit_134, lit_137, lit_139, lit_140, lit_141, lit_145, lit_152, lit_159, lit_160, lit_168, lit_174, lit_180, lit_183, lit_192, lit_199, lit_236, lit_251, lit_255, lit_272, lit_284, lit_300, lit_330, lit_373, lit_753, lit_800, lit_896, lit_900, lit_1000, lit_1001, lit_1002, lit_1003, lit_1079, lit_1276, lit_1330, lit_1450, lit_3012, lit_3016, lit_3300, lit_8430, lit_9999, lit_10000, lit_11730, lit_30467, lit_65536, lit_99999, lit_100000, lit_1000000, lit_252645135, lit_858993459, lit_1000000000, lit_1431655765, jI_lt, jI_le, jI_eq]
  rw [if_neg (by omega), if_neg (by omega)]
theorem C_empty {w : Nat} (hw : w = 37 ∨ w = 39 ∨ w = 41 ∨ w = 43 ∨ w = 45 ∨ w = 47 ∨ w = 49 ∨ w = 87 ∨ w = 89 ∨ w = 91 ∨ w = 93 ∨ w = 95 ∨ w = 97 ∨ w = 99 ∨ w = 142) : m_M x k_Row_empty [.ref w] (mk F G) = some (none, mk (sA F w (u (F w) 1 0)) G) := by
  rw [E_Row_empty, isO_R F G hw, if_pos rfl]
  simp only [lit_0, lit_1, lit_2, lit_3, lit_4, lit_5, lit_6, lit_7, lit_8, lit_9, lit_10, lit_11, lit_12, lit_13, lit_14, lit_15, lit_16, lit_17, lit_18, lit_19, lit_20, lit_21, lit_22, lit_23, lit_24, lit_25, lit_26, lit_27, lit_28, lit_29, lit_30, lit_31, lit_32, lit_33, lit_34, lit_35, lit_36, lit_37, lit_38, lit_39, lit_40, lit_41, lit_42, lit_43, lit_44, lit_45, lit_46, lit_47, lit_48, lit_49, lit_50, lit_51, lit_52, lit_53, lit_54, lit_55, lit_56, lit_57, lit_58, lit_59, lit_60, lit_61, lit_62, lit_63, lit_64, lit_65, lit_67, lit_70, lit_71, lit_73, lit_75, lit_78, lit_84, lit_85, lit_86, lit_87, lit_89, lit_90, lit_91, lit_95, lit_96, lit_97, lit_98, lit_99, lit_100, lit_101, lit_102, lit_103, lit_104, lit_105, lit_107, lit_108, lit_109, lit_110, lit_111, lit_112, lit_114, lit_115, lit_116, lit_117, lit_119, lit_121, lit_122, lit_126, lit_127, lit_128, lit_130, lit_134, lit_137, lit_139, lit_140, lit_141, lit_145, lit_152, lit_159, lit_160, lit_168, lit_174, lit_180, lit_183, lit_192, lit_199, lit_236, lit_251, lit_255, lit_272, lit_284, lit_300, lit_330, lit_373, lit_753, lit_800, lit_896, lit_900, lit_1000, lit_1001, lit_1002, lit_1003, lit_1079, lit_1276, lit_1330, lit_1450, lit_3012, lit_3016, lit_3300, lit_8430, lit_9999, lit_10000, lit_11730, lit_30467, lit_65536, lit_99999, lit_100000, lit_1000000, lit_252645135, lit_858993459, lit_1000000000, lit_1431655765]
  rw [pf_R_1 F G 0 hw]
  rfl
theorem C_put {w : Nat} {v : Int} (hw : w = 37 ∨ w = 39 ∨ w = 41 ∨ w = 43 ∨ w = 45 ∨ w = 47 ∨ w = 49 ∨ w = 87 ∨ w = 89 ∨ w = 91 ∨ w = 93 ∨ w = 95 ∨ w = 97 ∨ w = 99 ∨ w = 142) (h0 : 0 ≤ F w 1) (h1 : F w 1 ≤ rL w) : m_M x k_Row_put [.ref w, .int (jI v)] (mk F G) = if F w 1 < rL w then some (some (.int (jI 1)), mk (sA (sA F (w + 1) (u (F (w + 1)) (F w 1) v)) w (u (F w) 1 (F w 1 + 1))) G) else some (some (.int (jI 0)), mk F G) := by
  have hl := rL_le w
  rw [E_Row_put, isO_R F G hw, if_pos rfl]
  rw [fI_R_1 F G hw, Option.bind_some, Option.bind_some, fR_R_0 F G hw, Option.bind_some, mk_len x F G (R_lt hw) (shp_R hw) (by omega), Option.bind_some]
  simp (disch := omega) only [lit_0, lit_1, lit_2, lit_3, lit_4, lit_5, lit_6, lit_7, lit_8, lit_9, lit_10, lit_11, lit_12, lit_13, lit_14, lit_15, lit_16, lit_17, lit_18, lit_19, lit_20, lit_21, lit_22, lit_23, lit_24, lit_25, lit_26, lit_27, lit_28, lit_29, lit_30, lit_31, lit_32, lit_33, lit_34, lit_35, lit_36, lit_37, lit_38, lit_39, lit_40, lit_41, lit_42, lit_43, lit_44, lit_45, lit_46, lit_47, lit_48, lit_49, lit_50, lit_51, lit_52, lit_53, lit_54, lit_55, lit_56, lit_57, lit_58, lit_59, lit_60, lit_61, lit_62, lit_63, lit_64, lit_65, lit_67, lit_70, lit_71, lit_73, lit_75, lit_78, lit_84, lit_85, lit_86, lit_87, lit_89, lit_90, lit_91, lit_95, lit_96, lit_97, lit_98, lit_99, lit_100, lit_101, lit_102, lit_103, lit_104, lit_105, lit_107, lit_108, lit_109, lit_110, lit_111, lit_112, lit_114, lit_115, lit_116, lit_117, lit_119, lit_121, lit_122, lit_126, lit_127, lit_128, lit_130, lit_134, lit_137, lit_139, lit_140, lit_141, lit_145, lit_152, lit_159, lit_160, lit_168, lit_174, lit_180, lit_183, lit_192, lit_199, lit_236, lit_251, lit_255, lit_272, lit_284, lit_300, lit_330, lit_373, lit_753, lit_800, lit_896, lit_900, lit_1000, lit_1001, lit_1002, lit_1003, lit_1079, lit_1276, lit_1330, lit_1450, lit_3012, lit_3016, lit_3300, lit_8430, lit_9999, lit_10000, lit_11730, lit_30467, lit_65536, lit_99999, lit_100000, lit_1000000, lit_252645135, lit_858993459, lit_1000000000, lit_1431655765, jI_lt, jI_le, jI_eq, Option.bind_some]
  rw [if_neg (by omega)]
  by_cases h : F w 1 < rL w
  · rw [if_pos h, if_pos h, mk_is (n := rL w) F G v (R_lt hw) (shp_R hw) (by omega) h0 h, Option.bind_some, fI_R_1 _ G hw, Option.bind_some, sA_ne _ _ (by omega), jI_add, pf_R_1 _ G _ hw, sA_ne _ _ (by omega)]
    rfl
  · rw [if_neg h, if_neg h]
/-- the heap with row w made like row r -/
def rowO (F : Nat → Fn) (w r : Nat) : Nat → Fn := sA (sA F (w + 1) (cp (F (r + 1)) (F (w + 1)) 0 0 (rL w))) w (u (F w) 1 (F r 1))
theorem cp_s (f g : Fn) {n : Int} (h : 0 ≤ n) : u (cp f g 0 0 n) n (f n) = cp f g 0 0 (n + 1) := by
  funext k
  simp only [u, cp]
  by_cases e : k = n
  · rw [if_pos e, if_pos (by omega), e]
    congr 1
    omega
  · rw [if_neg e]
    by_cases h2 : 0 ≤ k ∧ k < 0 + n
    · rw [if_pos h2, if_pos (by omega)]
    · rw [if_neg h2, if_neg (by omega)]
theorem cp_0 (f g : Fn) : cp f g 0 0 0 = g := by
  funext k
  unfold cp
  rw [if_neg (by omega)]
theorem C_takeOverR {w r : Nat} (hw : w = 37 ∨ w = 39 ∨ w = 41 ∨ w = 43 ∨ w = 45 ∨ w = 47 ∨ w = 49 ∨ w = 87 ∨ w = 89 ∨ w = 91 ∨ w = 93 ∨ w = 95 ∨ w = 97 ∨ w = 99 ∨ w = 142) (hr : r = 37 ∨ r = 39 ∨ r = 41 ∨ r = 43 ∨ r = 45 ∨ r = 47 ∨ r = 49 ∨ r = 87 ∨ r = 89 ∨ r = 91 ∨ r = 93 ∨ r = 95 ∨ r = 97 ∨ r = 99 ∨ r = 142) (hl : rL w = rL r) (hne : ¬ w = r) : m_M x k_Row_takeOver [.ref w, .ref r] (mk F G) = some (none, mk (rowO F w r) G) := by
  have hl2 := rL_le w
  have n1 : ¬ r + 1 = w + 1 := by omega
  have n2 : ¬ r = w + 1 := by omega
  have n3 : ¬ w = w + 1 := by omega
  rw [E_Row_takeOver, isO_R F G hw, if_pos rfl]
  have key : ∀ n, 0 ≤ n → n ≤ (rL w : Int) → m_D x 2 k_Row_takeOver 2 [some (.ref w), some (.ref r), some (.int (jI n))] [] (mk (sA F (w + 1) (cp (F (r + 1)) (F (w + 1)) 0 0 n)) G) = some (none, mk (rowO F w r) G) := by
    apply down
    · rw [E_Row_takeOver_2 x 2 (by omega), fR_R_0 _ G hw, Option.bind_some, mk_len x _ G (R_lt hw) (shp_R hw) (by omega), Option.bind_some]
      simp (disch := omega) only [jI_lt, jI_le, jI_eq]
      rw [if_pos (by omega), fI_R_1 _ G hr, Option.bind_some, pf_R_1 _ G _ hw, sA_ne _ _ n2, sA_ne _ _ n3]
      rfl
    · intro n h0 hn ih
      rw [E_Row_takeOver_2 x 2 (by omega), fR_R_0 _ G hw, Option.bind_some, mk_len x _ G (R_lt hw) (shp_R hw) (by omega), Option.bind_some]
      simp (disch := omega) only [lit_0, lit_1, lit_2, lit_3, lit_4, lit_5, lit_6, lit_7, lit_8, lit_9, lit_10, lit_11, lit_12, lit_13, lit_14, lit_15, lit_16, lit_17, lit_18, lit_19, lit_20, lit_21, lit_22, lit_23, lit_24, lit_25, lit_26, lit_27, lit_28, lit_29, lit_30, lit_31, lit_32, lit_33, lit_34, lit_35, lit_36, lit_37, lit_38, lit_39, lit_40, lit_41, lit_42, lit_43, lit_44, lit_45, lit_46, lit_47, lit_48, lit_49, lit_50, lit_51, lit_52, lit_53, lit_54, lit_55, lit_56, lit_57, lit_58, lit_59, lit_60, lit_61, lit_62, lit_63, lit_64, lit_65, lit_67, lit_70, lit_71, lit_73, lit_75, lit_78, lit_84, lit_85, lit_86, lit_87, lit_89, lit_90, lit_91, lit_95, lit_96, lit_97, lit_98, lit_99, lit_100, lit_101, lit_102, lit_103, lit_104, lit_105, lit_107, lit_108, lit_109, lit_110, lit_111, lit_112, lit_114, lit_115, lit_116, lit_117, lit_119, lit_121, lit_122, lit_126, lit_127, lit_128, lit_130, lit_134, lit_137, lit_139, lit_140, lit_141, lit_145, lit_152, lit_159, lit_160, lit_168, lit_174, lit_180, lit_183, lit_192, lit_199, lit_236, lit_251, lit_255, lit_272, lit_284, lit_300, lit_330, lit_373, lit_753, lit_800, lit_896, lit_900, lit_1000, lit_1001, lit_1002, lit_1003, lit_1079, lit_1276, lit_1330, lit_1450, lit_3012, lit_3016, lit_3300, lit_8430, lit_9999, lit_10000, lit_11730, lit_30467, lit_65536, lit_99999, lit_100000, lit_1000000, lit_252645135, lit_858993459, lit_1000000000, lit_1431655765, jI_lt, jI_le, jI_eq, jI_add, jI_sub, jI_mul, jI_neg]
      rw [if_neg (by omega), Option.bind_some, C_itemAt x _ G hr h0 (by omega), b_I, sA_ne _ _ n1, mk_is (n := rL w) _ G _ (R_lt hw) (shp_R hw) (by omega) h0 hn, Option.bind_some, sA_eq, sA_sA, cp_s _ _ h0]
      exact ih
  have k0 := key 0 (by omega) (by omega)
  rw [cp_0, sA_self] at k0
  exact k0
/-- the heap with what is told at t made like that at r -/
def toldO (F : Nat → Fn) (t r : Nat) : Nat → Fn :=
  let F7 := rowO (rowO (rowO (rowO (rowO (rowO (rowO F (t + 1) (r + 1)) (t + 3) (r + 3)) (t + 5) (r + 5)) (t + 7) (r + 7)) (t + 9) (r + 9)) (t + 11) (r + 11)) (t + 13) (r + 13)
  sA F7 t (u (u (F t) 7 (F r 7)) 8 (F r 8))
theorem rowO_ne (F : Nat → Fn) {w r b : Nat} (h1 : ¬ b = w) (h2 : ¬ b = w + 1) : rowO F w r b = F b := by
  unfold rowO
  rw [sA_ne _ _ h1, sA_ne _ _ h2]
theorem C_takeOverT {t r : Nat} (h : t = 36 ∧ r = 86 ∨ t = 86 ∧ r = 36) : m_M x k_Told_takeOver [.ref t, .ref r] (mk F G) = some (none, mk (toldO F t r) G) := by
  rw [E_Told_takeOver]
  rcases h with ⟨rfl, rfl⟩ | ⟨rfl, rfl⟩
  · simp (disch := omega) only [isO_T, fR_T_0, fR_T_1, fR_T_2, fR_T_3, fR_T_4, fR_T_5, fR_T_6, fI_T_7, pf_T_7, fI_T_8, pf_T_8, b_I, b_L, b_V, b_R, b_N, b_N0, Option.bind_some, ↓reduceIte, bq0, bq1, bz0, bz1, ite_not, Classical.not_not]
    rw [C_takeOverR x _ G (w := 36 + 1) (r := 86 + 1) (by omega) (by omega) rfl (by omega), b_V]
    simp (disch := omega) only [isO_T, fR_T_0, fR_T_1, fR_T_2, fR_T_3, fR_T_4, fR_T_5, fR_T_6, fI_T_7, pf_T_7, fI_T_8, pf_T_8, b_I, b_L, b_V, b_R, b_N, b_N0, Option.bind_some, ↓reduceIte, bq0, bq1, bz0, bz1, ite_not, Classical.not_not]
    rw [C_takeOverR x _ G (w := 36 + 3) (r := 86 + 3) (by omega) (by omega) rfl (by omega), b_V]
    simp (disch := omega) only [isO_T, fR_T_0, fR_T_1, fR_T_2, fR_T_3, fR_T_4, fR_T_5, fR_T_6, fI_T_7, pf_T_7, fI_T_8, pf_T_8, b_I, b_L, b_V, b_R, b_N, b_N0, Option.bind_some, ↓reduceIte, bq0, bq1, bz0, bz1, ite_not, Classical.not_not]
    rw [C_takeOverR x _ G (w := 36 + 5) (r := 86 + 5) (by omega) (by omega) rfl (by omega), b_V]
    simp (disch := omega) only [isO_T, fR_T_0, fR_T_1, fR_T_2, fR_T_3, fR_T_4, fR_T_5, fR_T_6, fI_T_7, pf_T_7, fI_T_8, pf_T_8, b_I, b_L, b_V, b_R, b_N, b_N0, Option.bind_some, ↓reduceIte, bq0, bq1, bz0, bz1, ite_not, Classical.not_not]
    rw [C_takeOverR x _ G (w := 36 + 7) (r := 86 + 7) (by omega) (by omega) rfl (by omega), b_V]
    simp (disch := omega) only [isO_T, fR_T_0, fR_T_1, fR_T_2, fR_T_3, fR_T_4, fR_T_5, fR_T_6, fI_T_7, pf_T_7, fI_T_8, pf_T_8, b_I, b_L, b_V, b_R, b_N, b_N0, Option.bind_some, ↓reduceIte, bq0, bq1, bz0, bz1, ite_not, Classical.not_not]
    rw [C_takeOverR x _ G (w := 36 + 9) (r := 86 + 9) (by omega) (by omega) rfl (by omega), b_V]
    simp (disch := omega) only [isO_T, fR_T_0, fR_T_1, fR_T_2, fR_T_3, fR_T_4, fR_T_5, fR_T_6, fI_T_7, pf_T_7, fI_T_8, pf_T_8, b_I, b_L, b_V, b_R, b_N, b_N0, Option.bind_some, ↓reduceIte, bq0, bq1, bz0, bz1, ite_not, Classical.not_not]
    rw [C_takeOverR x _ G (w := 36 + 11) (r := 86 + 11) (by omega) (by omega) rfl (by omega), b_V]
    simp (disch := omega) only [isO_T, fR_T_0, fR_T_1, fR_T_2, fR_T_3, fR_T_4, fR_T_5, fR_T_6, fI_T_7, pf_T_7, fI_T_8, pf_T_8, b_I, b_L, b_V, b_R, b_N, b_N0, Option.bind_some, ↓reduceIte, bq0, bq1, bz0, bz1, ite_not, Classical.not_not]
    rw [C_takeOverR x _ G (w := 36 + 13) (r := 86 + 13) (by omega) (by omega) rfl (by omega), b_V]
    simp (disch := omega) only [isO_T, fR_T_0, fR_T_1, fR_T_2, fR_T_3, fR_T_4, fR_T_5, fR_T_6, fI_T_7, pf_T_7, fI_T_8, pf_T_8, b_I, b_L, b_V, b_R, b_N, b_N0, Option.bind_some, ↓reduceIte, bq0, bq1, bz0, bz1, ite_not, Classical.not_not, sA_eq, sA_sA, sA_ne, rowO_ne]
    rfl
  · simp (disch := omega) only [isO_T, fR_T_0, fR_T_1, fR_T_2, fR_T_3, fR_T_4, fR_T_5, fR_T_6, fI_T_7, pf_T_7, fI_T_8, pf_T_8, b_I, b_L, b_V, b_R, b_N, b_N0, Option.bind_some, ↓reduceIte, bq0, bq1, bz0, bz1, ite_not, Classical.not_not]
    rw [C_takeOverR x _ G (w := 86 + 1) (r := 36 + 1) (by omega) (by omega) rfl (by omega), b_V]
    simp (disch := omega) only [isO_T, fR_T_0, fR_T_1, fR_T_2, fR_T_3, fR_T_4, fR_T_5, fR_T_6, fI_T_7, pf_T_7, fI_T_8, pf_T_8, b_I, b_L, b_V, b_R, b_N, b_N0, Option.bind_some, ↓reduceIte, bq0, bq1, bz0, bz1, ite_not, Classical.not_not]
    rw [C_takeOverR x _ G (w := 86 + 3) (r := 36 + 3) (by omega) (by omega) rfl (by omega), b_V]
    simp (disch := omega) only [isO_T, fR_T_0, fR_T_1, fR_T_2, fR_T_3, fR_T_4, fR_T_5, fR_T_6, fI_T_7, pf_T_7, fI_T_8, pf_T_8, b_I, b_L, b_V, b_R, b_N, b_N0, Option.bind_some, ↓reduceIte, bq0, bq1, bz0, bz1, ite_not, Classical.not_not]
    rw [C_takeOverR x _ G (w := 86 + 5) (r := 36 + 5) (by omega) (by omega) rfl (by omega), b_V]
    simp (disch := omega) only [isO_T, fR_T_0, fR_T_1, fR_T_2, fR_T_3, fR_T_4, fR_T_5, fR_T_6, fI_T_7, pf_T_7, fI_T_8, pf_T_8, b_I, b_L, b_V, b_R, b_N, b_N0, Option.bind_some, ↓reduceIte, bq0, bq1, bz0, bz1, ite_not, Classical.not_not]
    rw [C_takeOverR x _ G (w := 86 + 7) (r := 36 + 7) (by omega) (by omega) rfl (by omega), b_V]
    simp (disch := omega) only [isO_T, fR_T_0, fR_T_1, fR_T_2, fR_T_3, fR_T_4, fR_T_5, fR_T_6, fI_T_7, pf_T_7, fI_T_8, pf_T_8, b_I, b_L, b_V, b_R, b_N, b_N0, Option.bind_some, ↓reduceIte, bq0, bq1, bz0, bz1, ite_not, Classical.not_not]
    rw [C_takeOverR x _ G (w := 86 + 9) (r := 36 + 9) (by omega) (by omega) rfl (by omega), b_V]
    simp (disch := omega) only [isO_T, fR_T_0, fR_T_1, fR_T_2, fR_T_3, fR_T_4, fR_T_5, fR_T_6, fI_T_7, pf_T_7, fI_T_8, pf_T_8, b_I, b_L, b_V, b_R, b_N, b_N0, Option.bind_some, ↓reduceIte, bq0, bq1, bz0, bz1, ite_not, Classical.not_not]
    rw [C_takeOverR x _ G (w := 86 + 11) (r := 36 + 11) (by omega) (by omega) rfl (by omega), b_V]
    simp (disch := omega) only [isO_T, fR_T_0, fR_T_1, fR_T_2, fR_T_3, fR_T_4, fR_T_5, fR_T_6, fI_T_7, pf_T_7, fI_T_8, pf_T_8, b_I, b_L, b_V, b_R, b_N, b_N0, Option.bind_some, ↓reduceIte, bq0, bq1, bz0, bz1, ite_not, Classical.not_not]
    rw [C_takeOverR x _ G (w := 86 + 13) (r := 36 + 13) (by omega) (by omega) rfl (by omega), b_V]
    simp (disch := omega) only [isO_T, fR_T_0, fR_T_1, fR_T_2, fR_T_3, fR_T_4, fR_T_5, fR_T_6, fI_T_7, pf_T_7, fI_T_8, pf_T_8, b_I, b_L, b_V, b_R, b_N, b_N0, Option.bind_some, ↓reduceIte, bq0, bq1, bz0, bz1, ite_not, Classical.not_not, sA_eq, sA_sA, sA_ne, rowO_ne]
    rfl
theorem C_toldInto {w : Nat} {v m : Int} (hw : w = 37 ∨ w = 39 ∨ w = 41 ∨ w = 43 ∨ w = 45 ∨ w = 47 ∨ w = 49 ∨ w = 87 ∨ w = 89 ∨ w = 91 ∨ w = 93 ∨ w = 95 ∨ w = 97 ∨ w = 99 ∨ w = 142) (h0 : 0 ≤ F w 1) (h1 : F w 1 ≤ rL w) (hv : rg v) (hm : rg m) : m_M x k_G_toldInto [.ref w, .int (jI v), .int (jI m)] (mk F G) = if v = -1 then some (some (.int (jI 0)), mk (sA F w (u (F w) 1 0)) G) else if (0 ≤ v ∧ v ≤ m) ∧ F w 1 < rL w then some (some (.int (jI (F w 1 + 1))), mk (sA (sA F (w + 1) (u (F (w + 1)) (F w 1) v)) w (u (F w) 1 (F w 1 + 1))) G) else some (some (.int (jI (-2))), mk F G) := by
  have hv' := hv
  unfold rg at hv'
  rw [E_G_toldInto, C_empty x F G hw, b_V]
  simp (disch := first | omega | assumption | (unfold rg; omega)) only [lit_0, lit_1, lit_2, lit_3, lit_4, lit_5, lit_6, lit_7, lit_8, lit_9, lit_10, lit_11, lit_12, lit_13, lit_14, lit_15, lit_16, lit_17, lit_18, lit_19, lit_20, lit_21, lit_22, lit_23, lit_24, lit_25, lit_26, lit_27, lit_28, lit_29, lit_30, lit_31, lit_32, lit_33, lit_34, lit_35, lit_36, lit_37, lit_38, lit_39, lit_40, lit_41, lit_42, lit_43, lit_44, lit_45, lit_46, lit_47, lit_48, lit_49, lit_50, lit_51, lit_52, lit_53, lit_54, lit_55, lit_56, lit_57, lit_58, lit_59, lit_60, lit_61, lit_62, lit_63, lit_64, lit_65, lit_67, lit_70, lit_71, lit_73, lit_75, lit_78, lit_84, lit_85, lit_86, lit_87, lit_89, lit_90, lit_91, lit_95, lit_96, lit_97, lit_98, lit_99, lit_100, lit_101, lit_102, lit_103, lit_104, lit_105, lit_107, lit_108, lit_109, lit_110, lit_111, lit_112, lit_114, lit_115, lit_116, lit_117, lit_119, lit_121, lit_122, lit_126, lit_127, lit_128, lit_130, lit_134, lit_137, lit_139, lit_140, lit_141, lit_145, lit_152, lit_159, lit_160, lit_168, lit_174, lit_180, lit_183, lit_192, lit_199, lit_236, lit_251, lit_255, lit_272, lit_284, lit_300, lit_330, lit_373, lit_753, lit_800, lit_896, lit_900, lit_1000, lit_1001, lit_1002, lit_1003, lit_1079, lit_1276, lit_1330, lit_1450, lit_3012, lit_3016, lit_3300, lit_8430, lit_9999, lit_10000, lit_11730, lit_30467, lit_65536, lit_99999, lit_100000, lit_1000000, lit_252645135, lit_858993459, lit_1000000000, lit_1431655765, jI_add, jI_sub, jI_mul, jI_neg, jI_lt, jI_le, jI_eq, b_I, b_L, b_V, b_R, b_N, b_N0, Option.bind_some, ↓reduceIte, bq0, bq1, bz0, bz1, ite_not, Classical.not_not, C_isIn]
  by_cases e : v = -1
  · rw [if_pos e, if_pos e]
  · rw [if_neg e, if_neg e]
    by_cases h : 0 ≤ v ∧ v ≤ m
    · rw [if_pos h, C_put x F G hw h0 h1]
      by_cases h2 : F w 1 < rL w
      · rw [if_pos h2, if_pos ⟨h, h2⟩, b_I, if_neg (by decide), fI_R_1 _ G hw, Option.bind_some, sA_eq, u_eq]
      · rw [if_neg h2, if_neg (fun z => h2 z.2), b_I, if_pos rfl]
    · rw [if_neg h, if_neg (fun z => h z.1)]
end
