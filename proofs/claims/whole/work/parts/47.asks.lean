-- the worlds' other asks
theorem sm_add {f g : Int → Int} {n : Int} (hn : 0 ≤ n) : sm (fun i => f i + g i) n = sm f n + sm g n := by
  unfold sm
  have : ∀ k : Nat, smN (fun i => f i + g i) k = smN f k + smN g k := by
    intro k
    induction k with
    | zero => rfl
    | succ k ih => rw [smN, smN, smN, ih]; omega
  exact this _
def bare (c : Fn) (p : Int) : Int := max 0 (2 - (rights c p + lefts c p))
/-- a set of the people below n that P holds of -/
def stN (P : Int → Bool) : Nat → Int32
  | 0 => jI 0
  | n + 1 => if P n then stN P n ||| ((jI 1) <<< (jI n &&& jI 31)) else stN P n
def st (P : Int → Bool) (n : Int) : Int32 := stN P n.toNat
theorem st_0 (P : Int → Bool) : st P 0 = jI 0 := rfl
theorem st_s (P : Int → Bool) {n : Int} (h : 0 ≤ n) : st P (n + 1) = if P n then st P n ||| ((jI 1) <<< (jI n &&& jI 31)) else st P n := by
  unfold st
  have : (n + 1).toNat = n.toNat + 1 := by omega
  rw [this, stN, Int.toNat_of_nonneg h]
theorem st_congr {P Q : Int → Bool} {n : Int} (h : ∀ i, 0 ≤ i → i < n → P i = Q i) : st P n = st Q n := by
  unfold st
  have : ∀ k : Nat, (∀ i : Int, 0 ≤ i → i < k → P i = Q i) → stN P k = stN Q k := by
    intro k
    induction k with
    | zero => intro _; rfl
    | succ k ih => intro h; rw [stN, stN, ih (fun i a b => h i a (by omega)), h k (by omega) (by omega)]
  exact this _ (fun i a b => h i a (by omega))
def fitsB (c : Fn) (z t : Int) (p : Int) : Bool := decide ((if 0 ≤ c (1 + p) - z then c (1 + p) - z else -(c (1 + p) - z)) ≤ t)
def bid (c : Fn) (p g : Int) : Int := min (c (8 + p)) (10 * (c (75 + g) + c (51 + g)))
/-- the best bidder below n but for one: -1 if there is none -/
def bestN (c : Fn) (g but : Int) : Nat → Int
  | 0 => -1
  | n + 1 => if ¬ (n : Int) = but ∧ 0 < c (8 + n) ∧ (bestN c g but n = -1 ∨ bid c (bestN c g but n) g < bid c n g) then n else bestN c g but n
def best (c : Fn) (g but n : Int) : Int := bestN c g but n.toNat
theorem best_s (c : Fn) (g but : Int) {n : Int} (h : 0 ≤ n) : best c g but (n + 1) = if ¬ n = but ∧ 0 < c (8 + n) ∧ (best c g but n = -1 ∨ bid c (best c g but n) g < bid c n g) then n else best c g but n := by
  unfold best
  have : (n + 1).toNat = n.toNat + 1 := by omega
  rw [this, bestN, Int.toNat_of_nonneg h]
theorem best_r (c : Fn) (g but : Int) {n : Int} (h : 0 ≤ n) : -1 ≤ best c g but n ∧ best c g but n < n := by
  unfold best
  have : ∀ k : Nat, -1 ≤ bestN c g but k ∧ bestN c g but k < k := by
    intro k
    induction k with
    | zero => simp [bestN]
    | succ k ih => rw [bestN]; split <;> omega
  have h2 := this n.toNat
  omega
section
variable (x : m_X) (F G : Nat → Fn)
theorem C_bareHandsOf {w : Nat} {p : Int} (hw : w = 1 ∨ w = 51 ∨ w = 101) (hi : WI (F (w + 1))) (hp : rg p) : m_M x k_World_bareHandsOf [.ref w, .int (jI p)] (mk F G) = some (some (.int (jI (bare (F (w + 1)) p))), mk F G) := by
  have hc := WI_c hi
  unfold rg at hp
  rw [E_World_bareHandsOf, isO_W F G hw, if_pos rfl]
  have hr := rights_le (c := F (w + 1)) p (by omega)
  have hl := lefts_le (c := F (w + 1)) p (by omega)
  have key : ∀ g, 0 ≤ g → g ≤ F (w + 1) 25 → ∀ d4 d5 d6, m_nl d4 = true → m_nl d5 = true → m_nl d6 = true → m_D x 2 k_World_bareHandsOf 4 [some (.ref w), some (.int (jI p)), some (.int (jI (sm (fun g => (if (F (w + 1) (99 + g) = 0 ∨ F (w + 1) (99 + g) = 3) ∧ F (w + 1) (27 + g) = p then 1 else 0) + (if F (w + 1) (99 + g) = 0 ∧ F (w + 1) (39 + g) = p then 1 else 0)) g))), some (.int (jI g)), d4, d5, d6] [] (mk F G) = some (some (.int (jI (bare (F (w + 1)) p))), mk F G) := by
    apply down
    · intro d4 d5 d6 h4 h5 h6
      rw [E_World_bareHandsOf_4 x 2 (by omega) _ _ _ _ _ _ _ _ h4 h5 h6]
      simp (disch := omega) only [lit_0, lit_1, lit_2, lit_3, lit_4, lit_5, lit_6, lit_7, lit_8, lit_9, lit_10, lit_11, lit_12, lit_13, lit_14, lit_15, lit_16, lit_17, lit_18, lit_19, lit_20, lit_21, lit_22, lit_23, lit_24, lit_25, lit_26, lit_27, lit_28, lit_29, lit_30, lit_31, lit_32, lit_33, lit_34, lit_35, lit_36, lit_37, lit_38, lit_39, lit_40, lit_41, lit_42, lit_43, lit_44, lit_45, lit_46, lit_47, lit_48, lit_49, lit_50, lit_51, lit_52, lit_53, lit_54, lit_55, lit_56, lit_57, lit_58, lit_59, lit_60, lit_61, lit_62, lit_63, lit_64, lit_65, lit_67, lit_70, lit_71, lit_73, lit_75, lit_78, lit_84, lit_85, lit_86, lit_87, lit_89, lit_90, lit_91, lit_95, lit_96, lit_97, lit_98, lit_99, lit_100, lit_101, lit_102, lit_103, lit_104, lit_105, lit_107, lit_108, lit_109, lit_110, lit_111, lit_112, lit_114, lit_115, lit_116, lit_117, lit_119, lit_121, lit_122, lit_126, lit_127, lit_128, lit_130, lit_134, lit_137, lit_139, lit_140, lit_141, lit_145, lit_152, lit_159, lit_160, lit_168, lit_174, lit_180, lit_183, lit_192, lit_199, lit_236, lit_251, lit_255, lit_272, lit_284, lit_300, lit_330, lit_373, lit_753, lit_800, lit_896, lit_900, lit_1000, lit_1001, lit_1002, lit_1003, lit_1079, lit_1276, lit_1330, lit_1450, lit_3012, lit_3016, lit_3300, lit_8430, lit_9999, lit_10000, lit_11730, lit_30467, lit_65536, lit_99999, lit_100000, lit_1000000, lit_252645135, lit_858993459, lit_1000000000, lit_1431655765, jI_add, jI_sub, jI_mul, jI_neg, jI_lt, jI_le, jI_eq, isO_W, fR_W_0, ia_W, is_W, b_I, b_L, b_V, b_R, b_N, b_N0, Option.bind_some, ↓reduceIte, bq0, bq1, bz0, bz1, ite_not, Classical.not_not]
      rw [if_pos (Int.le_refl _), ite_self, sm_add (by omega)]
      show (m_bI (m_M x k_Math_max_II [Value.int (jI 0), Value.int (jI (2 - (rights (F (w + 1)) p + lefts (F (w + 1)) p)))] (mk F G)) fun v s => some (some (Value.int v), s)) = _
      rw [C_max x F G (by unfold rg; omega) (by unfold rg; omega), b_I]
      rfl
    · intro g h0 hg ih d4 d5 d6 h4 h5 h6
      have hgl := WI_g hi h0 (by omega)
      have hgh := WI_h hi h0 hg
      rw [E_World_bareHandsOf_4 x 2 (by omega) _ _ _ _ _ _ _ _ h4 h5 h6]
      simp (disch := omega) only [lit_0, lit_1, lit_2, lit_3, lit_4, lit_5, lit_6, lit_7, lit_8, lit_9, lit_10, lit_11, lit_12, lit_13, lit_14, lit_15, lit_16, lit_17, lit_18, lit_19, lit_20, lit_21, lit_22, lit_23, lit_24, lit_25, lit_26, lit_27, lit_28, lit_29, lit_30, lit_31, lit_32, lit_33, lit_34, lit_35, lit_36, lit_37, lit_38, lit_39, lit_40, lit_41, lit_42, lit_43, lit_44, lit_45, lit_46, lit_47, lit_48, lit_49, lit_50, lit_51, lit_52, lit_53, lit_54, lit_55, lit_56, lit_57, lit_58, lit_59, lit_60, lit_61, lit_62, lit_63, lit_64, lit_65, lit_67, lit_70, lit_71, lit_73, lit_75, lit_78, lit_84, lit_85, lit_86, lit_87, lit_89, lit_90, lit_91, lit_95, lit_96, lit_97, lit_98, lit_99, lit_100, lit_101, lit_102, lit_103, lit_104, lit_105, lit_107, lit_108, lit_109, lit_110, lit_111, lit_112, lit_114, lit_115, lit_116, lit_117, lit_119, lit_121, lit_122, lit_126, lit_127, lit_128, lit_130, lit_134, lit_137, lit_139, lit_140, lit_141, lit_145, lit_152, lit_159, lit_160, lit_168, lit_174, lit_180, lit_183, lit_192, lit_199, lit_236, lit_251, lit_255, lit_272, lit_284, lit_300, lit_330, lit_373, lit_753, lit_800, lit_896, lit_900, lit_1000, lit_1001, lit_1002, lit_1003, lit_1079, lit_1276, lit_1330, lit_1450, lit_3012, lit_3016, lit_3300, lit_8430, lit_9999, lit_10000, lit_11730, lit_30467, lit_65536, lit_99999, lit_100000, lit_1000000, lit_252645135, lit_858993459, lit_1000000000, lit_1431655765, jI_add, jI_sub, jI_mul, jI_neg, jI_lt, jI_le, jI_eq, isO_W, fR_W_0, ia_W, is_W, b_I, b_L, b_V, b_R, b_N, b_N0, Option.bind_some, ↓reduceIte, bq0, bq1, bz0, bz1, ite_not, Classical.not_not]
      rw [if_neg (by omega), if_neg (by omega)]
      rw [sm_s _ h0] at ih
      have e85 : ∀ (n : Int) (t : Int), (t = 0 ∨ t = 1) → m_D x 2 k_World_bareHandsOf 85 [some (.ref w), some (.int (jI p)), some (.int (jI n)), some (.int (jI g)), some (.int (jI (F (w + 1) (99 + g)))), some (.int (jI t)), d6] [] (mk F G) = m_D x 2 k_World_bareHandsOf 4 [some (.ref w), some (.int (jI p)), some (.int (jI (n + t))), some (.int (jI (g + 1))), some (.int (jI (F (w + 1) (99 + g)))), some (.int (jI t)), some (.int (jI 0))] [] (mk F G) := by
        intro n t ht
        rw [E_World_bareHandsOf_85 x 2 (by omega) _ _ _ _ _ _ _ _ h6]
        simp (disch := omega) only [lit_0, lit_1, lit_2, lit_3, lit_4, lit_5, lit_6, lit_7, lit_8, lit_9, lit_10, lit_11, lit_12, lit_13, lit_14, lit_15, lit_16, lit_17, lit_18, lit_19, lit_20, lit_21, lit_22, lit_23, lit_24, lit_25, lit_26, lit_27, lit_28, lit_29, lit_30, lit_31, lit_32, lit_33, lit_34, lit_35, lit_36, lit_37, lit_38, lit_39, lit_40, lit_41, lit_42, lit_43, lit_44, lit_45, lit_46, lit_47, lit_48, lit_49, lit_50, lit_51, lit_52, lit_53, lit_54, lit_55, lit_56, lit_57, lit_58, lit_59, lit_60, lit_61, lit_62, lit_63, lit_64, lit_65, lit_67, lit_70, lit_71, lit_73, lit_75, lit_78, lit_84, lit_85, lit_86, lit_87, lit_89, lit_90, lit_91, lit_95, lit_96, lit_97, lit_98, lit_99, lit_100, lit_101, lit_102, lit_103, lit_104, lit_105, lit_107, lit_108, lit_109, lit_110, lit_111, lit_112, lit_114, lit_115, lit_116, lit_117, lit_119, lit_121, lit_122, lit_126, lit_127, lit_128, lit_130, lit_134, lit_137, lit_139, lit_140, lit_141, lit_145, lit_152, lit_159, lit_160, lit_168, lit_174, lit_180, lit_183, lit_192, lit_199, lit_236, lit_251, lit_255, lit_272, lit_284, lit_300, lit_330, lit_373, lit_753, lit_800, lit_896, lit_900, lit_1000, lit_1001, lit_1002, lit_1003, lit_1079, lit_1276, lit_1330, lit_1450, lit_3012, lit_3016, lit_3300, lit_8430, lit_9999, lit_10000, lit_11730, lit_30467, lit_65536, lit_99999, lit_100000, lit_1000000, lit_252645135, lit_858993459, lit_1000000000, lit_1431655765, jI_add, jI_sub, jI_mul, jI_neg, jI_lt, jI_le, jI_eq]
        rcases ht with rfl | rfl
        · rw [if_pos rfl, Int.add_zero]
        · rw [if_neg (by omega)]
      have e61 : ∀ t : Int, (t = 0 ∨ t = 1) → (t = 1 ↔ ((F (w + 1) (99 + g) = 0 ∨ F (w + 1) (99 + g) = 3) ∧ F (w + 1) (27 + g) = p)) → m_D x 2 k_World_bareHandsOf 61 [some (.ref w), some (.int (jI p)), some (.int (jI (sm (fun g => (if (F (w + 1) (99 + g) = 0 ∨ F (w + 1) (99 + g) = 3) ∧ F (w + 1) (27 + g) = p then 1 else 0) + (if F (w + 1) (99 + g) = 0 ∧ F (w + 1) (39 + g) = p then 1 else 0)) g))), some (.int (jI g)), some (.int (jI (F (w + 1) (99 + g)))), d5, d6] [.int (jI t)] (mk F G) = some (some (.int (jI (bare (F (w + 1)) p))), mk F G) := by
        intro t ht hq
        rw [E_World_bareHandsOf_61 x 2 (by omega) _ _ _ _ _ _ _ _ _ h5 h6]
        simp (disch := omega) only [lit_0, lit_1, lit_2, lit_3, lit_4, lit_5, lit_6, lit_7, lit_8, lit_9, lit_10, lit_11, lit_12, lit_13, lit_14, lit_15, lit_16, lit_17, lit_18, lit_19, lit_20, lit_21, lit_22, lit_23, lit_24, lit_25, lit_26, lit_27, lit_28, lit_29, lit_30, lit_31, lit_32, lit_33, lit_34, lit_35, lit_36, lit_37, lit_38, lit_39, lit_40, lit_41, lit_42, lit_43, lit_44, lit_45, lit_46, lit_47, lit_48, lit_49, lit_50, lit_51, lit_52, lit_53, lit_54, lit_55, lit_56, lit_57, lit_58, lit_59, lit_60, lit_61, lit_62, lit_63, lit_64, lit_65, lit_67, lit_70, lit_71, lit_73, lit_75, lit_78, lit_84, lit_85, lit_86, lit_87, lit_89, lit_90, lit_91, lit_95, lit_96, lit_97, lit_98, lit_99, lit_100, lit_101, lit_102, lit_103, lit_104, lit_105, lit_107, lit_108, lit_109, lit_110, lit_111, lit_112, lit_114, lit_115, lit_116, lit_117, lit_119, lit_121, lit_122, lit_126, lit_127, lit_128, lit_130, lit_134, lit_137, lit_139, lit_140, lit_141, lit_145, lit_152, lit_159, lit_160, lit_168, lit_174, lit_180, lit_183, lit_192, lit_199, lit_236, lit_251, lit_255, lit_272, lit_284, lit_300, lit_330, lit_373, lit_753, lit_800, lit_896, lit_900, lit_1000, lit_1001, lit_1002, lit_1003, lit_1079, lit_1276, lit_1330, lit_1450, lit_3012, lit_3016, lit_3300, lit_8430, lit_9999, lit_10000, lit_11730, lit_30467, lit_65536, lit_99999, lit_100000, lit_1000000, lit_252645135, lit_858993459, lit_1000000000, lit_1431655765, jI_add, jI_sub, jI_mul, jI_neg, jI_lt, jI_le, jI_eq, isO_W, fR_W_0, ia_W, is_W, b_I, b_L, b_V, b_R, b_N, b_N0, Option.bind_some, ↓reduceIte, bq0, bq1, bz0, bz1, ite_not, Classical.not_not, ite_self]
        rw [e85 _ t ht]
        by_cases h1 : F (w + 1) (99 + g) = 0 ∧ F (w + 1) (39 + g) = p
        · rw [if_pos h1.1, if_pos h1.2]
          rw [if_pos h1, if_neg (by omega), Int.zero_add] at ih
          exact ih _ _ _ rfl rfl rfl
        · rw [if_neg h1, Int.add_zero] at ih
          have e3 : (if (F (w + 1) (99 + g) = 0 ∨ F (w + 1) (99 + g) = 3) ∧ F (w + 1) (27 + g) = p then (1 : Int) else 0) = t := by
            split
            · omega
            · omega
          rw [e3] at ih
          by_cases h2 : F (w + 1) (99 + g) = 0
          · rw [if_pos h2, if_neg (by omega)]
            exact ih _ _ _ rfl rfl rfl
          · rw [if_neg h2]
            exact ih _ _ _ rfl rfl rfl
      by_cases h1 : F (w + 1) (99 + g) = 0
      · rw [if_pos h1]
        by_cases h2 : F (w + 1) (27 + g) = p
        · rw [if_pos h2]
          exact e61 1 (by omega) (by omega)
        · rw [if_neg h2]
          exact e61 0 (by omega) (by omega)
      · rw [if_neg h1]
        by_cases h3 : F (w + 1) (99 + g) = 3
        · rw [if_pos h3]
          by_cases h2 : F (w + 1) (27 + g) = p
          · rw [if_pos h2]
            exact e61 1 (by omega) (by omega)
          · rw [if_neg h2]
            exact e61 0 (by omega) (by omega)
        · rw [if_neg h3]
          exact e61 0 (by omega) (by omega)
  exact key 0 (by omega) (by omega) none none none rfl rfl rfl
theorem C_fits {w : Nat} {p z t : Int} (hw : w = 1 ∨ w = 51 ∨ w = 101) (hi : WI (F (w + 1))) (h0 : 0 ≤ p) (h1 : p < F (w + 1) 0) (hz : 0 ≤ z) (hz2 : z ≤ 9) (ht : rg t) : m_M x k_World_fits [.ref w, .int (jI p), .int (jI z), .int (jI t)] (mk F G) = some (some (.int (jI (if fitsB (F (w + 1)) z t p = true then 1 else 0))), mk F G) := by
  have hc := WI_c hi
  have hp := WI_p hi h0 (by omega)
  rw [E_World_fits, C_hasOne x F G hw (by unfold rg; omega) (by unfold rg; omega)]
  simp (disch := omega) only [lit_0, lit_1, lit_2, lit_3, lit_4, lit_5, lit_6, lit_7, lit_8, lit_9, lit_10, lit_11, lit_12, lit_13, lit_14, lit_15, lit_16, lit_17, lit_18, lit_19, lit_20, lit_21, lit_22, lit_23, lit_24, lit_25, lit_26, lit_27, lit_28, lit_29, lit_30, lit_31, lit_32, lit_33, lit_34, lit_35, lit_36, lit_37, lit_38, lit_39, lit_40, lit_41, lit_42, lit_43, lit_44, lit_45, lit_46, lit_47, lit_48, lit_49, lit_50, lit_51, lit_52, lit_53, lit_54, lit_55, lit_56, lit_57, lit_58, lit_59, lit_60, lit_61, lit_62, lit_63, lit_64, lit_65, lit_67, lit_70, lit_71, lit_73, lit_75, lit_78, lit_84, lit_85, lit_86, lit_87, lit_89, lit_90, lit_91, lit_95, lit_96, lit_97, lit_98, lit_99, lit_100, lit_101, lit_102, lit_103, lit_104, lit_105, lit_107, lit_108, lit_109, lit_110, lit_111, lit_112, lit_114, lit_115, lit_116, lit_117, lit_119, lit_121, lit_122, lit_126, lit_127, lit_128, lit_130, lit_134, lit_137, lit_139, lit_140, lit_141, lit_145, lit_152, lit_159, lit_160, lit_168, lit_174, lit_180, lit_183, lit_192, lit_199, lit_236, lit_251, lit_255, lit_272, lit_284, lit_300, lit_330, lit_373, lit_753, lit_800, lit_896, lit_900, lit_1000, lit_1001, lit_1002, lit_1003, lit_1079, lit_1276, lit_1330, lit_1450, lit_3012, lit_3016, lit_3300, lit_8430, lit_9999, lit_10000, lit_11730, lit_30467, lit_65536, lit_99999, lit_100000, lit_1000000, lit_252645135, lit_858993459, lit_1000000000, lit_1431655765, jI_add, jI_sub, jI_mul, jI_neg, isO_W, fR_W_0, ia_W, is_W, b_I, b_L, b_V, b_R, b_N, b_N0, Option.bind_some, ↓reduceIte, bq0, bq1, bz0, bz1, ite_not, Classical.not_not, C_at, C_abs]
  unfold rg at ht
  simp (disch := (first | omega | (split <;> omega))) only [jI_lt, jI_le, jI_eq]
  rw [if_pos ⟨h0, h1⟩]
  unfold fitsB
  simp only [decide_eq_true_eq]
  by_cases h : t < if 0 ≤ F (w + 1) (1 + p) - z then F (w + 1) (1 + p) - z else -(F (w + 1) (1 + p) - z)
  · rw [if_pos h, if_neg (by omega)]
  · rw [if_neg h, if_pos (by omega)]
theorem C_whomFits {w : Nat} {z t : Int} (hw : w = 1 ∨ w = 51 ∨ w = 101) (hi : WI (F (w + 1))) (hz : 0 ≤ z) (hz2 : z ≤ 9) (ht : rg t) : m_M x k_World_whomFits [.ref w, .int (jI z), .int (jI t)] (mk F G) = some (some (.int (st (fitsB (F (w + 1)) z t) (F (w + 1) 0))), mk F G) := by
  have hc := WI_c hi
  rw [E_World_whomFits, isO_W F G hw, if_pos rfl]
  have key : ∀ p, 0 ≤ p → p ≤ F (w + 1) 0 → m_D x 3 k_World_whomFits 5 [some (.ref w), some (.int (jI z)), some (.int (jI t)), some (.int (st (fitsB (F (w + 1)) z t) p)), some (.int (jI p))] [] (mk F G) = some (some (.int (st (fitsB (F (w + 1)) z t) (F (w + 1) 0))), mk F G) := by
    apply down
    · rw [E_World_whomFits_5 x 3 (by omega)]
      simp (disch := omega) only [lit_0, lit_1, lit_2, lit_3, lit_4, lit_5, lit_6, lit_7, lit_8, lit_9, lit_10, lit_11, lit_12, lit_13, lit_14, lit_15, lit_16, lit_17, lit_18, lit_19, lit_20, lit_21, lit_22, lit_23, lit_24, lit_25, lit_26, lit_27, lit_28, lit_29, lit_30, lit_31, lit_32, lit_33, lit_34, lit_35, lit_36, lit_37, lit_38, lit_39, lit_40, lit_41, lit_42, lit_43, lit_44, lit_45, lit_46, lit_47, lit_48, lit_49, lit_50, lit_51, lit_52, lit_53, lit_54, lit_55, lit_56, lit_57, lit_58, lit_59, lit_60, lit_61, lit_62, lit_63, lit_64, lit_65, lit_67, lit_70, lit_71, lit_73, lit_75, lit_78, lit_84, lit_85, lit_86, lit_87, lit_89, lit_90, lit_91, lit_95, lit_96, lit_97, lit_98, lit_99, lit_100, lit_101, lit_102, lit_103, lit_104, lit_105, lit_107, lit_108, lit_109, lit_110, lit_111, lit_112, lit_114, lit_115, lit_116, lit_117, lit_119, lit_121, lit_122, lit_126, lit_127, lit_128, lit_130, lit_134, lit_137, lit_139, lit_140, lit_141, lit_145, lit_152, lit_159, lit_160, lit_168, lit_174, lit_180, lit_183, lit_192, lit_199, lit_236, lit_251, lit_255, lit_272, lit_284, lit_300, lit_330, lit_373, lit_753, lit_800, lit_896, lit_900, lit_1000, lit_1001, lit_1002, lit_1003, lit_1079, lit_1276, lit_1330, lit_1450, lit_3012, lit_3016, lit_3300, lit_8430, lit_9999, lit_10000, lit_11730, lit_30467, lit_65536, lit_99999, lit_100000, lit_1000000, lit_252645135, lit_858993459, lit_1000000000, lit_1431655765, jI_add, jI_sub, jI_mul, jI_neg, jI_lt, jI_le, jI_eq, isO_W, fR_W_0, ia_W, is_W, b_I, b_L, b_V, b_R, b_N, b_N0, Option.bind_some, ↓reduceIte, bq0, bq1, bz0, bz1, ite_not, Classical.not_not]
      rw [if_pos (Int.le_refl _)]
    · intro p h0 hp ih
      rw [E_World_whomFits_5 x 3 (by omega), C_fits x F G hw hi h0 hp hz hz2 ht]
      simp (disch := omega) only [lit_0, lit_1, lit_2, lit_3, lit_4, lit_5, lit_6, lit_7, lit_8, lit_9, lit_10, lit_11, lit_12, lit_13, lit_14, lit_15, lit_16, lit_17, lit_18, lit_19, lit_20, lit_21, lit_22, lit_23, lit_24, lit_25, lit_26, lit_27, lit_28, lit_29, lit_30, lit_31, lit_32, lit_33, lit_34, lit_35, lit_36, lit_37, lit_38, lit_39, lit_40, lit_41, lit_42, lit_43, lit_44, lit_45, lit_46, lit_47, lit_48, lit_49, lit_50, lit_51, lit_52, lit_53, lit_54, lit_55, lit_56, lit_57, lit_58, lit_59, lit_60, lit_61, lit_62, lit_63, lit_64, lit_65, lit_67, lit_70, lit_71, lit_73, lit_75, lit_78, lit_84, lit_85, lit_86, lit_87, lit_89, lit_90, lit_91, lit_95, lit_96, lit_97, lit_98, lit_99, lit_100, lit_101, lit_102, lit_103, lit_104, lit_105, lit_107, lit_108, lit_109, lit_110, lit_111, lit_112, lit_114, lit_115, lit_116, lit_117, lit_119, lit_121, lit_122, lit_126, lit_127, lit_128, lit_130, lit_134, lit_137, lit_139, lit_140, lit_141, lit_145, lit_152, lit_159, lit_160, lit_168, lit_174, lit_180, lit_183, lit_192, lit_199, lit_236, lit_251, lit_255, lit_272, lit_284, lit_300, lit_330, lit_373, lit_753, lit_800, lit_896, lit_900, lit_1000, lit_1001, lit_1002, lit_1003, lit_1079, lit_1276, lit_1330, lit_1450, lit_3012, lit_3016, lit_3300, lit_8430, lit_9999, lit_10000, lit_11730, lit_30467, lit_65536, lit_99999, lit_100000, lit_1000000, lit_252645135, lit_858993459, lit_1000000000, lit_1431655765, jI_add, jI_sub, jI_mul, jI_neg, jI_lt, jI_le, jI_eq, isO_W, fR_W_0, ia_W, is_W, b_I, b_L, b_V, b_R, b_N, b_N0, Option.bind_some, ↓reduceIte, bq0, bq1, bz0, bz1, ite_not, Classical.not_not]
      rw [if_neg (by omega)]
      rw [st_s _ h0] at ih
      by_cases h : fitsB (F (w + 1)) z t p = true
      · rw [if_pos h] at ih ⊢
        exact ih
      · rw [if_neg h] at ih ⊢
        exact ih
  exact key 0 (by omega) (by omega)
theorem C_bidOf {w : Nat} {p g : Int} (hw : w = 1 ∨ w = 51 ∨ w = 101) (hi : WI (F (w + 1))) (h0 : 0 ≤ p) (h1 : p < 7) (hg : 0 ≤ g) (hg1 : g < 12) : m_M x k_World_bidOf [.ref w, .int (jI p), .int (jI g)] (mk F G) = some (some (.int (jI (bid (F (w + 1)) p g))), mk F G) := by
  have hp := WI_p hi h0 h1
  have hgl := WI_g hi hg hg1
  rw [E_World_bidOf]
  simp (disch := omega) only [lit_0, lit_1, lit_2, lit_3, lit_4, lit_5, lit_6, lit_7, lit_8, lit_9, lit_10, lit_11, lit_12, lit_13, lit_14, lit_15, lit_16, lit_17, lit_18, lit_19, lit_20, lit_21, lit_22, lit_23, lit_24, lit_25, lit_26, lit_27, lit_28, lit_29, lit_30, lit_31, lit_32, lit_33, lit_34, lit_35, lit_36, lit_37, lit_38, lit_39, lit_40, lit_41, lit_42, lit_43, lit_44, lit_45, lit_46, lit_47, lit_48, lit_49, lit_50, lit_51, lit_52, lit_53, lit_54, lit_55, lit_56, lit_57, lit_58, lit_59, lit_60, lit_61, lit_62, lit_63, lit_64, lit_65, lit_67, lit_70, lit_71, lit_73, lit_75, lit_78, lit_84, lit_85, lit_86, lit_87, lit_89, lit_90, lit_91, lit_95, lit_96, lit_97, lit_98, lit_99, lit_100, lit_101, lit_102, lit_103, lit_104, lit_105, lit_107, lit_108, lit_109, lit_110, lit_111, lit_112, lit_114, lit_115, lit_116, lit_117, lit_119, lit_121, lit_122, lit_126, lit_127, lit_128, lit_130, lit_134, lit_137, lit_139, lit_140, lit_141, lit_145, lit_152, lit_159, lit_160, lit_168, lit_174, lit_180, lit_183, lit_192, lit_199, lit_236, lit_251, lit_255, lit_272, lit_284, lit_300, lit_330, lit_373, lit_753, lit_800, lit_896, lit_900, lit_1000, lit_1001, lit_1002, lit_1003, lit_1079, lit_1276, lit_1330, lit_1450, lit_3012, lit_3016, lit_3300, lit_8430, lit_9999, lit_10000, lit_11730, lit_30467, lit_65536, lit_99999, lit_100000, lit_1000000, lit_252645135, lit_858993459, lit_1000000000, lit_1431655765, jI_add, jI_sub, jI_mul, jI_neg, isO_W, fR_W_0, ia_W, is_W, b_I, b_L, b_V, b_R, b_N, b_N0, Option.bind_some, ↓reduceIte, bq0, bq1, bz0, bz1, ite_not, Classical.not_not, C_at]
  rw [C_min x F G (by unfold rg; omega) (by unfold rg; omega), b_I]
  rfl
theorem bid_r {c : Fn} {p g : Int} (hi : WI c) (h0 : 0 ≤ p) (h1 : p < 7) (hg : 0 ≤ g) (hg1 : g < 12) : 0 ≤ bid c p g ∧ bid c p g ≤ 9999 := by
  have hp := WI_p hi h0 h1
  have hgl := WI_g hi hg hg1
  unfold bid
  omega
theorem C_highestBidder {w : Nat} {g b : Int} (hw : w = 1 ∨ w = 51 ∨ w = 101) (hi : WI (F (w + 1))) (hg : 0 ≤ g) (hg1 : g < 12) (hb : rg b) : m_M x k_World_highestBidder [.ref w, .int (jI g), .int (jI b)] (mk F G) = some (some (.int (jI (best (F (w + 1)) g b (F (w + 1) 0)))), mk F G) := by
  have hc := WI_c hi
  unfold rg at hb
  rw [E_World_highestBidder, isO_W F G hw, if_pos rfl]
  have key : ∀ p, 0 ≤ p → p ≤ F (w + 1) 0 → ∀ d5, m_nl d5 = true → m_D x 3 k_World_highestBidder 5 [some (.ref w), some (.int (jI g)), some (.int (jI b)), some (.int (jI (best (F (w + 1)) g b p))), some (.int (jI p)), d5] [] (mk F G) = some (some (.int (jI (best (F (w + 1)) g b (F (w + 1) 0)))), mk F G) := by
    apply down
    · intro d5 h5
      rw [E_World_highestBidder_5 x 3 (by omega) _ _ _ _ _ _ _ h5]
      simp (disch := omega) only [lit_0, lit_1, lit_2, lit_3, lit_4, lit_5, lit_6, lit_7, lit_8, lit_9, lit_10, lit_11, lit_12, lit_13, lit_14, lit_15, lit_16, lit_17, lit_18, lit_19, lit_20, lit_21, lit_22, lit_23, lit_24, lit_25, lit_26, lit_27, lit_28, lit_29, lit_30, lit_31, lit_32, lit_33, lit_34, lit_35, lit_36, lit_37, lit_38, lit_39, lit_40, lit_41, lit_42, lit_43, lit_44, lit_45, lit_46, lit_47, lit_48, lit_49, lit_50, lit_51, lit_52, lit_53, lit_54, lit_55, lit_56, lit_57, lit_58, lit_59, lit_60, lit_61, lit_62, lit_63, lit_64, lit_65, lit_67, lit_70, lit_71, lit_73, lit_75, lit_78, lit_84, lit_85, lit_86, lit_87, lit_89, lit_90, lit_91, lit_95, lit_96, lit_97, lit_98, lit_99, lit_100, lit_101, lit_102, lit_103, lit_104, lit_105, lit_107, lit_108, lit_109, lit_110, lit_111, lit_112, lit_114, lit_115, lit_116, lit_117, lit_119, lit_121, lit_122, lit_126, lit_127, lit_128, lit_130, lit_134, lit_137, lit_139, lit_140, lit_141, lit_145, lit_152, lit_159, lit_160, lit_168, lit_174, lit_180, lit_183, lit_192, lit_199, lit_236, lit_251, lit_255, lit_272, lit_284, lit_300, lit_330, lit_373, lit_753, lit_800, lit_896, lit_900, lit_1000, lit_1001, lit_1002, lit_1003, lit_1079, lit_1276, lit_1330, lit_1450, lit_3012, lit_3016, lit_3300, lit_8430, lit_9999, lit_10000, lit_11730, lit_30467, lit_65536, lit_99999, lit_100000, lit_1000000, lit_252645135, lit_858993459, lit_1000000000, lit_1431655765, jI_add, jI_sub, jI_mul, jI_neg, jI_lt, jI_le, jI_eq, isO_W, fR_W_0, ia_W, is_W, b_I, b_L, b_V, b_R, b_N, b_N0, Option.bind_some, ↓reduceIte, bq0, bq1, bz0, bz1, ite_not, Classical.not_not]
      rw [if_pos (Int.le_refl _)]
    · intro p h0 hp ih d5 h5
      have hpl := WI_p hi h0 (by omega)
      have hbr := best_r (F (w + 1)) g b h0
      rw [best_s _ _ _ h0] at ih
      have e38 : ∀ t : Int, (t = 0 ∨ t = 1) → (t = 1 ↔ (¬ p = b ∧ 0 < F (w + 1) (8 + p))) → m_D x 3 k_World_highestBidder 38 [some (.ref w), some (.int (jI g)), some (.int (jI b)), some (.int (jI (best (F (w + 1)) g b p))), some (.int (jI p)), d5] [.int (jI t)] (mk F G) = some (some (.int (jI (best (F (w + 1)) g b (F (w + 1) 0)))), mk F G) := by
        intro t ht hq
        rw [E_World_highestBidder_38 x 3 (by omega) _ _ _ _ _ _ _ _ h5]
        simp (disch := omega) only [lit_0, lit_1, lit_2, lit_3, lit_4, lit_5, lit_6, lit_7, lit_8, lit_9, lit_10, lit_11, lit_12, lit_13, lit_14, lit_15, lit_16, lit_17, lit_18, lit_19, lit_20, lit_21, lit_22, lit_23, lit_24, lit_25, lit_26, lit_27, lit_28, lit_29, lit_30, lit_31, lit_32, lit_33, lit_34, lit_35, lit_36, lit_37, lit_38, lit_39, lit_40, lit_41, lit_42, lit_43, lit_44, lit_45, lit_46, lit_47, lit_48, lit_49, lit_50, lit_51, lit_52, lit_53, lit_54, lit_55, lit_56, lit_57, lit_58, lit_59, lit_60, lit_61, lit_62, lit_63, lit_64, lit_65, lit_67, lit_70, lit_71, lit_73, lit_75, lit_78, lit_84, lit_85, lit_86, lit_87, lit_89, lit_90, lit_91, lit_95, lit_96, lit_97, lit_98, lit_99, lit_100, lit_101, lit_102, lit_103, lit_104, lit_105, lit_107, lit_108, lit_109, lit_110, lit_111, lit_112, lit_114, lit_115, lit_116, lit_117, lit_119, lit_121, lit_122, lit_126, lit_127, lit_128, lit_130, lit_134, lit_137, lit_139, lit_140, lit_141, lit_145, lit_152, lit_159, lit_160, lit_168, lit_174, lit_180, lit_183, lit_192, lit_199, lit_236, lit_251, lit_255, lit_272, lit_284, lit_300, lit_330, lit_373, lit_753, lit_800, lit_896, lit_900, lit_1000, lit_1001, lit_1002, lit_1003, lit_1079, lit_1276, lit_1330, lit_1450, lit_3012, lit_3016, lit_3300, lit_8430, lit_9999, lit_10000, lit_11730, lit_30467, lit_65536, lit_99999, lit_100000, lit_1000000, lit_252645135, lit_858993459, lit_1000000000, lit_1431655765, jI_add, jI_sub, jI_mul, jI_neg, jI_lt, jI_le, jI_eq]
        by_cases h1 : t = 0
        · rw [if_pos h1]
          rw [if_neg (by omega)] at ih
          exact ih _ rfl
        · rw [if_neg h1]
          by_cases h2 : best (F (w + 1)) g b p = -1
          · rw [if_pos h2]
            rw [if_pos ⟨by omega, by omega, Or.inl h2⟩] at ih
            exact ih _ rfl
          · have hb1 := bid_r hi (p := p) (g := g) h0 (by omega) hg hg1
            have hb2 := bid_r hi (p := best (F (w + 1)) g b p) (g := g) (by omega) (by omega) hg hg1
            rw [if_neg h2, C_bidOf x F G hw hi h0 (by omega) hg hg1, b_I, C_bidOf x F G hw hi (by omega) (by omega) hg hg1, b_I]
            simp (disch := omega) only [jI_lt, jI_le, jI_eq]
            by_cases h3 : bid (F (w + 1)) p g ≤ bid (F (w + 1)) (best (F (w + 1)) g b p) g
            · rw [if_pos h3]
              rw [if_neg (by omega)] at ih
              exact ih _ rfl
            · rw [if_neg h3]
              rw [if_pos ⟨by omega, by omega, Or.inr (by omega)⟩] at ih
              exact ih _ rfl
      rw [E_World_highestBidder_5 x 3 (by omega) _ _ _ _ _ _ _ h5]
      simp (disch := omega) only [lit_0, lit_1, lit_2, lit_3, lit_4, lit_5, lit_6, lit_7, lit_8, lit_9, lit_10, lit_11, lit_12, lit_13, lit_14, lit_15, lit_16, lit_17, lit_18, lit_19, lit_20, lit_21, lit_22, lit_23, lit_24, lit_25, lit_26, lit_27, lit_28, lit_29, lit_30, lit_31, lit_32, lit_33, lit_34, lit_35, lit_36, lit_37, lit_38, lit_39, lit_40, lit_41, lit_42, lit_43, lit_44, lit_45, lit_46, lit_47, lit_48, lit_49, lit_50, lit_51, lit_52, lit_53, lit_54, lit_55, lit_56, lit_57, lit_58, lit_59, lit_60, lit_61, lit_62, lit_63, lit_64, lit_65, lit_67, lit_70, lit_71, lit_73, lit_75, lit_78, lit_84, lit_85, lit_86, lit_87, lit_89, lit_90, lit_91, lit_95, lit_96, lit_97, lit_98, lit_99, lit_100, lit_101, lit_102, lit_103, lit_104, lit_105, lit_107, lit_108, lit_109, lit_110, lit_111, lit_112, lit_114, lit_115, lit_116, lit_117, lit_119, lit_121, lit_122, lit_126, lit_127, lit_128, lit_130, lit_134, lit_137, lit_139, lit_140, lit_141, lit_145, lit_152, lit_159, lit_160, lit_168, lit_174, lit_180, lit_183, lit_192, lit_199, lit_236, lit_251, lit_255, lit_272, lit_284, lit_300, lit_330, lit_373, lit_753, lit_800, lit_896, lit_900, lit_1000, lit_1001, lit_1002, lit_1003, lit_1079, lit_1276, lit_1330, lit_1450, lit_3012, lit_3016, lit_3300, lit_8430, lit_9999, lit_10000, lit_11730, lit_30467, lit_65536, lit_99999, lit_100000, lit_1000000, lit_252645135, lit_858993459, lit_1000000000, lit_1431655765, jI_add, jI_sub, jI_mul, jI_neg, jI_lt, jI_le, jI_eq, isO_W, fR_W_0, ia_W, is_W, b_I, b_L, b_V, b_R, b_N, b_N0, Option.bind_some, ↓reduceIte, bq0, bq1, bz0, bz1, ite_not, Classical.not_not, C_at]
      rw [if_neg (by omega)]
      by_cases h1 : p = b
      · rw [if_pos h1]
        exact e38 0 (by omega) (by omega)
      · rw [if_neg h1]
        by_cases h2 : F (w + 1) (8 + p) ≤ 0
        · rw [if_pos h2]
          exact e38 0 (by omega) (by omega)
        · rw [if_neg h2]
          exact e38 1 (by omega) (by omega)
  exact key 0 (by omega) (by omega) none rfl
theorem C_isPair {w : Nat} {a b : Int} (hw : w = 1 ∨ w = 51 ∨ w = 101) (hi : WI (F (w + 1))) (ha : 0 ≤ a) (ha1 : a < F (w + 1) 25) (hb : 0 ≤ b) (hb1 : b < F (w + 1) 25) : m_M x k_World_isPair [.ref w, .int (jI a), .int (jI b)] (mk F G) = some (some (.int (jI (if (F (w + 1) (99 + a) = 0 ∨ F (w + 1) (99 + a) = 3) ∧ (F (w + 1) (99 + b) = 0 ∨ F (w + 1) (99 + b) = 3) ∧ F (w + 1) (87 + a) = F (w + 1) (87 + b) ∧ F (w + 1) (63 + a) = F (w + 1) (63 + b) then 1 else 0))), mk F G) := by
  have hc := WI_c hi
  have hga := WI_g hi ha (by omega)
  have hgb := WI_g hi hb (by omega)
  rw [E_World_isPair, C_isOpen x F G hw hi (by unfold rg; omega), b_I, C_isOpen x F G hw hi (by unfold rg; omega), b_I]
  simp (disch := omega) only [lit_0, lit_1, lit_2, lit_3, lit_4, lit_5, lit_6, lit_7, lit_8, lit_9, lit_10, lit_11, lit_12, lit_13, lit_14, lit_15, lit_16, lit_17, lit_18, lit_19, lit_20, lit_21, lit_22, lit_23, lit_24, lit_25, lit_26, lit_27, lit_28, lit_29, lit_30, lit_31, lit_32, lit_33, lit_34, lit_35, lit_36, lit_37, lit_38, lit_39, lit_40, lit_41, lit_42, lit_43, lit_44, lit_45, lit_46, lit_47, lit_48, lit_49, lit_50, lit_51, lit_52, lit_53, lit_54, lit_55, lit_56, lit_57, lit_58, lit_59, lit_60, lit_61, lit_62, lit_63, lit_64, lit_65, lit_67, lit_70, lit_71, lit_73, lit_75, lit_78, lit_84, lit_85, lit_86, lit_87, lit_89, lit_90, lit_91, lit_95, lit_96, lit_97, lit_98, lit_99, lit_100, lit_101, lit_102, lit_103, lit_104, lit_105, lit_107, lit_108, lit_109, lit_110, lit_111, lit_112, lit_114, lit_115, lit_116, lit_117, lit_119, lit_121, lit_122, lit_126, lit_127, lit_128, lit_130, lit_134, lit_137, lit_139, lit_140, lit_141, lit_145, lit_152, lit_159, lit_160, lit_168, lit_174, lit_180, lit_183, lit_192, lit_199, lit_236, lit_251, lit_255, lit_272, lit_284, lit_300, lit_330, lit_373, lit_753, lit_800, lit_896, lit_900, lit_1000, lit_1001, lit_1002, lit_1003, lit_1079, lit_1276, lit_1330, lit_1450, lit_3012, lit_3016, lit_3300, lit_8430, lit_9999, lit_10000, lit_11730, lit_30467, lit_65536, lit_99999, lit_100000, lit_1000000, lit_252645135, lit_858993459, lit_1000000000, lit_1431655765, jI_add, jI_sub, jI_mul, jI_neg, jI_lt, jI_le, jI_eq, isO_W, fR_W_0, ia_W, is_W, b_I, b_L, b_V, b_R, b_N, b_N0, Option.bind_some, ↓reduceIte, bq0, bq1, bz0, bz1, ite_not, Classical.not_not, C_at]
  by_cases h1 : F (w + 1) (99 + a) = 0 ∨ F (w + 1) (99 + a) = 3
  · rw [if_pos ⟨ha, ha1, h1⟩]
    by_cases h2 : F (w + 1) (99 + b) = 0 ∨ F (w + 1) (99 + b) = 3
    · rw [if_pos ⟨hb, hb1, h2⟩]
      by_cases h3 : F (w + 1) (87 + a) = F (w + 1) (87 + b)
      · rw [if_pos h3]
        by_cases h4 : F (w + 1) (63 + a) = F (w + 1) (63 + b)
        · rw [if_pos h4, if_pos ⟨h1, h2, h3, h4⟩]
        · rw [if_neg h4, if_neg (fun z => h4 z.2.2.2)]
      · rw [if_neg h3, if_neg (fun z => h3 z.2.2.1)]
    · rw [if_neg (fun z => h2 z.2.2), if_neg (fun z => h2 z.2.1)]
  · rw [if_neg (fun z => h1 z.2.2), if_neg (fun z => h1 z.1)]
theorem C_takeOverW {w r : Nat} (hw : w = 1 ∨ w = 51 ∨ w = 101) (hr : r = 1 ∨ r = 51 ∨ r = 101) : m_M x k_World_takeOver [.ref w, .ref r] (mk F G) = some (none, mk (sA F (w + 1) (cp (F (r + 1)) (F (w + 1)) 0 0 141)) G) := by
  rw [E_World_takeOver]
  simp (disch := omega) only [lit_0, lit_1, lit_2, lit_3, lit_4, lit_5, lit_6, lit_7, lit_8, lit_9, lit_10, lit_11, lit_12, lit_13, lit_14, lit_15, lit_16, lit_17, lit_18, lit_19, lit_20, lit_21, lit_22, lit_23, lit_24, lit_25, lit_26, lit_27, lit_28, lit_29, lit_30, lit_31, lit_32, lit_33, lit_34, lit_35, lit_36, lit_37, lit_38, lit_39, lit_40, lit_41, lit_42, lit_43, lit_44, lit_45, lit_46, lit_47, lit_48, lit_49, lit_50, lit_51, lit_52, lit_53, lit_54, lit_55, lit_56, lit_57, lit_58, lit_59, lit_60, lit_61, lit_62, lit_63, lit_64, lit_65, lit_67, lit_70, lit_71, lit_73, lit_75, lit_78, lit_84, lit_85, lit_86, lit_87, lit_89, lit_90, lit_91, lit_95, lit_96, lit_97, lit_98, lit_99, lit_100, lit_101, lit_102, lit_103, lit_104, lit_105, lit_107, lit_108, lit_109, lit_110, lit_111, lit_112, lit_114, lit_115, lit_116, lit_117, lit_119, lit_121, lit_122, lit_126, lit_127, lit_128, lit_130, lit_134, lit_137, lit_139, lit_140, lit_141, lit_145, lit_152, lit_159, lit_160, lit_168, lit_174, lit_180, lit_183, lit_192, lit_199, lit_236, lit_251, lit_255, lit_272, lit_284, lit_300, lit_330, lit_373, lit_753, lit_800, lit_896, lit_900, lit_1000, lit_1001, lit_1002, lit_1003, lit_1079, lit_1276, lit_1330, lit_1450, lit_3012, lit_3016, lit_3300, lit_8430, lit_9999, lit_10000, lit_11730, lit_30467, lit_65536, lit_99999, lit_100000, lit_1000000, lit_252645135, lit_858993459, lit_1000000000, lit_1431655765, isO_W, fR_W_0, ia_W, is_W, b_I, b_L, b_V, b_R, b_N, b_N0, Option.bind_some, ↓reduceIte, bq0, bq1, bz0, bz1, ite_not, Classical.not_not]
  rw [mk_cpy (n := 141) (m := 141) F G (by omega) (by omega) (by rcases hr with rfl | rfl | rfl <;> rfl) (by rcases hw with rfl | rfl | rfl <;> rfl) (by omega) (by omega) (by omega) (by omega) (by omega) (by omega) (by omega)]
  rfl
theorem C_writeFine {w : Nat} {p k : Int} (hw : w = 1 ∨ w = 51 ∨ w = 101) (hi : WI (F (w + 1))) : m_M x k_World_writeFine [.ref w, .int (jI p), .int (jI k)] (mk F G) = some (none, mk (sA F (w + 1) (wFine (F (w + 1)) p k)) G) := by
  have hc := WI_c hi
  rw [E_World_writeFine]
  simp (disch := omega) only [lit_0, lit_1, lit_2, lit_3, lit_4, lit_5, lit_6, lit_7, lit_8, lit_9, lit_10, lit_11, lit_12, lit_13, lit_14, lit_15, lit_16, lit_17, lit_18, lit_19, lit_20, lit_21, lit_22, lit_23, lit_24, lit_25, lit_26, lit_27, lit_28, lit_29, lit_30, lit_31, lit_32, lit_33, lit_34, lit_35, lit_36, lit_37, lit_38, lit_39, lit_40, lit_41, lit_42, lit_43, lit_44, lit_45, lit_46, lit_47, lit_48, lit_49, lit_50, lit_51, lit_52, lit_53, lit_54, lit_55, lit_56, lit_57, lit_58, lit_59, lit_60, lit_61, lit_62, lit_63, lit_64, lit_65, lit_67, lit_70, lit_71, lit_73, lit_75, lit_78, lit_84, lit_85, lit_86, lit_87, lit_89, lit_90, lit_91, lit_95, lit_96, lit_97, lit_98, lit_99, lit_100, lit_101, lit_102, lit_103, lit_104, lit_105, lit_107, lit_108, lit_109, lit_110, lit_111, lit_112, lit_114, lit_115, lit_116, lit_117, lit_119, lit_121, lit_122, lit_126, lit_127, lit_128, lit_130, lit_134, lit_137, lit_139, lit_140, lit_141, lit_145, lit_152, lit_159, lit_160, lit_168, lit_174, lit_180, lit_183, lit_192, lit_199, lit_236, lit_251, lit_255, lit_272, lit_284, lit_300, lit_330, lit_373, lit_753, lit_800, lit_896, lit_900, lit_1000, lit_1001, lit_1002, lit_1003, lit_1079, lit_1276, lit_1330, lit_1450, lit_3012, lit_3016, lit_3300, lit_8430, lit_9999, lit_10000, lit_11730, lit_30467, lit_65536, lit_99999, lit_100000, lit_1000000, lit_252645135, lit_858993459, lit_1000000000, lit_1431655765, jI_add, jI_sub, jI_mul, jI_neg, jI_lt, jI_le, jI_eq, isO_W, fR_W_0, ia_W, is_W, b_I, b_L, b_V, b_R, b_N, b_N0, Option.bind_some, ↓reduceIte, bq0, bq1, bz0, bz1, ite_not, Classical.not_not]
  unfold wFine
  by_cases h : F (w + 1) 26 < 30
  · rw [if_pos h, if_pos h, E_World_writeFine_38 x 2 (by omega)]
    simp (disch := omega) only [lit_0, lit_1, lit_2, lit_3, lit_4, lit_5, lit_6, lit_7, lit_8, lit_9, lit_10, lit_11, lit_12, lit_13, lit_14, lit_15, lit_16, lit_17, lit_18, lit_19, lit_20, lit_21, lit_22, lit_23, lit_24, lit_25, lit_26, lit_27, lit_28, lit_29, lit_30, lit_31, lit_32, lit_33, lit_34, lit_35, lit_36, lit_37, lit_38, lit_39, lit_40, lit_41, lit_42, lit_43, lit_44, lit_45, lit_46, lit_47, lit_48, lit_49, lit_50, lit_51, lit_52, lit_53, lit_54, lit_55, lit_56, lit_57, lit_58, lit_59, lit_60, lit_61, lit_62, lit_63, lit_64, lit_65, lit_67, lit_70, lit_71, lit_73, lit_75, lit_78, lit_84, lit_85, lit_86, lit_87, lit_89, lit_90, lit_91, lit_95, lit_96, lit_97, lit_98, lit_99, lit_100, lit_101, lit_102, lit_103, lit_104, lit_105, lit_107, lit_108, lit_109, lit_110, lit_111, lit_112, lit_114, lit_115, lit_116, lit_117, lit_119, lit_121, lit_122, lit_126, lit_127, lit_128, lit_130, lit_134, lit_137, lit_139, lit_140, lit_141, lit_145, lit_152, lit_159, lit_160, lit_168, lit_174, lit_180, lit_183, lit_192, lit_199, lit_236, lit_251, lit_255, lit_272, lit_284, lit_300, lit_330, lit_373, lit_753, lit_800, lit_896, lit_900, lit_1000, lit_1001, lit_1002, lit_1003, lit_1079, lit_1276, lit_1330, lit_1450, lit_3012, lit_3016, lit_3300, lit_8430, lit_9999, lit_10000, lit_11730, lit_30467, lit_65536, lit_99999, lit_100000, lit_1000000, lit_252645135, lit_858993459, lit_1000000000, lit_1431655765, jI_add, jI_sub, jI_mul, jI_neg, jI_lt, jI_le, jI_eq, isO_W, fR_W_0, ia_W, is_W, b_I, b_L, b_V, b_R, b_N, b_N0, Option.bind_some, ↓reduceIte, bq0, bq1, bz0, bz1, ite_not, Classical.not_not, C_change, sA_eq, sA_sA, u_ne]
  · rw [if_neg h, if_neg h, mk_cpy (n := 141) (m := 141) F G (by omega) (by omega) (by rcases hw with rfl | rfl | rfl <;> rfl) (by rcases hw with rfl | rfl | rfl <;> rfl) (by omega) (by omega) (by omega) (by omega) (by omega) (by omega) (by omega)]
    simp (disch := omega) only [isO_W, fR_W_0, ia_W, is_W, b_I, b_L, b_V, b_R, b_N, b_N0, Option.bind_some, ↓reduceIte, bq0, bq1, bz0, bz1, ite_not, Classical.not_not, sA_eq, sA_sA]
    rw [E_World_writeFine_38 x 2 (by omega)]
    simp (disch := omega) only [lit_0, lit_1, lit_2, lit_3, lit_4, lit_5, lit_6, lit_7, lit_8, lit_9, lit_10, lit_11, lit_12, lit_13, lit_14, lit_15, lit_16, lit_17, lit_18, lit_19, lit_20, lit_21, lit_22, lit_23, lit_24, lit_25, lit_26, lit_27, lit_28, lit_29, lit_30, lit_31, lit_32, lit_33, lit_34, lit_35, lit_36, lit_37, lit_38, lit_39, lit_40, lit_41, lit_42, lit_43, lit_44, lit_45, lit_46, lit_47, lit_48, lit_49, lit_50, lit_51, lit_52, lit_53, lit_54, lit_55, lit_56, lit_57, lit_58, lit_59, lit_60, lit_61, lit_62, lit_63, lit_64, lit_65, lit_67, lit_70, lit_71, lit_73, lit_75, lit_78, lit_84, lit_85, lit_86, lit_87, lit_89, lit_90, lit_91, lit_95, lit_96, lit_97, lit_98, lit_99, lit_100, lit_101, lit_102, lit_103, lit_104, lit_105, lit_107, lit_108, lit_109, lit_110, lit_111, lit_112, lit_114, lit_115, lit_116, lit_117, lit_119, lit_121, lit_122, lit_126, lit_127, lit_128, lit_130, lit_134, lit_137, lit_139, lit_140, lit_141, lit_145, lit_152, lit_159, lit_160, lit_168, lit_174, lit_180, lit_183, lit_192, lit_199, lit_236, lit_251, lit_255, lit_272, lit_284, lit_300, lit_330, lit_373, lit_753, lit_800, lit_896, lit_900, lit_1000, lit_1001, lit_1002, lit_1003, lit_1079, lit_1276, lit_1330, lit_1450, lit_3012, lit_3016, lit_3300, lit_8430, lit_9999, lit_10000, lit_11730, lit_30467, lit_65536, lit_99999, lit_100000, lit_1000000, lit_252645135, lit_858993459, lit_1000000000, lit_1431655765, jI_add, jI_sub, jI_mul, jI_neg, jI_lt, jI_le, jI_eq, isO_W, fR_W_0, ia_W, is_W, b_I, b_L, b_V, b_R, b_N, b_N0, Option.bind_some, ↓reduceIte, bq0, bq1, bz0, bz1, ite_not, Classical.not_not, C_change, sA_eq, sA_sA, u_ne, u_eq]
    have e : cp (F (w + 1)) (F (w + 1)) 112 111 29 22 = F (w + 1) 22 := by
      unfold cp
      rw [if_neg (by omega)]
    rw [e]
    rfl
end
