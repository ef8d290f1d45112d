-- loops, small helpers, the worlds' methods
def rg (z : Int) : Prop := -2147483648 ≤ z ∧ z ≤ 2147483647
theorem bq0 {P : Prop} [Decidable P] : (jI (if P then 1 else 0) = jI 0) = ¬ P := by
  by_cases h : P
  · rw [if_pos h]; simp [h]; decide
  · rw [if_neg h]; simp [h]
theorem bq1 {P : Prop} [Decidable P] : (jI (if P then 1 else 0) = jI 1) = P := by
  by_cases h : P
  · rw [if_pos h]; simp [h]
  · rw [if_neg h]; simp [h]; decide
theorem bz0 {P : Prop} [Decidable P] : ((if P then (1 : Int) else 0) = 0) = ¬ P := by
  by_cases h : P
  · rw [if_pos h]; simp [h]
  · rw [if_neg h]; simp [h]
theorem bz1 {P : Prop} [Decidable P] : ((if P then (1 : Int) else 0) = 1) = P := by
  by_cases h : P
  · rw [if_pos h]; simp [h]
  · rw [if_neg h]; simp [h]
theorem down {P : Int → Prop} {n : Int} (h0 : P n) {m : Int} (hs : ∀ g, m ≤ g → g < n → P (g + 1) → P g) : ∀ g, m ≤ g → g ≤ n → P g := by
  have : ∀ d : Nat, ∀ g, m ≤ g → g + d = n → P g := by
    intro d
    induction d with
    | zero => intro g _ e; have : g = n := by omega
              rw [this]; exact h0
    | succ d ih => intro g hm e; exact hs g hm (by omega) (ih (g + 1) (by omega) (by omega))
  intro g hm hg
  exact this (n - g).toNat g hm (by omega)
/-- the sum of f below n -/
def smN (f : Int → Int) : Nat → Int
  | 0 => 0
  | n + 1 => smN f n + f n
def sm (f : Int → Int) (n : Int) : Int := smN f n.toNat
theorem sm_0 (f : Int → Int) : sm f 0 = 0 := rfl
theorem sm_s (f : Int → Int) {n : Int} (h : 0 ≤ n) : sm f (n + 1) = sm f n + f n := by
  unfold sm
  have : (n + 1).toNat = n.toNat + 1 := by omega
  rw [this, smN, Int.toNat_of_nonneg h]
theorem sm_congr {f g : Int → Int} {n : Int} (h : ∀ i, 0 ≤ i → i < n → f i = g i) : sm f n = sm g n := by
  unfold sm
  have : ∀ k : Nat, (∀ i : Int, 0 ≤ i → i < k → f i = g i) → smN f k = smN g k := by
    intro k
    induction k with
    | zero => intro _; rfl
    | succ k ih => intro h; rw [smN, smN, ih (fun i a b => h i a (by omega)), h k (by omega) (by omega)]
  exact this _ (fun i a b => h i a (by omega))
theorem sm_le {f : Int → Int} {n a b : Int} (hn : 0 ≤ n) (h : ∀ i, 0 ≤ i → i < n → a ≤ f i ∧ f i ≤ b) : a * n ≤ sm f n ∧ sm f n ≤ b * n := by
  unfold sm
  have : ∀ k : Nat, (∀ i : Int, 0 ≤ i → i < k → a ≤ f i ∧ f i ≤ b) → a * k ≤ smN f k ∧ smN f k ≤ b * k := by
    intro k
    induction k with
    | zero => intro _; simp [smN]
    | succ k ih =>
      intro h
      have h1 := ih (fun i a b => h i a (by omega))
      have h2 := h k (by omega) (by omega)
      rw [smN]
      have e1 : a * ((k + 1 : Nat) : Int) = a * k + a := by rw [Int.natCast_add]; simp [Int.mul_add]
      have e2 : b * ((k + 1 : Nat) : Int) = b * k + b := by rw [Int.natCast_add]; simp [Int.mul_add]
      omega
  have h2 := this n.toNat (fun i a b => h i a (by omega))
  rw [Int.toNat_of_nonneg hn] at h2
  exact h2
section
variable (x : m_X) (F G : Nat → Fn)
theorem C_isIn {a b c : Int} (ha : rg a) (hb : rg b) (hc : rg c) : m_M x k_G_isIn [.int (jI a), .int (jI b), .int (jI c)] (mk F G) = some (some (.int (jI (if b ≤ a ∧ a ≤ c then 1 else 0))), mk F G) := by
  unfold rg at ha hb hc
  rw [E_G_isIn]
  simp (disch := omega) only [lit_0, lit_1, lit_2, lit_3, lit_4, lit_5, lit_6, lit_7, lit_8, lit_9, lit_10, lit_11, lit_12, lit_13, lit_14, lit_15, lit_16, lit_17, lit_18, lit_19, lit_20, lit_21, lit_22, lit_23, lit_24, lit_25, lit_26, lit_27, lit_28, lit_29, lit_30, lit_31, lit_32, lit_33, lit_34, lit_35, lit_36, lit_37, lit_38, lit_39, lit_40, lit_41, lit_42, lit_43, lit_44, lit_45, lit_46, lit_47, lit_48, lit_49, lit_50, lit_51, lit_52, lit_53, lit_54, lit_55, lit_56, lit_57, lit_58, lit_59, lit_60, lit_61, lit_62, lit_63, lit_64, lit_65, lit_67, lit_70, lit_71, lit_73, lit_75, lit_78, lit_84, lit_85, lit_86, lit_87, lit_89, lit_90, lit_91, lit_95, lit_96, lit_97, lit_98, lit_99, lit_100, lit_101, lit_102, lit_103, lit_104, lit_105, lit_107, lit_108, lit_109, lit_110, lit_111, lit_112, lit_114, lit_115, lit_116, lit_117, lit_119, lit_121, lit_122, lit_126, lit_127, lit_128, lit_130, lit_134, lit_137, lit_139, lit_140, lit_141, lit_145, lit_152, lit_159, lit_160, lit_168, lit_174, lit_180, lit_183, lit_192, lit_199, lit_236, lit_251, lit_255, lit_272, lit_284, lit_300, lit_330, lit_373, lit_753, lit_800, lit_896, lit_900, lit_1000, lit_1001, lit_1002, lit_1003, lit_1079, lit_1276, lit_1330, lit_1450, lit_3012, lit_3016, lit_3300, lit_8430, lit_9999, lit_10000, lit_11730, lit_30467, lit_65536, lit_99999, lit_100000, lit_1000000, lit_252645135, lit_858993459, lit_1000000000, lit_1431655765, jI_lt, jI_le, jI_eq, b_I, b_L, b_V, b_R, b_N, b_N0, Option.bind_some, ↓reduceIte, bq0, bq1, bz0, bz1, ite_not, Classical.not_not]
  split
  · rw [if_neg (by omega)]
  · split
    · rw [if_neg (by omega)]
    · rw [if_pos (by omega)]
theorem C_at {w : Nat} {p i : Int} (hw : w = 1 ∨ w = 51 ∨ w = 101) (h0 : 0 ≤ p + i) (h1 : p + i < 141) : m_M x k_World_at [.ref w, .int (jI p), .int (jI i)] (mk F G) = some (some (.int (jI (F (w + 1) (p + i)))), mk F G) := by
  rw [E_World_at]
  simp (disch := omega) only [lit_0, lit_1, lit_2, lit_3, lit_4, lit_5, lit_6, lit_7, lit_8, lit_9, lit_10, lit_11, lit_12, lit_13, lit_14, lit_15, lit_16, lit_17, lit_18, lit_19, lit_20, lit_21, lit_22, lit_23, lit_24, lit_25, lit_26, lit_27, lit_28, lit_29, lit_30, lit_31, lit_32, lit_33, lit_34, lit_35, lit_36, lit_37, lit_38, lit_39, lit_40, lit_41, lit_42, lit_43, lit_44, lit_45, lit_46, lit_47, lit_48, lit_49, lit_50, lit_51, lit_52, lit_53, lit_54, lit_55, lit_56, lit_57, lit_58, lit_59, lit_60, lit_61, lit_62, lit_63, lit_64, lit_65, lit_67, lit_70, lit_71, lit_73, lit_75, lit_78, lit_84, lit_85, lit_86, lit_87, lit_89, lit_90, lit_91, lit_95, lit_96, lit_97, lit_98, lit_99, lit_100, lit_101, lit_102, lit_103, lit_104, lit_105, lit_107, lit_108, lit_109, lit_110, lit_111, lit_112, lit_114, lit_115, lit_116, lit_117, lit_119, lit_121, lit_122, lit_126, lit_127, lit_128, lit_130, lit_134, lit_137, lit_139, lit_140, lit_141, lit_145, lit_152, lit_159, lit_160, lit_168, lit_174, lit_180, lit_183, lit_192, lit_199, lit_236, lit_251, lit_255, lit_272, lit_284, lit_300, lit_330, lit_373, lit_753, lit_800, lit_896, lit_900, lit_1000, lit_1001, lit_1002, lit_1003, lit_1079, lit_1276, lit_1330, lit_1450, lit_3012, lit_3016, lit_3300, lit_8430, lit_9999, lit_10000, lit_11730, lit_30467, lit_65536, lit_99999, lit_100000, lit_1000000, lit_252645135, lit_858993459, lit_1000000000, lit_1431655765, jI_add, jI_sub, jI_mul, jI_neg, jI_lt, jI_le, jI_eq, isO_W, fR_W_0, ia_W, is_W, b_I, b_L, b_V, b_R, b_N, b_N0, Option.bind_some, ↓reduceIte, bq0, bq1, bz0, bz1, ite_not, Classical.not_not, if_pos, if_neg]
theorem C_change {w : Nat} {p i v : Int} (hw : w = 1 ∨ w = 51 ∨ w = 101) (h0 : 0 ≤ p + i) (h1 : p + i < 141) : m_M x k_World_change [.ref w, .int (jI p), .int (jI i), .int (jI v)] (mk F G) = some (none, mk (sA F (w + 1) (u (F (w + 1)) (p + i) v)) G) := by
  rw [E_World_change]
  simp (disch := omega) only [lit_0, lit_1, lit_2, lit_3, lit_4, lit_5, lit_6, lit_7, lit_8, lit_9, lit_10, lit_11, lit_12, lit_13, lit_14, lit_15, lit_16, lit_17, lit_18, lit_19, lit_20, lit_21, lit_22, lit_23, lit_24, lit_25, lit_26, lit_27, lit_28, lit_29, lit_30, lit_31, lit_32, lit_33, lit_34, lit_35, lit_36, lit_37, lit_38, lit_39, lit_40, lit_41, lit_42, lit_43, lit_44, lit_45, lit_46, lit_47, lit_48, lit_49, lit_50, lit_51, lit_52, lit_53, lit_54, lit_55, lit_56, lit_57, lit_58, lit_59, lit_60, lit_61, lit_62, lit_63, lit_64, lit_65, lit_67, lit_70, lit_71, lit_73, lit_75, lit_78, lit_84, lit_85, lit_86, lit_87, lit_89, lit_90, lit_91, lit_95, lit_96, lit_97, lit_98, lit_99, lit_100, lit_101, lit_102, lit_103, lit_104, lit_105, lit_107, lit_108, lit_109, lit_110, lit_111, lit_112, lit_114, lit_115, lit_116, lit_117, lit_119, lit_121, lit_122, lit_126, lit_127, lit_128, lit_130, lit_134, lit_137, lit_139, lit_140, lit_141, lit_145, lit_152, lit_159, lit_160, lit_168, lit_174, lit_180, lit_183, lit_192, lit_199, lit_236, lit_251, lit_255, lit_272, lit_284, lit_300, lit_330, lit_373, lit_753, lit_800, lit_896, lit_900, lit_1000, lit_1001, lit_1002, lit_1003, lit_1079, lit_1276, lit_1330, lit_1450, lit_3012, lit_3016, lit_3300, lit_8430, lit_9999, lit_10000, lit_11730, lit_30467, lit_65536, lit_99999, lit_100000, lit_1000000, lit_252645135, lit_858993459, lit_1000000000, lit_1431655765, jI_add, jI_sub, jI_mul, jI_neg, jI_lt, jI_le, jI_eq, isO_W, fR_W_0, ia_W, is_W, b_I, b_L, b_V, b_R, b_N, b_N0, Option.bind_some, ↓reduceIte, bq0, bq1, bz0, bz1, ite_not, Classical.not_not, if_pos, if_neg]
theorem C_hasOne {w : Nat} {p : Int} (hw : w = 1 ∨ w = 51 ∨ w = 101) (hp : rg p) (hc : rg (F (w + 1) 0)) : m_M x k_World_hasOne [.ref w, .int (jI p)] (mk F G) = some (some (.int (jI (if 0 ≤ p ∧ p < F (w + 1) 0 then 1 else 0))), mk F G) := by
  unfold rg at *
  rw [E_World_hasOne]
  simp (disch := omega) only [lit_0, lit_1, lit_2, lit_3, lit_4, lit_5, lit_6, lit_7, lit_8, lit_9, lit_10, lit_11, lit_12, lit_13, lit_14, lit_15, lit_16, lit_17, lit_18, lit_19, lit_20, lit_21, lit_22, lit_23, lit_24, lit_25, lit_26, lit_27, lit_28, lit_29, lit_30, lit_31, lit_32, lit_33, lit_34, lit_35, lit_36, lit_37, lit_38, lit_39, lit_40, lit_41, lit_42, lit_43, lit_44, lit_45, lit_46, lit_47, lit_48, lit_49, lit_50, lit_51, lit_52, lit_53, lit_54, lit_55, lit_56, lit_57, lit_58, lit_59, lit_60, lit_61, lit_62, lit_63, lit_64, lit_65, lit_67, lit_70, lit_71, lit_73, lit_75, lit_78, lit_84, lit_85, lit_86, lit_87, lit_89, lit_90, lit_91, lit_95, lit_96, lit_97, lit_98, lit_99, lit_100, lit_101, lit_102, lit_103, lit_104, lit_105, lit_107, lit_108, lit_109, lit_110, lit_111, lit_112, lit_114, lit_115, lit_116, lit_117, lit_119, lit_121, lit_122, lit_126, lit_127, lit_128, lit_130, lit_134, lit_137, lit_139, lit_140, lit_141, lit_145, lit_152, lit_159, lit_160, lit_168, lit_174, lit_180, lit_183, lit_192, lit_199, lit_236, lit_251, lit_255, lit_272, lit_284, lit_300, lit_330, lit_373, lit_753, lit_800, lit_896, lit_900, lit_1000, lit_1001, lit_1002, lit_1003, lit_1079, lit_1276, lit_1330, lit_1450, lit_3012, lit_3016, lit_3300, lit_8430, lit_9999, lit_10000, lit_11730, lit_30467, lit_65536, lit_99999, lit_100000, lit_1000000, lit_252645135, lit_858993459, lit_1000000000, lit_1431655765, jI_add, jI_sub, jI_mul, jI_neg, jI_lt, jI_le, jI_eq, isO_W, fR_W_0, ia_W, is_W, b_I, b_L, b_V, b_R, b_N, b_N0, Option.bind_some, ↓reduceIte, bq0, bq1, bz0, bz1, ite_not, Classical.not_not]
  split
  · rw [if_neg (by omega)]
  · split
    · rw [if_neg (by omega)]
    · rw [if_pos (by omega)]
end
