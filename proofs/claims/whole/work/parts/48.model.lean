-- the model's row read as a world
abbrev vok (k : Int) : Prop := 0 ≤ k ∧ k < 111 ∧ ¬ k = 26
def io (k : Int) : Int := if k = 0 then 0 else if k < 8 then 111 + k else if k < 22 then 5 + k else if k < 26 then k - 14 else 27 + 7 * ((k - 27) % 12) + (k - 27) / 12
def V (a : Fn) : Fn := fun k => if vok k then a (io k) else 0
theorem io_inj {k z : Int} (hk : vok k) (hz : vok z) (h : io k = io z) : k = z := by
  unfold vok at hk hz
  unfold io at h
  split at h <;> split at h <;> (try split at h) <;> (try split at h) <;> (try split at h) <;> (try split at h) <;> (try split at h) <;> (try split at h) <;> omega
theorem V_u {a : Fn} {z y v : Int} (hz : vok z) (h : io z = y) : V (u a y v) = u (V a) z v := by
  funext k
  simp only [V, u]
  by_cases hk : vok k
  · rw [if_pos hk, if_pos hk]
    by_cases e : k = z
    · rw [if_pos e, if_pos (by rw [e]; exact h)]
    · rw [if_neg e, if_neg (fun q => e (io_inj hk hz (by rw [q, h])))]
  · rw [if_neg hk, if_neg hk, if_neg (fun e => hk (by rw [e]; exact hz))]
theorem V_sk (a : Fn) {y : Int} (v : Int) (h : (1 ≤ y ∧ y ≤ 7) ∨ y = 12 ∨ y = 111 ∨ 119 ≤ y) : V (u a y v) = V a := by
  funext k
  simp only [V, u]
  by_cases hk : vok k
  · rw [if_pos hk, if_pos hk, if_neg]
    unfold vok at hk
    unfold io
    split
    · omega
    · split
      · omega
      · split
        · omega
        · split <;> omega
  · rw [if_neg hk, if_neg hk]
theorem V_at {a : Fn} {k y : Int} (hk : vok k) (h : io k = y) : V a k = a y := by
  unfold V
  rw [if_pos hk, h]
theorem io_h {p : Int} (h0 : 0 ≤ p) (h1 : p < 7) : io (1 + p) = 112 + p := by
  unfold io
  rw [if_neg (by omega), if_pos (by omega)]; omega
theorem io_c {p : Int} (h0 : 0 ≤ p) (h1 : p < 7) : io (8 + p) = 13 + p := by
  unfold io
  rw [if_neg (by omega), if_neg (by omega), if_pos (by omega)]; omega
theorem io_d {p : Int} (h0 : 0 ≤ p) (h1 : p < 7) : io (15 + p) = 20 + p := by
  unfold io
  rw [if_neg (by omega), if_neg (by omega), if_pos (by omega)]; omega
theorem io_g {g k : Int} (h0 : 0 ≤ g) (h1 : g < 12) (h2 : 0 ≤ k) (h3 : k < 7) : io (27 + 12 * k + g) = 27 + 7 * g + k := by
  unfold io
  rw [if_neg (by omega), if_neg (by omega), if_neg (by omega), if_neg (by omega)]; omega
theorem V_0 (a : Fn) : V a 0 = a 0 := V_at (by unfold vok; omega) rfl
theorem V_22 (a : Fn) : V a 22 = a 8 := V_at (by unfold vok; omega) rfl
theorem V_23 (a : Fn) : V a 23 = a 9 := V_at (by unfold vok; omega) rfl
theorem V_24 (a : Fn) : V a 24 = a 10 := V_at (by unfold vok; omega) rfl
theorem V_25 (a : Fn) : V a 25 = a 11 := V_at (by unfold vok; omega) rfl
theorem V_h (a : Fn) {p : Int} (h0 : 0 ≤ p) (h1 : p < 7) : V a (1 + p) = a (112 + p) := V_at (by unfold vok; omega) (io_h h0 h1)
theorem V_c (a : Fn) {p : Int} (h0 : 0 ≤ p) (h1 : p < 7) : V a (8 + p) = a (13 + p) := V_at (by unfold vok; omega) (io_c h0 h1)
theorem V_d (a : Fn) {p : Int} (h0 : 0 ≤ p) (h1 : p < 7) : V a (15 + p) = a (20 + p) := V_at (by unfold vok; omega) (io_d h0 h1)
theorem V_g (a : Fn) {g k : Int} (h0 : 0 ≤ g) (h1 : g < 12) (h2 : 0 ≤ k) (h3 : k < 7) : V a (27 + 12 * k + g) = a (27 + 7 * g + k) := V_at (by unfold vok; omega) (io_g h0 h1 h2 h3)
theorem Vu_0 (a : Fn) (v : Int) : V (u a 0 v) = u (V a) 0 v := V_u (by unfold vok; omega) rfl
theorem Vu_8 (a : Fn) (v : Int) : V (u a 8 v) = u (V a) 22 v := V_u (by unfold vok; omega) rfl
theorem Vu_9 (a : Fn) (v : Int) : V (u a 9 v) = u (V a) 23 v := V_u (by unfold vok; omega) rfl
theorem Vu_10 (a : Fn) (v : Int) : V (u a 10 v) = u (V a) 24 v := V_u (by unfold vok; omega) rfl
theorem Vu_11 (a : Fn) (v : Int) : V (u a 11 v) = u (V a) 25 v := V_u (by unfold vok; omega) rfl
theorem Vu_h (a : Fn) {p : Int} (v : Int) (h0 : 0 ≤ p) (h1 : p < 7) : V (u a (112 + p) v) = u (V a) (1 + p) v := V_u (by unfold vok; omega) (io_h h0 h1)
theorem Vu_c (a : Fn) {p : Int} (v : Int) (h0 : 0 ≤ p) (h1 : p < 7) : V (u a (13 + p) v) = u (V a) (8 + p) v := V_u (by unfold vok; omega) (io_c h0 h1)
theorem Vu_d (a : Fn) {p : Int} (v : Int) (h0 : 0 ≤ p) (h1 : p < 7) : V (u a (20 + p) v) = u (V a) (15 + p) v := V_u (by unfold vok; omega) (io_d h0 h1)
theorem Vu_g (a : Fn) {g k : Int} (v : Int) (h0 : 0 ≤ g) (h1 : g < 12) (h2 : 0 ≤ k) (h3 : k < 7) : V (u a (27 + 7 * g + k) v) = u (V a) (27 + 12 * k + g) v := V_u (by unfold vok; omega) (io_g h0 h1 h2 h3)
theorem rkb {P : Prop} [Decidable P] : (m_rk (some .boolean) (some (.int (jI (if P then 1 else 0)))) = true) = True := by
  by_cases h : P
  · rw [if_pos h]; simp; decide
  · rw [if_neg h]; simp; decide
section
variable (x : m_X) (F G : Nat → Fn)
theorem va_0 : m_ia x (mk F G) 150 (jI 0) = some (jI (V (F 150) 0)) := by rw [ia_150 x F G (by omega) (by omega), V_0]
theorem va_8 : m_ia x (mk F G) 150 (jI 8) = some (jI (V (F 150) 22)) := by rw [ia_150 x F G (by omega) (by omega), V_22]
theorem va_9 : m_ia x (mk F G) 150 (jI 9) = some (jI (V (F 150) 23)) := by rw [ia_150 x F G (by omega) (by omega), V_23]
theorem va_10 : m_ia x (mk F G) 150 (jI 10) = some (jI (V (F 150) 24)) := by rw [ia_150 x F G (by omega) (by omega), V_24]
theorem va_11 : m_ia x (mk F G) 150 (jI 11) = some (jI (V (F 150) 25)) := by rw [ia_150 x F G (by omega) (by omega), V_25]
theorem va_h {p : Int} (h0 : 0 ≤ p) (h1 : p < 7) : m_ia x (mk F G) 150 (jI (112 + p)) = some (jI (V (F 150) (1 + p))) := by rw [ia_150 x F G (by omega) (by omega), V_h _ h0 h1]
theorem va_c {p : Int} (h0 : 0 ≤ p) (h1 : p < 7) : m_ia x (mk F G) 150 (jI (13 + p)) = some (jI (V (F 150) (8 + p))) := by rw [ia_150 x F G (by omega) (by omega), V_c _ h0 h1]
theorem va_d {p : Int} (h0 : 0 ≤ p) (h1 : p < 7) : m_ia x (mk F G) 150 (jI (20 + p)) = some (jI (V (F 150) (15 + p))) := by rw [ia_150 x F G (by omega) (by omega), V_d _ h0 h1]
theorem va_g {g k : Int} (h0 : 0 ≤ g) (h1 : g < 12) (h2 : 0 ≤ k) (h3 : k < 7) : m_ia x (mk F G) 150 (jI (27 + 7 * g + k)) = some (jI (V (F 150) (27 + 12 * k + g))) := by rw [ia_150 x F G (by omega) (by omega), V_g _ h0 h1 h2 h3]
theorem M_isIn {a b c : Int} (ha : rg a) (hb : rg b) (hc : rg c) : m_M x k_M_isIn [.int (jI a), .int (jI b), .int (jI c)] (mk F G) = some (some (.int (jI (if b ≤ a ∧ a ≤ c then 1 else 0))), mk F G) := by
  unfold rg at ha hb hc
  rw [E_M_isIn]
  simp (disch := omega) only [lit_0, lit_1, lit_2, lit_3, lit_4, lit_5, lit_6, lit_7, lit_8, lit_9, lit_10, lit_11, lit_12, lit_13, lit_14, lit_15, lit_16, lit_17, lit_18, lit_19, lit_20, lit_21, lit_22, lit_23, lit_24, lit_25, lit_26, lit_27, lit_28, lit_29, lit_30, lit_31, lit_32, lit_33, lit_34, lit_35, lit_36, lit_37, lit_38, lit_39, lit_40, lit_41, lit_42, lit_43, lit_44, lit_45, lit_46, lit_47, lit_48, lit_49, lit_50, lit_51, lit_52, lit_53, lit_54, lit_55, lit_56, lit_57, lit_58, lit_59, lit_60, lit_61, lit_62, lit_63, lit_64, lit_65, lit_67, lit_70, lit_71, lit_73, lit_75, lit_78, lit_84, lit_85, lit_86, lit_87, lit_89, lit_90, lit_91, lit_95, lit_96, lit_97, lit_98, lit_99, lit_100, lit_101, lit_102, lit_103, lit_104, lit_105, lit_107, lit_108, lit_109, lit_110, lit_111, lit_112, lit_114, lit_115, lit_116, lit_117, lit_119, lit_121, lit_122, lit_126, lit_127, lit_128, lit_130, lit_134, lit_137, lit_139, lit_140, lit_141, lit_145, lit_152, lit_159, lit_160, lit_168, lit_174, lit_180, lit_183, lit_192, lit_199, lit_236, lit_251, lit_255, lit_272, lit_284, lit_300, lit_330, lit_373, lit_753, lit_800, lit_896, lit_900, lit_1000, lit_1001, lit_1002, lit_1003, lit_1079, lit_1276, lit_1330, lit_1450, lit_3012, lit_3016, lit_3300, lit_8430, lit_9999, lit_10000, lit_11730, lit_30467, lit_65536, lit_99999, lit_100000, lit_1000000, lit_252645135, lit_858993459, lit_1000000000, lit_1431655765, jI_lt, jI_le, jI_eq, b_I, b_L, b_V, b_R, b_N, b_N0, Option.bind_some, ↓reduceIte, bq0, bq1, bz0, bz1, ite_not, Classical.not_not]
  split
  · rw [if_neg (by omega)]
  · split
    · rw [if_neg (by omega)]
    · rw [if_pos (by omega)]
theorem M_cut {a b c : Int} (ha : -9223372036854775808 ≤ a) (ha1 : a ≤ 9223372036854775807) (hb : rg b) (hc : rg c) : m_M x k_M_cut [.long (jL a), .int (jI b), .int (jI c)] (mk F G) = some (some (.int (jI (if a < b then b else if c < a then c else a))), mk F G) := by
  unfold rg at hb hc
  rw [E_M_cut, jI_toL (by omega) (by omega), jI_toL (by omega) (by omega), jL_toI]
  simp (disch := omega) only [jL_lt, jL_le, jL_eq]
  by_cases h1 : a < b
  · rw [if_pos h1, if_neg (by omega)]
  · rw [if_neg h1, if_pos (by omega)]
    by_cases h2 : c < a
    · rw [if_pos h2, if_neg (by omega)]
    · rw [if_neg h2, if_pos (by omega)]
theorem M_off {a : Int} (ha : -2147483648 < a) (ha2 : a ≤ 2147483647) : m_M x k_M_off [.int (jI a)] (mk F G) = some (some (.int (jI (if 0 ≤ a then a else -a))), mk F G) := by
  rw [E_M_off]
  simp (disch := omega) only [lit_0, lit_1, lit_2, lit_3, lit_4, lit_5, lit_6, lit_7, lit_8, lit_9, lit_10, lit_11, lit_12, lit_13, lit_14, lit_15, lit_16, lit_17, lit_18, lit_19, lit_20, lit_21, lit_22, lit_23, lit_24, lit_25, lit_26, lit_27, lit_28, lit_29, lit_30, lit_31, lit_32, lit_33, lit_34, lit_35, lit_36, lit_37, lit_38, lit_39, lit_40, lit_41, lit_42, lit_43, lit_44, lit_45, lit_46, lit_47, lit_48, lit_49, lit_50, lit_51, lit_52, lit_53, lit_54, lit_55, lit_56, lit_57, lit_58, lit_59, lit_60, lit_61, lit_62, lit_63, lit_64, lit_65, lit_67, lit_70, lit_71, lit_73, lit_75, lit_78, lit_84, lit_85, lit_86, lit_87, lit_89, lit_90, lit_91, lit_95, lit_96, lit_97, lit_98, lit_99, lit_100, lit_101, lit_102, lit_103, lit_104, lit_105, lit_107, lit_108, lit_109, lit_110, lit_111, lit_112, lit_114, lit_115, lit_116, lit_117, lit_119, lit_121, lit_122, lit_126, lit_127, lit_128, lit_130, lit_134, lit_137, lit_139, lit_140, lit_141, lit_145, lit_152, lit_159, lit_160, lit_168, lit_174, lit_180, lit_183, lit_192, lit_199, lit_236, lit_251, lit_255, lit_272, lit_284, lit_300, lit_330, lit_373, lit_753, lit_800, lit_896, lit_900, lit_1000, lit_1001, lit_1002, lit_1003, lit_1079, lit_1276, lit_1330, lit_1450, lit_3012, lit_3016, lit_3300, lit_8430, lit_9999, lit_10000, lit_11730, lit_30467, lit_65536, lit_99999, lit_100000, lit_1000000, lit_252645135, lit_858993459, lit_1000000000, lit_1431655765, jI_lt, jI_le, jI_eq, jI_add, jI_sub, jI_mul, jI_neg]
  split <;> rfl
theorem M_isOne {p : Int} (hi : WI (V (F 150))) (hp : rg p) : m_M x k_M_isOne [.ref 149, .int (jI p)] (mk F G) = some (some (.int (jI (if 0 ≤ p ∧ p < V (F 150) 0 then 1 else 0))), mk F G) := by
  have hc := WI_c hi
  rw [E_M_isOne]
  simp (disch := first | omega | assumption | (unfold rg; omega)) only [lit_0, lit_1, lit_2, lit_3, lit_4, lit_5, lit_6, lit_7, lit_8, lit_9, lit_10, lit_11, lit_12, lit_13, lit_14, lit_15, lit_16, lit_17, lit_18, lit_19, lit_20, lit_21, lit_22, lit_23, lit_24, lit_25, lit_26, lit_27, lit_28, lit_29, lit_30, lit_31, lit_32, lit_33, lit_34, lit_35, lit_36, lit_37, lit_38, lit_39, lit_40, lit_41, lit_42, lit_43, lit_44, lit_45, lit_46, lit_47, lit_48, lit_49, lit_50, lit_51, lit_52, lit_53, lit_54, lit_55, lit_56, lit_57, lit_58, lit_59, lit_60, lit_61, lit_62, lit_63, lit_64, lit_65, lit_67, lit_70, lit_71, lit_73, lit_75, lit_78, lit_84, lit_85, lit_86, lit_87, lit_89, lit_90, lit_91, lit_95, lit_96, lit_97, lit_98, lit_99, lit_100, lit_101, lit_102, lit_103, lit_104, lit_105, lit_107, lit_108, lit_109, lit_110, lit_111, lit_112, lit_114, lit_115, lit_116, lit_117, lit_119, lit_121, lit_122, lit_126, lit_127, lit_128, lit_130, lit_134, lit_137, lit_139, lit_140, lit_141, lit_145, lit_152, lit_159, lit_160, lit_168, lit_174, lit_180, lit_183, lit_192, lit_199, lit_236, lit_251, lit_255, lit_272, lit_284, lit_300, lit_330, lit_373, lit_753, lit_800, lit_896, lit_900, lit_1000, lit_1001, lit_1002, lit_1003, lit_1079, lit_1276, lit_1330, lit_1450, lit_3012, lit_3016, lit_3300, lit_8430, lit_9999, lit_10000, lit_11730, lit_30467, lit_65536, lit_99999, lit_100000, lit_1000000, lit_252645135, lit_858993459, lit_1000000000, lit_1431655765, jI_add, jI_sub, jI_mul, jI_neg, b_I, b_L, b_V, b_R, b_N, b_N0, Option.bind_some, ↓reduceIte, bq0, bq1, bz0, bz1, ite_not, Classical.not_not, isO_149, fR_149_0, va_0, M_isIn, rkb]
  have e : (0 ≤ p ∧ p ≤ V (F 150) 0 - 1) = (0 ≤ p ∧ p < V (F 150) 0) := propext (by omega)
  simp only [e]
theorem M_isGlove {p : Int} (hi : WI (V (F 150))) (hp : rg p) : m_M x k_M_isGlove [.ref 149, .int (jI p)] (mk F G) = some (some (.int (jI (if 0 ≤ p ∧ p < V (F 150) 25 then 1 else 0))), mk F G) := by
  have hc := WI_c hi
  rw [E_M_isGlove]
  simp (disch := first | omega | assumption | (unfold rg; omega)) only [lit_0, lit_1, lit_2, lit_3, lit_4, lit_5, lit_6, lit_7, lit_8, lit_9, lit_10, lit_11, lit_12, lit_13, lit_14, lit_15, lit_16, lit_17, lit_18, lit_19, lit_20, lit_21, lit_22, lit_23, lit_24, lit_25, lit_26, lit_27, lit_28, lit_29, lit_30, lit_31, lit_32, lit_33, lit_34, lit_35, lit_36, lit_37, lit_38, lit_39, lit_40, lit_41, lit_42, lit_43, lit_44, lit_45, lit_46, lit_47, lit_48, lit_49, lit_50, lit_51, lit_52, lit_53, lit_54, lit_55, lit_56, lit_57, lit_58, lit_59, lit_60, lit_61, lit_62, lit_63, lit_64, lit_65, lit_67, lit_70, lit_71, lit_73, lit_75, lit_78, lit_84, lit_85, lit_86, lit_87, lit_89, lit_90, lit_91, lit_95, lit_96, lit_97, lit_98, lit_99, lit_100, lit_101, lit_102, lit_103, lit_104, lit_105, lit_107, lit_108, lit_109, lit_110, lit_111, lit_112, lit_114, lit_115, lit_116, lit_117, lit_119, lit_121, lit_122, lit_126, lit_127, lit_128, lit_130, lit_134, lit_137, lit_139, lit_140, lit_141, lit_145, lit_152, lit_159, lit_160, lit_168, lit_174, lit_180, lit_183, lit_192, lit_199, lit_236, lit_251, lit_255, lit_272, lit_284, lit_300, lit_330, lit_373, lit_753, lit_800, lit_896, lit_900, lit_1000, lit_1001, lit_1002, lit_1003, lit_1079, lit_1276, lit_1330, lit_1450, lit_3012, lit_3016, lit_3300, lit_8430, lit_9999, lit_10000, lit_11730, lit_30467, lit_65536, lit_99999, lit_100000, lit_1000000, lit_252645135, lit_858993459, lit_1000000000, lit_1431655765, jI_add, jI_sub, jI_mul, jI_neg, b_I, b_L, b_V, b_R, b_N, b_N0, Option.bind_some, ↓reduceIte, bq0, bq1, bz0, bz1, ite_not, Classical.not_not, isO_149, fR_149_0, va_11, M_isIn, rkb]
  have e : (0 ≤ p ∧ p ≤ V (F 150) 25 - 1) = (0 ≤ p ∧ p < V (F 150) 25) := propext (by omega)
  simp only [e]
theorem M_get {g k : Int} (h0 : 0 ≤ g) (h1 : g < 12) (h2 : 0 ≤ k) (h3 : k < 7) : m_M x k_M_get [.ref 149, .int (jI g), .int (jI k)] (mk F G) = some (some (.int (jI (V (F 150) (27 + 12 * k + g)))), mk F G) := by
  rw [E_M_get]
  simp (disch := omega) only [lit_0, lit_1, lit_2, lit_3, lit_4, lit_5, lit_6, lit_7, lit_8, lit_9, lit_10, lit_11, lit_12, lit_13, lit_14, lit_15, lit_16, lit_17, lit_18, lit_19, lit_20, lit_21, lit_22, lit_23, lit_24, lit_25, lit_26, lit_27, lit_28, lit_29, lit_30, lit_31, lit_32, lit_33, lit_34, lit_35, lit_36, lit_37, lit_38, lit_39, lit_40, lit_41, lit_42, lit_43, lit_44, lit_45, lit_46, lit_47, lit_48, lit_49, lit_50, lit_51, lit_52, lit_53, lit_54, lit_55, lit_56, lit_57, lit_58, lit_59, lit_60, lit_61, lit_62, lit_63, lit_64, lit_65, lit_67, lit_70, lit_71, lit_73, lit_75, lit_78, lit_84, lit_85, lit_86, lit_87, lit_89, lit_90, lit_91, lit_95, lit_96, lit_97, lit_98, lit_99, lit_100, lit_101, lit_102, lit_103, lit_104, lit_105, lit_107, lit_108, lit_109, lit_110, lit_111, lit_112, lit_114, lit_115, lit_116, lit_117, lit_119, lit_121, lit_122, lit_126, lit_127, lit_128, lit_130, lit_134, lit_137, lit_139, lit_140, lit_141, lit_145, lit_152, lit_159, lit_160, lit_168, lit_174, lit_180, lit_183, lit_192, lit_199, lit_236, lit_251, lit_255, lit_272, lit_284, lit_300, lit_330, lit_373, lit_753, lit_800, lit_896, lit_900, lit_1000, lit_1001, lit_1002, lit_1003, lit_1079, lit_1276, lit_1330, lit_1450, lit_3012, lit_3016, lit_3300, lit_8430, lit_9999, lit_10000, lit_11730, lit_30467, lit_65536, lit_99999, lit_100000, lit_1000000, lit_252645135, lit_858993459, lit_1000000000, lit_1431655765, jI_add, jI_sub, jI_mul, jI_neg, b_I, b_L, b_V, b_R, b_N, b_N0, Option.bind_some, ↓reduceIte, bq0, bq1, bz0, bz1, ite_not, Classical.not_not, isO_149, fR_149_0, va_g]
theorem M_put {g k v : Int} (h0 : 0 ≤ g) (h1 : g < 12) (h2 : 0 ≤ k) (h3 : k < 7) : m_M x k_M_put [.ref 149, .int (jI g), .int (jI k), .int (jI v)] (mk F G) = some (none, mk (sA F 150 (u (F 150) (27 + 7 * g + k) v)) G) := by
  rw [E_M_put]
  simp (disch := omega) only [lit_0, lit_1, lit_2, lit_3, lit_4, lit_5, lit_6, lit_7, lit_8, lit_9, lit_10, lit_11, lit_12, lit_13, lit_14, lit_15, lit_16, lit_17, lit_18, lit_19, lit_20, lit_21, lit_22, lit_23, lit_24, lit_25, lit_26, lit_27, lit_28, lit_29, lit_30, lit_31, lit_32, lit_33, lit_34, lit_35, lit_36, lit_37, lit_38, lit_39, lit_40, lit_41, lit_42, lit_43, lit_44, lit_45, lit_46, lit_47, lit_48, lit_49, lit_50, lit_51, lit_52, lit_53, lit_54, lit_55, lit_56, lit_57, lit_58, lit_59, lit_60, lit_61, lit_62, lit_63, lit_64, lit_65, lit_67, lit_70, lit_71, lit_73, lit_75, lit_78, lit_84, lit_85, lit_86, lit_87, lit_89, lit_90, lit_91, lit_95, lit_96, lit_97, lit_98, lit_99, lit_100, lit_101, lit_102, lit_103, lit_104, lit_105, lit_107, lit_108, lit_109, lit_110, lit_111, lit_112, lit_114, lit_115, lit_116, lit_117, lit_119, lit_121, lit_122, lit_126, lit_127, lit_128, lit_130, lit_134, lit_137, lit_139, lit_140, lit_141, lit_145, lit_152, lit_159, lit_160, lit_168, lit_174, lit_180, lit_183, lit_192, lit_199, lit_236, lit_251, lit_255, lit_272, lit_284, lit_300, lit_330, lit_373, lit_753, lit_800, lit_896, lit_900, lit_1000, lit_1001, lit_1002, lit_1003, lit_1079, lit_1276, lit_1330, lit_1450, lit_3012, lit_3016, lit_3300, lit_8430, lit_9999, lit_10000, lit_11730, lit_30467, lit_65536, lit_99999, lit_100000, lit_1000000, lit_252645135, lit_858993459, lit_1000000000, lit_1431655765, jI_add, jI_sub, jI_mul, jI_neg, b_I, b_L, b_V, b_R, b_N, b_N0, Option.bind_some, ↓reduceIte, bq0, bq1, bz0, bz1, ite_not, Classical.not_not, isO_149, fR_149_0, is_150]
theorem M_isOpen {g : Int} (hi : WI (V (F 150))) (h0 : 0 ≤ g) (h1 : g < 12) : m_M x k_M_isOpen [.ref 149, .int (jI g)] (mk F G) = some (some (.int (jI (if V (F 150) (99 + g) = 0 ∨ V (F 150) (99 + g) = 3 then 1 else 0))), mk F G) := by
  have hg := WI_g hi h0 h1
  rw [E_M_isOpen]
  simp (disch := omega) only [lit_0, lit_1, lit_2, lit_3, lit_4, lit_5, lit_6, lit_7, lit_8, lit_9, lit_10, lit_11, lit_12, lit_13, lit_14, lit_15, lit_16, lit_17, lit_18, lit_19, lit_20, lit_21, lit_22, lit_23, lit_24, lit_25, lit_26, lit_27, lit_28, lit_29, lit_30, lit_31, lit_32, lit_33, lit_34, lit_35, lit_36, lit_37, lit_38, lit_39, lit_40, lit_41, lit_42, lit_43, lit_44, lit_45, lit_46, lit_47, lit_48, lit_49, lit_50, lit_51, lit_52, lit_53, lit_54, lit_55, lit_56, lit_57, lit_58, lit_59, lit_60, lit_61, lit_62, lit_63, lit_64, lit_65, lit_67, lit_70, lit_71, lit_73, lit_75, lit_78, lit_84, lit_85, lit_86, lit_87, lit_89, lit_90, lit_91, lit_95, lit_96, lit_97, lit_98, lit_99, lit_100, lit_101, lit_102, lit_103, lit_104, lit_105, lit_107, lit_108, lit_109, lit_110, lit_111, lit_112, lit_114, lit_115, lit_116, lit_117, lit_119, lit_121, lit_122, lit_126, lit_127, lit_128, lit_130, lit_134, lit_137, lit_139, lit_140, lit_141, lit_145, lit_152, lit_159, lit_160, lit_168, lit_174, lit_180, lit_183, lit_192, lit_199, lit_236, lit_251, lit_255, lit_272, lit_284, lit_300, lit_330, lit_373, lit_753, lit_800, lit_896, lit_900, lit_1000, lit_1001, lit_1002, lit_1003, lit_1079, lit_1276, lit_1330, lit_1450, lit_3012, lit_3016, lit_3300, lit_8430, lit_9999, lit_10000, lit_11730, lit_30467, lit_65536, lit_99999, lit_100000, lit_1000000, lit_252645135, lit_858993459, lit_1000000000, lit_1431655765, jI_add, jI_sub, jI_mul, jI_neg, b_I, b_L, b_V, b_R, b_N, b_N0, Option.bind_some, ↓reduceIte, bq0, bq1, bz0, bz1, ite_not, Classical.not_not, isO_149, M_get, Int.reduceMul, Int.reduceAdd, jI_lt, jI_le, jI_eq]
  split
  · rw [if_pos (by omega)]
  · split
    · rw [if_pos (by omega)]
    · rw [if_neg (by omega)]
theorem M_rightsOf {p : Int} (hi : WI (V (F 150))) (hp : rg p) : m_M x k_M_rightsOf [.ref 149, .int (jI p)] (mk F G) = some (some (.int (jI (rights (V (F 150)) p))), mk F G) := by
  have hc := WI_c hi
  unfold rg at hp
  rw [E_M_rightsOf, isO_149, if_pos rfl]
  have key : ∀ g, 0 ≤ g → g ≤ V (F 150) 25 → m_D x 3 k_M_rightsOf 4 [some (.ref 149), some (.int (jI p)), some (.int (jI (sm (fun g => if (V (F 150) (99 + g) = 0 ∨ V (F 150) (99 + g) = 3) ∧ V (F 150) (27 + g) = p then 1 else 0) g))), some (.int (jI g))] [] (mk F G) = some (some (.int (jI (rights (V (F 150)) p))), mk F G) := by
    apply down
    · rw [E_M_rightsOf_4 x 3 (by omega)]
      simp (disch := omega) only [lit_0, lit_1, lit_2, lit_3, lit_4, lit_5, lit_6, lit_7, lit_8, lit_9, lit_10, lit_11, lit_12, lit_13, lit_14, lit_15, lit_16, lit_17, lit_18, lit_19, lit_20, lit_21, lit_22, lit_23, lit_24, lit_25, lit_26, lit_27, lit_28, lit_29, lit_30, lit_31, lit_32, lit_33, lit_34, lit_35, lit_36, lit_37, lit_38, lit_39, lit_40, lit_41, lit_42, lit_43, lit_44, lit_45, lit_46, lit_47, lit_48, lit_49, lit_50, lit_51, lit_52, lit_53, lit_54, lit_55, lit_56, lit_57, lit_58, lit_59, lit_60, lit_61, lit_62, lit_63, lit_64, lit_65, lit_67, lit_70, lit_71, lit_73, lit_75, lit_78, lit_84, lit_85, lit_86, lit_87, lit_89, lit_90, lit_91, lit_95, lit_96, lit_97, lit_98, lit_99, lit_100, lit_101, lit_102, lit_103, lit_104, lit_105, lit_107, lit_108, lit_109, lit_110, lit_111, lit_112, lit_114, lit_115, lit_116, lit_117, lit_119, lit_121, lit_122, lit_126, lit_127, lit_128, lit_130, lit_134, lit_137, lit_139, lit_140, lit_141, lit_145, lit_152, lit_159, lit_160, lit_168, lit_174, lit_180, lit_183, lit_192, lit_199, lit_236, lit_251, lit_255, lit_272, lit_284, lit_300, lit_330, lit_373, lit_753, lit_800, lit_896, lit_900, lit_1000, lit_1001, lit_1002, lit_1003, lit_1079, lit_1276, lit_1330, lit_1450, lit_3012, lit_3016, lit_3300, lit_8430, lit_9999, lit_10000, lit_11730, lit_30467, lit_65536, lit_99999, lit_100000, lit_1000000, lit_252645135, lit_858993459, lit_1000000000, lit_1431655765, jI_add, jI_sub, jI_mul, jI_neg, jI_lt, jI_le, jI_eq, b_I, b_L, b_V, b_R, b_N, b_N0, Option.bind_some, ↓reduceIte, bq0, bq1, bz0, bz1, ite_not, Classical.not_not, fR_149_0, va_11]
      rw [if_pos (Int.le_refl _)]
      rfl
    · intro g h0 hg ih
      have hgl := WI_g hi h0 (by omega)
      rw [E_M_rightsOf_4 x 3 (by omega)]
      simp (disch := first | omega | assumption) only [lit_0, lit_1, lit_2, lit_3, lit_4, lit_5, lit_6, lit_7, lit_8, lit_9, lit_10, lit_11, lit_12, lit_13, lit_14, lit_15, lit_16, lit_17, lit_18, lit_19, lit_20, lit_21, lit_22, lit_23, lit_24, lit_25, lit_26, lit_27, lit_28, lit_29, lit_30, lit_31, lit_32, lit_33, lit_34, lit_35, lit_36, lit_37, lit_38, lit_39, lit_40, lit_41, lit_42, lit_43, lit_44, lit_45, lit_46, lit_47, lit_48, lit_49, lit_50, lit_51, lit_52, lit_53, lit_54, lit_55, lit_56, lit_57, lit_58, lit_59, lit_60, lit_61, lit_62, lit_63, lit_64, lit_65, lit_67, lit_70, lit_71, lit_73, lit_75, lit_78, lit_84, lit_85, lit_86, lit_87, lit_89, lit_90, lit_91, lit_95, lit_96, lit_97, lit_98, lit_99, lit_100, lit_101, lit_102, lit_103, lit_104, lit_105, lit_107, lit_108, lit_109, lit_110, lit_111, lit_112, lit_114, lit_115, lit_116, lit_117, lit_119, lit_121, lit_122, lit_126, lit_127, lit_128, lit_130, lit_134, lit_137, lit_139, lit_140, lit_141, lit_145, lit_152, lit_159, lit_160, lit_168, lit_174, lit_180, lit_183, lit_192, lit_199, lit_236, lit_251, lit_255, lit_272, lit_284, lit_300, lit_330, lit_373, lit_753, lit_800, lit_896, lit_900, lit_1000, lit_1001, lit_1002, lit_1003, lit_1079, lit_1276, lit_1330, lit_1450, lit_3012, lit_3016, lit_3300, lit_8430, lit_9999, lit_10000, lit_11730, lit_30467, lit_65536, lit_99999, lit_100000, lit_1000000, lit_252645135, lit_858993459, lit_1000000000, lit_1431655765, jI_add, jI_sub, jI_mul, jI_neg, jI_lt, jI_le, jI_eq, b_I, b_L, b_V, b_R, b_N, b_N0, Option.bind_some, ↓reduceIte, bq0, bq1, bz0, bz1, ite_not, Classical.not_not, fR_149_0, va_11, M_get, Int.reduceMul, Int.reduceAdd, M_isOpen]
      rw [if_neg (by omega)]
      rw [sm_s _ h0] at ih
      by_cases h2 : V (F 150) (27 + g) = p
      · rw [if_pos h2]
        by_cases h1 : V (F 150) (99 + g) = 0 ∨ V (F 150) (99 + g) = 3
        · rw [if_pos ⟨h1, h2⟩] at ih
          rw [if_pos h1]
          exact ih
        · rw [if_neg (fun z => h1 z.1)] at ih
          rw [if_neg h1]
          exact ih
      · rw [if_neg (fun z => h2 z.2)] at ih
        rw [if_neg h2]
        exact ih
  exact key 0 (by omega) (by omega)
theorem M_leftsOf {p : Int} (hi : WI (V (F 150))) (hp : rg p) : m_M x k_M_leftsOf [.ref 149, .int (jI p)] (mk F G) = some (some (.int (jI (lefts (V (F 150)) p))), mk F G) := by
  have hc := WI_c hi
  unfold rg at hp
  rw [E_M_leftsOf, isO_149, if_pos rfl]
  have key : ∀ g, 0 ≤ g → g ≤ V (F 150) 25 → m_D x 2 k_M_leftsOf 4 [some (.ref 149), some (.int (jI p)), some (.int (jI (sm (fun g => if V (F 150) (99 + g) = 0 ∧ V (F 150) (39 + g) = p then 1 else 0) g))), some (.int (jI g))] [] (mk F G) = some (some (.int (jI (lefts (V (F 150)) p))), mk F G) := by
    apply down
    · rw [E_M_leftsOf_4 x 2 (by omega)]
      simp (disch := omega) only [lit_0, lit_1, lit_2, lit_3, lit_4, lit_5, lit_6, lit_7, lit_8, lit_9, lit_10, lit_11, lit_12, lit_13, lit_14, lit_15, lit_16, lit_17, lit_18, lit_19, lit_20, lit_21, lit_22, lit_23, lit_24, lit_25, lit_26, lit_27, lit_28, lit_29, lit_30, lit_31, lit_32, lit_33, lit_34, lit_35, lit_36, lit_37, lit_38, lit_39, lit_40, lit_41, lit_42, lit_43, lit_44, lit_45, lit_46, lit_47, lit_48, lit_49, lit_50, lit_51, lit_52, lit_53, lit_54, lit_55, lit_56, lit_57, lit_58, lit_59, lit_60, lit_61, lit_62, lit_63, lit_64, lit_65, lit_67, lit_70, lit_71, lit_73, lit_75, lit_78, lit_84, lit_85, lit_86, lit_87, lit_89, lit_90, lit_91, lit_95, lit_96, lit_97, lit_98, lit_99, lit_100, lit_101, lit_102, lit_103, lit_104, lit_105, lit_107, lit_108, lit_109, lit_110, lit_111, lit_112, lit_114, lit_115, lit_116, lit_117, lit_119, lit_121, lit_122, lit_126, lit_127, lit_128, lit_130, lit_134, lit_137, lit_139, lit_140, lit_141, lit_145, lit_152, lit_159, lit_160, lit_168, lit_174, lit_180, lit_183, lit_192, lit_199, lit_236, lit_251, lit_255, lit_272, lit_284, lit_300, lit_330, lit_373, lit_753, lit_800, lit_896, lit_900, lit_1000, lit_1001, lit_1002, lit_1003, lit_1079, lit_1276, lit_1330, lit_1450, lit_3012, lit_3016, lit_3300, lit_8430, lit_9999, lit_10000, lit_11730, lit_30467, lit_65536, lit_99999, lit_100000, lit_1000000, lit_252645135, lit_858993459, lit_1000000000, lit_1431655765, jI_add, jI_sub, jI_mul, jI_neg, jI_lt, jI_le, jI_eq, b_I, b_L, b_V, b_R, b_N, b_N0, Option.bind_some, ↓reduceIte, bq0, bq1, bz0, bz1, ite_not, Classical.not_not, fR_149_0, va_11]
      rw [if_pos (Int.le_refl _)]
      rfl
    · intro g h0 hg ih
      have hgl := WI_g hi h0 (by omega)
      rw [E_M_leftsOf_4 x 2 (by omega)]
      simp (disch := first | omega | assumption) only [lit_0, lit_1, lit_2, lit_3, lit_4, lit_5, lit_6, lit_7, lit_8, lit_9, lit_10, lit_11, lit_12, lit_13, lit_14, lit_15, lit_16, lit_17, lit_18, lit_19, lit_20, lit_21, lit_22, lit_23, lit_24, lit_25, lit_26, lit_27, lit_28, lit_29, lit_30, lit_31, lit_32, lit_33, lit_34, lit_35, lit_36, lit_37, lit_38, lit_39, lit_40, lit_41, lit_42, lit_43, lit_44, lit_45, lit_46, lit_47, lit_48, lit_49, lit_50, lit_51, lit_52, lit_53, lit_54, lit_55, lit_56, lit_57, lit_58, lit_59, lit_60, lit_61, lit_62, lit_63, lit_64, lit_65, lit_67, lit_70, lit_71, lit_73, lit_75, lit_78, lit_84, lit_85, lit_86, lit_87, lit_89, lit_90, lit_91, lit_95, lit_96, lit_97, lit_98, lit_99, lit_100, lit_101, lit_102, lit_103, lit_104, lit_105, lit_107, lit_108, lit_109, lit_110, lit_111, lit_112, lit_114, lit_115, lit_116, lit_117, lit_119, lit_121, lit_122, lit_126, lit_127, lit_128, lit_130, lit_134, lit_137, lit_139, lit_140, lit_141, lit_145, lit_152, lit_159, lit_160, lit_168, lit_174, lit_180, lit_183, lit_192, lit_199, lit_236, lit_251, lit_255, lit_272, lit_284, lit_300, lit_330, lit_373, lit_753, lit_800, lit_896, lit_900, lit_1000, lit_1001, lit_1002, lit_1003, lit_1079, lit_1276, lit_1330, lit_1450, lit_3012, lit_3016, lit_3300, lit_8430, lit_9999, lit_10000, lit_11730, lit_30467, lit_65536, lit_99999, lit_100000, lit_1000000, lit_252645135, lit_858993459, lit_1000000000, lit_1431655765, jI_add, jI_sub, jI_mul, jI_neg, jI_lt, jI_le, jI_eq, b_I, b_L, b_V, b_R, b_N, b_N0, Option.bind_some, ↓reduceIte, bq0, bq1, bz0, bz1, ite_not, Classical.not_not, fR_149_0, va_11, M_get, Int.reduceMul, Int.reduceAdd]
      rw [if_neg (by omega)]
      rw [sm_s _ h0] at ih
      by_cases h2 : V (F 150) (39 + g) = p
      · rw [if_pos h2]
        by_cases h1 : V (F 150) (99 + g) = 0
        · rw [if_pos ⟨h1, h2⟩] at ih
          rw [if_pos h1]
          exact ih
        · rw [if_neg (fun z => h1 z.1)] at ih
          rw [if_neg h1]
          exact ih
      · rw [if_neg (fun z => h2 z.2)] at ih
        rw [if_neg h2]
        exact ih
  exact key 0 (by omega) (by omega)
theorem M_sumOf {p : Int} (hi : WI (V (F 150))) (hp : rg p) : m_M x k_M_sumOf [.ref 149, .int (jI p)] (mk F G) = some (some (.int (jI (balance (V (F 150)) p))), mk F G) := by
  have hc := WI_c hi
  unfold rg at hp
  rw [E_M_sumOf, isO_149, if_pos rfl]
  have key : ∀ g, 0 ≤ g → g ≤ V (F 150) 25 → m_D x 3 k_M_sumOf 4 [some (.ref 149), some (.int (jI p)), some (.int (jI (sm (fun g => if V (F 150) (99 + g) = 0 ∨ V (F 150) (99 + g) = 3 then (if V (F 150) (39 + g) = p then V (F 150) (51 + g) else 0) - (if V (F 150) (27 + g) = p then V (F 150) (51 + g) else 0) else 0) g))), some (.int (jI g))] [] (mk F G) = some (some (.int (jI (balance (V (F 150)) p))), mk F G) := by
    apply down
    · rw [E_M_sumOf_4 x 3 (by omega)]
      simp (disch := omega) only [lit_0, lit_1, lit_2, lit_3, lit_4, lit_5, lit_6, lit_7, lit_8, lit_9, lit_10, lit_11, lit_12, lit_13, lit_14, lit_15, lit_16, lit_17, lit_18, lit_19, lit_20, lit_21, lit_22, lit_23, lit_24, lit_25, lit_26, lit_27, lit_28, lit_29, lit_30, lit_31, lit_32, lit_33, lit_34, lit_35, lit_36, lit_37, lit_38, lit_39, lit_40, lit_41, lit_42, lit_43, lit_44, lit_45, lit_46, lit_47, lit_48, lit_49, lit_50, lit_51, lit_52, lit_53, lit_54, lit_55, lit_56, lit_57, lit_58, lit_59, lit_60, lit_61, lit_62, lit_63, lit_64, lit_65, lit_67, lit_70, lit_71, lit_73, lit_75, lit_78, lit_84, lit_85, lit_86, lit_87, lit_89, lit_90, lit_91, lit_95, lit_96, lit_97, lit_98, lit_99, lit_100, lit_101, lit_102, lit_103, lit_104, lit_105, lit_107, lit_108, lit_109, lit_110, lit_111, lit_112, lit_114, lit_115, lit_116, lit_117, lit_119, lit_121, lit_122, lit_126, lit_127, lit_128, lit_130, lit_134, lit_137, lit_139, lit_140, lit_141, lit_145, lit_152, lit_159, lit_160, lit_168, lit_174, lit_180, lit_183, lit_192, lit_199, lit_236, lit_251, lit_255, lit_272, lit_284, lit_300, lit_330, lit_373, lit_753, lit_800, lit_896, lit_900, lit_1000, lit_1001, lit_1002, lit_1003, lit_1079, lit_1276, lit_1330, lit_1450, lit_3012, lit_3016, lit_3300, lit_8430, lit_9999, lit_10000, lit_11730, lit_30467, lit_65536, lit_99999, lit_100000, lit_1000000, lit_252645135, lit_858993459, lit_1000000000, lit_1431655765, jI_add, jI_sub, jI_mul, jI_neg, jI_lt, jI_le, jI_eq, b_I, b_L, b_V, b_R, b_N, b_N0, Option.bind_some, ↓reduceIte, bq0, bq1, bz0, bz1, ite_not, Classical.not_not, fR_149_0, va_11]
      rw [if_pos (Int.le_refl _)]
      rfl
    · intro g h0 hg ih
      have hgl := WI_g hi h0 (by omega)
      rw [E_M_sumOf_4 x 3 (by omega)]
      simp (disch := first | omega | assumption) only [lit_0, lit_1, lit_2, lit_3, lit_4, lit_5, lit_6, lit_7, lit_8, lit_9, lit_10, lit_11, lit_12, lit_13, lit_14, lit_15, lit_16, lit_17, lit_18, lit_19, lit_20, lit_21, lit_22, lit_23, lit_24, lit_25, lit_26, lit_27, lit_28, lit_29, lit_30, lit_31, lit_32, lit_33, lit_34, lit_35, lit_36, lit_37, lit_38, lit_39, lit_40, lit_41, lit_42, lit_43, lit_44, lit_45, lit_46, lit_47, lit_48, lit_49, lit_50, lit_51, lit_52, lit_53, lit_54, lit_55, lit_56, lit_57, lit_58, lit_59, lit_60, lit_61, lit_62, lit_63, lit_64, lit_65, lit_67, lit_70, lit_71, lit_73, lit_75, lit_78, lit_84, lit_85, lit_86, lit_87, lit_89, lit_90, lit_91, lit_95, lit_96, lit_97, lit_98, lit_99, lit_100, lit_101, lit_102, lit_103, lit_104, lit_105, lit_107, lit_108, lit_109, lit_110, lit_111, lit_112, lit_114, lit_115, lit_116, lit_117, lit_119, lit_121, lit_122, lit_126, lit_127, lit_128, lit_130, lit_134, lit_137, lit_139, lit_140, lit_141, lit_145, lit_152, lit_159, lit_160, lit_168, lit_174, lit_180, lit_183, lit_192, lit_199, lit_236, lit_251, lit_255, lit_272, lit_284, lit_300, lit_330, lit_373, lit_753, lit_800, lit_896, lit_900, lit_1000, lit_1001, lit_1002, lit_1003, lit_1079, lit_1276, lit_1330, lit_1450, lit_3012, lit_3016, lit_3300, lit_8430, lit_9999, lit_10000, lit_11730, lit_30467, lit_65536, lit_99999, lit_100000, lit_1000000, lit_252645135, lit_858993459, lit_1000000000, lit_1431655765, jI_add, jI_sub, jI_mul, jI_neg, jI_lt, jI_le, jI_eq, b_I, b_L, b_V, b_R, b_N, b_N0, Option.bind_some, ↓reduceIte, bq0, bq1, bz0, bz1, ite_not, Classical.not_not, fR_149_0, va_11, M_get, Int.reduceMul, Int.reduceAdd, M_isOpen]
      rw [if_neg (by omega)]
      rw [sm_s _ h0] at ih
      by_cases h1 : V (F 150) (99 + g) = 0 ∨ V (F 150) (99 + g) = 3
      · rw [if_pos h1] at ih
        rw [if_pos h1]
        have e47 : ∀ t s : Int, m_D x 3 k_M_sumOf 47 [some (.ref 149), some (.int (jI p)), some (.int (jI s)), some (.int (jI g))] [.int (jI t), .int (jI s)] (mk F G) = m_D x 3 k_M_sumOf 4 [some (.ref 149), some (.int (jI p)), some (.int (jI (s + (t - (if V (F 150) (27 + g) = p then V (F 150) (51 + g) else 0))))), some (.int (jI (g + 1)))] [] (mk F G) := by
          intro t s
          rw [E_M_sumOf_47 x 3 (by omega)]
          simp (disch := first | omega | assumption) only [lit_0, lit_1, lit_2, lit_3, lit_4, lit_5, lit_6, lit_7, lit_8, lit_9, lit_10, lit_11, lit_12, lit_13, lit_14, lit_15, lit_16, lit_17, lit_18, lit_19, lit_20, lit_21, lit_22, lit_23, lit_24, lit_25, lit_26, lit_27, lit_28, lit_29, lit_30, lit_31, lit_32, lit_33, lit_34, lit_35, lit_36, lit_37, lit_38, lit_39, lit_40, lit_41, lit_42, lit_43, lit_44, lit_45, lit_46, lit_47, lit_48, lit_49, lit_50, lit_51, lit_52, lit_53, lit_54, lit_55, lit_56, lit_57, lit_58, lit_59, lit_60, lit_61, lit_62, lit_63, lit_64, lit_65, lit_67, lit_70, lit_71, lit_73, lit_75, lit_78, lit_84, lit_85, lit_86, lit_87, lit_89, lit_90, lit_91, lit_95, lit_96, lit_97, lit_98, lit_99, lit_100, lit_101, lit_102, lit_103, lit_104, lit_105, lit_107, lit_108, lit_109, lit_110, lit_111, lit_112, lit_114, lit_115, lit_116, lit_117, lit_119, lit_121, lit_122, lit_126, lit_127, lit_128, lit_130, lit_134, lit_137, lit_139, lit_140, lit_141, lit_145, lit_152, lit_159, lit_160, lit_168, lit_174, lit_180, lit_183, lit_192, lit_199, lit_236, lit_251, lit_255, lit_272, lit_284, lit_300, lit_330, lit_373, lit_753, lit_800, lit_896, lit_900, lit_1000, lit_1001, lit_1002, lit_1003, lit_1079, lit_1276, lit_1330, lit_1450, lit_3012, lit_3016, lit_3300, lit_8430, lit_9999, lit_10000, lit_11730, lit_30467, lit_65536, lit_99999, lit_100000, lit_1000000, lit_252645135, lit_858993459, lit_1000000000, lit_1431655765, jI_add, jI_sub, jI_mul, jI_neg, jI_lt, jI_le, jI_eq, b_I, b_L, b_V, b_R, b_N, b_N0, Option.bind_some, ↓reduceIte, bq0, bq1, bz0, bz1, ite_not, Classical.not_not, M_get, Int.reduceMul, Int.reduceAdd]
          by_cases h3 : V (F 150) (27 + g) = p
          · rw [if_pos h3, if_pos h3, Int.add_sub_assoc]
          · rw [if_neg h3, if_neg h3, Int.add_sub_assoc]
        by_cases h2 : V (F 150) (39 + g) = p
        · rw [if_pos h2] at ih
          rw [if_pos h2, e47]
          exact ih
        · rw [if_neg h2] at ih
          rw [if_neg h2, e47]
          exact ih
      · rw [if_neg h1, Int.add_zero] at ih
        rw [if_neg h1]
        exact ih
  exact key 0 (by omega) (by omega)
theorem M_apart {p q : Int} (hi : WI (V (F 150))) (hp0 : 0 ≤ p) (hp1 : p < 7) (hq0 : 0 ≤ q) (hq1 : q < 7) : m_M x k_M_apart [.ref 149, .int (jI p), .int (jI q)] (mk F G) = some (some (.int (jI (if 0 ≤ V (F 150) (1 + p) - V (F 150) (1 + q) then V (F 150) (1 + p) - V (F 150) (1 + q) else -(V (F 150) (1 + p) - V (F 150) (1 + q))))), mk F G) := by
  have hp := WI_p hi hp0 hp1
  have hq := WI_p hi hq0 hq1
  rw [E_M_apart]
  simp (disch := omega) only [lit_0, lit_1, lit_2, lit_3, lit_4, lit_5, lit_6, lit_7, lit_8, lit_9, lit_10, lit_11, lit_12, lit_13, lit_14, lit_15, lit_16, lit_17, lit_18, lit_19, lit_20, lit_21, lit_22, lit_23, lit_24, lit_25, lit_26, lit_27, lit_28, lit_29, lit_30, lit_31, lit_32, lit_33, lit_34, lit_35, lit_36, lit_37, lit_38, lit_39, lit_40, lit_41, lit_42, lit_43, lit_44, lit_45, lit_46, lit_47, lit_48, lit_49, lit_50, lit_51, lit_52, lit_53, lit_54, lit_55, lit_56, lit_57, lit_58, lit_59, lit_60, lit_61, lit_62, lit_63, lit_64, lit_65, lit_67, lit_70, lit_71, lit_73, lit_75, lit_78, lit_84, lit_85, lit_86, lit_87, lit_89, lit_90, lit_91, lit_95, lit_96, lit_97, lit_98, lit_99, lit_100, lit_101, lit_102, lit_103, lit_104, lit_105, lit_107, lit_108, lit_109, lit_110, lit_111, lit_112, lit_114, lit_115, lit_116, lit_117, lit_119, lit_121, lit_122, lit_126, lit_127, lit_128, lit_130, lit_134, lit_137, lit_139, lit_140, lit_141, lit_145, lit_152, lit_159, lit_160, lit_168, lit_174, lit_180, lit_183, lit_192, lit_199, lit_236, lit_251, lit_255, lit_272, lit_284, lit_300, lit_330, lit_373, lit_753, lit_800, lit_896, lit_900, lit_1000, lit_1001, lit_1002, lit_1003, lit_1079, lit_1276, lit_1330, lit_1450, lit_3012, lit_3016, lit_3300, lit_8430, lit_9999, lit_10000, lit_11730, lit_30467, lit_65536, lit_99999, lit_100000, lit_1000000, lit_252645135, lit_858993459, lit_1000000000, lit_1431655765, jI_add, jI_sub, jI_mul, jI_neg, b_I, b_L, b_V, b_R, b_N, b_N0, Option.bind_some, ↓reduceIte, bq0, bq1, bz0, bz1, ite_not, Classical.not_not, isO_149, fR_149_0, va_h, M_off]
end
