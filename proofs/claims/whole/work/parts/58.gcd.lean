-- common divisors, clipped numbers, two numbers joined: class and model
theorem jI_modn {a b : Int} (h1 : 0 ≤ a) (h2 : a ≤ 2147483647) (h3 : -2147483648 ≤ b) (h4 : b ≤ 2147483647) : jI a - jI a / jI b * jI b = jI (a % b) := by
  rw [jI_rem (by omega) h2 h3 h4, tm h1]
theorem jL_modn {a b : Int} (h1 : 0 ≤ a) (h2 : a ≤ 9223372036854775807) (h3 : -9223372036854775808 ≤ b) (h4 : b ≤ 9223372036854775807) : jL a - jL a / jL b * jL b = jL (a % b) := by
  rw [jL_rem (by omega) h2 h3 h4, tm h1]
section
variable (x : m_X) (F G : Nat → Fn)
theorem C_commonOf_13 (a b : Int32) : ∀ (k : Nat) (i : Int) (l s : Nat), i + k = 63 → 1 ≤ i → s ≤ l → l ≤ 2147483647 → l * s < 2 ^ k → ∀ d5, m_nl d5 = true → m_D x 2 k_G_commonOf 13 [some (.int a), some (.int b), some (.int (jI l)), some (.int (jI s)), some (.int (jI i)), d5] [] (mk F G) = some (some (.int (jI (Nat.gcd l s))), mk F G) := by
  intro k
  induction k with
  | zero =>
    intro i l s hi h1 hs hl hp d5 hd
    rw [E_G_commonOf_13 x 2 (by omega) _ _ _ _ _ _ _ hd]
    have e : s = 0 := by
      rcases Nat.eq_zero_or_pos s with h | h
      · exact h
      · have : 1 * 1 ≤ l * s := Nat.mul_le_mul (by omega) h
        omega
    subst e
    simp (disch := omega) only [lit_0, lit_1, lit_2, lit_3, lit_4, lit_5, lit_6, lit_7, lit_8, lit_9, lit_10, lit_11, lit_12, lit_13, lit_14, lit_15, lit_16, lit_17, lit_18, lit_19, lit_20, lit_21, lit_22, lit_23, lit_24, lit_25, lit_26, lit_27, lit_28, lit_29, lit_30, lit_31, lit_32, lit_33, lit_34, lit_35, lit_36, lit_37, lit_38, lit_39, lit_40, lit_41, lit_42, lit_43, lit_44, lit_45, lit_46, lit_47, lit_48, lit_49, lit_50, lit_51, lit_52, lit_53, lit_54, lit_55, lit_56, lit_57, lit_58, lit_59, lit_60, lit_61, lit_62, lit_63, lit_64, lit_65, lit_67, lit_70, lit_71, lit_73, lit_75, lit_78, lit_84, lit_85, lit_86, lit_87, lit_89, lit_90, lit_91, lit_95, lit_96, lit_97, lit_98, lit_99, lit_100, lit_101, lit_102, lit_103, lit_104, lit_105, lit_107, lit_108, lit_109, lit_110, lit_111, lit_112, lit_114, lit_115, lit_116, lit_117, lit_119, lit_121, lit_122, lit_126, lit_127, lit_128, lit_130, lit_134, lit_137, lit_139, lit_140, lit_141, lit_145, lit_152, lit_159, lit_160, lit_168, lit_174, lit_180, lit_183, lit_192, lit_199, lit_236, lit_251, lit_255, lit_272, lit_284, lit_300, lit_330, lit_373, lit_753, lit_800, lit_896, lit_900, lit_1000, lit_1001, lit_1002, lit_1003, lit_1079, lit_1276, lit_1330, lit_1450, lit_3012, lit_3016, lit_3300, lit_8430, lit_9999, lit_10000, lit_11730, lit_30467, lit_65536, lit_99999, lit_100000, lit_1000000, lit_252645135, lit_858993459, lit_1000000000, lit_1431655765, jI_lt, jI_le, jI_eq]
    rw [Nat.gcd_zero_right]
    rw [if_neg (by omega), if_pos (by omega)]
  | succ k ih =>
    intro i l s hi h1 hs hl hp d5 hd
    rw [E_G_commonOf_13 x 2 (by omega) _ _ _ _ _ _ _ hd]
    simp (disch := omega) only [lit_0, lit_1, lit_2, lit_3, lit_4, lit_5, lit_6, lit_7, lit_8, lit_9, lit_10, lit_11, lit_12, lit_13, lit_14, lit_15, lit_16, lit_17, lit_18, lit_19, lit_20, lit_21, lit_22, lit_23, lit_24, lit_25, lit_26, lit_27, lit_28, lit_29, lit_30, lit_31, lit_32, lit_33, lit_34, lit_35, lit_36, lit_37, lit_38, lit_39, lit_40, lit_41, lit_42, lit_43, lit_44, lit_45, lit_46, lit_47, lit_48, lit_49, lit_50, lit_51, lit_52, lit_53, lit_54, lit_55, lit_56, lit_57, lit_58, lit_59, lit_60, lit_61, lit_62, lit_63, lit_64, lit_65, lit_67, lit_70, lit_71, lit_73, lit_75, lit_78, lit_84, lit_85, lit_86, lit_87, lit_89, lit_90, lit_91, lit_95, lit_96, lit_97, lit_98, lit_99, lit_100, lit_101, lit_102, lit_103, lit_104, lit_105, lit_107, lit_108, lit_109, lit_110, lit_111, lit_112, lit_114, lit_115, lit_116, lit_117, lit_119, lit_121, lit_122, lit_126, lit_127, lit_128, lit_130, lit_134, lit_137, lit_139, lit_140, lit_141, lit_145, lit_152, lit_159, lit_160, lit_168, lit_174, lit_180, lit_183, lit_192, lit_199, lit_236, lit_251, lit_255, lit_272, lit_284, lit_300, lit_330, lit_373, lit_753, lit_800, lit_896, lit_900, lit_1000, lit_1001, lit_1002, lit_1003, lit_1079, lit_1276, lit_1330, lit_1450, lit_3012, lit_3016, lit_3300, lit_8430, lit_9999, lit_10000, lit_11730, lit_30467, lit_65536, lit_99999, lit_100000, lit_1000000, lit_252645135, lit_858993459, lit_1000000000, lit_1431655765, jI_add, jI_sub, jI_mul, jI_neg, jI_lt, jI_le, jI_eq]
    rw [if_neg (by omega)]
    by_cases e : (s : Int) = 0
    · rw [if_pos e]
      have e2 : s = 0 := by omega
      subst e2
      rw [Nat.gcd_zero_right]
    · rw [if_neg e, if_neg e]
      have sp : 0 < s := by omega
      have er : (l : Int) - (l : Int) / s * s = ((l % s : Nat) : Int) := by
        have := Int.emod_def (l : Int) s
        rw [Int.mul_comm] at this
        rw [← this]
        exact (Int.natCast_emod l s).symm
      have hd2 : jI (l : Int) / jI (s : Int) = jI ((l : Int) / s) := jI_dvn (by omega) (by omega) (by omega) (by omega)
      rw [hd2]
      simp only [jI_add, jI_sub, jI_mul, jI_neg]
      rw [er]
      have hm := Nat.mod_lt l sp
      have g : Nat.gcd l s = Nat.gcd s (l % s) := by
        rw [Nat.gcd_comm l s, Nat.gcd_rec s l, Nat.gcd_comm]
      rw [g]
      have hlt : l % s + s ≤ l := by
        have e4 := Nat.div_add_mod l s
        have e5 : 1 ≤ l / s := Nat.div_pos hs sp
        have e6 : s * 1 ≤ s * (l / s) := Nat.mul_le_mul_left s e5
        omega
      have hpr : s * (2 * (l % s)) < s * l := Nat.mul_lt_mul_of_pos_left (by omega) sp
      have e7 : s * (2 * (l % s)) = 2 * (s * (l % s)) := Nat.mul_left_comm _ _ _
      have e8 : s * l = l * s := Nat.mul_comm _ _
      have e9 : 2 ^ (k + 1) = 2 * 2 ^ k := Nat.pow_succ'
      exact ih (i + 1) s (l % s) (by omega) (by omega) (by omega) (by omega) (by omega) _ rfl
theorem C_commonOf {a b : Int} (ha : -2147483648 < a ∧ a ≤ 2147483647) (hb : -2147483648 < b ∧ b ≤ 2147483647) (hp : a.natAbs * b.natAbs < 2 ^ 62) : m_M x k_G_commonOf [.int (jI a), .int (jI b)] (mk F G) = some (some (.int (jI (Int.gcd a b))), mk F G) := by
  have ea : (if 0 ≤ a then a else -a) = (a.natAbs : Int) := by split <;> omega
  have eb : (if 0 ≤ b then b else -b) = (b.natAbs : Int) := by split <;> omega
  have eg : Int.gcd a b = Nat.gcd a.natAbs b.natAbs := rfl
  rw [E_G_commonOf, C_abs x F G ha.1 ha.2, b_I, C_abs x F G hb.1 hb.2, b_I, ea, eb, eg]
  have hla : a.natAbs ≤ 2147483647 := by omega
  have hlb : b.natAbs ≤ 2147483647 := by omega
  generalize a.natAbs = l at *
  generalize b.natAbs = s at *
  rw [E_G_commonOf_13 x 2 (by omega) _ _ _ _ _ _ _ rfl]
  simp (disch := omega) only [lit_0, lit_1, lit_2, lit_3, lit_4, lit_5, lit_6, lit_7, lit_8, lit_9, lit_10, lit_11, lit_12, lit_13, lit_14, lit_15, lit_16, lit_17, lit_18, lit_19, lit_20, lit_21, lit_22, lit_23, lit_24, lit_25, lit_26, lit_27, lit_28, lit_29, lit_30, lit_31, lit_32, lit_33, lit_34, lit_35, lit_36, lit_37, lit_38, lit_39, lit_40, lit_41, lit_42, lit_43, lit_44, lit_45, lit_46, lit_47, lit_48, lit_49, lit_50, lit_51, lit_52, lit_53, lit_54, lit_55, lit_56, lit_57, lit_58, lit_59, lit_60, lit_61, lit_62, lit_63, lit_64, lit_65, lit_67, lit_70, lit_71, lit_73, lit_75, lit_78, lit_84, lit_85, lit_86, lit_87, lit_89, lit_90, lit_91, lit_95, lit_96, lit_97, lit_98, lit_99, lit_100, lit_101, lit_102, lit_103, lit_104, lit_105, lit_107, lit_108, lit_109, lit_110, lit_111, lit_112, lit_114, lit_115, lit_116, lit_117, lit_119, lit_121, lit_122, lit_126, lit_127, lit_128, lit_130, lit_134, lit_137, lit_139, lit_140, lit_141, lit_145, lit_152, lit_159, lit_160, lit_168, lit_174, lit_180, lit_183, lit_192, lit_199, lit_236, lit_251, lit_255, lit_272, lit_284, lit_300, lit_330, lit_373, lit_753, lit_800, lit_896, lit_900, lit_1000, lit_1001, lit_1002, lit_1003, lit_1079, lit_1276, lit_1330, lit_1450, lit_3012, lit_3016, lit_3300, lit_8430, lit_9999, lit_10000, lit_11730, lit_30467, lit_65536, lit_99999, lit_100000, lit_1000000, lit_252645135, lit_858993459, lit_1000000000, lit_1431655765, jI_add, jI_sub, jI_mul, jI_neg, jI_lt, jI_le, jI_eq]
  rw [if_neg (by omega)]
  by_cases e : (s : Int) = 0
  · rw [if_pos e]
    have e2 : s = 0 := by omega
    subst e2
    rw [Nat.gcd_zero_right]
  · rw [if_neg e, if_neg e]
    have sp : 0 < s := by omega
    have er : (l : Int) - (l : Int) / s * s = ((l % s : Nat) : Int) := by
      have := Int.emod_def (l : Int) s
      rw [Int.mul_comm] at this
      rw [← this]
      exact (Int.natCast_emod l s).symm
    have hd2 : jI (l : Int) / jI (s : Int) = jI ((l : Int) / s) := jI_dvn (by omega) (by omega) (by omega) (by omega)
    rw [hd2]
    simp only [jI_add, jI_sub, jI_mul, jI_neg]
    rw [er]
    have hm := Nat.mod_lt l sp
    have g : Nat.gcd l s = Nat.gcd s (l % s) := by
      rw [Nat.gcd_comm l s, Nat.gcd_rec s l, Nat.gcd_comm]
    rw [g]
    have h2 : s * (l % s) ≤ s * l := Nat.mul_le_mul_left s (Nat.mod_le l s)
    have e8 : s * l = l * s := Nat.mul_comm _ _
    exact C_commonOf_13 x F G _ _ 62 1 s (l % s) (by omega) (by omega) (by omega) (by omega) (by omega) _ rfl
theorem M_common_28 (a b : Int64) : ∀ (s l : Nat), s ≤ 4611686018427387904 → l ≤ 4611686018427387904 → ∀ d8, (m_nl d8 = true ∨ ∃ z, d8 = some (.long z)) → m_D x 1 k_M_common 28 [some (.long a), none, some (.long b), none, some (.long (jL l)), none, some (.long (jL s)), none, d8, none] [] (mk F G) = some (some (.long (jL (Nat.gcd l s))), mk F G) := by
  intro s
  induction s using Nat.strongRecOn with
  | _ s ih =>
    intro l hs hl d8 hd
    have step : m_D x 1 k_M_common 28 [some (.long a), none, some (.long b), none, some (.long (jL l)), none, some (.long (jL s)), none, d8, none] [] (mk F G) = if jL s = 0 then (some (some (.long (jL l)), mk F G)) else if jL s = 0 then none else m_D x 1 k_M_common 28 [some (.long a), none, some (.long b), none, some (.long (jL s)), none, some (.long (jL l - jL l / jL s * jL s)), none, some (.long (jL l - jL l / jL s * jL s)), none] [] (mk F G) := by
      rcases hd with hd | ⟨z, rfl⟩
      · exact E_M_common_28 x 1 (by omega) _ _ _ _ _ _ hd
      · exact E_M_common_28L x 1 (by omega) _ _ _ _ _ _
    rw [step]
    simp (disch := omega) only [llt_0, llt_1, llt_2, llt_3, llt_4, llt_5, llt_6, llt_7, llt_8, llt_9, llt_10, llt_11, llt_12, llt_13, llt_14, llt_15, llt_16, llt_17, llt_18, llt_19, llt_20, llt_21, llt_22, llt_23, llt_24, llt_25, llt_26, llt_27, llt_28, llt_29, llt_30, llt_31, llt_32, llt_33, llt_34, llt_35, llt_36, llt_37, llt_38, llt_39, llt_40, llt_41, llt_42, llt_43, llt_44, llt_45, llt_46, llt_47, llt_48, llt_49, llt_50, llt_51, llt_52, llt_53, llt_54, llt_55, llt_56, llt_57, llt_58, llt_59, llt_60, llt_61, llt_62, llt_63, llt_64, llt_65, llt_67, llt_70, llt_71, llt_73, llt_75, llt_78, llt_84, llt_85, llt_86, llt_87, llt_89, llt_90, llt_91, llt_95, llt_96, llt_97, llt_98, llt_99, llt_100, llt_101, llt_102, llt_103, llt_104, llt_105, llt_107, llt_108, llt_109, llt_110, llt_111, llt_112, llt_114, llt_115, llt_116, llt_117, llt_119, llt_121, llt_122, llt_126, llt_127, llt_128, llt_130, llt_134, llt_137, llt_139, llt_140, llt_141, llt_145, llt_152, llt_159, llt_160, llt_168, llt_174, llt_180, llt_183, llt_192, llt_199, llt_236, llt_251, llt_255, llt_272, llt_284, llt_300, llt_330, llt_373, llt_753, llt_800, llt_896, llt_900, llt_1000, llt_1001, llt_1002, llt_1003, llt_1079, llt_1276, llt_1330, llt_1450, llt_3012, llt_3016, llt_3300, llt_8430, llt_9999, llt_10000, llt_11730, llt_30467, llt_65536, llt_99999, llt_100000, llt_1000000, llt_252645135, llt_858993459, llt_1000000000, llt_1431655765, llt_1152921504606846976, jL_lt, jL_le, jL_eq]
    by_cases e : (s : Int) = 0
    · rw [if_pos e]
      have e2 : s = 0 := by omega
      subst e2
      rw [Nat.gcd_zero_right]
    · rw [if_neg e, if_neg e]
      have sp : 0 < s := by omega
      rw [jL_modn (by omega) (by omega) (by omega) (by omega)]
      have er : (l : Int) % s = ((l % s : Nat) : Int) := (Int.natCast_emod l s).symm
      rw [er]
      have hm := Nat.mod_lt l sp
      have g : Nat.gcd l s = Nat.gcd s (l % s) := by
        rw [Nat.gcd_comm l s, Nat.gcd_rec s l, Nat.gcd_comm]
      rw [g]
      exact ih (l % s) hm s (by omega) (by omega) _ (Or.inr ⟨_, rfl⟩)
theorem M_common {a b : Int} (ha : -4611686018427387904 ≤ a ∧ a ≤ 4611686018427387904) (hb : -4611686018427387904 ≤ b ∧ b ≤ 4611686018427387904) : m_M x k_M_common [.long (jL a), .long (jL b)] (mk F G) = some (some (.long (jL (Int.gcd a b))), mk F G) := by
  have eg : Int.gcd a b = Nat.gcd a.natAbs b.natAbs := rfl
  rw [E_M_common, eg]
  simp (disch := omega) only [llt_0, llt_1, llt_2, llt_3, llt_4, llt_5, llt_6, llt_7, llt_8, llt_9, llt_10, llt_11, llt_12, llt_13, llt_14, llt_15, llt_16, llt_17, llt_18, llt_19, llt_20, llt_21, llt_22, llt_23, llt_24, llt_25, llt_26, llt_27, llt_28, llt_29, llt_30, llt_31, llt_32, llt_33, llt_34, llt_35, llt_36, llt_37, llt_38, llt_39, llt_40, llt_41, llt_42, llt_43, llt_44, llt_45, llt_46, llt_47, llt_48, llt_49, llt_50, llt_51, llt_52, llt_53, llt_54, llt_55, llt_56, llt_57, llt_58, llt_59, llt_60, llt_61, llt_62, llt_63, llt_64, llt_65, llt_67, llt_70, llt_71, llt_73, llt_75, llt_78, llt_84, llt_85, llt_86, llt_87, llt_89, llt_90, llt_91, llt_95, llt_96, llt_97, llt_98, llt_99, llt_100, llt_101, llt_102, llt_103, llt_104, llt_105, llt_107, llt_108, llt_109, llt_110, llt_111, llt_112, llt_114, llt_115, llt_116, llt_117, llt_119, llt_121, llt_122, llt_126, llt_127, llt_128, llt_130, llt_134, llt_137, llt_139, llt_140, llt_141, llt_145, llt_152, llt_159, llt_160, llt_168, llt_174, llt_180, llt_183, llt_192, llt_199, llt_236, llt_251, llt_255, llt_272, llt_284, llt_300, llt_330, llt_373, llt_753, llt_800, llt_896, llt_900, llt_1000, llt_1001, llt_1002, llt_1003, llt_1079, llt_1276, llt_1330, llt_1450, llt_3012, llt_3016, llt_3300, llt_8430, llt_9999, llt_10000, llt_11730, llt_30467, llt_65536, llt_99999, llt_100000, llt_1000000, llt_252645135, llt_858993459, llt_1000000000, llt_1431655765, llt_1152921504606846976, jL_lt, jL_le, jL_eq, jL_add, jL_sub, jL_mul, jL_neg]
  by_cases h1 : 0 ≤ a
  · rw [if_pos h1]
    have ea : a = (a.natAbs : Int) := by omega
    by_cases h2 : 0 ≤ b
    · rw [if_pos h2]
      have eb : b = (b.natAbs : Int) := by omega
      have q := M_common_28 x F G (jL a) (jL b) b.natAbs a.natAbs (by omega) (by omega) none (Or.inl rfl)
      rw [← ea, ← eb] at q
      exact q
    · rw [if_neg h2]
      have eb : -b = (b.natAbs : Int) := by omega
      have q := M_common_28 x F G (jL a) (jL b) b.natAbs a.natAbs (by omega) (by omega) none (Or.inl rfl)
      rw [← ea, ← eb] at q
      exact q
  · rw [if_neg h1]
    have ea : -a = (a.natAbs : Int) := by omega
    by_cases h2 : 0 ≤ b
    · rw [if_pos h2]
      have eb : b = (b.natAbs : Int) := by omega
      have q := M_common_28 x F G (jL a) (jL b) b.natAbs a.natAbs (by omega) (by omega) none (Or.inl rfl)
      rw [← ea, ← eb] at q
      exact q
    · rw [if_neg h2]
      have eb : -b = (b.natAbs : Int) := by omega
      have q := M_common_28 x F G (jL a) (jL b) b.natAbs a.natAbs (by omega) (by omega) none (Or.inl rfl)
      rw [← ea, ← eb] at q
      exact q
theorem clip_bd (z : Int) : bd (clip z) := by
  unfold clip bd
  split
  · omega
  · split <;> omega
theorem gcd_bd {a b : Int} (ha : bd a) (hb : bd b) : bd (Int.gcd a b : Nat) := by
  unfold bd at *
  have h1 : (Int.gcd a b) ≤ a.natAbs ∨ a.natAbs = 0 := by
    rcases Nat.eq_zero_or_pos a.natAbs with h | h
    · exact Or.inr h
    · exact Or.inl (Nat.gcd_le_left _ h)
  rcases h1 with h | h
  · omega
  · have e : Int.gcd a b = b.natAbs := by
      show Nat.gcd a.natAbs b.natAbs = _
      rw [h, Nat.gcd_zero_left]
    omega
theorem tdiv_bd {a b : Int} (ha : bd a) : bd (a.tdiv b) := by
  unfold bd at *
  have := Int.natAbs_tdiv_le_natAbs a b
  omega
theorem cbin_bd {d l r : Int} (hl : bd l) (hr : bd r) : bd (cbin d l r) := by
  have z0 : bd 0 := by unfold bd; omega
  have z1 : bd 1 := by unfold bd; omega
  unfold cbin
  repeat' split
  all_goals first | exact clip_bd _ | exact gcd_bd hl hr | exact tdiv_bd hl | exact z0 | exact z1
theorem mul_bd {l r : Int} (hl : bd l) (hr : bd r) : -1000000000000 ≤ l * r ∧ l * r ≤ 1000000000000 := by
  unfold bd at *
  have h : (l * r).natAbs ≤ 1000000 * 1000000 := by
    rw [Int.natAbs_mul]
    exact Nat.mul_le_mul (by omega) (by omega)
  omega
theorem C_bounded {z : Int} (h1 : -1000000000000 ≤ z) (h2 : z ≤ 1000000000000) : m_M x k_Law_bounded [.long (jL z)] (mk F G) = some (some (.int (jI (clip z))), mk F G) := by
  rw [E_Law_bounded, E_Math_min_JJ]
  simp (disch := omega) only [llt_0, llt_1, llt_2, llt_3, llt_4, llt_5, llt_6, llt_7, llt_8, llt_9, llt_10, llt_11, llt_12, llt_13, llt_14, llt_15, llt_16, llt_17, llt_18, llt_19, llt_20, llt_21, llt_22, llt_23, llt_24, llt_25, llt_26, llt_27, llt_28, llt_29, llt_30, llt_31, llt_32, llt_33, llt_34, llt_35, llt_36, llt_37, llt_38, llt_39, llt_40, llt_41, llt_42, llt_43, llt_44, llt_45, llt_46, llt_47, llt_48, llt_49, llt_50, llt_51, llt_52, llt_53, llt_54, llt_55, llt_56, llt_57, llt_58, llt_59, llt_60, llt_61, llt_62, llt_63, llt_64, llt_65, llt_67, llt_70, llt_71, llt_73, llt_75, llt_78, llt_84, llt_85, llt_86, llt_87, llt_89, llt_90, llt_91, llt_95, llt_96, llt_97, llt_98, llt_99, llt_100, llt_101, llt_102, llt_103, llt_104, llt_105, llt_107, llt_108, llt_109, llt_110, llt_111, llt_112, llt_114, llt_115, llt_116, llt_117, llt_119, llt_121, llt_122, llt_126, llt_127, llt_128, llt_130, llt_134, llt_137, llt_139, llt_140, llt_141, llt_145, llt_152, llt_159, llt_160, llt_168, llt_174, llt_180, llt_183, llt_192, llt_199, llt_236, llt_251, llt_255, llt_272, llt_284, llt_300, llt_330, llt_373, llt_753, llt_800, llt_896, llt_900, llt_1000, llt_1001, llt_1002, llt_1003, llt_1079, llt_1276, llt_1330, llt_1450, llt_3012, llt_3016, llt_3300, llt_8430, llt_9999, llt_10000, llt_11730, llt_30467, llt_65536, llt_99999, llt_100000, llt_1000000, llt_252645135, llt_858993459, llt_1000000000, llt_1431655765, llt_1152921504606846976, jL_lt, jL_le, jL_eq, jL_add, jL_sub, jL_mul, jL_neg]
  unfold clip
  by_cases h : 1000000 < z
  · rw [if_pos h, if_pos h, b_L, E_Math_max_JJ]
    simp (disch := omega) only [jL_lt, jL_le, jL_eq]
    rw [if_pos (by omega), b_L, jL_toI]
  · rw [if_neg h, if_neg h, b_L, E_Math_max_JJ]
    simp (disch := omega) only [jL_lt, jL_le, jL_eq]
    by_cases h3 : z < -1000000
    · rw [if_pos h3, if_neg (by omega), b_L, jL_toI]
    · rw [if_neg h3]
      by_cases h4 : -1000000 < z
      · rw [if_pos h4, b_L, jL_toI]
      · have e : z = -1000000 := by omega
        rw [if_neg h4, b_L, jL_toI, e]
theorem cmpI_37 (l r : Int) : (cmpI 37 l r = true) = (l < r) := by simp [cmpI]
theorem cmpI_48 (l r : Int) : (cmpI 48 l r = true) = (l ≤ r) := by simp [cmpI]
theorem cmpI_38 (l r : Int) : (cmpI 38 l r = true) = (r < l) := by simp [cmpI]
theorem cmpI_49 (l r : Int) : (cmpI 49 l r = true) = (r ≤ l) := by simp [cmpI]
theorem cmpI_39 (l r : Int) : (cmpI 39 l r = true) = (l = r) := by simp [cmpI]
theorem cmpI_40 (l r : Int) : (cmpI 40 l r = true) = (¬ l = r) := by simp [cmpI]
theorem C_holds {d l r : Int} (hd : d = 37 ∨ d = 38 ∨ d = 39 ∨ d = 40 ∨ d = 48 ∨ d = 49) (hl : bd l) (hr : bd r) : m_M x k_Law_holds [.int (jI d), .int (jI l), .int (jI r)] (mk F G) = some (some (.int (jI (if cmpI d l r then 1 else 0))), mk F G) := by
  unfold bd at hl hr
  rw [E_Law_holds]
  rcases hd with rfl | rfl | rfl | rfl | rfl | rfl
  · simp (disch := omega) only [lit_0, lit_1, lit_2, lit_3, lit_4, lit_5, lit_6, lit_7, lit_8, lit_9, lit_10, lit_11, lit_12, lit_13, lit_14, lit_15, lit_16, lit_17, lit_18, lit_19, lit_20, lit_21, lit_22, lit_23, lit_24, lit_25, lit_26, lit_27, lit_28, lit_29, lit_30, lit_31, lit_32, lit_33, lit_34, lit_35, lit_36, lit_37, lit_38, lit_39, lit_40, lit_41, lit_42, lit_43, lit_44, lit_45, lit_46, lit_47, lit_48, lit_49, lit_50, lit_51, lit_52, lit_53, lit_54, lit_55, lit_56, lit_57, lit_58, lit_59, lit_60, lit_61, lit_62, lit_63, lit_64, lit_65, lit_67, lit_70, lit_71, lit_73, lit_75, lit_78, lit_84, lit_85, lit_86, lit_87, lit_89, lit_90, lit_91, lit_95, lit_96, lit_97, lit_98, lit_99, lit_100, lit_101, lit_102, lit_103, lit_104, lit_105, lit_107, lit_108, lit_109, lit_110, lit_111, lit_112, lit_114, lit_115, lit_116, lit_117, lit_119, lit_121, lit_122, lit_126, lit_127, lit_128, lit_130, lit_134, lit_137, lit_139, lit_140, lit_141, lit_145, lit_152, lit_159, lit_160, lit_168, lit_174, lit_180, lit_183, lit_192, lit_199, lit_236, lit_251, lit_255, lit_272, lit_284, lit_300, lit_330, lit_373, lit_753, lit_800, lit_896, lit_900, lit_1000, lit_1001, lit_1002, lit_1003, lit_1079, lit_1276, lit_1330, lit_1450, lit_3012, lit_3016, lit_3300, lit_8430, lit_9999, lit_10000, lit_11730, lit_30467, lit_65536, lit_99999, lit_100000, lit_1000000, lit_252645135, lit_858993459, lit_1000000000, lit_1431655765, jI_lt, jI_le, jI_eq, if_pos, if_neg, ↓reduceIte, cmpI_37]
    by_cases h : l < r
    · rw [if_neg (by omega), if_pos h]
    · rw [if_pos (by omega), if_neg h]
  · simp (disch := omega) only [lit_0, lit_1, lit_2, lit_3, lit_4, lit_5, lit_6, lit_7, lit_8, lit_9, lit_10, lit_11, lit_12, lit_13, lit_14, lit_15, lit_16, lit_17, lit_18, lit_19, lit_20, lit_21, lit_22, lit_23, lit_24, lit_25, lit_26, lit_27, lit_28, lit_29, lit_30, lit_31, lit_32, lit_33, lit_34, lit_35, lit_36, lit_37, lit_38, lit_39, lit_40, lit_41, lit_42, lit_43, lit_44, lit_45, lit_46, lit_47, lit_48, lit_49, lit_50, lit_51, lit_52, lit_53, lit_54, lit_55, lit_56, lit_57, lit_58, lit_59, lit_60, lit_61, lit_62, lit_63, lit_64, lit_65, lit_67, lit_70, lit_71, lit_73, lit_75, lit_78, lit_84, lit_85, lit_86, lit_87, lit_89, lit_90, lit_91, lit_95, lit_96, lit_97, lit_98, lit_99, lit_100, lit_101, lit_102, lit_103, lit_104, lit_105, lit_107, lit_108, lit_109, lit_110, lit_111, lit_112, lit_114, lit_115, lit_116, lit_117, lit_119, lit_121, lit_122, lit_126, lit_127, lit_128, lit_130, lit_134, lit_137, lit_139, lit_140, lit_141, lit_145, lit_152, lit_159, lit_160, lit_168, lit_174, lit_180, lit_183, lit_192, lit_199, lit_236, lit_251, lit_255, lit_272, lit_284, lit_300, lit_330, lit_373, lit_753, lit_800, lit_896, lit_900, lit_1000, lit_1001, lit_1002, lit_1003, lit_1079, lit_1276, lit_1330, lit_1450, lit_3012, lit_3016, lit_3300, lit_8430, lit_9999, lit_10000, lit_11730, lit_30467, lit_65536, lit_99999, lit_100000, lit_1000000, lit_252645135, lit_858993459, lit_1000000000, lit_1431655765, jI_lt, jI_le, jI_eq, if_pos, if_neg, ↓reduceIte, cmpI_38]
    by_cases h : r < l
    · rw [if_neg (by omega), if_pos h]
    · rw [if_pos (by omega), if_neg h]
  · simp (disch := omega) only [lit_0, lit_1, lit_2, lit_3, lit_4, lit_5, lit_6, lit_7, lit_8, lit_9, lit_10, lit_11, lit_12, lit_13, lit_14, lit_15, lit_16, lit_17, lit_18, lit_19, lit_20, lit_21, lit_22, lit_23, lit_24, lit_25, lit_26, lit_27, lit_28, lit_29, lit_30, lit_31, lit_32, lit_33, lit_34, lit_35, lit_36, lit_37, lit_38, lit_39, lit_40, lit_41, lit_42, lit_43, lit_44, lit_45, lit_46, lit_47, lit_48, lit_49, lit_50, lit_51, lit_52, lit_53, lit_54, lit_55, lit_56, lit_57, lit_58, lit_59, lit_60, lit_61, lit_62, lit_63, lit_64, lit_65, lit_67, lit_70, lit_71, lit_73, lit_75, lit_78, lit_84, lit_85, lit_86, lit_87, lit_89, lit_90, lit_91, lit_95, lit_96, lit_97, lit_98, lit_99, lit_100, lit_101, lit_102, lit_103, lit_104, lit_105, lit_107, lit_108, lit_109, lit_110, lit_111, lit_112, lit_114, lit_115, lit_116, lit_117, lit_119, lit_121, lit_122, lit_126, lit_127, lit_128, lit_130, lit_134, lit_137, lit_139, lit_140, lit_141, lit_145, lit_152, lit_159, lit_160, lit_168, lit_174, lit_180, lit_183, lit_192, lit_199, lit_236, lit_251, lit_255, lit_272, lit_284, lit_300, lit_330, lit_373, lit_753, lit_800, lit_896, lit_900, lit_1000, lit_1001, lit_1002, lit_1003, lit_1079, lit_1276, lit_1330, lit_1450, lit_3012, lit_3016, lit_3300, lit_8430, lit_9999, lit_10000, lit_11730, lit_30467, lit_65536, lit_99999, lit_100000, lit_1000000, lit_252645135, lit_858993459, lit_1000000000, lit_1431655765, jI_lt, jI_le, jI_eq, if_pos, if_neg, ↓reduceIte, cmpI_39]
    by_cases h : l = r
    · simp only [if_pos h]
    · simp only [if_neg h]
  · simp (disch := omega) only [lit_0, lit_1, lit_2, lit_3, lit_4, lit_5, lit_6, lit_7, lit_8, lit_9, lit_10, lit_11, lit_12, lit_13, lit_14, lit_15, lit_16, lit_17, lit_18, lit_19, lit_20, lit_21, lit_22, lit_23, lit_24, lit_25, lit_26, lit_27, lit_28, lit_29, lit_30, lit_31, lit_32, lit_33, lit_34, lit_35, lit_36, lit_37, lit_38, lit_39, lit_40, lit_41, lit_42, lit_43, lit_44, lit_45, lit_46, lit_47, lit_48, lit_49, lit_50, lit_51, lit_52, lit_53, lit_54, lit_55, lit_56, lit_57, lit_58, lit_59, lit_60, lit_61, lit_62, lit_63, lit_64, lit_65, lit_67, lit_70, lit_71, lit_73, lit_75, lit_78, lit_84, lit_85, lit_86, lit_87, lit_89, lit_90, lit_91, lit_95, lit_96, lit_97, lit_98, lit_99, lit_100, lit_101, lit_102, lit_103, lit_104, lit_105, lit_107, lit_108, lit_109, lit_110, lit_111, lit_112, lit_114, lit_115, lit_116, lit_117, lit_119, lit_121, lit_122, lit_126, lit_127, lit_128, lit_130, lit_134, lit_137, lit_139, lit_140, lit_141, lit_145, lit_152, lit_159, lit_160, lit_168, lit_174, lit_180, lit_183, lit_192, lit_199, lit_236, lit_251, lit_255, lit_272, lit_284, lit_300, lit_330, lit_373, lit_753, lit_800, lit_896, lit_900, lit_1000, lit_1001, lit_1002, lit_1003, lit_1079, lit_1276, lit_1330, lit_1450, lit_3012, lit_3016, lit_3300, lit_8430, lit_9999, lit_10000, lit_11730, lit_30467, lit_65536, lit_99999, lit_100000, lit_1000000, lit_252645135, lit_858993459, lit_1000000000, lit_1431655765, jI_lt, jI_le, jI_eq, if_pos, if_neg, ↓reduceIte, cmpI_40]
    by_cases h : l = r
    · have h2 : l = r := h
      simp only [h2, if_true, not_true, if_false, ↓reduceIte]
    · have h2 : ¬ l = r := h
      simp only [h2, if_true, not_false_eq_true, if_false, ↓reduceIte]
  · simp (disch := omega) only [lit_0, lit_1, lit_2, lit_3, lit_4, lit_5, lit_6, lit_7, lit_8, lit_9, lit_10, lit_11, lit_12, lit_13, lit_14, lit_15, lit_16, lit_17, lit_18, lit_19, lit_20, lit_21, lit_22, lit_23, lit_24, lit_25, lit_26, lit_27, lit_28, lit_29, lit_30, lit_31, lit_32, lit_33, lit_34, lit_35, lit_36, lit_37, lit_38, lit_39, lit_40, lit_41, lit_42, lit_43, lit_44, lit_45, lit_46, lit_47, lit_48, lit_49, lit_50, lit_51, lit_52, lit_53, lit_54, lit_55, lit_56, lit_57, lit_58, lit_59, lit_60, lit_61, lit_62, lit_63, lit_64, lit_65, lit_67, lit_70, lit_71, lit_73, lit_75, lit_78, lit_84, lit_85, lit_86, lit_87, lit_89, lit_90, lit_91, lit_95, lit_96, lit_97, lit_98, lit_99, lit_100, lit_101, lit_102, lit_103, lit_104, lit_105, lit_107, lit_108, lit_109, lit_110, lit_111, lit_112, lit_114, lit_115, lit_116, lit_117, lit_119, lit_121, lit_122, lit_126, lit_127, lit_128, lit_130, lit_134, lit_137, lit_139, lit_140, lit_141, lit_145, lit_152, lit_159, lit_160, lit_168, lit_174, lit_180, lit_183, lit_192, lit_199, lit_236, lit_251, lit_255, lit_272, lit_284, lit_300, lit_330, lit_373, lit_753, lit_800, lit_896, lit_900, lit_1000, lit_1001, lit_1002, lit_1003, lit_1079, lit_1276, lit_1330, lit_1450, lit_3012, lit_3016, lit_3300, lit_8430, lit_9999, lit_10000, lit_11730, lit_30467, lit_65536, lit_99999, lit_100000, lit_1000000, lit_252645135, lit_858993459, lit_1000000000, lit_1431655765, jI_lt, jI_le, jI_eq, if_pos, if_neg, ↓reduceIte, cmpI_48]
    by_cases h : l ≤ r
    · rw [if_neg (by omega), if_pos h]
    · rw [if_pos (by omega), if_neg h]
  · simp (disch := omega) only [lit_0, lit_1, lit_2, lit_3, lit_4, lit_5, lit_6, lit_7, lit_8, lit_9, lit_10, lit_11, lit_12, lit_13, lit_14, lit_15, lit_16, lit_17, lit_18, lit_19, lit_20, lit_21, lit_22, lit_23, lit_24, lit_25, lit_26, lit_27, lit_28, lit_29, lit_30, lit_31, lit_32, lit_33, lit_34, lit_35, lit_36, lit_37, lit_38, lit_39, lit_40, lit_41, lit_42, lit_43, lit_44, lit_45, lit_46, lit_47, lit_48, lit_49, lit_50, lit_51, lit_52, lit_53, lit_54, lit_55, lit_56, lit_57, lit_58, lit_59, lit_60, lit_61, lit_62, lit_63, lit_64, lit_65, lit_67, lit_70, lit_71, lit_73, lit_75, lit_78, lit_84, lit_85, lit_86, lit_87, lit_89, lit_90, lit_91, lit_95, lit_96, lit_97, lit_98, lit_99, lit_100, lit_101, lit_102, lit_103, lit_104, lit_105, lit_107, lit_108, lit_109, lit_110, lit_111, lit_112, lit_114, lit_115, lit_116, lit_117, lit_119, lit_121, lit_122, lit_126, lit_127, lit_128, lit_130, lit_134, lit_137, lit_139, lit_140, lit_141, lit_145, lit_152, lit_159, lit_160, lit_168, lit_174, lit_180, lit_183, lit_192, lit_199, lit_236, lit_251, lit_255, lit_272, lit_284, lit_300, lit_330, lit_373, lit_753, lit_800, lit_896, lit_900, lit_1000, lit_1001, lit_1002, lit_1003, lit_1079, lit_1276, lit_1330, lit_1450, lit_3012, lit_3016, lit_3300, lit_8430, lit_9999, lit_10000, lit_11730, lit_30467, lit_65536, lit_99999, lit_100000, lit_1000000, lit_252645135, lit_858993459, lit_1000000000, lit_1431655765, jI_lt, jI_le, jI_eq, if_pos, if_neg, ↓reduceIte, cmpI_49]
    by_cases h : r ≤ l
    · rw [if_neg (by omega), if_pos h]
    · rw [if_pos (by omega), if_neg h]
theorem C_joined {d l r : Int} (hd : isBin d ∨ ((d = 34 ∨ d = 35) ∧ (l = 0 ∨ l = 1) ∧ (r = 0 ∨ r = 1))) (hl : bd l) (hr : bd r) : m_M x k_Law_joined [.int (jI d), .int (jI l), .int (jI r)] (mk F G) = some (some (.int (jI (cbin d l r))), mk F G) := by
  have hm := mul_bd hl hr
  have hl' := hl
  have hr' := hr
  unfold bd at hl' hr'
  have hc : ∀ d, (d = 37 ∨ d = 38 ∨ d = 39 ∨ d = 40 ∨ d = 48 ∨ d = 49) → (m_bI (m_M x k_Law_holds [.int (jI d), .int (jI l), .int (jI r)] (mk F G)) fun v s => if v = jI 0 then (some (some (.int (jI 0)), s)) else some (some (Value.int (jI 1)), s)) = some (some (.int (jI (cbin d l r))), mk F G) := by
    intro d h
    rw [C_holds x F G h hl hr, b_I]
    have e : cbin d l r = if cmpI d l r then 1 else 0 := by
      unfold cbin
      rw [if_neg (by omega), if_neg (by omega), if_neg (by omega), if_neg (by omega), if_neg (by omega), if_neg (by omega), if_neg (by omega)]
    rw [e]
    by_cases q : cmpI d l r = true
    · rw [if_pos q, if_neg (by decide)]
    · rw [if_neg q, if_pos rfl]
  rw [E_Law_joined]
  have hd2 : d = 27 ∨ d = 34 ∨ d = 35 ∨ (d = 37 ∨ d = 38 ∨ d = 39 ∨ d = 40) ∨ d = 41 ∨ d = 42 ∨ d = 43 ∨ d = 44 ∨ (d = 48 ∨ d = 49) := by
    unfold isBin at hd
    omega
  rcases hd2 with rfl | rfl | rfl | h | rfl | rfl | rfl | rfl | h
  · simp (disch := omega) only [lit_0, lit_1, lit_2, lit_3, lit_4, lit_5, lit_6, lit_7, lit_8, lit_9, lit_10, lit_11, lit_12, lit_13, lit_14, lit_15, lit_16, lit_17, lit_18, lit_19, lit_20, lit_21, lit_22, lit_23, lit_24, lit_25, lit_26, lit_27, lit_28, lit_29, lit_30, lit_31, lit_32, lit_33, lit_34, lit_35, lit_36, lit_37, lit_38, lit_39, lit_40, lit_41, lit_42, lit_43, lit_44, lit_45, lit_46, lit_47, lit_48, lit_49, lit_50, lit_51, lit_52, lit_53, lit_54, lit_55, lit_56, lit_57, lit_58, lit_59, lit_60, lit_61, lit_62, lit_63, lit_64, lit_65, lit_67, lit_70, lit_71, lit_73, lit_75, lit_78, lit_84, lit_85, lit_86, lit_87, lit_89, lit_90, lit_91, lit_95, lit_96, lit_97, lit_98, lit_99, lit_100, lit_101, lit_102, lit_103, lit_104, lit_105, lit_107, lit_108, lit_109, lit_110, lit_111, lit_112, lit_114, lit_115, lit_116, lit_117, lit_119, lit_121, lit_122, lit_126, lit_127, lit_128, lit_130, lit_134, lit_137, lit_139, lit_140, lit_141, lit_145, lit_152, lit_159, lit_160, lit_168, lit_174, lit_180, lit_183, lit_192, lit_199, lit_236, lit_251, lit_255, lit_272, lit_284, lit_300, lit_330, lit_373, lit_753, lit_800, lit_896, lit_900, lit_1000, lit_1001, lit_1002, lit_1003, lit_1079, lit_1276, lit_1330, lit_1450, lit_3012, lit_3016, lit_3300, lit_8430, lit_9999, lit_10000, lit_11730, lit_30467, lit_65536, lit_99999, lit_100000, lit_1000000, lit_252645135, lit_858993459, lit_1000000000, lit_1431655765, jI_lt, jI_le, jI_eq, if_pos, if_neg, ↓reduceIte]
    rw [C_commonOf x F G (by omega) (by omega) ?_, b_I]
    · simp [cbin]
    · have : l.natAbs * r.natAbs ≤ 1000000 * 1000000 := Nat.mul_le_mul (by omega) (by omega)
      omega
  · have h1 : l = 0 ∨ l = 1 := by unfold isBin at hd; omega
    have h2 : r = 0 ∨ r = 1 := by unfold isBin at hd; omega
    simp (disch := omega) only [lit_0, lit_1, lit_2, lit_3, lit_4, lit_5, lit_6, lit_7, lit_8, lit_9, lit_10, lit_11, lit_12, lit_13, lit_14, lit_15, lit_16, lit_17, lit_18, lit_19, lit_20, lit_21, lit_22, lit_23, lit_24, lit_25, lit_26, lit_27, lit_28, lit_29, lit_30, lit_31, lit_32, lit_33, lit_34, lit_35, lit_36, lit_37, lit_38, lit_39, lit_40, lit_41, lit_42, lit_43, lit_44, lit_45, lit_46, lit_47, lit_48, lit_49, lit_50, lit_51, lit_52, lit_53, lit_54, lit_55, lit_56, lit_57, lit_58, lit_59, lit_60, lit_61, lit_62, lit_63, lit_64, lit_65, lit_67, lit_70, lit_71, lit_73, lit_75, lit_78, lit_84, lit_85, lit_86, lit_87, lit_89, lit_90, lit_91, lit_95, lit_96, lit_97, lit_98, lit_99, lit_100, lit_101, lit_102, lit_103, lit_104, lit_105, lit_107, lit_108, lit_109, lit_110, lit_111, lit_112, lit_114, lit_115, lit_116, lit_117, lit_119, lit_121, lit_122, lit_126, lit_127, lit_128, lit_130, lit_134, lit_137, lit_139, lit_140, lit_141, lit_145, lit_152, lit_159, lit_160, lit_168, lit_174, lit_180, lit_183, lit_192, lit_199, lit_236, lit_251, lit_255, lit_272, lit_284, lit_300, lit_330, lit_373, lit_753, lit_800, lit_896, lit_900, lit_1000, lit_1001, lit_1002, lit_1003, lit_1079, lit_1276, lit_1330, lit_1450, lit_3012, lit_3016, lit_3300, lit_8430, lit_9999, lit_10000, lit_11730, lit_30467, lit_65536, lit_99999, lit_100000, lit_1000000, lit_252645135, lit_858993459, lit_1000000000, lit_1431655765, jI_lt, jI_le, jI_eq, if_pos, if_neg, ↓reduceIte]
    rcases h1 with rfl | rfl <;> rcases h2 with rfl | rfl <;> rfl
  · have h1 : l = 0 ∨ l = 1 := by unfold isBin at hd; omega
    have h2 : r = 0 ∨ r = 1 := by unfold isBin at hd; omega
    simp (disch := omega) only [lit_0, lit_1, lit_2, lit_3, lit_4, lit_5, lit_6, lit_7, lit_8, lit_9, lit_10, lit_11, lit_12, lit_13, lit_14, lit_15, lit_16, lit_17, lit_18, lit_19, lit_20, lit_21, lit_22, lit_23, lit_24, lit_25, lit_26, lit_27, lit_28, lit_29, lit_30, lit_31, lit_32, lit_33, lit_34, lit_35, lit_36, lit_37, lit_38, lit_39, lit_40, lit_41, lit_42, lit_43, lit_44, lit_45, lit_46, lit_47, lit_48, lit_49, lit_50, lit_51, lit_52, lit_53, lit_54, lit_55, lit_56, lit_57, lit_58, lit_59, lit_60, lit_61, lit_62, lit_63, lit_64, lit_65, lit_67, lit_70, lit_71, lit_73, lit_75, lit_78, lit_84, lit_85, lit_86, lit_87, lit_89, lit_90, lit_91, lit_95, lit_96, lit_97, lit_98, lit_99, lit_100, lit_101, lit_102, lit_103, lit_104, lit_105, lit_107, lit_108, lit_109, lit_110, lit_111, lit_112, lit_114, lit_115, lit_116, lit_117, lit_119, lit_121, lit_122, lit_126, lit_127, lit_128, lit_130, lit_134, lit_137, lit_139, lit_140, lit_141, lit_145, lit_152, lit_159, lit_160, lit_168, lit_174, lit_180, lit_183, lit_192, lit_199, lit_236, lit_251, lit_255, lit_272, lit_284, lit_300, lit_330, lit_373, lit_753, lit_800, lit_896, lit_900, lit_1000, lit_1001, lit_1002, lit_1003, lit_1079, lit_1276, lit_1330, lit_1450, lit_3012, lit_3016, lit_3300, lit_8430, lit_9999, lit_10000, lit_11730, lit_30467, lit_65536, lit_99999, lit_100000, lit_1000000, lit_252645135, lit_858993459, lit_1000000000, lit_1431655765, jI_lt, jI_le, jI_eq, if_pos, if_neg, ↓reduceIte]
    rcases h1 with rfl | rfl <;> rcases h2 with rfl | rfl <;> rfl
  · have q := hc d (by omega)
    rcases h with rfl | rfl | rfl | rfl <;> (simp (disch := omega) only [lit_0, lit_1, lit_2, lit_3, lit_4, lit_5, lit_6, lit_7, lit_8, lit_9, lit_10, lit_11, lit_12, lit_13, lit_14, lit_15, lit_16, lit_17, lit_18, lit_19, lit_20, lit_21, lit_22, lit_23, lit_24, lit_25, lit_26, lit_27, lit_28, lit_29, lit_30, lit_31, lit_32, lit_33, lit_34, lit_35, lit_36, lit_37, lit_38, lit_39, lit_40, lit_41, lit_42, lit_43, lit_44, lit_45, lit_46, lit_47, lit_48, lit_49, lit_50, lit_51, lit_52, lit_53, lit_54, lit_55, lit_56, lit_57, lit_58, lit_59, lit_60, lit_61, lit_62, lit_63, lit_64, lit_65, lit_67, lit_70, lit_71, lit_73, lit_75, lit_78, lit_84, lit_85, lit_86, lit_87, lit_89, lit_90, lit_91, lit_95, lit_96, lit_97, lit_98, lit_99, lit_100, lit_101, lit_102, lit_103, lit_104, lit_105, lit_107, lit_108, lit_109, lit_110, lit_111, lit_112, lit_114, lit_115, lit_116, lit_117, lit_119, lit_121, lit_122, lit_126, lit_127, lit_128, lit_130, lit_134, lit_137, lit_139, lit_140, lit_141, lit_145, lit_152, lit_159, lit_160, lit_168, lit_174, lit_180, lit_183, lit_192, lit_199, lit_236, lit_251, lit_255, lit_272, lit_284, lit_300, lit_330, lit_373, lit_753, lit_800, lit_896, lit_900, lit_1000, lit_1001, lit_1002, lit_1003, lit_1079, lit_1276, lit_1330, lit_1450, lit_3012, lit_3016, lit_3300, lit_8430, lit_9999, lit_10000, lit_11730, lit_30467, lit_65536, lit_99999, lit_100000, lit_1000000, lit_252645135, lit_858993459, lit_1000000000, lit_1431655765, jI_lt, jI_le, jI_eq, if_pos, if_neg, ↓reduceIte]; exact q)
  · simp (disch := omega) only [lit_0, lit_1, lit_2, lit_3, lit_4, lit_5, lit_6, lit_7, lit_8, lit_9, lit_10, lit_11, lit_12, lit_13, lit_14, lit_15, lit_16, lit_17, lit_18, lit_19, lit_20, lit_21, lit_22, lit_23, lit_24, lit_25, lit_26, lit_27, lit_28, lit_29, lit_30, lit_31, lit_32, lit_33, lit_34, lit_35, lit_36, lit_37, lit_38, lit_39, lit_40, lit_41, lit_42, lit_43, lit_44, lit_45, lit_46, lit_47, lit_48, lit_49, lit_50, lit_51, lit_52, lit_53, lit_54, lit_55, lit_56, lit_57, lit_58, lit_59, lit_60, lit_61, lit_62, lit_63, lit_64, lit_65, lit_67, lit_70, lit_71, lit_73, lit_75, lit_78, lit_84, lit_85, lit_86, lit_87, lit_89, lit_90, lit_91, lit_95, lit_96, lit_97, lit_98, lit_99, lit_100, lit_101, lit_102, lit_103, lit_104, lit_105, lit_107, lit_108, lit_109, lit_110, lit_111, lit_112, lit_114, lit_115, lit_116, lit_117, lit_119, lit_121, lit_122, lit_126, lit_127, lit_128, lit_130, lit_134, lit_137, lit_139, lit_140, lit_141, lit_145, lit_152, lit_159, lit_160, lit_168, lit_174, lit_180, lit_183, lit_192, lit_199, lit_236, lit_251, lit_255, lit_272, lit_284, lit_300, lit_330, lit_373, lit_753, lit_800, lit_896, lit_900, lit_1000, lit_1001, lit_1002, lit_1003, lit_1079, lit_1276, lit_1330, lit_1450, lit_3012, lit_3016, lit_3300, lit_8430, lit_9999, lit_10000, lit_11730, lit_30467, lit_65536, lit_99999, lit_100000, lit_1000000, lit_252645135, lit_858993459, lit_1000000000, lit_1431655765, jI_lt, jI_le, jI_eq, if_pos, if_neg, ↓reduceIte, jI_toL, jL_add, jL_sub, jL_mul, jL_neg]
    rw [C_bounded x F G (by omega) (by omega), b_I]
    simp [cbin]
  · simp (disch := omega) only [lit_0, lit_1, lit_2, lit_3, lit_4, lit_5, lit_6, lit_7, lit_8, lit_9, lit_10, lit_11, lit_12, lit_13, lit_14, lit_15, lit_16, lit_17, lit_18, lit_19, lit_20, lit_21, lit_22, lit_23, lit_24, lit_25, lit_26, lit_27, lit_28, lit_29, lit_30, lit_31, lit_32, lit_33, lit_34, lit_35, lit_36, lit_37, lit_38, lit_39, lit_40, lit_41, lit_42, lit_43, lit_44, lit_45, lit_46, lit_47, lit_48, lit_49, lit_50, lit_51, lit_52, lit_53, lit_54, lit_55, lit_56, lit_57, lit_58, lit_59, lit_60, lit_61, lit_62, lit_63, lit_64, lit_65, lit_67, lit_70, lit_71, lit_73, lit_75, lit_78, lit_84, lit_85, lit_86, lit_87, lit_89, lit_90, lit_91, lit_95, lit_96, lit_97, lit_98, lit_99, lit_100, lit_101, lit_102, lit_103, lit_104, lit_105, lit_107, lit_108, lit_109, lit_110, lit_111, lit_112, lit_114, lit_115, lit_116, lit_117, lit_119, lit_121, lit_122, lit_126, lit_127, lit_128, lit_130, lit_134, lit_137, lit_139, lit_140, lit_141, lit_145, lit_152, lit_159, lit_160, lit_168, lit_174, lit_180, lit_183, lit_192, lit_199, lit_236, lit_251, lit_255, lit_272, lit_284, lit_300, lit_330, lit_373, lit_753, lit_800, lit_896, lit_900, lit_1000, lit_1001, lit_1002, lit_1003, lit_1079, lit_1276, lit_1330, lit_1450, lit_3012, lit_3016, lit_3300, lit_8430, lit_9999, lit_10000, lit_11730, lit_30467, lit_65536, lit_99999, lit_100000, lit_1000000, lit_252645135, lit_858993459, lit_1000000000, lit_1431655765, jI_lt, jI_le, jI_eq, if_pos, if_neg, ↓reduceIte, jI_toL, jL_add, jL_sub, jL_mul, jL_neg]
    rw [C_bounded x F G (by omega) (by omega), b_I]
    simp [cbin]
  · simp (disch := omega) only [lit_0, lit_1, lit_2, lit_3, lit_4, lit_5, lit_6, lit_7, lit_8, lit_9, lit_10, lit_11, lit_12, lit_13, lit_14, lit_15, lit_16, lit_17, lit_18, lit_19, lit_20, lit_21, lit_22, lit_23, lit_24, lit_25, lit_26, lit_27, lit_28, lit_29, lit_30, lit_31, lit_32, lit_33, lit_34, lit_35, lit_36, lit_37, lit_38, lit_39, lit_40, lit_41, lit_42, lit_43, lit_44, lit_45, lit_46, lit_47, lit_48, lit_49, lit_50, lit_51, lit_52, lit_53, lit_54, lit_55, lit_56, lit_57, lit_58, lit_59, lit_60, lit_61, lit_62, lit_63, lit_64, lit_65, lit_67, lit_70, lit_71, lit_73, lit_75, lit_78, lit_84, lit_85, lit_86, lit_87, lit_89, lit_90, lit_91, lit_95, lit_96, lit_97, lit_98, lit_99, lit_100, lit_101, lit_102, lit_103, lit_104, lit_105, lit_107, lit_108, lit_109, lit_110, lit_111, lit_112, lit_114, lit_115, lit_116, lit_117, lit_119, lit_121, lit_122, lit_126, lit_127, lit_128, lit_130, lit_134, lit_137, lit_139, lit_140, lit_141, lit_145, lit_152, lit_159, lit_160, lit_168, lit_174, lit_180, lit_183, lit_192, lit_199, lit_236, lit_251, lit_255, lit_272, lit_284, lit_300, lit_330, lit_373, lit_753, lit_800, lit_896, lit_900, lit_1000, lit_1001, lit_1002, lit_1003, lit_1079, lit_1276, lit_1330, lit_1450, lit_3012, lit_3016, lit_3300, lit_8430, lit_9999, lit_10000, lit_11730, lit_30467, lit_65536, lit_99999, lit_100000, lit_1000000, lit_252645135, lit_858993459, lit_1000000000, lit_1431655765, jI_lt, jI_le, jI_eq, if_pos, if_neg, ↓reduceIte, jI_toL, jL_add, jL_sub, jL_mul, jL_neg]
    rw [C_bounded x F G (by omega) (by omega), b_I]
    simp [cbin]
  · simp (disch := omega) only [lit_0, lit_1, lit_2, lit_3, lit_4, lit_5, lit_6, lit_7, lit_8, lit_9, lit_10, lit_11, lit_12, lit_13, lit_14, lit_15, lit_16, lit_17, lit_18, lit_19, lit_20, lit_21, lit_22, lit_23, lit_24, lit_25, lit_26, lit_27, lit_28, lit_29, lit_30, lit_31, lit_32, lit_33, lit_34, lit_35, lit_36, lit_37, lit_38, lit_39, lit_40, lit_41, lit_42, lit_43, lit_44, lit_45, lit_46, lit_47, lit_48, lit_49, lit_50, lit_51, lit_52, lit_53, lit_54, lit_55, lit_56, lit_57, lit_58, lit_59, lit_60, lit_61, lit_62, lit_63, lit_64, lit_65, lit_67, lit_70, lit_71, lit_73, lit_75, lit_78, lit_84, lit_85, lit_86, lit_87, lit_89, lit_90, lit_91, lit_95, lit_96, lit_97, lit_98, lit_99, lit_100, lit_101, lit_102, lit_103, lit_104, lit_105, lit_107, lit_108, lit_109, lit_110, lit_111, lit_112, lit_114, lit_115, lit_116, lit_117, lit_119, lit_121, lit_122, lit_126, lit_127, lit_128, lit_130, lit_134, lit_137, lit_139, lit_140, lit_141, lit_145, lit_152, lit_159, lit_160, lit_168, lit_174, lit_180, lit_183, lit_192, lit_199, lit_236, lit_251, lit_255, lit_272, lit_284, lit_300, lit_330, lit_373, lit_753, lit_800, lit_896, lit_900, lit_1000, lit_1001, lit_1002, lit_1003, lit_1079, lit_1276, lit_1330, lit_1450, lit_3012, lit_3016, lit_3300, lit_8430, lit_9999, lit_10000, lit_11730, lit_30467, lit_65536, lit_99999, lit_100000, lit_1000000, lit_252645135, lit_858993459, lit_1000000000, lit_1431655765, jI_lt, jI_le, jI_eq, if_pos, if_neg, ↓reduceIte]
    by_cases e : r = 0
    · rw [if_pos e]
      simp [cbin, e]
    · simp only [e, if_false, if_true, ↓reduceIte, not_false_eq_true]
      rw [jI_div (by omega) (by omega) (by omega) (by omega)]
      simp [cbin, e]
  · have q := hc d (by omega)
    rcases h with rfl | rfl <;> (simp (disch := omega) only [lit_0, lit_1, lit_2, lit_3, lit_4, lit_5, lit_6, lit_7, lit_8, lit_9, lit_10, lit_11, lit_12, lit_13, lit_14, lit_15, lit_16, lit_17, lit_18, lit_19, lit_20, lit_21, lit_22, lit_23, lit_24, lit_25, lit_26, lit_27, lit_28, lit_29, lit_30, lit_31, lit_32, lit_33, lit_34, lit_35, lit_36, lit_37, lit_38, lit_39, lit_40, lit_41, lit_42, lit_43, lit_44, lit_45, lit_46, lit_47, lit_48, lit_49, lit_50, lit_51, lit_52, lit_53, lit_54, lit_55, lit_56, lit_57, lit_58, lit_59, lit_60, lit_61, lit_62, lit_63, lit_64, lit_65, lit_67, lit_70, lit_71, lit_73, lit_75, lit_78, lit_84, lit_85, lit_86, lit_87, lit_89, lit_90, lit_91, lit_95, lit_96, lit_97, lit_98, lit_99, lit_100, lit_101, lit_102, lit_103, lit_104, lit_105, lit_107, lit_108, lit_109, lit_110, lit_111, lit_112, lit_114, lit_115, lit_116, lit_117, lit_119, lit_121, lit_122, lit_126, lit_127, lit_128, lit_130, lit_134, lit_137, lit_139, lit_140, lit_141, lit_145, lit_152, lit_159, lit_160, lit_168, lit_174, lit_180, lit_183, lit_192, lit_199, lit_236, lit_251, lit_255, lit_272, lit_284, lit_300, lit_330, lit_373, lit_753, lit_800, lit_896, lit_900, lit_1000, lit_1001, lit_1002, lit_1003, lit_1079, lit_1276, lit_1330, lit_1450, lit_3012, lit_3016, lit_3300, lit_8430, lit_9999, lit_10000, lit_11730, lit_30467, lit_65536, lit_99999, lit_100000, lit_1000000, lit_252645135, lit_858993459, lit_1000000000, lit_1431655765, jI_lt, jI_le, jI_eq, if_pos, if_neg, ↓reduceIte]; exact q)
theorem M_clip {z : Int} (h1 : -1000000000000 ≤ z) (h2 : z ≤ 1000000000000) : m_M x k_M_clip [.long (jL z)] (mk F G) = some (some (.long (jL (clip z))), mk F G) := by
  rw [E_M_clip]
  simp (disch := omega) only [llt_0, llt_1, llt_2, llt_3, llt_4, llt_5, llt_6, llt_7, llt_8, llt_9, llt_10, llt_11, llt_12, llt_13, llt_14, llt_15, llt_16, llt_17, llt_18, llt_19, llt_20, llt_21, llt_22, llt_23, llt_24, llt_25, llt_26, llt_27, llt_28, llt_29, llt_30, llt_31, llt_32, llt_33, llt_34, llt_35, llt_36, llt_37, llt_38, llt_39, llt_40, llt_41, llt_42, llt_43, llt_44, llt_45, llt_46, llt_47, llt_48, llt_49, llt_50, llt_51, llt_52, llt_53, llt_54, llt_55, llt_56, llt_57, llt_58, llt_59, llt_60, llt_61, llt_62, llt_63, llt_64, llt_65, llt_67, llt_70, llt_71, llt_73, llt_75, llt_78, llt_84, llt_85, llt_86, llt_87, llt_89, llt_90, llt_91, llt_95, llt_96, llt_97, llt_98, llt_99, llt_100, llt_101, llt_102, llt_103, llt_104, llt_105, llt_107, llt_108, llt_109, llt_110, llt_111, llt_112, llt_114, llt_115, llt_116, llt_117, llt_119, llt_121, llt_122, llt_126, llt_127, llt_128, llt_130, llt_134, llt_137, llt_139, llt_140, llt_141, llt_145, llt_152, llt_159, llt_160, llt_168, llt_174, llt_180, llt_183, llt_192, llt_199, llt_236, llt_251, llt_255, llt_272, llt_284, llt_300, llt_330, llt_373, llt_753, llt_800, llt_896, llt_900, llt_1000, llt_1001, llt_1002, llt_1003, llt_1079, llt_1276, llt_1330, llt_1450, llt_3012, llt_3016, llt_3300, llt_8430, llt_9999, llt_10000, llt_11730, llt_30467, llt_65536, llt_99999, llt_100000, llt_1000000, llt_252645135, llt_858993459, llt_1000000000, llt_1431655765, llt_1152921504606846976, jL_lt, jL_le, jL_eq, jL_add, jL_sub, jL_mul, jL_neg]
  unfold clip
  by_cases h : 1000000 < z
  · rw [if_pos h, if_neg (by omega)]
  · rw [if_neg h, if_pos (by omega)]
    by_cases h3 : z < -1000000
    · rw [if_pos h3, if_neg (by omega)]
    · rw [if_neg h3, if_pos (by omega)]
theorem clip_in {z : Int} (h : bd z) : clip z = z := by
  unfold bd at h
  unfold clip
  rw [if_neg (by omega), if_neg (by omega)]
theorem M_two {o l r : Int} (ho : 6 ≤ o ∧ o ≤ 9) (hl : bd l) (hr : bd r) : m_M x k_M_two [.int (jI o), .long (jL l), .long (jL r)] (mk F G) = some (some (.long (jL (cbin (mo o) l r))), mk F G) := by
  have hm := mul_bd hl hr
  have hl' := hl
  have hr' := hr
  unfold bd at hl' hr'
  rw [E_M_two]
  have h : o = 6 ∨ o = 7 ∨ o = 8 ∨ o = 9 := by omega
  rcases h with rfl | rfl | rfl | rfl
  · simp (disch := omega) only [lit_0, lit_1, lit_2, lit_3, lit_4, lit_5, lit_6, lit_7, lit_8, lit_9, lit_10, lit_11, lit_12, lit_13, lit_14, lit_15, lit_16, lit_17, lit_18, lit_19, lit_20, lit_21, lit_22, lit_23, lit_24, lit_25, lit_26, lit_27, lit_28, lit_29, lit_30, lit_31, lit_32, lit_33, lit_34, lit_35, lit_36, lit_37, lit_38, lit_39, lit_40, lit_41, lit_42, lit_43, lit_44, lit_45, lit_46, lit_47, lit_48, lit_49, lit_50, lit_51, lit_52, lit_53, lit_54, lit_55, lit_56, lit_57, lit_58, lit_59, lit_60, lit_61, lit_62, lit_63, lit_64, lit_65, lit_67, lit_70, lit_71, lit_73, lit_75, lit_78, lit_84, lit_85, lit_86, lit_87, lit_89, lit_90, lit_91, lit_95, lit_96, lit_97, lit_98, lit_99, lit_100, lit_101, lit_102, lit_103, lit_104, lit_105, lit_107, lit_108, lit_109, lit_110, lit_111, lit_112, lit_114, lit_115, lit_116, lit_117, lit_119, lit_121, lit_122, lit_126, lit_127, lit_128, lit_130, lit_134, lit_137, lit_139, lit_140, lit_141, lit_145, lit_152, lit_159, lit_160, lit_168, lit_174, lit_180, lit_183, lit_192, lit_199, lit_236, lit_251, lit_255, lit_272, lit_284, lit_300, lit_330, lit_373, lit_753, lit_800, lit_896, lit_900, lit_1000, lit_1001, lit_1002, lit_1003, lit_1079, lit_1276, lit_1330, lit_1450, lit_3012, lit_3016, lit_3300, lit_8430, lit_9999, lit_10000, lit_11730, lit_30467, lit_65536, lit_99999, lit_100000, lit_1000000, lit_252645135, lit_858993459, lit_1000000000, lit_1431655765, jI_lt, jI_le, jI_eq, if_pos, if_neg, ↓reduceIte, jL_add, jL_sub, jL_mul, jL_neg]
    rw [M_clip x F G (by omega) (by omega), b_L]
    simp [cbin, mo]
  · simp (disch := omega) only [lit_0, lit_1, lit_2, lit_3, lit_4, lit_5, lit_6, lit_7, lit_8, lit_9, lit_10, lit_11, lit_12, lit_13, lit_14, lit_15, lit_16, lit_17, lit_18, lit_19, lit_20, lit_21, lit_22, lit_23, lit_24, lit_25, lit_26, lit_27, lit_28, lit_29, lit_30, lit_31, lit_32, lit_33, lit_34, lit_35, lit_36, lit_37, lit_38, lit_39, lit_40, lit_41, lit_42, lit_43, lit_44, lit_45, lit_46, lit_47, lit_48, lit_49, lit_50, lit_51, lit_52, lit_53, lit_54, lit_55, lit_56, lit_57, lit_58, lit_59, lit_60, lit_61, lit_62, lit_63, lit_64, lit_65, lit_67, lit_70, lit_71, lit_73, lit_75, lit_78, lit_84, lit_85, lit_86, lit_87, lit_89, lit_90, lit_91, lit_95, lit_96, lit_97, lit_98, lit_99, lit_100, lit_101, lit_102, lit_103, lit_104, lit_105, lit_107, lit_108, lit_109, lit_110, lit_111, lit_112, lit_114, lit_115, lit_116, lit_117, lit_119, lit_121, lit_122, lit_126, lit_127, lit_128, lit_130, lit_134, lit_137, lit_139, lit_140, lit_141, lit_145, lit_152, lit_159, lit_160, lit_168, lit_174, lit_180, lit_183, lit_192, lit_199, lit_236, lit_251, lit_255, lit_272, lit_284, lit_300, lit_330, lit_373, lit_753, lit_800, lit_896, lit_900, lit_1000, lit_1001, lit_1002, lit_1003, lit_1079, lit_1276, lit_1330, lit_1450, lit_3012, lit_3016, lit_3300, lit_8430, lit_9999, lit_10000, lit_11730, lit_30467, lit_65536, lit_99999, lit_100000, lit_1000000, lit_252645135, lit_858993459, lit_1000000000, lit_1431655765, jI_lt, jI_le, jI_eq, if_pos, if_neg, ↓reduceIte, jL_add, jL_sub, jL_mul, jL_neg]
    rw [M_clip x F G (by omega) (by omega), b_L]
    simp [cbin, mo]
  · simp (disch := omega) only [lit_0, lit_1, lit_2, lit_3, lit_4, lit_5, lit_6, lit_7, lit_8, lit_9, lit_10, lit_11, lit_12, lit_13, lit_14, lit_15, lit_16, lit_17, lit_18, lit_19, lit_20, lit_21, lit_22, lit_23, lit_24, lit_25, lit_26, lit_27, lit_28, lit_29, lit_30, lit_31, lit_32, lit_33, lit_34, lit_35, lit_36, lit_37, lit_38, lit_39, lit_40, lit_41, lit_42, lit_43, lit_44, lit_45, lit_46, lit_47, lit_48, lit_49, lit_50, lit_51, lit_52, lit_53, lit_54, lit_55, lit_56, lit_57, lit_58, lit_59, lit_60, lit_61, lit_62, lit_63, lit_64, lit_65, lit_67, lit_70, lit_71, lit_73, lit_75, lit_78, lit_84, lit_85, lit_86, lit_87, lit_89, lit_90, lit_91, lit_95, lit_96, lit_97, lit_98, lit_99, lit_100, lit_101, lit_102, lit_103, lit_104, lit_105, lit_107, lit_108, lit_109, lit_110, lit_111, lit_112, lit_114, lit_115, lit_116, lit_117, lit_119, lit_121, lit_122, lit_126, lit_127, lit_128, lit_130, lit_134, lit_137, lit_139, lit_140, lit_141, lit_145, lit_152, lit_159, lit_160, lit_168, lit_174, lit_180, lit_183, lit_192, lit_199, lit_236, lit_251, lit_255, lit_272, lit_284, lit_300, lit_330, lit_373, lit_753, lit_800, lit_896, lit_900, lit_1000, lit_1001, lit_1002, lit_1003, lit_1079, lit_1276, lit_1330, lit_1450, lit_3012, lit_3016, lit_3300, lit_8430, lit_9999, lit_10000, lit_11730, lit_30467, lit_65536, lit_99999, lit_100000, lit_1000000, lit_252645135, lit_858993459, lit_1000000000, lit_1431655765, jI_lt, jI_le, jI_eq, if_pos, if_neg, ↓reduceIte, jL_add, jL_sub, jL_mul, jL_neg]
    rw [M_clip x F G (by omega) (by omega), b_L]
    simp [cbin, mo]
  · simp (disch := omega) only [lit_0, lit_1, lit_2, lit_3, lit_4, lit_5, lit_6, lit_7, lit_8, lit_9, lit_10, lit_11, lit_12, lit_13, lit_14, lit_15, lit_16, lit_17, lit_18, lit_19, lit_20, lit_21, lit_22, lit_23, lit_24, lit_25, lit_26, lit_27, lit_28, lit_29, lit_30, lit_31, lit_32, lit_33, lit_34, lit_35, lit_36, lit_37, lit_38, lit_39, lit_40, lit_41, lit_42, lit_43, lit_44, lit_45, lit_46, lit_47, lit_48, lit_49, lit_50, lit_51, lit_52, lit_53, lit_54, lit_55, lit_56, lit_57, lit_58, lit_59, lit_60, lit_61, lit_62, lit_63, lit_64, lit_65, lit_67, lit_70, lit_71, lit_73, lit_75, lit_78, lit_84, lit_85, lit_86, lit_87, lit_89, lit_90, lit_91, lit_95, lit_96, lit_97, lit_98, lit_99, lit_100, lit_101, lit_102, lit_103, lit_104, lit_105, lit_107, lit_108, lit_109, lit_110, lit_111, lit_112, lit_114, lit_115, lit_116, lit_117, lit_119, lit_121, lit_122, lit_126, lit_127, lit_128, lit_130, lit_134, lit_137, lit_139, lit_140, lit_141, lit_145, lit_152, lit_159, lit_160, lit_168, lit_174, lit_180, lit_183, lit_192, lit_199, lit_236, lit_251, lit_255, lit_272, lit_284, lit_300, lit_330, lit_373, lit_753, lit_800, lit_896, lit_900, lit_1000, lit_1001, lit_1002, lit_1003, lit_1079, lit_1276, lit_1330, lit_1450, lit_3012, lit_3016, lit_3300, lit_8430, lit_9999, lit_10000, lit_11730, lit_30467, lit_65536, lit_99999, lit_100000, lit_1000000, lit_252645135, lit_858993459, lit_1000000000, lit_1431655765, llt_0, llt_1, llt_2, llt_3, llt_4, llt_5, llt_6, llt_7, llt_8, llt_9, llt_10, llt_11, llt_12, llt_13, llt_14, llt_15, llt_16, llt_17, llt_18, llt_19, llt_20, llt_21, llt_22, llt_23, llt_24, llt_25, llt_26, llt_27, llt_28, llt_29, llt_30, llt_31, llt_32, llt_33, llt_34, llt_35, llt_36, llt_37, llt_38, llt_39, llt_40, llt_41, llt_42, llt_43, llt_44, llt_45, llt_46, llt_47, llt_48, llt_49, llt_50, llt_51, llt_52, llt_53, llt_54, llt_55, llt_56, llt_57, llt_58, llt_59, llt_60, llt_61, llt_62, llt_63, llt_64, llt_65, llt_67, llt_70, llt_71, llt_73, llt_75, llt_78, llt_84, llt_85, llt_86, llt_87, llt_89, llt_90, llt_91, llt_95, llt_96, llt_97, llt_98, llt_99, llt_100, llt_101, llt_102, llt_103, llt_104, llt_105, llt_107, llt_108, llt_109, llt_110, llt_111, llt_112, llt_114, llt_115, llt_116, llt_117, llt_119, llt_121, llt_122, llt_126, llt_127, llt_128, llt_130, llt_134, llt_137, llt_139, llt_140, llt_141, llt_145, llt_152, llt_159, llt_160, llt_168, llt_174, llt_180, llt_183, llt_192, llt_199, llt_236, llt_251, llt_255, llt_272, llt_284, llt_300, llt_330, llt_373, llt_753, llt_800, llt_896, llt_900, llt_1000, llt_1001, llt_1002, llt_1003, llt_1079, llt_1276, llt_1330, llt_1450, llt_3012, llt_3016, llt_3300, llt_8430, llt_9999, llt_10000, llt_11730, llt_30467, llt_65536, llt_99999, llt_100000, llt_1000000, llt_252645135, llt_858993459, llt_1000000000, llt_1431655765, llt_1152921504606846976, jI_lt, jI_le, jI_eq, jL_lt, jL_le, jL_eq, if_pos, if_neg]
    by_cases e : r = 0
    · rw [if_pos e]
      simp [cbin, mo, e]
    · have hb := tdiv_bd (b := r) hl
      have hb' := hb
      unfold bd at hb'
      simp only [e, if_false, if_true, ↓reduceIte, not_false_eq_true]
      rw [jL_div (by omega) (by omega) (by omega) (by omega), M_clip x F G (by omega) (by omega), b_L, clip_in hb]
      simp [cbin, mo, e]
theorem M_isAsked {o l r : Int} (ho : 10 ≤ o ∧ o ≤ 15) (hl : bd l) (hr : bd r) : m_M x k_M_isAsked [.int (jI o), .long (jL l), .long (jL r)] (mk F G) = some (some (.int (jI (if cmpI (mo o) l r then 1 else 0))), mk F G) := by
  unfold bd at hl hr
  rw [E_M_isAsked]
  have h : o = 10 ∨ o = 11 ∨ o = 12 ∨ o = 13 ∨ o = 14 ∨ o = 15 := by omega
  rcases h with rfl | rfl | rfl | rfl | rfl | rfl
  · simp (disch := omega) only [lit_0, lit_1, lit_2, lit_3, lit_4, lit_5, lit_6, lit_7, lit_8, lit_9, lit_10, lit_11, lit_12, lit_13, lit_14, lit_15, lit_16, lit_17, lit_18, lit_19, lit_20, lit_21, lit_22, lit_23, lit_24, lit_25, lit_26, lit_27, lit_28, lit_29, lit_30, lit_31, lit_32, lit_33, lit_34, lit_35, lit_36, lit_37, lit_38, lit_39, lit_40, lit_41, lit_42, lit_43, lit_44, lit_45, lit_46, lit_47, lit_48, lit_49, lit_50, lit_51, lit_52, lit_53, lit_54, lit_55, lit_56, lit_57, lit_58, lit_59, lit_60, lit_61, lit_62, lit_63, lit_64, lit_65, lit_67, lit_70, lit_71, lit_73, lit_75, lit_78, lit_84, lit_85, lit_86, lit_87, lit_89, lit_90, lit_91, lit_95, lit_96, lit_97, lit_98, lit_99, lit_100, lit_101, lit_102, lit_103, lit_104, lit_105, lit_107, lit_108, lit_109, lit_110, lit_111, lit_112, lit_114, lit_115, lit_116, lit_117, lit_119, lit_121, lit_122, lit_126, lit_127, lit_128, lit_130, lit_134, lit_137, lit_139, lit_140, lit_141, lit_145, lit_152, lit_159, lit_160, lit_168, lit_174, lit_180, lit_183, lit_192, lit_199, lit_236, lit_251, lit_255, lit_272, lit_284, lit_300, lit_330, lit_373, lit_753, lit_800, lit_896, lit_900, lit_1000, lit_1001, lit_1002, lit_1003, lit_1079, lit_1276, lit_1330, lit_1450, lit_3012, lit_3016, lit_3300, lit_8430, lit_9999, lit_10000, lit_11730, lit_30467, lit_65536, lit_99999, lit_100000, lit_1000000, lit_252645135, lit_858993459, lit_1000000000, lit_1431655765, jI_lt, jI_le, jI_eq, jL_lt, jL_le, jL_eq, if_pos, if_neg, ↓reduceIte, mo, cmpI_37]
    by_cases h : l < r
    · rw [if_neg (by omega), if_pos h]
    · rw [if_pos (by omega), if_neg h]
  · simp (disch := omega) only [lit_0, lit_1, lit_2, lit_3, lit_4, lit_5, lit_6, lit_7, lit_8, lit_9, lit_10, lit_11, lit_12, lit_13, lit_14, lit_15, lit_16, lit_17, lit_18, lit_19, lit_20, lit_21, lit_22, lit_23, lit_24, lit_25, lit_26, lit_27, lit_28, lit_29, lit_30, lit_31, lit_32, lit_33, lit_34, lit_35, lit_36, lit_37, lit_38, lit_39, lit_40, lit_41, lit_42, lit_43, lit_44, lit_45, lit_46, lit_47, lit_48, lit_49, lit_50, lit_51, lit_52, lit_53, lit_54, lit_55, lit_56, lit_57, lit_58, lit_59, lit_60, lit_61, lit_62, lit_63, lit_64, lit_65, lit_67, lit_70, lit_71, lit_73, lit_75, lit_78, lit_84, lit_85, lit_86, lit_87, lit_89, lit_90, lit_91, lit_95, lit_96, lit_97, lit_98, lit_99, lit_100, lit_101, lit_102, lit_103, lit_104, lit_105, lit_107, lit_108, lit_109, lit_110, lit_111, lit_112, lit_114, lit_115, lit_116, lit_117, lit_119, lit_121, lit_122, lit_126, lit_127, lit_128, lit_130, lit_134, lit_137, lit_139, lit_140, lit_141, lit_145, lit_152, lit_159, lit_160, lit_168, lit_174, lit_180, lit_183, lit_192, lit_199, lit_236, lit_251, lit_255, lit_272, lit_284, lit_300, lit_330, lit_373, lit_753, lit_800, lit_896, lit_900, lit_1000, lit_1001, lit_1002, lit_1003, lit_1079, lit_1276, lit_1330, lit_1450, lit_3012, lit_3016, lit_3300, lit_8430, lit_9999, lit_10000, lit_11730, lit_30467, lit_65536, lit_99999, lit_100000, lit_1000000, lit_252645135, lit_858993459, lit_1000000000, lit_1431655765, jI_lt, jI_le, jI_eq, jL_lt, jL_le, jL_eq, if_pos, if_neg, ↓reduceIte, mo, cmpI_48]
    by_cases h : l ≤ r
    · rw [if_neg (by omega), if_pos h]
    · rw [if_pos (by omega), if_neg h]
  · simp (disch := omega) only [lit_0, lit_1, lit_2, lit_3, lit_4, lit_5, lit_6, lit_7, lit_8, lit_9, lit_10, lit_11, lit_12, lit_13, lit_14, lit_15, lit_16, lit_17, lit_18, lit_19, lit_20, lit_21, lit_22, lit_23, lit_24, lit_25, lit_26, lit_27, lit_28, lit_29, lit_30, lit_31, lit_32, lit_33, lit_34, lit_35, lit_36, lit_37, lit_38, lit_39, lit_40, lit_41, lit_42, lit_43, lit_44, lit_45, lit_46, lit_47, lit_48, lit_49, lit_50, lit_51, lit_52, lit_53, lit_54, lit_55, lit_56, lit_57, lit_58, lit_59, lit_60, lit_61, lit_62, lit_63, lit_64, lit_65, lit_67, lit_70, lit_71, lit_73, lit_75, lit_78, lit_84, lit_85, lit_86, lit_87, lit_89, lit_90, lit_91, lit_95, lit_96, lit_97, lit_98, lit_99, lit_100, lit_101, lit_102, lit_103, lit_104, lit_105, lit_107, lit_108, lit_109, lit_110, lit_111, lit_112, lit_114, lit_115, lit_116, lit_117, lit_119, lit_121, lit_122, lit_126, lit_127, lit_128, lit_130, lit_134, lit_137, lit_139, lit_140, lit_141, lit_145, lit_152, lit_159, lit_160, lit_168, lit_174, lit_180, lit_183, lit_192, lit_199, lit_236, lit_251, lit_255, lit_272, lit_284, lit_300, lit_330, lit_373, lit_753, lit_800, lit_896, lit_900, lit_1000, lit_1001, lit_1002, lit_1003, lit_1079, lit_1276, lit_1330, lit_1450, lit_3012, lit_3016, lit_3300, lit_8430, lit_9999, lit_10000, lit_11730, lit_30467, lit_65536, lit_99999, lit_100000, lit_1000000, lit_252645135, lit_858993459, lit_1000000000, lit_1431655765, jI_lt, jI_le, jI_eq, jL_lt, jL_le, jL_eq, if_pos, if_neg, ↓reduceIte, mo, cmpI_38]
    by_cases h : r < l
    · rw [if_neg (by omega), if_pos h]
    · rw [if_pos (by omega), if_neg h]
  · simp (disch := omega) only [lit_0, lit_1, lit_2, lit_3, lit_4, lit_5, lit_6, lit_7, lit_8, lit_9, lit_10, lit_11, lit_12, lit_13, lit_14, lit_15, lit_16, lit_17, lit_18, lit_19, lit_20, lit_21, lit_22, lit_23, lit_24, lit_25, lit_26, lit_27, lit_28, lit_29, lit_30, lit_31, lit_32, lit_33, lit_34, lit_35, lit_36, lit_37, lit_38, lit_39, lit_40, lit_41, lit_42, lit_43, lit_44, lit_45, lit_46, lit_47, lit_48, lit_49, lit_50, lit_51, lit_52, lit_53, lit_54, lit_55, lit_56, lit_57, lit_58, lit_59, lit_60, lit_61, lit_62, lit_63, lit_64, lit_65, lit_67, lit_70, lit_71, lit_73, lit_75, lit_78, lit_84, lit_85, lit_86, lit_87, lit_89, lit_90, lit_91, lit_95, lit_96, lit_97, lit_98, lit_99, lit_100, lit_101, lit_102, lit_103, lit_104, lit_105, lit_107, lit_108, lit_109, lit_110, lit_111, lit_112, lit_114, lit_115, lit_116, lit_117, lit_119, lit_121, lit_122, lit_126, lit_127, lit_128, lit_130, lit_134, lit_137, lit_139, lit_140, lit_141, lit_145, lit_152, lit_159, lit_160, lit_168, lit_174, lit_180, lit_183, lit_192, lit_199, lit_236, lit_251, lit_255, lit_272, lit_284, lit_300, lit_330, lit_373, lit_753, lit_800, lit_896, lit_900, lit_1000, lit_1001, lit_1002, lit_1003, lit_1079, lit_1276, lit_1330, lit_1450, lit_3012, lit_3016, lit_3300, lit_8430, lit_9999, lit_10000, lit_11730, lit_30467, lit_65536, lit_99999, lit_100000, lit_1000000, lit_252645135, lit_858993459, lit_1000000000, lit_1431655765, jI_lt, jI_le, jI_eq, jL_lt, jL_le, jL_eq, if_pos, if_neg, ↓reduceIte, mo, cmpI_49]
    by_cases h : r ≤ l
    · rw [if_neg (by omega), if_pos h]
    · rw [if_pos (by omega), if_neg h]
  · simp (disch := omega) only [lit_0, lit_1, lit_2, lit_3, lit_4, lit_5, lit_6, lit_7, lit_8, lit_9, lit_10, lit_11, lit_12, lit_13, lit_14, lit_15, lit_16, lit_17, lit_18, lit_19, lit_20, lit_21, lit_22, lit_23, lit_24, lit_25, lit_26, lit_27, lit_28, lit_29, lit_30, lit_31, lit_32, lit_33, lit_34, lit_35, lit_36, lit_37, lit_38, lit_39, lit_40, lit_41, lit_42, lit_43, lit_44, lit_45, lit_46, lit_47, lit_48, lit_49, lit_50, lit_51, lit_52, lit_53, lit_54, lit_55, lit_56, lit_57, lit_58, lit_59, lit_60, lit_61, lit_62, lit_63, lit_64, lit_65, lit_67, lit_70, lit_71, lit_73, lit_75, lit_78, lit_84, lit_85, lit_86, lit_87, lit_89, lit_90, lit_91, lit_95, lit_96, lit_97, lit_98, lit_99, lit_100, lit_101, lit_102, lit_103, lit_104, lit_105, lit_107, lit_108, lit_109, lit_110, lit_111, lit_112, lit_114, lit_115, lit_116, lit_117, lit_119, lit_121, lit_122, lit_126, lit_127, lit_128, lit_130, lit_134, lit_137, lit_139, lit_140, lit_141, lit_145, lit_152, lit_159, lit_160, lit_168, lit_174, lit_180, lit_183, lit_192, lit_199, lit_236, lit_251, lit_255, lit_272, lit_284, lit_300, lit_330, lit_373, lit_753, lit_800, lit_896, lit_900, lit_1000, lit_1001, lit_1002, lit_1003, lit_1079, lit_1276, lit_1330, lit_1450, lit_3012, lit_3016, lit_3300, lit_8430, lit_9999, lit_10000, lit_11730, lit_30467, lit_65536, lit_99999, lit_100000, lit_1000000, lit_252645135, lit_858993459, lit_1000000000, lit_1431655765, jI_lt, jI_le, jI_eq, jL_lt, jL_le, jL_eq, if_pos, if_neg, ↓reduceIte, mo, cmpI_39]
    by_cases h : l = r
    · simp only [if_pos h]
    · simp only [if_neg h]
  · simp (disch := omega) only [lit_0, lit_1, lit_2, lit_3, lit_4, lit_5, lit_6, lit_7, lit_8, lit_9, lit_10, lit_11, lit_12, lit_13, lit_14, lit_15, lit_16, lit_17, lit_18, lit_19, lit_20, lit_21, lit_22, lit_23, lit_24, lit_25, lit_26, lit_27, lit_28, lit_29, lit_30, lit_31, lit_32, lit_33, lit_34, lit_35, lit_36, lit_37, lit_38, lit_39, lit_40, lit_41, lit_42, lit_43, lit_44, lit_45, lit_46, lit_47, lit_48, lit_49, lit_50, lit_51, lit_52, lit_53, lit_54, lit_55, lit_56, lit_57, lit_58, lit_59, lit_60, lit_61, lit_62, lit_63, lit_64, lit_65, lit_67, lit_70, lit_71, lit_73, lit_75, lit_78, lit_84, lit_85, lit_86, lit_87, lit_89, lit_90, lit_91, lit_95, lit_96, lit_97, lit_98, lit_99, lit_100, lit_101, lit_102, lit_103, lit_104, lit_105, lit_107, lit_108, lit_109, lit_110, lit_111, lit_112, lit_114, lit_115, lit_116, lit_117, lit_119, lit_121, lit_122, lit_126, lit_127, lit_128, lit_130, lit_134, lit_137, lit_139, lit_140, lit_141, lit_145, lit_152, lit_159, lit_160, lit_168, lit_174, lit_180, lit_183, lit_192, lit_199, lit_236, lit_251, lit_255, lit_272, lit_284, lit_300, lit_330, lit_373, lit_753, lit_800, lit_896, lit_900, lit_1000, lit_1001, lit_1002, lit_1003, lit_1079, lit_1276, lit_1330, lit_1450, lit_3012, lit_3016, lit_3300, lit_8430, lit_9999, lit_10000, lit_11730, lit_30467, lit_65536, lit_99999, lit_100000, lit_1000000, lit_252645135, lit_858993459, lit_1000000000, lit_1431655765, jI_lt, jI_le, jI_eq, jL_lt, jL_le, jL_eq, if_pos, if_neg, ↓reduceIte, mo, cmpI_40]
    by_cases h : l = r
    · have h2 : l = r := h
      simp only [h2, if_true, not_true, if_false, ↓reduceIte]
    · have h2 : ¬ l = r := h
      simp only [h2, if_true, not_false_eq_true, if_false, ↓reduceIte]
end
