-- whose law it was
def exB (f : Int → Bool) : Nat → Bool
  | 0 => true
  | n + 1 => exB f n && f n
theorem exB_s (f : Int → Bool) {n : Int} (h : 0 ≤ n) : exB f (n + 1).toNat = (exB f n.toNat && f n) := by
  have : (n + 1).toNat = n.toNat + 1 := by omega
  rw [this, exB, Int.toNat_of_nonneg h]
theorem exB_f (f : Int → Bool) {i : Int} (h0 : 0 ≤ i) (h : f i = false) : ∀ n : Nat, i < n → exB f n = false := by
  intro n
  induction n with
  | zero => intro h; omega
  | succ n ih =>
    intro h1
    rw [exB]
    by_cases e : i = n
    · rw [← e, h, Bool.and_false]
    · rw [ih (by omega), Bool.false_and]
/-- text's law explains the i-th growth told -/
def exT (F : Nat → Fn) (A : Law4) (i : Int) : Bool := decide (F 48 i < F 2 25 → A 2 (F 2) (F 48 i) = F 50 i)
theorem agr_T {F F2 : Nat → Fn} (h : agr F F2) : agT F F2 := ⟨fun b h0 h1 => h b (by omega) (by omega), h 152 (by omega) (by omega)⟩
theorem agN_T {F F2 : Nat → Fn} (h : agN F F2) : agT F F2 := ⟨fun b h0 h1 => h b (by omega) (by omega), h 152 (by omega) (by omega)⟩
theorem agN_tr {F F1 F2 : Nat → Fn} (h1 : agN F F1) (h2 : agN F1 F2) : agN F F2 := fun b a c => (h2 b a c).trans (h1 b a c)
section
variable (x : m_X) (F G : Nat → Fn)
theorem C_explains {t : Int} {A : Law4} (h5 : RT5 F 36 (F 150)) (hA : LA F t A) (hi : WI (F 2)) (ht : 0 ≤ t) : ∃ F2, m_M x k_G_explainsGrowth [.ref 0, .ref (104 + 6 * t.toNat)] (mk F G) = some (some (.int (jI (if exB (exT F A) (F 47 1).toNat then 1 else 0))), mk F2 G) ∧ agr F F2 := by
  have hc := WI_c hi
  obtain ⟨s1, s2, s3, s4, s5⟩ := h5
  simp only [Nat.reduceAdd] at s1 s2 s3 s4 s5
  have es : sv t = .ref (104 + 6 * t.toNat) := by unfold sv; rw [if_neg (by omega)]
  have key : ∀ i, 0 ≤ i → i ≤ F 47 1 → exB (exT F A) i.toNat = true → ∀ F1, agr F F1 → ∀ d3 d4, m_nl d3 = true → m_nl d4 = true → ∃ F2, m_D x 6 k_G_explainsGrowth 2 [some (.ref 0), some (.ref (104 + 6 * t.toNat)), some (.int (jI i)), d3, d4] [] (mk F1 G) = some (some (.int (jI (if exB (exT F A) (F 47 1).toNat then 1 else 0))), mk F2 G) ∧ agr F F2 := by
    apply down
    · intro hx F1 ha d3 d4 hd3 hd4
      refine ⟨F1, ?_, ha⟩
      rw [E_G_explainsGrowth_2 x 6 (by omega) _ _ _ _ _ _ hd3 hd4]
      simp (disch := omega) only [lit_0, lit_1, lit_2, lit_3, lit_4, lit_5, lit_6, lit_7, lit_8, lit_9, lit_10, lit_11, lit_12, lit_13, lit_14, lit_15, lit_16, lit_17, lit_18, lit_19, lit_20, lit_21, lit_22, lit_23, lit_24, lit_25, lit_26, lit_27, lit_28, lit_29, lit_30, lit_31, lit_32, lit_33, lit_34, lit_35, lit_36, lit_37, lit_38, lit_39, lit_40, lit_41, lit_42, lit_43, lit_44, lit_45, lit_46, lit_47, lit_48, lit_49, lit_50, lit_51, lit_52, lit_53, lit_54, lit_55, lit_56, lit_57, lit_58, lit_59, lit_60, lit_61, lit_62, lit_63, lit_64, lit_65, lit_67, lit_70, lit_71, lit_73, lit_75, lit_78, lit_84, lit_85, lit_86, lit_87, lit_89, lit_90, lit_91, lit_95, lit_96, lit_97, lit_98, lit_99, lit_100, lit_101, lit_102, lit_103, lit_104, lit_105, lit_107, lit_108, lit_109, lit_110, lit_111, lit_112, lit_114, lit_115, lit_116, lit_117, lit_119, lit_121, lit_122, lit_126, lit_127, lit_128, lit_130, lit_134, lit_137, lit_139, lit_140, lit_141, lit_145, lit_152, lit_159, lit_160, lit_168, lit_174, lit_180, lit_183, lit_192, lit_199, lit_236, lit_251, lit_255, lit_272, lit_284, lit_300, lit_330, lit_373, lit_753, lit_800, lit_896, lit_900, lit_1000, lit_1001, lit_1002, lit_1003, lit_1079, lit_1276, lit_1330, lit_1450, lit_3012, lit_3016, lit_3300, lit_8430, lit_9999, lit_10000, lit_11730, lit_30467, lit_65536, lit_99999, lit_100000, lit_1000000, lit_252645135, lit_858993459, lit_1000000000, lit_1431655765, isO_0, fR_0_0, fR_0_1, fR_0_2, fR_0_3, fR_0_4, fR_0_5, fR_0_6, fR_0_7, fR_0_8, fR_0_9, fR_0_10, fR_0_11, fR_0_12, isO_T, fR_T_0, fR_T_1, fR_T_2, fR_T_3, fR_T_4, fR_T_5, fR_T_6, fI_T_7, pf_T_7, fI_T_8, pf_T_8, isO_R, fR_R_0, fI_R_1, pf_R_1, b_I, b_L, b_V, b_R, b_N, b_N0, Option.bind_some, ↓reduceIte, bq0, bq1, bz0, bz1, ite_not, Classical.not_not, Nat.reduceAdd]
      rw [ha 47 (by omega) (by omega), if_pos (Int32.le_refl _), if_pos hx]
    · intro i i0 i1 ih hx F1 ha d3 d4 hd3 hd4
      have q := s5 i i0 i1
      have e47 := ha 47 (by omega) (by omega)
      have e48 := ha 48 (by omega) (by omega)
      have e2 := ha 2 (by omega) (by omega)
      have i48 := C_itemAt x F1 G (w := 47) (i := i) (by omega) i0 (by simp only [show rL 47 = 8 from rfl]; omega)
      simp only [Nat.reduceAdd] at i48
      rw [e48] at i48
      have hg := C_hasGlove x F1 G (w := 1) (g := F 48 i) (Or.inl rfl) (by unfold rg; omega) (by unfold rg; simp only [Nat.reduceAdd]; rw [e2]; omega)
      simp only [Nat.reduceAdd] at hg
      rw [e2] at hg
      rw [E_G_explainsGrowth_2 x 6 (by omega) _ _ _ _ _ _ hd3 hd4]
      simp (disch := omega) only [lit_0, lit_1, lit_2, lit_3, lit_4, lit_5, lit_6, lit_7, lit_8, lit_9, lit_10, lit_11, lit_12, lit_13, lit_14, lit_15, lit_16, lit_17, lit_18, lit_19, lit_20, lit_21, lit_22, lit_23, lit_24, lit_25, lit_26, lit_27, lit_28, lit_29, lit_30, lit_31, lit_32, lit_33, lit_34, lit_35, lit_36, lit_37, lit_38, lit_39, lit_40, lit_41, lit_42, lit_43, lit_44, lit_45, lit_46, lit_47, lit_48, lit_49, lit_50, lit_51, lit_52, lit_53, lit_54, lit_55, lit_56, lit_57, lit_58, lit_59, lit_60, lit_61, lit_62, lit_63, lit_64, lit_65, lit_67, lit_70, lit_71, lit_73, lit_75, lit_78, lit_84, lit_85, lit_86, lit_87, lit_89, lit_90, lit_91, lit_95, lit_96, lit_97, lit_98, lit_99, lit_100, lit_101, lit_102, lit_103, lit_104, lit_105, lit_107, lit_108, lit_109, lit_110, lit_111, lit_112, lit_114, lit_115, lit_116, lit_117, lit_119, lit_121, lit_122, lit_126, lit_127, lit_128, lit_130, lit_134, lit_137, lit_139, lit_140, lit_141, lit_145, lit_152, lit_159, lit_160, lit_168, lit_174, lit_180, lit_183, lit_192, lit_199, lit_236, lit_251, lit_255, lit_272, lit_284, lit_300, lit_330, lit_373, lit_753, lit_800, lit_896, lit_900, lit_1000, lit_1001, lit_1002, lit_1003, lit_1079, lit_1276, lit_1330, lit_1450, lit_3012, lit_3016, lit_3300, lit_8430, lit_9999, lit_10000, lit_11730, lit_30467, lit_65536, lit_99999, lit_100000, lit_1000000, lit_252645135, lit_858993459, lit_1000000000, lit_1431655765, jI_add, jI_sub, jI_mul, jI_neg, jI_lt, jI_le, jI_eq, isO_0, fR_0_0, fR_0_1, fR_0_2, fR_0_3, fR_0_4, fR_0_5, fR_0_6, fR_0_7, fR_0_8, fR_0_9, fR_0_10, fR_0_11, fR_0_12, isO_T, fR_T_0, fR_T_1, fR_T_2, fR_T_3, fR_T_4, fR_T_5, fR_T_6, fI_T_7, pf_T_7, fI_T_8, pf_T_8, isO_R, fR_R_0, fI_R_1, pf_R_1, b_I, b_L, b_V, b_R, b_N, b_N0, Option.bind_some, ↓reduceIte, bq0, bq1, bz0, bz1, ite_not, Classical.not_not, Nat.reduceAdd, e47, i48, hg]
      rw [if_neg (by omega)]
      rw [exB_s _ i0, hx, Bool.true_and] at ih
      by_cases q1 : F 48 i < F 2 25
      · rw [if_pos (c := 0 ≤ F 48 i ∧ F 48 i < F 2 25) ⟨by omega, q1⟩]
        obtain ⟨F2, r1, r2⟩ := C_amount x F1 G (w := 1) (t := t) (s := 2) (q := F 48 i) (LA_cg (agr_T ha) hA) (Or.inl rfl) (by simp only [Nat.reduceAdd]; rw [e2]; exact hi) (by omega) (by omega) (by unfold qok; omega)
        simp only [Nat.reduceAdd] at r1
        rw [es, e2] at r1
        have a2 := agr_tr ha r2
        have i50 := C_itemAt x F2 G (w := 49) (i := i) (by omega) i0 (by simp only [show rL 49 = 8 from rfl]; omega)
        simp only [Nat.reduceAdd] at i50
        rw [a2 50 (by omega) (by omega)] at i50
        have ar := A_r (s := 2) (q := F 48 i) (c := F 2) hA (by omega) (by omega)
        simp (disch := omega) only [r1, i50, b_I, b_L, b_V, b_R, b_N, b_N0, Option.bind_some, ↓reduceIte, bq0, bq1, bz0, bz1, ite_not, Classical.not_not, isO_0, fR_0_0, fR_0_1, fR_0_2, fR_0_3, fR_0_4, fR_0_5, fR_0_6, fR_0_7, fR_0_8, fR_0_9, fR_0_10, fR_0_11, fR_0_12, isO_T, fR_T_0, fR_T_1, fR_T_2, fR_T_3, fR_T_4, fR_T_5, fR_T_6, fI_T_7, pf_T_7, fI_T_8, pf_T_8, isO_R, fR_R_0, fI_R_1, pf_R_1, jI_lt, jI_le, jI_eq]
        by_cases q2 : A 2 (F 2) (F 48 i) = F 50 i
        · rw [if_pos q2]
          exact ih (by unfold exT; simp [q2]) F2 a2 _ _ rfl rfl
        · rw [if_neg q2]
          refine ⟨F2, ?_, a2⟩
          rw [if_neg]
          rw [exB_f (exT F A) i0 (by unfold exT; simp [q1, q2]) _ (by omega)]
          simp
      · rw [if_neg (c := 0 ≤ F 48 i ∧ F 48 i < F 2 25) (fun h => q1 h.2)]
        exact ih (by unfold exT; simp [q1]) F1 ha _ _ rfl rfl
  rw [E_G_explainsGrowth]
  simp only [lit_0, lit_1, lit_2, lit_3, lit_4, lit_5, lit_6, lit_7, lit_8, lit_9, lit_10, lit_11, lit_12, lit_13, lit_14, lit_15, lit_16, lit_17, lit_18, lit_19, lit_20, lit_21, lit_22, lit_23, lit_24, lit_25, lit_26, lit_27, lit_28, lit_29, lit_30, lit_31, lit_32, lit_33, lit_34, lit_35, lit_36, lit_37, lit_38, lit_39, lit_40, lit_41, lit_42, lit_43, lit_44, lit_45, lit_46, lit_47, lit_48, lit_49, lit_50, lit_51, lit_52, lit_53, lit_54, lit_55, lit_56, lit_57, lit_58, lit_59, lit_60, lit_61, lit_62, lit_63, lit_64, lit_65, lit_67, lit_70, lit_71, lit_73, lit_75, lit_78, lit_84, lit_85, lit_86, lit_87, lit_89, lit_90, lit_91, lit_95, lit_96, lit_97, lit_98, lit_99, lit_100, lit_101, lit_102, lit_103, lit_104, lit_105, lit_107, lit_108, lit_109, lit_110, lit_111, lit_112, lit_114, lit_115, lit_116, lit_117, lit_119, lit_121, lit_122, lit_126, lit_127, lit_128, lit_130, lit_134, lit_137, lit_139, lit_140, lit_141, lit_145, lit_152, lit_159, lit_160, lit_168, lit_174, lit_180, lit_183, lit_192, lit_199, lit_236, lit_251, lit_255, lit_272, lit_284, lit_300, lit_330, lit_373, lit_753, lit_800, lit_896, lit_900, lit_1000, lit_1001, lit_1002, lit_1003, lit_1079, lit_1276, lit_1330, lit_1450, lit_3012, lit_3016, lit_3300, lit_8430, lit_9999, lit_10000, lit_11730, lit_30467, lit_65536, lit_99999, lit_100000, lit_1000000, lit_252645135, lit_858993459, lit_1000000000, lit_1431655765, isO_0, fR_0_0, fR_0_1, fR_0_2, fR_0_3, fR_0_4, fR_0_5, fR_0_6, fR_0_7, fR_0_8, fR_0_9, fR_0_10, fR_0_11, fR_0_12, b_I, b_L, b_V, b_R, b_N, b_N0, Option.bind_some, ↓reduceIte, bq0, bq1, bz0, bz1, ite_not, Classical.not_not]
  exact key 0 (by omega) (by omega) rfl F (fun _ _ _ => rfl) _ _ rfl rfl
theorem C_whoseLaw {AA : Int → Law4} (h0 : RT0 F 36 (F 150)) (h5 : RT5 F 36 (F 150)) (hA : ∀ t, 0 ≤ t → t < F 36 7 → LA F t (AA t)) (hi : WI (F 2)) : ∃ F2, m_M x k_G_whoseLaw [.ref 0] (mk F G) = some (some (.int (st (fun t => exB (exT F (AA t)) (F 47 1).toNat) (F 36 7))), mk F2 G) ∧ agr F F2 := by
  obtain ⟨u1, u2, u3, u4, u5, u6⟩ := h0
  have key : ∀ t, 0 ≤ t → t ≤ F 36 7 → ∀ F1, agr F F1 → ∃ F2, m_D x 7 k_G_whoseLaw 4 [some (.ref 0), some (.int (st (fun t => exB (exT F (AA t)) (F 47 1).toNat) t)), some (.int (jI t))] [] (mk F1 G) = some (some (.int (st (fun t => exB (exT F (AA t)) (F 47 1).toNat) (F 36 7))), mk F2 G) ∧ agr F F2 := by
    apply down
    · intro F1 ha
      refine ⟨F1, ?_, ha⟩
      rw [E_G_whoseLaw_4 x 7 (by omega)]
      simp (disch := omega) only [lit_0, lit_1, lit_2, lit_3, lit_4, lit_5, lit_6, lit_7, lit_8, lit_9, lit_10, lit_11, lit_12, lit_13, lit_14, lit_15, lit_16, lit_17, lit_18, lit_19, lit_20, lit_21, lit_22, lit_23, lit_24, lit_25, lit_26, lit_27, lit_28, lit_29, lit_30, lit_31, lit_32, lit_33, lit_34, lit_35, lit_36, lit_37, lit_38, lit_39, lit_40, lit_41, lit_42, lit_43, lit_44, lit_45, lit_46, lit_47, lit_48, lit_49, lit_50, lit_51, lit_52, lit_53, lit_54, lit_55, lit_56, lit_57, lit_58, lit_59, lit_60, lit_61, lit_62, lit_63, lit_64, lit_65, lit_67, lit_70, lit_71, lit_73, lit_75, lit_78, lit_84, lit_85, lit_86, lit_87, lit_89, lit_90, lit_91, lit_95, lit_96, lit_97, lit_98, lit_99, lit_100, lit_101, lit_102, lit_103, lit_104, lit_105, lit_107, lit_108, lit_109, lit_110, lit_111, lit_112, lit_114, lit_115, lit_116, lit_117, lit_119, lit_121, lit_122, lit_126, lit_127, lit_128, lit_130, lit_134, lit_137, lit_139, lit_140, lit_141, lit_145, lit_152, lit_159, lit_160, lit_168, lit_174, lit_180, lit_183, lit_192, lit_199, lit_236, lit_251, lit_255, lit_272, lit_284, lit_300, lit_330, lit_373, lit_753, lit_800, lit_896, lit_900, lit_1000, lit_1001, lit_1002, lit_1003, lit_1079, lit_1276, lit_1330, lit_1450, lit_3012, lit_3016, lit_3300, lit_8430, lit_9999, lit_10000, lit_11730, lit_30467, lit_65536, lit_99999, lit_100000, lit_1000000, lit_252645135, lit_858993459, lit_1000000000, lit_1431655765, isO_0, fR_0_0, fR_0_1, fR_0_2, fR_0_3, fR_0_4, fR_0_5, fR_0_6, fR_0_7, fR_0_8, fR_0_9, fR_0_10, fR_0_11, fR_0_12, isO_T, fR_T_0, fR_T_1, fR_T_2, fR_T_3, fR_T_4, fR_T_5, fR_T_6, fI_T_7, pf_T_7, fI_T_8, pf_T_8, b_I, b_L, b_V, b_R, b_N, b_N0, Option.bind_some, ↓reduceIte, bq0, bq1, bz0, bz1, ite_not, Classical.not_not]
      rw [ha 36 (by omega) (by omega), if_pos (Int32.le_refl _)]
    · intro t t0 t1 ih F1 ha
      have e36 := ha 36 (by omega) (by omega)
      have hs := C_scriptAt x F1 G (t := t) (by unfold rg; omega) (by rw [e36]; omega) (by rw [e36]; omega)
      rw [e36, if_pos ⟨t0, t1⟩] at hs
      have x5 : RT5 F1 36 (F1 150) := by
        rw [ha 150 (by omega) (by omega)]
        refine RT5_cg ?_ ?_ ?_ rfl (fun _ _ _ => rfl) h5
        · rw [ha _ (by omega) (by omega)]
        · rw [ha _ (by omega) (by omega)]
        · intro g _ _
          rw [ha _ (by omega) (by omega), ha _ (by omega) (by omega)]
          exact ⟨rfl, rfl⟩
      obtain ⟨F2, r1, r2⟩ := C_explains x F1 G (t := t) (A := AA t) x5 (LA_cg (agr_T ha) (hA t t0 t1)) (by rw [ha 2 (by omega) (by omega)]; exact hi) t0
      have ef : exB (exT F1 (AA t)) (F1 47 1).toNat = exB (exT F (AA t)) (F 47 1).toNat := by
        unfold exT
        rw [ha 47 (by omega) (by omega), ha 48 (by omega) (by omega), ha 50 (by omega) (by omega), ha 2 (by omega) (by omega)]
      rw [ef] at r1
      have a2 := agr_tr ha r2
      have ih2 := ih F2 a2
      rw [st_s _ t0] at ih2
      rw [E_G_whoseLaw_4 x 7 (by omega)]
      simp (disch := omega) only [lit_0, lit_1, lit_2, lit_3, lit_4, lit_5, lit_6, lit_7, lit_8, lit_9, lit_10, lit_11, lit_12, lit_13, lit_14, lit_15, lit_16, lit_17, lit_18, lit_19, lit_20, lit_21, lit_22, lit_23, lit_24, lit_25, lit_26, lit_27, lit_28, lit_29, lit_30, lit_31, lit_32, lit_33, lit_34, lit_35, lit_36, lit_37, lit_38, lit_39, lit_40, lit_41, lit_42, lit_43, lit_44, lit_45, lit_46, lit_47, lit_48, lit_49, lit_50, lit_51, lit_52, lit_53, lit_54, lit_55, lit_56, lit_57, lit_58, lit_59, lit_60, lit_61, lit_62, lit_63, lit_64, lit_65, lit_67, lit_70, lit_71, lit_73, lit_75, lit_78, lit_84, lit_85, lit_86, lit_87, lit_89, lit_90, lit_91, lit_95, lit_96, lit_97, lit_98, lit_99, lit_100, lit_101, lit_102, lit_103, lit_104, lit_105, lit_107, lit_108, lit_109, lit_110, lit_111, lit_112, lit_114, lit_115, lit_116, lit_117, lit_119, lit_121, lit_122, lit_126, lit_127, lit_128, lit_130, lit_134, lit_137, lit_139, lit_140, lit_141, lit_145, lit_152, lit_159, lit_160, lit_168, lit_174, lit_180, lit_183, lit_192, lit_199, lit_236, lit_251, lit_255, lit_272, lit_284, lit_300, lit_330, lit_373, lit_753, lit_800, lit_896, lit_900, lit_1000, lit_1001, lit_1002, lit_1003, lit_1079, lit_1276, lit_1330, lit_1450, lit_3012, lit_3016, lit_3300, lit_8430, lit_9999, lit_10000, lit_11730, lit_30467, lit_65536, lit_99999, lit_100000, lit_1000000, lit_252645135, lit_858993459, lit_1000000000, lit_1431655765, jI_add, jI_sub, jI_mul, jI_neg, jI_lt, jI_le, jI_eq, isO_0, fR_0_0, fR_0_1, fR_0_2, fR_0_3, fR_0_4, fR_0_5, fR_0_6, fR_0_7, fR_0_8, fR_0_9, fR_0_10, fR_0_11, fR_0_12, isO_T, fR_T_0, fR_T_1, fR_T_2, fR_T_3, fR_T_4, fR_T_5, fR_T_6, fI_T_7, pf_T_7, fI_T_8, pf_T_8, b_I, b_L, b_V, b_R, b_N, b_N0, Option.bind_some, ↓reduceIte, bq0, bq1, bz0, bz1, ite_not, Classical.not_not, e36, hs, r1]
      rw [if_neg (by omega)]
      by_cases q : exB (exT F (AA t)) (F 47 1).toNat = true
      · rw [if_pos q] at ih2
        rw [if_pos q]
        exact ih2
      · rw [if_neg q] at ih2
        rw [if_neg q]
        exact ih2
  rw [E_G_whoseLaw]
  simp only [lit_0, lit_1, lit_2, lit_3, lit_4, lit_5, lit_6, lit_7, lit_8, lit_9, lit_10, lit_11, lit_12, lit_13, lit_14, lit_15, lit_16, lit_17, lit_18, lit_19, lit_20, lit_21, lit_22, lit_23, lit_24, lit_25, lit_26, lit_27, lit_28, lit_29, lit_30, lit_31, lit_32, lit_33, lit_34, lit_35, lit_36, lit_37, lit_38, lit_39, lit_40, lit_41, lit_42, lit_43, lit_44, lit_45, lit_46, lit_47, lit_48, lit_49, lit_50, lit_51, lit_52, lit_53, lit_54, lit_55, lit_56, lit_57, lit_58, lit_59, lit_60, lit_61, lit_62, lit_63, lit_64, lit_65, lit_67, lit_70, lit_71, lit_73, lit_75, lit_78, lit_84, lit_85, lit_86, lit_87, lit_89, lit_90, lit_91, lit_95, lit_96, lit_97, lit_98, lit_99, lit_100, lit_101, lit_102, lit_103, lit_104, lit_105, lit_107, lit_108, lit_109, lit_110, lit_111, lit_112, lit_114, lit_115, lit_116, lit_117, lit_119, lit_121, lit_122, lit_126, lit_127, lit_128, lit_130, lit_134, lit_137, lit_139, lit_140, lit_141, lit_145, lit_152, lit_159, lit_160, lit_168, lit_174, lit_180, lit_183, lit_192, lit_199, lit_236, lit_251, lit_255, lit_272, lit_284, lit_300, lit_330, lit_373, lit_753, lit_800, lit_896, lit_900, lit_1000, lit_1001, lit_1002, lit_1003, lit_1079, lit_1276, lit_1330, lit_1450, lit_3012, lit_3016, lit_3300, lit_8430, lit_9999, lit_10000, lit_11730, lit_30467, lit_65536, lit_99999, lit_100000, lit_1000000, lit_252645135, lit_858993459, lit_1000000000, lit_1431655765, isO_0, fR_0_0, fR_0_1, fR_0_2, fR_0_3, fR_0_4, fR_0_5, fR_0_6, fR_0_7, fR_0_8, fR_0_9, fR_0_10, fR_0_11, fR_0_12, b_I, b_L, b_V, b_R, b_N, b_N0, Option.bind_some, ↓reduceIte, bq0, bq1, bz0, bz1, ite_not, Classical.not_not]
  exact key 0 (by omega) (by omega) F (fun _ _ _ => rfl)
theorem M_whoseIn {t : Int} {A : Law4} {r : Int32} (hRl : Rel F) (hA : LA F t A) (ht : 0 ≤ t) (ht1 : t < 4) : ∀ k, 0 ≤ k → k ≤ F 47 1 → ∀ F1 G1, agN F F1 → ∃ F2 G2, m_D x 7 k_M_whoseLaw 19 [some (.ref 149), some (.int r), some (.int (jI t)), some (.int (jI (if exB (exT F A) k.toNat then 1 else 0))), some (.int (jI k))] [] (mk F1 G1) = m_D x 7 k_M_whoseLaw 4 [some (.ref 149), some (.int (if exB (exT F A) (F 47 1).toNat then r ||| ((jI 1) <<< (jI t &&& jI 31)) else r)), some (.int (jI (t + 1))), some (.int (jI (if exB (exT F A) (F 47 1).toNat then 1 else 0))), some (.int (jI (F 47 1)))] [] (mk F2 G2) ∧ agN F F2 := by
  have hi : WI (F 2) := RS_WI hRl.1
  have hc := WI_c hi
  have hv := Rel_V hRl
  obtain ⟨s1, s2, s3, s4, s5⟩ := hRl.2.2.1.2.2.2.2.2
  simp only [Nat.reduceAdd] at s1 s2 s3 s4 s5
  apply down
  · intro F1 G1 ha
    refine ⟨F1, G1, ?_, ha⟩
    rw [E_M_whoseLaw_19 x 7 (by omega)]
    have e150 := ha 150 (by omega) (by omega)
    simp (disch := omega) only [lit_0, lit_1, lit_2, lit_3, lit_4, lit_5, lit_6, lit_7, lit_8, lit_9, lit_10, lit_11, lit_12, lit_13, lit_14, lit_15, lit_16, lit_17, lit_18, lit_19, lit_20, lit_21, lit_22, lit_23, lit_24, lit_25, lit_26, lit_27, lit_28, lit_29, lit_30, lit_31, lit_32, lit_33, lit_34, lit_35, lit_36, lit_37, lit_38, lit_39, lit_40, lit_41, lit_42, lit_43, lit_44, lit_45, lit_46, lit_47, lit_48, lit_49, lit_50, lit_51, lit_52, lit_53, lit_54, lit_55, lit_56, lit_57, lit_58, lit_59, lit_60, lit_61, lit_62, lit_63, lit_64, lit_65, lit_67, lit_70, lit_71, lit_73, lit_75, lit_78, lit_84, lit_85, lit_86, lit_87, lit_89, lit_90, lit_91, lit_95, lit_96, lit_97, lit_98, lit_99, lit_100, lit_101, lit_102, lit_103, lit_104, lit_105, lit_107, lit_108, lit_109, lit_110, lit_111, lit_112, lit_114, lit_115, lit_116, lit_117, lit_119, lit_121, lit_122, lit_126, lit_127, lit_128, lit_130, lit_134, lit_137, lit_139, lit_140, lit_141, lit_145, lit_152, lit_159, lit_160, lit_168, lit_174, lit_180, lit_183, lit_192, lit_199, lit_236, lit_251, lit_255, lit_272, lit_284, lit_300, lit_330, lit_373, lit_753, lit_800, lit_896, lit_900, lit_1000, lit_1001, lit_1002, lit_1003, lit_1079, lit_1276, lit_1330, lit_1450, lit_3012, lit_3016, lit_3300, lit_8430, lit_9999, lit_10000, lit_11730, lit_30467, lit_65536, lit_99999, lit_100000, lit_1000000, lit_252645135, lit_858993459, lit_1000000000, lit_1431655765, jI_add, jI_sub, jI_mul, jI_neg, jI_lt, jI_le, jI_eq, fR_149_0, ia_150, b_I, b_L, b_V, b_R, b_N, b_N0, Option.bind_some, ↓reduceIte, bq0, bq1, bz0, bz1, ite_not, Classical.not_not, e150, s1]
    rw [if_pos (Int.le_refl _)]
    by_cases q : exB (exT F A) (F 47 1).toNat = true
    · simp only [if_pos q]
    · simp only [if_neg q, or0]
  · intro k k0 k1 ih F1 G1 ha
    have q := s5 k k0 k1
    have e150 := ha 150 (by omega) (by omega)
    have e152 : F1 150 (152 + 2 * k) = F 48 k := by rw [e150]; exact q.1.symm
    have e153 : F 150 (152 + 2 * k + 1) = F 50 k := q.2.1.symm
    have wv : WI (V (F1 150)) := by rw [e150]; exact RS_WV hRl.1
    rw [E_M_whoseLaw_19 x 7 (by omega)]
    have e7 : F1 150 7 = F 47 1 := by rw [e150]; exact s1
    have hg := M_isGlove x F1 G1 (p := F 48 k) wv (by unfold rg; omega)
    rw [e150, hv 25 (by unfold vok; omega)] at hg
    rw [exB_s _ k0] at ih
    by_cases hx : exB (exT F A) k.toNat = true
    · rw [hx, Bool.true_and] at ih
      rw [if_pos hx]
      simp (disch := omega) only [lit_0, lit_1, lit_2, lit_3, lit_4, lit_5, lit_6, lit_7, lit_8, lit_9, lit_10, lit_11, lit_12, lit_13, lit_14, lit_15, lit_16, lit_17, lit_18, lit_19, lit_20, lit_21, lit_22, lit_23, lit_24, lit_25, lit_26, lit_27, lit_28, lit_29, lit_30, lit_31, lit_32, lit_33, lit_34, lit_35, lit_36, lit_37, lit_38, lit_39, lit_40, lit_41, lit_42, lit_43, lit_44, lit_45, lit_46, lit_47, lit_48, lit_49, lit_50, lit_51, lit_52, lit_53, lit_54, lit_55, lit_56, lit_57, lit_58, lit_59, lit_60, lit_61, lit_62, lit_63, lit_64, lit_65, lit_67, lit_70, lit_71, lit_73, lit_75, lit_78, lit_84, lit_85, lit_86, lit_87, lit_89, lit_90, lit_91, lit_95, lit_96, lit_97, lit_98, lit_99, lit_100, lit_101, lit_102, lit_103, lit_104, lit_105, lit_107, lit_108, lit_109, lit_110, lit_111, lit_112, lit_114, lit_115, lit_116, lit_117, lit_119, lit_121, lit_122, lit_126, lit_127, lit_128, lit_130, lit_134, lit_137, lit_139, lit_140, lit_141, lit_145, lit_152, lit_159, lit_160, lit_168, lit_174, lit_180, lit_183, lit_192, lit_199, lit_236, lit_251, lit_255, lit_272, lit_284, lit_300, lit_330, lit_373, lit_753, lit_800, lit_896, lit_900, lit_1000, lit_1001, lit_1002, lit_1003, lit_1079, lit_1276, lit_1330, lit_1450, lit_3012, lit_3016, lit_3300, lit_8430, lit_9999, lit_10000, lit_11730, lit_30467, lit_65536, lit_99999, lit_100000, lit_1000000, lit_252645135, lit_858993459, lit_1000000000, lit_1431655765, jI_add, jI_sub, jI_mul, jI_neg, jI_lt, jI_le, jI_eq, fR_149_0, ia_150, b_I, b_L, b_V, b_R, b_N, b_N0, Option.bind_some, ↓reduceIte, bq0, bq1, bz0, bz1, ite_not, Classical.not_not, e7, e152, hg]
      rw [if_neg (by omega), if_neg (show ¬ (1 : Int) = 0 by omega)]
      by_cases q1 : F 48 k < F 2 25
      · rw [if_pos (c := 0 ≤ F 48 k ∧ F 48 k < F 2 25) ⟨by omega, q1⟩]
        obtain ⟨F2, G2, r1, r2, r3⟩ := M_growsOf x F1 G1 (t := t) (g := F 48 k) (LA_cg (agN_T ha) hA) wv (by omega) (by omega)
        rw [e150, A_cg (c := V (F 150)) (d := F 2) hA (by omega) (by omega) (by unfold qok; omega) hv (by rw [hv 25 (by unfold vok; omega)]; omega)] at r1
        have a2 := agN_tr ha r2
        have e150' := a2 150 (by omega) (by omega)
        have ar := A_r (s := 2) (q := F 48 k) (c := F 2) hA (by omega) (by omega)
        simp (disch := omega) only [lit_0, lit_1, lit_2, lit_3, lit_4, lit_5, lit_6, lit_7, lit_8, lit_9, lit_10, lit_11, lit_12, lit_13, lit_14, lit_15, lit_16, lit_17, lit_18, lit_19, lit_20, lit_21, lit_22, lit_23, lit_24, lit_25, lit_26, lit_27, lit_28, lit_29, lit_30, lit_31, lit_32, lit_33, lit_34, lit_35, lit_36, lit_37, lit_38, lit_39, lit_40, lit_41, lit_42, lit_43, lit_44, lit_45, lit_46, lit_47, lit_48, lit_49, lit_50, lit_51, lit_52, lit_53, lit_54, lit_55, lit_56, lit_57, lit_58, lit_59, lit_60, lit_61, lit_62, lit_63, lit_64, lit_65, lit_67, lit_70, lit_71, lit_73, lit_75, lit_78, lit_84, lit_85, lit_86, lit_87, lit_89, lit_90, lit_91, lit_95, lit_96, lit_97, lit_98, lit_99, lit_100, lit_101, lit_102, lit_103, lit_104, lit_105, lit_107, lit_108, lit_109, lit_110, lit_111, lit_112, lit_114, lit_115, lit_116, lit_117, lit_119, lit_121, lit_122, lit_126, lit_127, lit_128, lit_130, lit_134, lit_137, lit_139, lit_140, lit_141, lit_145, lit_152, lit_159, lit_160, lit_168, lit_174, lit_180, lit_183, lit_192, lit_199, lit_236, lit_251, lit_255, lit_272, lit_284, lit_300, lit_330, lit_373, lit_753, lit_800, lit_896, lit_900, lit_1000, lit_1001, lit_1002, lit_1003, lit_1079, lit_1276, lit_1330, lit_1450, lit_3012, lit_3016, lit_3300, lit_8430, lit_9999, lit_10000, lit_11730, lit_30467, lit_65536, lit_99999, lit_100000, lit_1000000, lit_252645135, lit_858993459, lit_1000000000, lit_1431655765, jI_add, jI_sub, jI_mul, jI_neg, r1, b_I, b_L, b_V, b_R, b_N, b_N0, Option.bind_some, ↓reduceIte, bq0, bq1, bz0, bz1, ite_not, Classical.not_not, fR_149_0, ia_150, e150', e153, jI_lt, jI_le, jI_eq]
        by_cases q2 : A 2 (F 2) (F 48 k) = F 50 k
        · rw [if_pos q2]
          have ih2 := ih F2 G2 a2
          rw [if_pos (by unfold exT; simp [q2])] at ih2
          exact ih2
        · rw [if_neg q2]
          have ih2 := ih F2 G2 a2
          rw [if_neg (c := exT F A k = true) (by unfold exT; simp [q1, q2])] at ih2
          exact ih2
      · rw [if_neg (c := 0 ≤ F 48 k ∧ F 48 k < F 2 25) (fun h => q1 h.2)]
        have ih2 := ih F1 G1 ha
        rw [if_pos (by unfold exT; simp [q1])] at ih2
        exact ih2
    · have ih2 := ih F1 G1 ha
      rw [Bool.not_eq_true] at hx
      rw [hx, Bool.false_and, if_neg (c := false = true) (by decide)] at ih2
      rw [hx, if_neg (c := false = true) (by decide)]
      simp (disch := omega) only [lit_0, lit_1, lit_2, lit_3, lit_4, lit_5, lit_6, lit_7, lit_8, lit_9, lit_10, lit_11, lit_12, lit_13, lit_14, lit_15, lit_16, lit_17, lit_18, lit_19, lit_20, lit_21, lit_22, lit_23, lit_24, lit_25, lit_26, lit_27, lit_28, lit_29, lit_30, lit_31, lit_32, lit_33, lit_34, lit_35, lit_36, lit_37, lit_38, lit_39, lit_40, lit_41, lit_42, lit_43, lit_44, lit_45, lit_46, lit_47, lit_48, lit_49, lit_50, lit_51, lit_52, lit_53, lit_54, lit_55, lit_56, lit_57, lit_58, lit_59, lit_60, lit_61, lit_62, lit_63, lit_64, lit_65, lit_67, lit_70, lit_71, lit_73, lit_75, lit_78, lit_84, lit_85, lit_86, lit_87, lit_89, lit_90, lit_91, lit_95, lit_96, lit_97, lit_98, lit_99, lit_100, lit_101, lit_102, lit_103, lit_104, lit_105, lit_107, lit_108, lit_109, lit_110, lit_111, lit_112, lit_114, lit_115, lit_116, lit_117, lit_119, lit_121, lit_122, lit_126, lit_127, lit_128, lit_130, lit_134, lit_137, lit_139, lit_140, lit_141, lit_145, lit_152, lit_159, lit_160, lit_168, lit_174, lit_180, lit_183, lit_192, lit_199, lit_236, lit_251, lit_255, lit_272, lit_284, lit_300, lit_330, lit_373, lit_753, lit_800, lit_896, lit_900, lit_1000, lit_1001, lit_1002, lit_1003, lit_1079, lit_1276, lit_1330, lit_1450, lit_3012, lit_3016, lit_3300, lit_8430, lit_9999, lit_10000, lit_11730, lit_30467, lit_65536, lit_99999, lit_100000, lit_1000000, lit_252645135, lit_858993459, lit_1000000000, lit_1431655765, jI_add, jI_sub, jI_mul, jI_neg, jI_lt, jI_le, jI_eq, fR_149_0, ia_150, b_I, b_L, b_V, b_R, b_N, b_N0, Option.bind_some, ↓reduceIte, bq0, bq1, bz0, bz1, ite_not, Classical.not_not, e7]
      rw [if_neg (by omega)]
      exact ih2
theorem M_whoseLaw {AA : Int → Law4} (hRl : Rel F) (hA : ∀ t, 0 ≤ t → t < F 36 7 → LA F t (AA t)) : ∃ F2 G2, m_M x k_M_whoseLaw [.ref 149] (mk F G) = some (some (.int (st (fun t => exB (exT F (AA t)) (F 47 1).toNat) (F 36 7))), mk F2 G2) ∧ agN F F2 := by
  obtain ⟨u1, u2, u3, u4, u5, u6⟩ := hRl.2.2.1.1
  have key : ∀ t, 0 ≤ t → t ≤ F 36 7 → ∀ F1 G1, agN F F1 → ∀ d3 d4, m_nl d3 = true → m_nl d4 = true → ∃ F2 G2, m_D x 7 k_M_whoseLaw 4 [some (.ref 149), some (.int (st (fun t => exB (exT F (AA t)) (F 47 1).toNat) t)), some (.int (jI t)), d3, d4] [] (mk F1 G1) = some (some (.int (st (fun t => exB (exT F (AA t)) (F 47 1).toNat) (F 36 7))), mk F2 G2) ∧ agN F F2 := by
    apply down
    · intro F1 G1 ha d3 d4 hd3 hd4
      refine ⟨F1, G1, ?_, ha⟩
      have e1 : F1 150 1 = F 36 7 := by rw [ha 150 (by omega) (by omega)]; exact u1
      rw [E_M_whoseLaw_4 x 7 (by omega) _ _ _ _ _ _ hd3 hd4]
      simp (disch := omega) only [lit_0, lit_1, lit_2, lit_3, lit_4, lit_5, lit_6, lit_7, lit_8, lit_9, lit_10, lit_11, lit_12, lit_13, lit_14, lit_15, lit_16, lit_17, lit_18, lit_19, lit_20, lit_21, lit_22, lit_23, lit_24, lit_25, lit_26, lit_27, lit_28, lit_29, lit_30, lit_31, lit_32, lit_33, lit_34, lit_35, lit_36, lit_37, lit_38, lit_39, lit_40, lit_41, lit_42, lit_43, lit_44, lit_45, lit_46, lit_47, lit_48, lit_49, lit_50, lit_51, lit_52, lit_53, lit_54, lit_55, lit_56, lit_57, lit_58, lit_59, lit_60, lit_61, lit_62, lit_63, lit_64, lit_65, lit_67, lit_70, lit_71, lit_73, lit_75, lit_78, lit_84, lit_85, lit_86, lit_87, lit_89, lit_90, lit_91, lit_95, lit_96, lit_97, lit_98, lit_99, lit_100, lit_101, lit_102, lit_103, lit_104, lit_105, lit_107, lit_108, lit_109, lit_110, lit_111, lit_112, lit_114, lit_115, lit_116, lit_117, lit_119, lit_121, lit_122, lit_126, lit_127, lit_128, lit_130, lit_134, lit_137, lit_139, lit_140, lit_141, lit_145, lit_152, lit_159, lit_160, lit_168, lit_174, lit_180, lit_183, lit_192, lit_199, lit_236, lit_251, lit_255, lit_272, lit_284, lit_300, lit_330, lit_373, lit_753, lit_800, lit_896, lit_900, lit_1000, lit_1001, lit_1002, lit_1003, lit_1079, lit_1276, lit_1330, lit_1450, lit_3012, lit_3016, lit_3300, lit_8430, lit_9999, lit_10000, lit_11730, lit_30467, lit_65536, lit_99999, lit_100000, lit_1000000, lit_252645135, lit_858993459, lit_1000000000, lit_1431655765, fR_149_0, ia_150, b_I, b_L, b_V, b_R, b_N, b_N0, Option.bind_some, ↓reduceIte, bq0, bq1, bz0, bz1, ite_not, Classical.not_not, e1]
      rw [if_pos (Int32.le_refl _)]
    · intro t t0 t1 ih F1 G1 ha d3 d4 hd3 hd4
      have e1 : F1 150 1 = F 36 7 := by rw [ha 150 (by omega) (by omega)]; exact u1
      have s3 := hRl.2.2.1.2.2.2.2.2.2.2.1
      simp only [Nat.reduceAdd] at s3
      obtain ⟨F2, G2, r1, r2⟩ := M_whoseIn x F (r := st (fun t => exB (exT F (AA t)) (F 47 1).toNat) t) (t := t) (A := AA t) hRl (hA t t0 t1) t0 (by omega) 0 (by omega) (by omega) F1 G1 ha
      have ih2 := ih F2 G2 r2 (some (.int (jI (if exB (exT F (AA t)) (F 47 1).toNat then 1 else 0)))) (some (.int (jI (F 47 1)))) rfl rfl
      rw [st_s _ t0] at ih2
      rw [E_M_whoseLaw_4 x 7 (by omega) _ _ _ _ _ _ hd3 hd4]
      simp (disch := omega) only [lit_0, lit_1, lit_2, lit_3, lit_4, lit_5, lit_6, lit_7, lit_8, lit_9, lit_10, lit_11, lit_12, lit_13, lit_14, lit_15, lit_16, lit_17, lit_18, lit_19, lit_20, lit_21, lit_22, lit_23, lit_24, lit_25, lit_26, lit_27, lit_28, lit_29, lit_30, lit_31, lit_32, lit_33, lit_34, lit_35, lit_36, lit_37, lit_38, lit_39, lit_40, lit_41, lit_42, lit_43, lit_44, lit_45, lit_46, lit_47, lit_48, lit_49, lit_50, lit_51, lit_52, lit_53, lit_54, lit_55, lit_56, lit_57, lit_58, lit_59, lit_60, lit_61, lit_62, lit_63, lit_64, lit_65, lit_67, lit_70, lit_71, lit_73, lit_75, lit_78, lit_84, lit_85, lit_86, lit_87, lit_89, lit_90, lit_91, lit_95, lit_96, lit_97, lit_98, lit_99, lit_100, lit_101, lit_102, lit_103, lit_104, lit_105, lit_107, lit_108, lit_109, lit_110, lit_111, lit_112, lit_114, lit_115, lit_116, lit_117, lit_119, lit_121, lit_122, lit_126, lit_127, lit_128, lit_130, lit_134, lit_137, lit_139, lit_140, lit_141, lit_145, lit_152, lit_159, lit_160, lit_168, lit_174, lit_180, lit_183, lit_192, lit_199, lit_236, lit_251, lit_255, lit_272, lit_284, lit_300, lit_330, lit_373, lit_753, lit_800, lit_896, lit_900, lit_1000, lit_1001, lit_1002, lit_1003, lit_1079, lit_1276, lit_1330, lit_1450, lit_3012, lit_3016, lit_3300, lit_8430, lit_9999, lit_10000, lit_11730, lit_30467, lit_65536, lit_99999, lit_100000, lit_1000000, lit_252645135, lit_858993459, lit_1000000000, lit_1431655765, jI_add, jI_sub, jI_mul, jI_neg, jI_lt, jI_le, jI_eq, fR_149_0, ia_150, b_I, b_L, b_V, b_R, b_N, b_N0, Option.bind_some, ↓reduceIte, bq0, bq1, bz0, bz1, ite_not, Classical.not_not, e1]
      rw [if_neg (by omega)]
      obtain ⟨F3, G3, z1, z2⟩ := ih2
      refine ⟨F3, G3, ?_, z2⟩
      rw [← z1]
      exact r1
  rw [E_M_whoseLaw]
  simp only [lit_0, lit_1, lit_2, lit_3, lit_4, lit_5, lit_6, lit_7, lit_8, lit_9, lit_10, lit_11, lit_12, lit_13, lit_14, lit_15, lit_16, lit_17, lit_18, lit_19, lit_20, lit_21, lit_22, lit_23, lit_24, lit_25, lit_26, lit_27, lit_28, lit_29, lit_30, lit_31, lit_32, lit_33, lit_34, lit_35, lit_36, lit_37, lit_38, lit_39, lit_40, lit_41, lit_42, lit_43, lit_44, lit_45, lit_46, lit_47, lit_48, lit_49, lit_50, lit_51, lit_52, lit_53, lit_54, lit_55, lit_56, lit_57, lit_58, lit_59, lit_60, lit_61, lit_62, lit_63, lit_64, lit_65, lit_67, lit_70, lit_71, lit_73, lit_75, lit_78, lit_84, lit_85, lit_86, lit_87, lit_89, lit_90, lit_91, lit_95, lit_96, lit_97, lit_98, lit_99, lit_100, lit_101, lit_102, lit_103, lit_104, lit_105, lit_107, lit_108, lit_109, lit_110, lit_111, lit_112, lit_114, lit_115, lit_116, lit_117, lit_119, lit_121, lit_122, lit_126, lit_127, lit_128, lit_130, lit_134, lit_137, lit_139, lit_140, lit_141, lit_145, lit_152, lit_159, lit_160, lit_168, lit_174, lit_180, lit_183, lit_192, lit_199, lit_236, lit_251, lit_255, lit_272, lit_284, lit_300, lit_330, lit_373, lit_753, lit_800, lit_896, lit_900, lit_1000, lit_1001, lit_1002, lit_1003, lit_1079, lit_1276, lit_1330, lit_1450, lit_3012, lit_3016, lit_3300, lit_8430, lit_9999, lit_10000, lit_11730, lit_30467, lit_65536, lit_99999, lit_100000, lit_1000000, lit_252645135, lit_858993459, lit_1000000000, lit_1431655765, isO_149, b_I, b_L, b_V, b_R, b_N, b_N0, Option.bind_some, ↓reduceIte, bq0, bq1, bz0, bz1, ite_not, Classical.not_not]
  exact key 0 (by omega) (by omega) F G (fun _ _ _ => rfl) _ _ rfl rfl
theorem ok_whoseLaw (hR : Rel F) : Ok x F G k_G_whoseLaw k_M_whoseLaw [] := by
  have hi : WI (F 2) := RS_WI hR.1
  have hz := hR.2.2.1.1
  have hx : ∃ AA : Int → Law4, ∀ t, 0 ≤ t → t < F 36 7 → LA F t (AA t) := by
    have : ∀ t : Int, ∃ A : Law4, 0 ≤ t → t < F 36 7 → LA F t A := by
      intro t
      by_cases q : 0 ≤ t ∧ t < F 36 7
      · have hT := hR.2.2.2.2.2.2 t.toNat (by omega)
        unfold RT0 at hz
        obtain ⟨A, h⟩ := LA_ex (F := F) (t := t) (Or.inr ⟨q.1, by omega, hT⟩)
        exact ⟨A, fun _ _ => h⟩
      · exact ⟨fun _ _ _ => 0, fun h1 h2 => absurd ⟨h1, h2⟩ q⟩
    exact ⟨fun t => Classical.choose (this t), fun t => Classical.choose_spec (this t)⟩
  obtain ⟨AA, hA⟩ := hx
  obtain ⟨F2, r1, r2⟩ := C_whoseLaw x F G hz hR.2.2.1.2.2.2.2.2 hA hi
  have hR2 : Rel F2 := Rel_scr hR r2 (fun _ _ _ => rfl)
  obtain ⟨F3, G3, z1, z2⟩ := M_whoseLaw x F2 G (AA := AA) hR2 (by intro t h0 h1; rw [r2 36 (by omega) (by omega)] at h1; exact LA_cg (agr_T r2) (hA t h0 h1))
  have ef : (fun t => exB (exT F2 (AA t)) (F2 47 1).toNat) = (fun t => exB (exT F (AA t)) (F 47 1).toNat) := by
    unfold exT
    rw [r2 47 (by omega) (by omega), r2 48 (by omega) (by omega), r2 50 (by omega) (by omega), r2 2 (by omega) (by omega)]
  rw [ef, r2 36 (by omega) (by omega)] at z1
  exact ⟨_, _, _, _, r1, z1, Rel_scr hR r2 z2⟩
end
