-- calls: undo, image, back, what is told, the tape
theorem Rel_told {F F' : Nat → Fn} (h : Rel F) (ho : ∀ b, ¬ (36 ≤ b ∧ b < 51) → ¬ b = 150 → F' b = F b) (ha : ∀ k, (k = 0 ∨ k = 3 ∨ (8 ≤ k ∧ k ≤ 125) ∨ 180 ≤ k) → F' 150 k = F 150 k) (ht : RT F' 36 (F' 150)) (h7 : F' 36 7 = F 36 7) : Rel F' := by
  obtain ⟨h1, h2, h3, h4, h5, h6, hx⟩ := h
  have h36 := h3.1
  unfold RT0 at h36
  refine ⟨?_, ?_, ht, ?_, ?_, ?_, ?_⟩
  · have q : RS F' 1 3 (F 150) := RS_ob (ho _ (by omega) (by omega)) (ho _ (by omega) (by omega)) (fun i hi => ho _ (by omega) (by omega)) h1
    refine RS_cg rfl rfl (ha 3 (by omega)) (fun _ _ _ _ _ _ => rfl) ?_ q
    intro k hk
    unfold rlv at hk
    exact ha k (by omega)
  · rw [ho 151 (by omega) (by omega)]
    exact RS_ob (ho _ (by omega) (by omega)) (ho _ (by omega) (by omega)) (fun i hi => ho _ (by omega) (by omega)) h2
  · rw [ho 151 (by omega) (by omega)]
    exact RT_ob (fun j hj => ho _ (by omega) (by omega)) (fun _ _ => rfl) h4
  · have e : ∀ d, 51 ≤ d → ¬ d = 150 → F' d = F d := fun d hd hd2 => ho d (by omega) hd2
    refine RD_cg ?_ ?_ (e _ (by omega) (by omega)) (e _ (by omega) (by omega)) h5
    · rw [e 128 (by omega) (by omega)]; exact ⟨rfl, rfl, rfl⟩
    · rw [e 149 (by omega) (by omega)]; exact ⟨rfl, rfl, rfl, rfl⟩
  · rw [ho 86 (by omega) (by omega), h7]
    exact h6
  · intro t htt
    rw [h7] at htt
    exact TX_cg (by omega) (fun b h0 h1 => ho _ (by omega) (by omega)) (ho _ (by omega) (by omega)) (hx t htt)
section
variable (x : m_X) (F G : Nat → Fn)
theorem ok_price {g v : Int} (hR : Rel F) (hg : rg g) (hv : rg v) : Ok x F G k_G_price k_M_price [.int (jI g), .int (jI v)] := by
  have e1 : m_M x k_G_price [.ref 0, .int (jI g), .int (jI v)] (mk F G) = if (0 ≤ g ∧ g ≤ 11) ∧ 0 ≤ v ∧ v ≤ 9 then some (some (.int (jI 1)), mk (sA F 38 (u (F 38) g v)) G) else some (some (.int (jI 0)), mk F G) := by
    rw [E_G_price]
    simp (disch := first | omega | assumption | (unfold rg; omega)) only [lit_0, lit_1, lit_2, lit_3, lit_4, lit_5, lit_6, lit_7, lit_8, lit_9, lit_10, lit_11, lit_12, lit_13, lit_14, lit_15, lit_16, lit_17, lit_18, lit_19, lit_20, lit_21, lit_22, lit_23, lit_24, lit_25, lit_26, lit_27, lit_28, lit_29, lit_30, lit_31, lit_32, lit_33, lit_34, lit_35, lit_36, lit_37, lit_38, lit_39, lit_40, lit_41, lit_42, lit_43, lit_44, lit_45, lit_46, lit_47, lit_48, lit_49, lit_50, lit_51, lit_52, lit_53, lit_54, lit_55, lit_56, lit_57, lit_58, lit_59, lit_60, lit_61, lit_62, lit_63, lit_64, lit_65, lit_67, lit_70, lit_71, lit_73, lit_75, lit_78, lit_84, lit_85, lit_86, lit_87, lit_89, lit_90, lit_91, lit_95, lit_96, lit_97, lit_98, lit_99, lit_100, lit_101, lit_102, lit_103, lit_104, lit_105, lit_107, lit_108, lit_109, lit_110, lit_111, lit_112, lit_114, lit_115, lit_116, lit_117, lit_119, lit_121, lit_122, lit_126, lit_127, lit_128, lit_130, lit_134, lit_137, lit_139, lit_140, lit_141, lit_145, lit_152, lit_159, lit_160, lit_168, lit_174, lit_180, lit_183, lit_192, lit_199, lit_236, lit_251, lit_255, lit_272, lit_284, lit_300, lit_330, lit_373, lit_753, lit_800, lit_896, lit_900, lit_1000, lit_1001, lit_1002, lit_1003, lit_1079, lit_1276, lit_1330, lit_1450, lit_3012, lit_3016, lit_3300, lit_8430, lit_9999, lit_10000, lit_11730, lit_30467, lit_65536, lit_99999, lit_100000, lit_1000000, lit_252645135, lit_858993459, lit_1000000000, lit_1431655765, isO_0, fR_0_0, fR_0_1, fR_0_2, fR_0_3, fR_0_4, fR_0_5, fR_0_6, fR_0_7, fR_0_8, fR_0_9, fR_0_10, fR_0_11, fR_0_12, isO_T, fR_T_0, fR_T_1, fR_T_2, fR_T_3, fR_T_4, fR_T_5, fR_T_6, fI_T_7, pf_T_7, fI_T_8, pf_T_8, b_I, b_L, b_V, b_R, b_N, b_N0, Option.bind_some, ↓reduceIte, bq0, bq1, bz0, bz1, ite_not, Classical.not_not, C_isIn]
    by_cases h1 : 0 ≤ g ∧ g ≤ 11
    · rw [if_pos h1]
      by_cases h2 : 0 ≤ v ∧ v ≤ 9
      · have q := C_rowChange x F G (w := 37) (i := g) (v := v) (by omega) h1.1 (by simp [rL]; omega)
        simp only [Nat.reduceAdd] at q
        rw [if_pos h2, if_pos ⟨h1, h2⟩, q, b_V]
      · rw [if_neg h2, if_neg (fun z => h2 z.2)]
    · rw [if_neg h1, if_neg (fun z => h1 z.1)]
  have e2 : ∀ F' : Nat → Fn, m_M x k_M_price [.ref 149, .int (jI g), .int (jI v)] (mk F' G) = if (0 ≤ g ∧ g ≤ 11) ∧ 0 ≤ v ∧ v ≤ 9 then some (some (.int (jI 1)), mk (sA F' 150 (u (F' 150) (168 + g) v)) G) else some (some (.int (jI 0)), mk F' G) := by
    intro F'
    rw [E_M_price]
    simp (disch := first | omega | assumption | (unfold rg; omega)) only [lit_0, lit_1, lit_2, lit_3, lit_4, lit_5, lit_6, lit_7, lit_8, lit_9, lit_10, lit_11, lit_12, lit_13, lit_14, lit_15, lit_16, lit_17, lit_18, lit_19, lit_20, lit_21, lit_22, lit_23, lit_24, lit_25, lit_26, lit_27, lit_28, lit_29, lit_30, lit_31, lit_32, lit_33, lit_34, lit_35, lit_36, lit_37, lit_38, lit_39, lit_40, lit_41, lit_42, lit_43, lit_44, lit_45, lit_46, lit_47, lit_48, lit_49, lit_50, lit_51, lit_52, lit_53, lit_54, lit_55, lit_56, lit_57, lit_58, lit_59, lit_60, lit_61, lit_62, lit_63, lit_64, lit_65, lit_67, lit_70, lit_71, lit_73, lit_75, lit_78, lit_84, lit_85, lit_86, lit_87, lit_89, lit_90, lit_91, lit_95, lit_96, lit_97, lit_98, lit_99, lit_100, lit_101, lit_102, lit_103, lit_104, lit_105, lit_107, lit_108, lit_109, lit_110, lit_111, lit_112, lit_114, lit_115, lit_116, lit_117, lit_119, lit_121, lit_122, lit_126, lit_127, lit_128, lit_130, lit_134, lit_137, lit_139, lit_140, lit_141, lit_145, lit_152, lit_159, lit_160, lit_168, lit_174, lit_180, lit_183, lit_192, lit_199, lit_236, lit_251, lit_255, lit_272, lit_284, lit_300, lit_330, lit_373, lit_753, lit_800, lit_896, lit_900, lit_1000, lit_1001, lit_1002, lit_1003, lit_1079, lit_1276, lit_1330, lit_1450, lit_3012, lit_3016, lit_3300, lit_8430, lit_9999, lit_10000, lit_11730, lit_30467, lit_65536, lit_99999, lit_100000, lit_1000000, lit_252645135, lit_858993459, lit_1000000000, lit_1431655765, isO_149, fR_149_0, b_I, b_L, b_V, b_R, b_N, b_N0, Option.bind_some, ↓reduceIte, bq0, bq1, bz0, bz1, ite_not, Classical.not_not, M_isIn, jI_add, jI_sub, jI_mul, jI_neg]
    by_cases h1 : 0 ≤ g ∧ g ≤ 11
    · rw [if_pos h1]
      by_cases h2 : 0 ≤ v ∧ v ≤ 9
      · rw [if_pos h2, if_pos ⟨h1, h2⟩, is_150 F' G v (by omega) (by omega)]
        rfl
      · rw [if_neg h2, if_neg (fun z => h2 z.2)]
    · rw [if_neg h1, if_neg (fun z => h1 z.1)]
  by_cases hC : (0 ≤ g ∧ g ≤ 11) ∧ 0 ≤ v ∧ v ≤ 9
  · have q := e2 (sA F 38 (u (F 38) g v))
    rw [if_pos hC] at e1 q
    rw [sA_ne _ _ (by omega)] at q
    refine ⟨_, _, _, _, e1, q, ?_⟩
    obtain ⟨r0, r1, r2, r3, r4, r5⟩ := hR.2.2.1
    have eo : ∀ b, ¬ b = 38 → ¬ b = 150 → sA (sA F 38 (u (F 38) g v)) 150 (u (F 150) (168 + g) v) b = F b := by
      intro b h1 h2
      rw [sA_ne _ _ h2, sA_ne _ _ h1]
    refine Rel_told hR (fun b h1 h2 => eo b (by omega) h2) ?_ ?_ ?_
    · intro k hk
      rw [sA_eq, u_ne _ _ (by omega)]
    · rw [sA_eq]
      refine ⟨RT0_cg (by rw [eo _ (by omega) (by omega)]) (by rw [eo _ (by omega) (by omega)]) (u_ne _ _ (by omega)) (u_ne _ _ (by omega)) r0, ?_, RT2_cg (by rw [eo _ (by omega) (by omega)]) (fun _ _ _ => by rw [eo _ (by omega) (by omega)]) (u_ne _ _ (by omega)) (fun k _ _ => u_ne _ _ (by omega)) r2, RT3_cg (by rw [eo _ (by omega) (by omega)]) (fun _ _ _ => by rw [eo _ (by omega) (by omega)]) (u_ne _ _ (by omega)) (fun k _ _ => u_ne _ _ (by omega)) r3, RT4_cg (by rw [eo _ (by omega) (by omega)]) (by rw [eo _ (by omega) (by omega)]) (fun _ _ _ => by rw [eo _ (by omega) (by omega), eo _ (by omega) (by omega)]; exact ⟨rfl, rfl⟩) (u_ne _ _ (by omega)) (fun k _ _ => u_ne _ _ (by omega)) r4, RT5_cg (by rw [eo _ (by omega) (by omega)]) (by rw [eo _ (by omega) (by omega)]) (fun _ _ _ => by rw [eo _ (by omega) (by omega), eo _ (by omega) (by omega)]; exact ⟨rfl, rfl⟩) (u_ne _ _ (by omega)) (fun k _ _ => u_ne _ _ (by omega)) r5⟩
      intro i i0 i1
      simp only [Nat.reduceAdd]
      rw [sA_ne _ _ (by omega), sA_eq]
      by_cases e : i = g
      · rw [e, u_eq, u_eq]
        omega
      · rw [u_ne _ _ e, u_ne _ _ (by omega)]
        exact r1 i i0 i1
    · rw [eo _ (by omega) (by omega)]
  · have q := e2 F
    rw [if_neg hC] at e1 q
    exact Ok_pure hR e1 q
theorem ok_test {v : Int} (hR : Rel F) (hv : rg v) : Ok x F G k_G_test k_M_test [.int (jI v)] := by
  obtain ⟨r0, r1, r2, r3, r4, r5⟩ := hR.2.2.1
  obtain ⟨s1, s2, s3, s4⟩ := r2
  simp only [Nat.reduceAdd] at s1 s2 s3 s4
  have hv' := hv
  unfold rg at hv'
  have e1 : m_M x k_G_test [.ref 0, .int (jI v)] (mk F G) = if v = -1 then some (some (.int (jI 0)), mk (sA F 39 (u (F 39) 1 0)) G) else if (0 ≤ v ∧ v ≤ 127) ∧ F 39 1 < 8 then some (some (.int (jI (F 39 1 + 1))), mk (sA (sA F 40 (u (F 40) (F 39 1) v)) 39 (u (F 39) 1 (F 39 1 + 1))) G) else some (some (.int (jI (-2))), mk F G) := by
    have q := C_toldInto x F G (w := 39) (v := v) (m := 127) (by omega) s2 (by simp [rL]; omega) hv (by unfold rg; omega)
    simp only [Nat.reduceAdd, show rL 39 = 8 from rfl] at q
    rw [E_G_test]
    simp (disch := omega) only [lit_0, lit_1, lit_2, lit_3, lit_4, lit_5, lit_6, lit_7, lit_8, lit_9, lit_10, lit_11, lit_12, lit_13, lit_14, lit_15, lit_16, lit_17, lit_18, lit_19, lit_20, lit_21, lit_22, lit_23, lit_24, lit_25, lit_26, lit_27, lit_28, lit_29, lit_30, lit_31, lit_32, lit_33, lit_34, lit_35, lit_36, lit_37, lit_38, lit_39, lit_40, lit_41, lit_42, lit_43, lit_44, lit_45, lit_46, lit_47, lit_48, lit_49, lit_50, lit_51, lit_52, lit_53, lit_54, lit_55, lit_56, lit_57, lit_58, lit_59, lit_60, lit_61, lit_62, lit_63, lit_64, lit_65, lit_67, lit_70, lit_71, lit_73, lit_75, lit_78, lit_84, lit_85, lit_86, lit_87, lit_89, lit_90, lit_91, lit_95, lit_96, lit_97, lit_98, lit_99, lit_100, lit_101, lit_102, lit_103, lit_104, lit_105, lit_107, lit_108, lit_109, lit_110, lit_111, lit_112, lit_114, lit_115, lit_116, lit_117, lit_119, lit_121, lit_122, lit_126, lit_127, lit_128, lit_130, lit_134, lit_137, lit_139, lit_140, lit_141, lit_145, lit_152, lit_159, lit_160, lit_168, lit_174, lit_180, lit_183, lit_192, lit_199, lit_236, lit_251, lit_255, lit_272, lit_284, lit_300, lit_330, lit_373, lit_753, lit_800, lit_896, lit_900, lit_1000, lit_1001, lit_1002, lit_1003, lit_1079, lit_1276, lit_1330, lit_1450, lit_3012, lit_3016, lit_3300, lit_8430, lit_9999, lit_10000, lit_11730, lit_30467, lit_65536, lit_99999, lit_100000, lit_1000000, lit_252645135, lit_858993459, lit_1000000000, lit_1431655765, isO_0, fR_0_0, fR_0_1, fR_0_2, fR_0_3, fR_0_4, fR_0_5, fR_0_6, fR_0_7, fR_0_8, fR_0_9, fR_0_10, fR_0_11, fR_0_12, isO_T, fR_T_0, fR_T_1, fR_T_2, fR_T_3, fR_T_4, fR_T_5, fR_T_6, fI_T_7, pf_T_7, fI_T_8, pf_T_8, b_I, b_L, b_V, b_R, b_N, b_N0, Option.bind_some, ↓reduceIte, bq0, bq1, bz0, bz1, ite_not, Classical.not_not, Nat.reduceAdd, q]
    repeat' split
    all_goals simp_all [b_I]
  have e2 : ∀ F' : Nat → Fn, F' 150 = F 150 → m_M x k_M_test [.ref 149, .int (jI v)] (mk F' G) = if v = -1 then some (some (.int (jI 0)), mk (sA F' 150 (u (F 150) 4 0)) G) else if (0 ≤ v ∧ v ≤ 127) ∧ F 39 1 < 8 then some (some (.int (jI (F 39 1 + 1))), mk (sA F' 150 (u (u (F 150) (126 + F 39 1) v) 4 (F 39 1 + 1))) G) else some (some (.int (jI (-2))), mk F' G) := by
    intro F' e
    rw [E_M_test]
    simp (disch := first | omega | assumption | (unfold rg; omega)) only [lit_0, lit_1, lit_2, lit_3, lit_4, lit_5, lit_6, lit_7, lit_8, lit_9, lit_10, lit_11, lit_12, lit_13, lit_14, lit_15, lit_16, lit_17, lit_18, lit_19, lit_20, lit_21, lit_22, lit_23, lit_24, lit_25, lit_26, lit_27, lit_28, lit_29, lit_30, lit_31, lit_32, lit_33, lit_34, lit_35, lit_36, lit_37, lit_38, lit_39, lit_40, lit_41, lit_42, lit_43, lit_44, lit_45, lit_46, lit_47, lit_48, lit_49, lit_50, lit_51, lit_52, lit_53, lit_54, lit_55, lit_56, lit_57, lit_58, lit_59, lit_60, lit_61, lit_62, lit_63, lit_64, lit_65, lit_67, lit_70, lit_71, lit_73, lit_75, lit_78, lit_84, lit_85, lit_86, lit_87, lit_89, lit_90, lit_91, lit_95, lit_96, lit_97, lit_98, lit_99, lit_100, lit_101, lit_102, lit_103, lit_104, lit_105, lit_107, lit_108, lit_109, lit_110, lit_111, lit_112, lit_114, lit_115, lit_116, lit_117, lit_119, lit_121, lit_122, lit_126, lit_127, lit_128, lit_130, lit_134, lit_137, lit_139, lit_140, lit_141, lit_145, lit_152, lit_159, lit_160, lit_168, lit_174, lit_180, lit_183, lit_192, lit_199, lit_236, lit_251, lit_255, lit_272, lit_284, lit_300, lit_330, lit_373, lit_753, lit_800, lit_896, lit_900, lit_1000, lit_1001, lit_1002, lit_1003, lit_1079, lit_1276, lit_1330, lit_1450, lit_3012, lit_3016, lit_3300, lit_8430, lit_9999, lit_10000, lit_11730, lit_30467, lit_65536, lit_99999, lit_100000, lit_1000000, lit_252645135, lit_858993459, lit_1000000000, lit_1431655765, isO_149, fR_149_0, b_I, b_L, b_V, b_R, b_N, b_N0, Option.bind_some, ↓reduceIte, bq0, bq1, bz0, bz1, ite_not, Classical.not_not, M_isIn, jI_add, jI_sub, jI_mul, jI_neg, jI_lt, jI_le, jI_eq, ia_150, is_150, e, s1]
    by_cases h0 : v = -1
    · rw [if_pos h0, if_pos h0]
    · rw [if_neg h0, if_neg h0]
      by_cases h1 : 0 ≤ v ∧ v ≤ 127
      · rw [if_pos h1]
        by_cases h2 : F 39 1 = 8
        · rw [if_pos h2, if_neg (by omega)]
        · rw [if_neg h2, if_pos (by omega)]
          simp (disch := omega) only [lit_0, lit_1, lit_2, lit_3, lit_4, lit_5, lit_6, lit_7, lit_8, lit_9, lit_10, lit_11, lit_12, lit_13, lit_14, lit_15, lit_16, lit_17, lit_18, lit_19, lit_20, lit_21, lit_22, lit_23, lit_24, lit_25, lit_26, lit_27, lit_28, lit_29, lit_30, lit_31, lit_32, lit_33, lit_34, lit_35, lit_36, lit_37, lit_38, lit_39, lit_40, lit_41, lit_42, lit_43, lit_44, lit_45, lit_46, lit_47, lit_48, lit_49, lit_50, lit_51, lit_52, lit_53, lit_54, lit_55, lit_56, lit_57, lit_58, lit_59, lit_60, lit_61, lit_62, lit_63, lit_64, lit_65, lit_67, lit_70, lit_71, lit_73, lit_75, lit_78, lit_84, lit_85, lit_86, lit_87, lit_89, lit_90, lit_91, lit_95, lit_96, lit_97, lit_98, lit_99, lit_100, lit_101, lit_102, lit_103, lit_104, lit_105, lit_107, lit_108, lit_109, lit_110, lit_111, lit_112, lit_114, lit_115, lit_116, lit_117, lit_119, lit_121, lit_122, lit_126, lit_127, lit_128, lit_130, lit_134, lit_137, lit_139, lit_140, lit_141, lit_145, lit_152, lit_159, lit_160, lit_168, lit_174, lit_180, lit_183, lit_192, lit_199, lit_236, lit_251, lit_255, lit_272, lit_284, lit_300, lit_330, lit_373, lit_753, lit_800, lit_896, lit_900, lit_1000, lit_1001, lit_1002, lit_1003, lit_1079, lit_1276, lit_1330, lit_1450, lit_3012, lit_3016, lit_3300, lit_8430, lit_9999, lit_10000, lit_11730, lit_30467, lit_65536, lit_99999, lit_100000, lit_1000000, lit_252645135, lit_858993459, lit_1000000000, lit_1431655765, isO_149, fR_149_0, b_I, b_L, b_V, b_R, b_N, b_N0, Option.bind_some, ↓reduceIte, bq0, bq1, bz0, bz1, ite_not, Classical.not_not, jI_add, jI_sub, jI_mul, jI_neg, ia_150, is_150, sA_eq, sA_sA, u_ne, u_eq, e, s1]
      · rw [if_neg h1, if_neg (fun z => h1 z.1)]
  by_cases h0 : v = -1
  · have q := e2 (sA F 39 (u (F 39) 1 0)) (sA_ne _ _ (by omega))
    rw [if_pos h0] at e1 q
    refine ⟨_, _, _, _, e1, q, ?_⟩
    have eo : ∀ b, ¬ b = 39 → ¬ b = 150 → sA (sA F 39 (u (F 39) 1 0)) 150 (u (F 150) 4 0) b = F b := by
      intro b h1 h2
      rw [sA_ne _ _ h2, sA_ne _ _ h1]
    refine Rel_told hR (fun b h1 h2 => eo b (by omega) h2) ?_ ?_ ?_
    · intro k hk
      rw [sA_eq, u_ne _ _ (by omega)]
    · rw [sA_eq]
      refine ⟨RT0_cg (by rw [eo _ (by omega) (by omega)]) (by rw [eo _ (by omega) (by omega)]) (u_ne _ _ (by omega)) (u_ne _ _ (by omega)) r0, RT1_cg (fun _ _ _ => by rw [eo _ (by omega) (by omega)]) (fun k _ _ => u_ne _ _ (by omega)) r1, ?_, RT3_cg (by rw [eo _ (by omega) (by omega)]) (fun _ _ _ => by rw [eo _ (by omega) (by omega)]) (u_ne _ _ (by omega)) (fun k _ _ => u_ne _ _ (by omega)) r3, RT4_cg (by rw [eo _ (by omega) (by omega)]) (by rw [eo _ (by omega) (by omega)]) (fun _ _ _ => by rw [eo _ (by omega) (by omega), eo _ (by omega) (by omega)]; exact ⟨rfl, rfl⟩) (u_ne _ _ (by omega)) (fun k _ _ => u_ne _ _ (by omega)) r4, RT5_cg (by rw [eo _ (by omega) (by omega)]) (by rw [eo _ (by omega) (by omega)]) (fun _ _ _ => by rw [eo _ (by omega) (by omega), eo _ (by omega) (by omega)]; exact ⟨rfl, rfl⟩) (u_ne _ _ (by omega)) (fun k _ _ => u_ne _ _ (by omega)) r5⟩
      unfold RT2
      simp only [Nat.reduceAdd]
      rw [sA_ne (b := 39) _ _ (by omega), sA_eq, u_eq, u_eq]
      exact ⟨rfl, by omega, by omega, by intro i i0 i1; omega⟩
    · rw [eo _ (by omega) (by omega)]
  · by_cases hC : (0 ≤ v ∧ v ≤ 127) ∧ F 39 1 < 8
    · have q := e2 (sA (sA F 40 (u (F 40) (F 39 1) v)) 39 (u (F 39) 1 (F 39 1 + 1))) (by rw [sA_ne _ _ (by omega), sA_ne _ _ (by omega)])
      rw [if_neg h0, if_pos hC] at e1 q
      refine ⟨_, _, _, _, e1, q, ?_⟩
      have eo : ∀ b, ¬ b = 39 → ¬ b = 40 → ¬ b = 150 → sA (sA (sA F 40 (u (F 40) (F 39 1) v)) 39 (u (F 39) 1 (F 39 1 + 1))) 150 (u (u (F 150) (126 + F 39 1) v) 4 (F 39 1 + 1)) b = F b := by
        intro b h1 h2 h3
        rw [sA_ne _ _ h3, sA_ne _ _ h1, sA_ne _ _ h2]
      have un : ∀ k, ¬ k = 4 → ¬ k = 126 + F 39 1 → u (u (F 150) (126 + F 39 1) v) 4 (F 39 1 + 1) k = F 150 k := by
        intro k h1 h2
        rw [u_ne _ _ h1, u_ne _ _ h2]
      refine Rel_told hR (fun b h1 h2 => eo b (by omega) (by omega) h2) ?_ ?_ ?_
      · intro k hk
        rw [sA_eq, un _ (by omega) (by omega)]
      · rw [sA_eq]
        refine ⟨RT0_cg (by rw [eo _ (by omega) (by omega) (by omega)]) (by rw [eo _ (by omega) (by omega) (by omega)]) (un _ (by omega) (by omega)) (un _ (by omega) (by omega)) r0, RT1_cg (fun _ _ _ => by rw [eo _ (by omega) (by omega) (by omega)]) (fun k _ _ => un _ (by omega) (by omega)) r1, ?_, RT3_cg (by rw [eo _ (by omega) (by omega) (by omega)]) (fun _ _ _ => by rw [eo _ (by omega) (by omega) (by omega)]) (un _ (by omega) (by omega)) (fun k _ _ => un _ (by omega) (by omega)) r3, RT4_cg (by rw [eo _ (by omega) (by omega) (by omega)]) (by rw [eo _ (by omega) (by omega) (by omega)]) (fun _ _ _ => by rw [eo _ (by omega) (by omega) (by omega), eo _ (by omega) (by omega) (by omega)]; exact ⟨rfl, rfl⟩) (un _ (by omega) (by omega)) (fun k _ _ => un _ (by omega) (by omega)) r4, RT5_cg (by rw [eo _ (by omega) (by omega) (by omega)]) (by rw [eo _ (by omega) (by omega) (by omega)]) (fun _ _ _ => by rw [eo _ (by omega) (by omega) (by omega), eo _ (by omega) (by omega) (by omega)]; exact ⟨rfl, rfl⟩) (un _ (by omega) (by omega)) (fun k _ _ => un _ (by omega) (by omega)) r5⟩
        unfold RT2
        simp only [Nat.reduceAdd]
        have a1 : sA (sA (sA F 40 (u (F 40) (F 39 1) v)) 39 (u (F 39) 1 (F 39 1 + 1))) 150 (u (u (F 150) (126 + F 39 1) v) 4 (F 39 1 + 1)) 39 1 = F 39 1 + 1 := by rw [sA_ne _ _ (by omega), sA_eq, u_eq]
        have a2 : sA (sA (sA F 40 (u (F 40) (F 39 1) v)) 39 (u (F 39) 1 (F 39 1 + 1))) 150 (u (u (F 150) (126 + F 39 1) v) 4 (F 39 1 + 1)) 40 = u (F 40) (F 39 1) v := by rw [sA_ne _ _ (by omega), sA_ne _ _ (by omega), sA_eq]
        rw [a1, a2, u_eq]
        refine ⟨rfl, by omega, by omega, ?_⟩
        intro i i0 i1
        rw [u_ne (k := 126 + i) _ _ (by omega)]
        by_cases e : i = F 39 1
        · rw [e, u_eq, u_eq]
          omega
        · rw [u_ne _ _ e, u_ne _ _ (by omega)]
          exact s4 i i0 (by omega)
      · rw [eo _ (by omega) (by omega) (by omega)]
    · have q := e2 F rfl
      rw [if_neg h0, if_neg hC] at e1 q
      exact Ok_pure hR e1 q
end
