-- calls: claim, chest, grown, image, back
section
variable (x : m_X) (F G : Nat → Fn)
theorem ok_claim {v : Int} (hR : Rel F) (hv : rg v) : Ok x F G k_G_claim k_M_claim [.int (jI v)] := by
  obtain ⟨r0, r1, r2, r3, r4, r5⟩ := hR.2.2.1
  obtain ⟨s1, s2, s3, s4⟩ := r3
  simp only [Nat.reduceAdd] at s1 s2 s3 s4
  have hv' := hv
  unfold rg at hv'
  have e1 : m_M x k_G_claim [.ref 0, .int (jI v)] (mk F G) = if v = -1 then some (some (.int (jI 0)), mk (sA F 41 (u (F 41) 1 0)) G) else if (0 ≤ v ∧ v ≤ 9999) ∧ F 41 1 < 6 then some (some (.int (jI (F 41 1 + 1))), mk (sA (sA F 42 (u (F 42) (F 41 1) v)) 41 (u (F 41) 1 (F 41 1 + 1))) G) else some (some (.int (jI (-2))), mk F G) := by
    have q := C_toldInto x F G (w := 41) (v := v) (m := 9999) (by omega) s2 (by simp [rL]; omega) hv (by unfold rg; omega)
    simp only [Nat.reduceAdd, show rL 41 = 6 from rfl] at q
    rw [E_G_claim]
    simp (disch := omega) only [lit_0, lit_1, lit_2, lit_3, lit_4, lit_5, lit_6, lit_7, lit_8, lit_9, lit_10, lit_11, lit_12, lit_13, lit_14, lit_15, lit_16, lit_17, lit_18, lit_19, lit_20, lit_21, lit_22, lit_23, lit_24, lit_25, lit_26, lit_27, lit_28, lit_29, lit_30, lit_31, lit_32, lit_33, lit_34, lit_35, lit_36, lit_37, lit_38, lit_39, lit_40, lit_41, lit_42, lit_43, lit_44, lit_45, lit_46, lit_47, lit_48, lit_49, lit_50, lit_51, lit_52, lit_53, lit_54, lit_55, lit_56, lit_57, lit_58, lit_59, lit_60, lit_61, lit_62, lit_63, lit_64, lit_65, lit_67, lit_70, lit_71, lit_73, lit_75, lit_78, lit_84, lit_85, lit_86, lit_87, lit_89, lit_90, lit_91, lit_95, lit_96, lit_97, lit_98, lit_99, lit_100, lit_101, lit_102, lit_103, lit_104, lit_105, lit_107, lit_108, lit_109, lit_110, lit_111, lit_112, lit_114, lit_115, lit_116, lit_117, lit_119, lit_121, lit_122, lit_126, lit_127, lit_128, lit_130, lit_134, lit_137, lit_139, lit_140, lit_141, lit_145, lit_152, lit_159, lit_160, lit_168, lit_174, lit_180, lit_183, lit_192, lit_199, lit_236, lit_251, lit_255, lit_272, lit_284, lit_300, lit_330, lit_373, lit_753, lit_800, lit_896, lit_900, lit_1000, lit_1001, lit_1002, lit_1003, lit_1079, lit_1276, lit_1330, lit_1450, lit_3012, lit_3016, lit_3300, lit_8430, lit_9999, lit_10000, lit_11730, lit_30467, lit_65536, lit_99999, lit_100000, lit_1000000, lit_252645135, lit_858993459, lit_1000000000, lit_1431655765, isO_0, fR_0_0, fR_0_1, fR_0_2, fR_0_3, fR_0_4, fR_0_5, fR_0_6, fR_0_7, fR_0_8, fR_0_9, fR_0_10, fR_0_11, fR_0_12, isO_T, fR_T_0, fR_T_1, fR_T_2, fR_T_3, fR_T_4, fR_T_5, fR_T_6, fI_T_7, pf_T_7, fI_T_8, pf_T_8, b_I, b_L, b_V, b_R, b_N, b_N0, Option.bind_some, ↓reduceIte, bq0, bq1, bz0, bz1, ite_not, Classical.not_not, Nat.reduceAdd, q]
    repeat' split
    all_goals simp_all [b_I]
  have e2 : ∀ F' : Nat → Fn, F' 150 = F 150 → m_M x k_M_claim [.ref 149, .int (jI v)] (mk F' G) = if v = -1 then some (some (.int (jI 0)), mk (sA F' 150 (u (F 150) 5 0)) G) else if (0 ≤ v ∧ v ≤ 9999) ∧ F 41 1 < 6 then some (some (.int (jI (F 41 1 + 1))), mk (sA F' 150 (u (u (F 150) (134 + F 41 1) v) 5 (F 41 1 + 1))) G) else some (some (.int (jI (-2))), mk F' G) := by
    intro F' e
    rw [E_M_claim]
    simp (disch := first | omega | assumption | (unfold rg; omega)) only [lit_0, lit_1, lit_2, lit_3, lit_4, lit_5, lit_6, lit_7, lit_8, lit_9, lit_10, lit_11, lit_12, lit_13, lit_14, lit_15, lit_16, lit_17, lit_18, lit_19, lit_20, lit_21, lit_22, lit_23, lit_24, lit_25, lit_26, lit_27, lit_28, lit_29, lit_30, lit_31, lit_32, lit_33, lit_34, lit_35, lit_36, lit_37, lit_38, lit_39, lit_40, lit_41, lit_42, lit_43, lit_44, lit_45, lit_46, lit_47, lit_48, lit_49, lit_50, lit_51, lit_52, lit_53, lit_54, lit_55, lit_56, lit_57, lit_58, lit_59, lit_60, lit_61, lit_62, lit_63, lit_64, lit_65, lit_67, lit_70, lit_71, lit_73, lit_75, lit_78, lit_84, lit_85, lit_86, lit_87, lit_89, lit_90, lit_91, lit_95, lit_96, lit_97, lit_98, lit_99, lit_100, lit_101, lit_102, lit_103, lit_104, lit_105, lit_107, lit_108, lit_109, lit_110, lit_111, lit_112, lit_114, lit_115, lit_116, lit_117, lit_119, lit_121, lit_122, lit_126, lit_127, lit_128, lit_130, lit_134, lit_137, lit_139, lit_140, lit_141, lit_145, lit_152, lit_159, lit_160, lit_168, lit_174, lit_180, lit_183, lit_192, lit_199, lit_236, lit_251, lit_255, lit_272, lit_284, lit_300, lit_330, lit_373, lit_753, lit_800, lit_896, lit_900, lit_1000, lit_1001, lit_1002, lit_1003, lit_1079, lit_1276, lit_1330, lit_1450, lit_3012, lit_3016, lit_3300, lit_8430, lit_9999, lit_10000, lit_11730, lit_30467, lit_65536, lit_99999, lit_100000, lit_1000000, lit_252645135, lit_858993459, lit_1000000000, lit_1431655765, isO_149, fR_149_0, b_I, b_L, b_V, b_R, b_N, b_N0, Option.bind_some, ↓reduceIte, bq0, bq1, bz0, bz1, ite_not, Classical.not_not, M_isIn, jI_add, jI_sub, jI_mul, jI_neg, jI_lt, jI_le, jI_eq, ia_150, is_150, e, s1]
    by_cases h0 : v = -1
    · rw [if_pos h0, if_pos h0]
    · rw [if_neg h0, if_neg h0]
      by_cases h1 : 0 ≤ v ∧ v ≤ 9999
      · rw [if_pos h1]
        by_cases h2 : F 41 1 = 6
        · rw [if_pos h2, if_neg (by omega)]
        · rw [if_neg h2, if_pos (by omega)]
          simp (disch := omega) only [lit_0, lit_1, lit_2, lit_3, lit_4, lit_5, lit_6, lit_7, lit_8, lit_9, lit_10, lit_11, lit_12, lit_13, lit_14, lit_15, lit_16, lit_17, lit_18, lit_19, lit_20, lit_21, lit_22, lit_23, lit_24, lit_25, lit_26, lit_27, lit_28, lit_29, lit_30, lit_31, lit_32, lit_33, lit_34, lit_35, lit_36, lit_37, lit_38, lit_39, lit_40, lit_41, lit_42, lit_43, lit_44, lit_45, lit_46, lit_47, lit_48, lit_49, lit_50, lit_51, lit_52, lit_53, lit_54, lit_55, lit_56, lit_57, lit_58, lit_59, lit_60, lit_61, lit_62, lit_63, lit_64, lit_65, lit_67, lit_70, lit_71, lit_73, lit_75, lit_78, lit_84, lit_85, lit_86, lit_87, lit_89, lit_90, lit_91, lit_95, lit_96, lit_97, lit_98, lit_99, lit_100, lit_101, lit_102, lit_103, lit_104, lit_105, lit_107, lit_108, lit_109, lit_110, lit_111, lit_112, lit_114, lit_115, lit_116, lit_117, lit_119, lit_121, lit_122, lit_126, lit_127, lit_128, lit_130, lit_134, lit_137, lit_139, lit_140, lit_141, lit_145, lit_152, lit_159, lit_160, lit_168, lit_174, lit_180, lit_183, lit_192, lit_199, lit_236, lit_251, lit_255, lit_272, lit_284, lit_300, lit_330, lit_373, lit_753, lit_800, lit_896, lit_900, lit_1000, lit_1001, lit_1002, lit_1003, lit_1079, lit_1276, lit_1330, lit_1450, lit_3012, lit_3016, lit_3300, lit_8430, lit_9999, lit_10000, lit_11730, lit_30467, lit_65536, lit_99999, lit_100000, lit_1000000, lit_252645135, lit_858993459, lit_1000000000, lit_1431655765, isO_149, fR_149_0, b_I, b_L, b_V, b_R, b_N, b_N0, Option.bind_some, ↓reduceIte, bq0, bq1, bz0, bz1, ite_not, Classical.not_not, jI_add, jI_sub, jI_mul, jI_neg, ia_150, is_150, sA_eq, sA_sA, u_ne, u_eq, e, s1]
      · rw [if_neg h1, if_neg (fun z => h1 z.1)]
  by_cases h0 : v = -1
  · have q := e2 (sA F 41 (u (F 41) 1 0)) (sA_ne _ _ (by omega))
    rw [if_pos h0] at e1 q
    refine ⟨_, _, _, _, e1, q, ?_⟩
    have eo : ∀ b, ¬ b = 41 → ¬ b = 150 → sA (sA F 41 (u (F 41) 1 0)) 150 (u (F 150) 5 0) b = F b := by
      intro b h1 h2
      rw [sA_ne _ _ h2, sA_ne _ _ h1]
    refine Rel_told hR (fun b h1 h2 => eo b (by omega) h2) ?_ ?_ ?_
    · intro k hk
      rw [sA_eq, u_ne _ _ (by omega)]
    · rw [sA_eq]
      refine ⟨RT0_cg (by rw [eo _ (by omega) (by omega)]) (by rw [eo _ (by omega) (by omega)]) (u_ne _ _ (by omega)) (u_ne _ _ (by omega)) r0, RT1_cg (fun _ _ _ => by rw [eo _ (by omega) (by omega)]) (fun k _ _ => u_ne _ _ (by omega)) r1, RT2_cg (by rw [eo _ (by omega) (by omega)]) (fun _ _ _ => by rw [eo _ (by omega) (by omega)]) (u_ne _ _ (by omega)) (fun k _ _ => u_ne _ _ (by omega)) r2, ?_, RT4_cg (by rw [eo _ (by omega) (by omega)]) (by rw [eo _ (by omega) (by omega)]) (fun _ _ _ => by rw [eo _ (by omega) (by omega), eo _ (by omega) (by omega)]; exact ⟨rfl, rfl⟩) (u_ne _ _ (by omega)) (fun k _ _ => u_ne _ _ (by omega)) r4, RT5_cg (by rw [eo _ (by omega) (by omega)]) (by rw [eo _ (by omega) (by omega)]) (fun _ _ _ => by rw [eo _ (by omega) (by omega), eo _ (by omega) (by omega)]; exact ⟨rfl, rfl⟩) (u_ne _ _ (by omega)) (fun k _ _ => u_ne _ _ (by omega)) r5⟩
      unfold RT3
      simp only [Nat.reduceAdd]
      rw [sA_ne (b := 41) _ _ (by omega), sA_eq, u_eq, u_eq]
      exact ⟨rfl, by omega, by omega, by intro i i0 i1; omega⟩
    · rw [eo _ (by omega) (by omega)]
  · by_cases hC : (0 ≤ v ∧ v ≤ 9999) ∧ F 41 1 < 6
    · have q := e2 (sA (sA F 42 (u (F 42) (F 41 1) v)) 41 (u (F 41) 1 (F 41 1 + 1))) (by rw [sA_ne _ _ (by omega), sA_ne _ _ (by omega)])
      rw [if_neg h0, if_pos hC] at e1 q
      refine ⟨_, _, _, _, e1, q, ?_⟩
      have eo : ∀ b, ¬ b = 41 → ¬ b = 42 → ¬ b = 150 → sA (sA (sA F 42 (u (F 42) (F 41 1) v)) 41 (u (F 41) 1 (F 41 1 + 1))) 150 (u (u (F 150) (134 + F 41 1) v) 5 (F 41 1 + 1)) b = F b := by
        intro b h1 h2 h3
        rw [sA_ne _ _ h3, sA_ne _ _ h1, sA_ne _ _ h2]
      have un : ∀ k, ¬ k = 5 → ¬ k = 134 + F 41 1 → u (u (F 150) (134 + F 41 1) v) 5 (F 41 1 + 1) k = F 150 k := by
        intro k h1 h2
        rw [u_ne _ _ h1, u_ne _ _ h2]
      refine Rel_told hR (fun b h1 h2 => eo b (by omega) (by omega) h2) ?_ ?_ ?_
      · intro k hk
        rw [sA_eq, un _ (by omega) (by omega)]
      · rw [sA_eq]
        refine ⟨RT0_cg (by rw [eo _ (by omega) (by omega) (by omega)]) (by rw [eo _ (by omega) (by omega) (by omega)]) (un _ (by omega) (by omega)) (un _ (by omega) (by omega)) r0, RT1_cg (fun _ _ _ => by rw [eo _ (by omega) (by omega) (by omega)]) (fun k _ _ => un _ (by omega) (by omega)) r1, RT2_cg (by rw [eo _ (by omega) (by omega) (by omega)]) (fun _ _ _ => by rw [eo _ (by omega) (by omega) (by omega)]) (un _ (by omega) (by omega)) (fun k _ _ => un _ (by omega) (by omega)) r2, ?_, RT4_cg (by rw [eo _ (by omega) (by omega) (by omega)]) (by rw [eo _ (by omega) (by omega) (by omega)]) (fun _ _ _ => by rw [eo _ (by omega) (by omega) (by omega), eo _ (by omega) (by omega) (by omega)]; exact ⟨rfl, rfl⟩) (un _ (by omega) (by omega)) (fun k _ _ => un _ (by omega) (by omega)) r4, RT5_cg (by rw [eo _ (by omega) (by omega) (by omega)]) (by rw [eo _ (by omega) (by omega) (by omega)]) (fun _ _ _ => by rw [eo _ (by omega) (by omega) (by omega), eo _ (by omega) (by omega) (by omega)]; exact ⟨rfl, rfl⟩) (un _ (by omega) (by omega)) (fun k _ _ => un _ (by omega) (by omega)) r5⟩
        unfold RT3
        simp only [Nat.reduceAdd]
        have a1 : sA (sA (sA F 42 (u (F 42) (F 41 1) v)) 41 (u (F 41) 1 (F 41 1 + 1))) 150 (u (u (F 150) (134 + F 41 1) v) 5 (F 41 1 + 1)) 41 1 = F 41 1 + 1 := by rw [sA_ne _ _ (by omega), sA_eq, u_eq]
        have a2 : sA (sA (sA F 42 (u (F 42) (F 41 1) v)) 41 (u (F 41) 1 (F 41 1 + 1))) 150 (u (u (F 150) (134 + F 41 1) v) 5 (F 41 1 + 1)) 42 = u (F 42) (F 41 1) v := by rw [sA_ne _ _ (by omega), sA_ne _ _ (by omega), sA_eq]
        rw [a1, a2, u_eq]
        refine ⟨rfl, by omega, by omega, ?_⟩
        intro i i0 i1
        rw [u_ne (k := 134 + i) _ _ (by omega)]
        by_cases e : i = F 41 1
        · rw [e, u_eq, u_eq]
          omega
        · rw [u_ne _ _ e, u_ne _ _ (by omega)]
          exact s4 i i0 (by omega)
      · rw [eo _ (by omega) (by omega) (by omega)]
    · have q := e2 F rfl
      rw [if_neg h0, if_neg hC] at e1 q
      exact Ok_pure hR e1 q
theorem ok_chest {v z : Int} (hR : Rel F) (hv : rg v) (hz : rg z) : Ok x F G k_G_chest k_M_chest [.int (jI v), .int (jI z)] := by
  have hvc := Rel_V0 hR
  have hwi : WI (F 2) := RS_WI hR.1
  have hwc := WI_c hwi
  obtain ⟨r0, r1, r2, r3, r4, r5⟩ := hR.2.2.1
  obtain ⟨s1, s5, s2, s3, s4⟩ := r4
  simp only [Nat.reduceAdd] at s1 s2 s3 s4 s5
  have hv' := hv
  unfold rg at hv'
  have j52 : ∀ t : Int, (t = 0 ∨ t = 1) → m_D x 2 k_G_chest 52 [some (.ref 0), some (.int (jI v)), some (.int (jI z)), none] [.int (jI t)] (mk F G) = if t = 1 ∧ F 43 1 < 6 then some (some (.int (jI (F 43 1 + 1))), mk (sA (sA (sA (sA F 44 (u (F 44) (F 43 1) v)) 43 (u (F 43) 1 (F 43 1 + 1))) 46 (u (F 46) (F 43 1) z)) 45 (u (F 45) 1 (F 43 1 + 1))) G) else some (some (.int (jI (-2))), mk F G) := by
    intro t ht
    have p1 := C_put x F G (w := 43) (v := v) (by omega) s2 (by simp [rL]; omega)
    have p2 := C_put x (sA (sA F 44 (u (F 44) (F 43 1) v)) 43 (u (F 43) 1 (F 43 1 + 1))) G (w := 45) (v := z) (by omega) (by rw [sA_ne _ _ (by omega), sA_ne _ _ (by omega), s5]; exact s2) (by rw [sA_ne _ _ (by omega), sA_ne _ _ (by omega), s5]; simp [rL]; omega)
    simp (disch := omega) only [Nat.reduceAdd, show rL 43 = 6 from rfl, show rL 45 = 6 from rfl, sA_ne, s5] at p1 p2
    rw [E_G_chest_52 x 2 (by omega)]
    simp (disch := omega) only [lit_0, lit_1, lit_2, lit_3, lit_4, lit_5, lit_6, lit_7, lit_8, lit_9, lit_10, lit_11, lit_12, lit_13, lit_14, lit_15, lit_16, lit_17, lit_18, lit_19, lit_20, lit_21, lit_22, lit_23, lit_24, lit_25, lit_26, lit_27, lit_28, lit_29, lit_30, lit_31, lit_32, lit_33, lit_34, lit_35, lit_36, lit_37, lit_38, lit_39, lit_40, lit_41, lit_42, lit_43, lit_44, lit_45, lit_46, lit_47, lit_48, lit_49, lit_50, lit_51, lit_52, lit_53, lit_54, lit_55, lit_56, lit_57, lit_58, lit_59, lit_60, lit_61, lit_62, lit_63, lit_64, lit_65, lit_67, lit_70, lit_71, lit_73, lit_75, lit_78, lit_84, lit_85, lit_86, lit_87, lit_89, lit_90, lit_91, lit_95, lit_96, lit_97, lit_98, lit_99, lit_100, lit_101, lit_102, lit_103, lit_104, lit_105, lit_107, lit_108, lit_109, lit_110, lit_111, lit_112, lit_114, lit_115, lit_116, lit_117, lit_119, lit_121, lit_122, lit_126, lit_127, lit_128, lit_130, lit_134, lit_137, lit_139, lit_140, lit_141, lit_145, lit_152, lit_159, lit_160, lit_168, lit_174, lit_180, lit_183, lit_192, lit_199, lit_236, lit_251, lit_255, lit_272, lit_284, lit_300, lit_330, lit_373, lit_753, lit_800, lit_896, lit_900, lit_1000, lit_1001, lit_1002, lit_1003, lit_1079, lit_1276, lit_1330, lit_1450, lit_3012, lit_3016, lit_3300, lit_8430, lit_9999, lit_10000, lit_11730, lit_30467, lit_65536, lit_99999, lit_100000, lit_1000000, lit_252645135, lit_858993459, lit_1000000000, lit_1431655765, jI_add, jI_sub, jI_mul, jI_neg, jI_lt, jI_le, jI_eq, isO_0, fR_0_0, fR_0_1, fR_0_2, fR_0_3, fR_0_4, fR_0_5, fR_0_6, fR_0_7, fR_0_8, fR_0_9, fR_0_10, fR_0_11, fR_0_12, isO_T, fR_T_0, fR_T_1, fR_T_2, fR_T_3, fR_T_4, fR_T_5, fR_T_6, fI_T_7, pf_T_7, fI_T_8, pf_T_8, b_I, b_L, b_V, b_R, b_N, b_N0, Option.bind_some, ↓reduceIte, bq0, bq1, bz0, bz1, ite_not, Classical.not_not, Nat.reduceAdd, p1]
    by_cases q1 : t = 0
    · rw [if_pos q1, if_neg (by omega)]
    · rw [if_neg q1]
      by_cases q2 : F 43 1 < 6
      · have q2' : F 43 1 < (6 : Nat) := by omega
        simp (disch := omega) only [if_pos q2', b_I, b_L, b_V, b_R, b_N, b_N0, Option.bind_some, ↓reduceIte, bq0, bq1, bz0, bz1, ite_not, Classical.not_not]
        rw [if_neg (show ¬ jI 1 = jI 0 by decide)]
        simp (disch := omega) only [lit_0, lit_1, lit_2, lit_3, lit_4, lit_5, lit_6, lit_7, lit_8, lit_9, lit_10, lit_11, lit_12, lit_13, lit_14, lit_15, lit_16, lit_17, lit_18, lit_19, lit_20, lit_21, lit_22, lit_23, lit_24, lit_25, lit_26, lit_27, lit_28, lit_29, lit_30, lit_31, lit_32, lit_33, lit_34, lit_35, lit_36, lit_37, lit_38, lit_39, lit_40, lit_41, lit_42, lit_43, lit_44, lit_45, lit_46, lit_47, lit_48, lit_49, lit_50, lit_51, lit_52, lit_53, lit_54, lit_55, lit_56, lit_57, lit_58, lit_59, lit_60, lit_61, lit_62, lit_63, lit_64, lit_65, lit_67, lit_70, lit_71, lit_73, lit_75, lit_78, lit_84, lit_85, lit_86, lit_87, lit_89, lit_90, lit_91, lit_95, lit_96, lit_97, lit_98, lit_99, lit_100, lit_101, lit_102, lit_103, lit_104, lit_105, lit_107, lit_108, lit_109, lit_110, lit_111, lit_112, lit_114, lit_115, lit_116, lit_117, lit_119, lit_121, lit_122, lit_126, lit_127, lit_128, lit_130, lit_134, lit_137, lit_139, lit_140, lit_141, lit_145, lit_152, lit_159, lit_160, lit_168, lit_174, lit_180, lit_183, lit_192, lit_199, lit_236, lit_251, lit_255, lit_272, lit_284, lit_300, lit_330, lit_373, lit_753, lit_800, lit_896, lit_900, lit_1000, lit_1001, lit_1002, lit_1003, lit_1079, lit_1276, lit_1330, lit_1450, lit_3012, lit_3016, lit_3300, lit_8430, lit_9999, lit_10000, lit_11730, lit_30467, lit_65536, lit_99999, lit_100000, lit_1000000, lit_252645135, lit_858993459, lit_1000000000, lit_1431655765, jI_add, jI_sub, jI_mul, jI_neg, jI_lt, jI_le, jI_eq, isO_0, fR_0_0, fR_0_1, fR_0_2, fR_0_3, fR_0_4, fR_0_5, fR_0_6, fR_0_7, fR_0_8, fR_0_9, fR_0_10, fR_0_11, fR_0_12, isO_T, fR_T_0, fR_T_1, fR_T_2, fR_T_3, fR_T_4, fR_T_5, fR_T_6, fI_T_7, pf_T_7, fI_T_8, pf_T_8, b_I, b_L, b_V, b_R, b_N, b_N0, Option.bind_some, ↓reduceIte, bq0, bq1, bz0, bz1, ite_not, Classical.not_not, Nat.reduceAdd, p2]
        simp (disch := omega) only [if_pos q2', b_I, b_L, b_V, b_R, b_N, b_N0, Option.bind_some, ↓reduceIte, bq0, bq1, bz0, bz1, ite_not, Classical.not_not]
        rw [if_neg (show ¬ jI 1 = jI 0 by decide), if_pos (by omega)]
        simp (disch := omega) only [isO_0, fR_0_0, fR_0_1, fR_0_2, fR_0_3, fR_0_4, fR_0_5, fR_0_6, fR_0_7, fR_0_8, fR_0_9, fR_0_10, fR_0_11, fR_0_12, isO_T, fR_T_0, fR_T_1, fR_T_2, fR_T_3, fR_T_4, fR_T_5, fR_T_6, fI_T_7, pf_T_7, fI_T_8, pf_T_8, b_I, b_L, b_V, b_R, b_N, b_N0, Option.bind_some, ↓reduceIte, bq0, bq1, bz0, bz1, ite_not, Classical.not_not, Nat.reduceAdd, isO_R, fR_R_0, fI_R_1, pf_R_1, sA_ne, sA_eq, u_eq]
      · have q2' : ¬ F 43 1 < (6 : Nat) := by omega
        simp only [if_neg q2', b_I, b_L, b_V, b_R, b_N, b_N0, Option.bind_some, ↓reduceIte, bq0, bq1, bz0, bz1, ite_not, Classical.not_not]
        rw [if_neg (by omega)]
  have e1 : m_M x k_G_chest [.ref 0, .int (jI v), .int (jI z)] (mk F G) = if v = -1 then some (some (.int (jI 0)), mk (sA (sA F 43 (u (F 43) 1 0)) 45 (u (F 45) 1 0)) G) else if ((1 ≤ v ∧ v ≤ 9) ∧ (0 ≤ z ∧ z ≤ 8)) ∧ F 43 1 < 6 then some (some (.int (jI (F 43 1 + 1))), mk (sA (sA (sA (sA F 44 (u (F 44) (F 43 1) v)) 43 (u (F 43) 1 (F 43 1 + 1))) 46 (u (F 46) (F 43 1) z)) 45 (u (F 45) 1 (F 43 1 + 1))) G) else some (some (.int (jI (-2))), mk F G) := by
    have p1 := C_empty x F G (w := 43) (by omega)
    have p2 := C_empty x (sA F 43 (u (F 43) 1 0)) G (w := 45) (by omega)
    rw [sA_ne _ _ (by omega)] at p2
    rw [E_G_chest]
    simp (disch := first | omega | assumption | (unfold rg; omega)) only [lit_0, lit_1, lit_2, lit_3, lit_4, lit_5, lit_6, lit_7, lit_8, lit_9, lit_10, lit_11, lit_12, lit_13, lit_14, lit_15, lit_16, lit_17, lit_18, lit_19, lit_20, lit_21, lit_22, lit_23, lit_24, lit_25, lit_26, lit_27, lit_28, lit_29, lit_30, lit_31, lit_32, lit_33, lit_34, lit_35, lit_36, lit_37, lit_38, lit_39, lit_40, lit_41, lit_42, lit_43, lit_44, lit_45, lit_46, lit_47, lit_48, lit_49, lit_50, lit_51, lit_52, lit_53, lit_54, lit_55, lit_56, lit_57, lit_58, lit_59, lit_60, lit_61, lit_62, lit_63, lit_64, lit_65, lit_67, lit_70, lit_71, lit_73, lit_75, lit_78, lit_84, lit_85, lit_86, lit_87, lit_89, lit_90, lit_91, lit_95, lit_96, lit_97, lit_98, lit_99, lit_100, lit_101, lit_102, lit_103, lit_104, lit_105, lit_107, lit_108, lit_109, lit_110, lit_111, lit_112, lit_114, lit_115, lit_116, lit_117, lit_119, lit_121, lit_122, lit_126, lit_127, lit_128, lit_130, lit_134, lit_137, lit_139, lit_140, lit_141, lit_145, lit_152, lit_159, lit_160, lit_168, lit_174, lit_180, lit_183, lit_192, lit_199, lit_236, lit_251, lit_255, lit_272, lit_284, lit_300, lit_330, lit_373, lit_753, lit_800, lit_896, lit_900, lit_1000, lit_1001, lit_1002, lit_1003, lit_1079, lit_1276, lit_1330, lit_1450, lit_3012, lit_3016, lit_3300, lit_8430, lit_9999, lit_10000, lit_11730, lit_30467, lit_65536, lit_99999, lit_100000, lit_1000000, lit_252645135, lit_858993459, lit_1000000000, lit_1431655765, jI_add, jI_sub, jI_mul, jI_neg, jI_lt, jI_le, jI_eq, isO_0, fR_0_0, fR_0_1, fR_0_2, fR_0_3, fR_0_4, fR_0_5, fR_0_6, fR_0_7, fR_0_8, fR_0_9, fR_0_10, fR_0_11, fR_0_12, isO_T, fR_T_0, fR_T_1, fR_T_2, fR_T_3, fR_T_4, fR_T_5, fR_T_6, fI_T_7, pf_T_7, fI_T_8, pf_T_8, b_I, b_L, b_V, b_R, b_N, b_N0, Option.bind_some, ↓reduceIte, bq0, bq1, bz0, bz1, ite_not, Classical.not_not, Nat.reduceAdd, p1, p2, C_isIn]
    by_cases q0 : v = -1
    · rw [if_pos q0, if_pos q0]
    · rw [if_neg q0, if_neg q0, j52 0 (by omega), j52 1 (by omega)]
      repeat' split
      all_goals first | rfl | (exfalso; omega)
  have e2 : ∀ F' : Nat → Fn, F' 150 = F 150 → m_M x k_M_chest [.ref 149, .int (jI v), .int (jI z)] (mk F' G) = if v = -1 then some (some (.int (jI 0)), mk (sA F' 150 (u (F 150) 6 0)) G) else if ((1 ≤ v ∧ v ≤ 9) ∧ (0 ≤ z ∧ z ≤ 8)) ∧ F 43 1 < 6 then some (some (.int (jI (F 43 1 + 1))), mk (sA F' 150 (u (u (u (F 150) (140 + 2 * F 43 1) v) (140 + 2 * F 43 1 + 1) z) 6 (F 43 1 + 1))) G) else some (some (.int (jI (-2))), mk F' G) := by
    intro F' e
    rw [E_M_chest]
    simp (disch := first | omega | assumption | (unfold rg; omega)) only [lit_0, lit_1, lit_2, lit_3, lit_4, lit_5, lit_6, lit_7, lit_8, lit_9, lit_10, lit_11, lit_12, lit_13, lit_14, lit_15, lit_16, lit_17, lit_18, lit_19, lit_20, lit_21, lit_22, lit_23, lit_24, lit_25, lit_26, lit_27, lit_28, lit_29, lit_30, lit_31, lit_32, lit_33, lit_34, lit_35, lit_36, lit_37, lit_38, lit_39, lit_40, lit_41, lit_42, lit_43, lit_44, lit_45, lit_46, lit_47, lit_48, lit_49, lit_50, lit_51, lit_52, lit_53, lit_54, lit_55, lit_56, lit_57, lit_58, lit_59, lit_60, lit_61, lit_62, lit_63, lit_64, lit_65, lit_67, lit_70, lit_71, lit_73, lit_75, lit_78, lit_84, lit_85, lit_86, lit_87, lit_89, lit_90, lit_91, lit_95, lit_96, lit_97, lit_98, lit_99, lit_100, lit_101, lit_102, lit_103, lit_104, lit_105, lit_107, lit_108, lit_109, lit_110, lit_111, lit_112, lit_114, lit_115, lit_116, lit_117, lit_119, lit_121, lit_122, lit_126, lit_127, lit_128, lit_130, lit_134, lit_137, lit_139, lit_140, lit_141, lit_145, lit_152, lit_159, lit_160, lit_168, lit_174, lit_180, lit_183, lit_192, lit_199, lit_236, lit_251, lit_255, lit_272, lit_284, lit_300, lit_330, lit_373, lit_753, lit_800, lit_896, lit_900, lit_1000, lit_1001, lit_1002, lit_1003, lit_1079, lit_1276, lit_1330, lit_1450, lit_3012, lit_3016, lit_3300, lit_8430, lit_9999, lit_10000, lit_11730, lit_30467, lit_65536, lit_99999, lit_100000, lit_1000000, lit_252645135, lit_858993459, lit_1000000000, lit_1431655765, isO_149, fR_149_0, b_I, b_L, b_V, b_R, b_N, b_N0, Option.bind_some, ↓reduceIte, bq0, bq1, bz0, bz1, ite_not, Classical.not_not, M_isIn, jI_add, jI_sub, jI_mul, jI_neg, jI_lt, jI_le, jI_eq, ia_150, is_150, e, s1]
    by_cases h0 : v = -1
    · rw [if_pos h0, if_pos h0]
    · rw [if_neg h0, if_neg h0]
      by_cases hC : ((1 ≤ v ∧ v ≤ 9) ∧ (0 ≤ z ∧ z ≤ 8)) ∧ F 43 1 < 6
      · rw [if_pos hC, if_pos (by omega), if_pos (by omega), if_neg (by omega)]
        simp (disch := omega) only [lit_0, lit_1, lit_2, lit_3, lit_4, lit_5, lit_6, lit_7, lit_8, lit_9, lit_10, lit_11, lit_12, lit_13, lit_14, lit_15, lit_16, lit_17, lit_18, lit_19, lit_20, lit_21, lit_22, lit_23, lit_24, lit_25, lit_26, lit_27, lit_28, lit_29, lit_30, lit_31, lit_32, lit_33, lit_34, lit_35, lit_36, lit_37, lit_38, lit_39, lit_40, lit_41, lit_42, lit_43, lit_44, lit_45, lit_46, lit_47, lit_48, lit_49, lit_50, lit_51, lit_52, lit_53, lit_54, lit_55, lit_56, lit_57, lit_58, lit_59, lit_60, lit_61, lit_62, lit_63, lit_64, lit_65, lit_67, lit_70, lit_71, lit_73, lit_75, lit_78, lit_84, lit_85, lit_86, lit_87, lit_89, lit_90, lit_91, lit_95, lit_96, lit_97, lit_98, lit_99, lit_100, lit_101, lit_102, lit_103, lit_104, lit_105, lit_107, lit_108, lit_109, lit_110, lit_111, lit_112, lit_114, lit_115, lit_116, lit_117, lit_119, lit_121, lit_122, lit_126, lit_127, lit_128, lit_130, lit_134, lit_137, lit_139, lit_140, lit_141, lit_145, lit_152, lit_159, lit_160, lit_168, lit_174, lit_180, lit_183, lit_192, lit_199, lit_236, lit_251, lit_255, lit_272, lit_284, lit_300, lit_330, lit_373, lit_753, lit_800, lit_896, lit_900, lit_1000, lit_1001, lit_1002, lit_1003, lit_1079, lit_1276, lit_1330, lit_1450, lit_3012, lit_3016, lit_3300, lit_8430, lit_9999, lit_10000, lit_11730, lit_30467, lit_65536, lit_99999, lit_100000, lit_1000000, lit_252645135, lit_858993459, lit_1000000000, lit_1431655765, isO_149, fR_149_0, b_I, b_L, b_V, b_R, b_N, b_N0, Option.bind_some, ↓reduceIte, bq0, bq1, bz0, bz1, ite_not, Classical.not_not, jI_add, jI_sub, jI_mul, jI_neg, ia_150, is_150, sA_eq, sA_sA, u_ne, u_eq, e, s1]
      · rw [if_neg hC]
        repeat' split
        all_goals first | rfl | (exfalso; omega)
  by_cases h0 : v = -1
  · have q := e2 (sA (sA F 43 (u (F 43) 1 0)) 45 (u (F 45) 1 0)) (by rw [sA_ne _ _ (by omega), sA_ne _ _ (by omega)])
    rw [if_pos h0] at e1 q
    refine ⟨_, _, _, _, e1, q, ?_⟩
    have eo : ∀ b, ¬ b = 43 → ¬ b = 45 → ¬ b = 150 → sA (sA (sA F 43 (u (F 43) 1 0)) 45 (u (F 45) 1 0)) 150 (u (F 150) 6 0) b = F b := by
      intro b h1 h2 h3
      rw [sA_ne _ _ h3, sA_ne _ _ h2, sA_ne _ _ h1]
    refine Rel_told hR (fun b h1 h2 => eo b (by omega) (by omega) h2) ?_ ?_ ?_
    · intro k hk
      rw [sA_eq, u_ne _ _ (by omega)]
    · rw [sA_eq]
      refine ⟨RT0_cg (by rw [eo _ (by omega) (by omega) (by omega)]) (by rw [eo _ (by omega) (by omega) (by omega)]) (u_ne _ _ (by omega)) (u_ne _ _ (by omega)) r0, RT1_cg (fun _ _ _ => by rw [eo _ (by omega) (by omega) (by omega)]) (fun k _ _ => u_ne _ _ (by omega)) r1, RT2_cg (by rw [eo _ (by omega) (by omega) (by omega)]) (fun _ _ _ => by rw [eo _ (by omega) (by omega) (by omega)]) (u_ne _ _ (by omega)) (fun k _ _ => u_ne _ _ (by omega)) r2, RT3_cg (by rw [eo _ (by omega) (by omega) (by omega)]) (fun _ _ _ => by rw [eo _ (by omega) (by omega) (by omega)]) (u_ne _ _ (by omega)) (fun k _ _ => u_ne _ _ (by omega)) r3, ?_, RT5_cg (by rw [eo _ (by omega) (by omega) (by omega)]) (by rw [eo _ (by omega) (by omega) (by omega)]) (fun _ _ _ => by rw [eo _ (by omega) (by omega) (by omega), eo _ (by omega) (by omega) (by omega)]; exact ⟨rfl, rfl⟩) (u_ne _ _ (by omega)) (fun k _ _ => u_ne _ _ (by omega)) r5⟩
      unfold RT4
      simp only [Nat.reduceAdd]
      rw [sA_ne (b := 43) _ _ (by omega), sA_ne (b := 43) _ _ (by omega), sA_eq, sA_ne (b := 45) _ _ (by omega), sA_eq, u_eq, u_eq, u_eq]
      exact ⟨rfl, rfl, by omega, by omega, by intro i i0 i1; omega⟩
    · rw [eo _ (by omega) (by omega) (by omega)]
  · by_cases hC : ((1 ≤ v ∧ v ≤ 9) ∧ (0 ≤ z ∧ z ≤ 8)) ∧ F 43 1 < 6
    · have q := e2 (sA (sA (sA (sA F 44 (u (F 44) (F 43 1) v)) 43 (u (F 43) 1 (F 43 1 + 1))) 46 (u (F 46) (F 43 1) z)) 45 (u (F 45) 1 (F 43 1 + 1))) (by rw [sA_ne _ _ (by omega), sA_ne _ _ (by omega), sA_ne _ _ (by omega), sA_ne _ _ (by omega)])
      rw [if_neg h0, if_pos hC] at e1 q
      refine ⟨_, _, _, _, e1, q, ?_⟩
      have eo : ∀ b, ¬ b = 43 → ¬ b = 44 → ¬ b = 45 → ¬ b = 46 → ¬ b = 150 → sA (sA (sA (sA (sA F 44 (u (F 44) (F 43 1) v)) 43 (u (F 43) 1 (F 43 1 + 1))) 46 (u (F 46) (F 43 1) z)) 45 (u (F 45) 1 (F 43 1 + 1))) 150 (u (u (u (F 150) (140 + 2 * F 43 1) v) (140 + 2 * F 43 1 + 1) z) 6 (F 43 1 + 1)) b = F b := by
        intro b h1 h2 h3 h4 h5
        rw [sA_ne _ _ h5, sA_ne _ _ h3, sA_ne _ _ h4, sA_ne _ _ h1, sA_ne _ _ h2]
      have un : ∀ k, ¬ k = 6 → ¬ k = 140 + 2 * F 43 1 → ¬ k = 140 + 2 * F 43 1 + 1 → u (u (u (F 150) (140 + 2 * F 43 1) v) (140 + 2 * F 43 1 + 1) z) 6 (F 43 1 + 1) k = F 150 k := by
        intro k h1 h2 h3
        rw [u_ne _ _ h1, u_ne _ _ h3, u_ne _ _ h2]
      refine Rel_told hR (fun b h1 h2 => eo b (by omega) (by omega) (by omega) (by omega) h2) ?_ ?_ ?_
      · intro k hk
        rw [sA_eq, un _ (by omega) (by omega) (by omega)]
      · rw [sA_eq]
        refine ⟨RT0_cg (by rw [eo _ (by omega) (by omega) (by omega) (by omega) (by omega)]) (by rw [eo _ (by omega) (by omega) (by omega) (by omega) (by omega)]) (un _ (by omega) (by omega) (by omega)) (un _ (by omega) (by omega) (by omega)) r0, RT1_cg (fun _ _ _ => by rw [eo _ (by omega) (by omega) (by omega) (by omega) (by omega)]) (fun k _ _ => un _ (by omega) (by omega) (by omega)) r1, RT2_cg (by rw [eo _ (by omega) (by omega) (by omega) (by omega) (by omega)]) (fun _ _ _ => by rw [eo _ (by omega) (by omega) (by omega) (by omega) (by omega)]) (un _ (by omega) (by omega) (by omega)) (fun k _ _ => un _ (by omega) (by omega) (by omega)) r2, RT3_cg (by rw [eo _ (by omega) (by omega) (by omega) (by omega) (by omega)]) (fun _ _ _ => by rw [eo _ (by omega) (by omega) (by omega) (by omega) (by omega)]) (un _ (by omega) (by omega) (by omega)) (fun k _ _ => un _ (by omega) (by omega) (by omega)) r3, ?_, RT5_cg (by rw [eo _ (by omega) (by omega) (by omega) (by omega) (by omega)]) (by rw [eo _ (by omega) (by omega) (by omega) (by omega) (by omega)]) (fun _ _ _ => by rw [eo _ (by omega) (by omega) (by omega) (by omega) (by omega), eo _ (by omega) (by omega) (by omega) (by omega) (by omega)]; exact ⟨rfl, rfl⟩) (un _ (by omega) (by omega) (by omega)) (fun k _ _ => un _ (by omega) (by omega) (by omega)) r5⟩
        unfold RT4
        simp only [Nat.reduceAdd]
        have a1 : sA (sA (sA (sA (sA F 44 (u (F 44) (F 43 1) v)) 43 (u (F 43) 1 (F 43 1 + 1))) 46 (u (F 46) (F 43 1) z)) 45 (u (F 45) 1 (F 43 1 + 1))) 150 (u (u (u (F 150) (140 + 2 * F 43 1) v) (140 + 2 * F 43 1 + 1) z) 6 (F 43 1 + 1)) 43 1 = F 43 1 + 1 := by rw [sA_ne _ _ (by omega), sA_ne _ _ (by omega), sA_ne _ _ (by omega), sA_eq, u_eq]
        have a2 : sA (sA (sA (sA (sA F 44 (u (F 44) (F 43 1) v)) 43 (u (F 43) 1 (F 43 1 + 1))) 46 (u (F 46) (F 43 1) z)) 45 (u (F 45) 1 (F 43 1 + 1))) 150 (u (u (u (F 150) (140 + 2 * F 43 1) v) (140 + 2 * F 43 1 + 1) z) 6 (F 43 1 + 1)) 45 1 = F 43 1 + 1 := by rw [sA_ne _ _ (by omega), sA_eq, u_eq]
        have a3 : sA (sA (sA (sA (sA F 44 (u (F 44) (F 43 1) v)) 43 (u (F 43) 1 (F 43 1 + 1))) 46 (u (F 46) (F 43 1) z)) 45 (u (F 45) 1 (F 43 1 + 1))) 150 (u (u (u (F 150) (140 + 2 * F 43 1) v) (140 + 2 * F 43 1 + 1) z) 6 (F 43 1 + 1)) 44 = u (F 44) (F 43 1) v := by rw [sA_ne _ _ (by omega), sA_ne _ _ (by omega), sA_ne _ _ (by omega), sA_ne _ _ (by omega), sA_eq]
        have a4 : sA (sA (sA (sA (sA F 44 (u (F 44) (F 43 1) v)) 43 (u (F 43) 1 (F 43 1 + 1))) 46 (u (F 46) (F 43 1) z)) 45 (u (F 45) 1 (F 43 1 + 1))) 150 (u (u (u (F 150) (140 + 2 * F 43 1) v) (140 + 2 * F 43 1 + 1) z) 6 (F 43 1 + 1)) 46 = u (F 46) (F 43 1) z := by rw [sA_ne _ _ (by omega), sA_ne _ _ (by omega), sA_eq]
        rw [a1, a2, a3, a4, u_eq]
        refine ⟨rfl, rfl, by omega, by omega, ?_⟩
        intro i i0 i1
        rw [u_ne (k := 140 + 2 * i) _ _ (by omega), u_ne (k := 140 + 2 * i + 1) _ _ (by omega)]
        by_cases ei : i = F 43 1
        · rw [ei, u_eq, u_eq, u_eq, u_ne (k := 140 + 2 * F 43 1) _ _ (by omega), u_eq]
          omega
        · rw [u_ne _ _ ei, u_ne _ _ ei, u_ne _ _ (by omega), u_ne _ _ (by omega), u_ne _ _ (by omega), u_ne _ _ (by omega)]
          exact s4 i i0 (by omega)
      · rw [eo _ (by omega) (by omega) (by omega) (by omega) (by omega)]
    · have q := e2 F rfl
      rw [if_neg h0, if_neg hC] at e1 q
      exact Ok_pure hR e1 q
theorem ok_grown {v z : Int} (hR : Rel F) (hv : rg v) (hz : rg z) : Ok x F G k_G_grown k_M_grown [.int (jI v), .int (jI z)] := by
  have hvc := Rel_V0 hR
  have hwi : WI (F 2) := RS_WI hR.1
  have hwc := WI_c hwi
  obtain ⟨r0, r1, r2, r3, r4, r5⟩ := hR.2.2.1
  obtain ⟨s1, s5, s2, s3, s4⟩ := r5
  simp only [Nat.reduceAdd] at s1 s2 s3 s4 s5
  have hv' := hv
  unfold rg at hv'
  have hgl := C_hasGlove x F G (w := 1) (g := v) (Or.inl rfl) hv (by unfold rg; simp only [Nat.reduceAdd]; omega)
  simp only [Nat.reduceAdd] at hgl
  have j53 : ∀ t : Int, (t = 0 ∨ t = 1) → m_D x 2 k_G_grown 53 [some (.ref 0), some (.int (jI v)), some (.int (jI z)), none] [.int (jI t)] (mk F G) = if t = 1 ∧ F 47 1 < 8 then some (some (.int (jI (F 47 1 + 1))), mk (sA (sA (sA (sA F 48 (u (F 48) (F 47 1) v)) 47 (u (F 47) 1 (F 47 1 + 1))) 50 (u (F 50) (F 47 1) z)) 49 (u (F 49) 1 (F 47 1 + 1))) G) else some (some (.int (jI (-2))), mk F G) := by
    intro t ht
    have p1 := C_put x F G (w := 47) (v := v) (by omega) s2 (by simp [rL]; omega)
    have p2 := C_put x (sA (sA F 48 (u (F 48) (F 47 1) v)) 47 (u (F 47) 1 (F 47 1 + 1))) G (w := 49) (v := z) (by omega) (by rw [sA_ne _ _ (by omega), sA_ne _ _ (by omega), s5]; exact s2) (by rw [sA_ne _ _ (by omega), sA_ne _ _ (by omega), s5]; simp [rL]; omega)
    simp (disch := omega) only [Nat.reduceAdd, show rL 47 = 8 from rfl, show rL 49 = 8 from rfl, sA_ne, s5] at p1 p2
    rw [E_G_grown_53 x 2 (by omega)]
    simp (disch := omega) only [lit_0, lit_1, lit_2, lit_3, lit_4, lit_5, lit_6, lit_7, lit_8, lit_9, lit_10, lit_11, lit_12, lit_13, lit_14, lit_15, lit_16, lit_17, lit_18, lit_19, lit_20, lit_21, lit_22, lit_23, lit_24, lit_25, lit_26, lit_27, lit_28, lit_29, lit_30, lit_31, lit_32, lit_33, lit_34, lit_35, lit_36, lit_37, lit_38, lit_39, lit_40, lit_41, lit_42, lit_43, lit_44, lit_45, lit_46, lit_47, lit_48, lit_49, lit_50, lit_51, lit_52, lit_53, lit_54, lit_55, lit_56, lit_57, lit_58, lit_59, lit_60, lit_61, lit_62, lit_63, lit_64, lit_65, lit_67, lit_70, lit_71, lit_73, lit_75, lit_78, lit_84, lit_85, lit_86, lit_87, lit_89, lit_90, lit_91, lit_95, lit_96, lit_97, lit_98, lit_99, lit_100, lit_101, lit_102, lit_103, lit_104, lit_105, lit_107, lit_108, lit_109, lit_110, lit_111, lit_112, lit_114, lit_115, lit_116, lit_117, lit_119, lit_121, lit_122, lit_126, lit_127, lit_128, lit_130, lit_134, lit_137, lit_139, lit_140, lit_141, lit_145, lit_152, lit_159, lit_160, lit_168, lit_174, lit_180, lit_183, lit_192, lit_199, lit_236, lit_251, lit_255, lit_272, lit_284, lit_300, lit_330, lit_373, lit_753, lit_800, lit_896, lit_900, lit_1000, lit_1001, lit_1002, lit_1003, lit_1079, lit_1276, lit_1330, lit_1450, lit_3012, lit_3016, lit_3300, lit_8430, lit_9999, lit_10000, lit_11730, lit_30467, lit_65536, lit_99999, lit_100000, lit_1000000, lit_252645135, lit_858993459, lit_1000000000, lit_1431655765, jI_add, jI_sub, jI_mul, jI_neg, jI_lt, jI_le, jI_eq, isO_0, fR_0_0, fR_0_1, fR_0_2, fR_0_3, fR_0_4, fR_0_5, fR_0_6, fR_0_7, fR_0_8, fR_0_9, fR_0_10, fR_0_11, fR_0_12, isO_T, fR_T_0, fR_T_1, fR_T_2, fR_T_3, fR_T_4, fR_T_5, fR_T_6, fI_T_7, pf_T_7, fI_T_8, pf_T_8, b_I, b_L, b_V, b_R, b_N, b_N0, Option.bind_some, ↓reduceIte, bq0, bq1, bz0, bz1, ite_not, Classical.not_not, Nat.reduceAdd, p1]
    by_cases q1 : t = 0
    · rw [if_pos q1, if_neg (by omega)]
    · rw [if_neg q1]
      by_cases q2 : F 47 1 < 8
      · have q2' : F 47 1 < (8 : Nat) := by omega
        simp (disch := omega) only [if_pos q2', b_I, b_L, b_V, b_R, b_N, b_N0, Option.bind_some, ↓reduceIte, bq0, bq1, bz0, bz1, ite_not, Classical.not_not]
        rw [if_neg (show ¬ jI 1 = jI 0 by decide)]
        simp (disch := omega) only [lit_0, lit_1, lit_2, lit_3, lit_4, lit_5, lit_6, lit_7, lit_8, lit_9, lit_10, lit_11, lit_12, lit_13, lit_14, lit_15, lit_16, lit_17, lit_18, lit_19, lit_20, lit_21, lit_22, lit_23, lit_24, lit_25, lit_26, lit_27, lit_28, lit_29, lit_30, lit_31, lit_32, lit_33, lit_34, lit_35, lit_36, lit_37, lit_38, lit_39, lit_40, lit_41, lit_42, lit_43, lit_44, lit_45, lit_46, lit_47, lit_48, lit_49, lit_50, lit_51, lit_52, lit_53, lit_54, lit_55, lit_56, lit_57, lit_58, lit_59, lit_60, lit_61, lit_62, lit_63, lit_64, lit_65, lit_67, lit_70, lit_71, lit_73, lit_75, lit_78, lit_84, lit_85, lit_86, lit_87, lit_89, lit_90, lit_91, lit_95, lit_96, lit_97, lit_98, lit_99, lit_100, lit_101, lit_102, lit_103, lit_104, lit_105, lit_107, lit_108, lit_109, lit_110, lit_111, lit_112, lit_114, lit_115, lit_116, lit_117, lit_119, lit_121, lit_122, lit_126, lit_127, lit_128, lit_130, lit_134, lit_137, lit_139, lit_140, lit_141, lit_145, lit_152, lit_159, lit_160, lit_168, lit_174, lit_180, lit_183, lit_192, lit_199, lit_236, lit_251, lit_255, lit_272, lit_284, lit_300, lit_330, lit_373, lit_753, lit_800, lit_896, lit_900, lit_1000, lit_1001, lit_1002, lit_1003, lit_1079, lit_1276, lit_1330, lit_1450, lit_3012, lit_3016, lit_3300, lit_8430, lit_9999, lit_10000, lit_11730, lit_30467, lit_65536, lit_99999, lit_100000, lit_1000000, lit_252645135, lit_858993459, lit_1000000000, lit_1431655765, jI_add, jI_sub, jI_mul, jI_neg, jI_lt, jI_le, jI_eq, isO_0, fR_0_0, fR_0_1, fR_0_2, fR_0_3, fR_0_4, fR_0_5, fR_0_6, fR_0_7, fR_0_8, fR_0_9, fR_0_10, fR_0_11, fR_0_12, isO_T, fR_T_0, fR_T_1, fR_T_2, fR_T_3, fR_T_4, fR_T_5, fR_T_6, fI_T_7, pf_T_7, fI_T_8, pf_T_8, b_I, b_L, b_V, b_R, b_N, b_N0, Option.bind_some, ↓reduceIte, bq0, bq1, bz0, bz1, ite_not, Classical.not_not, Nat.reduceAdd, p2]
        simp (disch := omega) only [if_pos q2', b_I, b_L, b_V, b_R, b_N, b_N0, Option.bind_some, ↓reduceIte, bq0, bq1, bz0, bz1, ite_not, Classical.not_not]
        rw [if_neg (show ¬ jI 1 = jI 0 by decide), if_pos (by omega)]
        simp (disch := omega) only [isO_0, fR_0_0, fR_0_1, fR_0_2, fR_0_3, fR_0_4, fR_0_5, fR_0_6, fR_0_7, fR_0_8, fR_0_9, fR_0_10, fR_0_11, fR_0_12, isO_T, fR_T_0, fR_T_1, fR_T_2, fR_T_3, fR_T_4, fR_T_5, fR_T_6, fI_T_7, pf_T_7, fI_T_8, pf_T_8, b_I, b_L, b_V, b_R, b_N, b_N0, Option.bind_some, ↓reduceIte, bq0, bq1, bz0, bz1, ite_not, Classical.not_not, Nat.reduceAdd, isO_R, fR_R_0, fI_R_1, pf_R_1, sA_ne, sA_eq, u_eq]
      · have q2' : ¬ F 47 1 < (8 : Nat) := by omega
        simp only [if_neg q2', b_I, b_L, b_V, b_R, b_N, b_N0, Option.bind_some, ↓reduceIte, bq0, bq1, bz0, bz1, ite_not, Classical.not_not]
        rw [if_neg (by omega)]
  have e1 : m_M x k_G_grown [.ref 0, .int (jI v), .int (jI z)] (mk F G) = if v = -1 then some (some (.int (jI 0)), mk (sA (sA F 47 (u (F 47) 1 0)) 49 (u (F 49) 1 0)) G) else if ((0 ≤ v ∧ v < F 2 25) ∧ (0 ≤ z ∧ z ≤ 9)) ∧ F 47 1 < 8 then some (some (.int (jI (F 47 1 + 1))), mk (sA (sA (sA (sA F 48 (u (F 48) (F 47 1) v)) 47 (u (F 47) 1 (F 47 1 + 1))) 50 (u (F 50) (F 47 1) z)) 49 (u (F 49) 1 (F 47 1 + 1))) G) else some (some (.int (jI (-2))), mk F G) := by
    have p1 := C_empty x F G (w := 47) (by omega)
    have p2 := C_empty x (sA F 47 (u (F 47) 1 0)) G (w := 49) (by omega)
    rw [sA_ne _ _ (by omega)] at p2
    rw [E_G_grown]
    simp (disch := first | omega | assumption | (unfold rg; omega)) only [lit_0, lit_1, lit_2, lit_3, lit_4, lit_5, lit_6, lit_7, lit_8, lit_9, lit_10, lit_11, lit_12, lit_13, lit_14, lit_15, lit_16, lit_17, lit_18, lit_19, lit_20, lit_21, lit_22, lit_23, lit_24, lit_25, lit_26, lit_27, lit_28, lit_29, lit_30, lit_31, lit_32, lit_33, lit_34, lit_35, lit_36, lit_37, lit_38, lit_39, lit_40, lit_41, lit_42, lit_43, lit_44, lit_45, lit_46, lit_47, lit_48, lit_49, lit_50, lit_51, lit_52, lit_53, lit_54, lit_55, lit_56, lit_57, lit_58, lit_59, lit_60, lit_61, lit_62, lit_63, lit_64, lit_65, lit_67, lit_70, lit_71, lit_73, lit_75, lit_78, lit_84, lit_85, lit_86, lit_87, lit_89, lit_90, lit_91, lit_95, lit_96, lit_97, lit_98, lit_99, lit_100, lit_101, lit_102, lit_103, lit_104, lit_105, lit_107, lit_108, lit_109, lit_110, lit_111, lit_112, lit_114, lit_115, lit_116, lit_117, lit_119, lit_121, lit_122, lit_126, lit_127, lit_128, lit_130, lit_134, lit_137, lit_139, lit_140, lit_141, lit_145, lit_152, lit_159, lit_160, lit_168, lit_174, lit_180, lit_183, lit_192, lit_199, lit_236, lit_251, lit_255, lit_272, lit_284, lit_300, lit_330, lit_373, lit_753, lit_800, lit_896, lit_900, lit_1000, lit_1001, lit_1002, lit_1003, lit_1079, lit_1276, lit_1330, lit_1450, lit_3012, lit_3016, lit_3300, lit_8430, lit_9999, lit_10000, lit_11730, lit_30467, lit_65536, lit_99999, lit_100000, lit_1000000, lit_252645135, lit_858993459, lit_1000000000, lit_1431655765, jI_add, jI_sub, jI_mul, jI_neg, jI_lt, jI_le, jI_eq, isO_0, fR_0_0, fR_0_1, fR_0_2, fR_0_3, fR_0_4, fR_0_5, fR_0_6, fR_0_7, fR_0_8, fR_0_9, fR_0_10, fR_0_11, fR_0_12, isO_T, fR_T_0, fR_T_1, fR_T_2, fR_T_3, fR_T_4, fR_T_5, fR_T_6, fI_T_7, pf_T_7, fI_T_8, pf_T_8, b_I, b_L, b_V, b_R, b_N, b_N0, Option.bind_some, ↓reduceIte, bq0, bq1, bz0, bz1, ite_not, Classical.not_not, Nat.reduceAdd, p1, p2, C_isIn, hgl]
    by_cases q0 : v = -1
    · rw [if_pos q0, if_pos q0]
    · rw [if_neg q0, if_neg q0, j53 0 (by omega), j53 1 (by omega)]
      repeat' split
      all_goals first | rfl | (exfalso; omega)
  have e2 : ∀ F' : Nat → Fn, F' 150 = F 150 → m_M x k_M_grown [.ref 149, .int (jI v), .int (jI z)] (mk F' G) = if v = -1 then some (some (.int (jI 0)), mk (sA F' 150 (u (F 150) 7 0)) G) else if ((0 ≤ v ∧ v < F 2 25) ∧ (0 ≤ z ∧ z ≤ 9)) ∧ F 47 1 < 8 then some (some (.int (jI (F 47 1 + 1))), mk (sA F' 150 (u (u (u (F 150) (152 + 2 * F 47 1) v) (152 + 2 * F 47 1 + 1) z) 7 (F 47 1 + 1))) G) else some (some (.int (jI (-2))), mk F' G) := by
    intro F' e
    have hgl := M_isGlove x F' G (p := v) (by rw [e]; exact RS_WV hR.1) hv
    rw [e, hvc.2.2.2.2] at hgl
    rw [E_M_grown]
    simp (disch := first | omega | assumption | (unfold rg; omega)) only [lit_0, lit_1, lit_2, lit_3, lit_4, lit_5, lit_6, lit_7, lit_8, lit_9, lit_10, lit_11, lit_12, lit_13, lit_14, lit_15, lit_16, lit_17, lit_18, lit_19, lit_20, lit_21, lit_22, lit_23, lit_24, lit_25, lit_26, lit_27, lit_28, lit_29, lit_30, lit_31, lit_32, lit_33, lit_34, lit_35, lit_36, lit_37, lit_38, lit_39, lit_40, lit_41, lit_42, lit_43, lit_44, lit_45, lit_46, lit_47, lit_48, lit_49, lit_50, lit_51, lit_52, lit_53, lit_54, lit_55, lit_56, lit_57, lit_58, lit_59, lit_60, lit_61, lit_62, lit_63, lit_64, lit_65, lit_67, lit_70, lit_71, lit_73, lit_75, lit_78, lit_84, lit_85, lit_86, lit_87, lit_89, lit_90, lit_91, lit_95, lit_96, lit_97, lit_98, lit_99, lit_100, lit_101, lit_102, lit_103, lit_104, lit_105, lit_107, lit_108, lit_109, lit_110, lit_111, lit_112, lit_114, lit_115, lit_116, lit_117, lit_119, lit_121, lit_122, lit_126, lit_127, lit_128, lit_130, lit_134, lit_137, lit_139, lit_140, lit_141, lit_145, lit_152, lit_159, lit_160, lit_168, lit_174, lit_180, lit_183, lit_192, lit_199, lit_236, lit_251, lit_255, lit_272, lit_284, lit_300, lit_330, lit_373, lit_753, lit_800, lit_896, lit_900, lit_1000, lit_1001, lit_1002, lit_1003, lit_1079, lit_1276, lit_1330, lit_1450, lit_3012, lit_3016, lit_3300, lit_8430, lit_9999, lit_10000, lit_11730, lit_30467, lit_65536, lit_99999, lit_100000, lit_1000000, lit_252645135, lit_858993459, lit_1000000000, lit_1431655765, isO_149, fR_149_0, b_I, b_L, b_V, b_R, b_N, b_N0, Option.bind_some, ↓reduceIte, bq0, bq1, bz0, bz1, ite_not, Classical.not_not, M_isIn, jI_add, jI_sub, jI_mul, jI_neg, jI_lt, jI_le, jI_eq, ia_150, is_150, e, s1, hgl]
    by_cases h0 : v = -1
    · rw [if_pos h0, if_pos h0]
    · rw [if_neg h0, if_neg h0]
      by_cases hC : ((0 ≤ v ∧ v < F 2 25) ∧ (0 ≤ z ∧ z ≤ 9)) ∧ F 47 1 < 8
      · rw [if_pos hC, if_pos (by omega), if_pos (by omega), if_neg (by omega)]
        simp (disch := omega) only [lit_0, lit_1, lit_2, lit_3, lit_4, lit_5, lit_6, lit_7, lit_8, lit_9, lit_10, lit_11, lit_12, lit_13, lit_14, lit_15, lit_16, lit_17, lit_18, lit_19, lit_20, lit_21, lit_22, lit_23, lit_24, lit_25, lit_26, lit_27, lit_28, lit_29, lit_30, lit_31, lit_32, lit_33, lit_34, lit_35, lit_36, lit_37, lit_38, lit_39, lit_40, lit_41, lit_42, lit_43, lit_44, lit_45, lit_46, lit_47, lit_48, lit_49, lit_50, lit_51, lit_52, lit_53, lit_54, lit_55, lit_56, lit_57, lit_58, lit_59, lit_60, lit_61, lit_62, lit_63, lit_64, lit_65, lit_67, lit_70, lit_71, lit_73, lit_75, lit_78, lit_84, lit_85, lit_86, lit_87, lit_89, lit_90, lit_91, lit_95, lit_96, lit_97, lit_98, lit_99, lit_100, lit_101, lit_102, lit_103, lit_104, lit_105, lit_107, lit_108, lit_109, lit_110, lit_111, lit_112, lit_114, lit_115, lit_116, lit_117, lit_119, lit_121, lit_122, lit_126, lit_127, lit_128, lit_130, lit_134, lit_137, lit_139, lit_140, lit_141, lit_145, lit_152, lit_159, lit_160, lit_168, lit_174, lit_180, lit_183, lit_192, lit_199, lit_236, lit_251, lit_255, lit_272, lit_284, lit_300, lit_330, lit_373, lit_753, lit_800, lit_896, lit_900, lit_1000, lit_1001, lit_1002, lit_1003, lit_1079, lit_1276, lit_1330, lit_1450, lit_3012, lit_3016, lit_3300, lit_8430, lit_9999, lit_10000, lit_11730, lit_30467, lit_65536, lit_99999, lit_100000, lit_1000000, lit_252645135, lit_858993459, lit_1000000000, lit_1431655765, isO_149, fR_149_0, b_I, b_L, b_V, b_R, b_N, b_N0, Option.bind_some, ↓reduceIte, bq0, bq1, bz0, bz1, ite_not, Classical.not_not, jI_add, jI_sub, jI_mul, jI_neg, ia_150, is_150, sA_eq, sA_sA, u_ne, u_eq, e, s1]
      · rw [if_neg hC]
        repeat' split
        all_goals first | rfl | (exfalso; omega)
  by_cases h0 : v = -1
  · have q := e2 (sA (sA F 47 (u (F 47) 1 0)) 49 (u (F 49) 1 0)) (by rw [sA_ne _ _ (by omega), sA_ne _ _ (by omega)])
    rw [if_pos h0] at e1 q
    refine ⟨_, _, _, _, e1, q, ?_⟩
    have eo : ∀ b, ¬ b = 47 → ¬ b = 49 → ¬ b = 150 → sA (sA (sA F 47 (u (F 47) 1 0)) 49 (u (F 49) 1 0)) 150 (u (F 150) 7 0) b = F b := by
      intro b h1 h2 h3
      rw [sA_ne _ _ h3, sA_ne _ _ h2, sA_ne _ _ h1]
    refine Rel_told hR (fun b h1 h2 => eo b (by omega) (by omega) h2) ?_ ?_ ?_
    · intro k hk
      rw [sA_eq, u_ne _ _ (by omega)]
    · rw [sA_eq]
      refine ⟨RT0_cg (by rw [eo _ (by omega) (by omega) (by omega)]) (by rw [eo _ (by omega) (by omega) (by omega)]) (u_ne _ _ (by omega)) (u_ne _ _ (by omega)) r0, RT1_cg (fun _ _ _ => by rw [eo _ (by omega) (by omega) (by omega)]) (fun k _ _ => u_ne _ _ (by omega)) r1, RT2_cg (by rw [eo _ (by omega) (by omega) (by omega)]) (fun _ _ _ => by rw [eo _ (by omega) (by omega) (by omega)]) (u_ne _ _ (by omega)) (fun k _ _ => u_ne _ _ (by omega)) r2, RT3_cg (by rw [eo _ (by omega) (by omega) (by omega)]) (fun _ _ _ => by rw [eo _ (by omega) (by omega) (by omega)]) (u_ne _ _ (by omega)) (fun k _ _ => u_ne _ _ (by omega)) r3, RT4_cg (by rw [eo _ (by omega) (by omega) (by omega)]) (by rw [eo _ (by omega) (by omega) (by omega)]) (fun _ _ _ => by rw [eo _ (by omega) (by omega) (by omega), eo _ (by omega) (by omega) (by omega)]; exact ⟨rfl, rfl⟩) (u_ne _ _ (by omega)) (fun k _ _ => u_ne _ _ (by omega)) r4, ?_⟩
      unfold RT5
      simp only [Nat.reduceAdd]
      rw [sA_ne (b := 47) _ _ (by omega), sA_ne (b := 47) _ _ (by omega), sA_eq, sA_ne (b := 49) _ _ (by omega), sA_eq, u_eq, u_eq, u_eq]
      exact ⟨rfl, rfl, by omega, by omega, by intro i i0 i1; omega⟩
    · rw [eo _ (by omega) (by omega) (by omega)]
  · by_cases hC : ((0 ≤ v ∧ v < F 2 25) ∧ (0 ≤ z ∧ z ≤ 9)) ∧ F 47 1 < 8
    · have q := e2 (sA (sA (sA (sA F 48 (u (F 48) (F 47 1) v)) 47 (u (F 47) 1 (F 47 1 + 1))) 50 (u (F 50) (F 47 1) z)) 49 (u (F 49) 1 (F 47 1 + 1))) (by rw [sA_ne _ _ (by omega), sA_ne _ _ (by omega), sA_ne _ _ (by omega), sA_ne _ _ (by omega)])
      rw [if_neg h0, if_pos hC] at e1 q
      refine ⟨_, _, _, _, e1, q, ?_⟩
      have eo : ∀ b, ¬ b = 47 → ¬ b = 48 → ¬ b = 49 → ¬ b = 50 → ¬ b = 150 → sA (sA (sA (sA (sA F 48 (u (F 48) (F 47 1) v)) 47 (u (F 47) 1 (F 47 1 + 1))) 50 (u (F 50) (F 47 1) z)) 49 (u (F 49) 1 (F 47 1 + 1))) 150 (u (u (u (F 150) (152 + 2 * F 47 1) v) (152 + 2 * F 47 1 + 1) z) 7 (F 47 1 + 1)) b = F b := by
        intro b h1 h2 h3 h4 h5
        rw [sA_ne _ _ h5, sA_ne _ _ h3, sA_ne _ _ h4, sA_ne _ _ h1, sA_ne _ _ h2]
      have un : ∀ k, ¬ k = 7 → ¬ k = 152 + 2 * F 47 1 → ¬ k = 152 + 2 * F 47 1 + 1 → u (u (u (F 150) (152 + 2 * F 47 1) v) (152 + 2 * F 47 1 + 1) z) 7 (F 47 1 + 1) k = F 150 k := by
        intro k h1 h2 h3
        rw [u_ne _ _ h1, u_ne _ _ h3, u_ne _ _ h2]
      refine Rel_told hR (fun b h1 h2 => eo b (by omega) (by omega) (by omega) (by omega) h2) ?_ ?_ ?_
      · intro k hk
        rw [sA_eq, un _ (by omega) (by omega) (by omega)]
      · rw [sA_eq]
        refine ⟨RT0_cg (by rw [eo _ (by omega) (by omega) (by omega) (by omega) (by omega)]) (by rw [eo _ (by omega) (by omega) (by omega) (by omega) (by omega)]) (un _ (by omega) (by omega) (by omega)) (un _ (by omega) (by omega) (by omega)) r0, RT1_cg (fun _ _ _ => by rw [eo _ (by omega) (by omega) (by omega) (by omega) (by omega)]) (fun k _ _ => un _ (by omega) (by omega) (by omega)) r1, RT2_cg (by rw [eo _ (by omega) (by omega) (by omega) (by omega) (by omega)]) (fun _ _ _ => by rw [eo _ (by omega) (by omega) (by omega) (by omega) (by omega)]) (un _ (by omega) (by omega) (by omega)) (fun k _ _ => un _ (by omega) (by omega) (by omega)) r2, RT3_cg (by rw [eo _ (by omega) (by omega) (by omega) (by omega) (by omega)]) (fun _ _ _ => by rw [eo _ (by omega) (by omega) (by omega) (by omega) (by omega)]) (un _ (by omega) (by omega) (by omega)) (fun k _ _ => un _ (by omega) (by omega) (by omega)) r3, RT4_cg (by rw [eo _ (by omega) (by omega) (by omega) (by omega) (by omega)]) (by rw [eo _ (by omega) (by omega) (by omega) (by omega) (by omega)]) (fun _ _ _ => by rw [eo _ (by omega) (by omega) (by omega) (by omega) (by omega), eo _ (by omega) (by omega) (by omega) (by omega) (by omega)]; exact ⟨rfl, rfl⟩) (un _ (by omega) (by omega) (by omega)) (fun k _ _ => un _ (by omega) (by omega) (by omega)) r4, ?_⟩
        unfold RT5
        simp only [Nat.reduceAdd]
        have a1 : sA (sA (sA (sA (sA F 48 (u (F 48) (F 47 1) v)) 47 (u (F 47) 1 (F 47 1 + 1))) 50 (u (F 50) (F 47 1) z)) 49 (u (F 49) 1 (F 47 1 + 1))) 150 (u (u (u (F 150) (152 + 2 * F 47 1) v) (152 + 2 * F 47 1 + 1) z) 7 (F 47 1 + 1)) 47 1 = F 47 1 + 1 := by rw [sA_ne _ _ (by omega), sA_ne _ _ (by omega), sA_ne _ _ (by omega), sA_eq, u_eq]
        have a2 : sA (sA (sA (sA (sA F 48 (u (F 48) (F 47 1) v)) 47 (u (F 47) 1 (F 47 1 + 1))) 50 (u (F 50) (F 47 1) z)) 49 (u (F 49) 1 (F 47 1 + 1))) 150 (u (u (u (F 150) (152 + 2 * F 47 1) v) (152 + 2 * F 47 1 + 1) z) 7 (F 47 1 + 1)) 49 1 = F 47 1 + 1 := by rw [sA_ne _ _ (by omega), sA_eq, u_eq]
        have a3 : sA (sA (sA (sA (sA F 48 (u (F 48) (F 47 1) v)) 47 (u (F 47) 1 (F 47 1 + 1))) 50 (u (F 50) (F 47 1) z)) 49 (u (F 49) 1 (F 47 1 + 1))) 150 (u (u (u (F 150) (152 + 2 * F 47 1) v) (152 + 2 * F 47 1 + 1) z) 7 (F 47 1 + 1)) 48 = u (F 48) (F 47 1) v := by rw [sA_ne _ _ (by omega), sA_ne _ _ (by omega), sA_ne _ _ (by omega), sA_ne _ _ (by omega), sA_eq]
        have a4 : sA (sA (sA (sA (sA F 48 (u (F 48) (F 47 1) v)) 47 (u (F 47) 1 (F 47 1 + 1))) 50 (u (F 50) (F 47 1) z)) 49 (u (F 49) 1 (F 47 1 + 1))) 150 (u (u (u (F 150) (152 + 2 * F 47 1) v) (152 + 2 * F 47 1 + 1) z) 7 (F 47 1 + 1)) 50 = u (F 50) (F 47 1) z := by rw [sA_ne _ _ (by omega), sA_ne _ _ (by omega), sA_eq]
        rw [a1, a2, a3, a4, u_eq]
        refine ⟨rfl, rfl, by omega, by omega, ?_⟩
        intro i i0 i1
        rw [u_ne (k := 152 + 2 * i) _ _ (by omega), u_ne (k := 152 + 2 * i + 1) _ _ (by omega)]
        by_cases ei : i = F 47 1
        · rw [ei, u_eq, u_eq, u_eq, u_ne (k := 152 + 2 * F 47 1) _ _ (by omega), u_eq]
          omega
        · rw [u_ne _ _ ei, u_ne _ _ ei, u_ne _ _ (by omega), u_ne _ _ (by omega), u_ne _ _ (by omega), u_ne _ _ (by omega)]
          exact s4 i i0 (by omega)
      · rw [eo _ (by omega) (by omega) (by omega) (by omega) (by omega)]
    · have q := e2 F rfl
      rw [if_neg h0, if_neg hC] at e1 q
      exact Ok_pure hR e1 q
end
