-- order as a call
def hrs (c f : Fn) (i : Int) : Int := sm (fun j => c (51 + f j)) i
def cst (c pr f : Fn) (i : Int) : Int := sm (fun j => pr (f j) * hrs c f (j + 1)) i
section
variable (x : m_X) (F G : Nat → Fn)
theorem C_cost {f : Fn} {n : Nat} (hi : WI (F 2)) (hn : F 142 1 = n) (hn1 : n ≤ 12) (hf : ∀ i : Int, 0 ≤ i → i < n → F 143 i = f i ∧ 0 ≤ f i ∧ f i < 12) : m_M x k_Duties_cost [.ref 141, .ref 1, .ref 37] (mk F G) = some (some (.int (jI (cst (F 2) (F 38) f n))), mk F G) := by
  have key : ∀ i : Int, 0 ≤ i → i ≤ n → m_D x 2 k_Duties_cost 8 [some (.ref 141), some (.ref 1), some (.ref 37), some (.int (jI (hrs (F 2) f i))), some (.int (jI (cst (F 2) (F 38) f i))), some (.int (jI i))] [] (mk F G) = some (some (.int (jI (cst (F 2) (F 38) f n))), mk F G) := by
    apply down
    · rw [E_Duties_cost_8 x 2 (by omega), fR_141_0, Option.bind_some, fI_R_1 F G (w := 142) (by omega), Option.bind_some, hn, if_pos (Int32.le_refl _)]
    · intro i i0 i1 ih
      have q := hf i i0 i1
      have t1 := C_itemAt x F G (w := 142) (i := i) (by omega) i0 (by simp only [show rL 142 = 12 from rfl]; omega)
      have t2 := C_itemAt x F G (w := 37) (i := f i) (by omega) q.2.1 (by simp only [show rL 37 = 12 from rfl]; omega)
      have a1 := C_at x F G (w := 1) (p := 51) (i := f i) (Or.inl rfl) (by omega) (by omega)
      simp only [Nat.reduceAdd] at t1 t2 a1
      rw [q.1] at t1
      have e1 : hrs (F 2) f (i + 1) = hrs (F 2) f i + F 2 (51 + f i) := by unfold hrs; rw [sm_s _ i0]
      have e2 : cst (F 2) (F 38) f (i + 1) = cst (F 2) (F 38) f i + F 38 (f i) * (hrs (F 2) f i + F 2 (51 + f i)) := by
        rw [← e1]
        unfold cst
        rw [sm_s _ i0]
      rw [e1, e2] at ih
      have r := fI_R_1 F G (w := 142) (by omega)
      rw [E_Duties_cost_8 x 2 (by omega)]
      simp (disch := omega) only [lit_0, lit_1, lit_2, lit_3, lit_4, lit_5, lit_6, lit_7, lit_8, lit_9, lit_10, lit_11, lit_12, lit_13, lit_14, lit_15, lit_16, lit_17, lit_18, lit_19, lit_20, lit_21, lit_22, lit_23, lit_24, lit_25, lit_26, lit_27, lit_28, lit_29, lit_30, lit_31, lit_32, lit_33, lit_34, lit_35, lit_36, lit_37, lit_38, lit_39, lit_40, lit_41, lit_42, lit_43, lit_44, lit_45, lit_46, lit_47, lit_48, lit_49, lit_50, lit_51, lit_52, lit_53, lit_54, lit_55, lit_56, lit_57, lit_58, lit_59, lit_60, lit_61, lit_62, lit_63, lit_64, lit_65, lit_67, lit_70, lit_71, lit_73, lit_75, lit_78, lit_84, lit_85, lit_86, lit_87, lit_89, lit_90, lit_91, lit_95, lit_96, lit_97, lit_98, lit_99, lit_100, lit_101, lit_102, lit_103, lit_104, lit_105, lit_107, lit_108, lit_109, lit_110, lit_111, lit_112, lit_114, lit_115, lit_116, lit_117, lit_119, lit_121, lit_122, lit_126, lit_127, lit_128, lit_130, lit_134, lit_137, lit_139, lit_140, lit_141, lit_145, lit_152, lit_159, lit_160, lit_168, lit_174, lit_180, lit_183, lit_192, lit_199, lit_236, lit_251, lit_255, lit_272, lit_284, lit_300, lit_330, lit_373, lit_753, lit_800, lit_896, lit_900, lit_1000, lit_1001, lit_1002, lit_1003, lit_1079, lit_1276, lit_1330, lit_1450, lit_3012, lit_3016, lit_3300, lit_8430, lit_9999, lit_10000, lit_11730, lit_30467, lit_65536, lit_99999, lit_100000, lit_1000000, lit_252645135, lit_858993459, lit_1000000000, lit_1431655765, jI_add, jI_sub, jI_mul, jI_neg, jI_lt, jI_le, jI_eq, fR_141_0, r, hn, b_I, b_L, b_V, b_R, b_N, b_N0, Option.bind_some, ↓reduceIte, bq0, bq1, bz0, bz1, ite_not, Classical.not_not, t1, t2, a1]
      rw [if_neg (by omega)]
      exact ih
  rw [E_Duties_cost, isO_141, if_pos rfl]
  exact key 0 (by omega) (by omega)
theorem M_cost {c pr f : Fn} {n : Nat} {p z : Int} (hv : ∀ k, vok k → V (F 150) k = c k) (hpr : ∀ g, 0 ≤ g → g < 12 → F 150 (168 + g) = pr g) (hn1 : n ≤ 12) (hf : ∀ i : Int, 0 ≤ i → i < n → F 160 i = f i ∧ 0 ≤ f i ∧ f i < 12) : m_D x 4 k_M_order 54 [some (.ref 149), some (.int (jI p)), some (.int (jI z)), some (.int (jI n)), some (.int (jI 0)), some (.int (jI 0)), some (.int (jI 0))] [] (mk F G) = some (some (.int (jI (cst c pr f n))), mk F G) := by
  have key : ∀ i : Int, 0 ≤ i → i ≤ n → m_D x 4 k_M_order 54 [some (.ref 149), some (.int (jI p)), some (.int (jI z)), some (.int (jI n)), some (.int (jI (cst c pr f i))), some (.int (jI (hrs c f i))), some (.int (jI i))] [] (mk F G) = some (some (.int (jI (cst c pr f n))), mk F G) := by
    apply down
    · rw [E_M_order_54 x 4 (by omega), if_pos (Int32.le_refl _)]
    · intro i i0 i1 ih
      have q := hf i i0 i1
      have g1 := M_get x F G (g := f i) (k := 2) q.2.1 q.2.2 (by omega) (by omega)
      rw [hv _ (by unfold vok; omega)] at g1
      simp only [Int.reduceMul, Int.reduceAdd] at g1
      have t1 : m_ia x (mk F G) 160 (jI i) = some (jI (f i)) := by rw [ia_160 x F G i0 (by omega), q.1]
      have t2 : m_ia x (mk F G) 150 (jI (168 + f i)) = some (jI (pr (f i))) := by rw [ia_150 x F G (by omega) (by omega), hpr _ q.2.1 q.2.2]
      have e1 : hrs c f (i + 1) = hrs c f i + c (51 + f i) := by unfold hrs; rw [sm_s _ i0]
      have e2 : cst c pr f (i + 1) = cst c pr f i + pr (f i) * (hrs c f i + c (51 + f i)) := by
        rw [← e1]
        unfold cst
        rw [sm_s _ i0]
      rw [e1, e2] at ih
      rw [E_M_order_54 x 4 (by omega)]
      simp (disch := omega) only [lit_0, lit_1, lit_2, lit_3, lit_4, lit_5, lit_6, lit_7, lit_8, lit_9, lit_10, lit_11, lit_12, lit_13, lit_14, lit_15, lit_16, lit_17, lit_18, lit_19, lit_20, lit_21, lit_22, lit_23, lit_24, lit_25, lit_26, lit_27, lit_28, lit_29, lit_30, lit_31, lit_32, lit_33, lit_34, lit_35, lit_36, lit_37, lit_38, lit_39, lit_40, lit_41, lit_42, lit_43, lit_44, lit_45, lit_46, lit_47, lit_48, lit_49, lit_50, lit_51, lit_52, lit_53, lit_54, lit_55, lit_56, lit_57, lit_58, lit_59, lit_60, lit_61, lit_62, lit_63, lit_64, lit_65, lit_67, lit_70, lit_71, lit_73, lit_75, lit_78, lit_84, lit_85, lit_86, lit_87, lit_89, lit_90, lit_91, lit_95, lit_96, lit_97, lit_98, lit_99, lit_100, lit_101, lit_102, lit_103, lit_104, lit_105, lit_107, lit_108, lit_109, lit_110, lit_111, lit_112, lit_114, lit_115, lit_116, lit_117, lit_119, lit_121, lit_122, lit_126, lit_127, lit_128, lit_130, lit_134, lit_137, lit_139, lit_140, lit_141, lit_145, lit_152, lit_159, lit_160, lit_168, lit_174, lit_180, lit_183, lit_192, lit_199, lit_236, lit_251, lit_255, lit_272, lit_284, lit_300, lit_330, lit_373, lit_753, lit_800, lit_896, lit_900, lit_1000, lit_1001, lit_1002, lit_1003, lit_1079, lit_1276, lit_1330, lit_1450, lit_3012, lit_3016, lit_3300, lit_8430, lit_9999, lit_10000, lit_11730, lit_30467, lit_65536, lit_99999, lit_100000, lit_1000000, lit_252645135, lit_858993459, lit_1000000000, lit_1431655765, jI_add, jI_sub, jI_mul, jI_neg, jI_lt, jI_le, jI_eq, fR_149_0, fR_149_26, b_I, b_L, b_V, b_R, b_N, b_N0, Option.bind_some, ↓reduceIte, bq0, bq1, bz0, bz1, ite_not, Classical.not_not, t1, t2, g1]
      rw [if_neg (by omega)]
      exact ih
  exact key 0 (by omega) (by omega)
theorem ok_order {p z : Int} (hR : Rel F) (hp : rg p) (hz : rg z) : Ok x F G k_G_order k_M_order [.int (jI p), .int (jI z)] := by
  have hi : WI (F 2) := RS_WI hR.1
  have hc := WI_c hi
  have hv := Rel_V hR
  have hz2 := hz
  unfold rg at hz2
  have hq := hR.2.2.1.2.1
  unfold RT1 at hq
  simp only [Nat.reduceAdd] at hq
  have hPR : PR (F 38) := by
    intro g g0 g1
    have := hq g g0 g1
    rw [this.1]
    exact this.2
  have hpr : ∀ g, 0 ≤ g → g < 12 → F 150 (168 + g) = F 38 g := fun g g0 g1 => (hq g g0 g1).1.symm
  have c3 := C_hasOne x F G (w := 1) (p := p) (Or.inl rfl) hp (by unfold rg; simp only [Nat.reduceAdd]; omega)
  simp only [Nat.reduceAdd] at c3
  have m3 : ∀ F' : Nat → Fn, F' 150 = F 150 → m_M x k_M_isOne [.ref 149, .int (jI p)] (mk F' G) = some (some (.int (jI (if 0 ≤ p ∧ p < F 2 0 then 1 else 0))), mk F' G) := by
    intro F' e
    have q := M_isOne x F' G (p := p) (by rw [e]; exact RS_WV hR.1) hp
    rw [e, hv 0 (by unfold vok; omega)] at q
    exact q
  by_cases q : 0 ≤ p ∧ p < F 2 0
  · rw [if_pos q] at c3
    simp only [if_pos q] at m3
    obtain ⟨F1, r1, r2, r3, r4⟩ := C_arrange x F G (p := p) hi hPR hp
    have lr := lay_r (F 2) (F 38) p (F 2 25).toNat
    have e150 := r4 150 (by omega) (by omega)
    have e2 := r4 2 (by omega) (by omega)
    have e38 := r4 38 (by omega) (by omega)
    obtain ⟨f, s1, s2⟩ := M_layDuties x F1 G (c := F 2) (pr := F 38) (p := p) (by rw [e150]; exact hv) (by rw [e150]; exact hpr) hi hPR hp
    have hRel : Rel (sA F1 160 f) := by
      refine Rel_ag hR ?_
      intro b hb
      rw [sA_ne _ _ (by omega), r4 b (by omega) (by omega)]
    generalize hN : (layN (F 2) (F 38) p (F 2 25).toNat).1 = N at *
    generalize hL : (layN (F 2) (F 38) p (F 2 25).toNat).2 = L at *
    have cs : m_M x k_G_order [.ref 0, .int (jI p), .int (jI z)] (mk F G) = some (some (.int (jI (if z = -1 then cst (F 2) (F 38) L N else if 0 ≤ z ∧ z ≤ (N : Int) - 1 then L z else -2))), mk F1 G) := by
      have fr := fI_R_1 F1 G (w := 142) (by omega)
      have ft := fR_T_0 F G (w := 36) (by omega)
      have ft1 := fR_T_0 F1 G (w := 36) (by omega)
      rw [E_G_order]
      simp (disch := omega) only [lit_0, lit_1, lit_2, lit_3, lit_4, lit_5, lit_6, lit_7, lit_8, lit_9, lit_10, lit_11, lit_12, lit_13, lit_14, lit_15, lit_16, lit_17, lit_18, lit_19, lit_20, lit_21, lit_22, lit_23, lit_24, lit_25, lit_26, lit_27, lit_28, lit_29, lit_30, lit_31, lit_32, lit_33, lit_34, lit_35, lit_36, lit_37, lit_38, lit_39, lit_40, lit_41, lit_42, lit_43, lit_44, lit_45, lit_46, lit_47, lit_48, lit_49, lit_50, lit_51, lit_52, lit_53, lit_54, lit_55, lit_56, lit_57, lit_58, lit_59, lit_60, lit_61, lit_62, lit_63, lit_64, lit_65, lit_67, lit_70, lit_71, lit_73, lit_75, lit_78, lit_84, lit_85, lit_86, lit_87, lit_89, lit_90, lit_91, lit_95, lit_96, lit_97, lit_98, lit_99, lit_100, lit_101, lit_102, lit_103, lit_104, lit_105, lit_107, lit_108, lit_109, lit_110, lit_111, lit_112, lit_114, lit_115, lit_116, lit_117, lit_119, lit_121, lit_122, lit_126, lit_127, lit_128, lit_130, lit_134, lit_137, lit_139, lit_140, lit_141, lit_145, lit_152, lit_159, lit_160, lit_168, lit_174, lit_180, lit_183, lit_192, lit_199, lit_236, lit_251, lit_255, lit_272, lit_284, lit_300, lit_330, lit_373, lit_753, lit_800, lit_896, lit_900, lit_1000, lit_1001, lit_1002, lit_1003, lit_1079, lit_1276, lit_1330, lit_1450, lit_3012, lit_3016, lit_3300, lit_8430, lit_9999, lit_10000, lit_11730, lit_30467, lit_65536, lit_99999, lit_100000, lit_1000000, lit_252645135, lit_858993459, lit_1000000000, lit_1431655765, jI_add, jI_sub, jI_mul, jI_neg, jI_lt, jI_le, jI_eq, isO_0, fR_0_0, fR_0_1, fR_0_2, fR_0_3, fR_0_4, fR_0_5, fR_0_6, fR_0_7, fR_0_8, fR_0_9, fR_0_10, fR_0_11, fR_0_12, ft, c3, b_I, b_L, b_V, b_R, b_N, b_N0, Option.bind_some, ↓reduceIte, bq0, bq1, bz0, bz1, ite_not, Classical.not_not, Nat.reduceAdd, r1]
      rw [if_neg (show ¬ (1 : Int) = 0 by omega)]
      by_cases q1 : z = -1
      · have cc := C_cost x F1 G (f := L) (n := N) (by rw [e2]; exact hi) r2 (by omega) (by
          intro i i0 i1
          have := lr.2 i i0 i1
          exact ⟨r3 i i0 i1, by omega, by omega⟩)
        rw [e2, e38] at cc
        rw [if_pos q1, if_pos q1]
        simp (disch := omega) only [isO_0, fR_0_0, fR_0_1, fR_0_2, fR_0_3, fR_0_4, fR_0_5, fR_0_6, fR_0_7, fR_0_8, fR_0_9, fR_0_10, fR_0_11, fR_0_12, ft1, b_I, b_L, b_V, b_R, b_N, b_N0, Option.bind_some, ↓reduceIte, bq0, bq1, bz0, bz1, ite_not, Classical.not_not, Nat.reduceAdd, cc]
      · have ci := C_isIn x F1 G (a := z) (b := 0) (c := (N : Int) - 1) hz (by unfold rg; omega) (by unfold rg; omega)
        rw [if_neg q1, if_neg q1]
        simp (disch := omega) only [isO_0, fR_0_0, fR_0_1, fR_0_2, fR_0_3, fR_0_4, fR_0_5, fR_0_6, fR_0_7, fR_0_8, fR_0_9, fR_0_10, fR_0_11, fR_0_12, isO_141, fR_141_0, fI_141_1, pf_141_1, fI_141_2, pf_141_2, fr, r2, jI_add, jI_sub, jI_mul, jI_neg, b_I, b_L, b_V, b_R, b_N, b_N0, Option.bind_some, ↓reduceIte, bq0, bq1, bz0, bz1, ite_not, Classical.not_not, ci]
        by_cases q2 : 0 ≤ z ∧ z ≤ (N : Int) - 1
        · have t1 := C_itemAt x F1 G (w := 142) (i := z) (by omega) q2.1 (by simp only [show rL 142 = 12 from rfl]; omega)
          simp only [Nat.reduceAdd] at t1
          rw [r3 z q2.1 (by omega)] at t1
          rw [if_pos q2, if_pos q2, t1, b_I]
        · rw [if_neg q2, if_neg q2]
    have ms : m_M x k_M_order [.ref 149, .int (jI p), .int (jI z)] (mk F1 G) = some (some (.int (jI (if z = -1 then cst (F 2) (F 38) L N else if 0 ≤ z ∧ z ≤ (N : Int) - 1 then L z else -2))), mk (sA F1 160 f) G) := by
      rw [E_M_order]
      simp (disch := omega) only [lit_0, lit_1, lit_2, lit_3, lit_4, lit_5, lit_6, lit_7, lit_8, lit_9, lit_10, lit_11, lit_12, lit_13, lit_14, lit_15, lit_16, lit_17, lit_18, lit_19, lit_20, lit_21, lit_22, lit_23, lit_24, lit_25, lit_26, lit_27, lit_28, lit_29, lit_30, lit_31, lit_32, lit_33, lit_34, lit_35, lit_36, lit_37, lit_38, lit_39, lit_40, lit_41, lit_42, lit_43, lit_44, lit_45, lit_46, lit_47, lit_48, lit_49, lit_50, lit_51, lit_52, lit_53, lit_54, lit_55, lit_56, lit_57, lit_58, lit_59, lit_60, lit_61, lit_62, lit_63, lit_64, lit_65, lit_67, lit_70, lit_71, lit_73, lit_75, lit_78, lit_84, lit_85, lit_86, lit_87, lit_89, lit_90, lit_91, lit_95, lit_96, lit_97, lit_98, lit_99, lit_100, lit_101, lit_102, lit_103, lit_104, lit_105, lit_107, lit_108, lit_109, lit_110, lit_111, lit_112, lit_114, lit_115, lit_116, lit_117, lit_119, lit_121, lit_122, lit_126, lit_127, lit_128, lit_130, lit_134, lit_137, lit_139, lit_140, lit_141, lit_145, lit_152, lit_159, lit_160, lit_168, lit_174, lit_180, lit_183, lit_192, lit_199, lit_236, lit_251, lit_255, lit_272, lit_284, lit_300, lit_330, lit_373, lit_753, lit_800, lit_896, lit_900, lit_1000, lit_1001, lit_1002, lit_1003, lit_1079, lit_1276, lit_1330, lit_1450, lit_3012, lit_3016, lit_3300, lit_8430, lit_9999, lit_10000, lit_11730, lit_30467, lit_65536, lit_99999, lit_100000, lit_1000000, lit_252645135, lit_858993459, lit_1000000000, lit_1431655765, jI_add, jI_sub, jI_mul, jI_neg, jI_lt, jI_le, jI_eq, isO_149, m3 F1 e150, b_I, b_L, b_V, b_R, b_N, b_N0, Option.bind_some, ↓reduceIte, bq0, bq1, bz0, bz1, ite_not, Classical.not_not, s1]
      rw [if_neg (show ¬ (1 : Int) = 0 by omega)]
      by_cases q1 : z = -1
      · have cc := M_cost x (sA F1 160 f) G (c := F 2) (pr := F 38) (f := L) (n := N) (p := p) (z := z) (by rw [sA_ne _ _ (by omega), e150]; exact hv) (by rw [sA_ne _ _ (by omega), e150]; exact hpr) (by omega) (by
          intro i i0 i1
          have := lr.2 i i0 i1
          rw [sA_eq]
          exact ⟨s2 i i0 i1, by omega, by omega⟩)
        rw [if_pos q1, if_pos q1]
        exact cc
      · have ci := M_isIn x (sA F1 160 f) G (a := z) (b := 0) (c := (N : Int) - 1) hz (by unfold rg; omega) (by unfold rg; omega)
        rw [if_neg q1, if_neg q1]
        simp (disch := omega) only [b_I, b_L, b_V, b_R, b_N, b_N0, Option.bind_some, ↓reduceIte, bq0, bq1, bz0, bz1, ite_not, Classical.not_not, ci]
        by_cases q2 : 0 ≤ z ∧ z ≤ (N : Int) - 1
        · rw [if_pos q2, if_pos q2]
          simp (disch := omega) only [fR_149_26, ia_160, b_I, b_L, b_V, b_R, b_N, b_N0, Option.bind_some, ↓reduceIte, bq0, bq1, bz0, bz1, ite_not, Classical.not_not, sA_eq]
          rw [s2 z q2.1 (by omega)]
        · rw [if_neg q2, if_neg q2]
    exact ⟨_, _, _, _, cs, ms, hRel⟩
  · rw [if_neg q] at c3
    simp only [if_neg q] at m3
    refine Ok_pure (v := jI (-2)) hR ?_ ?_
    · rw [E_G_order, isO_0, if_pos rfl, fR_0_0, Option.bind_some, c3, b_I, if_pos (show jI 0 = 0 by decide)]
      rfl
    · rw [E_M_order, isO_149, if_pos rfl, m3 F rfl, b_I, if_pos (show jI 0 = 0 by decide)]
      rfl
end
