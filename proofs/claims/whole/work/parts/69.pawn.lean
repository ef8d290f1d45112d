-- pawning: class and model
abbrev pawnC (A : Law4) (c : Fn) (g : Int) : Prop := 0 ≤ g ∧ g < c 25 ∧ c (99 + g) = 0 ∧ 0 < A 3 c g
def wPawn (A : Law4) (c : Fn) (g : Int) : Fn := u (u c (8 + c (39 + g)) (min (c (8 + c (39 + g)) + A 3 c g) 9999)) (99 + g) 3
abbrev buyC (A : Law4) (c : Fn) (g : Int) : Prop := 0 ≤ g ∧ g < c 25 ∧ c (99 + g) = 3 ∧ A 3 c g ≤ c (8 + c (39 + g))
def wBuy (A : Law4) (c : Fn) (g : Int) : Fn := u (u c (8 + c (39 + g)) (c (8 + c (39 + g)) - A 3 c g)) (99 + g) 0
def mPawn (A : Law4) (a : Fn) (g : Int) : Fn := u (u a (13 + V a (39 + g)) (min (V a (8 + V a (39 + g)) + A 3 (V a) g) 9999)) (27 + 7 * g + 6) 3
def mBuy (A : Law4) (a : Fn) (g : Int) : Fn := u (u a (13 + V a (39 + g)) (V a (8 + V a (39 + g)) - A 3 (V a) g)) (27 + 7 * g + 6) 0
theorem V_mPawn (A : Law4) (a : Fn) {g : Int} (hi : WI (V a)) (h0 : 0 ≤ g) (h1 : g < 12) : V (mPawn A a g) = wPawn A (V a) g := by
  have hg := WI_g hi h0 h1
  unfold mPawn wPawn
  rw [Vu_g _ _ h0 h1 (by omega) (by omega), Vu_c _ _ (by omega) (by omega)]
  rfl
theorem V_mBuy (A : Law4) (a : Fn) {g : Int} (hi : WI (V a)) (h0 : 0 ≤ g) (h1 : g < 12) : V (mBuy A a g) = wBuy A (V a) g := by
  have hg := WI_g hi h0 h1
  unfold mBuy wBuy
  rw [Vu_g _ _ h0 h1 (by omega) (by omega), Vu_c _ _ (by omega) (by omega)]
  rfl
theorem Fr_mPawn (A : Law4) (a : Fn) {g : Int} (hi : WI (V a)) (h0 : 0 ≤ g) (h1 : g < 12) : Fr a (mPawn A a g) := by
  have hg := WI_g hi h0 h1
  exact Fr_u _ (Fr_u _ (Fr_rfl _) (by omega) (by omega) (by omega)) (by omega) (by omega) (by omega)
theorem Fr_mBuy (A : Law4) (a : Fn) {g : Int} (hi : WI (V a)) (h0 : 0 ≤ g) (h1 : g < 12) : Fr a (mBuy A a g) := by
  have hg := WI_g hi h0 h1
  exact Fr_u _ (Fr_u _ (Fr_rfl _) (by omega) (by omega) (by omega)) (by omega) (by omega) (by omega)
theorem WI_pawn {F : Nat → Fn} {t : Int} {A : Law4} {c : Fn} {g : Int} (hA : LA F t A) (hi : WI c) (h0 : 0 ≤ g) (h1 : g < 12) : WI (wPawn A c g) := by
  have hg := WI_g hi h0 h1
  have hp := WI_p hi (p := c (39 + g)) (by omega) (by omega)
  have ha := A_r (s := 3) (q := g) (c := c) hA (by omega) (by omega)
  have e1 : hiB (8 + c (39 + g)) = 9999 := hB_c (by omega) (by omega)
  have e7 : hiB (99 + g) = 3 := hB_o (by omega) (by omega)
  exact WI_u (WI_u hi (by omega) (by omega) (by omega)) (by omega) (by omega) (by omega)
theorem WI_buy {F : Nat → Fn} {t : Int} {A : Law4} {c : Fn} {g : Int} (hA : LA F t A) (hi : WI c) (hb : buyC A c g) : WI (wBuy A c g) := by
  have hc := WI_c hi
  have hg := WI_g hi hb.1 (by omega)
  have hp := WI_p hi (p := c (39 + g)) (by omega) (by omega)
  have ha := A_r (s := 3) (q := g) (c := c) hA (by omega) (by omega)
  have e1 : hiB (8 + c (39 + g)) = 9999 := hB_c (by omega) (by omega)
  have e7 : hiB (99 + g) = 3 := hB_o (by omega) (by omega)
  exact WI_u (WI_u hi (by omega) (by omega) (by omega)) (by omega) (by omega) (by omega)
theorem ag_pawn {F : Nat → Fn} {t : Int} {A : Law4} {c d : Fn} {g : Int} (hA : LA F t A) (hi : WI c) (hv : ∀ k, vok k → c k = d k) (h0 : 0 ≤ g) (h1 : g < 12) : (∀ k, vok k → wPawn A c g k = wPawn A d g k) ∧ (∀ k, vok k → wBuy A c g k = wBuy A d g k) ∧ A 3 c g = A 3 d g ∧ c (8 + c (39 + g)) = d (8 + d (39 + g)) := by
  have hc := WI_c hi
  have hg := WI_g hi h0 h1
  have e1 : A 3 c g = A 3 d g := A_cg hA (by omega) (by omega) (by unfold qok; omega) hv (by omega)
  have e2 := hv (39 + g) (by unfold vok; omega)
  have e3 := hv (8 + c (39 + g)) (by unfold vok; omega)
  refine ⟨?_, ?_, e1, by rw [e3, e2]⟩
  · intro k hk
    unfold wPawn
    rw [e1, e3, e2]
    simp only [u]
    rw [hv k hk]
  · intro k hk
    unfold wBuy
    rw [e1, e3, e2]
    simp only [u]
    rw [hv k hk]
section
variable (x : m_X) (F G : Nat → Fn)
theorem C_isText {t : Int} (ht : rg t) (h0 : 0 ≤ F 36 7) (h1 : F 36 7 ≤ 4) : m_M x k_G_isText [.ref 0, .int (jI t)] (mk F G) = some (some (.int (jI (if 0 ≤ t ∧ t < F 36 7 then 1 else 0))), mk F G) := by
  unfold rg at ht
  rw [E_G_isText]
  simp (disch := omega) only [lit_0, lit_1, lit_2, lit_3, lit_4, lit_5, lit_6, lit_7, lit_8, lit_9, lit_10, lit_11, lit_12, lit_13, lit_14, lit_15, lit_16, lit_17, lit_18, lit_19, lit_20, lit_21, lit_22, lit_23, lit_24, lit_25, lit_26, lit_27, lit_28, lit_29, lit_30, lit_31, lit_32, lit_33, lit_34, lit_35, lit_36, lit_37, lit_38, lit_39, lit_40, lit_41, lit_42, lit_43, lit_44, lit_45, lit_46, lit_47, lit_48, lit_49, lit_50, lit_51, lit_52, lit_53, lit_54, lit_55, lit_56, lit_57, lit_58, lit_59, lit_60, lit_61, lit_62, lit_63, lit_64, lit_65, lit_67, lit_70, lit_71, lit_73, lit_75, lit_78, lit_84, lit_85, lit_86, lit_87, lit_89, lit_90, lit_91, lit_95, lit_96, lit_97, lit_98, lit_99, lit_100, lit_101, lit_102, lit_103, lit_104, lit_105, lit_107, lit_108, lit_109, lit_110, lit_111, lit_112, lit_114, lit_115, lit_116, lit_117, lit_119, lit_121, lit_122, lit_126, lit_127, lit_128, lit_130, lit_134, lit_137, lit_139, lit_140, lit_141, lit_145, lit_152, lit_159, lit_160, lit_168, lit_174, lit_180, lit_183, lit_192, lit_199, lit_236, lit_251, lit_255, lit_272, lit_284, lit_300, lit_330, lit_373, lit_753, lit_800, lit_896, lit_900, lit_1000, lit_1001, lit_1002, lit_1003, lit_1079, lit_1276, lit_1330, lit_1450, lit_3012, lit_3016, lit_3300, lit_8430, lit_9999, lit_10000, lit_11730, lit_30467, lit_65536, lit_99999, lit_100000, lit_1000000, lit_252645135, lit_858993459, lit_1000000000, lit_1431655765, jI_lt, jI_le, jI_eq, isO_0, fR_0_0, fR_0_1, fR_0_2, fR_0_3, fR_0_4, fR_0_5, fR_0_6, fR_0_7, fR_0_8, fR_0_9, fR_0_10, fR_0_11, fR_0_12, isO_T, fR_T_0, fR_T_1, fR_T_2, fR_T_3, fR_T_4, fR_T_5, fR_T_6, fI_T_7, pf_T_7, fI_T_8, pf_T_8, b_I, b_L, b_V, b_R, b_N, b_N0, Option.bind_some, ↓reduceIte, bq0, bq1, bz0, bz1, ite_not, Classical.not_not]
  by_cases q1 : t < 0
  · rw [if_pos q1, if_neg (by omega)]
  · rw [if_neg q1]
    by_cases q2 : F 36 7 ≤ t
    · rw [if_pos q2, if_neg (by omega)]
    · rw [if_neg q2, if_neg (by omega), if_pos (by omega)]
theorem C_scriptAt {t : Int} (ht : rg t) (h0 : 0 ≤ F 36 7) (h1 : F 36 7 ≤ 4) : m_M x k_G_scriptAt [.ref 0, .int (jI t)] (mk F G) = some (some (if 0 ≤ t ∧ t < F 36 7 then .ref (104 + 6 * t.toNat) else .null), mk F G) := by
  rw [E_G_scriptAt, isO_0, if_pos rfl, C_isText x F G ht h0 h1]
  simp (disch := omega) only [lit_0, lit_1, lit_2, lit_3, lit_4, lit_5, lit_6, lit_7, lit_8, lit_9, lit_10, lit_11, lit_12, lit_13, lit_14, lit_15, lit_16, lit_17, lit_18, lit_19, lit_20, lit_21, lit_22, lit_23, lit_24, lit_25, lit_26, lit_27, lit_28, lit_29, lit_30, lit_31, lit_32, lit_33, lit_34, lit_35, lit_36, lit_37, lit_38, lit_39, lit_40, lit_41, lit_42, lit_43, lit_44, lit_45, lit_46, lit_47, lit_48, lit_49, lit_50, lit_51, lit_52, lit_53, lit_54, lit_55, lit_56, lit_57, lit_58, lit_59, lit_60, lit_61, lit_62, lit_63, lit_64, lit_65, lit_67, lit_70, lit_71, lit_73, lit_75, lit_78, lit_84, lit_85, lit_86, lit_87, lit_89, lit_90, lit_91, lit_95, lit_96, lit_97, lit_98, lit_99, lit_100, lit_101, lit_102, lit_103, lit_104, lit_105, lit_107, lit_108, lit_109, lit_110, lit_111, lit_112, lit_114, lit_115, lit_116, lit_117, lit_119, lit_121, lit_122, lit_126, lit_127, lit_128, lit_130, lit_134, lit_137, lit_139, lit_140, lit_141, lit_145, lit_152, lit_159, lit_160, lit_168, lit_174, lit_180, lit_183, lit_192, lit_199, lit_236, lit_251, lit_255, lit_272, lit_284, lit_300, lit_330, lit_373, lit_753, lit_800, lit_896, lit_900, lit_1000, lit_1001, lit_1002, lit_1003, lit_1079, lit_1276, lit_1330, lit_1450, lit_3012, lit_3016, lit_3300, lit_8430, lit_9999, lit_10000, lit_11730, lit_30467, lit_65536, lit_99999, lit_100000, lit_1000000, lit_252645135, lit_858993459, lit_1000000000, lit_1431655765, b_I, b_L, b_V, b_R, b_N, b_N0, Option.bind_some, ↓reduceIte, bq0, bq1, bz0, bz1, ite_not, Classical.not_not, isO_0, fR_0_0, fR_0_1, fR_0_2, fR_0_3, fR_0_4, fR_0_5, fR_0_6, fR_0_7, fR_0_8, fR_0_9, fR_0_10, fR_0_11, fR_0_12]
  by_cases q : 0 ≤ t ∧ t < F 36 7
  · rw [if_pos q, if_pos q, aa_103 F G (by omega) (by omega)]
    rfl
  · rw [if_neg q, if_neg q]
theorem C_ruling (h0 : 0 ≤ F 36 7) (h1 : F 36 7 ≤ 4) (h2 : -1 ≤ F 36 8) (h3 : F 36 8 < F 36 7) : m_M x k_G_ruling [.ref 0] (mk F G) = some (some (sv (F 36 8)), mk F G) := by
  rw [E_G_ruling]
  simp (disch := omega) only [isO_0, fR_0_0, fR_0_1, fR_0_2, fR_0_3, fR_0_4, fR_0_5, fR_0_6, fR_0_7, fR_0_8, fR_0_9, fR_0_10, fR_0_11, fR_0_12, isO_T, fR_T_0, fR_T_1, fR_T_2, fR_T_3, fR_T_4, fR_T_5, fR_T_6, fI_T_7, pf_T_7, fI_T_8, pf_T_8, b_I, b_L, b_V, b_R, b_N, b_N0, Option.bind_some, ↓reduceIte, bq0, bq1, bz0, bz1, ite_not, Classical.not_not]
  rw [C_scriptAt x F G (by unfold rg; omega) h0 h1]
  unfold sv
  by_cases q : F 36 8 < 0
  · rw [if_pos q, if_neg (by omega), b_N0]
  · rw [if_neg q, if_pos (by omega), b_N]
theorem C_pawnOff {w : Nat} {t g : Int} {A : Law4} (hA : LA F t A) (hw : w = 1 ∨ w = 51 ∨ w = 101) (hi : WI (F (w + 1))) (hg : rg g) : ∃ F2, m_M x k_Law_pawnOff [.ref 136, .ref w, sv t, .int (jI g)] (mk F G) = some (some (.int (jI (if pawnC A (F (w + 1)) g then A 3 (F (w + 1)) g else -1))), mk F2 G) ∧ F2 (w + 1) = (if pawnC A (F (w + 1)) g then wPawn A (F (w + 1)) g else F (w + 1)) ∧ agW w F F2 := by
  have hc := WI_c hi
  have hS := sv_is t
  rw [S_pawnOff x _ _ _ _ (sv t) hS, isO_136, if_pos rfl]
  have hh := C_isHow x F G (w := w) (g := g) (h := 0) hw hi hg (by unfold rg; omega)
  rw [lit_0, hh, b_I]
  have no : ∀ F1 : Nat → Fn, m_D x 6 k_Law_pawnOff 21 [some (.ref 136), some (.ref w), some (sv t), some (.int (jI g)), none, none] [.int (jI 0)] (mk F1 G) = some (some (.int (jI (-1))), mk F1 G) := by
    intro F1
    rw [S_pawnOff_21 x 6 (by omega) _ _ _ _ _ (sv t) hS]
    simp (disch := omega) only [lit_0, lit_1, lit_2, lit_3, lit_4, lit_5, lit_6, lit_7, lit_8, lit_9, lit_10, lit_11, lit_12, lit_13, lit_14, lit_15, lit_16, lit_17, lit_18, lit_19, lit_20, lit_21, lit_22, lit_23, lit_24, lit_25, lit_26, lit_27, lit_28, lit_29, lit_30, lit_31, lit_32, lit_33, lit_34, lit_35, lit_36, lit_37, lit_38, lit_39, lit_40, lit_41, lit_42, lit_43, lit_44, lit_45, lit_46, lit_47, lit_48, lit_49, lit_50, lit_51, lit_52, lit_53, lit_54, lit_55, lit_56, lit_57, lit_58, lit_59, lit_60, lit_61, lit_62, lit_63, lit_64, lit_65, lit_67, lit_70, lit_71, lit_73, lit_75, lit_78, lit_84, lit_85, lit_86, lit_87, lit_89, lit_90, lit_91, lit_95, lit_96, lit_97, lit_98, lit_99, lit_100, lit_101, lit_102, lit_103, lit_104, lit_105, lit_107, lit_108, lit_109, lit_110, lit_111, lit_112, lit_114, lit_115, lit_116, lit_117, lit_119, lit_121, lit_122, lit_126, lit_127, lit_128, lit_130, lit_134, lit_137, lit_139, lit_140, lit_141, lit_145, lit_152, lit_159, lit_160, lit_168, lit_174, lit_180, lit_183, lit_192, lit_199, lit_236, lit_251, lit_255, lit_272, lit_284, lit_300, lit_330, lit_373, lit_753, lit_800, lit_896, lit_900, lit_1000, lit_1001, lit_1002, lit_1003, lit_1079, lit_1276, lit_1330, lit_1450, lit_3012, lit_3016, lit_3300, lit_8430, lit_9999, lit_10000, lit_11730, lit_30467, lit_65536, lit_99999, lit_100000, lit_1000000, lit_252645135, lit_858993459, lit_1000000000, lit_1431655765, jI_add, jI_sub, jI_mul, jI_neg, jI_lt, jI_le, jI_eq]
    rw [if_neg (by omega)]
  by_cases q : 0 ≤ g ∧ g < F (w + 1) 25 ∧ F (w + 1) (99 + g) = 0
  · have hgg := WI_g hi q.1 (by omega)
    have hpp := WI_p hi (p := F (w + 1) (39 + g)) (by omega) (by omega)
    rw [if_pos q, if_neg (show ¬ jI 1 = jI 0 by decide)]
    obtain ⟨F1, r1, r2⟩ := C_amount x F G (w := w) (t := t) (s := 3) (q := g) hA hw hi (by omega) (by omega) (by unfold qok; omega)
    have ew : F1 (w + 1) = F (w + 1) := r2 _ (by omega) (by omega)
    have ha := A_r (s := 3) (q := g) (c := F (w + 1)) hA (by omega) (by omega)
    rw [lit_3, r1, b_I, S_pawnOff_21 x 6 (by omega) _ _ _ _ _ (sv t) hS]
    by_cases q2 : 0 < A 3 (F (w + 1)) g
    · have hC : pawnC A (F (w + 1)) g := ⟨q.1, q.2.1, q.2.2, q2⟩
      rw [if_pos hC, if_pos hC]
      simp (disch := first | omega | assumption | (unfold rg; omega)) only [lit_0, lit_1, lit_2, lit_3, lit_4, lit_5, lit_6, lit_7, lit_8, lit_9, lit_10, lit_11, lit_12, lit_13, lit_14, lit_15, lit_16, lit_17, lit_18, lit_19, lit_20, lit_21, lit_22, lit_23, lit_24, lit_25, lit_26, lit_27, lit_28, lit_29, lit_30, lit_31, lit_32, lit_33, lit_34, lit_35, lit_36, lit_37, lit_38, lit_39, lit_40, lit_41, lit_42, lit_43, lit_44, lit_45, lit_46, lit_47, lit_48, lit_49, lit_50, lit_51, lit_52, lit_53, lit_54, lit_55, lit_56, lit_57, lit_58, lit_59, lit_60, lit_61, lit_62, lit_63, lit_64, lit_65, lit_67, lit_70, lit_71, lit_73, lit_75, lit_78, lit_84, lit_85, lit_86, lit_87, lit_89, lit_90, lit_91, lit_95, lit_96, lit_97, lit_98, lit_99, lit_100, lit_101, lit_102, lit_103, lit_104, lit_105, lit_107, lit_108, lit_109, lit_110, lit_111, lit_112, lit_114, lit_115, lit_116, lit_117, lit_119, lit_121, lit_122, lit_126, lit_127, lit_128, lit_130, lit_134, lit_137, lit_139, lit_140, lit_141, lit_145, lit_152, lit_159, lit_160, lit_168, lit_174, lit_180, lit_183, lit_192, lit_199, lit_236, lit_251, lit_255, lit_272, lit_284, lit_300, lit_330, lit_373, lit_753, lit_800, lit_896, lit_900, lit_1000, lit_1001, lit_1002, lit_1003, lit_1079, lit_1276, lit_1330, lit_1450, lit_3012, lit_3016, lit_3300, lit_8430, lit_9999, lit_10000, lit_11730, lit_30467, lit_65536, lit_99999, lit_100000, lit_1000000, lit_252645135, lit_858993459, lit_1000000000, lit_1431655765, jI_add, jI_sub, jI_mul, jI_neg, jI_lt, jI_le, jI_eq, b_I, b_L, b_V, b_R, b_N, b_N0, Option.bind_some, ↓reduceIte, bq0, bq1, bz0, bz1, ite_not, Classical.not_not, C_at, ew]
      rw [if_pos (by omega)]
      simp (disch := first | omega | assumption | (unfold rg; omega)) only [lit_0, lit_1, lit_2, lit_3, lit_4, lit_5, lit_6, lit_7, lit_8, lit_9, lit_10, lit_11, lit_12, lit_13, lit_14, lit_15, lit_16, lit_17, lit_18, lit_19, lit_20, lit_21, lit_22, lit_23, lit_24, lit_25, lit_26, lit_27, lit_28, lit_29, lit_30, lit_31, lit_32, lit_33, lit_34, lit_35, lit_36, lit_37, lit_38, lit_39, lit_40, lit_41, lit_42, lit_43, lit_44, lit_45, lit_46, lit_47, lit_48, lit_49, lit_50, lit_51, lit_52, lit_53, lit_54, lit_55, lit_56, lit_57, lit_58, lit_59, lit_60, lit_61, lit_62, lit_63, lit_64, lit_65, lit_67, lit_70, lit_71, lit_73, lit_75, lit_78, lit_84, lit_85, lit_86, lit_87, lit_89, lit_90, lit_91, lit_95, lit_96, lit_97, lit_98, lit_99, lit_100, lit_101, lit_102, lit_103, lit_104, lit_105, lit_107, lit_108, lit_109, lit_110, lit_111, lit_112, lit_114, lit_115, lit_116, lit_117, lit_119, lit_121, lit_122, lit_126, lit_127, lit_128, lit_130, lit_134, lit_137, lit_139, lit_140, lit_141, lit_145, lit_152, lit_159, lit_160, lit_168, lit_174, lit_180, lit_183, lit_192, lit_199, lit_236, lit_251, lit_255, lit_272, lit_284, lit_300, lit_330, lit_373, lit_753, lit_800, lit_896, lit_900, lit_1000, lit_1001, lit_1002, lit_1003, lit_1079, lit_1276, lit_1330, lit_1450, lit_3012, lit_3016, lit_3300, lit_8430, lit_9999, lit_10000, lit_11730, lit_30467, lit_65536, lit_99999, lit_100000, lit_1000000, lit_252645135, lit_858993459, lit_1000000000, lit_1431655765, jI_add, jI_sub, jI_mul, jI_neg, jI_lt, jI_le, jI_eq, b_I, b_L, b_V, b_R, b_N, b_N0, Option.bind_some, ↓reduceIte, bq0, bq1, bz0, bz1, ite_not, Classical.not_not, C_at, C_min, C_change, ew, sA_eq, sA_sA]
      exact ⟨_, rfl, by rw [sA_eq]; rfl, agW_tr (agW_r r2) (agW_s _ _ _)⟩
    · have hC : ¬ pawnC A (F (w + 1)) g := fun z => q2 z.2.2.2
      rw [if_neg hC, if_neg hC]
      simp (disch := omega) only [lit_0, lit_1, lit_2, lit_3, lit_4, lit_5, lit_6, lit_7, lit_8, lit_9, lit_10, lit_11, lit_12, lit_13, lit_14, lit_15, lit_16, lit_17, lit_18, lit_19, lit_20, lit_21, lit_22, lit_23, lit_24, lit_25, lit_26, lit_27, lit_28, lit_29, lit_30, lit_31, lit_32, lit_33, lit_34, lit_35, lit_36, lit_37, lit_38, lit_39, lit_40, lit_41, lit_42, lit_43, lit_44, lit_45, lit_46, lit_47, lit_48, lit_49, lit_50, lit_51, lit_52, lit_53, lit_54, lit_55, lit_56, lit_57, lit_58, lit_59, lit_60, lit_61, lit_62, lit_63, lit_64, lit_65, lit_67, lit_70, lit_71, lit_73, lit_75, lit_78, lit_84, lit_85, lit_86, lit_87, lit_89, lit_90, lit_91, lit_95, lit_96, lit_97, lit_98, lit_99, lit_100, lit_101, lit_102, lit_103, lit_104, lit_105, lit_107, lit_108, lit_109, lit_110, lit_111, lit_112, lit_114, lit_115, lit_116, lit_117, lit_119, lit_121, lit_122, lit_126, lit_127, lit_128, lit_130, lit_134, lit_137, lit_139, lit_140, lit_141, lit_145, lit_152, lit_159, lit_160, lit_168, lit_174, lit_180, lit_183, lit_192, lit_199, lit_236, lit_251, lit_255, lit_272, lit_284, lit_300, lit_330, lit_373, lit_753, lit_800, lit_896, lit_900, lit_1000, lit_1001, lit_1002, lit_1003, lit_1079, lit_1276, lit_1330, lit_1450, lit_3012, lit_3016, lit_3300, lit_8430, lit_9999, lit_10000, lit_11730, lit_30467, lit_65536, lit_99999, lit_100000, lit_1000000, lit_252645135, lit_858993459, lit_1000000000, lit_1431655765, jI_add, jI_sub, jI_mul, jI_neg, jI_lt, jI_le, jI_eq]
      rw [if_neg (by omega)]
      exact ⟨_, rfl, ew, agW_r r2⟩
  · have hC : ¬ pawnC A (F (w + 1)) g := fun z => q ⟨z.1, z.2.1, z.2.2.1⟩
    rw [if_neg q, if_pos rfl, if_neg hC, if_neg hC, no F]
    exact ⟨_, rfl, rfl, fun _ _ _ _ => rfl⟩
theorem C_buyBack {w : Nat} {t g : Int} {A : Law4} (hA : LA F t A) (hw : w = 1 ∨ w = 51 ∨ w = 101) (hi : WI (F (w + 1))) (hg : rg g) : ∃ F2, m_M x k_Law_buyBack [.ref 136, .ref w, sv t, .int (jI g)] (mk F G) = some (some (.int (jI (if buyC A (F (w + 1)) g then A 3 (F (w + 1)) g else -1))), mk F2 G) ∧ F2 (w + 1) = (if buyC A (F (w + 1)) g then wBuy A (F (w + 1)) g else F (w + 1)) ∧ agW w F F2 := by
  have hc := WI_c hi
  have hS := sv_is t
  rw [S_buyBack x _ _ _ _ (sv t) hS, isO_136, if_pos rfl]
  have hh := C_isHow x F G (w := w) (g := g) (h := 3) hw hi hg (by unfold rg; omega)
  rw [lit_3, hh, b_I]
  by_cases q : 0 ≤ g ∧ g < F (w + 1) 25 ∧ F (w + 1) (99 + g) = 3
  · have hgg := WI_g hi q.1 (by omega)
    have hpp := WI_p hi (p := F (w + 1) (39 + g)) (by omega) (by omega)
    rw [if_pos q, lit_0, if_neg (show ¬ jI 1 = jI 0 by decide)]
    obtain ⟨F1, r1, r2⟩ := C_amount x F G (w := w) (t := t) (s := 3) (q := g) hA hw hi (by omega) (by omega) (by unfold qok; omega)
    have ew : F1 (w + 1) = F (w + 1) := r2 _ (by omega) (by omega)
    have ha := A_r (s := 3) (q := g) (c := F (w + 1)) hA (by omega) (by omega)
    rw [r1, b_I]
    simp (disch := first | omega | assumption | (unfold rg; omega)) only [lit_0, lit_1, lit_2, lit_3, lit_4, lit_5, lit_6, lit_7, lit_8, lit_9, lit_10, lit_11, lit_12, lit_13, lit_14, lit_15, lit_16, lit_17, lit_18, lit_19, lit_20, lit_21, lit_22, lit_23, lit_24, lit_25, lit_26, lit_27, lit_28, lit_29, lit_30, lit_31, lit_32, lit_33, lit_34, lit_35, lit_36, lit_37, lit_38, lit_39, lit_40, lit_41, lit_42, lit_43, lit_44, lit_45, lit_46, lit_47, lit_48, lit_49, lit_50, lit_51, lit_52, lit_53, lit_54, lit_55, lit_56, lit_57, lit_58, lit_59, lit_60, lit_61, lit_62, lit_63, lit_64, lit_65, lit_67, lit_70, lit_71, lit_73, lit_75, lit_78, lit_84, lit_85, lit_86, lit_87, lit_89, lit_90, lit_91, lit_95, lit_96, lit_97, lit_98, lit_99, lit_100, lit_101, lit_102, lit_103, lit_104, lit_105, lit_107, lit_108, lit_109, lit_110, lit_111, lit_112, lit_114, lit_115, lit_116, lit_117, lit_119, lit_121, lit_122, lit_126, lit_127, lit_128, lit_130, lit_134, lit_137, lit_139, lit_140, lit_141, lit_145, lit_152, lit_159, lit_160, lit_168, lit_174, lit_180, lit_183, lit_192, lit_199, lit_236, lit_251, lit_255, lit_272, lit_284, lit_300, lit_330, lit_373, lit_753, lit_800, lit_896, lit_900, lit_1000, lit_1001, lit_1002, lit_1003, lit_1079, lit_1276, lit_1330, lit_1450, lit_3012, lit_3016, lit_3300, lit_8430, lit_9999, lit_10000, lit_11730, lit_30467, lit_65536, lit_99999, lit_100000, lit_1000000, lit_252645135, lit_858993459, lit_1000000000, lit_1431655765, jI_add, jI_sub, jI_mul, jI_neg, jI_lt, jI_le, jI_eq, b_I, b_L, b_V, b_R, b_N, b_N0, Option.bind_some, ↓reduceIte, bq0, bq1, bz0, bz1, ite_not, Classical.not_not, C_at, ew]
    by_cases q2 : A 3 (F (w + 1)) g ≤ F (w + 1) (8 + F (w + 1) (39 + g))
    · have hC : buyC A (F (w + 1)) g := ⟨q.1, q.2.1, q.2.2, q2⟩
      rw [if_pos hC, if_pos hC, if_pos q2]
      simp (disch := first | omega | assumption | (unfold rg; omega)) only [lit_0, lit_1, lit_2, lit_3, lit_4, lit_5, lit_6, lit_7, lit_8, lit_9, lit_10, lit_11, lit_12, lit_13, lit_14, lit_15, lit_16, lit_17, lit_18, lit_19, lit_20, lit_21, lit_22, lit_23, lit_24, lit_25, lit_26, lit_27, lit_28, lit_29, lit_30, lit_31, lit_32, lit_33, lit_34, lit_35, lit_36, lit_37, lit_38, lit_39, lit_40, lit_41, lit_42, lit_43, lit_44, lit_45, lit_46, lit_47, lit_48, lit_49, lit_50, lit_51, lit_52, lit_53, lit_54, lit_55, lit_56, lit_57, lit_58, lit_59, lit_60, lit_61, lit_62, lit_63, lit_64, lit_65, lit_67, lit_70, lit_71, lit_73, lit_75, lit_78, lit_84, lit_85, lit_86, lit_87, lit_89, lit_90, lit_91, lit_95, lit_96, lit_97, lit_98, lit_99, lit_100, lit_101, lit_102, lit_103, lit_104, lit_105, lit_107, lit_108, lit_109, lit_110, lit_111, lit_112, lit_114, lit_115, lit_116, lit_117, lit_119, lit_121, lit_122, lit_126, lit_127, lit_128, lit_130, lit_134, lit_137, lit_139, lit_140, lit_141, lit_145, lit_152, lit_159, lit_160, lit_168, lit_174, lit_180, lit_183, lit_192, lit_199, lit_236, lit_251, lit_255, lit_272, lit_284, lit_300, lit_330, lit_373, lit_753, lit_800, lit_896, lit_900, lit_1000, lit_1001, lit_1002, lit_1003, lit_1079, lit_1276, lit_1330, lit_1450, lit_3012, lit_3016, lit_3300, lit_8430, lit_9999, lit_10000, lit_11730, lit_30467, lit_65536, lit_99999, lit_100000, lit_1000000, lit_252645135, lit_858993459, lit_1000000000, lit_1431655765, jI_add, jI_sub, jI_mul, jI_neg, jI_lt, jI_le, jI_eq, b_I, b_L, b_V, b_R, b_N, b_N0, Option.bind_some, ↓reduceIte, bq0, bq1, bz0, bz1, ite_not, Classical.not_not, C_change, ew, sA_eq, sA_sA]
      exact ⟨_, rfl, by rw [sA_eq]; rfl, agW_tr (agW_r r2) (agW_s _ _ _)⟩
    · have hC : ¬ buyC A (F (w + 1)) g := fun z => q2 z.2.2.2
      rw [if_neg hC, if_neg hC, if_neg q2]
      exact ⟨_, rfl, ew, agW_r r2⟩
  · have hC : ¬ buyC A (F (w + 1)) g := fun z => q ⟨z.1, z.2.1, z.2.2.1⟩
    rw [if_neg q, lit_0, if_pos rfl, if_neg hC, if_neg hC]
    exact ⟨_, by simp only [lit_0, lit_1, lit_2, lit_3, lit_4, lit_5, lit_6, lit_7, lit_8, lit_9, lit_10, lit_11, lit_12, lit_13, lit_14, lit_15, lit_16, lit_17, lit_18, lit_19, lit_20, lit_21, lit_22, lit_23, lit_24, lit_25, lit_26, lit_27, lit_28, lit_29, lit_30, lit_31, lit_32, lit_33, lit_34, lit_35, lit_36, lit_37, lit_38, lit_39, lit_40, lit_41, lit_42, lit_43, lit_44, lit_45, lit_46, lit_47, lit_48, lit_49, lit_50, lit_51, lit_52, lit_53, lit_54, lit_55, lit_56, lit_57, lit_58, lit_59, lit_60, lit_61, lit_62, lit_63, lit_64, lit_65, lit_67, lit_70, lit_71, lit_73, lit_75, lit_78, lit_84, lit_85, lit_86, lit_87, lit_89, lit_90, lit_91, lit_95, lit_96, lit_97, lit_98, lit_99, lit_100, lit_101, lit_102, lit_103, lit_104, lit_105, lit_107, lit_108, lit_109, lit_110, lit_111, lit_112, lit_114, lit_115, lit_116, lit_117, lit_119, lit_121, lit_122, lit_126, lit_127, lit_128, lit_130, lit_134, lit_137, lit_139, lit_140, lit_141, lit_145, lit_152, lit_159, lit_160, lit_168, lit_174, lit_180, lit_183, lit_192, lit_199, lit_236, lit_251, lit_255, lit_272, lit_284, lit_300, lit_330, lit_373, lit_753, lit_800, lit_896, lit_900, lit_1000, lit_1001, lit_1002, lit_1003, lit_1079, lit_1276, lit_1330, lit_1450, lit_3012, lit_3016, lit_3300, lit_8430, lit_9999, lit_10000, lit_11730, lit_30467, lit_65536, lit_99999, lit_100000, lit_1000000, lit_252645135, lit_858993459, lit_1000000000, lit_1431655765, jI_add, jI_sub, jI_mul, jI_neg], rfl, fun _ _ _ _ => rfl⟩
theorem M_canPledge {g : Int} {A : Law4} (hA : LA F (F 150 2) A) (hi : WI (V (F 150))) (hg : rg g) : ∃ F2 G2, m_M x k_M_canPledge [.ref 149, .int (jI g)] (mk F G) = some (some (.int (jI (if pawnC A (V (F 150)) g then 1 else 0))), mk F2 G2) ∧ agN F F2 ∧ agG G G2 := by
  have hc := WI_c hi
  rw [E_M_canPledge, isO_149, if_pos rfl, M_isOwed x F G hi hg, b_I]
  by_cases q : 0 ≤ g ∧ g < V (F 150) 25 ∧ V (F 150) (99 + g) = 0
  · obtain ⟨F1, G1, r1, r2, r3⟩ := M_pawnOf x F G (g := g) hA hi q.1 (by omega)
    have ha := A_r (s := 3) (q := g) (c := V (F 150)) hA (by omega) (by omega)
    rw [if_pos q, if_neg (show ¬ jI 1 = 0 by decide), r1, b_I]
    simp (disch := omega) only [lit_0, lit_1, lit_2, lit_3, lit_4, lit_5, lit_6, lit_7, lit_8, lit_9, lit_10, lit_11, lit_12, lit_13, lit_14, lit_15, lit_16, lit_17, lit_18, lit_19, lit_20, lit_21, lit_22, lit_23, lit_24, lit_25, lit_26, lit_27, lit_28, lit_29, lit_30, lit_31, lit_32, lit_33, lit_34, lit_35, lit_36, lit_37, lit_38, lit_39, lit_40, lit_41, lit_42, lit_43, lit_44, lit_45, lit_46, lit_47, lit_48, lit_49, lit_50, lit_51, lit_52, lit_53, lit_54, lit_55, lit_56, lit_57, lit_58, lit_59, lit_60, lit_61, lit_62, lit_63, lit_64, lit_65, lit_67, lit_70, lit_71, lit_73, lit_75, lit_78, lit_84, lit_85, lit_86, lit_87, lit_89, lit_90, lit_91, lit_95, lit_96, lit_97, lit_98, lit_99, lit_100, lit_101, lit_102, lit_103, lit_104, lit_105, lit_107, lit_108, lit_109, lit_110, lit_111, lit_112, lit_114, lit_115, lit_116, lit_117, lit_119, lit_121, lit_122, lit_126, lit_127, lit_128, lit_130, lit_134, lit_137, lit_139, lit_140, lit_141, lit_145, lit_152, lit_159, lit_160, lit_168, lit_174, lit_180, lit_183, lit_192, lit_199, lit_236, lit_251, lit_255, lit_272, lit_284, lit_300, lit_330, lit_373, lit_753, lit_800, lit_896, lit_900, lit_1000, lit_1001, lit_1002, lit_1003, lit_1079, lit_1276, lit_1330, lit_1450, lit_3012, lit_3016, lit_3300, lit_8430, lit_9999, lit_10000, lit_11730, lit_30467, lit_65536, lit_99999, lit_100000, lit_1000000, lit_252645135, lit_858993459, lit_1000000000, lit_1431655765, jI_lt, jI_le, jI_eq]
    by_cases q2 : A 3 (V (F 150)) g ≤ 0
    · rw [if_pos q2, if_neg (fun z => by have := z.2.2.2; omega)]
      exact ⟨F1, G1, rfl, r2, r3⟩
    · rw [if_neg q2, if_pos ⟨q.1, q.2.1, q.2.2, by omega⟩]
      exact ⟨F1, G1, rfl, r2, r3⟩
  · rw [if_neg q, if_pos (show jI 0 = 0 by decide), if_neg (fun z => q ⟨z.1, z.2.1, z.2.2.1⟩)]
    exact ⟨F, G, rfl, fun _ _ _ => rfl, fun _ _ => rfl⟩
theorem M_gain {p k : Int} (hi : WI (V (F 150))) (h0 : 0 ≤ p) (h1 : p < 7) (h2 : -99 ≤ k) (h3 : k ≤ 99) (h4 : 0 ≤ V (F 150) (8 + p) + k) : m_M x k_M_gain [.ref 149, .int (jI p), .int (jI k)] (mk F G) = some (none, mk (sA F 150 (u (F 150) (13 + p) (min (V (F 150) (8 + p) + k) 9999))) G) := by
  have hp := WI_p hi h0 h1
  have em : (if V (F 150) (8 + p) + k < 0 then 0 else if 9999 < V (F 150) (8 + p) + k then 9999 else V (F 150) (8 + p) + k) = min (V (F 150) (8 + p) + k) 9999 := by
    repeat' split
    all_goals omega
  rw [E_M_gain]
  simp (disch := first | omega | assumption | (unfold rg; omega)) only [lit_0, lit_1, lit_2, lit_3, lit_4, lit_5, lit_6, lit_7, lit_8, lit_9, lit_10, lit_11, lit_12, lit_13, lit_14, lit_15, lit_16, lit_17, lit_18, lit_19, lit_20, lit_21, lit_22, lit_23, lit_24, lit_25, lit_26, lit_27, lit_28, lit_29, lit_30, lit_31, lit_32, lit_33, lit_34, lit_35, lit_36, lit_37, lit_38, lit_39, lit_40, lit_41, lit_42, lit_43, lit_44, lit_45, lit_46, lit_47, lit_48, lit_49, lit_50, lit_51, lit_52, lit_53, lit_54, lit_55, lit_56, lit_57, lit_58, lit_59, lit_60, lit_61, lit_62, lit_63, lit_64, lit_65, lit_67, lit_70, lit_71, lit_73, lit_75, lit_78, lit_84, lit_85, lit_86, lit_87, lit_89, lit_90, lit_91, lit_95, lit_96, lit_97, lit_98, lit_99, lit_100, lit_101, lit_102, lit_103, lit_104, lit_105, lit_107, lit_108, lit_109, lit_110, lit_111, lit_112, lit_114, lit_115, lit_116, lit_117, lit_119, lit_121, lit_122, lit_126, lit_127, lit_128, lit_130, lit_134, lit_137, lit_139, lit_140, lit_141, lit_145, lit_152, lit_159, lit_160, lit_168, lit_174, lit_180, lit_183, lit_192, lit_199, lit_236, lit_251, lit_255, lit_272, lit_284, lit_300, lit_330, lit_373, lit_753, lit_800, lit_896, lit_900, lit_1000, lit_1001, lit_1002, lit_1003, lit_1079, lit_1276, lit_1330, lit_1450, lit_3012, lit_3016, lit_3300, lit_8430, lit_9999, lit_10000, lit_11730, lit_30467, lit_65536, lit_99999, lit_100000, lit_1000000, lit_252645135, lit_858993459, lit_1000000000, lit_1431655765, jI_add, jI_sub, jI_mul, jI_neg, b_I, b_L, b_V, b_R, b_N, b_N0, Option.bind_some, ↓reduceIte, bq0, bq1, bz0, bz1, ite_not, Classical.not_not, isO_149, fR_149_0, va_c, jI_toL, M_cut, em, is_150]
theorem M_pledgeNow {g : Int} {A : Law4} (hA : LA F (F 150 2) A) (hi : WI (V (F 150))) (h0 : 0 ≤ g) (h1 : g < 12) : ∃ F2 G2, m_M x k_M_pledgeNow [.ref 149, .int (jI g)] (mk F G) = some (some (.int (jI (A 3 (V (F 150)) g))), mk F2 G2) ∧ F2 150 = mPawn A (F 150) g ∧ agL F F2 ∧ agG G G2 := by
  have hg := WI_g hi h0 h1
  have hp := WI_p hi (p := V (F 150) (39 + g)) (by omega) (by omega)
  have ha := A_r (s := 3) (q := g) (c := V (F 150)) hA (by omega) (by omega)
  obtain ⟨F1, G1, r1, r2, r3⟩ := M_pawnOf x F G (g := g) hA hi h0 h1
  have e150 : F1 150 = F 150 := r2 _ (by omega) (by omega)
  have hgn := M_gain x F1 G1 (p := V (F 150) (39 + g)) (k := A 3 (V (F 150)) g) (by rw [e150]; exact hi) (by omega) (by omega) (by omega) (by omega) (by rw [e150]; omega)
  rw [e150] at hgn
  rw [E_M_pledgeNow, isO_149, if_pos rfl, r1, b_I]
  simp (disch := omega) only [lit_0, lit_1, lit_2, lit_3, lit_4, lit_5, lit_6, lit_7, lit_8, lit_9, lit_10, lit_11, lit_12, lit_13, lit_14, lit_15, lit_16, lit_17, lit_18, lit_19, lit_20, lit_21, lit_22, lit_23, lit_24, lit_25, lit_26, lit_27, lit_28, lit_29, lit_30, lit_31, lit_32, lit_33, lit_34, lit_35, lit_36, lit_37, lit_38, lit_39, lit_40, lit_41, lit_42, lit_43, lit_44, lit_45, lit_46, lit_47, lit_48, lit_49, lit_50, lit_51, lit_52, lit_53, lit_54, lit_55, lit_56, lit_57, lit_58, lit_59, lit_60, lit_61, lit_62, lit_63, lit_64, lit_65, lit_67, lit_70, lit_71, lit_73, lit_75, lit_78, lit_84, lit_85, lit_86, lit_87, lit_89, lit_90, lit_91, lit_95, lit_96, lit_97, lit_98, lit_99, lit_100, lit_101, lit_102, lit_103, lit_104, lit_105, lit_107, lit_108, lit_109, lit_110, lit_111, lit_112, lit_114, lit_115, lit_116, lit_117, lit_119, lit_121, lit_122, lit_126, lit_127, lit_128, lit_130, lit_134, lit_137, lit_139, lit_140, lit_141, lit_145, lit_152, lit_159, lit_160, lit_168, lit_174, lit_180, lit_183, lit_192, lit_199, lit_236, lit_251, lit_255, lit_272, lit_284, lit_300, lit_330, lit_373, lit_753, lit_800, lit_896, lit_900, lit_1000, lit_1001, lit_1002, lit_1003, lit_1079, lit_1276, lit_1330, lit_1450, lit_3012, lit_3016, lit_3300, lit_8430, lit_9999, lit_10000, lit_11730, lit_30467, lit_65536, lit_99999, lit_100000, lit_1000000, lit_252645135, lit_858993459, lit_1000000000, lit_1431655765, M_get, Int.reduceMul, Int.reduceAdd, b_I, b_L, b_V, b_R, b_N, b_N0, Option.bind_some, ↓reduceIte, bq0, bq1, bz0, bz1, ite_not, Classical.not_not, e150, hgn, M_put, sA_eq, sA_sA]
  exact ⟨_, _, rfl, by rw [sA_eq]; rfl, agL_tr (agL_N r2) (agL_0 _ _), r3⟩
theorem M_pledge {g : Int} {A : Law4} (hA : LA F (F 150 2) A) (hi : WI (V (F 150))) (hs0 : 0 ≤ F 150 3) (hs1 : F 150 3 ≤ 30) (hg : rg g) : ∃ F2 G2, m_M x k_M_pledge [.ref 149, .int (jI g)] (mk F G) = some (some (.int (jI (if pawnC A (V (F 150)) g then A 3 (V (F 150)) g else -1))), mk F2 G2) ∧ F2 150 = (if pawnC A (V (F 150)) g then mPawn A (mKeep (F 150)) g else F 150) ∧ agL F F2 ∧ agG G G2 := by
  have hc := WI_c hi
  obtain ⟨F1, G1, r1, r2, r3⟩ := M_canPledge x F G hA hi hg
  have e150 : F1 150 = F 150 := r2 _ (by omega) (by omega)
  rw [E_M_pledge, isO_149, if_pos rfl, r1, b_I]
  by_cases hC : pawnC A (V (F 150)) g
  · rw [if_pos hC, if_pos hC, if_pos hC, if_neg (show ¬ jI 1 = 0 by decide), M_keep x F1 G1 (by rw [e150]; exact hs0) (by rw [e150]; exact hs1), b_V, e150]
    have ek : sA F1 150 (mKeep (F 150)) 150 = mKeep (F 150) := sA_eq _ _ _
    have ev := V_keep hs0 hs1
    have ag1 : agL F (sA F1 150 (mKeep (F 150))) := agL_tr (agL_N r2) (agL_0 _ _)
    obtain ⟨F2, G2, s1, s2, s3, s4⟩ := M_pledgeNow x (sA F1 150 (mKeep (F 150))) G1 (g := g) (A := A) (by rw [ek, mKeep_lo (by omega) (by omega) hs0 hs1]; exact LA_cg (agL_T ag1) hA) (by rw [ek, ev]; exact hi) hC.1 (by omega)
    rw [ek, ev] at s1
    rw [ek] at s2
    rw [s1, b_I]
    exact ⟨F2, G2, rfl, s2, agL_tr ag1 s3, agG_tr r3 s4⟩
  · rw [if_neg hC, if_neg hC, if_neg hC, if_pos (show jI 0 = 0 by decide)]
    exact ⟨F1, G1, by simp only [lit_0, lit_1, lit_2, lit_3, lit_4, lit_5, lit_6, lit_7, lit_8, lit_9, lit_10, lit_11, lit_12, lit_13, lit_14, lit_15, lit_16, lit_17, lit_18, lit_19, lit_20, lit_21, lit_22, lit_23, lit_24, lit_25, lit_26, lit_27, lit_28, lit_29, lit_30, lit_31, lit_32, lit_33, lit_34, lit_35, lit_36, lit_37, lit_38, lit_39, lit_40, lit_41, lit_42, lit_43, lit_44, lit_45, lit_46, lit_47, lit_48, lit_49, lit_50, lit_51, lit_52, lit_53, lit_54, lit_55, lit_56, lit_57, lit_58, lit_59, lit_60, lit_61, lit_62, lit_63, lit_64, lit_65, lit_67, lit_70, lit_71, lit_73, lit_75, lit_78, lit_84, lit_85, lit_86, lit_87, lit_89, lit_90, lit_91, lit_95, lit_96, lit_97, lit_98, lit_99, lit_100, lit_101, lit_102, lit_103, lit_104, lit_105, lit_107, lit_108, lit_109, lit_110, lit_111, lit_112, lit_114, lit_115, lit_116, lit_117, lit_119, lit_121, lit_122, lit_126, lit_127, lit_128, lit_130, lit_134, lit_137, lit_139, lit_140, lit_141, lit_145, lit_152, lit_159, lit_160, lit_168, lit_174, lit_180, lit_183, lit_192, lit_199, lit_236, lit_251, lit_255, lit_272, lit_284, lit_300, lit_330, lit_373, lit_753, lit_800, lit_896, lit_900, lit_1000, lit_1001, lit_1002, lit_1003, lit_1079, lit_1276, lit_1330, lit_1450, lit_3012, lit_3016, lit_3300, lit_8430, lit_9999, lit_10000, lit_11730, lit_30467, lit_65536, lit_99999, lit_100000, lit_1000000, lit_252645135, lit_858993459, lit_1000000000, lit_1431655765, jI_add, jI_sub, jI_mul, jI_neg], e150, agL_N r2, r3⟩
theorem M_redeem {g : Int} {A : Law4} (hA : LA F (F 150 2) A) (hi : WI (V (F 150))) (hs0 : 0 ≤ F 150 3) (hs1 : F 150 3 ≤ 30) (hg : rg g) : ∃ F2 G2, m_M x k_M_redeem [.ref 149, .int (jI g)] (mk F G) = some (some (.int (jI (if buyC A (V (F 150)) g then A 3 (V (F 150)) g else -1))), mk F2 G2) ∧ F2 150 = (if buyC A (V (F 150)) g then mBuy A (mKeep (F 150)) g else F 150) ∧ agL F F2 ∧ agG G G2 := by
  have hc := WI_c hi
  rw [E_M_redeem, isO_149, if_pos rfl, M_isGlove x F G hi hg, b_I]
  by_cases q : 0 ≤ g ∧ g < V (F 150) 25
  · have hgg := WI_g hi q.1 (by omega)
    have hpp := WI_p hi (p := V (F 150) (39 + g)) (by omega) (by omega)
    rw [if_pos q, if_neg (show ¬ jI 1 = 0 by decide)]
    have m6 := M_get x F G (g := g) (k := 6) q.1 (by omega) (by omega) (by omega)
    simp only [Int.reduceMul, Int.reduceAdd] at m6
    rw [lit_6, m6, b_I]
    by_cases q3 : V (F 150) (99 + g) = 3
    · have q3' : jI (V (F 150) (99 + g)) = 3 := by rw [q3]; decide
      obtain ⟨F1, G1, r1, r2, r3⟩ := M_pawnOf x F G (g := g) hA hi q.1 (by omega)
      have e150 : F1 150 = F 150 := r2 _ (by omega) (by omega)
      have ha := A_r (s := 3) (q := g) (c := V (F 150)) hA (by omega) (by omega)
      have m1 := M_get x F G (g := g) (k := 1) q.1 (by omega) (by omega) (by omega)
      simp only [Int.reduceMul, Int.reduceAdd] at m1
      rw [if_pos q3', fR_149_0, Option.bind_some, lit_1, m1, b_I, lit_13, jI_add, va_c x F G (by omega) (by omega), Option.bind_some, r1, b_I]
      by_cases q2 : A 3 (V (F 150)) g ≤ V (F 150) (8 + V (F 150) (39 + g))
      · have hC : buyC A (V (F 150)) g := ⟨q.1, q.2, q3, q2⟩
        have q2' : jI (A 3 (V (F 150)) g) ≤ jI (V (F 150) (8 + V (F 150) (39 + g))) := by
          rw [jI_le (by omega) (by omega) (by omega) (by omega)]
          exact q2
        rw [if_pos q2', if_pos hC, if_pos hC, M_keep x F1 G1 (by rw [e150]; exact hs0) (by rw [e150]; exact hs1), b_V, e150]
        have ek : sA F1 150 (mKeep (F 150)) 150 = mKeep (F 150) := sA_eq _ _ _
        have ev := V_keep hs0 hs1
        have ag1 : agL F (sA F1 150 (mKeep (F 150))) := agL_tr (agL_N r2) (agL_0 _ _)
        obtain ⟨F2, G2, s1, s2, s3⟩ := M_pawnOf x (sA F1 150 (mKeep (F 150))) G1 (g := g) (A := A) (by rw [ek, mKeep_lo (by omega) (by omega) hs0 hs1]; exact LA_cg (agL_T ag1) hA) (by rw [ek, ev]; exact hi) q.1 (by omega)
        rw [ek, ev] at s1
        have f150 : F2 150 = mKeep (F 150) := (s2 _ (by omega) (by omega)).trans ek
        have hgn := M_gain x F2 G2 (p := V (F 150) (39 + g)) (k := -A 3 (V (F 150)) g) (by rw [f150, ev]; exact hi) (by omega) (by omega) (by omega) (by omega) (by rw [f150, ev]; omega)
        rw [f150, ev] at hgn
        have em : min (V (F 150) (8 + V (F 150) (39 + g)) + -A 3 (V (F 150)) g) 9999 = V (F 150) (8 + V (F 150) (39 + g)) - A 3 (V (F 150)) g := by omega
        rw [em] at hgn
        have m1' := M_get x F2 G2 (g := g) (k := 1) q.1 (by omega) (by omega) (by omega)
        simp only [Int.reduceMul, Int.reduceAdd, f150, ev] at m1'
        rw [s1, b_I, m1', b_I, jI_neg, hgn, b_V, lit_0, M_put x _ G2 q.1 (by omega) (by omega) (by omega), b_V, sA_eq, sA_sA]
        refine ⟨_, _, rfl, ?_, agL_tr (agL_tr ag1 (agL_N s2)) (agL_0 _ _), agG_tr r3 s3⟩
        rw [sA_eq]
        unfold mBuy
        rw [ev]
      · have hC : ¬ buyC A (V (F 150)) g := fun z => q2 z.2.2.2
        have q2' : ¬ jI (A 3 (V (F 150)) g) ≤ jI (V (F 150) (8 + V (F 150) (39 + g))) := by
          rw [jI_le (by omega) (by omega) (by omega) (by omega)]
          exact q2
        rw [if_neg q2', if_neg hC, if_neg hC]
        exact ⟨F1, G1, by simp only [jI_add, jI_sub, jI_mul, jI_neg], e150, agL_N r2, r3⟩
    · have hC : ¬ buyC A (V (F 150)) g := fun z => q3 z.2.2.1
      have q3' : ¬ jI (V (F 150) (99 + g)) = 3 := by
        rw [lit_3, jI_eq (by omega) (by omega) (by omega) (by omega)]
        exact q3
      rw [if_neg q3', if_neg hC, if_neg hC]
      exact ⟨F, G, by simp only [lit_0, lit_1, lit_2, lit_3, lit_4, lit_5, lit_6, lit_7, lit_8, lit_9, lit_10, lit_11, lit_12, lit_13, lit_14, lit_15, lit_16, lit_17, lit_18, lit_19, lit_20, lit_21, lit_22, lit_23, lit_24, lit_25, lit_26, lit_27, lit_28, lit_29, lit_30, lit_31, lit_32, lit_33, lit_34, lit_35, lit_36, lit_37, lit_38, lit_39, lit_40, lit_41, lit_42, lit_43, lit_44, lit_45, lit_46, lit_47, lit_48, lit_49, lit_50, lit_51, lit_52, lit_53, lit_54, lit_55, lit_56, lit_57, lit_58, lit_59, lit_60, lit_61, lit_62, lit_63, lit_64, lit_65, lit_67, lit_70, lit_71, lit_73, lit_75, lit_78, lit_84, lit_85, lit_86, lit_87, lit_89, lit_90, lit_91, lit_95, lit_96, lit_97, lit_98, lit_99, lit_100, lit_101, lit_102, lit_103, lit_104, lit_105, lit_107, lit_108, lit_109, lit_110, lit_111, lit_112, lit_114, lit_115, lit_116, lit_117, lit_119, lit_121, lit_122, lit_126, lit_127, lit_128, lit_130, lit_134, lit_137, lit_139, lit_140, lit_141, lit_145, lit_152, lit_159, lit_160, lit_168, lit_174, lit_180, lit_183, lit_192, lit_199, lit_236, lit_251, lit_255, lit_272, lit_284, lit_300, lit_330, lit_373, lit_753, lit_800, lit_896, lit_900, lit_1000, lit_1001, lit_1002, lit_1003, lit_1079, lit_1276, lit_1330, lit_1450, lit_3012, lit_3016, lit_3300, lit_8430, lit_9999, lit_10000, lit_11730, lit_30467, lit_65536, lit_99999, lit_100000, lit_1000000, lit_252645135, lit_858993459, lit_1000000000, lit_1431655765, jI_add, jI_sub, jI_mul, jI_neg], rfl, fun _ _ _ _ _ => rfl, fun _ _ => rfl⟩
  · have hC : ¬ buyC A (V (F 150)) g := fun z => q ⟨z.1, z.2.1⟩
    rw [if_neg q, if_pos (show jI 0 = 0 by decide), if_neg hC, if_neg hC]
    exact ⟨F, G, by simp only [lit_0, lit_1, lit_2, lit_3, lit_4, lit_5, lit_6, lit_7, lit_8, lit_9, lit_10, lit_11, lit_12, lit_13, lit_14, lit_15, lit_16, lit_17, lit_18, lit_19, lit_20, lit_21, lit_22, lit_23, lit_24, lit_25, lit_26, lit_27, lit_28, lit_29, lit_30, lit_31, lit_32, lit_33, lit_34, lit_35, lit_36, lit_37, lit_38, lit_39, lit_40, lit_41, lit_42, lit_43, lit_44, lit_45, lit_46, lit_47, lit_48, lit_49, lit_50, lit_51, lit_52, lit_53, lit_54, lit_55, lit_56, lit_57, lit_58, lit_59, lit_60, lit_61, lit_62, lit_63, lit_64, lit_65, lit_67, lit_70, lit_71, lit_73, lit_75, lit_78, lit_84, lit_85, lit_86, lit_87, lit_89, lit_90, lit_91, lit_95, lit_96, lit_97, lit_98, lit_99, lit_100, lit_101, lit_102, lit_103, lit_104, lit_105, lit_107, lit_108, lit_109, lit_110, lit_111, lit_112, lit_114, lit_115, lit_116, lit_117, lit_119, lit_121, lit_122, lit_126, lit_127, lit_128, lit_130, lit_134, lit_137, lit_139, lit_140, lit_141, lit_145, lit_152, lit_159, lit_160, lit_168, lit_174, lit_180, lit_183, lit_192, lit_199, lit_236, lit_251, lit_255, lit_272, lit_284, lit_300, lit_330, lit_373, lit_753, lit_800, lit_896, lit_900, lit_1000, lit_1001, lit_1002, lit_1003, lit_1079, lit_1276, lit_1330, lit_1450, lit_3012, lit_3016, lit_3300, lit_8430, lit_9999, lit_10000, lit_11730, lit_30467, lit_65536, lit_99999, lit_100000, lit_1000000, lit_252645135, lit_858993459, lit_1000000000, lit_1431655765, jI_add, jI_sub, jI_mul, jI_neg], rfl, fun _ _ _ _ _ => rfl, fun _ _ => rfl⟩
end
