-- what a law amounts to: class and model
def lim (s : Int) : Int := if s = 2 then 9 else 99
def pl (s : Int) (c : Fn) (q : Int) : Int := if s = 0 then c 23 * bare c q else if s = 1 then rights c q else if s = 2 then 1 else c (51 + q) / 2
def cl (s v : Int) : Int := max 0 (min v (lim s))
def Ls (F : Nat → Fn) (t s : Int) (B : Fn → Int → Int) : Prop :=
  ((t = -1 ∨ (0 ≤ t ∧ t < 4 ∧ F (104 + 6 * t.toNat + 5) s = -1 ∧ 0 ≤ F 152 (753 * t) ∧ F 152 (753 * t) ≤ 24 ∧ ∀ k, 0 ≤ k → k < F 152 (753 * t) → 0 ≤ F 152 (753 * t + 1 + 6 * k) ∧ F 152 (753 * t + 1 + 6 * k) ≤ 11 ∧ ¬ F 152 (753 * t + 1 + 6 * k) = s)) ∧ ∀ c q, B c q = cl s (pl s c q))
  ∨ (0 ≤ t ∧ t < 4 ∧ ∃ (k : Int) (f : LEnv), F (104 + 6 * t.toNat + 5) s = k ∧ 0 ≤ k ∧ k < F 152 (753 * t) ∧ F (104 + 6 * t.toNat) 5 = F 152 (753 * t) ∧ F 152 (753 * t) ≤ 24 ∧ F 152 (753 * t + 1 + 6 * k) = s ∧ (∀ k', 0 ≤ k' → k' < k → 0 ≤ F 152 (753 * t + 1 + 6 * k') ∧ F 152 (753 * t + 1 + 6 * k') ≤ 11 ∧ ¬ F 152 (753 * t + 1 + 6 * k') = s) ∧ 0 ≤ F (104 + 6 * t.toNat + 2) k ∧ F (104 + 6 * t.toNat + 3) k ≤ 300 ∧ (∀ nm lf, okE nm lf → bd (f nm lf)) ∧ CC s (F (104 + 6 * t.toNat + 4)) (F (104 + 6 * t.toNat + 2) k) (F (104 + 6 * t.toNat + 3) k) f 50 ∧ MCo s (fun j => F 152 (753 * t + 145 + j)) (F 152 (753 * t + 1 + 6 * k + 1)) (F 152 (753 * t + 1 + 6 * k + 2)) f ∧ 0 ≤ F 152 (753 * t + 1 + 6 * k + 1) ∧ F 152 (753 * t + 1 + 6 * k + 2) ≤ 304 ∧ ∀ c q, B c q = cl s (f (nmR s c q) (lefts c)))
def LA (F : Nat → Fn) (t : Int) (A : Int → Fn → Int → Int) : Prop := (t = -1 ∨ (0 ≤ t ∧ t < 4)) ∧ ∀ s, 0 ≤ s → s ≤ 3 → Ls F t s (A s)
/-- the script that a class's text number stands for -/
def sv (t : Int) : Value := if t < 0 then .null else .ref (104 + 6 * t.toNat)
/-- kinds and codes of all scripts, and the model's texts, are as they were -/
def agT (F F1 : Nat → Fn) : Prop := (∀ b, 104 ≤ b → b < 128 → F1 b = F b) ∧ F1 152 = F 152
theorem LA_cg {F F1 : Nat → Fn} {t : Int} {A : Int → Fn → Int → Int} (h : agT F F1) (hA : LA F t A) : LA F1 t A := by
  refine ⟨hA.1, ?_⟩
  intro s h0 h1
  have q := hA.2 s h0 h1
  rcases hA.1 with ht | ht
  · rcases q with ⟨_, q⟩ | ⟨q, _⟩
    · exact Or.inl ⟨Or.inl ht, q⟩
    · omega
  · have e : ∀ j, j < 6 → F1 (104 + 6 * t.toNat + j) = F (104 + 6 * t.toNat + j) := fun j hj => h.1 _ (by omega) (by omega)
    have e0 : F1 (104 + 6 * t.toNat) = F (104 + 6 * t.toNat) := e 0 (by omega)
    unfold Ls
    rw [h.2, e 2 (by omega), e 3 (by omega), e 4 (by omega), e 5 (by omega), e0]
    exact q
theorem TX_Ls {F : Nat → Fn} {t : Nat} {s : Int} (ht : t < 4) (h : TX F t) (h0 : 0 ≤ s) (h1 : s ≤ 3) : ∃ B, Ls F t s B := by
  obtain ⟨⟨a1, a2, a3⟩, b, c, d⟩ := h
  have e : ((t : Int)).toNat = t := by omega
  rcases d s h0 h1 with ⟨d1, d2⟩ | ⟨d1, d2, d3, d4, f, f1, f2, f3, f4, f5⟩
  · refine ⟨fun c q => cl s (pl s c q), Or.inl ⟨Or.inr ⟨by omega, by omega, by rw [e]; exact d1, by rw [a3]; omega, by rw [a3]; omega, ?_⟩, fun _ _ => rfl⟩⟩
    intro k k0 k1
    rw [a3] at k1
    have q := b k k0 k1
    rw [q.2.2.1]
    exact ⟨q.1, q.2.1, d2 k k0 k1⟩
  · have q := b _ d1 d2
    refine ⟨fun c q => cl s (f (nmR s c q) (lefts c)), Or.inr ⟨by omega, by omega, _, f, by rw [e], d1, by rw [a3]; exact d2, by rw [e, a3], by omega, by rw [q.2.2.1]; exact d3, ?_, by rw [e]; exact q.2.2.2.1, by rw [e]; exact q.2.2.2.2.2, f1, by rw [e]; exact f2, f3, f4, f5, fun _ _ => rfl⟩⟩
    intro k k0 k1
    have q := b k k0 (by omega)
    rw [q.2.2.1]
    exact ⟨q.1, q.2.1, d4 k k0 k1⟩
theorem LA_ex {F : Nat → Fn} {t : Int} (ht : t = -1 ∨ (0 ≤ t ∧ t < 4 ∧ TX F t.toNat)) : ∃ A, LA F t A := by
  have hs : ∀ s, 0 ≤ s → s ≤ 3 → ∃ B, Ls F t s B := by
    intro s h0 h1
    rcases ht with rfl | ⟨h2, h3, h4⟩
    · exact ⟨fun c q => cl s (pl s c q), Or.inl ⟨Or.inl rfl, fun _ _ => rfl⟩⟩
    · have q := TX_Ls (s := s) (by omega) h4 h0 h1
      have e : ((t.toNat : Nat) : Int) = t := by omega
      rw [e] at q
      exact q
  obtain ⟨B0, h0⟩ := hs 0 (by omega) (by omega)
  obtain ⟨B1, h1⟩ := hs 1 (by omega) (by omega)
  obtain ⟨B2, h2⟩ := hs 2 (by omega) (by omega)
  obtain ⟨B3, h3⟩ := hs 3 (by omega) (by omega)
  refine ⟨fun s => if s = 0 then B0 else if s = 1 then B1 else if s = 2 then B2 else B3, by omega, ?_⟩
  intro s s0 s1
  have e : s = 0 ∨ s = 1 ∨ s = 2 ∨ s = 3 := by omega
  rcases e with rfl | rfl | rfl | rfl
  · exact h0
  · exact h1
  · exact h2
  · exact h3
theorem Rel_LA {F : Nat → Fn} (h : Rel F) : ∃ A, LA F (F 36 8) A := by
  have q := h.2.2.1.1
  unfold RT0 at q
  apply LA_ex
  by_cases e : F 36 8 = -1
  · exact Or.inl e
  · exact Or.inr ⟨by omega, by omega, h.2.2.2.2.2.2 _ (by omega)⟩
-- what a law amounts to depends on the world's own cells alone
theorem rights_cg {c d : Fn} (p : Int) (h : ∀ k, vok k → c k = d k) (h1 : c 25 ≤ 12) : rights c p = rights d p := by
  unfold rights
  rw [h 25 (by unfold vok; omega)] at h1 ⊢
  apply sm_congr
  intro g g0 g1
  rw [h (99 + g) (by unfold vok; omega), h (27 + g) (by unfold vok; omega)]
theorem lefts_cg {c d : Fn} (h : ∀ k, vok k → c k = d k) (h1 : c 25 ≤ 12) : lefts c = lefts d := by
  funext p
  unfold lefts
  rw [h 25 (by unfold vok; omega)] at h1 ⊢
  apply sm_congr
  intro g g0 g1
  rw [h (99 + g) (by unfold vok; omega), h (39 + g) (by unfold vok; omega)]
theorem bare_cg {c d : Fn} (p : Int) (h : ∀ k, vok k → c k = d k) (h1 : c 25 ≤ 12) : bare c p = bare d p := by
  unfold bare
  rw [rights_cg p h h1, lefts_cg h h1]
theorem nmR_cg {c d : Fn} {s q : Int} (hq : qok s q) (h : ∀ k, vok k → c k = d k) (h1 : c 25 ≤ 12) : nmR s c q = nmR s d q := by
  funext t
  unfold nmR
  rw [h 22 (by unfold vok; omega), h 23 (by unfold vok; omega), rights_cg q h h1, bare_cg q h h1]
  by_cases hs : s ≤ 1
  · simp only [if_pos hs]
    have := hq.2.2 hs
    rw [h (1 + q) (by unfold vok; omega), h (8 + q) (by unfold vok; omega), h (15 + q) (by unfold vok; omega)]
  · simp only [if_neg hs]
    rw [h (51 + q) (by unfold vok; omega), h (63 + q) (by unfold vok; omega), h (87 + q) (by unfold vok; omega), h (75 + q) (by unfold vok; omega), h (27 + q) (by unfold vok; omega), h (39 + q) (by unfold vok; omega)]
theorem A_cg {F : Nat → Fn} {t s q : Int} {A : Int → Fn → Int → Int} {c d : Fn} (hA : LA F t A) (h0 : 0 ≤ s) (h3 : s ≤ 3) (hq : qok s q) (h : ∀ k, vok k → c k = d k) (h1 : c 25 ≤ 12) : A s c q = A s d q := by
  rcases hA.2 s h0 h3 with ⟨_, e⟩ | ⟨_, _, k, f, _, _, _, _, _, _, _, _, _, _, _, _, _, _, e⟩
  · rw [e, e]
    congr 1
    unfold pl
    rw [h 23 (by unfold vok; omega), bare_cg q h h1, rights_cg q h h1, h (51 + q) (by unfold vok; omega)]
  · rw [e, e, nmR_cg hq h h1, lefts_cg h h1]
theorem cl_r (s v : Int) : 0 ≤ cl s v ∧ cl s v ≤ lim s ∧ lim s ≤ 99 := by
  unfold cl lim
  split <;> omega
theorem A_r {F : Nat → Fn} {t s q : Int} {A : Int → Fn → Int → Int} {c : Fn} (hA : LA F t A) (h0 : 0 ≤ s) (h3 : s ≤ 3) : 0 ≤ A s c q ∧ A s c q ≤ lim s ∧ lim s ≤ 99 := by
  rcases hA.2 s h0 h3 with ⟨_, e⟩ | ⟨_, _, k, f, _, _, _, _, _, _, _, _, _, _, _, _, _, _, e⟩
  · rw [e]; exact cl_r _ _
  · rw [e]; exact cl_r _ _
section
variable (x : m_X) (F G : Nat → Fn)
theorem C_plain {w : Nat} {s q : Int} (hw : w = 1 ∨ w = 51 ∨ w = 101) (hi : WI (F (w + 1))) (h0 : 0 ≤ s) (h3 : s ≤ 3) (hq : qok s q) : m_M x k_Law_plainAmount [.int (jI s), .ref w, .int (jI q)] (mk F G) = some (some (.int (jI (pl s (F (w + 1)) q))), mk F G) := by
  rw [E_Law_plainAmount]
  have e : s = 0 ∨ s = 1 ∨ s = 2 ∨ s = 3 := by omega
  rcases e with rfl | rfl | rfl | rfl
  · simp (disch := first | omega | assumption | (unfold rg; omega)) only [lit_0, lit_1, lit_2, lit_3, lit_4, lit_5, lit_6, lit_7, lit_8, lit_9, lit_10, lit_11, lit_12, lit_13, lit_14, lit_15, lit_16, lit_17, lit_18, lit_19, lit_20, lit_21, lit_22, lit_23, lit_24, lit_25, lit_26, lit_27, lit_28, lit_29, lit_30, lit_31, lit_32, lit_33, lit_34, lit_35, lit_36, lit_37, lit_38, lit_39, lit_40, lit_41, lit_42, lit_43, lit_44, lit_45, lit_46, lit_47, lit_48, lit_49, lit_50, lit_51, lit_52, lit_53, lit_54, lit_55, lit_56, lit_57, lit_58, lit_59, lit_60, lit_61, lit_62, lit_63, lit_64, lit_65, lit_67, lit_70, lit_71, lit_73, lit_75, lit_78, lit_84, lit_85, lit_86, lit_87, lit_89, lit_90, lit_91, lit_95, lit_96, lit_97, lit_98, lit_99, lit_100, lit_101, lit_102, lit_103, lit_104, lit_105, lit_107, lit_108, lit_109, lit_110, lit_111, lit_112, lit_114, lit_115, lit_116, lit_117, lit_119, lit_121, lit_122, lit_126, lit_127, lit_128, lit_130, lit_134, lit_137, lit_139, lit_140, lit_141, lit_145, lit_152, lit_159, lit_160, lit_168, lit_174, lit_180, lit_183, lit_192, lit_199, lit_236, lit_251, lit_255, lit_272, lit_284, lit_300, lit_330, lit_373, lit_753, lit_800, lit_896, lit_900, lit_1000, lit_1001, lit_1002, lit_1003, lit_1079, lit_1276, lit_1330, lit_1450, lit_3012, lit_3016, lit_3300, lit_8430, lit_9999, lit_10000, lit_11730, lit_30467, lit_65536, lit_99999, lit_100000, lit_1000000, lit_252645135, lit_858993459, lit_1000000000, lit_1431655765, jI_add, jI_sub, jI_mul, jI_neg, jI_lt, jI_le, jI_eq, isO_W, fR_W_0, ia_W, is_W, b_I, b_L, b_V, b_R, b_N, b_N0, Option.bind_some, ↓reduceIte, bq0, bq1, bz0, bz1, ite_not, Classical.not_not, if_pos, if_neg, C_bareHandsOf, pl]
  · simp (disch := first | omega | assumption | (unfold rg; omega)) only [lit_0, lit_1, lit_2, lit_3, lit_4, lit_5, lit_6, lit_7, lit_8, lit_9, lit_10, lit_11, lit_12, lit_13, lit_14, lit_15, lit_16, lit_17, lit_18, lit_19, lit_20, lit_21, lit_22, lit_23, lit_24, lit_25, lit_26, lit_27, lit_28, lit_29, lit_30, lit_31, lit_32, lit_33, lit_34, lit_35, lit_36, lit_37, lit_38, lit_39, lit_40, lit_41, lit_42, lit_43, lit_44, lit_45, lit_46, lit_47, lit_48, lit_49, lit_50, lit_51, lit_52, lit_53, lit_54, lit_55, lit_56, lit_57, lit_58, lit_59, lit_60, lit_61, lit_62, lit_63, lit_64, lit_65, lit_67, lit_70, lit_71, lit_73, lit_75, lit_78, lit_84, lit_85, lit_86, lit_87, lit_89, lit_90, lit_91, lit_95, lit_96, lit_97, lit_98, lit_99, lit_100, lit_101, lit_102, lit_103, lit_104, lit_105, lit_107, lit_108, lit_109, lit_110, lit_111, lit_112, lit_114, lit_115, lit_116, lit_117, lit_119, lit_121, lit_122, lit_126, lit_127, lit_128, lit_130, lit_134, lit_137, lit_139, lit_140, lit_141, lit_145, lit_152, lit_159, lit_160, lit_168, lit_174, lit_180, lit_183, lit_192, lit_199, lit_236, lit_251, lit_255, lit_272, lit_284, lit_300, lit_330, lit_373, lit_753, lit_800, lit_896, lit_900, lit_1000, lit_1001, lit_1002, lit_1003, lit_1079, lit_1276, lit_1330, lit_1450, lit_3012, lit_3016, lit_3300, lit_8430, lit_9999, lit_10000, lit_11730, lit_30467, lit_65536, lit_99999, lit_100000, lit_1000000, lit_252645135, lit_858993459, lit_1000000000, lit_1431655765, jI_add, jI_sub, jI_mul, jI_neg, jI_lt, jI_le, jI_eq, isO_W, fR_W_0, ia_W, is_W, b_I, b_L, b_V, b_R, b_N, b_N0, Option.bind_some, ↓reduceIte, bq0, bq1, bz0, bz1, ite_not, Classical.not_not, if_pos, if_neg, C_rightsOf, pl]
  · simp (disch := first | omega | assumption | (unfold rg; omega)) only [lit_0, lit_1, lit_2, lit_3, lit_4, lit_5, lit_6, lit_7, lit_8, lit_9, lit_10, lit_11, lit_12, lit_13, lit_14, lit_15, lit_16, lit_17, lit_18, lit_19, lit_20, lit_21, lit_22, lit_23, lit_24, lit_25, lit_26, lit_27, lit_28, lit_29, lit_30, lit_31, lit_32, lit_33, lit_34, lit_35, lit_36, lit_37, lit_38, lit_39, lit_40, lit_41, lit_42, lit_43, lit_44, lit_45, lit_46, lit_47, lit_48, lit_49, lit_50, lit_51, lit_52, lit_53, lit_54, lit_55, lit_56, lit_57, lit_58, lit_59, lit_60, lit_61, lit_62, lit_63, lit_64, lit_65, lit_67, lit_70, lit_71, lit_73, lit_75, lit_78, lit_84, lit_85, lit_86, lit_87, lit_89, lit_90, lit_91, lit_95, lit_96, lit_97, lit_98, lit_99, lit_100, lit_101, lit_102, lit_103, lit_104, lit_105, lit_107, lit_108, lit_109, lit_110, lit_111, lit_112, lit_114, lit_115, lit_116, lit_117, lit_119, lit_121, lit_122, lit_126, lit_127, lit_128, lit_130, lit_134, lit_137, lit_139, lit_140, lit_141, lit_145, lit_152, lit_159, lit_160, lit_168, lit_174, lit_180, lit_183, lit_192, lit_199, lit_236, lit_251, lit_255, lit_272, lit_284, lit_300, lit_330, lit_373, lit_753, lit_800, lit_896, lit_900, lit_1000, lit_1001, lit_1002, lit_1003, lit_1079, lit_1276, lit_1330, lit_1450, lit_3012, lit_3016, lit_3300, lit_8430, lit_9999, lit_10000, lit_11730, lit_30467, lit_65536, lit_99999, lit_100000, lit_1000000, lit_252645135, lit_858993459, lit_1000000000, lit_1431655765, jI_add, jI_sub, jI_mul, jI_neg, jI_lt, jI_le, jI_eq, isO_W, fR_W_0, ia_W, is_W, b_I, b_L, b_V, b_R, b_N, b_N0, Option.bind_some, ↓reduceIte, bq0, bq1, bz0, bz1, ite_not, Classical.not_not, if_pos, if_neg, pl]
  · have hg := WI_g hi hq.1 hq.2.1
    simp (disch := first | omega | assumption | (unfold rg; omega)) only [lit_0, lit_1, lit_2, lit_3, lit_4, lit_5, lit_6, lit_7, lit_8, lit_9, lit_10, lit_11, lit_12, lit_13, lit_14, lit_15, lit_16, lit_17, lit_18, lit_19, lit_20, lit_21, lit_22, lit_23, lit_24, lit_25, lit_26, lit_27, lit_28, lit_29, lit_30, lit_31, lit_32, lit_33, lit_34, lit_35, lit_36, lit_37, lit_38, lit_39, lit_40, lit_41, lit_42, lit_43, lit_44, lit_45, lit_46, lit_47, lit_48, lit_49, lit_50, lit_51, lit_52, lit_53, lit_54, lit_55, lit_56, lit_57, lit_58, lit_59, lit_60, lit_61, lit_62, lit_63, lit_64, lit_65, lit_67, lit_70, lit_71, lit_73, lit_75, lit_78, lit_84, lit_85, lit_86, lit_87, lit_89, lit_90, lit_91, lit_95, lit_96, lit_97, lit_98, lit_99, lit_100, lit_101, lit_102, lit_103, lit_104, lit_105, lit_107, lit_108, lit_109, lit_110, lit_111, lit_112, lit_114, lit_115, lit_116, lit_117, lit_119, lit_121, lit_122, lit_126, lit_127, lit_128, lit_130, lit_134, lit_137, lit_139, lit_140, lit_141, lit_145, lit_152, lit_159, lit_160, lit_168, lit_174, lit_180, lit_183, lit_192, lit_199, lit_236, lit_251, lit_255, lit_272, lit_284, lit_300, lit_330, lit_373, lit_753, lit_800, lit_896, lit_900, lit_1000, lit_1001, lit_1002, lit_1003, lit_1079, lit_1276, lit_1330, lit_1450, lit_3012, lit_3016, lit_3300, lit_8430, lit_9999, lit_10000, lit_11730, lit_30467, lit_65536, lit_99999, lit_100000, lit_1000000, lit_252645135, lit_858993459, lit_1000000000, lit_1431655765, jI_add, jI_sub, jI_mul, jI_neg, jI_lt, jI_le, jI_eq, isO_W, fR_W_0, ia_W, is_W, b_I, b_L, b_V, b_R, b_N, b_N0, Option.bind_some, ↓reduceIte, bq0, bq1, bz0, bz1, ite_not, Classical.not_not, if_pos, if_neg, C_at, pl, jI_dvn]
theorem pl_r {c : Fn} {s q : Int} (hi : WI c) (h0 : 0 ≤ s) (h3 : s ≤ 3) (hq : qok s q) : 0 ≤ pl s c q ∧ pl s c q ≤ 99 := by
  have hc := WI_c hi
  have hg := WI_g hi hq.1 hq.2.1
  have hr := rights_le (c := c) q (by omega)
  have hl := lefts_le (c := c) q (by omega)
  have hb : 0 ≤ bare c q ∧ bare c q ≤ 2 := by unfold bare; omega
  have hm : 0 ≤ c 23 * bare c q ∧ c 23 * bare c q ≤ 18 := by
    have e : bare c q = 0 ∨ bare c q = 1 ∨ bare c q = 2 := by omega
    rcases e with e | e | e <;> rw [e] <;> omega
  unfold pl
  repeat' split
  all_goals omega
theorem C_amt {s v : Int} (h0 : 0 ≤ s) (h3 : s ≤ 3) (hv : rg v) : (if jI s = jI 2 then (m_bI (m_M x k_Math_min_II [.int (jI v), .int (jI 9)] (mk F G)) fun v58 s58 => m_bI (m_M x k_Math_max_II [.int (jI 0), .int v58] s58) fun v61 s61 => some (some (Value.int v61), s61)) else m_bI (m_M x k_Math_min_II [.int (jI v), .int (jI 99)] (mk F G)) fun v58 s58 => m_bI (m_M x k_Math_max_II [.int (jI 0), .int v58] s58) fun v61 s61 => some (some (Value.int v61), s61)) = some (some (.int (jI (cl s v))), mk F G) := by
  have hv' := hv
  unfold rg at hv'
  simp (disch := first | omega | assumption | (unfold rg; omega)) only [jI_lt, jI_le, jI_eq, C_min, b_I, b_L, b_V, b_R, b_N, b_N0, Option.bind_some, ↓reduceIte, bq0, bq1, bz0, bz1, ite_not, Classical.not_not]
  unfold cl lim
  by_cases e : s = 2
  · rw [if_pos e, if_pos e, C_max x F G (by unfold rg; omega) (by unfold rg; omega), b_I]
  · rw [if_neg e, if_neg e, C_max x F G (by unfold rg; omega) (by unfold rg; omega), b_I]
theorem C_amount {w : Nat} {t s q : Int} {A : Int → Fn → Int → Int} (hA : LA F t A) (hw : w = 1 ∨ w = 51 ∨ w = 101) (hi : WI (F (w + 1))) (h0 : 0 ≤ s) (h3 : s ≤ 3) (hq : qok s q) : ∃ F2, m_M x k_Law_amount [.ref 136, .int (jI s), sv t, .ref w, .int (jI q)] (mk F G) = some (some (.int (jI (A s (F (w + 1)) q))), mk F2 G) ∧ agr F F2 := by
  have hpr := pl_r hi h0 h3 hq
  have plain : ∀ S : Value, (S = .null ∨ ∃ r, S = .ref r) → m_D x 5 k_Law_amount 13 [some (.ref 136), some (.int (jI s)), some S, some (.ref w), some (.int (jI q)), none, none] [.int (-1)] (mk F G) = some (some (.int (jI (cl s (pl s (F (w + 1)) q)))), mk F G) := by
    intro S hS
    rcases hS with rfl | ⟨r, rfl⟩
    · rw [E_Law_amount_N_13 x 5 (by omega), if_pos rfl, C_plain x F G hw hi h0 h3 hq, b_I, lit_0, lit_2, lit_9, lit_99]
      exact C_amt x F G h0 h3 (by unfold rg; omega)
    · rw [E_Law_amount_13 x 5 (by omega), if_pos rfl, C_plain x F G hw hi h0 h3 hq, b_I, lit_0, lit_2, lit_9, lit_99]
      exact C_amt x F G h0 h3 (by unfold rg; omega)
  rcases hA.2 s h0 h3 with ⟨h, e⟩ | ⟨t0, t1, k, f, k1, k2, k3, k4, k5, _, _, k6, k7, k8, k9, _, _, _, e⟩
  · refine ⟨F, ?_, fun _ _ _ => rfl⟩
    rw [e]
    rcases h with h | ⟨t0, t1, h, _⟩
    · have es : sv t = .null := by unfold sv; rw [if_pos (by omega)]
      rw [es, E_Law_amount_N, isO_136, if_pos rfl]
      exact plain _ (Or.inl rfl)
    · have es : sv t = .ref (104 + 6 * t.toNat) := by unfold sv; rw [if_neg (by omega)]
      rw [es, E_Law_amount, isO_136, if_pos rfl, C_lawAt x F G (by omega) h0 (by omega), b_I, h]
      have em : jI (-1) = -1 := by decide
      rw [em]
      exact plain _ (Or.inr ⟨_, rfl⟩)
  · have es : sv t = .ref (104 + 6 * t.toNat) := by unfold sv; rw [if_neg (by omega)]
    obtain ⟨F2, r1, r2⟩ := C_reckoned x F G (w := w) (P := 104 + 6 * t.toNat) (q := q) (k := k) (s0 := s) (f := f) hw (by omega) hq hi k2 (by rw [k4]; exact k3) (by rw [k4]; exact k5) k6 k7 k9
    refine ⟨F2, ?_, r2⟩
    have hb := k8 _ _ (okE_nmR (s := s) (q := q) hi hq)
    unfold bd at hb
    rw [es, E_Law_amount, isO_136, if_pos rfl, C_lawAt x F G (by omega) h0 (by omega), b_I, k1, E_Law_amount_13 x 5 (by omega)]
    have hm : ¬ jI k = -1 := by
      have em : (-1 : Int32) = jI (-1) := by decide
      rw [em, jI_eq (by omega) (by omega) (by omega) (by omega)]
      omega
    rw [if_neg hm, r1, b_I, lit_0, lit_2, lit_9, lit_99, e]
    exact C_amt x F2 G h0 h3 (by unfold rg; omega)
end
