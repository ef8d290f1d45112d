-- a text played
section
variable (x : m_X) (F G : Nat → Fn)
theorem C_kindAt {P : Nat} {k : Int} (hP : P = 104 ∨ P = 110 ∨ P = 116 ∨ P = 122 ∨ P = 129) (h0 : 0 ≤ k) (h1 : k < F P 5) (h2 : F P 5 ≤ 24) : m_M x k_Script_kindAt [.ref P, .int (jI k)] (mk F G) = some (some (.int (jI (F (P + 1) k))), mk F G) := by
  rw [E_Script_kindAt, C_hasClause x F G hP h0 h1 h2]
  simp (disch := omega) only [lit_0, lit_1, lit_2, lit_3, lit_4, lit_5, lit_6, lit_7, lit_8, lit_9, lit_10, lit_11, lit_12, lit_13, lit_14, lit_15, lit_16, lit_17, lit_18, lit_19, lit_20, lit_21, lit_22, lit_23, lit_24, lit_25, lit_26, lit_27, lit_28, lit_29, lit_30, lit_31, lit_32, lit_33, lit_34, lit_35, lit_36, lit_37, lit_38, lit_39, lit_40, lit_41, lit_42, lit_43, lit_44, lit_45, lit_46, lit_47, lit_48, lit_49, lit_50, lit_51, lit_52, lit_53, lit_54, lit_55, lit_56, lit_57, lit_58, lit_59, lit_60, lit_61, lit_62, lit_63, lit_64, lit_65, lit_67, lit_70, lit_71, lit_73, lit_75, lit_78, lit_84, lit_85, lit_86, lit_87, lit_89, lit_90, lit_91, lit_95, lit_96, lit_97, lit_98, lit_99, lit_100, lit_101, lit_102, lit_103, lit_104, lit_105, lit_107, lit_108, lit_109, lit_110, lit_111, lit_112, lit_114, lit_115, lit_116, lit_117, lit_119, lit_121, lit_122, lit_126, lit_127, lit_128, lit_130, lit_134, lit_137, lit_139, lit_140, lit_141, lit_145, lit_152, lit_159, lit_160, lit_168, lit_174, lit_180, lit_183, lit_192, lit_199, lit_236, lit_251, lit_255, lit_272, lit_284, lit_300, lit_330, lit_373, lit_753, lit_800, lit_896, lit_900, lit_1000, lit_1001, lit_1002, lit_1003, lit_1079, lit_1276, lit_1330, lit_1450, lit_3012, lit_3016, lit_3300, lit_8430, lit_9999, lit_10000, lit_11730, lit_30467, lit_65536, lit_99999, lit_100000, lit_1000000, lit_252645135, lit_858993459, lit_1000000000, lit_1431655765, jI_lt, jI_le, jI_eq, isO_P, fR_P_0, fR_P_1, fR_P_2, fR_P_3, fR_P_4, fI_P_5, pf_P_5, fI_P_6, pf_P_6, ia_P1, is_P1, len_P1, ia_P2, is_P2, len_P2, ia_P3, is_P3, len_P3, ia_P4, is_P4, len_P4, ia_P5, is_P5, len_P5, b_I, b_L, b_V, b_R, b_N, b_N0, Option.bind_some, ↓reduceIte, bq0, bq1, bz0, bz1, ite_not, Classical.not_not, if_pos, if_neg]
theorem C_numberAt {P : Nat} {k j : Int} (hP : P = 104 ∨ P = 110 ∨ P = 116 ∨ P = 122 ∨ P = 129) (h0 : 0 ≤ k) (h1 : k < F P 5) (h2 : F P 5 ≤ 24) (h3 : 0 ≤ F (P + 2) k) (h4 : F (P + 3) k ≤ 300) (h5 : 0 ≤ j) (h6 : j ≤ 10) (h7 : F (P + 2) k ≤ 300) (h8 : 0 ≤ F (P + 3) k) : m_M x k_Script_numberAt [.ref P, .int (jI k), .int (jI j)] (mk F G) = some (some (.int (jI (if F (P + 2) k + j < F (P + 3) k then F (P + 4) (F (P + 2) k + j) else 0))), mk F G) := by
  rw [E_Script_numberAt, C_startOf x F G hP h0 h1 h2, b_I, C_stopOf x F G hP h0 h1 h2]
  simp (disch := omega) only [lit_0, lit_1, lit_2, lit_3, lit_4, lit_5, lit_6, lit_7, lit_8, lit_9, lit_10, lit_11, lit_12, lit_13, lit_14, lit_15, lit_16, lit_17, lit_18, lit_19, lit_20, lit_21, lit_22, lit_23, lit_24, lit_25, lit_26, lit_27, lit_28, lit_29, lit_30, lit_31, lit_32, lit_33, lit_34, lit_35, lit_36, lit_37, lit_38, lit_39, lit_40, lit_41, lit_42, lit_43, lit_44, lit_45, lit_46, lit_47, lit_48, lit_49, lit_50, lit_51, lit_52, lit_53, lit_54, lit_55, lit_56, lit_57, lit_58, lit_59, lit_60, lit_61, lit_62, lit_63, lit_64, lit_65, lit_67, lit_70, lit_71, lit_73, lit_75, lit_78, lit_84, lit_85, lit_86, lit_87, lit_89, lit_90, lit_91, lit_95, lit_96, lit_97, lit_98, lit_99, lit_100, lit_101, lit_102, lit_103, lit_104, lit_105, lit_107, lit_108, lit_109, lit_110, lit_111, lit_112, lit_114, lit_115, lit_116, lit_117, lit_119, lit_121, lit_122, lit_126, lit_127, lit_128, lit_130, lit_134, lit_137, lit_139, lit_140, lit_141, lit_145, lit_152, lit_159, lit_160, lit_168, lit_174, lit_180, lit_183, lit_192, lit_199, lit_236, lit_251, lit_255, lit_272, lit_284, lit_300, lit_330, lit_373, lit_753, lit_800, lit_896, lit_900, lit_1000, lit_1001, lit_1002, lit_1003, lit_1079, lit_1276, lit_1330, lit_1450, lit_3012, lit_3016, lit_3300, lit_8430, lit_9999, lit_10000, lit_11730, lit_30467, lit_65536, lit_99999, lit_100000, lit_1000000, lit_252645135, lit_858993459, lit_1000000000, lit_1431655765, jI_add, jI_sub, jI_mul, jI_neg, jI_lt, jI_le, jI_eq, isO_P, fR_P_0, fR_P_1, fR_P_2, fR_P_3, fR_P_4, fI_P_5, pf_P_5, fI_P_6, pf_P_6, ia_P1, is_P1, len_P1, ia_P2, is_P2, len_P2, ia_P3, is_P3, len_P3, ia_P4, is_P4, len_P4, ia_P5, is_P5, len_P5, b_I, b_L, b_V, b_R, b_N, b_N0, Option.bind_some, ↓reduceIte, bq0, bq1, bz0, bz1, ite_not, Classical.not_not]
  by_cases q : F (P + 2) k + j < F (P + 3) k
  · rw [if_pos q, if_neg (by omega), C_cellAt x F G hP (by omega) (by omega), b_I]
  · rw [if_neg q, if_pos (by omega)]
end
section
variable {x : m_X} {Fc Fm : Nat → Fn}
/-- a step of a text: what one clause comes to on both halves -/
def OkC (x : m_X) (Fc Fm : Nat → Fn) (P : Nat) (k y : Int) : Prop := ∃ v Fc' Fm', (v = 0 ∨ v = 1) ∧ (∀ F G, eqC Fc F → F 152 = Fm 152 → ∃ F', m_M x k_G_isDone [.ref 0, .ref P, .int (jI k)] (mk F G) = some (some (.int (jI v)), mk F' G) ∧ eqC Fc' F' ∧ upM F F') ∧ (∀ F G, eqM Fm F → (∀ b, 104 ≤ b → b < 128 → F b = Fc b) → ∃ F' G', m_M x k_M_isPlayed [.ref 149, .int (jI y)] (mk F G) = some (some (.int (jI v)), mk F' G') ∧ eqM Fm' F' ∧ loC F F') ∧ Rel (hyb Fc' Fm') ∧ Fm' 152 = Fm 152 ∧ (∀ b, 104 ≤ b → b < 128 → Fc' b = Fc b)
theorem VR_c {v : Int32} (h : VR v) : (if v = -1 then (0 : Int) else 1) = (if v < 0 then 0 else 1) := by
  obtain ⟨z, h0, h1, rfl⟩ := h
  have e1 : (-1 : Int32) = jI (-1) := by decide
  have e0 : (0 : Int32) = jI 0 := by decide
  rw [e1, e0]
  have a1 : (jI z = jI (-1)) ↔ z = -1 := jI_eq (by omega) (by omega) (by omega) (by omega)
  have a2 : (jI z < jI 0) ↔ z < 0 := jI_lt (by omega) (by omega) (by omega) (by omega)
  by_cases q : z = -1
  · rw [if_pos (a1.mpr q), if_pos (a2.mpr (by omega))]
  · rw [if_neg (fun w => q (a1.mp w)), if_neg (fun w => by have := a2.mp w; omega)]
theorem bo01 {x : m_X} {k : Nat} {as : List Value} {σ σ' : m_H} {v : Int32} (hk : m_RT k = some .boolean) (h : m_M x k as σ = some (some (.int v), σ')) : v = jI 0 ∨ v = jI 1 := by
  have q := m_M_rk h
  rw [hk] at q
  have q2 : (v == 0 || v == 1) = true := q
  simp only [Bool.or_eq_true, beq_iff_eq] at q2
  exact q2
theorem okc_int {P : Nat} {k y : Int} {kc km : Nat} {as : List Value} (h : OkS x Fc Fm kc km as) (hc : ∀ F G, eqC Fc F → m_M x k_G_isDone [.ref 0, .ref P, .int (jI k)] (mk F G) = m_bI (m_M x kc (.ref 0 :: as) (mk F G)) fun v s => if v = -1 then some (some (.int 0), s) else some (some (.int 1), s)) (hm : ∀ F G, eqM Fm F → m_M x k_M_isPlayed [.ref 149, .int (jI y)] (mk F G) = m_bI (m_M x km (.ref 149 :: as) (mk F G)) fun v s => if v < 0 then some (some (.int 0), s) else some (some (.int 1), s)) : OkC x Fc Fm P k y := by
  obtain ⟨v, Fc', Fm', p1, p2, p3, p4, p5, p6⟩ := h
  have hv := VR_c p6
  refine ⟨if v = -1 then 0 else 1, Fc', Fm', by split <;> omega, ?_, ?_, p3, p4, p5⟩
  · intro F G h1 h2
    obtain ⟨F', q1, q2⟩ := p1 F G h1 h2
    refine ⟨F', ?_, q2⟩
    rw [hc F G h1, q1, b_I]
    split <;> rfl
  · intro F G h1 h2
    obtain ⟨F', G', q1, q2⟩ := p2 F G h1 h2
    refine ⟨F', G', ?_, q2⟩
    rw [hm F G h1, q1, b_I, hv]
    split <;> rfl
theorem okc_bool {P : Nat} {k y : Int} {kc km : Nat} {as : List Value} (hk : m_RT kc = some .boolean) (h : OkS x Fc Fm kc km as) (hc : ∀ F G, eqC Fc F → m_M x k_G_isDone [.ref 0, .ref P, .int (jI k)] (mk F G) = m_bI (m_M x kc (.ref 0 :: as) (mk F G)) fun v s => if m_rk (some .boolean) (some (.int v)) = true then some (some (.int v), s) else none) (hm : ∀ F G, eqM Fm F → m_M x k_M_isPlayed [.ref 149, .int (jI y)] (mk F G) = m_bI (m_M x km (.ref 149 :: as) (mk F G)) fun v s => if m_rk (some .boolean) (some (.int v)) = true then some (some (.int v), s) else none) : OkC x Fc Fm P k y := by
  obtain ⟨v, Fc', Fm', p1, p2, p3, p4, p5, p6⟩ := h
  have hv : v = jI 0 ∨ v = jI 1 := by
    obtain ⟨F', q1, _⟩ := p1 (hyb Fc Fm) Fc (fun b hb => hyb_lo _ _ (by unfold keepC at hb; omega)) (hyb_hi _ _ (by omega))
    exact bo01 hk q1
  have hb : m_rk (some .boolean) (some (.int v)) = true := by
    rcases hv with rfl | rfl
    · exact rk0
    · exact rk1
  have he : ∃ z : Int, (z = 0 ∨ z = 1) ∧ v = jI z := by
    rcases hv with rfl | rfl
    · exact ⟨0, by omega, rfl⟩
    · exact ⟨1, by omega, rfl⟩
  obtain ⟨z, hz, rfl⟩ := he
  refine ⟨z, Fc', Fm', hz, ?_, ?_, p3, p4, p5⟩
  · intro F G h1 h2
    obtain ⟨F', q1, q2⟩ := p1 F G h1 h2
    refine ⟨F', ?_, q2⟩
    rw [hc F G h1, q1, b_I, if_pos hb]
  · intro F G h1 h2
    obtain ⟨F', G', q1, q2⟩ := p2 F G h1 h2
    refine ⟨F', G', ?_, q2⟩
    rw [hm F G h1, q1, b_I, if_pos hb]
theorem okc {t : Nat} {k : Int} (hR : Rel (hyb Fc Fm)) (ht : t < 4) (hT : TX (hyb Fc Fm) t) (h0 : 0 ≤ k) (h1 : k < Fc (104 + 6 * t) 5) : OkC x Fc Fm (104 + 6 * t) k (753 * t + 1 + 6 * k) := by
  obtain ⟨⟨a1, a2, a3⟩, b, c, _⟩ := hT
  rw [hyb_lo Fc Fm (b := 104 + 6 * t) (by omega)] at a1 a2 a3 b c
  rw [hyb_lo Fc Fm (b := 104 + 6 * t + 1) (by omega), hyb_lo Fc Fm (b := 104 + 6 * t + 2) (by omega), hyb_lo Fc Fm (b := 104 + 6 * t + 3) (by omega), hyb_hi Fc Fm (b := 152) (by omega)] at b
  rw [hyb_lo Fc Fm (b := 104 + 6 * t + 1) (by omega), hyb_lo Fc Fm (b := 104 + 6 * t + 2) (by omega), hyb_lo Fc Fm (b := 104 + 6 * t + 3) (by omega), hyb_lo Fc Fm (b := 104 + 6 * t + 4) (by omega), hyb_hi Fc Fm (b := 152) (by omega)] at c
  have hb := b k h0 h1
  have hcc := c k h0 h1
  have hP : 104 + 6 * t = 104 ∨ 104 + 6 * t = 110 ∨ 104 + 6 * t = 116 ∨ 104 + 6 * t = 122 ∨ 104 + 6 * t = 129 := by omega
  generalize hkd : Fc (104 + 6 * t + 1) k = kd at *
  have hn : ∀ (F G : Nat → Fn) (j : Int), eqC Fc F → 0 ≤ j → j ≤ 10 → m_M x k_Script_numberAt [.ref (104 + 6 * t), .int (jI k), .int (jI j)] (mk F G) = some (some (.int (jI (if Fc (104 + 6 * t + 2) k + j < Fc (104 + 6 * t + 3) k then Fc (104 + 6 * t + 4) (Fc (104 + 6 * t + 2) k + j) else 0))), mk F G) := by
    intro F G j h j0 j1
    have e : ∀ i, i < 6 → F (104 + 6 * t + i) = Fc (104 + 6 * t + i) := fun i hi => h _ (by unfold keepC; omega)
    have e0 : F (104 + 6 * t) = Fc (104 + 6 * t) := e 0 (by omega)
    have q := C_numberAt x F G (P := 104 + 6 * t) (k := k) (j := j) hP h0 (by rw [e0]; exact h1) (by rw [e0]; omega) (by rw [e 2 (by omega)]; omega) (by rw [e 3 (by omega)]; omega) j0 j1 (by rw [e 2 (by omega)]; omega) (by rw [e 3 (by omega)]; omega)
    rw [e 2 (by omega), e 3 (by omega), e 4 (by omega)] at q
    exact q
  have hk : ∀ (F G : Nat → Fn), eqC Fc F → m_M x k_Script_kindAt [.ref (104 + 6 * t), .int (jI k)] (mk F G) = some (some (.int (jI kd)), mk F G) := by
    intro F G h
    have e : ∀ i, i < 6 → F (104 + 6 * t + i) = Fc (104 + 6 * t + i) := fun i hi => h _ (by unfold keepC; omega)
    have e0 : F (104 + 6 * t) = Fc (104 + 6 * t) := e 0 (by omega)
    have q := C_kindAt x F G (P := 104 + 6 * t) (k := k) hP h0 (by rw [e0]; exact h1) (by rw [e0]; omega)
    rw [e 1 (by omega), hkd] at q
    exact q
  have hm : ∀ (F G : Nat → Fn) (j : Int), eqM Fm F → 0 ≤ j → j ≤ 5 → m_ia x (mk F G) 152 (jI (753 * t + 1 + 6 * k + j)) = some (jI (Fm 152 (753 * t + 1 + 6 * k + j))) := by
    intro F G j h j0 j1
    rw [ia_152 x F G (by omega) (by omega), h 152 (by omega) (by omega)]
  have hm0 : ∀ (F G : Nat → Fn), eqM Fm F → m_ia x (mk F G) 152 (jI (753 * t + 1 + 6 * k)) = some (jI kd) := by
    intro F G h
    rw [ia_152 x F G (by omega) (by omega), h 152 (by omega) (by omega), hb.2.2.1]
  -- the numbers of the clause on the class's side
  generalize hN : (fun j => if Fc (104 + 6 * t + 2) k + j < Fc (104 + 6 * t + 3) k then Fc (104 + 6 * t + 4) (Fc (104 + 6 * t + 2) k + j) else 0) = N at *
  have hn' : ∀ (F G : Nat → Fn) (j : Int), eqC Fc F → 0 ≤ j → j ≤ 10 → m_M x k_Script_numberAt [.ref (104 + 6 * t), .int (jI k), .int (jI j)] (mk F G) = some (some (.int (jI (N j))), mk F G) := by
    intro F G j h j0 j1
    rw [hn F G j h j0 j1, ← hN]
  have hNe : 4 ≤ kd → ∀ j, 0 ≤ j → j < cnt kd → N j = Fm 152 (753 * t + 1 + 6 * k + 1 + j) ∧ 0 ≤ N j ∧ N j ≤ 9999 := by
    intro h4 j j0 j1
    have q := hcc h4 j j0 j1
    have e : N j = Fc (104 + 6 * t + 4) (Fc (104 + 6 * t + 2) k + j) := by
      rw [← hN]
      dsimp only
      rw [if_pos q.1]
    rw [e, q.2.1]
    exact ⟨rfl, q.2.2⟩
  have cstart : ∀ (F G : Nat → Fn), eqC Fc F → m_M x k_G_isDone [.ref 0, .ref (104 + 6 * t), .int (jI k)] (mk F G) = _ := fun F G h => E_G_isDone x (mk F G) 0 (104 + 6 * t) (jI k)
  have mstart : ∀ (F G : Nat → Fn), eqM Fm F → m_M x k_M_isPlayed [.ref 149, .int (jI (753 * t + 1 + 6 * k))] (mk F G) = _ := fun F G h => E_M_isPlayed x (mk F G) 149 (jI (753 * t + 1 + 6 * k))
  have ej : ∀ j : Int, 753 * (t : Int) + 1 + 6 * k + 1 + j = 753 * t + 1 + 6 * k + (1 + j) := by intro j; omega
  have i1 : ∀ (F G : Nat → Fn), eqM Fm F → m_ia x (mk F G) 152 (jI (753 * t + 1 + 6 * k) + 1) = some (jI (Fm 152 (753 * t + 1 + 6 * k + 1))) := by
    intro F G h
    rw [lit_1, jI_add]
    exact hm F G 1 h (by omega) (by omega)
  have i2 : ∀ (F G : Nat → Fn), eqM Fm F → m_ia x (mk F G) 152 (jI (753 * t + 1 + 6 * k) + 2) = some (jI (Fm 152 (753 * t + 1 + 6 * k + 2))) := by
    intro F G h
    rw [lit_2, jI_add]
    exact hm F G 2 h (by omega) (by omega)
  have i3 : ∀ (F G : Nat → Fn), eqM Fm F → m_ia x (mk F G) 152 (jI (753 * t + 1 + 6 * k) + 3) = some (jI (Fm 152 (753 * t + 1 + 6 * k + 3))) := by
    intro F G h
    rw [lit_3, jI_add]
    exact hm F G 3 h (by omega) (by omega)
  have i4 : ∀ (F G : Nat → Fn), eqM Fm F → m_ia x (mk F G) 152 (jI (753 * t + 1 + 6 * k) + 4) = some (jI (Fm 152 (753 * t + 1 + 6 * k + 4))) := by
    intro F G h
    rw [lit_4, jI_add]
    exact hm F G 4 h (by omega) (by omega)
  have i5 : ∀ (F G : Nat → Fn), eqM Fm F → m_ia x (mk F G) 152 (jI (753 * t + 1 + 6 * k) + 5) = some (jI (Fm 152 (753 * t + 1 + 6 * k + 5))) := by
    intro F G h
    rw [lit_5, jI_add]
    exact hm F G 5 h (by omega) (by omega)
  have hl0 : ∀ (F G : Nat → Fn), eqC Fc F → m_M x k_Script_numberAt [.ref (104 + 6 * t), .int (jI k), .int 0] (mk F G) = some (some (.int (jI (N 0))), mk F G) := by
    intro F G h
    have q := hn' F G 0 h (by omega) (by omega)
    have e : jI 0 = 0 := by decide
    rw [e] at q
    exact q
  have hl1 : ∀ (F G : Nat → Fn), eqC Fc F → m_M x k_Script_numberAt [.ref (104 + 6 * t), .int (jI k), .int 1] (mk F G) = some (some (.int (jI (N 1))), mk F G) := by
    intro F G h
    have q := hn' F G 1 h (by omega) (by omega)
    have e : jI 1 = 1 := by decide
    rw [e] at q
    exact q
  have hl2 : ∀ (F G : Nat → Fn), eqC Fc F → m_M x k_Script_numberAt [.ref (104 + 6 * t), .int (jI k), .int 2] (mk F G) = some (some (.int (jI (N 2))), mk F G) := by
    intro F G h
    have q := hn' F G 2 h (by omega) (by omega)
    have e : jI 2 = 2 := by decide
    rw [e] at q
    exact q
  have hl3 : ∀ (F G : Nat → Fn), eqC Fc F → m_M x k_Script_numberAt [.ref (104 + 6 * t), .int (jI k), .int 3] (mk F G) = some (some (.int (jI (N 3))), mk F G) := by
    intro F G h
    have q := hn' F G 3 h (by omega) (by omega)
    have e : jI 3 = 3 := by decide
    rw [e] at q
    exact q
  have hl4 : ∀ (F G : Nat → Fn), eqC Fc F → m_M x k_Script_numberAt [.ref (104 + 6 * t), .int (jI k), .int 4] (mk F G) = some (some (.int (jI (N 4))), mk F G) := by
    intro F G h
    have q := hn' F G 4 h (by omega) (by omega)
    have e : jI 4 = 4 := by decide
    rw [e] at q
    exact q
  have cs : ∀ (F G : Nat → Fn) (h : eqC Fc F), _ := fun F G h => by
    have q := cstart F G h
    rw [isO_0, if_pos rfl, hl0 F G h, b_I, hl1 F G h, b_I, hk F G h, b_I] at q
    exact q
  have ms : ∀ (F G : Nat → Fn) (h : eqM Fm F), _ := fun F G h => by
    have q := mstart F G h
    rw [isO_149, if_pos rfl, fR_149_2, Option.bind_some, i1 F G h, Option.bind_some, Option.bind_some, i2 F G h, Option.bind_some, Option.bind_some, hm0 F G h, Option.bind_some] at q
    exact q
  have e : kd = 4 ∨ kd = 5 ∨ kd = 6 ∨ kd = 7 ∨ kd = 8 ∨ kd = 9 ∨ kd = 10 ∨ kd = 11 ∨ (0 ≤ kd ∧ kd < 4) := by omega
  rcases e with rfl | rfl | rfl | rfl | rfl | rfl | rfl | rfl | e
  · have n0 := hNe (by omega) 0 (by omega) (by decide)
    rw [ej] at n0
    simp only [Int.reduceAdd] at n0
    have n1 := hNe (by omega) 1 (by omega) (by decide)
    rw [ej] at n1
    simp only [Int.reduceAdd] at n1
    refine okc_int (oks_one hR (h := N 0) (k := N 1) (by unfold rg; omega) (by unfold rg; omega)) ?_ ?_
    · intro F G h
      rw [cs F G h, if_pos (show jI 4 = 4 by decide)]
    · intro F G h
      rw [ms F G h, if_pos (show jI 4 = 4 by decide), ← n0.1, ← n1.1]
  · have n0 := hNe (by omega) 0 (by omega) (by decide)
    rw [ej] at n0
    simp only [Int.reduceAdd] at n0
    have n1 := hNe (by omega) 1 (by omega) (by decide)
    rw [ej] at n1
    simp only [Int.reduceAdd] at n1
    have n2 := hNe (by omega) 2 (by omega) (by decide)
    rw [ej] at n2
    simp only [Int.reduceAdd] at n2
    have n3 := hNe (by omega) 3 (by omega) (by decide)
    rw [ej] at n3
    simp only [Int.reduceAdd] at n3
    have n4 := hNe (by omega) 4 (by omega) (by decide)
    rw [ej] at n4
    simp only [Int.reduceAdd] at n4
    refine okc_int (oks_bargain hR (a := N 0) (b := N 1) (k := N 2) (l := N 3) (m := N 4) (by unfold rg; omega) (by unfold rg; omega) (by unfold rg; omega) (by unfold rg; omega) (by unfold rg; omega)) ?_ ?_
    · intro F G h
      rw [cs F G h, if_neg (show ¬ jI 5 = 4 by decide), if_pos (show jI 5 = 5 by decide), hl2 F G h, b_I, hl3 F G h, b_I, hl4 F G h, b_I]
    · intro F G h
      rw [ms F G h, if_neg (show ¬ jI 5 = 4 by decide), if_pos (show jI 5 = 5 by decide), Option.bind_some, i3 F G h, Option.bind_some, Option.bind_some, i4 F G h, Option.bind_some, Option.bind_some, i5 F G h, Option.bind_some, ← n0.1, ← n1.1, ← n2.1, ← n3.1, ← n4.1]
  · have n0 := hNe (by omega) 0 (by omega) (by decide)
    rw [ej] at n0
    simp only [Int.reduceAdd] at n0
    have n1 := hNe (by omega) 1 (by omega) (by decide)
    rw [ej] at n1
    simp only [Int.reduceAdd] at n1
    refine okc_int (oks_work hR (g := N 0) (h := N 1) (by unfold rg; omega) (by unfold rg; omega)) ?_ ?_
    · intro F G h
      rw [cs F G h, if_neg (show ¬ jI 6 = 4 by decide), if_neg (show ¬ jI 6 = 5 by decide), if_pos (show jI 6 = 6 by decide)]
    · intro F G h
      rw [ms F G h, if_neg (show ¬ jI 6 = 4 by decide), if_neg (show ¬ jI 6 = 5 by decide), if_pos (show jI 6 = 6 by decide), ← n0.1, ← n1.1]
  · have n0 := hNe (by omega) 0 (by omega) (by decide)
    rw [ej] at n0
    simp only [Int.reduceAdd] at n0
    have n1 := hNe (by omega) 1 (by omega) (by decide)
    rw [ej] at n1
    simp only [Int.reduceAdd] at n1
    refine okc_bool rfl (oks_pass hR (g := N 0) (p := N 1) (by unfold rg; omega) (by unfold rg; omega)) ?_ ?_
    · intro F G h
      rw [cs F G h, if_neg (show ¬ jI 7 = 4 by decide), if_neg (show ¬ jI 7 = 5 by decide), if_neg (show ¬ jI 7 = 6 by decide), if_pos (show jI 7 = 7 by decide)]
    · intro F G h
      rw [ms F G h, if_neg (show ¬ jI 7 = 4 by decide), if_neg (show ¬ jI 7 = 5 by decide), if_neg (show ¬ jI 7 = 6 by decide), if_pos (show jI 7 = 7 by decide), ← n0.1, ← n1.1]
  · have n0 := hNe (by omega) 0 (by omega) (by decide)
    rw [ej] at n0
    simp only [Int.reduceAdd] at n0
    refine okc_bool rfl (oks_lose hR (g := N 0) (by unfold rg; omega)) ?_ ?_
    · intro F G h
      rw [cs F G h, if_neg (show ¬ jI 8 = 4 by decide), if_neg (show ¬ jI 8 = 5 by decide), if_neg (show ¬ jI 8 = 6 by decide), if_neg (show ¬ jI 8 = 7 by decide), if_pos (show jI 8 = 8 by decide)]
    · intro F G h
      rw [ms F G h, if_neg (show ¬ jI 8 = 4 by decide), if_neg (show ¬ jI 8 = 5 by decide), if_neg (show ¬ jI 8 = 6 by decide), if_neg (show ¬ jI 8 = 7 by decide), if_pos (show jI 8 = 8 by decide), ← n0.1]
  · have n0 := hNe (by omega) 0 (by omega) (by decide)
    rw [ej] at n0
    simp only [Int.reduceAdd] at n0
    refine okc_int (oks_pledge hR (g := N 0) (by unfold rg; omega)) ?_ ?_
    · intro F G h
      rw [cs F G h, if_neg (show ¬ jI 9 = 4 by decide), if_neg (show ¬ jI 9 = 5 by decide), if_neg (show ¬ jI 9 = 6 by decide), if_neg (show ¬ jI 9 = 7 by decide), if_neg (show ¬ jI 9 = 8 by decide), if_pos (show jI 9 = 9 by decide)]
    · intro F G h
      rw [ms F G h, if_neg (show ¬ jI 9 = 4 by decide), if_neg (show ¬ jI 9 = 5 by decide), if_neg (show ¬ jI 9 = 6 by decide), if_neg (show ¬ jI 9 = 7 by decide), if_neg (show ¬ jI 9 = 8 by decide), if_pos (show jI 9 = 9 by decide), ← n0.1]
  · have n0 := hNe (by omega) 0 (by omega) (by decide)
    rw [ej] at n0
    simp only [Int.reduceAdd] at n0
    refine okc_int (oks_redeem hR (g := N 0) (by unfold rg; omega)) ?_ ?_
    · intro F G h
      rw [cs F G h, if_neg (show ¬ jI 10 = 4 by decide), if_neg (show ¬ jI 10 = 5 by decide), if_neg (show ¬ jI 10 = 6 by decide), if_neg (show ¬ jI 10 = 7 by decide), if_neg (show ¬ jI 10 = 8 by decide), if_neg (show ¬ jI 10 = 9 by decide), if_pos (show jI 10 = 10 by decide)]
    · intro F G h
      rw [ms F G h, if_neg (show ¬ jI 10 = 4 by decide), if_neg (show ¬ jI 10 = 5 by decide), if_neg (show ¬ jI 10 = 6 by decide), if_neg (show ¬ jI 10 = 7 by decide), if_neg (show ¬ jI 10 = 8 by decide), if_neg (show ¬ jI 10 = 9 by decide), if_pos (show jI 10 = 10 by decide), ← n0.1]
  · have n0 := hNe (by omega) 0 (by omega) (by decide)
    rw [ej] at n0
    simp only [Int.reduceAdd] at n0
    obtain ⟨v, Fc', Fm', p1, p2, p3, p4, p5, p6, p7⟩ := oks_days (x := x) (n := N 0) hR (by omega) (by unfold rg; omega)
    have hbv : m_rk (some .boolean) (some (.int (jI v))) = true := by
      rcases p6 with rfl | rfl
      · exact rk0
      · exact rk1
    refine ⟨v, Fc', Fm', p6, ?_, ?_, p3, p4, p5⟩
    · intro F G h h2
      obtain ⟨F', q1, q2⟩ := p1 F G h h2
      refine ⟨F', ?_, q2⟩
      rw [cs F G h, if_neg (show ¬ jI 11 = 4 by decide), if_neg (show ¬ jI 11 = 5 by decide), if_neg (show ¬ jI 11 = 6 by decide), if_neg (show ¬ jI 11 = 7 by decide), if_neg (show ¬ jI 11 = 8 by decide), if_neg (show ¬ jI 11 = 9 by decide), if_neg (show ¬ jI 11 = 10 by decide), if_pos (show jI 11 = 11 by decide), q1, b_I, if_pos hbv]
    · intro F G h h2
      obtain ⟨F', G', q1, q2⟩ := p2 F G h h2
      refine ⟨F', G', ?_, q2⟩
      rw [ms F G h, if_neg (show ¬ jI 11 = 4 by decide), if_neg (show ¬ jI 11 = 5 by decide), if_neg (show ¬ jI 11 = 6 by decide), if_neg (show ¬ jI 11 = 7 by decide), if_neg (show ¬ jI 11 = 8 by decide), if_neg (show ¬ jI 11 = 9 by decide), if_neg (show ¬ jI 11 = 10 by decide), if_pos (show jI 11 = 11 by decide), ← n0.1, q1, b_I, if_pos hbv]
  · have dn : ∀ z, 4 ≤ z → z ≤ 11 → ¬ jI kd = jI z := by
      intro z z0 z1
      rw [jI_eq (by omega) (by omega) (by omega) (by omega)]
      omega
    have d4 : ¬ jI kd = 4 := dn 4 (by omega) (by omega)
    have d5 : ¬ jI kd = 5 := dn 5 (by omega) (by omega)
    have d6 : ¬ jI kd = 6 := dn 6 (by omega) (by omega)
    have d7 : ¬ jI kd = 7 := dn 7 (by omega) (by omega)
    have d8 : ¬ jI kd = 8 := dn 8 (by omega) (by omega)
    have d9 : ¬ jI kd = 9 := dn 9 (by omega) (by omega)
    have d10 : ¬ jI kd = 10 := dn 10 (by omega) (by omega)
    have d11 : ¬ jI kd = 11 := dn 11 (by omega) (by omega)
    refine ⟨1, Fc, Fm, by omega, ?_, ?_, hR, rfl, fun _ _ _ => rfl⟩
    · intro F G h h2
      refine ⟨F, ?_, h, fun _ _ => rfl⟩
      rw [cs F G h, if_neg d4, if_neg d5, if_neg d6, if_neg d7, if_neg d8, if_neg d9, if_neg d10, if_neg d11]
      rfl
    · intro F G h h2
      refine ⟨F, G, ?_, h, fun _ _ => rfl⟩
      rw [ms F G h, if_neg d4, if_neg d5, if_neg d6, if_neg d7, if_neg d8, if_neg d9, if_neg d10, if_neg d11]
      rfl
theorem played_S {t : Nat} (ht : t < 4) {n : Int} (n1 : n ≤ 24) : ∀ k, 0 ≤ k → k ≤ n → ∀ Fc Fm, Rel (hyb Fc Fm) → TX (hyb Fc Fm) t → Fc (104 + 6 * t) 5 = n → ∃ v Fc' Fm', (∀ F G, eqC Fc F → F 152 = Fm 152 → ∃ F', m_D x 9 k_G_played 15 [some (.ref 0), some (.int (jI t)), some (.ref (104 + 6 * t)), some (.int (jI k))] [] (mk F G) = some (some (.int v), mk F' G) ∧ eqC Fc' F' ∧ upM F F') ∧ (∀ F G, eqM Fm F → (∀ b, 104 ≤ b → b < 128 → F b = Fc b) → ∃ F' G', m_D x 11 k_M_played 21 [some (.ref 149), some (.int (jI t)), some (.int (jI k))] [] (mk F G) = some (some (.int v), mk F' G') ∧ eqM Fm' F' ∧ loC F F') ∧ Rel (hyb Fc' Fm') ∧ Fm' 152 = Fm 152 ∧ (∀ b, 104 ≤ b → b < 128 → Fc' b = Fc b) ∧ VR v := by
  have hP : 104 + 6 * t = 104 ∨ 104 + 6 * t = 110 ∨ 104 + 6 * t = 116 ∨ 104 + 6 * t = 122 ∨ 104 + 6 * t = 129 := by omega
  have m0 : ∀ (Fc Fm : Nat → Fn), TX (hyb Fc Fm) t → Fc (104 + 6 * t) 5 = n → Fm 152 (753 * t) = n := by
    intro Fc Fm hT hn
    have q := hT.1.2.2
    rw [hyb_hi Fc Fm (by omega), hyb_lo Fc Fm (by omega), hn] at q
    exact q
  apply down
  · intro Fc Fm hR hT hn
    have hm := m0 Fc Fm hT hn
    refine ⟨jI (-1), Fc, Fm, ?_, ?_, hR, rfl, fun _ _ _ => rfl, VR_i (by omega) (by omega)⟩
    · intro F G h _
      refine ⟨F, ?_, h, fun _ _ => rfl⟩
      have e0 : F (104 + 6 * t) = Fc (104 + 6 * t) := h _ (by unfold keepC; omega)
      rw [E_G_played_15 x 9 (by omega), fI_P_5 F G hP, Option.bind_some, e0, hn, if_pos (Int32.le_refl _)]
      rfl
    · intro F G h _
      refine ⟨F, G, ?_, h, fun _ _ => rfl⟩
      rw [E_M_played_21 x 11 (by omega), fR_149_2, Option.bind_some, lit_753, jI_mul, ia_152 x F G (by omega) (by omega), Option.bind_some, h 152 (by omega) (by omega), hm, if_pos (Int32.le_refl _)]
      rfl
  · intro k k0 k1 ih Fc Fm hR hT hn
    have hm := m0 Fc Fm hT hn
    have hle : ¬ jI n ≤ jI k := by
      rw [jI_le (by omega) (by omega) (by omega) (by omega)]
      omega
    obtain ⟨v, Fc1, Fm1, hv, p1, p2, p3, p4, p5⟩ := okc (x := x) (k := k) hR ht hT k0 (by omega)
    rcases hv with rfl | rfl
    · refine ⟨jI k, Fc1, Fm1, ?_, ?_, p3, p4, p5, VR_i (by omega) (by omega)⟩
      · intro F G h h2
        obtain ⟨F', q1, q2⟩ := p1 F G h h2
        refine ⟨F', ?_, q2⟩
        have e0 : F (104 + 6 * t) = Fc (104 + 6 * t) := h _ (by unfold keepC; omega)
        rw [E_G_played_15 x 9 (by omega), fI_P_5 F G hP, Option.bind_some, e0, hn, if_neg hle, q1, b_I, if_pos (show jI 0 = 0 by decide)]
      · intro F G h h2
        obtain ⟨F', G', q1, q2⟩ := p2 F G h h2
        refine ⟨F', G', ?_, q2⟩
        rw [E_M_played_21 x 11 (by omega), fR_149_2, Option.bind_some, lit_753, jI_mul, ia_152 x F G (by omega) (by omega), Option.bind_some, h 152 (by omega) (by omega), hm, if_neg hle, lit_1, lit_6, jI_mul, jI_add, jI_add, q1, b_I, if_pos (show jI 0 = 0 by decide)]
    · have hT1 : TX (hyb Fc1 Fm1) t := by
        refine TX_cg ht ?_ ?_ hT
        · intro b b0 b1
          rw [hyb_lo _ _ (by omega), hyb_lo _ _ (by omega)]
          exact p5 b b0 b1
        · rw [hyb_hi _ _ (by omega), hyb_hi _ _ (by omega)]
          exact p4
      obtain ⟨v, Fc', Fm', r1, r2, r3, r4, r5, r6⟩ := ih Fc1 Fm1 p3 hT1 (by rw [p5 _ (by omega) (by omega)]; exact hn)
      refine ⟨v, Fc', Fm', ?_, ?_, r3, by rw [r4, p4], fun b b0 b1 => by rw [r5 b b0 b1, p5 b b0 b1], r6⟩
      · intro F G h h2
        obtain ⟨F1, q1, q2, q3⟩ := p1 F G h h2
        obtain ⟨F2, s1, s2, s3⟩ := r1 F1 G q2 (by rw [q3 152 (by omega), h2, p4])
        refine ⟨F2, ?_, s2, fun b hb => (s3 b hb).trans (q3 b hb)⟩
        have e0 : F (104 + 6 * t) = Fc (104 + 6 * t) := h _ (by unfold keepC; omega)
        rw [E_G_played_15 x 9 (by omega), fI_P_5 F G hP, Option.bind_some, e0, hn, if_neg hle, q1, b_I, if_neg (show ¬ jI 1 = 0 by decide), lit_1, jI_add]
        exact s1
      · intro F G h h2
        obtain ⟨F1, G1, q1, q2, q3⟩ := p2 F G h h2
        obtain ⟨F2, G2, s1, s2, s3⟩ := r2 F1 G1 q2 (fun b b0 b1 => by rw [q3 b (by omega), h2 b b0 b1, p5 b b0 b1])
        refine ⟨F2, G2, ?_, s2, fun b hb => (s3 b hb).trans (q3 b hb)⟩
        rw [E_M_played_21 x 11 (by omega), fR_149_2, Option.bind_some, lit_753, jI_mul, ia_152 x F G (by omega) (by omega), Option.bind_some, h 152 (by omega) (by omega), hm, if_neg hle, lit_1, lit_6, jI_mul, jI_add, jI_add, q1, b_I, if_neg (show ¬ jI 1 = 0 by decide), jI_add]
        exact s1
theorem oks_played {t : Int} (hR : Rel (hyb Fc Fm)) (ht : rg t) : ∃ v Fc' Fm', (∀ F G, eqC Fc F → F 152 = Fm 152 → ∃ F', m_M x k_G_played [.ref 0, .int (jI t)] (mk F G) = some (some (.int v), mk F' G) ∧ eqC Fc' F' ∧ upM F F') ∧ (∀ F G, eqM Fm F → (∀ b, 104 ≤ b → b < 128 → F b = Fc b) → ∃ F' G', m_M x k_M_played [.ref 149, .int (jI t)] (mk F G) = some (some (.int v), mk F' G') ∧ eqM Fm' F' ∧ loC F F') ∧ Rel (hyb Fc' Fm') ∧ Fm' 152 = Fm 152 ∧ (∀ b, 104 ≤ b → b < 128 → Fc' b = Fc b) := by
  have hTR := (TR_of hR).1
  have ht' := ht
  unfold rg at ht'
  have e1 : Fm 150 1 = Fc 36 7 := by
    have g := hR.2.2.1.1
    unfold RT0 at g
    rw [hyb_lo Fc Fm (b := 36) (by omega), hyb_hi Fc Fm (b := 150) (by omega)] at g
    exact g.1
  by_cases hC : 0 ≤ t ∧ t < Fc 36 7
  · obtain ⟨T, rfl⟩ : ∃ T : Nat, t = T := ⟨t.toNat, by omega⟩
    have hT := hR.2.2.2.2.2.2 T (by rw [hyb_lo Fc Fm (by omega)]; exact hC.2)
    have hT4 : T < 4 := by omega
    have q := hT.1
    rw [hyb_lo Fc Fm (b := 104 + 6 * T) (by omega)] at q
    obtain ⟨v, Fc', Fm', r1, r2, r3, r4, r5, r6⟩ := played_S (x := x) hT4 (n := Fc (104 + 6 * T) 5) (by omega) 0 (by omega) (by omega) Fc Fm hR hT rfl
    refine ⟨v, Fc', Fm', ?_, ?_, r3, r4, r5⟩
    · intro F G h h2
      obtain ⟨F', s1, s2⟩ := r1 F G h h2
      refine ⟨F', ?_, s2⟩
      have e36 : F 36 = Fc 36 := h 36 (by unfold keepC; omega)
      have hsc := C_scriptAt x F G (t := T) ht (by rw [e36]; omega) (by rw [e36]; omega)
      rw [e36, if_pos hC] at hsc
      rw [E_G_played, isO_0, if_pos rfl, hsc, b_N, lit_0]
      exact s1
    · intro F G h h2
      obtain ⟨F', G', s1, s2⟩ := r2 F G h h2
      refine ⟨F', G', ?_, s2⟩
      rw [E_M_played]
      simp (disch := first | omega | assumption | (unfold rg; omega)) only [lit_0, lit_1, lit_2, lit_3, lit_4, lit_5, lit_6, lit_7, lit_8, lit_9, lit_10, lit_11, lit_12, lit_13, lit_14, lit_15, lit_16, lit_17, lit_18, lit_19, lit_20, lit_21, lit_22, lit_23, lit_24, lit_25, lit_26, lit_27, lit_28, lit_29, lit_30, lit_31, lit_32, lit_33, lit_34, lit_35, lit_36, lit_37, lit_38, lit_39, lit_40, lit_41, lit_42, lit_43, lit_44, lit_45, lit_46, lit_47, lit_48, lit_49, lit_50, lit_51, lit_52, lit_53, lit_54, lit_55, lit_56, lit_57, lit_58, lit_59, lit_60, lit_61, lit_62, lit_63, lit_64, lit_65, lit_67, lit_70, lit_71, lit_73, lit_75, lit_78, lit_84, lit_85, lit_86, lit_87, lit_89, lit_90, lit_91, lit_95, lit_96, lit_97, lit_98, lit_99, lit_100, lit_101, lit_102, lit_103, lit_104, lit_105, lit_107, lit_108, lit_109, lit_110, lit_111, lit_112, lit_114, lit_115, lit_116, lit_117, lit_119, lit_121, lit_122, lit_126, lit_127, lit_128, lit_130, lit_134, lit_137, lit_139, lit_140, lit_141, lit_145, lit_152, lit_159, lit_160, lit_168, lit_174, lit_180, lit_183, lit_192, lit_199, lit_236, lit_251, lit_255, lit_272, lit_284, lit_300, lit_330, lit_373, lit_753, lit_800, lit_896, lit_900, lit_1000, lit_1001, lit_1002, lit_1003, lit_1079, lit_1276, lit_1330, lit_1450, lit_3012, lit_3016, lit_3300, lit_8430, lit_9999, lit_10000, lit_11730, lit_30467, lit_65536, lit_99999, lit_100000, lit_1000000, lit_252645135, lit_858993459, lit_1000000000, lit_1431655765, jI_add, jI_sub, jI_mul, jI_neg, b_I, b_L, b_V, b_R, b_N, b_N0, Option.bind_some, ↓reduceIte, bq0, bq1, bz0, bz1, ite_not, Classical.not_not, isO_149, fR_149_0, ia_150, h 150 (by omega) (by omega), e1, M_isIn]
      rw [if_pos (by omega)]
      exact s1
  · refine ⟨jI (-2), Fc, Fm, ?_, ?_, hR, rfl, fun _ _ _ => rfl⟩
    · intro F G h h2
      refine ⟨F, ?_, h, fun _ _ => rfl⟩
      have e36 : F 36 = Fc 36 := h 36 (by unfold keepC; omega)
      have hsc := C_scriptAt x F G (t := t) ht (by rw [e36]; omega) (by rw [e36]; omega)
      rw [e36, if_neg hC] at hsc
      rw [E_G_played, isO_0, if_pos rfl, hsc, b_N0]
      rfl
    · intro F G h h2
      refine ⟨F, G, ?_, h, fun _ _ => rfl⟩
      rw [E_M_played]
      simp (disch := first | omega | assumption | (unfold rg; omega)) only [lit_0, lit_1, lit_2, lit_3, lit_4, lit_5, lit_6, lit_7, lit_8, lit_9, lit_10, lit_11, lit_12, lit_13, lit_14, lit_15, lit_16, lit_17, lit_18, lit_19, lit_20, lit_21, lit_22, lit_23, lit_24, lit_25, lit_26, lit_27, lit_28, lit_29, lit_30, lit_31, lit_32, lit_33, lit_34, lit_35, lit_36, lit_37, lit_38, lit_39, lit_40, lit_41, lit_42, lit_43, lit_44, lit_45, lit_46, lit_47, lit_48, lit_49, lit_50, lit_51, lit_52, lit_53, lit_54, lit_55, lit_56, lit_57, lit_58, lit_59, lit_60, lit_61, lit_62, lit_63, lit_64, lit_65, lit_67, lit_70, lit_71, lit_73, lit_75, lit_78, lit_84, lit_85, lit_86, lit_87, lit_89, lit_90, lit_91, lit_95, lit_96, lit_97, lit_98, lit_99, lit_100, lit_101, lit_102, lit_103, lit_104, lit_105, lit_107, lit_108, lit_109, lit_110, lit_111, lit_112, lit_114, lit_115, lit_116, lit_117, lit_119, lit_121, lit_122, lit_126, lit_127, lit_128, lit_130, lit_134, lit_137, lit_139, lit_140, lit_141, lit_145, lit_152, lit_159, lit_160, lit_168, lit_174, lit_180, lit_183, lit_192, lit_199, lit_236, lit_251, lit_255, lit_272, lit_284, lit_300, lit_330, lit_373, lit_753, lit_800, lit_896, lit_900, lit_1000, lit_1001, lit_1002, lit_1003, lit_1079, lit_1276, lit_1330, lit_1450, lit_3012, lit_3016, lit_3300, lit_8430, lit_9999, lit_10000, lit_11730, lit_30467, lit_65536, lit_99999, lit_100000, lit_1000000, lit_252645135, lit_858993459, lit_1000000000, lit_1431655765, jI_add, jI_sub, jI_mul, jI_neg, b_I, b_L, b_V, b_R, b_N, b_N0, Option.bind_some, ↓reduceIte, bq0, bq1, bz0, bz1, ite_not, Classical.not_not, isO_149, fR_149_0, ia_150, h 150 (by omega) (by omega), e1, M_isIn]
      rw [if_neg (by omega)]
theorem ok_played {F G : Nat → Fn} {t : Int} (hR : Rel F) (ht : rg t) : Ok x F G k_G_played k_M_played [.int (jI t)] := by
  rw [← hyb_self F] at hR
  obtain ⟨v, Fc', Fm', h1, h2, h3, h4, h5⟩ := oks_played (x := x) hR ht
  obtain ⟨F1, a1, a2, a3⟩ := h1 F G (eqC_rfl F) rfl
  obtain ⟨F2, G2, b1, b2, b3⟩ := h2 F1 G (fun b k1 k2 => a3 b k1) (fun b k1 k2 => (a2 b (by unfold keepC; omega)).trans (h5 b k1 k2))
  exact ⟨v, F1, F2, G2, a1, b1, Rel_eq h3 (fun b hb => (b3 b (by unfold keepC at hb; omega)).trans (a2 b hb)) b2⟩
end
