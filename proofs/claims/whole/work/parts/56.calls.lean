-- calls: people, the tape, deeds
theorem ag_tell {c d : Fn} {h k : Int} (hv : ∀ k, vok k → c k = d k) : ∀ j, vok j → wTell c h k j = wTell d h k j := by
  intro j hj
  unfold wTell
  simp only [u]
  rw [hv 0 (by unfold vok; omega), hv j hj]
theorem ag_strike {c d : Fn} {a b k l m : Int} (hv : ∀ k, vok k → c k = d k) (h0 : 0 ≤ a) (h1 : a < 7) : ∀ j, vok j → wStrike c a b k l m j = wStrike d a b k l m j := by
  intro j hj
  unfold wStrike
  simp only [u]
  rw [hv 25 (by unfold vok; omega), hv (1 + a) (by unfold vok; omega), hv j hj]
theorem ag_labour {c d : Fn} {g h : Int} (hv : ∀ k, vok k → c k = d k) (h0 : 0 ≤ g) (h1 : g < 12) : ∀ j, vok j → wLabour c g h j = wLabour d g h j := by
  intro j hj
  unfold wLabour
  rw [hv (51 + g) (by unfold vok; omega)]
  split
  · simp only [u]; rw [hv j hj]
  · simp only [u]; rw [hv j hj]
theorem ag_u {c d : Fn} {z v : Int} (hv : ∀ k, vok k → c k = d k) : ∀ j, vok j → u c z v j = u d z v j := by
  intro j hj
  simp only [u]
  rw [hv j hj]
section
variable (x : m_X) (F G : Nat → Fn)
theorem C_mark1 (hR : Rel F) : m_M x k_Steps_mark [.ref 3, .ref 1] (mk F G) = some (none, mk (mkd F 1 3) G) := by
  have g := hR.1.1
  exact C_mark x F G (s := 3) (w := 1) (Or.inl rfl) (Or.inl rfl) (by omega) (by omega) (by omega) (by omega)
theorem C_kept {v : Int} (hv : rg v) (h1 : 0 ≤ F 3 1) (h2 : F 3 1 ≤ 30) (h3 : 0 ≤ F 3 2) (h4 : F 3 2 ≤ 30) : m_M x k_G_kept [.ref 0, .int (jI v)] (mk F G) = if v = -1 then some (some (.int (jI v)), mk F G) else some (some (.int (jI v)), mk (sA F 3 (kf (F 3))) G) := by
  have hv' := hv
  unfold rg at hv'
  rw [E_G_kept]
  simp (disch := omega) only [lit_0, lit_1, lit_2, lit_3, lit_4, lit_5, lit_6, lit_7, lit_8, lit_9, lit_10, lit_11, lit_12, lit_13, lit_14, lit_15, lit_16, lit_17, lit_18, lit_19, lit_20, lit_21, lit_22, lit_23, lit_24, lit_25, lit_26, lit_27, lit_28, lit_29, lit_30, lit_31, lit_32, lit_33, lit_34, lit_35, lit_36, lit_37, lit_38, lit_39, lit_40, lit_41, lit_42, lit_43, lit_44, lit_45, lit_46, lit_47, lit_48, lit_49, lit_50, lit_51, lit_52, lit_53, lit_54, lit_55, lit_56, lit_57, lit_58, lit_59, lit_60, lit_61, lit_62, lit_63, lit_64, lit_65, lit_67, lit_70, lit_71, lit_73, lit_75, lit_78, lit_84, lit_85, lit_86, lit_87, lit_89, lit_90, lit_91, lit_95, lit_96, lit_97, lit_98, lit_99, lit_100, lit_101, lit_102, lit_103, lit_104, lit_105, lit_107, lit_108, lit_109, lit_110, lit_111, lit_112, lit_114, lit_115, lit_116, lit_117, lit_119, lit_121, lit_122, lit_126, lit_127, lit_128, lit_130, lit_134, lit_137, lit_139, lit_140, lit_141, lit_145, lit_152, lit_159, lit_160, lit_168, lit_174, lit_180, lit_183, lit_192, lit_199, lit_236, lit_251, lit_255, lit_272, lit_284, lit_300, lit_330, lit_373, lit_753, lit_800, lit_896, lit_900, lit_1000, lit_1001, lit_1002, lit_1003, lit_1079, lit_1276, lit_1330, lit_1450, lit_3012, lit_3016, lit_3300, lit_8430, lit_9999, lit_10000, lit_11730, lit_30467, lit_65536, lit_99999, lit_100000, lit_1000000, lit_252645135, lit_858993459, lit_1000000000, lit_1431655765, jI_add, jI_sub, jI_mul, jI_neg, jI_lt, jI_le, jI_eq, isO_0, fR_0_0, fR_0_1, fR_0_2, fR_0_3, fR_0_4, fR_0_5, fR_0_6, fR_0_7, fR_0_8, fR_0_9, fR_0_10, fR_0_11, fR_0_12, b_I, b_L, b_V, b_R, b_N, b_N0, Option.bind_some, ↓reduceIte, bq0, bq1, bz0, bz1, ite_not, Classical.not_not]
  by_cases e : v = -1
  · rw [if_pos e, if_pos e]
  · rw [if_neg e, if_neg e, C_keepS x F G (s := 3) (Or.inl rfl) h1 h2 h3 h4, b_V]
    rfl
theorem C_keptIf {t : Int} (ht : t = 0 ∨ t = 1) (h1 : 0 ≤ F 3 1) (h2 : F 3 1 ≤ 30) (h3 : 0 ≤ F 3 2) (h4 : F 3 2 ≤ 30) : m_M x k_G_keptIf [.ref 0, .int (jI t)] (mk F G) = if t = 0 then some (some (.int (jI t)), mk F G) else some (some (.int (jI t)), mk (sA F 3 (kf (F 3))) G) := by
  have hb : m_rk (some .boolean) (some (.int (jI t))) = true := by
    rcases ht with rfl | rfl <;> decide
  rw [E_G_keptIf]
  simp (disch := omega) only [lit_0, lit_1, lit_2, lit_3, lit_4, lit_5, lit_6, lit_7, lit_8, lit_9, lit_10, lit_11, lit_12, lit_13, lit_14, lit_15, lit_16, lit_17, lit_18, lit_19, lit_20, lit_21, lit_22, lit_23, lit_24, lit_25, lit_26, lit_27, lit_28, lit_29, lit_30, lit_31, lit_32, lit_33, lit_34, lit_35, lit_36, lit_37, lit_38, lit_39, lit_40, lit_41, lit_42, lit_43, lit_44, lit_45, lit_46, lit_47, lit_48, lit_49, lit_50, lit_51, lit_52, lit_53, lit_54, lit_55, lit_56, lit_57, lit_58, lit_59, lit_60, lit_61, lit_62, lit_63, lit_64, lit_65, lit_67, lit_70, lit_71, lit_73, lit_75, lit_78, lit_84, lit_85, lit_86, lit_87, lit_89, lit_90, lit_91, lit_95, lit_96, lit_97, lit_98, lit_99, lit_100, lit_101, lit_102, lit_103, lit_104, lit_105, lit_107, lit_108, lit_109, lit_110, lit_111, lit_112, lit_114, lit_115, lit_116, lit_117, lit_119, lit_121, lit_122, lit_126, lit_127, lit_128, lit_130, lit_134, lit_137, lit_139, lit_140, lit_141, lit_145, lit_152, lit_159, lit_160, lit_168, lit_174, lit_180, lit_183, lit_192, lit_199, lit_236, lit_251, lit_255, lit_272, lit_284, lit_300, lit_330, lit_373, lit_753, lit_800, lit_896, lit_900, lit_1000, lit_1001, lit_1002, lit_1003, lit_1079, lit_1276, lit_1330, lit_1450, lit_3012, lit_3016, lit_3300, lit_8430, lit_9999, lit_10000, lit_11730, lit_30467, lit_65536, lit_99999, lit_100000, lit_1000000, lit_252645135, lit_858993459, lit_1000000000, lit_1431655765, jI_add, jI_sub, jI_mul, jI_neg, jI_lt, jI_le, jI_eq, isO_0, fR_0_0, fR_0_1, fR_0_2, fR_0_3, fR_0_4, fR_0_5, fR_0_6, fR_0_7, fR_0_8, fR_0_9, fR_0_10, fR_0_11, fR_0_12, b_I, b_L, b_V, b_R, b_N, b_N0, Option.bind_some, ↓reduceIte, bq0, bq1, bz0, bz1, ite_not, Classical.not_not, hb]
  by_cases e : t = 0
  · rw [if_pos e, if_pos e]
  · rw [if_neg e, if_neg e, C_keepS x F G (s := 3) (Or.inl rfl) h1 h2 h3 h4, b_V]
    rfl
variable {x F G}
theorem Ok_do {kc km : Nat} {as : List Value} {v : Int} {c d : Fn} (hR : Rel F) (hcls : m_M x kc (.ref 0 :: as) (mk F G) = some (some (.int (jI v)), mk (sA (kpd F 1 3) 2 c) G)) (hmod : ∀ F', F' 150 = F 150 → ∃ f, m_M x km (.ref 149 :: as) (mk F' G) = some (some (.int (jI v)), mk (sA F' 150 f) G) ∧ V f = d ∧ Fr (mKeep (F 150)) f) (hi : WI c) (hv : ∀ k, vok k → c k = d k) (hk : ∀ k, 0 ≤ k → (k < 8 ∨ k = 22 ∨ k = 26 ∨ (111 ≤ k ∧ k < 141)) → c k = F 2 k) : Ok x F G kc km as := by
  obtain ⟨f, e1, e2, e3⟩ := hmod (sA (kpd F 1 3) 2 c) (by rw [sA_ne _ _ (by omega), kpd_ne (by omega)])
  refine ⟨jI v, _, _, G, hcls, e1, Rel_step0 hR hi ?_ hk e3⟩
  intro k q
  rw [e2]
  exact hv k q
theorem Ok_no {kc km : Nat} {as : List Value} {v : Int} (hR : Rel F) (hcls : m_M x kc (.ref 0 :: as) (mk F G) = some (some (.int (jI v)), mk (mkd F 1 3) G)) (hmod : ∀ F', F' 150 = F 150 → m_M x km (.ref 149 :: as) (mk F' G) = some (some (.int (jI v)), mk F' G)) : Ok x F G kc km as :=
  ⟨jI v, _, _, G, hcls, hmod _ (mkd_ne (by omega)), Rel_mkd hR⟩
variable (x F G)
/-- a mark, a deed of the world, and a step kept: numbers -/
theorem keep_c {v : Int} {c : Fn} (hR : Rel F) (hv : rg v) (h1 : ¬ v = -1) : m_M x k_G_kept [.ref 0, .int (jI v)] (mk (sA (mkd F 1 3) 2 c) G) = some (some (.int (jI v)), mk (sA (kpd F 1 3) 2 c) G) := by
  have g := hR.1.1
  have e3 : sA (mkd F 1 3) 2 c 3 = F 3 := by rw [sA_ne _ _ (by omega), mkd_ne (by omega)]
  rw [C_kept x _ G hv (by rw [e3]; omega) (by rw [e3]; omega) (by rw [e3]; omega) (by rw [e3]; omega), if_neg h1, e3, sA_comm _ _ _ (by omega)]
  rfl
theorem keep_n (hR : Rel F) : m_M x k_G_kept [.ref 0, .int (jI (-1))] (mk (mkd F 1 3) G) = some (some (.int (jI (-1))), mk (mkd F 1 3) G) := by
  have g := hR.1.1
  have e3 : mkd F 1 3 3 = F 3 := by rw [mkd_ne (by omega)]
  rw [C_kept x _ G (by unfold rg; omega) (by rw [e3]; omega) (by rw [e3]; omega) (by rw [e3]; omega) (by rw [e3]; omega), if_pos rfl]
theorem keep_t {c : Fn} (hR : Rel F) : m_M x k_G_keptIf [.ref 0, .int (jI 1)] (mk (sA (mkd F 1 3) 2 c) G) = some (some (.int (jI 1)), mk (sA (kpd F 1 3) 2 c) G) := by
  have g := hR.1.1
  have e3 : sA (mkd F 1 3) 2 c 3 = F 3 := by rw [sA_ne _ _ (by omega), mkd_ne (by omega)]
  rw [C_keptIf x _ G (by omega) (by rw [e3]; omega) (by rw [e3]; omega) (by rw [e3]; omega) (by rw [e3]; omega), if_neg (by omega), e3, sA_comm _ _ _ (by omega)]
  rfl
theorem keep_f (hR : Rel F) : m_M x k_G_keptIf [.ref 0, .int (jI 0)] (mk (mkd F 1 3) G) = some (some (.int (jI 0)), mk (mkd F 1 3) G) := by
  have g := hR.1.1
  have e3 : mkd F 1 3 3 = F 3 := by rw [mkd_ne (by omega)]
  rw [C_keptIf x _ G (by omega) (by rw [e3]; omega) (by rw [e3]; omega) (by rw [e3]; omega) (by rw [e3]; omega), if_pos rfl]
theorem ok_one {h k : Int} (hR : Rel F) (hh : rg h) (hk : rg k) : Ok x F G k_G_one k_M_one [.int (jI h), .int (jI k)] := by
  have hw : WI (F 2) := RS_WI hR.1
  have hv0 := Rel_V0 hR
  have e1 := C_tellOne x F G (w := 1) (Or.inl rfl) hw hh hk
  simp only [Nat.reduceAdd] at e1
  have e2 := fun c => M_one x (sA F 2 c) G (h := h) (k := k) (by rw [sA_ne _ _ (by omega)]; exact RS_WV hR.1) hh hk
  simp (disch := omega) only [sA_ne] at e2
  have e20 := M_one x F G (h := h) (k := k) (RS_WV hR.1) hh hk
  by_cases hc : F 2 0 < 7 ∧ 1 ≤ h ∧ h ≤ 9 ∧ 0 ≤ k ∧ k ≤ 9999
  · rw [if_pos hc] at e1
    have q := e2 (wTell (F 2) h k)
    rw [if_pos (by rw [hv0.1]; exact hc)] at q
    refine ⟨_, _, _, _, ?_, q, ?_⟩
    · rw [E_G_one]
      simp only [isO_0, fR_0_0, fR_0_1, fR_0_2, fR_0_3, fR_0_4, fR_0_5, fR_0_6, fR_0_7, fR_0_8, fR_0_9, fR_0_10, fR_0_11, fR_0_12, b_I, b_L, b_V, b_R, b_N, b_N0, Option.bind_some, ↓reduceIte, bq0, bq1, bz0, bz1, ite_not, Classical.not_not, e1]
      rw [hv0.1]
    · have hrs := RS_one hs13 (by omega) hR.1 hc.1 hc.2.1 hc.2.2.1 hc.2.2.2.1 hc.2.2.2.2
      simp only [Nat.reduceAdd] at hrs
      have wv := WI_c (RS_WV hR.1)
      generalize hb : u (u (u (u (u (F 150) (112 + V (F 150) 0) h) (119 + V (F 150) 0) k) (13 + V (F 150) 0) k) (20 + V (F 150) 0) 0) 0 (V (F 150) 0 + 1) = b at hrs
      have e : ∀ d, 36 ≤ d → ¬ d = 150 → sA (sA F 2 (wTell (F 2) h k)) 150 b d = F d := by
        intro d h0 h1
        rw [sA_ne _ _ h1, sA_ne _ _ (by omega)]
      refine Rel_live hR (fun d hd => e d (by omega) (by omega)) ?_ ?_ ?_
      · refine RD_cg ?_ ?_ (e _ (by omega) (by omega)) (e _ (by omega) (by omega)) hR.2.2.2.2.1
        · rw [e 128 (by omega) (by omega)]; exact ⟨rfl, rfl, rfl⟩
        · rw [e 149 (by omega) (by omega)]; exact ⟨rfl, rfl, rfl, rfl⟩
      · rw [sA_eq]
        exact RS_sA (by omega) (by omega) (by omega) hrs
      · intro j hj
        rw [sA_eq, ← hb, u_ne _ _ (by omega), u_ne _ _ (by omega), u_ne _ _ (by omega), u_ne _ _ (by omega), u_ne _ _ (by omega)]
  · rw [if_neg hc] at e1
    rw [if_neg (by rw [hv0.1]; exact hc)] at e20
    refine Ok_pure hR ?_ e20
    rw [E_G_one]
    simp only [isO_0, fR_0_0, fR_0_1, fR_0_2, fR_0_3, fR_0_4, fR_0_5, fR_0_6, fR_0_7, fR_0_8, fR_0_9, fR_0_10, fR_0_11, fR_0_12, b_I, b_L, b_V, b_R, b_N, b_N0, Option.bind_some, ↓reduceIte, bq0, bq1, bz0, bz1, ite_not, Classical.not_not, e1]
theorem ok_bargain {a b k l m : Int} (hR : Rel F) (ha : rg a) (hb : rg b) (hk : rg k) (hl : rg l) (hm : rg m) : Ok x F G k_G_bargain k_M_bargain [.int (jI a), .int (jI b), .int (jI k), .int (jI l), .int (jI m)] := by
  have hw : WI (F 2) := RS_WI hR.1
  have hc := WI_c hw
  have g1 := hR.1.1
  have hv0 := Rel_V0 hR
  have em2 : mkd F 1 3 2 = F 2 := mkd_ne (by omega)
  have e1 := C_strike x (mkd F 1 3) G (w := 1) (a := a) (b := b) (k := k) (l := l) (m := m) (Or.inl rfl) (by rw [mkd_ne (by omega)]; exact hw) ha hb hk hl hm
  simp only [Nat.reduceAdd, em2] at e1
  have e2 := fun (F' : Nat → Fn) (e : F' 150 = F 150) => M_bargain x F' G (a := a) (b := b) (k := k) (l := l) (m := m) (by rw [e]; exact RS_WV hR.1) (by rw [e]; omega) (by rw [e]; omega) ha hb hk hl hm
  by_cases hC : F 2 25 < 12 ∧ (1 ≤ k ∧ k ≤ 99) ∧ (0 ≤ l ∧ l ≤ 2) ∧ (0 ≤ m ∧ m ≤ 9) ∧ (0 ≤ a ∧ a < F 2 0) ∧ (0 ≤ b ∧ b < F 2 0) ∧ ¬ a = b
  · rw [if_pos hC] at e1
    refine Ok_do hR (v := F 2 25) (c := wStrike (F 2) a b k l m) (d := wStrike (V (F 150)) a b k l m) ?_ ?_ (WI_strike hw hC.1 hC.2.1 hC.2.2.1 hC.2.2.2.1 hC.2.2.2.2.1 hC.2.2.2.2.2.1 hC.2.2.2.2.2.2) (ag_strike (fun k hk => (Rel_V hR k hk).symm) (by omega) (by omega)) ?_
    · rw [E_G_bargain]
      simp only [isO_0, fR_0_0, fR_0_1, fR_0_2, fR_0_3, fR_0_4, fR_0_5, fR_0_6, fR_0_7, fR_0_8, fR_0_9, fR_0_10, fR_0_11, fR_0_12, b_I, b_L, b_V, b_R, b_N, b_N0, Option.bind_some, ↓reduceIte, bq0, bq1, bz0, bz1, ite_not, Classical.not_not, C_mark1 x F G hR, e1, keep_c x F G hR (v := F 2 25) (by unfold rg; omega) (by omega)]
    · intro F' e
      have q := e2 F' e
      rw [e, if_pos (by rw [hv0.1, hv0.2.2.2.2]; exact hC), hv0.2.2.2.2] at q
      exact q
    · intro j j0 j1
      unfold wStrike
      rw [u_ne _ _ (by omega), u_ne _ _ (by omega), u_ne _ _ (by omega), u_ne _ _ (by omega), u_ne _ _ (by omega), u_ne _ _ (by omega), u_ne _ _ (by omega), u_ne _ _ (by omega)]
  · rw [if_neg hC] at e1
    refine Ok_no hR (v := -1) ?_ ?_
    · rw [E_G_bargain]
      simp only [isO_0, fR_0_0, fR_0_1, fR_0_2, fR_0_3, fR_0_4, fR_0_5, fR_0_6, fR_0_7, fR_0_8, fR_0_9, fR_0_10, fR_0_11, fR_0_12, b_I, b_L, b_V, b_R, b_N, b_N0, Option.bind_some, ↓reduceIte, bq0, bq1, bz0, bz1, ite_not, Classical.not_not, C_mark1 x F G hR, e1, keep_n x F G hR]
    · intro F' e
      have q := e2 F' e
      rw [e, if_neg (by rw [hv0.1, hv0.2.2.2.2]; exact hC)] at q
      exact q
theorem ok_work {g h : Int} (hR : Rel F) (hg : rg g) (hh : rg h) : Ok x F G k_G_work k_M_work [.int (jI g), .int (jI h)] := by
  have hw : WI (F 2) := RS_WI hR.1
  have hc := WI_c hw
  have g1 := hR.1.1
  have hv0 := Rel_V0 hR
  have em2 : mkd F 1 3 2 = F 2 := mkd_ne (by omega)
  have e1 := C_labour x (mkd F 1 3) G (w := 1) (g := g) (h := h) (Or.inl rfl) (by rw [mkd_ne (by omega)]; exact hw) hg hh
  simp only [Nat.reduceAdd, em2] at e1
  have e2 := fun (F' : Nat → Fn) (e : F' 150 = F 150) => M_work x F' G (g := g) (h := h) (by rw [e]; exact RS_WV hR.1) (by rw [e]; omega) (by rw [e]; omega) hg hh
  by_cases hr : 0 ≤ g ∧ g < F 2 25
  · have hvg := Rel_Vg hR hr.1 (by omega)
    have wg := WI_g hw hr.1 (by omega)
    by_cases hC : (0 ≤ g ∧ g < F 2 25 ∧ (F 2 (99 + g) = 0 ∨ F 2 (99 + g) = 3)) ∧ 1 ≤ h ∧ h ≤ 9
    · rw [if_pos hC] at e1
      refine Ok_do hR (v := max 0 (F 2 (51 + g) - h)) (c := wLabour (F 2) g h) (d := wLabour (V (F 150)) g h) ?_ ?_ (WI_labour hw (by omega) (by omega) (by omega)) (ag_labour (fun k hk => (Rel_V hR k hk).symm) (by omega) (by omega)) ?_
      · rw [E_G_work]
        simp only [isO_0, fR_0_0, fR_0_1, fR_0_2, fR_0_3, fR_0_4, fR_0_5, fR_0_6, fR_0_7, fR_0_8, fR_0_9, fR_0_10, fR_0_11, fR_0_12, b_I, b_L, b_V, b_R, b_N, b_N0, Option.bind_some, ↓reduceIte, bq0, bq1, bz0, bz1, ite_not, Classical.not_not, C_mark1 x F G hR, e1, keep_c x F G hR (v := max 0 (F 2 (51 + g) - h)) (by unfold rg; omega) (by omega)]
      · intro F' e
        have q := e2 F' e
        rw [e, if_pos (by omega), hvg.2.2.1] at q
        exact q
      · intro j j0 j1
        unfold wLabour
        split
        · rw [u_ne _ _ (by omega), u_ne _ _ (by omega)]
        · rw [u_ne _ _ (by omega)]
    · rw [if_neg hC] at e1
      refine Ok_no hR (v := -1) ?_ ?_
      · rw [E_G_work]
        simp only [isO_0, fR_0_0, fR_0_1, fR_0_2, fR_0_3, fR_0_4, fR_0_5, fR_0_6, fR_0_7, fR_0_8, fR_0_9, fR_0_10, fR_0_11, fR_0_12, b_I, b_L, b_V, b_R, b_N, b_N0, Option.bind_some, ↓reduceIte, bq0, bq1, bz0, bz1, ite_not, Classical.not_not, C_mark1 x F G hR, e1, keep_n x F G hR]
      · intro F' e
        have q := e2 F' e
        rw [e, if_neg (by omega)] at q
        exact q
  · rw [if_neg (by omega)] at e1
    refine Ok_no hR (v := -1) ?_ ?_
    · rw [E_G_work]
      simp only [isO_0, fR_0_0, fR_0_1, fR_0_2, fR_0_3, fR_0_4, fR_0_5, fR_0_6, fR_0_7, fR_0_8, fR_0_9, fR_0_10, fR_0_11, fR_0_12, b_I, b_L, b_V, b_R, b_N, b_N0, Option.bind_some, ↓reduceIte, bq0, bq1, bz0, bz1, ite_not, Classical.not_not, C_mark1 x F G hR, e1, keep_n x F G hR]
    · intro F' e
      have q := e2 F' e
      rw [e, if_neg (by omega)] at q
      exact q
theorem rk0 : m_rk (some .boolean) (some (.int (jI 0))) = true := by decide
theorem rk1 : m_rk (some .boolean) (some (.int (jI 1))) = true := by decide
theorem ok_pass {g p : Int} (hR : Rel F) (hg : rg g) (hp : rg p) : Ok x F G k_G_pass k_M_pass [.int (jI g), .int (jI p)] := by
  have hw : WI (F 2) := RS_WI hR.1
  have hc := WI_c hw
  have g1 := hR.1.1
  have hv0 := Rel_V0 hR
  have em2 : mkd F 1 3 2 = F 2 := mkd_ne (by omega)
  have e1 := C_handOn x (mkd F 1 3) G (w := 1) (g := g) (p := p) (Or.inl rfl) (by rw [mkd_ne (by omega)]; exact hw) hg hp
  simp only [Nat.reduceAdd, em2] at e1
  have e2 := fun (F' : Nat → Fn) (e : F' 150 = F 150) => M_pass x F' G (g := g) (p := p) (by rw [e]; exact RS_WV hR.1) (by rw [e]; omega) (by rw [e]; omega) hg hp
  have hno : ¬ ((0 ≤ g ∧ g < F 2 25 ∧ F 2 (99 + g) = 0) ∧ (0 ≤ p ∧ p < F 2 0) ∧ ¬ p = F 2 (27 + g) ∧ ¬ p = F 2 (39 + g)) → ¬ ((0 ≤ g ∧ g < V (F 150) 25 ∧ V (F 150) (99 + g) = 0) ∧ (0 ≤ p ∧ p < V (F 150) 0) ∧ ¬ p = V (F 150) (27 + g) ∧ ¬ p = V (F 150) (39 + g)) := by
    intro h1 h2
    have hvg := Rel_Vg hR h2.1.1 (by omega)
    omega
  by_cases hC : (0 ≤ g ∧ g < F 2 25 ∧ F 2 (99 + g) = 0) ∧ (0 ≤ p ∧ p < F 2 0) ∧ ¬ p = F 2 (27 + g) ∧ ¬ p = F 2 (39 + g)
  · have hvg := Rel_Vg hR hC.1.1 (by omega)
    rw [if_pos hC] at e1
    refine Ok_do hR (v := 1) (c := u (F 2) (39 + g) p) (d := u (V (F 150)) (39 + g) p) ?_ ?_ (WI_held hw (by omega) (by omega) (by omega) (by omega) (by omega)) (ag_u (fun k hk => (Rel_V hR k hk).symm)) ?_
    · rw [E_G_pass]
      simp only [isO_0, fR_0_0, fR_0_1, fR_0_2, fR_0_3, fR_0_4, fR_0_5, fR_0_6, fR_0_7, fR_0_8, fR_0_9, fR_0_10, fR_0_11, fR_0_12, b_I, b_L, b_V, b_R, b_N, b_N0, Option.bind_some, ↓reduceIte, bq0, bq1, bz0, bz1, ite_not, Classical.not_not, C_mark1 x F G hR, e1, keep_t x F G hR, rk1]
    · intro F' e
      have q := e2 F' e
      rw [e, if_pos (by omega)] at q
      exact q
    · intro j j0 j1
      rw [u_ne _ _ (by omega)]
  · rw [if_neg hC] at e1
    refine Ok_no hR (v := 0) ?_ ?_
    · rw [E_G_pass]
      simp only [isO_0, fR_0_0, fR_0_1, fR_0_2, fR_0_3, fR_0_4, fR_0_5, fR_0_6, fR_0_7, fR_0_8, fR_0_9, fR_0_10, fR_0_11, fR_0_12, b_I, b_L, b_V, b_R, b_N, b_N0, Option.bind_some, ↓reduceIte, bq0, bq1, bz0, bz1, ite_not, Classical.not_not, C_mark1 x F G hR, e1, keep_f x F G hR, rk0]
    · intro F' e
      have q := e2 F' e
      rw [e, if_neg (hno hC)] at q
      exact q
theorem ok_lose {g : Int} (hR : Rel F) (hg : rg g) : Ok x F G k_G_lose k_M_lose [.int (jI g)] := by
  have hw : WI (F 2) := RS_WI hR.1
  have hc := WI_c hw
  have g1 := hR.1.1
  have hv0 := Rel_V0 hR
  have em2 : mkd F 1 3 2 = F 2 := mkd_ne (by omega)
  have e1 := C_drop x (mkd F 1 3) G (w := 1) (g := g) (Or.inl rfl) (by rw [mkd_ne (by omega)]; exact hw) hg
  simp only [Nat.reduceAdd, em2] at e1
  have e2 := fun (F' : Nat → Fn) (e : F' 150 = F 150) => M_lose x F' G (g := g) (by rw [e]; exact RS_WV hR.1) (by rw [e]; omega) (by rw [e]; omega) hg
  have hno : ¬ (0 ≤ g ∧ g < F 2 25 ∧ F 2 (99 + g) = 0) → ¬ (0 ≤ g ∧ g < V (F 150) 25 ∧ V (F 150) (99 + g) = 0) := by
    intro h1 h2
    have hvg := Rel_Vg hR h2.1 (by omega)
    omega
  by_cases hC : 0 ≤ g ∧ g < F 2 25 ∧ F 2 (99 + g) = 0
  · have hvg := Rel_Vg hR hC.1 (by omega)
    have e7 : hiB (99 + g) = 3 := hB_o (by omega) (by omega)
    rw [if_pos hC] at e1
    refine Ok_do hR (v := 1) (c := u (F 2) (99 + g) 2) (d := u (V (F 150)) (99 + g) 2) ?_ ?_ (WI_u hw (by omega) (by omega) (by omega)) (ag_u (fun k hk => (Rel_V hR k hk).symm)) ?_
    · rw [E_G_lose]
      simp only [isO_0, fR_0_0, fR_0_1, fR_0_2, fR_0_3, fR_0_4, fR_0_5, fR_0_6, fR_0_7, fR_0_8, fR_0_9, fR_0_10, fR_0_11, fR_0_12, b_I, b_L, b_V, b_R, b_N, b_N0, Option.bind_some, ↓reduceIte, bq0, bq1, bz0, bz1, ite_not, Classical.not_not, C_mark1 x F G hR, e1, keep_t x F G hR, rk1]
    · intro F' e
      have q := e2 F' e
      rw [e, if_pos (by omega)] at q
      exact q
    · intro j j0 j1
      rw [u_ne _ _ (by omega)]
  · rw [if_neg hC] at e1
    refine Ok_no hR (v := 0) ?_ ?_
    · rw [E_G_lose]
      simp only [isO_0, fR_0_0, fR_0_1, fR_0_2, fR_0_3, fR_0_4, fR_0_5, fR_0_6, fR_0_7, fR_0_8, fR_0_9, fR_0_10, fR_0_11, fR_0_12, b_I, b_L, b_V, b_R, b_N, b_N0, Option.bind_some, ↓reduceIte, bq0, bq1, bz0, bz1, ite_not, Classical.not_not, C_mark1 x F G hR, e1, keep_f x F G hR, rk0]
    · intro F' e
      have q := e2 F' e
      rw [e, if_neg (hno hC)] at q
      exact q
theorem ok_find {g p : Int} (hR : Rel F) (hg : rg g) (hp : rg p) : Ok x F G k_G_find k_M_find [.int (jI g), .int (jI p)] := by
  have hw : WI (F 2) := RS_WI hR.1
  have hc := WI_c hw
  have g1 := hR.1.1
  have hv0 := Rel_V0 hR
  have em2 : mkd F 1 3 2 = F 2 := mkd_ne (by omega)
  have e1 := C_pickUp x (mkd F 1 3) G (w := 1) (g := g) (p := p) (Or.inl rfl) (by rw [mkd_ne (by omega)]; exact hw) hg hp
  simp only [Nat.reduceAdd, em2] at e1
  have e2 := fun (F' : Nat → Fn) (e : F' 150 = F 150) => M_find x F' G (g := g) (p := p) (by rw [e]; exact RS_WV hR.1) (by rw [e]; omega) (by rw [e]; omega) hg hp
  have hno : ¬ ((0 ≤ g ∧ g < F 2 25 ∧ F 2 (99 + g) = 2) ∧ (0 ≤ p ∧ p < F 2 0) ∧ ¬ p = F 2 (27 + g)) → ¬ ((0 ≤ g ∧ g < V (F 150) 25 ∧ V (F 150) (99 + g) = 2) ∧ (0 ≤ p ∧ p < V (F 150) 0) ∧ ¬ p = V (F 150) (27 + g)) := by
    intro h1 h2
    have hvg := Rel_Vg hR h2.1.1 (by omega)
    omega
  by_cases hC : (0 ≤ g ∧ g < F 2 25 ∧ F 2 (99 + g) = 2) ∧ (0 ≤ p ∧ p < F 2 0) ∧ ¬ p = F 2 (27 + g)
  · have hvg := Rel_Vg hR hC.1.1 (by omega)
    have e7 : hiB (99 + g) = 3 := hB_o (by omega) (by omega)
    rw [if_pos hC] at e1
    refine Ok_do hR (v := 1) (c := u (u (F 2) (39 + g) p) (99 + g) 0) (d := u (u (V (F 150)) (39 + g) p) (99 + g) 0) ?_ ?_ (WI_u (WI_held hw (by omega) (by omega) (by omega) (by omega) (by omega)) (by omega) (by omega) (by omega)) (ag_u (ag_u (fun k hk => (Rel_V hR k hk).symm))) ?_
    · rw [E_G_find]
      simp only [isO_0, fR_0_0, fR_0_1, fR_0_2, fR_0_3, fR_0_4, fR_0_5, fR_0_6, fR_0_7, fR_0_8, fR_0_9, fR_0_10, fR_0_11, fR_0_12, b_I, b_L, b_V, b_R, b_N, b_N0, Option.bind_some, ↓reduceIte, bq0, bq1, bz0, bz1, ite_not, Classical.not_not, C_mark1 x F G hR, e1, keep_t x F G hR, rk1]
    · intro F' e
      have q := e2 F' e
      rw [e, if_pos (by omega)] at q
      exact q
    · intro j j0 j1
      rw [u_ne _ _ (by omega), u_ne _ _ (by omega)]
  · rw [if_neg hC] at e1
    refine Ok_no hR (v := 0) ?_ ?_
    · rw [E_G_find]
      simp only [isO_0, fR_0_0, fR_0_1, fR_0_2, fR_0_3, fR_0_4, fR_0_5, fR_0_6, fR_0_7, fR_0_8, fR_0_9, fR_0_10, fR_0_11, fR_0_12, b_I, b_L, b_V, b_R, b_N, b_N0, Option.bind_some, ↓reduceIte, bq0, bq1, bz0, bz1, ite_not, Classical.not_not, C_mark1 x F G hR, e1, keep_f x F G hR, rk0]
    · intro F' e
      have q := e2 F' e
      rw [e, if_neg (hno hC)] at q
      exact q
end
