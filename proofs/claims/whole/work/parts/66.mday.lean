-- a whole day of the model
def mLvsN (A : Law4) (r : Int) (a : Fn) : Nat → Fn
  | 0 => a
  | n + 1 => mLv A r (mLvsN A r a n) n
def mGw (A : Law4) (a : Fn) (g : Int) : Fn := if V a (99 + g) = 0 ∨ V a (99 + g) = 3 then u a (27 + 7 * g + 2) (min (V a (51 + g) + A 2 (V a) g) 99) else a
def mGwN (A : Law4) (a : Fn) : Nat → Fn
  | 0 => a
  | n + 1 => mGw A (mGwN A a n) n
def mEnd (a : Fn) : Fn := u (u (u a 8 (a 8 + 1)) 9 (a 10 % 10)) 10 ((a 10 * 373 + 251) % 30467)
def mGo (A : Law4) (r : Int) (a : Fn) : Fn := mEnd (if a 8 % 7 = 6 then mGwN A (mLvsN A r a (a 0).toNat) (a 11).toNat else mLvsN A r a (a 0).toNat)
theorem u_comm (f : Fn) {y z : Int} (v w : Int) (h : ¬ y = z) : u (u f y v) z w = u (u f z w) y v := by
  funext k
  simp only [u]
  by_cases h1 : k = z
  · rw [if_pos h1, if_neg (by omega), if_pos h1]
  · rw [if_neg h1, if_neg h1]
theorem V_mEnd (a : Fn) : V (mEnd a) = wEnd (V a) := by
  unfold mEnd wEnd wDraw
  rw [Vu_10, Vu_9, Vu_8, V_22, V_24, u_ne _ _ (by omega), V_24, u_comm _ _ _ (by omega)]
theorem V_mGw (A : Law4) (a : Fn) {g : Int} (h0 : 0 ≤ g) (h1 : g < 12) : V (mGw A a g) = wGrow A (V a) g := by
  unfold mGw wGrow
  split
  · rw [Vu_g _ _ h0 h1 (by omega) (by omega)]
    rfl
  · rfl
theorem mGw_ne (A : Law4) (a : Fn) {g j : Int} (h : ¬ j = 27 + 7 * g + 2) : mGw A a g j = a j := by
  unfold mGw
  split
  · rw [u_ne _ _ h]
  · rfl
theorem WI_mLive {F : Nat → Fn} {t : Int} {A : Law4} {d : Fn} {p : Int} (hA : LA F t A) (hi : WI d) (h0 : 0 ≤ p) (h1 : p < 7) : WI (mLive A d p) := by
  have h2 := WI_chill (p := p) hA hi h0 h1
  have hp := WI_p hi h0 h1
  have hf := fine_r (p := p) hA h2 h0 h1
  rw [chill_ne A d (by omega)] at hf
  unfold mLive
  split
  · have e : hiB (8 + p) = 9999 := hB_c (by omega) (by omega)
    exact WI_u h2 (by omega) (by omega) (by omega)
  · exact h2
theorem mLive_ne (A : Law4) (d : Fn) {p j : Int} (h2 : ¬ j = 15 + p) (h3 : ¬ j = 8 + p) : mLive A d p j = d j := by
  unfold mLive
  split
  · rw [u_ne _ _ h3, chill_ne A d h2]
  · rw [chill_ne A d h2]
theorem mlives_ok {F : Nat → Fn} {t : Int} {A : Law4} {d : Fn} (hA : LA F t A) (hi : WI d) : ∀ n : Nat, n ≤ 7 → WI (mLivesN A d n) ∧ ∀ j, j < 8 ∨ 22 ≤ j → mLivesN A d n j = d j := by
  intro n
  induction n with
  | zero => intro _; exact ⟨hi, fun _ _ => rfl⟩
  | succ n ih =>
    intro hn
    have q := ih (by omega)
    refine ⟨WI_mLive hA q.1 (by omega) (by omega), ?_⟩
    intro j hj
    show mLive A (mLivesN A d n) n j = d j
    rw [mLive_ne _ _ (by omega) (by omega)]
    exact q.2 j hj
theorem mLv_lo (A : Law4) (r : Int) (a : Fn) {p j : Int} (h0 : 0 ≤ p) (h1 : p < 7) (hj : j < 3300) (h2 : ¬ j = 20 + p) (h3 : ¬ j = 13 + p) (h4 : ¬ j = 12) : mLv A r a p j = a j := by
  unfold mLv
  split
  · rw [u_ne _ _ h4, u_ne _ _ (by omega), mLvF_ne A a h2 h3]
  · exact mLvF_ne A a h2 h3
theorem mLv_12 (A : Law4) (r : Int) (a : Fn) {p : Int} (h0 : 0 ≤ p) (h1 : p < 7) : a 12 ≤ mLv A r a p 12 ∧ mLv A r a p 12 ≤ a 12 + 1 := by
  unfold mLv
  split
  · rw [u_eq]; omega
  · rw [mLvF_ne A a (by omega) (by omega)]; omega
theorem mLvs_ok (A : Law4) (r : Int) (a : Fn) : ∀ n : Nat, n ≤ 7 → V (mLvsN A r a n) = mLivesN A (V a) n ∧ (∀ j, j < 12 ∨ (27 ≤ j ∧ j < 3300) → mLvsN A r a n j = a j) ∧ a 12 ≤ mLvsN A r a n 12 ∧ mLvsN A r a n 12 ≤ a 12 + n := by
  intro n
  induction n with
  | zero => intro _; exact ⟨rfl, fun _ _ => rfl, Int.le_refl _, by simp [mLvsN]⟩
  | succ n ih =>
    intro hn
    have q := ih (by omega)
    have w := mLv_12 A r (mLvsN A r a n) (p := n) (by omega) (by omega)
    refine ⟨?_, ?_, ?_, ?_⟩
    · show V (mLv A r (mLvsN A r a n) n) = mLive A (mLivesN A (V a) n) n
      rw [V_mLv A r _ (by omega) (by omega), q.1]
    · intro j hj
      show mLv A r (mLvsN A r a n) n j = a j
      rw [mLv_lo A r _ (by omega) (by omega) (by omega) (by omega) (by omega) (by omega)]
      exact q.2.1 j hj
    · show a 12 ≤ mLv A r (mLvsN A r a n) n 12
      omega
    · show mLv A r (mLvsN A r a n) n 12 ≤ _
      omega
theorem mGwN_ok (A : Law4) (a : Fn) : ∀ n : Nat, n ≤ 12 → V (mGwN A a n) = wGrowsN A (V a) n ∧ ∀ j, j < 27 ∨ 111 ≤ j → mGwN A a n j = a j := by
  intro n
  induction n with
  | zero => intro _; exact ⟨rfl, fun _ _ => rfl⟩
  | succ n ih =>
    intro hn
    have q := ih (by omega)
    refine ⟨?_, ?_⟩
    · show V (mGw A (mGwN A a n) n) = wGrow A (wGrowsN A (V a) n) n
      rw [V_mGw A _ (by omega) (by omega), q.1]
    · intro j hj
      show mGw A (mGwN A a n) n j = a j
      rw [mGw_ne A _ (by omega)]
      exact q.2 j hj
theorem V_mGo (A : Law4) (r : Int) (a : Fn) (hi : WI (V a)) : V (mGo A r a) = mDay A (V a) := by
  have hc := WI_c hi
  have e0 := V_0 a
  have e8 := V_22 a
  have e11 := V_25 a
  have q := mLvs_ok A r a (a 0).toNat (by omega)
  unfold mGo mDay
  rw [V_mEnd, e0, e8, e11]
  split
  · have q2 := mGwN_ok A (mLvsN A r a (a 0).toNat) (a 11).toNat (by omega)
    rw [q2.1, q.1]
  · rw [q.1]
section
variable (x : m_X) (F G : Nat → Fn)
theorem M_anew (h0 : 0 ≤ F 150 10) (h1 : F 150 10 < 30467) : m_M x k_M_anew [.ref 149] (mk F G) = some (none, mk (sA F 150 (u (F 150) 10 ((F 150 10 * 373 + 251) % 30467))) G) := by
  rw [E_M_anew]
  simp (disch := omega) only [lit_0, lit_1, lit_2, lit_3, lit_4, lit_5, lit_6, lit_7, lit_8, lit_9, lit_10, lit_11, lit_12, lit_13, lit_14, lit_15, lit_16, lit_17, lit_18, lit_19, lit_20, lit_21, lit_22, lit_23, lit_24, lit_25, lit_26, lit_27, lit_28, lit_29, lit_30, lit_31, lit_32, lit_33, lit_34, lit_35, lit_36, lit_37, lit_38, lit_39, lit_40, lit_41, lit_42, lit_43, lit_44, lit_45, lit_46, lit_47, lit_48, lit_49, lit_50, lit_51, lit_52, lit_53, lit_54, lit_55, lit_56, lit_57, lit_58, lit_59, lit_60, lit_61, lit_62, lit_63, lit_64, lit_65, lit_67, lit_70, lit_71, lit_73, lit_75, lit_78, lit_84, lit_85, lit_86, lit_87, lit_89, lit_90, lit_91, lit_95, lit_96, lit_97, lit_98, lit_99, lit_100, lit_101, lit_102, lit_103, lit_104, lit_105, lit_107, lit_108, lit_109, lit_110, lit_111, lit_112, lit_114, lit_115, lit_116, lit_117, lit_119, lit_121, lit_122, lit_126, lit_127, lit_128, lit_130, lit_134, lit_137, lit_139, lit_140, lit_141, lit_145, lit_152, lit_159, lit_160, lit_168, lit_174, lit_180, lit_183, lit_192, lit_199, lit_236, lit_251, lit_255, lit_272, lit_284, lit_300, lit_330, lit_373, lit_753, lit_800, lit_896, lit_900, lit_1000, lit_1001, lit_1002, lit_1003, lit_1079, lit_1276, lit_1330, lit_1450, lit_3012, lit_3016, lit_3300, lit_8430, lit_9999, lit_10000, lit_11730, lit_30467, lit_65536, lit_99999, lit_100000, lit_1000000, lit_252645135, lit_858993459, lit_1000000000, lit_1431655765, llt_0, llt_1, llt_2, llt_3, llt_4, llt_5, llt_6, llt_7, llt_8, llt_9, llt_10, llt_11, llt_12, llt_13, llt_14, llt_15, llt_16, llt_17, llt_18, llt_19, llt_20, llt_21, llt_22, llt_23, llt_24, llt_25, llt_26, llt_27, llt_28, llt_29, llt_30, llt_31, llt_32, llt_33, llt_34, llt_35, llt_36, llt_37, llt_38, llt_39, llt_40, llt_41, llt_42, llt_43, llt_44, llt_45, llt_46, llt_47, llt_48, llt_49, llt_50, llt_51, llt_52, llt_53, llt_54, llt_55, llt_56, llt_57, llt_58, llt_59, llt_60, llt_61, llt_62, llt_63, llt_64, llt_65, llt_67, llt_70, llt_71, llt_73, llt_75, llt_78, llt_84, llt_85, llt_86, llt_87, llt_89, llt_90, llt_91, llt_95, llt_96, llt_97, llt_98, llt_99, llt_100, llt_101, llt_102, llt_103, llt_104, llt_105, llt_107, llt_108, llt_109, llt_110, llt_111, llt_112, llt_114, llt_115, llt_116, llt_117, llt_119, llt_121, llt_122, llt_126, llt_127, llt_128, llt_130, llt_134, llt_137, llt_139, llt_140, llt_141, llt_145, llt_152, llt_159, llt_160, llt_168, llt_174, llt_180, llt_183, llt_192, llt_199, llt_236, llt_251, llt_255, llt_272, llt_284, llt_300, llt_330, llt_373, llt_753, llt_800, llt_896, llt_900, llt_1000, llt_1001, llt_1002, llt_1003, llt_1079, llt_1276, llt_1330, llt_1450, llt_3012, llt_3016, llt_3300, llt_8430, llt_9999, llt_10000, llt_11730, llt_30467, llt_65536, llt_99999, llt_100000, llt_1000000, llt_252645135, llt_858993459, llt_1000000000, llt_1431655765, llt_1152921504606846976, jL_add, jL_sub, jL_mul, jL_neg, b_I, b_L, b_V, b_R, b_N, b_N0, Option.bind_some, ↓reduceIte, bq0, bq1, bz0, bz1, ite_not, Classical.not_not, isO_149, fR_149_0, ia_150, jI_toL, jL_modn, jL_toI, is_150]
theorem M_goOn {A : Law4} (hA : LA F (F 150 2) A) (hi : WI (V (F 150))) (hr : F 149 23 = 0 ∨ F 149 23 = 1) (hw0 : 0 ≤ F 150 12) (hw1 : F 150 12 ≤ 90000) : ∃ F2 G2, m_M x k_M_goOn [.ref 149] (mk F G) = some (none, mk F2 G2) ∧ F2 150 = mGo A (F 149 23) (F 150) ∧ (∀ p, 0 ≤ p → p < F 150 0 → F2 158 p = fineAt A (wChill A (mLivesN A (V (F 150)) p.toNat) p) p) ∧ agL F F2 ∧ agG G G2 := by
  have hc := WI_c hi
  have v0 := V_0 (F 150)
  have v8 := V_22 (F 150)
  have v10 := V_24 (F 150)
  have v11 := V_25 (F 150)
  generalize ha0 : F 150 = a at *
  generalize hrr : F 149 23 = r at *
  -- the end of the day
  have e96 : ∀ (F1 G1 : Nat → Fn) n1, agL F F1 → agG G G1 → 0 ≤ F1 150 8 → F1 150 8 ≤ 9999 → 0 ≤ F1 150 10 → F1 150 10 < 30467 → ∃ F2, m_D x 8 k_M_goOn 96 [some (.ref 149), some (.int n1)] [] (mk F1 G1) = some (none, mk F2 G1) ∧ F2 150 = mEnd (F1 150) ∧ F2 158 = F1 158 ∧ agL F F2 := by
    intro F1 G1 n1 ha hg k0 k1 k2 k3
    rw [E_M_goOn_96 x 8 (by omega)]
    have hn : ∀ f : Fn, 0 ≤ f 10 → f 10 < 30467 → m_M x k_M_anew [.ref 149] (mk (sA F1 150 f) G1) = some (none, mk (sA F1 150 (u f 10 ((f 10 * 373 + 251) % 30467))) G1) := by
      intro f f0 f1
      have q := M_anew x (sA F1 150 f) G1 (by rw [sA_eq]; exact f0) (by rw [sA_eq]; exact f1)
      rw [sA_eq, sA_sA] at q
      exact q
    have q := hn (u (u (F1 150) 8 (F1 150 8 + 1)) 9 (F1 150 10 % 10)) (by rw [u_ne _ _ (by omega), u_ne _ _ (by omega)]; exact k2) (by rw [u_ne _ _ (by omega), u_ne _ _ (by omega)]; exact k3)
    rw [u_ne (k := 10) _ _ (by omega), u_ne (k := 10) _ _ (by omega)] at q
    simp (disch := omega) only [lit_0, lit_1, lit_2, lit_3, lit_4, lit_5, lit_6, lit_7, lit_8, lit_9, lit_10, lit_11, lit_12, lit_13, lit_14, lit_15, lit_16, lit_17, lit_18, lit_19, lit_20, lit_21, lit_22, lit_23, lit_24, lit_25, lit_26, lit_27, lit_28, lit_29, lit_30, lit_31, lit_32, lit_33, lit_34, lit_35, lit_36, lit_37, lit_38, lit_39, lit_40, lit_41, lit_42, lit_43, lit_44, lit_45, lit_46, lit_47, lit_48, lit_49, lit_50, lit_51, lit_52, lit_53, lit_54, lit_55, lit_56, lit_57, lit_58, lit_59, lit_60, lit_61, lit_62, lit_63, lit_64, lit_65, lit_67, lit_70, lit_71, lit_73, lit_75, lit_78, lit_84, lit_85, lit_86, lit_87, lit_89, lit_90, lit_91, lit_95, lit_96, lit_97, lit_98, lit_99, lit_100, lit_101, lit_102, lit_103, lit_104, lit_105, lit_107, lit_108, lit_109, lit_110, lit_111, lit_112, lit_114, lit_115, lit_116, lit_117, lit_119, lit_121, lit_122, lit_126, lit_127, lit_128, lit_130, lit_134, lit_137, lit_139, lit_140, lit_141, lit_145, lit_152, lit_159, lit_160, lit_168, lit_174, lit_180, lit_183, lit_192, lit_199, lit_236, lit_251, lit_255, lit_272, lit_284, lit_300, lit_330, lit_373, lit_753, lit_800, lit_896, lit_900, lit_1000, lit_1001, lit_1002, lit_1003, lit_1079, lit_1276, lit_1330, lit_1450, lit_3012, lit_3016, lit_3300, lit_8430, lit_9999, lit_10000, lit_11730, lit_30467, lit_65536, lit_99999, lit_100000, lit_1000000, lit_252645135, lit_858993459, lit_1000000000, lit_1431655765, jI_add, jI_sub, jI_mul, jI_neg, b_I, b_L, b_V, b_R, b_N, b_N0, Option.bind_some, ↓reduceIte, bq0, bq1, bz0, bz1, ite_not, Classical.not_not, fR_149_0, ia_150, is_150, sA_eq, sA_sA, u_ne, jI_modn, q]
    exact ⟨_, rfl, by rw [sA_eq]; rfl, sA_ne _ _ (by omega), agL_tr ha (agL_0 _ _)⟩
  have hlv := mLvs_ok A r a (a 0).toNat (by omega)
  have hml := mlives_ok hA hi (a 0).toNat (by omega)
  have l8 := hlv.2.1 8 (by omega)
  have l10 := hlv.2.1 10 (by omega)
  have l11 := hlv.2.1 11 (by omega)
  have l2 := hlv.2.1 2 (by omega)
  have hV2 := hlv.1
  have hi2 : WI (V (mLvsN A r a (a 0).toNat)) := by rw [hV2]; exact hml.1
  generalize ha2 : mLvsN A r a (a 0).toNat = a2 at *
  have e25 : a2 8 % 7 = 6 → ∀ g, 0 ≤ g → g ≤ a2 11 → ∀ (F1 G1 : Nat → Fn), agL F F1 → agG G G1 → F1 150 = mGwN A a2 g.toNat → ∃ F2 G2, m_D x 8 k_M_goOn 25 [some (.ref 149), some (.int (jI g))] [] (mk F1 G1) = some (none, mk F2 G2) ∧ F2 150 = mEnd (mGwN A a2 (a2 11).toNat) ∧ F2 158 = F1 158 ∧ agL F F2 ∧ agG G G2 := by
    intro h7
    apply down
    · intro F1 G1 hf hg he
      have gk := mGwN_ok A a2 (a2 11).toNat (by omega)
      obtain ⟨F2, r1, r2, r3, r4⟩ := e96 F1 G1 (jI (a2 11)) hf hg (by rw [he, gk.2 8 (by omega)]; omega) (by rw [he, gk.2 8 (by omega)]; omega) (by rw [he, gk.2 10 (by omega)]; omega) (by rw [he, gk.2 10 (by omega)]; omega)
      rw [he] at r2
      refine ⟨F2, G1, ?_, r2, r3, r4, hg⟩
      rw [E_M_goOn_25 x 8 (by omega)]
      simp (disch := omega) only [lit_0, lit_1, lit_2, lit_3, lit_4, lit_5, lit_6, lit_7, lit_8, lit_9, lit_10, lit_11, lit_12, lit_13, lit_14, lit_15, lit_16, lit_17, lit_18, lit_19, lit_20, lit_21, lit_22, lit_23, lit_24, lit_25, lit_26, lit_27, lit_28, lit_29, lit_30, lit_31, lit_32, lit_33, lit_34, lit_35, lit_36, lit_37, lit_38, lit_39, lit_40, lit_41, lit_42, lit_43, lit_44, lit_45, lit_46, lit_47, lit_48, lit_49, lit_50, lit_51, lit_52, lit_53, lit_54, lit_55, lit_56, lit_57, lit_58, lit_59, lit_60, lit_61, lit_62, lit_63, lit_64, lit_65, lit_67, lit_70, lit_71, lit_73, lit_75, lit_78, lit_84, lit_85, lit_86, lit_87, lit_89, lit_90, lit_91, lit_95, lit_96, lit_97, lit_98, lit_99, lit_100, lit_101, lit_102, lit_103, lit_104, lit_105, lit_107, lit_108, lit_109, lit_110, lit_111, lit_112, lit_114, lit_115, lit_116, lit_117, lit_119, lit_121, lit_122, lit_126, lit_127, lit_128, lit_130, lit_134, lit_137, lit_139, lit_140, lit_141, lit_145, lit_152, lit_159, lit_160, lit_168, lit_174, lit_180, lit_183, lit_192, lit_199, lit_236, lit_251, lit_255, lit_272, lit_284, lit_300, lit_330, lit_373, lit_753, lit_800, lit_896, lit_900, lit_1000, lit_1001, lit_1002, lit_1003, lit_1079, lit_1276, lit_1330, lit_1450, lit_3012, lit_3016, lit_3300, lit_8430, lit_9999, lit_10000, lit_11730, lit_30467, lit_65536, lit_99999, lit_100000, lit_1000000, lit_252645135, lit_858993459, lit_1000000000, lit_1431655765, b_I, b_L, b_V, b_R, b_N, b_N0, Option.bind_some, ↓reduceIte, bq0, bq1, bz0, bz1, ite_not, Classical.not_not, fR_149_0, ia_150]
      rw [he, gk.2 11 (by omega), if_pos (Int32.le_refl _)]
      exact r1
    · intro g g0 g1 ih F1 G1 hf hg he
      have gk := mGwN_ok A a2 g.toNat (by omega)
      have wk := grows_ok hA hi2 g.toNat (by omega)
      have hi1 : WI (V (F1 150)) := by rw [he, gk.1]; exact wk.1
      have k11 : F1 150 11 = a2 11 := by rw [he, gk.2 11 (by omega)]
      have k8 : F1 150 8 = a2 8 := by rw [he, gk.2 8 (by omega)]
      have k2 : F1 150 2 = a 2 := by rw [he, gk.2 2 (by omega), l2]
      have hgg := WI_g hi1 g0 (by omega)
      have eg : (g + 1).toNat = g.toNat + 1 := by omega
      have ec : ((g.toNat : Nat) : Int) = g := by omega
      have es : mGwN A a2 (g + 1).toNat = mGw A (F1 150) g := by
        rw [eg, he]
        show mGw A (mGwN A a2 g.toNat) (g.toNat : Int) = _
        rw [ec]
      rw [E_M_goOn_25 x 8 (by omega)]
      simp (disch := first | omega | assumption | (unfold rg; omega)) only [lit_0, lit_1, lit_2, lit_3, lit_4, lit_5, lit_6, lit_7, lit_8, lit_9, lit_10, lit_11, lit_12, lit_13, lit_14, lit_15, lit_16, lit_17, lit_18, lit_19, lit_20, lit_21, lit_22, lit_23, lit_24, lit_25, lit_26, lit_27, lit_28, lit_29, lit_30, lit_31, lit_32, lit_33, lit_34, lit_35, lit_36, lit_37, lit_38, lit_39, lit_40, lit_41, lit_42, lit_43, lit_44, lit_45, lit_46, lit_47, lit_48, lit_49, lit_50, lit_51, lit_52, lit_53, lit_54, lit_55, lit_56, lit_57, lit_58, lit_59, lit_60, lit_61, lit_62, lit_63, lit_64, lit_65, lit_67, lit_70, lit_71, lit_73, lit_75, lit_78, lit_84, lit_85, lit_86, lit_87, lit_89, lit_90, lit_91, lit_95, lit_96, lit_97, lit_98, lit_99, lit_100, lit_101, lit_102, lit_103, lit_104, lit_105, lit_107, lit_108, lit_109, lit_110, lit_111, lit_112, lit_114, lit_115, lit_116, lit_117, lit_119, lit_121, lit_122, lit_126, lit_127, lit_128, lit_130, lit_134, lit_137, lit_139, lit_140, lit_141, lit_145, lit_152, lit_159, lit_160, lit_168, lit_174, lit_180, lit_183, lit_192, lit_199, lit_236, lit_251, lit_255, lit_272, lit_284, lit_300, lit_330, lit_373, lit_753, lit_800, lit_896, lit_900, lit_1000, lit_1001, lit_1002, lit_1003, lit_1079, lit_1276, lit_1330, lit_1450, lit_3012, lit_3016, lit_3300, lit_8430, lit_9999, lit_10000, lit_11730, lit_30467, lit_65536, lit_99999, lit_100000, lit_1000000, lit_252645135, lit_858993459, lit_1000000000, lit_1431655765, jI_add, jI_sub, jI_mul, jI_neg, jI_lt, jI_le, jI_eq, b_I, b_L, b_V, b_R, b_N, b_N0, Option.bind_some, ↓reduceIte, bq0, bq1, bz0, bz1, ite_not, Classical.not_not, fR_149_0, ia_150, jI_modn, k11, k8, k2, h7, M_isOpen, M_get, Int.reduceMul, Int.reduceAdd]
      rw [if_neg (by omega)]
      by_cases ho : V (F1 150) (99 + g) = 0 ∨ V (F1 150) (99 + g) = 3
      · rw [if_pos ho]
        obtain ⟨F2, G2, r1, r2, r3⟩ := M_growsOf x F1 G1 (t := a 2) (g := g) (LA_cg (agL_T hf) hA) hi1 g0 (by omega)
        have e150 : F2 150 = F1 150 := r2 _ (by omega) (by omega)
        have e158 : F2 158 = F1 158 := r2 _ (by omega) (by omega)
        have hr := A_r (s := 2) (q := g) (c := V (F1 150)) hA (by omega) (by omega)
        have em : (if V (F1 150) (51 + g) + A 2 (V (F1 150)) g < 0 then 0 else if 99 < V (F1 150) (51 + g) + A 2 (V (F1 150)) g then 99 else V (F1 150) (51 + g) + A 2 (V (F1 150)) g) = min (V (F1 150) (51 + g) + A 2 (V (F1 150)) g) 99 := by
          repeat' split
          all_goals omega
        rw [r1, b_I, jI_add, jI_toL (by omega) (by omega), M_cut x F2 G2 (by omega) (by omega) (by unfold rg; omega) (by unfold rg; omega), b_I, em, M_put x F2 G2 g0 (by omega) (by omega) (by omega), b_V, e150]
        have ew2 : u (F1 150) (27 + 7 * g + 2) (min (V (F1 150) (51 + g) + A 2 (V (F1 150)) g) 99) = mGw A (F1 150) g := by
          unfold mGw
          rw [if_pos ho]
        rw [ew2]
        obtain ⟨F3, G3, q1, q2, q3, q4, q5⟩ := ih (sA F2 150 (mGw A (F1 150) g)) G2 (agL_tr (agL_tr hf (agL_N r2)) (agL_0 _ _)) (agG_tr hg r3) (by rw [sA_eq, es])
        exact ⟨F3, G3, q1, q2, by rw [q3, sA_ne _ _ (by omega), e158], q4, q5⟩
      · rw [if_neg ho]
        have ew2 : mGw A (F1 150) g = F1 150 := by
          unfold mGw
          rw [if_neg ho]
        exact ih F1 G1 hf hg (by rw [es, ew2])
  have e25' : ∀ (F1 G1 : Nat → Fn), agL F F1 → agG G G1 → F1 150 = a2 → ∃ F2 G2, m_D x 8 k_M_goOn 25 [some (.ref 149), some (.int (jI 0))] [] (mk F1 G1) = some (none, mk F2 G2) ∧ F2 150 = mGo A r a ∧ F2 158 = F1 158 ∧ agL F F2 ∧ agG G G2 := by
    intro F1 G1 hf hg he
    unfold mGo
    rw [ha2, ← l8, ← l11]
    by_cases h : a2 8 % 7 = 6
    · rw [if_pos h]
      exact e25 h 0 (by omega) (by omega) F1 G1 hf hg he
    · rw [if_neg h]
      obtain ⟨F2, r1, r2, r3, r4⟩ := e96 F1 G1 (jI 0) hf hg (by rw [he]; omega) (by rw [he]; omega) (by rw [he]; omega) (by rw [he]; omega)
      rw [he] at r2
      refine ⟨F2, G1, ?_, r2, r3, r4, hg⟩
      rw [E_M_goOn_25 x 8 (by omega)]
      simp (disch := omega) only [lit_0, lit_1, lit_2, lit_3, lit_4, lit_5, lit_6, lit_7, lit_8, lit_9, lit_10, lit_11, lit_12, lit_13, lit_14, lit_15, lit_16, lit_17, lit_18, lit_19, lit_20, lit_21, lit_22, lit_23, lit_24, lit_25, lit_26, lit_27, lit_28, lit_29, lit_30, lit_31, lit_32, lit_33, lit_34, lit_35, lit_36, lit_37, lit_38, lit_39, lit_40, lit_41, lit_42, lit_43, lit_44, lit_45, lit_46, lit_47, lit_48, lit_49, lit_50, lit_51, lit_52, lit_53, lit_54, lit_55, lit_56, lit_57, lit_58, lit_59, lit_60, lit_61, lit_62, lit_63, lit_64, lit_65, lit_67, lit_70, lit_71, lit_73, lit_75, lit_78, lit_84, lit_85, lit_86, lit_87, lit_89, lit_90, lit_91, lit_95, lit_96, lit_97, lit_98, lit_99, lit_100, lit_101, lit_102, lit_103, lit_104, lit_105, lit_107, lit_108, lit_109, lit_110, lit_111, lit_112, lit_114, lit_115, lit_116, lit_117, lit_119, lit_121, lit_122, lit_126, lit_127, lit_128, lit_130, lit_134, lit_137, lit_139, lit_140, lit_141, lit_145, lit_152, lit_159, lit_160, lit_168, lit_174, lit_180, lit_183, lit_192, lit_199, lit_236, lit_251, lit_255, lit_272, lit_284, lit_300, lit_330, lit_373, lit_753, lit_800, lit_896, lit_900, lit_1000, lit_1001, lit_1002, lit_1003, lit_1079, lit_1276, lit_1330, lit_1450, lit_3012, lit_3016, lit_3300, lit_8430, lit_9999, lit_10000, lit_11730, lit_30467, lit_65536, lit_99999, lit_100000, lit_1000000, lit_252645135, lit_858993459, lit_1000000000, lit_1431655765, jI_add, jI_sub, jI_mul, jI_neg, jI_lt, jI_le, jI_eq, b_I, b_L, b_V, b_R, b_N, b_N0, Option.bind_some, ↓reduceIte, bq0, bq1, bz0, bz1, ite_not, Classical.not_not, fR_149_0, ia_150, jI_modn, he]
      by_cases q : a2 11 ≤ 0
      · rw [if_pos q]
        exact r1
      · rw [if_neg q, if_neg h]
        exact r1
  have e2 : ∀ p, 0 ≤ p → p ≤ a 0 → ∀ (F1 G1 : Nat → Fn), agL F F1 → agG G G1 → F1 150 = mLvsN A r a p.toNat → (∀ q, 0 ≤ q → q < p → F1 158 q = fineAt A (wChill A (mLivesN A (V a) q.toNat) q) q) → ∃ F2 G2, m_D x 8 k_M_goOn 2 [some (.ref 149), some (.int (jI p))] [] (mk F1 G1) = some (none, mk F2 G2) ∧ F2 150 = mGo A r a ∧ (∀ q, 0 ≤ q → q < a 0 → F2 158 q = fineAt A (wChill A (mLivesN A (V a) q.toNat) q) q) ∧ agL F F2 ∧ agG G G2 := by
    apply down
    · intro F1 G1 hf hg he h8
      rw [ha2] at he
      obtain ⟨F2, G2, r1, r2, r3, r4, r5⟩ := e25' F1 G1 hf hg he
      refine ⟨F2, G2, ?_, r2, by rw [r3]; exact h8, r4, r5⟩
      rw [E_M_goOn_2 x 8 (by omega)]
      have i0 : m_ia x (mk F1 G1) 150 (jI 0) = some (jI (a 0)) := by
        have q := hlv.2.1 0 (by omega)
        rw [ia_150 x F1 G1 (by omega) (by omega), he, q]
      rw [fR_149_0, Option.bind_some, lit_0, i0, Option.bind_some, if_pos (Int32.le_refl _)]
      exact r1
    · intro p p0 p1 ih F1 G1 hf hg he h8
      have pk := mLvs_ok A r a p.toNat (by omega)
      have wk := mlives_ok hA hi p.toNat (by omega)
      have hi1 : WI (V (F1 150)) := by rw [he, pk.1]; exact wk.1
      have k0 : F1 150 0 = a 0 := by rw [he, pk.2.1 0 (by omega)]
      have k2 : F1 150 2 = a 2 := by rw [he, pk.2.1 2 (by omega)]
      have k12 : a 12 ≤ F1 150 12 ∧ F1 150 12 ≤ a 12 + p := by rw [he]; omega
      have e149 : F1 149 = F 149 := hf _ (by omega) (by omega) (by omega) (by omega)
      have eg : (p + 1).toNat = p.toNat + 1 := by omega
      have ec : ((p.toNat : Nat) : Int) = p := by omega
      have es : mLvsN A r a (p + 1).toNat = mLv A r (F1 150) p := by
        rw [eg, he]
        show mLv A r (mLvsN A r a p.toNat) (p.toNat : Int) = _
        rw [ec]
      obtain ⟨F2, G2, r1, r2, r3, r4, r5⟩ := M_live x F1 G1 (p := p) (A := A) (by rw [k2]; exact LA_cg (agL_T hf) hA) hi1 p0 (by omega) (by rw [e149, hrr]; exact hr) (by omega) (by omega)
      rw [e149, hrr] at r2
      rw [E_M_goOn_2 x 8 (by omega)]
      have i0 : m_ia x (mk F1 G1) 150 (jI 0) = some (jI (a 0)) := by rw [ia_150 x F1 G1 (by omega) (by omega), k0]
      have hgt : ¬ (jI (a 0) ≤ jI p) := by
        rw [jI_le (by omega) (by omega) (by omega) (by omega)]
        omega
      rw [fR_149_0, Option.bind_some, lit_0, i0, Option.bind_some, if_neg hgt, r1, b_V, lit_1, jI_add]
      refine ih F2 G2 (agL_tr hf r4) (agG_tr hg r5) (by rw [r2, es]) ?_
      intro q q0 q1
      rw [r3]
      by_cases e : q = p
      · rw [e, u_eq, he, pk.1]
      · rw [u_ne _ _ e]
        exact h8 q q0 (by omega)
  obtain ⟨F2, G2, r1, r2⟩ := e2 0 (by omega) (by omega) F G (fun _ _ _ _ _ => rfl) (fun _ _ => rfl) ha0 (by intro q q0 q1; omega)
  refine ⟨F2, G2, ?_, r2⟩
  rw [E_M_goOn, isO_149, if_pos rfl]
  exact r1
end
