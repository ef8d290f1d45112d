-- a day of the class
abbrev Law4 : Type := Int → Fn → Int → Int
def wChill (A : Law4) (c : Fn) (p : Int) : Fn := u c (15 + p) (min (c (15 + p) + A 0 c p) 9999)
def fineAt (A : Law4) (c : Fn) (p : Int) : Int := if 0 < c (8 + p) ∧ 0 < rights c p then min (c (8 + p)) (A 1 c p) else 0
def wLive (A : Law4) (c : Fn) (p : Int) : Fn := if 0 < fineAt A (wChill A c p) p then wFine (u (wChill A c p) (8 + p) (c (8 + p) - fineAt A (wChill A c p) p)) p (fineAt A (wChill A c p) p) else wChill A c p
def wLivesN (A : Law4) (c : Fn) : Nat → Fn
  | 0 => c
  | n + 1 => wLive A (wLivesN A c n) n
def fSetN (A : Law4) (c : Fn) : Nat → Int32
  | 0 => jI 0
  | n + 1 => if 0 < fineAt A (wChill A (wLivesN A c n) n) n then fSetN A c n ||| ((jI 1) <<< (jI n &&& jI 31)) else fSetN A c n
def wGrow (A : Law4) (c : Fn) (g : Int) : Fn := if c (99 + g) = 0 ∨ c (99 + g) = 3 then u c (51 + g) (min (c (51 + g) + A 2 c g) 99) else c
def wGrowsN (A : Law4) (c : Fn) : Nat → Fn
  | 0 => c
  | n + 1 => wGrow A (wGrowsN A c n) n
def wEnd (c : Fn) : Fn := u (wDraw (u c 22 (c 22 + 1))) 23 (c 24 % 10)
def wDay (A : Law4) (c : Fn) : Fn := wEnd (if c 22 % 7 = 6 then wGrowsN A (wLivesN A c (c 0).toNat) (c 25).toNat else wLivesN A c (c 0).toNat)
theorem wFine_lo (c : Fn) (p k : Int) {j : Int} (h0 : 0 ≤ c 26) (h : j < 111) (h2 : ¬ j = 26) : wFine c p k j = c j := by
  unfold wFine
  split
  · rw [u_ne _ _ h2, u_ne _ _ (by omega)]
  · rw [u_ne _ _ h2, u_ne _ _ (by omega), u_ne _ _ h2]
    unfold cp
    rw [if_neg (by omega)]
theorem WI_fine {c : Fn} {p k : Int} (hi : WI c) (h0 : 0 ≤ p) (h1 : p < 7) (h2 : 0 ≤ k) (h3 : k ≤ 99) : WI (wFine c p k) := by
  have hc := WI_c hi
  have e26 : hiB 26 = 30 := by simp [hiB]
  unfold wFine
  split
  · have e : hiB (111 + c 26) = 9999999 := hB_b (by omega) (by omega)
    exact WI_u (WI_u hi (by omega) (by omega) (by omega)) (by omega) (by omega) (by omega)
  · have e : hiB 140 = 9999999 := hB_b (by omega) (by omega)
    have hcp : WI (cp c c 112 111 29) := by
      refine WI_mk ?_ ?_
      · intro j j0 j1
        unfold cp
        by_cases q : 111 ≤ j ∧ j < 111 + 29
        · rw [if_pos q, hB_b (by omega) (by omega)]
          have := WI_b hi (i := j - 110) (by omega) (by omega)
          have e2 : 111 + (j - 110) = 112 + (j - 111) := by omega
          rw [e2] at this
          omega
        · rw [if_neg q]
          exact WI_hi hi j j0 j1
      · intro g g0 g1
        unfold cp at *
        rw [if_neg (by omega)] at g1
        rw [if_neg (by omega), if_neg (by omega), if_neg (by omega)]
        exact WI_h hi g0 g1
    exact WI_u (WI_u (WI_u hcp (by omega) (by omega) (by omega)) (by omega) (by omega) (by omega)) (by omega) (by omega) (by omega)
theorem WI_chill {F : Nat → Fn} {t : Int} {A : Law4} {c : Fn} {p : Int} (hA : LA F t A) (hi : WI c) (h0 : 0 ≤ p) (h1 : p < 7) : WI (wChill A c p) := by
  have hp := WI_p hi h0 h1
  have ha := A_r (s := 0) (q := p) (c := c) hA (by omega) (by omega)
  have e : hiB (15 + p) = 9999 := hB_c (by omega) (by omega)
  exact WI_u hi (by omega) (by omega) (by omega)
theorem fine_r {F : Nat → Fn} {t : Int} {A : Law4} {c : Fn} {p : Int} (hA : LA F t A) (hi : WI c) (h0 : 0 ≤ p) (h1 : p < 7) : 0 ≤ fineAt A c p ∧ fineAt A c p ≤ 99 ∧ fineAt A c p ≤ c (8 + p) := by
  have hp := WI_p hi h0 h1
  have ha := A_r (s := 1) (q := p) (c := c) hA (by omega) (by omega)
  unfold fineAt
  split <;> omega
theorem chill_ne (A : Law4) (c : Fn) {p j : Int} (h : ¬ j = 15 + p) : wChill A c p j = c j := by
  unfold wChill
  rw [u_ne _ _ h]
theorem WI_live {F : Nat → Fn} {t : Int} {A : Law4} {c : Fn} {p : Int} (hA : LA F t A) (hi : WI c) (h0 : 0 ≤ p) (h1 : p < 7) : WI (wLive A c p) := by
  have h2 := WI_chill hA hi h0 h1
  have hp := WI_p hi h0 h1
  have hf := fine_r hA h2 h0 h1
  rw [chill_ne A c (by omega)] at hf
  unfold wLive
  split
  · have e : hiB (8 + p) = 9999 := hB_c (by omega) (by omega)
    exact WI_fine (WI_u h2 (by omega) (by omega) (by omega)) h0 h1 (by omega) (by omega)
  · exact h2
theorem live_ne {F : Nat → Fn} {t : Int} {A : Law4} {c : Fn} {p j : Int} (hA : LA F t A) (hi : WI c) (h0 : 0 ≤ p) (h1 : p < 7) (hj : j < 111) (h2 : ¬ j = 15 + p) (h3 : ¬ j = 8 + p) (h4 : ¬ j = 26) : wLive A c p j = c j := by
  have hc := WI_c hi
  unfold wLive
  split
  · rw [wFine_lo _ _ _ (by rw [u_ne _ _ (by omega), chill_ne A c (by omega)]; omega) hj h4, u_ne _ _ h3, chill_ne A c h2]
  · rw [chill_ne A c h2]
theorem lives_ok {F : Nat → Fn} {t : Int} {A : Law4} {c : Fn} (hA : LA F t A) (hi : WI c) : ∀ n : Nat, n ≤ 7 → WI (wLivesN A c n) ∧ ∀ j, (0 ≤ j ∧ j < 8) ∨ (22 ≤ j ∧ j < 111 ∧ ¬ j = 26) → wLivesN A c n j = c j := by
  intro n
  induction n with
  | zero => intro _; exact ⟨hi, fun _ _ => rfl⟩
  | succ n ih =>
    intro hn
    have q := ih (by omega)
    refine ⟨WI_live hA q.1 (by omega) (by omega), ?_⟩
    intro j hj
    show wLive A (wLivesN A c n) n j = c j
    rw [live_ne hA q.1 (by omega) (by omega) (by omega) (by omega) (by omega) (by omega)]
    exact q.2 j hj
theorem WI_grow {F : Nat → Fn} {t : Int} {A : Law4} {c : Fn} {g : Int} (hA : LA F t A) (hi : WI c) (h0 : 0 ≤ g) (h1 : g < 12) : WI (wGrow A c g) := by
  have hg := WI_g hi h0 h1
  have ha := A_r (s := 2) (q := g) (c := c) hA (by omega) (by omega)
  have e : hiB (51 + g) = 99 := hB_w (by omega) (by omega)
  unfold wGrow
  split
  · exact WI_u hi (by omega) (by omega) (by omega)
  · exact hi
theorem grow_ne (A : Law4) (c : Fn) {g j : Int} (h : ¬ j = 51 + g) : wGrow A c g j = c j := by
  unfold wGrow
  split
  · rw [u_ne _ _ h]
  · rfl
theorem grows_ok {F : Nat → Fn} {t : Int} {A : Law4} {c : Fn} (hA : LA F t A) (hi : WI c) : ∀ n : Nat, n ≤ 12 → WI (wGrowsN A c n) ∧ ∀ j, j < 51 ∨ 63 ≤ j → wGrowsN A c n j = c j := by
  intro n
  induction n with
  | zero => intro _; exact ⟨hi, fun _ _ => rfl⟩
  | succ n ih =>
    intro hn
    have q := ih (by omega)
    refine ⟨WI_grow hA q.1 (by omega) (by omega), ?_⟩
    intro j hj
    show wGrow A (wGrowsN A c n) n j = c j
    rw [grow_ne _ _ (by omega)]
    exact q.2 j hj
theorem WI_end {c : Fn} (hi : WI c) (h : c 22 < 9999) : WI (wEnd c) := by
  have hc := WI_c hi
  have e1 : hiB 22 = 9999 := by simp [hiB]
  have e2 : hiB 23 = 9 := by simp [hiB]
  have e3 : hiB 24 = 30466 := by simp [hiB]
  unfold wEnd wDraw
  refine WI_u (WI_u (WI_u hi (by omega) (by omega) (by omega)) ?_ ?_ (by omega)) (by omega) (by omega) (by omega)
  · omega
  · omega
theorem WI_day {F : Nat → Fn} {t : Int} {A : Law4} {c : Fn} (hA : LA F t A) (hi : WI c) (h : c 22 < 9999) : WI (wDay A c) := by
  have hc := WI_c hi
  have q := lives_ok hA hi (c 0).toNat (by omega)
  have q2 := grows_ok hA q.1 (c 25).toNat (by omega)
  unfold wDay
  split
  · exact WI_end q2.1 (by rw [q2.2 22 (by omega), q.2 22 (by omega)]; exact h)
  · exact WI_end q.1 (by rw [q.2 22 (by omega)]; exact h)
/-- nothing but the world at w and what laws reckon with differs -/
def agW (w : Nat) (F F1 : Nat → Fn) : Prop := ∀ b, ¬ b = w + 1 → ¬ b = 136 → ¬ b = 137 → F1 b = F b
theorem agW_tr {w : Nat} {F F1 F2 : Nat → Fn} (h1 : agW w F F1) (h2 : agW w F1 F2) : agW w F F2 := fun b a c d => (h2 b a c d).trans (h1 b a c d)
theorem agW_s (w : Nat) (F : Nat → Fn) (f : Fn) : agW w F (sA F (w + 1) f) := fun _ h _ _ => sA_ne _ _ h
theorem agW_r {w : Nat} {F F1 : Nat → Fn} (h : agr F F1) : agW w F F1 := fun b _ h1 h2 => h b h1 h2
theorem agW_T {w : Nat} {F F1 : Nat → Fn} (hw : w = 1 ∨ w = 51 ∨ w = 101) (h : agW w F F1) : agT F F1 := ⟨fun b h1 h2 => h b (by omega) (by omega) (by omega), h 152 (by omega) (by omega) (by omega)⟩
theorem sv_is (t : Int) : isSv (sv t) := by
  unfold sv isSv
  split
  · exact Or.inl rfl
  · exact Or.inr ⟨_, rfl⟩
section
variable (x : m_X) (F G : Nat → Fn)
theorem C_passDay {w : Nat} {t : Int} {A : Law4} (hA : LA F t A) (hw : w = 1 ∨ w = 51 ∨ w = 101) (hi : WI (F (w + 1))) (hd : F (w + 1) 22 < 9999) : ∃ F2, m_M x k_Law_passDay [.ref 136, .ref w, sv t] (mk F G) = some (some (.int (fSetN A (F (w + 1)) (F (w + 1) 0).toNat)), mk F2 G) ∧ F2 (w + 1) = wDay A (F (w + 1)) ∧ agW w F F2 := by
  generalize hc0 : F (w + 1) = c at *
  have hc := WI_c hi
  have hS := sv_is t
  -- the end of the day
  have e236 : ∀ (F1 : Nat → Fn) (n3 : Int32) n4 d5 d6 d7 d8, m_nl d5 = true → m_nl d6 = true → m_nl d7 = true → m_nl d8 = true → agW w F F1 → WI (F1 (w + 1)) → ∃ F2, m_D x 6 k_Law_passDay 236 [some (.ref 136), some (.ref w), some (sv t), some (.int n3), some (.int n4), d5, d6, d7, d8] [] (mk F1 G) = some (some (.int n3), mk F2 G) ∧ F2 (w + 1) = wEnd (F1 (w + 1)) ∧ agW w F F2 := by
    intro F1 n3 n4 d5 d6 d7 d8 h5 h6 h7 h8 ha hi1
    have hc1 := WI_c hi1
    rw [S_passDay_236 x 6 (by omega) _ _ _ _ _ _ _ _ _ h5 h6 h7 h8 (sv t) hS]
    have hd1 : ∀ f : Fn, WI f → m_M x k_World_draw [.ref w] (mk (sA F1 (w + 1) f) G) = some (some (.int (jI (f 24))), mk (sA F1 (w + 1) (wDraw f)) G) := by
      intro f hf
      have q := C_draw x (sA F1 (w + 1) f) G (w := w) hw (by rw [sA_eq]; exact hf)
      rw [sA_eq, sA_sA] at q
      exact q
    have hq : m_M x k_World_draw [.ref w] (mk (sA F1 (w + 1) (u (F1 (w + 1)) 22 (F1 (w + 1) 22 + 1))) G) = some (some (.int (jI (F1 (w + 1) 24))), mk (sA F1 (w + 1) (wDraw (u (F1 (w + 1)) 22 (F1 (w + 1) 22 + 1)))) G) := by
      rw [E_World_draw]
      simp (disch := omega) only [lit_0, lit_1, lit_2, lit_3, lit_4, lit_5, lit_6, lit_7, lit_8, lit_9, lit_10, lit_11, lit_12, lit_13, lit_14, lit_15, lit_16, lit_17, lit_18, lit_19, lit_20, lit_21, lit_22, lit_23, lit_24, lit_25, lit_26, lit_27, lit_28, lit_29, lit_30, lit_31, lit_32, lit_33, lit_34, lit_35, lit_36, lit_37, lit_38, lit_39, lit_40, lit_41, lit_42, lit_43, lit_44, lit_45, lit_46, lit_47, lit_48, lit_49, lit_50, lit_51, lit_52, lit_53, lit_54, lit_55, lit_56, lit_57, lit_58, lit_59, lit_60, lit_61, lit_62, lit_63, lit_64, lit_65, lit_67, lit_70, lit_71, lit_73, lit_75, lit_78, lit_84, lit_85, lit_86, lit_87, lit_89, lit_90, lit_91, lit_95, lit_96, lit_97, lit_98, lit_99, lit_100, lit_101, lit_102, lit_103, lit_104, lit_105, lit_107, lit_108, lit_109, lit_110, lit_111, lit_112, lit_114, lit_115, lit_116, lit_117, lit_119, lit_121, lit_122, lit_126, lit_127, lit_128, lit_130, lit_134, lit_137, lit_139, lit_140, lit_141, lit_145, lit_152, lit_159, lit_160, lit_168, lit_174, lit_180, lit_183, lit_192, lit_199, lit_236, lit_251, lit_255, lit_272, lit_284, lit_300, lit_330, lit_373, lit_753, lit_800, lit_896, lit_900, lit_1000, lit_1001, lit_1002, lit_1003, lit_1079, lit_1276, lit_1330, lit_1450, lit_3012, lit_3016, lit_3300, lit_8430, lit_9999, lit_10000, lit_11730, lit_30467, lit_65536, lit_99999, lit_100000, lit_1000000, lit_252645135, lit_858993459, lit_1000000000, lit_1431655765, jI_add, jI_sub, jI_mul, jI_neg, isO_W, fR_W_0, ia_W, is_W, b_I, b_L, b_V, b_R, b_N, b_N0, Option.bind_some, ↓reduceIte, bq0, bq1, bz0, bz1, ite_not, Classical.not_not, sA_eq, sA_sA, u_ne, jI_modn]
      unfold wDraw
      simp (disch := omega) only [u_ne]
    simp (disch := omega) only [lit_0, lit_1, lit_2, lit_3, lit_4, lit_5, lit_6, lit_7, lit_8, lit_9, lit_10, lit_11, lit_12, lit_13, lit_14, lit_15, lit_16, lit_17, lit_18, lit_19, lit_20, lit_21, lit_22, lit_23, lit_24, lit_25, lit_26, lit_27, lit_28, lit_29, lit_30, lit_31, lit_32, lit_33, lit_34, lit_35, lit_36, lit_37, lit_38, lit_39, lit_40, lit_41, lit_42, lit_43, lit_44, lit_45, lit_46, lit_47, lit_48, lit_49, lit_50, lit_51, lit_52, lit_53, lit_54, lit_55, lit_56, lit_57, lit_58, lit_59, lit_60, lit_61, lit_62, lit_63, lit_64, lit_65, lit_67, lit_70, lit_71, lit_73, lit_75, lit_78, lit_84, lit_85, lit_86, lit_87, lit_89, lit_90, lit_91, lit_95, lit_96, lit_97, lit_98, lit_99, lit_100, lit_101, lit_102, lit_103, lit_104, lit_105, lit_107, lit_108, lit_109, lit_110, lit_111, lit_112, lit_114, lit_115, lit_116, lit_117, lit_119, lit_121, lit_122, lit_126, lit_127, lit_128, lit_130, lit_134, lit_137, lit_139, lit_140, lit_141, lit_145, lit_152, lit_159, lit_160, lit_168, lit_174, lit_180, lit_183, lit_192, lit_199, lit_236, lit_251, lit_255, lit_272, lit_284, lit_300, lit_330, lit_373, lit_753, lit_800, lit_896, lit_900, lit_1000, lit_1001, lit_1002, lit_1003, lit_1079, lit_1276, lit_1330, lit_1450, lit_3012, lit_3016, lit_3300, lit_8430, lit_9999, lit_10000, lit_11730, lit_30467, lit_65536, lit_99999, lit_100000, lit_1000000, lit_252645135, lit_858993459, lit_1000000000, lit_1431655765, jI_add, jI_sub, jI_mul, jI_neg, isO_W, fR_W_0, ia_W, is_W, b_I, b_L, b_V, b_R, b_N, b_N0, Option.bind_some, ↓reduceIte, bq0, bq1, bz0, bz1, ite_not, Classical.not_not, hq, jI_modn, sA_eq, sA_sA]
    exact ⟨_, rfl, by rw [sA_eq]; rfl, agW_tr ha (agW_s _ _ _)⟩
  have hlv := lives_ok hA hi (c 0).toNat (by omega)
  have l0 := hlv.2 0 (by omega)
  have l22 := hlv.2 22 (by omega)
  have l25 := hlv.2 25 (by omega)
  generalize hc2 : wLivesN A c (c 0).toNat = c2 at *
  have hcc := WI_c hlv.1
  have e159 : c2 22 % 7 = 6 → ∀ g, 0 ≤ g → g ≤ c2 25 → ∀ (F1 : Nat → Fn) (n3 : Int32) d5 d6 d7 d8, m_nl d5 = true → m_nl d6 = true → m_nl d7 = true → m_nl d8 = true → agW w F F1 → F1 (w + 1) = wGrowsN A c2 g.toNat → ∃ F2, m_D x 6 k_Law_passDay 159 [some (.ref 136), some (.ref w), some (sv t), some (.int n3), some (.int (jI g)), d5, d6, d7, d8] [] (mk F1 G) = some (some (.int n3), mk F2 G) ∧ F2 (w + 1) = wEnd (wGrowsN A c2 (c2 25).toNat) ∧ agW w F F2 := by
    intro h7
    apply down
    · intro F1 n3 d5 d6 d7 d8 h5 h6 h7' h8 ha he
      have gk := grows_ok hA hlv.1 (c2 25).toNat (by omega)
      obtain ⟨F2, r1, r2, r3⟩ := e236 F1 n3 (jI (c2 25)) d5 d6 d7 d8 h5 h6 h7' h8 ha (by rw [he]; exact gk.1)
      rw [he] at r2
      refine ⟨F2, ?_, r2, r3⟩
      rw [S_passDay_159 x 6 (by omega) _ _ _ _ _ _ _ _ _ h5 h6 h7' h8 (sv t) hS]
      simp (disch := omega) only [lit_0, lit_1, lit_2, lit_3, lit_4, lit_5, lit_6, lit_7, lit_8, lit_9, lit_10, lit_11, lit_12, lit_13, lit_14, lit_15, lit_16, lit_17, lit_18, lit_19, lit_20, lit_21, lit_22, lit_23, lit_24, lit_25, lit_26, lit_27, lit_28, lit_29, lit_30, lit_31, lit_32, lit_33, lit_34, lit_35, lit_36, lit_37, lit_38, lit_39, lit_40, lit_41, lit_42, lit_43, lit_44, lit_45, lit_46, lit_47, lit_48, lit_49, lit_50, lit_51, lit_52, lit_53, lit_54, lit_55, lit_56, lit_57, lit_58, lit_59, lit_60, lit_61, lit_62, lit_63, lit_64, lit_65, lit_67, lit_70, lit_71, lit_73, lit_75, lit_78, lit_84, lit_85, lit_86, lit_87, lit_89, lit_90, lit_91, lit_95, lit_96, lit_97, lit_98, lit_99, lit_100, lit_101, lit_102, lit_103, lit_104, lit_105, lit_107, lit_108, lit_109, lit_110, lit_111, lit_112, lit_114, lit_115, lit_116, lit_117, lit_119, lit_121, lit_122, lit_126, lit_127, lit_128, lit_130, lit_134, lit_137, lit_139, lit_140, lit_141, lit_145, lit_152, lit_159, lit_160, lit_168, lit_174, lit_180, lit_183, lit_192, lit_199, lit_236, lit_251, lit_255, lit_272, lit_284, lit_300, lit_330, lit_373, lit_753, lit_800, lit_896, lit_900, lit_1000, lit_1001, lit_1002, lit_1003, lit_1079, lit_1276, lit_1330, lit_1450, lit_3012, lit_3016, lit_3300, lit_8430, lit_9999, lit_10000, lit_11730, lit_30467, lit_65536, lit_99999, lit_100000, lit_1000000, lit_252645135, lit_858993459, lit_1000000000, lit_1431655765, isO_W, fR_W_0, ia_W, is_W, b_I, b_L, b_V, b_R, b_N, b_N0, Option.bind_some, ↓reduceIte, bq0, bq1, bz0, bz1, ite_not, Classical.not_not]
      rw [he, gk.2 25 (by omega), if_pos (Int32.le_refl _)]
      exact r1
    · intro g g0 g1 ih F1 n3 d5 d6 d7 d8 h5 h6 h7' h8 ha he
      have gk := grows_ok hA hlv.1 g.toNat (by omega)
      have hi1 : WI (F1 (w + 1)) := by rw [he]; exact gk.1
      have k25 : F1 (w + 1) 25 = c2 25 := by rw [he, gk.2 25 (by omega)]
      have k22 : F1 (w + 1) 22 = c2 22 := by rw [he, gk.2 22 (by omega)]
      have hgg := WI_g hi1 g0 (by omega)
      have eg : (g + 1).toNat = g.toNat + 1 := by omega
      have ec : ((g.toNat : Nat) : Int) = g := by omega
      have es : wGrowsN A c2 (g + 1).toNat = wGrow A (F1 (w + 1)) g := by
        rw [eg, he]
        show wGrow A (wGrowsN A c2 g.toNat) (g.toNat : Int) = _
        rw [ec]
      rw [S_passDay_159 x 6 (by omega) _ _ _ _ _ _ _ _ _ h5 h6 h7' h8 (sv t) hS]
      simp (disch := first | omega | assumption | (unfold rg; omega)) only [lit_0, lit_1, lit_2, lit_3, lit_4, lit_5, lit_6, lit_7, lit_8, lit_9, lit_10, lit_11, lit_12, lit_13, lit_14, lit_15, lit_16, lit_17, lit_18, lit_19, lit_20, lit_21, lit_22, lit_23, lit_24, lit_25, lit_26, lit_27, lit_28, lit_29, lit_30, lit_31, lit_32, lit_33, lit_34, lit_35, lit_36, lit_37, lit_38, lit_39, lit_40, lit_41, lit_42, lit_43, lit_44, lit_45, lit_46, lit_47, lit_48, lit_49, lit_50, lit_51, lit_52, lit_53, lit_54, lit_55, lit_56, lit_57, lit_58, lit_59, lit_60, lit_61, lit_62, lit_63, lit_64, lit_65, lit_67, lit_70, lit_71, lit_73, lit_75, lit_78, lit_84, lit_85, lit_86, lit_87, lit_89, lit_90, lit_91, lit_95, lit_96, lit_97, lit_98, lit_99, lit_100, lit_101, lit_102, lit_103, lit_104, lit_105, lit_107, lit_108, lit_109, lit_110, lit_111, lit_112, lit_114, lit_115, lit_116, lit_117, lit_119, lit_121, lit_122, lit_126, lit_127, lit_128, lit_130, lit_134, lit_137, lit_139, lit_140, lit_141, lit_145, lit_152, lit_159, lit_160, lit_168, lit_174, lit_180, lit_183, lit_192, lit_199, lit_236, lit_251, lit_255, lit_272, lit_284, lit_300, lit_330, lit_373, lit_753, lit_800, lit_896, lit_900, lit_1000, lit_1001, lit_1002, lit_1003, lit_1079, lit_1276, lit_1330, lit_1450, lit_3012, lit_3016, lit_3300, lit_8430, lit_9999, lit_10000, lit_11730, lit_30467, lit_65536, lit_99999, lit_100000, lit_1000000, lit_252645135, lit_858993459, lit_1000000000, lit_1431655765, jI_add, jI_sub, jI_mul, jI_neg, jI_lt, jI_le, jI_eq, isO_W, fR_W_0, ia_W, is_W, b_I, b_L, b_V, b_R, b_N, b_N0, Option.bind_some, ↓reduceIte, bq0, bq1, bz0, bz1, ite_not, Classical.not_not, jI_modn, k25, k22, h7, C_isOpen]
      rw [if_neg (by omega)]
      by_cases ho : F1 (w + 1) (99 + g) = 0 ∨ F1 (w + 1) (99 + g) = 3
      · rw [if_pos ⟨g0, g1, ho⟩]
        have hA1 := LA_cg (agW_T hw ha) hA
        obtain ⟨F2, r1, r2⟩ := C_amount x F1 G (w := w) (t := t) (s := 2) (q := g) hA1 hw hi1 (by omega) (by omega) (by unfold qok; omega)
        have ew : F2 (w + 1) = F1 (w + 1) := r2 _ (by omega) (by omega)
        have hr := A_r (s := 2) (q := g) (c := F1 (w + 1)) hA (by omega) (by omega)
        have hat := C_at x F1 G (w := w) (p := 51) (i := g) hw (by omega) (by omega)
        rw [hat, b_I, r1, b_I, jI_add, C_min x F2 G (by unfold rg; omega) (by unfold rg; omega), b_I, C_change x F2 G hw (by omega) (by omega), b_V, ew]
        have ew2 : u (F1 (w + 1)) (51 + g) (min (F1 (w + 1) (51 + g) + A 2 (F1 (w + 1)) g) 99) = wGrow A (F1 (w + 1)) g := by
          unfold wGrow
          rw [if_pos ho]
        rw [ew2]
        exact ih _ _ _ _ _ _ rfl h6 h7' h8 (agW_tr (agW_tr ha (agW_r r2)) (agW_s _ _ _)) (by rw [sA_eq, es])
      · rw [if_neg (fun z => ho z.2.2)]
        have ew2 : wGrow A (F1 (w + 1)) g = F1 (w + 1) := by
          unfold wGrow
          rw [if_neg ho]
        exact ih _ _ _ _ _ _ h5 h6 h7' h8 ha (by rw [es, ew2])
  have e159' : ∀ (F1 : Nat → Fn) (n3 : Int32) d5 d6 d7 d8, m_nl d5 = true → m_nl d6 = true → m_nl d7 = true → m_nl d8 = true → agW w F F1 → F1 (w + 1) = c2 → ∃ F2, m_D x 6 k_Law_passDay 159 [some (.ref 136), some (.ref w), some (sv t), some (.int n3), some (.int (jI 0)), d5, d6, d7, d8] [] (mk F1 G) = some (some (.int n3), mk F2 G) ∧ F2 (w + 1) = wDay A c ∧ agW w F F2 := by
    intro F1 n3 d5 d6 d7 d8 h5 h6 h7 h8 ha he
    unfold wDay
    rw [hc2, ← l22, ← l25]
    by_cases h : c2 22 % 7 = 6
    · rw [if_pos h]
      exact e159 h 0 (by omega) (by omega) F1 n3 d5 d6 d7 d8 h5 h6 h7 h8 ha he
    · rw [if_neg h]
      obtain ⟨F2, r1, r2, r3⟩ := e236 F1 n3 (jI 0) d5 d6 d7 d8 h5 h6 h7 h8 ha (by rw [he]; exact hlv.1)
      rw [he] at r2
      refine ⟨F2, ?_, r2, r3⟩
      rw [S_passDay_159 x 6 (by omega) _ _ _ _ _ _ _ _ _ h5 h6 h7 h8 (sv t) hS]
      simp (disch := omega) only [lit_0, lit_1, lit_2, lit_3, lit_4, lit_5, lit_6, lit_7, lit_8, lit_9, lit_10, lit_11, lit_12, lit_13, lit_14, lit_15, lit_16, lit_17, lit_18, lit_19, lit_20, lit_21, lit_22, lit_23, lit_24, lit_25, lit_26, lit_27, lit_28, lit_29, lit_30, lit_31, lit_32, lit_33, lit_34, lit_35, lit_36, lit_37, lit_38, lit_39, lit_40, lit_41, lit_42, lit_43, lit_44, lit_45, lit_46, lit_47, lit_48, lit_49, lit_50, lit_51, lit_52, lit_53, lit_54, lit_55, lit_56, lit_57, lit_58, lit_59, lit_60, lit_61, lit_62, lit_63, lit_64, lit_65, lit_67, lit_70, lit_71, lit_73, lit_75, lit_78, lit_84, lit_85, lit_86, lit_87, lit_89, lit_90, lit_91, lit_95, lit_96, lit_97, lit_98, lit_99, lit_100, lit_101, lit_102, lit_103, lit_104, lit_105, lit_107, lit_108, lit_109, lit_110, lit_111, lit_112, lit_114, lit_115, lit_116, lit_117, lit_119, lit_121, lit_122, lit_126, lit_127, lit_128, lit_130, lit_134, lit_137, lit_139, lit_140, lit_141, lit_145, lit_152, lit_159, lit_160, lit_168, lit_174, lit_180, lit_183, lit_192, lit_199, lit_236, lit_251, lit_255, lit_272, lit_284, lit_300, lit_330, lit_373, lit_753, lit_800, lit_896, lit_900, lit_1000, lit_1001, lit_1002, lit_1003, lit_1079, lit_1276, lit_1330, lit_1450, lit_3012, lit_3016, lit_3300, lit_8430, lit_9999, lit_10000, lit_11730, lit_30467, lit_65536, lit_99999, lit_100000, lit_1000000, lit_252645135, lit_858993459, lit_1000000000, lit_1431655765, jI_add, jI_sub, jI_mul, jI_neg, jI_lt, jI_le, jI_eq, isO_W, fR_W_0, ia_W, is_W, b_I, b_L, b_V, b_R, b_N, b_N0, Option.bind_some, ↓reduceIte, bq0, bq1, bz0, bz1, ite_not, Classical.not_not, jI_modn, he]
      by_cases q : c2 25 ≤ 0
      · rw [if_pos q]
        exact r1
      · rw [if_neg q, if_neg h]
        exact r1
  have e14 : ∀ p, 0 ≤ p → p ≤ c 0 → ∀ (F1 : Nat → Fn) d5 d6 d7 d8, m_nl d5 = true → m_nl d6 = true → m_nl d7 = true → m_nl d8 = true → agW w F F1 → F1 (w + 1) = wLivesN A c p.toNat → ∃ F2, m_D x 6 k_Law_passDay 14 [some (.ref 136), some (.ref w), some (sv t), some (.int (fSetN A c p.toNat)), some (.int (jI p)), d5, d6, d7, d8] [] (mk F1 G) = some (some (.int (fSetN A c (c 0).toNat)), mk F2 G) ∧ F2 (w + 1) = wDay A c ∧ agW w F F2 := by
    apply down
    · intro F1 d5 d6 d7 d8 h5 h6 h7 h8 ha he
      rw [hc2] at he
      obtain ⟨F2, r1, r2⟩ := e159' F1 (fSetN A c (c 0).toNat) d5 d6 d7 d8 h5 h6 h7 h8 ha he
      refine ⟨F2, ?_, r2⟩
      rw [S_passDay_14 x 6 (by omega) _ _ _ _ _ _ _ _ _ h5 h6 h7 h8 (sv t) hS]
      simp (disch := omega) only [lit_0, lit_1, lit_2, lit_3, lit_4, lit_5, lit_6, lit_7, lit_8, lit_9, lit_10, lit_11, lit_12, lit_13, lit_14, lit_15, lit_16, lit_17, lit_18, lit_19, lit_20, lit_21, lit_22, lit_23, lit_24, lit_25, lit_26, lit_27, lit_28, lit_29, lit_30, lit_31, lit_32, lit_33, lit_34, lit_35, lit_36, lit_37, lit_38, lit_39, lit_40, lit_41, lit_42, lit_43, lit_44, lit_45, lit_46, lit_47, lit_48, lit_49, lit_50, lit_51, lit_52, lit_53, lit_54, lit_55, lit_56, lit_57, lit_58, lit_59, lit_60, lit_61, lit_62, lit_63, lit_64, lit_65, lit_67, lit_70, lit_71, lit_73, lit_75, lit_78, lit_84, lit_85, lit_86, lit_87, lit_89, lit_90, lit_91, lit_95, lit_96, lit_97, lit_98, lit_99, lit_100, lit_101, lit_102, lit_103, lit_104, lit_105, lit_107, lit_108, lit_109, lit_110, lit_111, lit_112, lit_114, lit_115, lit_116, lit_117, lit_119, lit_121, lit_122, lit_126, lit_127, lit_128, lit_130, lit_134, lit_137, lit_139, lit_140, lit_141, lit_145, lit_152, lit_159, lit_160, lit_168, lit_174, lit_180, lit_183, lit_192, lit_199, lit_236, lit_251, lit_255, lit_272, lit_284, lit_300, lit_330, lit_373, lit_753, lit_800, lit_896, lit_900, lit_1000, lit_1001, lit_1002, lit_1003, lit_1079, lit_1276, lit_1330, lit_1450, lit_3012, lit_3016, lit_3300, lit_8430, lit_9999, lit_10000, lit_11730, lit_30467, lit_65536, lit_99999, lit_100000, lit_1000000, lit_252645135, lit_858993459, lit_1000000000, lit_1431655765, isO_W, fR_W_0, ia_W, is_W, b_I, b_L, b_V, b_R, b_N, b_N0, Option.bind_some, ↓reduceIte, bq0, bq1, bz0, bz1, ite_not, Classical.not_not]
      rw [he, l0, if_pos (Int32.le_refl _)]
      exact r1
    · intro p p0 p1 ih F1 d5 d6 d7 d8 h5 h6 h7 h8 ha he
      have pk := lives_ok hA hi p.toNat (by omega)
      have hi1 : WI (F1 (w + 1)) := by rw [he]; exact pk.1
      have k0 : F1 (w + 1) 0 = c 0 := by rw [he, pk.2 0 (by omega)]
      have eg : (p + 1).toNat = p.toNat + 1 := by omega
      have ec : ((p.toNat : Nat) : Int) = p := by omega
      have es : wLivesN A c (p + 1).toNat = wLive A (F1 (w + 1)) p := by
        rw [eg, he]
        show wLive A (wLivesN A c p.toNat) (p.toNat : Int) = _
        rw [ec]
      have ef : fSetN A c (p + 1).toNat = if 0 < fineAt A (wChill A (F1 (w + 1)) p) p then fSetN A c p.toNat ||| ((jI 1) <<< (jI p &&& jI 31)) else fSetN A c p.toNat := by
        rw [eg, he]
        show (if 0 < fineAt A (wChill A (wLivesN A c p.toNat) (p.toNat : Int)) (p.toNat : Int) then fSetN A c p.toNat ||| ((jI 1) <<< (jI (p.toNat : Int) &&& jI 31)) else fSetN A c p.toNat) = _
        rw [ec]
      generalize hd0 : F1 (w + 1) = d at *
      have hdp := WI_p hi1 p0 (by omega)
      have hA1 := LA_cg (agW_T hw ha) hA
      obtain ⟨F2, r1, r2⟩ := C_amount x F1 G (w := w) (t := t) (s := 0) (q := p) hA1 hw (by rw [hd0]; exact hi1) (by omega) (by omega) (by unfold qok; omega)
      have ew : F2 (w + 1) = d := (r2 _ (by omega) (by omega)).trans hd0
      rw [hd0] at r1
      have hr0 := A_r (s := 0) (q := p) (c := d) hA (by omega) (by omega)
      have hr1 := A_r (s := 1) (q := p) (c := wChill A d p) hA (by omega) (by omega)
      have ha2 : agW w F F2 := agW_tr ha (agW_r r2)
      have ha3 : agW w F (sA F2 (w + 1) (wChill A d p)) := agW_tr ha2 (agW_s _ _ _)
      have hiC := WI_chill (p := p) hA hi1 p0 (by omega)
      have hfr := fine_r (p := p) hA hiC p0 (by omega)
      have c8 : wChill A d p (8 + p) = d (8 + p) := chill_ne A d (by omega)
      rw [c8] at hfr
      have hat := C_at x F1 G (w := w) (p := 15) (i := p) hw (by omega) (by omega)
      rw [hd0] at hat
      have hch : m_M x k_World_change [.ref w, .int (jI 15), .int (jI p), .int (jI (min (d (15 + p) + A 0 d p) 9999))] (mk F2 G) = some (none, mk (sA F2 (w + 1) (wChill A d p)) G) := by
        rw [C_change x F2 G hw (by omega) (by omega), ew]
        rfl
      have hat8 := C_at x (sA F2 (w + 1) (wChill A d p)) G (w := w) (p := 8) (i := p) hw (by omega) (by omega)
      rw [sA_eq, c8] at hat8
      -- what becomes of the fine
      have e115 : ∀ (F3 : Nat → Fn) (f : Int) n5 n7 d8, m_nl d8 = true → agW w F F3 → F3 (w + 1) = wChill A d p → f = fineAt A (wChill A d p) p → ∃ F2, m_D x 6 k_Law_passDay 115 [some (.ref 136), some (.ref w), some (sv t), some (.int (fSetN A c p.toNat)), some (.int (jI p)), some (.int n5), some (.int (jI (d (8 + p)))), some (.int n7), d8] [.int (jI f)] (mk F3 G) = some (some (.int (fSetN A c (c 0).toNat)), mk F2 G) ∧ F2 (w + 1) = wDay A c ∧ agW w F F2 := by
        intro F3 f n5 n7 d8 h8 ha3 he3 hf
        rw [S_passDay_115 x 6 (by omega) _ _ _ _ _ _ _ _ _ _ h8 (sv t) hS]
        rw [← hf] at hfr ef
        have el : wLive A d p = if 0 < f then wFine (u (wChill A d p) (8 + p) (d (8 + p) - f)) p f else wChill A d p := by
          unfold wLive
          rw [← hf]
        simp (disch := omega) only [lit_0, lit_1, lit_2, lit_3, lit_4, lit_5, lit_6, lit_7, lit_8, lit_9, lit_10, lit_11, lit_12, lit_13, lit_14, lit_15, lit_16, lit_17, lit_18, lit_19, lit_20, lit_21, lit_22, lit_23, lit_24, lit_25, lit_26, lit_27, lit_28, lit_29, lit_30, lit_31, lit_32, lit_33, lit_34, lit_35, lit_36, lit_37, lit_38, lit_39, lit_40, lit_41, lit_42, lit_43, lit_44, lit_45, lit_46, lit_47, lit_48, lit_49, lit_50, lit_51, lit_52, lit_53, lit_54, lit_55, lit_56, lit_57, lit_58, lit_59, lit_60, lit_61, lit_62, lit_63, lit_64, lit_65, lit_67, lit_70, lit_71, lit_73, lit_75, lit_78, lit_84, lit_85, lit_86, lit_87, lit_89, lit_90, lit_91, lit_95, lit_96, lit_97, lit_98, lit_99, lit_100, lit_101, lit_102, lit_103, lit_104, lit_105, lit_107, lit_108, lit_109, lit_110, lit_111, lit_112, lit_114, lit_115, lit_116, lit_117, lit_119, lit_121, lit_122, lit_126, lit_127, lit_128, lit_130, lit_134, lit_137, lit_139, lit_140, lit_141, lit_145, lit_152, lit_159, lit_160, lit_168, lit_174, lit_180, lit_183, lit_192, lit_199, lit_236, lit_251, lit_255, lit_272, lit_284, lit_300, lit_330, lit_373, lit_753, lit_800, lit_896, lit_900, lit_1000, lit_1001, lit_1002, lit_1003, lit_1079, lit_1276, lit_1330, lit_1450, lit_3012, lit_3016, lit_3300, lit_8430, lit_9999, lit_10000, lit_11730, lit_30467, lit_65536, lit_99999, lit_100000, lit_1000000, lit_252645135, lit_858993459, lit_1000000000, lit_1431655765, jI_add, jI_sub, jI_mul, jI_neg, jI_lt, jI_le, jI_eq]
        by_cases h0 : f ≤ 0
        · rw [if_pos h0]
          rw [if_neg (by omega)] at ef el
          have q := ih F3 (some (.int n5)) (some (.int (jI (d (8 + p))))) (some (.int n7)) (some (.int (jI f))) rfl rfl rfl rfl ha3 (by rw [es, el, he3])
          rw [ef] at q
          exact q
        · rw [if_neg h0]
          rw [if_pos (by omega)] at ef el
          have e8 : hiB (8 + p) = 9999 := hB_c (by omega) (by omega)
          have hwu : WI (u (wChill A d p) (8 + p) (d (8 + p) - f)) := WI_u hiC (by omega) (by omega) (by omega)
          rw [C_change x F3 G hw (by omega) (by omega), b_V, he3]
          have hwf := C_writeFine x (sA F3 (w + 1) (u (wChill A d p) (8 + p) (d (8 + p) - f))) G (w := w) (p := p) (k := f) hw (by rw [sA_eq]; exact hwu)
          rw [sA_eq, sA_sA] at hwf
          rw [hwf, b_V]
          have q := ih (sA F3 (w + 1) (wFine (u (wChill A d p) (8 + p) (d (8 + p) - f)) p f)) (some (.int n5)) (some (.int (jI (d (8 + p))))) (some (.int n7)) (some (.int (jI f))) rfl rfl rfl rfl (agW_tr ha3 (agW_s _ _ _)) (by rw [sA_eq, es, el])
          rw [ef] at q
          exact q
      rw [S_passDay_14 x 6 (by omega) _ _ _ _ _ _ _ _ _ h5 h6 h7 h8 (sv t) hS]
      have hl0 : m_ia x (mk F1 G) (w + 1) (jI 0) = some (jI (c 0)) := by rw [ia_W x F1 G hw (by omega) (by omega), hd0, k0]
      have hgt : ¬ (jI (c 0) ≤ jI p) := by
        rw [jI_le (by omega) (by omega) (by omega) (by omega)]
        omega
      rw [fR_W_0 F1 G hw, Option.bind_some, lit_0, hl0, Option.bind_some, if_neg hgt, lit_15, hat, b_I, r1, b_I, jI_add, lit_9999, C_min x F2 G (by unfold rg; omega) (by unfold rg; omega), b_I, hch, b_V, lit_8, hat8, b_I]
      by_cases q1 : d (8 + p) ≤ 0
      · have q1' : jI (d (8 + p)) ≤ jI 0 := by
          rw [jI_le (by omega) (by omega) (by omega) (by omega)]
          exact q1
        rw [if_pos q1']
        have hz : fineAt A (wChill A d p) p = 0 := by
          unfold fineAt
          rw [if_neg (by rw [c8]; omega)]
        exact e115 _ 0 _ _ d8 h8 ha3 (sA_eq _ _ _) hz.symm
      · have q1' : ¬ (jI (d (8 + p)) ≤ jI 0) := by
          rw [jI_le (by omega) (by omega) (by omega) (by omega)]
          exact q1
        have hrt := C_rightsOf x (sA F2 (w + 1) (wChill A d p)) G (w := w) (p := p) hw (by rw [sA_eq]; exact hiC) (by unfold rg; omega)
        rw [sA_eq] at hrt
        have hrl := rights_le (c := wChill A d p) p (by have := WI_c hiC; omega)
        have hcC := WI_c hiC
        rw [if_neg q1', hrt, b_I]
        by_cases q2 : rights (wChill A d p) p ≤ 0
        · have q2' : jI (rights (wChill A d p) p) ≤ jI 0 := by
            rw [jI_le (by omega) (by omega) (by omega) (by omega)]
            exact q2
          rw [if_pos q2']
          have hz : fineAt A (wChill A d p) p = 0 := by
            unfold fineAt
            rw [if_neg (by omega)]
          exact e115 _ 0 _ _ d8 h8 ha3 (sA_eq _ _ _) hz.symm
        · have q2' : ¬ (jI (rights (wChill A d p) p) ≤ jI 0) := by
            rw [jI_le (by omega) (by omega) (by omega) (by omega)]
            exact q2
          have hA3 := LA_cg (agW_T hw ha3) hA
          obtain ⟨F4, s1, s2⟩ := C_amount x (sA F2 (w + 1) (wChill A d p)) G (w := w) (t := t) (s := 1) (q := p) hA3 hw (by rw [sA_eq]; exact hiC) (by omega) (by omega) (by unfold qok; omega)
          rw [sA_eq] at s1
          rw [if_neg q2', lit_1, s1, b_I, C_min x F4 G (by unfold rg; omega) (by unfold rg; omega), b_I]
          have hz : min (d (8 + p)) (A 1 (wChill A d p) p) = fineAt A (wChill A d p) p := by
            unfold fineAt
            rw [if_pos (by rw [c8]; omega), c8]
          exact e115 F4 _ _ _ d8 h8 (agW_tr ha3 (agW_r s2)) ((s2 _ (by omega) (by omega)).trans (sA_eq _ _ _)) hz
  obtain ⟨F2, r1, r2⟩ := e14 0 (by omega) (by omega) F none none none none rfl rfl rfl rfl (fun _ _ _ _ => rfl) hc0
  refine ⟨F2, ?_, r2⟩
  rw [S_passDay x _ _ _ (sv t) hS, isO_136, if_pos rfl, C_dayCanPass x F G hw (by rw [hc0]; unfold rg; omega), b_I, hc0, if_pos hd, if_neg (show ¬ jI 1 = 0 by decide)]
  exact r1
end
