-- what comes: the model's side
/-- like F0, but for what a day of the model changes -/
def ag0 (F F1 : Nat → Fn) : Prop := ∀ b, ¬ b = 150 → ¬ b = 155 → ¬ b = 157 → ¬ b = 158 → F1 b = F b
section
variable (x : m_X) (F G : Nat → Fn)
theorem M_setAside : ∃ F2, m_M x k_M_setAside [.ref 149] (mk F G) = some (none, mk F2 G) ∧ (∀ k, 8 ≤ k → k < 112 → F2 159 k = F 150 k) ∧ F2 149 = u (F 149) 23 0 ∧ (∀ b, ¬ b = 149 → ¬ b = 159 → F2 b = F b) := by
  have key : ∀ n, 8 ≤ n → n ≤ 112 → ∀ F1, (∀ k, 8 ≤ k → k < n → F1 159 k = F 150 k) → (∀ b, ¬ b = 159 → F1 b = F b) → ∃ F2, m_D x 1 k_M_setAside 3 [some (.ref 149), some (.int (jI n))] [] (mk F1 G) = some (none, mk F2 G) ∧ (∀ k, 8 ≤ k → k < 112 → F2 159 k = F 150 k) ∧ F2 149 = u (F 149) 23 0 ∧ (∀ b, ¬ b = 149 → ¬ b = 159 → F2 b = F b) := by
    apply down
    · intro F1 h1 h2
      refine ⟨sA F1 149 (u (F1 149) 23 0), ?_, ?_, ?_, ?_⟩
      · rw [E_M_setAside_3 x 1 (by omega), lit_112, if_pos (Int32.le_refl _), lit_0, pf_149_23, Option.bind_some]
      · intro k k0 k1
        rw [sA_ne _ _ (by omega)]
        exact h1 k k0 k1
      · rw [sA_eq, h2 149 (by omega)]
      · intro b b1 b2
        rw [sA_ne _ _ b1, h2 b b2]
    · intro n n0 n1 ih F1 h1 h2
      rw [E_M_setAside_3 x 1 (by omega)]
      simp (disch := omega) only [lit_0, lit_1, lit_2, lit_3, lit_4, lit_5, lit_6, lit_7, lit_8, lit_9, lit_10, lit_11, lit_12, lit_13, lit_14, lit_15, lit_16, lit_17, lit_18, lit_19, lit_20, lit_21, lit_22, lit_23, lit_24, lit_25, lit_26, lit_27, lit_28, lit_29, lit_30, lit_31, lit_32, lit_33, lit_34, lit_35, lit_36, lit_37, lit_38, lit_39, lit_40, lit_41, lit_42, lit_43, lit_44, lit_45, lit_46, lit_47, lit_48, lit_49, lit_50, lit_51, lit_52, lit_53, lit_54, lit_55, lit_56, lit_57, lit_58, lit_59, lit_60, lit_61, lit_62, lit_63, lit_64, lit_65, lit_67, lit_70, lit_71, lit_73, lit_75, lit_78, lit_84, lit_85, lit_86, lit_87, lit_89, lit_90, lit_91, lit_95, lit_96, lit_97, lit_98, lit_99, lit_100, lit_101, lit_102, lit_103, lit_104, lit_105, lit_107, lit_108, lit_109, lit_110, lit_111, lit_112, lit_114, lit_115, lit_116, lit_117, lit_119, lit_121, lit_122, lit_126, lit_127, lit_128, lit_130, lit_134, lit_137, lit_139, lit_140, lit_141, lit_145, lit_152, lit_159, lit_160, lit_168, lit_174, lit_180, lit_183, lit_192, lit_199, lit_236, lit_251, lit_255, lit_272, lit_284, lit_300, lit_330, lit_373, lit_753, lit_800, lit_896, lit_900, lit_1000, lit_1001, lit_1002, lit_1003, lit_1079, lit_1276, lit_1330, lit_1450, lit_3012, lit_3016, lit_3300, lit_8430, lit_9999, lit_10000, lit_11730, lit_30467, lit_65536, lit_99999, lit_100000, lit_1000000, lit_252645135, lit_858993459, lit_1000000000, lit_1431655765, jI_add, jI_sub, jI_mul, jI_neg, jI_lt, jI_le, jI_eq, fR_149_0, fR_149_25, ia_150, is_159, b_I, b_L, b_V, b_R, b_N, b_N0, Option.bind_some, ↓reduceIte, bq0, bq1, bz0, bz1, ite_not, Classical.not_not]
      rw [if_neg (by omega)]
      refine ih _ ?_ ?_
      · intro k k0 k1
        rw [sA_eq]
        by_cases q : k = n
        · rw [q, u_eq, h2 150 (by omega)]
        · rw [u_ne _ _ q]
          exact h1 k k0 (by omega)
      · intro b b1
        rw [sA_ne _ _ b1, h2 b b1]
  rw [E_M_setAside, isO_149, if_pos rfl, lit_8]
  exact key 8 (by omega) (by omega) F (fun k _ _ => by omega) (fun _ _ => rfl)
theorem M_putBack {a : Fn} (h1 : ∀ k, 8 ≤ k → k < 112 → F 159 k = a k) (h2 : ∀ k, k < 8 ∨ 112 ≤ k → F 150 k = a k) : m_M x k_M_putBack [.ref 149] (mk F G) = some (none, mk (sA (sA F 150 a) 149 (u (F 149) 23 1)) G) := by
  have key : ∀ n, 8 ≤ n → n ≤ 112 → ∀ f, (∀ k, k < n ∨ 112 ≤ k → f k = a k) → m_D x 1 k_M_putBack 3 [some (.ref 149), some (.int (jI n))] [] (mk (sA F 150 f) G) = some (none, mk (sA (sA F 150 a) 149 (u (F 149) 23 1)) G) := by
    apply down
    · intro f hf
      have e : f = a := funext (fun k => hf k (by omega))
      rw [e, E_M_putBack_3 x 1 (by omega), lit_112, if_pos (Int32.le_refl _), lit_1, pf_149_23, Option.bind_some, sA_ne (b := 149) _ _ (by omega)]
    · intro n n0 n1 ih f hf
      rw [E_M_putBack_3 x 1 (by omega)]
      simp (disch := omega) only [lit_0, lit_1, lit_2, lit_3, lit_4, lit_5, lit_6, lit_7, lit_8, lit_9, lit_10, lit_11, lit_12, lit_13, lit_14, lit_15, lit_16, lit_17, lit_18, lit_19, lit_20, lit_21, lit_22, lit_23, lit_24, lit_25, lit_26, lit_27, lit_28, lit_29, lit_30, lit_31, lit_32, lit_33, lit_34, lit_35, lit_36, lit_37, lit_38, lit_39, lit_40, lit_41, lit_42, lit_43, lit_44, lit_45, lit_46, lit_47, lit_48, lit_49, lit_50, lit_51, lit_52, lit_53, lit_54, lit_55, lit_56, lit_57, lit_58, lit_59, lit_60, lit_61, lit_62, lit_63, lit_64, lit_65, lit_67, lit_70, lit_71, lit_73, lit_75, lit_78, lit_84, lit_85, lit_86, lit_87, lit_89, lit_90, lit_91, lit_95, lit_96, lit_97, lit_98, lit_99, lit_100, lit_101, lit_102, lit_103, lit_104, lit_105, lit_107, lit_108, lit_109, lit_110, lit_111, lit_112, lit_114, lit_115, lit_116, lit_117, lit_119, lit_121, lit_122, lit_126, lit_127, lit_128, lit_130, lit_134, lit_137, lit_139, lit_140, lit_141, lit_145, lit_152, lit_159, lit_160, lit_168, lit_174, lit_180, lit_183, lit_192, lit_199, lit_236, lit_251, lit_255, lit_272, lit_284, lit_300, lit_330, lit_373, lit_753, lit_800, lit_896, lit_900, lit_1000, lit_1001, lit_1002, lit_1003, lit_1079, lit_1276, lit_1330, lit_1450, lit_3012, lit_3016, lit_3300, lit_8430, lit_9999, lit_10000, lit_11730, lit_30467, lit_65536, lit_99999, lit_100000, lit_1000000, lit_252645135, lit_858993459, lit_1000000000, lit_1431655765, jI_add, jI_sub, jI_mul, jI_neg, jI_lt, jI_le, jI_eq, fR_149_0, fR_149_25, ia_159, is_150, b_I, b_L, b_V, b_R, b_N, b_N0, Option.bind_some, ↓reduceIte, bq0, bq1, bz0, bz1, ite_not, Classical.not_not, sA_eq, sA_sA]
      rw [if_neg (by omega)]
      refine ih _ ?_
      intro k hk
      by_cases q : k = n
      · rw [q, u_eq, sA_ne (b := 159) _ _ (by omega)]
        exact h1 n n0 n1
      · rw [u_ne _ _ q]
        exact hf k (by omega)
  have e : sA F 150 (F 150) = F := by
    funext b
    by_cases q : b = 150
    · rw [q, sA_eq]
    · rw [sA_ne _ _ q]
  have k8 := key 8 (by omega) (by omega) (F 150) (fun k hk => h2 k hk)
  rw [e] at k8
  rw [E_M_putBack, isO_149, if_pos rfl, lit_8]
  exact k8
/-- the model's way back out of a forecast -/
theorem M_out {F0 F1 : Nat → Fn} {a : Fn} {G1 : Nat → Fn} (h1 : ∀ k, 8 ≤ k → k < 112 → F0 159 k = a k) (ha : ag0 F0 F1) (hk : KP a (F1 150)) : m_M x k_M_putBack [.ref 149] (mk F1 G1) = some (none, mk (sA (sA F1 150 a) 149 (u (F0 149) 23 1)) G1) := by
  rw [M_putBack x F1 G1 (a := a) (fun k k0 k1 => by rw [ha 159 (by omega) (by omega) (by omega) (by omega)]; exact h1 k k0 k1) (fun k hq => hk k (by omega)), ha 149 (by omega) (by omega) (by omega) (by omega)]
theorem M_go1 {A : Law4} {F0 F1 : Nat → Fn} {a c : Fn} {G1 : Nat → Fn} (h23 : F0 149 23 = 0) (hA : LA F0 (a 2) A) (hw : 0 ≤ a 12 ∧ a 12 ≤ 90000) (ha : ag0 F0 F1) (hk : KP a (F1 150)) (hi : WI c) (hv : ∀ k, vok k → c k = V (F1 150) k) (hd : c 22 < 9999) : ∃ F2 G2, m_M x k_M_goOn [.ref 149] (mk F1 G1) = some (none, mk F2 G2) ∧ F2 150 = mGo A 0 (F1 150) ∧ KP a (F2 150) ∧ ag0 F0 F2 ∧ (∀ k, vok k → wDay A c k = V (F2 150) k) ∧ WI (wDay A c) ∧ (∀ p, 0 ≤ p → p < c 0 → F2 158 p = fineAt A (wChill A (wLivesN A c p.toNat) p) p) := by
  have hc := WI_c hi
  have aT : agT F0 F1 := ⟨fun b _ _ => ha b (by omega) (by omega) (by omega) (by omega), ha 152 (by omega) (by omega) (by omega) (by omega)⟩
  have hA1 : LA F1 (F1 150 2) A := by rw [hk 2 (by omega)]; exact LA_cg aT hA
  have e23 : F1 149 23 = 0 := by rw [ha 149 (by omega) (by omega) (by omega) (by omega)]; exact h23
  have wv := WIV_of hi hv
  have e0 : c 0 = F1 150 0 := by rw [hv 0 (by unfold vok; omega), V_0]
  obtain ⟨F2, G2, r1, r2, r3, r4, r5⟩ := M_goOn x F1 G1 hA1 wv (Or.inl e23) (by rw [hk 12 (by omega)]; exact hw.1) (by rw [hk 12 (by omega)]; exact hw.2)
  rw [e23] at r2
  have d0 := day0 hA hi hv
  refine ⟨F2, G2, r1, r2, ?_, ?_, ?_, WI_day hA hi hd, ?_⟩
  · rw [r2]; exact KP_tr hk d0.2
  · intro b b1 b2 b3 b4
    rw [r4 b b1 b2 b3 b4]
    exact ha b b1 b2 b3 b4
  · rw [r2]; exact d0.1
  · intro p p0 p1
    rw [r3 p p0 (by omega)]
    have l1 := lives_ok hA hi p.toNat (by omega)
    have l2 := ag_lives hA hi hv p.toNat (by omega)
    have l3 := ag_chill (p := p) hA l1.1 l2 p0 (by omega)
    exact (ag_fine (p := p) hA (WI_chill hA l1.1 p0 (by omega)) l3 p0 (by omega)).symm
theorem M_foreL {A : Law4} {F0 : Nat → Fn} {a : Fn} {n p w : Int} (h1 : ∀ k, 8 ≤ k → k < 112 → F0 159 k = a k) (h23 : F0 149 23 = 0) (hA : LA F0 (a 2) A) (hwr : 0 ≤ a 12 ∧ a 12 ≤ 90000) (hn : n ≤ 60) (hw0 : 0 ≤ w) (hw1 : w ≤ 2) (hp : w = 0 ∨ (0 ≤ p ∧ p < 7)) : ∀ i, 0 ≤ i → i ≤ n → ∀ F1 G1 c, ag0 F0 F1 → KP a (F1 150) → WI c → (∀ k, vok k → c k = V (F1 150) k) → ∃ F2 G2, m_D x 9 k_M_foretold 40 [some (.ref 149), some (.int (jI n)), some (.int (jI p)), some (.int (jI w)), some (.int (jI i))] [] (mk F1 G1) = some (some (.int (jI (fval w p (dF A (n - i).toNat c)))), mk (sA (sA F2 150 a) 149 (u (F0 149) 23 1)) G2) ∧ ag0 F0 F2 := by
  apply down
  · intro F1 G1 c ha hk hi hv
    refine ⟨F1, G1, ?_, ha⟩
    have e : (n - n).toNat = 0 := by omega
    rw [e]
    show _ = some (some (Value.int (jI (fval w p c))), mk (sA (sA F1 150 a) 149 (u (F0 149) 23 1)) G1)
    have ho := M_out x (G1 := G1) h1 ha hk
    rw [E_M_foretold_40 x 9 (by omega), if_pos (Int32.le_refl _)]
    unfold fval
    by_cases q : w = 0
    · rw [if_pos q, q, if_pos (show jI 0 = 0 by decide), fR_149_0, Option.bind_some, lit_9, va_9, Option.bind_some, ho, b_V, hv 23 (by unfold vok; omega)]
    · rw [if_neg q, if_neg (show ¬ jI w = 0 from jne (by unfold rg; omega) (by decide) (by decide) q)]
      by_cases q2 : w = 1
      · rw [if_pos q2, q2, if_pos (show jI 1 = 1 by decide), fR_149_0, Option.bind_some, lit_20, jI_add, va_d x F1 G1 (by omega) (by omega), Option.bind_some, ho, b_V, hv (15 + p) (by unfold vok; omega)]
      · rw [if_neg q2, if_neg (show ¬ jI w = 1 from jne (by unfold rg; omega) (by decide) (by decide) q2), fR_149_0, Option.bind_some, lit_13, jI_add, va_c x F1 G1 (by omega) (by omega), Option.bind_some, ho, b_V, hv (8 + p) (by unfold vok; omega)]
  · intro i i0 i1 ih F1 G1 c ha hk hi hv
    have hc := WI_c hi
    have e : (n - i).toNat = (n - (i + 1)).toNat + 1 := by omega
    rw [e, E_M_foretold_40 x 9 (by omega), if_neg (show ¬ jI n ≤ jI i by rw [jI_le (by omega) (by omega) (by omega) (by omega)]; omega), fR_149_0, Option.bind_some, lit_8, va_8, Option.bind_some, ← hv 22 (by unfold vok; omega), lit_9999, lit_1, jI_add]
    show ∃ F2 G2, _ = some (some (Value.int (jI (fval w p (dF A (n - (i + 1)).toNat (dayS A c))))), mk (sA (sA F2 150 a) 149 (u (F0 149) 23 1)) G2) ∧ ag0 F0 F2
    simp (disch := omega) only [jI_lt, jI_le, jI_eq]
    by_cases q : c 22 < 9999
    · obtain ⟨F2, G2, r1, r2, r3, r4, r5, r6, r7⟩ := M_go1 x (G1 := G1) h23 hA hwr ha hk hi hv q
      rw [if_neg (by omega), r1, b_V]
      have ed : dayS A c = wDay A c := by unfold dayS; rw [if_pos q]
      rw [ed]
      exact ih F2 G2 (wDay A c) r4 r3 r6 r5
    · have ed : dayS A c = c := by unfold dayS; rw [if_neg q]
      rw [if_pos (by omega), ed]
      exact ih F1 G1 c ha hk hi hv
theorem M_ffL {A : Law4} {F0 : Nat → Fn} {a : Fn} {p : Int} (h1 : ∀ k, 8 ≤ k → k < 112 → F0 159 k = a k) (h23 : F0 149 23 = 0) (hA : LA F0 (a 2) A) (hwr : 0 ≤ a 12 ∧ a 12 ≤ 90000) (hp0 : 0 ≤ p) (hp1 : p < a 0) (hp7 : a 0 ≤ 7) : ∀ n : Nat, ∀ i F1 G1 c, 1 ≤ i → i + n = 61 → ag0 F0 F1 → KP a (F1 150) → WI c → (∀ k, vok k → c k = V (F1 150) k) → ∃ F2 G2, m_D x 9 k_M_firstFine 18 [some (.ref 149), some (.int (jI p)), some (.int (jI (-1))), some (.int (jI i))] [] (mk F1 G1) = some (some (.int (jI (ffN A p n c i))), mk (sA (sA F2 150 a) 149 (u (F0 149) 23 1)) G2) ∧ ag0 F0 F2 := by
  intro n
  induction n with
  | zero =>
    intro i F1 G1 c hi0 hn ha hk hi hv
    refine ⟨F1, G1, ?_, ha⟩
    rw [E_M_firstFine_18 x 9 (by omega), if_pos, M_out x (G1 := G1) h1 ha hk, b_V]
    · rfl
    · rw [show i = 61 by omega]; decide
  | succ n ih =>
    intro i F1 G1 c hi0 hn ha hk hi hv
    have hc := WI_c hi
    have e0 : c 0 = a 0 := by rw [hv 0 (by unfold vok; omega), V_0, hk 0 (by omega)]
    rw [E_M_firstFine_18 x 9 (by omega), if_neg (show ¬ (60 : Int32) < jI i by rw [lit_60, jI_lt (by omega) (by omega) (by omega) (by omega)]; omega), if_pos (show jI (-1) = -1 by decide), fR_149_0, Option.bind_some, lit_8, va_8, Option.bind_some, ← hv 22 (by unfold vok; omega), lit_9999, ffN]
    simp (disch := omega) only [jI_lt, jI_le, jI_eq]
    by_cases q : c 22 < 9999
    · obtain ⟨F2, G2, r1, r2, r3, r4, r5, r6, r7⟩ := M_go1 x (G1 := G1) h23 hA hwr ha hk hi hv q
      rw [if_neg (by omega), r1, b_V, fR_149_24, Option.bind_some, ia_158 x F2 G2 hp0 (by omega), Option.bind_some, r7 p hp0 (by omega), lit_0, lit_1, jI_add]
      have l1 := lives_ok hA hi p.toNat (by omega)
      have hf := fine_r (p := p) hA (WI_chill (p := p) hA l1.1 hp0 (by omega)) hp0 (by omega)
      simp (disch := omega) only [jI_lt, jI_le, jI_eq, if_pos q]
      by_cases q2 : fineAt A (wChill A (wLivesN A c p.toNat) p) p ≤ 0
      · rw [if_pos q2, if_neg (by unfold fineB; simp; omega)]
        exact ih (i + 1) F2 G2 (wDay A c) (by omega) (by omega) r4 r3 r6 r5
      · rw [if_neg q2, if_pos (by unfold fineB; simp; omega)]
        refine ⟨F2, G2, ?_, r4⟩
        have ho := M_out x (G1 := G2) h1 r4 r3
        rw [E_M_firstFine_18 x 9 (by omega), ho, b_V]
        split
        · rfl
        · rw [if_neg (show ¬ jI i = -1 by rw [show (-1 : Int32) = jI (-1) by decide]; exact jne (by unfold rg; omega) (by decide) (by decide) (by omega))]
    · rw [if_pos (by omega), M_out x (G1 := G1) h1 ha hk, b_V, if_neg q]
      exact ⟨F1, G1, rfl, ha⟩
theorem Rel_fore {F F1 F0 F2 : Nat → Fn} {f : Fn} (hR : Rel F) (h1 : agW 101 (sA F 102 f) F1) (h2 : ∀ b, ¬ b = 149 → ¬ b = 159 → F0 b = F1 b) (h3 : F0 149 = u (F1 149) 23 0) (h4 : ag0 F0 F2) : Rel (sA (sA F2 150 (F 150)) 149 (u (F0 149) 23 1)) := by
  have e1 : ∀ b, ¬ b = 102 → ¬ b = 136 → ¬ b = 137 → F1 b = F b := by
    intro b b1 b2 b3
    rw [h1 b b1 b2 b3, sA_ne _ _ b1]
  have g := hR.2.2.2.2.1
  unfold RD at g
  refine Rel_ag hR ?_
  intro b hb
  by_cases q : b = 149
  · rw [q, sA_eq, h3, e1 149 (by omega) (by omega) (by omega)]
    funext k
    by_cases q2 : k = 23
    · rw [q2, u_eq, g.2.2.2.2.2.2.2.1]
    · rw [u_ne _ _ q2, u_ne _ _ q2]
  · rw [sA_ne _ _ q]
    by_cases q2 : b = 150
    · rw [q2, sA_eq]
    · rw [sA_ne _ _ q2, h4 b q2 (by omega) (by omega) (by omega), h2 b q (by omega), e1 b (by omega) (by omega) (by omega)]
theorem Rel_W {F : Nat → Fn} (hR : Rel F) : 0 ≤ F 150 12 ∧ F 150 12 ≤ 90000 := by
  have g := RS_top hR.1
  simp only [Nat.reduceAdd] at g
  have h := WI_c g.1
  have q := g.2.2
  unfold RB at q
  omega
theorem cp_lo {f g : Fn} {k : Int} (h0 : 0 ≤ k) (h1 : k < 141) : cp f g 0 0 141 k = f k := by
  unfold cp
  rw [if_pos (by omega)]
  congr 1
  omega
theorem ok_foretold {n p w : Int} (hR : Rel F) (hn : rg n) (hp : rg p) (hw : rg w) : Ok x F G k_G_foretold k_M_foretold [.int (jI n), .int (jI p), .int (jI w)] := by
  have hi : WI (F 2) := RS_WI hR.1
  have hc := WI_c hi
  have hv := Rel_V hR
  have hn2 := hn
  have hw2 := hw
  unfold rg at hn2 hw2
  have c1 := C_isIn x F G (a := n) (b := 1) (c := 60) hn (by unfold rg; omega) (by unfold rg; omega)
  have c2 := C_isIn x F G (a := w) (b := 1) (c := 2) hw (by unfold rg; omega) (by unfold rg; omega)
  have c3 := C_hasOne x F G (w := 1) (p := p) (Or.inl rfl) hp (by unfold rg; simp only [Nat.reduceAdd]; omega)
  simp only [Nat.reduceAdd] at c3
  have m1 : ∀ F' : Nat → Fn, m_M x k_M_isIn [.int (jI n), .int (jI 1), .int (jI 60)] (mk F' G) = _ := fun F' => M_isIn x F' G (a := n) (b := 1) (c := 60) hn (by unfold rg; omega) (by unfold rg; omega)
  have m2 : ∀ F' : Nat → Fn, m_M x k_M_isIn [.int (jI w), .int (jI 0), .int (jI 2)] (mk F' G) = _ := fun F' => M_isIn x F' G (a := w) (b := 0) (c := 2) hw (by unfold rg; omega) (by unfold rg; omega)
  have m3 : ∀ F' : Nat → Fn, F' 150 = F 150 → m_M x k_M_isOne [.ref 149, .int (jI p)] (mk F' G) = some (some (.int (jI (if 0 ≤ p ∧ p < F 2 0 then 1 else 0))), mk F' G) := by
    intro F' e
    have q := M_isOne x F' G (p := p) (by rw [e]; exact RS_WV hR.1) hp
    rw [e, hv 0 (by unfold vok; omega)] at q
    exact q
  by_cases hC : (1 ≤ n ∧ n ≤ 60) ∧ (w = 0 ∨ ((1 ≤ w ∧ w ≤ 2) ∧ (0 ≤ p ∧ p < F 2 0)))
  · obtain ⟨hn3, hC⟩ := hC
    obtain ⟨A, hA⟩ := Rel_LA hR
    have ht := TR_R hR
    have tk := C_takeOverW x F G (w := 101) (r := 1) (by omega) (by omega)
    simp only [Nat.reduceAdd] at tk
    have aT : agT F (sA F 102 (cp (F 2) (F 102) 0 0 141)) := ⟨fun b _ _ => sA_ne _ _ (by omega), sA_ne _ _ (by omega)⟩
    have hA1 : LA (sA F 102 (cp (F 2) (F 102) 0 0 141)) (sA F 102 (cp (F 2) (F 102) 0 0 141) 36 8) A := by rw [sA_ne _ _ (by omega)]; exact LA_cg aT hA
    have ht1 : TR (sA F 102 (cp (F 2) (F 102) 0 0 141)) := by
      have e : sA F 102 (cp (F 2) (F 102) 0 0 141) 36 = F 36 := sA_ne _ _ (by omega)
      exact ⟨by rw [e]; exact ht.1.1, by rw [e]; exact ht.1.2.1, by rw [e]; exact ht.1.2.2.1, by rw [e]; exact ht.1.2.2.2⟩
    have hi2 : WI (sA F 102 (cp (F 2) (F 102) 0 0 141) 102) := by
      rw [sA_eq]
      exact WI_cg (fun k k0 k1 => cp_lo k0 k1) hi
    obtain ⟨F1, r1, r2⟩ := C_foreL x (sA F 102 (cp (F 2) (F 102) 0 0 141)) G (A := A) (n := n) (p := p) (w := w) (d := 1) ht1 hA1 (by omega) (by omega) (by omega) (by omega) 0 (by omega) (by omega) (sA F 102 (cp (F 2) (F 102) 0 0 141)) (fun _ _ _ _ => rfl) hi2
    have cs : m_M x k_G_foretold [.ref 0, .int (jI n), .int (jI p), .int (jI w)] (mk F G) = some (some (.int (jI (fval w p (dF A n.toNat (cp (F 2) (F 102) 0 0 141))))), mk F1 G) := by
      rw [sA_eq, Int.sub_zero] at r1
      rw [E_G_foretold, isO_0, if_pos rfl, lit_1, lit_60, c1, b_I]
      simp only [if_pos hn3]
      rw [if_neg (show ¬ jI 1 = 0 by decide)]
      by_cases q : w = 0
      · rw [if_pos (show jI w = 0 by rw [q]; decide), fR_0_6, Option.bind_some, fR_0_0, Option.bind_some, tk, b_V]
        exact r1
      · rw [if_neg (show ¬ jI w = 0 from jne hw (by decide) (by decide) q), lit_2, c2, b_I]
        have q2 : (1 ≤ w ∧ w ≤ 2) ∧ (0 ≤ p ∧ p < F 2 0) := by omega
        simp only [if_pos q2.1]
        rw [if_neg (show ¬ jI 1 = 0 by decide), fR_0_0, Option.bind_some, c3, b_I]
        simp only [if_pos q2.2]
        rw [if_neg (show ¬ jI 1 = 0 by decide), fR_0_6, Option.bind_some, fR_0_0, Option.bind_some, tk, b_V]
        exact r1
    have e1 : ∀ b, ¬ b = 102 → ¬ b = 136 → ¬ b = 137 → F1 b = F b := by
      intro b b1 b2 b3
      rw [r2 b b1 b2 b3, sA_ne _ _ b1]
    obtain ⟨F0, s1, s2, s3, s4⟩ := M_setAside x F1 G
    have e150 : F0 150 = F 150 := by rw [s4 150 (by omega) (by omega), e1 150 (by omega) (by omega) (by omega)]
    have hA0 : LA F0 (F 150 2) A := by
      rw [ht.2]
      refine LA_cg ⟨fun b b0 b1 => ?_, ?_⟩ hA
      · rw [s4 b (by omega) (by omega), e1 b (by omega) (by omega) (by omega)]
      · rw [s4 152 (by omega) (by omega), e1 152 (by omega) (by omega) (by omega)]
    obtain ⟨F2, G2, z1, z2⟩ := M_foreL x (F0 := F0) (a := F 150) (n := n) (p := p) (w := w) (A := A) (fun k k0 k1 => by rw [s2 k k0 k1, e1 150 (by omega) (by omega) (by omega)]) (by rw [s3, u_eq]) hA0 (Rel_W hR) (by omega) (by omega) (by omega) (by omega) 0 (by omega) (by omega) F0 G (cp (F 2) (F 102) 0 0 141) (fun _ _ _ _ _ => rfl) (by rw [e150]; exact fun _ _ => rfl) (WI_cg (fun k k0 k1 => cp_lo k0 k1) hi) (by
      intro k hk
      have hk' := hk
      unfold vok at hk'
      rw [e150, hv k hk]
      exact cp_lo (by omega) (by omega))
    rw [Int.sub_zero] at z1
    have ms : m_M x k_M_foretold [.ref 149, .int (jI n), .int (jI p), .int (jI w)] (mk F1 G) = some (some (.int (jI (fval w p (dF A n.toNat (cp (F 2) (F 102) 0 0 141))))), mk (sA (sA F2 150 (F 150)) 149 (u (F0 149) 23 1)) G2) := by
      have hm2 := m2 F1
      rw [if_pos (show 0 ≤ w ∧ w ≤ 2 by omega)] at hm2
      have hm1 := m1 F1
      rw [if_pos hn3] at hm1
      have e9 := e1 150 (by omega) (by omega) (by omega)
      rw [E_M_foretold, isO_149, if_pos rfl, lit_1, lit_60, hm1, b_I, if_neg (show ¬ jI 1 = 0 by decide), lit_0, lit_2, hm2, b_I, if_neg (show ¬ jI 1 = jI 0 by decide)]
      by_cases q : w = 0
      · rw [if_pos (show jI w ≤ jI 0 by rw [q]; decide), s1, b_V]
        exact z1
      · have q2 : (1 ≤ w ∧ w ≤ 2) ∧ (0 ≤ p ∧ p < F 2 0) := by omega
        have hm3 := m3 F1 e9
        rw [if_pos q2.2] at hm3
        rw [if_neg (show ¬ jI w ≤ jI 0 by rw [jI_le (by omega) (by omega) (by omega) (by omega)]; omega), hm3, b_I, if_neg (show ¬ jI 1 = jI 0 by decide), s1, b_V]
        exact z1
    exact ⟨_, _, _, _, cs, ms, Rel_fore hR r2 s4 s3 z2⟩
  · refine Ok_pure (v := jI (-1)) hR ?_ ?_
    · rw [E_G_foretold, isO_0, if_pos rfl, lit_1, lit_60, c1, b_I]
      by_cases q1 : 1 ≤ n ∧ n ≤ 60
      · simp only [if_pos q1]
        rw [if_neg (show ¬ jI 1 = 0 by decide), if_neg (show ¬ jI w = 0 from jne (n := 0) hw (by decide) (by decide) (by omega)), lit_2, c2, b_I]
        by_cases q2 : 1 ≤ w ∧ w ≤ 2
        · simp only [if_pos q2]
          rw [if_neg (show ¬ jI 1 = 0 by decide), fR_0_0, Option.bind_some, c3, b_I]
          rw [if_neg (show ¬ (0 ≤ p ∧ p < F 2 0) by omega), if_pos (show jI 0 = 0 by decide)]
          rfl
        · simp only [if_neg q2]
          rw [if_pos (show jI 0 = 0 by decide)]
          rfl
      · simp only [if_neg q1]
        rw [if_pos (show jI 0 = 0 by decide)]
        rfl
    · rw [E_M_foretold, isO_149, if_pos rfl, lit_1, lit_60, m1 F, b_I, lit_0, lit_2]
      by_cases q1 : 1 ≤ n ∧ n ≤ 60
      · simp only [if_pos q1]
        rw [if_neg (show ¬ jI 1 = jI 0 by decide), m2 F, b_I]
        by_cases q2 : 0 ≤ w ∧ w ≤ 2
        · simp only [if_pos q2]
          rw [if_neg (show ¬ jI 1 = jI 0 by decide), if_neg (show ¬ jI w ≤ jI 0 by rw [jI_le (by omega) (by omega) (by omega) (by omega)]; omega), m3 F rfl, b_I]
          rw [if_neg (show ¬ (0 ≤ p ∧ p < F 2 0) by omega), if_pos rfl]
          rfl
        · simp only [if_neg q2, if_true]
          rfl
      · simp only [if_neg q1, if_true]
        rfl
theorem ok_firstFine {p : Int} (hR : Rel F) (hp : rg p) : Ok x F G k_G_firstFine k_M_firstFine [.int (jI p)] := by
  have hi : WI (F 2) := RS_WI hR.1
  have hc := WI_c hi
  have hv := Rel_V hR
  have c3 := C_hasOne x F G (w := 1) (p := p) (Or.inl rfl) hp (by unfold rg; simp only [Nat.reduceAdd]; omega)
  simp only [Nat.reduceAdd] at c3
  have m3 : ∀ F' : Nat → Fn, F' 150 = F 150 → m_M x k_M_isOne [.ref 149, .int (jI p)] (mk F' G) = some (some (.int (jI (if 0 ≤ p ∧ p < F 2 0 then 1 else 0))), mk F' G) := by
    intro F' e
    have q := M_isOne x F' G (p := p) (by rw [e]; exact RS_WV hR.1) hp
    rw [e, hv 0 (by unfold vok; omega)] at q
    exact q
  by_cases hC : 0 ≤ p ∧ p < F 2 0
  · rw [if_pos hC] at c3
    simp only [if_pos hC] at m3
    obtain ⟨A, hA⟩ := Rel_LA hR
    have ht := TR_R hR
    have tk := C_takeOverW x F G (w := 101) (r := 1) (by omega) (by omega)
    simp only [Nat.reduceAdd] at tk
    have aT : agT F (sA F 102 (cp (F 2) (F 102) 0 0 141)) := ⟨fun b _ _ => sA_ne _ _ (by omega), sA_ne _ _ (by omega)⟩
    have hA1 : LA (sA F 102 (cp (F 2) (F 102) 0 0 141)) (sA F 102 (cp (F 2) (F 102) 0 0 141) 36 8) A := by rw [sA_ne _ _ (by omega)]; exact LA_cg aT hA
    have ht1 : TR (sA F 102 (cp (F 2) (F 102) 0 0 141)) := by
      have e : sA F 102 (cp (F 2) (F 102) 0 0 141) 36 = F 36 := sA_ne _ _ (by omega)
      exact ⟨by rw [e]; exact ht.1.1, by rw [e]; exact ht.1.2.1, by rw [e]; exact ht.1.2.2.1, by rw [e]; exact ht.1.2.2.2⟩
    have hi2 : WI (sA F 102 (cp (F 2) (F 102) 0 0 141) 102) := by
      rw [sA_eq]
      exact WI_cg (fun k k0 k1 => cp_lo k0 k1) hi
    obtain ⟨F1, r1, r2⟩ := C_ffL x (sA F 102 (cp (F 2) (F 102) 0 0 141)) G (A := A) (p := p) ht1 hA1 hC.1 (by rw [sA_ne _ _ (by omega)]; exact hC.2) 60 1 (sA F 102 (cp (F 2) (F 102) 0 0 141)) none (by omega) rfl (fun _ _ _ _ => rfl) hi2 (by rw [sA_eq, sA_ne _ _ (by omega), cp_lo (by omega) (by omega)])
    have cs : m_M x k_G_firstFine [.ref 0, .int (jI p)] (mk F G) = some (some (.int (jI (ffN A p 60 (cp (F 2) (F 102) 0 0 141) 1))), mk F1 G) := by
      rw [sA_eq] at r1
      rw [E_G_firstFine, isO_0, if_pos rfl, fR_0_0, Option.bind_some, c3, b_I, if_neg (show ¬ jI 1 = 0 by decide), fR_0_6, Option.bind_some, fR_0_0, Option.bind_some, tk, b_V]
      exact r1
    have e1 : ∀ b, ¬ b = 102 → ¬ b = 136 → ¬ b = 137 → F1 b = F b := by
      intro b b1 b2 b3
      rw [r2 b b1 b2 b3, sA_ne _ _ b1]
    obtain ⟨F0, s1, s2, s3, s4⟩ := M_setAside x F1 G
    have e150 : F0 150 = F 150 := by rw [s4 150 (by omega) (by omega), e1 150 (by omega) (by omega) (by omega)]
    have hA0 : LA F0 (F 150 2) A := by
      rw [ht.2]
      refine LA_cg ⟨fun b b0 b1 => ?_, ?_⟩ hA
      · rw [s4 b (by omega) (by omega), e1 b (by omega) (by omega) (by omega)]
      · rw [s4 152 (by omega) (by omega), e1 152 (by omega) (by omega) (by omega)]
    have e00 : F 150 0 = F 2 0 := by rw [← hv 0 (by unfold vok; omega), V_0]
    obtain ⟨F2, G2, z1, z2⟩ := M_ffL x (F0 := F0) (a := F 150) (p := p) (A := A) (fun k k0 k1 => by rw [s2 k k0 k1, e1 150 (by omega) (by omega) (by omega)]) (by rw [s3, u_eq]) hA0 (Rel_W hR) hC.1 (by omega) (by omega) 60 1 F0 G (cp (F 2) (F 102) 0 0 141) (by omega) (by omega) (fun _ _ _ _ _ => rfl) (by rw [e150]; exact fun _ _ => rfl) (WI_cg (fun k k0 k1 => cp_lo k0 k1) hi) (by
      intro k hk
      have hk' := hk
      unfold vok at hk'
      rw [e150, hv k hk]
      exact cp_lo (by omega) (by omega))
    have ms : m_M x k_M_firstFine [.ref 149, .int (jI p)] (mk F1 G) = some (some (.int (jI (ffN A p 60 (cp (F 2) (F 102) 0 0 141) 1))), mk (sA (sA F2 150 (F 150)) 149 (u (F0 149) 23 1)) G2) := by
      rw [E_M_firstFine, isO_149, if_pos rfl, m3 F1 (e1 150 (by omega) (by omega) (by omega)), b_I, if_neg (show ¬ jI 1 = 0 by decide), s1, b_V]
      exact z1
    exact ⟨_, _, _, _, cs, ms, Rel_fore hR r2 s4 s3 z2⟩
  · rw [if_neg hC] at c3
    simp only [if_neg hC] at m3
    refine Ok_pure (v := jI (-1)) hR ?_ ?_
    · rw [E_G_firstFine, isO_0, if_pos rfl, fR_0_0, Option.bind_some, c3, b_I, if_pos (show jI 0 = 0 by decide)]
      rfl
    · rw [E_M_firstFine, isO_149, if_pos rfl, m3 F rfl, b_I, if_pos (show jI 0 = 0 by decide)]
      rfl
end
