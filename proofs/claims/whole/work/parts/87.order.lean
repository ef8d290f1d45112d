-- the order of duties
def ins (dr : Int → Bool) (g : Int) : Nat → Fn → Fn
  | 0, f => u f 0 g
  | n + 1, f => if dr (f n) then ins dr g n (u f (n + 1) (f n)) else u f (n + 1) g
theorem ins_hi (dr : Int → Bool) (g : Int) : ∀ (n : Nat) (f : Fn) (k : Int), (n : Int) < k → ins dr g n f k = f k := by
  intro n
  induction n with
  | zero => intro f k h; rw [ins, u_ne _ _ (by omega)]
  | succ n ih =>
    intro f k h
    rw [ins]
    split
    · rw [ih _ _ (by omega), u_ne _ _ (by omega)]
    · rw [u_ne _ _ (by omega)]
theorem ins_cg (dr : Int → Bool) (g : Int) : ∀ (n : Nat) (f h : Fn), (∀ i : Int, 0 ≤ i → i < n → f i = h i) → ∀ i : Int, 0 ≤ i → i ≤ n → ins dr g n f i = ins dr g n h i := by
  intro n
  induction n with
  | zero =>
    intro f h hf i i0 i1
    have : i = 0 := by omega
    rw [this, ins, ins, u_eq, u_eq]
  | succ n ih =>
    intro f h hf i i0 i1
    have e := hf n (by omega) (by omega)
    rw [ins, ins, e]
    by_cases q : dr (h n) = true
    · rw [if_pos q, if_pos q]
      by_cases q2 : i ≤ n
      · refine ih _ _ ?_ i i0 q2
        intro j j0 j1
        rw [u_ne _ _ (by omega), u_ne _ _ (by omega)]
        exact hf j j0 (by omega)
      · rw [ins_hi _ _ _ _ _ (by omega), ins_hi _ _ _ _ _ (by omega)]
        have : i = (n : Int) + 1 := by omega
        rw [this, u_eq, u_eq]
    · rw [if_neg q, if_neg q]
      by_cases q2 : i = (n : Int) + 1
      · rw [q2, u_eq, u_eq]
      · rw [u_ne _ _ q2, u_ne _ _ q2]
        exact hf i i0 (by omega)
theorem ins_r (dr : Int → Bool) (g : Int) (P : Int → Prop) (hg : P g) : ∀ (n : Nat) (f : Fn), (∀ i : Int, 0 ≤ i → i < n → P (f i)) → ∀ i : Int, 0 ≤ i → i ≤ n → P (ins dr g n f i) := by
  intro n
  induction n with
  | zero =>
    intro f hf i i0 i1
    have : i = 0 := by omega
    rw [this, ins, u_eq]
    exact hg
  | succ n ih =>
    intro f hf i i0 i1
    rw [ins]
    split
    · by_cases q2 : i ≤ n
      · refine ih _ ?_ i i0 q2
        intro j j0 j1
        rw [u_ne _ _ (by omega)]
        exact hf j j0 (by omega)
      · rw [ins_hi _ _ _ _ _ (by omega)]
        have : i = (n : Int) + 1 := by omega
        rw [this, u_eq]
        exact hf n (by omega) (by omega)
    · by_cases q2 : i = (n : Int) + 1
      · rw [q2, u_eq]; exact hg
      · rw [u_ne _ _ q2]
        exact hf i i0 (by omega)
def drB (c pr : Fn) (g e : Int) : Bool := decide (pr e * c (51 + g) < pr g * c (51 + e))
def layN (c pr : Fn) (p : Int) : Nat → Nat × Fn
  | 0 => (0, fun _ => 0)
  | g + 1 => if (c (99 + g) = 0 ∨ c (99 + g) = 3) ∧ c (27 + g) = p then ((layN c pr p g).1 + 1, ins (drB c pr g) g (layN c pr p g).1 (layN c pr p g).2) else layN c pr p g
theorem lay_r (c pr : Fn) (p : Int) : ∀ g : Nat, (layN c pr p g).1 ≤ g ∧ ∀ i : Int, 0 ≤ i → i < (layN c pr p g).1 → 0 ≤ (layN c pr p g).2 i ∧ (layN c pr p g).2 i < g := by
  intro g
  induction g with
  | zero =>
    refine ⟨Nat.le_refl _, ?_⟩
    intro i i0 i1
    have : (layN c pr p 0).1 = 0 := rfl
    omega
  | succ g ih =>
    rw [layN]
    split
    · refine ⟨by dsimp only; omega, ?_⟩
      intro i i0 i1
      dsimp only at i1 ⊢
      refine ins_r _ _ (fun z => 0 ≤ z ∧ z < ((g + 1 : Nat) : Int)) (by omega) _ _ ?_ i i0 (by omega)
      intro j j0 j1
      have := ih.2 j j0 j1
      omega
    · refine ⟨by omega, ?_⟩
      intro i i0 i1
      have := ih.2 i i0 i1
      omega
def agD (F F1 : Nat → Fn) : Prop := ∀ b, ¬ b = 142 → ¬ b = 143 → F1 b = F b
theorem agD_tr {F F1 F2 : Nat → Fn} (h1 : agD F F1) (h2 : agD F1 F2) : agD F F2 := fun b a c => (h2 b a c).trans (h1 b a c)
def PR (pr : Fn) : Prop := ∀ g, 0 ≤ g → g < 12 → 0 ≤ pr g ∧ pr g ≤ 9
theorem mulr {a b : Int} (h0 : 0 ≤ a) (h1 : a ≤ 9) (h2 : 0 ≤ b) (h3 : b ≤ 99) : 0 ≤ a * b ∧ a * b ≤ 891 := by
  refine ⟨Int.mul_nonneg h0 h2, ?_⟩
  have : a * b ≤ 9 * 99 := Int.mul_le_mul h1 h3 h2 (by omega)
  omega
section
variable (x : m_X) (F G : Nat → Fn)
theorem C_isDearer {g e : Int} (hi : WI (F 2)) (hp : PR (F 38)) (h0 : 0 ≤ g) (h1 : g < 12) (h2 : 0 ≤ e) (h3 : e < 12) : m_M x k_Duties_isDearer [.ref 1, .ref 37, .int (jI g), .int (jI e)] (mk F G) = some (some (.int (jI (if drB (F 2) (F 38) g e then 1 else 0))), mk F G) := by
  have hg := WI_g hi h0 h1
  have he := WI_g hi h2 h3
  have pg := hp g h0 h1
  have pe := hp e h2 h3
  have m1 := mulr pg.1 pg.2 he.2.2.2.2.1 he.2.2.2.2.2.1
  have m2 := mulr pe.1 pe.2 hg.2.2.2.2.1 hg.2.2.2.2.2.1
  have i1 := C_itemAt x F G (w := 37) (i := g) (by omega) h0 (by simp only [show rL 37 = 12 from rfl]; omega)
  have i2 := C_itemAt x F G (w := 37) (i := e) (by omega) h2 (by simp only [show rL 37 = 12 from rfl]; omega)
  have a1 := C_at x F G (w := 1) (p := 51) (i := e) (Or.inl rfl) (by omega) (by omega)
  have a2 := C_at x F G (w := 1) (p := 51) (i := g) (Or.inl rfl) (by omega) (by omega)
  simp only [Nat.reduceAdd] at i1 i2 a1 a2
  rw [E_Duties_isDearer, i1, b_I, lit_51, a1, b_I, i2, b_I, a2, b_I, jI_mul, jI_mul]
  simp (disch := omega) only [jI_lt, jI_le, jI_eq]
  unfold drB
  simp only [decide_eq_true_eq]
  by_cases q : F 38 g * F 2 (51 + e) ≤ F 38 e * F 2 (51 + g)
  · rw [if_pos q, if_neg (by omega)]; rfl
  · rw [if_neg q, if_pos (by omega)]; rfl
theorem C_arrIn {g : Int} (hi : WI (F 2)) (hp : PR (F 38)) (h0 : 0 ≤ g) (h1 : g < 12) : ∀ (k : Nat) (f : Fn), k ≤ 11 → (∀ i : Int, 0 ≤ i → i < k → 0 ≤ f i ∧ f i < 12) → m_D x 3 k_Duties_arrangeIn 18 [some (.ref 141), some (.ref 1), some (.ref 37), some (.int (jI g)), some (.int (jI k))] [] (mk (sA F 143 f) G) = some (none, mk (sA F 143 (ins (drB (F 2) (F 38) g) g k f)) G) := by
  intro k
  induction k with
  | zero =>
    intro f hk hf
    have c1 := C_rowChange x (sA F 143 f) G (w := 142) (i := 0) (v := g) (by omega) (by omega) (by simp only [show rL 142 = 12 from rfl]; omega)
    simp only [Nat.reduceAdd, sA_eq, sA_sA] at c1
    rw [E_Duties_arrangeIn_18 x 3 (by omega), if_pos (by decide), fR_141_0, Option.bind_some, show jI ((0 : Nat) : Int) = jI 0 from rfl, c1, b_V]
    rfl
  | succ k ih =>
    intro f hk hf
    have hfk := hf k (by omega) (by omega)
    have ek : ((k + 1 : Nat) : Int) - 1 = k := by omega
    have i1 := C_itemAt x (sA F 143 f) G (w := 142) (i := k) (by omega) (by omega) (by simp only [show rL 142 = 12 from rfl]; omega)
    have d1 := C_isDearer x (sA F 143 f) G (g := g) (e := f k) (by rw [sA_ne _ _ (by omega)]; exact hi) (by rw [sA_ne _ _ (by omega)]; exact hp) h0 h1 hfk.1 hfk.2
    rw [sA_ne _ _ (by omega), sA_ne _ _ (by omega)] at d1
    have c1 := C_rowChange x (sA F 143 f) G (w := 142) (i := ((k + 1 : Nat) : Int)) (v := g) (by omega) (by omega) (by simp only [show rL 142 = 12 from rfl]; omega)
    have c2 := C_rowChange x (sA F 143 f) G (w := 142) (i := ((k + 1 : Nat) : Int)) (v := f k) (by omega) (by omega) (by simp only [show rL 142 = 12 from rfl]; omega)
    simp only [Nat.reduceAdd, sA_eq, sA_sA] at i1 c1 c2
    rw [E_Duties_arrangeIn_18 x 3 (by omega), if_neg (show ¬ jI ((k + 1 : Nat) : Int) ≤ 0 by rw [lit_0, jI_le (by omega) (by omega) (by omega) (by omega)]; omega), fR_141_0, Option.bind_some, lit_1, jI_sub, ek, i1, b_I, d1, b_I, ins]
    by_cases q : drB (F 2) (F 38) g (f k) = true
    · simp only [if_pos q]
      rw [if_neg (show ¬ jI 1 = 0 by decide), fR_141_0, Option.bind_some, Option.bind_some, i1, b_I, c2, b_V, jI_neg, jI_add, show ((k + 1 : Nat) : Int) + -1 = k by omega]
      exact ih _ (by omega) (by
        intro i i0 i2
        rw [u_ne _ _ (by omega)]
        exact hf i i0 (by omega))
    · simp only [if_neg q]
      rw [if_pos (show jI 0 = 0 by decide), fR_141_0, Option.bind_some, c1, b_V]
      rfl
theorem C_arrangeIn {g : Int} {n : Nat} (hi : WI (F 2)) (hp : PR (F 38)) (h0 : 0 ≤ g) (h1 : g < 12) (hn : F 142 1 = n) (hn1 : n ≤ 11) (hf : ∀ i : Int, 0 ≤ i → i < n → 0 ≤ F 143 i ∧ F 143 i < 12) : ∃ F2, m_M x k_Duties_arrangeIn [.ref 141, .ref 1, .ref 37, .int (jI g)] (mk F G) = some (none, mk F2 G) ∧ F2 142 1 = n + 1 ∧ (∀ i : Int, 0 ≤ i → i ≤ n → F2 143 i = ins (drB (F 2) (F 38) g) g n (F 143) i) ∧ agD F F2 := by
  have p1 := C_put x F G (w := 142) (v := g) (by omega) (by omega) (by simp only [show rL 142 = 12 from rfl]; omega)
  simp only [show rL 142 = 12 from rfl, Nat.reduceAdd] at p1
  rw [if_pos (by omega), hn] at p1
  have k1 := C_arrIn x (sA F 142 (u (F 142) 1 ((n : Int) + 1))) G (g := g) (by rw [sA_ne _ _ (by omega)]; exact hi) (by rw [sA_ne _ _ (by omega)]; exact hp) h0 h1 n (u (F 143) n g) hn1 (by
    intro i i0 i1
    rw [u_ne _ _ (by omega)]
    exact hf i i0 i1)
  rw [sA_ne _ _ (by omega), sA_ne _ _ (by omega)] at k1
  have es : sA (sA F 142 (u (F 142) 1 ((n : Int) + 1))) 143 (u (F 143) n g) = sA (sA F 143 (u (F 143) n g)) 142 (u (F 142) 1 ((n : Int) + 1)) := by
    funext b
    by_cases q1 : b = 142
    · rw [q1, sA_ne _ _ (by omega), sA_eq, sA_eq]
    · by_cases q2 : b = 143
      · rw [q2, sA_eq, sA_ne _ _ (by omega), sA_eq]
      · rw [sA_ne _ _ q2, sA_ne _ _ q1, sA_ne _ _ q1, sA_ne _ _ q2]
  rw [es] at k1
  refine ⟨sA (sA F 142 (u (F 142) 1 ((n : Int) + 1))) 143 (ins (drB (F 2) (F 38) g) g n (u (F 143) n g)), ?_, ?_, ?_, ?_⟩
  · rw [E_Duties_arrangeIn, isO_141, if_pos rfl, fR_141_0, Option.bind_some, fI_R_1 F G (w := 142) (by omega), Option.bind_some, Option.bind_some, p1, b_I, hn]
    exact k1
  · rw [sA_ne _ _ (by omega), sA_eq, u_eq]
  · intro i i0 i1
    rw [sA_eq]
    refine ins_cg _ _ _ _ _ ?_ i i0 i1
    intro j j0 j1
    rw [u_ne _ _ (by omega)]
  · intro b b1 b2
    rw [sA_ne _ _ b2, sA_ne _ _ b1]
theorem C_arrange {p : Int} (hi : WI (F 2)) (hp : PR (F 38)) (hpr : rg p) : ∃ F2, m_M x k_Duties_arrange [.ref 141, .ref 1, .ref 37, .int (jI p)] (mk F G) = some (none, mk F2 G) ∧ F2 142 1 = (layN (F 2) (F 38) p (F 2 25).toNat).1 ∧ (∀ i : Int, 0 ≤ i → i < (layN (F 2) (F 38) p (F 2 25).toNat).1 → F2 143 i = (layN (F 2) (F 38) p (F 2 25).toNat).2 i) ∧ agD F F2 := by
  have hc := WI_c hi
  have hpr2 := hpr
  unfold rg at hpr2
  have key : ∀ g, 0 ≤ g → g ≤ F 2 25 → ∀ F1 : Nat → Fn, F1 142 1 = (layN (F 2) (F 38) p g.toNat).1 → (∀ i : Int, 0 ≤ i → i < (layN (F 2) (F 38) p g.toNat).1 → F1 143 i = (layN (F 2) (F 38) p g.toNat).2 i) → agD F F1 → ∃ F2, m_D x 4 k_Duties_arrange 10 [some (.ref 141), some (.ref 1), some (.ref 37), some (.int (jI p)), some (.int (jI g))] [] (mk F1 G) = some (none, mk F2 G) ∧ F2 142 1 = (layN (F 2) (F 38) p (F 2 25).toNat).1 ∧ (∀ i : Int, 0 ≤ i → i < (layN (F 2) (F 38) p (F 2 25).toNat).1 → F2 143 i = (layN (F 2) (F 38) p (F 2 25).toNat).2 i) ∧ agD F F2 := by
    apply down
    · intro F1 h1 h2 ha
      refine ⟨F1, ?_, h1, h2, ha⟩
      have fw : m_fR (mk F1 G) 9 0 1 = some 2 := fR_W_0 F1 G (w := 1) (Or.inl rfl)
      rw [E_Duties_arrange_10 x 4 (by omega)]
      simp (disch := omega) only [lit_0, lit_1, lit_2, lit_3, lit_4, lit_5, lit_6, lit_7, lit_8, lit_9, lit_10, lit_11, lit_12, lit_13, lit_14, lit_15, lit_16, lit_17, lit_18, lit_19, lit_20, lit_21, lit_22, lit_23, lit_24, lit_25, lit_26, lit_27, lit_28, lit_29, lit_30, lit_31, lit_32, lit_33, lit_34, lit_35, lit_36, lit_37, lit_38, lit_39, lit_40, lit_41, lit_42, lit_43, lit_44, lit_45, lit_46, lit_47, lit_48, lit_49, lit_50, lit_51, lit_52, lit_53, lit_54, lit_55, lit_56, lit_57, lit_58, lit_59, lit_60, lit_61, lit_62, lit_63, lit_64, lit_65, lit_67, lit_70, lit_71, lit_73, lit_75, lit_78, lit_84, lit_85, lit_86, lit_87, lit_89, lit_90, lit_91, lit_95, lit_96, lit_97, lit_98, lit_99, lit_100, lit_101, lit_102, lit_103, lit_104, lit_105, lit_107, lit_108, lit_109, lit_110, lit_111, lit_112, lit_114, lit_115, lit_116, lit_117, lit_119, lit_121, lit_122, lit_126, lit_127, lit_128, lit_130, lit_134, lit_137, lit_139, lit_140, lit_141, lit_145, lit_152, lit_159, lit_160, lit_168, lit_174, lit_180, lit_183, lit_192, lit_199, lit_236, lit_251, lit_255, lit_272, lit_284, lit_300, lit_330, lit_373, lit_753, lit_800, lit_896, lit_900, lit_1000, lit_1001, lit_1002, lit_1003, lit_1079, lit_1276, lit_1330, lit_1450, lit_3012, lit_3016, lit_3300, lit_8430, lit_9999, lit_10000, lit_11730, lit_30467, lit_65536, lit_99999, lit_100000, lit_1000000, lit_252645135, lit_858993459, lit_1000000000, lit_1431655765, fw, ia_2, is_2, b_I, b_L, b_V, b_R, b_N, b_N0, Option.bind_some, ↓reduceIte, bq0, bq1, bz0, bz1, ite_not, Classical.not_not]
      rw [ha 2 (by omega) (by omega), if_pos (Int32.le_refl _)]
    · intro g g0 g1 ih F1 h1 h2 ha
      have fw : m_fR (mk F1 G) 9 0 1 = some 2 := fR_W_0 F1 G (w := 1) (Or.inl rfl)
      have e2 := ha 2 (by omega) (by omega)
      have e38 := ha 38 (by omega) (by omega)
      have hg := WI_g hi g0 (by omega)
      have lr := lay_r (F 2) (F 38) p g.toNat
      have o1 := C_isOpen x F1 G (w := 1) (g := g) (Or.inl rfl) (by simp only [Nat.reduceAdd]; rw [e2]; exact hi) (by unfold rg; omega)
      have a1 := C_at x F1 G (w := 1) (p := 27) (i := g) (Or.inl rfl) (by omega) (by omega)
      simp only [Nat.reduceAdd] at o1 a1
      rw [e2] at o1 a1
      have es : (g + 1).toNat = g.toNat + 1 := by omega
      have eg : ((g.toNat : Nat) : Int) = g := by omega
      rw [es, layN, eg] at ih
      rw [E_Duties_arrange_10 x 4 (by omega)]
      simp (disch := omega) only [lit_0, lit_1, lit_2, lit_3, lit_4, lit_5, lit_6, lit_7, lit_8, lit_9, lit_10, lit_11, lit_12, lit_13, lit_14, lit_15, lit_16, lit_17, lit_18, lit_19, lit_20, lit_21, lit_22, lit_23, lit_24, lit_25, lit_26, lit_27, lit_28, lit_29, lit_30, lit_31, lit_32, lit_33, lit_34, lit_35, lit_36, lit_37, lit_38, lit_39, lit_40, lit_41, lit_42, lit_43, lit_44, lit_45, lit_46, lit_47, lit_48, lit_49, lit_50, lit_51, lit_52, lit_53, lit_54, lit_55, lit_56, lit_57, lit_58, lit_59, lit_60, lit_61, lit_62, lit_63, lit_64, lit_65, lit_67, lit_70, lit_71, lit_73, lit_75, lit_78, lit_84, lit_85, lit_86, lit_87, lit_89, lit_90, lit_91, lit_95, lit_96, lit_97, lit_98, lit_99, lit_100, lit_101, lit_102, lit_103, lit_104, lit_105, lit_107, lit_108, lit_109, lit_110, lit_111, lit_112, lit_114, lit_115, lit_116, lit_117, lit_119, lit_121, lit_122, lit_126, lit_127, lit_128, lit_130, lit_134, lit_137, lit_139, lit_140, lit_141, lit_145, lit_152, lit_159, lit_160, lit_168, lit_174, lit_180, lit_183, lit_192, lit_199, lit_236, lit_251, lit_255, lit_272, lit_284, lit_300, lit_330, lit_373, lit_753, lit_800, lit_896, lit_900, lit_1000, lit_1001, lit_1002, lit_1003, lit_1079, lit_1276, lit_1330, lit_1450, lit_3012, lit_3016, lit_3300, lit_8430, lit_9999, lit_10000, lit_11730, lit_30467, lit_65536, lit_99999, lit_100000, lit_1000000, lit_252645135, lit_858993459, lit_1000000000, lit_1431655765, jI_add, jI_sub, jI_mul, jI_neg, jI_lt, jI_le, jI_eq, fw, ia_2, is_2, b_I, b_L, b_V, b_R, b_N, b_N0, Option.bind_some, ↓reduceIte, bq0, bq1, bz0, bz1, ite_not, Classical.not_not, e2, o1, a1]
      rw [if_neg (by omega)]
      by_cases q : F 2 (99 + g) = 0 ∨ F 2 (99 + g) = 3
      · rw [if_pos ⟨g0, g1, q⟩]
        by_cases q2 : F 2 (27 + g) = p
        · obtain ⟨F2, r1, r2, r3, r4⟩ := C_arrangeIn x F1 G (g := g) (n := (layN (F 2) (F 38) p g.toNat).1) (by rw [e2]; exact hi) (by rw [e38]; exact hp) g0 (by omega) h1 (by omega) (by
            intro i i0 i1
            rw [h2 i i0 i1]
            have := lr.2 i i0 i1
            omega)
          rw [e2, e38] at r3
          rw [if_pos q2, r1, b_V]
          rw [if_pos ⟨q, q2⟩] at ih
          refine ih F2 ?_ ?_ (agD_tr ha r4)
          · rw [r2]; dsimp only; omega
          · intro i i0 i1
            dsimp only at i1 ⊢
            rw [r3 i i0 (by omega)]
            exact ins_cg _ _ _ _ _ h2 i i0 (by omega)
        · rw [if_neg q2]
          rw [if_neg (fun h => q2 h.2)] at ih
          exact ih F1 h1 h2 ha
      · rw [if_neg (fun h => q h.2.2)]
        rw [if_neg (fun h => q h.1)] at ih
        exact ih F1 h1 h2 ha
  have e1 := C_empty x F G (w := 142) (by omega)
  obtain ⟨F2, r1, r2, r3, r4⟩ := key 0 (by omega) (by omega) (sA F 142 (u (F 142) 1 0)) (by rw [sA_eq, u_eq]; rfl) (by intro i i0 i1; have : ∀ a b : Fn, (layN a b p 0).1 = 0 := fun _ _ => rfl; rw [show (0 : Int).toNat = 0 from rfl, this] at i1; omega) (fun b b1 _ => sA_ne _ _ b1)
  refine ⟨F2, ?_, r2, r3, r4⟩
  rw [E_Duties_arrange, isO_141, if_pos rfl, fR_141_0, Option.bind_some, e1, b_V]
  exact r1
theorem M_isSooner {c pr : Fn} {g e : Int} (hv : ∀ k, vok k → V (F 150) k = c k) (hpr : ∀ g, 0 ≤ g → g < 12 → F 150 (168 + g) = pr g) (hi : WI c) (hp : PR pr) (h0 : e < g) (h1 : g < 12) (h2 : 0 ≤ e) : m_M x k_M_isSooner [.ref 149, .int (jI g), .int (jI e)] (mk F G) = some (some (.int (jI (if drB c pr g e then 1 else 0))), mk F G) := by
  have hg := WI_g hi (g := g) (by omega) h1
  have he := WI_g hi h2 (by omega)
  have pg := hp g (by omega) h1
  have pe := hp e h2 (by omega)
  have m1 := mulr pg.1 pg.2 he.2.2.2.2.1 he.2.2.2.2.2.1
  have m2 := mulr pe.1 pe.2 hg.2.2.2.2.1 hg.2.2.2.2.2.1
  have e1 := M_get x F G (g := e) (k := 2) h2 (by omega) (by omega) (by omega)
  have e2 := M_get x F G (g := g) (k := 2) (by omega) h1 (by omega) (by omega)
  rw [hv _ (by unfold vok; omega)] at e1 e2
  simp only [Int.reduceMul, Int.reduceAdd] at e1 e2
  have i1 : m_ia x (mk F G) 150 (jI (168 + g)) = some (jI (pr g)) := by rw [ia_150 x F G (by omega) (by omega), hpr g (by omega) h1]
  have i2 : m_ia x (mk F G) 150 (jI (168 + e)) = some (jI (pr e)) := by rw [ia_150 x F G (by omega) (by omega), hpr e (by omega) (by omega)]
  rw [E_M_isSooner]
  simp (disch := omega) only [lit_0, lit_1, lit_2, lit_3, lit_4, lit_5, lit_6, lit_7, lit_8, lit_9, lit_10, lit_11, lit_12, lit_13, lit_14, lit_15, lit_16, lit_17, lit_18, lit_19, lit_20, lit_21, lit_22, lit_23, lit_24, lit_25, lit_26, lit_27, lit_28, lit_29, lit_30, lit_31, lit_32, lit_33, lit_34, lit_35, lit_36, lit_37, lit_38, lit_39, lit_40, lit_41, lit_42, lit_43, lit_44, lit_45, lit_46, lit_47, lit_48, lit_49, lit_50, lit_51, lit_52, lit_53, lit_54, lit_55, lit_56, lit_57, lit_58, lit_59, lit_60, lit_61, lit_62, lit_63, lit_64, lit_65, lit_67, lit_70, lit_71, lit_73, lit_75, lit_78, lit_84, lit_85, lit_86, lit_87, lit_89, lit_90, lit_91, lit_95, lit_96, lit_97, lit_98, lit_99, lit_100, lit_101, lit_102, lit_103, lit_104, lit_105, lit_107, lit_108, lit_109, lit_110, lit_111, lit_112, lit_114, lit_115, lit_116, lit_117, lit_119, lit_121, lit_122, lit_126, lit_127, lit_128, lit_130, lit_134, lit_137, lit_139, lit_140, lit_141, lit_145, lit_152, lit_159, lit_160, lit_168, lit_174, lit_180, lit_183, lit_192, lit_199, lit_236, lit_251, lit_255, lit_272, lit_284, lit_300, lit_330, lit_373, lit_753, lit_800, lit_896, lit_900, lit_1000, lit_1001, lit_1002, lit_1003, lit_1079, lit_1276, lit_1330, lit_1450, lit_3012, lit_3016, lit_3300, lit_8430, lit_9999, lit_10000, lit_11730, lit_30467, lit_65536, lit_99999, lit_100000, lit_1000000, lit_252645135, lit_858993459, lit_1000000000, lit_1431655765, jI_add, jI_sub, jI_mul, jI_neg, jI_lt, jI_le, jI_eq, isO_149, fR_149_0, b_I, b_L, b_V, b_R, b_N, b_N0, Option.bind_some, ↓reduceIte, bq0, bq1, bz0, bz1, ite_not, Classical.not_not, e1, e2, i1, i2]
  unfold drB
  simp only [decide_eq_true_eq]
  by_cases q : pr e * c (51 + g) < pr g * c (51 + e)
  · rw [if_pos (by omega), if_pos q]
  · rw [if_neg (by omega), if_neg (c := pr e * c (51 + g) < pr g * c (51 + e)) q]
    by_cases q2 : pr g * c (51 + e) - pr e * c (51 + g) = 0
    · rw [if_pos q2, if_pos (by omega)]
    · rw [if_neg q2]
theorem M_layIn {c pr : Fn} {g p n : Int} (hv : ∀ k, vok k → V (F 150) k = c k) (hpr : ∀ g, 0 ≤ g → g < 12 → F 150 (168 + g) = pr g) (hi : WI c) (hp : PR pr) (h0 : 0 ≤ g) (h1 : g < 12) : ∀ (k : Nat) (f : Fn), k ≤ 11 → (∀ i : Int, 0 ≤ i → i < k → 0 ≤ f i ∧ f i < g) → ∃ d, m_nl d = true ∧ m_D x 3 k_M_layDuties 39 [some (.ref 149), some (.int (jI p)), some (.int (jI n)), some (.int (jI g)), some (.int (jI k))] [] (mk (sA F 160 f) G) = m_D x 3 k_M_layDuties 4 [some (.ref 149), some (.int (jI p)), some (.int (jI (n + 1))), some (.int (jI (g + 1))), d] [] (mk (sA F 160 (ins (drB c pr g) g k f)) G) := by
  intro k
  induction k with
  | zero =>
    intro f hk hf
    refine ⟨some (.int (jI 0)), rfl, ?_⟩
    rw [E_M_layDuties_39 x 3 (by omega), if_pos (by decide), fR_149_26, Option.bind_some, show jI ((0 : Nat) : Int) = jI 0 from rfl, is_160 _ _ _ (by omega) (by omega), Option.bind_some, lit_1, jI_add, jI_add, sA_eq, sA_sA]
    rfl
  | succ k ih =>
    intro f hk hf
    have hfk := hf k (by omega) (by omega)
    have ek : ((k + 1 : Nat) : Int) - 1 = k := by omega
    have d1 := M_isSooner x (sA F 160 f) G (g := g) (e := f k) (c := c) (pr := pr) (by rw [sA_ne _ _ (by omega)]; exact hv) (by rw [sA_ne _ _ (by omega)]; exact hpr) hi hp hfk.2 h1 hfk.1
    rw [E_M_layDuties_39 x 3 (by omega), if_neg (show ¬ jI ((k + 1 : Nat) : Int) ≤ 0 by rw [lit_0, jI_le (by omega) (by omega) (by omega) (by omega)]; omega), fR_149_26, Option.bind_some, lit_1, jI_sub, ek, ia_160 x _ _ (by omega) (by omega), Option.bind_some, sA_eq, d1, b_I, ins]
    by_cases q : drB c pr g (f k) = true
    · simp only [if_pos q]
      rw [if_neg (show ¬ jI 1 = 0 by decide), fR_149_26, Option.bind_some, Option.bind_some, ia_160 x _ _ (by omega) (by omega), Option.bind_some, is_160 _ _ _ (by omega) (by omega), Option.bind_some, sA_eq, sA_sA, jI_neg, jI_add, show ((k + 1 : Nat) : Int) + -1 = k by omega]
      exact ih _ (by omega) (by
        intro i i0 i2
        rw [u_ne _ _ (by omega)]
        exact hf i i0 (by omega))
    · simp only [if_neg q]
      refine ⟨some (.int (jI ((k + 1 : Nat) : Int))), rfl, ?_⟩
      rw [if_pos (show jI 0 = 0 by decide), fR_149_26, Option.bind_some, is_160 _ _ _ (by omega) (by omega), Option.bind_some, jI_add, jI_add, sA_eq, sA_sA]
      rfl
theorem M_layDuties {c pr : Fn} {p : Int} (hv : ∀ k, vok k → V (F 150) k = c k) (hpr : ∀ g, 0 ≤ g → g < 12 → F 150 (168 + g) = pr g) (hi : WI c) (hp : PR pr) (hpp : rg p) : ∃ f, m_M x k_M_layDuties [.ref 149, .int (jI p)] (mk F G) = some (some (.int (jI (layN c pr p (c 25).toNat).1)), mk (sA F 160 f) G) ∧ (∀ i : Int, 0 ≤ i → i < (layN c pr p (c 25).toNat).1 → f i = (layN c pr p (c 25).toNat).2 i) := by
  have hc := WI_c hi
  have hpr2 := hpp
  unfold rg at hpr2
  have hwv : WI (V (F 150)) := WIV_of hi (fun k hk => (hv k hk).symm)
  have a11 := va_11 x F
  have key : ∀ g, 0 ≤ g → g ≤ c 25 → ∀ f d, m_nl d = true → (∀ i : Int, 0 ≤ i → i < (layN c pr p g.toNat).1 → f i = (layN c pr p g.toNat).2 i) → ∃ f2, m_D x 3 k_M_layDuties 4 [some (.ref 149), some (.int (jI p)), some (.int (jI (layN c pr p g.toNat).1)), some (.int (jI g)), d] [] (mk (sA F 160 f) G) = some (some (.int (jI (layN c pr p (c 25).toNat).1)), mk (sA F 160 f2) G) ∧ (∀ i : Int, 0 ≤ i → i < (layN c pr p (c 25).toNat).1 → f2 i = (layN c pr p (c 25).toNat).2 i) := by
    apply down
    · intro f d hd hf
      refine ⟨f, ?_, hf⟩
      have a := va_11 x (sA F 160 f) G
      rw [sA_ne _ _ (by omega), hv 25 (by unfold vok; omega)] at a
      rw [E_M_layDuties_4 x 3 (by omega) _ _ _ _ _ _ hd, fR_149_0, Option.bind_some, lit_11, a, Option.bind_some, if_pos (Int32.le_refl _)]
    · intro g g0 g1 ih f d hd hf
      have a := va_11 x (sA F 160 f) G
      have e1 := M_get x (sA F 160 f) G (g := g) (k := 0) g0 (by omega) (by omega) (by omega)
      have o1 := M_isOpen x (sA F 160 f) G (g := g) (by rw [sA_ne _ _ (by omega)]; exact hwv) g0 (by omega)
      have hg := WI_g hi g0 (by omega)
      have lr := lay_r c pr p g.toNat
      rw [sA_ne _ _ (by omega), hv _ (by unfold vok; omega)] at a e1 o1
      simp only [Int.reduceMul, Int.reduceAdd] at e1
      have es : (g + 1).toNat = g.toNat + 1 := by omega
      have eg : ((g.toNat : Nat) : Int) = g := by omega
      rw [es, layN, eg] at ih
      rw [E_M_layDuties_4 x 3 (by omega) _ _ _ _ _ _ hd]
      simp (disch := omega) only [lit_0, lit_1, lit_2, lit_3, lit_4, lit_5, lit_6, lit_7, lit_8, lit_9, lit_10, lit_11, lit_12, lit_13, lit_14, lit_15, lit_16, lit_17, lit_18, lit_19, lit_20, lit_21, lit_22, lit_23, lit_24, lit_25, lit_26, lit_27, lit_28, lit_29, lit_30, lit_31, lit_32, lit_33, lit_34, lit_35, lit_36, lit_37, lit_38, lit_39, lit_40, lit_41, lit_42, lit_43, lit_44, lit_45, lit_46, lit_47, lit_48, lit_49, lit_50, lit_51, lit_52, lit_53, lit_54, lit_55, lit_56, lit_57, lit_58, lit_59, lit_60, lit_61, lit_62, lit_63, lit_64, lit_65, lit_67, lit_70, lit_71, lit_73, lit_75, lit_78, lit_84, lit_85, lit_86, lit_87, lit_89, lit_90, lit_91, lit_95, lit_96, lit_97, lit_98, lit_99, lit_100, lit_101, lit_102, lit_103, lit_104, lit_105, lit_107, lit_108, lit_109, lit_110, lit_111, lit_112, lit_114, lit_115, lit_116, lit_117, lit_119, lit_121, lit_122, lit_126, lit_127, lit_128, lit_130, lit_134, lit_137, lit_139, lit_140, lit_141, lit_145, lit_152, lit_159, lit_160, lit_168, lit_174, lit_180, lit_183, lit_192, lit_199, lit_236, lit_251, lit_255, lit_272, lit_284, lit_300, lit_330, lit_373, lit_753, lit_800, lit_896, lit_900, lit_1000, lit_1001, lit_1002, lit_1003, lit_1079, lit_1276, lit_1330, lit_1450, lit_3012, lit_3016, lit_3300, lit_8430, lit_9999, lit_10000, lit_11730, lit_30467, lit_65536, lit_99999, lit_100000, lit_1000000, lit_252645135, lit_858993459, lit_1000000000, lit_1431655765, jI_add, jI_sub, jI_mul, jI_neg, jI_lt, jI_le, jI_eq, fR_149_0, a, b_I, b_L, b_V, b_R, b_N, b_N0, Option.bind_some, ↓reduceIte, bq0, bq1, bz0, bz1, ite_not, Classical.not_not, e1, o1]
      rw [if_neg (by omega)]
      by_cases q2 : c (27 + g) = p
      · rw [if_pos q2]
        by_cases q : c (99 + g) = 0 ∨ c (99 + g) = 3
        · rw [if_pos q]
          rw [if_pos ⟨q, q2⟩] at ih
          obtain ⟨d2, hd2, r1⟩ := M_layIn x F G (c := c) (pr := pr) (g := g) (p := p) (n := (layN c pr p g.toNat).1) hv hpr hi hp g0 (by omega) (layN c pr p g.toNat).1 f (by omega) (by
            intro i i0 i1
            rw [hf i i0 i1]
            have := lr.2 i i0 i1
            omega)
          rw [r1]
          have ih2 := ih (ins (drB c pr g) g (layN c pr p g.toNat).1 f) d2 hd2 (by
            intro i i0 i1
            dsimp only at i1 ⊢
            exact ins_cg _ _ _ _ _ hf i i0 (by omega))
          simp only [Int.natCast_add, Int.natCast_one] at ih2
          exact ih2
        · rw [if_neg q]
          rw [if_neg (fun h => q h.1)] at ih
          exact ih f d hd hf
      · rw [if_neg q2]
        rw [if_neg (fun h => q2 h.2)] at ih
        exact ih f d hd hf
  have e : sA F 160 (F 160) = F := by
    funext b
    by_cases q : b = 160
    · rw [q, sA_eq]
    · rw [sA_ne _ _ q]
  have k0 := key 0 (by omega) (by omega) (F 160) none rfl (by intro i i0 i1; have : ∀ a b : Fn, (layN a b p 0).1 = 0 := fun _ _ => rfl; rw [show (0 : Int).toNat = 0 from rfl, this] at i1; omega)
  rw [e] at k0
  rw [E_M_layDuties, isO_149, if_pos rfl]
  exact k0
end
