-- weddings: rounds of the class, chains of the model
def FIN (m N : Int) (μ : Fn) (as : Int → Nat) : Prop := ∀ p, 0 ≤ p → p < m → μ p = -1 → ∀ q, m ≤ q → q < N → Tq as p q
theorem nx_all {c : Fn} {p m : Int} {as : Int → Nat} (hm : 0 ≤ m) (hN : m ≤ c 0) (h : nxN c p (as p) m (c 0 - m).toNat = -1) : ∀ q, m ≤ q → q < c 0 → Tq as p q := by
  intro q q0 q1
  by_cases e : Tq as p q
  · exact e
  · exact absurd h (nx_b (c := c) (p := p) (a := as p) hm (c 0 - m).toNat q q0 (by omega) e).1
section
variable (x : m_X) (F G : Nat → Fn)
theorem C_leaveAll : ∃ F2, m_M x k_Weddings_leaveAll [.ref 138] (mk F G) = some (none, mk F2 G) ∧ (∀ k, 0 ≤ k → k < 7 → F2 139 k = -1 ∧ F2 140 k = 0) ∧ ag9 F F2 := by
  have key : ∀ n, 0 ≤ n → n ≤ 7 → ∀ F1 : Nat → Fn, (∀ k, 0 ≤ k → k < n → F1 139 k = -1 ∧ F1 140 k = 0) → ag9 F F1 → ∃ F2, m_D x 1 k_Weddings_leaveAll 2 [some (.ref 138), some (.int (jI n))] [] (mk F1 G) = some (none, mk F2 G) ∧ (∀ k, 0 ≤ k → k < 7 → F2 139 k = -1 ∧ F2 140 k = 0) ∧ ag9 F F2 := by
    apply down
    · intro F1 h1 h2
      refine ⟨F1, ?_, h1, h2⟩
      rw [E_Weddings_leaveAll_2 x 1 (by omega), lit_7, if_pos (Int32.le_refl _)]
    · intro n n0 n1 ih F1 h1 h2
      rw [E_Weddings_leaveAll_2 x 1 (by omega)]
      simp (disch := omega) only [lit_0, lit_1, lit_2, lit_3, lit_4, lit_5, lit_6, lit_7, lit_8, lit_9, lit_10, lit_11, lit_12, lit_13, lit_14, lit_15, lit_16, lit_17, lit_18, lit_19, lit_20, lit_21, lit_22, lit_23, lit_24, lit_25, lit_26, lit_27, lit_28, lit_29, lit_30, lit_31, lit_32, lit_33, lit_34, lit_35, lit_36, lit_37, lit_38, lit_39, lit_40, lit_41, lit_42, lit_43, lit_44, lit_45, lit_46, lit_47, lit_48, lit_49, lit_50, lit_51, lit_52, lit_53, lit_54, lit_55, lit_56, lit_57, lit_58, lit_59, lit_60, lit_61, lit_62, lit_63, lit_64, lit_65, lit_67, lit_70, lit_71, lit_73, lit_75, lit_78, lit_84, lit_85, lit_86, lit_87, lit_89, lit_90, lit_91, lit_95, lit_96, lit_97, lit_98, lit_99, lit_100, lit_101, lit_102, lit_103, lit_104, lit_105, lit_107, lit_108, lit_109, lit_110, lit_111, lit_112, lit_114, lit_115, lit_116, lit_117, lit_119, lit_121, lit_122, lit_126, lit_127, lit_128, lit_130, lit_134, lit_137, lit_139, lit_140, lit_141, lit_145, lit_152, lit_159, lit_160, lit_168, lit_174, lit_180, lit_183, lit_192, lit_199, lit_236, lit_251, lit_255, lit_272, lit_284, lit_300, lit_330, lit_373, lit_753, lit_800, lit_896, lit_900, lit_1000, lit_1001, lit_1002, lit_1003, lit_1079, lit_1276, lit_1330, lit_1450, lit_3012, lit_3016, lit_3300, lit_8430, lit_9999, lit_10000, lit_11730, lit_30467, lit_65536, lit_99999, lit_100000, lit_1000000, lit_252645135, lit_858993459, lit_1000000000, lit_1431655765, jI_add, jI_sub, jI_mul, jI_neg, jI_lt, jI_le, jI_eq, fR_138_0, fR_138_1, is_139, is_140, b_I, b_L, b_V, b_R, b_N, b_N0, Option.bind_some, ↓reduceIte, bq0, bq1, bz0, bz1, ite_not, Classical.not_not]
      rw [if_neg (by omega)]
      refine ih _ ?_ ?_
      · intro k k0 k1
        rw [sA_ne (b := 139) _ _ (by omega), sA_eq, sA_eq, sA_ne (b := 140) _ _ (by omega)]
        by_cases e : k = n
        · rw [e, u_eq, u_eq]; exact ⟨rfl, rfl⟩
        · rw [u_ne _ _ e, u_ne _ _ e]
          exact h1 k k0 (by omega)
      · intro b b1 b2
        rw [sA_ne _ _ b2, sA_ne _ _ b1]
        exact h2 b b1 b2
  rw [E_Weddings_leaveAll, isO_138, if_pos rfl]
  exact key 0 (by omega) (by omega) F (fun k _ _ => by omega) (fun _ _ _ => rfl)
/-- one round -/
theorem C_round {m i : Int} (hi : WI (F 2)) (hm0 : 0 ≤ m) (hm1 : m ≤ 6) (hm2 : m ≤ F 2 0) : ∀ p, 0 ≤ p → p ≤ m → ∀ (F1 : Nat → Fn) (n3 : Int), (n3 = 0 ∨ n3 = 1) → CI m (F 2) (F1 139) (F1 140) → ag9 F F1 → ∃ F2 n4, m_D x 5 k_Weddings_wedAll 25 [some (.ref 138), some (.ref 1), some (.int (jI m)), some (.int (jI n3)), some (.int (jI i)), some (.int (jI p))] [] (mk F1 G) = m_D x 5 k_Weddings_wedAll 9 [some (.ref 138), some (.ref 1), some (.int (jI m)), some (.int (jI n4)), some (.int (jI (i + 1))), some (.int (jI m))] [] (mk F2 G) ∧ CI m (F 2) (F2 139) (F2 140) ∧ ag9 F F2 ∧ cntA m (F 2 0) (asF (F1 140)) ≤ cntA m (F 2 0) (asF (F2 140)) ∧ ((n4 = 1 ∧ n3 = 1 ∧ F2 = F1 ∧ ∀ k, p ≤ k → k < m → F1 139 k = -1 → ∀ q, m ≤ q → q < F 2 0 → Tq (asF (F1 140)) k q) ∨ (n4 = 0 ∧ (n3 = 0 ∨ cntA m (F 2 0) (asF (F1 140)) < cntA m (F 2 0) (asF (F2 140))))) := by
  have hc := WI_c hi
  apply down
  · intro F1 n3 h3 h1 h2
    refine ⟨F1, n3, ?_, h1, h2, Int.le_refl _, ?_⟩
    · rw [E_Weddings_wedAll_25 x 5 (by omega), if_pos (Int32.le_refl _), lit_1, jI_add]
    · rcases h3 with h3 | h3
      · exact Or.inr ⟨h3, Or.inl h3⟩
      · exact Or.inl ⟨h3, h3, rfl, fun k k0 k1 => by omega⟩
  · intro p p0 p1 ih F1 n3 h3 h1 h2
    have e2 := h2 2 (by omega) (by omega)
    have vp := h1.2.2 p p0 (by omega)
    rw [E_Weddings_wedAll_25 x 5 (by omega), if_neg (by rw [jI_le (by omega) (by omega) (by omega) (by omega)]; omega), C_mateOf x F1 G p0 (by omega), b_I, show (-1 : Int32) = jI (-1) from rfl, lit_1, jI_add]
    by_cases q : F1 139 p = -1
    · rw [if_pos (by rw [q])]
      rcases C_asksOn x F1 G (m := m) (p := p) (by rw [e2]; exact hi) (by rw [e2]; exact h1) hm0 hm1 (by rw [e2]; exact hm2) p0 p1 q with ⟨r1, r2⟩ | ⟨F2, r1, r2, r3, r4⟩
      · rw [r2, b_I, if_pos (show jI 0 = 0 by decide)]
        obtain ⟨F2, n4, x1, x2, x3, x4, x5⟩ := ih F1 n3 h3 h1 h2
        refine ⟨F2, n4, x1, x2, x3, x4, ?_⟩
        rcases x5 with ⟨y1, y2, y3, y4⟩ | y
        · left
          refine ⟨y1, y2, y3, ?_⟩
          intro k k0 k1 hk
          by_cases e : k = p
          · rw [e]
            rw [e2] at r1
            exact nx_all (as := asF (F1 140)) hm0 hm2 r1
          · exact y4 k (by omega) k1 hk
        · exact Or.inr y
      · rw [e2] at r2 r4
        rw [r1, b_I, if_neg (show ¬ jI 1 = 0 by decide), lit_0]
        obtain ⟨F3, n4, x1, x2, x3, x4, x5⟩ := ih F2 0 (Or.inl rfl) r2 (ag9_tr h2 r3)
        refine ⟨F3, n4, x1, x2, x3, by omega, ?_⟩
        rcases x5 with ⟨y1, y2, y3, y4⟩ | y
        · omega
        · exact Or.inr ⟨y.1, Or.inr (by omega)⟩
    · rw [if_neg (by rw [jI_eq (by omega) (by omega) (by omega) (by omega)]; exact q)]
      obtain ⟨F2, n4, x1, x2, x3, x4, x5⟩ := ih F1 n3 h3 h1 h2
      refine ⟨F2, n4, x1, x2, x3, x4, ?_⟩
      rcases x5 with ⟨y1, y2, y3, y4⟩ | y
      · left
        refine ⟨y1, y2, y3, ?_⟩
        intro k k0 k1 hk
        by_cases e : k = p
        · rw [e] at hk; exact absurd hk q
        · exact y4 k (by omega) k1 hk
      · exact Or.inr y
theorem C_rounds {m : Int} (hi : WI (F 2)) (hm0 : 0 ≤ m) (hm1 : m ≤ 6) (hm2 : m ≤ F 2 0) : ∀ i, 0 ≤ i → i ≤ 49 → ∀ (F1 : Nat → Fn) d5, m_nl d5 = true → CI m (F 2) (F1 139) (F1 140) → ag9 F F1 → i ≤ cntA m (F 2 0) (asF (F1 140)) → ∃ F2, m_D x 5 k_Weddings_wedAll 9 [some (.ref 138), some (.ref 1), some (.int (jI m)), some (.int (jI 0)), some (.int (jI i)), d5] [] (mk F1 G) = some (none, mk F2 G) ∧ CI m (F 2) (F2 139) (F2 140) ∧ ag9 F F2 ∧ FIN m (F 2 0) (F2 139) (asF (F2 140)) := by
  have hc := WI_c hi
  apply down
  · intro F1 d5 h5 h1 h2 h3
    have := cntA_r (N := F 2 0) (asF (F1 140)) hm0 hm1 hm2 (by omega)
    omega
  · intro i i0 i1 ih F1 d5 h5 h1 h2 h3
    obtain ⟨F2, n4, x1, x2, x3, x4, x5⟩ := C_round x F G (m := m) (i := i) hi hm0 hm1 hm2 0 (by omega) (by omega) F1 1 (Or.inr rfl) h1 h2
    rw [E_Weddings_wedAll_9 x 5 (by omega) _ _ _ _ _ _ _ h5, if_neg (by rw [lit_49, jI_le (by omega) (by omega) (by omega) (by omega)]; omega), if_pos (show jI 0 = 0 by decide), lit_1, lit_0, x1]
    rcases x5 with ⟨y1, y2, y3, y4⟩ | y
    · refine ⟨F2, ?_, x2, x3, ?_⟩
      · rw [E_Weddings_wedAll_9 x 5 (by omega) _ _ _ _ _ _ _ rfl, y1, if_neg (show ¬ jI 1 = 0 by decide)]
        split <;> rfl
      · rw [y3]
        intro p p0 p1 hp
        exact y4 p p0 p1 hp
    · rw [y.1]
      refine ih F2 _ rfl x2 x3 ?_
      omega
theorem C_wedAll {m : Int} (hi : WI (F 2)) (hm0 : 0 ≤ m) (hm1 : m ≤ 6) (hm2 : m ≤ F 2 0) : ∃ F2, m_M x k_Weddings_wedAll [.ref 138, .ref 1, .int (jI m)] (mk F G) = some (none, mk F2 G) ∧ CI m (F 2) (F2 139) (F2 140) ∧ ag9 F F2 ∧ FIN m (F 2 0) (F2 139) (asF (F2 140)) := by
  have hc := WI_c hi
  obtain ⟨F1, r1, r2, r3⟩ := C_leaveAll x F G
  have h0 : CI m (F 2) (F1 139) (F1 140) := by
    refine ⟨?_, ?_, ?_⟩
    · refine DA_cg hm0 hm2 (μ := F1 139) (as := fun _ => 0) (fun _ _ _ => rfl) ?_ (DA_0 (F 2) m (F 2 0) (fun p p0 p1 => (r2 p p0 (by omega)).1) hm0 hm2)
      intro k k0 k1
      unfold asF
      rw [(r2 k k0 (by omega)).2]
      rfl
    · intro k k0 k1
      rw [(r2 k k0 k1).2]
      omega
    · intro k k0 k1
      rw [(r2 k k0 k1).1]
      omega
  have hcn := cntA_r (N := F 2 0) (asF (F1 140)) hm0 hm1 hm2 (by omega)
  obtain ⟨F2, x1, x2, x3, x4⟩ := C_rounds x F G (m := m) hi hm0 hm1 hm2 0 (by omega) (by omega) F1 none rfl h0 r3 hcn.1
  refine ⟨F2, ?_, x2, x3, x4⟩
  rw [E_Weddings_wedAll, isO_138, if_pos rfl, r1, b_V]
  exact x1
end
