-- chests of lefts: the model, and both alike
def CM (a c Z Y : Fn) (L : Nat) : Prop := (∀ j, vok j → V a j = c j) ∧ WI c ∧ a 6 = (L : Int) ∧ L ≤ 6 ∧ ∀ k : Nat, k < L → a (140 + 2 * (k : Int)) = Z k ∧ a (140 + 2 * (k : Int) + 1) = Y k ∧ (1 ≤ Z k ∧ Z k ≤ 9) ∧ 0 ≤ Y k ∧ Y k ≤ 8
section
variable (x : m_X) (F G : Nat → Fn)
theorem M_isFitting {c Z Y : Fn} {L k : Nat} {p : Int} (h : CM (F 150) c Z Y L) (hk : k < L) (p0 : 0 ≤ p) (p1 : p < 7) : m_M x k_M_isFitting [.ref 149, .int (jI (k : Int)), .int (jI p)] (mk F G) = some (some (.int (jI (if fitsB c (Z k) (Y k) p = true then 1 else 0))), mk F G) := by
  obtain ⟨hv, hi, h6, hL, hZ⟩ := h
  obtain ⟨z1, z2, z3, z4⟩ := hZ k hk
  have hp := WI_p hi p0 p1
  have a1 := va_h x F G p0 p1
  rw [hv (1 + p) (by unfold vok; omega)] at a1
  have a2 : m_ia x (mk F G) 150 (jI (140 + 2 * (k : Int))) = some (jI (Z k)) := by rw [ia_150 x F G (by omega) (by omega), z1]
  have a3 : m_ia x (mk F G) 150 (jI (140 + 2 * (k : Int) + 1)) = some (jI (Y k)) := by rw [ia_150 x F G (by omega) (by omega), z2]
  rw [E_M_isFitting, isO_149, if_pos rfl, fR_149_0, Option.bind_some, lit_112, jI_add, a1, Option.bind_some, Option.bind_some, lit_140, lit_2, jI_mul, jI_add, a2, Option.bind_some, jI_sub, M_off x F G (by omega) (by omega), b_I, fR_149_0, Option.bind_some, lit_1, jI_add, a3, Option.bind_some]
  unfold fitsB
  simp only [decide_eq_true_eq]
  have r : 0 ≤ (if 0 ≤ c (1 + p) - Z k then c (1 + p) - Z k else -(c (1 + p) - Z k)) ∧ (if 0 ≤ c (1 + p) - Z k then c (1 + p) - Z k else -(c (1 + p) - Z k)) ≤ 100 := by split <;> omega
  generalize (if 0 ≤ c (1 + p) - Z k then c (1 + p) - Z k else -(c (1 + p) - Z k)) = v at *
  by_cases q : v ≤ Y k
  · rw [if_neg (by rw [jI_lt (by omega) (by omega) (by omega) (by omega)]; omega), if_pos q]
  · rw [if_pos (by rw [jI_lt (by omega) (by omega) (by omega) (by omega)]; omega), if_neg q, lit_0]
theorem M_lw71 {c Z Y : Fn} {L k S : Nat} {held to : Int} (h : CM (F 150) c Z Y L) (hk : k < L) (hh : -1 ≤ held) (hh2 : held < 7) (ht : -1 ≤ to) (ht2 : to < 7) (hS : S < 2 ^ (c 0).toNat) (hT : ∀ S' : Nat, S' < 2 ^ (c 0).toNat → F 165 (128 * (k : Int) + S') = lW (okL c Z Y (c 0) held to) k S') : ∀ p, 0 ≤ p → p ≤ c 0 → m_D x 3 k_M_layWays 71 [some (.ref 149), some (.int (jI held)), some (.int (jI to)), some (.int (jI ((2 ^ (c 0).toNat : Nat) : Int))), some (.int (jI (k : Int))), some (.int (jI (S : Int))), some (.int (jI (sm (fun p => if S.testBit p.toNat = true ∧ okL c Z Y (c 0) held to k p = true then lW (okL c Z Y (c 0) held to) k (rm S p) else 0) p))), some (.int (jI p))] [] (mk F G) = m_D x 3 k_M_layWays 59 [some (.ref 149), some (.int (jI held)), some (.int (jI to)), some (.int (jI ((2 ^ (c 0).toNat : Nat) : Int))), some (.int (jI (k : Int))), some (.int (jI ((S : Int) + 1))), some (.int (jI (lW (okL c Z Y (c 0) held to) (k + 1) S))), some (.int (jI (c 0)))] [] (mk (sA F 165 (u (F 165) (128 * ((k : Int) + 1) + S) (lW (okL c Z Y (c 0) held to) (k + 1) S))) G) := by
  have h' := h
  obtain ⟨hv, hi, h6, hL, hZ⟩ := h'
  have hc := WI_c hi
  have hP : 2 ^ (c 0).toNat ≤ 2 ^ 7 := Nat.pow_le_pow_right (by omega) (by omega)
  have a2 := va_0 x F G
  rw [hv 0 (by unfold vok; omega)] at a2
  apply down
  · have e7 : sm (fun p => if S.testBit p.toNat = true ∧ okL c Z Y (c 0) held to k p = true then lW (okL c Z Y (c 0) held to) k (rm S p) else 0) (c 0) = lW (okL c Z Y (c 0) held to) (k + 1) S := by
      rw [lW_s]
      refine (sm_ext (by omega) 7 (by omega) ?_).symm
      intro i i0 i1
      rw [if_neg]
      intro q
      have := (okL_t.1 q.2).1.1
      omega
    rw [E_M_layWays_71 x 3 (by omega), fR_149_0, Option.bind_some, lit_0, a2, Option.bind_some, if_pos (Int32.le_refl _), fR_149_33, Option.bind_some, lit_1, lit_128, jI_add, jI_mul, jI_add, is_165 _ _ _ (by omega) (by omega), Option.bind_some, e7, jI_add]
  · intro p p0 p1 ih
    rw [sm_s _ p0] at ih
    generalize hs : sm (fun p => if S.testBit p.toNat = true ∧ okL c Z Y (c 0) held to k p = true then lW (okL c Z Y (c 0) held to) k (rm S p) else 0) p = acc at ih ⊢
    have no : ¬ (S.testBit p.toNat = true ∧ okL c Z Y (c 0) held to k p = true) → m_D x 3 k_M_layWays 71 [some (.ref 149), some (.int (jI held)), some (.int (jI to)), some (.int (jI ((2 ^ (c 0).toNat : Nat) : Int))), some (.int (jI (k : Int))), some (.int (jI (S : Int))), some (.int (jI acc)), some (.int (jI (p + 1)))] [] (mk F G) = m_D x 3 k_M_layWays 59 [some (.ref 149), some (.int (jI held)), some (.int (jI to)), some (.int (jI ((2 ^ (c 0).toNat : Nat) : Int))), some (.int (jI (k : Int))), some (.int (jI ((S : Int) + 1))), some (.int (jI (lW (okL c Z Y (c 0) held to) (k + 1) S))), some (.int (jI (c 0)))] [] (mk (sA F 165 (u (F 165) (128 * ((k : Int) + 1) + S) (lW (okL c Z Y (c 0) held to) (k + 1) S))) G) := by
      intro hno
      rw [if_neg hno, Int.add_zero] at ih
      exact ih
    have yes : (S.testBit p.toNat = true ∧ okL c Z Y (c 0) held to k p = true) → m_D x 3 k_M_layWays 115 [some (.ref 149), some (.int (jI held)), some (.int (jI to)), some (.int (jI ((2 ^ (c 0).toNat : Nat) : Int))), some (.int (jI (k : Int))), some (.int (jI (S : Int))), some (.int (jI acc)), some (.int (jI p))] [] (mk F G) = m_D x 3 k_M_layWays 59 [some (.ref 149), some (.int (jI held)), some (.int (jI to)), some (.int (jI ((2 ^ (c 0).toNat : Nat) : Int))), some (.int (jI (k : Int))), some (.int (jI ((S : Int) + 1))), some (.int (jI (lW (okL c Z Y (c 0) held to) (k + 1) S))), some (.int (jI (c 0)))] [] (mk (sA F 165 (u (F 165) (128 * ((k : Int) + 1) + S) (lW (okL c Z Y (c 0) held to) (k + 1) S))) G) := by
      intro hy
      rw [if_pos hy] at ih
      have r := rm_1 (S := S) (by omega) p0 (by omega) hy.1
      have en : p = ((p.toNat : Nat) : Int) := by omega
      have esh : jI (S : Int) &&& ((jI 1 <<< (jI p &&& jI 31)) ^^^ jI (-1)) = jI (rm S p : Int) := by
        rw [en, nshl (by omega), nsub]
        unfold rm
        rw [Int.toNat_natCast]
      have hv2 := hT (rm S p) (by omega)
      rw [E_M_layWays_115 x 3 (by omega), fR_149_33, Option.bind_some, lit_128, jI_mul, show (-1 : Int32) = jI (-1) from rfl, lit_1, lit_31, esh, jI_add, ia_165 x F G (by omega) (by omega), Option.bind_some, hv2, jI_add, jI_add]
      exact ih
    rw [E_M_layWays_71 x 3 (by omega), fR_149_0, Option.bind_some, lit_0, a2, Option.bind_some, if_neg (by rw [jI_le (by omega) (by omega) (by omega) (by omega)]; omega), M_has x F G p0 (by omega), b_I, lit_1, jI_add]
    by_cases b : S.testBit p.toNat = true
    · rw [if_pos b, if_neg (by decide), M_isFitting x F G h hk p0 (by omega), b_I]
      by_cases f : fitsB c (Z k) (Y k) p = true
      · rw [if_pos f, if_neg (by decide)]
        by_cases q1 : (k : Int) = held
        · rw [if_pos (by rw [q1])]
          by_cases q2 : p = to
          · rw [if_pos (by rw [q2])]
            exact yes ⟨b, okL_t.2 ⟨⟨p1, f⟩, Or.inr q2⟩⟩
          · rw [if_neg (by rw [jI_eq (by omega) (by omega) (by omega) (by omega)]; omega)]
            refine no (fun hh => ?_)
            have := (okL_t.1 hh.2).2
            omega
        · rw [if_neg (by rw [jI_eq (by omega) (by omega) (by omega) (by omega)]; omega)]
          exact yes ⟨b, okL_t.2 ⟨⟨p1, f⟩, Or.inl q1⟩⟩
      · rw [if_neg f, if_pos (by decide)]
        exact no (fun hh => f (okL_t.1 hh.2).1.2)
    · rw [if_neg b, if_pos (by decide)]
      exact no (fun hh => b hh.1)
theorem M_lw59 {c Z Y : Fn} {L k : Nat} {held to : Int} (h : CM (F 150) c Z Y L) (hk : k < L) (hh : -1 ≤ held) (hh2 : held < 7) (ht : -1 ≤ to) (ht2 : to < 7) : ∀ S, 0 ≤ S → S ≤ ((2 ^ (c 0).toNat : Nat) : Int) → ∀ F1 : Nat → Fn, (∀ j S' : Nat, j ≤ k → S' < 2 ^ (c 0).toNat → F1 165 (128 * (j : Int) + S') = lW (okL c Z Y (c 0) held to) j S') → (∀ S' : Nat, (S' : Int) < S → F1 165 (128 * ((k : Int) + 1) + S') = lW (okL c Z Y (c 0) held to) (k + 1) S') → (∀ b, ¬ b = 165 → F1 b = F b) → ∀ d6 d7, m_nl d6 = true → m_nl d7 = true → ∃ (F2 : Nat → Fn) (e5 e6 e7 : Option Value), m_nl e5 = true ∧ m_nl e6 = true ∧ m_nl e7 = true ∧ m_D x 3 k_M_layWays 59 [some (.ref 149), some (.int (jI held)), some (.int (jI to)), some (.int (jI ((2 ^ (c 0).toNat : Nat) : Int))), some (.int (jI (k : Int))), some (.int (jI S)), d6, d7] [] (mk F1 G) = m_D x 3 k_M_layWays 44 [some (.ref 149), some (.int (jI held)), some (.int (jI to)), some (.int (jI ((2 ^ (c 0).toNat : Nat) : Int))), some (.int (jI ((k : Int) + 1))), e5, e6, e7] [] (mk F2 G) ∧ (∀ j S' : Nat, j ≤ k + 1 → S' < 2 ^ (c 0).toNat → F2 165 (128 * (j : Int) + S') = lW (okL c Z Y (c 0) held to) j S') ∧ (∀ b, ¬ b = 165 → F2 b = F b) := by
  have hc := WI_c h.2.1
  have hL := h.2.2.2.1
  have hP : 2 ^ (c 0).toNat ≤ 2 ^ 7 := Nat.pow_le_pow_right (by omega) (by omega)
  apply down
  · intro F1 h1 h2 h3 d6 d7 n6 n7
    refine ⟨F1, some (.int (jI ((2 ^ (c 0).toNat : Nat) : Int))), d6, d7, rfl, n6, n7, ?_, ?_, h3⟩
    · rw [E_M_layWays_59 x 3 (by omega) _ _ _ _ _ _ _ _ _ n6 n7, if_pos (Int32.le_refl _), lit_1, jI_add]
    · intro j S' hj hS'
      by_cases e : j = k + 1
      · rw [e]
        have := h2 S' (by omega)
        have e2 : ((k + 1 : Nat) : Int) = (k : Int) + 1 := by omega
        rw [e2]
        exact this
      · exact h1 j S' (by omega) hS'
  · intro S S0 S1 ih F1 h1 h2 h3 d6 d7 n6 n7
    obtain ⟨n, en⟩ : ∃ n : Nat, S = (n : Int) := ⟨S.toNat, by omega⟩
    subst en
    have e150 := h3 150 (by omega)
    have z := M_lw71 x F1 G (c := c) (Z := Z) (Y := Y) (L := L) (k := k) (S := n) (held := held) (to := to) (by rw [e150]; exact h) hk hh hh2 ht ht2 (by omega) (fun S' hS' => h1 k S' (Nat.le_refl _) hS') 0 (by omega) (by omega)
    rw [sm_0] at z
    rw [E_M_layWays_59 x 3 (by omega) _ _ _ _ _ _ _ _ _ n6 n7, if_neg (by rw [jI_le (by omega) (by omega) (by omega) (by omega)]; omega), lit_0, z]
    refine ih _ ?_ ?_ ?_ _ _ rfl rfl
    · intro j S' hj hS'
      rw [sA_eq, u_ne _ _ (by omega)]
      exact h1 j S' hj hS'
    · intro S' hS'
      rw [sA_eq]
      by_cases e : S' = n
      · rw [e, u_eq]
      · rw [u_ne _ _ (by omega)]
        exact h2 S' (by omega)
    · intro b hb
      rw [sA_ne _ _ hb]
      exact h3 b hb
theorem p2nn (n : Nat) : (0 : Int) ≤ ((2 ^ n : Nat) : Int) := Int.natCast_nonneg _
theorem M_lw44 {c Z Y : Fn} {L : Nat} {held to : Int} (h : CM (F 150) c Z Y L) (hh : -1 ≤ held) (hh2 : held < 7) (ht : -1 ≤ to) (ht2 : to < 7) : ∀ n k : Nat, k + n = L → ∀ F1 : Nat → Fn, (∀ j S' : Nat, j ≤ k → S' < 2 ^ (c 0).toNat → F1 165 (128 * (j : Int) + S') = lW (okL c Z Y (c 0) held to) j S') → (∀ b, ¬ b = 165 → F1 b = F b) → ∀ d5 d6 d7, m_nl d5 = true → m_nl d6 = true → m_nl d7 = true → ∃ (F2 : Nat → Fn) (e6 e7 : Option Value), m_nl e6 = true ∧ m_nl e7 = true ∧ m_D x 3 k_M_layWays 44 [some (.ref 149), some (.int (jI held)), some (.int (jI to)), some (.int (jI ((2 ^ (c 0).toNat : Nat) : Int))), some (.int (jI (k : Int))), d5, d6, d7] [] (mk F1 G) = m_D x 3 k_M_layWays 183 [some (.ref 149), some (.int (jI held)), some (.int (jI to)), some (.int (jI ((2 ^ (c 0).toNat : Nat) : Int))), some (.int (jI 0)), some (.int (jI 0)), e6, e7] [] (mk F2 G) ∧ (∀ S' : Nat, S' < 2 ^ (c 0).toNat → F2 165 (128 * (L : Int) + S') = lW (okL c Z Y (c 0) held to) L S') ∧ (∀ b, ¬ b = 165 → F2 b = F b) := by
  have hL := h.2.2.2.1
  intro n
  induction n with
  | zero =>
    intro k hk F1 h1 h2 d5 d6 d7 n5 n6 n7
    have ek : k = L := by omega
    have e150 := h2 150 (by omega)
    have a6 : m_ia x (mk F1 G) 150 (jI 6) = some (jI (L : Int)) := by rw [ia_150 x F1 G (by omega) (by omega), e150, h.2.2.1]
    refine ⟨F1, d6, d7, n6, n7, ?_, fun S' hS' => by rw [← ek]; exact h1 k S' (Nat.le_refl _) hS', h2⟩
    rw [E_M_layWays_44 x 3 (by omega) _ _ _ _ _ _ _ _ _ n5 n6 n7, fR_149_0, Option.bind_some, lit_6, a6, Option.bind_some, ek, if_pos (Int32.le_refl _), lit_0]
  | succ n ih =>
    intro k hk F1 h1 h2 d5 d6 d7 n5 n6 n7
    have e150 := h2 150 (by omega)
    have a6 : m_ia x (mk F1 G) 150 (jI 6) = some (jI (L : Int)) := by rw [ia_150 x F1 G (by omega) (by omega), e150, h.2.2.1]
    obtain ⟨F2, e5, e6, e7, y5, y6, y7, y8, y9, y10⟩ := M_lw59 x F G (c := c) (Z := Z) (Y := Y) (L := L) (k := k) (held := held) (to := to) h (by omega) hh hh2 ht ht2 0 (by omega) (p2nn _) F1 h1 (fun S' hS' => by omega) h2 d6 d7 n6 n7
    obtain ⟨F3, g6, g7, w6, w7, w8, w9, w10⟩ := ih (k + 1) (by omega) F2 y9 y10 e5 e6 e7 y5 y6 y7
    refine ⟨F3, g6, g7, w6, w7, ?_, w9, w10⟩
    rw [E_M_layWays_44 x 3 (by omega) _ _ _ _ _ _ _ _ _ n5 n6 n7, fR_149_0, Option.bind_some, lit_6, a6, Option.bind_some, if_neg (by rw [jI_le (by omega) (by omega) (by omega) (by omega)]; omega), lit_0, y8]
    have e2 : ((k + 1 : Nat) : Int) = (k : Int) + 1 := by omega
    rw [e2] at w8
    exact w8
theorem M_layWays {c Z Y : Fn} {L : Nat} {held to : Int} (h : CM (F 150) c Z Y L) (hh : -1 ≤ held) (hh2 : held < 7) (ht : -1 ≤ to) (ht2 : to < 7) : ∃ F2, m_M x k_M_layWays [.ref 149, .int (jI held), .int (jI to)] (mk F G) = some (some (.int (jI (lT (okL c Z Y (c 0) held to) L 128))), mk F2 G) ∧ (∀ b, ¬ b = 165 → F2 b = F b) := by
  have hc := WI_c h.2.1
  have hL := h.2.2.2.1
  have hP : 2 ^ (c 0).toNat ≤ 2 ^ 7 := Nat.pow_le_pow_right (by omega) (by omega)
  have a2 := va_0 x F G
  rw [h.1 0 (by unfold vok; omega)] at a2
  have key : ∀ n, 0 ≤ n → n ≤ ((2 ^ (c 0).toNat : Nat) : Int) → ∀ F1 : Nat → Fn, (∀ k, 0 ≤ k → k < n → F1 165 k = if k = 0 then 1 else 0) → (∀ b, ¬ b = 165 → F1 b = F b) → ∃ F2, m_D x 3 k_M_layWays 12 [some (.ref 149), some (.int (jI held)), some (.int (jI to)), some (.int (jI ((2 ^ (c 0).toNat : Nat) : Int))), some (.int (jI n)), none, none, none] [] (mk F1 G) = m_D x 3 k_M_layWays 44 [some (.ref 149), some (.int (jI held)), some (.int (jI to)), some (.int (jI ((2 ^ (c 0).toNat : Nat) : Int))), some (.int (jI 0)), none, none, none] [] (mk F2 G) ∧ (∀ k, 0 ≤ k → k < ((2 ^ (c 0).toNat : Nat) : Int) → F2 165 k = if k = 0 then 1 else 0) ∧ (∀ b, ¬ b = 165 → F2 b = F b) := by
    apply down
    · intro F1 h1 h2
      refine ⟨F1, ?_, h1, h2⟩
      rw [E_M_layWays_12 x 3 (by omega), if_pos (Int32.le_refl _), lit_0]
    · intro n n0 n1 ih F1 h1 h2
      rw [E_M_layWays_12 x 3 (by omega), if_neg (by rw [jI_le (by omega) (by omega) (by omega) (by omega)]; omega), fR_149_33, Option.bind_some, lit_0, lit_1, jI_add]
      have st : ∀ v, v = (if n = 0 then 1 else 0) → ∃ F2, ((m_is (mk F1 G) 165 (jI n) (jI v)).bind fun s34 => m_D x 3 k_M_layWays 12 [some (.ref 149), some (.int (jI held)), some (.int (jI to)), some (.int (jI ((2 ^ (c 0).toNat : Nat) : Int))), some (.int (jI (n + 1))), none, none, none] [] s34) = m_D x 3 k_M_layWays 44 [some (.ref 149), some (.int (jI held)), some (.int (jI to)), some (.int (jI ((2 ^ (c 0).toNat : Nat) : Int))), some (.int (jI 0)), none, none, none] [] (mk F2 G) ∧ (∀ k, 0 ≤ k → k < ((2 ^ (c 0).toNat : Nat) : Int) → F2 165 k = if k = 0 then 1 else 0) ∧ (∀ b, ¬ b = 165 → F2 b = F b) := by
        intro v hv
        rw [is_165 _ _ _ n0 (by omega), Option.bind_some]
        refine ih _ ?_ ?_
        · intro k k0 k1
          rw [sA_eq]
          by_cases e : k = n
          · rw [e, u_eq, hv]
          · rw [u_ne _ _ e]
            exact h1 k k0 (by omega)
        · intro b hb
          rw [sA_ne _ _ hb]
          exact h2 b hb
      by_cases q : n = 0
      · rw [if_pos (by rw [q])]
        exact st 1 (by rw [if_pos q])
      · rw [if_neg (by rw [jI_eq (by omega) (by omega) (by omega) (by omega)]; omega)]
        exact st 0 (by rw [if_neg q])
  obtain ⟨F1, r1, r2, r3⟩ := key 0 (by omega) (p2nn _) F (fun k _ _ => by omega) (fun _ _ => rfl)
  obtain ⟨F2, e6, e7, y6, y7, y8, y9, y10⟩ := M_lw44 x F G (c := c) (Z := Z) (Y := Y) (L := L) (held := held) (to := to) h hh hh2 ht ht2 L 0 (by omega) F1 (by
    intro j S' hj hS'
    have ej : j = 0 := by omega
    rw [ej, lW]
    have e0 : 128 * ((0 : Nat) : Int) + (S' : Int) = S' := by omega
    rw [e0, r2 S' (by omega) (by omega)]
    by_cases e : S' = 0
    · rw [if_pos e, if_pos (by omega)]
    · rw [if_neg e, if_neg (by omega)]) r3 none none none rfl rfl rfl
  have e150 := y10 150 (by omega)
  have a6 : m_ia x (mk F2 G) 150 (jI 6) = some (jI (L : Int)) := by rw [ia_150 x F2 G (by omega) (by omega), e150, h.2.2.1]
  have sum : ∀ n, 0 ≤ n → n ≤ ((2 ^ (c 0).toNat : Nat) : Int) → m_D x 3 k_M_layWays 183 [some (.ref 149), some (.int (jI held)), some (.int (jI to)), some (.int (jI ((2 ^ (c 0).toNat : Nat) : Int))), some (.int (jI (lT (okL c Z Y (c 0) held to) L n))), some (.int (jI n)), e6, e7] [] (mk F2 G) = some (some (.int (jI (lT (okL c Z Y (c 0) held to) L ((2 ^ (c 0).toNat : Nat) : Int)))), mk F2 G) := by
    apply down
    · rw [E_M_layWays_183 x 3 (by omega) _ _ _ _ _ _ _ _ _ y6 y7, if_pos (Int32.le_refl _)]
    · intro n n0 n1 ih
      have es : lT (okL c Z Y (c 0) held to) L (n + 1) = lT (okL c Z Y (c 0) held to) L n + lW (okL c Z Y (c 0) held to) L n.toNat := by
        unfold lT
        rw [sm_s _ n0]
      have hv := y9 n.toNat (by omega)
      have en : ((n.toNat : Nat) : Int) = n := by omega
      rw [en] at hv
      rw [es] at ih
      rw [E_M_layWays_183 x 3 (by omega) _ _ _ _ _ _ _ _ _ y6 y7, if_neg (by rw [jI_le (by omega) (by omega) (by omega) (by omega)]; omega), fR_149_33, Option.bind_some, fR_149_0, Option.bind_some, lit_6, a6, Option.bind_some, lit_128, jI_mul, jI_add, ia_165 x F2 G (by omega) (by omega), Option.bind_some, hv, lit_1, jI_add, jI_add]
      exact ih
  have s0 := sum 0 (by omega) (p2nn _)
  have e0 : lT (okL c Z Y (c 0) held to) L 0 = 0 := sm_0 _
  have e128 : lT (okL c Z Y (c 0) held to) L ((2 ^ (c 0).toNat : Nat) : Int) = lT (okL c Z Y (c 0) held to) L 128 := by
    unfold lT
    refine (sm_ext (p2nn _) 128 (by omega) ?_).symm
    have pn := p2nn (c 0).toNat
    intro i i0 i1
    exact lW_hi (by omega) (by omega) (fun k p q => (okL_t.1 q).1.1) L i.toNat (by omega) (by omega)
  rw [e0, e128] at s0
  refine ⟨F2, ?_, y10⟩
  have esh : jI 1 <<< (jI (c 0) &&& jI 31) = jI ((2 ^ (c 0).toNat : Nat) : Int) := by
    have := nshl (n := (c 0).toNat) (by omega)
    have en : (((c 0).toNat : Nat) : Int) = c 0 := by omega
    rw [en] at this
    exact this
  replace y8 : m_D x 3 k_M_layWays 44 [some (.ref 149), some (.int (jI held)), some (.int (jI to)), some (.int (jI ((2 ^ (c 0).toNat : Nat) : Int))), some (.int (jI 0)), none, none, none] [] (mk F1 G) = _ := y8
  rw [E_M_layWays, isO_149, if_pos rfl, fR_149_0, Option.bind_some, lit_0, a2, Option.bind_some, lit_1, lit_31, esh, r1, y8]
  exact s0
theorem M_livesL {c Z Y : Fn} {L : Nat} {k all : Int} (h : CM (F 150) c Z Y L) (k0 : 0 ≤ k) (k1 : k < 6) (ha0 : 0 ≤ all) (ha1 : all ≤ 20000000) : ∀ p, 0 ≤ p → p ≤ c 0 → ∀ F1 : Nat → Fn, (∀ b, ¬ b = 165 → F1 b = F b) → ∃ (F2 : Nat → Fn) (v : Int), m_D x 4 k_M_lives 36 [some (.ref 149), some (.int (jI k)), some (.int (jI all)), some (.int (jI p))] [] (mk F1 G) = some (some (.int (jI v)), mk F2 G) ∧ (∀ b, ¬ b = 165 → F2 b = F b) ∧ ((v = -1 ∧ (all ≤ 0 ∨ ∀ j, p ≤ j → j < c 0 → ¬ lT (okL c Z Y (c 0) k j) L 128 = all)) ∨ (p ≤ v ∧ v < c 0 ∧ 0 < all ∧ lT (okL c Z Y (c 0) k v) L 128 = all ∧ ∀ j, p ≤ j → j < v → ¬ lT (okL c Z Y (c 0) k j) L 128 = all)) := by
  have hc := WI_c h.2.1
  have a2 : ∀ F1 : Nat → Fn, (∀ b, ¬ b = 165 → F1 b = F b) → m_ia x (mk F1 G) 150 (jI 0) = some (jI (c 0)) := by
    intro F1 hF
    have := va_0 x F1 G
    rw [hF 150 (by omega), h.1 0 (by unfold vok; omega)] at this
    exact this
  apply down
  · intro F1 hF
    refine ⟨F1, -1, ?_, hF, Or.inl ⟨rfl, Or.inr (fun j j0 j1 => by omega)⟩⟩
    rw [E_M_lives_36 x 4 (by omega), fR_149_0, Option.bind_some, lit_0, a2 F1 hF, Option.bind_some, if_pos (Int32.le_refl _)]
    rfl
  · intro p p0 p1 ih F1 hF
    rw [E_M_lives_36 x 4 (by omega), fR_149_0, Option.bind_some, lit_0, a2 F1 hF, Option.bind_some, if_neg (by rw [jI_le (by omega) (by omega) (by omega) (by omega)]; omega)]
    by_cases q : all ≤ 0
    · refine ⟨F1, -1, ?_, hF, Or.inl ⟨rfl, Or.inl q⟩⟩
      rw [if_pos (by rw [jI_le (by omega) (by omega) (by omega) (by omega)]; omega)]
      rfl
    · have e150 := hF 150 (by omega)
      obtain ⟨F2, z1, z2⟩ := M_layWays x F1 G (c := c) (Z := Z) (Y := Y) (L := L) (held := k) (to := p) (by rw [e150]; exact h) (by omega) (by omega) (by omega) (by omega)
      have lr := lT_r (ok := okL c Z Y (c 0) k p) h.2.2.2.1 (n := 128) (by omega) (by omega)
      have h' : ∀ b, ¬ b = 165 → F2 b = F b := fun b hb => (z2 b hb).trans (hF b hb)
      rw [if_neg (by rw [jI_le (by omega) (by omega) (by omega) (by omega)]; omega), z1, b_I]
      by_cases q2 : lT (okL c Z Y (c 0) k p) L 128 = all
      · refine ⟨F2, p, ?_, h', Or.inr ⟨Int.le_refl _, p1, by omega, q2, fun j j0 j1 => by omega⟩⟩
        rw [if_pos (by rw [q2])]
      · rw [if_neg (by rw [jI_eq (by omega) (by omega) (by omega) (by omega)]; omega), lit_1, jI_add]
        obtain ⟨F3, v, y1, y2, y3⟩ := ih F2 h'
        refine ⟨F3, v, y1, y2, ?_⟩
        rcases y3 with ⟨w1, w2⟩ | ⟨w1, w2, w3, w4, w5⟩
        · refine Or.inl ⟨w1, ?_⟩
          rcases w2 with w2 | w2
          · exact Or.inl w2
          · right
            intro j j0 j1
            by_cases e : j = p
            · rw [e]; exact q2
            · exact w2 j (by omega) j1
        · refine Or.inr ⟨by omega, w2, w3, w4, ?_⟩
          intro j j0 j1
          by_cases e : j = p
          · rw [e]; exact q2
          · exact w5 j (by omega) j1
theorem ok_lives (hR : Rel F) {k : Int} (hk : rg k) : Ok x F G k_G_lives k_M_lives [.int (jI k)] := by
  have hk' := hk
  unfold rg at hk'
  have hi : WI (F 2) := RS_WI hR.1
  have hc := WI_c hi
  have hv := Rel_V hR
  obtain ⟨s1, s2, s3, s4, s5⟩ := hR.2.2.1.2.2.2.2.1
  replace s1 : F 150 6 = F 43 1 := s1
  replace s3 : 0 ≤ F 43 1 := s3
  replace s4 : F 43 1 ≤ 6 := s4
  replace s5 : ∀ i, 0 ≤ i → i < F 43 1 → F 44 i = F 150 (140 + 2 * i) ∧ F 46 i = F 150 (140 + 2 * i + 1) ∧ 1 ≤ F 150 (140 + 2 * i) ∧ F 150 (140 + 2 * i) ≤ 9 ∧ 0 ≤ F 150 (140 + 2 * i + 1) ∧ F 150 (140 + 2 * i + 1) ≤ 8 := s5
  obtain ⟨L, eL⟩ : ∃ L : Nat, F 43 1 = (L : Int) := ⟨(F 43 1).toNat, by omega⟩
  have hC : CH F L := by
    refine ⟨eL, by omega, ?_⟩
    intro j hj
    have := s5 j (by omega) (by omega)
    omega
  have hM : CM (F 150) (F 2) (F 44) (F 46) L := by
    refine ⟨hv, hi, by omega, by omega, ?_⟩
    intro j hj
    have := s5 j (by omega) (by omega)
    omega
  have i6 : ∀ F1 : Nat → Fn, F1 150 = F 150 → m_ia x (mk F1 G) 150 (jI 6) = some (jI (L : Int)) := by
    intro F1 h
    rw [ia_150 x F1 G (by omega) (by omega), h, s1, eL]
  have ft : m_fR (mk F G) 7 3 36 = some 43 := fR_T_3 F G (w := 36) (by omega)
  have f43 : m_fI (mk F G) 4 1 43 = some (jI (L : Int)) := by rw [← eL]; exact fI_R_1 F G (w := 43) (by omega)
  obtain ⟨F1, c1, c2⟩ := C_waysOf x F G (L := L) (held := -1) (to := -1) hi hC (by omega) (by omega) (by omega) (by omega) (Or.inl rfl)
  have lr := lT_r (ok := okL (F 2) (F 44) (F 46) (F 2 0) (-1) (-1)) hC.2.1 (n := 128) (by omega) (by omega)
  generalize hall : lT (okL (F 2) (F 44) (F 46) (F 2 0) (-1) (-1)) L 128 = all at *
  have relk : ∀ F2 F3 : Nat → Fn, (∀ b, ¬ b = 146 → F2 b = F b) → (∀ b, ¬ b = 165 → F3 b = F2 b) → Rel F3 := by
    intro F2 F3 h2 h3
    refine Rel_ag hR ?_
    intro b hb
    rw [h3 b (by omega), h2 b (by omega)]
  by_cases q : k = -1
  · have e150 := c2 150 (by omega)
    obtain ⟨F2, m1, m2⟩ := M_layWays x F1 G (c := F 2) (Z := F 44) (Y := F 46) (L := L) (held := -1) (to := -1) (by rw [e150]; exact hM) (by omega) (by omega) (by omega) (by omega)
    rw [hall] at m1
    have cs : m_M x k_G_lives [.ref 0, .int (jI k)] (mk F G) = some (some (.int (jI all)), mk F1 G) := by
      rw [E_G_lives, isO_0, if_pos rfl, show (-1 : Int32) = jI (-1) from rfl, if_pos (by rw [q]), fR_0_12, Option.bind_some, fR_0_0, Option.bind_some, fR_0_2, Option.bind_some, c1, b_I]
    have ms : m_M x k_M_lives [.ref 149, .int (jI k)] (mk F1 G) = some (some (.int (jI all)), mk F2 G) := by
      rw [E_M_lives, isO_149, if_pos rfl, fR_149_0, Option.bind_some, lit_6, i6 F1 e150, Option.bind_some, show (-1 : Int32) = jI (-1) from rfl, lit_1, jI_sub, M_isIn x F1 G hk (by unfold rg; omega) (by unfold rg; omega), if_pos (by omega), b_I, if_neg (by decide), m1, b_I, if_pos (by rw [q])]
    exact ⟨_, _, _, _, cs, ms, relk F1 F2 c2 m2⟩
  · by_cases q2 : 0 ≤ k ∧ k ≤ (L : Int) - 1
    · obtain ⟨F2, v, d1, d2, d3⟩ := C_sureL x F1 G (L := L) (k := k) (all := all) (by rw [c2 2 (by omega)]; exact hi) (by unfold CH; rw [c2 43 (by omega), c2 44 (by omega), c2 46 (by omega)]; exact hC) q2.1 (by have := hC.2.1; omega) lr.1 (by omega) 0 (by omega) (by rw [c2 2 (by omega)]; omega) F1 (fun _ _ => rfl)
      rw [c2 2 (by omega), c2 44 (by omega), c2 46 (by omega)] at d3
      have h2 : ∀ b, ¬ b = 146 → F2 b = F b := fun b hb => (d2 b hb).trans (c2 b hb)
      have e150 := h2 150 (by omega)
      obtain ⟨F3, m1, m2⟩ := M_layWays x F2 G (c := F 2) (Z := F 44) (Y := F 46) (L := L) (held := -1) (to := -1) (by rw [e150]; exact hM) (by omega) (by omega) (by omega) (by omega)
      rw [hall] at m1
      obtain ⟨F4, w, n1, n2, n3⟩ := M_livesL x F3 G (c := F 2) (Z := F 44) (Y := F 46) (L := L) (k := k) (all := all) (by rw [m2 150 (by omega), e150]; exact hM) q2.1 (by have := hC.2.1; omega) lr.1 (by omega) 0 (by omega) (by omega) F3 (fun _ _ => rfl)
      have evw : v = w := by
        rcases d3 with ⟨x1, x2⟩ | ⟨x1, x2, x3, x4, x5⟩
        · rcases n3 with ⟨y1, y2⟩ | ⟨y1, y2, y3, y4, y5⟩
          · omega
          · rcases x2 with x2 | x2
            · omega
            · exact absurd y4 (x2 w y1 y2)
        · rcases n3 with ⟨y1, y2⟩ | ⟨y1, y2, y3, y4, y5⟩
          · rcases y2 with y2 | y2
            · omega
            · exact absurd x4 (y2 v x1 x2)
          · by_cases z : v < w
            · exact absurd x4 (y5 v x1 z)
            · by_cases z2 : w < v
              · exact absurd y4 (x5 w y1 z2)
              · omega
      have cs : m_M x k_G_lives [.ref 0, .int (jI k)] (mk F G) = some (some (.int (jI v)), mk F2 G) := by
        rw [E_G_lives, isO_0, if_pos rfl, show (-1 : Int32) = jI (-1) from rfl, if_neg (by rw [jI_eq (by omega) (by omega) (by omega) (by omega)]; omega), fR_0_2, Option.bind_some, ft, Option.bind_some, f43, Option.bind_some, lit_0, lit_1, jI_sub, C_isIn x F G hk (by unfold rg; omega) (by unfold rg; omega), if_pos q2, b_I, if_neg (by decide), fR_0_12, Option.bind_some, fR_0_0, Option.bind_some, fR_0_2, Option.bind_some, E_Puzzles_sureOwner, isO_144, if_pos rfl, show (-1 : Int32) = jI (-1) from rfl, c1, b_I, lit_0, d1, b_I]
      have ms : m_M x k_M_lives [.ref 149, .int (jI k)] (mk F2 G) = some (some (.int (jI v)), mk F4 G) := by
        rw [E_M_lives, isO_149, if_pos rfl, fR_149_0, Option.bind_some, lit_6, i6 F2 e150, Option.bind_some, show (-1 : Int32) = jI (-1) from rfl, lit_1, jI_sub, M_isIn x F2 G hk (by unfold rg; omega) (by unfold rg; omega), if_pos (by omega), b_I, if_neg (by decide), m1, b_I, if_neg (by rw [jI_eq (by omega) (by omega) (by omega) (by omega)]; omega), lit_0, n1, evw]
      exact ⟨_, _, _, _, cs, ms, relk F2 F4 h2 (fun b hb => (n2 b hb).trans (m2 b hb))⟩
    · refine Ok_pure (v := jI (-2)) hR ?_ ?_
      · rw [E_G_lives, isO_0, if_pos rfl, show (-1 : Int32) = jI (-1) from rfl, if_neg (by rw [jI_eq (by omega) (by omega) (by omega) (by omega)]; omega), fR_0_2, Option.bind_some, ft, Option.bind_some, f43, Option.bind_some, lit_0, lit_1, jI_sub, C_isIn x F G hk (by unfold rg; omega) (by unfold rg; omega), if_neg q2, b_I, if_pos (by decide)]
        rfl
      · rw [E_M_lives, isO_149, if_pos rfl, fR_149_0, Option.bind_some, lit_6, i6 F rfl, Option.bind_some, show (-1 : Int32) = jI (-1) from rfl, lit_1, jI_sub, M_isIn x F G hk (by unfold rg; omega) (by unfold rg; omega), if_neg (by omega), b_I, if_pos (by decide)]
        rfl
end
