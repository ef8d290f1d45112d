-- frosts by odds
def fr (c d : Int) : Nat → Fn × Fn
  | 0 => (fun _ => 0, fun i => if i = 0 then 1 else 0)
  | t + 1 => (fun i => if i = 0 then 0 else (fr c d t).1 (i - 1) * c + (fr c d t).2 (i - 1) * d, fun i => (fr c d t).1 i * (10 - c) + (fr c d t).2 i * (10 - d))
theorem fr_1 (c d : Int) (t : Nat) (i : Int) : (fr c d (t + 1)).1 i = if i = 0 then 0 else (fr c d t).1 (i - 1) * c + (fr c d t).2 (i - 1) * d := rfl
theorem fr_2 (c d : Int) (t : Nat) (i : Int) : (fr c d (t + 1)).2 i = (fr c d t).1 i * (10 - c) + (fr c d t).2 i * (10 - d) := rfl
theorem fr_nn {c d : Int} (c0 : 0 ≤ c) (c1 : c ≤ 10) (d0 : 0 ≤ d) (d1 : d ≤ 10) : ∀ (t : Nat) (i : Int), 0 ≤ (fr c d t).1 i ∧ 0 ≤ (fr c d t).2 i := by
  intro t
  induction t with
  | zero =>
    intro i
    show 0 ≤ (0 : Int) ∧ 0 ≤ (if i = 0 then (1 : Int) else 0)
    split <;> omega
  | succ t ih =>
    intro i
    rw [fr_1, fr_2]
    have a := ih i
    have b := ih (i - 1)
    refine ⟨?_, ?_⟩
    · split
      · omega
      · have := Int.mul_nonneg b.1 c0
        have := Int.mul_nonneg b.2 d0
        omega
    · have := Int.mul_nonneg a.1 (show 0 ≤ 10 - c by omega)
      have := Int.mul_nonneg a.2 (show 0 ≤ 10 - d by omega)
      omega
theorem fr_sum (c d : Int) (t : Nat) : ∀ n : Nat, sm (fun i => (fr c d (t + 1)).1 i + (fr c d (t + 1)).2 i) ((n : Int) + 1) + ((fr c d t).1 n * c + (fr c d t).2 n * d) = 10 * sm (fun i => (fr c d t).1 i + (fr c d t).2 i) ((n : Int) + 1) := by
  intro n
  induction n with
  | zero =>
    rw [sm_s _ (by omega), sm_s _ (by omega)]
    show sm _ 0 + _ + _ = 10 * (sm _ 0 + _)
    rw [sm_0, sm_0, fr_1, fr_2]
    rw [if_pos (by omega), Int.mul_sub, Int.mul_sub]
    omega
  | succ n ih =>
    have e : ((n + 1 : Nat) : Int) = (n : Int) + 1 := by omega
    rw [e, sm_s _ (by omega), sm_s (fun i => (fr c d t).1 i + (fr c d t).2 i) (by omega), Int.mul_add, ← ih]
    rw [fr_1, fr_2, if_neg (by omega), Int.mul_sub, Int.mul_sub]
    have e2 : (n : Int) + 1 - 1 = n := by omega
    rw [e2]
    omega
theorem fr_bd {c d : Int} (c0 : 0 ≤ c) (c1 : c ≤ 10) (d0 : 0 ≤ d) (d1 : d ≤ 10) : ∀ (t n : Nat), sm (fun i => (fr c d t).1 i + (fr c d t).2 i) ((n : Int) + 1) ≤ ((10 ^ t : Nat) : Int) := by
  intro t
  induction t with
  | zero =>
    intro n
    induction n with
    | zero =>
      rw [sm_s _ (by omega)]
      show sm _ 0 + ((0 : Int) + (if (((0 : Nat) : Int)) = 0 then (1 : Int) else 0)) ≤ 1
      rw [sm_0, if_pos (by omega)]
      omega
    | succ n ih =>
      have e : ((n + 1 : Nat) : Int) = (n : Int) + 1 := by omega
      rw [e, sm_s _ (by omega)]
      have z : (fr c d 0).1 ((n : Int) + 1) + (fr c d 0).2 ((n : Int) + 1) = 0 := by
        show (0 : Int) + (if (n : Int) + 1 = 0 then (1 : Int) else 0) = 0
        rw [if_neg (by omega)]
        rfl
      omega
  | succ t ih =>
    intro n
    have s := fr_sum c d t n
    have i := ih n
    have a := fr_nn c0 c1 d0 d1 t n
    have := Int.mul_nonneg a.1 c0
    have := Int.mul_nonneg a.2 d0
    rw [Nat.pow_succ]
    omega
theorem fr_r {c d : Int} (c0 : 0 ≤ c) (c1 : c ≤ 10) (d0 : 0 ≤ d) (d1 : d ≤ 10) {t : Nat} (ht : t ≤ 8) {i : Int} (i0 : 0 ≤ i) : 0 ≤ (fr c d t).1 i + (fr c d t).2 i ∧ (fr c d t).1 i + (fr c d t).2 i ≤ 100000000 := by
  have a := fr_nn c0 c1 d0 d1 t i
  have b := fr_bd c0 c1 d0 d1 t i.toNat
  have e : ((i.toNat : Nat) : Int) = i := by omega
  rw [e, sm_s _ i0] at b
  have s := sm_le (f := fun i => (fr c d t).1 i + (fr c d t).2 i) (a := 0) (b := 0 + sm (fun i => (fr c d t).1 i + (fr c d t).2 i) i) (n := 0) (by omega) (fun j j0 j1 => by omega)
  have nn : ∀ n, 0 ≤ n → n ≤ i → 0 ≤ sm (fun i => (fr c d t).1 i + (fr c d t).2 i) n := by
    apply up
    · rw [sm_0]
      omega
    · intro n n0 n1 ih
      rw [sm_s _ n0]
      have := fr_nn c0 c1 d0 d1 t n
      omega
  have := nn i i0 (Int.le_refl _)
  have l : 10 ^ t ≤ 10 ^ 8 := Nat.pow_le_pow_right (by omega) ht
  omega
section
variable (x : m_X) (F G : Nat → Fn)
def ag78 (F F1 : Nat → Fn) : Prop := ∀ b, ¬ b = 147 → ¬ b = 148 → F1 b = F b
theorem C_odds57 {c d n k : Int} {t : Nat} {A : Int} : ∀ i : Nat, i ≤ 9 → ∀ F1 : Nat → Fn, (∀ j : Int, 0 ≤ j → j < (i : Int) → F1 147 j = (fr c d t).1 j ∧ F1 148 j = (fr c d t).2 j) → (∀ j : Int, (i : Int) ≤ j → j < 9 → F1 147 j = (fr c d (t + 1)).1 j ∧ F1 148 j = (fr c d (t + 1)).2 j) → ag78 F F1 → ∀ d8, m_nl d8 = true → ∃ (F2 : Nat → Fn) (e7 e8 : Option Value), m_nl e7 = true ∧ m_nl e8 = true ∧ m_D x 4 k_Puzzles_oddsOfFrosts 57 [some (.ref 144), some (.int (jI c)), some (.int (jI d)), some (.int (jI n)), some (.int (jI k)), some (.int (jI A)), some (.int (jI (t : Int))), some (.int (jI ((i : Int) - 1))), d8] [] (mk F1 G) = m_D x 4 k_Puzzles_oddsOfFrosts 47 [some (.ref 144), some (.int (jI c)), some (.int (jI d)), some (.int (jI n)), some (.int (jI k)), some (.int (jI (A * 10))), some (.int (jI ((t + 1 : Nat) : Int))), e7, e8] [] (mk F2 G) ∧ (∀ j, 0 ≤ j → j < 9 → F2 147 j = (fr c d (t + 1)).1 j ∧ F2 148 j = (fr c d (t + 1)).2 j) ∧ ag78 F F2 := by
  intro i
  induction i with
  | zero =>
    intro _ F1 h1 h2 h3 d8 n8
    refine ⟨F1, some (.int (jI (-1))), d8, rfl, n8, ?_, fun j j0 j1 => h2 j j0 j1, h3⟩
    have e : ((0 : Nat) : Int) - 1 = -1 := by omega
    have e2 : ((t + 1 : Nat) : Int) = (t : Int) + 1 := by omega
    rw [e, e2, E_Puzzles_oddsOfFrosts_57 x 4 (by omega) _ _ _ _ _ _ _ _ _ _ n8, lit_0, if_pos (by rw [jI_lt (by omega) (by omega) (by omega) (by omega)]; omega), lit_10, jI_mul, lit_1, jI_add]
  | succ i ih =>
    intro hi F1 h1 h2 h3 d8 n8
    have e : ((i + 1 : Nat) : Int) - 1 = (i : Int) := by omega
    have o1 := h1 i (by omega) (by omega)
    rw [e, E_Puzzles_oddsOfFrosts_57 x 4 (by omega) _ _ _ _ _ _ _ _ _ _ n8, lit_0, if_neg (by rw [jI_lt (by omega) (by omega) (by omega) (by omega)]; omega), fR_144_5, Option.bind_some, ia_147 x F1 G (by omega) (by omega), Option.bind_some, fR_144_6, Option.bind_some, ia_148 x F1 G (by omega) (by omega), Option.bind_some, Option.bind_some, o1.1, o1.2, lit_10, show (-1 : Int32) = jI (-1) from rfl, lit_1]
    have go : ∀ v, v = (fr c d (t + 1)).1 i → ∃ (F2 : Nat → Fn) (e7 e8 : Option Value), m_nl e7 = true ∧ m_nl e8 = true ∧ ((m_is (mk F1 G) 147 (jI (i : Int)) (jI v)).bind fun s127 => (m_fR s127 2 6 144).bind fun v129 => (m_is s127 v129 (jI (i : Int)) ((jI ((fr c d t).1 (i : Int)) * (jI 10 - jI c)) + (jI ((fr c d t).2 (i : Int)) * (jI 10 - jI d)))).bind fun s136 => m_D x 4 k_Puzzles_oddsOfFrosts 57 [some (.ref 144), some (.int (jI c)), some (.int (jI d)), some (.int (jI n)), some (.int (jI k)), some (.int (jI A)), some (.int (jI (t : Int))), some (.int (jI (i : Int) + jI (-1))), some (.int ((jI ((fr c d t).1 (i : Int)) * (jI 10 - jI c)) + (jI ((fr c d t).2 (i : Int)) * (jI 10 - jI d))))] [] s136) = m_D x 4 k_Puzzles_oddsOfFrosts 47 [some (.ref 144), some (.int (jI c)), some (.int (jI d)), some (.int (jI n)), some (.int (jI k)), some (.int (jI (A * 10))), some (.int (jI ((t + 1 : Nat) : Int))), e7, e8] [] (mk F2 G) ∧ (∀ j, 0 ≤ j → j < 9 → F2 147 j = (fr c d (t + 1)).1 j ∧ F2 148 j = (fr c d (t + 1)).2 j) ∧ ag78 F F2 := by
      intro v hv
      rw [is_147 _ _ _ (by omega) (by omega), Option.bind_some, fR_144_6, Option.bind_some, jI_sub, jI_sub, jI_mul, jI_mul, jI_add, ← fr_2, is_148 _ _ _ (by omega) (by omega), Option.bind_some, jI_add]
      refine ih (by omega) _ ?_ ?_ ?_ _ rfl
      · intro j j0 j1
        rw [sA_ne (b := 147) _ _ (by omega), sA_eq, sA_eq, sA_ne (b := 148) _ _ (by omega), u_ne _ _ (by omega), u_ne _ _ (by omega)]
        exact h1 j j0 (by omega)
      · intro j j0 j1
        rw [sA_ne (b := 147) _ _ (by omega), sA_eq, sA_eq, sA_ne (b := 148) _ _ (by omega)]
        by_cases q : j = i
        · rw [q, u_eq, u_eq]
          exact ⟨hv, rfl⟩
        · rw [u_ne _ _ q, u_ne _ _ q]
          exact h2 j (by omega) j1
      · intro b b1 b2
        rw [sA_ne _ _ b2, sA_ne _ _ b1]
        exact h3 b b1 b2
    by_cases q : i = 0
    · rw [if_pos (by rw [q]; rfl)]
      refine go 0 ?_
      rw [fr_1, if_pos (by omega)]
    · have o2 := h1 ((i : Int) - 1) (by omega) (by omega)
      rw [if_neg (by rw [jI_eq (by omega) (by omega) (by omega) (by omega)]; omega), jI_sub, Option.bind_some, ia_147 x F1 G (by omega) (by omega), Option.bind_some, Option.bind_some, ia_148 x F1 G (by omega) (by omega), Option.bind_some, o2.1, o2.2, jI_mul, jI_mul, jI_add]
      refine go _ ?_
      rw [fr_1, if_neg (by omega)]
theorem C_odds47 {c d n k : Int} (c0 : 0 ≤ c) (c1 : c ≤ 10) (d0 : 0 ≤ d) (d1 : d ≤ 10) (n1 : n ≤ 8) (k0 : 0 ≤ k) (k1 : k ≤ n) : ∀ r t : Nat, (t : Int) + r = n → ∀ F1 : Nat → Fn, (∀ j, 0 ≤ j → j < 9 → F1 147 j = (fr c d t).1 j ∧ F1 148 j = (fr c d t).2 j) → ag78 F F1 → ∀ d7 d8, m_nl d7 = true → m_nl d8 = true → ∃ F2 : Nat → Fn, m_D x 4 k_Puzzles_oddsOfFrosts 47 [some (.ref 144), some (.int (jI c)), some (.int (jI d)), some (.int (jI n)), some (.int (jI k)), some (.int (jI ((10 ^ t : Nat) : Int))), some (.int (jI (t : Int))), d7, d8] [] (mk F1 G) = some (none, mk F2 G) ∧ (∀ b, ¬ b = 144 → ¬ b = 147 → ¬ b = 148 → F2 b = F b) ∧ F2 144 1 = ((fr c d n.toNat).1 k + (fr c d n.toNat).2 k) / (Int.gcd ((fr c d n.toNat).1 k + (fr c d n.toNat).2 k) ((10 ^ n.toNat : Nat) : Int) : Int) ∧ F2 144 2 = ((10 ^ n.toNat : Nat) : Int) / (Int.gcd ((fr c d n.toNat).1 k + (fr c d n.toNat).2 k) ((10 ^ n.toNat : Nat) : Int) : Int) := by
  intro r
  induction r with
  | zero =>
    intro t ht F1 h1 h2 d7 d8 n7 n8
    have et : n.toNat = t := by omega
    have et2 : (t : Int) = n := by omega
    have o := h1 k k0 (by omega)
    have b := fr_r c0 c1 d0 d1 (t := t) (by omega) k0
    have l : 10 ^ t ≤ 10 ^ 8 := Nat.pow_le_pow_right (by omega) (by omega)
    have l1 : 0 < 10 ^ t := Nat.pow_pos (by omega)
    rw [E_Puzzles_oddsOfFrosts_47 x 4 (by omega) _ _ _ _ _ _ _ _ _ _ n7 n8, et2, if_pos (Int32.le_refl _), lit_0, if_neg (by rw [jI_lt (by omega) (by omega) (by omega) (by omega)]; omega), lit_8, if_neg (by rw [jI_lt (by omega) (by omega) (by omega) (by omega)]; omega), fR_144_5, Option.bind_some, ia_147 x F1 G (by omega) (by omega), Option.bind_some, fR_144_6, Option.bind_some, ia_148 x F1 G (by omega) (by omega), Option.bind_some, jI_add, o.1, o.2, C_lowest x F1 G b.1 (by omega) (by omega) (by omega), b_V, et]
    refine ⟨_, rfl, ?_, ?_, ?_⟩
    · intro z z1 z2 z3
      rw [sA_ne _ _ z1]
      exact h2 z z2 z3
    · rw [sA_eq, u_ne _ _ (by omega), u_eq]
    · rw [sA_eq, u_eq]
  | succ r ih =>
    intro t ht F1 h1 h2 d7 d8 n7 n8
    obtain ⟨F2, e7, e8, y7, y8, y1, y2, y3⟩ := C_odds57 x F G (c := c) (d := d) (n := n) (k := k) (t := t) (A := ((10 ^ t : Nat) : Int)) 9 (by omega) F1 h1 (fun j j0 j1 => by omega) h2 d8 n8
    rw [E_Puzzles_oddsOfFrosts_47 x 4 (by omega) _ _ _ _ _ _ _ _ _ _ n7 n8, if_neg (by rw [jI_le (by omega) (by omega) (by omega) (by omega)]; omega)]
    have e10 : ((10 ^ t : Nat) : Int) * 10 = ((10 ^ (t + 1) : Nat) : Int) := by rw [Nat.pow_succ]; omega
    rw [e10] at y1
    replace y1 : m_D x 4 k_Puzzles_oddsOfFrosts 57 [some (.ref 144), some (.int (jI c)), some (.int (jI d)), some (.int (jI n)), some (.int (jI k)), some (.int (jI ((10 ^ t : Nat) : Int))), some (.int (jI (t : Int))), some (.int 8), d8] [] (mk F1 G) = _ := y1
    rw [y1]
    exact ih (t + 1) (by omega) F2 y2 y3 _ _ y7 y8
theorem C_odds {c d n k : Int} (c0 : 0 ≤ c) (c1 : c ≤ 10) (d0 : 0 ≤ d) (d1 : d ≤ 10) (n0 : 0 ≤ n) (n1 : n ≤ 8) (k0 : 0 ≤ k) (k1 : k ≤ n) : ∃ F2 : Nat → Fn, m_M x k_Puzzles_oddsOfFrosts [.ref 144, .int (jI c), .int (jI d), .int (jI n), .int (jI k)] (mk F G) = some (none, mk F2 G) ∧ (∀ b, ¬ b = 144 → ¬ b = 147 → ¬ b = 148 → F2 b = F b) ∧ F2 144 1 = ((fr c d n.toNat).1 k + (fr c d n.toNat).2 k) / (Int.gcd ((fr c d n.toNat).1 k + (fr c d n.toNat).2 k) ((10 ^ n.toNat : Nat) : Int) : Int) ∧ F2 144 2 = ((10 ^ n.toNat : Nat) : Int) / (Int.gcd ((fr c d n.toNat).1 k + (fr c d n.toNat).2 k) ((10 ^ n.toNat : Nat) : Int) : Int) := by
  have key : ∀ i, 0 ≤ i → i ≤ 9 → ∀ F1 : Nat → Fn, (∀ j : Int, 0 ≤ j → j < (i : Int) → F1 147 j = 0 ∧ F1 148 j = if j = 0 then 1 else 0) → ag78 F F1 → ∃ F2 : Nat → Fn, m_D x 4 k_Puzzles_oddsOfFrosts 3 [some (.ref 144), some (.int (jI c)), some (.int (jI d)), some (.int (jI n)), some (.int (jI k)), some (.int (jI i)), none, none, none] [] (mk F1 G) = m_D x 4 k_Puzzles_oddsOfFrosts 47 [some (.ref 144), some (.int (jI c)), some (.int (jI d)), some (.int (jI n)), some (.int (jI k)), some (.int (jI 1)), some (.int (jI 0)), none, none] [] (mk F2 G) ∧ (∀ j, 0 ≤ j → j < 9 → F2 147 j = 0 ∧ F2 148 j = if j = 0 then 1 else 0) ∧ ag78 F F2 := by
    apply down
    · intro F1 h1 h2
      refine ⟨F1, ?_, h1, h2⟩
      rw [E_Puzzles_oddsOfFrosts_3 x 4 (by omega), lit_8, if_pos (by rw [jI_lt (by omega) (by omega) (by omega) (by omega)]; omega), lit_1, lit_0]
    · intro i i0 i1 ih F1 h1 h2
      rw [E_Puzzles_oddsOfFrosts_3 x 4 (by omega), lit_8, if_neg (by rw [jI_lt (by omega) (by omega) (by omega) (by omega)]; omega), fR_144_5, Option.bind_some, lit_0, is_147 _ _ _ i0 (by omega), Option.bind_some, fR_144_6, Option.bind_some, lit_1, jI_add]
      have go : ∀ v, v = (if i = 0 then 1 else 0) → ∃ F2 : Nat → Fn, ((m_is (mk (sA F1 147 (u (F1 147) i 0)) G) 148 (jI i) (jI v)).bind fun s34 => m_D x 4 k_Puzzles_oddsOfFrosts 3 [some (.ref 144), some (.int (jI c)), some (.int (jI d)), some (.int (jI n)), some (.int (jI k)), some (.int (jI (i + 1))), none, none, none] [] s34) = m_D x 4 k_Puzzles_oddsOfFrosts 47 [some (.ref 144), some (.int (jI c)), some (.int (jI d)), some (.int (jI n)), some (.int (jI k)), some (.int (jI 1)), some (.int (jI 0)), none, none] [] (mk F2 G) ∧ (∀ j, 0 ≤ j → j < 9 → F2 147 j = 0 ∧ F2 148 j = if j = 0 then 1 else 0) ∧ ag78 F F2 := by
        intro v hv
        rw [is_148 _ _ _ i0 (by omega), Option.bind_some]
        refine ih _ ?_ ?_
        · intro j j0 j1
          rw [sA_ne (b := 147) _ _ (by omega), sA_eq, sA_eq, sA_ne (b := 148) _ _ (by omega)]
          by_cases q : j = i
          · rw [q, u_eq, u_eq]
            exact ⟨rfl, hv⟩
          · rw [u_ne _ _ q, u_ne _ _ q]
            exact h1 j j0 (by omega)
        · intro b b1 b2
          rw [sA_ne _ _ b2, sA_ne _ _ b1]
          exact h2 b b1 b2
      by_cases q : i = 0
      · rw [if_pos (by rw [q])]
        exact go 1 (by rw [if_pos q])
      · rw [if_neg (by rw [jI_eq (by omega) (by omega) (by omega) (by omega)]; omega)]
        exact go 0 (by rw [if_neg q])
  obtain ⟨F1, r1, r2, r3⟩ := key 0 (by omega) (by omega) F (fun j _ _ => by omega) (fun _ _ _ => rfl)
  obtain ⟨F2, z1, z2, z3, z4⟩ := C_odds47 x F G (c := c) (d := d) (n := n) (k := k) c0 c1 d0 d1 n1 k0 k1 n.toNat 0 (by omega) F1 r2 r3 none none rfl rfl
  refine ⟨F2, ?_, z2, z3, z4⟩
  rw [E_Puzzles_oddsOfFrosts, isO_144, if_pos rfl, lit_0, r1]
  exact z1
end
