-- frosts: the model, and both alike
section
variable (x : m_X) (F G : Nat → Fn)
def dl (d : Option Value) : Prop := m_nl d = true ∨ ∃ z, d = some (.long z)
/-- one cell of one day -/
theorem M_fr98 {c d n k low A day i : Int} {dd : Option Value} (hd : dl dd) (c0 : 0 ≤ c) (c1 : c ≤ 10) (d0 : 0 ≤ d) (d1 : d ≤ 10) (i0 : 0 ≤ i) (i1 : i ≤ 8) : m_D x 2 k_M_frosts 98 [some (.ref 149), some (.int (jI c)), some (.int (jI d)), some (.int (jI n)), some (.int (jI k)), some (.int (jI low)), some (.long (jL A)), none, some (.int (jI day)), some (.int (jI i)), dd, none] [] (mk F G) = m_D x 2 k_M_frosts 98 [some (.ref 149), some (.int (jI c)), some (.int (jI d)), some (.int (jI n)), some (.int (jI k)), some (.int (jI low)), some (.long (jL A)), none, some (.int (jI day)), some (.int (jI (i - 1))), some (.long (jL (if i = 0 then 0 else G 167 (i - 1) * c + G 166 (i - 1) * d))), none] [] (mk F (sA (sA G 166 (u (G 166) i (G 167 i * (10 - c) + G 166 i * (10 - d)))) 167 (u (G 167) i (if i = 0 then 0 else G 167 (i - 1) * c + G 166 (i - 1) * d)))) := by
  have e1 : i + -1 = i - 1 := by omega
  have s137 : ∀ v : Int, m_D x 2 k_M_frosts 137 [some (.ref 149), some (.int (jI c)), some (.int (jI d)), some (.int (jI n)), some (.int (jI k)), some (.int (jI low)), some (.long (jL A)), none, some (.int (jI day)), some (.int (jI i)), dd, none] [.long (jL v)] (mk F G) = m_D x 2 k_M_frosts 98 [some (.ref 149), some (.int (jI c)), some (.int (jI d)), some (.int (jI n)), some (.int (jI k)), some (.int (jI low)), some (.long (jL A)), none, some (.int (jI day)), some (.int (jI (i - 1))), some (.long (jL v)), none] [] (mk F (sA (sA G 166 (u (G 166) i (G 167 i * (10 - c) + G 166 i * (10 - d)))) 167 (u (G 167) i v))) := by
    intro v
    have e2 : G 166 i * (10 - d) + G 167 i * (10 - c) = G 167 i * (10 - c) + G 166 i * (10 - d) := Int.add_comm _ _
    rcases hd with hd | ⟨z, hd⟩
    · rw [E_M_frosts_137 x 2 (by omega) _ _ _ _ _ _ _ _ _ _ _ _ hd, fR_149_34, Option.bind_some, Option.bind_some, la_166 F G i0 (by omega), Option.bind_some, fR_149_35, Option.bind_some, la_167 F G i0 (by omega), Option.bind_some, lit_10, jI_sub, jI_sub, jI_toL (by omega) (by omega), jI_toL (by omega) (by omega), jL_mul, jL_mul, jL_add, e2, lst_166 _ _ _ i0 (by omega), Option.bind_some, fR_149_35, Option.bind_some, lst_167 _ _ _ i0 (by omega), Option.bind_some, show (-1 : Int32) = jI (-1) from rfl, jI_add, e1, sA_ne (b := 167) _ _ (by omega)]
    · rw [hd, E_M_frosts_137L x 2 (by omega), fR_149_34, Option.bind_some, Option.bind_some, la_166 F G i0 (by omega), Option.bind_some, fR_149_35, Option.bind_some, la_167 F G i0 (by omega), Option.bind_some, lit_10, jI_sub, jI_sub, jI_toL (by omega) (by omega), jI_toL (by omega) (by omega), jL_mul, jL_mul, jL_add, e2, lst_166 _ _ _ i0 (by omega), Option.bind_some, fR_149_35, Option.bind_some, lst_167 _ _ _ i0 (by omega), Option.bind_some, show (-1 : Int32) = jI (-1) from rfl, jI_add, e1, sA_ne (b := 167) _ _ (by omega)]
  by_cases q : i = 0
  · have s := s137 0
    rw [if_pos q]
    rw [← s]
    rcases hd with hd | ⟨z, hd⟩
    · rw [E_M_frosts_98 x 2 (by omega) _ _ _ _ _ _ _ _ _ _ _ hd, lit_0, if_neg (by rw [jI_lt (by omega) (by omega) (by omega) (by omega)]; omega), if_pos (by rw [jI_eq (by omega) (by omega) (by omega) (by omega)]; omega), llt_0]
    · rw [hd, E_M_frosts_98L x 2 (by omega), lit_0, if_neg (by rw [jI_lt (by omega) (by omega) (by omega) (by omega)]; omega), if_pos (by rw [jI_eq (by omega) (by omega) (by omega) (by omega)]; omega), llt_0]
  · have s := s137 (G 167 (i - 1) * c + G 166 (i - 1) * d)
    have e2 : G 166 (i - 1) * d + G 167 (i - 1) * c = G 167 (i - 1) * c + G 166 (i - 1) * d := Int.add_comm _ _
    rw [if_neg q]
    rw [← s]
    rcases hd with hd | ⟨z, hd⟩
    · rw [E_M_frosts_98 x 2 (by omega) _ _ _ _ _ _ _ _ _ _ _ hd, lit_0, if_neg (by rw [jI_lt (by omega) (by omega) (by omega) (by omega)]; omega), if_neg (by rw [jI_eq (by omega) (by omega) (by omega) (by omega)]; omega), fR_149_34, Option.bind_some, lit_1, jI_sub, la_166 F G (by omega) (by omega), Option.bind_some, fR_149_35, Option.bind_some, la_167 F G (by omega) (by omega), Option.bind_some, jI_toL (by omega) (by omega), jI_toL (by omega) (by omega), jL_mul, jL_mul, jL_add, e2]
    · rw [hd, E_M_frosts_98L x 2 (by omega), lit_0, if_neg (by rw [jI_lt (by omega) (by omega) (by omega) (by omega)]; omega), if_neg (by rw [jI_eq (by omega) (by omega) (by omega) (by omega)]; omega), fR_149_34, Option.bind_some, lit_1, jI_sub, la_166 F G (by omega) (by omega), Option.bind_some, fR_149_35, Option.bind_some, la_167 F G (by omega) (by omega), Option.bind_some, jI_toL (by omega) (by omega), jI_toL (by omega) (by omega), jL_mul, jL_mul, jL_add, e2]
theorem M_frDay {c d n k low A : Int} {t : Nat} (c0 : 0 ≤ c) (c1 : c ≤ 10) (d0 : 0 ≤ d) (d1 : d ≤ 10) (n1 : n ≤ 8) : ∀ i : Nat, (i : Int) ≤ n + 1 → ∀ (G1 : Nat → Fn) (dd : Option Value), dl dd → (∀ j : Int, 0 ≤ j → j < (i : Int) → G1 167 j = (fr c d t).1 j ∧ G1 166 j = (fr c d t).2 j) → (∀ j : Int, (i : Int) ≤ j → j ≤ n → G1 167 j = (fr c d (t + 1)).1 j ∧ G1 166 j = (fr c d (t + 1)).2 j) → ∃ (G2 : Nat → Fn) (e9 e10 : Option Value), m_nl e9 = true ∧ dl e10 ∧ m_D x 2 k_M_frosts 98 [some (.ref 149), some (.int (jI c)), some (.int (jI d)), some (.int (jI n)), some (.int (jI k)), some (.int (jI low)), some (.long (jL A)), none, some (.int (jI (t : Int))), some (.int (jI ((i : Int) - 1))), dd, none] [] (mk F G1) = m_D x 2 k_M_frosts 89 [some (.ref 149), some (.int (jI c)), some (.int (jI d)), some (.int (jI n)), some (.int (jI k)), some (.int (jI low)), some (.long (jL (A * 10))), none, some (.int (jI ((t + 1 : Nat) : Int))), e9, e10, none] [] (mk F G2) ∧ (∀ j, 0 ≤ j → j ≤ n → G2 167 j = (fr c d (t + 1)).1 j ∧ G2 166 j = (fr c d (t + 1)).2 j) := by
  intro i
  induction i with
  | zero =>
    intro _ G1 dd hd h1 h2
    refine ⟨G1, some (.int (jI (-1))), dd, rfl, hd, ?_, fun j j0 j1 => h2 j j0 j1⟩
    have e : ((0 : Nat) : Int) - 1 = -1 := by omega
    have e2 : ((t + 1 : Nat) : Int) = (t : Int) + 1 := by omega
    rw [e, e2]
    rcases hd with hd | ⟨z, hd⟩
    · rw [E_M_frosts_98 x 2 (by omega) _ _ _ _ _ _ _ _ _ _ _ hd, lit_0, if_pos (by rw [jI_lt (by omega) (by omega) (by omega) (by omega)]; omega), show (10 : Int64) = jL 10 from by decide, jL_mul, lit_1, jI_add]
    · rw [hd, E_M_frosts_98L x 2 (by omega), lit_0, if_pos (by rw [jI_lt (by omega) (by omega) (by omega) (by omega)]; omega), show (10 : Int64) = jL 10 from by decide, jL_mul, lit_1, jI_add]
  | succ i ih =>
    intro hi G1 dd hd h1 h2
    have e : ((i + 1 : Nat) : Int) - 1 = (i : Int) := by omega
    have o1 := h1 i (by omega) (by omega)
    rw [e, M_fr98 x F G1 hd c0 c1 d0 d1 (by omega) (by omega)]
    refine ih (by omega) _ _ (Or.inr ⟨_, rfl⟩) ?_ ?_
    · intro j j0 j1
      rw [sA_eq, sA_ne (b := 166) _ _ (by omega), sA_eq, u_ne _ _ (by omega), u_ne _ _ (by omega)]
      exact h1 j j0 (by omega)
    · intro j j0 j1
      rw [sA_eq, sA_ne (b := 166) _ _ (by omega), sA_eq]
      by_cases q : j = i
      · rw [q, u_eq, u_eq, o1.1, o1.2, fr_1, fr_2]
        refine ⟨?_, rfl⟩
        by_cases q2 : (i : Int) = 0
        · rw [if_pos q2, if_pos q2]
        · have o2 := h1 ((i : Int) - 1) (by omega) (by omega)
          rw [if_neg q2, if_neg q2, o2.1, o2.2]
      · rw [u_ne _ _ q, u_ne _ _ q]
        exact h2 j (by omega) j1
theorem M_fr89 {c d n k low : Int} (c0 : 0 ≤ c) (c1 : c ≤ 10) (d0 : 0 ≤ d) (d1 : d ≤ 10) (n1 : n ≤ 8) (k0 : 0 ≤ k) (k1 : k ≤ n) (hl : rg low) : ∀ r t : Nat, (t : Int) + r = n → ∀ (G1 : Nat → Fn) (d9 dd : Option Value), m_nl d9 = true → dl dd → (∀ j, 0 ≤ j → j ≤ n → G1 167 j = (fr c d t).1 j ∧ G1 166 j = (fr c d t).2 j) → ∃ G2 : Nat → Fn, m_D x 2 k_M_frosts 89 [some (.ref 149), some (.int (jI c)), some (.int (jI d)), some (.int (jI n)), some (.int (jI k)), some (.int (jI low)), some (.long (jL ((10 ^ t : Nat) : Int))), none, some (.int (jI (t : Int))), d9, dd, none] [] (mk F G1) = some (some (.int (jI (if low = 0 then ((fr c d n.toNat).1 k + (fr c d n.toNat).2 k) / (Int.gcd ((fr c d n.toNat).1 k + (fr c d n.toNat).2 k) ((10 ^ n.toNat : Nat) : Int) : Int) else ((10 ^ n.toNat : Nat) : Int) / (Int.gcd ((fr c d n.toNat).1 k + (fr c d n.toNat).2 k) ((10 ^ n.toNat : Nat) : Int) : Int)))), mk F G2) := by
  unfold rg at hl
  intro r
  induction r with
  | zero =>
    intro t ht G1 d9 dd h9 hd h1
    have et : n.toNat = t := by omega
    have et2 : (t : Int) = n := by omega
    have o := h1 k k0 (by omega)
    have b := fr_r c0 c1 d0 d1 (t := t) (by omega) k0
    have l : 10 ^ t ≤ 10 ^ 8 := Nat.pow_le_pow_right (by omega) (by omega)
    have l1 : 0 < 10 ^ t := Nat.pow_pos (by omega)
    have hc : (fr c d t).2 k + (fr c d t).1 k = (fr c d t).1 k + (fr c d t).2 k := Int.add_comm _ _
    refine ⟨G1, ?_⟩
    have fin : ((if jI low = 0 then (m_bL (m_M x k_M_common [.long (jL (G1 166 k) + jL (G1 167 k)), .long (jL ((10 ^ t : Nat) : Int))] (mk F G1)) fun v235 s235 => if v235 = 0 then none else some (some (Value.int ((jL (G1 166 k) + jL (G1 167 k)) / v235).toInt32), s235)) else m_bL (m_M x k_M_common [.long (jL (G1 166 k) + jL (G1 167 k)), .long (jL ((10 ^ t : Nat) : Int))] (mk F G1)) fun v235 s235 => if v235 = 0 then none else some (some (Value.int (jL ((10 ^ t : Nat) : Int) / v235).toInt32), s235) : Option m_R)) = some (some (Value.int (jI (if low = 0 then ((fr c d n.toNat).1 k + (fr c d n.toNat).2 k) / (Int.gcd ((fr c d n.toNat).1 k + (fr c d n.toNat).2 k) ((10 ^ n.toNat : Nat) : Int) : Int) else ((10 ^ n.toNat : Nat) : Int) / (Int.gcd ((fr c d n.toNat).1 k + (fr c d n.toNat).2 k) ((10 ^ n.toNat : Nat) : Int) : Int)))), mk F G1) := by
      rw [et, jL_add, o.1, o.2, hc]
      generalize (fr c d t).1 k + (fr c d t).2 k = a at *
      generalize 10 ^ t = p at *
      rw [M_common x F G1 (by omega) (by omega), b_L]
      have g0 : 0 < Int.gcd a (p : Int) := Int.gcd_pos_of_ne_zero_right a (by omega)
      have g1 : Int.gcd a (p : Int) ≤ (p : Int).natAbs := Nat.le_of_dvd (by omega) (Int.gcd_dvd_natAbs_right a p)
      generalize Int.gcd a (p : Int) = g at *
      rw [b_L, lit_0, llt_0]
      by_cases q : low = 0
      · rw [if_pos (by rw [q]), if_pos q, if_neg (by rw [jL_eq (by omega) (by omega) (by omega) (by omega)]; omega), jL_div (by omega) (by omega) (by omega) (by omega), jL_toI, td b.1]
      · rw [if_neg (by rw [jI_eq (by omega) (by omega) (by omega) (by omega)]; omega), if_neg q, if_neg (by rw [jL_eq (by omega) (by omega) (by omega) (by omega)]; omega), jL_div (by omega) (by omega) (by omega) (by omega), jL_toI, td (by omega)]
    rcases hd with hd | ⟨z, hd⟩
    · rw [E_M_frosts_89 x 2 (by omega) _ _ _ _ _ _ _ _ _ _ _ h9 hd, et2, if_pos (Int32.le_refl _), fR_149_34, Option.bind_some, la_166 F G1 k0 (by omega), Option.bind_some, fR_149_35, Option.bind_some, la_167 F G1 k0 (by omega), Option.bind_some]
      exact fin
    · rw [hd, E_M_frosts_89L x 2 (by omega) _ _ _ _ _ _ _ _ _ _ _ h9, et2, if_pos (Int32.le_refl _), fR_149_34, Option.bind_some, la_166 F G1 k0 (by omega), Option.bind_some, fR_149_35, Option.bind_some, la_167 F G1 k0 (by omega), Option.bind_some]
      exact fin
  | succ r ih =>
    intro t ht G1 d9 dd h9 hd h1
    have en : ((n + 1).toNat : Int) - 1 = n := by omega
    obtain ⟨G2, e9, e10, y9, y10, y1, y2⟩ := M_frDay x F (c := c) (d := d) (n := n) (k := k) (low := low) (A := ((10 ^ t : Nat) : Int)) (t := t) c0 c1 d0 d1 n1 (n + 1).toNat (by omega) G1 dd hd (fun j j0 j1 => h1 j j0 (by omega)) (fun j j0 j1 => by omega)
    have e10' : ((10 ^ t : Nat) : Int) * 10 = ((10 ^ (t + 1) : Nat) : Int) := by rw [Nat.pow_succ]; omega
    rw [e10', en] at y1
    have z := ih (t + 1) (by omega) G2 e9 e10 y9 y10 y2
    rw [← y1] at z
    rcases hd with hd | ⟨w, hd⟩
    · rw [E_M_frosts_89 x 2 (by omega) _ _ _ _ _ _ _ _ _ _ _ h9 hd, if_neg (by rw [jI_le (by omega) (by omega) (by omega) (by omega)]; omega)]
      exact z
    · rw [hd] at z ⊢
      rw [E_M_frosts_89L x 2 (by omega) _ _ _ _ _ _ _ _ _ _ _ h9, if_neg (by rw [jI_le (by omega) (by omega) (by omega) (by omega)]; omega)]
      exact z
theorem M_fr45 {c d n k low : Int} : ∀ i, 0 ≤ i → i ≤ 10 → ∀ G1 : Nat → Fn, (∀ j : Int, 0 ≤ j → j < (i : Int) → G1 167 j = 0 ∧ G1 166 j = if j = 0 then 1 else 0) → ∃ G2 : Nat → Fn, m_D x 2 k_M_frosts 45 [some (.ref 149), some (.int (jI c)), some (.int (jI d)), some (.int (jI n)), some (.int (jI k)), some (.int (jI low)), some (.int (jI i)), none, none, none, none, none] [] (mk F G1) = m_D x 2 k_M_frosts 89 [some (.ref 149), some (.int (jI c)), some (.int (jI d)), some (.int (jI n)), some (.int (jI k)), some (.int (jI low)), some (.long (jL 1)), none, some (.int (jI 0)), none, none, none] [] (mk F G2) ∧ (∀ j, 0 ≤ j → j < 10 → G2 167 j = 0 ∧ G2 166 j = if j = 0 then 1 else 0) := by
  apply down
  · intro G1 h1
    refine ⟨G1, ?_, h1⟩
    rw [E_M_frosts_45 x 2 (by omega), lit_10, if_pos (Int32.le_refl _), llt_1, lit_0]
  · intro i i0 i1 ih G1 h1
    rw [E_M_frosts_45 x 2 (by omega), lit_10, if_neg (by rw [jI_le (by omega) (by omega) (by omega) (by omega)]; omega), fR_149_34, Option.bind_some, lit_0, llt_0, llt_1, lit_1, jI_add]
    have go : ∀ v, v = (if i = 0 then 1 else 0) → ∃ G2 : Nat → Fn, ((m_lst (mk F G1) 166 (jI i) (jL v)).bind fun s68 => (m_fR s68 11 35 149).bind fun v70 => (m_lst s68 v70 (jI i) (jL 0)).bind fun s76 => m_D x 2 k_M_frosts 45 [some (.ref 149), some (.int (jI c)), some (.int (jI d)), some (.int (jI n)), some (.int (jI k)), some (.int (jI low)), some (.int (jI (i + 1))), none, none, none, none, none] [] s76) = m_D x 2 k_M_frosts 89 [some (.ref 149), some (.int (jI c)), some (.int (jI d)), some (.int (jI n)), some (.int (jI k)), some (.int (jI low)), some (.long (jL 1)), none, some (.int (jI 0)), none, none, none] [] (mk F G2) ∧ (∀ j, 0 ≤ j → j < 10 → G2 167 j = 0 ∧ G2 166 j = if j = 0 then 1 else 0) := by
      intro v hv
      rw [lst_166 _ _ _ i0 i1, Option.bind_some, fR_149_35, Option.bind_some, lst_167 _ _ _ i0 i1, Option.bind_some]
      refine ih _ ?_
      intro j j0 j1
      rw [sA_eq, sA_ne (b := 166) _ _ (by omega), sA_eq, sA_ne (b := 167) _ _ (by omega)]
      by_cases q : j = i
      · rw [q, u_eq, u_eq]
        exact ⟨rfl, hv⟩
      · rw [u_ne _ _ q, u_ne _ _ q]
        exact h1 j j0 (by omega)
    by_cases q : i = 0
    · rw [if_pos (by rw [q])]
      exact go 1 (by rw [if_pos q])
    · rw [if_neg (by rw [jI_eq (by omega) (by omega) (by omega) (by omega)]; omega)]
      exact go 0 (by rw [if_neg q])
theorem ok_frosts (hR : Rel F) {c d n k low : Int} (hc : rg c) (hd : rg d) (hn : rg n) (hk : rg k) (hl : rg low) : Ok x F G k_G_frosts k_M_frosts [.int (jI c), .int (jI d), .int (jI n), .int (jI k), .int (jI low)] := by
  have hl' := hl
  unfold rg at hl'
  by_cases q1 : 0 ≤ c ∧ c ≤ 10
  · by_cases q2 : 0 ≤ d ∧ d ≤ 10
    · by_cases q3 : 1 ≤ n ∧ n ≤ 8
      · by_cases q4 : 0 ≤ k ∧ k ≤ n
        · obtain ⟨F2, c1, c2, c3, c4⟩ := C_odds x F G (c := c) (d := d) (n := n) (k := k) q1.1 q1.2 q2.1 q2.2 (by omega) q3.2 q4.1 q4.2
          obtain ⟨G1, r1, r2⟩ := M_fr45 x F2 (c := c) (d := d) (n := n) (k := k) (low := low) 0 (by omega) (by omega) G (fun j _ _ => by omega)
          obtain ⟨G2, z⟩ := M_fr89 x F2 (c := c) (d := d) (n := n) (k := k) (low := low) q1.1 q1.2 q2.1 q2.2 q3.2 q4.1 q4.2 hl n.toNat 0 (by omega) G1 none none rfl (Or.inl rfl) (fun j j0 j1 => r2 j j0 (by omega))
          rw [← c3, ← c4] at z
          have cs : m_M x k_G_frosts [.ref 0, .int (jI c), .int (jI d), .int (jI n), .int (jI k), .int (jI low)] (mk F G) = some (some (.int (jI (if low = 0 then F2 144 1 else F2 144 2))), mk F2 G) := by
            rw [E_G_frosts, isO_0, if_pos rfl, lit_0, lit_10, lit_1, lit_8, C_isIn x F G hc (by unfold rg; omega) (by unfold rg; omega), if_pos q1, b_I, if_neg (by decide), C_isIn x F G hd (by unfold rg; omega) (by unfold rg; omega), if_pos q2, b_I, if_neg (by decide), C_isIn x F G hn (by unfold rg; omega) (by unfold rg; omega), if_pos q3, b_I, if_neg (by decide), C_isIn x F G hk (by unfold rg; omega) hn, if_pos q4, b_I, if_neg (by decide), fR_0_12, Option.bind_some, c1, b_V]
            by_cases zl : low = 0
            · rw [if_pos (by rw [zl]), if_pos zl, fR_0_12, Option.bind_some, fI_144_1, Option.bind_some]
            · rw [if_neg (by rw [jI_eq (by omega) (by omega) (by omega) (by omega)]; omega), if_neg zl, fR_0_12, Option.bind_some, fI_144_2, Option.bind_some]
          have ms : m_M x k_M_frosts [.ref 149, .int (jI c), .int (jI d), .int (jI n), .int (jI k), .int (jI low)] (mk F2 G) = some (some (.int (jI (if low = 0 then F2 144 1 else F2 144 2))), mk F2 G2) := by
            rw [E_M_frosts, isO_149, if_pos rfl, lit_0, lit_10, lit_1, lit_8, M_isIn x F2 G hc (by unfold rg; omega) (by unfold rg; omega), if_pos q1, b_I, if_neg (by decide), M_isIn x F2 G hd (by unfold rg; omega) (by unfold rg; omega), if_pos q2, b_I, if_neg (by decide), M_isIn x F2 G hn (by unfold rg; omega) (by unfold rg; omega), if_pos q3, b_I, if_neg (by decide), M_isIn x F2 G hk (by unfold rg; omega) hn, if_pos q4, b_I, if_neg (by decide), r1]
            exact z
          refine ⟨_, _, _, _, cs, ms, ?_⟩
          refine Rel_ag hR ?_
          intro b hb
          exact c2 b (by omega) (by omega) (by omega)
        · refine Ok_pure (v := jI (-1)) hR ?_ ?_
          · rw [E_G_frosts, isO_0, if_pos rfl, lit_0, lit_10, lit_1, lit_8, C_isIn x F G hc (by unfold rg; omega) (by unfold rg; omega), if_pos q1, b_I, if_neg (by decide), C_isIn x F G hd (by unfold rg; omega) (by unfold rg; omega), if_pos q2, b_I, if_neg (by decide), C_isIn x F G hn (by unfold rg; omega) (by unfold rg; omega), if_pos q3, b_I, if_neg (by decide), C_isIn x F G hk (by unfold rg; omega) hn, if_neg q4, b_I, if_pos (by decide)]
            rfl
          · rw [E_M_frosts, isO_149, if_pos rfl, lit_0, lit_10, lit_1, lit_8, M_isIn x F G hc (by unfold rg; omega) (by unfold rg; omega), if_pos q1, b_I, if_neg (by decide), M_isIn x F G hd (by unfold rg; omega) (by unfold rg; omega), if_pos q2, b_I, if_neg (by decide), M_isIn x F G hn (by unfold rg; omega) (by unfold rg; omega), if_pos q3, b_I, if_neg (by decide), M_isIn x F G hk (by unfold rg; omega) hn, if_neg q4, b_I, if_pos (by decide)]
            rfl
      · refine Ok_pure (v := jI (-1)) hR ?_ ?_
        · rw [E_G_frosts, isO_0, if_pos rfl, lit_0, lit_10, lit_1, lit_8, C_isIn x F G hc (by unfold rg; omega) (by unfold rg; omega), if_pos q1, b_I, if_neg (by decide), C_isIn x F G hd (by unfold rg; omega) (by unfold rg; omega), if_pos q2, b_I, if_neg (by decide), C_isIn x F G hn (by unfold rg; omega) (by unfold rg; omega), if_neg q3, b_I, if_pos (by decide)]
          rfl
        · rw [E_M_frosts, isO_149, if_pos rfl, lit_0, lit_10, lit_1, lit_8, M_isIn x F G hc (by unfold rg; omega) (by unfold rg; omega), if_pos q1, b_I, if_neg (by decide), M_isIn x F G hd (by unfold rg; omega) (by unfold rg; omega), if_pos q2, b_I, if_neg (by decide), M_isIn x F G hn (by unfold rg; omega) (by unfold rg; omega), if_neg q3, b_I, if_pos (by decide)]
          rfl
    · refine Ok_pure (v := jI (-1)) hR ?_ ?_
      · rw [E_G_frosts, isO_0, if_pos rfl, lit_0, lit_10, lit_1, lit_8, C_isIn x F G hc (by unfold rg; omega) (by unfold rg; omega), if_pos q1, b_I, if_neg (by decide), C_isIn x F G hd (by unfold rg; omega) (by unfold rg; omega), if_neg q2, b_I, if_pos (by decide)]
        rfl
      · rw [E_M_frosts, isO_149, if_pos rfl, lit_0, lit_10, lit_1, lit_8, M_isIn x F G hc (by unfold rg; omega) (by unfold rg; omega), if_pos q1, b_I, if_neg (by decide), M_isIn x F G hd (by unfold rg; omega) (by unfold rg; omega), if_neg q2, b_I, if_pos (by decide)]
        rfl
  · refine Ok_pure (v := jI (-1)) hR ?_ ?_
    · rw [E_G_frosts, isO_0, if_pos rfl, lit_0, lit_10, lit_1, lit_8, C_isIn x F G hc (by unfold rg; omega) (by unfold rg; omega), if_neg q1, b_I, if_pos (by decide)]
      rfl
    · rw [E_M_frosts, isO_149, if_pos rfl, lit_0, lit_10, lit_1, lit_8, M_isIn x F G hc (by unfold rg; omega) (by unfold rg; omega), if_neg q1, b_I, if_pos (by decide)]
      rfl
end
