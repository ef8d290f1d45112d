-- the fewest tries: the call
section
variable (x : m_X) (F G : Nat → Fn)
theorem M_layTries {T : Fn} {P n : Nat} (hn : F 150 4 = n) (hn8 : n ≤ 8) (hT : Tok T n) (hTr : ∀ k : Nat, k < n → F 150 (126 + k) = T k) (hP0 : 1 ≤ P) (hP : P < 128) : ∃ F2, m_M x k_M_layTries [.ref 149, .int (jI P)] (mk F G) = some (none, mk F2 G) ∧ F2 161 P = nu ((tab T n P P).1 P) ∧ F2 162 P = (tab T n P P).2 P ∧ ag6 F F2 := by
  have key : ∀ j : Int, 0 ≤ j → j ≤ P → ∀ (F1 : Nat → Fn) d3 d4 d5, m_nl d3 = true → m_nl d4 = true → m_nl d5 = true → (∀ z : Nat, 1 ≤ z → (z : Int) ≤ j → z &&& P = z → F1 161 z = nu ((tab T n P j.toNat).1 z) ∧ F1 162 z = (tab T n P j.toNat).2 z) → ag6 F F1 → ∃ F2, m_D x 2 k_M_layTries 2 [some (.ref 149), some (.int (jI P)), some (.int (jI (j + 1))), d3, d4, d5] [] (mk F1 G) = some (none, mk F2 G) ∧ F2 161 P = nu ((tab T n P P).1 P) ∧ F2 162 P = (tab T n P P).2 P ∧ ag6 F F2 := by
    apply down
    · intro F1 d3 d4 d5 h3 h4 h5 h1 h2
      have q := h1 P hP0 (by omega) (Nat.and_self _)
      rw [Int.toNat_natCast] at q
      refine ⟨F1, ?_, q.1, q.2, h2⟩
      rw [E_M_layTries_2 x 2 (by omega) _ _ _ _ _ _ _ h3 h4 h5, if_pos (by rw [jI_lt (by omega) (by omega) (by omega) (by omega)]; omega)]
    · intro j j0 j1 ih F1 d3 d4 d5 h3 h4 h5 h1 h2
      have ej1 : j + 1 = ((j.toNat + 1 : Nat) : Int) := by omega
      have ejn : (j + 1).toNat = j.toNat + 1 := by omega
      rw [ejn, tab] at ih
      rw [E_M_layTries_2 x 2 (by omega) _ _ _ _ _ _ _ h3 h4 h5, if_neg (by rw [jI_lt (by omega) (by omega) (by omega) (by omega)]; omega), lit_1, jI_neg, ej1, nsub]
      by_cases q : (j.toNat + 1) &&& P = j.toNat + 1
      · rw [if_pos q] at ih
        rw [if_pos (by rw [(nsub0 _ _).2 q]; rfl), fR_149_27, Option.bind_some, M_bits x _ _ (by omega), b_I]
        have hf := tab_r (P := P) hT j.toNat (by omega)
        -- both ways on come to the loop over the tests
        have go : ∀ v : Int, v = nu (if pcN (j.toNat + 1) = 1 then 0 else 1000) → ∃ F2, ((m_is (mk F1 G) 161 (jI ((j.toNat + 1 : Nat) : Int)) (jI v)).bind fun s38 => (m_fR s38 11 28 149).bind fun v40 => (m_is s38 v40 (jI ((j.toNat + 1 : Nat) : Int)) (jI (-1))).bind fun s45 => m_D x 2 k_M_layTries 48 [some (.ref 149), some (.int (jI P)), some (.int (jI ((j.toNat + 1 : Nat) : Int))), some (.int (jI 0)), d4, d5] [] s45) = some (none, mk F2 G) ∧ F2 161 P = nu ((tab T n P P).1 P) ∧ F2 162 P = (tab T n P P).2 P ∧ ag6 F F2 := by
          intro v hv
          rw [is_161 _ _ _ (by omega) (by omega), Option.bind_some, fR_149_28, Option.bind_some, is_162 _ _ _ (by omega) (by omega), Option.bind_some]
          obtain ⟨F2, e3, e4, e5, x1, x2, x3, x4, x5, x6, x7, x8⟩ := M_layIn6 x F G (f := (tab T n P j.toNat).1) (T := T) (P := P) (s := j.toNat + 1) (n := n) (pp := jI P) hn hn8 hT hTr hf q (by omega) (by omega) 0 (by omega) (by omega) (sA (sA F1 161 (u (F1 161) ((j.toNat + 1 : Nat) : Int) v)) 162 (u (sA F1 161 (u (F1 161) ((j.toNat + 1 : Nat) : Int) v) 162) ((j.toNat + 1 : Nat) : Int) (-1))) d4 d5 h4 h5 (by
            intro z z1 z2 z3
            rw [sA_ne _ _ (by omega), sA_eq, u_ne _ _ (by omega)]
            exact (h1 z z1 (by omega) z3).1) (by
            rw [sA_ne _ _ (by omega), sA_eq, u_eq, hv]
            rfl) (by rw [sA_eq, u_eq]; rfl) (by
            intro b b1 b2
            rw [sA_ne _ _ b2, sA_ne _ _ b1]
            exact h2 b b1 b2)
          rw [x4, ← ej1]
          refine ih F2 e3 e4 e5 x1 x2 x3 ?_ x7
          intro z z1 z2 z3
          dsimp only
          by_cases q2 : z = j.toNat + 1
          · rw [q2, u_eq, u_eq]
            exact ⟨x5, x6⟩
          · have y := x8 z (by omega)
            rw [sA_ne (b := 161) _ _ (by omega), sA_eq, u_ne _ _ (by omega), sA_eq, u_ne _ _ (by omega), sA_ne _ _ (by omega)] at y
            rw [u_ne _ _ (by omega), u_ne _ _ (by omega), y.1, y.2]
            exact h1 z z1 (by omega) z3
        by_cases q1 : pcN (j.toNat + 1) = 1
        · rw [if_pos (by rw [q1]; rfl), lit_0]
          exact go 0 (by rw [if_pos q1]; rfl)
        · have hp := pc_le 12 (j.toNat + 1)
          rw [if_neg (by rw [jI_eq (by omega) (by unfold pcN; omega) (by omega) (by omega)]; omega), lit_0, lit_1000000000]
          exact go 1000000000 (by rw [if_neg q1]; rfl)
      · rw [if_neg q] at ih
        rw [if_neg (by
          intro h
          have l := (sub_le ⟨j.toNat + 1, by omega⟩ ⟨P, hP⟩).1
          dsimp only at l
          rw [lit_0, jI_eq (by omega) (by omega) (by omega) (by omega)] at h
          exact q ((nsub0 _ _).1 (by omega))), jI_add, ← ej1]
        refine ih F1 d3 d4 d5 h3 h4 h5 ?_ h2
        intro z z1 z2 z3
        by_cases q2 : z = j.toNat + 1
        · rw [q2] at z3; exact absurd z3 q
        · exact h1 z z1 (by omega) z3
  rw [E_M_layTries, isO_149, if_pos rfl]
  exact key 0 (by omega) (by omega) F _ _ _ rfl rfl rfl (fun z z1 z2 => by omega) (fun _ _ _ => rfl)
theorem ok_tries {p t : Int} (hR : Rel F) (hp : rg p) (ht : rg t) : Ok x F G k_G_tries k_M_tries [.int (jI p), .int (jI t)] := by
  have hi : WI (F 2) := RS_WI hR.1
  have hc := WI_c hi
  have hv := Rel_V hR
  have hp2 := hp
  have ht2 := ht
  unfold rg at hp2 ht2
  have hq := hR.2.2.1.2.2.1
  unfold RT2 at hq
  simp only [Nat.reduceAdd] at hq
  obtain ⟨s1, s2, s3, s4⟩ := hq
  have fw : m_fR (mk F G) 9 0 1 = some 2 := fR_W_0 F G (w := 1) (Or.inl rfl)
  have hN : F 2 0 = (((F 2 0).toNat : Nat) : Int) := by omega
  generalize hNN : (F 2 0).toNat = N at *
  have hpow : (2 : Nat) ^ N ≤ 128 := by
    have := Nat.pow_le_pow_right (n := 2) (by omega) (show N ≤ 7 by omega)
    omega
  have hpow1 : 1 ≤ (2 : Nat) ^ N := Nat.one_le_two_pow
  have a2 : m_ia x (mk F G) 2 (jI 0) = some (jI (N : Int)) := by rw [ia_2 x F G (by omega) (by omega), hN]
  have esh : (jI 1 <<< (jI (N : Int) &&& jI 31)) - jI 1 = jI ((2 ^ N - 1 : Nat) : Int) := by
    rw [nshl (by omega), jI_sub]
    congr 1
    omega
  have mi : ∀ F' : Nat → Fn, F' 150 = F 150 → m_M x k_M_tries [.ref 149, .int (jI p), .int (jI t)] (mk F' G) = (if 1 ≤ p ∧ p ≤ ((2 ^ N - 1 : Nat) : Int) then (m_bV (m_M x k_M_layTries [.ref 149, .int (jI p)] (mk F' G)) fun s23 => (m_fR s23 11 27 149).bind fun v27 => (m_ia x s23 v27 (jI p)).bind fun v31 => if v31 < jI 1000000000 then (if jI t = jI 0 then ((m_fR s23 11 27 149).bind fun v57 => (m_ia x s23 v57 (jI p)).bind fun v61 => some (some (Value.int v61), s23)) else (m_fR s23 11 28 149).bind fun v48 => (m_ia x s23 v48 (jI p)).bind fun v52 => some (some (Value.int v52), s23)) else some (some (Value.int (jI (-2))), s23)) else some (some (Value.int (jI (-2))), mk F' G)) := by
    intro F' e
    have a3 : m_ia x (mk F' G) 150 (jI 0) = some (jI (N : Int)) := by rw [va_0, e, hv 0 (by unfold vok; omega), hN]
    have mm := M_isIn x F' G (a := p) (b := 1) (c := ((2 ^ N - 1 : Nat) : Int)) hp (by unfold rg; omega) (by unfold rg; omega)
    rw [E_M_tries, isO_149, if_pos rfl, fR_149_0, Option.bind_some, lit_0, a3, Option.bind_some, lit_1, lit_31, esh, mm, b_I]
    by_cases q : 1 ≤ p ∧ p ≤ ((2 ^ N - 1 : Nat) : Int)
    · rw [if_pos q, if_pos q, if_neg j10]
      rfl
    · rw [if_neg q, if_neg q, if_pos rfl]
      rfl
  by_cases q0 : p ≤ 0
  · refine Ok_pure (v := jI (-2)) hR ?_ ?_
    · rw [E_G_tries, isO_0, if_pos rfl, fR_0_0, Option.bind_some, fw, Option.bind_some, lit_0, a2, Option.bind_some, if_pos (by rw [jI_le (by omega) (by omega) (by omega) (by omega)]; omega)]
      rfl
    · rw [mi F rfl, if_neg (by omega)]
  · have eP : p = ((p.toNat : Nat) : Int) := by omega
    generalize hPP : p.toNat = P at *
    rw [eP] at mi ⊢
    have hsub : (P ^^^ (P &&& (2 ^ N - 1)) = 0) ↔ P ≤ 2 ^ N - 1 := by
      rw [nsub0, Nat.and_two_pow_sub_one_eq_mod]
      refine ⟨fun h => ?_, fun h => Nat.mod_eq_of_lt (by omega)⟩
      have := Nat.mod_lt P (show 2 ^ N > 0 by omega)
      omega
    have cs0 : m_M x k_G_tries [.ref 0, .int (jI (P : Int)), .int (jI t)] (mk F G) = if P ≤ 2 ^ N - 1 then (m_bI (m_M x k_Puzzles_fewestTries [.ref 144, .ref 39, .int (jI (P : Int))] (mk F G)) fun v41 s41 => if v41 = jI 1000 then (some (some (Value.int (jI (-2))), s41)) else if jI t = jI 0 then (some (some (Value.int v41), s41)) else (m_fR s41 10 12 0).bind fun v62 => (m_fI s41 2 0 v62).bind fun v65 => some (some (Value.int v65), s41)) else some (some (Value.int (jI (-2))), mk F G) := by
      have ft := fR_T_1 F G (w := 36) (by omega)
      rw [E_G_tries, isO_0, if_pos rfl, fR_0_0, Option.bind_some, fw, Option.bind_some, lit_0, a2, Option.bind_some, if_neg (by rw [jI_le (by omega) (by omega) (by omega) (by omega)]; omega), lit_1, lit_31, esh, jI_neg, nsub]
      by_cases q : P ≤ 2 ^ N - 1
      · rw [if_pos q, if_pos (by rw [hsub.2 q]; rfl), fR_0_12, Option.bind_some, fR_0_2, Option.bind_some, ft, Option.bind_some]
        rfl
      · rw [if_neg q, if_neg]
        · rfl
        · intro h
          have l : P ^^^ (P &&& (2 ^ N - 1)) < 2 ^ 31 := Nat.xor_lt_two_pow (by omega) (Nat.and_lt_two_pow _ (by omega))
          rw [jI_eq (by omega) (by omega) (by omega) (by omega)] at h
          exact q (hsub.1 (by omega))
    by_cases q : P ≤ 2 ^ N - 1
    · rw [if_pos q] at cs0
      have hn : F 39 1 = (((F 39 1).toNat : Nat) : Int) := by omega
      have hT : Tok (F 40) (F 39 1).toNat := by
        intro k hk
        have := s4 k (by omega) (by omega)
        omega
      obtain ⟨F1, r1, r2, r3⟩ := C_fewest x F G (T := F 40) (P := P) (n := (F 39 1).toNat) hn (by omega) hT (fun _ _ => rfl) (by omega) (by omega)
      have e150 := r3 150 (by omega) (by omega)
      obtain ⟨F2, z1, z2, z3, z4⟩ := M_layTries x F1 G (T := F 40) (P := P) (n := (F 39 1).toNat) (by rw [e150, s1]; exact hn) (by omega) hT (by
        intro k hk
        rw [e150]
        exact (s4 k (by omega) (by omega)).1.symm) (by omega) (by omega)
      have hr := tab_r (P := P) hT P (by omega) P (by omega) (by omega) (Nat.and_self _)
      have hRel : Rel F2 := by
        refine Rel_ag hR ?_
        intro b hb
        rw [z4 b (by omega) (by omega), r3 b (by omega) (by omega)]
      generalize (tab (F 40) (F 39 1).toNat P P).1 (P : Int) = v at *
      generalize (tab (F 40) (F 39 1).toNat P P).2 (P : Int) = w at *
      have cs : m_M x k_G_tries [.ref 0, .int (jI (P : Int)), .int (jI t)] (mk F G) = some (some (.int (jI (if v = 1000 then -2 else if t = 0 then v else w))), mk F1 G) := by
        rw [cs0, r1, b_I]
        simp (disch := omega) only [jI_lt, jI_le, jI_eq, fR_0_12, fI_144_0, Option.bind_some, r2]
        by_cases q1 : v = 1000
        · rw [if_pos q1, if_pos q1]
        · rw [if_neg q1, if_neg q1]
          split <;> rfl
      have ms : m_M x k_M_tries [.ref 149, .int (jI (P : Int)), .int (jI t)] (mk F1 G) = some (some (.int (jI (if v = 1000 then -2 else if t = 0 then v else w))), mk F2 G) := by
        have hvr : 0 ≤ nu v ∧ nu v ≤ 1000000000 := by unfold nu; split <;> omega
        rw [mi F1 e150, if_pos (by omega), z1, b_V]
        simp (disch := omega) only [jI_lt, jI_le, jI_eq, fR_149_27, fR_149_28, ia_161, ia_162, Option.bind_some, z2, z3]
        have hnu : nu v = if v = 1000 then 1000000000 else v := rfl
        rw [hnu]
        by_cases q1 : v = 1000
        · rw [if_pos q1, if_pos q1, if_neg (by omega)]
        · rw [if_neg q1, if_neg q1, if_pos (by omega)]
          split <;> rfl
      exact ⟨_, _, _, _, cs, ms, hRel⟩
    · rw [if_neg q] at cs0
      refine Ok_pure (v := jI (-2)) hR cs0 ?_
      rw [mi F rfl, if_neg (by omega)]
end
