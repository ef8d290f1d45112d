-- estate: both alike
section
variable (x : m_X) (F G : Nat → Fn)
theorem M_est35 {w : Fn} {n e k : Int} {n3 : Int32} (hn0 : 0 ≤ n) (hn1 : n ≤ 6) (hn : F 150 5 = n) (ha : ∀ i, 0 ≤ i → i < n → F 150 (134 + i) = w i) (hw : ∀ i, 0 ≤ i → i < n → 0 ≤ w i ∧ w i ≤ 9999) (he0 : 0 ≤ e) (he1 : e ≤ 9999) : ∀ i, 0 ≤ i → i ≤ n → m_D x 3 k_M_estate 35 [some (.ref 149), some (.int (jI e)), some (.int (jI k)), some (.int n3), some (.long (jL (sm w i))), none, some (.int (jI i)), none, none, none, none, none, none, none, none, none, none] [] (mk F G) = m_D x 3 k_M_estate 86 [some (.ref 149), some (.int (jI e)), some (.int (jI k)), some (.int n3), some (.long (jL (sm w n))), none, some (.int (jI n)), none, none, none, none, none, none, none, none, none, none] [.int (jI (if 2 * e ≤ sm w n then 1 else 0))] (mk F G) := by
  have i5 : m_ia x (mk F G) 150 (jI 5) = some (jI n) := by rw [ia_150 x F G (by omega) (by omega), hn]
  have sr : ∀ i, 0 ≤ i → i ≤ n → 0 ≤ sm w i ∧ sm w i ≤ 59994 := by
    intro i i0 i1
    have := sm_le (f := w) (a := 0) (b := 9999) i0 (fun j j0 j1 => hw j j0 (by omega))
    omega
  apply down
  · have ar := sr n hn0 (Int.le_refl _)
    rw [E_M_estate_35 x 3 (by omega), fR_149_0, Option.bind_some, lit_5, i5, Option.bind_some, if_pos (Int32.le_refl _), jI_toL (by omega) (by omega), llt_2, jL_mul]
    by_cases q : 2 * e ≤ sm w n
    · rw [if_neg (by rw [jL_lt (by omega) (by omega) (by omega) (by omega)]; omega), if_pos q, lit_1]
    · rw [if_pos (by rw [jL_lt (by omega) (by omega) (by omega) (by omega)]; omega), if_neg q, lit_0]
  · intro i i0 i1 ih
    have hwi := hw i i0 i1
    rw [sm_s _ i0] at ih
    rw [E_M_estate_35 x 3 (by omega), fR_149_0, Option.bind_some, Option.bind_some, lit_5, i5, Option.bind_some, if_neg (by rw [jI_le (by omega) (by omega) (by omega) (by omega)]; omega), lit_134, jI_add, ia_150 x F G (by omega) (by omega), Option.bind_some, ha i i0 i1, jI_toL (by omega) (by omega), jL_add, lit_1, jI_add]
    exact ih
/-- above and below the line in the model -/
theorem es_mod {w : Fn} {n H k al e U O : Int} {s : Nat} (hn0 : 0 ≤ n) (hw : ∀ i, 0 ≤ i → i < n → 0 ≤ w i ∧ w i ≤ 9999) (k0 : 0 ≤ k) (k1 : k < n) (hI : IV w n H s) (hC : CL w n H s) (hU : U = (if oS s n = 0 then 1000000000 else H - wS w s n)) (hO : O = (if oS s n = 0 then 1 else oS s n)) : ∃ c, 0 < c ∧ (if 2 * e ≤ al then (if U ≤ w k * O then U else w k * O) else 2 * w k * O - (if U ≤ w k * O then U else w k * O)) = c * esA al e (esU w n H s k) (esL n s k) (w k) ∧ 2 * O = c * (2 * esL n s k) := by
  have hk := hw k k0 k1
  have r2 := oS_r s hn0
  unfold esU esL esA
  by_cases b : s.testBit k.toNat = true
  · simp only [if_pos b]
    by_cases q : oS s n = 0
    · rw [if_pos q] at hU hO
      refine ⟨1, by omega, ?_, by omega⟩
      have e1 : (if (1000000000 : Int) ≤ w k * 1 then (1000000000 : Int) else w k * 1) = w k := by rw [if_neg (by omega)]; omega
      rw [hU, hO, e1]
      split <;> omega
    · rw [if_neg q] at hU hO
      have i1 := hI.2 k k0 k1 b
      refine ⟨oS s n, by omega, ?_, by rw [hO]; omega⟩
      rw [hU, hO]
      have e1 : (if H - wS w s n ≤ w k * oS s n then H - wS w s n else w k * oS s n) = w k * oS s n := by
        split <;> omega
      rw [e1, Int.mul_comm (oS s n)]
      split
      · rfl
      · rw [Int.mul_assoc, Int.sub_mul, Int.mul_assoc 2 1 (w k), Int.one_mul, Int.mul_assoc]
  · simp only [if_neg b]
    have m1 := oS_pos k0 k1 b
    have c1 := hC k k0 k1 b
    rw [if_neg (by omega)] at hU hO
    refine ⟨1, by omega, ?_, by rw [hO]; omega⟩
    have e1 : (if H - wS w s n ≤ w k * oS s n then H - wS w s n else w k * oS s n) = H - wS w s n := if_pos (by omega)
    have e2 : 2 * oS s n * w k = 2 * w k * oS s n := by rw [Int.mul_assoc, Int.mul_comm (oS s n), ← Int.mul_assoc]
    rw [hU, hO, e1, Int.one_mul, e2]
theorem M_est128 {w : Fn} {n H al e k low : Int} {h6 l4 : Int} {l7 : Int64} (hn0 : 0 ≤ n) (hn1 : n ≤ 6) (hn : F 150 5 = n) (ha : ∀ i, 0 ≤ i → i < n → F 150 (134 + i) = w i) (hw : ∀ i, 0 ≤ i → i < n → 0 ≤ w i ∧ w i ≤ 9999) (hH0 : 0 ≤ H) (hH1 : H ≤ 200000) (k0 : 0 ≤ k) (k1 : k < n) (hh : h6 = if 2 * e ≤ al then 1 else 0) (hl : rg low) : ∃ (s : Nat) (G2 : Nat → Fn), IV w n H s ∧ CL w n H s ∧ m_D x 3 k_M_estate 128 [some (.ref 149), some (.int (jI e)), some (.int (jI k)), some (.int (jI low)), some (.long (jL l4)), none, some (.int (jI h6)), some (.long l7), none, none, none, none, none, none, none, none, none] [.long (jL H), .ref 149] (mk F G) = some (some (.int (jI (if low = 0 then esA al e (esU w n H s k) (esL n s k) (w k) / (Int.gcd (esA al e (esU w n H s k) (esL n s k) (w k)) (2 * esL n s k) : Int) else 2 * esL n s k / (Int.gcd (esA al e (esU w n H s k) (esL n s k) (w k)) (2 * esL n s k) : Int)))), mk F G2) := by
  unfold rg at hl
  obtain ⟨s, G2, z1, z2, z3, z4, z5⟩ := M_partAlike x F G (w := w) (n := n) (H := H) hn0 hn1 hn ha hw hH0 hH1
  refine ⟨s, G2, z1, z2, ?_⟩
  obtain ⟨c, c0, c1, c2⟩ := es_mod (al := al) (e := e) hn0 hw k0 k1 z1 z2 z4 z5
  obtain ⟨b1, b2, b3⟩ := es_r hn0 hn1 hw hH1 k0 k1 z1 z2
  have hk := hw k k0 k1
  have r2 := oS_r s hn0
  have r1 := wS_r (w := w) (s := s) hn0 hw
  have i1 := z1.1
  have hO : 1 ≤ G2 149 32 ∧ G2 149 32 ≤ 6 := by rw [z5]; split <;> omega
  have hU : 0 ≤ G2 149 31 ∧ G2 149 31 ≤ 1000000000 := by rw [z4]; split <;> omega
  obtain ⟨O, eO⟩ : ∃ O, O = G2 149 32 := ⟨_, rfl⟩
  obtain ⟨U, eU⟩ : ∃ U, U = G2 149 31 := ⟨_, rfl⟩
  rw [← eO] at hO z5 c1 c2
  rw [← eU] at hU z4 c1
  have fo : m_fL (mk F G2) 11 32 149 = some (jL O) := by rw [fL_149_32, ← eO]
  have fu : m_fL (mk F G2) 11 31 149 = some (jL U) := by rw [fL_149_31, ← eU]
  have p1 : 0 ≤ w k * O := Int.mul_nonneg hk.1 (by omega)
  have p2 : w k * O ≤ 9999 * 6 := Int.mul_le_mul hk.2 hO.2 (by omega) (by omega)
  have ep : 2 * w k * O = 2 * (w k * O) := Int.mul_assoc _ _ _
  have hA : 0 ≤ esA al e (esU w n H s k) (esL n s k) (w k) := by unfold esA; split <;> omega
  have fin : ∀ (A : Int) (l9 l11 : Int64), A = c * esA al e (esU w n H s k) (esL n s k) (w k) → A ≤ 4000000000 → m_D x 3 k_M_estate 199 [some (.ref 149), some (.int (jI e)), some (.int (jI k)), some (.int (jI low)), some (.long (jL l4)), none, some (.int (jI h6)), some (.long l7), none, some (.long l9), none, some (.long l11), none, none, none, none, none] [.long (jL A)] (mk F G2) = some (some (.int (jI (if low = 0 then esA al e (esU w n H s k) (esL n s k) (w k) / (Int.gcd (esA al e (esU w n H s k) (esL n s k) (w k)) (2 * esL n s k) : Int) else 2 * esL n s k / (Int.gcd (esA al e (esU w n H s k) (esL n s k) (w k)) (2 * esL n s k) : Int)))), mk F G2) := by
    intro A l9 l11 hA1 hA2
    have A0 : 0 ≤ A := by rw [hA1]; exact Int.mul_nonneg (by omega) hA
    have qm := q_mul (a := esA al e (esU w n H s k) (esL n s k) (w k)) (b := 2 * esL n s k) c0
    rw [← hA1, ← c2] at qm
    have g0 : 0 < Int.gcd A (2 * O) := Int.gcd_pos_of_ne_zero_right A (by omega)
    have g1 : Int.gcd A (2 * O) ≤ (2 * O).natAbs := Nat.le_of_dvd (by omega) (Int.gcd_dvd_natAbs_right A (2 * O))
    have hcm := M_common x F G2 (a := A) (b := 2 * O) (by omega) (by omega)
    rw [E_M_estate_199 x 3 (by omega), fo, Option.bind_some, llt_2, jL_mul]
    simp only [hcm, b_L]
    rw [← qm.1, ← qm.2]
    generalize Int.gcd A (2 * O) = g at *
    have t1 : 0 ≤ A / (g : Int) ∧ A / (g : Int) ≤ A := ⟨Int.ediv_nonneg A0 (by omega), Int.ediv_le_self _ A0⟩
    rw [lit_0, llt_0]
    by_cases q : low = 0
    · rw [if_pos (by rw [q]), if_pos q, if_neg (by rw [jL_eq (by omega) (by omega) (by omega) (by omega)]; omega), jL_div (by omega) (by omega) (by omega) (by omega), jL_toI, td A0]
    · rw [if_neg (by rw [jI_eq (by omega) (by omega) (by omega) (by omega)]; omega), if_neg q, if_neg (by rw [jL_eq (by omega) (by omega) (by omega) (by omega)]; omega), jL_div (by omega) (by omega) (by omega) (by omega), jL_toI, td (by omega)]
  rw [E_M_estate_128 x 3 (by omega), z3, b_V, fR_149_0, Option.bind_some, lit_134, jI_add, ia_150 x F G2 (by omega) (by omega), Option.bind_some, ha k k0 k1, jI_toL (by omega) (by omega), llt_2, lit_0]
  simp only [fo, fu, Option.bind_some, jL_mul, jL_sub]
  by_cases q : 2 * e ≤ al
  · rw [if_pos q] at hh c1
    rw [hh]
    by_cases q2 : U ≤ w k * O
    · rw [if_pos q2] at c1
      rw [if_pos (by rw [jL_le (by omega) (by omega) (by omega) (by omega)]; exact q2), if_neg (by decide)]
      rw [hh] at fin
      exact fin U _ _ c1 (by omega)
    · rw [if_neg q2] at c1
      rw [if_neg (by rw [jL_le (by omega) (by omega) (by omega) (by omega)]; exact q2), if_neg (by decide)]
      rw [hh] at fin
      exact fin (w k * O) _ _ c1 (by omega)
  · rw [if_neg q] at hh c1
    rw [hh]
    by_cases q2 : U ≤ w k * O
    · rw [if_pos q2] at c1
      rw [if_pos (by rw [jL_le (by omega) (by omega) (by omega) (by omega)]; exact q2), if_pos (by decide)]
      rw [hh] at fin
      exact fin (2 * w k * O - U) _ _ c1 (by omega)
    · rw [if_neg q2] at c1
      rw [if_neg (by rw [jL_le (by omega) (by omega) (by omega) (by omega)]; exact q2), if_pos (by decide)]
      rw [hh] at fin
      exact fin (2 * w k * O - w k * O) _ _ c1 (by omega)
theorem M_estate {w : Fn} {n e k low : Int} (hn0 : 0 ≤ n) (hn1 : n ≤ 6) (hn : F 150 5 = n) (ha : ∀ i, 0 ≤ i → i < n → F 150 (134 + i) = w i) (hw : ∀ i, 0 ≤ i → i < n → 0 ≤ w i ∧ w i ≤ 9999) (he0 : 0 ≤ e) (he1 : e ≤ 9999) (k0 : 0 ≤ k) (k1 : k < n) (hl : rg low) : ∃ (s : Nat) (G2 : Nat → Fn), IV w n (esH (sm w n) e) s ∧ CL w n (esH (sm w n) e) s ∧ m_M x k_M_estate [.ref 149, .int (jI e), .int (jI k), .int (jI low)] (mk F G) = some (some (.int (jI (if low = 0 then esA (sm w n) e (esU w n (esH (sm w n) e) s k) (esL n s k) (w k) / (Int.gcd (esA (sm w n) e (esU w n (esH (sm w n) e) s k) (esL n s k) (w k)) (2 * esL n s k) : Int) else 2 * esL n s k / (Int.gcd (esA (sm w n) e (esU w n (esH (sm w n) e) s k) (esL n s k) (w k)) (2 * esL n s k) : Int)))), mk F G2) := by
  have i5 : m_ia x (mk F G) 150 (jI 5) = some (jI n) := by rw [ia_150 x F G (by omega) (by omega), hn]
  have ar : 0 ≤ sm w n ∧ sm w n ≤ 59994 := by
    have := sm_le (f := w) (a := 0) (b := 9999) hn0 (fun j j0 j1 => hw j j0 j1)
    omega
  have hm : 0 ≤ max 0 (sm w n - e) ∧ max 0 (sm w n - e) ≤ 59994 := by omega
  have l0 := M_est35 x F G (w := w) (n := n) (e := e) (k := k) (n3 := jI low) hn0 hn1 hn ha hw he0 he1 0 (by omega) hn0
  rw [sm_0] at l0
  have st : m_M x k_M_estate [.ref 149, .int (jI e), .int (jI k), .int (jI low)] (mk F G) = m_D x 3 k_M_estate 86 [some (.ref 149), some (.int (jI e)), some (.int (jI k)), some (.int (jI low)), some (.long (jL (sm w n))), none, some (.int (jI n)), none, none, none, none, none, none, none, none, none, none] [.int (jI (if 2 * e ≤ sm w n then 1 else 0))] (mk F G) := by
    rw [E_M_estate, isO_149, if_pos rfl, lit_0, show (9999 : Int32) = jI 9999 from by decide, M_isIn x F G (by unfold rg; omega) (by unfold rg; omega) (by unfold rg; omega), if_pos ⟨he0, he1⟩, b_I, if_neg (by decide), fR_149_0, Option.bind_some, lit_5, i5, Option.bind_some, lit_1, jI_sub, M_isIn x F G (by unfold rg; omega) (by unfold rg; omega) (by unfold rg; omega), if_pos (show 0 ≤ k ∧ k ≤ n - 1 by omega), b_I, if_neg (by decide), llt_0]
    exact l0
  rw [st, E_M_estate_86 x 3 (by omega), jI_toL (by omega) (by omega), llt_0, llt_2, lit_0, jL_mul, jL_sub, jL_mul, jL_mul]
  by_cases q : 2 * e ≤ sm w n
  · have eH : esH (sm w n) e = 2 * e := by unfold esH; rw [if_pos q]
    rw [eH, if_pos q]
    have r : ∀ l7, _ := fun l7 => M_est128 x F G (w := w) (n := n) (H := 2 * e) (al := sm w n) (e := e) (k := k) (low := low) (h6 := 1) (l4 := sm w n) (l7 := l7) hn0 hn1 hn ha hw (by omega) (by omega) k0 k1 (by rw [if_pos q]) hl
    by_cases q2 : sm w n ≤ e
    · rw [if_pos (by rw [jL_le (by omega) (by omega) (by omega) (by omega)]; exact q2), if_neg (by decide)]
      exact r _
    · rw [if_neg (by rw [jL_le (by omega) (by omega) (by omega) (by omega)]; exact q2), if_neg (by decide)]
      exact r _
  · have eH : esH (sm w n) e = 2 * max 0 (sm w n - e) := by unfold esH; rw [if_neg q]
    rw [eH, if_neg q]
    have r : ∀ l7, _ := fun l7 => M_est128 x F G (w := w) (n := n) (H := 2 * max 0 (sm w n - e)) (al := sm w n) (e := e) (k := k) (low := low) (h6 := 0) (l4 := sm w n) (l7 := l7) hn0 hn1 hn ha hw (by omega) (by omega) k0 k1 (by rw [if_neg q]) hl
    by_cases q2 : sm w n ≤ e
    · have em : max 0 (sm w n - e) = 0 := by omega
      rw [em] at r ⊢
      rw [if_pos (by rw [jL_le (by omega) (by omega) (by omega) (by omega)]; exact q2), if_pos (by decide)]
      exact r _
    · have em : max 0 (sm w n - e) = sm w n - e := by omega
      rw [em] at r ⊢
      rw [if_neg (by rw [jL_le (by omega) (by omega) (by omega) (by omega)]; exact q2), if_pos (by decide)]
      exact r _
theorem ok_estate (hR : Rel F) {e k low : Int} (he : rg e) (hk : rg k) (hl : rg low) : Ok x F G k_G_estate k_M_estate [.int (jI e), .int (jI k), .int (jI low)] := by
  have hl' := hl
  unfold rg at hl'
  obtain ⟨s1, s2, s3, s4⟩ := hR.2.2.1.2.2.2.1
  replace s1 : F 150 5 = F 41 1 := s1
  replace s2 : 0 ≤ F 41 1 := s2
  replace s3 : F 41 1 ≤ 6 := s3
  replace s4 : ∀ i, 0 ≤ i → i < F 41 1 → F 42 i = F 150 (134 + i) ∧ 0 ≤ F 150 (134 + i) ∧ F 150 (134 + i) ≤ 9999 := s4
  have ha : ∀ i, 0 ≤ i → i < F 41 1 → F 150 (134 + i) = F 42 i := fun i i0 i1 => (s4 i i0 i1).1.symm
  have hw : ∀ i, 0 ≤ i → i < F 41 1 → 0 ≤ F 42 i ∧ F 42 i ≤ 9999 := by
    intro i i0 i1
    have := s4 i i0 i1
    omega
  have i5 : m_ia x (mk F G) 150 (jI 5) = some (jI (F 41 1)) := by rw [ia_150 x F G (by omega) (by omega), s1]
  have ft : m_fR (mk F G) 7 2 36 = some 41 := fR_T_2 F G (w := 36) (by omega)
  by_cases q : 0 ≤ e ∧ e ≤ 9999
  · by_cases q2 : 0 ≤ k ∧ k ≤ F 41 1 - 1
    · obtain ⟨s, F2, c1, c2, c3, c4, c5, c6⟩ := C_share x F G (n := F 41 1) (e := e) (k := k) s2 s3 rfl hw q.1 q.2 q2.1 (by omega)
      have e150 := c4 150 (by omega)
      obtain ⟨t, G2, m1, m2, m3⟩ := M_estate x F2 G (w := F 42) (n := F 41 1) (e := e) (k := k) (low := low) s2 s3 (by rw [e150]; exact s1) (by rw [e150]; exact ha) hw q.1 q.2 q2.1 (by omega) hl
      have hu := uq s2 c1 c2 m1 m2
      have eU : esU (F 42) (F 41 1) (esH (sm (F 42) (F 41 1)) e) t k = esU (F 42) (F 41 1) (esH (sm (F 42) (F 41 1)) e) s k := by
        unfold esU
        rw [wS_cg hu]
        have := hu k q2.1 (by omega)
        by_cases b : s.testBit k.toNat = true
        · rw [if_pos b, if_pos (this.1 b)]
        · rw [if_neg b, if_neg (fun z => b (this.2 z))]
      have eL : esL (F 41 1) t k = esL (F 41 1) s k := by
        unfold esL
        rw [oS_cg hu]
        have := hu k q2.1 (by omega)
        by_cases b : s.testBit k.toNat = true
        · rw [if_pos b, if_pos (this.1 b)]
        · rw [if_neg b, if_neg (fun z => b (this.2 z))]
      rw [eU, eL] at m3
      rw [← c5, ← c6] at m3
      have cs : m_M x k_G_estate [.ref 0, .int (jI e), .int (jI k), .int (jI low)] (mk F G) = some (some (.int (jI (if low = 0 then F2 144 1 else F2 144 2))), mk F2 G) := by
        rw [E_G_estate, isO_0, if_pos rfl, lit_0, show (9999 : Int32) = jI 9999 from by decide, C_isIn x F G he (by unfold rg; omega) (by unfold rg; omega), if_pos q, b_I, if_neg (by decide), fR_0_2, Option.bind_some, ft, Option.bind_some, fI41, Option.bind_some, lit_1, jI_sub, C_isIn x F G hk (by unfold rg; omega) (by unfold rg; omega), if_pos q2, b_I, if_neg (by decide), fR_0_12, Option.bind_some]
        rw [fR_0_2, Option.bind_some, ft, Option.bind_some, c3, b_V]
        by_cases z : low = 0
        · rw [if_pos (by rw [z]), if_pos z, fR_0_12, Option.bind_some, fI_144_1, Option.bind_some]
        · rw [if_neg (by rw [jI_eq (by omega) (by omega) (by omega) (by omega)]; omega), if_neg z, fR_0_12, Option.bind_some, fI_144_2, Option.bind_some]
      refine ⟨_, _, _, _, cs, m3, ?_⟩
      refine Rel_ag hR ?_
      intro b hb
      exact c4 b (by omega)
    · refine Ok_pure (v := jI (-1)) hR ?_ ?_
      · rw [E_G_estate, isO_0, if_pos rfl, lit_0, show (9999 : Int32) = jI 9999 from by decide, C_isIn x F G he (by unfold rg; omega) (by unfold rg; omega), if_pos q, b_I, if_neg (by decide), fR_0_2, Option.bind_some, ft, Option.bind_some, fI41, Option.bind_some, lit_1, jI_sub, C_isIn x F G hk (by unfold rg; omega) (by unfold rg; omega), if_neg q2, b_I, if_pos (by decide)]
        rfl
      · rw [E_M_estate, isO_149, if_pos rfl, lit_0, show (9999 : Int32) = jI 9999 from by decide, M_isIn x F G he (by unfold rg; omega) (by unfold rg; omega), if_pos q, b_I, if_neg (by decide), fR_149_0, Option.bind_some, lit_5, i5, Option.bind_some, lit_1, jI_sub, M_isIn x F G hk (by unfold rg; omega) (by unfold rg; omega), if_neg q2, b_I, if_pos (by decide)]
        rfl
  · refine Ok_pure (v := jI (-1)) hR ?_ ?_
    · rw [E_G_estate, isO_0, if_pos rfl, lit_0, show (9999 : Int32) = jI 9999 from by decide, C_isIn x F G he (by unfold rg; omega) (by unfold rg; omega), if_neg q, b_I, if_pos (by decide)]
      rfl
    · rw [E_M_estate, isO_149, if_pos rfl, lit_0, show (9999 : Int32) = jI 9999 from by decide, M_isIn x F G he (by unfold rg; omega) (by unfold rg; omega), if_neg q, b_I, if_pos (by decide)]
      rfl
end
