-- the lexer: the class's tokens
def sk (T : Fn) (n p : Int) : Int := rn (fun i => bb (T i)) (n - p).toNat p
def tle (T : Fn) (n p : Int) : Int := if n ≤ p then p else if lb (T p) = true then rn (fun i => lb (T i)) (n - p).toNat p else if db (T p) = true then rn (fun i => db (T i)) (n - p).toNat p else if (sy (T p) = 37 ∨ sy (T p) = 38) ∧ (p + 1 < n ∧ T (p + 1) = 61) then p + 2 else p + 1
def kd (T : Fn) (n p : Int) : Int := if n ≤ p then 52 else if lb (T p) = true then kw (bl T (rn (fun i => lb (T i)) (n - p).toNat p - p).toNat p) else if db (T p) = true then 51 else if (sy (T p) = 37 ∨ sy (T p) = 38) ∧ (p + 1 < n ∧ T (p + 1) = 61) then sy (T p) + 11 else sy (T p)
def cnR (T : Fn) : Nat → Int → Int → Int
  | 0, _, a => a
  | k + 1, p, a => if db (T p) = true then cnR T k (p + 1) (min (a * 10 + T p - 48) 10000) else a
def TP (F : Nat → Fn) (T : Fn) (n : Int) : Prop := F 135 = T ∧ F 128 2 = n ∧ (0 ≤ n ∧ n ≤ 300) ∧ ∀ i, 0 ≤ i → i < n → 0 ≤ T i ∧ T i ≤ 255
def CT (F : Nat → Fn) (T : Fn) (n p : Int) : Prop := (F 128 5 = kd T n p ∧ F 128 7 = p ∧ F 128 8 = tle T n p) ∧ (0 ≤ p ∧ p ≤ n) ∧ (kd T n p = 51 → F 128 6 = cnR T (n - p).toNat p 0)
def ag8 (F F1 : Nat → Fn) : Prop := (∀ b, ¬ b = 128 → F1 b = F b) ∧ ∀ z, z < 5 ∨ 8 < z → F1 128 z = F 128 z
theorem ag8_tr {F F1 F2 : Nat → Fn} (h1 : ag8 F F1) (h2 : ag8 F1 F2) : ag8 F F2 := ⟨fun b h => (h2.1 b h).trans (h1.1 b h), fun z h => (h2.2 z h).trans (h1.2 z h)⟩
theorem ag8_TP {F F1 : Nat → Fn} {T : Fn} {n : Int} (h : ag8 F F1) (t : TP F T n) : TP F1 T n := by
  obtain ⟨t1, t2, t3⟩ := t
  exact ⟨by rw [h.1 135 (by omega)]; exact t1, by rw [h.2 2 (by omega)]; exact t2, t3⟩
theorem ag8_u {F : Nat → Fn} {z v : Int} (h : 5 ≤ z ∧ z ≤ 8) : ag8 F (sA F 128 (u (F 128) z v)) := by
  refine ⟨fun b hb => by rw [sA_ne _ _ hb], fun y hy => by rw [sA_eq, u_ne _ _ (by omega)]⟩
section
variable (x : m_X) (F G : Nat → Fn)
theorem C_isTape {T : Fn} {n i : Int} (h : TP F T n) (hi : rg i) : m_M x k_Reader_isTapeAt [.ref 128, .int (jI i)] (mk F G) = some (some (.int (jI (if 0 ≤ i ∧ i < n then 1 else 0))), mk F G) := by
  obtain ⟨_, t2, t3, _⟩ := h
  unfold rg at hi
  rw [E_Reader_isTapeAt, isO_128, if_pos rfl, lit_0]
  by_cases q : i < 0
  · rw [if_pos (by rw [jI_lt (by omega) (by omega) (by omega) (by omega)]; omega), if_neg (by omega)]
  · rw [if_neg (by rw [jI_lt (by omega) (by omega) (by omega) (by omega)]; omega), fI_128_2, Option.bind_some, t2]
    by_cases q2 : n ≤ i
    · rw [if_pos (by rw [jI_le (by omega) (by omega) (by omega) (by omega)]; omega), if_neg (by omega)]
    · rw [if_neg (by rw [jI_le (by omega) (by omega) (by omega) (by omega)]; omega), show (300 : Int32) = jI 300 from by decide, if_neg (by rw [jI_le (by omega) (by omega) (by omega) (by omega)]; omega), if_pos (by omega)]
      rfl
theorem C_isLet {b : Int} (hb : 0 ≤ b ∧ b ≤ 255) : m_M x k_Reader_isLetter [.int (jI b)] (mk F G) = some (some (.int (jI (if lb b = true then 1 else 0))), mk F G) := by
  have f : ∀ v : Fin 256, (if jI (v.val : Int) < 97 then (if jI (v.val : Int) < 65 then (0 : Int32) else if 90 < jI (v.val : Int) then 0 else 1) else if jI (v.val : Int) ≤ 122 then 1 else if jI (v.val : Int) < 65 then 0 else if 90 < jI (v.val : Int) then 0 else 1) = jI (if lb (v.val : Int) = true then 1 else 0) := by decide +kernel
  have g := f ⟨b.toNat, by omega⟩
  have e : ((b.toNat : Nat) : Int) = b := by omega
  simp only [e] at g
  rw [E_Reader_isLetter, ← g]
  split
  · split
    · rfl
    · split <;> rfl
  · split
    · rfl
    · split
      · rfl
      · split <;> rfl
theorem C_isDig {b : Int} (hb : 0 ≤ b ∧ b ≤ 255) : m_M x k_Reader_isDigit [.int (jI b)] (mk F G) = some (some (.int (jI (if db b = true then 1 else 0))), mk F G) := by
  rw [E_Reader_isDigit, show (48 : Int32) = jI 48 from by decide, show (57 : Int32) = jI 57 from by decide]
  unfold db
  simp only [decide_eq_true_eq]
  by_cases q : b < 48
  · rw [if_pos (by rw [jI_lt (by omega) (by omega) (by omega) (by omega)]; omega), if_neg (by omega)]
    rfl
  · rw [if_neg (by rw [jI_lt (by omega) (by omega) (by omega) (by omega)]; omega)]
    by_cases q2 : 57 < b
    · rw [if_pos (by rw [jI_lt (by omega) (by omega) (by omega) (by omega)]; omega), if_neg (by omega)]
      rfl
    · rw [if_neg (by rw [jI_lt (by omega) (by omega) (by omega) (by omega)]; omega), if_pos (by omega)]
      rfl
theorem C_adv5 {T : Fn} {n : Int} (h : TP F T n) : ∀ (k : Nat) (p : Int), 0 ≤ p → p + k = n → m_D x 7 k_Reader_advance 5 [some (.ref 128), some (.int (jI p))] [] (mk F G) = m_D x 7 k_Reader_advance 49 [some (.ref 128), some (.int (jI (rn (fun i => bb (T i)) k p)))] [] (mk F G) := by
  have h' := h
  obtain ⟨t1, t2, t3, t4⟩ := h'
  intro k
  induction k with
  | zero =>
    intro p p0 hp
    rw [E_Reader_advance_5 x 7 (by omega), fI_128_2, Option.bind_some, t2, if_pos (by rw [jI_le (by omega) (by omega) (by omega) (by omega)]; omega), rn]
  | succ k ih =>
    intro p p0 hp
    have b := t4 p p0 (by omega)
    rw [E_Reader_advance_5 x 7 (by omega), fI_128_2, Option.bind_some, t2, if_neg (by rw [jI_le (by omega) (by omega) (by omega) (by omega)]; omega), C_isTape x F G h (by unfold rg; omega), if_pos (by omega), b_I, if_neg (by decide), fR_128_1, Option.bind_some, ia_135 x F G p0 (by omega), Option.bind_some, t1, show (32 : Int32) = jI 32 from by decide, show (10 : Int32) = jI 10 from by decide, lit_1, jI_add, rn]
    unfold bb
    simp only [decide_eq_true_eq]
    by_cases q : T p = 32
    · rw [if_pos (by rw [q]), if_pos (Or.inl q)]
      exact ih (p + 1) (by omega) (by omega)
    · rw [if_neg (by rw [jI_eq (by omega) (by omega) (by omega) (by omega)]; omega), Option.bind_some, ia_135 x F G p0 (by omega), Option.bind_some, t1]
      by_cases q2 : T p = 10
      · rw [if_pos (by rw [q2]), if_pos (Or.inr q2)]
        exact ih (p + 1) (by omega) (by omega)
      · rw [if_neg (by rw [jI_eq (by omega) (by omega) (by omega) (by omega)]; omega), if_neg (by omega)]
theorem C_advW (hX : x.2.2 = .null ∨ ∃ a, x.2.2 = .ref a) {T : Fn} {n p : Int} (h : TP F T n) (hp : F 128 7 = p) (p0 : 0 ≤ p) : ∀ (k : Nat) (q : Int), p ≤ q → q + k = n → ∃ F2, m_D x 6 k_Reader_advanceOverWord 5 [some (.ref 128), some (.int (jI q))] [] (mk F G) = some (none, mk F2 G) ∧ ag8 F F2 ∧ F2 128 5 = kw (bl T (rn (fun i => lb (T i)) k q - p).toNat p) ∧ F2 128 7 = p ∧ F2 128 8 = rn (fun i => lb (T i)) k q := by
  have h' := h
  obtain ⟨t1, t2, t3, t4⟩ := h'
  have fin : ∀ q, p ≤ q → q ≤ n → ∃ F2, ((m_pf (mk F G) 3 8 128 (.int (jI q))).bind fun s41 => (m_fR s41 3 1 128).bind fun v46 => (m_fI s41 3 7 128).bind fun v50 => m_bI (m_M x k_Words_wordOf [.ref v46, .int v50, .int (jI q)] s41) fun v54 s54 => (m_pf s54 3 5 128 (.int v54)).bind fun s57 => (some (none, s57) : Option m_R)) = some (none, mk F2 G) ∧ ag8 F F2 ∧ F2 128 5 = kw (bl T (q - p).toNat p) ∧ F2 128 7 = p ∧ F2 128 8 = q := by
    intro q q0 q1
    have cw := C_wordOf x (sA F 128 (u (F 128) 8 q)) G hX (T := T) (from' := p) (to := q) (by rw [sA_ne _ _ (by omega)]; exact t1) (fun i i0 i1 => t4 i (by omega) (by omega)) p0 q0 (by omega)
    have e7 : (sA F 128 (u (F 128) 8 q)) 128 7 = p := by rw [sA_eq, u_ne _ _ (by omega)]; exact hp
    rw [pf_128_8, Option.bind_some, fR_128_1, Option.bind_some, fI_128_7, Option.bind_some, e7, cw, b_I, pf_128_5, Option.bind_some]
    refine ⟨_, rfl, ag8_tr (ag8_u (by omega)) (ag8_u (by omega)), ?_, ?_, ?_⟩
    · rw [sA_eq, u_eq]
    · rw [sA_eq, u_ne _ _ (by omega)]; exact e7
    · rw [sA_eq, u_ne _ _ (by omega), sA_eq, u_eq]
  intro k
  induction k with
  | zero =>
    intro q q0 q1
    rw [E_Reader_advanceOverWord_5 x 6 (by omega), fI_128_2, Option.bind_some, t2, if_pos (by rw [jI_le (by omega) (by omega) (by omega) (by omega)]; omega), rn]
    exact fin q q0 (by omega)
  | succ k ih =>
    intro q q0 q1
    have b := t4 q (by omega) (by omega)
    rw [E_Reader_advanceOverWord_5 x 6 (by omega), fI_128_2, Option.bind_some, t2, if_neg (by rw [jI_le (by omega) (by omega) (by omega) (by omega)]; omega), C_isTape x F G h (by unfold rg; omega), if_pos (by omega), b_I, if_neg (by decide), fR_128_1, Option.bind_some, ia_135 x F G (by omega) (by omega), Option.bind_some, t1, C_isLet x F G b, b_I, rn]
    by_cases l : lb (T q) = true
    · rw [if_pos l, if_pos l, if_neg (by decide), lit_1, jI_add]
      exact ih (q + 1) (by omega) (by omega)
    · rw [if_neg l, if_neg l, if_pos (by decide)]
      exact fin q q0 (by omega)
theorem C_advN {T : Fn} {n p : Int} (p0 : 0 ≤ p) : ∀ (k : Nat) (q a : Int) (F1 : Nat → Fn), TP F1 T n → F1 128 7 = p → F1 128 6 = a → 0 ≤ a → a ≤ 10000 → ag8 F F1 → p ≤ q → q + k = n → ∃ F2, m_D x 2 k_Reader_advanceOverNumber 10 [some (.ref 128), some (.int (jI q))] [] (mk F1 G) = some (none, mk F2 G) ∧ ag8 F F2 ∧ F2 128 5 = 51 ∧ F2 128 7 = p ∧ F2 128 8 = rn (fun i => db (T i)) k q ∧ F2 128 6 = cnR T k q a := by
  have fin : ∀ (q : Int) (F1 : Nat → Fn), F1 128 7 = p → ag8 F F1 → ∃ F2, ((m_pf (mk F1 G) 3 8 128 (.int (jI q))).bind fun s73 => (m_pf s73 3 5 128 (.int 51)).bind fun s79 => (some (none, s79) : Option m_R)) = some (none, mk F2 G) ∧ ag8 F F2 ∧ F2 128 5 = 51 ∧ F2 128 7 = p ∧ F2 128 8 = q ∧ F2 128 6 = F1 128 6 := by
    intro q F1 hp ha
    rw [pf_128_8, Option.bind_some, show (51 : Int32) = jI 51 from by decide, pf_128_5, Option.bind_some]
    refine ⟨_, rfl, ag8_tr (ag8_tr ha (ag8_u (by omega))) (ag8_u (by omega)), ?_, ?_, ?_, ?_⟩
    · rw [sA_eq, u_eq]
    · rw [sA_eq, u_ne _ _ (by omega), sA_eq, u_ne _ _ (by omega)]; exact hp
    · rw [sA_eq, u_ne _ _ (by omega), sA_eq, u_eq]
    · rw [sA_eq, u_ne _ _ (by omega), sA_eq, u_ne _ _ (by omega)]
  intro k
  induction k with
  | zero =>
    intro q a F1 h hp h6 a0 a1 ha q0 q1
    have h' := h
    obtain ⟨t1, t2, t3, t4⟩ := h'
    rw [E_Reader_advanceOverNumber_10 x 2 (by omega), fI_128_2, Option.bind_some, t2, if_pos (by rw [jI_le (by omega) (by omega) (by omega) (by omega)]; omega), rn, cnR, ← h6]
    exact fin q F1 hp ha
  | succ k ih =>
    intro q a F1 h hp h6 a0 a1 ha q0 q1
    have h' := h
    obtain ⟨t1, t2, t3, t4⟩ := h'
    have b := t4 q (by omega) (by omega)
    rw [E_Reader_advanceOverNumber_10 x 2 (by omega), fI_128_2, Option.bind_some, t2, if_neg (by rw [jI_le (by omega) (by omega) (by omega) (by omega)]; omega), C_isTape x F1 G h (by unfold rg; omega), if_pos (by omega), b_I, if_neg (by decide), fR_128_1, Option.bind_some, ia_135 x F1 G (by omega) (by omega), Option.bind_some, t1, C_isDig x F1 G b, b_I, rn, cnR]
    by_cases l : db (T q) = true
    · have l' : 48 ≤ T q ∧ T q ≤ 57 := by unfold db at l; simpa using l
      simp only [if_pos l]
      rw [if_neg (by decide), fI_128_6, Option.bind_some, fR_128_1, Option.bind_some, ia_135 x F1 G (by omega) (by omega), Option.bind_some, t1, h6, show (10 : Int32) = jI 10 from by decide, show (48 : Int32) = jI 48 from by decide, show (10000 : Int32) = jI 10000 from by decide, jI_mul, jI_add, jI_sub, C_min x F1 G (by unfold rg; omega) (by unfold rg; omega), b_I, pf_128_6, Option.bind_some, lit_1, jI_add]
      have ag1 : ag8 F (sA F1 128 (u (F1 128) 6 (min (a * 10 + T q - 48) 10000))) := ag8_tr ha (ag8_u (by omega))
      exact ih (q + 1) _ (sA F1 128 (u (F1 128) 6 (min (a * 10 + T q - 48) 10000))) (ag8_TP (ag8_u (by omega)) h) (by rw [sA_eq, u_ne _ _ (by omega)]; exact hp) (by rw [sA_eq, u_eq]) (by omega) (by omega) ag1 (by omega) (by omega)
    · simp only [if_neg l]
      rw [if_pos (by decide), ← h6]
      exact fin q F1 hp ha
theorem sy_r {v : Int} : sy v = 53 ∨ (37 ≤ sy v ∧ sy v ≤ 47) := by
  unfold sy
  have := sIx_r v 11 (by omega)
  split <;> omega
theorem C_advS {T : Fn} {n p : Int} (h : TP F T n) (hp : F 128 7 = p) (hp8 : F 128 8 = p) (p0 : 0 ≤ p) (p1 : p < n) : ∃ F2, m_M x k_Reader_advanceOverSymbol [.ref 128] (mk F G) = some (none, mk F2 G) ∧ ag8 F F2 ∧ F2 128 5 = (if (sy (T p) = 37 ∨ sy (T p) = 38) ∧ (p + 1 < n ∧ T (p + 1) = 61) then sy (T p) + 11 else sy (T p)) ∧ F2 128 7 = p ∧ F2 128 8 = (if (sy (T p) = 37 ∨ sy (T p) = 38) ∧ (p + 1 < n ∧ T (p + 1) = 61) then p + 2 else p + 1) := by
  have h' := h
  obtain ⟨t1, t2, t3, t4⟩ := h'
  have b := t4 p p0 p1
  have sr := sy_r (v := T p)
  rw [E_Reader_advanceOverSymbol, isO_128, if_pos rfl, fI_128_8, Option.bind_some, hp8, C_isTape x F G h (by unfold rg; omega), if_pos (by omega), b_I, if_neg (by decide), fR_128_1, Option.bind_some, fI_128_8, Option.bind_some, hp8, ia_135 x F G p0 (by omega), Option.bind_some, t1, C_symbolOf x F G b.1 b.2, b_I]
  rw [E_Reader_advanceOverSymbol_29 x 6 (by omega), pf_128_5, Option.bind_some, fI_128_8, Option.bind_some]
  generalize hF1 : sA F 128 (u (F 128) 5 (sy (T p))) = F1
  have e8 : F1 128 8 = p := by rw [← hF1, sA_eq, u_ne _ _ (by omega)]; exact hp8
  have a1 : ag8 F F1 := by rw [← hF1]; exact ag8_u (by omega)
  rw [e8, lit_1, jI_add, pf_128_8, Option.bind_some]
  generalize hF2 : sA F1 128 (u (F1 128) 8 (p + 1)) = F2
  have g8 : F2 128 8 = p + 1 := by rw [← hF2, sA_eq, u_eq]
  have g7 : F2 128 7 = p := by rw [← hF2, sA_eq, u_ne _ _ (by omega), ← hF1, sA_eq, u_ne _ _ (by omega)]; exact hp
  have g5 : F2 128 5 = sy (T p) := by rw [← hF2, sA_eq, u_ne _ _ (by omega), ← hF1, sA_eq, u_eq]
  have a2 : ag8 F F2 := by rw [← hF2]; exact ag8_tr a1 (ag8_u (by omega))
  have h2 := ag8_TP a2 h
  have s1 := h2.1
  rw [fI_128_8, Option.bind_some, g8, C_isTape x F2 G h2 (by unfold rg; omega), b_I]
  by_cases q : 0 ≤ p + 1 ∧ p + 1 < n
  · have b2 := t4 (p + 1) q.1 q.2
    rw [if_pos q, if_neg (by decide), fR_128_1, Option.bind_some, fI_128_8, Option.bind_some, g8, ia_135 x F2 G (by omega) (by omega), Option.bind_some, s1, show (61 : Int32) = jI 61 from by decide, show (37 : Int32) = jI 37 from by decide, show (38 : Int32) = jI 38 from by decide]
    by_cases q2 : T (p + 1) = 61
    · rw [if_pos (by rw [q2]), fI_128_5, Option.bind_some, g5]
      by_cases q3 : sy (T p) = 37
      · rw [if_pos (by rw [q3]), E_Reader_advanceOverSymbol_95 x 6 (by omega), fI_128_5, Option.bind_some, g5, if_pos (by rw [q3]; decide), show (48 : Int32) = jI 48 from by decide, pf_128_5, Option.bind_some, fI_128_8, Option.bind_some, sA_eq, u_ne (F2 128) _ (by omega), g8, lit_1, jI_add, pf_128_8, Option.bind_some, if_pos ⟨Or.inl q3, q.2, q2⟩, if_pos ⟨Or.inl q3, q.2, q2⟩]
        refine ⟨_, rfl, ag8_tr (ag8_tr a2 (ag8_u (by omega))) (ag8_u (by omega)), ?_, ?_, ?_⟩
        · rw [sA_eq, u_ne _ _ (by omega), sA_eq, u_eq]; omega
        · rw [sA_eq, u_ne _ _ (by omega), sA_eq, u_ne _ _ (by omega)]; exact g7
        · rw [sA_eq, u_eq]; omega
      · rw [if_neg (by rw [jI_eq (by omega) (by omega) (by omega) (by omega)]; omega), Option.bind_some]
        by_cases q4 : sy (T p) = 38
        · rw [if_pos (by rw [q4]), E_Reader_advanceOverSymbol_95 x 6 (by omega), fI_128_5, Option.bind_some, g5, if_neg (by rw [q4]; decide), show (49 : Int32) = jI 49 from by decide, pf_128_5, Option.bind_some, fI_128_8, Option.bind_some, sA_eq, u_ne (F2 128) _ (by omega), g8, lit_1, jI_add, pf_128_8, Option.bind_some, if_pos ⟨Or.inr q4, q.2, q2⟩, if_pos ⟨Or.inr q4, q.2, q2⟩]
          refine ⟨_, rfl, ag8_tr (ag8_tr a2 (ag8_u (by omega))) (ag8_u (by omega)), ?_, ?_, ?_⟩
          · rw [sA_eq, u_ne _ _ (by omega), sA_eq, u_eq]; omega
          · rw [sA_eq, u_ne _ _ (by omega), sA_eq, u_ne _ _ (by omega)]; exact g7
          · rw [sA_eq, u_eq]; omega
        · rw [if_neg (by rw [jI_eq (by omega) (by omega) (by omega) (by omega)]; omega), if_neg (by omega), if_neg (by omega)]
          exact ⟨F2, rfl, a2, g5, g7, g8⟩
    · rw [if_neg (by rw [jI_eq (by omega) (by omega) (by omega) (by omega)]; omega), if_neg (by omega), if_neg (by omega)]
      exact ⟨F2, rfl, a2, g5, g7, g8⟩
  · rw [if_neg q, if_pos (by decide), if_neg (by omega), if_neg (by omega)]
    exact ⟨F2, rfl, a2, g5, g7, g8⟩
theorem C_advance (hX : x.2.2 = .null ∨ ∃ a, x.2.2 = .ref a) {T : Fn} {n a : Int} (h : TP F T n) (ha : F 128 8 = a) (a0 : 0 ≤ a) (a1 : a ≤ n) : ∃ F2, m_M x k_Reader_advance [.ref 128] (mk F G) = some (none, mk F2 G) ∧ ag8 F F2 ∧ CT F2 T n (sk T n a) := by
  have h' := h
  obtain ⟨t1, t2, t3, t4⟩ := h'
  rw [E_Reader_advance, isO_128, if_pos rfl, fI_128_8, Option.bind_some, ha, C_adv5 x F G h (n - a).toNat a a0 (by omega)]
  have rr := rn_r (fun i => bb (T i)) (n - a).toNat a
  have es : rn (fun i => bb (T i)) (n - a).toNat a = sk T n a := rfl
  rw [es] at rr ⊢
  generalize sk T n a = p at *
  have p0 : 0 ≤ p := by omega
  have p1 : p ≤ n := by omega
  rw [E_Reader_advance_49 x 7 (by omega), pf_128_7, Option.bind_some, pf_128_8, Option.bind_some]
  generalize hF1 : sA (sA F 128 (u (F 128) 7 p)) 128 (u (sA F 128 (u (F 128) 7 p) 128) 8 p) = F1
  have g8 : F1 128 8 = p := by rw [← hF1, sA_eq, u_eq]
  have g7 : F1 128 7 = p := by rw [← hF1, sA_eq, u_ne _ _ (by omega), sA_eq, u_eq]
  have ag1 : ag8 F F1 := by rw [← hF1]; exact ag8_tr (ag8_u (by omega)) (ag8_u (by omega))
  have h1 := ag8_TP ag1 h
  have s1 := h1.1
  rw [fI_128_8, Option.bind_some, g8, C_isTape x F1 G h1 (by unfold rg; omega), b_I]
  by_cases q : 0 ≤ p ∧ p < n
  · have b := t4 p q.1 q.2
    have nn : ¬ n ≤ p := by omega
    rw [if_pos q, if_neg (by decide), fR_128_1, Option.bind_some, fI_128_8, Option.bind_some, g8, ia_135 x F1 G q.1 (by omega), Option.bind_some, s1, C_isLet x F1 G b, b_I]
    unfold CT
    by_cases l : lb (T p) = true
    · obtain ⟨F2, y1, y2, y3, y4, y5⟩ := C_advW x F1 G hX h1 g7 p0 (n - p).toNat p (Int.le_refl _) (by omega)
      refine ⟨F2, ?_, ag8_tr ag1 y2, ⟨?_, y4, ?_⟩, ⟨p0, p1⟩, ?_⟩
      · rw [if_pos l, if_neg (by decide), E_Reader_advanceOverWord, isO_128, if_pos rfl, fI_128_7, Option.bind_some, g7, y1, b_V]
      · unfold kd; rw [if_neg nn, if_pos l]; exact y3
      · unfold tle; rw [if_neg nn, if_pos l]; exact y5
      · intro hk
        exfalso
        unfold kd at hk
        rw [if_neg nn, if_pos l] at hk
        have : ∀ (ws : List (List Int)) (i : Int) (l : List Int), 0 ≤ i → i + ws.length ≤ 37 → kwF ws i l = 53 ∨ (0 ≤ kwF ws i l ∧ kwF ws i l ≤ 36) := by
          intro ws
          induction ws with
          | nil => intro i l _ _; exact Or.inl rfl
          | cons w ws ih =>
            intro i l h0 h1
            rw [kwF]
            simp only [List.length_cons] at h1
            split
            · right; omega
            · exact ih (i + 1) l (by omega) (by omega)
        have := this SP 0 (bl T (rn (fun i => lb (T i)) (n - p).toNat p - p).toNat p) (by omega) (by decide)
        unfold kw at hk
        omega
    · rw [if_neg l, if_pos (by decide), fR_128_1, Option.bind_some, fI_128_8, Option.bind_some, g8, ia_135 x F1 G q.1 (by omega), Option.bind_some, s1, C_isDig x F1 G b, b_I]
      by_cases dg : db (T p) = true
      · obtain ⟨F2, y1, y2, y3, y4, y5, y6⟩ := C_advN x (sA F1 128 (u (F1 128) 6 0)) G (T := T) (n := n) (p := p) p0 (n - p).toNat p 0 (sA F1 128 (u (F1 128) 6 0)) (ag8_TP (ag8_u (by omega)) h1) (by rw [sA_eq, u_ne _ _ (by omega)]; exact g7) (by rw [sA_eq, u_eq]) (by omega) (by omega) ⟨fun _ _ => rfl, fun _ _ => rfl⟩ (Int.le_refl _) (by omega)
        refine ⟨F2, ?_, ag8_tr (ag8_tr ag1 (ag8_u (by omega))) y2, ⟨?_, y4, ?_⟩, ⟨p0, p1⟩, fun _ => y6⟩
        · rw [if_pos dg, if_neg (by decide), E_Reader_advanceOverNumber, isO_128, if_pos rfl, fI_128_7, Option.bind_some, g7, lit_0, pf_128_6, Option.bind_some, y1, b_V]
        · unfold kd; rw [if_neg nn, if_neg l, if_pos dg]; exact y3
        · unfold tle; rw [if_neg nn, if_neg l, if_pos dg]; exact y5
      · obtain ⟨F2, y1, y2, y3, y4, y5⟩ := C_advS x F1 G h1 g7 g8 p0 q.2
        refine ⟨F2, ?_, ag8_tr ag1 y2, ⟨?_, y4, ?_⟩, ⟨p0, p1⟩, ?_⟩
        · rw [if_neg dg, if_pos (by decide), y1, b_V]
        · unfold kd; rw [if_neg nn, if_neg l, if_neg dg]; exact y3
        · unfold tle; rw [if_neg nn, if_neg l, if_neg dg]; exact y5
        · intro hk
          exfalso
          unfold kd at hk
          rw [if_neg nn, if_neg l, if_neg dg] at hk
          have := sy_r (v := T p)
          split at hk <;> omega
  · have ep : p = n := by omega
    rw [if_neg q, if_pos (by decide), show (52 : Int32) = jI 52 from by decide, pf_128_5, Option.bind_some, fI_128_2, Option.bind_some, pf_128_7, Option.bind_some]
    refine ⟨_, rfl, ag8_tr (ag8_tr ag1 (ag8_u (by omega))) (ag8_u (by omega)), ⟨?_, ?_, ?_⟩, ⟨p0, p1⟩, ?_⟩
    · unfold kd; rw [if_pos (by omega), sA_eq, u_ne _ _ (by omega), sA_eq, u_eq]
    · rw [sA_eq, u_eq, sA_eq, u_ne _ _ (by omega), h1.2.1, ep]
    · unfold tle; rw [if_pos (by omega), sA_eq, u_ne _ _ (by omega), sA_eq, u_ne _ _ (by omega)]; exact g8
    · intro hk
      exfalso
      unfold kd at hk
      rw [if_pos (by omega)] at hk
      omega
end
