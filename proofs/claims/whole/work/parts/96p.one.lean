-- reading: one
section
variable (x : m_X)
def M1 (x : m_X) (T : Fn) (n t s p op : Int) (r : (Int × Int) ⊕ (Int × LEnv)) : Prop := ∀ F G d Q w, m_nl d = true → STa F G T n t s p Q op w 0 → okQ Q → (kd T n p = 36 → ¬ aa Q = true) → Q.length ≤ 6 * op.toNat + 5 → 0 ≤ w → w ≤ p → Sum.elim (fun e => Mfl x d F F G t w e.1 e.2) (fun q => ∃ F2 G2 d2 w3 wh, m_nl d2 = true ∧ LH x d F G = EO x d2 F2 G2 ∧ STa F2 G2 T n t s q.1 Q op w3 wh ∧ aqM t w F F2 ∧ w < w3 ∧ w3 - w ≤ q.1 - p ∧ MCo s (cod t F2) w w3 q.2) r
def EX1 (x : m_X) (T : Fn) (n t s p op : Int) : Prop := ∃ r, Cok x k_Reader_readOne [.ref 128, .int (jI op)] s T n p r (Dp op) ∧ M1 x T n t s p op r ∧ ∀ q, r = .inr q → (p < q.1 ∧ q.1 ≤ n) ∧ bdE q.2
theorem EXO_of {T : Fn} {n t s p op : Int} (hop : 0 ≤ op ∧ op ≤ 8) (h : EX1 x T n t s p op) : EXO x T n t s p op := by
  obtain ⟨r, c1, c2, c3⟩ := h
  refine ⟨r, c1, ?_, c3⟩
  intro F G d Q w b1 b2 b3 b4 b5 b6 b7
  have z := c2 F G d Q w b1 b2 b3 b4.1 b5 b6 b7
  cases r with
  | inl e => exact z
  | inr q =>
    obtain ⟨F2, G2, d2, w3, wh, y0, y1, y2, y3, y4, y5, y6⟩ := z
    have rk7 : ∀ o R, Q = o :: R → ¬ rk o = 7 ∧ ¬ o = 41 := by
      intro o R hR
      have := b4.2 o R hR
      exact ⟨by omega, this.2⟩
    obtain ⟨F3, k1, k2, k3, k4⟩ := EO_end x F2 G2 y0 y2 b3 (by omega) rk7
    refine ⟨F3, G2, F3, some (.int (jI 0)), w3, rfl, by rw [y1]; exact k1, Beh_0 k2 b3 (by omega), aqM_tr y3 k3 (by omega), aqM_tr y3 k3 (by omega), y4, y5, ?_⟩
    show MCo s (cod t F3) w w3 q.2
    unfold cod
    rw [k4]
    exact y6
theorem word_len {T : Fn} {n p : Int} (hB : BY T n) (p0 : 0 ≤ p) {j : Nat} (hj : j < 37) (h : kd T n p = (j : Int)) : tle T n p - p = ((SP.getD j []).length : Int) := by
  have w := (kt_w hB p0 hj).2 h
  have hk : p < n ∧ lb (T p) = true ∧ kd T n p = kw (bl T (rn (fun i => lb (T i)) (n - p).toNat p - p).toNat p) := by
    rcases kt hB p0 with ⟨_, h1, h2⟩ | ⟨a1, a2, h1, h2⟩ | ⟨_, h1, h2⟩ | ⟨_, c, c1, c2, c3⟩ | ⟨_, h1, h2⟩
    · omega
    · exact ⟨a1, a2, h2⟩
    · omega
    · have := tk_c c1
      omega
    · omega
  have el : tle T n p = rn (fun i => lb (T i)) (n - p).toNat p := by
    unfold tle
    rw [if_neg (by omega), if_pos hk.2.1]
  have rr := rn_r (fun i => lb (T i)) (n - p).toNat p
  have ki := (kw_iff (l := bl T (rn (fun i => lb (T i)) (n - p).toNat p - p).toNat p) hj).1 (by rw [← hk.2.2]; exact h)
  have blen : ∀ (k : Nat) (p : Int), (bl T k p).length = k := by
    intro k
    induction k with
    | zero => intro p; rfl
    | succ k ih => intro p; rw [bl, List.length_cons, ih]
  have := congrArg List.length ki
  rw [blen] at this
  rw [el]
  omega
theorem nx_2 {T : Fn} {n p : Int} (hB : BY T n) (p0 : 0 ≤ p) (h : kd T n p = 31 ∨ kd T n p = 32) : p + 4 ≤ nxp T n p := by
  have l : tle T n p - p = 4 := by
    rcases h with h | h
    · exact word_len hB p0 (j := 31) (by omega) h
    · exact word_len hB p0 (j := 32) (by omega) h
  have r := rn_r (fun i => bb (T i)) (n - tle T n p).toNat (tle T n p)
  unfold nxp sk
  omega
theorem C_addLeap {F G : Nat → Fn} {dd : Int} (hl : 0 ≤ F 129 6 ∧ F 129 6 ≤ 298) : ∃ F2, m_M x k_Script_addLeap [.ref 129, .int (jI dd)] (mk F G) = some (some (.int (jI (F 129 6 + 1))), mk F2 G) ∧ aqD F F2 ∧ F2 129 6 = F 129 6 + 2 ∧ F2 133 = u (u (F 133) (F 129 6) (-1 - dd)) (F 129 6 + 1) 0 := by
  have i0 : m_isO (mk F G) 129 5 = true := isO_P F G (by omega)
  obtain ⟨F1, y1, y2, y3, y4⟩ := C_addDeed x F G (dd := dd) ⟨hl.1, by omega⟩
  obtain ⟨y5, y6⟩ := y4 (by omega)
  obtain ⟨F2, z1, z2, z3, z4⟩ := C_add x F1 G (v := 0) ⟨by omega, by omega⟩
  obtain ⟨z5, z6⟩ := z4 (by omega)
  have f6 : m_fI (mk F2 G) 5 6 129 = some (jI (F2 129 6)) := fI_P_6 F2 G (by omega)
  refine ⟨F2, ?_, aqD_tr y2 z2, by omega, by rw [z6, y6, y5]⟩
  rw [E_Script_addLeap, i0, if_pos rfl, y1, b_V, show (0 : Int32) = jI 0 from rfl, z1, b_V, f6, Option.bind_some, z5, y5, show (1 : Int32) = jI 1 from rfl, jI_sub, show F 129 6 + 1 + 1 - 1 = F 129 6 + 1 from by omega]
theorem C_aimHere {F G : Nat → Fn} {l : Int} (hl : 0 ≤ l ∧ l < 300) : ∃ F2, m_M x k_Script_aimHere [.ref 129, .int (jI l)] (mk F G) = some (none, mk F2 G) ∧ aqD F F2 ∧ F2 129 = F 129 ∧ F2 133 = u (F 133) l (F 129 6) := by
  have i0 : m_isO (mk F G) 129 5 = true := isO_P F G (by omega)
  have f6 : m_fI (mk F G) 5 6 129 = some (jI (F 129 6)) := fI_P_6 F G (by omega)
  have r3 : m_fR (mk F G) 5 3 129 = some 133 := fR_P_3 F G (w := 129) (by omega)
  have w4 : m_is (mk F G) 133 (jI l) (jI (F 129 6)) = some (mk (sA F 133 (u (F 133) l (F 129 6))) G) := is_P4 F G (w := 129) (F 129 6) (by omega) hl.1 hl.2
  refine ⟨sA F 133 (u (F 133) l (F 129 6)), ?_, ⟨fun b _ b2 => by rw [sA_ne _ _ b2], fun z _ => by rw [sA_ne _ _ (by omega)]⟩, by rw [sA_ne _ _ (by omega)], by rw [sA_eq]⟩
  rw [E_Script_aimHere, i0, if_pos rfl, show (0 : Int32) = jI 0 from rfl, if_neg (by rw [jI_lt (by omega) (by omega) (by omega) (by omega)]; omega), show (300 : Int32) = jI 300 from by decide, if_neg (by rw [jI_le (by omega) (by omega) (by omega) (by omega)]; omega), r3, Option.bind_some, f6, Option.bind_some, w4, Option.bind_some]
/-- what stands first decides -/
theorem R_sw {F G : Nat → Fn} {k op : Int} (hc : F 128 5 = k) (hk : 0 ≤ k ∧ k ≤ 60) (hop : 0 ≤ op ∧ op < 8) : m_M x k_Reader_readOne [.ref 128, .int (jI op)] (mk F G) = (if k = 27 then (m_bI (m_M x k_Reader_opens [.ref 128, .int (jI op)] (mk F G)) fun v174 s174 => if v174 = jI 0 then (some (some (.int (jI 0)), s174)) else m_bI (m_M x k_Reader_readOne [.ref 128, .int (jI (op + 1))] s174) fun v184 s184 => if v184 = jI 0 then (some (some (.int (jI 0)), s184)) else m_bI (m_M x k_Reader_expects [.ref 128, .int (jI 28)] s184) fun v193 s193 => if v193 = jI 0 then (some (some (.int (jI 0)), s193)) else m_bI (m_M x k_Reader_readOne [.ref 128, .int (jI (op + 1))] s193) fun v203 s203 => if v203 = jI 0 then (some (some (.int (jI 0)), s203)) else m_bI (m_M x k_Reader_does [.ref 128, .int (jI 27)] s203) fun v212 s212 => if v212 = jI 0 then (some (some (.int (jI 0)), s212)) else some (some (.int (jI 1)), s212)) else if k = 29 then (m_bI (m_M x k_Reader_opens [.ref 128, .int (jI op)] (mk F G)) fun v141 s141 => if v141 = jI 0 then (some (some (.int (jI 0)), s141)) else m_bI (m_M x k_Reader_readOne [.ref 128, .int (jI (op + 1))] s141) fun v151 s151 => if v151 = jI 0 then (some (some (.int (jI 0)), s151)) else m_bI (m_M x k_Reader_does [.ref 128, .int (jI 29)] s151) fun v160 s160 => if v160 = jI 0 then (some (some (.int (jI 0)), s160)) else some (some (.int (jI 1)), s160)) else if k = 30 then (m_bI (m_M x k_Reader_opens [.ref 128, .int (jI op)] (mk F G)) fun v226 s226 => if v226 = jI 0 then (some (some (.int (jI 0)), s226)) else m_bI (m_M x k_Reader_readChoice [.ref 128, .int (jI (op + 1))] s226) fun v236 s236 => if v236 = jI 0 then (some (some (.int (jI 0)), s236)) else some (some (.int (jI 1)), s236)) else if k = 42 then (m_bI (m_M x k_Reader_opens [.ref 128, .int (jI op)] (mk F G)) fun v108 s108 => if v108 = jI 0 then (some (some (.int (jI 0)), s108)) else m_bI (m_M x k_Reader_readOne [.ref 128, .int (jI (op + 1))] s108) fun v118 s118 => if v118 = jI 0 then (some (some (.int (jI 0)), s118)) else m_bI (m_M x k_Reader_does [.ref 128, .int (jI 50)] s118) fun v127 s127 => if v127 = jI 0 then (some (some (.int (jI 0)), s127)) else some (some (.int (jI 1)), s127)) else if k = 45 then (m_bI (m_M x k_Reader_opens [.ref 128, .int (jI op)] (mk F G)) fun v75 s75 => if v75 = jI 0 then (some (some (.int (jI 0)), s75)) else m_bI (m_M x k_Reader_readSum [.ref 128, .int (jI (op + 1))] s75) fun v85 s85 => if v85 = jI 0 then (some (some (.int (jI 0)), s85)) else m_bI (m_M x k_Reader_expects [.ref 128, .int (jI 46)] s85) fun v94 s94 => if v94 = jI 0 then (some (some (.int (jI 0)), s94)) else some (some (.int (jI 1)), s94)) else if k = 51 then (m_bI (m_M x k_Reader_readNumber [.ref 128, .int (jI 0), .int (jI 9999)] (mk F G)) fun v69 s69 => if m_rk (some .boolean) (some (.int v69)) = true then some (some (.int v69), s69) else none) else m_bI (m_M x k_Reader_readName [.ref 128] (mk F G)) fun v249 s249 => if m_rk (some .boolean) (some (.int v249)) = true then some (some (.int v249), s249) else none) := by
  have o1 : (0 : Int) ≤ op ∧ op ≤ 8 := by omega
  have o2 : (0 : Int) ≤ op + 1 ∧ op + 1 ≤ 8 := by omega
  have r1 := rk_one o1
  have r2 := rk_one o2
  have r3 := rk_sum o2
  have r4 := rk_choice o2
  have c1 : m_rank k_Reader_readOne [.ref 128, .int (jI (op + 1))] < m_rank k_Reader_readOne [.ref 128, .int (jI op)] := by omega
  have c2 : m_rank k_Reader_readSum [.ref 128, .int (jI (op + 1))] < m_rank k_Reader_readOne [.ref 128, .int (jI op)] := by omega
  have c3 : m_rank k_Reader_readChoice [.ref 128, .int (jI (op + 1))] < m_rank k_Reader_readOne [.ref 128, .int (jI op)] := by omega
  have e1 : jI op + (1 : Int32) = jI (op + 1) := by rw [lit_1, jI_add]
  rw [E_Reader_readOne, isO_128, if_pos rfl, fI_128_5, Option.bind_some, hc, e1]
  simp only [if_pos c1, if_pos c2, if_pos c3]
  rw [show (27 : Int32) = jI 27 from by decide, show (28 : Int32) = jI 28 from by decide, show (29 : Int32) = jI 29 from by decide, show (30 : Int32) = jI 30 from by decide, show (42 : Int32) = jI 42 from by decide, show (45 : Int32) = jI 45 from by decide, show (46 : Int32) = jI 46 from by decide, show (50 : Int32) = jI 50 from by decide, show (51 : Int32) = jI 51 from by decide, show (9999 : Int32) = jI 9999 from by decide, show (0 : Int32) = jI 0 from rfl, show (1 : Int32) = jI 1 from rfl]
  by_cases q1 : k = 27
  · rw [if_pos (by rw [q1]), if_pos q1]
  rw [if_neg (by rw [jI_eq (by omega) (by omega) (by omega) (by omega)]; omega), if_neg q1]
  by_cases q2 : k = 29
  · rw [if_pos (by rw [q2]), if_pos q2]
  rw [if_neg (by rw [jI_eq (by omega) (by omega) (by omega) (by omega)]; omega), if_neg q2]
  by_cases q3 : k = 30
  · rw [if_pos (by rw [q3]), if_pos q3]
  rw [if_neg (by rw [jI_eq (by omega) (by omega) (by omega) (by omega)]; omega), if_neg q3]
  by_cases q4 : k = 42
  · rw [if_pos (by rw [q4]), if_pos q4]
  rw [if_neg (by rw [jI_eq (by omega) (by omega) (by omega) (by omega)]; omega), if_neg q4]
  by_cases q5 : k = 45
  · rw [if_pos (by rw [q5]), if_pos q5]
  rw [if_neg (by rw [jI_eq (by omega) (by omega) (by omega) (by omega)]; omega), if_neg q5]
  by_cases q6 : k = 51
  · rw [if_pos (by rw [q6]), if_pos q6]
  rw [if_neg (by rw [jI_eq (by omega) (by omega) (by omega) (by omega)]; omega), if_neg q6]
/-- at the deepest, and where nothing opens -/
theorem R_8 {F G : Nat → Fn} {k op : Int} (hc : F 128 5 = k) (hk : 0 ≤ k ∧ k ≤ 60) (hop : 0 ≤ op ∧ op ≤ 8) : (k = 27 ∨ k = 29 ∨ k = 30 ∨ k = 42 ∨ k = 45 → ∀ s', m_M x k_Reader_opens [.ref 128, .int (jI op)] (mk F G) = some (some (.int (jI 0)), s') → m_M x k_Reader_readOne [.ref 128, .int (jI op)] (mk F G) = some (some (.int (jI 0)), s')) ∧ (k = 51 → m_M x k_Reader_readOne [.ref 128, .int (jI op)] (mk F G) = (m_bI (m_M x k_Reader_readNumber [.ref 128, .int (jI 0), .int (jI 9999)] (mk F G)) fun v69 s69 => if m_rk (some .boolean) (some (.int v69)) = true then some (some (.int v69), s69) else none)) ∧ (¬ (k = 27 ∨ k = 29 ∨ k = 30 ∨ k = 42 ∨ k = 45) → ¬ k = 51 → m_M x k_Reader_readOne [.ref 128, .int (jI op)] (mk F G) = (m_bI (m_M x k_Reader_readName [.ref 128] (mk F G)) fun v249 s249 => if m_rk (some .boolean) (some (.int v249)) = true then some (some (.int v249), s249) else none)) := by
  rw [E_Reader_readOne, isO_128, if_pos rfl, fI_128_5, Option.bind_some, hc, show (27 : Int32) = jI 27 from by decide, show (29 : Int32) = jI 29 from by decide, show (30 : Int32) = jI 30 from by decide, show (42 : Int32) = jI 42 from by decide, show (45 : Int32) = jI 45 from by decide, show (51 : Int32) = jI 51 from by decide, show (9999 : Int32) = jI 9999 from by decide, show (0 : Int32) = jI 0 from rfl]
  refine ⟨?_, ?_, ?_⟩
  · intro h s' hs'
    by_cases q1 : k = 27
    · rw [if_pos (by rw [q1]), hs', b_I, if_pos rfl]
    rw [if_neg (by rw [jI_eq (by omega) (by omega) (by omega) (by omega)]; omega)]
    by_cases q2 : k = 29
    · rw [if_pos (by rw [q2]), hs', b_I, if_pos rfl]
    rw [if_neg (by rw [jI_eq (by omega) (by omega) (by omega) (by omega)]; omega)]
    by_cases q3 : k = 30
    · rw [if_pos (by rw [q3]), hs', b_I, if_pos rfl]
    rw [if_neg (by rw [jI_eq (by omega) (by omega) (by omega) (by omega)]; omega)]
    by_cases q4 : k = 42
    · rw [if_pos (by rw [q4]), hs', b_I, if_pos rfl]
    rw [if_neg (by rw [jI_eq (by omega) (by omega) (by omega) (by omega)]; omega)]
    rw [if_pos (by rw [show k = 45 by omega]), hs', b_I, if_pos rfl]
  · intro h
    rw [if_neg (by rw [jI_eq (by omega) (by omega) (by omega) (by omega)]; omega), if_neg (by rw [jI_eq (by omega) (by omega) (by omega) (by omega)]; omega), if_neg (by rw [jI_eq (by omega) (by omega) (by omega) (by omega)]; omega), if_neg (by rw [jI_eq (by omega) (by omega) (by omega) (by omega)]; omega), if_neg (by rw [jI_eq (by omega) (by omega) (by omega) (by omega)]; omega), if_pos (by rw [h])]
  · intro h h2
    rw [if_neg (by rw [jI_eq (by omega) (by omega) (by omega) (by omega)]; omega), if_neg (by rw [jI_eq (by omega) (by omega) (by omega) (by omega)]; omega), if_neg (by rw [jI_eq (by omega) (by omega) (by omega) (by omega)]; omega), if_neg (by rw [jI_eq (by omega) (by omega) (by omega) (by omega)]; omega), if_neg (by rw [jI_eq (by omega) (by omega) (by omega) (by omega)]; omega), if_neg (by rw [jI_eq (by omega) (by omega) (by omega) (by omega)]; omega)]
end
