-- reading: the model's moves
noncomputable def LH (x : m_X) (d : Option Value) (F G : Nat → Fn) : Option m_R := m_D x 8 k_M_summed 15 [some (.ref 149), d] [] (mk F G)
noncomputable def EO (x : m_X) (d : Option Value) (F G : Nat → Fn) : Option m_R := m_bI (m_M x k_M_endOne [.ref 149] (mk F G)) fun v s => m_D x 8 k_M_summed 33 [some (.ref 149), d] [.int v] s
theorem kts {T : Fn} {n p : Int} (hB : BY T n) (p0 : 0 ≤ p) : ((tok T n p = 43 ↔ kd T n p = 41) ∧ (tok T n p = 45 ↔ kd T n p = 42) ∧ (tok T n p = 42 ↔ kd T n p = 43) ∧ (tok T n p = 47 ↔ kd T n p = 44)) ∧ ((tok T n p = 40 ↔ kd T n p = 45) ∧ (tok T n p = 41 ↔ kd T n p = 46) ∧ (tok T n p = 59 ↔ kd T n p = 47)) ∧ ((tok T n p = 60 ↔ kd T n p = 37) ∧ (tok T n p = 62 ↔ kd T n p = 38) ∧ (tok T n p = 61 ↔ kd T n p = 39) ∧ (tok T n p = 35 ↔ kd T n p = 40) ∧ (tok T n p = 4 ↔ kd T n p = 48) ∧ (tok T n p = 5 ↔ kd T n p = 49)) :=
  ⟨⟨kt_c hB p0 0, kt_c hB p0 1, kt_c hB p0 2, kt_c hB p0 3⟩, ⟨kt_c hB p0 4, kt_c hB p0 5, kt_c hB p0 6⟩, kt_c hB p0 7, kt_c hB p0 8, kt_c hB p0 9, kt_c hB p0 10, kt_c hB p0 11, kt_c hB p0 12⟩
def aa (Q : List Int) : Bool := match Q with
  | [] => false
  | o :: R => decide (oN (o :: R) = 42) && (decide (40 ≤ o) || decide (1 ≤ rk o ∧ rk o ≤ 3))
def cmpO (k : Int) : Int := if k = 37 then 10 else if k = 48 then 11 else if k = 38 then 12 else if k = 49 then 13 else if k = 39 then 14 else if k = 40 then 15 else -1
def btw (k : Int) (Q : List Int) : Int := if k = 41 then 6 else if k = 42 then 7 else if k = 43 then 8 else if k = 44 then 9 else if ¬ oN Q = 42 then -1 else if ¬ cq Q = true then cmpO k else if k = 35 then 21 else if k = 34 then 22 else -1
def prt (k : Int) (Q : List Int) : Int := if oN Q = 40 then (if k = 46 then 0 else -1) else if oN Q = 42 then (if k = 31 ∧ cq Q = true then 43 else -1) else if oN Q = 43 then (if k = 32 then 44 else -1) else if oN Q = 44 then (if k = 33 then 0 else -1) else -1
section
variable (x : m_X) (F G : Nat → Fn)
theorem LH_0 {d : Option Value} (hd : m_nl d = true) (h : F 149 18 = 0) : LH x d F G = m_bI (m_M x k_M_beginOne [.ref 149] (mk F G)) fun v s => m_D x 8 k_M_summed 33 [some (.ref 149), d] [.int v] s := by
  unfold LH
  rw [E_M_summed_15 x 8 (by omega) _ _ _ hd, fI_149_18, Option.bind_some, h, if_pos (by decide)]
theorem LH_1 {d : Option Value} (hd : m_nl d = true) (h : F 149 18 = 1) : LH x d F G = m_bI (m_M x k_M_behindOne [.ref 149] (mk F G)) fun v s => m_D x 8 k_M_summed 33 [some (.ref 149), d] [.int v] s := by
  unfold LH
  rw [E_M_summed_15 x 8 (by omega) _ _ _ hd, fI_149_18, Option.bind_some, h, if_neg (by decide)]
theorem K_0 {d : Option Value} (hd : m_nl d = true) : m_D x 8 k_M_summed 33 [some (.ref 149), d] [.int (jI 0)] (mk F G) = LH x (some (.int (jI 0))) F G := by
  rw [E_M_summed_33 x 8 (by omega) _ _ _ _ hd, if_pos (by decide), if_pos (by decide)]
  rfl
theorem K_p {d : Option Value} {v : Int} (hd : m_nl d = true) (h : 0 < v ∧ v ≤ 10) : m_D x 8 k_M_summed 33 [some (.ref 149), d] [.int (jI v)] (mk F G) = some (some (.int (jI v)), mk F G) := by
  rw [E_M_summed_33 x 8 (by omega) _ _ _ _ hd, show (0 : Int32) = jI 0 from rfl, if_neg (by rw [jI_le (by omega) (by omega) (by omega) (by omega)]; omega)]
theorem K_n {d : Option Value} {Q : List Int} (hd : m_nl d = true) (h16 : F 149 16 = (Q.length : Int)) (hp : pil (F 154) Q) (hq : okQ Q) (hl : Q.length ≤ 160) : m_D x 8 k_M_summed 33 [some (.ref 149), d] [.int (jI (-1))] (mk F G) = if oN Q = -1 then m_bV (SE x 1 F G) (fun s58 => some (some (.int (jI 0)), s58)) else some (some (.int (jI 1)), mk F G) := by
  have r := oN_r hq
  rw [E_M_summed_33 x 8 (by omega) _ _ _ _ hd, if_pos (by decide), if_neg (by decide), M_openNow x F G h16 hp hq hl, b_I, show (0 : Int32) = jI 0 from rfl]
  by_cases q : oN Q = -1
  · rw [if_pos (by rw [jI_lt (by omega) (by omega) (by omega) (by omega)]; omega), if_pos q]
    rfl
  · rw [if_neg (by rw [jI_lt (by omega) (by omega) (by omega) (by omega)]; omega), if_neg q]
    rfl
theorem EO_pop {T : Fn} {n t s p op w wh : Int} {o : Int} {Q : List Int} {d : Option Value} (h : STa F G T n t s p (o :: Q) op w wh) (ho : rk o = 7) (hq : okQ (o :: Q)) (hl : Q.length < 160) (ht : 0 ≤ t ∧ t ≤ 3) (hw : 0 ≤ w ∧ w ≤ 303) (hop : 0 ≤ op ∧ op ≤ 100) : ∃ F2, EO x d F G = EO x d F2 G ∧ STa F2 G T n t s p Q (op - 1) (w + 1) wh ∧ aqM t w F F2 ∧ F2 152 (753 * t + 145 + 2 * w) = o := by
  obtain ⟨F2, y1, y2, y3, y4⟩ := M_pop x F G h hq hl ht hw hop
  rw [if_pos (Or.inl ho)] at y2
  refine ⟨F2, ?_, y2, y3, y4⟩
  have e := y1 7 (by omega) (by omega)
  unfold SE at e
  unfold EO
  rw [E_M_endOne, isO_149, if_pos rfl, show (7 : Int32) = jI 7 from by decide, e, E_M_endOne, isO_149, if_pos rfl, show (7 : Int32) = jI 7 from by decide]
theorem EO_end {T : Fn} {n t s p op w wh : Int} {Q : List Int} {d : Option Value} (hd : m_nl d = true) (h : STa F G T n t s p Q op w wh) (hq : okQ Q) (hl : Q.length ≤ 160) (ht : ∀ o R, Q = o :: R → ¬ rk o = 7 ∧ ¬ o = 41) : ∃ F2, EO x d F G = LH x (some (.int (jI 0))) F2 G ∧ STa F2 G T n t s p Q op w 1 ∧ aqM t w F F2 ∧ F2 152 = F 152 := by
  have h' := h
  obtain ⟨_, _, ⟨h16, hp⟩, h17, h13, _⟩ := h'
  have e := M_stop x F G (l := 7) h hq hl (fun o R hR => by have := (ht o R hR).1; have := rk_r (o := o); omega) (by omega)
  unfold SE at e
  refine ⟨sA F 149 (u (F 149) 18 1), ?_, ?_, aqM_u (by omega), by rw [sA_ne _ _ (by omega)]⟩
  · unfold EO
    rw [E_M_endOne, isO_149, if_pos rfl, show (7 : Int32) = jI 7 from by decide, e, b_V, show (1 : Int32) = jI 1 from rfl, pf_149_18, Option.bind_some, fI_149_16, Option.bind_some, sA_eq, u_ne _ _ (by omega), h16, show (0 : Int32) = jI 0 from rfl]
    cases Q with
    | nil =>
      rw [if_pos (by rfl), b_I]
      exact K_0 x _ G hd
    | cons o R =>
      have ho := (okQ_c hq).1
      have tt := (ht o R rfl).2
      rw [pil] at hp
      simp only [List.length_cons] at hl
      have e1 : (((o :: R).length : Nat) : Int) = (R.length : Int) + 1 := by simp
      rw [e1, if_neg (by rw [jI_eq (by omega) (by omega) (by omega) (by omega)]; omega), fR_149_15, Option.bind_some, Option.bind_some, jI_sub, show (R.length : Int) + 1 - 1 = R.length from by omega, ia_154 x _ G (by omega) (by omega), Option.bind_some, sA_ne (b := 154) _ _ (by omega), hp.1, show (41 : Int32) = jI 41 from by decide, if_neg (by rw [jI_eq (by omega) (by omega) (by omega) (by omega)]; omega), b_I]
      exact K_0 x _ G hd
  · refine ST_chg h (fun z hz => by rw [sA_eq, u_ne _ _ (by omega)]) (by rw [sA_ne _ _ (by omega)]) (by rw [sA_eq, u_ne _ _ (by omega)]; exact h16) (by rw [sA_ne _ _ (by omega)]; exact hp) (by rw [sA_eq, u_ne _ _ (by omega)]; exact h17) (by rw [sA_eq, u_ne _ _ (by omega)]; exact h13) (by rw [sA_eq, u_eq])
theorem EO_with {T : Fn} {n t s p op w wh : Int} {Q : List Int} {d : Option Value} (hB : BY T n) (hd : m_nl d = true) (h : STa F G T n t s p (41 :: Q) op w wh) (hq : okQ (41 :: Q)) (hl : Q.length < 160) : (kd T n p = 28 ∧ ∃ F2 G2, EO x d F G = LH x (some (.int (jI 0))) F2 G2 ∧ STa F2 G2 T n t s (nxp T n p) (4 :: Q) op w 0 ∧ aqM t w F F2) ∨ (¬ kd T n p = 28 ∧ ∃ F2, EO x d F G = some (some (.int (jI 1)), mk F2 G) ∧ aqM t w F F2 ∧ F2 149 8 = p) := by
  have h' := h
  obtain ⟨⟨hT, hM⟩, _, ⟨h16, hp⟩, h17, h13, _⟩ := h'
  have e := M_stop x F G (l := 7) h hq (by simp; omega) (fun o R hR => by injection hR with h1 h2; rw [← h1]; decide) (by omega)
  unfold SE at e
  rw [pil] at hp
  have e1 : (((41 :: Q).length : Nat) : Int) = (Q.length : Int) + 1 := by simp
  rw [e1] at h16
  generalize hF1 : sA F 149 (u (F 149) 18 1) = F1
  have f149 : ∀ z, ¬ z = 18 → F1 149 z = F 149 z := by
    intro z hz
    rw [← hF1, sA_eq, u_ne _ _ hz]
  have fo : ∀ b, ¬ b = 149 → F1 b = F b := by
    intro b hb
    rw [← hF1, sA_ne _ _ hb]
  have ag1 : aqM t w F F1 := by rw [← hF1]; exact aqM_u (by omega)
  have st1 : STa F1 G T n t s p (41 :: Q) op w 1 := by
    refine ST_chg h (fun z hz => f149 z (by omega)) (fo 153 (by omega)) (by rw [f149 16 (by omega), e1]; exact h16) (by rw [fo 154 (by omega), pil]; exact hp) (by rw [f149 17 (by omega)]; exact h17) (by rw [f149 13 (by omega)]; exact h13) (by rw [← hF1, sA_eq, u_eq])
  have iw := M_isW x F1 G hB st1.1.2 (j := 28) (by omega)
  have run : EO x d F G = m_bI (if jI (if kd T n p = ((28 : Nat) : Int) then 1 else 0) = jI 0 then some (some (.int (jI 1)), mk F1 G) else m_bV (m_M x k_M_nextToken [.ref 149] (mk F1 G)) fun s57 => (m_fR s57 11 15 149).bind fun v61 => (m_fI s57 11 16 149).bind fun v65 => (m_is s57 v61 (v65 - (jI 1)) (jI 4)).bind fun s71 => (m_pf s71 11 18 149 (.int (jI 0))).bind fun s74 => some (some (.int (jI 0)), s74)) fun v s => m_D x 8 k_M_summed 33 [some (.ref 149), d] [.int v] s := by
    unfold EO
    rw [E_M_endOne, isO_149, if_pos rfl, show (7 : Int32) = jI 7 from by decide, e, b_V, show (1 : Int32) = jI 1 from rfl, show (4 : Int32) = jI 4 from by decide, pf_149_18, Option.bind_some, hF1, fI_149_16, Option.bind_some, f149 16 (by omega), h16, show (0 : Int32) = jI 0 from rfl, if_neg (by rw [jI_eq (by omega) (by omega) (by omega) (by omega)]; omega), fR_149_15, Option.bind_some, Option.bind_some, jI_sub, show (Q.length : Int) + 1 - 1 = Q.length from by omega, ia_154 x F1 G (by omega) (by omega), Option.bind_some, fo 154 (by omega), hp.1, if_pos (by decide), W_with, b_L, iw, b_I]
  rw [run]
  by_cases q : kd T n p = 28
  · left
    refine ⟨q, ?_⟩
    rw [if_pos (show kd T n p = ((28 : Nat) : Int) from q), if_neg (by decide)]
    obtain ⟨F2, G2, y1, y2, y3⟩ := M_nx x F1 G st1
    have k16 : F2 149 16 = (Q.length : Int) + 1 := by have := y2.2.2.1.1; rw [e1] at this; exact this
    have kp := y2.2.2.1.2
    rw [pil] at kp
    rw [y1, b_V, fR_149_15, Option.bind_some, fI_149_16, Option.bind_some, k16, jI_sub, show (Q.length : Int) + 1 - 1 = Q.length from by omega, is_154 _ _ _ (by omega) (by omega), Option.bind_some, pf_149_18, Option.bind_some, b_I]
    refine ⟨_, G2, K_0 x _ G2 hd, ?_, ?_⟩
    · refine ST_chg y2 (fun z hz => by rw [sA_eq, u_ne _ _ (by omega), sA_ne _ _ (by omega)]) (by rw [sA_ne _ _ (by omega), sA_ne _ _ (by omega)]) (by rw [sA_eq, u_ne _ _ (by omega), sA_ne _ _ (by omega), k16]; simp) ?_ (by rw [sA_eq, u_ne _ _ (by omega), sA_ne _ _ (by omega)]; exact y2.2.2.2.1) (by rw [sA_eq, u_ne _ _ (by omega), sA_ne _ _ (by omega)]; exact y2.2.2.2.2.1) (by rw [sA_eq, u_eq])
      rw [sA_ne (b := 154) _ _ (by omega), sA_eq, pil]
      refine ⟨by rw [u_eq], pil_cg ?_ kp.2⟩
      intro i i0 i1
      rw [u_ne _ _ (by omega)]
    · exact aqM_tr (aqM_tr (aqM_tr ag1 y3 (Int.le_refl _)) aqM_p (Int.le_refl _)) (aqM_u (by omega)) (Int.le_refl _)
  · right
    refine ⟨q, F1, ?_, ag1, ?_⟩
    · rw [if_neg (show ¬ kd T n p = ((28 : Nat) : Int) from q), if_pos (by decide), b_I]
      exact K_p x F1 G hd (by omega)
    · rw [f149 8 (by omega)]; exact hM.1.2.1
theorem M_isAskAhead {Q : List Int} (h16 : F 149 16 = (Q.length : Int)) (hp : pil (F 154) Q) (hq : okQ Q) (hl : Q.length ≤ 160) : m_M x k_M_isAskAhead [.ref 149] (mk F G) = some (some (.int (jI (if aa Q = true then 1 else 0))), mk F G) := by
  rw [E_M_isAskAhead, isO_149, if_pos rfl, M_isAskHere x F G h16 hp hq hl, b_I]
  cases Q with
  | nil =>
    rw [if_pos (by decide), if_neg (by decide)]
    rfl
  | cons o R =>
    have ho := (okQ_c hq).1
    have rr := rk_r (o := o)
    rw [pil] at hp
    simp only [List.length_cons] at hl
    have e1 : (((o :: R).length : Nat) : Int) = (R.length : Int) + 1 := by simp
    rw [e1] at h16
    simp only [aa, Bool.and_eq_true, Bool.or_eq_true, decide_eq_true_eq]
    by_cases q : oN (o :: R) = 42
    · rw [if_pos q, if_neg (by decide), fR_149_15, Option.bind_some, fI_149_16, Option.bind_some, h16, show (1 : Int32) = jI 1 from rfl, jI_sub, show (R.length : Int) + 1 - 1 = R.length from by omega, ia_154 x F G (by omega) (by omega), Option.bind_some, hp.1, show (40 : Int32) = jI 40 from by decide]
      by_cases q2 : 40 ≤ o
      · rw [if_pos (by rw [jI_le (by omega) (by omega) (by omega) (by omega)]; omega), if_pos ⟨q, Or.inl q2⟩]
      · rw [if_neg (by rw [jI_le (by omega) (by omega) (by omega) (by omega)]; omega), Option.bind_some, Option.bind_some, jI_sub, show (R.length : Int) + 1 - 1 = R.length from by omega, ia_154 x F G (by omega) (by omega), Option.bind_some, hp.1, M_rank x F G ho, b_I, show (3 : Int32) = jI 3 from by decide, M_isIn x F G (by unfold rg; omega) (by unfold rg; omega) (by unfold rg; omega), b_I]
        by_cases q3 : 1 ≤ rk o ∧ rk o ≤ 3
        · rw [if_pos q3, if_neg (by decide), if_pos ⟨q, Or.inr q3⟩]
        · rw [if_neg q3, if_pos (by decide), if_neg (by intro h; rcases h.2 with h | h <;> contradiction)]
          rfl
    · rw [if_neg q, if_pos (by decide), if_neg (fun h => q h.1)]
      rfl
/-- a number or a name that is taken -/
theorem B_65 {T : Fn} {n t s p op w wh o v : Int} {Q : List Int} {d : Option Value} {n1 : Int} (hB : BY T n) (h : STa F G T n t s p Q op w wh) (ht : 0 ≤ t ∧ t ≤ 3) (hw : 0 ≤ w ∧ w ≤ 303) (hv : v = if tok T n p = 1 then F 149 10 else n1) : ∃ F2 G2, (m_bI (m_D x 7 k_M_beginOne 65 [some (.ref 149), some (.int (jI n1))] [.int (jI o), .ref 149] (mk F G)) fun v s => m_D x 8 k_M_summed 33 [some (.ref 149), d] [.int v] s) = EO x d F2 G2 ∧ STa F2 G2 T n t s (nxp T n p) Q op (w + 1) wh ∧ aqM t w F F2 ∧ F2 152 (753 * t + 145 + 2 * w) = o ∧ F2 152 (753 * t + 145 + 2 * w + 1) = v := by
  have h' := h
  obtain ⟨⟨hT, hM⟩, ⟨h12, h14⟩, ⟨h16, hp⟩, h17, h13, h18⟩ := h'
  have tr := tok_r hB hM.2.1.1
  obtain ⟨F1, y1, y2, y3, y4, y5, y6, y7⟩ := M_emit x F G (t := t) (w := w) (o := o) (v := v) h12 h13 ht hw
  have st1 : STa F1 G T n t s p Q op (w + 1) wh := by
    refine ST_chg h (fun z hz => by rw [y3, u_ne _ _ (by omega)]) y4 (by rw [y3, u_ne _ _ (by omega)]; exact h16) (by rw [y5]; exact hp) (by rw [y3, u_ne _ _ (by omega)]; exact h17) (by rw [y3, u_eq]) (by rw [y3, u_ne _ _ (by omega)]; exact h18)
  obtain ⟨F2, G2, z1, z2, z3⟩ := M_nx x F1 G st1
  have e65 : m_D x 7 k_M_beginOne 65 [some (.ref 149), some (.int (jI n1))] [.int (jI o), .ref 149] (mk F G) = m_bI (m_M x k_M_endOne [.ref 149] (mk F2 G2)) fun v89 s89 => some (some (.int v89), s89) := by
    rw [E_M_beginOne_65 x 7 (by omega), fI_149_9, Option.bind_some, hM.1.2.2, show (1 : Int32) = jI 1 from rfl]
    by_cases q : tok T n p = 1
    · rw [if_pos q] at hv
      rw [if_pos (by rw [q]), fI_149_10, Option.bind_some, ← hv, y1, b_V, z1, b_V]
    · rw [if_neg q] at hv
      rw [if_neg (by rw [jI_eq (by omega) (by omega) (by omega) (by omega)]; omega), ← hv, y1, b_V, z1, b_V]
  refine ⟨F2, G2, ?_, z2, aqM_tr y2 z3 (by omega), ?_, ?_⟩
  · rw [e65]
    unfold EO
    cases hE : m_M x k_M_endOne [.ref 149] (mk F2 G2) with
    | none => rfl
    | some r =>
      obtain ⟨v, s'⟩ := r
      cases v with
      | none => rfl
      | some v => cases v <;> rfl
  · rw [z3.2.2 _ (by omega)]; exact y6
  · rw [z3.2.2 _ (by omega)]; exact y7
theorem B_num {T : Fn} {n t s p op w : Int} {Q : List Int} {d : Option Value} (hB : BY T n) (hd : m_nl d = true) (h : STa F G T n t s p Q op w 0) (ht : 0 ≤ t ∧ t ≤ 3) (hw : 0 ≤ w ∧ w ≤ 303) (hk : kd T n p = 51) : (¬ mnR T (n - p).toNat p 0 ≤ 9999 ∧ LH x d F G = some (some (.int (jI 2)), mk F G)) ∨ (mnR T (n - p).toNat p 0 ≤ 9999 ∧ ∃ F2 G2, LH x d F G = EO x d F2 G2 ∧ STa F2 G2 T n t s (nxp T n p) Q op (w + 1) 0 ∧ aqM t w F F2 ∧ F2 152 (753 * t + 145 + 2 * w) = 0 ∧ F2 152 (753 * t + 145 + 2 * w + 1) = mnR T (n - p).toNat p 0) := by
  have h' := h
  obtain ⟨⟨hT, hM⟩, ⟨h12, h14⟩, ⟨h16, hp⟩, h17, h13, h18⟩ := h'
  have t1 := (kt_1 hB hM.2.1.1).2 hk
  have e10 := hM.2.2.1 t1
  have nr := NR_0 T (n - p).toNat p
  unfold NR at nr
  have nm := M_nameOf x F G hB hT hM
  rw [if_neg (by omega)] at nm
  rw [LH_0 x F G hd h18, E_M_beginOne, isO_149, if_pos rfl, fI_149_9, Option.bind_some, hM.1.2.2, show (1 : Int32) = jI 1 from rfl, if_pos (by rw [t1]), fI_149_10, Option.bind_some, e10, show (9999 : Int32) = jI 9999 from by decide]
  by_cases q : mnR T (n - p).toNat p 0 ≤ 9999
  · right
    refine ⟨q, ?_⟩
    obtain ⟨F2, G2, y1, y2, y3, y4, y5⟩ := B_65 x F G (o := 0) (v := mnR T (n - p).toNat p 0) (d := d) (n1 := -1) hB h ht hw (by rw [if_pos t1, e10])
    refine ⟨F2, G2, ?_, y2, y3, y4, y5⟩
    rw [if_pos (by rw [jI_le (by omega) (by omega) (by omega) (by omega)]; omega), nm, b_I, if_pos (by decide), E_M_beginOne_39 x 7 (by omega), fI_149_9, Option.bind_some, hM.1.2.2, if_pos (by rw [t1]; rfl), Option.bind_some, if_pos (by rw [t1]; rfl)]
    exact y1
  · left
    refine ⟨q, ?_⟩
    rw [if_neg (by rw [jI_le (by omega) (by omega) (by omega) (by omega)]; omega), b_I]
    exact K_p x F G (v := 2) hd (by omega)
/-- what is not a number -/
theorem B_39 {T : Fn} {n t s p op w : Int} {Q : List Int} {d : Option Value} (hB : BY T n) (hd : m_nl d = true) (h : STa F G T n t s p Q op w 0) (hs : 0 ≤ s ∧ s ≤ 3) (hk : ¬ kd T n p = 51) : LH x d F G = m_bI (if 11 ≤ kd T n p ∧ kd T n p ≤ 24 ∧ ¬ nmok s (kd T n p) then some (some (.int (jI 5)), mk F G) else m_D x 7 k_M_beginOne 39 [some (.ref 149), some (.int (jI (if 11 ≤ kd T n p ∧ kd T n p ≤ 24 then kd T n p - 11 else -1)))] [] (mk F G)) fun v s => m_D x 8 k_M_summed 33 [some (.ref 149), d] [.int v] s := by
  have h' := h
  obtain ⟨⟨hT, hM⟩, ⟨h12, h14⟩, ⟨h16, hp⟩, h17, h13, h18⟩ := h'
  have kr := kd_r T n p
  have t1 : ¬ tok T n p = 1 := fun z => hk ((kt_1 hB hM.2.1.1).1 z)
  have tr := tok_r hB hM.2.1.1
  have nm := M_nameOf x F G hB hT hM
  rw [LH_0 x F G hd h18, E_M_beginOne, isO_149, if_pos rfl, fI_149_9, Option.bind_some, hM.1.2.2, show (1 : Int32) = jI 1 from rfl, if_neg (by rw [jI_eq (by omega) (by omega) (by omega) (by omega)]; omega), nm, b_I, show (0 : Int32) = jI 0 from rfl]
  congr 1
  by_cases q : 11 ≤ kd T n p ∧ kd T n p ≤ 24
  · have io := M_isOf x F G (k := kd T n p - 11) h14 (by omega) hs
    have e11 : 11 + (kd T n p - 11) = kd T n p := by omega
    rw [e11] at io
    rw [if_pos q, if_neg (by rw [jI_lt (by omega) (by omega) (by omega) (by omega)]; omega), io, b_I]
    by_cases q2 : nmok s (kd T n p)
    · rw [if_pos q2, if_neg (by decide), if_neg (fun z => z.2.2 q2)]
    · rw [if_neg q2, if_pos (by decide), if_pos ⟨q.1, q.2, q2⟩]
      rfl
  · rw [if_neg q, if_pos (by decide), if_neg (fun z => q ⟨z.1, z.2.1⟩)]
theorem B_name {T : Fn} {n t s p op w : Int} {Q : List Int} {d : Option Value} (hB : BY T n) (hd : m_nl d = true) (h : STa F G T n t s p Q op w 0) (ht : 0 ≤ t ∧ t ≤ 3) (hw : 0 ≤ w ∧ w ≤ 303) (hs : 0 ≤ s ∧ s ≤ 3) (hk : 11 ≤ kd T n p ∧ kd T n p ≤ 24) : (¬ nmok s (kd T n p) ∧ LH x d F G = some (some (.int (jI 5)), mk F G)) ∨ (nmok s (kd T n p) ∧ ∃ F2 G2, LH x d F G = EO x d F2 G2 ∧ STa F2 G2 T n t s (nxp T n p) Q op (w + 1) 0 ∧ aqM t w F F2 ∧ F2 152 (753 * t + 145 + 2 * w) = 1 ∧ F2 152 (753 * t + 145 + 2 * w + 1) = kd T n p - 11) := by
  have h' := h
  obtain ⟨⟨hT, hM⟩, _⟩ := h'
  have t1 : ¬ tok T n p = 1 := fun z => by have := (kt_1 hB hM.2.1.1).1 z; omega
  have tr := tok_r hB hM.2.1.1
  rw [B_39 x F G hB hd h hs (by omega)]
  by_cases q : nmok s (kd T n p)
  · right
    obtain ⟨F2, G2, y1, y2, y3, y4, y5⟩ := B_65 x F G (o := 1) (v := kd T n p - 11) (d := d) (n1 := kd T n p - 11) hB h ht hw (by rw [if_neg t1])
    refine ⟨q, F2, G2, ?_, y2, y3, y4, y5⟩
    rw [if_neg (fun z => z.2.2 q), if_pos hk, E_M_beginOne_39 x 7 (by omega), fI_149_9, Option.bind_some, hM.1.2.2, show (1 : Int32) = jI 1 from rfl, if_neg (by rw [jI_eq (by omega) (by omega) (by omega) (by omega)]; omega), show (0 : Int32) = jI 0 from rfl, if_neg (by rw [jI_lt (by omega) (by omega) (by omega) (by omega)]; omega), Option.bind_some, if_neg (by rw [jI_eq (by omega) (by omega) (by omega) (by omega)]; omega)]
    exact y1
  · left
    refine ⟨q, ?_⟩
    rw [if_pos ⟨hk.1, hk.2, q⟩, b_I]
    exact K_p x F G hd (by omega)
/-- what opens -/
def opO (k : Int) (Q : List Int) : Int := if k = 45 then 40 else if k = 42 then 5 else if k = 27 then 41 else if k = 29 then 2 else if k = 30 then 42 else if k = 36 ∧ aa Q = true then 20 else -1
theorem B_open {T : Fn} {n t s p op w : Int} {Q : List Int} {d : Option Value} (hB : BY T n) (hd : m_nl d = true) (h : STa F G T n t s p Q op w 0) (hs : 0 ≤ s ∧ s ≤ 3) (hq : okQ Q) (hl : Q.length < 160) (hop : 0 ≤ op ∧ op ≤ 8) (hk : ¬ kd T n p = 51) (hk2 : ¬ (11 ≤ kd T n p ∧ kd T n p ≤ 24)) : (opO (kd T n p) Q = -1 ∧ LH x d F G = some (some (.int (jI 1)), mk F G)) ∨ (¬ opO (kd T n p) Q = -1 ∧ op = 8 ∧ LH x d F G = some (some (.int (jI 3)), mk F G)) ∨ (¬ opO (kd T n p) Q = -1 ∧ op < 8 ∧ ∃ F2 G2, LH x d F G = LH x (some (.int (jI 0))) F2 G2 ∧ STa F2 G2 T n t s (nxp T n p) (opO (kd T n p) Q :: Q) (op + 1) w 0 ∧ aqM t w F F2) := by
  have h' := h
  obtain ⟨⟨hT, hM⟩, _, ⟨h16, hp⟩, _⟩ := h'
  have t1 : ¬ tok T n p = 1 := fun z => hk ((kt_1 hB hM.2.1.1).1 z)
  have tr := tok_r hB hM.2.1.1
  have ks := kts hB hM.2.1.1
  have kr := kd_r T n p
  rw [B_39 x F G hB hd h hs hk, if_neg (fun z => hk2 ⟨z.1, z.2.1⟩), if_neg hk2]
  have opn : ∀ o : Int, o = opO (kd T n p) Q → ¬ o = -1 → (opO (kd T n p) Q = -1 ∧ (m_bI (m_bI (m_M x k_M_opened [.ref 149, .int (jI o)] (mk F G)) fun v105 s105 => some (some (.int v105), s105)) fun v s => m_D x 8 k_M_summed 33 [some (.ref 149), d] [.int v] s) = some (some (.int (jI 1)), mk F G)) ∨ (¬ opO (kd T n p) Q = -1 ∧ op = 8 ∧ (m_bI (m_bI (m_M x k_M_opened [.ref 149, .int (jI o)] (mk F G)) fun v105 s105 => some (some (.int v105), s105)) fun v s => m_D x 8 k_M_summed 33 [some (.ref 149), d] [.int v] s) = some (some (.int (jI 3)), mk F G)) ∨ (¬ opO (kd T n p) Q = -1 ∧ op < 8 ∧ ∃ F2 G2, (m_bI (m_bI (m_M x k_M_opened [.ref 149, .int (jI o)] (mk F G)) fun v105 s105 => some (some (.int v105), s105)) fun v s => m_D x 8 k_M_summed 33 [some (.ref 149), d] [.int v] s) = LH x (some (.int (jI 0))) F2 G2 ∧ STa F2 G2 T n t s (nxp T n p) (opO (kd T n p) Q :: Q) (op + 1) w 0 ∧ aqM t w F F2) := by
    intro o ho hne
    rcases M_opened x F G (o := o) h hl hop with ⟨a, b⟩ | ⟨a, F2, G2, b1, b2, b3⟩
    · right; left
      refine ⟨by rw [← ho]; exact hne, a, ?_⟩
      rw [b, b_I, b_I]
      exact K_p x F G hd (by omega)
    · right; right
      refine ⟨by rw [← ho]; exact hne, a, F2, G2, ?_, by rw [← ho]; exact b2, b3⟩
      rw [b1, b_I, b_I]
      exact K_0 x F2 G2 hd
  have bad : opO (kd T n p) Q = -1 → (opO (kd T n p) Q = -1 ∧ (m_bI (some (some (.int (jI 1)), mk F G)) fun v s => m_D x 8 k_M_summed 33 [some (.ref 149), d] [.int v] s) = some (some (.int (jI 1)), mk F G)) ∨ (¬ opO (kd T n p) Q = -1 ∧ op = 8 ∧ (m_bI (some (some (.int (jI 1)), mk F G)) fun v s => m_D x 8 k_M_summed 33 [some (.ref 149), d] [.int v] s) = some (some (.int (jI 3)), mk F G)) ∨ (¬ opO (kd T n p) Q = -1 ∧ op < 8 ∧ ∃ F2 G2, (m_bI (some (some (.int (jI 1)), mk F G)) fun v s => m_D x 8 k_M_summed 33 [some (.ref 149), d] [.int v] s) = LH x (some (.int (jI 0))) F2 G2 ∧ STa F2 G2 T n t s (nxp T n p) (opO (kd T n p) Q :: Q) (op + 1) w 0 ∧ aqM t w F F2) := by
    intro hb
    left
    refine ⟨hb, ?_⟩
    rw [b_I]
    exact K_p x F G hd (by omega)
  rw [E_M_beginOne_39 x 7 (by omega), fI_149_9, Option.bind_some, hM.1.2.2, show (1 : Int32) = jI 1 from rfl, if_neg (by rw [jI_eq (by omega) (by omega) (by omega) (by omega)]; omega), if_pos (by decide), Option.bind_some, show (40 : Int32) = jI 40 from by decide]
  by_cases q1 : kd T n p = 45
  · rw [if_pos (by rw [ks.2.1.1.2 q1])]
    exact opn 40 (by unfold opO; rw [if_pos q1]) (by omega)
  rw [if_neg (by rw [jI_eq (by omega) (by omega) (by omega) (by omega)]; exact fun z => q1 (ks.2.1.1.1 z)), Option.bind_some, show (45 : Int32) = jI 45 from by decide]
  by_cases q2 : kd T n p = 42
  · rw [if_pos (by rw [ks.1.2.1.2 q2])]
    exact opn 5 (by unfold opO; rw [if_neg q1, if_pos q2]) (by omega)
  rw [if_neg (by rw [jI_eq (by omega) (by omega) (by omega) (by omega)]; exact fun z => q2 (ks.1.2.1.1 z)), W_common, b_L, M_isW x F G hB hM (j := 27) (by omega), b_I]
  by_cases q3 : kd T n p = ((27 : Nat) : Int)
  · rw [if_pos q3, if_neg (by decide)]
    exact opn 41 (by unfold opO; rw [if_neg q1, if_neg q2, if_pos (by omega)]) (by omega)
  rw [if_neg q3, if_pos (by decide), W_lefts, b_L, M_isW x F G hB hM (j := 29) (by omega), b_I]
  by_cases q4 : kd T n p = ((29 : Nat) : Int)
  · rw [if_pos q4, if_neg (by decide)]
    exact opn 2 (by unfold opO; rw [if_neg q1, if_neg q2, if_neg (by omega), if_pos (by omega)]) (by omega)
  rw [if_neg q4, if_pos (by decide), W_if, b_L, M_isW x F G hB hM (j := 30) (by omega), b_I]
  by_cases q5 : kd T n p = ((30 : Nat) : Int)
  · rw [if_pos q5, if_neg (by decide)]
    exact opn 42 (by unfold opO; rw [if_neg q1, if_neg q2, if_neg (by omega), if_neg (by omega), if_pos (by omega)]) (by omega)
  rw [if_neg q5, if_pos (by decide), W_not, b_L, M_isW x F G hB hM (j := 36) (by omega), b_I]
  have o6 : opO (kd T n p) Q = if kd T n p = 36 ∧ aa Q = true then 20 else -1 := by
    unfold opO
    rw [if_neg q1, if_neg q2, if_neg (by omega), if_neg (by omega), if_neg (by omega)]
  by_cases q6 : kd T n p = ((36 : Nat) : Int)
  · rw [if_pos q6, if_neg (by decide), M_isAskAhead x F G h16 hp hq (by omega), b_I]
    by_cases q7 : aa Q = true
    · rw [if_pos q7, if_neg (by decide)]
      exact opn 20 (by rw [o6, if_pos ⟨q6, q7⟩]) (by omega)
    · rw [if_neg q7, if_pos (by decide)]
      exact bad (by rw [o6, if_neg (fun z => q7 z.2)])
  · rw [if_neg q6, if_pos (by decide)]
    exact bad (by rw [o6, if_neg (fun z => q6 z.1)])
theorem M_compareOf {T : Fn} {n p : Int} (hB : BY T n) (h : MT F G T n p) : m_M x k_M_compareOf [.ref 149] (mk F G) = some (some (.int (jI (cmpO (kd T n p)))), mk F G) := by
  have ks := kts hB h.2.1.1
  have tr := tok_r hB h.2.1.1
  obtain ⟨_, _, c1, c2, c3, c4, c5, c6⟩ := ks
  unfold cmpO
  rw [E_M_compareOf, isO_149, if_pos rfl, fI_149_9, Option.bind_some, h.1.2.2, show (60 : Int32) = jI 60 from by decide]
  by_cases q1 : kd T n p = 37
  · rw [if_pos (by rw [c1.2 q1]), if_pos q1]; rfl
  rw [if_neg (by rw [jI_eq (by omega) (by omega) (by omega) (by omega)]; exact fun z => q1 (c1.1 z)), if_neg q1, Option.bind_some, show (4 : Int32) = jI 4 from by decide]
  by_cases q2 : kd T n p = 48
  · rw [if_pos (by rw [c5.2 q2]), if_pos q2]; rfl
  rw [if_neg (by rw [jI_eq (by omega) (by omega) (by omega) (by omega)]; exact fun z => q2 (c5.1 z)), if_neg q2, Option.bind_some, show (62 : Int32) = jI 62 from by decide]
  by_cases q3 : kd T n p = 38
  · rw [if_pos (by rw [c2.2 q3]), if_pos q3]; rfl
  rw [if_neg (by rw [jI_eq (by omega) (by omega) (by omega) (by omega)]; exact fun z => q3 (c2.1 z)), if_neg q3, Option.bind_some, show (5 : Int32) = jI 5 from by decide]
  by_cases q4 : kd T n p = 49
  · rw [if_pos (by rw [c6.2 q4]), if_pos q4]; rfl
  rw [if_neg (by rw [jI_eq (by omega) (by omega) (by omega) (by omega)]; exact fun z => q4 (c6.1 z)), if_neg q4, Option.bind_some, show (61 : Int32) = jI 61 from by decide]
  by_cases q5 : kd T n p = 39
  · rw [if_pos (by rw [c3.2 q5]), if_pos q5]; rfl
  rw [if_neg (by rw [jI_eq (by omega) (by omega) (by omega) (by omega)]; exact fun z => q5 (c3.1 z)), if_neg q5, Option.bind_some, show (35 : Int32) = jI 35 from by decide]
  by_cases q6 : kd T n p = 40
  · rw [if_pos (by rw [c4.2 q6]), if_pos q6]; rfl
  rw [if_neg (by rw [jI_eq (by omega) (by omega) (by omega) (by omega)]; exact fun z => q6 (c4.1 z)), if_neg q6]
  rfl
theorem M_between {T : Fn} {n t s p op w wh : Int} {Q : List Int} (hB : BY T n) (h : STa F G T n t s p Q op w wh) (hq : okQ Q) (hl : Q.length ≤ 160) : m_M x k_M_betweenOf [.ref 149] (mk F G) = some (some (.int (jI (btw (kd T n p) Q))), mk F G) := by
  obtain ⟨⟨hT, hM⟩, _, ⟨h16, hp⟩, _⟩ := h
  have ks := (kts hB hM.2.1.1).1
  have tr := tok_r hB hM.2.1.1
  unfold btw
  rw [E_M_betweenOf, isO_149, if_pos rfl, fI_149_9, Option.bind_some, hM.1.2.2, show (43 : Int32) = jI 43 from by decide]
  by_cases q1 : kd T n p = 41
  · rw [if_pos (by rw [ks.1.2 q1]), if_pos q1]; rfl
  rw [if_neg (by rw [jI_eq (by omega) (by omega) (by omega) (by omega)]; exact fun z => q1 (ks.1.1 z)), if_neg q1, Option.bind_some, show (45 : Int32) = jI 45 from by decide]
  by_cases q2 : kd T n p = 42
  · rw [if_pos (by rw [ks.2.1.2 q2]), if_pos q2]; rfl
  rw [if_neg (by rw [jI_eq (by omega) (by omega) (by omega) (by omega)]; exact fun z => q2 (ks.2.1.1 z)), if_neg q2, Option.bind_some, show (42 : Int32) = jI 42 from by decide]
  by_cases q3 : kd T n p = 43
  · rw [if_pos (by rw [ks.2.2.1.2 q3]), if_pos q3]; rfl
  rw [if_neg (by rw [jI_eq (by omega) (by omega) (by omega) (by omega)]; exact fun z => q3 (ks.2.2.1.1 z)), if_neg q3, Option.bind_some, show (47 : Int32) = jI 47 from by decide]
  by_cases q4 : kd T n p = 44
  · rw [if_pos (by rw [ks.2.2.2.2 q4]), if_pos q4]; rfl
  rw [if_neg (by rw [jI_eq (by omega) (by omega) (by omega) (by omega)]; exact fun z => q4 (ks.2.2.2.1 z)), if_neg q4, M_isAskHere x F G h16 hp hq hl, b_I]
  by_cases q5 : oN Q = 42
  · rw [if_pos q5, if_neg (by decide), if_neg (fun z => z q5), M_isCompared x F G h16 hp hq hl, b_I]
    by_cases q6 : cq Q = true
    · rw [if_pos q6, if_neg (by decide), if_neg (fun z => z q6), W_and, b_L, M_isW x F G hB hM (j := 35) (by omega), b_I]
      by_cases q7 : kd T n p = ((35 : Nat) : Int)
      · rw [if_pos q7, if_neg (by decide), if_pos (by omega)]; rfl
      rw [if_neg q7, if_pos (by decide), W_or, b_L, M_isW x F G hB hM (j := 34) (by omega), b_I, if_neg (c := kd T n p = 35) (by omega)]
      by_cases q8 : kd T n p = ((34 : Nat) : Int)
      · rw [if_pos q8, if_neg (by decide), if_pos (by omega)]; rfl
      rw [if_neg q8, if_pos (by decide), if_neg (by omega)]
      rfl
    · rw [if_neg q6, if_pos (by decide), if_pos q6, M_compareOf x F G hB hM, b_I]
  · rw [if_neg q5, if_pos (by decide), if_pos q5]
    rfl
theorem M_part {T : Fn} {n t s p op w wh : Int} {Q : List Int} (hB : BY T n) (h : STa F G T n t s p Q op w wh) (hq : okQ Q) (hl : Q.length ≤ 160) : m_M x k_M_partOf [.ref 149, .int (jI (oN Q))] (mk F G) = some (some (.int (jI (prt (kd T n p) Q))), mk F G) := by
  obtain ⟨⟨hT, hM⟩, _, ⟨h16, hp⟩, _⟩ := h
  have ks := (kts hB hM.2.1.1).2.1.2.1
  have tr := tok_r hB hM.2.1.1
  have r := oN_r hq
  unfold prt
  rw [E_M_partOf, isO_149, if_pos rfl, show (40 : Int32) = jI 40 from by decide, show (42 : Int32) = jI 42 from by decide, show (43 : Int32) = jI 43 from by decide, show (44 : Int32) = jI 44 from by decide, show (41 : Int32) = jI 41 from by decide]
  by_cases q1 : oN Q = 40
  · rw [if_pos (by rw [q1]), if_pos q1, fI_149_9, Option.bind_some, hM.1.2.2]
    by_cases k1 : kd T n p = 46
    · rw [if_pos (by rw [ks.2 k1]), if_pos k1]; rfl
    · rw [if_neg (by rw [jI_eq (by omega) (by omega) (by omega) (by omega)]; exact fun z => k1 (ks.1 z)), if_neg k1]; rfl
  rw [if_neg (by rw [jI_eq (by omega) (by omega) (by omega) (by omega)]; omega), if_neg q1]
  by_cases q41 : oN Q = 41
  · rw [if_pos (by rw [q41]), if_neg (by omega), if_neg (by omega), if_neg (by omega)]; rfl
  rw [if_neg (by rw [jI_eq (by omega) (by omega) (by omega) (by omega)]; omega)]
  by_cases q2 : oN Q = 42
  · rw [if_pos (by rw [q2]), if_pos q2, W_then, b_L, M_isW x F G hB hM (j := 31) (by omega), b_I]
    by_cases k1 : kd T n p = ((31 : Nat) : Int)
    · rw [if_pos k1, if_neg (by decide), M_isCompared x F G h16 hp hq hl, b_I]
      by_cases k2 : cq Q = true
      · rw [if_pos k2, if_neg (by decide), if_pos ⟨by omega, k2⟩]
      · rw [if_neg k2, if_pos (by decide), if_neg (fun z => k2 z.2)]; rfl
    · rw [if_neg k1, if_pos (by decide), if_neg (fun z => k1 z.1)]; rfl
  rw [if_neg (by rw [jI_eq (by omega) (by omega) (by omega) (by omega)]; omega), if_neg q2]
  by_cases q3 : oN Q = 43
  · rw [if_pos (by rw [q3]), if_pos q3, W_else, b_L, M_isW x F G hB hM (j := 32) (by omega), b_I]
    by_cases k1 : kd T n p = ((32 : Nat) : Int)
    · rw [if_pos k1, if_neg (by decide), if_pos (by omega)]
    · rw [if_neg k1, if_pos (by decide), if_neg (by omega)]; rfl
  rw [if_neg (by rw [jI_eq (by omega) (by omega) (by omega) (by omega)]; omega), if_neg q3]
  by_cases q4 : oN Q = 44
  · rw [if_pos (by rw [q4]), if_pos q4, W_end, b_L, M_isW x F G hB hM (j := 33) (by omega), b_I]
    by_cases k1 : kd T n p = ((33 : Nat) : Int)
    · rw [if_pos k1, if_neg (by decide), if_pos (by omega)]; rfl
    · rw [if_neg k1, if_pos (by decide), if_neg (by omega)]; rfl
  rw [if_neg (by rw [jI_eq (by omega) (by omega) (by omega) (by omega)]; omega), if_neg q4]
  rfl
end
