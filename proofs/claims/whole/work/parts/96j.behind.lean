-- reading: the model's moves behind a whole one
section
variable (x : m_X) (F G : Nat → Fn)
theorem BH_op {T : Fn} {n t s p op2 w2 op w o l : Int} {R Q : List Int} {d : Option Value} {F3 : Nat → Fn} (hB : BY T n) (hd : m_nl d = true) (h : STa F G T n t s p R op2 w2 1) (hr : okQ R) (hR : R.length ≤ 160) (hb : btw (kd T n p) R = o) (ho : 6 ≤ o ∧ o ≤ 22) (hl : l = if rk o = 4 then 5 else rk o) (hse : SE x l F G = some (none, mk F3 G)) (h3 : STa F3 G T n t s p Q op w 1) (hQ : Q.length < 160) : ∃ F4 G4, LH x d F G = LH x (some (.int (jI 0))) F4 G4 ∧ STa F4 G4 T n t s (nxp T n p) (o :: Q) op w 0 ∧ aqM t w F3 F4 := by
  have rr := rk_r (o := o)
  have bt := M_between x F G hB h hr hR
  rw [hb] at bt
  have h3' := h3
  obtain ⟨_, _, ⟨k16, kp⟩, k17, k13, k18⟩ := h3'
  unfold SE at hse
  have mr := M_rank x F G (o := o) (by omega)
  have e26 : m_D x 5 k_M_behindOne 26 [some (.ref 149), some (.int (jI o)), none, none] [.int (jI l), .ref 149] (mk F G) = m_bV (m_M x k_M_nextToken [.ref 149] (mk (sA (sA (sA F3 154 (u (F3 154) (Q.length : Int) o)) 149 (u (sA F3 154 (u (F3 154) (Q.length : Int) o) 149) 16 ((Q.length : Int) + 1))) 149 (u (sA (sA F3 154 (u (F3 154) (Q.length : Int) o)) 149 (u (sA F3 154 (u (F3 154) (Q.length : Int) o) 149) 16 ((Q.length : Int) + 1)) 149) 18 0)) G)) fun s55 => some (some (.int (jI 0)), s55) := by
    rw [E_M_behindOne_26 x 5 (by omega), hse, b_V, fR_149_15, Option.bind_some, fI_149_16, Option.bind_some, k16, is_154 _ _ _ (by omega) (by omega), Option.bind_some, fI_149_16, Option.bind_some, sA_ne (b := 149) _ _ (by omega), k16, show (1 : Int32) = jI 1 from rfl, jI_add, pf_149_16, Option.bind_some, show (0 : Int32) = jI 0 from rfl, pf_149_18, Option.bind_some]
    rfl
  generalize hF4 : sA (sA (sA F3 154 (u (F3 154) (Q.length : Int) o)) 149 (u (sA F3 154 (u (F3 154) (Q.length : Int) o) 149) 16 ((Q.length : Int) + 1))) 149 (u (sA (sA F3 154 (u (F3 154) (Q.length : Int) o)) 149 (u (sA F3 154 (u (F3 154) (Q.length : Int) o) 149) 16 ((Q.length : Int) + 1)) 149) 18 0) = F4 at e26
  have e149 : ∀ z, ¬ z = 16 → ¬ z = 18 → F4 149 z = F3 149 z := by
    intro z z1 z2
    rw [← hF4, sA_eq, u_ne _ _ z2, sA_eq, u_ne _ _ z1, sA_ne _ _ (by omega)]
  have e154 : F4 154 = u (F3 154) (Q.length : Int) o := by rw [← hF4, sA_ne (b := 154) _ _ (by omega), sA_ne (b := 154) _ _ (by omega), sA_eq]
  have ag : aqM t w F3 F4 := by
    rw [← hF4]
    exact aqM_tr (aqM_tr aqM_p (aqM_u (by omega)) (Int.le_refl _)) (aqM_u (by omega)) (Int.le_refl _)
  have st4 : STa F4 G T n t s p (o :: Q) op w 0 := by
    refine ST_chg h3 (fun z hz => e149 z (by omega) (by omega)) (by rw [ag.1 153 (by omega) (by omega) (by omega)]) ?_ ?_ (by rw [e149 17 (by omega) (by omega)]; exact k17) (by rw [e149 13 (by omega) (by omega)]; exact k13) (by rw [← hF4, sA_eq, u_eq])
    · rw [← hF4, sA_eq, u_ne _ _ (by omega), sA_eq, u_eq]; simp
    · rw [e154, pil]
      refine ⟨by rw [u_eq], pil_cg ?_ kp⟩
      intro i i0 i1
      rw [u_ne _ _ (by omega)]
  obtain ⟨F5, G5, y1, y2, y3⟩ := M_nx x F4 G st4
  refine ⟨F5, G5, ?_, y2, aqM_tr ag y3 (Int.le_refl _)⟩
  rw [LH_1 x F G hd h.2.2.2.2.2, E_M_behindOne, isO_149, if_pos rfl, bt, b_I, show (0 : Int32) = jI 0 from rfl, if_neg (by rw [jI_lt (by omega) (by omega) (by omega) (by omega)]; omega), mr, b_I, show (4 : Int32) = jI 4 from by decide]
  by_cases q : rk o = 4
  · rw [if_pos q] at hl
    rw [if_pos (by rw [q]), show (5 : Int32) = jI 5 from by decide, ← hl, e26, y1, b_V, b_I]
    exact K_0 x F5 G5 hd
  · rw [if_neg q] at hl
    rw [if_neg (by rw [jI_eq (by omega) (by omega) (by omega) (by omega)]; omega), mr, b_I, ← hl, e26, y1, b_V, b_I]
    exact K_0 x F5 G5 hd
theorem BH_none {T : Fn} {n t s p op2 w2 : Int} {R : List Int} {d : Option Value} (hB : BY T n) (hd : m_nl d = true) (h : STa F G T n t s p R op2 w2 1) (hr : okQ R) (hR : R.length ≤ 160) (hb : btw (kd T n p) R = -1) (hp : prt (kd T n p) R = -1) : LH x d F G = if oN R = -1 then m_bV (SE x 1 F G) (fun s58 => some (some (.int (jI 0)), s58)) else some (some (.int (jI 1)), mk F G) := by
  have h' := h
  obtain ⟨_, _, ⟨k16, kp⟩, _⟩ := h'
  have bt := M_between x F G hB h hr hR
  have pt := M_part x F G hB h hr hR
  rw [hb] at bt
  rw [hp] at pt
  rw [LH_1 x F G hd h.2.2.2.2.2, E_M_behindOne, isO_149, if_pos rfl, bt, b_I, if_pos (by decide), M_openNow x F G k16 kp hr hR, b_I, pt, b_I, if_neg (by decide), b_I]
  exact K_n x F G hd k16 kp hr hR
theorem BH_close {T : Fn} {n t s p op2 w2 op w c : Int} {R Q : List Int} {d : Option Value} {F3 : Nat → Fn} (hB : BY T n) (hd : m_nl d = true) (h : STa F G T n t s p R op2 w2 1) (hr : okQ R) (hR : R.length ≤ 160) (hb : btw (kd T n p) R = -1) (hp : prt (kd T n p) R = 0) (hc : oN R = c) (hse : SE x 1 F G = some (none, mk F3 G)) (h3 : STa F3 G T n t s p (c :: Q) op w 1) (hQ : Q.length < 160) (hop : 0 ≤ op ∧ op ≤ 100) (ht : 0 ≤ t ∧ t ≤ 3) (hw : 0 ≤ w ∧ w ≤ 303) : ∃ F4 G4, LH x d F G = EO x d F4 G4 ∧ STa F4 G4 T n t s (nxp T n p) Q (op - 1) (if c = 44 then w + 1 else w) 1 ∧ aqM t w F3 F4 ∧ (c = 44 → F4 152 (753 * t + 145 + 2 * w) = 3) := by
  have h' := h
  obtain ⟨_, _, ⟨k16, kp⟩, _⟩ := h'
  have orr := oN_r hr
  have bt := M_between x F G hB h hr hR
  have pt := M_part x F G hB h hr hR
  rw [hb] at bt
  rw [hp] at pt
  unfold SE at hse
  obtain ⟨F4, G4, y1, y2, y3⟩ := M_nx x F3 G h3
  have y2' := y2
  obtain ⟨_, ⟨l12, _⟩, ⟨l16, lp⟩, l17, l13, l18⟩ := y2'
  rw [pil] at lp
  have e1 : (((c :: Q).length : Nat) : Int) = (Q.length : Int) + 1 := by simp
  rw [e1] at l16
  generalize hF5 : sA (sA F4 149 (u (F4 149) 17 (op - 1))) 149 (u (sA F4 149 (u (F4 149) 17 (op - 1)) 149) 16 (Q.length : Int)) = F5
  have f149 : ∀ z, ¬ z = 16 → ¬ z = 17 → F5 149 z = F4 149 z := by
    intro z z1 z2
    rw [← hF5, sA_eq, u_ne _ _ z1, sA_eq, u_ne _ _ z2]
  have fo : ∀ b, ¬ b = 149 → F5 b = F4 b := by
    intro b hb
    rw [← hF5, sA_ne _ _ hb, sA_ne _ _ hb]
  have ag5 : aqM t w F4 F5 := by rw [← hF5]; exact aqM_tr (aqM_u (by omega)) (aqM_u (by omega)) (Int.le_refl _)
  have st5 : STa F5 G4 T n t s (nxp T n p) Q (op - 1) w 1 := by
    refine ST_chg y2 (fun z hz => f149 z (by omega) (by omega)) (fo 153 (by omega)) (by rw [← hF5, sA_eq, u_eq]) (by rw [fo 154 (by omega)]; exact lp.2) (by rw [← hF5, sA_eq, u_ne _ _ (by omega), sA_eq, u_eq]) (by rw [f149 13 (by omega) (by omega)]; exact l13) (by rw [f149 18 (by omega) (by omega)]; exact l18)
  have run : m_M x k_M_behindOne [.ref 149] (mk F G) = if jI c = jI 44 then (m_bV (m_M x k_M_emit [.ref 149, .int (jI 3), .int (jI 0)] (mk F5 G4)) fun s119 => m_bI (m_M x k_M_endOne [.ref 149] s119) fun v123 s123 => some (some (.int v123), s123)) else m_bI (m_M x k_M_endOne [.ref 149] (mk F5 G4)) fun v123 s123 => some (some (.int v123), s123) := by
    rw [E_M_behindOne, isO_149, if_pos rfl, bt, b_I, if_pos (by decide), M_openNow x F G k16 kp hr hR, b_I, pt, b_I, if_pos (by decide), show (1 : Int32) = jI 1 from rfl, hse, b_V, y1, b_V, if_pos (by decide), fI_149_17, Option.bind_some, l17, jI_sub, pf_149_17, Option.bind_some, fI_149_16, Option.bind_some, sA_eq, u_ne _ _ (by omega), l16, jI_sub, show (Q.length : Int) + 1 - 1 = Q.length from by omega, pf_149_16, Option.bind_some, hF5, hc]
    rfl
  have tail : ∀ (F' : Nat → Fn), (m_bI (m_bI (m_M x k_M_endOne [.ref 149] (mk F' G4)) fun v123 s123 => some (some (.int v123), s123)) fun v s => m_D x 8 k_M_summed 33 [some (.ref 149), d] [.int v] s) = EO x d F' G4 := by
    intro F'
    unfold EO
    cases hE : m_M x k_M_endOne [.ref 149] (mk F' G4) with
    | none => rfl
    | some r =>
      obtain ⟨v, s'⟩ := r
      cases v with
      | none => rfl
      | some v => cases v <;> rfl
  rw [LH_1 x F G hd h.2.2.2.2.2, run]
  by_cases q : c = 44
  · obtain ⟨F6, z1, z2, z3, z4, z5, z6, z7⟩ := M_emit x F5 G4 (t := t) (w := w) (o := 3) (v := 0) (by rw [f149 12 (by omega) (by omega)]; exact l12) (by rw [f149 13 (by omega) (by omega)]; exact l13) ht hw
    refine ⟨F6, G4, ?_, ?_, aqM_tr (aqM_tr y3 ag5 (Int.le_refl _)) z2 (Int.le_refl _), fun _ => z6⟩
    · rw [if_pos (by rw [q]), z1, b_V]
      exact tail F6
    · rw [if_pos q]
      refine ST_chg st5 (fun z hz => by rw [z3, u_ne _ _ (by omega)]) z4 (by rw [z3, u_ne _ _ (by omega)]; exact st5.2.2.1.1) (by rw [z5]; exact st5.2.2.1.2) (by rw [z3, u_ne _ _ (by omega)]; exact st5.2.2.2.1) (by rw [z3, u_eq]) (by rw [z3, u_ne _ _ (by omega)]; exact st5.2.2.2.2.2)
  · refine ⟨F5, G4, ?_, ?_, aqM_tr y3 ag5 (Int.le_refl _), fun hh => absurd hh q⟩
    · rw [if_neg (by rw [jI_eq (by omega) (by omega) (by omega) (by omega)]; omega)]
      exact tail F5
    · rw [if_neg q]; exact st5
theorem BH_part {T : Fn} {n t s p op2 w2 op w c pa : Int} {R Q : List Int} {d : Option Value} {F3 : Nat → Fn} (hB : BY T n) (hd : m_nl d = true) (h : STa F G T n t s p R op2 w2 1) (hr : okQ R) (hR : R.length ≤ 160) (hb : btw (kd T n p) R = -1) (hp : prt (kd T n p) R = pa) (hpa : 40 ≤ pa ∧ pa ≤ 44) (hse : SE x 1 F G = some (none, mk F3 G)) (h3 : STa F3 G T n t s p (c :: Q) op w 1) (hcq : okQ (c :: Q)) (hc4 : 40 ≤ c) (hQ : Q.length < 160) : ∃ F4 G4, LH x d F G = LH x (some (.int (jI 0))) F4 G4 ∧ STa F4 G4 T n t s (nxp T n p) (pa :: Q) op w 0 ∧ aqM t w F3 F4 := by
  have h' := h
  obtain ⟨_, _, ⟨k16, kp⟩, _⟩ := h'
  have bt := M_between x F G hB h hr hR
  have pt := M_part x F G hB h hr hR
  rw [hb] at bt
  rw [hp] at pt
  unfold SE at hse
  obtain ⟨F4, G4, y1, y2, y3⟩ := M_nx x F3 G h3
  have y2' := y2
  obtain ⟨_, ⟨l12, _⟩, ⟨l16, lp⟩, l17, l13, l18⟩ := y2'
  have oa := M_openAt x F4 G4 l16 lp hcq (by simp; omega)
  have eo : oA (c :: Q) = (Q.length : Int) := by rw [oA, if_pos hc4]
  rw [eo] at oa
  rw [pil] at lp
  refine ⟨sA (sA F4 154 (u (F4 154) (Q.length : Int) pa)) 149 (u (sA F4 154 (u (F4 154) (Q.length : Int) pa) 149) 18 0), G4, ?_, ?_, ?_⟩
  · rw [LH_1 x F G hd h.2.2.2.2.2, E_M_behindOne, isO_149, if_pos rfl, bt, b_I, if_pos (by decide), M_openNow x F G k16 kp hr hR, b_I, pt, b_I, show (0 : Int32) = jI 0 from rfl, if_pos (by rw [jI_le (by omega) (by omega) (by omega) (by omega)]; omega), show (1 : Int32) = jI 1 from rfl, hse, b_V, y1, b_V, if_neg (by rw [jI_eq (by omega) (by omega) (by omega) (by omega)]; omega), fR_149_15, Option.bind_some, oa, b_I, is_154 _ _ _ (by omega) (by omega), Option.bind_some, pf_149_18, Option.bind_some, b_I]
    exact K_0 x _ G4 hd
  · refine ST_chg y2 (fun z hz => by rw [sA_eq, u_ne _ _ (by omega), sA_ne _ _ (by omega)]) (by rw [sA_ne _ _ (by omega), sA_ne _ _ (by omega)]) (by rw [sA_eq, u_ne _ _ (by omega), sA_ne _ _ (by omega), l16]; simp) ?_ (by rw [sA_eq, u_ne _ _ (by omega), sA_ne _ _ (by omega)]; exact l17) (by rw [sA_eq, u_ne _ _ (by omega), sA_ne _ _ (by omega)]; exact l13) (by rw [sA_eq, u_eq])
    rw [sA_ne (b := 154) _ _ (by omega), sA_eq, pil]
    refine ⟨by rw [u_eq], pil_cg ?_ lp.2⟩
    intro i i0 i1
    rw [u_ne _ _ (by omega)]
  · exact aqM_tr (aqM_tr y3 aqM_p (Int.le_refl _)) (aqM_u (by omega)) (Int.le_refl _)
end
/-- a whole one is read, and F3 is what lies there when all that waits above Q is settled -/
def Beh (x : m_X) (L : Int) (F G F3 : Nat → Fn) (T : Fn) (n t s p : Int) (Q : List Int) (op w : Int) (cv : Bool) : Prop := ∃ (O : List Int) (op2 w2 : Int), STa F G T n t s p (O ++ Q) op2 w2 1 ∧ okQ (O ++ Q) ∧ (O ++ Q).length ≤ 100 ∧ oN (O ++ Q) = oN Q ∧ cq (O ++ Q) = cv ∧ (∀ l, 1 ≤ l → l ≤ L → SE x l F G = SE x l F3 G) ∧ STa F3 G T n t s p Q op w 1
theorem Beh_0 {x : m_X} {L : Int} {F G : Nat → Fn} {T : Fn} {n t s p op w : Int} {Q : List Int} (h : STa F G T n t s p Q op w 1) (hq : okQ Q) (hl : Q.length ≤ 100) : Beh x L F G F T n t s p Q op w (cq Q) := ⟨[], op, w, h, hq, hl, rfl, rfl, fun _ _ _ => rfl, h⟩
/-- what waits on top of Q is settled also -/
theorem Beh_pop {x : m_X} {L L2 : Int} {F G F3 : Nat → Fn} {T : Fn} {n t s p op w o : Int} {Q : List Int} {cv : Bool} (h : Beh x L F G F3 T n t s p (o :: Q) op w cv) (ho : o < 40) (hL : L2 ≤ L) (hr : L2 ≤ rk o) (ht : 0 ≤ t ∧ t ≤ 3) (hw : 0 ≤ w ∧ w ≤ 303) (hop : 0 ≤ op ∧ op ≤ 100) : ∃ F4, Beh x L2 F G F4 T n t s p Q (if rk o = 7 ∨ o = 20 then op - 1 else op) (w + 1) cv ∧ aqM t w F3 F4 ∧ F4 152 (753 * t + 145 + 2 * w) = o := by
  obtain ⟨O, op2, w2, h1, h2, h3, h4, h5, h6, h7⟩ := h
  have e : O ++ o :: Q = (O ++ [o]) ++ Q := by simp
  have hq : okQ (o :: Q) := fun z hz => h2 z (List.mem_append_right _ hz)
  have hl : Q.length < 160 := by
    simp only [List.length_append, List.length_cons] at h3
    omega
  obtain ⟨F4, y1, y2, y3, y4⟩ := M_pop x F3 G h7 hq hl ht hw hop
  refine ⟨F4, ⟨O ++ [o], op2, w2, by rw [← e]; exact h1, by rw [← e]; exact h2, by rw [← e]; exact h3, ?_, by rw [← e]; exact h5, ?_, y2⟩, y3, y4⟩
  · rw [← e, h4, oN, if_neg (by omega)]
  · intro l l0 l1
    rw [h6 l l0 (by omega), y1 l l0 (by omega)]
theorem cq_app {O Q : List Int} (h : ∀ o ∈ O, 5 ≤ rk o) : cq (O ++ Q) = cq Q := by
  induction O with
  | nil => rfl
  | cons o O ih =>
    have := h o List.mem_cons_self
    rw [List.cons_append, cq, if_neg (by omega)]
    exact ih (fun z hz => h z (List.mem_cons_of_mem _ hz))
