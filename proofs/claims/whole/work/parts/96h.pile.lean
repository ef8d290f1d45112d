-- reading: the model's pile
def rk (o : Int) : Int := if 40 ≤ o then 0 else if o = 22 then 1 else if o = 21 then 2 else if o = 20 then 3 else if 10 ≤ o then 4 else if o = 5 ∨ o = 2 ∨ o = 4 then 7 else if o < 8 then 5 else 6
def pil (f : Fn) : List Int → Prop
  | [] => True
  | o :: Q => f (Q.length : Int) = o ∧ pil f Q
def okQ (Q : List Int) : Prop := ∀ o ∈ Q, 0 ≤ o ∧ o ≤ 44
def oA : List Int → Int
  | [] => -1
  | o :: Q => if 40 ≤ o then (Q.length : Int) else oA Q
def oN : List Int → Int
  | [] => -1
  | o :: Q => if 40 ≤ o then o else oN Q
def cq : List Int → Bool
  | [] => false
  | o :: Q => if rk o ≤ 4 then decide (rk o = 4) else cq Q
theorem okQ_c {o : Int} {Q : List Int} (h : okQ (o :: Q)) : (0 ≤ o ∧ o ≤ 44) ∧ okQ Q := ⟨h o List.mem_cons_self, fun z hz => h z (List.mem_cons_of_mem _ hz)⟩
theorem okQ_i {o : Int} {Q : List Int} (h0 : 0 ≤ o ∧ o ≤ 44) (h : okQ Q) : okQ (o :: Q) := by
  intro z hz
  rcases List.mem_cons.1 hz with e | e
  · rw [e]; exact h0
  · exact h z e
theorem oN_r {Q : List Int} (h : okQ Q) : oN Q = -1 ∨ (40 ≤ oN Q ∧ oN Q ≤ 44) := by
  induction Q with
  | nil => exact Or.inl rfl
  | cons o Q ih =>
    obtain ⟨h1, h2⟩ := okQ_c h
    rw [oN]
    split
    · right; omega
    · exact ih h2
theorem oA_r {Q : List Int} : -1 ≤ oA Q ∧ oA Q < (Q.length : Int) := by
  induction Q with
  | nil => simp [oA]
  | cons o Q ih =>
    rw [oA]
    simp only [List.length_cons]
    split <;> omega
theorem pil_A {f : Fn} {Q : List Int} (h : pil f Q) : (oA Q = -1 ∧ oN Q = -1) ∨ (0 ≤ oA Q ∧ f (oA Q) = oN Q ∧ 40 ≤ oN Q) := by
  induction Q with
  | nil => exact Or.inl ⟨rfl, rfl⟩
  | cons o Q ih =>
    rw [pil] at h
    rw [oA, oN]
    by_cases q : 40 ≤ o
    · rw [if_pos q, if_pos q]
      exact Or.inr ⟨by omega, h.1, q⟩
    · rw [if_neg q, if_neg q]
      exact ih h.2
theorem pil_cg {f g : Fn} : ∀ {Q : List Int}, (∀ i, 0 ≤ i → i < (Q.length : Int) → g i = f i) → pil f Q → pil g Q := by
  intro Q
  induction Q with
  | nil => intro _ _; exact True.intro
  | cons o Q ih =>
    intro h hp
    rw [pil] at hp ⊢
    simp only [List.length_cons] at h
    exact ⟨by rw [h _ (by omega) (by omega)]; exact hp.1, ih (fun i i0 i1 => h i i0 (by omega)) hp.2⟩
def aqM (t w : Int) (F F2 : Nat → Fn) : Prop := (∀ b, ¬ b = 149 → ¬ b = 152 → ¬ b = 154 → F2 b = F b) ∧ (∀ z, z < 7 ∨ z = 11 ∨ z = 12 ∨ z = 14 ∨ z = 15 ∨ 18 < z → F2 149 z = F 149 z) ∧ ∀ j, j < 753 * t + 145 + 2 * w → F2 152 j = F 152 j
theorem aqM_rfl (t w : Int) (F : Nat → Fn) : aqM t w F F := ⟨fun _ _ _ _ => rfl, fun _ _ => rfl, fun _ _ => rfl⟩
theorem aqM_tr {t w w1 : Int} {F F1 F2 : Nat → Fn} (h1 : aqM t w F F1) (h2 : aqM t w1 F1 F2) (hw : w ≤ w1) : aqM t w F F2 := ⟨fun b a c d => (h2.1 b a c d).trans (h1.1 b a c d), fun z h => (h2.2.1 z h).trans (h1.2.1 z h), fun j h => (h2.2.2 j (by omega)).trans (h1.2.2 j h)⟩
theorem agn_aq {t w : Int} {F F2 : Nat → Fn} (h : agn F F2) : aqM t w F F2 := ⟨fun b a _ _ => h.1 b a, fun z hz => h.2 z (by omega), fun j _ => by rw [h.1 152 (by omega)]⟩
theorem aqM_u {t w z v : Int} {F : Nat → Fn} (hz : z = 13 ∨ z = 16 ∨ z = 17 ∨ z = 18) : aqM t w F (sA F 149 (u (F 149) z v)) := by
  refine ⟨fun b b1 _ _ => by rw [sA_ne _ _ b1], fun y hy => by rw [sA_eq, u_ne _ _ (by omega)], fun j _ => by rw [sA_ne _ _ (by omega)]⟩
theorem aqM_p {t w : Int} {F : Nat → Fn} {f : Fn} : aqM t w F (sA F 154 f) := by
  refine ⟨fun b _ _ b3 => by rw [sA_ne _ _ b3], fun y hy => by rw [sA_ne _ _ (by omega)], fun j _ => by rw [sA_ne _ _ (by omega)]⟩
def STa (F G : Nat → Fn) (T : Fn) (n t s p : Int) (Q : List Int) (op w wh : Int) : Prop := (TM F T n ∧ MT F G T n p) ∧ (F 149 12 = 753 * t ∧ F 149 14 = s) ∧ (F 149 16 = (Q.length : Int) ∧ pil (F 154) Q) ∧ F 149 17 = op ∧ F 149 13 = w ∧ F 149 18 = wh
/-- fields 13, 16, 17, 18 and the pile changed, the rest of the state stays -/
theorem ST_chg {F F2 G : Nat → Fn} {T : Fn} {n t s p : Int} {Q Q2 : List Int} {op w wh op2 w2 wh2 : Int} (h : STa F G T n t s p Q op w wh) (h1 : ∀ z, z < 13 ∨ z = 14 → F2 149 z = F 149 z) (h2 : F2 153 = F 153) (h3 : F2 149 16 = (Q2.length : Int)) (h4 : pil (F2 154) Q2) (h5 : F2 149 17 = op2) (h6 : F2 149 13 = w2) (h7 : F2 149 18 = wh2) : STa F2 G T n t s p Q2 op2 w2 wh2 := by
  obtain ⟨⟨⟨a1, a2, a3⟩, ⟨b1, b2, b3⟩, b4, b5, b6⟩, ⟨c1, c2⟩, _⟩ := h
  refine ⟨⟨⟨?_, a2, ?_⟩, ⟨?_, ?_, ?_⟩, b4, ?_, b6⟩, ⟨?_, ?_⟩, ⟨h3, h4⟩, h5, h6, h7⟩
  · rw [h1 4 (by omega)]; exact a1
  · rw [h2]; exact a3
  · rw [h1 7 (by omega)]; exact b1
  · rw [h1 8 (by omega)]; exact b2
  · rw [h1 9 (by omega)]; exact b3
  · rw [h1 10 (by omega)]; exact b5
  · rw [h1 12 (by omega)]; exact c1
  · rw [h1 14 (by omega)]; exact c2
section
variable (x : m_X) (F G : Nat → Fn)
theorem M_rank {o : Int} (h : 0 ≤ o ∧ o ≤ 44) : m_M x k_M_rank [.int (jI o)] (mk F G) = some (some (.int (jI (rk o))), mk F G) := by
  have f : ∀ v : Fin 45, (if jI (v.val : Int) < 40 then (if jI (v.val : Int) = 22 then (1 : Int32) else if jI (v.val : Int) = 21 then 2 else if jI (v.val : Int) = 20 then 3 else if jI (v.val : Int) < 10 then (if jI (v.val : Int) = 5 then 7 else if jI (v.val : Int) = 2 then 7 else if jI (v.val : Int) = 4 then 7 else if jI (v.val : Int) < 8 then 5 else 6) else 4) else 0) = jI (rk (v.val : Int)) := by decide +kernel
  have g := f ⟨o.toNat, by omega⟩
  have e : ((o.toNat : Nat) : Int) = o := by omega
  simp only [e] at g
  rw [E_M_rank, ← g]
  simp only [some_ite]
theorem rk_r {o : Int} : 0 ≤ rk o ∧ rk o ≤ 7 := by
  unfold rk
  repeat' split
  all_goals omega
theorem M_emit {t w o v : Int} (h12 : F 149 12 = 753 * t) (h13 : F 149 13 = w) (ht : 0 ≤ t ∧ t ≤ 3) (hw : 0 ≤ w ∧ w ≤ 303) : ∃ F2, m_M x k_M_emit [.ref 149, .int (jI o), .int (jI v)] (mk F G) = some (none, mk F2 G) ∧ aqM t w F F2 ∧ F2 149 = u (F 149) 13 (w + 1) ∧ F2 153 = F 153 ∧ F2 154 = F 154 ∧ F2 152 (753 * t + 145 + 2 * w) = o ∧ F2 152 (753 * t + 145 + 2 * w + 1) = v := by
  rw [E_M_emit, isO_149, if_pos rfl, fR_149_2, Option.bind_some, fI_149_12, Option.bind_some, fI_149_13, Option.bind_some, h12, h13, show (145 : Int32) = jI 145 from by decide, lit_2, jI_add, jI_mul, jI_add, is_152 _ _ _ (by omega) (by omega), Option.bind_some, fR_149_2, Option.bind_some, fI_149_12, Option.bind_some, fI_149_13, Option.bind_some, sA_ne (b := 149) _ _ (by omega), h12, h13, jI_add, jI_mul, jI_add, show (1 : Int32) = jI 1 from rfl, jI_add, is_152 _ _ _ (by omega) (by omega), Option.bind_some, fI_149_13, Option.bind_some, sA_ne (b := 149) _ _ (by omega), sA_ne (b := 149) _ _ (by omega), h13, jI_add, pf_149_13, Option.bind_some]
  refine ⟨_, rfl, ⟨?_, ?_, ?_⟩, ?_, ?_, ?_, ?_, ?_⟩
  · intro b b1 b2 b3
    rw [sA_ne _ _ b1, sA_ne _ _ b2, sA_ne _ _ b2]
  · intro z hz
    rw [sA_eq, u_ne _ _ (by omega), sA_ne _ _ (by omega), sA_ne _ _ (by omega)]
  · intro j hj
    rw [sA_ne (b := 152) _ _ (by omega), sA_eq, u_ne _ _ (by omega), sA_eq, u_ne _ _ (by omega)]
  · rw [sA_eq, sA_ne (b := 149) _ _ (by omega), sA_ne (b := 149) _ _ (by omega)]
  · rw [sA_ne _ _ (by omega), sA_ne _ _ (by omega), sA_ne _ _ (by omega)]
  · rw [sA_ne _ _ (by omega), sA_ne _ _ (by omega), sA_ne _ _ (by omega)]
  · rw [sA_ne (b := 152) _ _ (by omega), sA_eq, u_ne _ _ (by omega), sA_eq, u_eq]
  · rw [sA_ne (b := 152) _ _ (by omega), sA_eq, u_eq]
noncomputable def SE (x : m_X) (l : Int) (F G : Nat → Fn) : Option m_R := m_M x k_M_settle [.ref 149, .int (jI l)] (mk F G)
theorem SE_D (l : Int) : SE x l F G = m_D x 2 k_M_settle 0 [some (.ref 149), some (.int (jI l))] [] (mk F G) := by
  unfold SE
  rw [E_M_settle, isO_149, if_pos rfl, E_M_settle_0 x 2 (by omega)]
theorem M_stop {T : Fn} {n t s p op w wh l : Int} {Q : List Int} (h : STa F G T n t s p Q op w wh) (hq : okQ Q) (hl : Q.length ≤ 160) (hr : ∀ o R, Q = o :: R → rk o < l) (l1 : l ≤ 7) : SE x l F G = some (none, mk F G) := by
  obtain ⟨_, _, ⟨h16, hp⟩, _⟩ := h
  rw [SE_D, E_M_settle_0 x 2 (by omega), fI_149_16, Option.bind_some, h16]
  cases Q with
  | nil => rw [if_pos (by decide)]
  | cons o R =>
    have ho := (okQ_c hq).1
    have rr := rk_r (o := o)
    have hr' := hr o R rfl
    simp only [List.length_cons] at hl
    rw [pil] at hp
    have e : (((o :: R).length : Nat) : Int) = (R.length : Int) + 1 := by simp
    rw [e, show (0 : Int32) = jI 0 from rfl, if_neg (by rw [jI_le (by omega) (by omega) (by omega) (by omega)]; omega), fR_149_15, Option.bind_some, Option.bind_some, show (1 : Int32) = jI 1 from rfl, jI_sub, show (R.length : Int) + 1 - 1 = R.length from by omega, ia_154 x F G (by omega) (by omega), Option.bind_some, hp.1, M_rank x F G ho, b_I, if_pos (by rw [jI_lt (by omega) (by omega) (by omega) (by omega)]; omega)]
theorem M_pop {T : Fn} {n t s p op w wh : Int} {o : Int} {Q : List Int} (h : STa F G T n t s p (o :: Q) op w wh) (hq : okQ (o :: Q)) (hl : Q.length < 160) (ht : 0 ≤ t ∧ t ≤ 3) (hw : 0 ≤ w ∧ w ≤ 303) (hop : 0 ≤ op ∧ op ≤ 100) : ∃ F2, (∀ l, 1 ≤ l → l ≤ rk o → SE x l F G = SE x l F2 G) ∧ STa F2 G T n t s p Q (if rk o = 7 ∨ o = 20 then op - 1 else op) (w + 1) wh ∧ aqM t w F F2 ∧ F2 152 (753 * t + 145 + 2 * w) = o := by
  have h' := h
  obtain ⟨_, ⟨h12, h14⟩, ⟨h16, hp⟩, h17, h13, h18⟩ := h'
  have ho := (okQ_c hq).1
  have rr := rk_r (o := o)
  rw [pil] at hp
  have e : (((o :: Q).length : Nat) : Int) = (Q.length : Int) + 1 := by simp
  rw [e] at h16
  -- the pile is one shorter
  generalize hF1 : sA F 149 (u (F 149) 16 (Q.length : Int)) = F1
  have f154 : F1 154 = F 154 := by rw [← hF1, sA_ne _ _ (by omega)]
  have f149 : ∀ z, ¬ z = 16 → F1 149 z = F 149 z := by
    intro z hz
    rw [← hF1, sA_eq, u_ne _ _ hz]
  have f16 : F1 149 16 = (Q.length : Int) := by rw [← hF1, sA_eq, u_eq]
  have f153 : F1 153 = F 153 := by rw [← hF1, sA_ne _ _ (by omega)]
  have ag1 : aqM t w F F1 := by rw [← hF1]; exact aqM_u (by omega)
  obtain ⟨F2, y1, y2, y3, y4, y5, y6, y7⟩ := M_emit x F1 G (t := t) (w := w) (o := o) (v := 0) (by rw [f149 12 (by omega)]; exact h12) (by rw [f149 13 (by omega)]; exact h13) ht hw
  have g149 : ∀ z, ¬ z = 13 → ¬ z = 16 → F2 149 z = F 149 z := by
    intro z z1 z2
    rw [y3, u_ne _ _ z1, f149 z z2]
  have g16 : F2 149 16 = (Q.length : Int) := by rw [y3, u_ne _ _ (by omega), f16]
  have g154 : F2 154 = F 154 := by rw [y5, f154]
  have ag2 : aqM t w F F2 := aqM_tr ag1 y2 (Int.le_refl _)
  have st2 : STa F2 G T n t s p Q op (w + 1) wh := by
    refine ST_chg h (fun z hz => g149 z (by omega) (by omega)) (by rw [y4, f153]) g16 ?_ ?_ ?_ ?_
    · rw [g154]; exact hp.2
    · rw [g149 17 (by omega) (by omega)]; exact h17
    · rw [y3, u_eq]
    · rw [g149 18 (by omega) (by omega)]; exact h18
  have run : ∀ l, 1 ≤ l → l ≤ rk o → SE x l F G = (if rk o = 7 ∨ o = 20 then SE x l (sA F2 149 (u (F2 149) 17 (op - 1))) G else SE x l F2 G) := by
    intro l l0 l1
    rw [SE_D, E_M_settle_0 x 2 (by omega), fI_149_16, Option.bind_some, h16, show (0 : Int32) = jI 0 from rfl, if_neg (by rw [jI_le (by omega) (by omega) (by omega) (by omega)]; omega), fR_149_15, Option.bind_some, Option.bind_some, show (1 : Int32) = jI 1 from rfl, jI_sub, show (Q.length : Int) + 1 - 1 = Q.length from by omega, ia_154 x F G (by omega) (by omega), Option.bind_some, hp.1, M_rank x F G ho, b_I, if_neg (by rw [jI_lt (by omega) (by omega) (by omega) (by omega)]; omega), fI_149_16, Option.bind_some, h16, jI_sub, show (Q.length : Int) + 1 - 1 = Q.length from by omega, pf_149_16, Option.bind_some, hF1, fR_149_15, Option.bind_some, fI_149_16, Option.bind_some, f16, ia_154 x F1 G (by omega) (by omega), Option.bind_some, f154, hp.1, y1, b_V, fR_149_15, Option.bind_some, fI_149_16, Option.bind_some, g16, ia_154 x F2 G (by omega) (by omega), Option.bind_some, g154, hp.1, M_rank x F2 G ho, b_I]
    have dn : ((m_fI (mk F2 G) 11 17 149).bind fun v82 => (m_pf (mk F2 G) 11 17 149 (.int (v82 - (jI 1)))).bind fun s87 => m_D x 2 k_M_settle 0 [some (.ref 149), some (.int (jI l))] [] s87) = SE x l (sA F2 149 (u (F2 149) 17 (op - 1))) G := by
      rw [fI_149_17, Option.bind_some, g149 17 (by omega) (by omega), h17, jI_sub, pf_149_17, Option.bind_some, SE_D]
    rw [show (7 : Int32) = jI 7 from by decide]
    by_cases q7 : rk o = 7
    · rw [if_pos (by rw [q7]), if_pos (Or.inl q7)]
      exact dn
    · rw [if_neg (by rw [jI_eq (by omega) (by omega) (by omega) (by omega)]; omega), fR_149_15, Option.bind_some, fI_149_16, Option.bind_some, g16, ia_154 x F2 G (by omega) (by omega), Option.bind_some, g154, hp.1, show (20 : Int32) = jI 20 from by decide]
      by_cases q20 : o = 20
      · rw [if_pos (by rw [q20]), if_pos (Or.inr q20)]
        exact dn
      · rw [if_neg (by rw [jI_eq (by omega) (by omega) (by omega) (by omega)]; omega), if_neg (by omega), SE_D]
  by_cases q : rk o = 7 ∨ o = 20
  · refine ⟨sA F2 149 (u (F2 149) 17 (op - 1)), ?_, ?_, ?_, ?_⟩
    · intro l l0 l1
      rw [run l l0 l1, if_pos q]
    · rw [if_pos q]
      refine ST_chg st2 (fun z hz => by rw [sA_eq, u_ne _ _ (by omega)]) (by rw [sA_ne _ _ (by omega)]) (by rw [sA_eq, u_ne _ _ (by omega)]; exact g16) ?_ (by rw [sA_eq, u_eq]) ?_ ?_
      · rw [sA_ne _ _ (by omega), g154]; exact hp.2
      · rw [sA_eq, u_ne _ _ (by omega), y3, u_eq]
      · rw [sA_eq, u_ne _ _ (by omega), g149 18 (by omega) (by omega)]; exact h18
    · exact aqM_tr ag2 (aqM_u (by omega)) (Int.le_refl _)
    · rw [sA_ne (b := 152) _ _ (by omega)]; exact y6
  · refine ⟨F2, ?_, ?_, ag2, y6⟩
    · intro l l0 l1
      rw [run l l0 l1, if_neg q]
    · rw [if_neg q]; exact st2
theorem M_openAt {Q : List Int} (h16 : F 149 16 = (Q.length : Int)) (hp : pil (F 154) Q) (hq : okQ Q) (hl : Q.length ≤ 160) : m_M x k_M_openAt [.ref 149] (mk F G) = some (some (.int (jI (oA Q))), mk F G) := by
  have key : ∀ R : List Int, pil (F 154) R → okQ R → R.length ≤ 160 → m_D x 1 k_M_openAt 7 [some (.ref 149), some (.int (jI ((R.length : Int) - 1)))] [] (mk F G) = some (some (.int (jI (oA R))), mk F G) := by
    intro R
    induction R with
    | nil =>
      intro _ _ _
      rw [E_M_openAt_7 x 1 (by omega), if_pos (by decide)]
      rfl
    | cons o R ih =>
      intro hp hq hl
      rw [pil] at hp
      simp only [List.length_cons] at hl
      have ho := (okQ_c hq).1
      have e : (((o :: R).length : Nat) : Int) - 1 = (R.length : Int) := by simp
      rw [e, E_M_openAt_7 x 1 (by omega), show (0 : Int32) = jI 0 from rfl, if_neg (by rw [jI_lt (by omega) (by omega) (by omega) (by omega)]; omega), fR_149_15, Option.bind_some, ia_154 x F G (by omega) (by omega), Option.bind_some, hp.1, show (40 : Int32) = jI 40 from by decide, oA]
      by_cases q : 40 ≤ o
      · rw [if_pos (by rw [jI_le (by omega) (by omega) (by omega) (by omega)]; omega), if_pos q]
      · rw [if_neg (by rw [jI_le (by omega) (by omega) (by omega) (by omega)]; omega), if_neg q, show (-1 : Int32) = jI (-1) from rfl, jI_add, show (R.length : Int) + -1 = (R.length : Int) - 1 from by omega]
        exact ih hp.2 (okQ_c hq).2 (by omega)
  rw [E_M_openAt, isO_149, if_pos rfl, fI_149_16, Option.bind_some, h16, show (1 : Int32) = jI 1 from rfl, jI_sub]
  exact key Q hp hq hl
theorem M_openNow {Q : List Int} (h16 : F 149 16 = (Q.length : Int)) (hp : pil (F 154) Q) (hq : okQ Q) (hl : Q.length ≤ 160) : m_M x k_M_openNow [.ref 149] (mk F G) = some (some (.int (jI (oN Q))), mk F G) := by
  have oa := M_openAt x F G h16 hp hq hl
  have ar := oA_r (Q := Q)
  rw [E_M_openNow, isO_149, if_pos rfl, oa, b_I, show (0 : Int32) = jI 0 from rfl]
  rcases pil_A hp with ⟨a, b⟩ | ⟨a, b, c⟩
  · rw [if_neg (by rw [jI_le (by omega) (by omega) (by omega) (by omega)]; omega), b]
    rfl
  · rw [if_pos (by rw [jI_le (by omega) (by omega) (by omega) (by omega)]; omega), fR_149_15, Option.bind_some, oa, b_I, ia_154 x F G a (by omega), Option.bind_some, b]
theorem M_isAskHere {Q : List Int} (h16 : F 149 16 = (Q.length : Int)) (hp : pil (F 154) Q) (hq : okQ Q) (hl : Q.length ≤ 160) : m_M x k_M_isAskHere [.ref 149] (mk F G) = some (some (.int (jI (if oN Q = 42 then 1 else 0))), mk F G) := by
  have r := oN_r hq
  rw [E_M_isAskHere, isO_149, if_pos rfl, M_openNow x F G h16 hp hq hl, b_I, show (42 : Int32) = jI 42 from by decide]
  by_cases q : oN Q = 42
  · rw [if_pos (by rw [q]), if_pos q]; rfl
  · rw [if_neg (by rw [jI_eq (by omega) (by omega) (by omega) (by omega)]; omega), if_neg q]; rfl
theorem M_isCompared {Q : List Int} (h16 : F 149 16 = (Q.length : Int)) (hp : pil (F 154) Q) (hq : okQ Q) (hl : Q.length ≤ 160) : m_M x k_M_isCompared [.ref 149] (mk F G) = some (some (.int (jI (if cq Q = true then 1 else 0))), mk F G) := by
  have key : ∀ R : List Int, pil (F 154) R → okQ R → R.length ≤ 160 → m_D x 2 k_M_isCompared 7 [some (.ref 149), some (.int (jI ((R.length : Int) - 1)))] [] (mk F G) = some (some (.int (jI (if cq R = true then 1 else 0))), mk F G) := by
    intro R
    induction R with
    | nil =>
      intro _ _ _
      rw [E_M_isCompared_7 x 2 (by omega), if_pos (by decide), if_pos (by decide)]
      rfl
    | cons o R ih =>
      intro hp hq hl
      rw [pil] at hp
      simp only [List.length_cons] at hl
      have ho := (okQ_c hq).1
      have rr := rk_r (o := o)
      have e : (((o :: R).length : Nat) : Int) - 1 = (R.length : Int) := by simp
      rw [e, E_M_isCompared_7 x 2 (by omega), show (0 : Int32) = jI 0 from rfl, if_neg (by rw [jI_lt (by omega) (by omega) (by omega) (by omega)]; omega), fR_149_15, Option.bind_some, ia_154 x F G (by omega) (by omega), Option.bind_some, hp.1, M_rank x F G ho, b_I, show (4 : Int32) = jI 4 from by decide, cq]
      by_cases q : rk o ≤ 4
      · rw [if_pos (by rw [jI_le (by omega) (by omega) (by omega) (by omega)]; omega), if_neg (by rw [jI_lt (by omega) (by omega) (by omega) (by omega)]; omega), fR_149_15, Option.bind_some, ia_154 x F G (by omega) (by omega), Option.bind_some, hp.1, M_rank x F G ho, b_I, if_pos q]
        by_cases q4 : rk o = 4
        · rw [if_pos (by rw [q4]), if_pos (by simpa using q4)]; rfl
        · rw [if_neg (by rw [jI_eq (by omega) (by omega) (by omega) (by omega)]; omega), if_neg (by simpa using q4)]
      · rw [if_neg (by rw [jI_le (by omega) (by omega) (by omega) (by omega)]; omega), if_neg q, show (-1 : Int32) = jI (-1) from rfl, jI_add, show (R.length : Int) + -1 = (R.length : Int) - 1 from by omega]
        exact ih hp.2 (okQ_c hq).2 (by omega)
  rw [E_M_isCompared, isO_149, if_pos rfl, fI_149_16, Option.bind_some, h16, show (1 : Int32) = jI 1 from rfl, jI_sub]
  exact key Q hp hq hl
theorem M_nx {T : Fn} {n t s p op w wh : Int} {Q : List Int} (h : STa F G T n t s p Q op w wh) : ∃ F2 G2, m_M x k_M_nextToken [.ref 149] (mk F G) = some (none, mk F2 G2) ∧ STa F2 G2 T n t s (nxp T n p) Q op w wh ∧ aqM t w F F2 := by
  obtain ⟨⟨hT, hM⟩, ⟨h12, h14⟩, ⟨h16, hp⟩, h17, h13, h18⟩ := h
  have a := tle_r (T := T) hM.2.1.1 hM.2.1.2
  have p0 := hM.2.1.1
  obtain ⟨F2, G2, y1, y2, y3⟩ := M_next x F G hT hM.1.1 (by omega) a.2.1
  refine ⟨F2, G2, y1, ⟨⟨agn_TM y2 hT, y3⟩, ⟨?_, ?_⟩, ⟨?_, ?_⟩, ?_, ?_, ?_⟩, agn_aq y2⟩
  · rw [y2.2 12 (by omega)]; exact h12
  · rw [y2.2 14 (by omega)]; exact h14
  · rw [y2.2 16 (by omega)]; exact h16
  · rw [y2.1 154 (by omega)]; exact hp
  · rw [y2.2 17 (by omega)]; exact h17
  · rw [y2.2 13 (by omega)]; exact h13
  · rw [y2.2 18 (by omega)]; exact h18
theorem M_opened {T : Fn} {n t s p op w wh o : Int} {Q : List Int} (h : STa F G T n t s p Q op w wh) (hl : Q.length < 160) (hop : 0 ≤ op ∧ op ≤ 8) : (op = 8 ∧ m_M x k_M_opened [.ref 149, .int (jI o)] (mk F G) = some (some (.int (jI 3)), mk F G)) ∨ (op < 8 ∧ ∃ F2 G2, m_M x k_M_opened [.ref 149, .int (jI o)] (mk F G) = some (some (.int (jI 0)), mk F2 G2) ∧ STa F2 G2 T n t s (nxp T n p) (o :: Q) (op + 1) w wh ∧ aqM t w F F2) := by
  have h' := h
  obtain ⟨_, ⟨h12, h14⟩, ⟨h16, hp⟩, h17, h13, h18⟩ := h'
  rw [E_M_opened, isO_149, if_pos rfl, fI_149_17, Option.bind_some, h17, show (8 : Int32) = jI 8 from by decide]
  by_cases q : op = 8
  · left
    refine ⟨q, ?_⟩
    rw [if_pos (by rw [q])]
    rfl
  · right
    refine ⟨by omega, ?_⟩
    rw [if_neg (by rw [jI_eq (by omega) (by omega) (by omega) (by omega)]; omega), Option.bind_some, show (1 : Int32) = jI 1 from rfl, jI_add, pf_149_17, Option.bind_some, fR_149_15, Option.bind_some, fI_149_16, Option.bind_some, sA_eq, u_ne _ _ (by omega), h16, is_154 _ _ _ (by omega) (by omega), Option.bind_some, fI_149_16, Option.bind_some, sA_ne (b := 149) _ _ (by omega), sA_eq, u_ne _ _ (by omega), h16, jI_add, pf_149_16, Option.bind_some]
    generalize hF1 : sA (sA (sA F 149 (u (F 149) 17 (op + 1))) 154 (u (sA F 149 (u (F 149) 17 (op + 1)) 154) (Q.length : Int) o)) 149 (u (sA (sA F 149 (u (F 149) 17 (op + 1))) 154 (u (sA F 149 (u (F 149) 17 (op + 1)) 154) (Q.length : Int) o) 149) 16 ((Q.length : Int) + 1)) = F1
    have e149 : ∀ z, ¬ z = 16 → ¬ z = 17 → F1 149 z = F 149 z := by
      intro z z1 z2
      rw [← hF1, sA_eq, u_ne _ _ z1, sA_ne (b := 149) _ _ (by omega), sA_eq, u_ne _ _ z2]
    have e154 : F1 154 = u (F 154) (Q.length : Int) o := by rw [← hF1, sA_ne (b := 154) _ _ (by omega), sA_eq, sA_ne (b := 154) _ _ (by omega)]
    have ag : aqM t w F F1 := by
      rw [← hF1]
      exact aqM_tr (aqM_tr (aqM_u (by omega)) aqM_p (Int.le_refl _)) (aqM_u (by omega)) (Int.le_refl _)
    have st1 : STa F1 G T n t s p (o :: Q) (op + 1) w wh := by
      refine ST_chg h (fun z hz => e149 z (by omega) (by omega)) ?_ ?_ ?_ ?_ ?_ ?_
      · rw [ag.1 153 (by omega) (by omega) (by omega)]
      · rw [← hF1, sA_eq, u_eq]; simp
      · rw [e154, pil]
        refine ⟨by rw [u_eq], pil_cg ?_ hp⟩
        intro i i0 i1
        rw [u_ne _ _ (by omega)]
      · rw [← hF1, sA_eq, u_ne _ _ (by omega), sA_ne (b := 149) _ _ (by omega), sA_eq, u_eq]
      · rw [e149 13 (by omega) (by omega)]; exact h13
      · rw [e149 18 (by omega) (by omega)]; exact h18
    obtain ⟨F2, G2, y1, y2, y3⟩ := M_nx x F1 G st1
    refine ⟨F2, G2, ?_, y2, aqM_tr ag y3 (Int.le_refl _)⟩
    rw [y1, b_V]
    rfl
end
