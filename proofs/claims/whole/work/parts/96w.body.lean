-- reading: the deeds' bodies, the model
theorem bI_as {m : Option m_R} {K K2 : Int32 → m_H → Option m_R} : m_bI (m_bI m K) K2 = m_bI m (fun v s => m_bI (K v s) K2) := by
  cases m with
  | none => rfl
  | some r =>
    obtain ⟨v, s⟩ := r
    cases v with
    | none => rfl
    | some v => cases v <;> rfl
section
variable (x : m_X)
theorem M_pairN {T : Fn} {n x0 lo hi lo2 hi2 p : Int} {w : Nat} {F G : Nat → Fn} (hB : BY T n) (hT : TM F T n) (hm : MT F G T n p) (hx : 0 ≤ x0 ∧ x0 + 5 < 3012) (hw : w < 37) (hl : (0 ≤ lo ∧ lo ≤ 9999) ∧ 0 ≤ hi ∧ hi ≤ 9999) (hl2 : (0 ≤ lo2 ∧ lo2 ≤ 9999) ∧ 0 ≤ hi2 ∧ hi2 ≤ 9999) : MN T n x0 0 p F (m_bI (m_M x k_M_pair [.ref 149, .int (jI x0), .int (jI lo), .int (jI hi), .long (jL (vr (SP.getD w []).reverse)), .int (jI lo2), .int (jI hi2)] (mk F G)) fun v s => some (some (.int v), s)) [(-1, lo, hi), ((w : Int), lo2, hi2)] := by
  rw [E_M_pair, isO_149, if_pos rfl, show (1 : Int32) = jI 1 from rfl, jI_add, bI_as, show x0 + 1 = x0 + 1 + ((0 : Nat) : Int) by omega]
  refine MN_fig x hB hT hm hx (by omega) hl ?_ ?_
  · intro c s hc
    rcases hc with e | e <;> rw [e, if_neg (by decide), b_I]
  · intro F1 G1 t1 m1
    rw [if_pos (show jI 0 = 0 from rfl), lit_2, jI_add, bI_as, show x0 + 2 = x0 + 1 + ((0 + 1 : Nat) : Int) by omega]
    refine MN_wd x hB t1 m1 hx (by omega) hw hl2 ?_ ?_
    · intro c s _
      rw [b_I]
    · intro F2 G2 q t2 m2
      rw [b_I]
      exact MN_nil (aqN_rfl _ _ F2) m2
theorem M_figN {T : Fn} {n x0 lo hi p : Int} {F G : Nat → Fn} (hB : BY T n) (hT : TM F T n) (hm : MT F G T n p) (hx : 0 ≤ x0 ∧ x0 + 5 < 3012) (hl : (0 ≤ lo ∧ lo ≤ 9999) ∧ 0 ≤ hi ∧ hi ≤ 9999) : MN T n x0 0 p F (m_bI (m_M x k_M_figure [.ref 149, .int (jI (x0 + 1)), .int (jI lo), .int (jI hi)] (mk F G)) fun v s => some (some (.int v), s)) [(-1, lo, hi)] := by
  rw [show x0 + 1 = x0 + 1 + ((0 : Nat) : Int) by omega]
  refine MN_fig x hB hT hm hx (by omega) hl (fun c s _ => rfl) ?_
  intro F1 G1 t1 m1
  exact MN_nil (aqN_rfl _ _ F1) m1
theorem M_oweN {T : Fn} {n x0 p : Int} {F G : Nat → Fn} (hB : BY T n) (hT : TM F T n) (hm : MT F G T n p) (hx : 0 ≤ x0 ∧ x0 + 5 < 3012) : MN T n x0 0 p F (m_bI (m_M x k_M_oweClause [.ref 149, .int (jI x0)] (mk F G)) fun v s => some (some (.int v), s)) [(-1, 0, 6), (25, 0, 6), (19, 1, 99), (20, 0, 2), (22, 0, 9)] := by
  have f59 : ∀ c s, (c = 1 ∨ c = 2) → m_D x 5 k_M_oweClause 59 [some (.ref 149), some (.int (jI x0)), some (.int (jI c))] [] s = some (some (.int (jI c)), s) := by
    intro c s hc
    rw [E_M_oweClause_59 x 5 (by omega)]
    rcases hc with e | e <;> rw [e, if_neg (by decide)]
  have f33 : ∀ c s, (c = 1 ∨ c = 2) → m_D x 5 k_M_oweClause 33 [some (.ref 149), some (.int (jI x0)), some (.int (jI c))] [] s = some (some (.int (jI c)), s) := by
    intro c s hc
    rw [E_M_oweClause_33 x 5 (by omega), if_neg (by rcases hc with e | e <;> rw [e] <;> decide), f59 c s hc]
  rw [E_M_oweClause, isO_149, if_pos rfl, show (1 : Int32) = jI 1 from rfl, jI_add, bI_as, show x0 + 1 = x0 + 1 + ((0 : Nat) : Int) by omega, show (6 : Int32) = jI 6 from by decide, show (0 : Int32) = jI 0 from rfl]
  refine MN_fig x hB hT hm hx (by omega) (by omega) ?_ ?_
  · intro c s hc
    rw [if_neg (by rcases hc with e | e <;> rw [e] <;> decide), f33 c s hc, b_I]
  · intro F1 G1 t1 m1
    rw [if_pos rfl, W_to, b_L, bI_as, lit_2, jI_add, show x0 + 2 = x0 + 1 + ((0 + 1 : Nat) : Int) by omega]
    refine MN_wd (w := 25) x hB t1 m1 hx (by omega) (by omega) (by omega) ?_ ?_
    · intro c s hc
      rw [f33 c s hc, b_I]
    · intro F2 G2 q2 t2 m2
      rw [E_M_oweClause_33 x 5 (by omega), if_pos (show jI 0 = 0 from rfl), W_work, b_L, bI_as, show (3 : Int32) = jI 3 from by decide, jI_add, show x0 + 3 = x0 + 1 + ((0 + 1 + 1 : Nat) : Int) by omega, show (1 : Int32) = jI 1 from rfl, show (99 : Int32) = jI 99 from by decide]
      refine MN_wd (w := 19) x hB t2 m2 hx (by omega) (by omega) (by omega) ?_ ?_
      · intro c s hc
        rw [f59 c s hc, b_I]
      · intro F3 G3 q3 t3 m3
        have hp := m3.2.1
        rw [E_M_oweClause_59 x 5 (by omega), if_pos (show jI 0 = 0 from rfl), M_isLeather x F3 G3 hB t3 m3, b_I, show (0 : Int32) = jI 0 from rfl, show (1 : Int32) = jI 1 from rfl]
        by_cases k : kd T n q3 = 20
        · obtain ⟨F4, G4, y1, y2, y3⟩ := M_next x F3 G3 t3 m3.1.1 (by have := tle_r (T := T) hp.1 hp.2; omega) (by have := tle_r (T := T) hp.1 hp.2; omega)
          rw [if_pos k, if_neg (by decide), y1, b_V, bI_as, show (4 : Int32) = jI 4 from by decide, jI_add, show x0 + 4 = x0 + 1 + ((0 + 1 + 1 + 1 : Nat) : Int) by omega, lit_2]
          refine MN_w (F1 := F4) (agn_N y2) (by omega) k ?_
          refine MN_fig x hB (aqN_TM (a := 0) (b := 0) (agn_N y2) t3) y3 hx (by omega) (by omega) ?_ ?_
          · intro c s hc
            rw [if_neg (by rcases hc with e | e <;> rw [e] <;> decide), b_I]
          · intro F5 G5 t5 m5
            rw [if_pos rfl, W_mark, b_L, bI_as, show (5 : Int32) = jI 5 from by decide, jI_add, show x0 + 5 = x0 + 1 + ((0 + 1 + 1 + 1 + 1 : Nat) : Int) by omega, show (9 : Int32) = jI 9 from by decide]
            refine MN_wd (w := 22) x hB t5 m5 hx (by omega) (by omega) (by omega) ?_ ?_
            · intro c s hc
              rw [b_I]
            · intro F6 G6 q6 t6 m6
              rw [b_I]
              exact MN_nil (aqN_rfl _ _ F6) m6
        · rw [if_neg k, if_pos rfl, b_I]
          exact MN_no (aqN_rfl _ _ F3) m3 (by omega) k
theorem M_bodyN {T : Fn} {n x0 d p : Int} {F G : Nat → Fn} (hB : BY T n) (hT : TM F T n) (hm : MT F G T n p) (hx : 0 ≤ x0 ∧ x0 + 5 < 3012) (hd : 4 ≤ d ∧ d ≤ 11) : MN T n x0 0 p F (m_M x k_M_body [.ref 149, .int (jI d), .int (jI x0)] (mk F G)) (sel d FRW) := by
  have hd' : d = 4 ∨ d = 5 ∨ d = 6 ∨ d = 7 ∨ d = 8 ∨ d = 9 ∨ d = 10 ∨ d = 11 := by omega
  rw [E_M_body, isO_149, if_pos rfl]
  rcases hd' with e | e | e | e | e | e | e | e
  · subst e
    rw [if_pos (by decide), W_coins, b_L, show (1 : Int32) = jI 1 from rfl, show (9 : Int32) = jI 9 from by decide, show (0 : Int32) = jI 0 from rfl, show (9999 : Int32) = jI 9999 from by decide]
    exact M_pairN (w := 15) x hB hT hm hx (by omega) (by omega) (by omega)
  · subst e
    rw [if_neg (by decide), if_pos (by decide)]
    exact M_oweN x hB hT hm hx
  · subst e
    rw [if_neg (by decide), if_neg (by decide), if_pos (by decide), W_hours, b_L, show (1 : Int32) = jI 1 from rfl, show (9 : Int32) = jI 9 from by decide, show (0 : Int32) = jI 0 from rfl, show (11 : Int32) = jI 11 from by decide]
    exact M_pairN (w := 26) x hB hT hm hx (by omega) (by omega) (by omega)
  · subst e
    rw [if_neg (by decide), if_neg (by decide), if_neg (by decide), if_pos (by decide), W_to, b_L, show (0 : Int32) = jI 0 from rfl, show (11 : Int32) = jI 11 from by decide, show (6 : Int32) = jI 6 from by decide]
    exact M_pairN (w := 25) x hB hT hm hx (by omega) (by omega) (by omega)
  · subst e
    rw [if_neg (by decide), if_neg (by decide), if_neg (by decide), if_neg (by decide), if_pos (by decide), show (0 : Int32) = jI 0 from rfl, show (11 : Int32) = jI 11 from by decide, show (1 : Int32) = jI 1 from rfl, jI_add]
    exact M_figN x hB hT hm hx (by omega)
  · subst e
    rw [if_neg (by decide), if_neg (by decide), if_neg (by decide), if_neg (by decide), if_neg (by decide), if_pos (by decide), show (0 : Int32) = jI 0 from rfl, show (11 : Int32) = jI 11 from by decide, show (1 : Int32) = jI 1 from rfl, jI_add]
    exact M_figN x hB hT hm hx (by omega)
  · subst e
    rw [if_neg (by decide), if_neg (by decide), if_neg (by decide), if_neg (by decide), if_neg (by decide), if_neg (by decide), if_pos (by decide), show (0 : Int32) = jI 0 from rfl, show (11 : Int32) = jI 11 from by decide, show (1 : Int32) = jI 1 from rfl, jI_add]
    exact M_figN x hB hT hm hx (by omega)
  · subst e
    rw [if_neg (by decide), if_neg (by decide), if_neg (by decide), if_neg (by decide), if_neg (by decide), if_neg (by decide), if_neg (by decide), if_pos (by decide), show (1 : Int32) = jI 1 from rfl, show (60 : Int32) = jI 60 from by decide, jI_add]
    exact M_figN x hB hT hm hx (by omega)
end
