-- the law's loop
def sc (x : m_X) (z : Int) : Int := (x.2.1 z.toNat).toInt
theorem sc_r (x : m_X) (z : Int) : rg (sc x z) := jI_rg _
def PL (r : Option m_R) : Prop := ∃ F' G', r = some (some (.int (jI 1)), mk F' G') ∧ Rel F'
section
variable (x : m_X)
theorem ia_1000 (hx : x.1 ≤ 4096) (s : m_H) {z : Int} (h0 : 0 ≤ z) (h1 : z < (x.1 : Int)) : m_ia x s 1000 (jI z) = some (jI (sc x z)) := by
  unfold m_ia m_xa
  rw [if_neg (by omega), if_pos rfl]
  show (m_ix (jI z) x.1).map x.2.1 = _
  rw [jI_ix h0 h1 (by omega)]
  show some (x.2.1 z.toNat) = _
  unfold sc
  rw [jI_of]
theorem len_1000 (s : m_H) : m_len x s 1000 = some (jI (x.1 : Int)) := by
  unfold m_len m_xa
  rw [if_neg (by omega), if_pos rfl]
  show some (Int32.ofNat x.1) = _
  unfold jI
  rw [Int32.ofInt_eq_ofNat]
theorem Lstp {F G : Nat → Fn} {kc km : Nat} {as : List Value} {K Z : m_H → Option m_R} (h : Ok x F G kc km as) (hk : ∀ F2 G2, Rel F2 → PL (K (mk F2 G2))) : PL (m_bI (m_M x kc (.ref 0 :: as) (mk F G)) fun v s => m_bI (m_M x km (.ref 149 :: as) s) fun w s2 => if v = w then K s2 else Z s2) := by
  obtain ⟨v, F', F2, G2, h1, h2, h3⟩ := h
  rw [h1, b_I, h2, b_I, if_pos rfl]
  exact hk F2 G2 h3
theorem L_step (hX : XOK x) (hx : x.1 ≤ 4096) {F G : Nat → Fn} {i : Int} (hR : Rel F) (i0 : 0 ≤ i) (i1 : i + 8 ≤ (x.1 : Int)) (go : ∀ F2 G2, Rel F2 → PL (m_D x 100 k_L_law 18 [some (.ref 1000), some (.ref 0), some (.ref 149), some (.int (jI i + 8))] [] (mk F2 G2))) : PL (m_D x 100 k_L_law 18 [some (.ref 1000), some (.ref 0), some (.ref 149), some (.int (jI i))] [] (mk F G)) := by
  have hS : Rel (hyb F F) := by rw [hyb_self]; exact hR
  have a1 : ∀ s, m_ia x s 1000 (jI i + (1 : Int32)) = some (jI (sc x (i + 1))) := fun s => by rw [show (1 : Int32) = jI 1 from rfl, jI_add, ia_1000 x hx s (by omega) (by omega)]
  have a2 : ∀ s, m_ia x s 1000 (jI i + (2 : Int32)) = some (jI (sc x (i + 2))) := fun s => by rw [show (2 : Int32) = jI 2 from by decide, jI_add, ia_1000 x hx s (by omega) (by omega)]
  have a3 : ∀ s, m_ia x s 1000 (jI i + (3 : Int32)) = some (jI (sc x (i + 3))) := fun s => by rw [show (3 : Int32) = jI 3 from by decide, jI_add, ia_1000 x hx s (by omega) (by omega)]
  have a4 : ∀ s, m_ia x s 1000 (jI i + (4 : Int32)) = some (jI (sc x (i + 4))) := fun s => by rw [show (4 : Int32) = jI 4 from by decide, jI_add, ia_1000 x hx s (by omega) (by omega)]
  have a5 : ∀ s, m_ia x s 1000 (jI i + (5 : Int32)) = some (jI (sc x (i + 5))) := fun s => by rw [show (5 : Int32) = jI 5 from by decide, jI_add, ia_1000 x hx s (by omega) (by omega)]
  have a6 : ∀ s, m_ia x s 1000 (jI i + (6 : Int32)) = some (jI (sc x (i + 6))) := fun s => by rw [show (6 : Int32) = jI 6 from by decide, jI_add, ia_1000 x hx s (by omega) (by omega)]
  have a7 : ∀ s, m_ia x s 1000 (jI i + (7 : Int32)) = some (jI (sc x (i + 7))) := fun s => by rw [show (7 : Int32) = jI 7 from by decide, jI_add, ia_1000 x hx s (by omega) (by omega)]
  have r : ∀ z, rg (sc x z) := fun z => sc_r x z
  have rb0 : rg 0 := by unfold rg; omega
  have rb1 : rg 1 := by unfold rg; omega
  rw [E_L_law_18 x 100 (by omega), len_1000, Option.bind_some, show jI (x.1 : Int) - (8 : Int32) = jI ((x.1 : Int) - 8) from by rw [show (8 : Int32) = jI 8 from by decide, jI_sub], if_neg (by rw [jI_lt (by omega) (by omega) (by omega) (by omega)]; omega), ia_1000 x hx _ i0 (by omega), Option.bind_some]
  generalize (jI (sc x i) &&& (63 : Int32)) = o
  by_cases h0 : o = 0
  · rw [if_pos h0]
    simp only [a1, a2, Option.bind_some]
    exact Lstp x (ok_one (x := x) (F := F) (G := G) hR (r _) (r _)) go
  rw [if_neg h0]
  by_cases h1 : o = 1
  · rw [if_pos h1]
    simp only [a1, a2, a3, a4, a5, Option.bind_some]
    exact Lstp x (ok_feed (x := x) (F := F) (G := G) hR) go
  rw [if_neg h1]
  by_cases h2 : o = 2
  · rw [if_pos h2]
    simp only [a1, Option.bind_some]
    exact Lstp x (ok_end (x := x) (F := F) (G := G) hR (r _)) go
  rw [if_neg h2]
  by_cases h3 : o = 3
  · rw [if_pos h3]
    exact Lstp x (ok_text x hX hR) go
  rw [if_neg h3]
  by_cases h4 : o = 4
  · rw [if_pos h4]
    simp only [a1, Option.bind_some]
    exact Lstp x (ok_fault (x := x) (F := F) (G := G) hR (r _)) go
  rw [if_neg h4]
  by_cases h5 : o = 5
  · rw [if_pos h5]
    simp only [a1, Option.bind_some]
    exact Lstp x (ok_by (x := x) (F := F) (G := G) hR (r _)) go
  rw [if_neg h5]
  by_cases h6 : o = 6
  · rw [if_pos h6]
    simp only [a1, a2, a3, a4, a5, Option.bind_some]
    exact Lstp x (ok_bargain (x := x) (F := F) (G := G) hR (r _) (r _) (r _) (r _) (r _)) go
  rw [if_neg h6]
  by_cases h7 : o = 7
  · rw [if_pos h7]
    simp only [a1, a2, Option.bind_some]
    exact Lstp x (ok_work (x := x) (F := F) (G := G) hR (r _) (r _)) go
  rw [if_neg h7]
  by_cases h8 : o = 8
  · rw [if_pos h8]
    simp only [a1, a2, Option.bind_some]
    exact Lstp x (ok_pass (x := x) (F := F) (G := G) hR (r _) (r _)) go
  rw [if_neg h8]
  by_cases h9 : o = 9
  · rw [if_pos h9]
    simp only [a1, Option.bind_some]
    exact Lstp x (ok_lose (x := x) (F := F) (G := G) hR (r _)) go
  rw [if_neg h9]
  by_cases h10 : o = 10
  · rw [if_pos h10]
    simp only [a1, a2, Option.bind_some]
    exact Lstp x (ok_find (x := x) (F := F) (G := G) hR (r _) (r _)) go
  rw [if_neg h10]
  by_cases h11 : o = 11
  · rw [if_pos h11]
    simp only [a1, Option.bind_some]
    exact Lstp x (Ok_of (oks_pledge (x := x) hS (r _))) go
  rw [if_neg h11]
  by_cases h12 : o = 12
  · rw [if_pos h12]
    simp only [a1, Option.bind_some]
    exact Lstp x (Ok_of (oks_redeem (x := x) hS (r _))) go
  rw [if_neg h12]
  by_cases h13 : o = 13
  · rw [if_pos h13]
    simp only [a1, Option.bind_some]
    exact Lstp x (Ok_of (oks_day (x := x) hS (r _))) go
  rw [if_neg h13]
  by_cases h14 : o = 14
  · rw [if_pos h14]
    simp only [a1, Option.bind_some]
    exact Lstp x (ok_played (x := x) (F := F) (G := G) hR (r _)) go
  rw [if_neg h14]
  by_cases h15 : o = 15
  · rw [if_pos h15]
    simp only [a1, a2, Option.bind_some]
    exact Lstp x (ok_winters (x := x) (F := F) (G := G) hR (r _) (r _)) go
  rw [if_neg h15]
  by_cases h16 : o = 16
  · rw [if_pos h16]
    exact Lstp x (ok_undo (x := x) (F := F) (G := G) hR) go
  rw [if_neg h16]
  by_cases h17 : o = 17
  · rw [if_pos h17]
    simp only [a1, a2, Option.bind_some]
    exact Lstp x (ok_of (x := x) (F := F) (G := G) hR (r _) (r _)) go
  rw [if_neg h17]
  by_cases h18 : o = 18
  · rw [if_pos h18]
    simp only [a1, a2, Option.bind_some]
    exact Lstp x (ok_ofGlove (x := x) (F := F) (G := G) hR (r _) (r _)) go
  rw [if_neg h18]
  by_cases h19 : o = 19
  · rw [if_pos h19]
    simp only [a1, Option.bind_some]
    exact Lstp x (ok_is (x := x) (F := F) (G := G) hR (r _)) go
  rw [if_neg h19]
  by_cases h20 : o = 20
  · rw [if_pos h20]
    simp only [a1, a2, Option.bind_some]
    exact Lstp x (ok_book (x := x) (F := F) (G := G) hR (r _) (r _)) go
  rw [if_neg h20]
  by_cases h21 : o = 21
  · rw [if_pos h21]
    simp only [a1, a2, a3, Option.bind_some]
    exact Lstp x (ok_foretold (x := x) (F := F) (G := G) hR (r _) (r _) (r _)) go
  rw [if_neg h21]
  by_cases h22 : o = 22
  · rw [if_pos h22]
    simp only [a1, Option.bind_some]
    exact Lstp x (ok_firstFine (x := x) (F := F) (G := G) hR (r _)) go
  rw [if_neg h22]
  by_cases h23 : o = 23
  · rw [if_pos h23]
    exact Lstp x (ok_free (x := x) (F := F) (G := G) hR) go
  rw [if_neg h23]
  by_cases h24 : o = 24
  · rw [if_pos h24]
    simp only [a1, a2, Option.bind_some]
    exact Lstp x (ok_price (x := x) (F := F) (G := G) hR (r _) (r _)) go
  rw [if_neg h24]
  by_cases h25 : o = 25
  · rw [if_pos h25]
    simp only [a1, a2, Option.bind_some]
    exact Lstp x (ok_order (x := x) (F := F) (G := G) hR (r _) (r _)) go
  rw [if_neg h25]
  by_cases h26 : o = 26
  · rw [if_pos h26]
    simp only [a1, a2, Option.bind_some]
    exact Lstp x (ok_whose (x := x) (F := F) (G := G) hR (r _) (r _)) go
  rw [if_neg h26]
  by_cases h27 : o = 27
  · rw [if_pos h27]
    simp only [a1, Option.bind_some]
    exact Lstp x (ok_test (x := x) (F := F) (G := G) hR (r _)) go
  rw [if_neg h27]
  by_cases h28 : o = 28
  · rw [if_pos h28]
    simp only [a1, a2, Option.bind_some]
    by_cases hb : jI (sc x (i + 2)) = 0
    · rw [if_pos hb, E_L_law_1079 x 100 (by omega)]
      simp only [a1, a2, Option.bind_some, if_pos hb]
      exact Lstp x (ok_tries (x := x) (F := F) (G := G) hR (r _) rb0) go
    · rw [if_neg hb, E_L_law_1079 x 100 (by omega)]
      simp only [a1, a2, Option.bind_some, if_neg hb]
      exact Lstp x (ok_tries (x := x) (F := F) (G := G) hR (r _) rb1) go
  rw [if_neg h28]
  by_cases h29 : o = 29
  · rw [if_pos h29]
    simp only [a1, a2, Option.bind_some]
    exact Lstp x (ok_weds (x := x) (F := F) (G := G) hR (r _) (r _)) go
  rw [if_neg h29]
  by_cases h30 : o = 30
  · rw [if_pos h30]
    simp only [a1, a2, a3, a4, a5, a6, a7, Option.bind_some]
    exact Lstp x (ok_unrest (x := x) (F := F) (G := G) hR (r _) (r _) (r _) (r _) (r _) (r _) (r _)) go
  rw [if_neg h30]
  by_cases h31 : o = 31
  · rw [if_pos h31]
    simp only [a1, Option.bind_some]
    exact Lstp x (ok_claim (x := x) (F := F) (G := G) hR (r _)) go
  rw [if_neg h31]
  by_cases h32 : o = 32
  · rw [if_pos h32]
    simp only [a1, a2, a3, Option.bind_some]
    by_cases hb : jI (sc x (i + 3)) = 0
    · rw [if_pos hb, E_L_law_1276 x 100 (by omega)]
      simp only [a1, a2, a3, Option.bind_some, if_pos hb]
      exact Lstp x (ok_estate (x := x) (F := F) (G := G) hR (r _) (r _) rb0) go
    · rw [if_neg hb, E_L_law_1276 x 100 (by omega)]
      simp only [a1, a2, a3, Option.bind_some, if_neg hb]
      exact Lstp x (ok_estate (x := x) (F := F) (G := G) hR (r _) (r _) rb1) go
  rw [if_neg h32]
  by_cases h33 : o = 33
  · rw [if_pos h33]
    simp only [a1, a2, Option.bind_some]
    by_cases hb : jI (sc x (i + 2)) = 0
    · rw [if_pos hb, E_L_law_1330 x 100 (by omega)]
      simp only [a1, a2, Option.bind_some, if_pos hb]
      exact Lstp x (ok_auction (x := x) (F := F) (G := G) hR (r _) rb0) go
    · rw [if_neg hb, E_L_law_1330 x 100 (by omega)]
      simp only [a1, a2, Option.bind_some, if_neg hb]
      exact Lstp x (ok_auction (x := x) (F := F) (G := G) hR (r _) rb1) go
  rw [if_neg h33]
  by_cases h34 : o = 34
  · rw [if_pos h34]
    simp only [a1, a2, Option.bind_some]
    exact Lstp x (ok_chest (x := x) (F := F) (G := G) hR (r _) (r _)) go
  rw [if_neg h34]
  by_cases h35 : o = 35
  · rw [if_pos h35]
    simp only [a1, Option.bind_some]
    exact Lstp x (ok_lives (x := x) (F := F) (G := G) hR (r _)) go
  rw [if_neg h35]
  by_cases h36 : o = 36
  · rw [if_pos h36]
    simp only [a1, a2, a3, a4, a5, Option.bind_some]
    by_cases hb : jI (sc x (i + 5)) = 0
    · rw [if_pos hb, E_L_law_1450 x 100 (by omega)]
      simp only [a1, a2, a3, a4, a5, Option.bind_some, if_pos hb]
      exact Lstp x (ok_frosts (x := x) (F := F) (G := G) hR (r _) (r _) (r _) (r _) rb0) go
    · rw [if_neg hb, E_L_law_1450 x 100 (by omega)]
      simp only [a1, a2, a3, a4, a5, Option.bind_some, if_neg hb]
      exact Lstp x (ok_frosts (x := x) (F := F) (G := G) hR (r _) (r _) (r _) (r _) rb1) go
  rw [if_neg h36]
  by_cases h37 : o = 37
  · rw [if_pos h37]
    exact Lstp x (ok_ring (x := x) (F := F) (G := G) hR) go
  rw [if_neg h37]
  by_cases h38 : o = 38
  · rw [if_pos h38]
    exact Lstp x (ok_richest (x := x) (F := F) (G := G) hR) go
  rw [if_neg h38]
  by_cases h39 : o = 39
  · rw [if_pos h39]
    simp only [a1, a2, Option.bind_some]
    exact Lstp x (ok_grown (x := x) (F := F) (G := G) hR (r _) (r _)) go
  rw [if_neg h39]
  by_cases h40 : o = 40
  · rw [if_pos h40]
    exact Lstp x (ok_whoseLaw (x := x) (F := F) (G := G) hR) go
  rw [if_neg h40]
  by_cases h41 : o = 41
  · rw [if_pos h41]
    simp only [a1, Option.bind_some]
    exact Lstp x (ok_fined (x := x) (F := F) (G := G) hR (r _)) go
  rw [if_neg h41]
  by_cases h42 : o = 42
  · rw [if_pos h42]
    exact Lstp x (ok_pairs (x := x) (F := F) (G := G) hR) go
  rw [if_neg h42]
  by_cases h43 : o = 43
  · rw [if_pos h43]
    exact Lstp x (ok_coldest (x := x) (F := F) (G := G) hR) go
  rw [if_neg h43]
  by_cases h44 : o = 44
  · rw [if_pos h44]
    exact Lstp x (ok_image (x := x) (F := F) (G := G) hR) go
  rw [if_neg h44]
  by_cases h45 : o = 45
  · rw [if_pos h45]
    exact Lstp x (ok_back (x := x) (F := F) (G := G) hR) go
  rw [if_neg h45]
  by_cases h46 : o = 46
  · rw [if_pos h46]
    simp only [a1, Option.bind_some]
    exact Lstp x (ok_about (x := x) (F := F) (G := G) hR (r _)) go
  rw [if_neg h46]
  exact go F G hR
theorem L_loop (hX : XOK x) (hx : x.1 ≤ 4096) : ∀ (k : Nat) (i : Int) (F G : Nat → Fn), 0 ≤ i → (x.1 : Int) - i < 8 * (k : Int) → i ≤ 5000 → Rel F → PL (m_D x 100 k_L_law 18 [some (.ref 1000), some (.ref 0), some (.ref 149), some (.int (jI i))] [] (mk F G)) := by
  intro k
  induction k with
  | zero =>
    intro i F G i0 hk i5 hR
    rw [E_L_law_18 x 100 (by omega), len_1000, Option.bind_some, show jI (x.1 : Int) - (8 : Int32) = jI ((x.1 : Int) - 8) from by rw [show (8 : Int32) = jI 8 from by decide, jI_sub], if_pos (by rw [jI_lt (by omega) (by omega) (by omega) (by omega)]; omega)]
    exact ⟨F, G, rfl, hR⟩
  | succ k ih =>
    intro i F G i0 hk i5 hR
    by_cases q : i + 8 ≤ (x.1 : Int)
    · refine L_step x hX hx hR i0 q ?_
      intro F2 G2 h2
      rw [show jI i + 8 = jI (i + 8) from by rw [show (8 : Int32) = jI 8 from by decide, jI_add]]
      exact ih (i + 8) F2 G2 (by omega) (by omega) (by omega) h2
    · rw [E_L_law_18 x 100 (by omega), len_1000, Option.bind_some, show jI (x.1 : Int) - (8 : Int32) = jI ((x.1 : Int) - 8) from by rw [show (8 : Int32) = jI 8 from by decide, jI_sub], if_pos (by rw [jI_lt (by omega) (by omega) (by omega) (by omega)]; omega)]
      exact ⟨F, G, rfl, hR⟩
end
