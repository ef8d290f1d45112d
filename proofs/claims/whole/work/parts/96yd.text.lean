-- a text read
theorem TX_lo {F F' : Nat → Fn} {t : Nat} (h1 : ∀ j, j < 6 → F' (104 + 6 * t + j) = F (104 + 6 * t + j)) (h2 : ∀ j, j < 753 * ((t : Int) + 1) → F' 152 j = F 152 j) (h : TX F t) : TX F' t := by
  have e0 : F' (104 + 6 * t) = F (104 + 6 * t) := h1 0 (by omega)
  obtain ⟨⟨a1, a2, a3⟩, b, c, d⟩ := h
  unfold TX LW
  rw [h1 1 (by omega), h1 2 (by omega), h1 3 (by omega), h1 4 (by omega), h1 5 (by omega), e0]
  refine ⟨⟨a1, a2, by rw [h2 _ (by omega)]; exact a3⟩, ?_, ?_, ?_⟩
  · intro k k0 k1
    rw [h2 _ (by omega)]
    exact b k k0 k1
  · intro k k0 k1 k4 j j0 j1
    have c5 := @cnt_r (F (104 + 6 * t + 1) k)
    rw [h2 _ (by omega)]
    exact c k k0 k1 k4 j j0 j1
  · intro s s0 s1
    rcases d s s0 s1 with q | ⟨d1, d2, d3, d4, f, f1, f2, f3, f4, f5⟩
    · exact Or.inl q
    · right
      refine ⟨d1, d2, d3, d4, f, f1, f2, ?_, ?_, ?_⟩
      · rw [h2 (753 * (t : Int) + 1 + 6 * F (104 + 6 * t + 5) s + 1) (by omega), h2 (753 * (t : Int) + 1 + 6 * F (104 + 6 * t + 5) s + 2) (by omega)]
        exact MC_loc (fun z _ hz => h2 _ (by omega)) f3
      · rw [h2 _ (by omega)]; exact f4
      · rw [h2 _ (by omega)]; exact f5
theorem Rel_text {F F' : Nat → Fn} {t t2 : Int} (h : Rel F) (ht : F 36 7 = t) (ht2 : t2 = t ∨ t2 = t + 1) (ht4 : t2 ≤ 4) (ho : ∀ b, b < 101 → ¬ b = 36 → F' b = F b) (h36 : ∀ z, ¬ z = 7 → F' 36 z = F 36 z) (h7 : F' 36 7 = t2) (ha : ∀ z, ¬ z = 1 → F' 150 z = F 150 z) (ha1 : F' 150 1 = t2) (h151 : F' 151 = F 151) (hs : ∀ b : Nat, 104 ≤ b → (b : Int) < 104 + 6 * t → F' b = F b) (hx : ∀ j, j < 753 * t → F' 152 j = F 152 j) (d1 : F' 149 4 = 0 ∧ F' 128 2 = 0) (d2 : F' 149 5 = F' 128 3 ∧ F' 149 6 = F' 128 4) (d3 : rg (F' 128 3) ∧ rg (F' 128 4)) (d4 : F' 149 23 = 1) (hn : t2 = t + 1 → TX F' t.toNat) : Rel F' := by
  obtain ⟨h1, h2, h3, h4, h5, h6, h7'⟩ := h
  have r0 := h3.1
  unfold RT0 at r0
  refine ⟨?_, ?_, ?_, ?_, ?_, ?_, ?_⟩
  · have q : RS F' 1 3 (F 150) := RS_ob (ho _ (by omega) (by omega)) (ho _ (by omega) (by omega)) (fun i hi => ho _ (by omega) (by omega)) h1
    refine RS_cg rfl rfl (ha 3 (by omega)) (fun _ _ _ _ _ _ => rfl) ?_ q
    intro k hk
    unfold rlv at hk
    exact ha k (by omega)
  · rw [h151]
    exact RS_ob (ho _ (by omega) (by omega)) (ho _ (by omega) (by omega)) (fun i hi => ho _ (by omega) (by omega)) h2
  · obtain ⟨q0, q1, q2, q3, q4, q5⟩ := h3
    have e : ∀ j, 1 ≤ j → j < 15 → F' (36 + j) = F (36 + j) := fun j j1 j2 => ho _ (by omega) (by omega)
    refine ⟨?_, RT1_cg (fun g _ _ => by rw [e 2 (by omega) (by omega)]) (fun k _ _ => ha k (by omega)) q1, RT2_cg (by rw [e 3 (by omega) (by omega)]) (fun g _ _ => by rw [e 4 (by omega) (by omega)]) (ha 4 (by omega)) (fun k _ _ => ha k (by omega)) q2, RT3_cg (by rw [e 5 (by omega) (by omega)]) (fun g _ _ => by rw [e 6 (by omega) (by omega)]) (ha 5 (by omega)) (fun k _ _ => ha k (by omega)) q3, RT4_cg (by rw [e 7 (by omega) (by omega)]) (by rw [e 9 (by omega) (by omega)]) (fun g _ _ => by rw [e 8 (by omega) (by omega), e 10 (by omega) (by omega)]; exact ⟨rfl, rfl⟩) (ha 6 (by omega)) (fun k _ _ => ha k (by omega)) q4, RT5_cg (by rw [e 11 (by omega) (by omega)]) (by rw [e 13 (by omega) (by omega)]) (fun g _ _ => by rw [e 12 (by omega) (by omega), e 14 (by omega) (by omega)]; exact ⟨rfl, rfl⟩) (ha 7 (by omega)) (fun k _ _ => ha k (by omega)) q5⟩
    unfold RT0
    rw [ha1, h7, ha 2 (by omega), h36 8 (by omega)]
    exact ⟨rfl, by omega, by omega, r0.2.2.2.1, r0.2.2.2.2.1, by omega⟩
  · rw [h151]
    exact RT_ob (fun j hj => ho _ (by omega) (by omega)) (fun _ _ => rfl) h4
  · unfold RD
    rw [d1.1, d1.2]
    exact ⟨rfl, by omega, by omega, d2.1, d2.2, d3.1, d3.2, d4, fun i i0 i1 => by omega⟩
  · rw [ho 86 (by omega) (by omega), h7]
    omega
  · intro k hk
    rw [h7] at hk
    by_cases q : (k : Int) < t
    · exact TX_lo (fun j hj => hs _ (by omega) (by omega)) (fun j hj => hx j (by omega)) (h7' k (by omega))
    · have e : t.toNat = k := by omega
      rw [← e]
      exact hn (by omega)
theorem cpy_P {F G : Nat → Fn} {w : Nat} (hw : w = 104 ∨ w = 110 ∨ w = 116 ∨ w = 122) : m_cpy (mk F G) 130 (jI 0) (w + 1) (jI 0) (jI 24) = some (mk (sA F (w + 1) (cp (F 130) (F (w + 1)) 0 0 24)) G) ∧ m_cpy (mk F G) 131 (jI 0) (w + 2) (jI 0) (jI 24) = some (mk (sA F (w + 2) (cp (F 131) (F (w + 2)) 0 0 24)) G) ∧ m_cpy (mk F G) 132 (jI 0) (w + 3) (jI 0) (jI 24) = some (mk (sA F (w + 3) (cp (F 132) (F (w + 3)) 0 0 24)) G) ∧ m_cpy (mk F G) 133 (jI 0) (w + 4) (jI 0) (jI 300) = some (mk (sA F (w + 4) (cp (F 133) (F (w + 4)) 0 0 300)) G) ∧ m_cpy (mk F G) 134 (jI 0) (w + 5) (jI 0) (jI 4) = some (mk (sA F (w + 5) (cp (F 134) (F (w + 5)) 0 0 4)) G) := by
  refine ⟨?_, ?_, ?_, ?_, ?_⟩
  · refine mk_cpy (n := 24) (m := 24) F G (by omega) (by omega) rfl ?_ (by omega) (by omega) (by omega) (by omega) (by omega) (by omega) (by omega)
    rcases hw with e | e | e | e <;> rw [e] <;> rfl
  · refine mk_cpy (n := 24) (m := 24) F G (by omega) (by omega) rfl ?_ (by omega) (by omega) (by omega) (by omega) (by omega) (by omega) (by omega)
    rcases hw with e | e | e | e <;> rw [e] <;> rfl
  · refine mk_cpy (n := 24) (m := 24) F G (by omega) (by omega) rfl ?_ (by omega) (by omega) (by omega) (by omega) (by omega) (by omega) (by omega)
    rcases hw with e | e | e | e <;> rw [e] <;> rfl
  · refine mk_cpy (n := 300) (m := 300) F G (by omega) (by omega) rfl ?_ (by omega) (by omega) (by omega) (by omega) (by omega) (by omega) (by omega)
    rcases hw with e | e | e | e <;> rw [e] <;> rfl
  · refine mk_cpy (n := 4) (m := 4) F G (by omega) (by omega) rfl ?_ (by omega) (by omega) (by omega) (by omega) (by omega) (by omega) (by omega)
    rcases hw with e | e | e | e <;> rw [e] <;> rfl
section
variable (x : m_X)
theorem C_takeO {F G : Nat → Fn} {w : Nat} (hw : w = 104 ∨ w = 110 ∨ w = 116 ∨ w = 122) : ∃ F2, m_M x k_Script_takeOver [.ref w, .ref 129] (mk F G) = some (none, mk F2 G) ∧ (∀ b, (b < w ∨ w + 6 ≤ b) → F2 b = F b) ∧ F2 w 5 = F 129 5 ∧ (∀ z, 0 ≤ z → z < 24 → F2 (w + 1) z = F 130 z ∧ F2 (w + 2) z = F 131 z ∧ F2 (w + 3) z = F 132 z) ∧ (∀ z, 0 ≤ z → z < 300 → F2 (w + 4) z = F 133 z) ∧ (∀ z, 0 ≤ z → z < 4 → F2 (w + 5) z = F 134 z) := by
  have hw' : w = 104 ∨ w = 110 ∨ w = 116 ∨ w = 122 ∨ w = 129 := by omega
  have a0 : ∀ F' : Nat → Fn, m_fR (mk F' G) 5 0 129 = some 130 := fun F' => fR_P_0 F' G (w := 129) (by omega)
  have a1 : ∀ F' : Nat → Fn, m_fR (mk F' G) 5 1 129 = some 131 := fun F' => fR_P_1 F' G (w := 129) (by omega)
  have a2 : ∀ F' : Nat → Fn, m_fR (mk F' G) 5 2 129 = some 132 := fun F' => fR_P_2 F' G (w := 129) (by omega)
  have a3 : ∀ F' : Nat → Fn, m_fR (mk F' G) 5 3 129 = some 133 := fun F' => fR_P_3 F' G (w := 129) (by omega)
  have a4 : ∀ F' : Nat → Fn, m_fR (mk F' G) 5 4 129 = some 134 := fun F' => fR_P_4 F' G (w := 129) (by omega)
  rw [E_Script_takeOver, isO_P F G hw', if_pos rfl, show (0 : Int32) = jI 0 from rfl, show (24 : Int32) = jI 24 from by decide, show (300 : Int32) = jI 300 from by decide, show (4 : Int32) = jI 4 from by decide,
    a0, Option.bind_some, fR_P_0 _ G hw', Option.bind_some, (cpy_P hw).1, Option.bind_some,
    a1, Option.bind_some, fR_P_1 _ G hw', Option.bind_some, (cpy_P hw).2.1, Option.bind_some,
    a2, Option.bind_some, fR_P_2 _ G hw', Option.bind_some, (cpy_P hw).2.2.1, Option.bind_some,
    a3, Option.bind_some, fR_P_3 _ G hw', Option.bind_some, (cpy_P hw).2.2.2.1, Option.bind_some,
    a4, Option.bind_some, fR_P_4 _ G hw', Option.bind_some, (cpy_P hw).2.2.2.2, Option.bind_some,
    fI_P_5 _ G (w := 129) (by omega), Option.bind_some, pf_P_5 _ G _ hw', Option.bind_some, fI_P_6 _ G (w := 129) (by omega), Option.bind_some, pf_P_6 _ G _ hw', Option.bind_some]
  refine ⟨_, rfl, ?_, ?_, ?_, ?_, ?_⟩
  · intro b hb
    rw [sA_ne _ _ (by omega), sA_ne _ _ (by omega), sA_ne _ _ (by omega), sA_ne _ _ (by omega), sA_ne _ _ (by omega), sA_ne _ _ (by omega), sA_ne _ _ (by omega)]
  · rw [sA_eq, u_ne _ _ (by omega), sA_eq, u_eq, sA_ne _ _ (by omega), sA_ne _ _ (by omega), sA_ne _ _ (by omega), sA_ne _ _ (by omega), sA_ne _ _ (by omega)]
  · intro z z0 z1
    refine ⟨?_, ?_, ?_⟩
    · rw [sA_ne _ _ (by omega), sA_ne _ _ (by omega), sA_ne _ _ (by omega), sA_ne _ _ (by omega), sA_ne _ _ (by omega), sA_ne _ _ (by omega), sA_eq, cp_in _ _ z0 z1]
    · rw [sA_ne _ _ (by omega), sA_ne _ _ (by omega), sA_ne _ _ (by omega), sA_ne _ _ (by omega), sA_ne _ _ (by omega), sA_eq, cp_in _ _ z0 z1, sA_ne _ _ (by omega)]
    · rw [sA_ne _ _ (by omega), sA_ne _ _ (by omega), sA_ne _ _ (by omega), sA_ne _ _ (by omega), sA_eq, cp_in _ _ z0 z1, sA_ne _ _ (by omega), sA_ne _ _ (by omega)]
  · intro z z0 z1
    rw [sA_ne _ _ (by omega), sA_ne _ _ (by omega), sA_ne _ _ (by omega), sA_eq, cp_in _ _ z0 z1, sA_ne _ _ (by omega), sA_ne _ _ (by omega), sA_ne _ _ (by omega)]
  · intro z z0 z1
    rw [sA_ne _ _ (by omega), sA_ne _ _ (by omega), sA_eq, cp_in _ _ z0 z1, sA_ne _ _ (by omega), sA_ne _ _ (by omega), sA_ne _ _ (by omega), sA_ne _ _ (by omega)]
/-- clause by clause -/
theorem J_loop (hX : XOK x) {T : Fn} {n t : Int} {Gc : Nat → Fn} (hB : BY T n) (hn : 0 ≤ n ∧ n ≤ 300) (ht : 0 ≤ t ∧ t ≤ 3) : ∀ (j : Nat) (p k : Int) (Fc : Nat → Fn), k + j = 25 → JCl T n Fc p k → (∃ c pl F4, (1 ≤ c ∧ c ≤ 6) ∧ (0 ≤ pl ∧ pl ≤ 300) ∧ m_D x 98 k_Reader_readTape 28 [some (.ref 128), some (.int (jI k))] [] (mk Fc Gc) = some (some (.int (jI 0)), mk F4 Gc) ∧ F4 128 3 = c ∧ F4 128 4 = pl ∧ aqR Fc F4 ∧ ∀ Fm Gm d, m_nl d = true → J T n t Fc Fm Gm p k → ∃ F4m G4m, m_D x 12 k_M_readText 43 [some (.ref 149), d] [] (mk Fm Gm) = some (some (.int (jI c)), mk F4m G4m) ∧ F4m 149 8 = pl ∧ aqS t Fm F4m) ∨ (∃ p2 k2 F4, m_D x 98 k_Reader_readTape 28 [some (.ref 128), some (.int (jI k))] [] (mk Fc Gc) = some (some (.int (jI 1)), mk F4 Gc) ∧ aqQ Fc F4 ∧ ∀ Fm Gm d, m_nl d = true → J T n t Fc Fm Gm p k → ∃ F4m G4m, m_D x 12 k_M_readText 43 [some (.ref 149), d] [] (mk Fm Gm) = some (some (.int (jI 0)), mk F4m G4m) ∧ J T n t F4 F4m G4m p2 k2 ∧ aqS t Fm F4m) := by
  intro j
  induction j with
  | zero =>
    intro p k Fc hk hC
    have := hC.2.2.1
    omega
  | succ j ih =>
    intro p k Fc hkj hC
    have hk := hC.2.2.1
    have hc := hC.1.2
    have kr := kd_r T n p
    have k0 := kt_0 hB (p := p) hc.2.1.1
    have tr : -10 ≤ tok T n p ∧ tok T n p ≤ 1000 := by
      rcases kt hB hc.2.1.1 with ⟨_, _, e⟩ | ⟨_, _, e, _⟩ | ⟨_, _, e⟩ | ⟨_, c, hc, _, e⟩ | ⟨_, _, e | e⟩
      · omega
      · omega
      · omega
      · have := (show ∀ c : Fin 13, -10 ≤ ([43, 45, 42, 47, 40, 41, 59, 60, 62, 61, 35, 4, 5] : List Int).getD c.val 0 ∧ ([43, 45, 42, 47, 40, 41, 59, 60, 62, 61, 35, 4, 5] : List Int).getD c.val 0 ≤ 1000 by decide +kernel) ⟨c, hc⟩
        simp only at this
        omega
      · omega
      · omega
    have top : m_D x 98 k_Reader_readTape 28 [some (.ref 128), some (.int (jI k))] [] (mk Fc Gc) = if kd T n p = 52 then (some (some (.int (jI 1)), mk Fc Gc)) else m_bI (m_M x k_Reader_readClause [.ref 128] (mk Fc Gc)) fun v44 s44 => if v44 = jI 0 then (some (some (.int (jI 0)), s44)) else m_D x 98 k_Reader_readTape 28 [some (.ref 128), some (.int (jI (k + 1)))] [] s44 := by
      rw [E_Reader_readTape_28 x 98 (by omega), show (24 : Int32) = jI 24 from by decide, if_neg (by rw [jI_lt (by omega) (by omega) (by omega) (by omega)]; omega), fI_128_5, Option.bind_some, hc.1.1, show (52 : Int32) = jI 52 from by decide, show (1 : Int32) = jI 1 from rfl, jI_add, show (0 : Int32) = jI 0 from rfl]
      by_cases q : kd T n p = 52
      · rw [if_pos q, if_pos (by rw [q])]
      · rw [if_neg q, if_neg (by rw [jI_eq (by omega) (by omega) (by omega) (by omega)]; omega)]
    have topm : ∀ Fm Gm d, m_nl d = true → J T n t Fc Fm Gm p k → m_D x 12 k_M_readText 43 [some (.ref 149), d] [] (mk Fm Gm) = if kd T n p = 52 then some (some (.int (jI 0)), mk Fm Gm) else m_bI (m_M x k_M_clause [.ref 149] (mk Fm Gm)) fun v51 s51 => if v51 = jI 0 then (m_D x 12 k_M_readText 43 [some (.ref 149), some (.int v51)] [] s51) else some (some (.int v51), s51) := by
      intro Fm Gm d hd hJ
      have mt := hJ.2.1.1.2
      rw [E_M_readText_43 x 12 (by omega) _ _ d hd, fI_149_9, Option.bind_some, mt.1.2.2, show (0 : Int32) = jI 0 from rfl]
      by_cases q : kd T n p = 52
      · rw [if_pos q, if_pos (by rw [k0.2 q])]
      · rw [if_neg q, if_neg (by rw [jI_eq (by omega) (by omega) (by omega) (by omega)]; exact fun z => q (k0.1 z))]
    by_cases q : kd T n p = 52
    · right
      refine ⟨p, k, Fc, by rw [top, if_pos q], ⟨aqR_rfl Fc, rfl, rfl⟩, ?_⟩
      intro Fm Gm d hd hJ
      exact ⟨Fm, Gm, by rw [topm Fm Gm d hd hJ, if_pos q], hJ, aqS_rfl t Fm⟩
    · rcases J_clause x hX (Gc := Gc) hB hn ht hC with ⟨c, pl, F4, c1, c2, y1, y2, y3, y4, y5⟩ | ⟨p2, F4, c1, y1, y2, y3, y4⟩
      · left
        refine ⟨c, pl, F4, c1, c2, by rw [top, if_neg q, y1, b_I, if_pos rfl], y2, y3, y4, ?_⟩
        intro Fm Gm d hd hJ
        obtain ⟨F4m, G4m, z1, z2, z3⟩ := y5 Fm Gm hJ
        refine ⟨F4m, G4m, ?_, z2, z3⟩
        rw [topm Fm Gm d hd hJ, if_neg q, z1, b_I, if_neg (by rw [jI_eq (by omega) (by omega) (by omega) (by omega)]; omega)]
      · rcases ih p2 (k + 1) F4 (by omega) y3 with ⟨c, pl, F5, d1, d2, v1, v2, v3, v4, v5⟩ | ⟨p3, k3, F5, v1, v2, v3⟩
        · left
          refine ⟨c, pl, F5, d1, d2, by rw [top, if_neg q, y1, b_I, if_neg (by decide)]; exact v1, v2, v3, aqR_tr y2.1 v4, ?_⟩
          intro Fm Gm d hd hJ
          obtain ⟨F4m, G4m, z1, z2, z3⟩ := y4 Fm Gm hJ
          obtain ⟨F5m, G5m, w1, w2, w3⟩ := v5 F4m G4m (some (.int (jI 0))) rfl z2
          refine ⟨F5m, G5m, ?_, w2, aqS_tr z3 w3⟩
          rw [topm Fm Gm d hd hJ, if_neg q, z1, b_I, if_pos rfl]
          exact w1
        · right
          refine ⟨p3, k3, F5, by rw [top, if_neg q, y1, b_I, if_neg (by decide)]; exact v1, aqQ_tr y2 v2, ?_⟩
          intro Fm Gm d hd hJ
          obtain ⟨F4m, G4m, z1, z2, z3⟩ := y4 Fm Gm hJ
          obtain ⟨F5m, G5m, w1, w2, w3⟩ := v3 F4m G4m (some (.int (jI 0))) rfl z2
          refine ⟨F5m, G5m, ?_, w2, aqS_tr z3 w3⟩
          rw [topm Fm Gm d hd hJ, if_neg q, z1, b_I, if_pos rfl]
          exact w1
end
