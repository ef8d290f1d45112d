-- winters: the model, and both
theorem WI_hap {F : Nat → Fn} {t : Int} {A : Law4} {c : Fn} {X : Int} (hA : LA F t A) (hi : WI c) (hp : 1 ≤ c 0) (h0 : 0 ≤ X) : WI (hap A c X) := by
  have hc := WI_c hi
  have mp := md (a := X) (b := c 0) (by omega)
  have mp7 := md (a := X / 7) (b := c 0) (by omega)
  have mp5 := md (a := X / 5) (b := c 0) (by omega)
  unfold hap
  by_cases k0 : X % 7 = 0
  · rw [if_pos k0]
    split
    · rename_i q
      exact WI_strike hi q.1 (by omega) (by omega) (by omega) mp mp7 q.2
    · exact hi
  · rw [if_neg k0]
    by_cases k4 : 4 < X % 7
    · rw [if_pos k4]
      split
      · rename_i q
        exact WI_day hA hi q
      · exact hi
    · rw [if_neg k4]
      by_cases kg : c 25 = 0
      · rw [if_pos kg]; exact hi
      · rw [if_neg kg]
        have mg := md (a := X) (b := c 25) (by omega)
        have gg := WI_g hi mg.1 (by omega)
        have e7 : hiB (99 + X % c 25) = 3 := hB_o (by omega) (by omega)
        split
        · split
          · exact WI_labour hi (by omega) (by omega) (by omega)
          · exact hi
        · split
          · split
            · rename_i q
              exact WI_held hi (by omega) (by omega) (by omega) (by omega) q.2.1
            · exact hi
          · split
            · split
              · exact WI_u hi (by omega) (by omega) (by omega)
              · exact hi
            · split
              · exact WI_pawn hA hi (by omega) (by omega)
              · exact hi
theorem hap_ne {A : Law4} {c : Fn} {X k : Int} (hi : WI c) (hp : 1 ≤ c 0) (h0 : 0 ≤ X) (hd : ¬ (4 < X % 7 ∧ c 22 < 9999)) (hk0 : 0 ≤ k) (hk : k < 8 ∨ k = 22 ∨ k = 26 ∨ (111 ≤ k ∧ k < 141)) : hap A c X k = c k := by
  have hc := WI_c hi
  unfold hap
  by_cases k0 : X % 7 = 0
  · rw [if_pos k0]
    split
    · unfold wStrike
      rw [u_ne _ _ (by omega), u_ne _ _ (by omega), u_ne _ _ (by omega), u_ne _ _ (by omega), u_ne _ _ (by omega), u_ne _ _ (by omega), u_ne _ _ (by omega), u_ne _ _ (by omega)]
    · rfl
  · rw [if_neg k0]
    by_cases k4 : 4 < X % 7
    · rw [if_pos k4, if_neg (by omega)]
    · rw [if_neg k4]
      by_cases kg : c 25 = 0
      · rw [if_pos kg]
      · rw [if_neg kg]
        have mg := md (a := X) (b := c 25) (by omega)
        have gg := WI_g hi mg.1 (by omega)
        split
        · split
          · unfold wLabour
            split
            · rw [u_ne _ _ (by omega), u_ne _ _ (by omega)]
            · rw [u_ne _ _ (by omega)]
          · rfl
        · split
          · split
            · rw [u_ne _ _ (by omega)]
            · rfl
          · split
            · split
              · rw [u_ne _ _ (by omega)]
              · rfl
            · split
              · unfold wPawn
                rw [u_ne _ _ (by omega), u_ne _ _ (by omega)]
              · rfl
theorem ag_hap {F : Nat → Fn} {t : Int} {A : Law4} {c d : Fn} {X : Int} (hA : LA F t A) (hi : WI c) (hv : ∀ k, vok k → c k = d k) (hp : 1 ≤ c 0) (h0 : 0 ≤ X) (hd : ¬ (4 < X % 7 ∧ c 22 < 9999)) : ∀ k, vok k → hap A c X k = hap A d X k := by
  have hc := WI_c hi
  have e0 := hv 0 (by unfold vok; omega)
  have e22 := hv 22 (by unfold vok; omega)
  have e25 := hv 25 (by unfold vok; omega)
  have mp := md (a := X) (b := c 0) (by omega)
  intro k hk
  unfold hap
  simp only [pawnC]
  rw [← e0, ← e22, ← e25]
  by_cases k0 : X % 7 = 0
  · rw [if_pos k0, if_pos k0]
    split
    · exact ag_strike hv (by omega) (by omega) k hk
    · exact hv k hk
  · rw [if_neg k0, if_neg k0]
    by_cases k4 : 4 < X % 7
    · rw [if_pos k4, if_pos k4, if_neg (by omega), if_neg (by omega)]
      exact hv k hk
    · rw [if_neg k4, if_neg k4]
      by_cases kg : c 25 = 0
      · rw [if_pos kg, if_pos kg]
        exact hv k hk
      · rw [if_neg kg, if_neg kg]
        have mg := md (a := X) (b := c 25) (by omega)
        have q := ag_pawn (g := X % c 25) hA hi hv mg.1 (by omega)
        have f99 := hv (99 + X % c 25) (by unfold vok; omega)
        have f27 := hv (27 + X % c 25) (by unfold vok; omega)
        have f39 := hv (39 + X % c 25) (by unfold vok; omega)
        rw [← f99, ← f27, ← f39, ← q.2.2.1]
        split
        · split
          · exact ag_labour hv (by omega) (by omega) k hk
          · exact hv k hk
        · split
          · split
            · exact ag_u hv k hk
            · exact hv k hk
          · split
            · split
              · exact ag_u hv k hk
              · exact hv k hk
            · split
              · exact q.1 k hk
              · exact hv k hk
section
variable (x : m_X) (F G : Nat → Fn)
theorem M_hap {X : Int} {A : Law4} (hA : LA F (F 150 2) A) (hi : WI (V (F 150))) (hr : F 149 23 = 1) (hw0 : 0 ≤ F 150 12) (hw1 : F 150 12 ≤ 90000) (hp : 1 ≤ V (F 150) 0) (h0 : 0 ≤ X) (h1 : X < 30467) : ∃ F2 G2, m_M x k_M_happens [.ref 149, .int (jI X)] (mk F G) = some (none, mk F2 G2) ∧ (if 4 < X % 7 ∧ V (F 150) 22 < 9999 then F2 150 = mGo A 1 (F 150) else V (F2 150) = hap A (V (F 150)) X ∧ Fr (F 150) (F2 150)) ∧ agL F F2 ∧ agG G G2 := by
  have hc := WI_c hi
  have mp := md (a := X) (b := V (F 150) 0) (by omega)
  have mp7 := md (a := X / 7) (b := V (F 150) 0) (by omega)
  have mp5 := md (a := X / 5) (b := V (F 150) 0) (by omega)
  have hd7 : 0 ≤ X / 7 ∧ X / 7 ≤ 30467 := by omega
  have hd5 : 0 ≤ X / 5 ∧ X / 5 ≤ 30467 := by omega
  have nz : ¬ jI (V (F 150) 0) = 0 := by
    rw [lit_0, jI_eq (by omega) (by omega) (by omega) (by omega)]
    omega
  have e7 : jI X - jI X / 7 * 7 = jI (X % 7) := by rw [lit_7, jI_modn (by omega) (by omega) (by omega) (by omega)]
  have eD7 : jI X / 7 = jI (X / 7) := by rw [lit_7, jI_dvn (by omega) (by omega) (by omega) (by omega)]
  have eD5 : jI X / 5 = jI (X / 5) := by rw [lit_5, jI_dvn (by omega) (by omega) (by omega) (by omega)]
  have i0 : m_ia x (mk F G) 150 0 = some (jI (V (F 150) 0)) := va_0 x F G
  have i11 : m_ia x (mk F G) 150 11 = some (jI (V (F 150) 25)) := va_11 x F G
  have i8 : m_ia x (mk F G) 150 8 = some (jI (V (F 150) 22)) := va_8 x F G
  have r7 : 0 ≤ X % 7 ∧ X % 7 ≤ 6 := by omega
  have same : ∃ F2 G2, (some (none, mk F G) : Option (Option Value × m_H)) = some (none, mk F2 G2) ∧ (V (F2 150) = V (F 150) ∧ Fr (F 150) (F2 150)) ∧ agL F F2 ∧ agG G G2 := ⟨F, G, rfl, ⟨rfl, Fr_rfl _⟩, fun _ _ _ _ _ => rfl, fun _ _ => rfl⟩
  -- the deed behind the choice of a glove
  have body : ∀ g : Int, g = (if V (F 150) 25 = 0 then -1 else X % V (F 150) 25) → ∃ F2 G2, m_D x 9 k_M_happens 32 [some (.ref 149), some (.int (jI X)), some (.int (jI (X % V (F 150) 0))), none] [.int (jI g)] (mk F G) = some (none, mk F2 G2) ∧ (if 4 < X % 7 ∧ V (F 150) 22 < 9999 then F2 150 = mGo A 1 (F 150) else V (F2 150) = hap A (V (F 150)) X ∧ Fr (F 150) (F2 150)) ∧ agL F F2 ∧ agG G G2 := by
    intro g hg
    have start : m_D x 9 k_M_happens 32 [some (.ref 149), some (.int (jI X)), some (.int (jI (X % V (F 150) 0))), none] [.int (jI g)] (mk F G) = _ := E_M_happens_32 x 9 (by omega) (mk F G) 149 (jI X) (jI (X % V (F 150) 0)) (jI g)
    rw [e7] at start
    have e3 : jI X - jI X / 3 * 3 = jI (X % 3) := by rw [lit_3, jI_modn (by omega) (by omega) (by omega) (by omega)]
    by_cases k0 : X % 7 = 0
    · have k0' : jI (X % 7) = 0 := by rw [k0]; decide
      have e10 : jI X - jI X / 10 * 10 = jI (X % 10) := by rw [lit_10, jI_modn (by omega) (by omega) (by omega) (by omega)]
      have e20 : (1 : Int32) + (jI X - jI X / 20 * 20) = jI (1 + X % 20) := by rw [lit_20, jI_modn (by omega) (by omega) (by omega) (by omega), lit_1, jI_add]
      have hcb := M_canBargain x F G (a := X % V (F 150) 0) (b := X / 7 % V (F 150) 0) hi (by unfold rg; omega) (by unfold rg; omega)
      have hh : hap A (V (F 150)) X = (if V (F 150) 25 < 12 ∧ ¬ X % V (F 150) 0 = X / 7 % V (F 150) 0 then wStrike (V (F 150)) (X % V (F 150) 0) (X / 7 % V (F 150) 0) (1 + X % 20) (X % 3) (X % 10) else V (F 150)) := by
        unfold hap
        rw [if_pos k0]
      rw [if_pos k0', fR_149_0, Option.bind_some, i0, Option.bind_some, if_neg nz, eD7, jI_modn (a := X / 7) (by omega) (by omega) (by omega) (by omega)] at start
      have hq : ¬ (4 < X % 7 ∧ V (F 150) 22 < 9999) := by omega
      simp only [if_neg hq]
      rw [hh]
      by_cases q : V (F 150) 25 < 12 ∧ ¬ X % V (F 150) 0 = X / 7 % V (F 150) 0
      · obtain ⟨f, f1, f2, f3⟩ := M_bargainNow x F G (a := X % V (F 150) 0) (b := X / 7 % V (F 150) 0) (k := 1 + X % 20) (l := X % 3) (m := X % 10) hi (by omega) (by omega) q.1
        rw [if_pos (by omega)] at hcb
        rw [hcb, b_I, if_neg (show ¬ jI 1 = 0 by decide), fR_149_0, Option.bind_some, i0, Option.bind_some, if_neg nz, jI_modn (a := X / 7) (by omega) (by omega) (by omega) (by omega), e20, e3, e10, f1, b_I] at start
        rw [start, if_pos q]
        exact ⟨_, _, rfl, by rw [sA_eq]; exact ⟨f2, f3⟩, agL_0 _ _, fun _ _ => rfl⟩
      · rw [if_neg (by omega)] at hcb
        rw [hcb, b_I, if_pos (show jI 0 = 0 by decide)] at start
        rw [start, if_neg q]
        exact same
    · have k0' : ¬ jI (X % 7) = 0 := by
        rw [lit_0, jI_eq (by omega) (by omega) (by omega) (by omega)]
        exact k0
      rw [if_neg k0'] at start
      by_cases k4 : 4 < X % 7
      · have dn : ∀ z, 1 ≤ z → z ≤ 4 → ¬ jI (X % 7) = jI z := by
          intro z z0 z1
          rw [jI_eq (by omega) (by omega) (by omega) (by omega)]
          omega
        have d1 : ¬ jI (X % 7) = 1 := dn 1 (by omega) (by omega)
        have d2 : ¬ jI (X % 7) = 2 := dn 2 (by omega) (by omega)
        have d3 : ¬ jI (X % 7) = 3 := dn 3 (by omega) (by omega)
        have d4 : ¬ jI (X % 7) = 4 := dn 4 (by omega) (by omega)
        rw [if_neg d1, if_neg d2, if_neg d3, if_neg d4, fR_149_0, Option.bind_some, i8, Option.bind_some] at start
        by_cases hd : V (F 150) 22 < 9999
        · have hd' : ¬ (9999 : Int32) ≤ jI (V (F 150) 22) := by
            rw [lit_9999, jI_le (by omega) (by omega) (by omega) (by omega)]
            omega
          obtain ⟨F2, G2, r1, r2, r3, r4, r5⟩ := M_goOn x F G (A := A) hA hi (by omega) hw0 hw1
          rw [hr] at r2
          rw [if_neg hd', r1, b_V] at start
          have hq : 4 < X % 7 ∧ V (F 150) 22 < 9999 := ⟨k4, hd⟩
          simp only [if_pos hq]
          rw [start]
          exact ⟨F2, G2, rfl, r2, r4, r5⟩
        · have hd' : (9999 : Int32) ≤ jI (V (F 150) 22) := by
            rw [lit_9999, jI_le (by omega) (by omega) (by omega) (by omega)]
            omega
          rw [if_pos hd'] at start
          have hq : ¬ (4 < X % 7 ∧ V (F 150) 22 < 9999) := fun z => hd z.2
          simp only [if_neg hq]
          rw [start]
          have hh : hap A (V (F 150)) X = V (F 150) := by
            unfold hap
            rw [if_neg k0, if_pos k4, if_neg hd]
          rw [hh]
          exact same
      · have hq : ¬ (4 < X % 7 ∧ V (F 150) 22 < 9999) := fun z => k4 z.1
        simp only [if_neg hq]
        by_cases kg : V (F 150) 25 = 0
        · rw [if_pos kg] at hg
          have hh : hap A (V (F 150)) X = V (F 150) := by
            unfold hap
            rw [if_neg k0, if_neg k4, if_pos kg]
          rw [hh]
          have gm : jI g = -1 := by rw [hg]; decide
          have k14 : X % 7 = 1 ∨ X % 7 = 2 ∨ X % 7 = 3 ∨ X % 7 = 4 := by omega
          rw [gm] at start
          rcases k14 with k | k | k | k <;> rw [k] at start
          · rw [if_pos (show jI 1 = 1 by decide), if_pos rfl] at start
            rw [← gm] at start
            rw [start]; exact same
          · rw [if_neg (show ¬ jI 2 = 1 by decide), if_pos (show jI 2 = 2 by decide), if_pos rfl] at start
            rw [← gm] at start
            rw [start]; exact same
          · rw [if_neg (show ¬ jI 3 = 1 by decide), if_neg (show ¬ jI 3 = 2 by decide), if_pos (show jI 3 = 3 by decide), if_pos rfl] at start
            rw [← gm] at start
            rw [start]; exact same
          · rw [if_neg (show ¬ jI 4 = 1 by decide), if_neg (show ¬ jI 4 = 2 by decide), if_neg (show ¬ jI 4 = 3 by decide), if_pos (show jI 4 = 4 by decide), if_pos rfl] at start
            rw [← gm] at start
            rw [start]; exact same
        · rw [if_neg kg] at hg
          have mg := md (a := X) (b := V (F 150) 25) (by omega)
          have hh : hap A (V (F 150)) X = (if X % 7 = 1 then (if V (F 150) (99 + g) = 0 ∨ V (F 150) (99 + g) = 3 then wLabour (V (F 150)) g (1 + X % 9) else V (F 150)) else if X % 7 = 2 then (if V (F 150) (99 + g) = 0 ∧ ¬ X / 5 % V (F 150) 0 = V (F 150) (27 + g) ∧ ¬ X / 5 % V (F 150) 0 = V (F 150) (39 + g) then u (V (F 150)) (39 + g) (X / 5 % V (F 150) 0) else V (F 150)) else if X % 7 = 3 then (if X % 3 = 0 ∧ V (F 150) (99 + g) = 0 then u (V (F 150)) (99 + g) 2 else V (F 150)) else (if pawnC A (V (F 150)) g then wPawn A (V (F 150)) g else V (F 150))) := by
            unfold hap
            rw [if_neg k0, if_neg k4, if_neg kg, ← hg]
          rw [← hg] at mg
          have gm : ¬ jI g = -1 := by
            have em : (-1 : Int32) = jI (-1) := by decide
            rw [em, jI_eq (by omega) (by omega) (by omega) (by omega)]
            omega
          rw [hh]
          have gg := WI_g hi mg.1 (by omega)
          have k14 : X % 7 = 1 ∨ X % 7 = 2 ∨ X % 7 = 3 ∨ X % 7 = 4 := by omega
          rcases k14 with k | k | k | k <;> rw [k] at start
          · have hX9 : (1 : Int32) + (jI X - jI X / 9 * 9) = jI (1 + X % 9) := by rw [lit_9, jI_modn (by omega) (by omega) (by omega) (by omega), lit_1, jI_add]
            rw [if_pos (show jI 1 = 1 by decide), if_neg gm, M_isOpen x F G hi mg.1 (by omega), b_I] at start
            rw [if_pos k]
            by_cases q : V (F 150) (99 + g) = 0 ∨ V (F 150) (99 + g) = 3
            · obtain ⟨f, f1, f2, f3⟩ := M_workNow x F G (g := g) (h := 1 + X % 9) hi mg.1 (by omega) (by omega) (by omega)
              rw [if_pos q, if_neg (show ¬ jI 1 = 0 by decide), hX9, f1, b_V] at start
              rw [start, if_pos q]
              exact ⟨_, _, rfl, by rw [sA_eq]; exact ⟨f2, f3⟩, agL_0 _ _, fun _ _ => rfl⟩
            · rw [if_neg q, if_pos (show jI 0 = 0 by decide)] at start
              rw [start, if_neg q]
              exact same
          · have hcp := M_canPass x F G (g := g) (p := X / 5 % V (F 150) 0) hi (by unfold rg; omega) (by unfold rg; omega)
            rw [if_neg (show ¬ jI 2 = 1 by decide), if_pos (show jI 2 = 2 by decide), if_neg gm, fR_149_0, Option.bind_some, i0, Option.bind_some, if_neg nz, eD5, jI_modn (a := X / 5) (by omega) (by omega) (by omega) (by omega)] at start
            rw [if_neg (by omega), if_pos k]
            by_cases q : V (F 150) (99 + g) = 0 ∧ ¬ X / 5 % V (F 150) 0 = V (F 150) (27 + g) ∧ ¬ X / 5 % V (F 150) 0 = V (F 150) (39 + g)
            · rw [if_pos (by omega)] at hcp
              rw [hcp, b_I, if_neg (show ¬ jI 1 = 0 by decide), fR_149_0, Option.bind_some, i0, Option.bind_some, if_neg nz, jI_modn (a := X / 5) (by omega) (by omega) (by omega) (by omega), lit_1, M_put x F G mg.1 (by omega) (by omega) (by omega), b_V] at start
              rw [start, if_pos q]
              refine ⟨_, _, rfl, ?_, agL_0 _ _, fun _ _ => rfl⟩
              rw [sA_eq]
              exact ⟨by rw [Vu_g _ _ mg.1 (by omega) (by omega) (by omega)]; rfl, Fr_u _ (Fr_rfl _) (by omega) (by omega) (by omega)⟩
            · rw [if_neg (by omega)] at hcp
              rw [hcp, b_I, if_pos (show jI 0 = 0 by decide)] at start
              rw [start, if_neg q]
              exact same
          · rw [if_neg (show ¬ jI 3 = 1 by decide), if_neg (show ¬ jI 3 = 2 by decide), if_pos (show jI 3 = 3 by decide), if_neg gm, e3] at start
            rw [if_neg (by omega), if_neg (by omega), if_pos k]
            by_cases q3 : X % 3 = 0
            · have q3' : jI (X % 3) = 0 := by rw [q3]; decide
              have hio := M_isOwed x F G (g := g) hi (by unfold rg; omega)
              rw [if_pos q3'] at start
              by_cases q : V (F 150) (99 + g) = 0
              · rw [if_pos (by omega)] at hio
                rw [hio, b_I, if_neg (show ¬ jI 1 = 0 by decide), lit_6, lit_2, M_put x F G mg.1 (by omega) (by omega) (by omega), b_V] at start
                rw [start, if_pos ⟨q3, q⟩]
                refine ⟨_, _, rfl, ?_, agL_0 _ _, fun _ _ => rfl⟩
                rw [sA_eq]
                exact ⟨by rw [Vu_g _ _ mg.1 (by omega) (by omega) (by omega)]; rfl, Fr_u _ (Fr_rfl _) (by omega) (by omega) (by omega)⟩
              · rw [if_neg (by omega)] at hio
                rw [hio, b_I, if_pos (show jI 0 = 0 by decide)] at start
                rw [start, if_neg (fun z => q z.2)]
                exact same
            · have q3' : ¬ jI (X % 3) = 0 := by
                rw [lit_0, jI_eq (by omega) (by omega) (by omega) (by omega)]
                exact q3
              rw [if_neg q3'] at start
              rw [start, if_neg (fun z => q3 z.1)]
              exact same
          · obtain ⟨F1, G1, r1, r2, r3⟩ := M_canPledge x F G (g := g) hA hi (by unfold rg; omega)
            have e150 : F1 150 = F 150 := r2 _ (by omega) (by omega)
            rw [if_neg (show ¬ jI 4 = 1 by decide), if_neg (show ¬ jI 4 = 2 by decide), if_neg (show ¬ jI 4 = 3 by decide), if_pos (show jI 4 = 4 by decide), if_neg gm, r1, b_I] at start
            rw [if_neg (by omega), if_neg (by omega), if_neg (by omega)]
            by_cases q : pawnC A (V (F 150)) g
            · obtain ⟨F2, G2, s1, s2, s3, s4⟩ := M_pledgeNow x F1 G1 (g := g) (A := A) (by rw [e150]; exact LA_cg (agL_T (agL_N r2)) hA) (by rw [e150]; exact hi) mg.1 (by omega)
              rw [e150] at s2
              rw [if_pos q, if_neg (show ¬ jI 1 = 0 by decide), s1, b_I] at start
              rw [start, if_pos q]
              refine ⟨F2, G2, rfl, ?_, agL_tr (agL_N r2) s3, agG_tr r3 s4⟩
              rw [s2]
              exact ⟨V_mPawn A _ hi mg.1 (by omega), Fr_mPawn A _ hi mg.1 (by omega)⟩
            · rw [if_neg q, if_pos (show jI 0 = 0 by decide)] at start
              rw [start, if_neg q]
              exact ⟨F1, G1, rfl, by rw [e150]; exact ⟨rfl, Fr_rfl _⟩, agL_N r2, r3⟩
  have st : m_M x k_M_happens [.ref 149, .int (jI X)] (mk F G) = _ := E_M_happens x (mk F G) 149 (jI X)
  rw [isO_149, if_pos rfl, fR_149_0, Option.bind_some, i0, Option.bind_some, if_neg nz, Option.bind_some, i11, Option.bind_some, jI_modn (a := X) (b := V (F 150) 0) (by omega) (by omega) (by omega) (by omega)] at st
  by_cases kg : V (F 150) 25 = 0
  · have kg' : jI (V (F 150) 25) = 0 := by rw [kg]; decide
    obtain ⟨F2, G2, r⟩ := body (-1) (by rw [if_pos kg])
    rw [if_pos kg'] at st
    exact ⟨F2, G2, st.trans r.1, r.2⟩
  · have kg' : ¬ jI (V (F 150) 25) = 0 := by
      rw [lit_0, jI_eq (by omega) (by omega) (by omega) (by omega)]
      exact kg
    obtain ⟨F2, G2, r⟩ := body (X % V (F 150) 25) (by rw [if_neg kg])
    rw [if_neg kg', Option.bind_some, i11, Option.bind_some, if_neg kg', jI_modn (a := X) (b := V (F 150) 25) (by omega) (by omega) (by omega) (by omega)] at st
    exact ⟨F2, G2, st.trans r.1, r.2⟩
end
