-- winters: what a draw does, class and model
def hap (A : Law4) (c : Fn) (X : Int) : Fn :=
  if X % 7 = 0 then (if c 25 < 12 ∧ ¬ X % c 0 = X / 7 % c 0 then wStrike c (X % c 0) (X / 7 % c 0) (1 + X % 20) (X % 3) (X % 10) else c)
  else if 4 < X % 7 then (if c 22 < 9999 then wDay A c else c)
  else if c 25 = 0 then c
  else if X % 7 = 1 then (if c (99 + X % c 25) = 0 ∨ c (99 + X % c 25) = 3 then wLabour c (X % c 25) (1 + X % 9) else c)
  else if X % 7 = 2 then (if c (99 + X % c 25) = 0 ∧ ¬ X / 5 % c 0 = c (27 + X % c 25) ∧ ¬ X / 5 % c 0 = c (39 + X % c 25) then u c (39 + X % c 25) (X / 5 % c 0) else c)
  else if X % 7 = 3 then (if X % 3 = 0 ∧ c (99 + X % c 25) = 0 then u c (99 + X % c 25) 2 else c)
  else (if pawnC A c (X % c 25) then wPawn A c (X % c 25) else c)
theorem md {a b : Int} (h : 0 < b) : 0 ≤ a % b ∧ a % b < b := ⟨Int.emod_nonneg a (by omega), Int.emod_lt_of_pos a h⟩
section
variable (x : m_X) (F G : Nat → Fn)
theorem C_hap {X : Int} {A : Law4} (ht : TR F) (hw : WI (F 2)) (hA : LA F (F 36 8) A) (hp : 1 ≤ F 2 0) (h0 : 0 ≤ X) (h1 : X < 30467) : ∃ F2, m_M x k_G_drawDeed [.ref 0, .int (jI X)] (mk F G) = some (none, mk F2 G) ∧ F2 2 = hap A (F 2) X ∧ agW 1 F F2 := by
  have hc := WI_c hw
  have hrl := C_ruling x F G ht.1 ht.2.1 ht.2.2.1 ht.2.2.2
  have i0 : m_ia x (mk F G) 2 (jI 0) = some (jI (F 2 0)) := ia_2 x F G (by omega) (by omega)
  have i25 : m_ia x (mk F G) 2 (jI 25) = some (jI (F 2 25)) := ia_2 x F G (by omega) (by omega)
  have fw : m_fR (mk F G) 9 0 1 = some 2 := fR_W_0 F G (w := 1) (Or.inl rfl)
  have mp := md (a := X) (b := F 2 0) (by omega)
  have mp7 := md (a := X / 7) (b := F 2 0) (by omega)
  have mp5 := md (a := X / 5) (b := F 2 0) (by omega)
  have hd7 : 0 ≤ X / 7 ∧ X / 7 ≤ 30467 := by omega
  have hd5 : 0 ≤ X / 5 ∧ X / 5 ≤ 30467 := by omega
  have start : m_M x k_G_drawDeed [.ref 0, .int (jI X)] (mk F G) = _ := E_G_drawDeed x (mk F G) 0 (jI X)
  rw [isO_0, if_pos rfl, fR_0_0, Option.bind_some, fw, Option.bind_some, lit_0, i0, Option.bind_some, Option.bind_some, fw, Option.bind_some, lit_25, i25, Option.bind_some] at start
  have g0 : jI 0 < jI (F 2 0) := by
    rw [jI_lt (by omega) (by omega) (by omega) (by omega)]
    omega
  have nz : ¬ jI (F 2 0) = jI 0 := by
    rw [jI_eq (by omega) (by omega) (by omega) (by omega)]
    omega
  have e7 : jI X - jI X / 7 * 7 = jI (X % 7) := by rw [lit_7, jI_modn (by omega) (by omega) (by omega) (by omega)]
  have eD7 : jI X / 7 = jI (X / 7) := by rw [lit_7, jI_dvn (by omega) (by omega) (by omega) (by omega)]
  have eD5 : jI X / 5 = jI (X / 5) := by rw [lit_5, jI_dvn (by omega) (by omega) (by omega) (by omega)]
  have r7 : 0 ≤ X % 7 ∧ X % 7 ≤ 6 := by omega
  rw [if_pos g0, e7] at start
  unfold hap
  by_cases k0 : X % 7 = 0
  · have k0' : jI (X % 7) = jI 0 := by rw [k0]
    have hst := C_strike x F G (w := 1) (a := X % F 2 0) (b := X / 7 % F 2 0) (k := 1 + X % 20) (l := X % 3) (m := X % 10) (Or.inl rfl) hw (by unfold rg; omega) (by unfold rg; omega) (by unfold rg; omega) (by unfold rg; omega) (by unfold rg; omega)
    simp only [Nat.reduceAdd] at hst
    rw [if_pos k0', Option.bind_some, if_neg nz, if_neg nz] at start
    have e3 : jI X - jI X / 3 * 3 = jI (X % 3) := by rw [lit_3, jI_modn (by omega) (by omega) (by omega) (by omega)]
    have e10 : jI X - jI X / 10 * 10 = jI (X % 10) := by rw [lit_10, jI_modn (by omega) (by omega) (by omega) (by omega)]
    have e20 : (1 : Int32) + (jI X - jI X / 20 * 20) = jI (1 + X % 20) := by rw [lit_20, jI_modn (by omega) (by omega) (by omega) (by omega), lit_1, jI_add]
    rw [jI_modn (a := X) (b := F 2 0) (by omega) (by omega) (by omega) (by omega), eD7, jI_modn (a := X / 7) (b := F 2 0) (by omega) (by omega) (by omega) (by omega), e3, e10, e20, hst] at start
    rw [if_pos k0]
    by_cases q : F 2 25 < 12 ∧ ¬ X % F 2 0 = X / 7 % F 2 0
    · rw [if_pos (by omega), b_I] at start
      rw [if_pos q]
      exact ⟨_, start, sA_eq _ _ _, agW_s 1 _ _⟩
    · rw [if_neg (by omega), b_I] at start
      rw [if_neg q]
      exact ⟨_, start, rfl, fun _ _ _ _ => rfl⟩
  · have k0' : ¬ jI (X % 7) = jI 0 := by
      rw [jI_eq (by omega) (by omega) (by omega) (by omega)]
      exact k0
    rw [if_neg k0'] at start
    rw [if_neg k0]
    by_cases k4 : 4 < X % 7
    · have k4' : ¬ jI (X % 7) ≤ 4 := by
        rw [lit_4, jI_le (by omega) (by omega) (by omega) (by omega)]
        omega
      rw [if_neg k4', fR_0_9, Option.bind_some, Option.bind_some, hrl] at start
      rw [if_pos k4]
      have fin : ∀ S, S = sv (F 36 8) → ∃ F2, (m_bI (m_M x k_Law_passDay [.ref 136, .ref 1, S] (mk F G)) fun v88 s88 => some ((none : Option Value), s88)) = some (none, mk F2 G) ∧ F2 2 = (if F 2 22 < 9999 then wDay A (F 2) else F 2) ∧ agW 1 F F2 := by
        intro S hS
        rw [hS]
        by_cases hd : F 2 22 < 9999
        · obtain ⟨F2, r1, r2, r3⟩ := C_passDay x F G (w := 1) (t := F 36 8) hA (Or.inl rfl) hw hd
          rw [r1, b_I, if_pos hd]
          exact ⟨F2, rfl, r2, r3⟩
        · have hcd := C_dayCanPass x F G (w := 1) (Or.inl rfl) (by unfold rg; simp only [Nat.reduceAdd]; omega)
          simp only [Nat.reduceAdd] at hcd
          rw [if_neg hd] at hcd
          rw [S_passDay x _ _ _ (sv (F 36 8)) (sv_is _), isO_136, if_pos rfl, hcd, b_I, if_pos (show jI 0 = 0 by decide), b_I, if_neg hd]
          exact ⟨F, rfl, rfl, fun _ _ _ _ => rfl⟩
      by_cases q : F 36 8 < 0
      · have es : sv (F 36 8) = .null := by unfold sv; rw [if_pos q]
        rw [es, b_N0] at start
        rw [start]
        exact fin _ es.symm
      · have es : sv (F 36 8) = .ref (104 + 6 * (F 36 8).toNat) := by unfold sv; rw [if_neg q]
        rw [es, b_N] at start
        rw [start]
        exact fin _ es.symm
    · have k4' : jI (X % 7) ≤ 4 := by
        rw [lit_4, jI_le (by omega) (by omega) (by omega) (by omega)]
        omega
      rw [if_pos k4'] at start
      rw [if_neg k4]
      by_cases kg : F 2 25 = 0
      · have kg' : jI (F 2 25) ≤ jI 0 := by
          rw [jI_le (by omega) (by omega) (by omega) (by omega)]
          omega
        rw [if_pos kg'] at start
        rw [if_pos kg]
        exact ⟨F, start, rfl, fun _ _ _ _ => rfl⟩
      · have kg' : ¬ jI (F 2 25) ≤ jI 0 := by
          rw [jI_le (by omega) (by omega) (by omega) (by omega)]
          omega
        have kgz : ¬ jI (F 2 25) = jI 0 := by
          rw [jI_eq (by omega) (by omega) (by omega) (by omega)]
          exact kg
        have mg := md (a := X) (b := F 2 25) (by omega)
        rw [if_neg kg', if_neg kgz, if_neg nz, jI_modn (a := X) (b := F 2 25) (by omega) (by omega) (by omega) (by omega), eD5, jI_modn (a := X / 5) (b := F 2 0) (by omega) (by omega) (by omega) (by omega)] at start
        rw [if_neg kg]
        generalize hg : X % F 2 25 = g at *
        generalize hto : X / 5 % F 2 0 = to at *
        have gg := WI_g hw mg.1 (by omega)
        have hX3 : jI X - jI X / 3 * 3 = jI (X % 3) := by rw [lit_3, jI_modn (by omega) (by omega) (by omega) (by omega)]
        have hX9 : (1 : Int32) + (jI X - jI X / 9 * 9) = jI (1 + X % 9) := by rw [lit_9, jI_modn (by omega) (by omega) (by omega) (by omega), lit_1, jI_add]
        have st2 : m_M x k_G_drawOnGlove [.ref 0, .int (jI (X % 7)), .int (jI X), .int (jI g), .int (jI to)] (mk F G) = _ := E_G_drawOnGlove x (mk F G) 0 (jI (X % 7)) (jI X) (jI g) (jI to)
        rw [isO_0, if_pos rfl, hX3, hX9] at st2
        have k14 : X % 7 = 1 ∨ X % 7 = 2 ∨ X % 7 = 3 ∨ X % 7 = 4 := by omega
        rcases k14 with k | k | k | k
        · have hlb := C_labour x F G (w := 1) (g := g) (h := 1 + X % 9) (Or.inl rfl) hw (by unfold rg; omega) (by unfold rg; omega)
          simp only [Nat.reduceAdd] at hlb
          rw [k] at start st2
          rw [if_pos (show jI 1 = 1 by decide), fR_0_0, Option.bind_some, hlb] at st2
          rw [if_pos k]
          by_cases q : F 2 (99 + g) = 0 ∨ F 2 (99 + g) = 3
          · rw [if_pos (by omega), b_I] at st2
            rw [st2, b_V] at start
            rw [if_pos q]
            exact ⟨_, start, sA_eq _ _ _, agW_s 1 _ _⟩
          · rw [if_neg (by omega), b_I] at st2
            rw [st2, b_V] at start
            rw [if_neg q]
            exact ⟨_, start, rfl, fun _ _ _ _ => rfl⟩
        · have hlb := C_handOn x F G (w := 1) (g := g) (p := to) (Or.inl rfl) hw (by unfold rg; omega) (by unfold rg; omega)
          simp only [Nat.reduceAdd] at hlb
          rw [k] at start st2
          rw [if_neg (show ¬ jI 2 = 1 by decide), if_pos (show jI 2 = 2 by decide), fR_0_0, Option.bind_some, hlb] at st2
          rw [if_neg (by omega), if_pos k]
          by_cases q : F 2 (99 + g) = 0 ∧ ¬ to = F 2 (27 + g) ∧ ¬ to = F 2 (39 + g)
          · rw [if_pos (by omega), b_I] at st2
            rw [st2, b_V] at start
            rw [if_pos q]
            exact ⟨_, start, sA_eq _ _ _, agW_s 1 _ _⟩
          · rw [if_neg (by omega), b_I] at st2
            rw [st2, b_V] at start
            rw [if_neg q]
            exact ⟨_, start, rfl, fun _ _ _ _ => rfl⟩
        · have hlb := C_drop x F G (w := 1) (g := g) (Or.inl rfl) hw (by unfold rg; omega)
          simp only [Nat.reduceAdd] at hlb
          rw [k] at start st2
          rw [if_neg (show ¬ jI 3 = 1 by decide), if_neg (show ¬ jI 3 = 2 by decide), if_pos (show jI 3 = 3 by decide)] at st2
          rw [if_neg (by omega), if_neg (by omega), if_pos k]
          by_cases q3 : X % 3 = 0
          · have q3' : jI (X % 3) = 0 := by rw [q3]; decide
            rw [if_pos q3', fR_0_0, Option.bind_some, hlb] at st2
            by_cases q : F 2 (99 + g) = 0
            · rw [if_pos (by omega), b_I] at st2
              rw [st2, b_V] at start
              rw [if_pos ⟨q3, q⟩]
              exact ⟨_, start, sA_eq _ _ _, agW_s 1 _ _⟩
            · rw [if_neg (by omega), b_I] at st2
              rw [st2, b_V] at start
              rw [if_neg (fun z => q z.2)]
              exact ⟨_, start, rfl, fun _ _ _ _ => rfl⟩
          · have q3' : ¬ jI (X % 3) = 0 := by
              rw [lit_0, jI_eq (by omega) (by omega) (by omega) (by omega)]
              exact q3
            rw [if_neg q3', if_neg (show ¬ jI 3 = 4 by decide)] at st2
            rw [st2, b_V] at start
            rw [if_neg (fun z => q3 z.1)]
            exact ⟨_, start, rfl, fun _ _ _ _ => rfl⟩
        · rw [k] at start st2
          obtain ⟨F2, r1, r2, r3⟩ := C_pawnOff x F G (w := 1) (t := F 36 8) (g := g) hA (Or.inl rfl) hw (by unfold rg; omega)
          simp only [Nat.reduceAdd] at r1 r2
          rw [if_neg (show ¬ jI 4 = 1 by decide), if_neg (show ¬ jI 4 = 2 by decide), if_neg (show ¬ jI 4 = 3 by decide), if_pos (show jI 4 = 4 by decide), fR_0_9, Option.bind_some, fR_0_0, Option.bind_some, hrl] at st2
          rw [if_neg (by omega), if_neg (by omega), if_neg (by omega)]
          refine ⟨F2, ?_, r2, r3⟩
          by_cases q : F 36 8 < 0
          · have es : sv (F 36 8) = .null := by unfold sv; rw [if_pos q]
            rw [es] at st2 r1
            rw [b_N0, r1, b_I] at st2
            rw [st2, b_V] at start
            exact start
          · have es : sv (F 36 8) = .ref (104 + 6 * (F 36 8).toNat) := by unfold sv; rw [if_neg q]
            rw [es] at st2 r1
            rw [b_N, r1, b_I] at st2
            rw [st2, b_V] at start
            exact start
end
