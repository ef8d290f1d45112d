-- chests of lefts: the class
def okL (c Z Y : Fn) (N held to : Int) : Nat → Int → Bool := fun k p => (decide (p < N) && fitsB c (Z k) (Y k) p) && decide (¬ (k : Int) = held ∨ p = to)
theorem okL_t {c Z Y : Fn} {N held to p : Int} {k : Nat} : okL c Z Y N held to k p = true ↔ (p < N ∧ fitsB c (Z k) (Y k) p = true) ∧ (¬ (k : Int) = held ∨ p = to) := by
  unfold okL
  simp
/-- all ways -/
def lT (ok : Nat → Int → Bool) (L : Nat) (n : Int) : Int := sm (fun S => lW ok L S.toNat) n
theorem lT_r {ok : Nat → Int → Bool} {L : Nat} (hL : L ≤ 6) {n : Int} (h0 : 0 ≤ n) (h1 : n ≤ 128) : 0 ≤ lT ok L n ∧ lT ok L n ≤ 15059072 := by
  have := sm_le (f := fun S => lW ok L S.toNat) (a := 0) (b := 117649) h0 (fun i _ _ => lW_r hL _)
  unfold lT
  omega
def CH (F : Nat → Fn) (L : Nat) : Prop := F 43 1 = (L : Int) ∧ L ≤ 6 ∧ ∀ k : Nat, k < L → (1 ≤ F 44 k ∧ F 44 k ≤ 9) ∧ 0 ≤ F 46 k ∧ F 46 k ≤ 8
section
variable (x : m_X) (F G : Nat → Fn)
theorem C_give {T L : Nat} {held to o : Int} (hi : WI (F 2)) (hC : CH F L) (hT : T < 128) (hL : pcN T < L) (ho : rg o) (hto : held = -1 ∨ 0 ≤ to) (eo : o = if (pcN T : Int) = held then to else -1) : ∃ F2, m_M x k_Puzzles_giveNext [.ref 144, .ref 1, .ref 36, .int (jI (T : Int)), .int (jI o)] (mk F G) = some (none, mk F2 G) ∧ (∀ S : Nat, S < 128 → F2 146 S = F 146 S + sm (gvS (okL (F 2) (F 44) (F 46) (F 2 0) held to (pcN T)) T (F 146 T) S) 7) ∧ (∀ b, ¬ b = 146 → F2 b = F b) := by
  have hc := WI_c hi
  obtain ⟨h1, h2, h3⟩ := hC
  have h4 := h3 (pcN T) hL
  have f3 : m_fR (mk F G) 7 3 36 = some 43 := fR_T_3 F G (w := 36) (by omega)
  have f4 : m_fR (mk F G) 7 4 36 = some 45 := fR_T_4 F G (w := 36) (by omega)
  have i1 : m_M x k_Row_itemAt [.ref 43, .int (jI (pcN T : Int))] (mk F G) = some (some (.int (jI (F 44 (pcN T : Int)))), mk F G) := C_itemAt x F G (w := 43) (by omega) (by omega) (by show (pcN T : Int) < 6; omega)
  have i2 : m_M x k_Row_itemAt [.ref 45, .int (jI (pcN T : Int))] (mk F G) = some (some (.int (jI (F 46 (pcN T : Int)))), mk F G) := C_itemAt x F G (w := 45) (by omega) (by omega) (by show (pcN T : Int) < 6; omega)
  have cw := C_whomFits x F G (w := 1) (z := F 44 (pcN T : Int)) (t := F 46 (pcN T : Int)) (Or.inl rfl) hi (by omega) (by omega) (by unfold rg; omega)
  simp only [Nat.reduceAdd] at cw
  rw [E_Puzzles_giveNext, isO_144, if_pos rfl, C_bitCount x F G hT, b_I, f3, Option.bind_some, i1, b_I, f4, Option.bind_some, i2, b_I, cw, b_I, show (-1 : Int32) = jI (-1) from rfl, lit_0]
  refine C_give37 x F G (T := T) (o := o) (g := okL (F 2) (F 44) (F 46) (F 2 0) held to (pcN T)) hT ho ?_ 0 (by omega) (by omega) F ?_ (fun _ _ => rfl) none none rfl rfl
  · intro p p0 p1
    rw [bt_and, bt_st _ p0 (by omega) _ (by omega) (by omega), bt_xor, bt_nat T p0 (by omega), bt_m1 p0 (by omega), okL_t]
    by_cases q : (pcN T : Int) = held
    · rw [if_pos q] at eo
      have : ¬ o = -1 := by omega
      by_cases b : T.testBit p.toNat = true
      · simp [b]
      · have b' : T.testBit p.toNat = false := by simpa using b
        simp [b', q, this, eo]
        intro _ _
        omega
    · rw [if_neg q] at eo
      by_cases b : T.testBit p.toNat = true
      · simp [b]
      · have b' : T.testBit p.toNat = false := by simpa using b
        simp [b', q, eo]
  · intro S hS
    rw [sm_0]
    omega
theorem C_ways49 {L : Nat} {held to : Int} (hi : WI (F 2)) (hC : CH F L) (hh : -1 ≤ held) (hh2 : held < 7) (ht : -1 ≤ to) (ht2 : to < 7) (hto : held = -1 ∨ 0 ≤ to) : ∀ T, 0 ≤ T → T ≤ 128 → ∀ F1 : Nat → Fn, (∀ S : Nat, S < 128 → pcN S ≤ L → F1 146 S = lA (okL (F 2) (F 44) (F 46) (F 2 0) held to) T.toNat S) → (∀ b, ¬ b = 146 → F1 b = F b) → ∀ d8, m_nl d8 = true → ∃ F2, m_D x 5 k_Puzzles_waysOf 49 [some (.ref 144), some (.ref 1), some (.ref 36), some (.int (jI held)), some (.int (jI to)), some (.int (jI (L : Int))), some (.int (jI (lT (okL (F 2) (F 44) (F 46) (F 2 0) held to) L T))), some (.int (jI T)), d8] [] (mk F1 G) = some (some (.int (jI (lT (okL (F 2) (F 44) (F 46) (F 2 0) held to) L 128))), mk F2 G) ∧ (∀ b, ¬ b = 146 → F2 b = F b) := by
  obtain ⟨c1, c2, c3⟩ := hC
  apply down
  · intro F1 h1 h2 d8 h8
    refine ⟨F1, ?_, h2⟩
    rw [E_Puzzles_waysOf_49 x 5 (by omega) _ _ _ _ _ _ _ _ _ _ h8, lit_128, if_pos (Int32.le_refl _)]
  · intro T T0 T1 ih F1 h1 h2 d8 h8
    obtain ⟨n, en⟩ : ∃ n : Nat, T = (n : Int) := ⟨T.toNat, by omega⟩
    subst en
    have hn : n < 128 := by omega
    have en1 : ((n : Int) + 1).toNat = n + 1 := by omega
    have hpc : pcN n ≤ 12 := pc_le 12 n
    have es : lT (okL (F 2) (F 44) (F 46) (F 2 0) held to) L ((n : Int) + 1) = lT (okL (F 2) (F 44) (F 46) (F 2 0) held to) L (n : Int) + lW (okL (F 2) (F 44) (F 46) (F 2 0) held to) L n := by
      unfold lT
      rw [sm_s _ (by omega), Int.toNat_natCast]
    rw [es, en1] at ih
    rw [Int.toNat_natCast] at h1
    have lr := lT_r (ok := okL (F 2) (F 44) (F 46) (F 2 0) held to) c2 (n := (n : Int)) (by omega) (by omega)
    rw [E_Puzzles_waysOf_49 x 5 (by omega) _ _ _ _ _ _ _ _ _ _ h8, lit_128, if_neg (by rw [jI_le (by omega) (by omega) (by omega) (by omega)]; omega), C_bitCount x F1 G hn, b_I, lit_1, jI_add]
    by_cases q1 : pcN n = L
    · have hv : F1 146 n = lW (okL (F 2) (F 44) (F 46) (F 2 0) held to) L n := by
        rw [h1 n hn (by omega), lA_top hn (Nat.le_refl _), q1]
      rw [if_pos (by rw [q1]), fR_144_4, Option.bind_some, ia_146 x F1 G (by omega) (by omega), Option.bind_some, hv, jI_add]
      refine ih F1 ?_ h2 _ rfl
      intro S hS hp
      rw [h1 S hS hp, lA_big (L := L) hS hn hp (by omega)]
    · have hz := lW_pc (ok := okL (F 2) (F 44) (F 46) (F 2 0) held to) L n hn q1
      rw [hz, Int.add_zero] at ih
      rw [if_neg (by rw [jI_eq (by omega) (by omega) (by omega) (by omega)]; omega)]
      by_cases q2 : L ≤ pcN n
      · rw [if_pos (by rw [jI_le (by omega) (by omega) (by omega) (by omega)]; omega)]
        refine ih F1 ?_ h2 _ rfl
        intro S hS hp
        rw [h1 S hS hp, lA_big (L := L) hS hn hp q2]
      · have hv : F1 146 n = lW (okL (F 2) (F 44) (F 46) (F 2 0) held to) (pcN n) n := by
          rw [h1 n hn (by omega), lA_top hn (Nat.le_refl _)]
        have wr := lW_r (ok := okL (F 2) (F 44) (F 46) (F 2 0) held to) (k := pcN n) (by omega) n
        rw [if_neg (by rw [jI_le (by omega) (by omega) (by omega) (by omega)]; omega), fR_144_4, Option.bind_some, ia_146 x F1 G (by omega) (by omega), Option.bind_some, lit_0]
        by_cases q3 : F1 146 n ≤ 0
        · rw [if_pos (by rw [jI_le (by omega) (by omega) (by omega) (by omega)]; omega)]
          refine ih F1 ?_ h2 _ rfl
          intro S hS hp
          rw [h1 S hS hp, lA_nil hS hn (by omega)]
        · rw [if_neg (by rw [jI_le (by omega) (by omega) (by omega) (by omega)]; omega)]
          have e2 := h2 2 (by omega)
          have e43 := h2 43 (by omega)
          have e44 := h2 44 (by omega)
          have e46 := h2 46 (by omega)
          have give : ∀ o, rg o → o = (if (pcN n : Int) = held then to else -1) → ∃ F2, (m_bV (m_M x k_Puzzles_giveNext [.ref 144, .ref 1, .ref 36, .int (jI (n : Int)), .int (jI o)] (mk F1 G)) fun s120 => m_D x 5 k_Puzzles_waysOf 49 [some (.ref 144), some (.ref 1), some (.ref 36), some (.int (jI held)), some (.int (jI to)), some (.int (jI (L : Int))), some (.int (jI (lT (okL (F 2) (F 44) (F 46) (F 2 0) held to) L (n : Int)))), some (.int (jI ((n : Int) + 1))), some (.int (jI (pcN n : Int)))] [] s120) = some (some (.int (jI (lT (okL (F 2) (F 44) (F 46) (F 2 0) held to) L 128))), mk F2 G) ∧ (∀ b, ¬ b = 146 → F2 b = F b) := by
            intro o ro eo
            obtain ⟨F2, r1, r2, r3⟩ := C_give x F1 G (T := n) (L := L) (held := held) (to := to) (o := o) (by rw [e2]; exact hi) ⟨by rw [e43]; exact c1, c2, by rw [e44, e46]; exact c3⟩ hn (by omega) ro hto eo
            rw [r1, b_V]
            rw [e2, e44, e46] at r2
            refine ih F2 ?_ (fun b hb => (r3 b hb).trans (h2 b hb)) _ rfl
            intro S hS hp
            rw [r2 S hS, h1 S hS hp, lA_step hS hn, hv]
          by_cases q4 : (pcN n : Int) = held
          · rw [if_pos (by rw [q4])]
            exact give to (by unfold rg; omega) (by rw [if_pos q4])
          · rw [if_neg (by rw [jI_eq (by omega) (by omega) (by omega) (by omega)]; omega)]
            exact give (-1) (by unfold rg; omega) (by rw [if_neg q4])
theorem C_waysOf {L : Nat} {held to : Int} (hi : WI (F 2)) (hC : CH F L) (hh : -1 ≤ held) (hh2 : held < 7) (ht : -1 ≤ to) (ht2 : to < 7) (hto : held = -1 ∨ 0 ≤ to) : ∃ F2, m_M x k_Puzzles_waysOf [.ref 144, .ref 1, .ref 36, .int (jI held), .int (jI to)] (mk F G) = some (some (.int (jI (lT (okL (F 2) (F 44) (F 46) (F 2 0) held to) L 128))), mk F2 G) ∧ (∀ b, ¬ b = 146 → F2 b = F b) := by
  have f3 : m_fR (mk F G) 7 3 36 = some 43 := fR_T_3 F G (w := 36) (by omega)
  have f43 : m_fI (mk F G) 4 1 43 = some (jI (F 43 1)) := fI_R_1 F G (w := 43) (by omega)
  have key : ∀ n, 0 ≤ n → n ≤ 128 → ∀ F1 : Nat → Fn, (∀ k, 0 ≤ k → k < n → F1 146 k = if k = 0 then 1 else 0) → (∀ b, ¬ b = 146 → F1 b = F b) → ∃ F2, m_D x 5 k_Puzzles_waysOf 15 [some (.ref 144), some (.ref 1), some (.ref 36), some (.int (jI held)), some (.int (jI to)), some (.int (jI (L : Int))), some (.int (jI 0)), some (.int (jI n)), none] [] (mk F1 G) = m_D x 5 k_Puzzles_waysOf 49 [some (.ref 144), some (.ref 1), some (.ref 36), some (.int (jI held)), some (.int (jI to)), some (.int (jI (L : Int))), some (.int (jI 0)), some (.int (jI 0)), none] [] (mk F2 G) ∧ (∀ k, 0 ≤ k → k < 128 → F2 146 k = if k = 0 then 1 else 0) ∧ (∀ b, ¬ b = 146 → F2 b = F b) := by
    apply down
    · intro F1 h1 h2
      refine ⟨F1, ?_, h1, h2⟩
      rw [E_Puzzles_waysOf_15 x 5 (by omega), lit_128, if_pos (Int32.le_refl _), lit_0]
    · intro n n0 n1 ih F1 h1 h2
      rw [E_Puzzles_waysOf_15 x 5 (by omega), lit_128, if_neg (by rw [jI_le (by omega) (by omega) (by omega) (by omega)]; omega), fR_144_4, Option.bind_some, lit_0, lit_1, jI_add]
      have st : ∀ v, v = (if n = 0 then 1 else 0) → ∃ F2, ((m_is (mk F1 G) 146 (jI n) (jI v)).bind fun s39 => m_D x 5 k_Puzzles_waysOf 15 [some (.ref 144), some (.ref 1), some (.ref 36), some (.int (jI held)), some (.int (jI to)), some (.int (jI (L : Int))), some (.int (jI 0)), some (.int (jI (n + 1))), none] [] s39) = m_D x 5 k_Puzzles_waysOf 49 [some (.ref 144), some (.ref 1), some (.ref 36), some (.int (jI held)), some (.int (jI to)), some (.int (jI (L : Int))), some (.int (jI 0)), some (.int (jI 0)), none] [] (mk F2 G) ∧ (∀ k, 0 ≤ k → k < 128 → F2 146 k = if k = 0 then 1 else 0) ∧ (∀ b, ¬ b = 146 → F2 b = F b) := by
        intro v hv
        rw [is_146 _ _ _ n0 n1, Option.bind_some]
        refine ih _ ?_ ?_
        · intro k k0 k1
          rw [sA_eq]
          by_cases e : k = n
          · rw [e, u_eq, hv]
          · rw [u_ne _ _ e]
            exact h1 k k0 (by omega)
        · intro b hb
          rw [sA_ne _ _ hb]
          exact h2 b hb
      by_cases q : n = 0
      · rw [if_pos (by rw [q])]
        exact st 1 (by rw [if_pos q])
      · rw [if_neg (by rw [jI_eq (by omega) (by omega) (by omega) (by omega)]; omega)]
        exact st 0 (by rw [if_neg q])
  obtain ⟨F1, r1, r2, r3⟩ := key 0 (by omega) (by omega) F (fun k _ _ => by omega) (fun _ _ => rfl)
  have e2 := r3 2 (by omega)
  have e43 := r3 43 (by omega)
  have e44 := r3 44 (by omega)
  have e46 := r3 46 (by omega)
  obtain ⟨F2, z1, z2⟩ := C_ways49 x F1 G (L := L) (held := held) (to := to) (by rw [e2]; exact hi) (by unfold CH; rw [e43, e44, e46]; exact hC) hh hh2 ht ht2 hto 0 (by omega) (by omega) F1 (by
    intro S hS _
    rw [r2 S (by omega) (by omega)]
    show _ = lA _ 0 S
    rw [lA_0]
    by_cases e : S = 0
    · rw [if_pos e, if_pos (by omega)]
    · rw [if_neg e, if_neg (by omega)]) (fun _ _ => rfl) none rfl
  rw [e2, e44, e46] at z1
  have e0 : lT (okL (F 2) (F 44) (F 46) (F 2 0) held to) L 0 = 0 := sm_0 _
  rw [e0] at z1
  refine ⟨F2, ?_, fun b hb => (z2 b hb).trans (r3 b hb)⟩
  rw [E_Puzzles_waysOf, isO_144, if_pos rfl, f3, Option.bind_some, f43, Option.bind_some, hC.1, lit_0, r1]
  exact z1
/-- the first owner that leaves all ways as they are, from p on -/
theorem C_sureL {L : Nat} {k all : Int} (hi : WI (F 2)) (hC : CH F L) (k0 : 0 ≤ k) (k1 : k < 6) (ha0 : 0 ≤ all) (ha1 : all ≤ 20000000) : ∀ p, 0 ≤ p → p ≤ F 2 0 → ∀ F1 : Nat → Fn, (∀ b, ¬ b = 146 → F1 b = F b) → ∃ (F2 : Nat → Fn) (v : Int), m_D x 6 k_Puzzles_sureOwner 13 [some (.ref 144), some (.ref 1), some (.ref 36), some (.int (jI k)), some (.int (jI all)), some (.int (jI p))] [] (mk F1 G) = some (some (.int (jI v)), mk F2 G) ∧ (∀ b, ¬ b = 146 → F2 b = F b) ∧ ((v = -1 ∧ (all ≤ 0 ∨ ∀ j, p ≤ j → j < F 2 0 → ¬ lT (okL (F 2) (F 44) (F 46) (F 2 0) k j) L 128 = all)) ∨ (p ≤ v ∧ v < F 2 0 ∧ 0 < all ∧ lT (okL (F 2) (F 44) (F 46) (F 2 0) k v) L 128 = all ∧ ∀ j, p ≤ j → j < v → ¬ lT (okL (F 2) (F 44) (F 46) (F 2 0) k j) L 128 = all)) := by
  have hc := WI_c hi
  have fw : ∀ F1 : Nat → Fn, m_fR (mk F1 G) 9 0 1 = some 2 := fun F1 => fR_W_0 F1 G (w := 1) (Or.inl rfl)
  have a2 : ∀ F1 : Nat → Fn, (∀ b, ¬ b = 146 → F1 b = F b) → m_ia x (mk F1 G) 2 (jI 0) = some (jI (F 2 0)) := by
    intro F1 h
    rw [ia_2 x F1 G (by omega) (by omega), h 2 (by omega)]
  apply down
  · intro F1 h
    refine ⟨F1, -1, ?_, h, Or.inl ⟨rfl, Or.inr (fun j j0 j1 => by omega)⟩⟩
    rw [E_Puzzles_sureOwner_13 x 6 (by omega), fw, Option.bind_some, lit_0, a2 F1 h, Option.bind_some, if_pos (Int32.le_refl _)]
    rfl
  · intro p p0 p1 ih F1 h
    rw [E_Puzzles_sureOwner_13 x 6 (by omega), fw, Option.bind_some, lit_0, a2 F1 h, Option.bind_some, if_neg (by rw [jI_le (by omega) (by omega) (by omega) (by omega)]; omega)]
    by_cases q : all ≤ 0
    · refine ⟨F1, -1, ?_, h, Or.inl ⟨rfl, Or.inl q⟩⟩
      rw [if_pos (by rw [jI_le (by omega) (by omega) (by omega) (by omega)]; omega)]
      rfl
    · have e2 := h 2 (by omega)
      have e43 := h 43 (by omega)
      have e44 := h 44 (by omega)
      have e46 := h 46 (by omega)
      obtain ⟨F2, z1, z2⟩ := C_waysOf x F1 G (L := L) (held := k) (to := p) (by rw [e2]; exact hi) (by unfold CH; rw [e43, e44, e46]; exact hC) (by omega) (by omega) (by omega) (by omega) (Or.inr p0)
      rw [e2, e44, e46] at z1
      have lr := lT_r (ok := okL (F 2) (F 44) (F 46) (F 2 0) k p) hC.2.1 (n := 128) (by omega) (by omega)
      have h' : ∀ b, ¬ b = 146 → F2 b = F b := fun b hb => (z2 b hb).trans (h b hb)
      rw [if_neg (by rw [jI_le (by omega) (by omega) (by omega) (by omega)]; omega), z1, b_I]
      by_cases q2 : lT (okL (F 2) (F 44) (F 46) (F 2 0) k p) L 128 = all
      · refine ⟨F2, p, ?_, h', Or.inr ⟨Int.le_refl _, p1, by omega, q2, fun j j0 j1 => by omega⟩⟩
        rw [if_pos (by rw [q2])]
      · rw [if_neg (by rw [jI_eq (by omega) (by omega) (by omega) (by omega)]; omega), lit_1, jI_add]
        obtain ⟨F3, v, y1, y2, y3⟩ := ih F2 h'
        refine ⟨F3, v, y1, y2, ?_⟩
        rcases y3 with ⟨w1, w2⟩ | ⟨w1, w2, w3, w4, w5⟩
        · refine Or.inl ⟨w1, ?_⟩
          rcases w2 with w2 | w2
          · exact Or.inl w2
          · right
            intro j j0 j1
            by_cases e : j = p
            · rw [e]; exact q2
            · exact w2 j (by omega) j1
        · refine Or.inr ⟨by omega, w2, w3, w4, ?_⟩
          intro j j0 j1
          by_cases e : j = p
          · rw [e]; exact q2
          · exact w5 j (by omega) j1
end
