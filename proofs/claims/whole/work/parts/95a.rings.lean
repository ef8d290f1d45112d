-- rings of lefts: paths, and the class's search
def PT (c : Fn) (q : Nat → Int) (m : Nat) : Prop :=
  (∀ i, i < m → 0 ≤ q i ∧ q i < c 25 ∧ c (99 + q i) = 0)
  ∧ (∀ i, i + 1 < m → c (27 + q (i + 1)) = c (39 + q i))
  ∧ (∀ i, 0 < i → i < m → q 0 < q i)
  ∧ (∀ i j, i < m → j < m → c (27 + q i) = c (27 + q j) → i = j)
def isS (q : Nat → Int) (m S : Nat) : Prop := S < 4096 ∧ ∀ g, 0 ≤ g → g < 12 → (S.testBit g.toNat = true ↔ ∃ i, i < m ∧ q i = g)
/-- the gloves q 0 .. q (m - 1), which are those of S, go round -/
def RGp (c : Fn) (q : Nat → Int) (m S : Nat) : Prop := PT c q m ∧ 2 ≤ m ∧ c (39 + q (m - 1)) = c (27 + q 0) ∧ isS q m S
def lxl (a b : Int) (m S : Nat) : Prop := a < (m : Int) ∨ (a = (m : Int) ∧ b ≤ (S : Int))
def CIN (c : Fn) (a b : Int) : Prop := (a = 8 ∧ b = 0) ∨ ∃ (q : Nat → Int) (m S : Nat), a = (m : Int) ∧ b = (S : Int) ∧ m ≤ 7 ∧ RGp c q m S
theorem CIN_r {c : Fn} {a b : Int} (h : CIN c a b) : 2 ≤ a ∧ a ≤ 8 ∧ 0 ≤ b ∧ b < 4096 := by
  rcases h with h | ⟨q, m, S, h1, h2, h3, h4, h5, h6, h7⟩
  · omega
  · have := h7.1
    omega
theorem isS_un {q : Nat → Int} {m S T : Nat} (h : isS q m S) (k : isS q m T) : S = T := by
  apply Nat.eq_of_testBit_eq
  intro i
  by_cases e : i < 12
  · have a := h.2 i (by omega) (by omega)
    have b := k.2 i (by omega) (by omega)
    rw [Int.toNat_natCast] at a b
    have ab := a.trans b.symm
    cases hs : S.testBit i <;> cases ht : T.testBit i <;> rw [hs, ht] at ab <;> simp at ab <;> rfl
  · have p : 4096 ≤ 2 ^ i := Nat.le_trans (show 4096 ≤ 2 ^ 12 by decide) (Nat.pow_le_pow_right (by omega) (by omega))
    rw [Nat.testBit_lt_two_pow (Nat.lt_of_lt_of_le h.1 p), Nat.testBit_lt_two_pow (Nat.lt_of_lt_of_le k.1 p)]
theorem isS_cg {q r : Nat → Int} {m S : Nat} (he : ∀ i, i < m → r i = q i) (h : isS q m S) : isS r m S := by
  refine ⟨h.1, ?_⟩
  intro g g0 g1
  rw [h.2 g g0 g1]
  constructor
  · intro ⟨i, i1, i2⟩
    exact ⟨i, i1, by rw [he i i1]; exact i2⟩
  · intro ⟨i, i1, i2⟩
    exact ⟨i, i1, by rw [← he i i1]; exact i2⟩
def qx (q : Nat → Int) (m : Nat) (g : Int) : Nat → Int := fun i => if i = m then g else q i
theorem qx_m (q : Nat → Int) (m : Nat) (g : Int) : qx q m g m = g := by unfold qx; rw [if_pos rfl]
theorem qx_lt (q : Nat → Int) {m i : Nat} (g : Int) (h : i < m) : qx q m g i = q i := by unfold qx; rw [if_neg (by omega)]
theorem isS_ext {q : Nat → Int} {m S : Nat} {g : Int} (h : isS q m S) (g0 : 0 ≤ g) (g1 : g < 12) : isS (qx q m g) (m + 1) (S ||| 2 ^ g.toNat) := by
  refine ⟨?_, ?_⟩
  · have : 2 ^ g.toNat < 2 ^ 12 := Nat.pow_lt_pow_right (by omega) (by omega)
    exact Nat.or_lt_two_pow (n := 12) h.1 this
  · intro z z0 z1
    rw [tb_or g0 z0, h.2 z z0 z1]
    constructor
    · rintro (⟨i, i1, i2⟩ | e)
      · exact ⟨i, by omega, by rw [qx_lt _ _ i1]; exact i2⟩
      · exact ⟨m, by omega, by rw [qx_m, e]⟩
    · intro ⟨i, i1, i2⟩
      by_cases e : i = m
      · rw [e, qx_m] at i2
        exact Or.inr i2.symm
      · rw [qx_lt _ _ (by omega)] at i2
        exact Or.inl ⟨i, by omega, i2⟩
theorem PT_ext {c : Fn} {q : Nat → Int} {m : Nat} {g : Int} (h : PT c q m) (hm : 1 ≤ m) (g0 : 0 ≤ g) (g1 : g < c 25) (go : c (99 + g) = 0) (gf : c (27 + g) = c (39 + q (m - 1))) (gq : q 0 < g) (gi : ∀ i, i < m → ¬ c (27 + q i) = c (27 + g)) : PT c (qx q m g) (m + 1) := by
  obtain ⟨h1, h2, h3, h4⟩ := h
  refine ⟨?_, ?_, ?_, ?_⟩
  · intro i hi
    by_cases e : i = m
    · rw [e, qx_m]
      exact ⟨g0, g1, go⟩
    · rw [qx_lt _ _ (by omega)]
      exact h1 i (by omega)
  · intro i hi
    by_cases e : i + 1 = m
    · rw [e, qx_m, qx_lt _ _ (by omega), gf]
      have : m - 1 = i := by omega
      rw [this]
    · rw [qx_lt _ _ (by omega), qx_lt _ _ (by omega)]
      exact h2 i (by omega)
  · intro i i0 i1
    rw [qx_lt (i := 0) _ _ (by omega)]
    by_cases e : i = m
    · rw [e, qx_m]
      exact gq
    · rw [qx_lt _ _ (by omega)]
      exact h3 i i0 (by omega)
  · intro i j i1 j1 e
    by_cases ei : i = m
    · by_cases ej : j = m
      · omega
      · rw [ei, qx_m, qx_lt _ _ (by omega)] at e
        exact absurd e.symm (gi j (by omega))
    · by_cases ej : j = m
      · rw [ej, qx_m, qx_lt _ _ (by omega)] at e
        exact absurd e (gi i (by omega))
      · rw [qx_lt _ _ (by omega), qx_lt _ _ (by omega)] at e
        exact h4 i j (by omega) (by omega) e
theorem rk_seek {a0 a1 a2 a3 a4 a5 : Value} : ∀ m : Nat, m ≤ 8 → m_rank k_Duties_seekRing [a0, a1, a2, a3, a4, a5, .int (jI (m : Int))] = 13 - m := by
  intro m hm
  have e : (jI (m : Int)).toNatClampNeg = m := by
    have : ∀ k : Fin 9, (jI (k.val : Int)).toNatClampNeg = k.val := by decide +kernel
    exact this ⟨m, by omega⟩
  have e2 : m_rb.getD k_Duties_seekRing (0, 0, 0) = (3, 2, 0) := by rfl
  unfold m_rank
  rw [e2]
  have e3 : m_ai [a0, a1, a2, a3, a4, a5, .int (jI (m : Int))] 6 = m := e
  rw [e3, if_neg (by decide), if_neg (by decide)]
  show 3 + (10 - m) = 13 - m
  omega
section
variable (x : m_X) (F G : Nat → Fn)
def ag41 (F F1 : Nat → Fn) : Prop := ∀ b, ¬ b = 141 → F1 b = F b
theorem ag41_tr {F F1 F2 : Nat → Fn} (h1 : ag41 F F1) (h2 : ag41 F1 F2) : ag41 F F2 := fun b h => (h2 b h).trans (h1 b h)
def le41 (F1 F2 : Nat → Fn) : Prop := F2 141 1 < F1 141 1 ∨ (F2 141 1 = F1 141 1 ∧ F2 141 2 ≤ F1 141 2)
theorem le41_tr {F F1 F2 : Nat → Fn} (h1 : le41 F F1) (h2 : le41 F1 F2) : le41 F F2 := by unfold le41 at *; omega
theorem le41_l {F1 F2 : Nat → Fn} {m S : Nat} (h1 : le41 F1 F2) (h2 : lxl (F1 141 1) (F1 141 2) m S) : lxl (F2 141 1) (F2 141 2) m S := by unfold le41 lxl at *; omega
theorem C_noteRing {c : Fn} {q : Nat → Int} {m S : Nat} (h : RGp c q m S) (hm : m ≤ 7) (hC : CIN c (F 141 1) (F 141 2)) : ∃ F2, m_M x k_Duties_noteRing [.ref 141, .int (jI (S : Int)), .int (jI (m : Int))] (mk F G) = some (none, mk F2 G) ∧ ag41 F F2 ∧ CIN c (F2 141 1) (F2 141 2) ∧ le41 F F2 ∧ lxl (F2 141 1) (F2 141 2) m S := by
  have r := CIN_r hC
  have hS := h.2.2.2.1
  have wr : ∃ F2, ((m_pf (mk F G) 0 1 141 (.int (jI (m : Int)))).bind fun s26 => (m_pf s26 0 2 141 (.int (jI (S : Int)))).bind fun s31 => (some (none, s31) : Option m_R)) = some (none, mk F2 G) ∧ ag41 F F2 ∧ F2 141 1 = m ∧ F2 141 2 = S := by
    rw [pf_141_1, Option.bind_some, pf_141_2, Option.bind_some]
    refine ⟨_, rfl, ?_, ?_, ?_⟩
    · intro b hb
      rw [sA_ne _ _ hb, sA_ne _ _ hb]
    · rw [sA_eq, u_ne _ _ (by omega), sA_eq, u_eq]
    · rw [sA_eq, u_eq]
  obtain ⟨F2, w1, w2, w3, w4⟩ := wr
  have hC2 : CIN c (F2 141 1) (F2 141 2) := Or.inr ⟨q, m, S, w3, w4, hm, h⟩
  rw [E_Duties_noteRing, isO_141, if_pos rfl, fI_141_1, Option.bind_some, Option.bind_some]
  by_cases q1 : (m : Int) < F 141 1
  · rw [if_pos (by rw [jI_lt (by omega) (by omega) (by omega) (by omega)]; omega), w1]
    refine ⟨F2, rfl, w2, hC2, ?_, ?_⟩
    · unfold le41; omega
    · unfold lxl; omega
  · rw [if_neg (by rw [jI_lt (by omega) (by omega) (by omega) (by omega)]; omega)]
    by_cases q2 : (m : Int) = F 141 1
    · rw [if_pos (by rw [jI_eq (by omega) (by omega) (by omega) (by omega)]; omega), fI_141_2, Option.bind_some]
      by_cases q3 : F 141 2 ≤ (S : Int)
      · rw [if_pos (by rw [jI_le (by omega) (by omega) (by omega) (by omega)]; omega)]
        refine ⟨F, rfl, fun _ _ => rfl, hC, ?_, ?_⟩
        · unfold le41; omega
        · unfold lxl; omega
      · rw [if_neg (by rw [jI_le (by omega) (by omega) (by omega) (by omega)]; omega), w1]
        refine ⟨F2, rfl, w2, hC2, ?_, ?_⟩
        · unfold le41; omega
        · unfold lxl; omega
    · rw [if_neg (by rw [jI_eq (by omega) (by omega) (by omega) (by omega)]; omega)]
      refine ⟨F, rfl, fun _ _ => rfl, hC, ?_, ?_⟩
      · unfold le41; omega
      · unfold lxl; omega
/-- what a call with the first m gloves of q does -/
def SEEK (x : m_X) (F G : Nat → Fn) (m : Nat) : Prop := ∀ (F1 : Nat → Fn) (q : Nat → Int) (P S : Nat), PT (F 2) q m → P < 128 → (∀ p, 0 ≤ p → p < 7 → (P.testBit p.toNat = true ↔ ∃ i, i < m ∧ F 2 (27 + q i) = p)) → isS q m S → (∀ i, i < m → ¬ F 2 (27 + q i) = F 2 (39 + q (m - 1))) → ag41 F F1 → CIN (F 2) (F1 141 1) (F1 141 2) → ∃ F2, m_M x k_Duties_seekRing [.ref 141, .ref 1, .int (jI (q 0)), .int (jI (F 2 (39 + q (m - 1)))), .int (jI (P : Int)), .int (jI (S : Int)), .int (jI (m : Int))] (mk F1 G) = some (none, mk F2 G) ∧ ag41 F F2 ∧ CIN (F 2) (F2 141 1) (F2 141 2) ∧ le41 F1 F2 ∧ ∀ (q' : Nat → Int) (m' S' : Nat), RGp (F 2) q' m' S' → m' ≤ 7 → m < m' → (∀ i, i < m → q' i = q i) → lxl (F2 141 1) (F2 141 2) m' S'
theorem C_seek31 {m : Nat} (hi : WI (F 2)) (hm : 1 ≤ m) (hm7 : m < 7) (hS : SEEK x F G (m + 1)) {q : Nat → Int} {P S : Nat} (hP : PT (F 2) q m) (hP1 : P < 128) (hP2 : ∀ p, 0 ≤ p → p < 7 → (P.testBit p.toNat = true ↔ ∃ i, i < m ∧ F 2 (27 + q i) = p)) (hq : isS q m S) (hn : ∀ i, i < m → ¬ F 2 (27 + q i) = F 2 (39 + q (m - 1))) : ∀ g, q 0 + 1 ≤ g → g ≤ F 2 25 → ∀ (F1 : Nat → Fn) d9 d10, m_nl d9 = true → m_nl d10 = true → ag41 F F1 → CIN (F 2) (F1 141 1) (F1 141 2) → ∃ F2, m_D x (13 - m) k_Duties_seekRing 31 [some (.ref 141), some (.ref 1), some (.int (jI (q 0))), some (.int (jI (F 2 (39 + q (m - 1))))), some (.int (jI (P : Int))), some (.int (jI (S : Int))), some (.int (jI (m : Int))), some (.int (jI (F 2 (27 + q 0)))), some (.int (jI g)), d9, d10] [] (mk F1 G) = some (none, mk F2 G) ∧ ag41 F F2 ∧ CIN (F 2) (F2 141 1) (F2 141 2) ∧ le41 F1 F2 ∧ ∀ (q' : Nat → Int) (m' S' : Nat), RGp (F 2) q' m' S' → m' ≤ 7 → m < m' → (∀ i, i < m → q' i = q i) → g ≤ q' m → lxl (F2 141 1) (F2 141 2) m' S' := by
  have hc := WI_c hi
  have fw : ∀ F1 : Nat → Fn, m_fR (mk F1 G) 9 0 1 = some 2 := fun F1 => fR_W_0 F1 G (w := 1) (Or.inl rfl)
  have a25 : ∀ F1 : Nat → Fn, ag41 F F1 → m_ia x (mk F1 G) 2 (jI 25) = some (jI (F 2 25)) := by
    intro F1 h
    rw [ia_2 x F1 G (by omega) (by omega), h 2 (by omega)]
  have h0 := hP.1 0 (by omega)
  have hl := hP.1 (m - 1) (by omega)
  have g0' := WI_g hi h0.1 (by omega)
  have gl := WI_g hi hl.1 (by omega)
  apply down
  · intro F1 d9 d10 n9 n10 ha hC
    refine ⟨F1, ?_, ha, hC, by unfold le41; omega, ?_⟩
    · rw [E_Duties_seekRing_31 x (13 - m) (by omega) _ _ _ _ _ _ _ _ _ _ _ _ n9 n10, fw, Option.bind_some, show (25 : Int32) = jI 25 from by decide, a25 F1 ha, Option.bind_some, if_pos (Int32.le_refl _)]
    · intro q' m' S' hr hm' hmm he hg
      have := hr.1.1 m hmm
      omega
  · intro g gq g1 ih F1 d9 d10 n9 n10 ha hC
    have g0 : 0 ≤ g := by omega
    have e2 := ha 2 (by omega)
    have gg := WI_g hi g0 (by omega)
    have gh := WI_h hi g0 g1
    have en : g = ((g.toNat : Nat) : Int) := by omega
    have esh : jI (S : Int) ||| (jI 1 <<< (jI g &&& jI 31)) = jI ((S ||| 2 ^ g.toNat : Nat) : Int) := by
      rw [en, nshl (by omega), nor, Int.toNat_natCast]
    have at1 := C_at x F1 G (w := 1) (p := 27) (i := g) (Or.inl rfl) (by omega) (by omega)
    have at2 := C_at x F1 G (w := 1) (p := 39) (i := g) (Or.inl rfl) (by omega) (by omega)
    have ih1 := C_isHow x F1 G (w := 1) (g := g) (h := 0) (Or.inl rfl) (by simp only [Nat.reduceAdd]; rw [e2]; exact hi) (by unfold rg; omega) (by unfold rg; omega)
    simp only [Nat.reduceAdd] at at1 at2 ih1
    rw [e2] at at1 at2 ih1
    -- nothing can go on through g
    have skip : ∀ (d9' d10' : Option Value), m_nl d9' = true → m_nl d10' = true → (∀ (q' : Nat → Int) (m' S' : Nat), RGp (F 2) q' m' S' → m' ≤ 7 → m < m' → (∀ i, i < m → q' i = q i) → ¬ q' m = g) → ∃ F2, m_D x (13 - m) k_Duties_seekRing 31 [some (.ref 141), some (.ref 1), some (.int (jI (q 0))), some (.int (jI (F 2 (39 + q (m - 1))))), some (.int (jI (P : Int))), some (.int (jI (S : Int))), some (.int (jI (m : Int))), some (.int (jI (F 2 (27 + q 0)))), some (.int (jI (g + 1))), d9', d10'] [] (mk F1 G) = some (none, mk F2 G) ∧ ag41 F F2 ∧ CIN (F 2) (F2 141 1) (F2 141 2) ∧ le41 F1 F2 ∧ ∀ (q' : Nat → Int) (m' S' : Nat), RGp (F 2) q' m' S' → m' ≤ 7 → m < m' → (∀ i, i < m → q' i = q i) → g ≤ q' m → lxl (F2 141 1) (F2 141 2) m' S' := by
      intro d9' d10' n9' n10' hno
      obtain ⟨F2, y1, y2, y3, y4, y5⟩ := ih F1 d9' d10' n9' n10' ha hC
      refine ⟨F2, y1, y2, y3, y4, ?_⟩
      intro q' m' S' hr hm' hmm he hg
      have := hno q' m' S' hr hm' hmm he
      exact y5 q' m' S' hr hm' hmm he (by omega)
    -- after something came of g
    have on : ∀ (F3 : Nat → Fn) (d9' d10' : Option Value), m_nl d9' = true → m_nl d10' = true → ag41 F F3 → CIN (F 2) (F3 141 1) (F3 141 2) → le41 F1 F3 → (∀ (q' : Nat → Int) (m' S' : Nat), RGp (F 2) q' m' S' → m' ≤ 7 → m < m' → (∀ i, i < m → q' i = q i) → q' m = g → lxl (F3 141 1) (F3 141 2) m' S') → ∃ F2, m_D x (13 - m) k_Duties_seekRing 31 [some (.ref 141), some (.ref 1), some (.int (jI (q 0))), some (.int (jI (F 2 (39 + q (m - 1))))), some (.int (jI (P : Int))), some (.int (jI (S : Int))), some (.int (jI (m : Int))), some (.int (jI (F 2 (27 + q 0)))), some (.int (jI (g + 1))), d9', d10'] [] (mk F3 G) = some (none, mk F2 G) ∧ ag41 F F2 ∧ CIN (F 2) (F2 141 1) (F2 141 2) ∧ le41 F1 F2 ∧ ∀ (q' : Nat → Int) (m' S' : Nat), RGp (F 2) q' m' S' → m' ≤ 7 → m < m' → (∀ i, i < m → q' i = q i) → g ≤ q' m → lxl (F2 141 1) (F2 141 2) m' S' := by
      intro F3 d9' d10' n9' n10' ha3 hC3 hl3 hcov
      obtain ⟨F2, y1, y2, y3, y4, y5⟩ := ih F3 d9' d10' n9' n10' ha3 hC3
      refine ⟨F2, y1, y2, y3, le41_tr hl3 y4, ?_⟩
      intro q' m' S' hr hm' hmm he hg
      by_cases eq : q' m = g
      · exact le41_l y4 (hcov q' m' S' hr hm' hmm he eq)
      · exact y5 q' m' S' hr hm' hmm he (by omega)
    -- a path that goes on with g has g's giver where q ended, and g is owed
    have need : ∀ (q' : Nat → Int) (m' S' : Nat), RGp (F 2) q' m' S' → m < m' → (∀ i, i < m → q' i = q i) → q' m = g → F 2 (99 + g) = 0 ∧ F 2 (27 + g) = F 2 (39 + q (m - 1)) := by
      intro q' m' S' hr hmm he eg
      have a := hr.1.1 m hmm
      have b := hr.1.2.1 (m - 1) (by omega)
      have e1 : m - 1 + 1 = m := by omega
      rw [e1, eg, he (m - 1) (by omega)] at b
      rw [eg] at a
      exact ⟨a.2.2, b⟩
    have i70 : ∀ b : Int, (b = 0 ∨ b = 1) → (b = 1 ↔ (F 2 (99 + g) = 0 ∧ F 2 (27 + g) = F 2 (39 + q (m - 1)))) → ∃ F2, m_D x (13 - m) k_Duties_seekRing 70 [some (.ref 141), some (.ref 1), some (.int (jI (q 0))), some (.int (jI (F 2 (39 + q (m - 1))))), some (.int (jI (P : Int))), some (.int (jI (S : Int))), some (.int (jI (m : Int))), some (.int (jI (F 2 (27 + q 0)))), some (.int (jI g)), d9, d10] [.int (jI b)] (mk F1 G) = some (none, mk F2 G) ∧ ag41 F F2 ∧ CIN (F 2) (F2 141 1) (F2 141 2) ∧ le41 F1 F2 ∧ ∀ (q' : Nat → Int) (m' S' : Nat), RGp (F 2) q' m' S' → m' ≤ 7 → m < m' → (∀ i, i < m → q' i = q i) → g ≤ q' m → lxl (F2 141 1) (F2 141 2) m' S' := by
      intro b hb hbb
      rw [E_Duties_seekRing_70 x (13 - m) (by omega) _ _ _ _ _ _ _ _ _ _ _ _ _ n9 n10, show (39 : Int32) = jI 39 from by decide, at2, b_I]
      rcases hb with hb | hb
      · rw [hb, if_pos (show jI 0 = 0 by decide), E_Duties_seekRing_112 x (13 - m) (by omega), if_pos (show jI 0 = 0 by decide), lit_1, jI_add]
        refine skip _ _ rfl rfl ?_
        intro q' m' S' hr hm' hmm he eg
        have := hbb.2 (need q' m' S' hr hmm he eg)
        omega
      · obtain ⟨o1, o2⟩ := hbb.1 hb
        have hx : PT (F 2) (qx q m g) (m + 1) := PT_ext hP hm g0 g1 o1 o2 (by omega) (fun i hi' => by rw [o2]; exact hn i hi')
        have hsx := isS_ext hq g0 (show g < 12 by omega)
        have em : m + 1 - 1 = m := by omega
        have em2 : ((m + 1 : Nat) : Int) = (m : Int) + 1 := by omega
        rw [hb, if_neg (show ¬ jI 1 = 0 by decide)]
        by_cases r1 : F 2 (39 + g) = F 2 (27 + q 0)
        · have hrg : RGp (F 2) (qx q m g) (m + 1) (S ||| 2 ^ g.toNat) := by
            refine ⟨hx, by omega, ?_, hsx⟩
            rw [em, qx_m, qx_lt _ _ (by omega)]
            exact r1
          obtain ⟨F3, y1, y2, y3, y4, y5⟩ := C_noteRing x F1 G hrg (by omega) hC
          rw [em2] at y1
          rw [if_pos (by rw [r1]), lit_1, lit_31, esh, jI_add, y1, b_V, jI_add]
          refine on F3 _ _ rfl rfl (ag41_tr ha y2) y3 y4 ?_
          intro q' m' S' hr hm' hmm he eg
          have e3 : m' = m + 1 := by
            by_cases e : m' = m + 1
            · exact e
            · exfalso
              have a := hr.1.2.1 m (by omega)
              rw [eg, r1, ← he 0 (by omega)] at a
              have := hr.1.2.2.2 (m + 1) 0 (by omega) (by omega) a
              omega
          have e4 : isS (qx q m g) (m + 1) S' := by
            rw [← e3]
            refine isS_cg ?_ hr.2.2.2
            intro i hi'
            by_cases e : i = m
            · rw [e, qx_m, eg]
            · rw [qx_lt _ _ (by omega), he i (by omega)]
          rw [isS_un e4 hsx, e3]
          exact y5
        · rw [if_neg (by rw [jI_eq (by omega) (by omega) (by omega) (by omega)]; omega), E_Duties_seekRing_112 x (13 - m) (by omega), if_neg (show ¬ jI 1 = 0 by decide), lit_31, lit_1, lit_0]
          simp only [has_0 (a := jI (P : Int)) (n := F 2 (39 + g)) (by omega) (by omega), bt_nat P (p := F 2 (39 + g)) (by omega) (by omega)]
          have hb2 := hP2 (F 2 (39 + g)) (by omega) (by omega)
          by_cases r2 : P.testBit (F 2 (39 + g)).toNat = true
          · rw [if_neg (by rw [r2]; decide), jI_add]
            refine skip _ _ rfl rfl ?_
            intro q' m' S' hr hm' hmm he eg
            obtain ⟨i, i1, i2⟩ := hb2.1 r2
            by_cases e : m' = m + 1
            · have a := hr.2.2.1
              rw [e, em, eg, he 0 (by omega)] at a
              exact r1 a
            · have a := hr.1.2.1 m (by omega)
              rw [eg, ← i2, ← he i i1] at a
              have := hr.1.2.2.2 (m + 1) i (by omega) (by omega) a
              omega
          · have el : F 2 (39 + q (m - 1)) = (((F 2 (39 + q (m - 1))).toNat : Nat) : Int) := by omega
            have eshp : jI (P : Int) ||| (jI 1 <<< (jI (F 2 (39 + q (m - 1))) &&& jI 31)) = jI ((P ||| 2 ^ (F 2 (39 + q (m - 1))).toNat : Nat) : Int) := by
              rw [el, nshl (by omega), nor, Int.toNat_natCast]
            have hP1' : P ||| 2 ^ (F 2 (39 + q (m - 1))).toNat < 2 ^ 7 := Nat.or_lt_two_pow hP1 (Nat.pow_lt_pow_right (by omega) (by omega))
            have sk := hS F1 (qx q m g) (P ||| 2 ^ (F 2 (39 + q (m - 1))).toNat) (S ||| 2 ^ g.toNat) hx hP1' (by
              intro p p0 p1
              rw [tb_or (by omega) p0, hP2 p p0 p1]
              constructor
              · rintro (⟨i, i1, i2⟩ | e)
                · exact ⟨i, by omega, by rw [qx_lt _ _ i1]; exact i2⟩
                · exact ⟨m, by omega, by rw [qx_m, o2, e]⟩
              · intro ⟨i, i1, i2⟩
                by_cases e : i = m
                · rw [e, qx_m, o2] at i2
                  exact Or.inr i2.symm
                · rw [qx_lt _ _ (by omega)] at i2
                  exact Or.inl ⟨i, by omega, i2⟩) hsx (by
              intro i i1
              rw [em, qx_m]
              by_cases e : i = m
              · rw [e, qx_m]
                exact gh.2.2
              · rw [qx_lt _ _ (by omega)]
                intro z
                exact r2 (hb2.2 ⟨i, by omega, z⟩)) ha hC
            obtain ⟨F3, y1, y2, y3, y4, y5⟩ := sk
            rw [em, qx_m, qx_lt (i := 0) _ _ (by omega), em2] at y1
            have rk := rk_seek (a0 := .ref 141) (a1 := .ref 1) (a2 := .int (jI (q 0))) (a3 := .int (jI (F 2 (39 + g)))) (a4 := .int (jI ((P ||| 2 ^ (F 2 (39 + q (m - 1))).toNat : Nat) : Int))) (a5 := .int (jI ((S ||| 2 ^ g.toNat : Nat) : Int))) (m + 1) (by omega)
            rw [em2] at rk
            rw [if_pos (by simpa using r2), eshp, esh, jI_add, rk, if_pos (by omega), y1, b_V, jI_add]
            refine on F3 _ _ rfl rfl y2 y3 y4 ?_
            intro q' m' S' hr hm' hmm he eg
            by_cases e : m' = m + 1
            · exfalso
              have a := hr.2.2.1
              rw [e, em, eg, he 0 (by omega)] at a
              exact r1 a
            · refine y5 q' m' S' hr hm' (by omega) ?_
              intro i i1
              by_cases e2 : i = m
              · rw [e2, qx_m, eg]
              · rw [qx_lt _ _ (by omega)]
                exact he i (by omega)
    rw [E_Duties_seekRing_31 x (13 - m) (by omega) _ _ _ _ _ _ _ _ _ _ _ _ n9 n10, fw, Option.bind_some, show (25 : Int32) = jI 25 from by decide, a25 F1 ha, Option.bind_some, if_neg (by rw [jI_le (by omega) (by omega) (by omega) (by omega)]; omega), show (0 : Int32) = jI 0 from rfl, ih1, b_I]
    by_cases o1 : 0 ≤ g ∧ g < F 2 25 ∧ F 2 (99 + g) = 0
    · rw [if_pos o1, if_neg (by decide), show (27 : Int32) = jI 27 from by decide, at1, b_I]
      by_cases o2 : F 2 (27 + g) = F 2 (39 + q (m - 1))
      · rw [if_pos (by rw [o2])]
        exact i70 1 (Or.inr rfl) ⟨fun _ => ⟨o1.2.2, o2⟩, fun _ => rfl⟩
      · rw [if_neg (by rw [jI_eq (by omega) (by omega) (by omega) (by omega)]; omega)]
        exact i70 0 (Or.inl rfl) ⟨fun h => by omega, fun h => absurd h.2 o2⟩
    · rw [if_neg o1, if_pos (by decide)]
      exact i70 0 (Or.inl rfl) ⟨fun h => by omega, fun h => absurd ⟨g0, g1, h.1⟩ o1⟩
theorem C_seek (hi : WI (F 2)) : ∀ r m : Nat, m + r = 7 → 1 ≤ m → SEEK x F G m := by
  have hc := WI_c hi
  intro r
  induction r with
  | zero =>
    intro m hm h1 F1 q P S hP hP1 hP2 hq hn ha hC
    have em : m = 7 := by omega
    refine ⟨F1, ?_, ha, hC, by unfold le41; omega, fun q' m' S' hr hm' hmm he => by omega⟩
    rw [E_Duties_seekRing, isO_141, if_pos rfl, em, if_pos (by decide)]
  | succ r ih =>
    intro m hm h1 F1 q P S hP hP1 hP2 hq hn ha hC
    have rr := CIN_r hC
    have h0 := hP.1 0 (by omega)
    have e2 := ha 2 (by omega)
    have at1 := C_at x F1 G (w := 1) (p := 27) (i := q 0) (Or.inl rfl) (by omega) (by omega)
    simp only [Nat.reduceAdd] at at1
    rw [e2] at at1
    rw [E_Duties_seekRing, isO_141, if_pos rfl, lit_7, if_neg (by rw [jI_le (by omega) (by omega) (by omega) (by omega)]; omega), fI_141_1, Option.bind_some]
    by_cases q1 : (m : Int) < F1 141 1
    · rw [if_pos (by rw [jI_lt (by omega) (by omega) (by omega) (by omega)]; omega), show (27 : Int32) = jI 27 from by decide, at1, b_I, rk_seek m (by omega), lit_1, jI_add]
      obtain ⟨F2, y1, y2, y3, y4, y5⟩ := C_seek31 x F G hi h1 (by omega) (ih (m + 1) (by omega) (by omega)) hP hP1 hP2 hq hn (q 0 + 1) (Int.le_refl _) (by omega) F1 none none rfl rfl ha hC
      refine ⟨F2, y1, y2, y3, y4, ?_⟩
      intro q' m' S' hr hm' hmm he
      have := hr.1.2.2.1 m (by omega) hmm
      rw [he 0 (by omega)] at this
      exact y5 q' m' S' hr hm' hmm he (by omega)
    · rw [if_neg (by rw [jI_lt (by omega) (by omega) (by omega) (by omega)]; omega)]
      refine ⟨F1, rfl, ha, hC, by unfold le41; omega, ?_⟩
      intro q' m' S' hr hm' hmm he
      unfold lxl
      omega
theorem C_ring (hi : WI (F 2)) : ∃ (F2 : Nat → Fn), m_M x k_G_ring [.ref 0] (mk F G) = some (some (.int (jI (F2 141 2))), mk F2 G) ∧ ag41 F F2 ∧ CIN (F 2) (F2 141 1) (F2 141 2) ∧ ∀ (q' : Nat → Int) (m' S' : Nat), RGp (F 2) q' m' S' → m' ≤ 7 → lxl (F2 141 1) (F2 141 2) m' S' := by
  have hc := WI_c hi
  have fw : ∀ F1 : Nat → Fn, m_fR (mk F1 G) 9 0 1 = some 2 := fun F1 => fR_W_0 F1 G (w := 1) (Or.inl rfl)
  have a25 : ∀ F1 : Nat → Fn, ag41 F F1 → m_ia x (mk F1 G) 2 (jI 25) = some (jI (F 2 25)) := by
    intro F1 h
    rw [ia_2 x F1 G (by omega) (by omega), h 2 (by omega)]
  have key : ∀ g, 0 ≤ g → g ≤ F 2 25 → ∀ (F1 : Nat → Fn) d3, m_nl d3 = true → ag41 F F1 → CIN (F 2) (F1 141 1) (F1 141 2) → ∃ F2, m_D x 14 k_Duties_shortestRing 13 [some (.ref 141), some (.ref 1), some (.int (jI g)), d3] [] (mk F1 G) = some (some (.int (jI (F2 141 2))), mk F2 G) ∧ ag41 F F2 ∧ CIN (F 2) (F2 141 1) (F2 141 2) ∧ le41 F1 F2 ∧ ∀ (q' : Nat → Int) (m' S' : Nat), RGp (F 2) q' m' S' → m' ≤ 7 → g ≤ q' 0 → lxl (F2 141 1) (F2 141 2) m' S' := by
    apply down
    · intro F1 d3 n3 ha hC
      refine ⟨F1, ?_, ha, hC, by unfold le41; omega, ?_⟩
      · rw [E_Duties_shortestRing_13 x 14 (by omega) _ _ _ _ _ n3, fw, Option.bind_some, show (25 : Int32) = jI 25 from by decide, a25 F1 ha, Option.bind_some, if_pos (Int32.le_refl _), fI_141_2, Option.bind_some]
      · intro q' m' S' hr hm' hg
        have := hr.1.1 0 (by have := hr.2.1; omega)
        omega
    · intro g g0 g1 ih F1 d3 n3 ha hC
      have e2 := ha 2 (by omega)
      have gg := WI_g hi g0 (by omega)
      have gh := WI_h hi g0 g1
      have at1 := C_at x F1 G (w := 1) (p := 27) (i := g) (Or.inl rfl) (by omega) (by omega)
      have at2 := C_at x F1 G (w := 1) (p := 39) (i := g) (Or.inl rfl) (by omega) (by omega)
      have ih1 := C_isHow x F1 G (w := 1) (g := g) (h := 0) (Or.inl rfl) (by simp only [Nat.reduceAdd]; rw [e2]; exact hi) (by unfold rg; omega) (by unfold rg; omega)
      simp only [Nat.reduceAdd] at at1 at2 ih1
      rw [e2] at at1 at2 ih1
      rw [E_Duties_shortestRing_13 x 14 (by omega) _ _ _ _ _ n3, fw, Option.bind_some, show (25 : Int32) = jI 25 from by decide, a25 F1 ha, Option.bind_some, if_neg (by rw [jI_le (by omega) (by omega) (by omega) (by omega)]; omega), show (0 : Int32) = jI 0 from rfl, ih1, b_I]
      by_cases o1 : 0 ≤ g ∧ g < F 2 25 ∧ F 2 (99 + g) = 0
      · have en : g = ((g.toNat : Nat) : Int) := by omega
        have esh : jI 1 <<< (jI g &&& jI 31) = jI ((2 ^ g.toNat : Nat) : Int) := by
          rw [en, nshl (by omega), Int.toNat_natCast]
        have ef : F 2 (27 + g) = (((F 2 (27 + g)).toNat : Nat) : Int) := by omega
        have eshf : jI 1 <<< (jI (F 2 (27 + g)) &&& jI 31) = jI ((2 ^ (F 2 (27 + g)).toNat : Nat) : Int) := by
          rw [ef, nshl (by omega), Int.toNat_natCast]
        have hS : isS (fun _ => g) 1 (2 ^ g.toNat) := by
          refine ⟨Nat.pow_lt_pow_right (n := 12) (by omega) (by omega), ?_⟩
          intro z z0 z1
          have := tb_or (s := 0) g0 z0
          rw [Nat.zero_or] at this
          rw [this]
          simp
          exact ⟨fun e => e.symm, fun e => e.symm⟩
        obtain ⟨F3, y1, y2, y3, y4, y5⟩ := C_seek x F G hi 6 1 (by omega) (by omega) F1 (fun _ => g) (2 ^ (F 2 (27 + g)).toNat) (2 ^ g.toNat) (by
          refine ⟨fun _ _ => o1, fun i h => by omega, fun i h h' => by omega, fun i j h h' _ => by omega⟩) (Nat.pow_lt_pow_right (n := 7) (by omega) (by omega)) (by
          intro p p0 p1
          have := tb_or (s := 0) (i := F 2 (27 + g)) (by omega) p0
          rw [Nat.zero_or] at this
          rw [this]
          simp
          exact ⟨fun e => e.symm, fun e => e.symm⟩) hS (by
          intro i _
          exact gh.2.2) ha hC
        replace y1 : m_M x k_Duties_seekRing [.ref 141, .ref 1, .int (jI g), .int (jI (F 2 (39 + g))), .int (jI ((2 ^ (F 2 (27 + g)).toNat : Nat) : Int)), .int (jI ((2 ^ g.toNat : Nat) : Int)), .int (jI 1)] (mk F1 G) = some (none, mk F3 G) := y1
        rw [if_pos o1, if_neg (by decide), show (27 : Int32) = jI 27 from by decide, at1, b_I, show (39 : Int32) = jI 39 from by decide, at2, b_I, lit_31, show (1 : Int32) = jI 1 from rfl, esh, eshf, y1, b_V, jI_add]
        obtain ⟨F2, z1, z2, z3, z4, z5⟩ := ih F3 (some (.int (jI (F 2 (27 + g))))) rfl y2 y3
        refine ⟨F2, z1, z2, z3, le41_tr y4 z4, ?_⟩
        intro q' m' S' hr hm' hg
        by_cases e : q' 0 = g
        · refine le41_l z4 (y5 q' m' S' hr hm' (by have := hr.2.1; omega) ?_)
          intro i i1
          have : i = 0 := by omega
          rw [this, e]
        · exact z5 q' m' S' hr hm' (by omega)
      · rw [if_neg o1, if_pos (by decide), show (1 : Int32) = jI 1 from rfl, jI_add]
        obtain ⟨F2, z1, z2, z3, z4, z5⟩ := ih F1 d3 n3 ha hC
        refine ⟨F2, z1, z2, z3, z4, ?_⟩
        intro q' m' S' hr hm' hg
        by_cases e : q' 0 = g
        · exfalso
          have := hr.1.1 0 (by have := hr.2.1; omega)
          rw [e] at this
          exact o1 this
        · exact z5 q' m' S' hr hm' (by omega)
  rw [E_G_ring, isO_0, if_pos rfl, fR_0_11, Option.bind_some, fR_0_0, Option.bind_some, E_Duties_shortestRing, isO_141, if_pos rfl, lit_8, pf_141_1, Option.bind_some, lit_0, pf_141_2, Option.bind_some]
  have ha0 : ag41 F (sA (sA F 141 (u (F 141) 1 8)) 141 (u (sA F 141 (u (F 141) 1 8) 141) 2 0)) := by
    intro b hb
    rw [sA_ne _ _ hb, sA_ne _ _ hb]
  obtain ⟨F2, z1, z2, z3, z4, z5⟩ := key 0 (by omega) (by omega) _ none rfl ha0 (Or.inl ⟨by rw [sA_eq, u_ne _ _ (by omega), sA_eq, u_eq], by rw [sA_eq, u_eq]⟩)
  refine ⟨F2, ?_, z2, z3, ?_⟩
  · rw [z1, b_I]
  · intro q' m' S' hr hm'
    exact z5 q' m' S' hr hm' (hr.1.1 0 (by have := hr.2.1; omega)).1
end
