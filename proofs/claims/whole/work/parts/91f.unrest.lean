-- unrest
def tkS (μ : Fn) (m N p q : Int) : Option Fn := if m ≤ p ∨ q = -1 then some μ else if (m ≤ q ∧ q < N) ∧ μ q = -1 then some (u (u μ p q) q p) else none
def tkN (L : Int → Int) (m N : Int) : Nat → Option Fn
  | 0 => some (fun _ => -1)
  | k + 1 => (tkN L m N k).bind fun μ => tkS μ m N k (L k)
def eq7 (μ ν : Fn) : Prop := ∀ j, 0 ≤ j → j < 7 → μ j = ν j
theorem eq7_u {μ ν : Fn} (h : eq7 μ ν) (z v : Int) : eq7 (u μ z v) (u ν z v) := by
  intro j j0 j1
  by_cases e : j = z
  · rw [e, u_eq, u_eq]
  · rw [u_ne _ _ e, u_ne _ _ e]
    exact h j j0 j1
theorem tk_past {L : Int → Int} {m N : Int} {k : Nat} (h : m ≤ k) : tkN L m N (k + 1) = tkN L m N k := by
  rw [tkN]
  cases tkN L m N k with
  | none => rfl
  | some μ => rw [Option.bind_some]; unfold tkS; rw [if_pos (Or.inl h)]
theorem tk_none {L : Int → Int} {m N : Int} {k : Nat} (h : tkN L m N k = none) : ∀ n, tkN L m N (k + n) = none := by
  intro n
  induction n with
  | zero => exact h
  | succ n ih => rw [← Nat.add_assoc, tkN, ih]; rfl
theorem tk_to {L : Int → Int} {m N : Int} {k : Nat} (h : m ≤ k) : ∀ n, tkN L m N (k + n) = tkN L m N k := by
  intro n
  induction n with
  | zero => rfl
  | succ n ih => rw [← Nat.add_assoc, tk_past (by omega), ih]
theorem tk_i {L : Int → Int} {m N : Int} (hm : 0 ≤ m) (hN : N ≤ 7) : ∀ k : Nat, k < 7 → ∀ μ, tkN L m N k = some μ → (∀ j, k ≤ j → j < m → μ j = -1) ∧ ∀ j, -1 ≤ μ j ∧ μ j < 7 := by
  intro k
  induction k with
  | zero =>
    intro _ μ h
    rw [tkN] at h
    injection h with h
    rw [← h]
    exact ⟨fun _ _ _ => rfl, fun j => ⟨show (-1 : Int) ≤ -1 by omega, show (-1 : Int) < 7 by omega⟩⟩
  | succ k ih =>
    intro hk μ h
    rw [tkN] at h
    cases e : tkN L m N k with
    | none => rw [e] at h; cases h
    | some ν =>
      rw [e, Option.bind_some] at h
      obtain ⟨i1, i2⟩ := ih (by omega) ν e
      unfold tkS at h
      by_cases q : m ≤ k ∨ L k = -1
      · rw [if_pos q] at h
        injection h with h
        rw [← h]
        exact ⟨fun j j0 j1 => i1 j (by omega) j1, i2⟩
      · rw [if_neg q] at h
        by_cases q2 : (m ≤ L k ∧ L k < N) ∧ ν (L k) = -1
        · rw [if_pos q2] at h
          injection h with h
          rw [← h]
          refine ⟨?_, ?_⟩
          · intro j j0 j1
            rw [u_ne _ _ (by omega), u_ne _ _ (by omega)]
            exact i1 j (by omega) j1
          · intro j
            by_cases e1 : j = L k
            · rw [e1, u_eq]; omega
            · rw [u_ne _ _ e1]
              by_cases e2 : j = k
              · rw [e2, u_eq]; omega
              · rw [u_ne _ _ e2]
                exact i2 j
        · rw [if_neg q2] at h
          cases h
def rsB (c μ : Fn) (p q : Int) : Bool := decide (¬ μ p = q ∧ (μ p = -1 ∨ ahB c p q (μ p) = true) ∧ (μ q = -1 ∨ ahB c q p (μ q) = true))
def rsI (c μ : Fn) (m p n : Int) : Int := sm (fun i => if rsB c μ p (m + i) = true then 1 else 0) n
def rsN (c μ : Fn) (m N n : Int) : Int := sm (fun p => rsI c μ m p (N - m)) n
theorem rsN_cg {c μ ν : Fn} {m N : Int} (hm : 0 ≤ m) (hN : N ≤ 7) (hm2 : m ≤ N) (h : eq7 μ ν) : rsN c μ m N m = rsN c ν m N m := by
  unfold rsN rsI
  apply sm_congr
  intro p p0 p1
  apply sm_congr
  intro i i0 i1
  unfold rsB
  rw [h p p0 (by omega), h (m + i) (by omega) (by omega)]
theorem rsI_r {c μ : Fn} {m p n : Int} (h : 0 ≤ n) : 0 ≤ rsI c μ m p n ∧ rsI c μ m p n ≤ n := sm_01 h
theorem rsN_r {c μ : Fn} {m N n : Int} (h : 0 ≤ n) (hm : 0 ≤ m) (hm2 : m ≤ N) (hN : N ≤ 7) : 0 ≤ rsN c μ m N n ∧ rsN c μ m N n ≤ 7 * n := by
  have := sm_le (f := fun p => rsI c μ m p (N - m)) (a := 0) (b := 7) h (by
    intro p _ _
    have := rsI_r (c := c) (μ := μ) (m := m) (p := p) (n := N - m) (by omega)
    omega)
  unfold rsN
  omega
section
variable (x : m_X) (F G : Nat → Fn)
theorem C_takes {m p q : Int} (hi : WI (F 2)) (hμ : ∀ j, 0 ≤ j → j < 7 → -1 ≤ F 139 j ∧ F 139 j < 7) (hm0 : 0 ≤ m) (hm1 : m ≤ 6) (p0 : 0 ≤ p) (p1 : p < 7) (hq : rg q) : (tkS (F 139) m (F 2 0) p q = none ∧ m_M x k_Weddings_takes [.ref 138, .ref 1, .int (jI m), .int (jI p), .int (jI q)] (mk F G) = some (some (.int (jI 0)), mk F G)) ∨ ∃ ν, tkS (F 139) m (F 2 0) p q = some ν ∧ m_M x k_Weddings_takes [.ref 138, .ref 1, .int (jI m), .int (jI p), .int (jI q)] (mk F G) = some (some (.int (jI 1)), mk (sA F 139 ν) G) := by
  have hc := WI_c hi
  have hq' := hq
  unfold rg at hq'
  rw [E_Weddings_takes, isO_138, if_pos rfl]
  have hT : tkS (F 139) m (F 2 0) p q = (if m ≤ p ∨ q = -1 then some (F 139) else if (m ≤ q ∧ q < F 2 0) ∧ F 139 q = -1 then some (u (u (F 139) p q) q p) else none) := rfl
  by_cases a1 : m ≤ p
  · right
    refine ⟨F 139, by rw [hT, if_pos (Or.inl a1)], ?_⟩
    rw [if_pos (by rw [jI_le (by omega) (by omega) (by omega) (by omega)]; omega), sA_self, lit_1]
  · rw [if_neg (by rw [jI_le (by omega) (by omega) (by omega) (by omega)]; omega)]
    by_cases a2 : q = -1
    · right
      refine ⟨F 139, by rw [hT, if_pos (Or.inr a2)], ?_⟩
      rw [if_pos (by rw [a2]; rfl), sA_self, lit_1]
    · rw [if_neg (show ¬ (m ≤ p ∨ q = -1) by omega)] at hT
      rw [show (-1 : Int32) = jI (-1) from rfl, if_neg (by rw [jI_eq (by omega) (by omega) (by omega) (by omega)]; omega)]
      by_cases a3 : q < m
      · left
        refine ⟨by rw [hT, if_neg (by omega)], ?_⟩
        rw [if_pos (by rw [jI_lt (by omega) (by omega) (by omega) (by omega)]; omega), E_Weddings_takes_43 x 2 (by omega), if_pos (by decide), lit_0]
      · rw [if_neg (by rw [jI_lt (by omega) (by omega) (by omega) (by omega)]; omega), C_hasOne x F G (w := 1) (Or.inl rfl) hq (by show rg (F 2 0); unfold rg; omega), b_I]
        by_cases a4 : 0 ≤ q ∧ q < F (1 + 1) 0
        · rw [if_pos a4, if_neg (by decide)]
          replace a4 : 0 ≤ q ∧ q < F 2 0 := a4
          have v := hμ q a4.1 (by omega)
          rw [C_mateOf x F G a4.1 (by omega), b_I]
          by_cases a5 : F 139 q = -1
          · right
            refine ⟨_, by rw [hT, if_pos ⟨⟨by omega, a4.2⟩, a5⟩], ?_⟩
            rw [if_pos (by rw [jI_eq (by omega) (by omega) (by omega) (by omega)]; omega), E_Weddings_takes_43 x 2 (by omega), if_neg (show ¬ (1 : Int32) = 0 by decide), lit_7, if_neg (by rw [jI_le (by omega) (by omega) (by omega) (by omega)]; omega), lit_0, if_neg (by rw [jI_lt (by omega) (by omega) (by omega) (by omega)]; omega), if_pos (by rw [jI_lt (by omega) (by omega) (by omega) (by omega)]; omega), fR_138_0, Option.bind_some, is_139 _ _ _ p0 p1, Option.bind_some, fR_138_0, Option.bind_some, is_139 _ _ _ a4.1 (by omega), Option.bind_some, sA_sA, sA_eq, lit_1]
          · left
            refine ⟨by rw [hT, if_neg (fun h => a5 h.2)], ?_⟩
            rw [if_neg (by rw [jI_eq (by omega) (by omega) (by omega) (by omega)]; omega), E_Weddings_takes_43 x 2 (by omega), if_pos (by decide), lit_0]
        · left
          refine ⟨by rw [hT, if_neg (by intro h; exact a4 ⟨by omega, h.1.2⟩)], ?_⟩
          rw [if_neg a4, if_pos (by decide), E_Weddings_takes_43 x 2 (by omega), if_pos (by decide), lit_0]
/-- tkS over rows that are alike -/
theorem tkS_cg {μ ν : Fn} {m N p q : Int} (h : eq7 μ ν) (hm : 0 ≤ m) (hN : N ≤ 7) : (tkS μ m N p q = none ∧ tkS ν m N p q = none) ∨ ∃ a b, tkS μ m N p q = some a ∧ tkS ν m N p q = some b ∧ eq7 a b := by
  unfold tkS
  by_cases a1 : m ≤ p ∨ q = -1
  · right
    exact ⟨μ, ν, by rw [if_pos a1], by rw [if_pos a1], h⟩
  · rw [if_neg a1, if_neg a1]
    by_cases a2 : m ≤ q ∧ q < N
    · rw [h q (by omega) (by omega)]
      by_cases a3 : ν q = -1
      · right
        exact ⟨_, _, by rw [if_pos ⟨a2, a3⟩], by rw [if_pos ⟨a2, a3⟩], eq7_u (eq7_u h _ _) _ _⟩
      · left
        rw [if_neg (fun h => a3 h.2), if_neg (fun h => a3 h.2)]
        exact ⟨rfl, rfl⟩
    · left
      rw [if_neg (fun h => a2 h.1), if_neg (fun h => a2 h.1)]
      exact ⟨rfl, rfl⟩
theorem C_stage {m : Int} {L : Int → Int} {k : Nat} {F1 : Nat → Fn} {μ : Fn} (hi : WI (F 2)) (hm0 : 0 ≤ m) (hm1 : m ≤ 6) (hk : k < 6) (hL : rg (L k)) (h : tkN L m (F 2 0) k = some μ) (he : eq7 (F1 139) μ) (hg : ag9 F F1) : (tkN L m (F 2 0) (k + 1) = none ∧ m_M x k_Weddings_takes [.ref 138, .ref 1, .int (jI m), .int (jI (k : Int)), .int (jI (L k))] (mk F1 G) = some (some (.int (jI 0)), mk F1 G)) ∨ ∃ F2 μ2, tkN L m (F 2 0) (k + 1) = some μ2 ∧ eq7 (F2 139) μ2 ∧ ag9 F F2 ∧ m_M x k_Weddings_takes [.ref 138, .ref 1, .int (jI m), .int (jI (k : Int)), .int (jI (L k))] (mk F1 G) = some (some (.int (jI 1)), mk F2 G) := by
  have hc := WI_c hi
  have ti := tk_i hm0 (N := F 2 0) (by omega) k (by omega) μ h
  have e2 := hg 2 (by omega) (by omega)
  have ct := C_takes x F1 G (m := m) (p := (k : Int)) (q := L k) (by rw [e2]; exact hi) (by
    intro j j0 j1
    rw [he j j0 j1]
    exact ti.2 j) hm0 hm1 (by omega) (by omega) hL
  rw [e2] at ct
  have cg := tkS_cg (m := m) (N := F 2 0) (p := (k : Int)) (q := L k) he hm0 (by omega)
  rcases ct with ⟨c1, c2⟩ | ⟨ν, c1, c2⟩
  · left
    refine ⟨?_, c2⟩
    rw [tkN, h, Option.bind_some]
    rcases cg with ⟨g1, g2⟩ | ⟨a, b, g1, g2, g3⟩
    · exact g2
    · rw [c1] at g1; cases g1
  · right
    rcases cg with ⟨g1, g2⟩ | ⟨a, b, g1, g2, g3⟩
    · rw [c1] at g1; cases g1
    · rw [c1] at g1
      injection g1 with g1
      refine ⟨_, b, ?_, ?_, ?_, c2⟩
      · rw [tkN, h, Option.bind_some]
        exact g2
      · rw [sA_eq, g1]
        exact g3
      · intro z z1 z2
        rw [sA_ne _ _ z1]
        exact hg z z1 z2
theorem M_isTaken {c : Fn} {m : Int} {L : Int → Int} {k : Nat} {F1 : Nat → Fn} {μ : Fn} (hv : ∀ j, vok j → V (F 150) j = c j) (hi : WI c) (hm0 : 0 ≤ m) (hm1 : m ≤ 6) (hk : k < 6) (hkm : k < m) (hL : rg (L k)) (h : tkN L m (c 0) k = some μ) (he : eq7 (F1 163) μ) (hg : ag10 F F1) : (tkN L m (c 0) (k + 1) = none ∧ m_M x k_M_isTaken [.ref 149, .int (jI m), .int (jI (k : Int)), .int (jI (L k))] (mk F1 G) = some (some (.int (jI 0)), mk F1 G)) ∨ ∃ F2 μ2, tkN L m (c 0) (k + 1) = some μ2 ∧ eq7 (F2 163) μ2 ∧ ag10 F F2 ∧ m_M x k_M_isTaken [.ref 149, .int (jI m), .int (jI (k : Int)), .int (jI (L k))] (mk F1 G) = some (some (.int (jI 1)), mk F2 G) := by
  have hc := WI_c hi
  have hL' := hL
  unfold rg at hL'
  have ti := tk_i hm0 (N := c 0) (by omega) k (by omega) μ h
  have e150 := hg 150 (by omega) (by omega)
  have a2 := va_0 x F1 G
  rw [e150, hv 0 (by unfold vok; omega)] at a2
  rw [E_M_isTaken, isO_149, if_pos rfl, show (-1 : Int32) = jI (-1) from rfl]
  have hT : tkN L m (c 0) (k + 1) = (if m ≤ k ∨ L k = -1 then some μ else if (m ≤ L k ∧ L k < c 0) ∧ μ (L k) = -1 then some (u (u μ k (L k)) (L k) k) else none) := by
    rw [tkN, h, Option.bind_some]
    rfl
  by_cases q1 : L k = -1
  · right
    refine ⟨sA F1 163 (u (F1 163) k (L k)), μ, by rw [hT, if_pos (Or.inr q1)], ?_, ?_, ?_⟩
    · rw [sA_eq]
      intro j j0 j1
      by_cases e : j = k
      · rw [e, u_eq, q1, ti.1 k (by omega) hkm]
      · rw [u_ne _ _ e]
        exact he j j0 j1
    · intro z z1 z2
      rw [sA_ne _ _ z1]
      exact hg z z1 z2
    · rw [if_pos (by rw [q1]), E_M_isTaken_33 x 2 (by omega), fR_149_29, Option.bind_some, is_163 _ _ _ (by omega) (by omega), Option.bind_some, if_pos (by rw [q1]; rfl), lit_1]
  · rw [if_neg (by rw [jI_eq (by omega) (by omega) (by omega) (by omega)]; omega), fR_149_0, Option.bind_some, lit_0, a2, Option.bind_some, lit_1, jI_sub, M_isIn x F1 G hL (by unfold rg; omega) (by unfold rg; omega), b_I]
    rw [if_neg (show ¬ (m ≤ k ∨ L k = -1) by omega)] at hT
    by_cases q2 : m ≤ L k ∧ L k ≤ c 0 - 1
    · have v := ti.2 (L k)
      rw [if_pos q2, if_neg (by decide), fR_149_29, Option.bind_some, ia_163 x F1 G (by omega) (by omega), Option.bind_some, he (L k) (by omega) (by omega)]
      by_cases q3 : μ (L k) = -1
      · right
        refine ⟨sA F1 163 (u (u (F1 163) k (L k)) (L k) k), _, by rw [hT, if_pos ⟨⟨q2.1, by omega⟩, q3⟩], ?_, ?_, ?_⟩
        rotate_left 2
        · rw [if_pos (by rw [jI_eq (by omega) (by omega) (by omega) (by omega)]; omega), E_M_isTaken_33 x 2 (by omega), fR_149_29, Option.bind_some, is_163 _ _ _ (by omega) (by omega), Option.bind_some, show (-1 : Int32) = jI (-1) from rfl, if_neg (by rw [jI_eq (by omega) (by omega) (by omega) (by omega)]; omega), fR_149_29, Option.bind_some, is_163 _ _ _ (by omega) (by omega), Option.bind_some, sA_sA, sA_eq, lit_1]
        · rw [sA_eq]
          exact eq7_u (eq7_u he _ _) _ _
        · intro z z1 z2
          rw [sA_ne _ _ z1]
          exact hg z z1 z2
      · left
        refine ⟨by rw [hT, if_neg (fun h => q3 h.2)], ?_⟩
        rw [if_neg (by rw [jI_eq (by omega) (by omega) (by omega) (by omega)]; omega)]
    · left
      refine ⟨by rw [hT, if_neg (by omega)], ?_⟩
      rw [if_neg q2, if_pos (by decide)]
/-- the class counts -/
theorem C_rest14 {μ : Fn} {m p acc : Int} (hi : WI (F 2)) (hμ : eq7 (F 139) μ) (hr : ∀ j, -1 ≤ μ j ∧ μ j < 7) (hm0 : 0 ≤ m) (hm1 : m ≤ 6) (hm2 : m ≤ F 2 0) (p0 : 0 ≤ p) (p1 : p < m) (ha : 0 ≤ acc) (hb : acc ≤ 1000) : ∀ q, m ≤ q → q ≤ F 2 0 → ∀ d6, m_nl d6 = true → ∃ d, m_nl d = true ∧ m_D x 4 k_Weddings_restless 14 [some (.ref 138), some (.ref 1), some (.int (jI m)), some (.int (jI (acc + rsI (F 2) μ m p (q - m)))), some (.int (jI p)), some (.int (jI q)), d6] [] (mk F G) = m_D x 4 k_Weddings_restless 5 [some (.ref 138), some (.ref 1), some (.int (jI m)), some (.int (jI (acc + rsI (F 2) μ m p (F 2 0 - m)))), some (.int (jI (p + 1))), some (.int (jI (F 2 0))), d] [] (mk F G) := by
  have hc := WI_c hi
  have fw : m_fR (mk F G) 9 0 1 = some 2 := fR_W_0 F G (w := 1) (Or.inl rfl)
  have a2 : m_ia x (mk F G) 2 (jI 0) = some (jI (F 2 0)) := ia_2 x F G (by omega) (by omega)
  apply down
  · intro d6 h6
    refine ⟨d6, h6, ?_⟩
    rw [E_Weddings_restless_14 x 4 (by omega) _ _ _ _ _ _ _ _ h6, fw, Option.bind_some, lit_0, a2, Option.bind_some, if_pos (Int32.le_refl _), lit_1, jI_add]
  · intro q q0 q1 ih d6 h6
    have eq : q + 1 - m = (q - m) + 1 := by omega
    have eq2 : m + (q - m) = q := by omega
    have hrp := hr p
    have hrq := hr q
    have rr := rsI_r (c := F 2) (μ := μ) (m := m) (p := p) (n := q - m) (by omega)
    have hs : rsI (F 2) μ m p (q + 1 - m) = rsI (F 2) μ m p (q - m) + (if rsB (F 2) μ p q = true then 1 else 0) := by
      unfold rsI
      rw [eq, sm_s _ (by omega), eq2]
    rw [hs, ← Int.add_assoc] at ih
    generalize rsI (F 2) μ m p (q - m) = s at *
    have ep := hμ p p0 (by omega)
    have eqq := hμ q (by omega) (by omega)
    have w1 := C_wouldRather x F G (p := p) (o := q) hi p0 (by omega) (by omega) (by omega) (by omega) (by omega)
    have w2 := C_wouldRather x F G (p := q) (o := p) hi (by omega) (by omega) p0 (by omega) (by omega) (by omega)
    rw [ep] at w1
    rw [eqq] at w2
    rw [E_Weddings_restless_14 x 4 (by omega) _ _ _ _ _ _ _ _ h6, fw, Option.bind_some, lit_0, a2, Option.bind_some, if_neg (by rw [jI_le (by omega) (by omega) (by omega) (by omega)]; omega), C_mateOf x F G p0 (by omega), ep, b_I]
    unfold rsB at ih
    simp only [decide_eq_true_eq] at ih
    by_cases h1 : μ p = q
    · rw [if_neg (fun h => h.1 h1), Int.add_zero] at ih
      rw [if_pos (by rw [jI_eq (by omega) (by omega) (by omega) (by omega)]; omega), E_Weddings_restless_41 x 4 (by omega) _ _ _ _ _ _ _ _ _ h6, if_neg (show ¬ (1 : Int32) = 0 by decide), lit_1, jI_add]
      exact ih _ rfl
    · rw [if_neg (by rw [jI_eq (by omega) (by omega) (by omega) (by omega)]; omega), E_Weddings_restless_41 x 4 (by omega) _ _ _ _ _ _ _ _ _ h6, if_pos (by decide), w1, b_I]
      by_cases h2 : μ p = -1 ∨ ahB (F 2) p q (μ p) = true
      · rw [if_pos h2, if_neg (by decide), w2, b_I]
        by_cases h3 : μ q = -1 ∨ ahB (F 2) q p (μ q) = true
        · rw [if_pos ⟨h1, h2, h3⟩] at ih
          rw [if_pos h3, if_neg (by decide), lit_1, jI_add, jI_add]
          exact ih _ rfl
        · rw [if_neg (fun h => h3 h.2.2), Int.add_zero] at ih
          rw [if_neg h3, if_pos (by decide), lit_1, jI_add]
          exact ih _ rfl
      · rw [if_neg (fun h => h2 h.2.1), Int.add_zero] at ih
        rw [if_neg h2, if_pos (by decide), lit_1, jI_add]
        exact ih _ rfl
theorem C_restless {μ : Fn} {m : Int} (hi : WI (F 2)) (hμ : eq7 (F 139) μ) (hr : ∀ j, -1 ≤ μ j ∧ μ j < 7) (hm0 : 0 ≤ m) (hm1 : m ≤ 6) (hm2 : m ≤ F 2 0) : m_M x k_Weddings_restless [.ref 138, .ref 1, .int (jI m)] (mk F G) = some (some (.int (jI (rsN (F 2) μ m (F 2 0) m))), mk F G) := by
  have hc := WI_c hi
  have key : ∀ p, 0 ≤ p → p ≤ m → ∀ d5 d6, m_nl d5 = true → m_nl d6 = true → m_D x 4 k_Weddings_restless 5 [some (.ref 138), some (.ref 1), some (.int (jI m)), some (.int (jI (rsN (F 2) μ m (F 2 0) p))), some (.int (jI p)), d5, d6] [] (mk F G) = some (some (.int (jI (rsN (F 2) μ m (F 2 0) m))), mk F G) := by
    apply down
    · intro d5 d6 h5 h6
      rw [E_Weddings_restless_5 x 4 (by omega) _ _ _ _ _ _ _ _ h5 h6, if_pos (Int32.le_refl _)]
    · intro p p0 p1 ih d5 d6 h5 h6
      have r := rsN_r (c := F 2) (μ := μ) (m := m) (N := F 2 0) (n := p) p0 hm0 hm2 (by omega)
      obtain ⟨d, hd, e⟩ := C_rest14 x F G (μ := μ) (m := m) (p := p) (acc := rsN (F 2) μ m (F 2 0) p) hi hμ hr hm0 hm1 hm2 p0 p1 r.1 (by omega) m (by omega) hm2 d6 h6
      have e0 : rsI (F 2) μ m p (m - m) = 0 := by unfold rsI; rw [Int.sub_self, sm_0]
      have es : rsN (F 2) μ m (F 2 0) (p + 1) = rsN (F 2) μ m (F 2 0) p + rsI (F 2) μ m p (F 2 0 - m) := by unfold rsN; rw [sm_s _ p0]
      rw [e0, Int.add_zero, ← es] at e
      rw [E_Weddings_restless_5 x 4 (by omega) _ _ _ _ _ _ _ _ h5 h6, if_neg (by rw [jI_le (by omega) (by omega) (by omega) (by omega)]; omega), e]
      exact ih _ _ rfl hd
  rw [E_Weddings_restless, isO_138, if_pos rfl]
  exact key 0 (by omega) hm0 none none rfl rfl
theorem M_wouldGo {c μ : Fn} {p q : Int} (hv : ∀ j, vok j → V (F 150) j = c j) (hi : WI c) (hμ : eq7 (F 163) μ) (hr : ∀ j, -1 ≤ μ j ∧ μ j < 7) (p0 : 0 ≤ p) (p1 : p < 7) (q0 : 0 ≤ q) (q1 : q < 7) : m_M x k_M_wouldGo [.ref 149, .int (jI p), .int (jI q)] (mk F G) = some (some (.int (jI (if μ p = -1 ∨ ahB c p q (μ p) = true then 1 else 0))), mk F G) := by
  have v := hr p
  rw [E_M_wouldGo, isO_149, if_pos rfl, fR_149_29, Option.bind_some, Option.bind_some, ia_163 x F G p0 p1, Option.bind_some, Option.bind_some, hμ p p0 p1, show (-1 : Int32) = jI (-1) from rfl]
  by_cases h : μ p = -1
  · rw [if_pos (by rw [jI_eq (by omega) (by omega) (by omega) (by omega)]; omega), if_pos (Or.inl h), lit_1]
  · rw [if_neg (by rw [jI_eq (by omega) (by omega) (by omega) (by omega)]; omega), M_isRather x F G hv hi p0 p1 q0 q1 (by omega) (by omega), b_I]
    by_cases y : ahB c p q (μ p) = true
    · rw [if_pos y, if_neg (by decide), if_pos (Or.inr y), lit_1]
    · rw [if_neg y, if_pos (by decide), if_neg (by rintro (h | h) <;> contradiction), lit_0]
theorem M_rest130 {c μ : Fn} {m p acc : Int} {n2 n3 n4 n5 n6 n7 : Int32} (hv : ∀ j, vok j → V (F 150) j = c j) (hi : WI c) (hμ : eq7 (F 163) μ) (hr : ∀ j, -1 ≤ μ j ∧ μ j < 7) (hm0 : 0 ≤ m) (hm1 : m ≤ 6) (hm2 : m ≤ c 0) (p0 : 0 ≤ p) (p1 : p < m) (ha : 0 ≤ acc) (hb : acc ≤ 1000) : ∀ q, m ≤ q → q ≤ c 0 → m_D x 5 k_M_unrest 130 [some (.ref 149), some (.int (jI m)), some (.int n2), some (.int n3), some (.int n4), some (.int n5), some (.int n6), some (.int n7), some (.int (jI (acc + rsI c μ m p (q - m)))), some (.int (jI p)), some (.int (jI q))] [] (mk F G) = m_D x 5 k_M_unrest 121 [some (.ref 149), some (.int (jI m)), some (.int n2), some (.int n3), some (.int n4), some (.int n5), some (.int n6), some (.int n7), some (.int (jI (acc + rsI c μ m p (c 0 - m)))), some (.int (jI (p + 1))), some (.int (jI (c 0)))] [] (mk F G) := by
  have hc := WI_c hi
  have a2 := va_0 x F G
  rw [hv 0 (by unfold vok; omega)] at a2
  apply down
  · rw [E_M_unrest_130 x 5 (by omega), fR_149_0, Option.bind_some, lit_0, a2, Option.bind_some, if_pos (Int32.le_refl _), lit_1, jI_add]
  · intro q q0 q1 ih
    have eq : q + 1 - m = (q - m) + 1 := by omega
    have eq2 : m + (q - m) = q := by omega
    have hrp := hr p
    have hrq := hr q
    have hs : rsI c μ m p (q + 1 - m) = rsI c μ m p (q - m) + (if rsB c μ p q = true then 1 else 0) := by
      unfold rsI
      rw [eq, sm_s _ (by omega), eq2]
    rw [hs, ← Int.add_assoc] at ih
    generalize rsI c μ m p (q - m) = s at *
    have w1 := M_wouldGo x F G (c := c) (μ := μ) (p := p) (q := q) hv hi hμ hr p0 (by omega) (by omega) (by omega)
    have w2 := M_wouldGo x F G (c := c) (μ := μ) (p := q) (q := p) hv hi hμ hr (by omega) (by omega) p0 (by omega)
    rw [E_M_unrest_130 x 5 (by omega), fR_149_0, Option.bind_some, lit_0, a2, Option.bind_some, if_neg (by rw [jI_le (by omega) (by omega) (by omega) (by omega)]; omega), fR_149_29, Option.bind_some, ia_163 x F G p0 (by omega), Option.bind_some, hμ p p0 (by omega), lit_1]
    unfold rsB at ih
    simp only [decide_eq_true_eq] at ih
    by_cases h1 : μ p = q
    · rw [if_neg (fun h => h.1 h1), Int.add_zero] at ih
      rw [if_pos (by rw [jI_eq (by omega) (by omega) (by omega) (by omega)]; omega), jI_add, jI_add, Int.add_zero]
      exact ih
    · rw [if_neg (by rw [jI_eq (by omega) (by omega) (by omega) (by omega)]; omega), w1, b_I]
      by_cases h2 : μ p = -1 ∨ ahB c p q (μ p) = true
      · rw [if_pos h2, if_neg (by decide), w2, b_I]
        by_cases h3 : μ q = -1 ∨ ahB c q p (μ q) = true
        · rw [if_pos ⟨h1, h2, h3⟩] at ih
          rw [if_pos h3, if_neg (by decide), jI_add, jI_add]
          exact ih
        · rw [if_neg (fun h => h3 h.2.2), Int.add_zero] at ih
          rw [if_neg h3, if_pos (by decide), jI_add, jI_add, Int.add_zero]
          exact ih
      · rw [if_neg (fun h => h2 h.2.1), Int.add_zero] at ih
        rw [if_neg h2, if_pos (by decide), jI_add, jI_add, Int.add_zero]
        exact ih
theorem M_rest121 {c μ : Fn} {m : Int} {n2 n3 n4 n5 n6 n7 : Int32} (hv : ∀ j, vok j → V (F 150) j = c j) (hi : WI c) (hμ : eq7 (F 163) μ) (hr : ∀ j, -1 ≤ μ j ∧ μ j < 7) (hm0 : 0 ≤ m) (hm1 : m ≤ 6) (hm2 : m ≤ c 0) : ∀ p, 0 ≤ p → p ≤ m → ∀ d, m_nl d = true → m_D x 5 k_M_unrest 121 [some (.ref 149), some (.int (jI m)), some (.int n2), some (.int n3), some (.int n4), some (.int n5), some (.int n6), some (.int n7), some (.int (jI (rsN c μ m (c 0) p))), some (.int (jI p)), d] [] (mk F G) = some (some (.int (jI (rsN c μ m (c 0) m))), mk F G) := by
  have hc := WI_c hi
  apply down
  · intro d hd
    rw [E_M_unrest_121 x 5 (by omega) _ _ _ _ _ _ _ _ _ _ _ _ hd, if_pos (Int32.le_refl _)]
  · intro p p0 p1 ih d hd
    have r := rsN_r (c := c) (μ := μ) (m := m) (N := c 0) (n := p) p0 hm0 hm2 (by omega)
    have e := M_rest130 x F G (c := c) (μ := μ) (m := m) (p := p) (acc := rsN c μ m (c 0) p) (n2 := n2) (n3 := n3) (n4 := n4) (n5 := n5) (n6 := n6) (n7 := n7) hv hi hμ hr hm0 hm1 hm2 p0 p1 r.1 (by omega) m (by omega) hm2
    have e0 : rsI c μ m p (m - m) = 0 := by unfold rsI; rw [Int.sub_self, sm_0]
    have es : rsN c μ m (c 0) (p + 1) = rsN c μ m (c 0) p + rsI c μ m p (c 0 - m) := by unfold rsN; rw [sm_s _ p0]
    rw [e0, Int.add_zero, ← es] at e
    rw [E_M_unrest_121 x 5 (by omega) _ _ _ _ _ _ _ _ _ _ _ _ hd, if_neg (by rw [jI_le (by omega) (by omega) (by omega) (by omega)]; omega), e]
    exact ih _ rfl
def L6 (a b c d e f : Int) : Int → Int := fun k => if k = 0 then a else if k = 1 then b else if k = 2 then c else if k = 3 then d else if k = 4 then e else f
theorem M_rest37 {c : Fn} {m a1 a2 a3 a4 a5 a6 : Int} (hv : ∀ j, vok j → V (F 150) j = c j) (hi : WI c) (hm0 : 0 ≤ m) (hm1 : m ≤ 6) (hm2 : m ≤ c 0) (hL : ∀ k : Int, rg (L6 a1 a2 a3 a4 a5 a6 k)) : ∀ k : Nat, ∀ n : Nat, (k : Int) + n = m → ∀ (F1 : Nat → Fn) (μ : Fn), tkN (L6 a1 a2 a3 a4 a5 a6) m (c 0) k = some μ → eq7 (F1 163) μ → ag10 F F1 → ∃ F2, ag10 F F2 ∧ m_D x 5 k_M_unrest 37 [some (.ref 149), some (.int (jI m)), some (.int (jI a1)), some (.int (jI a2)), some (.int (jI a3)), some (.int (jI a4)), some (.int (jI a5)), some (.int (jI a6)), some (.int (jI (k : Int))), none, none] [] (mk F1 G) = some (some (.int (jI (match tkN (L6 a1 a2 a3 a4 a5 a6) m (c 0) m.toNat with | none => -1 | some ν => rsN c ν m (c 0) m))), mk F2 G) := by
  have hc := WI_c hi
  intro k n
  induction n generalizing k with
  | zero =>
    intro hk F1 μ h he hg
    have ti := tk_i hm0 (N := c 0) (by omega) k (by omega) μ h
    have ek : m.toNat = k := by omega
    have ek2 : (k : Int) = m := by omega
    have e0 : rsN c μ m (c 0) 0 = 0 := sm_0 _
    refine ⟨F1, hg, ?_⟩
    have z := M_rest121 x F1 G (c := c) (μ := μ) (m := m) (n2 := jI a1) (n3 := jI a2) (n4 := jI a3) (n5 := jI a4) (n6 := jI a5) (n7 := jI a6) (by rw [hg 150 (by omega) (by omega)]; exact hv) hi he ti.2 hm0 hm1 hm2 0 (by omega) hm0 none rfl
    rw [e0] at z
    rw [E_M_unrest_37 x 5 (by omega), ek2, if_pos (Int32.le_refl _), ek, h, lit_0]
    exact z
  | succ n ih =>
    intro hk F1 μ h he hg
    have st := M_isTaken x F G (c := c) (m := m) (L := L6 a1 a2 a3 a4 a5 a6) (k := k) (F1 := F1) (μ := μ) hv hi hm0 hm1 (by omega) (by omega) (hL _) h he hg
    have goal : ∀ z, z = L6 a1 a2 a3 a4 a5 a6 k → ∃ F2, ag10 F F2 ∧ (m_bI (m_M x k_M_isTaken [.ref 149, .int (jI m), .int (jI (k : Int)), .int (jI z)] (mk F1 G)) fun v101 s101 => if v101 = 0 then (some (some (.int (-1)), s101)) else m_D x 5 k_M_unrest 37 [some (.ref 149), some (.int (jI m)), some (.int (jI a1)), some (.int (jI a2)), some (.int (jI a3)), some (.int (jI a4)), some (.int (jI a5)), some (.int (jI a6)), some (.int (jI (k : Int) + 1)), none, none] [] s101) = some (some (.int (jI (match tkN (L6 a1 a2 a3 a4 a5 a6) m (c 0) m.toNat with | none => -1 | some ν => rsN c ν m (c 0) m))), mk F2 G) := by
      intro z hz
      rw [hz]
      rcases st with ⟨s1, s2⟩ | ⟨F2, μ2, s1, s2, s3, s4⟩
      · refine ⟨F1, hg, ?_⟩
        have t := tk_none s1 n
        have ek : m.toNat = k + 1 + n := by omega
        rw [s2, b_I, if_pos (by decide), ek, t]
        rfl
      · rw [s4, b_I, if_neg (by decide)]
        have i := ih (k + 1) (by omega) F2 μ2 s1 s2 s3
        have ec : jI ((k + 1 : Nat) : Int) = jI (k : Int) + 1 := by rw [lit_1, jI_add]; congr 1
        rw [ec] at i
        exact i
    rw [E_M_unrest_37 x 5 (by omega), if_neg (by rw [jI_le (by omega) (by omega) (by omega) (by omega)]; omega), lit_0]
    have hk5 : k < 6 := by omega
    by_cases k0 : k = 0
    · rw [if_pos (by rw [k0]; rfl)]
      exact goal a1 (by rw [k0]; rfl)
    · rw [if_neg (by rw [jI_eq (by omega) (by omega) (by omega) (by omega)]; omega)]
      by_cases k1 : k = 1
      · rw [if_pos (by rw [k1]; rfl)]
        exact goal a2 (by rw [k1]; rfl)
      · rw [if_neg (by rw [lit_1, jI_eq (by omega) (by omega) (by omega) (by omega)]; omega)]
        by_cases k2 : k = 2
        · rw [if_pos (by rw [k2]; rfl)]
          exact goal a3 (by rw [k2]; rfl)
        · rw [if_neg (by rw [lit_2, jI_eq (by omega) (by omega) (by omega) (by omega)]; omega)]
          by_cases k3 : k = 3
          · rw [if_pos (by rw [k3]; rfl)]
            exact goal a4 (by rw [k3]; rfl)
          · rw [if_neg (by rw [lit_3, jI_eq (by omega) (by omega) (by omega) (by omega)]; omega)]
            by_cases k4 : k = 4
            · rw [if_pos (by rw [k4]; rfl)]
              exact goal a5 (by rw [k4]; rfl)
            · rw [if_neg (by rw [lit_4, jI_eq (by omega) (by omega) (by omega) (by omega)]; omega)]
              have k5 : k = 5 := by omega
              exact goal a6 (by rw [k5]; rfl)
theorem M_rest13 {n1 n2 n3 n4 n5 n6 n7 : Int32} : ∀ n, 0 ≤ n → n ≤ 7 → ∀ F1 : Nat → Fn, (∀ k, 0 ≤ k → k < n → F1 163 k = -1) → ag10 F F1 → ∃ F2, m_D x 5 k_M_unrest 13 [some (.ref 149), some (.int n1), some (.int n2), some (.int n3), some (.int n4), some (.int n5), some (.int n6), some (.int n7), some (.int (jI n)), none, none] [] (mk F1 G) = m_D x 5 k_M_unrest 37 [some (.ref 149), some (.int n1), some (.int n2), some (.int n3), some (.int n4), some (.int n5), some (.int n6), some (.int n7), some (.int (jI 0)), none, none] [] (mk F2 G) ∧ (∀ k, 0 ≤ k → k < 7 → F2 163 k = -1) ∧ ag10 F F2 := by
  apply down
  · intro F1 h1 h2
    refine ⟨F1, ?_, h1, h2⟩
    rw [E_M_unrest_13 x 5 (by omega), lit_7, if_pos (Int32.le_refl _), lit_0]
  · intro n n0 n1 ih F1 h1 h2
    rw [E_M_unrest_13 x 5 (by omega), lit_7, if_neg (by rw [jI_le (by omega) (by omega) (by omega) (by omega)]; omega), fR_149_29, Option.bind_some, show (-1 : Int32) = jI (-1) from rfl, is_163 _ _ _ n0 n1, Option.bind_some, lit_1, jI_add]
    refine ih _ ?_ ?_
    · intro k k0 k1
      rw [sA_eq]
      by_cases e : k = n
      · rw [e, u_eq]
      · rw [u_ne _ _ e]
        exact h1 k k0 (by omega)
    · intro b b1 b2
      rw [sA_ne _ _ b1]
      exact h2 b b1 b2
theorem M_unrest {c : Fn} {m a1 a2 a3 a4 a5 a6 : Int} (hv : ∀ j, vok j → V (F 150) j = c j) (hi : WI c) (hm0 : 1 ≤ m) (hm1 : m ≤ 6) (hm2 : m < c 0) (hL : ∀ k : Int, rg (L6 a1 a2 a3 a4 a5 a6 k)) : ∃ F2, ag10 F F2 ∧ m_M x k_M_unrest [.ref 149, .int (jI m), .int (jI a1), .int (jI a2), .int (jI a3), .int (jI a4), .int (jI a5), .int (jI a6)] (mk F G) = some (some (.int (jI (match tkN (L6 a1 a2 a3 a4 a5 a6) m (c 0) m.toNat with | none => -1 | some ν => rsN c ν m (c 0) m))), mk F2 G) := by
  obtain ⟨F1, r1, r2, r3⟩ := M_rest13 x F G (n1 := jI m) (n2 := jI a1) (n3 := jI a2) (n4 := jI a3) (n5 := jI a4) (n6 := jI a5) (n7 := jI a6) 0 (by omega) (by omega) F (fun k _ _ => by omega) (fun _ _ _ => rfl)
  obtain ⟨F2, z1, z2⟩ := M_rest37 x F G (c := c) (m := m) (a1 := a1) (a2 := a2) (a3 := a3) (a4 := a4) (a5 := a5) (a6 := a6) hv hi (by omega) hm1 (by omega) hL 0 m.toNat (by omega) F1 (fun _ => -1) rfl r2 r3
  refine ⟨F2, z1, ?_⟩
  rw [E_M_unrest, isO_149, if_pos rfl, M_canWed x F G (c := c) hv hi (by unfold rg; omega), if_pos ⟨⟨hm0, hm1⟩, hm2⟩, b_I, if_neg (by decide), lit_0, r1]
  exact z2
theorem C_unrest {m a1 a2 a3 a4 a5 a6 : Int} (hi : WI (F 2)) (hm0 : 1 ≤ m) (hm1 : m ≤ 6) (hm2 : m < F 2 0) (hL : ∀ k : Int, rg (L6 a1 a2 a3 a4 a5 a6 k)) : ∃ F2, ag9 F F2 ∧ m_M x k_G_unrest [.ref 0, .int (jI m), .int (jI a1), .int (jI a2), .int (jI a3), .int (jI a4), .int (jI a5), .int (jI a6)] (mk F G) = some (some (.int (jI (match tkN (L6 a1 a2 a3 a4 a5 a6) m (F 2 0) 6 with | none => -1 | some ν => rsN (F 2) ν m (F 2 0) m))), mk F2 G) := by
  have hc := WI_c hi
  obtain ⟨F0, l1, l2, l3⟩ := C_leaveAll x F G
  have fin : ∀ k : Nat, k ≤ 6 → tkN (L6 a1 a2 a3 a4 a5 a6) m (F 2 0) k = none → tkN (L6 a1 a2 a3 a4 a5 a6) m (F 2 0) 6 = none := by
    intro k hk h
    have t := tk_none h (6 - k)
    have e : k + (6 - k) = 6 := by omega
    rw [e] at t
    exact t
  rw [E_G_unrest, isO_0, if_pos rfl, C_canWed x F G hi (by unfold rg; omega), if_pos ⟨⟨hm0, hm1⟩, hm2⟩, b_I, if_neg (by decide), fR_0_10, Option.bind_some, l1, b_V]
  rcases C_stage x F G (m := m) (L := L6 a1 a2 a3 a4 a5 a6) (k := 0) (F1 := F0) (μ := fun _ => -1) hi (by omega) hm1 (by omega) (hL _) rfl (fun j j0 j1 => (l2 j j0 j1).1) l3 with ⟨n1, b1⟩ | ⟨F1, μ1, s1, t1, g1, b1⟩
  · replace b1 : m_M x k_Weddings_takes [.ref 138, .ref 1, .int (jI m), .int 0, .int (jI a1)] (mk F0 G) = some (some (.int (jI 0)), mk F0 G) := b1
    refine ⟨F0, l3, ?_⟩
    rw [fR_0_10, Option.bind_some, fR_0_0, Option.bind_some, b1, b_I, if_pos (by decide), fin 1 (by omega) n1]
    rfl
  replace b1 : m_M x k_Weddings_takes [.ref 138, .ref 1, .int (jI m), .int 0, .int (jI a1)] (mk F0 G) = some (some (.int (jI 1)), mk F1 G) := b1
  rw [fR_0_10, Option.bind_some, fR_0_0, Option.bind_some, b1, b_I, if_neg (by decide)]
  rcases C_stage x F G (m := m) (L := L6 a1 a2 a3 a4 a5 a6) (k := 1) (F1 := F1) hi (by omega) hm1 (by omega) (hL _) s1 t1 g1 with ⟨n2, b2⟩ | ⟨F2, μ2, s2, t2, g2, b2⟩
  · replace b2 : m_M x k_Weddings_takes [.ref 138, .ref 1, .int (jI m), .int 1, .int (jI a2)] (mk F1 G) = some (some (.int (jI 0)), mk F1 G) := b2
    refine ⟨F1, g1, ?_⟩
    rw [fR_0_10, Option.bind_some, fR_0_0, Option.bind_some, b2, b_I, if_pos (by decide), fin 2 (by omega) n2]
    rfl
  replace b2 : m_M x k_Weddings_takes [.ref 138, .ref 1, .int (jI m), .int 1, .int (jI a2)] (mk F1 G) = some (some (.int (jI 1)), mk F2 G) := b2
  rw [fR_0_10, Option.bind_some, fR_0_0, Option.bind_some, b2, b_I, if_neg (by decide)]
  rcases C_stage x F G (m := m) (L := L6 a1 a2 a3 a4 a5 a6) (k := 2) (F1 := F2) hi (by omega) hm1 (by omega) (hL _) s2 t2 g2 with ⟨n3, b3⟩ | ⟨F3, μ3, s3, t3, g3, b3⟩
  · replace b3 : m_M x k_Weddings_takes [.ref 138, .ref 1, .int (jI m), .int 2, .int (jI a3)] (mk F2 G) = some (some (.int (jI 0)), mk F2 G) := b3
    refine ⟨F2, g2, ?_⟩
    rw [fR_0_10, Option.bind_some, fR_0_0, Option.bind_some, b3, b_I, if_pos (by decide), fin 3 (by omega) n3]
    rfl
  replace b3 : m_M x k_Weddings_takes [.ref 138, .ref 1, .int (jI m), .int 2, .int (jI a3)] (mk F2 G) = some (some (.int (jI 1)), mk F3 G) := b3
  rw [fR_0_10, Option.bind_some, fR_0_0, Option.bind_some, b3, b_I, if_neg (by decide)]
  rcases C_stage x F G (m := m) (L := L6 a1 a2 a3 a4 a5 a6) (k := 3) (F1 := F3) hi (by omega) hm1 (by omega) (hL _) s3 t3 g3 with ⟨n4, b4⟩ | ⟨F4, μ4, s4, t4, g4, b4⟩
  · replace b4 : m_M x k_Weddings_takes [.ref 138, .ref 1, .int (jI m), .int 3, .int (jI a4)] (mk F3 G) = some (some (.int (jI 0)), mk F3 G) := b4
    refine ⟨F3, g3, ?_⟩
    rw [fR_0_10, Option.bind_some, fR_0_0, Option.bind_some, b4, b_I, if_pos (by decide), fin 4 (by omega) n4]
    rfl
  replace b4 : m_M x k_Weddings_takes [.ref 138, .ref 1, .int (jI m), .int 3, .int (jI a4)] (mk F3 G) = some (some (.int (jI 1)), mk F4 G) := b4
  rw [fR_0_10, Option.bind_some, fR_0_0, Option.bind_some, b4, b_I, if_neg (by decide)]
  rcases C_stage x F G (m := m) (L := L6 a1 a2 a3 a4 a5 a6) (k := 4) (F1 := F4) hi (by omega) hm1 (by omega) (hL _) s4 t4 g4 with ⟨n5, b5⟩ | ⟨F5, μ5, s5, t5, g5, b5⟩
  · replace b5 : m_M x k_Weddings_takes [.ref 138, .ref 1, .int (jI m), .int 4, .int (jI a5)] (mk F4 G) = some (some (.int (jI 0)), mk F4 G) := b5
    refine ⟨F4, g4, ?_⟩
    rw [fR_0_10, Option.bind_some, fR_0_0, Option.bind_some, b5, b_I, if_pos (by decide), fin 5 (by omega) n5]
    rfl
  replace b5 : m_M x k_Weddings_takes [.ref 138, .ref 1, .int (jI m), .int 4, .int (jI a5)] (mk F4 G) = some (some (.int (jI 1)), mk F5 G) := b5
  rw [fR_0_10, Option.bind_some, fR_0_0, Option.bind_some, b5, b_I, if_neg (by decide)]
  rcases C_stage x F G (m := m) (L := L6 a1 a2 a3 a4 a5 a6) (k := 5) (F1 := F5) hi (by omega) hm1 (by omega) (hL _) s5 t5 g5 with ⟨n6, b6⟩ | ⟨F6, μ6, s6, t6, g6, b6⟩
  · replace b6 : m_M x k_Weddings_takes [.ref 138, .ref 1, .int (jI m), .int 5, .int (jI a6)] (mk F5 G) = some (some (.int (jI 0)), mk F5 G) := b6
    refine ⟨F5, g5, ?_⟩
    rw [fR_0_10, Option.bind_some, fR_0_0, Option.bind_some, b6, b_I, if_pos (by decide), fin 6 (by omega) n6]
    rfl
  replace b6 : m_M x k_Weddings_takes [.ref 138, .ref 1, .int (jI m), .int 5, .int (jI a6)] (mk F5 G) = some (some (.int (jI 1)), mk F6 G) := b6
  rw [fR_0_10, Option.bind_some, fR_0_0, Option.bind_some, b6, b_I, if_neg (by decide)]
  have ti := tk_i (by omega) (N := F 2 0) (by omega) 6 (by omega) μ6 s6
  have e2 := g6 2 (by omega) (by omega)
  have cr := C_restless x F6 G (μ := μ6) (m := m) (by rw [e2]; exact hi) t6 ti.2 (by omega) hm1 (by rw [e2]; omega)
  rw [e2] at cr
  refine ⟨F6, g6, ?_⟩
  rw [fR_0_10, Option.bind_some, fR_0_0, Option.bind_some, cr, b_I, s6]
theorem ok_unrest (hR : Rel F) {m a1 a2 a3 a4 a5 a6 : Int} (hm : rg m) (h1 : rg a1) (h2 : rg a2) (h3 : rg a3) (h4 : rg a4) (h5 : rg a5) (h6 : rg a6) : Ok x F G k_G_unrest k_M_unrest [.int (jI m), .int (jI a1), .int (jI a2), .int (jI a3), .int (jI a4), .int (jI a5), .int (jI a6)] := by
  have hi : WI (F 2) := RS_WI hR.1
  have hc := WI_c hi
  have hv := Rel_V hR
  have hL : ∀ k : Int, rg (L6 a1 a2 a3 a4 a5 a6 k) := by
    intro k
    unfold L6
    repeat' split
    all_goals assumption
  by_cases q : (1 ≤ m ∧ m ≤ 6) ∧ m < F 2 0
  · obtain ⟨F1, r1, r2⟩ := C_unrest x F G (m := m) (a1 := a1) (a2 := a2) (a3 := a3) (a4 := a4) (a5 := a5) (a6 := a6) hi q.1.1 q.1.2 q.2 hL
    have e150 := r1 150 (by omega) (by omega)
    obtain ⟨F2, z1, z2⟩ := M_unrest x F1 G (c := F 2) (m := m) (a1 := a1) (a2 := a2) (a3 := a3) (a4 := a4) (a5 := a5) (a6 := a6) (by rw [e150]; exact hv) hi q.1.1 q.1.2 q.2 hL
    have t := tk_to (L := L6 a1 a2 a3 a4 a5 a6) (m := m) (N := F 2 0) (k := m.toNat) (by omega) (6 - m.toNat)
    have e : m.toNat + (6 - m.toNat) = 6 := by omega
    rw [e] at t
    rw [← t] at z2
    refine ⟨_, _, _, _, r2, z2, ?_⟩
    refine Rel_ag hR ?_
    intro b hb
    rw [z1 b (by omega) (by omega), r1 b (by omega) (by omega)]
  · refine Ok_pure (v := jI (-1)) hR ?_ ?_
    · rw [E_G_unrest, isO_0, if_pos rfl, C_canWed x F G hi hm, if_neg q, b_I, if_pos (by decide)]
      rfl
    · rw [E_M_unrest, isO_149, if_pos rfl, M_canWed x F G (c := F 2) hv hi hm, if_neg q, b_I, if_pos (by decide)]
      rfl
end
