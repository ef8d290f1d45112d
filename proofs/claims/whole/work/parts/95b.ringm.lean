-- rings of lefts: the model, and both alike
theorem pc_64 : ∀ a b : Fin 64, (pcN (64 * a.val + b.val) : Int) = sm (fun i => if (64 * a.val + b.val).testBit i.toNat = true then 1 else 0) 12 := by decide +kernel
theorem pc_sm {S : Nat} (h : S < 4096) : (pcN S : Int) = sm (fun i => if S.testBit i.toNat = true then 1 else 0) 12 := by
  have q := pc_64 ⟨S / 64, by omega⟩ ⟨S % 64, by omega⟩
  have e : 64 * (S / 64) + S % 64 = S := Nat.div_add_mod S 64
  simp only [e] at q
  exact q
theorem pc_add {S : Nat} {g : Int} (h : S < 4096) (g0 : 0 ≤ g) (g1 : g < 12) (hb : ¬ S.testBit g.toNat = true) : S ||| 2 ^ g.toNat < 4096 ∧ pcN (S ||| 2 ^ g.toNat) = pcN S + 1 := by
  have l : S ||| 2 ^ g.toNat < 4096 := Nat.or_lt_two_pow (n := 12) h (Nat.pow_lt_pow_right (by omega) (by omega))
  refine ⟨l, ?_⟩
  have a := pc_sm h
  have b := pc_sm l
  have c := sm_at (f := fun i => if S.testBit i.toNat = true then 1 else 0) (g := fun i => if (S ||| 2 ^ g.toNat).testBit i.toNat = true then 1 else 0) (d := 1) g0 g1 (by
    intro j j0 j1 hj
    have t := tb_or (s := S) g0 j0
    by_cases e : S.testBit j.toNat = true
    · rw [if_pos e, if_pos (t.2 (Or.inl e))]
    · rw [if_neg e, if_neg]
      intro h2
      rcases t.1 h2 with h3 | h3
      · exact e h3
      · exact hj h3) (by
    rw [if_neg hb, if_pos ((tb_or (s := S) g0 g0).2 (Or.inr rfl))]
    omega)
  omega
theorem isS_ex {q : Nat → Int} : ∀ m : Nat, (∀ i, i < m → 0 ≤ q i ∧ q i < 12) → (∀ i j, i < m → j < m → q i = q j → i = j) → ∃ S, isS q m S ∧ pcN S = m := by
  intro m
  induction m with
  | zero =>
    intro _ _
    refine ⟨0, ⟨by omega, ?_⟩, rfl⟩
    intro g _ _
    simp
  | succ m ih =>
    intro h1 h2
    obtain ⟨S, s1, s2⟩ := ih (fun i hi => h1 i (by omega)) (fun i j hi hj => h2 i j (by omega) (by omega))
    have hm := h1 m (by omega)
    have nb : ¬ S.testBit (q m).toNat = true := by
      intro h
      obtain ⟨i, i1, i2⟩ := (s1.2 (q m) hm.1 hm.2).1 h
      have := h2 i m (by omega) (by omega) i2
      omega
    have p := pc_add s1.1 hm.1 hm.2 nb
    refine ⟨S ||| 2 ^ (q m).toNat, ?_, by omega⟩
    refine isS_cg ?_ (isS_ext s1 hm.1 hm.2)
    intro i hi
    by_cases e : i = m
    · rw [e, qx_m]
    · rw [qx_lt _ _ (by omega)]
theorem PT_inj {c : Fn} {q : Nat → Int} {m : Nat} (h : PT c q m) : ∀ i j, i < m → j < m → q i = q j → i = j := by
  intro i j hi hj e
  exact h.2.2.2 i j hi hj (by rw [e])
theorem RG_pc {c : Fn} {q : Nat → Int} {m S : Nat} (hi : WI c) (h : RGp c q m S) : pcN S = m := by
  have hc := WI_c hi
  obtain ⟨T, t1, t2⟩ := isS_ex (q := q) m (fun i hi => by have := h.1.1 i hi; omega) (PT_inj h.1)
  rw [isS_un h.2.2.2 t1]
  exact t2
theorem sm_eqp {f g : Int → Int} : ∀ n, 0 ≤ n → n ≤ 12 → (∀ i, 0 ≤ i → i < 12 → f i ≤ g i) → sm f n ≤ sm g n ∧ (sm f n = sm g n → ∀ i, 0 ≤ i → i < n → f i = g i) := by
  apply up
  · intro _
    exact ⟨Int.le_refl _, fun _ i _ _ => by omega⟩
  · intro n n0 n1 ih h
    obtain ⟨a, b⟩ := ih h
    have hn := h n n0 n1
    rw [sm_s _ n0, sm_s _ n0]
    refine ⟨by omega, ?_⟩
    intro e i i0 i1
    by_cases q : i = n
    · rw [q]; omega
    · exact b (by omega) i i0 (by omega)
theorem sub_eq {S T : Nat} (hS : S < 4096) (hT : T < 4096) (h : ∀ g : Int, 0 ≤ g → g < 12 → S.testBit g.toNat = true → T.testBit g.toNat = true) (hp : pcN S = pcN T) : ∀ g : Int, 0 ≤ g → g < 12 → (S.testBit g.toNat = true ↔ T.testBit g.toNat = true) := by
  have a := pc_sm hS
  have b := pc_sm hT
  have c := sm_eqp (f := fun i => if S.testBit i.toNat = true then 1 else 0) (g := fun i => if T.testBit i.toNat = true then 1 else 0) 12 (by omega) (by omega) (by
    intro i i0 i1
    by_cases e : S.testBit i.toNat = true
    · rw [if_pos e, if_pos (h i i0 i1 e)]
      omega
    · rw [if_neg e]
      split <;> omega)
  have d := c.2 (by omega)
  intro g g0 g1
  have := d g g0 g1
  constructor
  · exact h g g0 g1
  · intro ht
    rw [if_pos ht] at this
    by_cases e : S.testBit g.toNat = true
    · exact e
    · rw [if_neg e] at this
      omega
def RG (c : Fn) (S : Nat) : Prop := ∃ q m, RGp c q m S
/-- what is known of S when its gloves have been looked at from k on -/
def OKk (c : Fn) (S P : Nat) (k f : Int) : Prop :=
  (∀ g, k ≤ g → g < c 25 → S.testBit g.toNat = true → c (99 + g) = 0)
  ∧ (∀ g h, k ≤ g → g < c 25 → k ≤ h → h < c 25 → S.testBit g.toNat = true → S.testBit h.toNat = true → c (27 + g) = c (27 + h) → g = h)
  ∧ (∀ p, 0 ≤ p → p < 7 → (P.testBit p.toNat = true ↔ ∃ g, k ≤ g ∧ g < c 25 ∧ S.testBit g.toNat = true ∧ c (27 + g) = p))
  ∧ ((f = -1 ∧ ∀ g, k ≤ g → g < c 25 → ¬ S.testBit g.toNat = true) ∨ (k ≤ f ∧ f < c 25 ∧ S.testBit f.toNat = true ∧ ∀ g, k ≤ g → g < c 25 → S.testBit g.toNat = true → f ≤ g))
/-- a walk through S from its lowest glove -/
def WK (c : Fn) (S : Nat) (q : Nat → Int) (m : Nat) : Prop :=
  (∀ i, i < m → 0 ≤ q i ∧ q i < c 25 ∧ S.testBit (q i).toNat = true)
  ∧ (∀ i, i + 1 < m → c (27 + q (i + 1)) = c (39 + q i))
  ∧ (∀ i, i + 1 < m → ¬ c (39 + q i) = c (27 + q 0))
  ∧ (∀ g, 0 ≤ g → g < c 25 → S.testBit g.toNat = true → q 0 ≤ g)
theorem WK_ag {c : Fn} {S P : Nat} {q r : Nat → Int} {m n : Nat} {f : Int} (hi : WI c) (hO : OKk c S P 0 f) (hW : WK c S q m) (hR : RGp c r n S) : ∀ k, k < m → k < n ∧ r k = q k := by
  have hc := WI_c hi
  have rb : ∀ i, i < n → S.testBit (r i).toNat = true := by
    intro i hi'
    have a := hR.1.1 i hi'
    exact (hR.2.2.2.2 (r i) a.1 (by omega)).2 ⟨i, hi', rfl⟩
  intro k
  induction k with
  | zero =>
    intro h0
    have n2 := hR.2.1
    refine ⟨by omega, ?_⟩
    have a := hW.1 0 h0
    have b := hR.1.1 0 (by omega)
    have l := hW.2.2.2 (r 0) b.1 b.2.1 (rb 0 (by omega))
    obtain ⟨j, j1, j2⟩ := (hR.2.2.2.2 (q 0) a.1 (by omega)).1 a.2.2
    by_cases e : j = 0
    · rw [e] at j2; exact j2
    · have := hR.1.2.2.1 j (by omega) j1
      omega
  | succ k ih =>
    intro hk
    obtain ⟨i1, i2⟩ := ih (by omega)
    obtain ⟨z1, z2⟩ : 0 < n ∧ r 0 = q 0 := by
      by_cases e : k = 0
      · rw [e] at i1 i2
        exact ⟨i1, i2⟩
      · have n2 := hR.2.1
        refine ⟨by omega, ?_⟩
        have a := hW.1 0 (by omega)
        have b := hR.1.1 0 (by omega)
        have l := hW.2.2.2 (r 0) b.1 b.2.1 (rb 0 (by omega))
        obtain ⟨j, j1, j2⟩ := (hR.2.2.2.2 (q 0) a.1 (by omega)).1 a.2.2
        by_cases e : j = 0
        · rw [e] at j2; exact j2
        · have := hR.1.2.2.1 j (by omega) j1
          omega
    have hne := hW.2.2.1 k hk
    have h1 : k + 1 < n := by
      by_cases e : k + 1 = n
      · exfalso
        have cl := hR.2.2.1
        have e2 : n - 1 = k := by omega
        rw [e2, i2, z2] at cl
        exact hne cl
      · omega
    refine ⟨h1, ?_⟩
    have a := hR.1.2.1 k h1
    have b := hW.2.1 k hk
    rw [i2] at a
    have r1 := hR.1.1 (k + 1) h1
    have w1 := hW.1 (k + 1) hk
    exact hO.2.1 _ _ r1.1 r1.2.1 w1.1 w1.2.1 (rb _ h1) w1.2.2 (by rw [a, b])
theorem WK_RG {c : Fn} {S P : Nat} {q : Nat → Int} {m : Nat} {f : Int} (hi : WI c) (hS : S < 4096) (hO : OKk c S P 0 f) (hW : WK c S q m) (hm : 2 ≤ m) (hp : pcN S = m) (hcl : c (39 + q (m - 1)) = c (27 + q 0)) : RGp c q m S := by
  have hc := WI_c hi
  have ne0 : ∀ i, 0 < i → i < m → ¬ c (27 + q i) = c (27 + q 0) := by
    intro i i0 i1
    have a := hW.2.1 (i - 1) (by omega)
    have b := hW.2.2.1 (i - 1) (by omega)
    have e : i - 1 + 1 = i := by omega
    rw [e] at a
    rw [a]
    exact b
  have inS : ∀ i j, i < m → j < m → c (27 + q i) = c (27 + q j) → q i = q j := by
    intro i j hi' hj e
    have a := hW.1 i hi'
    have b := hW.1 j hj
    exact hO.2.1 _ _ a.1 a.2.1 b.1 b.2.1 a.2.2 b.2.2 e
  have inj : ∀ i j, i < j → j < m → ¬ c (27 + q i) = c (27 + q j) := by
    intro i j hij hj e
    by_cases i0 : i = 0
    · rw [i0] at e
      exact ne0 j (by omega) hj e.symm
    · have step : ∀ k, j + k < m → q (i + k) = q (j + k) := by
        intro k
        induction k with
        | zero =>
          intro _
          exact inS i j (by omega) hj e
        | succ k ih =>
          intro hk
          have := ih (by omega)
          have a := hW.2.1 (i + k) (by omega)
          have b := hW.2.1 (j + k) (by omega)
          refine inS (i + (k + 1)) (j + (k + 1)) (by omega) hk ?_
          show c (27 + q (i + k + 1)) = c (27 + q (j + k + 1))
          rw [a, b, this]
      have l := step (m - 1 - j) (by omega)
      have e1 : j + (m - 1 - j) = m - 1 := by omega
      rw [e1] at l
      have n1 := hW.2.2.1 (i + (m - 1 - j)) (by omega)
      rw [l] at n1
      exact n1 hcl
  have hPT : PT c q m := by
    refine ⟨?_, hW.2.1, ?_, ?_⟩
    · intro i hi'
      have a := hW.1 i hi'
      exact ⟨a.1, a.2.1, hO.1 _ a.1 a.2.1 a.2.2⟩
    · intro i i0 i1
      have a := hW.1 i i1
      have l := hW.2.2.2 (q i) a.1 a.2.1 a.2.2
      have n := ne0 i i0 i1
      by_cases e : q i = q 0
      · rw [e] at n
        exact absurd rfl n
      · omega
    · intro i j hi' hj e
      by_cases h1 : i < j
      · exact absurd e (inj i j h1 hj)
      · by_cases h2 : j < i
        · exact absurd e.symm (inj j i h2 hi')
        · omega
  refine ⟨hPT, hm, hcl, ?_⟩
  obtain ⟨T, t1, t2⟩ := isS_ex (q := q) m (fun i hi' => by have := hW.1 i hi'; omega) (PT_inj hPT)
  have sb := sub_eq t1.1 hS (by
    intro g g0 g1 hg
    obtain ⟨i, i1, i2⟩ := (t1.2 g g0 g1).1 hg
    rw [← i2]
    exact (hW.1 i i1).2.2) (by omega)
  refine ⟨hS, ?_⟩
  intro g g0 g1
  rw [← sb g g0 g1]
  exact t1.2 g g0 g1
section
variable (x : m_X) (F G : Nat → Fn)
theorem M_get0 {c : Fn} {g : Int} (hv : ∀ j, vok j → V (F 150) j = c j) (h0 : 0 ≤ g) (h1 : g < 12) : m_M x k_M_get [.ref 149, .int (jI g), .int (jI 0)] (mk F G) = some (some (.int (jI (c (27 + g)))), mk F G) := by
  rw [M_get x F G h0 h1 (by omega) (by omega)]
  have e : 27 + 12 * 0 + g = 27 + g := by omega
  rw [e, hv (27 + g) (by unfold vok; omega)]
theorem M_get1 {c : Fn} {g : Int} (hv : ∀ j, vok j → V (F 150) j = c j) (h0 : 0 ≤ g) (h1 : g < 12) : m_M x k_M_get [.ref 149, .int (jI g), .int (jI 1)] (mk F G) = some (some (.int (jI (c (39 + g)))), mk F G) := by
  rw [M_get x F G h0 h1 (by omega) (by omega)]
  have e : 27 + 12 * 1 + g = 39 + g := by omega
  rw [e, hv (39 + g) (by unfold vok; omega)]
theorem M_get6 {c : Fn} {g : Int} (hv : ∀ j, vok j → V (F 150) j = c j) (h0 : 0 ≤ g) (h1 : g < 12) : m_M x k_M_get [.ref 149, .int (jI g), .int (jI 6)] (mk F G) = some (some (.int (jI (c (99 + g)))), mk F G) := by
  rw [M_get x F G h0 h1 (by omega) (by omega)]
  have e : 27 + 12 * 6 + g = 99 + g := by omega
  rw [e, hv (99 + g) (by unfold vok; omega)]
theorem a11 {c : Fn} (hv : ∀ j, vok j → V (F 150) j = c j) : m_ia x (mk F G) 150 (jI 11) = some (jI (c 25)) := by
  rw [ia_150 x F G (by omega) (by omega), ← hv 25 (by unfold vok; omega)]
  rfl
/-- the next glove of the walk -/
theorem M_ring108 {c : Fn} {S m : Nat} {n2 : Int32} {f p : Int} (hv : ∀ j, vok j → V (F 150) j = c j) (hi : WI c) (hS : S < 4096) (p0 : 0 ≤ p) (p1 : p < 7) (hm : m ≤ 12) : ∀ g, 0 ≤ g → g ≤ c 25 → ∀ nx, ((nx = -1 ∧ ∀ z, 0 ≤ z → z < g → S.testBit z.toNat = true → ¬ c (27 + z) = p) ∨ (0 ≤ nx ∧ nx < g ∧ S.testBit nx.toNat = true ∧ c (27 + nx) = p)) → ∃ nx', ((nx' = -1 ∧ ∀ z, 0 ≤ z → z < c 25 → S.testBit z.toNat = true → ¬ c (27 + z) = p) ∨ (0 ≤ nx' ∧ nx' < c 25 ∧ S.testBit nx'.toNat = true ∧ c (27 + nx') = p)) ∧ m_D x 2 k_M_isRing 108 [some (.ref 149), some (.int (jI (S : Int))), some (.int n2), some (.int (jI f)), some (.int (jI p)), some (.int (jI (m : Int))), some (.int (jI nx)), some (.int (jI g))] [] (mk F G) = (if nx' = -1 then some (some (.int (jI 0)), mk F G) else if m = pcN S then some (some (.int (jI 0)), mk F G) else m_D x 2 k_M_isRing 91 [some (.ref 149), some (.int (jI (S : Int))), some (.int n2), some (.int (jI f)), some (.int (jI (c (39 + nx')))), some (.int (jI ((m + 1 : Nat) : Int))), some (.int (jI nx')), some (.int (jI (c 25)))] [] (mk F G)) := by
  have hc := WI_c hi
  have hpc : pcN S ≤ 12 := pc_le 12 S
  apply down
  · intro nx h
    refine ⟨nx, h, ?_⟩
    rw [E_M_isRing_108 x 2 (by omega), fR_149_0, Option.bind_some, show (11 : Int32) = jI 11 from by decide, a11 x F G hv, Option.bind_some, if_pos (Int32.le_refl _), show (-1 : Int32) = jI (-1) from rfl]
    by_cases q : nx = -1
    · rw [if_pos (by rw [q]), if_pos q]
      rfl
    · rw [if_neg (by rw [jI_eq (by omega) (by omega) (by omega) (by omega)]; omega), if_neg q, M_bits x F G hS, b_I]
      by_cases q2 : m = pcN S
      · rw [if_pos (by rw [q2]), if_pos q2]
        rfl
      · have em : ((m + 1 : Nat) : Int) = (m : Int) + 1 := by omega
        rw [if_neg (by rw [jI_eq (by omega) (by omega) (by omega) (by omega)]; omega), if_neg q2, show (1 : Int32) = jI 1 from rfl, M_get1 x F G hv (by omega) (by omega), b_I, jI_add, em]
  · intro g g0 g1 ih nx h
    have gg := WI_g hi g0 (by omega)
    rw [E_M_isRing_108 x 2 (by omega), fR_149_0, Option.bind_some, show (11 : Int32) = jI 11 from by decide, a11 x F G hv, Option.bind_some, if_neg (by rw [jI_le (by omega) (by omega) (by omega) (by omega)]; omega), M_has x F G g0 (by omega), b_I, show (1 : Int32) = jI 1 from rfl, jI_add, show (0 : Int32) = jI 0 from rfl]
    have same : (S.testBit g.toNat = true → ¬ c (27 + g) = p) → ∃ nx', ((nx' = -1 ∧ ∀ z, 0 ≤ z → z < c 25 → S.testBit z.toNat = true → ¬ c (27 + z) = p) ∨ (0 ≤ nx' ∧ nx' < c 25 ∧ S.testBit nx'.toNat = true ∧ c (27 + nx') = p)) ∧ m_D x 2 k_M_isRing 108 [some (.ref 149), some (.int (jI (S : Int))), some (.int n2), some (.int (jI f)), some (.int (jI p)), some (.int (jI (m : Int))), some (.int (jI nx)), some (.int (jI (g + 1)))] [] (mk F G) = (if nx' = -1 then some (some (.int (jI 0)), mk F G) else if m = pcN S then some (some (.int (jI 0)), mk F G) else m_D x 2 k_M_isRing 91 [some (.ref 149), some (.int (jI (S : Int))), some (.int n2), some (.int (jI f)), some (.int (jI (c (39 + nx')))), some (.int (jI ((m + 1 : Nat) : Int))), some (.int (jI nx')), some (.int (jI (c 25)))] [] (mk F G)) := by
      intro hno
      refine ih nx ?_
      rcases h with ⟨h1, h2⟩ | ⟨h1, h2, h3⟩
      · refine Or.inl ⟨h1, ?_⟩
        intro z z0 z1 hz
        by_cases e : z = g
        · rw [e] at hz ⊢
          exact hno hz
        · exact h2 z z0 (by omega) hz
      · exact Or.inr ⟨h1, by omega, h3⟩
    by_cases b : S.testBit g.toNat = true
    · rw [if_pos b, if_neg (by decide), M_get0 x F G hv g0 (by omega), b_I]
      by_cases q : c (27 + g) = p
      · rw [if_pos (by rw [q])]
        exact ih g (Or.inr ⟨g0, by omega, b, q⟩)
      · rw [if_neg (by rw [jI_eq (by omega) (by omega) (by omega) (by omega)]; omega)]
        exact same (fun _ => q)
    · rw [if_neg b, if_pos (by decide)]
      exact same (fun h => absurd h b)
theorem M_ring91 {c : Fn} {S P : Nat} {n2 : Int32} {f : Int} (hv : ∀ j, vok j → V (F 150) j = c j) (hi : WI c) (hS : S < 4096) (h2 : 2 ≤ pcN S) (hO : OKk c S P 0 f) : ∀ r m : Nat, m + r = pcN S → 1 ≤ m → ∀ q : Nat → Int, WK c S q m → q 0 = f → ∀ d6 d7, m_nl d6 = true → m_nl d7 = true → (RG c S ∧ m_D x 2 k_M_isRing 91 [some (.ref 149), some (.int (jI (S : Int))), some (.int n2), some (.int (jI f)), some (.int (jI (c (39 + q (m - 1))))), some (.int (jI (m : Int))), d6, d7] [] (mk F G) = some (some (.int (jI 1)), mk F G)) ∨ (¬ RG c S ∧ m_D x 2 k_M_isRing 91 [some (.ref 149), some (.int (jI (S : Int))), some (.int n2), some (.int (jI f)), some (.int (jI (c (39 + q (m - 1))))), some (.int (jI (m : Int))), d6, d7] [] (mk F G) = some (some (.int (jI 0)), mk F G)) := by
  have hc := WI_c hi
  have hpc : pcN S ≤ 12 := pc_le 12 S
  intro r
  induction r with
  | zero =>
    intro m hm h1 q hW hq d6 d7 n6 n7
    have z := hW.1 0 (by omega)
    have l := hW.1 (m - 1) (by omega)
    have zg := WI_g hi z.1 (by omega)
    have lg := WI_g hi l.1 (by omega)
    rw [E_M_isRing_91 x 2 (by omega) _ _ _ _ _ _ _ _ _ n6 n7, show (0 : Int32) = jI 0 from rfl, ← hq, M_get0 x F G hv z.1 (by omega), b_I]
    by_cases e : c (39 + q (m - 1)) = c (27 + q 0)
    · left
      refine ⟨⟨q, m, WK_RG hi hS hO hW (by omega) (by omega) e⟩, ?_⟩
      have em : m = pcN S := by omega
      rw [if_pos (by rw [e]), M_bits x F G hS, b_I, if_pos (by rw [← em])]
      rfl
    · right
      refine ⟨?_, ?_⟩
      · intro ⟨r', n, hR⟩
        have pn := RG_pc hi hR
        have ag := WK_ag hi hO hW hR
        have a0 := ag 0 (by omega)
        have al := ag (m - 1) (by omega)
        have cl := hR.2.2.1
        have en : n = m := by omega
        rw [en, al.2, a0.2] at cl
        exact e cl
      · rw [if_neg (by rw [jI_eq (by omega) (by omega) (by omega) (by omega)]; omega), show (-1 : Int32) = jI (-1) from rfl]
        obtain ⟨nx, y1, y2⟩ := M_ring108 x F G (c := c) (S := S) (m := m) (n2 := n2) (f := q 0) (p := c (39 + q (m - 1))) hv hi hS (by omega) (by omega) (by omega) 0 (by omega) (by omega) (-1) (Or.inl ⟨rfl, fun z _ _ => by omega⟩)
        rw [y2]
        by_cases qq : nx = -1
        · rw [if_pos qq]
        · rw [if_neg qq, if_pos (by omega)]
  | succ r ih =>
    intro m hm h1 q hW hq d6 d7 n6 n7
    have z := hW.1 0 (by omega)
    have l := hW.1 (m - 1) (by omega)
    have zg := WI_g hi z.1 (by omega)
    have lg := WI_g hi l.1 (by omega)
    rw [E_M_isRing_91 x 2 (by omega) _ _ _ _ _ _ _ _ _ n6 n7, show (0 : Int32) = jI 0 from rfl, ← hq, M_get0 x F G hv z.1 (by omega), b_I]
    by_cases e : c (39 + q (m - 1)) = c (27 + q 0)
    · right
      refine ⟨?_, ?_⟩
      · intro ⟨r', n, hR⟩
        have pn := RG_pc hi hR
        have ag := WK_ag hi hO hW hR
        have a0 := ag 0 (by omega)
        have al := ag (m - 1) (by omega)
        have ch := hR.1.2.1 (m - 1) (by omega)
        have e1 : m - 1 + 1 = m := by omega
        rw [e1, al.2, e, ← a0.2] at ch
        have := hR.1.2.2.2 m 0 (by omega) (by omega) ch
        omega
      · rw [if_pos (by rw [e]), M_bits x F G hS, b_I, if_neg (by rw [jI_eq (by omega) (by omega) (by omega) (by omega)]; omega)]
    · rw [if_neg (by rw [jI_eq (by omega) (by omega) (by omega) (by omega)]; omega), show (-1 : Int32) = jI (-1) from rfl]
      obtain ⟨nx, y1, y2⟩ := M_ring108 x F G (c := c) (S := S) (m := m) (n2 := n2) (f := q 0) (p := c (39 + q (m - 1))) hv hi hS (by omega) (by omega) (by omega) 0 (by omega) (by omega) (-1) (Or.inl ⟨rfl, fun z _ _ => by omega⟩)
      rw [y2]
      rcases y1 with ⟨w1, w2⟩ | ⟨w1, w2, w3, w4⟩
      · right
        refine ⟨?_, by rw [if_pos w1]⟩
        intro ⟨r', n, hR⟩
        have pn := RG_pc hi hR
        have ag := WK_ag hi hO hW hR
        have al := ag (m - 1) (by omega)
        have ch := hR.1.2.1 (m - 1) (by omega)
        have e1 : m - 1 + 1 = m := by omega
        rw [e1, al.2] at ch
        have a := hR.1.1 m (by omega)
        exact w2 (r' m) a.1 a.2.1 ((hR.2.2.2.2 (r' m) a.1 (by omega)).2 ⟨m, by omega, rfl⟩) ch
      · rw [if_neg (by omega), if_neg (by omega)]
        have em : m + 1 - 1 = m := by omega
        have hW2 : WK c S (qx q m nx) (m + 1) := by
          refine ⟨?_, ?_, ?_, ?_⟩
          · intro i hi'
            by_cases ee : i = m
            · rw [ee, qx_m]
              exact ⟨w1, w2, w3⟩
            · rw [qx_lt _ _ (by omega)]
              exact hW.1 i (by omega)
          · intro i hi'
            by_cases ee : i + 1 = m
            · have e3 : m - 1 = i := by omega
              rw [ee, qx_m, qx_lt _ _ (by omega), w4, e3]
            · rw [qx_lt _ _ (by omega), qx_lt _ _ (by omega)]
              exact hW.2.1 i (by omega)
          · intro i hi'
            rw [qx_lt _ _ (by omega), qx_lt (i := 0) _ _ (by omega)]
            by_cases ee : i + 1 = m
            · have e3 : m - 1 = i := by omega
              rw [← e3]
              exact e
            · exact hW.2.2.1 i (by omega)
          · rw [qx_lt (i := 0) _ _ (by omega)]
            exact hW.2.2.2
        have z := ih (m + 1) (by omega) (by omega) (qx q m nx) hW2 (by rw [qx_lt _ _ (by omega)]; exact hq) (some (.int (jI nx))) (some (.int (jI (c 25)))) rfl rfl
        rw [em, qx_m, ← hq] at z
        exact z
theorem M_ring15 {c : Fn} {S : Nat} (hv : ∀ j, vok j → V (F 150) j = c j) (hi : WI c) (hS : S < 2 ^ (c 25).toNat) (h2 : 2 ≤ pcN S) : ∀ k : Nat, (k : Int) ≤ c 25 → ∀ (P : Nat) (f : Int), P < 128 → OKk c S P k f → (RG c S ∧ m_D x 2 k_M_isRing 15 [some (.ref 149), some (.int (jI (S : Int))), some (.int (jI (P : Int))), some (.int (jI f)), some (.int (jI ((k : Int) - 1))), none, none, none] [] (mk F G) = some (some (.int (jI 1)), mk F G)) ∨ (¬ RG c S ∧ m_D x 2 k_M_isRing 15 [some (.ref 149), some (.int (jI (S : Int))), some (.int (jI (P : Int))), some (.int (jI f)), some (.int (jI ((k : Int) - 1))), none, none, none] [] (mk F G) = some (some (.int (jI 0)), mk F G)) := by
  have hc := WI_c hi
  have hS2 : S < 4096 := Nat.lt_of_lt_of_le hS (show 2 ^ (c 25).toNat ≤ 2 ^ 12 from Nat.pow_le_pow_right (by omega) (by omega))
  intro k
  induction k with
  | zero =>
    intro _ P f hP hO
    have e : ((0 : Nat) : Int) - 1 = -1 := by omega
    rw [e, E_M_isRing_15 x 2 (by omega), show (0 : Int32) = jI 0 from rfl, if_pos (by rw [jI_lt (by omega) (by omega) (by omega) (by omega)]; omega)]
    have hf : 0 ≤ f ∧ f < c 25 ∧ S.testBit f.toNat = true ∧ ∀ g, 0 ≤ g → g < c 25 → S.testBit g.toNat = true → f ≤ g := by
      rcases hO.2.2.2 with ⟨f1, f2⟩ | f2
      · exfalso
        have s0 : S = 0 := by
          apply Nat.eq_of_testBit_eq
          intro i
          rw [Nat.zero_testBit]
          by_cases hi' : i < (c 25).toNat
          · have := f2 i (by omega) (by omega)
            rw [Int.toNat_natCast] at this
            simpa using this
          · exact Nat.testBit_lt_two_pow (Nat.lt_of_lt_of_le hS (Nat.pow_le_pow_right (by omega) (by omega)))
        rw [s0] at h2
        have : pcN 0 = 0 := rfl
        omega
      · exact f2
    rw [show (1 : Int32) = jI 1 from rfl, M_get1 x F G hv hf.1 (by omega), b_I]
    have hW : WK c S (fun _ => f) 1 := by
      refine ⟨fun _ _ => ⟨hf.1, hf.2.1, hf.2.2.1⟩, fun i h => by omega, fun i h => by omega, hf.2.2.2⟩
    exact M_ring91 x F G (c := c) (S := S) (P := P) (n2 := jI (P : Int)) (f := f) hv hi hS2 h2 hO (pcN S - 1) 1 (by omega) (by omega) (fun _ => f) hW rfl none none rfl rfl
  | succ k ih =>
    intro hk P f hP hO
    have e : ((k + 1 : Nat) : Int) - 1 = (k : Int) := by omega
    have e1 : ((k + 1 : Nat) : Int) = (k : Int) + 1 := by omega
    have kg := WI_g hi (show 0 ≤ (k : Int) by omega) (by omega)
    rw [e1] at hO
    rw [e, E_M_isRing_15 x 2 (by omega), show (0 : Int32) = jI 0 from rfl, if_neg (by rw [jI_lt (by omega) (by omega) (by omega) (by omega)]; omega), M_has x F G (by omega) (by omega), b_I, show (-1 : Int32) = jI (-1) from rfl, jI_add, show (k : Int) + -1 = (k : Int) - 1 from by omega]
    by_cases b : S.testBit (k : Int).toNat = true
    · rw [if_pos b, if_neg (by decide), show (6 : Int32) = jI 6 from by decide, M_get6 x F G hv (by omega) (by omega), b_I]
      by_cases o : c (99 + (k : Int)) = 0
      · rw [if_pos (by rw [jI_eq (by omega) (by omega) (by omega) (by omega)]; omega), M_get0 x F G hv (by omega) (by omega), b_I, M_has x F G (by omega) (by omega), b_I]
        have hb := hO.2.2.1 (c (27 + (k : Int))) (by omega) (by omega)
        by_cases q : P.testBit (c (27 + (k : Int))).toNat = true
        · right
          refine ⟨?_, by rw [if_pos q, if_neg (by decide)]⟩
          obtain ⟨g, g1, g2, g3, g4⟩ := hb.1 q
          intro ⟨r, n, hR⟩
          obtain ⟨i, i1, i2⟩ := (hR.2.2.2.2 g (by omega) (by omega)).1 g3
          obtain ⟨j, j1, j2⟩ := (hR.2.2.2.2 (k : Int) (by omega) (by omega)).1 b
          have := hR.1.2.2.2 i j i1 j1 (by rw [i2, j2]; exact g4)
          rw [this, j2] at i2
          omega
        · rw [if_neg q, if_pos (by decide), M_get0 x F G hv (by omega) (by omega), b_I]
          have el : c (27 + (k : Int)) = (((c (27 + (k : Int))).toNat : Nat) : Int) := by omega
          have eshp : jI (P : Int) ||| (jI 1 <<< (jI (c (27 + (k : Int))) &&& jI 31)) = jI ((P ||| 2 ^ (c (27 + (k : Int))).toNat : Nat) : Int) := by
            rw [el, nshl (by omega), nor, Int.toNat_natCast]
          rw [show (31 : Int32) = jI 31 from by decide, show (1 : Int32) = jI 1 from rfl, eshp]
          have hP' : P ||| 2 ^ (c (27 + (k : Int))).toNat < 2 ^ 7 := Nat.or_lt_two_pow hP (Nat.pow_lt_pow_right (by omega) (by omega))
          refine ih (by omega) _ _ hP' ?_
          refine ⟨?_, ?_, ?_, ?_⟩
          · intro g g1 g2 hg
            by_cases eg : g = k
            · rw [eg]; exact o
            · exact hO.1 g (by omega) g2 hg
          · intro g h g1 g2 h1 h2' hg hh e2
            by_cases eg : g = k
            · by_cases eh : h = k
              · omega
              · exfalso
                rw [eg] at e2
                exact q (hb.2 ⟨h, by omega, h2', hh, e2.symm⟩)
            · by_cases eh : h = k
              · exfalso
                rw [eh] at e2
                exact q (hb.2 ⟨g, by omega, g2, hg, e2⟩)
              · exact hO.2.1 g h (by omega) g2 (by omega) h2' hg hh e2
          · intro p p0 p1
            rw [tb_or (by omega) p0, hO.2.2.1 p p0 p1]
            constructor
            · rintro (⟨g, g1, g2, g3, g4⟩ | e2)
              · exact ⟨g, by omega, g2, g3, g4⟩
              · exact ⟨k, by omega, by omega, b, e2.symm⟩
            · intro ⟨g, g1, g2, g3, g4⟩
              by_cases eg : g = k
              · rw [eg] at g4
                exact Or.inr g4.symm
              · exact Or.inl ⟨g, by omega, g2, g3, g4⟩
          · right
            exact ⟨by omega, by omega, b, fun g g1 _ _ => g1⟩
      · right
        refine ⟨?_, by rw [if_neg (by rw [jI_eq (by omega) (by omega) (by omega) (by omega)]; omega)]⟩
        intro ⟨r, n, hR⟩
        obtain ⟨i, i1, i2⟩ := (hR.2.2.2.2 (k : Int) (by omega) (by omega)).1 b
        have := (hR.1.1 i i1).2.2
        rw [i2] at this
        exact o this
    · rw [if_neg b, if_pos (by decide)]
      refine ih (by omega) P f hP ?_
      refine ⟨?_, ?_, ?_, ?_⟩
      · intro g g1 g2 hg
        by_cases eg : g = k
        · rw [eg] at hg; exact absurd hg b
        · exact hO.1 g (by omega) g2 hg
      · intro g h g1 g2 h1 h2' hg hh e2
        by_cases eg : g = k
        · rw [eg] at hg; exact absurd hg b
        · by_cases eh : h = k
          · rw [eh] at hh; exact absurd hh b
          · exact hO.2.1 g h (by omega) g2 (by omega) h2' hg hh e2
      · intro p p0 p1
        rw [hO.2.2.1 p p0 p1]
        constructor
        · intro ⟨g, g1, g2, g3, g4⟩
          exact ⟨g, by omega, g2, g3, g4⟩
        · intro ⟨g, g1, g2, g3, g4⟩
          by_cases eg : g = k
          · rw [eg] at g3; exact absurd g3 b
          · exact ⟨g, by omega, g2, g3, g4⟩
      · rcases hO.2.2.2 with ⟨f1, f2⟩ | ⟨f1, f2, f3, f4⟩
        · left
          refine ⟨f1, ?_⟩
          intro g g1 g2
          by_cases eg : g = k
          · rw [eg]; exact b
          · exact f2 g (by omega) g2
        · right
          refine ⟨by omega, f2, f3, ?_⟩
          intro g g1 g2 hg
          by_cases eg : g = k
          · rw [eg] at hg; exact absurd hg b
          · exact f4 g (by omega) g2 hg
theorem M_isRing {c : Fn} {S : Nat} (hv : ∀ j, vok j → V (F 150) j = c j) (hi : WI c) (hS : S < 2 ^ (c 25).toNat) (h2 : 2 ≤ pcN S) : (RG c S ∧ m_M x k_M_isRing [.ref 149, .int (jI (S : Int))] (mk F G) = some (some (.int (jI 1)), mk F G)) ∨ (¬ RG c S ∧ m_M x k_M_isRing [.ref 149, .int (jI (S : Int))] (mk F G) = some (some (.int (jI 0)), mk F G)) := by
  have hc := WI_c hi
  have z := M_ring15 x F G hv hi hS h2 (c 25).toNat (by omega) 0 (-1) (by omega) (by
    refine ⟨fun g g1 g2 => by omega, fun g h g1 g2 => by omega, ?_, Or.inl ⟨rfl, fun g g1 g2 => by omega⟩⟩
    intro p p0 p1
    simp
    intro g g1 g2
    omega)
  have e : ((c 25).toNat : Int) - 1 = c 25 - 1 := by omega
  rw [e] at z
  rw [E_M_isRing, isO_149, if_pos rfl, fR_149_0, Option.bind_some, show (11 : Int32) = jI 11 from by decide, a11 x F G hv, Option.bind_some, show (-1 : Int32) = jI (-1) from rfl, show (1 : Int32) = jI 1 from rfl, jI_sub, show (0 : Int32) = jI 0 from rfl]
  exact z
/-- f is the least ring of those below n -/
def LR (c : Fn) (f : Nat) (n : Int) : Prop := (f = 0 ∨ (RG c f ∧ 2 ≤ pcN f ∧ pcN f ≤ 7 ∧ (f : Int) < n)) ∧ ∀ (q : Nat → Int) (m S : Nat), (S : Int) < n → RGp c q m S → m ≤ 7 → ¬ f = 0 ∧ (pcN f < m ∨ (pcN f = m ∧ f ≤ S))
theorem M_ring {c : Fn} (hv : ∀ j, vok j → V (F 150) j = c j) (hi : WI c) : ∃ f : Nat, m_M x k_M_ring [.ref 149] (mk F G) = some (some (.int (jI (f : Int))), mk F G) ∧ LR c f 4096 := by
  have hc := WI_c hi
  have hP : 2 ^ (c 25).toNat ≤ 2 ^ 12 := Nat.pow_le_pow_right (by omega) (by omega)
  have en : ((c 25).toNat : Int) = c 25 := by omega
  have esh : jI 1 <<< (jI (c 25) &&& jI 31) = jI ((2 ^ (c 25).toNat : Nat) : Int) := by
    have := nshl (n := (c 25).toNat) (by omega)
    rw [en] at this
    exact this
  have fin : ∀ f : Nat, ∀ n : Int, ((2 ^ (c 25).toNat : Nat) : Int) ≤ n → n ≤ 4096 → LR c f n → LR c f 4096 := by
    intro f n h1 h1' h2
    refine ⟨?_, ?_⟩
    · rcases h2.1 with h3 | ⟨h3, h4, h5, h6⟩
      · exact Or.inl h3
      · exact Or.inr ⟨h3, h4, h5, by omega⟩
    · intro q m S hS hR hm
      refine h2.2 q m S ?_ hR hm
      have : S < 2 ^ (c 25).toNat := by
        apply Nat.lt_pow_two_of_testBit
        intro i hi'
        by_cases e : i < 12
        · cases hb : S.testBit i with
          | false => rfl
          | true =>
            exfalso
            obtain ⟨j, j1, j2⟩ := (hR.2.2.2.2 (i : Int) (by omega) (by omega)).1 (by rw [Int.toNat_natCast]; exact hb)
            have := hR.1.1 j j1
            omega
        · have p : 4096 ≤ 2 ^ i := Nat.le_trans (show 4096 ≤ 2 ^ 12 by decide) (Nat.pow_le_pow_right (by omega) (by omega))
          exact Nat.testBit_lt_two_pow (Nat.lt_of_lt_of_le hR.2.2.2.1 p)
      omega
  have small : ∀ n : Int, n ≤ 3 → LR c 0 n := by
    intro n hn
    refine ⟨Or.inl rfl, ?_⟩
    intro q m S hS hR hm
    exfalso
    have p := RG_pc hi hR
    have m2 := hR.2.1
    have : ∀ k : Fin 3, pcN k.val ≤ 1 := by decide +kernel
    have := this ⟨S, by omega⟩
    simp only at this
    omega
  have key : ∀ n, 3 ≤ n → n ≤ ((2 ^ (c 25).toNat : Nat) : Int) → ∀ f : Nat, LR c f n → ∃ f2 : Nat, m_D x 3 k_M_ring 4 [some (.ref 149), some (.int (jI (f : Int))), some (.int (jI n))] [] (mk F G) = some (some (.int (jI (f2 : Int))), mk F G) ∧ LR c f2 4096 := by
    apply down
    · intro f hf
      refine ⟨f, ?_, fin f _ (Int.le_refl _) (by omega) hf⟩
      rw [E_M_ring_4 x 3 (by omega), fR_149_0, Option.bind_some, show (11 : Int32) = jI 11 from by decide, a11 x F G hv, Option.bind_some, show (31 : Int32) = jI 31 from by decide, show (1 : Int32) = jI 1 from rfl, esh, if_pos (Int32.le_refl _)]
    · intro n n0 n1 ih f hf
      obtain ⟨S, eS⟩ : ∃ S : Nat, n = (S : Int) := ⟨n.toNat, by omega⟩
      subst eS
      have hpc : pcN S ≤ 12 := pc_le 12 S
      have hpf : pcN f ≤ 12 := pc_le 12 f
      -- S changes nothing
      have skip : (∀ (q : Nat → Int) (m : Nat), RGp c q m S → m ≤ 7 → ¬ f = 0 ∧ (pcN f < m ∨ (pcN f = m ∧ f ≤ S))) → ∃ f2 : Nat, m_D x 3 k_M_ring 4 [some (.ref 149), some (.int (jI (f : Int))), some (.int (jI ((S : Int) + 1)))] [] (mk F G) = some (some (.int (jI (f2 : Int))), mk F G) ∧ LR c f2 4096 := by
        intro hs
        refine ih f ⟨?_, ?_⟩
        · rcases hf.1 with h3 | ⟨h3, h4, h5, h6⟩
          · exact Or.inl h3
          · exact Or.inr ⟨h3, h4, h5, by omega⟩
        · intro q m T hT hR hm
          by_cases e : T = S
          · rw [e] at hR ⊢
            exact hs q m hR hm
          · exact hf.2 q m T (by omega) hR hm
      have ask : 2 ≤ pcN S → pcN S ≤ 7 → (f = 0 ∨ pcN S < pcN f) → ∃ f2 : Nat, (m_bI (m_M x k_M_isRing [.ref 149, .int (jI (S : Int))] (mk F G)) fun v51 s51 => if v51 = jI 0 then (m_D x 3 k_M_ring 4 [some (.ref 149), some (.int (jI (f : Int))), some (.int (jI ((S : Int) + 1)))] [] s51) else m_D x 3 k_M_ring 4 [some (.ref 149), some (.int (jI (S : Int))), some (.int (jI ((S : Int) + 1)))] [] s51) = some (some (.int (jI (f2 : Int))), mk F G) ∧ LR c f2 4096 := by
        intro p2 p7 hlt
        rcases M_isRing x F G hv hi (S := S) (by omega) p2 with ⟨r1, r2⟩ | ⟨r1, r2⟩
        · rw [r2, b_I, if_neg (by decide)]
          refine ih S ⟨Or.inr ⟨r1, p2, p7, by omega⟩, ?_⟩
          intro q m T hT hR hm
          refine ⟨by omega, ?_⟩
          by_cases e : T = S
          · rw [e] at hR
            have := RG_pc hi hR
            omega
          · have := hf.2 q m T (by omega) hR hm
            rcases hlt with hlt | hlt
            · exact absurd hlt this.1
            · omega
        · rw [r2, b_I, if_pos (by decide)]
          refine skip ?_
          intro q m hR _
          exact absurd ⟨q, m, hR⟩ r1
      have mb := M_bits x F G (s := S) (by omega)
      rw [E_M_ring_4 x 3 (by omega), fR_149_0, Option.bind_some, show (11 : Int32) = jI 11 from by decide, a11 x F G hv, Option.bind_some, show (31 : Int32) = jI 31 from by decide, show (1 : Int32) = jI 1 from rfl, esh, if_neg (by rw [jI_le (by omega) (by omega) (by omega) (by omega)]; omega), mb, b_I, jI_add]
      by_cases q1 : pcN S ≤ 1
      · rw [if_pos (by rw [jI_le (by omega) (by omega) (by omega) (by omega)]; omega)]
        refine skip ?_
        intro q m hR _
        have := RG_pc hi hR
        have := hR.2.1
        omega
      · rw [if_neg (by rw [jI_le (by omega) (by omega) (by omega) (by omega)]; omega), mb, b_I, show (8 : Int32) = jI 8 from by decide]
        by_cases q2 : 8 ≤ pcN S
        · rw [if_pos (by rw [jI_le (by omega) (by omega) (by omega) (by omega)]; omega)]
          refine skip ?_
          intro q m hR _
          have := RG_pc hi hR
          omega
        · rw [if_neg (by rw [jI_le (by omega) (by omega) (by omega) (by omega)]; omega), show (0 : Int32) = jI 0 from rfl]
          by_cases q3 : f = 0
          · rw [if_pos (by rw [q3]; rfl)]
            exact ask (by omega) (by omega) (Or.inl q3)
          · have hfl : f < 4096 := by
              rcases hf.1 with h3 | ⟨h3, h4, h5, h6⟩
              · exact absurd h3 q3
              · omega
            rw [if_neg (by rw [jI_eq (by omega) (by omega) (by omega) (by omega)]; omega), mb, b_I, M_bits x F G hfl, b_I]
            by_cases q4 : pcN f ≤ pcN S
            · rw [if_pos (by rw [jI_le (by omega) (by omega) (by omega) (by omega)]; omega)]
              refine skip ?_
              intro q m hR _
              have := RG_pc hi hR
              refine ⟨q3, ?_⟩
              have hfS : f < S := by
                rcases hf.1 with h3 | ⟨h3, h4, h5, h6⟩
                · exact absurd h3 q3
                · omega
              omega
            · rw [if_neg (by rw [jI_le (by omega) (by omega) (by omega) (by omega)]; omega)]
              exact ask (by omega) (by omega) (Or.inr (by omega))
  rw [E_M_ring, isO_149, if_pos rfl, show (3 : Int32) = jI 3 from by decide, show (0 : Int32) = jI 0 from rfl]
  by_cases q : (3 : Int) ≤ ((2 ^ (c 25).toNat : Nat) : Int)
  · exact key 3 (by omega) q 0 (small 3 (by omega))
  · have pn := p2nn (c 25).toNat
    refine ⟨0, ?_, fin 0 3 (by omega) (by omega) (small 3 (by omega))⟩
    rw [E_M_ring_4 x 3 (by omega), fR_149_0, Option.bind_some, show (11 : Int32) = jI 11 from by decide, a11 x F G hv, Option.bind_some, show (31 : Int32) = jI 31 from by decide, show (1 : Int32) = jI 1 from rfl, esh, if_pos (by rw [jI_le (by omega) (by omega) (by omega) (by omega)]; omega)]
    rfl
theorem ok_ring (hR : Rel F) : Ok x F G k_G_ring k_M_ring [] := by
  have hi : WI (F 2) := RS_WI hR.1
  have hv := Rel_V hR
  obtain ⟨F2, c1, c2, c3, c4⟩ := C_ring x F G hi
  obtain ⟨f, m1, m2⟩ := M_ring x F2 G (c := F 2) (by rw [c2 150 (by omega)]; exact hv) hi
  have e : F2 141 2 = (f : Int) := by
    rcases c3 with ⟨a1, a2⟩ | ⟨q, m, S, a1, a2, a3, a4⟩
    · rcases m2.1 with b | ⟨⟨r, n, b1⟩, b2, b3, b4⟩
      · omega
      · exfalso
        have p := RG_pc hi b1
        have l := c4 r n f b1 (by omega)
        unfold lxl at l
        omega
    · have hS := a4.2.2.2.1
      have l1 := m2.2 q m S (by omega) a4 a3
      rcases m2.1 with b | ⟨⟨r, n, b1⟩, b2, b3, b4⟩
      · exact absurd b l1.1
      · have p := RG_pc hi b1
        have l := c4 r n f b1 (by omega)
        unfold lxl at l
        omega
  rw [e] at c1
  refine ⟨_, _, _, _, c1, m1, ?_⟩
  refine Rel_ag hR ?_
  intro b hb
  exact c2 b (by omega)
end
