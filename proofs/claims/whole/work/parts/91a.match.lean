-- weddings none would leave: whatever the order of the asking, it ends alike
def dst (c : Fn) (p q : Int) : Int := if 0 ≤ c (1 + p) - c (1 + q) then c (1 + p) - c (1 + q) else -(c (1 + p) - c (1 + q))
/-- p would rather have a than b -/
def ah (c : Fn) (p a b : Int) : Prop := dst c p a < dst c p b ∨ (dst c p a = dst c p b ∧ a < b)
theorem ah_as {c : Fn} {p a b : Int} (h : ah c p a b) (h2 : ah c p b a) : False := by unfold ah at *; omega
theorem ah_tr {c : Fn} {p a b d : Int} (h : ah c p a b) (h2 : ah c p b d) : ah c p a d := by unfold ah at *; omega
theorem ah_to {c : Fn} {p a b : Int} (h : ¬ a = b) (h2 : ¬ ah c p a b) : ah c p b a := by unfold ah at *; omega
def VM (m N : Int) (μ : Fn) : Prop := (∀ p, 0 ≤ p → p < m → μ p = -1 ∨ (m ≤ μ p ∧ μ p < N ∧ μ (μ p) = p)) ∧ (∀ q, m ≤ q → q < N → μ q = -1 ∨ (0 ≤ μ q ∧ μ q < m ∧ μ (μ q) = q))
def SM (c : Fn) (m N : Int) (μ : Fn) : Prop := VM m N μ ∧ ∀ p q, 0 ≤ p → p < m → m ≤ q → q < N → ¬ μ p = q → (μ p = -1 ∨ ah c p q (μ p)) → (μ q = -1 ∨ ah c q p (μ q)) → False
/-- p has asked q -/
def Tq (as : Int → Nat) (p q : Int) : Prop := (as p).testBit q.toNat = true
def DA (c : Fn) (m N : Int) (μ : Fn) (as : Int → Nat) : Prop :=
  VM m N μ ∧ (∀ p, 0 ≤ p → p < m → ¬ μ p = -1 → Tq as p (μ p))
  ∧ (∀ p q r, 0 ≤ p → p < m → m ≤ q → q < N → m ≤ r → r < N → Tq as p q → ah c p r q → Tq as p r)
  ∧ (∀ p q, 0 ≤ p → p < m → m ≤ q → q < N → Tq as p q → ¬ μ p = q → ¬ μ q = -1 ∧ ah c q (μ q) p)
  ∧ ∀ M, SM c m N M → ∀ p q, 0 ≤ p → p < m → m ≤ q → q < N → Tq as p q → M p = q → μ p = q
def askd (as : Int → Nat) (p q : Int) : Int → Nat := fun k => if k = p then as p ||| 2 ^ q.toNat else as k
theorem Tq_askd (as : Int → Nat) {p q k z : Int} (hq : 0 ≤ q) (hz : 0 ≤ z) : Tq (askd as p q) k z ↔ Tq as k z ∨ (k = p ∧ z = q) := by
  unfold Tq askd
  by_cases e : k = p
  · rw [if_pos e, e, Nat.testBit_or, Nat.testBit_two_pow]
    have : (q.toNat = z.toNat) ↔ (z = q) := by omega
    simp [this]
  · rw [if_neg e]
    simp [e]
def wedF (μ : Fn) (p q : Int) : Fn := fun k => if k = q then p else if k = p then q else if k = μ q then -1 else μ k
theorem DA_yes {c : Fn} {m N : Int} {μ : Fn} {as : Int → Nat} {p q : Int} (h : DA c m N μ as) (hm : 0 ≤ m) (p0 : 0 ≤ p) (p1 : p < m) (hp : μ p = -1) (q0 : m ≤ q) (q1 : q < N) (hb : ∀ r, m ≤ r → r < N → ¬ Tq as p r → r = q ∨ ah c p q r) (hy : μ q = -1 ∨ ah c q p (μ q)) : DA c m N (wedF μ p q) (askd as p q) := by
  obtain ⟨hV, h2, h3, h4, h5⟩ := h
  have vq := hV.2 q q0 q1
  have wq : wedF μ p q q = p := by unfold wedF; rw [if_pos rfl]
  have wp : wedF μ p q p = q := by unfold wedF; rw [if_neg (by omega), if_pos rfl]
  have wo : ∀ k, ¬ k = q → ¬ k = p → ¬ k = μ q → wedF μ p q k = μ k := by
    intro k k1 k2 k3
    unfold wedF
    rw [if_neg k1, if_neg k2, if_neg k3]
  have wh : ¬ μ q = -1 → wedF μ p q (μ q) = -1 := by
    intro hh
    have hne : ¬ μ q = p := by
      intro e
      rw [e] at vq
      omega
    unfold wedF
    rw [if_neg (by omega), if_neg hne, if_pos rfl]
  have mq : ¬ μ q = -1 → μ (μ q) = q := by intro hh; omega
  refine ⟨⟨?_, ?_⟩, ?_, ?_, ?_, ?_⟩
  · intro k k0 k1
    by_cases e1 : k = p
    · rw [e1, wp, wq]; exact Or.inr ⟨q0, q1, rfl⟩
    · by_cases e2 : k = μ q
      · rw [e2]; exact Or.inl (wh (by omega))
      · rw [wo k (by omega) e1 e2]
        have v := hV.1 k k0 k1
        by_cases e3 : μ k = -1
        · exact Or.inl e3
        · right
          have e4 : ¬ μ k = q := by
            intro e
            have : μ (μ k) = k := by omega
            rw [e] at this
            omega
          rw [wo (μ k) e4 (by omega) (by omega)]
          omega
  · intro k k0 k1
    by_cases e1 : k = q
    · rw [e1, wq, wp]; exact Or.inr ⟨p0, p1, rfl⟩
    · rw [wo k e1 (by omega) (by omega)]
      have v := hV.2 k k0 k1
      by_cases e3 : μ k = -1
      · exact Or.inl e3
      · right
        have e4 : ¬ μ k = p := by
          intro e
          have : μ (μ k) = k := by omega
          rw [e, hp] at this
          omega
        have e5 : ¬ μ k = μ q := by
          intro e
          have a : μ (μ k) = k := by omega
          rw [e, mq (by omega)] at a
          omega
        rw [wo (μ k) (by omega) e4 e5]
        omega
  · intro k k0 k1 hk
    by_cases e1 : k = p
    · rw [e1, wp, Tq_askd as (by omega) (by omega)]
      exact Or.inr ⟨rfl, rfl⟩
    · by_cases e2 : k = μ q
      · rw [e2] at hk
        exact absurd (wh (by omega)) hk
      · rw [wo k (by omega) e1 e2] at hk ⊢
        have v := hV.1 k k0 k1
        rw [Tq_askd as (by omega) (by omega)]
        exact Or.inl (h2 k k0 k1 hk)
  · intro k z r k0 k1 z0 z1 r0 r1 ht ha
    rw [Tq_askd as (by omega) (by omega)] at ht ⊢
    rcases ht with ht | ⟨rfl, rfl⟩
    · exact Or.inl (h3 k z r k0 k1 z0 z1 r0 r1 ht ha)
    · by_cases e : Tq as k r
      · exact Or.inl e
      · rcases hb r r0 r1 e with e2 | e2
        · exact Or.inr ⟨rfl, e2⟩
        · exact absurd e2 (fun e3 => ah_as ha e3)
  · intro k z k0 k1 z0 z1 ht hk
    rw [Tq_askd as (by omega) (by omega)] at ht
    by_cases ez : z = q
    · rw [ez] at ht hk ⊢
      rw [wq]
      refine ⟨by omega, ?_⟩
      have ekp : ¬ k = p := by
        intro e
        rw [e, wp] at hk
        exact hk rfl
      have htk : Tq as k q := by
        rcases ht with ht | ⟨e, _⟩
        · exact ht
        · exact absurd e ekp
      by_cases e : μ k = q
      · have v := hV.1 k k0 k1
        have : μ q = k := by rw [← e]; omega
        rcases hy with hy | hy
        · omega
        · rw [this] at hy; exact hy
      · have i4 := h4 k q k0 k1 q0 q1 htk e
        rcases hy with hy | hy
        · exact absurd hy i4.1
        · exact ah_tr hy i4.2
    · have htk : Tq as k z := by
        rcases ht with ht | ⟨_, e⟩
        · exact ht
        · exact absurd e ez
      rw [wo z ez (by omega) (by omega)]
      refine h4 k z k0 k1 z0 z1 htk ?_
      by_cases e1 : k = p
      · rw [e1, hp]; omega
      · by_cases e2 : k = μ q
        · rw [e2, mq (by omega)]
          exact fun e => ez e.symm
        · rw [wo k (by omega) e1 e2] at hk
          exact hk
  · intro M hM k z k0 k1 z0 z1 ht hMk
    rw [Tq_askd as (by omega) (by omega)] at ht
    by_cases e0 : k = p ∧ z = q
    · rw [e0.1, e0.2, wp]
    · have htk : Tq as k z := by
        rcases ht with ht | e
        · exact ht
        · exact absurd e e0
      have o := h5 M hM k z k0 k1 z0 z1 htk hMk
      have ekp : ¬ k = p := by
        intro e
        rw [e, hp] at o
        omega
      by_cases e2 : k = μ q
      · exfalso
        have ezq : z = q := by rw [← o, e2]; exact mq (by omega)
        rw [ezq] at hMk
        have vM := hM.1.1 k k0 k1
        have hMq : M q = k := by
          rw [hMk] at vM
          omega
        rcases hy with hy | hy
        · omega
        · refine hM.2 p q p0 p1 q0 q1 ?_ ?_ (Or.inr ?_)
          · intro e
            have v2 := hM.1.1 p p0 p1
            rw [e] at v2
            omega
          · by_cases e3 : M p = -1
            · exact Or.inl e3
            · right
              have v2 := hM.1.1 p p0 p1
              by_cases e4 : Tq as p (M p)
              · have := h5 M hM p (M p) p0 p1 (by omega) (by omega) e4 rfl
                omega
              · rcases hb (M p) (by omega) (by omega) e4 with e5 | e5
                · exfalso
                  rw [e5] at v2
                  omega
                · exact e5
          · rw [hMq, e2]; exact hy
      · rw [wo k (by omega) ekp e2]
        exact o
theorem DA_no {c : Fn} {m N : Int} {μ : Fn} {as : Int → Nat} {p q : Int} (h : DA c m N μ as) (hm : 0 ≤ m) (p0 : 0 ≤ p) (p1 : p < m) (hp : μ p = -1) (q0 : m ≤ q) (q1 : q < N) (hb : ∀ r, m ≤ r → r < N → ¬ Tq as p r → r = q ∨ ah c p q r) (hy : ¬ μ q = -1 ∧ ¬ ah c q p (μ q)) : DA c m N μ (askd as p q) := by
  obtain ⟨hV, h2, h3, h4, h5⟩ := h
  have vq := hV.2 q q0 q1
  have mq : μ (μ q) = q := by omega
  have hne : ¬ p = μ q := by
    intro e
    rw [← e, hp] at mq
    omega
  have hr := ah_to hne hy.2
  refine ⟨hV, ?_, ?_, ?_, ?_⟩
  · intro k k0 k1 hk
    have v := hV.1 k k0 k1
    rw [Tq_askd as (by omega) (by omega)]
    exact Or.inl (h2 k k0 k1 hk)
  · intro k z r k0 k1 z0 z1 r0 r1 ht ha
    rw [Tq_askd as (by omega) (by omega)] at ht ⊢
    rcases ht with ht | ⟨rfl, rfl⟩
    · exact Or.inl (h3 k z r k0 k1 z0 z1 r0 r1 ht ha)
    · by_cases e : Tq as k r
      · exact Or.inl e
      · rcases hb r r0 r1 e with e2 | e2
        · exact Or.inr ⟨rfl, e2⟩
        · exact absurd e2 (fun e3 => ah_as ha e3)
  · intro k z k0 k1 z0 z1 ht hk
    rw [Tq_askd as (by omega) (by omega)] at ht
    rcases ht with ht | ⟨rfl, rfl⟩
    · exact h4 k z k0 k1 z0 z1 ht hk
    · exact ⟨hy.1, hr⟩
  · intro M hM k z k0 k1 z0 z1 ht hMk
    rw [Tq_askd as (by omega) (by omega)] at ht
    rcases ht with ht | ⟨rfl, rfl⟩
    · exact h5 M hM k z k0 k1 z0 z1 ht hMk
    · exfalso
      have vM := hM.1.1 k k0 k1
      have hMq : M z = k := by
        rw [hMk] at vM
        omega
      have g0 : 0 ≤ μ z ∧ μ z < m := by omega
      have hT : Tq as (μ z) z := by
        have := h2 (μ z) g0.1 g0.2 (by omega)
        rw [mq] at this
        exact this
      have v2 := hM.1.1 (μ z) g0.1 g0.2
      have hMh : ¬ M (μ z) = z := by
        intro e
        rw [e] at v2
        omega
      refine hM.2 (μ z) z g0.1 g0.2 z0 z1 hMh ?_ (Or.inr ?_)
      · by_cases e3 : M (μ z) = -1
        · exact Or.inl e3
        · right
          by_cases e4 : Tq as (μ z) (M (μ z))
          · have := h5 M hM (μ z) (M (μ z)) g0.1 g0.2 (by omega) (by omega) e4 rfl
            rw [mq] at this
            exact absurd this.symm hMh
          · refine ah_to hMh ?_
            intro e5
            exact e4 (h3 (μ z) z (M (μ z)) g0.1 g0.2 z0 z1 (by omega) (by omega) hT e5)
      · rw [hMq]; exact hr
theorem DA_st {c : Fn} {m N : Int} {μ : Fn} {as : Int → Nat} (h : DA c m N μ as) (hf : ∀ p, 0 ≤ p → p < m → μ p = -1 → ∀ q, m ≤ q → q < N → Tq as p q) : SM c m N μ := by
  obtain ⟨hV, h2, h3, h4, h5⟩ := h
  refine ⟨hV, ?_⟩
  intro p q p0 p1 q0 q1 hne hp hq
  have v := hV.1 p p0 p1
  have hT : Tq as p q := by
    by_cases e : μ p = -1
    · exact hf p p0 p1 e q q0 q1
    · rcases hp with hp | hp
      · exact absurd hp e
      · exact h3 p (μ p) q p0 p1 (by omega) (by omega) q0 q1 (h2 p p0 p1 e) hp
  have i4 := h4 p q p0 p1 q0 q1 hT hne
  rcases hq with hq | hq
  · exact i4.1 hq
  · exact ah_as hq i4.2
theorem DA_un {c : Fn} {m N : Int} {μ ν : Fn} {as bs : Int → Nat} (h : DA c m N μ as) (hf : ∀ p, 0 ≤ p → p < m → μ p = -1 → ∀ q, m ≤ q → q < N → Tq as p q) (k : DA c m N ν bs) (kf : ∀ p, 0 ≤ p → p < m → ν p = -1 → ∀ q, m ≤ q → q < N → Tq bs p q) : ∀ p, 0 ≤ p → p < N → μ p = ν p := by
  have s1 := DA_st h hf
  have s2 := DA_st k kf
  have key : ∀ p, 0 ≤ p → p < m → μ p = ν p := by
    intro p p0 p1
    have v1 := s1.1.1 p p0 p1
    have v2 := s2.1.1 p p0 p1
    by_cases e1 : μ p = -1
    · by_cases e2 : ν p = -1
      · rw [e1, e2]
      · exact h.2.2.2.2 ν s2 p (ν p) p0 p1 (by omega) (by omega) (hf p p0 p1 e1 _ (by omega) (by omega)) rfl
    · by_cases e2 : ν p = -1
      · exact (k.2.2.2.2 μ s1 p (μ p) p0 p1 (by omega) (by omega) (kf p p0 p1 e2 _ (by omega) (by omega)) rfl).symm
      · by_cases e3 : μ p = ν p
        · exact e3
        · by_cases e4 : ah c p (μ p) (ν p)
          · exact (k.2.2.2.2 μ s1 p (μ p) p0 p1 (by omega) (by omega) (k.2.2.1 p (ν p) (μ p) p0 p1 (by omega) (by omega) (by omega) (by omega) (k.2.1 p p0 p1 e2) e4) rfl).symm
          · exact h.2.2.2.2 ν s2 p (ν p) p0 p1 (by omega) (by omega) (h.2.2.1 p (μ p) (ν p) p0 p1 (by omega) (by omega) (by omega) (by omega) (h.2.1 p p0 p1 e1) (ah_to e3 e4)) rfl
  intro p p0 p1
  by_cases e : p < m
  · exact key p p0 e
  · have v1 := s1.1.2 p (by omega) p1
    have v2 := s2.1.2 p (by omega) p1
    by_cases e1 : μ p = -1
    · by_cases e2 : ν p = -1
      · rw [e1, e2]
      · exfalso
        have g : 0 ≤ ν p ∧ ν p < m := by omega
        have := key (ν p) g.1 g.2
        have w := s1.1.1 (ν p) g.1 g.2
        have z : ν (ν p) = p := by omega
        rw [this, z] at w
        omega
    · have g : 0 ≤ μ p ∧ μ p < m := by omega
      have a := key (μ p) g.1 g.2
      have z : μ (μ p) = p := by omega
      rw [z] at a
      have w := s2.1.1 (μ p) g.1 g.2
      rw [← a] at w
      omega
theorem DA_0 (c : Fn) (m N : Int) {μ : Fn} (h : ∀ p, 0 ≤ p → p < N → μ p = -1) (hm : 0 ≤ m) (hN : m ≤ N) : DA c m N μ (fun _ => 0) := by
  have no : ∀ p q, ¬ Tq (fun _ => 0) p q := by intro p q; unfold Tq; simp
  refine ⟨⟨fun p p0 p1 => Or.inl (h p p0 (by omega)), fun p p0 p1 => Or.inl (h p (by omega) p1)⟩, ?_, ?_, ?_, ?_⟩
  · intro p p0 p1 hp
    exact absurd (h p p0 (by omega)) hp
  · intro p q r _ _ _ _ _ _ ht
    exact absurd ht (no p q)
  · intro p q _ _ _ _ ht
    exact absurd ht (no p q)
  · intro M _ p q _ _ _ _ ht
    exact absurd ht (no p q)
