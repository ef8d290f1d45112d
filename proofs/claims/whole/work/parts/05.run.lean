-- the small machine's runs, and what a place of a method comes to (m_D), a method (m_M): equations without fuel
def m_ai (as : List Value) (n : Nat) : Nat := match as[n]? with
  | some (.int v) => v.toNatClampNeg
  | _ => 0
def m_rank (k : Nat) (as : List Value) : Nat :=
  if (m_rb.getD k (0, 0, 0)).2.1 = 0 then (m_rb.getD k (0, 0, 0)).1
  else if (m_rb.getD k (0, 0, 0)).2.1 = 1 then (m_rb.getD k (0, 0, 0)).1 + (m_rb.getD k (0, 0, 0)).2.2 + 8 * (10 - m_ai as 1)
  else (m_rb.getD k (0, 0, 0)).1 + (10 - m_ai as 6)
def m_run (x : m_X) : Nat → Nat → Nat → Nat → m_L → List Value → m_H → Option m_R
  | 0, _, _, _, _, _, _ => none
  | n + 1, ρ, k, pc, L, st, σ => match m_nxt x k pc L st σ with
    | none => none
    | some (.inl (pc', L', st', σ')) => m_run x n ρ k pc' L' st' σ'
    | some (.inr (.inl (k', as, pc', st'))) =>
      if m_rank k' as < ρ ∧ m_rc k' as σ = true then
        (m_run x n (m_rank k' as) k' 0 (m_en k' as) [] σ).bind fun r => m_run x n ρ k pc' L (r.1.toList ++ st') r.2
      else none
    | some (.inr (.inr r)) => some (r, σ)
theorem m_run_mono (x : m_X) : ∀ (n ρ k pc : Nat) (L : m_L) (st : List Value) (σ : m_H) (r : m_R), m_run x n ρ k pc L st σ = some r → m_run x (n + 1) ρ k pc L st σ = some r := by
  intro n
  induction n with
  | zero => intro ρ k pc L st σ r h; simp [m_run] at h
  | succ n ih =>
    intro ρ k pc L st σ r h
    rw [m_run] at h ⊢
    split at h
    · cases h
    · exact ih _ _ _ _ _ _ _ h
    · split at h
      · rename_i hc
        rw [if_pos hc]
        obtain ⟨q, h1, h2⟩ := Option.bind_eq_some_iff.mp h
        exact Option.bind_eq_some_iff.mpr ⟨q, ih _ _ _ _ _ _ _ h1, ih _ _ _ _ _ _ _ h2⟩
      · cases h
    · exact h
theorem m_run_le (x : m_X) {n n' : Nat} (hn : n ≤ n') {ρ k pc : Nat} {L : m_L} {st : List Value} {σ : m_H} {r : m_R} (h : m_run x n ρ k pc L st σ = some r) : m_run x n' ρ k pc L st σ = some r := by
  induction hn with
  | refl => exact h
  | step _ ih => exact m_run_mono x _ _ _ _ _ _ _ _ ih
/-- what a place comes to -/
noncomputable def m_D (x : m_X) (ρ k pc : Nat) (L : m_L) (st : List Value) (σ : m_H) : Option m_R :=
  @dite _ (∃ n r, m_run x n ρ k pc L st σ = some r) (Classical.propDecidable _) (fun h => some (Classical.choose (Classical.choose_spec h))) (fun _ => none)
theorem m_D_iff {x : m_X} {ρ k pc : Nat} {L : m_L} {st : List Value} {σ : m_H} {r : m_R} : m_D x ρ k pc L st σ = some r ↔ ∃ n, m_run x n ρ k pc L st σ = some r := by
  unfold m_D
  by_cases h : ∃ n r, m_run x n ρ k pc L st σ = some r
  · rw [dif_pos h]
    have h2 := Classical.choose_spec (Classical.choose_spec h)
    constructor
    · intro e
      cases e
      exact ⟨_, h2⟩
    · rintro ⟨n, hn⟩
      have e1 := m_run_le x (Nat.le_max_left n (Classical.choose h)) hn
      have e2 := m_run_le x (Nat.le_max_right n (Classical.choose h)) h2
      rw [e1] at e2
      rw [Option.some.inj e2]
  · rw [dif_neg h]
    constructor
    · intro e; cases e
    · rintro ⟨n, hn⟩; exact absurd ⟨n, r, hn⟩ h
/-- a method: its receiver fits, and from its entry on -/
noncomputable def m_M (x : m_X) (k : Nat) (as : List Value) (σ : m_H) : Option m_R := if m_rc k as σ = true then m_D x (m_rank k as) k 0 (m_en k as) [] σ else none
theorem m_D_none {x : m_X} {ρ k pc : Nat} {L : m_L} {st : List Value} {σ : m_H} (h : m_nxt x k pc L st σ = none) : m_D x ρ k pc L st σ = none := by
  cases e : m_D x ρ k pc L st σ with
  | none => rfl
  | some r =>
    obtain ⟨n, hn⟩ := m_D_iff.mp e
    cases n with
    | zero => simp [m_run] at hn
    | succ n => rw [m_run, h] at hn; cases hn
theorem m_D_go {x : m_X} {ρ k pc : Nat} {L : m_L} {st : List Value} {σ : m_H} {pc' : Nat} {L' : m_L} {st' : List Value} {σ' : m_H} (h : m_nxt x k pc L st σ = some (.inl (pc', L', st', σ'))) : m_D x ρ k pc L st σ = m_D x ρ k pc' L' st' σ' := by
  apply Option.ext
  intro r
  rw [m_D_iff, m_D_iff]
  constructor
  · rintro ⟨n, hn⟩
    cases n with
    | zero => simp [m_run] at hn
    | succ n => rw [m_run, h] at hn; exact ⟨n, hn⟩
  · rintro ⟨n, hn⟩
    refine ⟨n + 1, ?_⟩
    rw [m_run, h]
    exact hn
theorem m_D_ret {x : m_X} {ρ k pc : Nat} {L : m_L} {st : List Value} {σ : m_H} {r : Option Value} (h : m_nxt x k pc L st σ = some (.inr (.inr r))) : m_D x ρ k pc L st σ = some (r, σ) := m_D_iff.mpr ⟨1, by rw [m_run, h]⟩
theorem m_D_call {x : m_X} {ρ k pc : Nat} {L : m_L} {st : List Value} {σ : m_H} {k' : Nat} {as : List Value} {pc' : Nat} {st' : List Value} (h : m_nxt x k pc L st σ = some (.inr (.inl (k', as, pc', st')))) :
    m_D x ρ k pc L st σ = if m_rank k' as < ρ then (m_M x k' as σ).bind fun r => m_D x ρ k pc' L (r.1.toList ++ st') r.2 else none := by
  apply Option.ext
  intro r
  rw [m_D_iff]
  by_cases h1 : m_rank k' as < ρ
  · rw [if_pos h1]
    unfold m_M
    by_cases h2 : m_rc k' as σ = true
    · rw [if_pos h2, Option.bind_eq_some_iff]
      constructor
      · rintro ⟨n, hn⟩
        cases n with
        | zero => simp [m_run] at hn
        | succ n =>
          rw [m_run, h] at hn
          dsimp only at hn
          rw [if_pos ⟨h1, h2⟩] at hn
          obtain ⟨q, e1, e2⟩ := Option.bind_eq_some_iff.mp hn
          exact ⟨q, m_D_iff.mpr ⟨n, e1⟩, m_D_iff.mpr ⟨n, e2⟩⟩
      · rintro ⟨q, e1, e2⟩
        obtain ⟨n1, e1⟩ := m_D_iff.mp e1
        obtain ⟨n2, e2⟩ := m_D_iff.mp e2
        refine ⟨max n1 n2 + 1, ?_⟩
        rw [m_run, h]
        dsimp only
        rw [if_pos ⟨h1, h2⟩]
        exact Option.bind_eq_some_iff.mpr ⟨q, m_run_le x (Nat.le_max_left _ _) e1, m_run_le x (Nat.le_max_right _ _) e2⟩
    · rw [if_neg h2]
      constructor
      · rintro ⟨n, hn⟩
        cases n with
        | zero => simp [m_run] at hn
        | succ n =>
          rw [m_run, h] at hn
          dsimp only at hn
          rw [if_neg (fun z => h2 z.2)] at hn
          cases hn
      · intro e; cases e
  · rw [if_neg h1]
    constructor
    · rintro ⟨n, hn⟩
      cases n with
      | zero => simp [m_run] at hn
      | succ n =>
        rw [m_run, h] at hn
        dsimp only at hn
        rw [if_neg (fun z => h1 z.1)] at hn
        cases hn
    · intro e; cases e
