-- a run makes cells, it takes none away
def m_le (σ σ' : m_H) : Prop := σ.length ≤ σ'.length ∧ m_slt σ ≤ m_slt σ' ∧ (σ.length ≤ 1000 → σ'.length ≤ 1000)
theorem m_le.refl (σ : m_H) : m_le σ σ := ⟨Nat.le_refl _, Nat.le_refl _, id⟩
theorem m_le.trans {σ τ υ : m_H} (h : m_le σ τ) (h' : m_le τ υ) : m_le σ υ := ⟨Nat.le_trans h.1 h'.1, Nat.le_trans h.2.1 h'.2.1, fun z => h'.2.2 (h.2.2 z)⟩
theorem m_le.app (σ τ : m_H) (h : σ.length + τ.length ≤ 1000) : m_le σ (σ ++ τ) := ⟨by simp, by rw [m_slt_app]; omega, fun _ => by rw [List.length_append]; exact h⟩
theorem m_le.set {σ : m_H} {i : Nat} {e e' : m_E} (h : σ[i]? = some e) (hs : m_sz e' = m_sz e) : m_le σ (σ.set i e') := ⟨by simp, by rw [m_slt_set h hs]; exact Nat.le_refl _, fun z => by rw [List.length_set]; exact z⟩
theorem m_cpy_some {σ σ' : m_H} {a bb : Nat} {sp dp n : Int32} (h : m_cpy σ a sp bb dp n = some σ') : ∃ n0 f n1 g, σ[a]? = some (.inl (0, n0, .inl f)) ∧ a < 1000 ∧ σ[bb]? = some (.inl (0, n1, .inl g)) ∧ bb < 1000 ∧ ¬ sp < 0 ∧ ¬ dp < 0 ∧ ¬ n < 0 ∧ sp.toNatClampNeg + n.toNatClampNeg ≤ n0 ∧ dp.toNatClampNeg + n.toNatClampNeg ≤ n1 ∧ σ' = σ.set bb (.inl (0, n1, .inl (va_cpy f g sp.toNatClampNeg dp.toNatClampNeg n.toNatClampNeg))) := by
  unfold m_cpy at h
  split at h
  · rename_i r t h1 h2
    split at h
    · rename_i hh
      obtain ⟨c1, c2, c3, c4, c5⟩ := hh
      cases h
      obtain ⟨z1, z2⟩ := m_ri_some (f := r.2) (n := r.1) h1
      obtain ⟨z3, z4⟩ := m_ri_some (f := t.2) (n := t.1) h2
      exact ⟨_, _, _, _, z1, z2, z3, z4, c1, c2, c3, c4, c5, rfl⟩
    · cases h
  · cases h
theorem m_grow1 {i : Instr} {pc : Nat} {L : m_L} {st : List Value} {σ : m_H} {pc' : Nat} {L' : m_L} {st' : List Value} {σ' : m_H} (h : m_d1 i pc L st σ = some (.inl (pc', L', st', σ'))) : σ' = σ := by
  unfold m_d1 at h
  split at h
  all_goals first | (cases h; done) | exact (m_go_eq h).2.2.2 | skip
  all_goals (split at h)
  all_goals first | (cases h; done) | exact (m_go_eq h).2.2.2 | skip
  all_goals (split at h)
  all_goals first | (cases h; done) | exact (m_go_eq h).2.2.2
theorem m_grow2 {i : Instr} {pc : Nat} {L : m_L} {st : List Value} {σ : m_H} {pc' : Nat} {L' : m_L} {st' : List Value} {σ' : m_H} (h : m_d2 i pc L st σ = some (.inl (pc', L', st', σ'))) : σ' = σ := by
  unfold m_d2 at h
  split at h
  all_goals first | (cases h; done) | exact (m_go_eq h).2.2.2 | skip
  obtain ⟨_, _, h⟩ := Option.bind_eq_some_iff.mp h
  exact (m_go_eq h).2.2.2
theorem m_grow3 {x : m_X} {i : Instr} {j pc : Nat} {L : m_L} {st : List Value} {σ : m_H} {pc' : Nat} {L' : m_L} {st' : List Value} {σ' : m_H} (h : m_d3 x i j pc L st σ = some (.inl (pc', L', st', σ'))) : m_le σ σ' := by
  have same : ∀ {τ : m_H} {p9 : Nat} {l9 : m_L} {s9 : List Value}, m_go p9 l9 s9 τ = some (.inl (pc', L', st', σ')) → m_le σ τ → m_le σ σ' := by
    intro τ p9 l9 s9 h h2
    rw [(m_go_eq h).2.2.2]
    exact h2
  unfold m_d3 at h
  split at h
  case h_1 =>
    obtain ⟨q, -, h⟩ := Option.bind_eq_some_iff.mp h
    split at h
    · split at h
      · split at h <;> exact same h (m_le.refl _)
      · cases h
    · split at h <;> (obtain ⟨_, _, h⟩ := Option.bind_eq_some_iff.mp h; exact same h (m_le.refl _))
  case h_2 =>
    obtain ⟨q, -, h⟩ := Option.bind_eq_some_iff.mp h
    split at h
    · obtain ⟨σ1, hp, h⟩ := Option.bind_eq_some_iff.mp h
      obtain ⟨fs, f1, f2, f3, rfl⟩ := m_pf_some hp
      exact same h (m_le.set f1 (by simp [m_sz]))
    · cases h
  case h_3 =>
    obtain ⟨q, -, h⟩ := Option.bind_eq_some_iff.mp h
    split at h <;> exact same h (m_le.refl _)
  case h_4 => obtain ⟨_, _, h⟩ := Option.bind_eq_some_iff.mp h; exact same h (m_le.refl _)
  case h_5 => obtain ⟨_, _, h⟩ := Option.bind_eq_some_iff.mp h; exact same h (m_le.refl _)
  case h_6 => obtain ⟨_, _, h⟩ := Option.bind_eq_some_iff.mp h; exact same h (m_le.refl _)
  case h_7 => obtain ⟨_, _, h⟩ := Option.bind_eq_some_iff.mp h; exact same h (m_le.refl _)
  case h_8 => obtain ⟨_, _, h⟩ := Option.bind_eq_some_iff.mp h; exact same h (m_le.refl _)
  case h_9 =>
    obtain ⟨σ1, hp, h⟩ := Option.bind_eq_some_iff.mp h
    obtain ⟨⟨n, f⟩, h1, h2⟩ := Option.bind_eq_some_iff.mp hp
    obtain ⟨_, -, rfl⟩ := Option.map_eq_some_iff.mp h2
    exact same h (m_le.set (m_ri_some h1).1 rfl)
  case h_10 =>
    obtain ⟨σ1, hp, h⟩ := Option.bind_eq_some_iff.mp h
    unfold m_bs at hp
    split at hp
    · obtain ⟨⟨n, f⟩, h1, h2⟩ := Option.bind_eq_some_iff.mp hp
      obtain ⟨_, -, rfl⟩ := Option.map_eq_some_iff.mp h2
      exact same h (m_le.set (m_ri_some h1).1 rfl)
    · cases hp
  case h_11 =>
    obtain ⟨σ1, hp, h⟩ := Option.bind_eq_some_iff.mp h
    obtain ⟨⟨n, f⟩, h1, h2⟩ := Option.bind_eq_some_iff.mp hp
    obtain ⟨_, -, rfl⟩ := Option.map_eq_some_iff.mp h2
    exact same h (m_le.set (m_rl_some h1).1 rfl)
  case h_12 =>
    obtain ⟨σ1, hp, h⟩ := Option.bind_eq_some_iff.mp h
    unfold m_as at hp
    split at hp
    · obtain ⟨⟨n, f⟩, h1, h2⟩ := Option.bind_eq_some_iff.mp hp
      obtain ⟨_, -, rfl⟩ := Option.map_eq_some_iff.mp h2
      exact same h (m_le.set (m_rr_some h1).1 rfl)
    · cases hp
  case h_13 =>
    obtain ⟨q, -, h⟩ := Option.bind_eq_some_iff.mp h
    split at h
    · rename_i hl
      exact same h (m_le.app _ _ (by rw [List.length_singleton]; omega))
    · cases h
  case h_14 =>
    split at h
    · rename_i hl
      split at h
      · exact same h (m_le.app _ _ (by rw [List.length_singleton]; omega))
      · exact same h (m_le.app _ _ (by rw [List.length_singleton]; omega))
      · exact same h (m_le.app _ _ (by rw [List.length_singleton]; omega))
      · cases h
    · cases h
  case h_15 =>
    split at h
    · rename_i hl
      exact same h (m_le.app _ _ (by rw [List.length_singleton]; omega))
    · cases h
  case h_16 =>
    split at h
    · rename_i hl
      exact same h (m_le.app _ _ (by rw [List.length_cons, List.length_replicate]; omega))
    · cases h
  case h_17 => split at h <;> (obtain ⟨_, _, h⟩ := Option.bind_eq_some_iff.mp h; exact same h (m_le.refl _))
  case h_18 =>
    split at h
    · obtain ⟨_, _, h⟩ := Option.bind_eq_some_iff.mp h; exact same h (m_le.refl _)
    · cases h
  case h_19 => obtain ⟨_, _, h⟩ := Option.bind_eq_some_iff.mp h; exact same h (m_le.refl _)
  case h_20 => cases h
theorem m_cl1_some {k' n pc : Nat} {st : List Value} {a : m_A} (h : m_cl1 k' n pc st = some a) : a = .inr (.inl (k', (st.take n).reverse, pc + 3, st.drop n)) ∧ n ≤ st.length ∧ k' < m_ins.length ∧ m_cat (st.drop n) ≤ 8 ∧ (m_sl (st.take n).reverse).length ≤ m_ml.getD k' 0 := by
  unfold m_cl1 at h
  split at h
  · rename_i hh
    cases h
    exact ⟨rfl, hh⟩
  · cases h
theorem m_grow4 {k : Nat} {i : Instr} {j pc : Nat} {L : m_L} {st : List Value} {σ : m_H} {pc' : Nat} {L' : m_L} {st' : List Value} {σ' : m_H} (h : m_d4 k i j pc L st σ = some (.inl (pc', L', st', σ'))) : m_le σ σ' := by
  unfold m_d4 at h
  split at h
  case h_1 =>
    obtain ⟨q, -, h⟩ := Option.bind_eq_some_iff.mp h
    split at h
    · split at h
      · split at h
        · obtain ⟨σ1, hp, h⟩ := Option.bind_eq_some_iff.mp h
          obtain ⟨n0, f, n1, g, c1, c2, c3, c4, -, -, -, -, -, rfl⟩ := m_cpy_some hp
          rw [(m_go_eq h).2.2.2]
          exact m_le.set c3 rfl
        · cases h
      · cases h
    · cases (m_cl1_some h).1
  case h_2 =>
    obtain ⟨q, -, h⟩ := Option.bind_eq_some_iff.mp h
    cases (m_cl1_some h).1
  case h_3 =>
    obtain ⟨q, -, h⟩ := Option.bind_eq_some_iff.mp h
    split at h
    · split at h
      · split at h
        · rw [(m_go_eq h).2.2.2]; exact m_le.refl _
        · cases h
      · cases h
    · cases (m_cl1_some h).1
  all_goals first | (cases h; done) | skip
  all_goals (split at h)
  all_goals (cases h)
theorem m_nxt_grow {x : m_X} {k pc : Nat} {L : m_L} {st : List Value} {σ : m_H} {pc' : Nat} {L' : m_L} {st' : List Value} {σ' : m_H} (h : m_nxt x k pc L st σ = some (.inl (pc', L', st', σ'))) : m_le σ σ' := by
  unfold m_nxt at h
  split at h
  · cases h
  · split at h
    · rw [m_grow1 h]; exact m_le.refl _
    · rw [m_grow2 h]; exact m_le.refl _
    · exact m_grow3 h
    · exact m_grow4 h
theorem m_run_grow (x : m_X) : ∀ (n ρ k pc : Nat) (L : m_L) (st : List Value) (σ : m_H) (r : m_R), m_run x n ρ k pc L st σ = some r → m_le σ r.2 := by
  intro n
  induction n with
  | zero => intro ρ k pc L st σ r h; simp [m_run] at h
  | succ n ih =>
    intro ρ k pc L st σ r h
    rw [m_run] at h
    split at h
    · cases h
    · rename_i hn
      exact (m_nxt_grow hn).trans (ih _ _ _ _ _ _ _ h)
    · split at h
      · obtain ⟨q, h1, h2⟩ := Option.bind_eq_some_iff.mp h
        exact (ih _ _ _ _ _ _ _ h1).trans (ih _ _ _ _ _ _ _ h2)
      · cases h
    · cases h; exact m_le.refl _
