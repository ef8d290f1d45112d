-- the instruction lists are the code: written by wip/whole/gen/gen_checks.py
def m_P8 (k : Nat) (e : Nat × m_N) : Prop := decode (m_CD k) e.1 = .ok (e.2.1, e.2.2.1) ∧ m_okI k e.1 e.2.1 e.2.2.1 e.2.2.2 = true
def m_all8 : Nat → List (List (Nat × m_N)) → Prop
  | _, [] => True
  | i, l :: t => (∀ e ∈ l, m_P8 i e) ∧ m_all8 (i + 1) t
theorem m_all8_app : ∀ (l t : List (List (Nat × m_N))) (i : Nat), m_all8 i l → m_all8 (i + l.length) t → m_all8 i (l ++ t) := by
  intro l
  induction l with
  | nil => intro t i _ h; exact h
  | cons a l ih =>
    intro t i h1 h2
    refine ⟨h1.1, ih t (i + 1) h1.2 ?_⟩
    rw [List.length_cons, show i + (l.length + 1) = i + 1 + l.length by omega] at h2
    exact h2
theorem m_all8_get : ∀ (l : List (List (Nat × m_N))) (i k : Nat), m_all8 i l → ∀ e ∈ l.getD k [], m_P8 (i + k) e := by
  intro l
  induction l with
  | nil => intro i k _ e he; simp at he
  | cons a l ih =>
    intro i k h e he
    cases k with
    | zero => exact h.1 e (by simpa using he)
    | succ k =>
      have := ih (i + 1) k h.2 e (by simpa using he)
      rw [show i + (k + 1) = i + 1 + k by omega]
      exact this
theorem m_lk_mem {α : Type} : ∀ (l : List (Nat × α)) (q : Nat) (a : α), m_lk l q = some a → (q, a) ∈ l := by
  intro l
  induction l with
  | nil => intro q a h; cases h
  | cons p l ih =>
    intro q a h
    obtain ⟨p1, p2⟩ := p
    rw [m_lk] at h
    split at h
    · rename_i e
      cases h
      subst e
      exact List.mem_cons_self
    · exact List.mem_cons_of_mem _ (ih q a h)
