-- equations: jumps, cells, calls, returns, a method's entry
section EQ2
variable {x : m_X} {ρ k pc j : Nat} {L : m_L} {st : List Value} {σ : m_H} {o o1 o2 : Option m_R}
theorem e_br {i : Instr} {len : Nat} {c : Bool} {t : Nat} {st' : List Value} (h : m_at k pc = some (i, len, j)) (hs : (match m_cs i with
    | 1 => m_d1 i pc L st σ
    | 2 => m_d2 i pc L st σ
    | 3 => m_d3 x i j pc L st σ
    | _ => m_d4 k i j pc L st σ) = m_go (if c then t else pc + 3) L st' σ) (e1 : m_D x ρ k t L st' σ = o1) (e2 : m_D x ρ k (pc + 3) L st' σ = o2) : m_D x ρ k pc L st σ = if c = true then o1 else o2 := by
  cases c with
  | true => rw [if_pos rfl]; exact e_go h hs e1
  | false => rw [if_neg (by decide)]; exact e_go h hs e2
theorem e_ifeq {off : Int} {t : Nat} {a : Int32} (h : m_at k pc = some (.ifCond .eq off, 3, j)) (ht : m_tg pc off = t) (e1 : m_D x ρ k t L st σ = o1) (e2 : m_D x ρ k (pc + 3) L st σ = o2) : m_D x ρ k pc L (.int a :: st) σ = if a = 0 then o1 else o2 := by
  rw [e_br h (c := decide (a = 0)) (t := t) (by rw [← ht]; rfl) e1 e2]
  simp only [decide_eq_true_eq]
theorem e_ifne {off : Int} {t : Nat} {a : Int32} (h : m_at k pc = some (.ifCond .ne off, 3, j)) (ht : m_tg pc off = t) (e1 : m_D x ρ k t L st σ = o1) (e2 : m_D x ρ k (pc + 3) L st σ = o2) : m_D x ρ k pc L (.int a :: st) σ = if a = 0 then o2 else o1 := by
  rw [e_br h (c := decide (¬ a = 0)) (t := t) (by rw [← ht]; rfl) e1 e2]
  by_cases z : a = 0
  · rw [if_pos z, if_neg (by simp [z])]
  · rw [if_neg z, if_pos (by simp [z])]
theorem e_iflt {off : Int} {t : Nat} {a : Int32} (h : m_at k pc = some (.ifCond .lt off, 3, j)) (ht : m_tg pc off = t) (e1 : m_D x ρ k t L st σ = o1) (e2 : m_D x ρ k (pc + 3) L st σ = o2) : m_D x ρ k pc L (.int a :: st) σ = if a < 0 then o1 else o2 := by
  rw [e_br h (c := decide (a < 0)) (t := t) (by rw [← ht]; rfl) e1 e2]
  simp only [decide_eq_true_eq]
theorem e_ifge {off : Int} {t : Nat} {a : Int32} (h : m_at k pc = some (.ifCond .ge off, 3, j)) (ht : m_tg pc off = t) (e1 : m_D x ρ k t L st σ = o1) (e2 : m_D x ρ k (pc + 3) L st σ = o2) : m_D x ρ k pc L (.int a :: st) σ = if 0 ≤ a then o1 else o2 := by
  rw [e_br h (c := decide (0 ≤ a)) (t := t) (by rw [← ht]; rfl) e1 e2]
  simp only [decide_eq_true_eq]
theorem e_ifgt {off : Int} {t : Nat} {a : Int32} (h : m_at k pc = some (.ifCond .gt off, 3, j)) (ht : m_tg pc off = t) (e1 : m_D x ρ k t L st σ = o1) (e2 : m_D x ρ k (pc + 3) L st σ = o2) : m_D x ρ k pc L (.int a :: st) σ = if 0 < a then o1 else o2 := by
  rw [e_br h (c := decide (0 < a)) (t := t) (by rw [← ht]; rfl) e1 e2]
  simp only [decide_eq_true_eq]
theorem e_ifle {off : Int} {t : Nat} {a : Int32} (h : m_at k pc = some (.ifCond .le off, 3, j)) (ht : m_tg pc off = t) (e1 : m_D x ρ k t L st σ = o1) (e2 : m_D x ρ k (pc + 3) L st σ = o2) : m_D x ρ k pc L (.int a :: st) σ = if a ≤ 0 then o1 else o2 := by
  rw [e_br h (c := decide (a ≤ 0)) (t := t) (by rw [← ht]; rfl) e1 e2]
  simp only [decide_eq_true_eq]
theorem e_icmpeq {off : Int} {t : Nat} {a b : Int32} (h : m_at k pc = some (.if_icmp .eq off, 3, j)) (ht : m_tg pc off = t) (e1 : m_D x ρ k t L st σ = o1) (e2 : m_D x ρ k (pc + 3) L st σ = o2) : m_D x ρ k pc L (.int b :: .int a :: st) σ = if a = b then o1 else o2 := by
  rw [e_br h (c := decide (a = b)) (t := t) (by rw [← ht]; rfl) e1 e2]
  simp only [decide_eq_true_eq]
theorem e_icmpne {off : Int} {t : Nat} {a b : Int32} (h : m_at k pc = some (.if_icmp .ne off, 3, j)) (ht : m_tg pc off = t) (e1 : m_D x ρ k t L st σ = o1) (e2 : m_D x ρ k (pc + 3) L st σ = o2) : m_D x ρ k pc L (.int b :: .int a :: st) σ = if a = b then o2 else o1 := by
  rw [e_br h (c := decide (¬ a = b)) (t := t) (by rw [← ht]; rfl) e1 e2]
  by_cases z : a = b
  · rw [if_pos z, if_neg (by simp [z])]
  · rw [if_neg z, if_pos (by simp [z])]
theorem e_icmplt {off : Int} {t : Nat} {a b : Int32} (h : m_at k pc = some (.if_icmp .lt off, 3, j)) (ht : m_tg pc off = t) (e1 : m_D x ρ k t L st σ = o1) (e2 : m_D x ρ k (pc + 3) L st σ = o2) : m_D x ρ k pc L (.int b :: .int a :: st) σ = if a < b then o1 else o2 := by
  rw [e_br h (c := decide (a < b)) (t := t) (by rw [← ht]; rfl) e1 e2]
  simp only [decide_eq_true_eq]
theorem e_icmpge {off : Int} {t : Nat} {a b : Int32} (h : m_at k pc = some (.if_icmp .ge off, 3, j)) (ht : m_tg pc off = t) (e1 : m_D x ρ k t L st σ = o1) (e2 : m_D x ρ k (pc + 3) L st σ = o2) : m_D x ρ k pc L (.int b :: .int a :: st) σ = if b ≤ a then o1 else o2 := by
  rw [e_br h (c := decide (b ≤ a)) (t := t) (by rw [← ht]; rfl) e1 e2]
  simp only [decide_eq_true_eq]
theorem e_icmpgt {off : Int} {t : Nat} {a b : Int32} (h : m_at k pc = some (.if_icmp .gt off, 3, j)) (ht : m_tg pc off = t) (e1 : m_D x ρ k t L st σ = o1) (e2 : m_D x ρ k (pc + 3) L st σ = o2) : m_D x ρ k pc L (.int b :: .int a :: st) σ = if b < a then o1 else o2 := by
  rw [e_br h (c := decide (b < a)) (t := t) (by rw [← ht]; rfl) e1 e2]
  simp only [decide_eq_true_eq]
theorem e_icmple {off : Int} {t : Nat} {a b : Int32} (h : m_at k pc = some (.if_icmp .le off, 3, j)) (ht : m_tg pc off = t) (e1 : m_D x ρ k t L st σ = o1) (e2 : m_D x ρ k (pc + 3) L st σ = o2) : m_D x ρ k pc L (.int b :: .int a :: st) σ = if a ≤ b then o1 else o2 := by
  rw [e_br h (c := decide (a ≤ b)) (t := t) (by rw [← ht]; rfl) e1 e2]
  simp only [decide_eq_true_eq]
theorem m_lgc (a b : Int64) : (lg_cmp a b = 0 ↔ a = b) ∧ (lg_cmp a b < 0 ↔ a < b) ∧ (0 ≤ lg_cmp a b ↔ b ≤ a) ∧ (0 < lg_cmp a b ↔ b < a) ∧ (lg_cmp a b ≤ 0 ↔ a ≤ b) := by
  unfold lg_cmp
  by_cases h1 : a > b
  · rw [if_pos h1]
    have h1 : b < a := h1
    simp only [Int64.lt_iff_toInt_lt, Int64.le_iff_toInt_le, ← Int64.toInt_inj] at *
    refine ⟨⟨fun z => absurd z (by decide), fun z => by omega⟩, ⟨fun z => absurd z (by decide), fun z => by omega⟩, ⟨fun _ => by omega, fun _ => by decide⟩, ⟨fun _ => by omega, fun _ => by decide⟩, ⟨fun z => absurd z (by decide), fun z => by omega⟩⟩
  · rw [if_neg h1]
    have h1 : ¬ b < a := h1
    by_cases h2 : a = b
    · rw [if_pos h2]
      subst h2
      simp only [Int64.lt_iff_toInt_lt, Int64.le_iff_toInt_le] at *
      refine ⟨trivial, ⟨fun z => absurd z (by decide), fun z => by omega⟩, ⟨fun _ => by omega, fun _ => by decide⟩, ⟨fun z => absurd z (by decide), fun z => by omega⟩, ⟨fun _ => by omega, fun _ => by decide⟩⟩
    · rw [if_neg h2]
      simp only [Int64.lt_iff_toInt_lt, Int64.le_iff_toInt_le, ← Int64.toInt_inj] at *
      refine ⟨⟨fun z => absurd z (by decide), fun z => by omega⟩, ⟨fun _ => by omega, fun _ => by decide⟩, ⟨fun z => absurd z (by decide), fun z => by omega⟩, ⟨fun z => absurd z (by decide), fun z => by omega⟩, ⟨fun _ => by omega, fun _ => by decide⟩⟩
theorem m_ifi {c d : Prop} [Decidable c] [Decidable d] (h : c ↔ d) : (if c then o1 else o2) = if d then o1 else o2 := by
  by_cases z : c
  · rw [if_pos z, if_pos (h.mp z)]
  · rw [if_neg z, if_neg (fun q => z (h.mpr q))]
theorem e_lcmpeq {off : Int} {j2 t : Nat} {a b : Int64} (h : m_at k pc = some (.lcmp, 1, j)) (h2 : m_at k (pc + 1) = some (.ifCond .eq off, 3, j2)) (ht : m_tg (pc + 1) off = t) (e1 : m_D x ρ k t L st σ = o1) (e2 : m_D x ρ k (pc + 4) L st σ = o2) : m_D x ρ k pc L (.long b :: .long a :: st) σ = if a = b then o1 else o2 :=
  (e_lcmp h (e_ifeq h2 ht e1 e2)).trans (m_ifi (m_lgc a b).1)
theorem e_lcmpne {off : Int} {j2 t : Nat} {a b : Int64} (h : m_at k pc = some (.lcmp, 1, j)) (h2 : m_at k (pc + 1) = some (.ifCond .ne off, 3, j2)) (ht : m_tg (pc + 1) off = t) (e1 : m_D x ρ k t L st σ = o1) (e2 : m_D x ρ k (pc + 4) L st σ = o2) : m_D x ρ k pc L (.long b :: .long a :: st) σ = if a = b then o2 else o1 :=
  (e_lcmp h (e_ifne h2 ht e1 e2)).trans (m_ifi (m_lgc a b).1)
theorem e_lcmplt {off : Int} {j2 t : Nat} {a b : Int64} (h : m_at k pc = some (.lcmp, 1, j)) (h2 : m_at k (pc + 1) = some (.ifCond .lt off, 3, j2)) (ht : m_tg (pc + 1) off = t) (e1 : m_D x ρ k t L st σ = o1) (e2 : m_D x ρ k (pc + 4) L st σ = o2) : m_D x ρ k pc L (.long b :: .long a :: st) σ = if a < b then o1 else o2 :=
  (e_lcmp h (e_iflt h2 ht e1 e2)).trans (m_ifi (m_lgc a b).2.1)
theorem e_lcmpge {off : Int} {j2 t : Nat} {a b : Int64} (h : m_at k pc = some (.lcmp, 1, j)) (h2 : m_at k (pc + 1) = some (.ifCond .ge off, 3, j2)) (ht : m_tg (pc + 1) off = t) (e1 : m_D x ρ k t L st σ = o1) (e2 : m_D x ρ k (pc + 4) L st σ = o2) : m_D x ρ k pc L (.long b :: .long a :: st) σ = if b ≤ a then o1 else o2 :=
  (e_lcmp h (e_ifge h2 ht e1 e2)).trans (m_ifi (m_lgc a b).2.2.1)
theorem e_lcmpgt {off : Int} {j2 t : Nat} {a b : Int64} (h : m_at k pc = some (.lcmp, 1, j)) (h2 : m_at k (pc + 1) = some (.ifCond .gt off, 3, j2)) (ht : m_tg (pc + 1) off = t) (e1 : m_D x ρ k t L st σ = o1) (e2 : m_D x ρ k (pc + 4) L st σ = o2) : m_D x ρ k pc L (.long b :: .long a :: st) σ = if b < a then o1 else o2 :=
  (e_lcmp h (e_ifgt h2 ht e1 e2)).trans (m_ifi (m_lgc a b).2.2.2.1)
theorem e_lcmple {off : Int} {j2 t : Nat} {a b : Int64} (h : m_at k pc = some (.lcmp, 1, j)) (h2 : m_at k (pc + 1) = some (.ifCond .le off, 3, j2)) (ht : m_tg (pc + 1) off = t) (e1 : m_D x ρ k t L st σ = o1) (e2 : m_D x ρ k (pc + 4) L st σ = o2) : m_D x ρ k pc L (.long b :: .long a :: st) σ = if a ≤ b then o1 else o2 :=
  (e_lcmp h (e_ifle h2 ht e1 e2)).trans (m_ifi (m_lgc a b).2.2.2.2)
/-- switches -/
def m_sw (a : Int32) : List (Int32 × Option m_R) → Option m_R → Option m_R
  | [], d => d
  | (v, o) :: r, d => if a = v then o else m_sw a r d
def m_swT (a : Int32) : List (Int32 × Nat) → Nat → Nat
  | [], d => d
  | (v, t) :: r, d => if a = v then t else m_swT a r d
theorem m_sw_map (a : Int32) (td : Nat) : ∀ cs : List (Int32 × Nat), m_D x ρ k (m_swT a cs td) L st σ = m_sw a (cs.map fun q => (q.1, m_D x ρ k q.2 L st σ)) (m_D x ρ k td L st σ) := by
  intro cs
  induction cs with
  | nil => rfl
  | cons q r ih =>
    show m_D x ρ k (if a = q.1 then q.2 else m_swT a r td) L st σ = if a = q.1 then m_D x ρ k q.2 L st σ else _
    by_cases z : a = q.1
    · rw [if_pos z, if_pos z]
    · rw [if_neg z, if_neg z]; exact ih
theorem m_sw_c {a v : Int32} {r : List (Int32 × Option m_R)} {d o0 : Option m_R} (e1 : o0 = o1) (e2 : m_sw a r d = o2) : m_sw a ((v, o0) :: r) d = if a = v then o1 else o2 := by rw [← e1, ← e2]; rfl
theorem m_sw_n {a : Int32} {d : Option m_R} (e2 : d = o2) : m_sw a [] d = o2 := e2
def m_tsk (pc : Nat) (lo : Int) (offs : Array Int) : Nat → List (Int32 × Nat) → Bool
  | _, [] => true
  | i, (v, t) :: r => decide (v.toInt = lo + i) && decide ((offs[i]?).map (m_tg pc) = some t) && m_tsk pc lo offs (i + 1) r
theorem m_tsk_out {pc td : Nat} {lo : Int} {offs : Array Int} {a : Int32} : ∀ (cs : List (Int32 × Nat)) (i : Nat), m_tsk pc lo offs i cs = true → (a.toInt < lo + i ∨ lo + (i + cs.length : Nat) ≤ a.toInt) → m_swT a cs td = td := by
  intro cs
  induction cs with
  | nil => intro i _ _; rfl
  | cons q r ih =>
    intro i h hr
    obtain ⟨v, t⟩ := q
    simp only [m_tsk, Bool.and_eq_true, decide_eq_true_eq] at h
    obtain ⟨⟨h1, h2⟩, h3⟩ := h
    simp only [List.length_cons] at hr
    have hne : ¬ a = v := fun z => by
      subst z
      omega
    show (if a = v then t else m_swT a r td) = td
    rw [if_neg hne]
    exact ih (i + 1) h3 (by omega)
theorem m_tsk_in {pc td : Nat} {lo : Int} {offs : Array Int} {a : Int32} : ∀ (cs : List (Int32 × Nat)) (i : Nat), m_tsk pc lo offs i cs = true → lo + i ≤ a.toInt → a.toInt < lo + (i + cs.length : Nat) → (offs[(a.toInt - lo).toNat]?).map (m_tg pc) = some (m_swT a cs td) := by
  intro cs
  induction cs with
  | nil => intro i _ h1 h2; simp at h2; omega
  | cons q r ih =>
    intro i h hl hr
    obtain ⟨v, t⟩ := q
    simp only [m_tsk, Bool.and_eq_true, decide_eq_true_eq] at h
    obtain ⟨⟨h1, h2⟩, h3⟩ := h
    simp only [List.length_cons] at hr
    show _ = some (if a = v then t else m_swT a r td)
    by_cases z : a = v
    · rw [if_pos z]
      subst z
      rw [h1, show (lo + (i : Int) - lo).toNat = i by omega]
      exact h2
    · rw [if_neg z]
      have hne : ¬ a.toInt = v.toInt := fun q => z (Int32.toInt_inj.mp q)
      exact ih (i + 1) h3 (by omega) (by omega)
theorem e_tsw {d lo hi : Int} {offs : Array Int} {len td : Nat} {a : Int32} {cs : List (Int32 × Nat)} (h : m_at k pc = some (.tableswitch d lo hi offs, len, j)) (hok : (m_tsk pc lo offs 0 cs && decide (hi + 1 = lo + (cs.length : Nat)) && decide (m_tg pc d = td)) = true) (e : m_sw a (cs.map fun q => (q.1, m_D x ρ k q.2 L st σ)) (m_D x ρ k td L st σ) = o) : m_D x ρ k pc L (.int a :: st) σ = o := by
  simp only [Bool.and_eq_true, decide_eq_true_eq] at hok
  obtain ⟨⟨h1, h2⟩, h3⟩ := hok
  rw [← m_sw_map] at e
  refine e_go h (pc' := m_swT a cs td) ?_ e
  show (m_ts pc d lo hi offs a).bind _ = _
  have : m_ts pc d lo hi offs a = some (m_swT a cs td) := by
    unfold m_ts
    split
    · rename_i q
      rw [m_tsk_out cs 0 h1 (by omega), h3]
    · rename_i q
      exact m_tsk_in cs 0 h1 (by omega) (by omega)
  rw [this]
  rfl
def m_lsk (pc : Nat) : List (Int × Int) → List (Int32 × Nat) → Bool
  | [], [] => true
  | (a, o) :: r, (v, t) :: s => decide (v.toInt = a) && decide (m_tg pc o = t) && m_lsk pc r s
  | _, _ => false
theorem m_lsk_ok {pc td : Nat} {d : Int} {a : Int32} (hd : m_tg pc d = td) : ∀ (ps : List (Int × Int)) (cs : List (Int32 × Nat)), m_lsk pc ps cs = true → m_tg pc (Op.lookupswitch.offset ps d a.toInt) = m_swT a cs td := by
  intro ps
  induction ps with
  | nil =>
    intro cs h
    cases cs with
    | nil => exact hd
    | cons q r => cases h
  | cons p r ih =>
    intro cs h
    cases cs with
    | nil => cases h
    | cons q s =>
      obtain ⟨v, t⟩ := q
      obtain ⟨c, o⟩ := p
      simp only [m_lsk, Bool.and_eq_true, decide_eq_true_eq] at h
      obtain ⟨⟨h1, h2⟩, h3⟩ := h
      rw [Op.lookupswitch.offset_cons]
      show _ = if a = v then t else m_swT a s td
      by_cases z : a = v
      · subst z
        rw [if_pos h1.symm, if_pos rfl, h2]
      · rw [if_neg z, if_neg (fun q => z (Int32.toInt_inj.mp (by omega)))]
        exact ih s h3
theorem e_lsw {d : Int} {ps : Array (Int × Int)} {len td : Nat} {a : Int32} {cs : List (Int32 × Nat)} (h : m_at k pc = some (.lookupswitch d ps, len, j)) (hok : (m_lsk pc ps.toList cs && decide (m_tg pc d = td)) = true) (e : m_sw a (cs.map fun q => (q.1, m_D x ρ k q.2 L st σ)) (m_D x ρ k td L st σ) = o) : m_D x ρ k pc L (.int a :: st) σ = o := by
  simp only [Bool.and_eq_true, decide_eq_true_eq] at hok
  obtain ⟨h1, h2⟩ := hok
  rw [← m_sw_map] at e
  refine e_go h (pc' := m_swT a cs td) ?_ e
  show m_go (m_tg pc (Op.lookupswitch.offset ps.toList d a.toInt)) L st σ = _
  rw [m_lsk_ok h2 ps.toList cs h1]
  rfl
/-- a step that reads first -/
theorem e_bind {i : Instr} {len : Nat} {α : Type} {B : Option α} {G : α → Option m_A} {F : α → Option m_R} (h : m_at k pc = some (i, len, j)) (hs : (match m_cs i with
    | 1 => m_d1 i pc L st σ
    | 2 => m_d2 i pc L st σ
    | 3 => m_d3 x i j pc L st σ
    | _ => m_d4 k i j pc L st σ) = B.bind G) (pc' : α → Nat) (L' : α → m_L) (st' : α → List Value) (σ' : α → m_H) (hG : ∀ v, G v = m_go (pc' v) (L' v) (st' v) (σ' v)) (e : ∀ v, m_D x ρ k (pc' v) (L' v) (st' v) (σ' v) = F v) : m_D x ρ k pc L st σ = B.bind F := by
  cases hB : B with
  | none =>
    apply m_D_none
    unfold m_nxt
    rw [h]
    refine hs.trans ?_
    rw [hB]; rfl
  | some v =>
    refine e_go h ?_ (e v)
    refine hs.trans ?_
    rw [hB]
    exact hG v
end EQ2
