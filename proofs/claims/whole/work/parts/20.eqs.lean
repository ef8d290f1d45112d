-- equations of the small machine, an instruction each: the goal 'm_D .. = o' goes on to the next place
theorem m_at_of {k pc : Nat} {l : List (Nat × m_N)} {e : m_N} (h : m_ins.getD k [] = l) (h2 : m_lk l pc = some e) : m_at k pc = some e := by unfold m_at; rw [h]; exact h2
def m_bI {α : Type} (o : Option m_R) (F : Int32 → m_H → Option α) : Option α := match o with
  | some (some (.int v), σ) => F v σ
  | _ => none
def m_bL {α : Type} (o : Option m_R) (F : Int64 → m_H → Option α) : Option α := match o with
  | some (some (.long v), σ) => F v σ
  | _ => none
def m_bV {α : Type} (o : Option m_R) (F : m_H → Option α) : Option α := match o with
  | some (none, σ) => F σ
  | _ => none
def m_bR {α : Type} (o : Option m_R) (F : Value → m_H → Option α) : Option α := match o with
  | some (some v, σ) => F v σ
  | _ => none
def m_nl (d : Option Value) : Bool := match d with
  | some (.long _) => false
  | some (.double _) => false
  | _ => true
theorem m_M_rk {x : m_X} {k : Nat} {as : List Value} {σ : m_H} {r : m_R} (h : m_M x k as σ = some r) : m_rk (m_RT k) r.1 = true := by
  unfold m_M at h
  split at h
  · obtain ⟨n, hn⟩ := m_D_iff.mp h
    exact m_run_rk x _ _ _ _ _ _ _ _ hn
  · cases h
def m_rtI (t : Option FieldType) : Bool := match t with
  | some .int | some .boolean | some .byte | some .char => true
  | _ => false
def m_rtR (t : Option FieldType) : Bool := match t with
  | some (.object _) | some (.array _) => true
  | _ => false
theorem m_M_bI {x : m_X} {k : Nat} {as : List Value} {σ : m_H} (h : m_rtI (m_RT k) = true) {α : Type} (F : m_R → Option α) : (m_M x k as σ).bind F = m_bI (m_M x k as σ) fun v σ1 => F (some (.int v), σ1) := by
  cases hm : m_M x k as σ with
  | none => rfl
  | some r =>
    have h1 := m_M_rk hm
    obtain ⟨rv, σ1⟩ := r
    unfold m_rtI at h
    split at h
    all_goals first | (cases h; done) | skip
    all_goals (rename_i ht; rw [ht] at h1; cases rv with
      | none => cases h1
      | some v => cases v <;> first | rfl | (cases h1))
theorem m_M_bL {x : m_X} {k : Nat} {as : List Value} {σ : m_H} (h : m_RT k = some .long) {α : Type} (F : m_R → Option α) : (m_M x k as σ).bind F = m_bL (m_M x k as σ) fun v σ1 => F (some (.long v), σ1) := by
  cases hm : m_M x k as σ with
  | none => rfl
  | some r =>
    have h1 := m_M_rk hm
    obtain ⟨rv, σ1⟩ := r
    rw [h] at h1
    cases rv with
    | none => cases h1
    | some v => cases v <;> first | rfl | (cases h1)
theorem m_M_bV {x : m_X} {k : Nat} {as : List Value} {σ : m_H} (h : m_RT k = none) {α : Type} (F : m_R → Option α) : (m_M x k as σ).bind F = m_bV (m_M x k as σ) fun σ1 => F (none, σ1) := by
  cases hm : m_M x k as σ with
  | none => rfl
  | some r =>
    have h1 := m_M_rk hm
    obtain ⟨rv, σ1⟩ := r
    rw [h] at h1
    cases rv with
    | none => rfl
    | some v => cases v <;> cases h1
theorem m_M_bR {x : m_X} {k : Nat} {as : List Value} {σ : m_H} (h : m_rtR (m_RT k) = true) {α : Type} (F : m_R → Option α) : (m_M x k as σ).bind F = m_bR (m_M x k as σ) fun v σ1 => F (some v, σ1) := by
  cases hm : m_M x k as σ with
  | none => rfl
  | some r =>
    have h1 := m_M_rk hm
    obtain ⟨rv, σ1⟩ := r
    unfold m_rtR at h
    split at h
    all_goals first | (cases h; done) | skip
    all_goals (rename_i ht; rw [ht] at h1; cases rv with
      | none => cases h1
      | some v => rfl)
section EQS
variable {x : m_X} {ρ k pc j : Nat} {L : m_L} {st : List Value} {σ : m_H} {o : Option m_R}
theorem e_go {i : Instr} {len : Nat} {pc' : Nat} {L' : m_L} {st' : List Value} {σ' : m_H} (h : m_at k pc = some (i, len, j)) (hs : (match m_cs i with
    | 1 => m_d1 i pc L st σ
    | 2 => m_d2 i pc L st σ
    | 3 => m_d3 x i j pc L st σ
    | _ => m_d4 k i j pc L st σ) = some (.inl (pc', L', st', σ'))) (e : m_D x ρ k pc' L' st' σ' = o) : m_D x ρ k pc L st σ = o := by
  rw [← e]
  apply m_D_go
  unfold m_nxt
  rw [h]
  exact hs
theorem e_iconst {n : Int} {v : Int32} (h : m_at k pc = some (.iconst n, 1, j)) (hv : Int32.ofInt n = v) (e : m_D x ρ k (pc + 1) L (.int v :: st) σ = o) : m_D x ρ k pc L st σ = o := e_go h (by rw [← hv]; rfl) e
theorem e_bipush {n : Int} {v : Int32} (h : m_at k pc = some (.bipush n, 2, j)) (hv : (Int8.ofInt n).toInt32 = v) (e : m_D x ρ k (pc + 2) L (.int v :: st) σ = o) : m_D x ρ k pc L st σ = o := e_go h (by rw [← hv]; rfl) e
theorem e_sipush {n : Int} {v : Int32} (h : m_at k pc = some (.sipush n, 3, j)) (hv : (Int16.ofInt n).toInt32 = v) (e : m_D x ρ k (pc + 3) L (.int v :: st) σ = o) : m_D x ρ k pc L st σ = o := e_go h (by rw [← hv]; rfl) e
theorem e_lconst {n : Fin 2} {v : Int64} (h : m_at k pc = some (.lconst n, 1, j)) (hv : Int64.ofNat (n : Nat) = v) (e : m_D x ρ k (pc + 1) L (.long v :: st) σ = o) : m_D x ρ k pc L st σ = o := e_go h (by rw [← hv]; rfl) e
theorem e_null (h : m_at k pc = some (.aconst_null, 1, j)) (e : m_D x ρ k (pc + 1) L (.null :: st) σ = o) : m_D x ρ k pc L st σ = o := e_go h rfl e
theorem e_ldc {n : Nat} {q : Nat × Nat × Int32} (h : m_at k pc = some (.ldc n, 2, j)) (hj : j < 100) (hq : m_ld[j]? = some q) (e : m_D x ρ k (pc + 2) L (.int q.2.2 :: st) σ = o) : m_D x ρ k pc L st σ = o := e_go h (by show m_d3 _ _ _ _ _ _ _ = _; rw [m_d3, if_pos hj, hq]; rfl) e
theorem e_ldcw {n : Nat} {q : Nat × Nat × Int32} (h : m_at k pc = some (.ldc_w n, 3, j)) (hj : j < 100) (hq : m_ld[j]? = some q) (e : m_D x ρ k (pc + 3) L (.int q.2.2 :: st) σ = o) : m_D x ρ k pc L st σ = o := e_go h (by show m_d3 _ _ _ _ _ _ _ = _; rw [m_d3, if_pos hj, hq]; rfl) e
theorem e_ldcs {n : Nat} {q : Nat × Nat × Nat} (h : m_at k pc = some (.ldc n, 2, j)) (hj : ¬ j < 100) (hq : m_ls[j - 100]? = some q) (e : m_D x ρ k (pc + 2) L (.ref (1002 + q.2.2) :: st) σ = o) : m_D x ρ k pc L st σ = o := e_go h (by show m_d3 _ _ _ _ _ _ _ = _; rw [m_d3, if_neg hj, hq]; rfl) e
theorem e_ldc2 {n : Nat} {q : Nat × Nat × Int64} (h : m_at k pc = some (.ldc2_w n, 3, j)) (hq : m_ll[j]? = some q) (e : m_D x ρ k (pc + 3) L (.long q.2.2 :: st) σ = o) : m_D x ρ k pc L st σ = o := e_go h (by show m_d3 _ _ _ _ _ _ _ = _; rw [m_d3, hq]; rfl) e
theorem e_iload {n : Nat} {v : Int32} (h : m_at k pc = some (.iload n, 2, j)) (hl : m_gl L n = some (.int v)) (e : m_D x ρ k (pc + 2) L (.int v :: st) σ = o) : m_D x ρ k pc L st σ = o := e_go h (by show m_d1 _ _ _ _ _ = _; rw [m_d1, hl]; rfl) e
theorem e_iload_n {n : Fin 4} {v : Int32} (h : m_at k pc = some (.iload_n n, 1, j)) (hl : m_gl L n = some (.int v)) (e : m_D x ρ k (pc + 1) L (.int v :: st) σ = o) : m_D x ρ k pc L st σ = o := e_go h (by show m_d1 _ _ _ _ _ = _; rw [m_d1, hl]; rfl) e
theorem e_lload {n : Nat} {v : Int64} (h : m_at k pc = some (.lload n, 2, j)) (hl : m_gl L n = some (.long v)) (e : m_D x ρ k (pc + 2) L (.long v :: st) σ = o) : m_D x ρ k pc L st σ = o := e_go h (by show m_d1 _ _ _ _ _ = _; rw [m_d1, hl]; rfl) e
theorem e_lload_n {n : Fin 4} {v : Int64} (h : m_at k pc = some (.lload_n n, 1, j)) (hl : m_gl L n = some (.long v)) (e : m_D x ρ k (pc + 1) L (.long v :: st) σ = o) : m_D x ρ k pc L st σ = o := e_go h (by show m_d1 _ _ _ _ _ = _; rw [m_d1, hl]; rfl) e
theorem e_aload {n : Nat} {v : Nat} (h : m_at k pc = some (.aload n, 2, j)) (hl : m_gl L n = some (.ref v)) (e : m_D x ρ k (pc + 2) L (.ref v :: st) σ = o) : m_D x ρ k pc L st σ = o := e_go h (by show m_d1 _ _ _ _ _ = _; rw [m_d1, hl]; rfl) e
theorem e_aload_n {n : Fin 4} {v : Nat} (h : m_at k pc = some (.aload_n n, 1, j)) (hl : m_gl L n = some (.ref v)) (e : m_D x ρ k (pc + 1) L (.ref v :: st) σ = o) : m_D x ρ k pc L st σ = o := e_go h (by show m_d1 _ _ _ _ _ = _; rw [m_d1, hl]; rfl) e
theorem e_aload_nN {n : Fin 4} (h : m_at k pc = some (.aload_n n, 1, j)) (hl : m_gl L n = some .null) (e : m_D x ρ k (pc + 1) L (.null :: st) σ = o) : m_D x ρ k pc L st σ = o := e_go h (by show m_d1 _ _ _ _ _ = _; rw [m_d1, hl]; rfl) e
theorem m_kl_id {n : Nat} (h : n = 0 ∨ ∃ i, n = i + 1 ∧ m_nl (L[i]?.getD none) = true) : m_kl L n = L := by
  rcases h with rfl | ⟨i, rfl, h⟩
  · rfl
  · unfold m_kl
    dsimp only
    split
    · rename_i hl
      rw [hl] at h
      cases h
    · rename_i hl
      rw [hl] at h
      cases h
    · rfl
theorem e_istore {n : Nat} {v : Int32} {L' : m_L} (h : m_at k pc = some (.istore n, 2, j)) (hn : n < L.length) (hL : m_s1 L n (.int v) = L') (e : m_D x ρ k (pc + 2) L' st σ = o) : m_D x ρ k pc L (.int v :: st) σ = o := e_go h (by show m_d1 _ _ _ _ _ = _; rw [m_d1, if_pos hn, hL]; rfl) e
theorem e_istore_n {n : Fin 4} {v : Int32} {L' : m_L} (h : m_at k pc = some (.istore_n n, 1, j)) (hn : n < L.length) (hL : m_s1 L n (.int v) = L') (e : m_D x ρ k (pc + 1) L' st σ = o) : m_D x ρ k pc L (.int v :: st) σ = o := e_go h (by show m_d1 _ _ _ _ _ = _; rw [m_d1, if_pos hn, hL]; rfl) e
theorem e_lstore {n : Nat} {v : Int64} {L' : m_L} (h : m_at k pc = some (.lstore n, 2, j)) (hn : n + 1 < L.length) (hL : m_s2 L n (.long v) = L') (e : m_D x ρ k (pc + 2) L' st σ = o) : m_D x ρ k pc L (.long v :: st) σ = o := e_go h (by show m_d1 _ _ _ _ _ = _; rw [m_d1, if_pos hn, hL]; rfl) e
theorem e_lstore_n {n : Fin 4} {v : Int64} {L' : m_L} (h : m_at k pc = some (.lstore_n n, 1, j)) (hn : n + 1 < L.length) (hL : m_s2 L n (.long v) = L') (e : m_D x ρ k (pc + 1) L' st σ = o) : m_D x ρ k pc L (.long v :: st) σ = o := e_go h (by show m_d1 _ _ _ _ _ = _; rw [m_d1, if_pos hn, hL]; rfl) e
theorem e_astore_n {n : Fin 4} {v : Nat} {L' : m_L} (h : m_at k pc = some (.astore_n n, 1, j)) (hn : n < L.length) (hL : m_s1 L n (.ref v) = L') (e : m_D x ρ k (pc + 1) L' st σ = o) : m_D x ρ k pc L (.ref v :: st) σ = o := e_go h (by show m_d1 _ _ _ _ _ = _; rw [m_d1, if_pos hn, hL]; rfl) e
theorem e_astore_nN {n : Fin 4} {L' : m_L} (h : m_at k pc = some (.astore_n n, 1, j)) (hn : n < L.length) (hL : m_s1 L n .null = L') (e : m_D x ρ k (pc + 1) L' st σ = o) : m_D x ρ k pc L (.null :: st) σ = o := e_go h (by show m_d1 _ _ _ _ _ = _; rw [m_d1, if_pos hn, hL]; rfl) e
theorem e_iinc {n : Nat} {d : Int} {v w : Int32} {L' : m_L} (h : m_at k pc = some (.iinc n d, 3, j)) (hl : m_gl L n = some (.int v)) (hn : n < L.length) (hd : Int32.ofInt d = w) (hL : m_s1 L n (.int (v + w)) = L') (e : m_D x ρ k (pc + 3) L' st σ = o) : m_D x ρ k pc L st σ = o := e_go h (by show m_d1 _ _ _ _ _ = _; rw [m_d1, hl]; dsimp only; rw [if_pos hn, hd, hL]; rfl) e
theorem e_iadd {a b : Int32} (h : m_at k pc = some (.iadd, 1, j)) (e : m_D x ρ k (pc + 1) L (.int (a + b) :: st) σ = o) : m_D x ρ k pc L (.int b :: .int a :: st) σ = o := e_go h rfl e
theorem e_isub {a b : Int32} (h : m_at k pc = some (.isub, 1, j)) (e : m_D x ρ k (pc + 1) L (.int (a - b) :: st) σ = o) : m_D x ρ k pc L (.int b :: .int a :: st) σ = o := e_go h rfl e
theorem e_imul {a b : Int32} (h : m_at k pc = some (.imul, 1, j)) (e : m_D x ρ k (pc + 1) L (.int (a * b) :: st) σ = o) : m_D x ρ k pc L (.int b :: .int a :: st) σ = o := e_go h rfl e
theorem e_iand {a b : Int32} (h : m_at k pc = some (.iand, 1, j)) (e : m_D x ρ k (pc + 1) L (.int (a &&& b) :: st) σ = o) : m_D x ρ k pc L (.int b :: .int a :: st) σ = o := e_go h rfl e
theorem e_ior {a b : Int32} (h : m_at k pc = some (.ior, 1, j)) (e : m_D x ρ k (pc + 1) L (.int (a ||| b) :: st) σ = o) : m_D x ρ k pc L (.int b :: .int a :: st) σ = o := e_go h rfl e
theorem e_ixor {a b : Int32} (h : m_at k pc = some (.ixor, 1, j)) (e : m_D x ρ k (pc + 1) L (.int (a ^^^ b) :: st) σ = o) : m_D x ρ k pc L (.int b :: .int a :: st) σ = o := e_go h rfl e
theorem e_ishl {a b : Int32} (h : m_at k pc = some (.ishl, 1, j)) (e : m_D x ρ k (pc + 1) L (.int (a <<< (b &&& 31)) :: st) σ = o) : m_D x ρ k pc L (.int b :: .int a :: st) σ = o := e_go h rfl e
theorem e_ishr {a b : Int32} (h : m_at k pc = some (.ishr, 1, j)) (e : m_D x ρ k (pc + 1) L (.int (a >>> (b &&& 31)) :: st) σ = o) : m_D x ρ k pc L (.int b :: .int a :: st) σ = o := e_go h rfl e
theorem e_iushr {a b : Int32} (h : m_at k pc = some (.iushr, 1, j)) (e : m_D x ρ k (pc + 1) L (.int (a.toUInt32 >>> (b.toUInt32 &&& Int32.toUInt32 31)).toInt32 :: st) σ = o) : m_D x ρ k pc L (.int b :: .int a :: st) σ = o := e_go h rfl e
theorem e_idiv {a b : Int32} {o1 : Option m_R} (h : m_at k pc = some (.idiv, 1, j)) (e : m_D x ρ k (pc + 1) L (.int (a / b) :: st) σ = o1) : m_D x ρ k pc L (.int b :: .int a :: st) σ = if b = 0 then none else o1 := by
  by_cases hb : b = 0
  · rw [if_pos hb]
    apply m_D_none
    unfold m_nxt
    rw [h]
    show m_d1 _ _ _ _ _ = _
    rw [m_d1, if_pos hb]
  · rw [if_neg hb]
    exact e_go h (by show m_d1 _ _ _ _ _ = _; rw [m_d1, if_neg hb]; rfl) e
theorem e_irem {a b : Int32} {o1 : Option m_R} (h : m_at k pc = some (.irem, 1, j)) (e : m_D x ρ k (pc + 1) L (.int (a - a / b * b) :: st) σ = o1) : m_D x ρ k pc L (.int b :: .int a :: st) σ = if b = 0 then none else o1 := by
  by_cases hb : b = 0
  · rw [if_pos hb]
    apply m_D_none
    unfold m_nxt
    rw [h]
    show m_d1 _ _ _ _ _ = _
    rw [m_d1, if_pos hb]
  · rw [if_neg hb]
    exact e_go h (by show m_d1 _ _ _ _ _ = _; rw [m_d1, if_neg hb]; rfl) e
theorem e_idivc {a b : Int32} (h : m_at k pc = some (.idiv, 1, j)) (hb : ¬ b = 0) (e : m_D x ρ k (pc + 1) L (.int (a / b) :: st) σ = o) : m_D x ρ k pc L (.int b :: .int a :: st) σ = o := e_go h (by show m_d1 _ _ _ _ _ = _; rw [m_d1, if_neg hb]; rfl) e
theorem e_iremc {a b : Int32} (h : m_at k pc = some (.irem, 1, j)) (hb : ¬ b = 0) (e : m_D x ρ k (pc + 1) L (.int (a - a / b * b) :: st) σ = o) : m_D x ρ k pc L (.int b :: .int a :: st) σ = o := e_go h (by show m_d1 _ _ _ _ _ = _; rw [m_d1, if_neg hb]; rfl) e
theorem e_ldiv {a b : Int64} {o1 : Option m_R} (h : m_at k pc = some (.ldiv, 1, j)) (e : m_D x ρ k (pc + 1) L (.long (a / b) :: st) σ = o1) : m_D x ρ k pc L (.long b :: .long a :: st) σ = if b = 0 then none else o1 := by
  by_cases hb : b = 0
  · rw [if_pos hb]
    apply m_D_none
    unfold m_nxt
    rw [h]
    show m_d1 _ _ _ _ _ = _
    rw [m_d1, if_pos hb]
  · rw [if_neg hb]
    exact e_go h (by show m_d1 _ _ _ _ _ = _; rw [m_d1, if_neg hb]; rfl) e
theorem e_lrem {a b : Int64} {o1 : Option m_R} (h : m_at k pc = some (.lrem, 1, j)) (e : m_D x ρ k (pc + 1) L (.long (a - a / b * b) :: st) σ = o1) : m_D x ρ k pc L (.long b :: .long a :: st) σ = if b = 0 then none else o1 := by
  by_cases hb : b = 0
  · rw [if_pos hb]
    apply m_D_none
    unfold m_nxt
    rw [h]
    show m_d1 _ _ _ _ _ = _
    rw [m_d1, if_pos hb]
  · rw [if_neg hb]
    exact e_go h (by show m_d1 _ _ _ _ _ = _; rw [m_d1, if_neg hb]; rfl) e
theorem e_ldivc {a b : Int64} (h : m_at k pc = some (.ldiv, 1, j)) (hb : ¬ b = 0) (e : m_D x ρ k (pc + 1) L (.long (a / b) :: st) σ = o) : m_D x ρ k pc L (.long b :: .long a :: st) σ = o := e_go h (by show m_d1 _ _ _ _ _ = _; rw [m_d1, if_neg hb]; rfl) e
theorem e_lremc {a b : Int64} (h : m_at k pc = some (.lrem, 1, j)) (hb : ¬ b = 0) (e : m_D x ρ k (pc + 1) L (.long (a - a / b * b) :: st) σ = o) : m_D x ρ k pc L (.long b :: .long a :: st) σ = o := e_go h (by show m_d1 _ _ _ _ _ = _; rw [m_d1, if_neg hb]; rfl) e
theorem e_ineg {a : Int32} (h : m_at k pc = some (.ineg, 1, j)) (e : m_D x ρ k (pc + 1) L (.int (-a) :: st) σ = o) : m_D x ρ k pc L (.int a :: st) σ = o := e_go h rfl e
theorem e_i2b {a : Int32} (h : m_at k pc = some (.i2b, 1, j)) (e : m_D x ρ k (pc + 1) L (.int a.toInt8.toInt32 :: st) σ = o) : m_D x ρ k pc L (.int a :: st) σ = o := e_go h rfl e
theorem e_i2c {a : Int32} (h : m_at k pc = some (.i2c, 1, j)) (e : m_D x ρ k (pc + 1) L (.int (a.toUInt32 % 65536).toInt32 :: st) σ = o) : m_D x ρ k pc L (.int a :: st) σ = o := e_go h rfl e
theorem e_i2l {a : Int32} (h : m_at k pc = some (.i2l, 1, j)) (e : m_D x ρ k (pc + 1) L (.long a.toInt64 :: st) σ = o) : m_D x ρ k pc L (.int a :: st) σ = o := e_go h rfl e
theorem e_l2i {a : Int64} (h : m_at k pc = some (.l2i, 1, j)) (e : m_D x ρ k (pc + 1) L (.int a.toInt32 :: st) σ = o) : m_D x ρ k pc L (.long a :: st) σ = o := e_go h rfl e
theorem e_ladd {a b : Int64} (h : m_at k pc = some (.ladd, 1, j)) (e : m_D x ρ k (pc + 1) L (.long (a + b) :: st) σ = o) : m_D x ρ k pc L (.long b :: .long a :: st) σ = o := e_go h rfl e
theorem e_lsub {a b : Int64} (h : m_at k pc = some (.lsub, 1, j)) (e : m_D x ρ k (pc + 1) L (.long (a - b) :: st) σ = o) : m_D x ρ k pc L (.long b :: .long a :: st) σ = o := e_go h rfl e
theorem e_lmul {a b : Int64} (h : m_at k pc = some (.lmul, 1, j)) (e : m_D x ρ k (pc + 1) L (.long (a * b) :: st) σ = o) : m_D x ρ k pc L (.long b :: .long a :: st) σ = o := e_go h rfl e
theorem e_lor {a b : Int64} (h : m_at k pc = some (.lor, 1, j)) (e : m_D x ρ k (pc + 1) L (.long (a ||| b) :: st) σ = o) : m_D x ρ k pc L (.long b :: .long a :: st) σ = o := e_go h rfl e
theorem e_lneg {a : Int64} (h : m_at k pc = some (.lneg, 1, j)) (e : m_D x ρ k (pc + 1) L (.long (-a) :: st) σ = o) : m_D x ρ k pc L (.long a :: st) σ = o := e_go h rfl e
theorem e_lshl {a : Int64} {b : Int32} (h : m_at k pc = some (.lshl, 1, j)) (e : m_D x ρ k (pc + 1) L (.long (a <<< (b.toInt64 &&& 63)) :: st) σ = o) : m_D x ρ k pc L (.int b :: .long a :: st) σ = o := e_go h rfl e
theorem e_lshr {a : Int64} {b : Int32} (h : m_at k pc = some (.lshr, 1, j)) (e : m_D x ρ k (pc + 1) L (.long (a >>> (b.toInt64 &&& 63)) :: st) σ = o) : m_D x ρ k pc L (.int b :: .long a :: st) σ = o := e_go h rfl e
theorem e_lcmp {a b : Int64} (h : m_at k pc = some (.lcmp, 1, j)) (e : m_D x ρ k (pc + 1) L (.int (lg_cmp a b) :: st) σ = o) : m_D x ρ k pc L (.long b :: .long a :: st) σ = o := e_go h rfl e
theorem e_dup {v : Value} (h : m_at k pc = some (.dup, 1, j)) (hc : v.category = 1) (e : m_D x ρ k (pc + 1) L (v :: v :: st) σ = o) : m_D x ρ k pc L (v :: st) σ = o := e_go h (by show m_d1 _ _ _ _ _ = _; rw [m_d1, if_pos hc]; rfl) e
theorem e_pop {v : Value} (h : m_at k pc = some (.pop, 1, j)) (hc : v.category = 1) (e : m_D x ρ k (pc + 1) L st σ = o) : m_D x ρ k pc L (v :: st) σ = o := e_go h (by show m_d1 _ _ _ _ _ = _; rw [m_d1, if_pos hc]; rfl) e
theorem e_dup2 {v w : Value} (h : m_at k pc = some (.dup2, 1, j)) (hc : v.category = 1 ∧ w.category = 1) (e : m_D x ρ k (pc + 1) L (v :: w :: v :: w :: st) σ = o) : m_D x ρ k pc L (v :: w :: st) σ = o := e_go h (by show m_d1 _ _ _ _ _ = _; rw [m_d1, if_pos hc]; rfl) e
theorem e_goto {off : Int} {t : Nat} (h : m_at k pc = some (.goto off, 3, j)) (ht : m_tg pc off = t) (e : m_D x ρ k t L st σ = o) : m_D x ρ k pc L st σ = o := e_go h (by rw [← ht]; rfl) e
theorem e_ifnnR {off : Int} {t v : Nat} (h : m_at k pc = some (.ifnonnull off, 3, j)) (ht : m_tg pc off = t) (e : m_D x ρ k t L st σ = o) : m_D x ρ k pc L (.ref v :: st) σ = o := e_go h (by rw [← ht]; rfl) e
theorem e_ifnnN {off : Int} (h : m_at k pc = some (.ifnonnull off, 3, j)) (e : m_D x ρ k (pc + 3) L st σ = o) : m_D x ρ k pc L (.null :: st) σ = o := e_go h rfl e
end EQS
