section EQ3
variable {x : m_X} {ρ k pc j : Nat} {L : m_L} {st : List Value} {σ : m_H} {o o1 o2 : Option m_R}
theorem e_getI {n c0 i0 ci fk a : Nat} {F : Int32 → Option m_R} (h : m_at k pc = some (.getfield n, 3, j)) (hq : m_lf[j]? = some (c0, i0, ci, fk)) (hc : ¬ ci = 100) (ht : m_ft ci fk = 0 ∨ m_ft ci fk = 3) (e : ∀ v, m_D x ρ k (pc + 3) L (.int v :: st) σ = F v) : m_D x ρ k pc L (.ref a :: st) σ = (m_fI σ ci fk a).bind F := by
  refine e_bind h (G := fun v => m_go (pc + 3) L (.int v :: st) σ) ?_ (fun _ => pc + 3) (fun _ => L) (fun v => .int v :: st) (fun _ => σ) (fun _ => rfl) e
  show m_d3 _ _ _ _ _ _ _ = _
  rw [m_d3, hq]
  dsimp only [Option.bind_some]
  rw [if_neg hc]
  rcases ht with ht | ht <;> rw [ht] <;> rfl
theorem e_getL {n c0 i0 ci fk a : Nat} {F : Int64 → Option m_R} (h : m_at k pc = some (.getfield n, 3, j)) (hq : m_lf[j]? = some (c0, i0, ci, fk)) (hc : ¬ ci = 100) (ht : m_ft ci fk = 1) (e : ∀ v, m_D x ρ k (pc + 3) L (.long v :: st) σ = F v) : m_D x ρ k pc L (.ref a :: st) σ = (m_fL σ ci fk a).bind F := by
  refine e_bind h (G := fun v => m_go (pc + 3) L (.long v :: st) σ) ?_ (fun _ => pc + 3) (fun _ => L) (fun v => .long v :: st) (fun _ => σ) (fun _ => rfl) e
  show m_d3 _ _ _ _ _ _ _ = _
  rw [m_d3, hq]
  dsimp only [Option.bind_some]
  rw [if_neg hc, ht]
  rfl
theorem e_getR {n c0 i0 ci fk a : Nat} {F : Nat → Option m_R} (h : m_at k pc = some (.getfield n, 3, j)) (hq : m_lf[j]? = some (c0, i0, ci, fk)) (hc : ¬ ci = 100) (ht : m_ft ci fk = 2) (e : ∀ v, m_D x ρ k (pc + 3) L (.ref v :: st) σ = F v) : m_D x ρ k pc L (.ref a :: st) σ = (m_fR σ ci fk a).bind F := by
  refine e_bind h (G := fun v => m_go (pc + 3) L (.ref v :: st) σ) ?_ (fun _ => pc + 3) (fun _ => L) (fun v => .ref v :: st) (fun _ => σ) (fun _ => rfl) e
  show m_d3 _ _ _ _ _ _ _ = _
  rw [m_d3, hq]
  dsimp only [Option.bind_some]
  rw [if_neg hc, ht]
  rfl
/-- a text's value, its coder -/
theorem e_getTv {n c0 i0 a : Nat} (h : m_at k pc = some (.getfield n, 3, j)) (hq : m_lf[j]? = some (c0, i0, 100, 0)) (e : m_D x ρ k (pc + 3) L (.ref (a + 2) :: st) σ = o1) : m_D x ρ k pc L (.ref a :: st) σ = if a = 1002 ∨ a = 1003 then o1 else none := by
  by_cases ha : a = 1002 ∨ a = 1003
  · rw [if_pos ha]
    refine e_go h ?_ e
    show m_d3 _ _ _ _ _ _ _ = _
    rw [m_d3, hq]
    dsimp only [Option.bind_some]
    rw [if_pos rfl, if_pos ha, if_pos rfl]
    rfl
  · rw [if_neg ha]
    apply m_D_none
    unfold m_nxt
    rw [h]
    show m_d3 _ _ _ _ _ _ _ = _
    rw [m_d3, hq]
    dsimp only [Option.bind_some]
    rw [if_pos rfl, if_neg ha]
theorem e_getTc {n c0 i0 a : Nat} (h : m_at k pc = some (.getfield n, 3, j)) (hq : m_lf[j]? = some (c0, i0, 100, 1)) (e : m_D x ρ k (pc + 3) L (.int 0 :: st) σ = o1) : m_D x ρ k pc L (.ref a :: st) σ = if a = 1002 ∨ a = 1003 then o1 else none := by
  by_cases ha : a = 1002 ∨ a = 1003
  · rw [if_pos ha]
    refine e_go h ?_ e
    show m_d3 _ _ _ _ _ _ _ = _
    rw [m_d3, hq]
    dsimp only [Option.bind_some]
    rw [if_pos rfl, if_pos ha, if_neg (by decide)]
    rfl
  · rw [if_neg ha]
    apply m_D_none
    unfold m_nxt
    rw [h]
    show m_d3 _ _ _ _ _ _ _ = _
    rw [m_d3, hq]
    dsimp only [Option.bind_some]
    rw [if_pos rfl, if_neg ha]
theorem e_putf {n c0 i0 ci fk a t : Nat} {v : Value} {F : m_H → Option m_R} (h : m_at k pc = some (.putfield n, 3, j)) (hq : m_lf[j]? = some (c0, i0, ci, fk)) (ht : m_ft ci fk = t) (htk : m_tk t v = true) (e : ∀ σ1, m_D x ρ k (pc + 3) L st σ1 = F σ1) : m_D x ρ k pc L (v :: .ref a :: st) σ = (m_pf σ ci fk a v).bind F := by
  refine e_bind h (G := fun σ1 => m_go (pc + 3) L st σ1) ?_ (fun _ => pc + 3) (fun _ => L) (fun _ => st) (fun σ1 => σ1) (fun _ => rfl) e
  show m_d3 _ _ _ _ _ _ _ = _
  rw [m_d3, hq]
  dsimp only [Option.bind_some]
  rw [ht, if_pos htk]
theorem e_gst0 {n c0 i0 : Nat} (h : m_at k pc = some (.getstatic n, 3, j)) (hq : m_lg[j]? = some (c0, i0, 0)) (e : m_D x ρ k (pc + 3) L (.int 1 :: st) σ = o) : m_D x ρ k pc L st σ = o := e_go h (by show m_d3 _ _ _ _ _ _ _ = _; rw [m_d3, hq]; rfl) e
theorem e_gst1 {n c0 i0 : Nat} (h : m_at k pc = some (.getstatic n, 3, j)) (hq : m_lg[j]? = some (c0, i0, 1)) (e : m_D x ρ k (pc + 3) L (.ref 1001 :: st) σ = o) : m_D x ρ k pc L st σ = o := e_go h (by show m_d3 _ _ _ _ _ _ _ = _; rw [m_d3, hq]; rfl) e
theorem e_gst2 {n c0 i0 : Nat} (h : m_at k pc = some (.getstatic n, 3, j)) (hq : m_lg[j]? = some (c0, i0, 2)) (e : m_D x ρ k (pc + 3) L (x.2.2 :: st) σ = o) : m_D x ρ k pc L st σ = o := e_go h (by show m_d3 _ _ _ _ _ _ _ = _; rw [m_d3, hq]; rfl) e
theorem e_iald {a : Nat} {i : Int32} {F : Int32 → Option m_R} (h : m_at k pc = some (.iaload, 1, j)) (e : ∀ v, m_D x ρ k (pc + 1) L (.int v :: st) σ = F v) : m_D x ρ k pc L (.int i :: .ref a :: st) σ = (m_ia x σ a i).bind F :=
  e_bind h (G := fun v => m_go (pc + 1) L (.int v :: st) σ) rfl (fun _ => pc + 1) (fun _ => L) (fun v => .int v :: st) (fun _ => σ) (fun _ => rfl) e
theorem e_bald {a : Nat} {i : Int32} {F : Int32 → Option m_R} (h : m_at k pc = some (.baload, 1, j)) (e : ∀ v, m_D x ρ k (pc + 1) L (.int v :: st) σ = F v) : m_D x ρ k pc L (.int i :: .ref a :: st) σ = (m_ba x σ a i).bind F :=
  e_bind h (G := fun v => m_go (pc + 1) L (.int v :: st) σ) rfl (fun _ => pc + 1) (fun _ => L) (fun v => .int v :: st) (fun _ => σ) (fun _ => rfl) e
theorem e_lald {a : Nat} {i : Int32} {F : Int64 → Option m_R} (h : m_at k pc = some (.laload, 1, j)) (e : ∀ v, m_D x ρ k (pc + 1) L (.long v :: st) σ = F v) : m_D x ρ k pc L (.int i :: .ref a :: st) σ = (m_la σ a i).bind F :=
  e_bind h (G := fun v => m_go (pc + 1) L (.long v :: st) σ) rfl (fun _ => pc + 1) (fun _ => L) (fun v => .long v :: st) (fun _ => σ) (fun _ => rfl) e
theorem e_aald {a : Nat} {i : Int32} {F : Nat → Option m_R} (h : m_at k pc = some (.aaload, 1, j)) (e : ∀ v, m_D x ρ k (pc + 1) L (.ref v :: st) σ = F v) : m_D x ρ k pc L (.int i :: .ref a :: st) σ = (m_aa σ a i).bind F :=
  e_bind h (G := fun v => m_go (pc + 1) L (.ref v :: st) σ) rfl (fun _ => pc + 1) (fun _ => L) (fun v => .ref v :: st) (fun _ => σ) (fun _ => rfl) e
theorem e_alen {a : Nat} {F : Int32 → Option m_R} (h : m_at k pc = some (.arraylength, 1, j)) (e : ∀ v, m_D x ρ k (pc + 1) L (.int v :: st) σ = F v) : m_D x ρ k pc L (.ref a :: st) σ = (m_len x σ a).bind F :=
  e_bind h (G := fun v => m_go (pc + 1) L (.int v :: st) σ) rfl (fun _ => pc + 1) (fun _ => L) (fun v => .int v :: st) (fun _ => σ) (fun _ => rfl) e
theorem e_iast {a : Nat} {i v : Int32} {F : m_H → Option m_R} (h : m_at k pc = some (.iastore, 1, j)) (e : ∀ σ1, m_D x ρ k (pc + 1) L st σ1 = F σ1) : m_D x ρ k pc L (.int v :: .int i :: .ref a :: st) σ = (m_is σ a i v).bind F :=
  e_bind h (G := fun σ1 => m_go (pc + 1) L st σ1) rfl (fun _ => pc + 1) (fun _ => L) (fun _ => st) (fun σ1 => σ1) (fun _ => rfl) e
theorem e_bast {a : Nat} {i v : Int32} {F : m_H → Option m_R} (h : m_at k pc = some (.bastore, 1, j)) (e : ∀ σ1, m_D x ρ k (pc + 1) L st σ1 = F σ1) : m_D x ρ k pc L (.int v :: .int i :: .ref a :: st) σ = (m_bs σ a i v).bind F :=
  e_bind h (G := fun σ1 => m_go (pc + 1) L st σ1) rfl (fun _ => pc + 1) (fun _ => L) (fun _ => st) (fun σ1 => σ1) (fun _ => rfl) e
theorem e_last {a : Nat} {i : Int32} {v : Int64} {F : m_H → Option m_R} (h : m_at k pc = some (.lastore, 1, j)) (e : ∀ σ1, m_D x ρ k (pc + 1) L st σ1 = F σ1) : m_D x ρ k pc L (.long v :: .int i :: .ref a :: st) σ = (m_lst σ a i v).bind F :=
  e_bind h (G := fun σ1 => m_go (pc + 1) L st σ1) rfl (fun _ => pc + 1) (fun _ => L) (fun _ => st) (fun σ1 => σ1) (fun _ => rfl) e
theorem e_aast {a v : Nat} {i : Int32} {F : m_H → Option m_R} (h : m_at k pc = some (.aastore, 1, j)) (e : ∀ σ1, m_D x ρ k (pc + 1) L st σ1 = F σ1) : m_D x ρ k pc L (.ref v :: .int i :: .ref a :: st) σ = (m_as σ a i v).bind F :=
  e_bind h (G := fun σ1 => m_go (pc + 1) L st σ1) rfl (fun _ => pc + 1) (fun _ => L) (fun _ => st) (fun σ1 => σ1) (fun _ => rfl) e
theorem e_cond {i : Instr} {len : Nat} {c : Prop} [Decidable c] {pc' : Nat} {L' : m_L} {st' : List Value} {σ' : m_H} (h : m_at k pc = some (i, len, j)) (hs : (match m_cs i with
    | 1 => m_d1 i pc L st σ
    | 2 => m_d2 i pc L st σ
    | 3 => m_d3 x i j pc L st σ
    | _ => m_d4 k i j pc L st σ) = if c then m_go pc' L' st' σ' else none) (e : m_D x ρ k pc' L' st' σ' = o1) : m_D x ρ k pc L st σ = if c then o1 else none := by
  by_cases hc : c
  · rw [if_pos hc] at hs ⊢
    exact e_go h hs e
  · rw [if_neg hc] at hs ⊢
    apply m_D_none
    unfold m_nxt
    rw [h]
    exact hs
theorem e_new {n c0 i0 ci : Nat} (h : m_at k pc = some (.new n, 3, j)) (hq : m_lc[j]? = some (c0, i0, ci)) (e : m_D x ρ k (pc + 3) L (.ref σ.length :: st) (σ ++ [.inr (ci, m_nf ci)]) = o1) : m_D x ρ k pc L st σ = if σ.length < 900 then o1 else none :=
  e_cond h (by show m_d3 _ _ _ _ _ _ _ = _; rw [m_d3, hq]; rfl) e
theorem e_newI {n : Int32} (h : m_at k pc = some (.newarray .int, 2, j)) (e : m_D x ρ k (pc + 2) L (.ref σ.length :: st) (σ ++ [.inl (0, n.toNatClampNeg, .inl fun _ => 0)]) = o1) : m_D x ρ k pc L (.int n :: st) σ = if σ.length < 900 ∧ ¬ n < 0 ∧ n.toNatClampNeg ≤ 100000 then o1 else none := e_cond h rfl e
theorem e_newL {n : Int32} (h : m_at k pc = some (.newarray .long, 2, j)) (e : m_D x ρ k (pc + 2) L (.ref σ.length :: st) (σ ++ [.inl (1, n.toNatClampNeg, .inr (.inl fun _ => 0))]) = o1) : m_D x ρ k pc L (.int n :: st) σ = if σ.length < 900 ∧ ¬ n < 0 ∧ n.toNatClampNeg ≤ 100000 then o1 else none := e_cond h rfl e
theorem e_newZ {n : Int32} (h : m_at k pc = some (.newarray .boolean, 2, j)) (e : m_D x ρ k (pc + 2) L (.ref σ.length :: st) (σ ++ [.inl (2, n.toNatClampNeg, .inl fun _ => 0)]) = o1) : m_D x ρ k pc L (.int n :: st) σ = if σ.length < 900 ∧ ¬ n < 0 ∧ n.toNatClampNeg ≤ 100000 then o1 else none := e_cond h rfl e
theorem e_newA {n : Int32} {c : Nat} (h : m_at k pc = some (.anewarray c, 3, j)) (e : m_D x ρ k (pc + 3) L (.ref σ.length :: st) (σ ++ [.inl (3, n.toNatClampNeg, .inr (.inr (.inr (.inr fun _ => none))))]) = o1) : m_D x ρ k pc L (.int n :: st) σ = if σ.length < 900 ∧ ¬ n < 0 ∧ n.toNatClampNeg ≤ 100000 then o1 else none := e_cond h rfl e
theorem e_newM {n w : Int32} {c : Nat} (h : m_at k pc = some (.multianewarray c 2, 4, j)) (e : m_D x ρ k (pc + 4) L (.ref σ.length :: st) (σ ++ m_mrow n.toNatClampNeg σ.length :: List.replicate n.toNatClampNeg (.inl (0, w.toNatClampNeg, .inl fun _ => 0))) = o1) : m_D x ρ k pc L (.int w :: .int n :: st) σ = if σ.length + n.toNatClampNeg < 900 ∧ ¬ n < 0 ∧ ¬ w < 0 ∧ w.toNatClampNeg ≤ 100000 then o1 else none := e_cond h rfl e
theorem e_copy {n c0 i0 a b : Nat} {sp dp w : Int32} {F : m_H → Option m_R} (h : m_at k pc = some (.invokestatic n, 3, j)) (hq : m_lm[j]? = some (c0, i0, 9001, 0)) (hc : m_cat st ≤ 8) (e : ∀ σ1, m_D x ρ k (pc + 3) L st σ1 = F σ1) : m_D x ρ k pc L (.int w :: .int dp :: .ref b :: .int sp :: .ref a :: st) σ = (m_cpy σ a sp b dp w).bind F := by
  refine e_bind h (G := fun σ1 => m_go (pc + 3) L st σ1) ?_ (fun _ => pc + 3) (fun _ => L) (fun _ => st) (fun σ1 => σ1) (fun _ => rfl) e
  show m_d4 _ _ _ _ _ _ _ = _
  rw [m_d4, hq]
  dsimp only [Option.bind_some]
  rw [if_pos rfl, if_pos hc]
theorem e_oinit {n c0 i0 a : Nat} (h : m_at k pc = some (.invokespecial n, 3, j)) (hq : m_lm[j]? = some (c0, i0, 9000, 0)) (hc : m_cat st ≤ 8) (e : m_D x ρ k (pc + 3) L st σ = o) : m_D x ρ k pc L (.ref a :: st) σ = o := by
  refine e_go h ?_ e
  show m_d4 _ _ _ _ _ _ _ = _
  rw [m_d4, hq]
  dsimp only [Option.bind_some]
  rw [if_pos rfl, if_pos hc]
  rfl
/-- what is known of a callee -/
def m_cw (k' n ml : Nat) : Prop := k' < m_ins.length ∧ m_ar.getD k' 0 = n ∧ m_ml.getD k' 0 = ml
theorem m_cl1_ok {k' n ml nn : Nat} {as st' : List Value} (hw : m_cw k' n ml) (hn : as.length = nn) (hs : st = as.reverse ++ st') (hc : m_cat st' ≤ 8) (hm : (m_sl as).length ≤ ml) : m_cl1 k' nn pc st = some (.inr (.inl (k', as, pc + 3, st'))) := by
  obtain ⟨w1, w2, w3⟩ := hw
  have hl : as.reverse.length = nn := by rw [List.length_reverse]; exact hn
  have e1 : st.take nn = as.reverse := by rw [hs, ← hl, List.take_left]
  have e2 : st.drop nn = st' := by rw [hs, ← hl, List.drop_left]
  unfold m_cl1
  rw [e1, e2, List.reverse_reverse, w3]
  rw [if_pos ⟨by rw [hs, List.length_append, hl]; omega, w1, hc, hm⟩]
theorem e_call {i : Instr} {n c0 i0 k' ne nn ml np : Nat} {as st' : List Value} (h : m_at k pc = some (i, 3, j)) (hq : m_lm[j]? = some (c0, i0, k', ne)) (hi : (i = .invokestatic n ∧ np = nn) ∨ (i = .invokevirtual n ∧ np = nn + 1) ∨ (i = .invokespecial n ∧ np = nn + 1)) (hw : m_cw k' nn ml) (hk : Nat.blt k' 9000 = true) (hn : as.length = np) (hs : st = as.reverse ++ st') (hc : m_cat st' ≤ 8) (hm : (m_sl as).length ≤ ml) :
    m_D x ρ k pc L st σ = if m_rank k' as < ρ then (m_M x k' as σ).bind fun r => m_D x ρ k (pc + 3) L (r.1.toList ++ st') r.2 else none := by
  have hk : k' < 9000 := Nat.blt_eq.mp hk
  apply m_D_call
  unfold m_nxt
  rw [h]
  have hcl := m_cl1_ok (pc := pc) hw hn hs hc hm
  rcases hi with ⟨rfl, rfl⟩ | ⟨rfl, rfl⟩ | ⟨rfl, rfl⟩
  · show (m_lm[j]?).bind _ = _
    rw [hq]
    dsimp only [Option.bind_some]
    rw [if_neg (by omega), hw.2.1]
    exact hcl
  · show (m_lm[j]?).bind _ = _
    rw [hq]
    dsimp only [Option.bind_some]
    rw [hw.2.1]
    exact hcl
  · show (m_lm[j]?).bind _ = _
    rw [hq]
    dsimp only [Option.bind_some]
    rw [if_neg (by omega), hw.2.1]
    exact hcl
theorem m_eI {F G : Int32 → m_H → Option m_R} {q : Option m_R} (e : ∀ v σ1, F v σ1 = G v σ1) : m_bI q F = m_bI q G := by
  have : F = G := funext fun v => funext fun s => e v s
  rw [this]
theorem m_eL {F G : Int64 → m_H → Option m_R} {q : Option m_R} (e : ∀ v σ1, F v σ1 = G v σ1) : m_bL q F = m_bL q G := by
  have : F = G := funext fun v => funext fun s => e v s
  rw [this]
theorem m_eV {F G : m_H → Option m_R} {q : Option m_R} (e : ∀ σ1, F σ1 = G σ1) : m_bV q F = m_bV q G := by
  have : F = G := funext fun s => e s
  rw [this]
theorem m_eR {F G : Value → m_H → Option m_R} {q : Option m_R} (e : ∀ v σ1, F v σ1 = G v σ1) : m_bR q F = m_bR q G := by
  have : F = G := funext fun v => funext fun s => e v s
  rw [this]
variable {i : Instr} {n c0 i0 k' ne nn ml np : Nat} {as st' : List Value}
theorem e_callI {F : Int32 → m_H → Option m_R} (h : m_at k pc = some (i, 3, j)) (hq : m_lm[j]? = some (c0, i0, k', ne)) (hi : (i = .invokestatic n ∧ np = nn) ∨ (i = .invokevirtual n ∧ np = nn + 1) ∨ (i = .invokespecial n ∧ np = nn + 1)) (hw : m_cw k' nn ml) (hk : Nat.blt k' 9000 = true) (hn : as.length = np) (hs : st = as.reverse ++ st') (hc : m_cat st' ≤ 8) (hm : (m_sl as).length ≤ ml) (hr : m_rank k' as < ρ) (ht : m_rtI (m_RT k') = true)
    (e : ∀ v σ1, m_D x ρ k (pc + 3) L (.int v :: st') σ1 = F v σ1) : m_D x ρ k pc L st σ = m_bI (m_M x k' as σ) F := by
  rw [e_call h hq hi hw hk hn hs hc hm, if_pos hr, m_M_bI ht]
  exact m_eI e
theorem e_callL {F : Int64 → m_H → Option m_R} (h : m_at k pc = some (i, 3, j)) (hq : m_lm[j]? = some (c0, i0, k', ne)) (hi : (i = .invokestatic n ∧ np = nn) ∨ (i = .invokevirtual n ∧ np = nn + 1) ∨ (i = .invokespecial n ∧ np = nn + 1)) (hw : m_cw k' nn ml) (hk : Nat.blt k' 9000 = true) (hn : as.length = np) (hs : st = as.reverse ++ st') (hc : m_cat st' ≤ 8) (hm : (m_sl as).length ≤ ml) (hr : m_rank k' as < ρ) (ht : m_RT k' = some .long)
    (e : ∀ v σ1, m_D x ρ k (pc + 3) L (.long v :: st') σ1 = F v σ1) : m_D x ρ k pc L st σ = m_bL (m_M x k' as σ) F := by
  rw [e_call h hq hi hw hk hn hs hc hm, if_pos hr, m_M_bL ht]
  exact m_eL e
theorem e_callV {F : m_H → Option m_R} (h : m_at k pc = some (i, 3, j)) (hq : m_lm[j]? = some (c0, i0, k', ne)) (hi : (i = .invokestatic n ∧ np = nn) ∨ (i = .invokevirtual n ∧ np = nn + 1) ∨ (i = .invokespecial n ∧ np = nn + 1)) (hw : m_cw k' nn ml) (hk : Nat.blt k' 9000 = true) (hn : as.length = np) (hs : st = as.reverse ++ st') (hc : m_cat st' ≤ 8) (hm : (m_sl as).length ≤ ml) (hr : m_rank k' as < ρ) (ht : m_RT k' = none)
    (e : ∀ σ1, m_D x ρ k (pc + 3) L st' σ1 = F σ1) : m_D x ρ k pc L st σ = m_bV (m_M x k' as σ) F := by
  rw [e_call h hq hi hw hk hn hs hc hm, if_pos hr, m_M_bV ht]
  exact m_eV e
theorem e_callR {F : Value → m_H → Option m_R} (h : m_at k pc = some (i, 3, j)) (hq : m_lm[j]? = some (c0, i0, k', ne)) (hi : (i = .invokestatic n ∧ np = nn) ∨ (i = .invokevirtual n ∧ np = nn + 1) ∨ (i = .invokespecial n ∧ np = nn + 1)) (hw : m_cw k' nn ml) (hk : Nat.blt k' 9000 = true) (hn : as.length = np) (hs : st = as.reverse ++ st') (hc : m_cat st' ≤ 8) (hm : (m_sl as).length ≤ ml) (hr : m_rank k' as < ρ) (ht : m_rtR (m_RT k') = true)
    (e : ∀ v σ1, m_D x ρ k (pc + 3) L (v :: st') σ1 = F v σ1) : m_D x ρ k pc L st σ = m_bR (m_M x k' as σ) F := by
  rw [e_call h hq hi hw hk hn hs hc hm, if_pos hr, m_M_bR ht]
  exact m_eR e
def m_bN {α : Type} (o : Option m_R) (F : Nat → m_H → Option α) (G : m_H → Option α) : Option α := match o with
  | some (some (.ref r), σ) => F r σ
  | some (some .null, σ) => G σ
  | _ => none
theorem e_callN {F : Nat → m_H → Option m_R} {G : m_H → Option m_R} (h : m_at k pc = some (i, 3, j)) (hq : m_lm[j]? = some (c0, i0, k', ne)) (hi : (i = .invokestatic n ∧ np = nn) ∨ (i = .invokevirtual n ∧ np = nn + 1) ∨ (i = .invokespecial n ∧ np = nn + 1)) (hw : m_cw k' nn ml) (hk : Nat.blt k' 9000 = true) (hn : as.length = np) (hs : st = as.reverse ++ st') (hc : m_cat st' ≤ 8) (hm : (m_sl as).length ≤ ml) (hr : m_rank k' as < ρ) (ht : m_rtR (m_RT k') = true)
    (e : ∀ v σ1, m_D x ρ k (pc + 3) L (.ref v :: st') σ1 = F v σ1) (e' : ∀ σ1, m_D x ρ k (pc + 3) L (.null :: st') σ1 = G σ1) : m_D x ρ k pc L st σ = m_bN (m_M x k' as σ) F G := by
  rw [e_call h hq hi hw hk hn hs hc hm, if_pos hr]
  cases hm : m_M x k' as σ with
  | none => rfl
  | some r =>
    have h1 := m_M_rk hm
    obtain ⟨rv, σ1⟩ := r
    unfold m_rtR at ht
    split at ht
    all_goals first | (cases ht; done) | skip
    all_goals (rename_i hh; rw [hh] at h1; cases rv with
      | none => cases h1
      | some v => cases v <;> first | exact e _ _ | exact e' _ | (cases h1))
/-- the same, where the callee's rank isn't known to be lower -/
theorem e_callIg {F : Int32 → m_H → Option m_R} (h : m_at k pc = some (i, 3, j)) (hq : m_lm[j]? = some (c0, i0, k', ne)) (hi : (i = .invokestatic n ∧ np = nn) ∨ (i = .invokevirtual n ∧ np = nn + 1) ∨ (i = .invokespecial n ∧ np = nn + 1)) (hw : m_cw k' nn ml) (hk : Nat.blt k' 9000 = true) (hn : as.length = np) (hs : st = as.reverse ++ st') (hc : m_cat st' ≤ 8) (hm : (m_sl as).length ≤ ml) (ht : m_rtI (m_RT k') = true)
    (e : ∀ v σ1, m_D x ρ k (pc + 3) L (.int v :: st') σ1 = F v σ1) : m_D x ρ k pc L st σ = if m_rank k' as < ρ then m_bI (m_M x k' as σ) F else none := by
  rw [e_call h hq hi hw hk hn hs hc hm, m_M_bI ht]
  by_cases hr : m_rank k' as < ρ
  · rw [if_pos hr, if_pos hr]
    exact m_eI e
  · rw [if_neg hr, if_neg hr]
theorem e_callVg {F : m_H → Option m_R} (h : m_at k pc = some (i, 3, j)) (hq : m_lm[j]? = some (c0, i0, k', ne)) (hi : (i = .invokestatic n ∧ np = nn) ∨ (i = .invokevirtual n ∧ np = nn + 1) ∨ (i = .invokespecial n ∧ np = nn + 1)) (hw : m_cw k' nn ml) (hk : Nat.blt k' 9000 = true) (hn : as.length = np) (hs : st = as.reverse ++ st') (hc : m_cat st' ≤ 8) (hm : (m_sl as).length ≤ ml) (ht : m_RT k' = none)
    (e : ∀ σ1, m_D x ρ k (pc + 3) L st' σ1 = F σ1) : m_D x ρ k pc L st σ = if m_rank k' as < ρ then m_bV (m_M x k' as σ) F else none := by
  rw [e_call h hq hi hw hk hn hs hc hm, m_M_bV ht]
  by_cases hr : m_rank k' as < ρ
  · rw [if_pos hr, if_pos hr]
    exact m_eV e
  · rw [if_neg hr, if_neg hr]
/-- returns -/
theorem e_ret {r : Option Value} (h : m_at k pc = some (i, 1, j)) (hs : (match m_cs i with
    | 1 => m_d1 i pc L st σ
    | 2 => m_d2 i pc L st σ
    | 3 => m_d3 x i j pc L st σ
    | _ => m_d4 k i j pc L st σ) = some (.inr (.inr r))) : m_D x ρ k pc L st σ = some (r, σ) := by
  apply m_D_ret
  unfold m_nxt
  rw [h]
  exact hs
theorem e_iretI {v : Int32} (h : m_at k pc = some (.ireturn, 1, j)) (ht : m_RT k = some .int) : m_D x ρ k pc L [.int v] σ = some (some (.int v), σ) :=
  e_ret h (by show m_d4 _ _ _ _ _ _ _ = _; rw [m_d4]; rw [show m_rt.getD k none = some .int from ht]; rfl)
theorem e_iretZ {v : Int32} (h : m_at k pc = some (.ireturn, 1, j)) (ht : m_RT k = some .boolean) (hv : (v == 0 || v == 1) = true) : m_D x ρ k pc L [.int v] σ = some (some (.int v), σ) :=
  e_ret h (by show m_d4 _ _ _ _ _ _ _ = _; rw [m_d4, show m_rt.getD k none = some .boolean from ht, if_pos (by exact hv)])
theorem e_iretG {v : Int32} {t : Option FieldType} (h : m_at k pc = some (.ireturn, 1, j)) (ht : m_RT k = t) : m_D x ρ k pc L [.int v] σ = if m_rk t (some (.int v)) = true then some (some (.int v), σ) else none := by
  by_cases hv : m_rk t (some (.int v)) = true
  · rw [if_pos hv]
    exact e_ret h (by show m_d4 _ _ _ _ _ _ _ = _; rw [m_d4, show m_rt.getD k none = t from ht, if_pos hv])
  · rw [if_neg hv]
    apply m_D_none
    unfold m_nxt
    rw [h]
    show m_d4 _ _ _ _ _ _ _ = _
    rw [m_d4, show m_rt.getD k none = t from ht, if_neg hv]
theorem e_lret {v : Int64} (h : m_at k pc = some (.lreturn, 1, j)) (ht : m_RT k = some .long) : m_D x ρ k pc L [.long v] σ = some (some (.long v), σ) :=
  e_ret h (by show m_d4 _ _ _ _ _ _ _ = _; rw [m_d4, show m_rt.getD k none = some .long from ht]; rfl)
theorem e_aretR {v : Nat} (h : m_at k pc = some (.areturn, 1, j)) (ht : m_rtR (m_RT k) = true) : m_D x ρ k pc L [.ref v] σ = some (some (.ref v), σ) := by
  refine e_ret h ?_
  show m_d4 _ _ _ _ _ _ _ = _
  rw [m_d4]
  unfold m_rtR at ht
  split at ht
  all_goals first | (cases ht; done) | skip
  all_goals (rename_i hh; rw [show m_rt.getD k none = _ from hh]; rfl)
theorem e_aretN (h : m_at k pc = some (.areturn, 1, j)) (ht : m_rtR (m_RT k) = true) : m_D x ρ k pc L [.null] σ = some (some .null, σ) := by
  refine e_ret h ?_
  show m_d4 _ _ _ _ _ _ _ = _
  rw [m_d4]
  unfold m_rtR at ht
  split at ht
  all_goals first | (cases ht; done) | skip
  all_goals (rename_i hh; rw [show m_rt.getD k none = _ from hh]; rfl)
theorem e_vret (h : m_at k pc = some (.return_, 1, j)) (ht : m_RT k = none) : m_D x ρ k pc L [] σ = some (none, σ) :=
  e_ret h (by show m_d4 _ _ _ _ _ _ _ = _; rw [m_d4, show m_rt.getD k none = none from ht]; rfl)
/-- entries -/
theorem e_M0 {as : List Value} {r : Nat} {L0 : m_L} (hkd : m_KD k = 0) (hr : m_rank k as = r) (hL : m_en k as = L0) (e : m_D x r k 0 L0 [] σ = o) : m_M x k as σ = o := by
  unfold m_M m_rc
  rw [if_pos (by rw [if_pos (show m_kd.getD k 0 = 0 from hkd)]), hr, hL]
  exact e
theorem e_M2 {as : List Value} {w r : Nat} {L0 : m_L} (hkd : m_KD k = 2) (hr : m_rank k (.ref w :: as) = r) (hL : m_en k (.ref w :: as) = L0) (e : m_D x r k 0 L0 [] σ = o) : m_M x k (.ref w :: as) σ = o := by
  unfold m_M m_rc
  rw [if_pos (by rw [if_neg (by rw [show m_kd.getD k 0 = 2 from hkd]; decide)]; dsimp only; rw [show m_kd.getD k 0 = 2 from hkd]; rfl), hr, hL]
  exact e
theorem e_M1 {as : List Value} {w r ci : Nat} {L0 : m_L} (hkd : m_KD k = 1) (hci : m_ci k = ci) (hne : (ci == 100) = false) (hr : m_rank k (.ref w :: as) = r) (hL : m_en k (.ref w :: as) = L0) (e : m_D x r k 0 L0 [] σ = o1) : m_M x k (.ref w :: as) σ = if m_isO σ w ci = true then o1 else none := by
  have hrc : m_rc k (.ref w :: as) σ = m_isO σ w ci := by
    unfold m_rc
    rw [if_neg (show ¬ m_kd.getD k 0 = 0 by rw [show m_kd.getD k 0 = 1 from hkd]; decide)]
    show (m_kd.getD k 0 == 2 || m_isO σ w (m_ci k) || (m_ci k == 100 && (w == 1002 || w == 1003))) = _
    rw [show m_kd.getD k 0 = 1 from hkd, hci, hne, show ((1 : Nat) == 2) = false from rfl, Bool.false_or, Bool.false_and, Bool.or_false]
  unfold m_M
  rw [hrc, hr, hL, e]
theorem e_MT {as : List Value} {w r : Nat} {L0 : m_L} (hkd : m_KD k = 1) (hci : m_ci k = 100) (hw : (w == 1002 || w == 1003) = true) (hr : m_rank k (.ref w :: as) = r) (hL : m_en k (.ref w :: as) = L0) (e : m_D x r k 0 L0 [] σ = o) : m_M x k (.ref w :: as) σ = o := by
  have hrc : m_rc k (.ref w :: as) σ = true := by
    unfold m_rc
    rw [if_neg (show ¬ m_kd.getD k 0 = 0 by rw [show m_kd.getD k 0 = 1 from hkd]; decide)]
    show (m_kd.getD k 0 == 2 || m_isO σ w (m_ci k) || (m_ci k == 100 && (w == 1002 || w == 1003))) = _
    rw [hci, hw, show ((100 : Nat) == 100) = true from rfl, Bool.true_and, Bool.or_true]
  unfold m_M
  rw [if_pos hrc, hr, hL]
  exact e
end EQ3
