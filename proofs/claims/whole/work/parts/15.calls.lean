-- calls: a method's contract out of its body's run
/-- what the tables say of a method that is called -/
def m_okM (k : Nat) : Prop := Cond.code (m_Y k) (m_CD k) (m_ML k) (m_RT k) ∈ m_ws0 ∧ plainFor (m_Y k) = true ∧ ((m_Y k).cls ≠ "java/lang/invoke/MethodHandle" ∧ (m_Y k).cls ≠ "java/lang/invoke/VarHandle") ∧ (parseMethodDescriptor (m_Y k).desc).map (fun d => d.parameters.length) = some (m_AR k) ∧ Cond.initialized (m_Y k).cls ∈ m_ws0 ∧ (m_Y k).cls = m_CN k ∧ 1 ≤ (m_rb.getD k (0, 0, 0)).1 ∧ m_ML k ≤ 40 ∧
  ((m_KD k = 0 ∧ Cond.static (m_Y k) ∈ m_ws0) ∨
   (m_KD k = 1 ∧ Cond.instanceMethod (m_Y k) ∈ m_ws0 ∧ Cond.selects (m_Y k).cls (m_Y k) (m_Y k) ∈ m_ws0 ∧ ((m_ci k = 100 ∧ (m_Y k).cls = "java/lang/String") ∨ (m_ci k ≠ 100 ∧ ∃ q, vwCl[m_ci k]? = some q ∧ q.1 = (m_Y k).cls))) ∨
   (m_KD k = 2 ∧ Cond.instanceMethod (m_Y k) ∈ m_ws0 ∧ (m_Y k).name = "<init>" ∧ m_RT k = none))
def m_T2 : Prop := (∀ (j : Nat) (q : Nat × Nat × Nat × Nat), m_lm[j]? = some q → (q.2.2.1 = 9000 → Cond.methodLink (m_cnm q.1) q.2.1 objectInit ∈ m_ws0) ∧ (q.2.2.1 = 9001 → Cond.methodLink (m_cnm q.1) q.2.1 arraycopyName ∈ m_ws0) ∧ (q.2.2.1 < m_ins.length → m_okM q.2.2.1 ∧ (q.2.2.2 = 0 → Cond.methodLink (m_cnm q.1) q.2.1 (m_Y q.2.2.1) ∈ m_ws0) ∧ (q.2.2.2 ≠ 0 → m_KD q.2.2.1 = 0 ∧ (m_cnm q.1, q.2.1, m_Y q.2.2.1) ∈ m_nests))) ∧
  Cond.instanceMethod objectInit ∈ m_ws0 ∧ Cond.code objectInit ⟨#[0xb1]⟩ 1 none ∈ m_ws0 ∧ Cond.native arraycopyName ∈ m_ws0 ∧ Cond.static arraycopyName ∈ m_ws0 ∧ Cond.initialized "java/lang/System" ∈ m_ws0
def m_wsk (k : Nat) : List Cond := Cond.code (m_Y k) (m_CD k) (m_ML k) (m_RT k) :: m_ws0
theorem m_ws0_good : GoodIn m_ws0 m_ws0 := fun w hw => ⟨hw, good_of_word (List.mem_filter.mp hw).2⟩
theorem m_wsk_good {k : Nat} (h : m_okM k) : GoodIn m_ws0 (m_wsk k) := fun w hw => by
  rcases List.mem_cons.mp hw with rfl | hw
  · exact m_ws0_good _ h.1
  · exact m_ws0_good _ hw
/-- a return instruction and its answer -/
def m_isR (i : Instr) (r : Option Value) : Prop := (i = .ireturn ∧ ∃ v, r = some (.int v)) ∨ (i = .lreturn ∧ ∃ v, r = some (.long v)) ∨ (i = .areturn ∧ ((∃ v, r = some (.ref v)) ∨ r = some .null)) ∨ (i = .return_ ∧ r = none)
/-- the body of a method is sound for runs of n steps -/
def m_Snd (n : Nat) : Prop := ∀ (x : m_X) (b : Nat) (eA : Nat → Nat) (D : va_G) (cA : Nat → ClassId) (ρ k pc : Nat) (L : m_L) (st : List Value) (σ : m_H) (r : Option Value) (σ' : m_H), m_run x n ρ k pc L st σ = some (r, σ') →
  ∀ (l : Launch) (p : Program) (e : Env) (R : Room) (s : State) (m : MethodId) (args : Array Value) (below : List Frame) (meth : Method) (c : Code) (H : Heap) (locs : List Loc) (cells slots : Nat) (Q : State → Prop) (ls : Array Slot) (N0 S0 : Nat),
  m_F k p s m args meth c → m_Ex x b eA D cA s → m_I b eA D cA N0 S0 σ s H locs cells slots → m_lr (m_ad b eA) (m_ML k) L ls → 1 ≤ ρ → ρ ≤ R.frames → 64 * ρ ≤ R.locals → σ'.length ≤ N0 + R.cells → m_slt σ' ≤ S0 + R.slots →
  (∀ (pc9 : Nat) (i9 : Instr) (ls9 : Array Slot) (H9 : Heap) (locs9 : List Loc) (cells9 slots9 : Nat), m_isR i9 r → decode (m_CD k) pc9 = .ok (i9, 1) → m_I b eA D cA N0 S0 σ' s H9 locs9 cells9 slots9 → m_rk (m_RT k) r = true → W p l e R s m args below meth c H9 locs9 cells9 slots9 Q (F0 m pc9 ls9 (r.toList.map (m_tv (m_ad b eA))))) →
  W p l e R s m args below meth c H locs cells slots Q (F0 m pc ls (st.map (m_tv (m_ad b eA))))
/-- a contract's start and its end -/
def m_Pc (x : m_X) (b : Nat) (eA : Nat → Nat) (D : va_G) (cA : Nat → ClassId) (as : List Value) (σ : m_H) : Array Value → State → Prop := fun v U => v = (as.map (m_tv (m_ad b eA))).toArray ∧ m_Ex x b eA D cA U ∧ va_P D vwCl (m_w (m_ad b eA) cA σ) U.heap ∧ U.heap.size = b + σ.length
def m_Qc (b : Nat) (eA : Nat → Nat) (D : va_G) (cA : Nat → ClassId) (r : Option Value) (σ' : m_H) : Array Value → State → Outcome → State → Prop := fun _ st o t => o = .returned (r.map (m_tv (m_ad b eA))) ∧ va_P D vwCl (m_w (m_ad b eA) cA σ') t.heap ∧ t.heap.size = b + σ'.length ∧ st.heap.size ≤ t.heap.size ∧ ∀ q, q < st.heap.size → ¬ m_A0 b q → t.heap[q]? = st.heap[q]?
def m_rm (ρ : Nat) (σ σ' : m_H) : Room := { frames := ρ, cells := σ'.length - σ.length, slots := m_slt σ' - m_slt σ, locals := 64 * ρ }
theorem m_Pc.blind {x : m_X} {b : Nat} {eA : Nat → Nat} {D : va_G} {cA : Nat → ClassId} {as : List Value} {σ : m_H} : FrameBlind (m_Pc x b eA D cA as σ) := by
  intro a U g mk h
  obtain ⟨h1, h2, h3, h4⟩ := h
  exact ⟨h1, h2.move (State.WarmedH.refl U) (fun _ _ _ => rfl), h3, h4⟩
theorem m_rank_pos {k : Nat} (h : 1 ≤ (m_rb.getD k (0, 0, 0)).1) (as : List Value) : 1 ≤ m_rank k as := by
  unfold m_rank
  split
  · exact h
  · split <;> omega
theorem m_go_no {pc : Nat} {L : m_L} {st : List Value} {σ : m_H} {z : (Nat × List Value × Nat × List Value) ⊕ Option Value} (h : m_go pc L st σ = some (.inr z)) : False := by cases h
theorem m_d3_no {x : m_X} {i : Instr} {j pc : Nat} {L : m_L} {st : List Value} {σ : m_H} {z : (Nat × List Value × Nat × List Value) ⊕ Option Value} (h : m_d3 x i j pc L st σ = some (.inr z)) : False := by
  unfold m_d3 at h
  split at h
  case h_1 =>
    obtain ⟨q, -, h⟩ := Option.bind_eq_some_iff.mp h
    split at h
    · split at h
      · split at h <;> exact m_go_no h
      · cases h
    · split at h <;> (obtain ⟨_, _, h⟩ := Option.bind_eq_some_iff.mp h; exact m_go_no h)
  case h_2 =>
    obtain ⟨q, -, h⟩ := Option.bind_eq_some_iff.mp h
    split at h
    · obtain ⟨σ1, hp, h⟩ := Option.bind_eq_some_iff.mp h
      exact m_go_no h
    · cases h
  case h_3 =>
    obtain ⟨q, -, h⟩ := Option.bind_eq_some_iff.mp h
    split at h <;> exact m_go_no h
  case h_4 => obtain ⟨_, _, h⟩ := Option.bind_eq_some_iff.mp h; exact m_go_no h
  case h_5 => obtain ⟨_, _, h⟩ := Option.bind_eq_some_iff.mp h; exact m_go_no h
  case h_6 => obtain ⟨_, _, h⟩ := Option.bind_eq_some_iff.mp h; exact m_go_no h
  case h_7 => obtain ⟨_, _, h⟩ := Option.bind_eq_some_iff.mp h; exact m_go_no h
  case h_8 => obtain ⟨_, _, h⟩ := Option.bind_eq_some_iff.mp h; exact m_go_no h
  case h_9 => obtain ⟨_, _, h⟩ := Option.bind_eq_some_iff.mp h; exact m_go_no h
  case h_10 => obtain ⟨_, _, h⟩ := Option.bind_eq_some_iff.mp h; exact m_go_no h
  case h_11 => obtain ⟨_, _, h⟩ := Option.bind_eq_some_iff.mp h; exact m_go_no h
  case h_12 => obtain ⟨_, _, h⟩ := Option.bind_eq_some_iff.mp h; exact m_go_no h
  case h_13 =>
    obtain ⟨q, -, h⟩ := Option.bind_eq_some_iff.mp h
    split at h
    · exact m_go_no h
    · cases h
  case h_14 =>
    split at h
    · split at h
      · exact m_go_no h
      · exact m_go_no h
      · exact m_go_no h
      · cases h
    · cases h
  case h_15 =>
    split at h
    · exact m_go_no h
    · cases h
  case h_16 =>
    split at h
    · exact m_go_no h
    · cases h
  case h_17 => split at h <;> (obtain ⟨_, _, h⟩ := Option.bind_eq_some_iff.mp h; exact m_go_no h)
  case h_18 =>
    split at h
    · obtain ⟨_, _, h⟩ := Option.bind_eq_some_iff.mp h; exact m_go_no h
    · cases h
  case h_19 => obtain ⟨_, _, h⟩ := Option.bind_eq_some_iff.mp h; exact m_go_no h
  case h_20 => cases h
theorem m_d1_no {i : Instr} {pc : Nat} {L : m_L} {st : List Value} {σ : m_H} {z : (Nat × List Value × Nat × List Value) ⊕ Option Value} (h : m_d1 i pc L st σ = some (.inr z)) : False := by
  unfold m_d1 at h
  split at h
  all_goals first | (cases h; done) | skip
  all_goals (split at h)
  all_goals first | (cases h; done) | skip
  all_goals (split at h)
  all_goals (cases h)
theorem m_d2_no {i : Instr} {pc : Nat} {L : m_L} {st : List Value} {σ : m_H} {z : (Nat × List Value × Nat × List Value) ⊕ Option Value} (h : m_d2 i pc L st σ = some (.inr z)) : False := by
  unfold m_d2 at h
  split at h
  all_goals first | (cases h; done) | skip
  obtain ⟨_, _, h⟩ := Option.bind_eq_some_iff.mp h
  exact m_go_no h
theorem m_run_rk (x : m_X) : ∀ (n ρ k pc : Nat) (L : m_L) (st : List Value) (σ : m_H) (r : m_R), m_run x n ρ k pc L st σ = some r → m_rk (m_RT k) r.1 = true := by
  intro n
  induction n with
  | zero => intro ρ k pc L st σ r h; simp [m_run] at h
  | succ n ih =>
    intro ρ k pc L st σ r h
    rw [m_run] at h
    split at h
    · cases h
    · exact ih _ _ _ _ _ _ _ h
    · split at h
      · obtain ⟨q, h1, h2⟩ := Option.bind_eq_some_iff.mp h
        exact ih _ _ _ _ _ _ _ h2
      · cases h
    · rename_i r0 hn
      cases h
      unfold m_nxt at hn
      split at hn
      · cases hn
      · split at hn
        · exact (m_d1_no hn).elim
        · exact (m_d2_no hn).elim
        · exact (m_d3_no hn).elim
        · unfold m_d4 at hn
          split at hn
          case h_1 =>
            obtain ⟨q, -, hn⟩ := Option.bind_eq_some_iff.mp hn
            split at hn
            · split at hn
              · split at hn
                · obtain ⟨_, _, hn⟩ := Option.bind_eq_some_iff.mp hn
                  cases hn
                · cases hn
              · cases hn
            · cases (m_cl1_some hn).1
          case h_2 =>
            obtain ⟨q, -, hn⟩ := Option.bind_eq_some_iff.mp hn
            cases (m_cl1_some hn).1
          case h_3 =>
            obtain ⟨q, -, hn⟩ := Option.bind_eq_some_iff.mp hn
            split at hn
            · split at hn
              · split at hn <;> cases hn
              · cases hn
            · cases (m_cl1_some hn).1
          all_goals first | (cases hn; done) | skip
          all_goals (split at hn)
          all_goals first | (cases hn; done) | skip
          all_goals (rename_i hh; cases hn; exact hh)
theorem m_rk_int {t : Option FieldType} {v : Int32} (h : m_rk t (some (.int v)) = true) : ∃ ty, t = some ty ∧ narrow ty (.int v) = .int v := by
  unfold m_rk at h
  split at h
  all_goals first | (rename_i e1; cases e1; done) | skip
  · rename_i e1; exact ⟨_, rfl, vp_nar_int v⟩
  · rename_i e1
    cases e1
    refine ⟨_, rfl, ?_⟩
    simp only [Bool.or_eq_true, beq_iff_eq] at h
    rcases h with rfl | rfl <;> decide
  · rename_i e1
    cases e1
    exact ⟨_, rfl, by simpa using h⟩
  · rename_i e1
    cases e1
    exact ⟨_, rfl, by simpa using h⟩
  · cases h
/-- a contract out of its body, for methods of classes too of which other methods are run by an entry -/
theorem m_ofW {l : Launch} {y : MethodName} {ws ws' : List Cond} {rm : Room} {Pc : Array Value → State → Prop} {Qc : Array Value → State → Outcome → State → Prop} {mc ms : Nat} {free : Addr → Prop} {cc : ByteArray} {maxL : Nat} {ret : Option FieldType}
    (hy : plainFor y = true) (hw : ws = Cond.code y cc maxL ret :: ws')
    (body : ∀ p e s m args below meth c s₁, BodyLoose p l y (headSpec ws rm) cc maxL ret e s m args below meth c s₁ → c.maxLocals = maxL → Pc args s →
      W p l e (headSpec ws rm).room s m args below meth c s.heap [] 0 0 (MQ below Qc args s mc ms free) (entryFrame m args maxL)) : Met l y ws rm Pc Qc mc ms free := by
  refine MetFree.of_bodySF (code := cc) (maxLocals := maxL) (ret := ret) hy ?_ ?_
  · intro args s m h hn
    obtain ⟨meth, c, h1, h2, h3, h4, h5, h6, -, -⟩ := Cond.code_spec hn (atoms_spec (ws := ws) h _ (by rw [hw]; exact List.mem_cons_self))
    exact ⟨meth, c, h1, h2, h3, h4, h5, h6⟩
  · intro p e s m args below meth c s₁ B hml hP _
    have hh0 : s₁.heap = s.heap := by rw [B.state]; rfl
    obtain ⟨t, a1, o, b1, b2, b3⟩ := body p e s m args below meth c s₁ B hml hP s₁ hh0 (Stand.of_body B)
    exact ⟨t, o, a1, b1, b2, ⟨b3.1, b3.2⟩⟩
set_option maxHeartbeats 1000000 in
theorem m_met {n : Nat} (ih : m_Snd n) (l : Launch) {x : m_X} {b : Nat} {eA : Nat → Nat} {D : va_G} {cA : Nat → ClassId} {k : Nat} {as : List Value} {σ : m_H} {r : Option Value} {σ' : m_H} (hM : m_okM k) (hl : (m_sl as).length ≤ m_ML k) (hσ : σ.length ≤ 1000) (h : m_run x n (m_rank k as) k 0 (m_en k as) [] σ = some (r, σ')) :
    Met l (m_Y k) (m_wsk k) (m_rm (m_rank k as) σ σ') (m_Pc x b eA D cA as σ) (m_Qc b eA D cA r σ') (σ'.length - σ.length) (m_slt σ' - m_slt σ) (m_A0 b) := by
  obtain ⟨M1, M2, M3, M4, M5, M6, M7, -, M8⟩ := hM
  obtain ⟨g1, g2, -⟩ : m_le σ σ' := m_run_grow x _ _ _ _ _ _ _ _ h
  refine m_ofW (cc := m_CD k) (maxL := m_ML k) (ret := m_RT k) M2 rfl ?_
  intro p e s m args below meth c s₁ B hml hv
  obtain ⟨rfl, hEx, hP, hsz⟩ := hv
  have hts := atoms_spec (ws := m_wsk k) B.pre
  have hown : s.vm.findClass (m_Y k).cls = some m.cls := findClass_of_methodNamed B.named
  have hnm : meth.name = (m_Y k).name := (name_of_methodNamed B.named B.method).1
  have hlocks := B.notSynchronized
  have hF : m_F k p s m ((as.map (m_tv (m_ad b eA))).toArray) meth c := ⟨B.exec, B.bytes, hml, by rw [← M6]; exact hown, fun w hw => hts w (List.mem_cons_of_mem _ hw), B.returns, hlocks, fun hk => by
    rcases M8 with ⟨q, -⟩ | ⟨q, -⟩ | ⟨-, -, q, -⟩
    · rw [q] at hk; cases hk
    · rw [q] at hk; cases hk
    · rw [hnm]; exact q⟩
  have hI : m_I b eA D cA σ.length (m_slt σ) σ s s.heap [] 0 0 := ⟨hP, hsz, hσ, hsz, va_S.rf, by omega, by omega⟩
  rw [lg_entry_eq]
  refine ih x b eA D cA (m_rank k as) k 0 (m_en k as) [] σ r σ' h l p e _ s m _ below meth c s.heap [] 0 0 _ _ σ.length (m_slt σ) hF hEx hI (m_en_lr _ _ _ hl) (m_rank_pos M7 as) (Nat.le_refl _) (Nat.le_refl _) (by show _ ≤ σ.length + (σ'.length - σ.length); omega) (by show _ ≤ m_slt σ + (m_slt σ' - m_slt σ); omega) ?_
  intro pc9 i9 ls9 H9 locs9 cells9 slots9 hR hd hI9 hrk
  obtain ⟨j1, j2, j3, j4, j5, j6, j7⟩ := hI9
  have e1 : cells9 = σ'.length - σ.length := by omega
  have e2 : slots9 = m_slt σ' - m_slt σ := by omega
  subst e1
  subst e2
  have hq : ∀ (o : Outcome), o = .returned (r.map (m_tv (m_ad b eA))) → ∀ t : State, t.heap = H9 → s.WarmedH t.vm → m_Qc b eA D cA r σ' ((as.map (m_tv (m_ad b eA))).toArray) s o t := by
    intro o ho t ht _
    exact ⟨ho, by rw [ht]; exact j1, by rw [ht]; exact j2, by rw [ht]; exact j5.1, fun q h1 h2 => by rw [ht]; exact j5.2.1 q h1 h2⟩
  have hx := B.exec
  have hb := B.bytes
  have hr := B.returns
  rcases hR with ⟨rfl, v, rfl⟩ | ⟨rfl, v, rfl⟩ | ⟨rfl, ⟨v, rfl⟩ | rfl⟩ | ⟨rfl, rfl⟩
  · obtain ⟨ty, t1, t2⟩ := m_rk_int hrk
    rw [t1] at hr
    exact W.zret hx hb hr t2 (hq _ rfl) j5.2.2 hd
  · have t1 : m_RT k = some .long := by
      unfold m_rk at hrk
      split at hrk
      all_goals first | (rename_i e1; cases e1; done) | skip
      · assumption
      · cases hrk
    rw [t1] at hr
    exact W.lret hx hb hr (hq _ rfl) j5.2.2 hd
  · obtain ⟨rt, t1, t2⟩ : ∃ rt, m_RT k = some rt ∧ ((∃ n, rt = .object n) ∨ ∃ t, rt = .array t) := by
      unfold m_rk at hrk
      split at hrk
      all_goals first | (rename_i e1; cases e1; done) | skip
      · exact ⟨_, by assumption, Or.inl ⟨_, rfl⟩⟩
      · exact ⟨_, by assumption, Or.inr ⟨_, rfl⟩⟩
      · cases hrk
    rw [t1] at hr
    exact W.aret hx hb hr t2 (Or.inr ⟨_, rfl⟩) (hq _ rfl) j5.2.2 hd
  · obtain ⟨rt, t1, t2⟩ : ∃ rt, m_RT k = some rt ∧ ((∃ n, rt = .object n) ∨ ∃ t, rt = .array t) := by
      unfold m_rk at hrk
      split at hrk
      all_goals first | (rename_i e1; cases e1; done) | skip
      · exact ⟨_, by assumption, Or.inl ⟨_, rfl⟩⟩
      · exact ⟨_, by assumption, Or.inr ⟨_, rfl⟩⟩
      · cases hrk
    rw [t1] at hr
    exact W.aret hx hb hr t2 (Or.inl rfl) (hq _ rfl) j5.2.2 hd
  · have t1 : m_RT k = none := by
      unfold m_rk at hrk
      split at hrk
      all_goals first | (rename_i e1; cases e1; done) | skip
      · assumption
      · cases hrk
    rw [t1] at hr
    exact W.vret hx hb hr (hq _ rfl) j5.2.2 hd
