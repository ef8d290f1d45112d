-- the world of a frame: what stood there before (m_Ex), own cells (m_I)
def m_tys (cA : Nat → ClassId) : List (ClassId × FieldType) := [(cA 0, .int), (cA 1, .long), (cA 2, .boolean), (cA 3, .object "LeftGlove$Script"), (cA 4, .array .int)]
def m_A0 (b : Nat) : Nat → Prop := fun q => b ≤ q
def m_AOA (U : State) : Prop := (Cond.arrayOver (.array .int)).before #[] U = true
theorem m_AOA.moved {u U : State} (hvm : u.vm.Alike U.vm) (h : m_AOA u) : m_AOA U := by
  have h1 : (Cond.arrayOver (.array .int)).before #[] (u.setVm U.vm) = true := by
    rw [Cond.arrayOver_setVmC hvm]
    exact h
  exact h1
theorem m_AOA.use {A : Array Value} {U : State} (h : m_AOA U) : (Cond.arrayOver (.array .int)).before A U = true := h
def m_nests : List (String × Nat × MethodName) := [("LeftGlove$World", 33, ⟨"LeftGlove", "isIn", "(III)Z"⟩), ("LeftGlove$Reader", 130, ⟨"LeftGlove", "isIn", "(III)Z"⟩), ("LeftGlove$Law", 122, ⟨"LeftGlove", "commonOf", "(II)I"⟩), ("LeftGlove$Puzzles", 69, ⟨"LeftGlove", "commonOf", "(II)I"⟩)]
def m_str0 : String := "chill fine grows pawn one owe do pass lose pledge redeem day frost who hand coins cold rights bare work leather size mark from by to hours common with lefts if then else end or and not "
def m_str1 : String := "<>=#+-*/();"
def m_Ex (x : m_X) (b : Nat) (eA : Nat → Nat) (D : va_G) (cA : Nat → ClassId) (U : State) : Prop :=
  va_K D vwCl (m_tys cA) U ∧
  va_T .int (eA 0) x.1 (fun j => .int (x.2.1 j)) (m_A0 b) U U.heap ∧
  va_T .int (eA 1) 60 (fun j => .int (m_forms.getD j 0)) (m_A0 b) U U.heap ∧
  vk_S 2 m_tln m_txt (fun i => eA (2 + i)) (fun i => eA (4 + i)) (m_A0 b) U U.heap ∧
  (vk_R "LeftGlove$Words" 9 m_str0 (eA 2) U ∧ vk_R "LeftGlove$Words" 21 m_str1 (eA 3) U) ∧
  (va_Z "java/lang/String" "COMPACT_STRINGS" "Z" (.int 1) (m_A0 b) U U.heap ∧ va_Z "LeftGlove$Reader" "FORMS" "[I" (.ref (eA 1)) (m_A0 b) U U.heap ∧ va_Z "jdk/internal/util/Preconditions" "SIOOBE_FORMATTER" "Ljava/util/function/BiFunction;" (m_tv (m_ad b eA) x.2.2) (m_A0 b) U U.heap) ∧
  (∀ w ∈ m_nests, va_Nw (.methodLinkNest w.1 w.2.1 w.2.2 "LeftGlove") U) ∧ va_AO "LeftGlove$Script" U ∧ m_AOA U
theorem m_Ex.move {x : m_X} {b : Nat} {eA : Nat → Nat} {D : va_G} {cA : Nat → ClassId} {u U : State} (h : m_Ex x b eA D cA u) (hW : u.WarmedH U.vm) (hq : ∀ q, q < u.heap.size → ¬ m_A0 b q → U.heap[q]? = u.heap[q]?) : m_Ex x b eA D cA U := by
  obtain ⟨h1, h2, h3, h4, ⟨h5, h6⟩, ⟨h7, h8, h9⟩, h10, h11, h12⟩ := h
  have ha := hW.alike
  exact ⟨va_K.moved ha h1, (h2.moved ha).kept hq, (h3.moved ha).kept hq, (h4.moved ha).kept hq, ⟨h5.warm hW, h6.warm hW⟩, ⟨(h7.moved ha).kept hq, (h8.moved ha).kept hq, (h9.moved ha).kept hq⟩, fun w hw => va_Nw.warmM hW (h10 w hw), h11.moved ha, h12.moved ha⟩
def m_sz : m_E → Nat
  | .inl (_, n, _) => n
  | .inr (_, fs) => fs.length
def m_slt (σ : m_H) : Nat := (σ.map m_sz).sum
theorem m_slt_app {σ τ : m_H} : m_slt (σ ++ τ) = m_slt σ + m_slt τ := by simp [m_slt]
theorem m_slt_one {e : m_E} : m_slt [e] = m_sz e := by simp [m_slt]
theorem m_slt_set : ∀ {σ : m_H} {i : Nat} {e e' : m_E}, σ[i]? = some e → m_sz e' = m_sz e → m_slt (σ.set i e') = m_slt σ := by
  intro σ
  induction σ with
  | nil => intro i e e' h; cases h
  | cons a σ ih =>
    intro i e e' h hs
    cases i with
    | zero =>
      cases h
      simp [m_slt, hs]
    | succ i =>
      have := ih (i := i) (e := e) (e' := e') (by simpa using h) hs
      simp only [m_slt, List.set_cons_succ, List.map_cons, List.sum_cons] at this ⊢
      omega
/-- own cells: N0 cells, S0 slots of them were there at the frame's entry -/
def m_I (b : Nat) (eA : Nat → Nat) (D : va_G) (cA : Nat → ClassId) (N0 S0 : Nat) (σ : m_H) (s : State) (H : Heap) (locs : List Loc) (cells slots : Nat) : Prop :=
  va_P D vwCl (m_w (m_ad b eA) cA σ) H ∧ H.size = b + σ.length ∧ σ.length ≤ 1000 ∧ s.heap.size = b + N0 ∧ va_S (m_A0 b) s.heap H locs ∧ cells + N0 = σ.length ∧ slots + S0 = m_slt σ
abbrev m_cnm (c : Nat) : String := m_cn.getD c ""
/-- what a field's descriptor says, by its kind -/
def m_kt (d : String) (ty : FieldType) : Prop := (m_fk d = 0 ∧ ty = .int) ∨ (m_fk d = 1 ∧ ty = .long) ∨ (m_fk d = 3 ∧ ty = .boolean) ∨ (m_fk d = 2 ∧ ((∃ n, ty = .object n) ∨ ∃ t, ty = .array t))
/-- T3: field links -/
def m_T3 : Prop := ∀ (j : Nat) (q : Nat × Nat × Nat × Nat), m_lf[j]? = some q → (q.2.2.1 ≠ 100 → ∃ (C : String) (T : u_T) (N : Nat), vwCl[q.2.2.1]? = some (C, T, N) ∧ q.2.2.2 < N ∧ Cond.fieldLink (m_cnm q.1) q.2.1 C (T q.2.2.2).2.1 (T q.2.2.2).2.2.1 ∈ m_ws0) ∧
  (q.2.2.1 = 100 → (q.2.2.2 = 0 ∧ Cond.fieldLink (m_cnm q.1) q.2.1 "java/lang/String" "value" "[B" ∈ m_ws0) ∨ (q.2.2.2 = 1 ∧ Cond.fieldLink (m_cnm q.1) q.2.1 "java/lang/String" "coder" "B" ∈ m_ws0))
/-- TC: classes -/
def m_TC : Prop := ∀ (ci : Nat) (C : String) (T : u_T) (N : Nat), vwCl[ci]? = some (C, T, N) → (∀ w ∈ u_ws C T N, w ∈ m_ws0) ∧ (∃ ty : Nat → FieldType, ∀ k, k < N → parseFieldDescriptor (T k).2.2.1 = some (ty k) ∧ m_kt (T k).2.2.1 (ty k)) ∧ (∀ a, a < N → ∀ b, b < N → a ≠ b → (T a).2.1 ≠ (T b).2.1) ∧ (∀ k, k < N → (T k).1 = C) ∧ Cond.instantiable C N ∈ m_ws0 ∧ Cond.initialized C ∈ m_ws0
theorem m_own_eq {k idx c i : Nat} (h : m_own k idx c i = true) : m_cnm c = m_CN k ∧ i = idx := by
  simp only [m_own, Bool.and_eq_true, beq_iff_eq] at h
  obtain ⟨rfl, rfl⟩ := h
  exact ⟨rfl, rfl⟩
section SD3
variable {p : Program} {l : Launch} {e : Env} {R : Room} {s : State} {m : MethodId} {args : Array Value} {below : List Frame} {meth : Method} {c : Code} {H : Heap} {locs : List Loc} {cells slots : Nat} {Q : State → Prop}
variable {x : m_X} {b : Nat} {eA : Nat → Nat} {D : va_G} {cA : Nat → ClassId} {N0 S0 : Nat} {σ : m_H} {k pc : Nat} {ls : Array Slot} {rest : List Value}
theorem m_o_some {a : Nat} {E : m_E} (h : m_o σ a = some E) : σ[a]? = some E ∧ a < 1000 := by
  unfold m_o at h
  split at h
  · exact ⟨h, by assumption⟩
  · cases h
theorem m_fv_some {ci f o : Nat} {v : Value} (h : m_fv σ ci f o = some v) : ∃ fs, σ[o]? = some (.inr (ci, fs)) ∧ o < 1000 ∧ fs[f]? = some v := by
  unfold m_fv at h
  split at h
  · rename_i c0 fs h1
    split at h
    · rename_i e1
      subst e1
      obtain ⟨h2, h3⟩ := m_o_some h1
      exact ⟨fs, h2, h3, h⟩
    · cases h
  · cases h
theorem m_get (hF : m_F k p s m args meth c) (hEx : m_Ex x b eA D cA s) (hI : m_I b eA D cA N0 S0 σ s H locs cells slots) (hT3 : m_T3) (hTC : m_TC) {idx j : Nat} {q : Nat × Nat × Nat × Nat} (hd : decode (m_CD k) pc = .ok (.getfield idx, 3)) (hq : m_lf[j]? = some q) (ho : m_own k idx q.1 q.2.1 = true) (hne : q.2.2.1 ≠ 100) {o : Nat} {v : Value} (hv : m_fv σ q.2.2.1 q.2.2.2 o = some v)
    (kk : W p l e R s m args below meth c H locs cells slots Q (F0 m (pc + 3) ls (m_tv (m_ad b eA) v :: rest))) : W p l e R s m args below meth c H locs cells slots Q (F0 m pc ls (.ref (m_ad b eA o) :: rest)) := by
  obtain ⟨hx, hb, -, hown, hts, -, -, -⟩ := hF
  obtain ⟨C, T, N, h1, h2, h3⟩ := (hT3 j q hq).1 hne
  obtain ⟨g1, -, -, g4, -, -⟩ := hTC _ _ _ _ h1
  obtain ⟨e1, e2⟩ := m_own_eq ho
  obtain ⟨fs, f1, f2, f3⟩ := m_fv_some hv
  rw [e1, e2] at h3
  exact va_get (C := C) (T := T) (N := N) (ref := C) hx hb hts g1 hown hEx.1 hI.1 o (m_w_get f1) h1 q.2.2.2 h2 (hts _ h3) (fun z hz => by rw [g4 _ h2] at hz; exact hz) (v := m_tv (m_ad b eA) v) (by rw [List.getElem?_map, f3]; rfl) hd kk
theorem m_getX (hF : m_F k p s m args meth c) (hEx : m_Ex x b eA D cA s) (hI : m_I b eA D cA N0 S0 σ s H locs cells slots) (hT3 : m_T3) {idx j : Nat} {q : Nat × Nat × Nat × Nat} (hd : decode (m_CD k) pc = .ok (.getfield idx, 3)) (hq : m_lf[j]? = some q) (ho : m_own k idx q.1 q.2.1 = true) (he : q.2.2.1 = 100) {i : Nat} (hi : i < 2)
    (kk0 : q.2.2.2 = 0 → W p l e R s m args below meth c H locs cells slots Q (F0 m (pc + 3) ls (.ref (eA (4 + i)) :: rest))) (kk1 : q.2.2.2 = 1 → W p l e R s m args below meth c H locs cells slots Q (F0 m (pc + 3) ls (.int 0 :: rest))) : W p l e R s m args below meth c H locs cells slots Q (F0 m pc ls (.ref (eA (2 + i)) :: rest)) := by
  obtain ⟨hx, hb, -, hown, hts, -, -, -⟩ := hF
  obtain ⟨e1, e2⟩ := m_own_eq ho
  have hS := hEx.2.2.2.1.1 i hi
  rcases (hT3 j q hq).2 he with ⟨h1, h2⟩ | ⟨h1, h2⟩
  · rw [e1, e2] at h2
    exact vk_getf hx hb hS.2.2.1 hI.2.2.2.2.1 hown (hts _ h2) (fun _ z => z) hd (kk0 h1)
  · rw [e1, e2] at h2
    exact vk_getf hx hb hS.2.1 hI.2.2.2.2.1 hown (hts _ h2) (fun _ z => z) hd (kk1 h1)
theorem m_pf_some {ci f o : Nat} {v : Value} {σ' : m_H} (h : m_pf σ ci f o v = some σ') : ∃ fs, σ[o]? = some (.inr (ci, fs)) ∧ o < 1000 ∧ f < fs.length ∧ σ' = σ.set o (.inr (ci, fs.set f v)) := by
  unfold m_pf at h
  split at h
  · rename_i c0 fs h1
    split at h
    · rename_i e1
      obtain ⟨e1, e2⟩ := e1
      subst e1
      cases h
      obtain ⟨h2, h3⟩ := m_o_some h1
      exact ⟨fs, h2, h3, e2, rfl⟩
    · cases h
  · cases h
theorem m_szle {g : JFrame} (kk : H.size ≤ s.heap.size + cells → W p l e R s m args below meth c H locs cells slots Q g) : W p l e R s m args below meth c H locs cells slots Q g := fun T hT X => kk (by rw [← hT]; exact X.heapSize) T hT X
theorem m_I.aa (hI : m_I b eA D cA N0 S0 σ s H locs cells slots) : ∀ q, s.heap.size ≤ q → m_A0 b q := fun q h => by
  have := hI.2.2.2.1
  unfold m_A0
  omega
theorem m_I.dd (hI : m_I b eA D cA N0 S0 σ s H locs cells slots) : va_D (m_A0 b) (m_w (m_ad b eA) cA σ) := m_w_D hI.2.2.1
/-- a cell of the same size is written -/
theorem m_I.set (hI : m_I b eA D cA N0 S0 σ s H locs cells slots) {o : Nat} {E0 E : m_E} (h0 : σ[o]? = some E0) (hz : m_sz E = m_sz E0) {H1 : Heap} {locs1 : List Loc} (hP : va_P D vwCl ((m_w (m_ad b eA) cA σ).set o (m_ad b eA o, m_te (m_ad b eA) cA E)) H1) (hS : va_S (m_A0 b) s.heap H1 locs1) {Q : State → Prop} {g : JFrame}
    (kk : m_I b eA D cA N0 S0 (σ.set o E) s H1 locs1 cells slots → W p l e R s m args below meth c H1 locs1 cells slots Q g) : W p l e R s m args below meth c H1 locs1 cells slots Q g := by
  obtain ⟨h1, h2, h3, h4, h5, h6, h7⟩ := hI
  refine m_szle fun hle => kk ?_
  rw [← m_w_set] at hP
  have hl : σ.length - 1 < (σ.set o E).length := by
    have := (List.getElem?_eq_some_iff.mp h0).1
    rw [List.length_set]
    omega
  have hlt := (hP (σ.length - 1) _ (m_w_get (List.getElem?_eq_getElem hl))).lt
  dsimp only at hlt
  rw [m_ad_lt (by omega)] at hlt
  have hp := (List.getElem?_eq_some_iff.mp h0).1
  exact ⟨hP, by rw [List.length_set]; omega, by rw [List.length_set]; exact h3, h4, hS, by rw [List.length_set]; exact h6, by rw [m_slt_set h0 hz]; exact h7⟩
theorem m_tk_fits {t : FieldType} {d : String} {v : Value} (hk : m_kt d t) (h : m_tk (m_fk d) v = true) : narrow t (m_tv (m_ad b eA) v) = m_tv (m_ad b eA) v ∧ fits t (m_tv (m_ad b eA) v) = true := by
  rcases hk with ⟨e, rfl⟩ | ⟨e, rfl⟩ | ⟨e, rfl⟩ | ⟨e, ⟨n, rfl⟩ | ⟨n, rfl⟩⟩ <;> rw [e] at h <;> cases v <;> simp [m_tk] at h <;> first | exact ⟨rfl, rfl⟩ | skip
  rcases h with rfl | rfl
  · exact ⟨(by decide : narrow .boolean (.int 0) = .int 0), (by decide : fits .boolean (.int 0) = true)⟩
  · exact ⟨(by decide : narrow .boolean (.int 1) = .int 1), (by decide : fits .boolean (.int 1) = true)⟩
end SD3
