-- the cells' instructions are sound
/-- TG, TL, TD: statics, classes, constants -/
def m_TG : Prop := ∀ (j : Nat) (q : Nat × Nat × Nat), m_lg[j]? = some q → (q.2.2 = 0 ∧ Cond.fieldLink (m_cnm q.1) q.2.1 "java/lang/String" "COMPACT_STRINGS" "Z" ∈ m_ws0) ∨ (q.2.2 = 1 ∧ Cond.fieldLink (m_cnm q.1) q.2.1 "LeftGlove$Reader" "FORMS" "[I" ∈ m_ws0) ∨ (q.2.2 = 2 ∧ Cond.fieldLink (m_cnm q.1) q.2.1 "jdk/internal/util/Preconditions" "SIOOBE_FORMATTER" "Ljava/util/function/BiFunction;" ∈ m_ws0)
def m_TL : Prop := ∀ (j : Nat) (q : Nat × Nat × Nat), m_lc[j]? = some q → ∃ (C : String) (T : u_T) (N : Nat), vwCl[q.2.2]? = some (C, T, N) ∧ Cond.classLink (m_cnm q.1) q.2.1 C ∈ m_ws0
def m_TD : Prop := (∀ (j : Nat) (q : Nat × Nat × Int32), m_ld[j]? = some q → Cond.constant (m_cnm q.1) q.2.1 q.2.2 ∈ m_ws0) ∧ (∀ (j : Nat) (q : Nat × Nat × Int64), m_ll[j]? = some q → Cond.constantLong (m_cnm q.1) q.2.1 q.2.2 ∈ m_ws0) ∧ (∀ (j : Nat) (q : Nat × Nat × Nat), m_ls[j]? = some q → m_cnm q.1 = "LeftGlove$Words" ∧ ((q.2.1 = 9 ∧ q.2.2 = 0) ∨ (q.2.1 = 21 ∧ q.2.2 = 1)))
def m_TA : Prop := Cond.arrayClass .int ∈ m_ws0 ∧ Cond.arrayClass .long ∈ m_ws0 ∧ Cond.arrayClass .boolean ∈ m_ws0 ∧ Cond.classLink "LeftGlove" 42 "LeftGlove$Script" ∈ m_ws0 ∧ Cond.classLink "LeftGlove$Steps" 13 "[[I" ∈ m_ws0 ∧ vwCl[5]?.map (fun q => q.1) = some "LeftGlove$Script"
section SD4
variable {p : Program} {l : Launch} {e : Env} {R : Room} {s : State} {m : MethodId} {args : Array Value} {below : List Frame} {meth : Method} {c : Code} {H : Heap} {locs : List Loc} {cells slots : Nat} {Q : State → Prop}
variable {x : m_X} {b : Nat} {eA : Nat → Nat} {D : va_G} {cA : Nat → ClassId} {N0 S0 : Nat} {σ : m_H} {k pc : Nat} {ls : Array Slot} {rest : List Value}
theorem m_put (hF : m_F k p s m args meth c) (hEx : m_Ex x b eA D cA s) (hI : m_I b eA D cA N0 S0 σ s H locs cells slots) (hT3 : m_T3) (hTC : m_TC) {idx len j : Nat} {q : Nat × Nat × Nat × Nat} (hd : decode (m_CD k) pc = .ok (.putfield idx, 3)) (hok : m_okI k pc (.putfield idx) len j = true) (hq : m_lf[j]? = some q) {o : Nat} {v : Value} {σ' : m_H} (htk : m_tk (m_ft q.2.2.1 q.2.2.2) v = true) (hp : m_pf σ q.2.2.1 q.2.2.2 o v = some σ')
    (kk : ∀ (H1 : Heap) (locs1 : List Loc), m_I b eA D cA N0 S0 σ' s H1 locs1 cells slots → W p l e R s m args below meth c H1 locs1 cells slots Q (F0 m (pc + 3) ls rest)) : W p l e R s m args below meth c H locs cells slots Q (F0 m pc ls (m_tv (m_ad b eA) v :: .ref (m_ad b eA o) :: rest)) := by
  obtain ⟨hx, hb, -, hown, hts, -, -, hnm⟩ := hF
  simp only [m_okI, hq, Option.any_some, Bool.and_eq_true, bne_iff_ne] at hok
  obtain ⟨-, ⟨ho, hne⟩, hfin⟩ := hok
  obtain ⟨C, T, N, h1, h2, h3⟩ := (hT3 j q hq).1 hne
  obtain ⟨g1, ⟨ty, g2⟩, g3, g4, -, -⟩ := hTC _ _ _ _ h1
  obtain ⟨e1, e2⟩ := m_own_eq ho
  obtain ⟨fs, f1, f2, f3, rfl⟩ := m_pf_some hp
  rw [e1, e2] at h3
  have hft : m_ft q.2.2.1 q.2.2.2 = m_fk (T q.2.2.2).2.2.1 := by unfold m_ft; rw [h1]
  rw [hft] at htk
  obtain ⟨n1, n2⟩ := m_tk_fits (b := b) (eA := eA) (g2 _ h2).2 htk
  simp only [h1, Option.any_some, Bool.or_eq_true, Bool.not_eq_true', Bool.and_eq_true, beq_iff_eq] at hfin
  have hfl : q.2.2.2 < (fs.map (m_tv (m_ad b eA))).length := by rw [List.length_map]; exact f3
  have hset : (fs.map (m_tv (m_ad b eA))).set q.2.2.2 (m_tv (m_ad b eA) v) = (fs.set q.2.2.2 v).map (m_tv (m_ad b eA)) := by rw [List.map_set]
  have hgo : ∀ (H1 : Heap) (locs1 : List Loc), va_P D vwCl ((m_w (m_ad b eA) cA σ).set o (m_ad b eA o, .inr (q.2.2.1, (fs.map (m_tv (m_ad b eA))).set q.2.2.2 (m_tv (m_ad b eA) v)))) H1 → va_D (m_A0 b) ((m_w (m_ad b eA) cA σ).set o (m_ad b eA o, .inr (q.2.2.1, (fs.map (m_tv (m_ad b eA))).set q.2.2.2 (m_tv (m_ad b eA) v)))) → va_S (m_A0 b) s.heap H1 locs1 → W p l e R s m args below meth c H1 locs1 cells slots Q (F0 m (pc + 3) ls rest) := by
    intro H1 locs1 hP1 _ hS1
    rw [hset] at hP1
    exact m_I.set hI (E := .inr (q.2.2.1, fs.set q.2.2.2 v)) f1 (by simp [m_sz]) hP1 hS1 (kk H1 locs1)
  cases hc : (T q.2.2.2).2.2.2 with
  | false => exact va_put (C := C) (T := T) (N := N) (ref := C) hx hb hts g1 ty (fun k hk => (g2 k hk).1) g3 hown hEx.1 hI.1 hI.dd hI.2.2.2.2.1 o (m_w_get f1) h1 q.2.2.2 h2 (hts _ h3) (fun z hz => by rw [g4 _ h2] at hz; exact hz) hc (g2 _ h2).1 n1 n2 hfl hd hgo
  | true =>
    rcases hfin with hfin | ⟨hk2, hdecl⟩
    · rw [hc] at hfin; cases hfin
    · exact va_putF (C := C) (T := T) (N := N) (ref := C) hx hb hts g1 ty (fun k hk => (g2 k hk).1) g3 hown hEx.1 hI.1 hI.dd hI.2.2.2.2.1 o (m_w_get f1) h1 q.2.2.2 h2 (hts _ h3) (fun z hz => by rw [g4 _ h2] at hz; exact hz) hc (hnm hk2) hdecl (g2 _ h2).1 n1 n2 hfl hd hgo
theorem m_gst (hF : m_F k p s m args meth c) (hEx : m_Ex x b eA D cA s) (hI : m_I b eA D cA N0 S0 σ s H locs cells slots) (hTG : m_TG) {idx j : Nat} {q : Nat × Nat × Nat} (hd : decode (m_CD k) pc = .ok (.getstatic idx, 3)) (hq : m_lg[j]? = some q) (ho : m_own k idx q.1 q.2.1 = true)
    (kk0 : q.2.2 = 0 → W p l e R s m args below meth c H locs cells slots Q (F0 m (pc + 3) ls (.int 1 :: rest))) (kk1 : q.2.2 = 1 → W p l e R s m args below meth c H locs cells slots Q (F0 m (pc + 3) ls (.ref (eA 1) :: rest)))
    (kk2 : q.2.2 = 2 → W p l e R s m args below meth c H locs cells slots Q (F0 m (pc + 3) ls (m_tv (m_ad b eA) x.2.2 :: rest))) : W p l e R s m args below meth c H locs cells slots Q (F0 m pc ls rest) := by
  obtain ⟨hx, hb, -, hown, hts, -, -, -⟩ := hF
  obtain ⟨e1, e2⟩ := m_own_eq ho
  obtain ⟨z1, z2, z3⟩ := hEx.2.2.2.2.2.1
  rcases hTG j q hq with ⟨h1, h2⟩ | ⟨h1, h2⟩ | ⟨h1, h2⟩ <;> rw [e1, e2] at h2
  · exact va_gets hx hb z1 hI.2.2.2.2.1 hown (hts _ h2) (fun _ z => z) hd (kk0 h1)
  · exact va_gets hx hb z2 hI.2.2.2.2.1 hown (hts _ h2) (fun _ z => z) hd (kk1 h1)
  · exact va_gets hx hb z3 hI.2.2.2.2.1 hown (hts _ h2) (fun _ z => z) hd (kk2 h1)
theorem m_ix_some {i : Int32} {n j : Nat} (h : m_ix i n = some j) : vp_in i n ∧ j = i.toNatClampNeg := by
  unfold m_ix at h
  split at h
  · cases h
  · rename_i q
    cases h
    exact ⟨q, rfl⟩
theorem m_ri_some {t a n : Nat} {f : Nat → Int32} (h : m_ri σ t a = some (n, f)) : σ[a]? = some (.inl (t, n, .inl f)) ∧ a < 1000 := by
  unfold m_ri at h
  split at h
  · rename_i t' n' f' h1
    split at h
    · rename_i e1
      subst e1
      cases h
      exact m_o_some h1
    · cases h
  · cases h
theorem m_rl_some {a n : Nat} {f : Nat → Int64} (h : m_rl σ a = some (n, f)) : σ[a]? = some (.inl (1, n, .inr (.inl f))) ∧ a < 1000 := by
  unfold m_rl at h
  split at h
  · rename_i t' n' f' h1
    split at h
    · rename_i e1
      subst e1
      cases h
      exact m_o_some h1
    · cases h
  · cases h
theorem m_rr_some {t a n : Nat} {f : Nat → Option Nat} (h : m_rr σ t a = some (n, f)) : σ[a]? = some (.inl (t, n, .inr (.inr (.inr (.inr f))))) ∧ a < 1000 := by
  unfold m_rr at h
  split at h
  · rename_i t' n' f' h1
    split at h
    · rename_i e1
      subst e1
      cases h
      exact m_o_some h1
    · cases h
  · cases h
/-- what an array from outside is -/
theorem m_xa_some (hEx : m_Ex x b eA D cA s) {a t n : Nat} {f : Nat → Int32} (h : m_xa x a = some (t, n, f)) : ∃ i, a = 1000 + i ∧ ((t = 0 ∧ va_T .int (eA i) n (fun j => .int (f j)) (m_A0 b) s s.heap) ∨ (t = 5 ∧ va_T .byte (eA i) n (fun j => .int (f j)) (m_A0 b) s s.heap)) := by
  unfold m_xa at h
  obtain ⟨-, h2, h3, h4, -⟩ := hEx
  split at h
  · rename_i e1; cases h; exact ⟨0, e1, Or.inl ⟨rfl, h2⟩⟩
  split at h
  · rename_i e1; cases h; exact ⟨1, e1, Or.inl ⟨rfl, h3⟩⟩
  split at h
  · rename_i e1; cases h; exact ⟨4, e1, Or.inr ⟨rfl, (h4.1 0 (by omega)).2.2.2⟩⟩
  split at h
  · rename_i e1; cases h; exact ⟨5, e1, Or.inr ⟨rfl, (h4.1 1 (by omega)).2.2.2⟩⟩
  · cases h
theorem m_iald (hF : m_F k p s m args meth c) (hEx : m_Ex x b eA D cA s) (hI : m_I b eA D cA N0 S0 σ s H locs cells slots) (hd : decode (m_CD k) pc = .ok (.iaload, 1)) {a : Nat} {i v : Int32} (hv : m_ia x σ a i = some v)
    (kk : W p l e R s m args below meth c H locs cells slots Q (F0 m (pc + 1) ls (.int v :: rest))) : W p l e R s m args below meth c H locs cells slots Q (F0 m pc ls (.int i :: .ref (m_ad b eA a) :: rest)) := by
  obtain ⟨hx, hb, -⟩ := hF
  unfold m_ia at hv
  split at hv
  · obtain ⟨⟨n, f⟩, h1, h2⟩ := Option.bind_eq_some_iff.mp hv
    obtain ⟨j, h3, rfl⟩ := Option.map_eq_some_iff.mp h2
    obtain ⟨h4, rfl⟩ := m_ix_some h3
    exact va_iald hx hb hEx.1 hI.1 a 0 (m_w_get (m_ri_some h1).1) rfl h4 hd kk
  · obtain ⟨⟨t, n, f⟩, h1, h2⟩ := Option.bind_eq_some_iff.mp hv
    dsimp only at h2
    split at h2
    · rename_i e0
      obtain ⟨j, h3, rfl⟩ := Option.map_eq_some_iff.mp h2
      obtain ⟨h4, rfl⟩ := m_ix_some h3
      obtain ⟨i9, rfl, ⟨-, hT⟩ | ⟨h5, -⟩⟩ := m_xa_some hEx h1
      · rw [m_ad_ge]
        exact va_ti hx hb hT hI.2.2.2.2.1 h4 rfl hd kk
      · omega
    · cases h2
theorem m_bald (hF : m_F k p s m args meth c) (hEx : m_Ex x b eA D cA s) (hI : m_I b eA D cA N0 S0 σ s H locs cells slots) (hd : decode (m_CD k) pc = .ok (.baload, 1)) {a : Nat} {i v : Int32} (hv : m_ba x σ a i = some v)
    (kk : W p l e R s m args below meth c H locs cells slots Q (F0 m (pc + 1) ls (.int v :: rest))) : W p l e R s m args below meth c H locs cells slots Q (F0 m pc ls (.int i :: .ref (m_ad b eA a) :: rest)) := by
  obtain ⟨hx, hb, -⟩ := hF
  unfold m_ba at hv
  split at hv
  · obtain ⟨⟨n, f⟩, h1, h2⟩ := Option.bind_eq_some_iff.mp hv
    obtain ⟨j, h3, rfl⟩ := Option.map_eq_some_iff.mp h2
    obtain ⟨h4, rfl⟩ := m_ix_some h3
    exact va_zald hx hb hEx.1 hI.1 a 2 (m_w_get (m_ri_some h1).1) rfl h4 hd kk
  · obtain ⟨⟨t, n, f⟩, h1, h2⟩ := Option.bind_eq_some_iff.mp hv
    dsimp only at h2
    split at h2
    · rename_i e0
      obtain ⟨j, h3, rfl⟩ := Option.map_eq_some_iff.mp h2
      obtain ⟨h4, rfl⟩ := m_ix_some h3
      obtain ⟨i9, rfl, ⟨h5, -⟩ | ⟨-, hT⟩⟩ := m_xa_some hEx h1
      · omega
      · rw [m_ad_ge]
        exact va_tb hx hb hT hI.2.2.2.2.1 h4 rfl hd kk
    · cases h2
theorem m_lald (hF : m_F k p s m args meth c) (hEx : m_Ex x b eA D cA s) (hI : m_I b eA D cA N0 S0 σ s H locs cells slots) (hd : decode (m_CD k) pc = .ok (.laload, 1)) {a : Nat} {i : Int32} {v : Int64} (hv : m_la σ a i = some v)
    (kk : W p l e R s m args below meth c H locs cells slots Q (F0 m (pc + 1) ls (.long v :: rest))) : W p l e R s m args below meth c H locs cells slots Q (F0 m pc ls (.int i :: .ref (m_ad b eA a) :: rest)) := by
  obtain ⟨hx, hb, -⟩ := hF
  obtain ⟨⟨n, f⟩, h1, h2⟩ := Option.bind_eq_some_iff.mp hv
  obtain ⟨j, h3, rfl⟩ := Option.map_eq_some_iff.mp h2
  obtain ⟨h4, rfl⟩ := m_ix_some h3
  exact va_lald hx hb hEx.1 hI.1 a 1 (m_w_get (m_rl_some h1).1) rfl h4 hd kk
theorem m_alen (hF : m_F k p s m args meth c) (hEx : m_Ex x b eA D cA s) (hI : m_I b eA D cA N0 S0 σ s H locs cells slots) (hd : decode (m_CD k) pc = .ok (.arraylength, 1)) {a : Nat} {v : Int32} (hv : m_len x σ a = some v)
    (kk : W p l e R s m args below meth c H locs cells slots Q (F0 m (pc + 1) ls (.int v :: rest))) : W p l e R s m args below meth c H locs cells slots Q (F0 m pc ls (.ref (m_ad b eA a) :: rest)) := by
  obtain ⟨hx, hb, -⟩ := hF
  unfold m_len at hv
  split at hv
  · split at hv
    · rename_i t n f h1
      split at hv
      · rename_i ht
        cases hv
        have h2 := m_w_get (ad := m_ad b eA) (cA := cA) (m_o_some h1).1
        have h3 : (m_tc (m_ad b eA) (n, f)).1 = n := by
          unfold m_tc
          split
          · rename_i e; cases e; rfl
          · rfl
        obtain ⟨ty, h4⟩ : ∃ ty, (m_tys cA)[t]? = some (cA t, ty) := by
          rcases (show t = 0 ∨ t = 1 ∨ t = 2 ∨ t = 3 ∨ t = 4 by omega) with rfl | rfl | rfl | rfl | rfl <;> exact ⟨_, rfl⟩
        exact va_alen hx hb hEx.1 hI.1 a t h2 h4 (by rw [h3]) hd kk
      · cases hv
    · cases hv
  · obtain ⟨⟨t, n, f⟩, h1, rfl⟩ := Option.map_eq_some_iff.mp hv
    obtain ⟨i9, rfl, ⟨-, hT⟩ | ⟨-, hT⟩⟩ := m_xa_some hEx h1 <;> rw [m_ad_ge] <;> exact va_tlen hx hb hT hI.2.2.2.2.1 rfl hd kk
theorem m_iast (hF : m_F k p s m args meth c) (hEx : m_Ex x b eA D cA s) (hI : m_I b eA D cA N0 S0 σ s H locs cells slots) (hd : decode (m_CD k) pc = .ok (.iastore, 1)) {a : Nat} {i v : Int32} {σ' : m_H} (hv : m_is σ a i v = some σ')
    (kk : ∀ (H1 : Heap) (locs1 : List Loc), m_I b eA D cA N0 S0 σ' s H1 locs1 cells slots → W p l e R s m args below meth c H1 locs1 cells slots Q (F0 m (pc + 1) ls rest)) : W p l e R s m args below meth c H locs cells slots Q (F0 m pc ls (.int v :: .int i :: .ref (m_ad b eA a) :: rest)) := by
  obtain ⟨hx, hb, -⟩ := hF
  obtain ⟨⟨n, f⟩, h1, h2⟩ := Option.bind_eq_some_iff.mp hv
  obtain ⟨j, h3, rfl⟩ := Option.map_eq_some_iff.mp h2
  obtain ⟨h4, rfl⟩ := m_ix_some h3
  refine va_iast hx hb hEx.1 hI.1 hI.dd hI.2.2.2.2.1 a 0 (m_w_get (m_ri_some h1).1) rfl h4 hd (fun H1 locs1 hP1 _ hS1 => ?_)
  exact m_I.set hI (E := .inl (0, n, .inl (upd f i.toNatClampNeg v))) (m_ri_some h1).1 rfl hP1 hS1 (kk H1 locs1)
theorem m_bast (hF : m_F k p s m args meth c) (hEx : m_Ex x b eA D cA s) (hI : m_I b eA D cA N0 S0 σ s H locs cells slots) (hd : decode (m_CD k) pc = .ok (.bastore, 1)) {a : Nat} {i v : Int32} {σ' : m_H} (hv : m_bs σ a i v = some σ')
    (kk : ∀ (H1 : Heap) (locs1 : List Loc), m_I b eA D cA N0 S0 σ' s H1 locs1 cells slots → W p l e R s m args below meth c H1 locs1 cells slots Q (F0 m (pc + 1) ls rest)) : W p l e R s m args below meth c H locs cells slots Q (F0 m pc ls (.int v :: .int i :: .ref (m_ad b eA a) :: rest)) := by
  obtain ⟨hx, hb, -⟩ := hF
  unfold m_bs at hv
  split at hv
  · rename_i hz
    obtain ⟨⟨n, f⟩, h1, h2⟩ := Option.bind_eq_some_iff.mp hv
    obtain ⟨j, h3, rfl⟩ := Option.map_eq_some_iff.mp h2
    obtain ⟨h4, rfl⟩ := m_ix_some h3
    refine va_zast hx hb hEx.1 hI.1 hI.dd hI.2.2.2.2.1 a 2 (m_w_get (m_ri_some h1).1) rfl h4 hd (fun H1 locs1 hP1 _ hS1 => ?_)
    have e9 : vp_nar .boolean v = v := by rcases hz with rfl | rfl <;> decide
    rw [e9] at hP1
    exact m_I.set hI (E := .inl (2, n, .inl (upd f i.toNatClampNeg v))) (m_ri_some h1).1 rfl hP1 hS1 (kk H1 locs1)
  · cases hv
theorem m_last (hF : m_F k p s m args meth c) (hEx : m_Ex x b eA D cA s) (hI : m_I b eA D cA N0 S0 σ s H locs cells slots) (hd : decode (m_CD k) pc = .ok (.lastore, 1)) {a : Nat} {i : Int32} {v : Int64} {σ' : m_H} (hv : m_lst σ a i v = some σ')
    (kk : ∀ (H1 : Heap) (locs1 : List Loc), m_I b eA D cA N0 S0 σ' s H1 locs1 cells slots → W p l e R s m args below meth c H1 locs1 cells slots Q (F0 m (pc + 1) ls rest)) : W p l e R s m args below meth c H locs cells slots Q (F0 m pc ls (.long v :: .int i :: .ref (m_ad b eA a) :: rest)) := by
  obtain ⟨hx, hb, -⟩ := hF
  obtain ⟨⟨n, f⟩, h1, h2⟩ := Option.bind_eq_some_iff.mp hv
  obtain ⟨j, h3, rfl⟩ := Option.map_eq_some_iff.mp h2
  obtain ⟨h4, rfl⟩ := m_ix_some h3
  refine va_last hx hb hEx.1 hI.1 hI.dd hI.2.2.2.2.1 a 1 (m_w_get (m_rl_some h1).1) rfl h4 hd (fun H1 locs1 hP1 _ hS1 => ?_)
  exact m_I.set hI (E := .inl (1, n, .inr (.inl (vp_updL f i.toNatClampNeg v)))) (m_rl_some h1).1 rfl hP1 hS1 (kk H1 locs1)
end SD4
