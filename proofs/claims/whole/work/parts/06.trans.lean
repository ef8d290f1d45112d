-- the small machine's cells and values as the real machine has them: own cell i at b + i, what stood there before at eA
def m_ad (b : Nat) (eA : Nat → Nat) (i : Nat) : Nat := if i < 1000 then b + i else eA (i - 1000)
def m_tv (ad : Nat → Nat) : Value → Value
  | .ref i => .ref (ad i)
  | v => v
def m_tc (ad : Nat → Nat) (a : vp_A) : vp_A := match a with
  | (n, .inr (.inr (.inr (.inr f)))) => (n, .inr (.inr (.inr (.inr fun j => (f j).map ad))))
  | a => a
def m_te (ad : Nat → Nat) (cA : Nat → ClassId) : m_E → va_E
  | .inl (t, a) => .inl (cA t, m_tc ad a)
  | .inr (c, fs) => .inr (c, fs.map (m_tv ad))
def m_w (ad : Nat → Nat) (cA : Nat → ClassId) (σ : m_H) : va_W := σ.mapIdx fun i e => (ad i, m_te ad cA e)
theorem m_w_get {ad : Nat → Nat} {cA : Nat → ClassId} {σ : m_H} {i : Nat} {e : m_E} (h : σ[i]? = some e) : (m_w ad cA σ)[i]? = some (ad i, m_te ad cA e) := by
  simp [m_w, h]
theorem m_w_some {ad : Nat → Nat} {cA : Nat → ClassId} {σ : m_H} {i : Nat} {q : Nat × va_E} (h : (m_w ad cA σ)[i]? = some q) : ∃ e, σ[i]? = some e ∧ q = (ad i, m_te ad cA e) := by
  simp only [m_w, List.getElem?_mapIdx, Option.map_eq_some_iff] at h
  obtain ⟨e, h1, h2⟩ := h
  exact ⟨e, h1, h2.symm⟩
theorem m_w_len {ad : Nat → Nat} {cA : Nat → ClassId} {σ : m_H} : (m_w ad cA σ).length = σ.length := by simp [m_w]
theorem m_w_set {ad : Nat → Nat} {cA : Nat → ClassId} {σ : m_H} {i : Nat} {e : m_E} : m_w ad cA (σ.set i e) = (m_w ad cA σ).set i (ad i, m_te ad cA e) := by
  simp [m_w, List.mapIdx_set]
theorem m_w_app {ad : Nat → Nat} {cA : Nat → ClassId} {σ : m_H} {e : m_E} : m_w ad cA (σ ++ [e]) = m_w ad cA σ ++ [(ad σ.length, m_te ad cA e)] := by
  simp [m_w, List.mapIdx_append]
theorem m_ad_lt {b : Nat} {eA : Nat → Nat} {i : Nat} (h : i < 1000) : m_ad b eA i = b + i := if_pos h
theorem m_ad_ge {b : Nat} {eA : Nat → Nat} {i : Nat} : m_ad b eA (1000 + i) = eA i := by
  unfold m_ad
  rw [if_neg (by omega), Nat.add_sub_cancel_left]
/-- own cells are apart, and lie from b on -/
theorem m_w_D {b : Nat} {eA : Nat → Nat} {cA : Nat → ClassId} {σ : m_H} (h : σ.length ≤ 1000) : va_D (fun q => b ≤ q) (m_w (m_ad b eA) cA σ) := by
  refine ⟨fun i j p q hi hj hpq => ?_, fun k q hk => ?_⟩
  · obtain ⟨e1, h1, rfl⟩ := m_w_some hi
    obtain ⟨e2, h2, rfl⟩ := m_w_some hj
    have l1 := (List.getElem?_eq_some_iff.mp h1).1
    have l2 := (List.getElem?_eq_some_iff.mp h2).1
    dsimp only at hpq
    rw [m_ad_lt (by omega), m_ad_lt (by omega)] at hpq
    omega
  · obtain ⟨e1, h1, rfl⟩ := m_w_some hk
    have l1 := (List.getElem?_eq_some_iff.mp h1).1
    dsimp only
    rw [m_ad_lt (by omega)]
    omega
theorem m_tv_cat (ad : Nat → Nat) (v : Value) : (m_tv ad v).category = v.category := by cases v <;> rfl
theorem m_cat_tv (ad : Nat → Nat) (st : List Value) : ((st.map (m_tv ad)).map fun v => v.category).sum = m_cat st := by
  unfold m_cat
  rw [List.map_map]
  congr 1
  apply List.map_congr_left
  intro v _
  exact m_tv_cat ad v
/-- locals -/
def m_lr (ad : Nat → Nat) (nL : Nat) (L : m_L) (ls : Array Slot) : Prop := L.length = nL ∧ ls.size = nL ∧ lv_wf ls ∧ ∀ i v, m_gl L i = some v → ls[i]? = some (.val (m_tv ad v))
/-- the list of locals as the kit's rows take it -/
def m_la1 (ad : Nat → Nat) (L : m_L) : List (Nat × Value) := (List.range L.length).filterMap fun i => (m_gl L i).map fun v => (i, m_tv ad v)
theorem m_la1_mem {ad : Nat → Nat} {L : m_L} {i : Nat} {v : Value} (h : m_gl L i = some v) : (i, m_tv ad v) ∈ m_la1 ad L := by
  unfold m_la1
  refine List.mem_filterMap.mpr ⟨i, List.mem_range.mpr ?_, by rw [h]; rfl⟩
  unfold m_gl at h
  split at h
  · rename_i hh
    exact (List.getElem?_eq_some_iff.mp hh).1
  · cases h
theorem m_lr_has {ad : Nat → Nat} {nL : Nat} {L : m_L} {ls : Array Slot} (h : m_lr ad nL L ls) : lv_has ls nL (m_la1 ad L) := by
  obtain ⟨-, h1, h2, h3⟩ := h
  refine ⟨h1, h2, fun q hq => ?_⟩
  obtain ⟨i, -, hi⟩ := List.mem_filterMap.mp hq
  cases e : m_gl L i with
  | none => rw [e] at hi; cases hi
  | some v =>
    rw [e] at hi
    cases hi
    exact h3 i v e
theorem m_gl_set {L : m_L} {n : Nat} {w : Option Value} {i : Nat} {v : Value} (h : m_gl (L.set n w) i = some v) : (i = n ∧ w = some v ∧ n < L.length) ∨ (i ≠ n ∧ m_gl L i = some v) := by
  unfold m_gl at h ⊢
  by_cases e : i = n
  · subst e
    left
    by_cases hl : i < L.length
    · rw [List.getElem?_set_self hl] at h
      cases w with
      | none => cases h
      | some w => cases h; exact ⟨rfl, rfl, hl⟩
    · rw [List.getElem?_eq_none (by simp; omega)] at h
      cases h
  · right
    rw [List.getElem?_set_ne (Ne.symm e)] at h
    exact ⟨e, h⟩
theorem m_kl_len {L : m_L} {n : Nat} : (m_kl L n).length = L.length := by
  unfold m_kl
  split
  · rfl
  · split <;> simp
/-- what is left behind 'kill': an old local, and none of two slots just ahead of n -/
theorem m_gl_kl {L : m_L} {n i : Nat} {v : Value} (h : m_gl (m_kl L n) i = some v) : m_gl L i = some v ∧ ¬ (i + 1 = n ∧ v.category = 2) := by
  unfold m_kl at h
  split at h
  · exact ⟨h, fun q => by omega⟩
  · rename_i j
    split at h
    · rcases m_gl_set h with ⟨-, hh, -⟩ | ⟨h1, h2⟩
      · cases hh
      · exact ⟨h2, fun q => h1 (by omega)⟩
    · rcases m_gl_set h with ⟨-, hh, -⟩ | ⟨h1, h2⟩
      · cases hh
      · exact ⟨h2, fun q => h1 (by omega)⟩
    · rename_i hne1 hne2
      refine ⟨h, fun q => ?_⟩
      obtain ⟨q1, q2⟩ := q
      have e : i = j := by omega
      subst e
      unfold m_gl at h
      split at h
      · rename_i hh
        cases h
        cases v with
        | long z => exact hne1 z hh
        | double z => exact hne2 z hh
        | _ => simp [Value.category] at q2
      · cases h
theorem m_s1_lr {ad : Nat → Nat} {nL n : Nat} {L : m_L} {ls ls' : Array Slot} {v : Value} (h : m_lr ad nL L ls) (h' : lv_has ls' nL ((n, m_tv ad v) :: (m_la1 ad L).filter (fun q => !(q.1 == n) && !(q.1 + 1 == n && q.2.category == 2)))) : m_lr ad nL (m_s1 L n v) ls' := by
  refine ⟨by simp [m_s1, m_kl_len, h.1], h'.1, h'.2.1, fun i w hw => ?_⟩
  rcases m_gl_set hw with ⟨rfl, e, -⟩ | ⟨h1, h2⟩
  · cases e
    exact h'.2.2 _ List.mem_cons_self
  · obtain ⟨h3, h4⟩ := m_gl_kl h2
    refine h'.2.2 (i, m_tv ad w) (List.mem_cons_of_mem _ (List.mem_filter.mpr ⟨m_la1_mem h3, ?_⟩))
    simp only [Bool.and_eq_true, Bool.not_eq_true', beq_eq_false_iff_ne, ne_eq, m_tv_cat]
    refine ⟨h1, ?_⟩
    cases hb : (i + 1 == n && w.category == 2) with
    | false => rfl
    | true =>
      simp only [Bool.and_eq_true, beq_iff_eq] at hb
      exact absurd hb h4
theorem m_s2_lr {ad : Nat → Nat} {nL n : Nat} {L : m_L} {ls ls' : Array Slot} {v : Value} (h : m_lr ad nL L ls) (h' : lv_has ls' nL ((n, m_tv ad v) :: (m_la1 ad L).filter (fun q => !(q.1 == n) && (!(q.1 == n + 1) && !(q.1 + 1 == n && q.2.category == 2))))) : m_lr ad nL (m_s2 L n v) ls' := by
  refine ⟨by simp [m_s2, m_kl_len, h.1], h'.1, h'.2.1, fun i w hw => ?_⟩
  rcases m_gl_set hw with ⟨-, e, -⟩ | ⟨h0, hw⟩
  · cases e
  rcases m_gl_set hw with ⟨rfl, e, -⟩ | ⟨h1, h2⟩
  · cases e
    exact h'.2.2 _ List.mem_cons_self
  · obtain ⟨h3, h4⟩ := m_gl_kl h2
    refine h'.2.2 (i, m_tv ad w) (List.mem_cons_of_mem _ (List.mem_filter.mpr ⟨m_la1_mem h3, ?_⟩))
    simp only [Bool.and_eq_true, Bool.not_eq_true', beq_eq_false_iff_ne, ne_eq, m_tv_cat]
    refine ⟨h1, h0, ?_⟩
    cases hb : (i + 1 == n && w.category == 2) with
    | false => rfl
    | true =>
      simp only [Bool.and_eq_true, beq_iff_eq] at hb
      exact absurd hb h4
/-- the entry's locals -/
theorem m_sl_lg (ad : Nat → Nat) : ∀ (as : List Value), (m_sl as).length = (lg_sl (as.map (m_tv ad))).length ∧ ∀ i v, m_gl (m_sl as) i = some v → (lg_sl (as.map (m_tv ad)))[i]? = some (.val (m_tv ad v)) := by
  intro as
  induction as with
  | nil => exact ⟨rfl, fun i v h => by simp [m_sl, m_gl] at h⟩
  | cons a as ih =>
    obtain ⟨ih1, ih2⟩ := ih
    have key1 : ∀ (e1 : m_sl (a :: as) = some a :: m_sl as) (e2 : lg_sl ((a :: as).map (m_tv ad)) = .val (m_tv ad a) :: lg_sl (as.map (m_tv ad))), (m_sl (a :: as)).length = (lg_sl ((a :: as).map (m_tv ad))).length ∧ ∀ i v, m_gl (m_sl (a :: as)) i = some v → (lg_sl ((a :: as).map (m_tv ad)))[i]? = some (.val (m_tv ad v)) := by
      intro e1 e2
      rw [e1, e2]
      refine ⟨by simp [ih1], fun i v h => ?_⟩
      cases i with
      | zero => simp only [m_gl, List.getElem?_cons_zero] at h; cases h; rfl
      | succ i => simp only [m_gl, List.getElem?_cons_succ] at h; exact ih2 i v h
    cases a with
    | long z =>
      have e1 : m_sl (.long z :: as) = some (.long z) :: none :: m_sl as := rfl
      have e2 : lg_sl ((.long z :: as).map (m_tv ad)) = .val (.long z) :: .second :: lg_sl (as.map (m_tv ad)) := by
        simp [lg_sl, m_tv, Value.category]
      rw [e1, e2]
      refine ⟨by simp [ih1], fun i v h => ?_⟩
      match i, h with
      | 0, h => simp only [m_gl, List.getElem?_cons_zero] at h; cases h; rfl
      | 1, h => simp [m_gl] at h
      | i + 2, h => simp only [m_gl, List.getElem?_cons_succ] at h; exact ih2 i v h
    | double z =>
      have e1 : m_sl (.double z :: as) = some (.double z) :: none :: m_sl as := rfl
      have e2 : lg_sl ((.double z :: as).map (m_tv ad)) = .val (.double z) :: .second :: lg_sl (as.map (m_tv ad)) := by
        simp [lg_sl, m_tv, Value.category]
      rw [e1, e2]
      refine ⟨by simp [ih1], fun i v h => ?_⟩
      match i, h with
      | 0, h => simp only [m_gl, List.getElem?_cons_zero] at h; cases h; rfl
      | 1, h => simp [m_gl] at h
      | i + 2, h => simp only [m_gl, List.getElem?_cons_succ] at h; exact ih2 i v h
    | int z => exact key1 rfl (by simp [lg_sl, m_tv, Value.category])
    | float z => exact key1 rfl (by simp [lg_sl, m_tv, Value.category])
    | null => exact key1 rfl (by simp [lg_sl, m_tv, Value.category])
    | ref z => exact key1 rfl (by simp [lg_sl, m_tv, Value.category])
    | retAddr z => exact key1 rfl (by simp [lg_sl, m_tv, Value.category])
theorem m_en_lr (ad : Nat → Nat) (k : Nat) (as : List Value) (h : (m_sl as).length ≤ m_ml.getD k 0) : m_lr ad (m_ml.getD k 0) (m_en k as) ((lg_sl (as.map (m_tv ad)) ++ List.replicate (m_ml.getD k 0 - (lg_sl (as.map (m_tv ad))).length) Slot.unset).toArray) := by
  obtain ⟨h1, h2⟩ := m_sl_lg ad as
  have hv := lv_entry (as.map (m_tv ad)) (n := m_ml.getD k 0) (by rw [← h1]; exact h)
  refine ⟨by unfold m_en; rw [List.length_append, List.length_replicate]; omega, hv.1, hv.2.1, fun i v hi => ?_⟩
  have hl : i < (m_sl as).length := by
    unfold m_gl m_en at hi
    by_cases hl : i < (m_sl as).length
    · exact hl
    · rw [List.getElem?_append_right (by omega), List.getElem?_replicate] at hi
      split at hi
      · rename_i q
        split at q <;> cases q
      · cases hi
  have hi' : m_gl (m_sl as) i = some v := by
    unfold m_gl m_en at hi
    rw [List.getElem?_append_left hl] at hi
    exact hi
  rw [List.getElem?_toArray, List.getElem?_append_left (by omega)]
  exact h2 i v hi'
