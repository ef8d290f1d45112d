-- rows of references, new cells, constants, copies
section SD5
variable {p : Program} {l : Launch} {e : Env} {R : Room} {s : State} {m : MethodId} {args : Array Value} {below : List Frame} {meth : Method} {c : Code} {H : Heap} {locs : List Loc} {cells slots : Nat} {Q : State → Prop}
variable {x : m_X} {b : Nat} {eA : Nat → Nat} {D : va_G} {cA : Nat → ClassId} {N0 S0 : Nat} {σ : m_H} {k pc : Nat} {ls : Array Slot} {rest : List Value}
theorem m_aald (hF : m_F k p s m args meth c) (hEx : m_Ex x b eA D cA s) (hI : m_I b eA D cA N0 S0 σ s H locs cells slots) (hd : decode (m_CD k) pc = .ok (.aaload, 1)) {a : Nat} {i : Int32} {v : Nat} (hv : m_aa σ a i = some v)
    (kk : W p l e R s m args below meth c H locs cells slots Q (F0 m (pc + 1) ls (.ref (m_ad b eA v) :: rest))) : W p l e R s m args below meth c H locs cells slots Q (F0 m pc ls (.int i :: .ref (m_ad b eA a) :: rest)) := by
  obtain ⟨hx, hb, -⟩ := hF
  have go : ∀ (t : Nat) (ty : FieldType) (n : Nat) (f : Nat → Option Nat), (m_tys cA)[t]? = some (cA t, ty) → ty.isReference = true → m_rr σ t a = some (n, f) → (m_ix i n).bind f = some v → W p l e R s m args below meth c H locs cells slots Q (F0 m pc ls (.int i :: .ref (m_ad b eA a) :: rest)) := by
    intro t ty n f ht hr h1 h2
    obtain ⟨j, h3, h4⟩ := Option.bind_eq_some_iff.mp h2
    obtain ⟨h5, rfl⟩ := m_ix_some h3
    have hlt : i.toNatClampNeg < n := Nat.not_le.mp fun q => h5 (Or.inr q)
    have hc : H[m_ad b eA a]? = some (arrV (cA t) n (fun j => va_rf ((f j).map (m_ad b eA)))) := hI.1 a _ (m_w_get (m_rr_some h1).1)
    refine W.aald (v := va_rf ((f i.toNatClampNeg).map (m_ad b eA))) (ty := ty) hx hb hc ((hEx.1.2 t _ ht).1 n (fun j => va_rf ((f j).map (m_ad b eA)))) hr (fun q => by cases q) (by rw [arrV_size]; exact h5) (by rw [arrV_read _ _ hlt]) rfl rfl hd ?_
    rw [h4]
    exact kk
  unfold m_aa at hv
  split at hv
  · rename_i r h1
    exact go 3 _ r.1 r.2 rfl rfl h1 hv
  · obtain ⟨r, h1, h2⟩ := Option.bind_eq_some_iff.mp hv
    exact go 4 _ r.1 r.2 rfl rfl h1 h2
theorem m_aast (hF : m_F k p s m args meth c) (hEx : m_Ex x b eA D cA s) (hI : m_I b eA D cA N0 S0 σ s H locs cells slots) (hd : decode (m_CD k) pc = .ok (.aastore, 1)) {a : Nat} {i : Int32} {v : Nat} {σ' : m_H} (hv : m_as σ a i v = some σ')
    (kk : ∀ (H1 : Heap) (locs1 : List Loc), m_I b eA D cA N0 S0 σ' s H1 locs1 cells slots → W p l e R s m args below meth c H1 locs1 cells slots Q (F0 m (pc + 1) ls rest)) : W p l e R s m args below meth c H locs cells slots Q (F0 m pc ls (.ref (m_ad b eA v) :: .int i :: .ref (m_ad b eA a) :: rest)) := by
  obtain ⟨hx, hb, -⟩ := hF
  unfold m_as at hv
  split at hv
  · rename_i fs h0
    obtain ⟨⟨n, f⟩, h1, h2⟩ := Option.bind_eq_some_iff.mp hv
    obtain ⟨j, h3, rfl⟩ := Option.map_eq_some_iff.mp h2
    obtain ⟨h4, rfl⟩ := m_ix_some h3
    refine va_astq (r := (RX5, TX5, 7)) (f := fun j => (f j).map (m_ad b eA)) hx hb hEx.1 hI.1 hI.dd hI.2.2.2.2.1 a 3 v 5 (m_w_get (m_rr_some h1).1) rfl (m_w_get (m_o_some h0).1) rfl h4 hd (fun H1 locs1 hP1 _ hS1 => ?_)
    refine m_I.set hI (E := .inl (3, n, .inr (.inr (.inr (.inr (va_up f i.toNatClampNeg (some v))))))) (m_rr_some h1).1 rfl ?_ hS1 (kk H1 locs1)
    have e9 : (fun j => (va_up f i.toNatClampNeg (some v) j).map (m_ad b eA)) = va_up (fun j => (f j).map (m_ad b eA)) i.toNatClampNeg (some (m_ad b eA v)) := by
      funext j
      unfold va_up
      split <;> rfl
    show va_P D vwCl (List.set _ a (m_ad b eA a, .inl (cA 3, n, .inr (.inr (.inr (.inr (fun j => (va_up f i.toNatClampNeg (some v) j).map (m_ad b eA)))))))) H1
    rw [e9]
    exact hP1
  · cases hv
/-- a new cell at the end -/
theorem m_I.push (hI : m_I b eA D cA N0 S0 σ s H locs cells slots) {q : Nat} {E : m_E} {H1 : Heap} {locs1 : List Loc} {n : Nat} (hn : n = m_sz E) (hl : σ.length < 1000) (hP : va_P D vwCl (m_w (m_ad b eA) cA σ ++ [(q, m_te (m_ad b eA) cA E)]) H1) (hD : va_D (m_A0 b) (m_w (m_ad b eA) cA σ ++ [(q, m_te (m_ad b eA) cA E)])) (hS : va_S (m_A0 b) s.heap H1 locs1) {Q : State → Prop} {g : Nat → JFrame}
    (kk : m_I b eA D cA N0 S0 (σ ++ [E]) s H1 locs1 (cells + 1) (slots + n) → W p l e R s m args below meth c H1 locs1 (cells + 1) (slots + n) Q (g (m_ad b eA σ.length))) : W p l e R s m args below meth c H1 locs1 (cells + 1) (slots + n) Q (g q) := by
  obtain ⟨h1, h2, h3, h4, h5, h6, h7⟩ := hI
  refine m_szle fun hle => ?_
  have hlast : (m_w (m_ad b eA) cA σ ++ [(q, m_te (m_ad b eA) cA E)])[σ.length]? = some (q, m_te (m_ad b eA) cA E) := by
    rw [List.getElem?_append_right (by rw [m_w_len]; exact Nat.le_refl _), m_w_len]
    simp
  have hlt : q < H1.size := (hP _ _ hlast).lt
  have hbq : b ≤ q := hD.2 _ _ hlast
  have hq : q = m_ad b eA σ.length := by
    rw [m_ad_lt hl]
    rcases Nat.lt_trichotomy q (b + σ.length) with hc | hc | hc
    · exfalso
      have hi : q - b < σ.length := by omega
      have hg : (m_w (m_ad b eA) cA σ ++ [(q, m_te (m_ad b eA) cA E)])[q - b]? = some (m_ad b eA (q - b), m_te (m_ad b eA) cA σ[q - b]) := by
        rw [List.getElem?_append_left (by rw [m_w_len]; exact hi)]
        exact m_w_get (List.getElem?_eq_getElem hi)
      have := hD.1 _ _ _ _ hg hlast (by dsimp only; rw [m_ad_lt (by omega)]; omega)
      omega
    · exact hc
    · exfalso; omega
  subst hq
  have hsz : H1.size = b + (σ.length + 1) := by
    rw [m_ad_lt hl] at hlt
    omega
  refine kk ⟨by rw [m_w_app]; exact hP, by rw [hsz, List.length_append]; rfl, by rw [List.length_append, List.length_singleton]; omega, h4, hS, by rw [List.length_append, List.length_singleton]; omega, by rw [m_slt_app, m_slt_one, ← hn]; omega⟩
theorem m_dv_tv {ad : Nat → Nat} (t : Nat) : m_tv ad (m_dv t) = m_dv t := by
  unfold m_dv
  split
  · rfl
  · split <;> rfl
theorem m_new (hF : m_F k p s m args meth c) (hEx : m_Ex x b eA D cA s) (hI : m_I b eA D cA N0 S0 σ s H locs cells slots) (hTL : m_TL) (hTC : m_TC) {idx j : Nat} {q : Nat × Nat × Nat} (hd : decode (m_CD k) pc = .ok (.new idx, 3)) (hq : m_lc[j]? = some q) (ho : m_own k idx q.1 q.2.1 = true) (hl : σ.length < 1000)
    (hR : (σ ++ ([.inr (q.2.2, m_nf q.2.2)] : m_H)).length ≤ N0 + R.cells ∧ m_slt (σ ++ [.inr (q.2.2, m_nf q.2.2)]) ≤ S0 + R.slots)
    (kk : ∀ (H1 : Heap) (locs1 : List Loc) (cells1 slots1 : Nat), m_I b eA D cA N0 S0 (σ ++ [.inr (q.2.2, m_nf q.2.2)]) s H1 locs1 cells1 slots1 → W p l e R s m args below meth c H1 locs1 cells1 slots1 Q (F0 m (pc + 3) ls (.ref (m_ad b eA σ.length) :: rest))) : W p l e R s m args below meth c H locs cells slots Q (F0 m pc ls rest) := by
  obtain ⟨hx, hb, -, hown, hts, -, -, -⟩ := hF
  obtain ⟨C, T, N, h1, h2⟩ := hTL j q hq
  obtain ⟨g1, ⟨ty, g2⟩, g3, g4, g5, g6⟩ := hTC _ _ _ _ h1
  obtain ⟨e1, e2⟩ := m_own_eq ho
  rw [e1, e2] at h2
  have hnf : m_nf q.2.2 = (List.range N).map fun k => m_dv (m_fk (T k).2.2.1) := by unfold m_nf; rw [h1]
  have hfs : ∀ j, j < N → defaultValue (ty j) = vp_V ((m_nf q.2.2).map (m_tv (m_ad b eA))) j := by
    intro j hj
    unfold vp_V
    rw [hnf, List.map_map, List.getD_eq_getElem?_getD, List.getElem?_map, List.getElem?_range hj]
    show defaultValue (ty j) = m_tv (m_ad b eA) (m_dv (m_fk (T j).2.2.1))
    rw [m_dv_tv]
    rcases (g2 j hj).2 with ⟨e, e9⟩ | ⟨e, e9⟩ | ⟨e, e9⟩ | ⟨e, ⟨n, e9⟩ | ⟨n, e9⟩⟩ <;> rw [e, e9] <;> rfl
  have hsz : N = m_sz (.inr (q.2.2, m_nf q.2.2)) := by
    show N = (m_nf q.2.2).length
    rw [hnf]
    simp
  obtain ⟨r1, r2⟩ := hR
  rw [List.length_append, List.length_singleton] at r1
  rw [m_slt_app, m_slt_one, ← hsz] at r2
  have i6 := hI.2.2.2.2.2
  refine va_new hx hb hts g1 ty (fun k hk => (g2 k hk).1) hown (hts _ h2) (hts _ g5) (hts _ g6) hEx.1 hI.1 hI.dd hI.2.2.2.2.1 hI.aa h1 hfs (by omega) (by omega) hd (fun q9 H1 hP1 hD1 hS1 => ?_)
  exact m_I.push hI (E := .inr (q.2.2, m_nf q.2.2)) (g := fun z => F0 m (pc + 3) ls (.ref z :: rest)) hsz hl hP1 hD1 hS1 (fun hI1 => kk _ _ _ _ hI1)
theorem m_newa (hF : m_F k p s m args meth c) (hEx : m_Ex x b eA D cA s) (hI : m_I b eA D cA N0 S0 σ s H locs cells slots) {at9 : ArrayType} (hd : decode (m_CD k) pc = .ok (.newarray at9, 2)) {t : Nat} {ty : FieldType} (hty : newarray.typeOf at9 = ty) (ht : (m_tys cA)[t]? = some (cA t, ty)) (hpr : ∀ C, ty ≠ .object C) (harr : Cond.arrayClass ty ∈ m_ws0) {n : Int32} {a0 : vp_A} (ha : ∀ cA : ClassId, vp_cell cA a0 = arrV cA n.toNatClampNeg (fun _ => defaultValue ty)) (hm : m_tc (m_ad b eA) a0 = a0) (ha1 : a0.1 = n.toNatClampNeg) (hn : ¬ n < 0) (hbs : n.toNatClampNeg * componentBytes ty ≤ 536870912) (hl : σ.length < 1000)
    (hR : (σ ++ ([.inl (t, a0)] : m_H)).length ≤ N0 + R.cells ∧ m_slt (σ ++ [.inl (t, a0)]) ≤ S0 + R.slots)
    (kk : ∀ (H1 : Heap) (locs1 : List Loc) (cells1 slots1 : Nat), m_I b eA D cA N0 S0 (σ ++ [.inl (t, a0)]) s H1 locs1 cells1 slots1 → W p l e R s m args below meth c H1 locs1 cells1 slots1 Q (F0 m (pc + 2) ls (.ref (m_ad b eA σ.length) :: rest))) : W p l e R s m args below meth c H locs cells slots Q (F0 m pc ls (.int n :: rest)) := by
  obtain ⟨hx, hb, -, hown, hts, -, -, -⟩ := hF
  have hsz : n.toNatClampNeg = m_sz (.inl (t, a0)) := ha1.symm
  obtain ⟨r1, r2⟩ := hR
  rw [List.length_append, List.length_singleton] at r1
  rw [m_slt_app, m_slt_one, ← hsz] at r2
  have i6 := hI.2.2.2.2.2
  refine va_newa hx hb (by rw [hty]; exact hts _ harr) hty hEx.1 hI.1 hI.dd hI.2.2.2.2.1 hI.aa ha hn rfl hbs (by omega) (by omega) hd (fun q9 cA9 H1 hK1 hP1 hD1 hS1 => ?_)
  have hc9 : cA9 = cA t := by
    have k1 := (hEx.1.2 t _ ht).2
    have k2 := (hK1.2 (m_tys cA).length (cA9, ty) (by rw [List.getElem?_append_right (Nat.le_refl _)]; simp)).2
    unfold va_RA at k1 k2
    cases ty with
    | object C => exact absurd rfl (hpr C)
    | _ => exact Option.some.inj (k2.symm.trans k1)
  subst hc9
  refine m_I.push hI (E := .inl (t, a0)) (g := fun z => F0 m (pc + 2) ls (.ref z :: rest)) hsz hl ?_ ?_ hS1 (fun hI1 => kk _ _ _ _ hI1)
  · show va_P D vwCl (_ ++ [(q9, .inl (cA t, m_tc (m_ad b eA) a0))]) H1
    rw [hm]; exact hP1
  · show va_D (m_A0 b) (_ ++ [(q9, .inl (cA t, m_tc (m_ad b eA) a0))])
    rw [hm]; exact hD1
theorem m_anew (hF : m_F k p s m args meth c) (hEx : m_Ex x b eA D cA s) (hI : m_I b eA D cA N0 S0 σ s H locs cells slots) (hTA : m_TA) {idx : Nat} (hd : decode (m_CD k) pc = .ok (.anewarray idx, 3)) (hcn : m_CN k = "LeftGlove") (hix : idx = 42) {n : Int32} (hn : ¬ n < 0) (hbs : n.toNatClampNeg ≤ 100000) (hl : σ.length < 1000)
    (hR : (σ ++ ([.inl (3, n.toNatClampNeg, .inr (.inr (.inr (.inr fun _ => none))))] : m_H)).length ≤ N0 + R.cells ∧ m_slt (σ ++ [.inl (3, n.toNatClampNeg, .inr (.inr (.inr (.inr fun _ => none))))]) ≤ S0 + R.slots)
    (kk : ∀ (H1 : Heap) (locs1 : List Loc) (cells1 slots1 : Nat), m_I b eA D cA N0 S0 (σ ++ [.inl (3, n.toNatClampNeg, .inr (.inr (.inr (.inr fun _ => none))))]) s H1 locs1 cells1 slots1 → W p l e R s m args below meth c H1 locs1 cells1 slots1 Q (F0 m (pc + 3) ls (.ref (m_ad b eA σ.length) :: rest))) : W p l e R s m args below meth c H locs cells slots Q (F0 m pc ls (.int n :: rest)) := by
  obtain ⟨hx, hb, -, hown, hts, -, -, -⟩ := hF
  obtain ⟨-, -, -, a4, -, -⟩ := hTA
  subst hix
  rw [hcn] at hown
  have hsz : n.toNatClampNeg = m_sz (.inl (3, n.toNatClampNeg, .inr (.inr (.inr (.inr fun _ => none))))) := rfl
  obtain ⟨r1, r2⟩ := hR
  rw [List.length_append, List.length_singleton] at r1
  rw [m_slt_app, m_slt_one, ← hsz] at r2
  have i6 := hI.2.2.2.2.2
  refine va_newq hx hb hown (hts _ a4) hEx.2.2.2.2.2.2.2.1 hEx.1 hI.1 hI.dd hI.2.2.2.2.1 hI.aa hn rfl (by omega) (by omega) (by omega) hd (fun q9 cA9 H1 hK1 hP1 hD1 hS1 => ?_)
  have hc9 : cA9 = cA 3 := by
    obtain ⟨_, _, -, -, -, k1⟩ := (hEx.1.2 3 _ (rfl : (m_tys cA)[3]? = some (cA 3, .object "LeftGlove$Script"))).2
    obtain ⟨_, _, -, -, -, k2⟩ := (hK1.2 (m_tys cA).length (cA9, .object "LeftGlove$Script") (by rw [List.getElem?_append_right (Nat.le_refl _)]; simp)).2
    exact Option.some.inj (k2.symm.trans k1)
  subst hc9
  exact m_I.push hI (E := .inl (3, n.toNatClampNeg, .inr (.inr (.inr (.inr fun _ => none))))) (g := fun z => F0 m (pc + 3) ls (.ref z :: rest)) hsz hl hP1 hD1 hS1 (fun hI1 => kk _ _ _ _ hI1)
end SD5
