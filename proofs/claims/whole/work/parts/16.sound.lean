-- THE SMALL MACHINE IS SOUND
section SD8
variable {p : Program} {l : Launch} {e : Env} {R : Room} {s : State} {m : MethodId} {args : Array Value} {below : List Frame} {meth : Method} {c : Code} {H : Heap} {locs : List Loc} {cells slots : Nat} {Q : State → Prop}
variable {x : m_X} {b : Nat} {eA : Nat → Nat} {D : va_G} {cA : Nat → ClassId} {N0 S0 : Nat} {σ σ' : m_H} {k pc : Nat} {ls : Array Slot} {rest st0 : List Value} {r : Option Value} {a : Array Value}
theorem m_cont (hr : va_Run p l e R s m args below meth c H locs cells slots (σ'.length - σ.length) (m_slt σ' - m_slt σ) (F0 m pc ls st0) rest (m_Qc b eA D cA r σ' a) (m_A0 b)) (hI : m_I b eA D cA N0 S0 σ s H locs cells slots) (hle : m_le σ σ')
    (kk : ∀ (H1 : Heap) (locs1 : List Loc) (cells1 slots1 : Nat), m_I b eA D cA N0 S0 σ' s H1 locs1 cells1 slots1 → W p l e R s m args below meth c H1 locs1 cells1 slots1 Q (F0 m (pc + 3) ls ((r.map (m_tv (m_ad b eA))).toList ++ rest))) : W p l e R s m args below meth c H locs cells slots Q (F0 m pc ls st0) := by
  intro T hT X
  obtain ⟨v, st₀, t, T', L, h0, X', hL, e1, e2, ⟨hv, q1, q2, q3, q4⟩, st⟩ := hr T hT X
  obtain ⟨i1, i2, i3, i4, i5, i6, i7⟩ := hI
  obtain ⟨g1, g2, g3⟩ := hle
  rw [h0] at q3 q4
  cases hv
  have hI1 : m_I b eA D cA N0 S0 σ' s T'.heap (locs ++ L) (cells + (σ'.length - σ.length)) (slots + (m_slt σ' - m_slt σ)) := by
    refine ⟨by rw [e1]; exact q1, by rw [e1]; exact q2, g3 i3, i4, ⟨by rw [e1]; exact Nat.le_trans i5.1 q3, fun q h1 h2 => ?_, fun q hq => ?_⟩, by omega, by omega⟩
    · rw [e1, q4 q (Nat.lt_of_lt_of_le h1 i5.1) h2]
      exact i5.2.1 q h1 h2
    · rcases List.mem_append.mp hq with h | h
      · exact i5.2.2 q h
      · exact hL q h
  obtain ⟨t2, a1, b1⟩ := kk _ _ _ _ hI1 T' rfl X'
  exact ⟨t2, st t2 a1, b1⟩
/-- the callee's start, at the call -/
theorem m_preS (hEx : m_Ex x b eA D cA s) (hI : m_I b eA D cA N0 S0 σ s H locs cells slots) (as : List Value) : PreS s H (m_Pc x b eA D cA as σ) (as.map (m_tv (m_ad b eA))) := by
  obtain ⟨i1, i2, i3, i4, i5, i6, i7⟩ := hI
  exact ⟨m_Pc.blind, fun U hU hW => ⟨rfl, hEx.move hW (fun q h1 h2 => by rw [hU]; exact i5.2.1 q h1 h2), by rw [hU]; exact i1, by rw [hU]; exact i2⟩⟩
theorem m_recv (hEx : m_Ex x b eA D cA s) (hI : m_I b eA D cA N0 S0 σ s H locs cells slots) {k' o : Nat} {as : List Value} {C : String} (hrc : m_rc k' (.ref o :: as) σ = true) (hkd : m_KD k' = 1) (hci : (m_ci k' = 100 ∧ C = "java/lang/String") ∨ (m_ci k' ≠ 100 ∧ ∃ q, vwCl[m_ci k']? = some q ∧ q.1 = C)) : ∃ cell : Cell, H[m_ad b eA o]? = some cell ∧ cell.vm.isStatics = false ∧ s.vm.findClass C = some cell.cls := by
  unfold m_rc at hrc
  rw [if_neg (by rw [show m_kd.getD k' 0 = 1 from hkd]; decide)] at hrc
  dsimp only at hrc
  rw [show m_kd.getD k' 0 = 1 from hkd] at hrc
  have e0 : ((1 : Nat) == 2) = false := rfl
  rw [e0, Bool.false_or, Bool.or_eq_true] at hrc
  rcases hrc with h | h
  · unfold m_isO at h
    split at h
    · rename_i c9 fs9 h9
      have h := beq_iff_eq.mp h
      subst h
      obtain ⟨z1, z2⟩ := m_o_some h9
      rcases hci with ⟨hc, -⟩ | ⟨-, q, hc, rfl⟩
      · exfalso
        obtain ⟨rr, hr1, -⟩ := hI.1 _ _ (m_w_get z1)
        rw [hc] at hr1
        cases hr1
      · exact va_recv hEx.1 hI.1 hc (m_w_get z1)
    · cases h
  · simp only [Bool.and_eq_true, beq_iff_eq, Bool.or_eq_true] at h
    obtain ⟨h1, h2⟩ := h
    rcases hci with ⟨-, rfl⟩ | ⟨hc, -⟩
    · obtain ⟨i9, hi9, rfl⟩ : ∃ i9 : Nat, i9 < 2 ∧ o = 1000 + (2 + i9) := by
        rcases h2 with rfl | rfl
        · exact ⟨0, by omega, rfl⟩
        · exact ⟨1, by omega, rfl⟩
      rw [m_ad_ge]
      exact vk_recv (adK := fun i => eA (2 + i)) (i := i9) hEx.2.2.2.1 hi9 hI.2.2.2.2.1
    · exact absurd h1 hc
theorem m_stk (ad : Nat → Nat) (n : Nat) (st : List Value) : st.map (m_tv ad) = (((st.take n).reverse).map (m_tv ad)).reverse ++ (st.drop n).map (m_tv ad) := by
  rw [List.map_reverse, List.reverse_reverse, ← List.map_append, List.take_append_drop]
set_option maxHeartbeats 1000000 in
/-- a call -/
theorem m_call {n : Nat} (ih : m_Snd n) (hT2 : m_T2) {ρ : Nat} {i : Instr} {idx j : Nat} {q : Nat × Nat × Nat × Nat} {nn : Nat} {st : List Value} (hF : m_F k p s m args meth c) (hEx : m_Ex x b eA D cA s) (hI : m_I b eA D cA N0 S0 σ s H locs cells slots) (hls : ls.size = m_ML k) (hd : decode (m_CD k) pc = .ok (i, 3)) (hq : m_lm[j]? = some q) (ho : m_own k idx q.1 q.2.1 = true)
    (hi : (i = .invokestatic idx ∧ m_KD q.2.2.1 = 0 ∧ nn = m_AR q.2.2.1) ∨ (i = .invokevirtual idx ∧ m_KD q.2.2.1 = 1 ∧ nn = m_AR q.2.2.1 + 1) ∨ (i = .invokespecial idx ∧ m_KD q.2.2.1 = 2 ∧ nn = m_AR q.2.2.1 + 1))
    (hn : nn ≤ st.length) (hk : q.2.2.1 < m_ins.length) (hcat : m_cat (st.drop nn) ≤ 8) (hml : (m_sl (st.take nn).reverse).length ≤ m_ML q.2.2.1) (hρ : m_rank q.2.2.1 (st.take nn).reverse < ρ) (hrc : m_rc q.2.2.1 (st.take nn).reverse σ = true) (hfr : ρ ≤ R.frames) (hlo : 64 * ρ ≤ R.locals)
    (h : m_run x n (m_rank q.2.2.1 (st.take nn).reverse) q.2.2.1 0 (m_en q.2.2.1 (st.take nn).reverse) [] σ = some (r, σ')) (hc1 : σ'.length ≤ N0 + R.cells) (hc2 : m_slt σ' ≤ S0 + R.slots)
    (kk : ∀ (H1 : Heap) (locs1 : List Loc) (cells1 slots1 : Nat), m_I b eA D cA N0 S0 σ' s H1 locs1 cells1 slots1 → W p l e R s m args below meth c H1 locs1 cells1 slots1 Q (F0 m (pc + 3) ls ((r.toList ++ st.drop nn).map (m_tv (m_ad b eA))))) : W p l e R s m args below meth c H locs cells slots Q (F0 m pc ls (st.map (m_tv (m_ad b eA)))) := by
  obtain ⟨-, -, hL⟩ := hT2.1 j q hq
  obtain ⟨hM, hl0, hl1⟩ := hL hk
  have hMet := m_met ih l (b := b) (eA := eA) (D := D) (cA := cA) hM hml hI.2.2.1 h
  have hle : m_le σ σ' := m_run_grow x _ _ _ _ _ _ _ _ h
  obtain ⟨hx, hb, hmx, hown, hts, hr, hlocks, hnm⟩ := hF
  obtain ⟨M1, M2, M3, M4, M5, M6, M7, hm39, M8⟩ := id hM
  obtain ⟨e1, e2⟩ := m_own_eq ho
  have hI' := hI
  obtain ⟨i1, i2, i3, i4, i5, i6, i7⟩ := hI'
  have hfit : cells + (σ'.length - σ.length) ≤ R.cells ∧ slots + (m_slt σ' - m_slt σ) ≤ R.slots := by
    obtain ⟨g1, g2, -⟩ := hle
    omega
  have hroom : (m_rm (m_rank q.2.2.1 (st.take nn).reverse) σ σ').frames + 1 ≤ R.frames ∧ 8 + (m_ML q.2.2.1 + 11) + (m_rm (m_rank q.2.2.1 (st.take nn).reverse) σ σ').locals ≤ R.locals := by
    show m_rank q.2.2.1 (st.take nn).reverse + 1 ≤ R.frames ∧ 8 + (m_ML q.2.2.1 + 11) + 64 * m_rank q.2.2.1 (st.take nn).reverse ≤ R.locals
    omega
  have hW : 2 * (F0 m pc ls (st.map (m_tv (m_ad b eA)))).monitorRoom + (((st.drop nn).map (m_tv (m_ad b eA))).map fun v => v.category).sum ≤ 8 := lv_room (by rw [m_cat_tv]; exact hcat)
  have kk' : ∀ (H1 : Heap) (locs1 : List Loc) (cells1 slots1 : Nat), m_I b eA D cA N0 S0 σ' s H1 locs1 cells1 slots1 → W p l e R s m args below meth c H1 locs1 cells1 slots1 Q (F0 m (pc + 3) ls ((r.map (m_tv (m_ad b eA))).toList ++ (st.drop nn).map (m_tv (m_ad b eA)))) := by
    intro H1 locs1 c1 s1 h1
    have := kk H1 locs1 c1 s1 h1
    rw [List.map_append] at this
    cases r <;> exact this
  have hlenA : ((st.take nn).reverse).length = nn := by rw [List.length_reverse, List.length_take]; omega
  rcases hi with ⟨rfl, hkd, rfl⟩ | ⟨rfl, hkd, rfl⟩ | ⟨rfl, hkd, rfl⟩
  · have hstat : Cond.static (m_Y q.2.2.1) ∈ m_ws0 := by
      rcases M8 with ⟨-, z⟩ | ⟨z, -⟩ | ⟨z, -⟩
      · exact z
      · rw [hkd] at z; cases z
      · rw [hkd] at z; cases z
    by_cases hnest : q.2.2.2 = 0
    · have hlk := hl0 hnest
      rw [e1, e2] at hlk
      refine m_cont (va_runS (As := ((st.take (m_AR q.2.2.1)).reverse).map (m_tv (m_ad b eA))) (rest := (st.drop (m_AR q.2.2.1)).map (m_tv (m_ad b eA))) (n := m_AR q.2.2.1) ⟨hx, hb, hmx, hown, hts⟩ hMet ⟨callB_of (m_AR q.2.2.1) hts (m_wsk_good hM) rfl rfl rfl (hts _ M5) (hts _ hlk) ⟨M3.1, M3.2, M4⟩ hroom, hts _ hstat⟩ (m_preS hEx hI _) rfl (by rw [List.length_map]; exact hlenA) hls (m_stk _ _ _) hW hd hfit) hI hle kk'
    · obtain ⟨-, hne⟩ := hl1 hnest
      have hz := hEx.2.2.2.2.2.2.1 _ hne
      rw [e1, e2] at hz
      refine m_cont (va_runSN (As := ((st.take (m_AR q.2.2.1)).reverse).map (m_tv (m_ad b eA))) (rest := (st.drop (m_AR q.2.2.1)).map (m_tv (m_ad b eA))) (n := m_AR q.2.2.1) ⟨hx, hb, hmx, hown, hts⟩ hMet ⟨va_cnB (m_AR q.2.2.1) hts (m_wsk_good hM) rfl rfl rfl hz (hts _ M5) ⟨M3.1, M3.2, M4⟩ hroom, hts _ hstat, trivial⟩ (m_preS hEx hI _) rfl (by rw [List.length_map]; exact hlenA) hls (m_stk _ _ _) hW hd hfit) hI hle kk'
  · have hnest : q.2.2.2 = 0 := by
      by_cases hz : q.2.2.2 = 0
      · exact hz
      · have := (hl1 hz).1
        rw [hkd] at this; cases this
    have hlk := hl0 hnest
    rw [e1, e2] at hlk
    obtain ⟨h8a, h8b, h8c⟩ : Cond.instanceMethod (m_Y q.2.2.1) ∈ m_ws0 ∧ Cond.selects (m_Y q.2.2.1).cls (m_Y q.2.2.1) (m_Y q.2.2.1) ∈ m_ws0 ∧ ((m_ci q.2.2.1 = 100 ∧ (m_Y q.2.2.1).cls = "java/lang/String") ∨ (m_ci q.2.2.1 ≠ 100 ∧ ∃ z, vwCl[m_ci q.2.2.1]? = some z ∧ z.1 = (m_Y q.2.2.1).cls)) := by
      rcases M8 with ⟨z, -⟩ | ⟨-, z⟩ | ⟨z, -⟩
      · rw [hkd] at z; cases z
      · exact z
      · rw [hkd] at z; cases z
    obtain ⟨o, as, has⟩ : ∃ o as, (st.take (m_AR q.2.2.1 + 1)).reverse = .ref o :: as := by
      unfold m_rc at hrc
      rw [if_neg (by rw [show m_kd.getD q.2.2.1 0 = 1 from hkd]; decide)] at hrc
      split at hrc
      · exact ⟨_, _, by assumption⟩
      · cases hrc
    have hstk := m_stk (m_ad b eA) (m_AR q.2.2.1 + 1) st
    have hpre := m_preS hEx hI ((st.take (m_AR q.2.2.1 + 1)).reverse)
    rw [has] at hMet hstk hpre hrc hlenA
    rw [List.length_cons] at hlenA
    refine m_cont (va_runV (C := (m_Y q.2.2.1).cls) (As := as.map (m_tv (m_ad b eA))) (b := m_ad b eA o) (rest := (st.drop (m_AR q.2.2.1 + 1)).map (m_tv (m_ad b eA))) (n := m_AR q.2.2.1) ⟨hx, hb, hmx, hown, hts⟩ hMet ⟨callB_of (m_AR q.2.2.1) hts (m_wsk_good hM) rfl rfl rfl (hts _ M5) (hts _ hlk) ⟨M3.1, M3.2, M4⟩ (by rw [has] at hroom; exact hroom), hts _ h8a, hts _ h8b⟩ ⟨hpre.1, m_recv hEx hI hrc hkd h8c, hpre.2⟩ rfl (by rw [List.length_map]; omega) hls (by show st.map _ = _; rw [hstk]; simp [m_tv]) hW hd hfit) hI hle kk'
  · have hnest : q.2.2.2 = 0 := by
      by_cases hz : q.2.2.2 = 0
      · exact hz
      · have := (hl1 hz).1
        rw [hkd] at this; cases this
    have hlk := hl0 hnest
    rw [e1, e2] at hlk
    obtain ⟨h8a, h8b, h8c⟩ : Cond.instanceMethod (m_Y q.2.2.1) ∈ m_ws0 ∧ (m_Y q.2.2.1).name = "<init>" ∧ m_RT q.2.2.1 = none := by
      rcases M8 with ⟨z, -⟩ | ⟨z, -⟩ | ⟨-, z⟩
      · rw [hkd] at z; cases z
      · rw [hkd] at z; cases z
      · exact z
    obtain ⟨o, as, has⟩ : ∃ o as, (st.take (m_AR q.2.2.1 + 1)).reverse = .ref o :: as := by
      unfold m_rc at hrc
      rw [if_neg (by rw [show m_kd.getD q.2.2.1 0 = 2 from hkd]; decide)] at hrc
      split at hrc
      · exact ⟨_, _, by assumption⟩
      · cases hrc
    have hstk := m_stk (m_ad b eA) (m_AR q.2.2.1 + 1) st
    have hpre := m_preS hEx hI ((st.take (m_AR q.2.2.1 + 1)).reverse)
    rw [has] at hMet hstk hpre hrc hlenA
    rw [List.length_cons] at hlenA
    have hcb := callB_of (R := R) (m_AR q.2.2.1) hts (m_wsk_good hM) rfl (rm := m_rm (m_rank q.2.2.1 (.ref o :: as)) σ σ') rfl rfl (hts _ M5) (hts _ hlk) ⟨M3.1, M3.2, M4⟩ (by rw [has] at hroom; exact hroom)
    rw [h8c] at hcb
    exact m_cont (va_runI (As := as.map (m_tv (m_ad b eA))) (b := m_ad b eA o) (rest := (st.drop (m_AR q.2.2.1 + 1)).map (m_tv (m_ad b eA))) (n := m_AR q.2.2.1) ⟨hx, hb, hmx, hown, hts⟩ hMet ⟨hcb, h8b, hts _ h8a⟩ hpre rfl (by rw [List.length_map]; omega) hls (by show st.map _ = _; rw [hstk]; simp [m_tv]) hW hd hfit) hI hle kk'
theorem m_acopy (hT2 : m_T2) {ρ idx j : Nat} {q : Nat × Nat × Nat × Nat} (hF : m_F k p s m args meth c) (hEx : m_Ex x b eA D cA s) (hI : m_I b eA D cA N0 S0 σ s H locs cells slots) (hls : ls.size = m_ML k) (hd : decode (m_CD k) pc = .ok (.invokestatic idx, 3)) (hq : m_lm[j]? = some q) (ho : m_own k idx q.1 q.2.1 = true) (h9 : q.2.2.1 = 9001) {sa so : Nat} {sp dp n : Int32} {st : List Value} (hcat : m_cat st ≤ 8) (hρ1 : 1 ≤ ρ) (hfr : ρ ≤ R.frames) (hlo : 64 * ρ ≤ R.locals) (hc : m_cpy σ sa sp so dp n = some σ')
    (kk : ∀ (H1 : Heap) (locs1 : List Loc) (cells1 slots1 : Nat), m_I b eA D cA N0 S0 σ' s H1 locs1 cells1 slots1 → W p l e R s m args below meth c H1 locs1 cells1 slots1 Q (F0 m (pc + 3) ls (st.map (m_tv (m_ad b eA))))) : W p l e R s m args below meth c H locs cells slots Q (F0 m pc ls (.int n :: .int dp :: .ref (m_ad b eA so) :: .int sp :: .ref (m_ad b eA sa) :: st.map (m_tv (m_ad b eA)))) := by
  obtain ⟨hx, hb, hmx, hown, hts, hr, hlocks, hnm⟩ := hF
  obtain ⟨hT2a, -, -, t4, t5, t6⟩ := hT2
  have hlk := (hT2a j q hq).2.1 h9
  obtain ⟨e1, e2⟩ := m_own_eq ho
  rw [e1, e2] at hlk
  obtain ⟨n0, f, n1, g, c1, c2, c3, c4, d1, d2, d3, d4, d5, rfl⟩ := m_cpy_some hc
  have e9 : nativeFrameWords "java/lang/System" "arraycopy" 5 = 7 := by decide +kernel
  have hlc : ((st.map (m_tv (m_ad b eA))).map fun v => v.category).sum + (nativeFrameWords "java/lang/System" "arraycopy" 5 + 11) ≤ R.locals := by
    rw [m_cat_tv, e9]
    omega
  refine va_copyi hx hb (by rw [hmx, hls]) hown (hts _ hlk) (hts _ t4) (hts _ t5) (hts _ t6) hEx.1 hI.1 hI.dd hI.2.2.2.2.1 sa so 0 0 (m_w_get c1) (m_w_get c3) rfl rfl rfl d1 d2 d3 d4 d5 (fun _ _ => rfl) (by omega) hlc hd (fun H1 locs1 hP1 _ hS1 => ?_)
  exact m_I.set hI (E := .inl (0, n1, .inl (va_cpy f g sp.toNatClampNeg dp.toNatClampNeg n.toNatClampNeg))) c3 rfl hP1 hS1 (kk H1 locs1 _ _)
theorem m_oinit (hT2 : m_T2) {ρ idx j : Nat} {q : Nat × Nat × Nat × Nat} (hF : m_F k p s m args meth c) (hls : ls.size = m_ML k) (hd : decode (m_CD k) pc = .ok (.invokespecial idx, 3)) (hq : m_lm[j]? = some q) (ho : m_own k idx q.1 q.2.1 = true) (h9 : q.2.2.1 = 9000) {o : Nat} {st : List Value} (hcat : m_cat st ≤ 8) (hρ1 : 1 ≤ ρ) (hfr : ρ ≤ R.frames) (hlo : 64 * ρ ≤ R.locals)
    (kk : W p l e R s m args below meth c H locs cells slots Q (F0 m (pc + 3) ls (st.map (m_tv (m_ad b eA))))) : W p l e R s m args below meth c H locs cells slots Q (F0 m pc ls (.ref (m_ad b eA o) :: st.map (m_tv (m_ad b eA)))) := by
  obtain ⟨hx, hb, hmx, hown, hts, hr, hlocks, hnm⟩ := hF
  obtain ⟨hT2a, t2, t3, -, -, -⟩ := hT2
  have hlk := (hT2a j q hq).1 h9
  obtain ⟨e1, e2⟩ := m_own_eq ho
  rw [e1, e2] at hlk
  have hw := lv_room (m := m) (pc := pc) (ls := ls) (rest := .ref (m_ad b eA o) :: st.map (m_tv (m_ad b eA))) (st := st.map (m_tv (m_ad b eA))) (by rw [m_cat_tv]; exact hcat)
  exact W.objInit hx hb hown (hts _ hlk) (hts _ t2) (hts _ t3) rfl (by rw [hmx]; exact hls) rfl hd (by omega) (by omega) kk
end SD8
set_option maxHeartbeats 2000000 in
theorem m_sound (hT : m_Tab) (hT2 : m_T2) : ∀ n, m_Snd n := by
  intro n
  induction n with
  | zero => intro x b eA D cA ρ k pc L st σ r σ' h; simp [m_run] at h
  | succ n ih =>
    intro x b eA D cA ρ k pc L st σ r σ' h l p e R s m args below meth c H locs cells slots Q ls N0 S0 hF hEx hI hL hρ1 hfr hlo hc1 hc2 fin
    rw [m_run] at h
    split at h
    · cases h
    · rename_i pc1 L1 st1 σ1 hn
      have hg : m_le σ1 σ' := m_run_grow x _ _ _ _ _ _ _ _ h
      have hR1 : σ1.length ≤ N0 + R.cells ∧ m_slt σ1 ≤ S0 + R.slots := by
        obtain ⟨g1, g2, -⟩ := hg
        omega
      have go : ∀ (H1 : Heap) (locs1 : List Loc) (cells1 slots1 : Nat) (ls1 : Array Slot), m_I b eA D cA N0 S0 σ1 s H1 locs1 cells1 slots1 → m_lr (m_ad b eA) (m_ML k) L1 ls1 → W p l e R s m args below meth c H1 locs1 cells1 slots1 Q (F0 m pc1 ls1 (st1.map (m_tv (m_ad b eA)))) := fun H1 locs1 cells1 slots1 ls1 hI1 hL1 =>
        ih x b eA D cA ρ k pc1 L1 st1 σ1 r σ' h l p e R s m args below meth c H1 locs1 cells1 slots1 Q ls1 N0 S0 hF hEx hI1 hL1 hρ1 hfr hlo hc1 hc2 fin
      unfold m_nxt at hn
      split at hn
      · cases hn
      · rename_i i len j hat
        have hd := hT.1.dec hat
        have hok := (hT.1 _ _ _ _ _ hat).2
        split at hn
        · obtain ⟨rfl, z⟩ := m_sd1 (l := l) (e := e) (R := R) (below := below) (H := H) (locs := locs) (cells := cells) (slots := slots) (Q := Q) hF hd hn hL
          exact z (fun ls' hL' => go _ _ _ _ ls' hI hL')
        · obtain ⟨rfl, z⟩ := m_sd2 (l := l) (e := e) (R := R) (below := below) (H := H) (locs := locs) (cells := cells) (slots := slots) (Q := Q) hF hd hok hn hL
          exact z (fun ls' hL' => go _ _ _ _ ls' hI hL')
        · obtain ⟨rfl, z⟩ := m_sd3 (l := l) (e := e) (below := below) (Q := Q) (ls := ls) hT hF hEx hI hd hok hn hR1
          exact z (fun H1 locs1 c1 s1 hI1 => go _ _ _ _ ls hI1 hL)
        · unfold m_d4 at hn
          simp only [m_okI, Bool.and_eq_true] at hok
          obtain ⟨-, hok⟩ := hok
          split at hn
          case h_1 =>
            obtain ⟨q, hq, hn⟩ := Option.bind_eq_some_iff.mp hn
            simp only [hq, Option.any_some, Bool.and_eq_true] at hok
            split at hn
            · rename_i h9
              split at hn
              · split at hn
                · rename_i hcat
                  obtain ⟨σ2, hcp, hn⟩ := Option.bind_eq_some_iff.mp hn
                  obtain ⟨rfl, rfl, rfl, rfl⟩ := m_go_eq hn
                  exact m_acopy hT2 hF hEx hI hL.2.1 hd hq hok.1 h9 hcat hρ1 hfr hlo hcp (fun H1 locs1 c1 s1 hI1 => go _ _ _ _ ls hI1 hL)
                · cases hn
              · cases hn
            · cases (m_cl1_some hn).1
          case h_2 =>
            obtain ⟨q, -, hn⟩ := Option.bind_eq_some_iff.mp hn
            cases (m_cl1_some hn).1
          case h_3 =>
            obtain ⟨q, hq, hn⟩ := Option.bind_eq_some_iff.mp hn
            simp only [hq, Option.any_some, Bool.and_eq_true] at hok
            split at hn
            · rename_i h9
              split at hn
              · split at hn
                · rename_i hcat
                  obtain ⟨rfl, rfl, rfl, rfl⟩ := m_go_eq hn
                  exact m_oinit hT2 hF hL.2.1 hd hq hok.1 h9 hcat hρ1 hfr hlo (go _ _ _ _ ls hI hL)
                · cases hn
              · cases hn
            · cases (m_cl1_some hn).1
          all_goals first | (cases hn; done) | skip
          all_goals (split at hn)
          all_goals (cases hn)
    · rename_i k1 as1 pc1 st1 hn
      split at h
      · rename_i hcnd
        obtain ⟨⟨rv, σ1⟩, hr1, hr2⟩ := Option.bind_eq_some_iff.mp h
        have hg : m_le σ1 σ' := m_run_grow x _ _ _ _ _ _ _ _ hr2
        have hR1 : σ1.length ≤ N0 + R.cells ∧ m_slt σ1 ≤ S0 + R.slots := by
          obtain ⟨g1, g2, -⟩ := hg
          omega
        have go : ∀ (H1 : Heap) (locs1 : List Loc) (cells1 slots1 : Nat), m_I b eA D cA N0 S0 σ1 s H1 locs1 cells1 slots1 → W p l e R s m args below meth c H1 locs1 cells1 slots1 Q (F0 m pc1 ls ((rv.toList ++ st1).map (m_tv (m_ad b eA)))) := fun H1 locs1 cells1 slots1 hI1 =>
          ih x b eA D cA ρ k pc1 L (rv.toList ++ st1) σ1 r σ' hr2 l p e R s m args below meth c H1 locs1 cells1 slots1 Q ls N0 S0 hF hEx hI1 hL hρ1 hfr hlo hc1 hc2 fin
        unfold m_nxt at hn
        split at hn
        · cases hn
        · rename_i i len j hat
          have hd := hT.1.dec hat
          have hok := (hT.1 _ _ _ _ _ hat).2
          split at hn
          · exact (m_d1_no hn).elim
          · exact (m_d2_no hn).elim
          · exact (m_d3_no hn).elim
          · unfold m_d4 at hn
            simp only [m_okI, Bool.and_eq_true] at hok
            obtain ⟨-, hok⟩ := hok
            split at hn
            case h_1 =>
              obtain ⟨q, hq, hn⟩ := Option.bind_eq_some_iff.mp hn
              simp only [hq, Option.any_some, Bool.and_eq_true, Bool.or_eq_true, beq_iff_eq] at hok
              split at hn
              · split at hn
                · split at hn
                  · obtain ⟨_, _, hn⟩ := Option.bind_eq_some_iff.mp hn
                    exact (m_go_no hn).elim
                  · cases hn
                · cases hn
              · rename_i h9
                obtain ⟨e0, c1, c2, c3, c4⟩ := m_cl1_some hn
                cases e0
                exact m_call ih hT2 hF hEx hI hL.2.1 hd hq hok.1 (Or.inl ⟨rfl, by rcases hok.2 with z | z; exact absurd z h9; exact z, rfl⟩) c1 c2 c3 c4 hcnd.1 hcnd.2 hfr hlo hr1 hR1.1 hR1.2 go
            case h_2 =>
              obtain ⟨q, hq, hn⟩ := Option.bind_eq_some_iff.mp hn
              simp only [hq, Option.any_some, Bool.and_eq_true, Bool.or_eq_true, beq_iff_eq] at hok
              obtain ⟨e0, c1, c2, c3, c4⟩ := m_cl1_some hn
              cases e0
              exact m_call ih hT2 hF hEx hI hL.2.1 hd hq hok.1 (Or.inr (Or.inl ⟨rfl, hok.2, rfl⟩)) c1 c2 c3 c4 hcnd.1 hcnd.2 hfr hlo hr1 hR1.1 hR1.2 go
            case h_3 =>
              obtain ⟨q, hq, hn⟩ := Option.bind_eq_some_iff.mp hn
              simp only [hq, Option.any_some, Bool.and_eq_true, Bool.or_eq_true, beq_iff_eq] at hok
              split at hn
              · split at hn
                · split at hn <;> cases hn
                · cases hn
              · rename_i h9
                obtain ⟨e0, c1, c2, c3, c4⟩ := m_cl1_some hn
                cases e0
                exact m_call ih hT2 hF hEx hI hL.2.1 hd hq hok.1 (Or.inr (Or.inr ⟨rfl, by rcases hok.2 with z | z; exact absurd z h9; exact z, rfl⟩)) c1 c2 c3 c4 hcnd.1 hcnd.2 hfr hlo hr1 hR1.1 hR1.2 go
            all_goals first | (cases hn; done) | skip
            all_goals (split at hn)
            all_goals (cases hn)
      · cases h
    · rename_i r0 hn
      cases h
      unfold m_nxt at hn
      split at hn
      · cases hn
      · rename_i i len j hat
        have hd := hT.1.dec hat
        split at hn
        · exact (m_d1_no hn).elim
        · exact (m_d2_no hn).elim
        · exact (m_d3_no hn).elim
        · unfold m_d4 at hn
          split at hn
          case h_1 =>
            obtain ⟨q, -, hn⟩ := Option.bind_eq_some_iff.mp hn
            split at hn
            · split at hn
              · split at hn
                · obtain ⟨_, _, hn⟩ := Option.bind_eq_some_iff.mp hn
                  cases hn
                · cases hn
              · cases hn
            · cases (m_cl1_some hn).1
          case h_2 =>
            obtain ⟨q, -, hn⟩ := Option.bind_eq_some_iff.mp hn
            cases (m_cl1_some hn).1
          case h_3 =>
            obtain ⟨q, -, hn⟩ := Option.bind_eq_some_iff.mp hn
            split at hn
            · split at hn
              · split at hn <;> cases hn
              · cases hn
            · cases (m_cl1_some hn).1
          case h_4 =>
            split at hn
            · rename_i hrk
              cases hn
              exact fin pc _ ls H locs cells slots (Or.inl ⟨rfl, _, rfl⟩) hd hI hrk
            · cases hn
          case h_5 =>
            split at hn
            · rename_i hrk
              cases hn
              exact fin pc _ ls H locs cells slots (Or.inr (Or.inl ⟨rfl, _, rfl⟩)) hd hI hrk
            · cases hn
          case h_6 =>
            split at hn
            · rename_i hrk
              cases hn
              exact fin pc _ ls H locs cells slots (Or.inr (Or.inr (Or.inl ⟨rfl, Or.inl ⟨_, rfl⟩⟩))) hd hI hrk
            · cases hn
          case h_7 =>
            split at hn
            · rename_i hrk
              cases hn
              exact fin pc _ ls H locs cells slots (Or.inr (Or.inr (Or.inl ⟨rfl, Or.inr rfl⟩))) hd hI hrk
            · cases hn
          case h_8 =>
            split at hn
            · rename_i hrk
              cases hn
              exact fin pc _ ls H locs cells slots (Or.inr (Or.inr (Or.inr ⟨rfl, rfl⟩))) hd hI hrk
            · cases hn
          case h_9 => cases hn
