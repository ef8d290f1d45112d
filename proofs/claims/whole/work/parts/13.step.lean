-- one step of the cells' instructions
def m_Tab : Prop := m_T8 ∧ m_T3 ∧ m_TC ∧ m_TG ∧ m_TL ∧ m_TD ∧ m_TA
section SD7
variable {p : Program} {l : Launch} {e : Env} {R : Room} {s : State} {m : MethodId} {args : Array Value} {below : List Frame} {meth : Method} {c : Code} {H : Heap} {locs : List Loc} {cells slots : Nat} {Q : State → Prop}
variable {x : m_X} {b : Nat} {eA : Nat → Nat} {D : va_G} {cA : Nat → ClassId} {N0 S0 : Nat} {σ : m_H} {k pc : Nat} {ls : Array Slot} {rest : List Value}
theorem m_newi (hF : m_F k p s m args meth c) (hEx : m_Ex x b eA D cA s) (hI : m_I b eA D cA N0 S0 σ s H locs cells slots) (hTA : m_TA) {at9 : ArrayType} (hd : decode (m_CD k) pc = .ok (.newarray at9, 2)) {n : Int32} (hn : ¬ n < 0) (hbs : n.toNatClampNeg ≤ 100000) (hl : σ.length < 900) {E : m_E}
    (hE : (at9 = .int ∧ E = .inl (0, n.toNatClampNeg, .inl fun _ => 0)) ∨ (at9 = .long ∧ E = .inl (1, n.toNatClampNeg, .inr (.inl fun _ => 0))) ∨ (at9 = .boolean ∧ E = .inl (2, n.toNatClampNeg, .inl fun _ => 0)))
    (hR : (σ ++ ([E] : m_H)).length ≤ N0 + R.cells ∧ m_slt (σ ++ [E]) ≤ S0 + R.slots)
    (kk : ∀ (H1 : Heap) (locs1 : List Loc) (cells1 slots1 : Nat), m_I b eA D cA N0 S0 (σ ++ [E]) s H1 locs1 cells1 slots1 → W p l e R s m args below meth c H1 locs1 cells1 slots1 Q (F0 m (pc + 2) ls (.ref (m_ad b eA σ.length) :: rest))) : W p l e R s m args below meth c H locs cells slots Q (F0 m pc ls (.int n :: rest)) := by
  obtain ⟨a1, a2, a3, -⟩ := hTA
  rcases hE with ⟨rfl, rfl⟩ | ⟨rfl, rfl⟩ | ⟨rfl, rfl⟩
  · exact m_newa hF hEx hI hd (t := 0) (ty := .int) rfl rfl (fun C h => by cases h) a1 (fun _ => rfl) rfl rfl hn (by show _ * 4 ≤ _; omega) (by omega) hR kk
  · exact m_newa hF hEx hI hd (t := 1) (ty := .long) rfl rfl (fun C h => by cases h) a2 (fun _ => rfl) rfl rfl hn (by show _ * 8 ≤ _; omega) (by omega) hR kk
  · exact m_newa hF hEx hI hd (t := 2) (ty := .boolean) rfl rfl (fun C h => by cases h) a3 (fun _ => rfl) rfl rfl hn (by show _ * 1 ≤ _; omega) (by omega) hR kk
set_option maxHeartbeats 4000000 in
theorem m_sd3 (hT : m_Tab) {i : Instr} {len j : Nat} {L : m_L} {st : List Value} {pc' : Nat} {L' : m_L} {st' : List Value} {σ' : m_H} (hF : m_F k p s m args meth c) (hEx : m_Ex x b eA D cA s) (hI : m_I b eA D cA N0 S0 σ s H locs cells slots) (hd : decode (m_CD k) pc = .ok (i, m_ln i len)) (hok : m_okI k pc i len j = true)
    (h : m_d3 x i j pc L st σ = some (.inl (pc', L', st', σ'))) (hR : σ'.length ≤ N0 + R.cells ∧ m_slt σ' ≤ S0 + R.slots) :
    L' = L ∧ ((∀ (H1 : Heap) (locs1 : List Loc) (cells1 slots1 : Nat), m_I b eA D cA N0 S0 σ' s H1 locs1 cells1 slots1 → W p l e R s m args below meth c H1 locs1 cells1 slots1 Q (F0 m pc' ls (st'.map (m_tv (m_ad b eA))))) → W p l e R s m args below meth c H locs cells slots Q (F0 m pc ls (st.map (m_tv (m_ad b eA))))) := by
  obtain ⟨-, hT3, hTC, hTG, hTL, hTD, hTA⟩ := hT
  have hok0 := hok
  simp only [m_okI, Bool.and_eq_true] at hok
  obtain ⟨-, hok⟩ := hok
  unfold m_d3 at h
  split at h
  case h_1 =>
    rename_i idx o st
    obtain ⟨q, hq, h⟩ := Option.bind_eq_some_iff.mp h
    simp only [hq, Option.any_some] at hok
    split at h
    · rename_i h100
      split at h
      · rename_i ho
        obtain ⟨i9, hi9, rfl⟩ : ∃ i9 : Nat, i9 < 2 ∧ o = 1000 + (2 + i9) := by
          rcases ho with rfl | rfl
          · exact ⟨0, by omega, rfl⟩
          · exact ⟨1, by omega, rfl⟩
        split at h
        · rename_i h0
          obtain ⟨rfl, rfl, rfl, rfl⟩ := m_go_eq h
          refine ⟨rfl, fun kk => ?_⟩
          have kk := kk _ _ _ _ hI
          show W p l e R s m args below meth c H locs cells slots Q (F0 m pc ls (.ref (m_ad b eA (1000 + (2 + i9))) :: _))
          rw [m_ad_ge]
          refine m_getX hF hEx hI hT3 hd hq hok h100 hi9 (fun _ => ?_) (fun z => by omega)
          have kk : W p l e R s m args below meth c H locs cells slots Q (F0 m (pc + 3) ls (.ref (m_ad b eA (1000 + (2 + i9) + 2)) :: _)) := kk
          rw [show (1000 + (2 + i9) + 2 : Nat) = 1000 + (4 + i9) by omega, m_ad_ge] at kk
          exact kk
        · rename_i h0
          obtain ⟨rfl, rfl, rfl, rfl⟩ := m_go_eq h
          refine ⟨rfl, fun kk => ?_⟩
          have kk := kk _ _ _ _ hI
          show W p l e R s m args below meth c H locs cells slots Q (F0 m pc ls (.ref (m_ad b eA (1000 + (2 + i9))) :: _))
          rw [m_ad_ge]
          exact m_getX hF hEx hI hT3 hd hq hok h100 hi9 (fun z => absurd z h0) (fun _ => kk)
      · cases h
    · rename_i h100
      split at h
      · obtain ⟨v, hv, h⟩ := Option.bind_eq_some_iff.mp h
        obtain ⟨rfl, rfl, rfl, rfl⟩ := m_go_eq h
        refine ⟨rfl, fun kk => ?_⟩
        unfold m_fL at hv
        split at hv
        · rename_i hv1
          cases hv
          exact m_get hF hEx hI hT3 hTC hd hq hok h100 hv1 (kk _ _ _ _ hI)
        · cases hv
      · obtain ⟨v, hv, h⟩ := Option.bind_eq_some_iff.mp h
        obtain ⟨rfl, rfl, rfl, rfl⟩ := m_go_eq h
        refine ⟨rfl, fun kk => ?_⟩
        unfold m_fR at hv
        split at hv
        · rename_i hv1
          cases hv
          exact m_get hF hEx hI hT3 hTC hd hq hok h100 hv1 (kk _ _ _ _ hI)
        · cases hv
      · obtain ⟨v, hv, h⟩ := Option.bind_eq_some_iff.mp h
        obtain ⟨rfl, rfl, rfl, rfl⟩ := m_go_eq h
        refine ⟨rfl, fun kk => ?_⟩
        unfold m_fI at hv
        split at hv
        · rename_i hv1
          cases hv
          exact m_get hF hEx hI hT3 hTC hd hq hok h100 hv1 (kk _ _ _ _ hI)
        · cases hv
  case h_2 =>
    obtain ⟨q, hq, h⟩ := Option.bind_eq_some_iff.mp h
    split at h
    · rename_i htk
      obtain ⟨σ1, hp, h⟩ := Option.bind_eq_some_iff.mp h
      obtain ⟨rfl, rfl, rfl, rfl⟩ := m_go_eq h
      exact ⟨rfl, fun kk => m_put hF hEx hI hT3 hTC hd hok0 hq htk hp (fun H1 locs1 hI1 => kk _ _ _ _ hI1)⟩
    · cases h
  case h_3 =>
    obtain ⟨q, hq, h⟩ := Option.bind_eq_some_iff.mp h
    simp only [hq, Option.any_some] at hok
    split at h
    · rename_i h0
      obtain ⟨rfl, rfl, rfl, rfl⟩ := m_go_eq h
      exact ⟨rfl, fun kk => m_gst hF hEx hI hTG hd hq hok (fun _ => kk _ _ _ _ hI) (fun z => by omega) (fun z => by omega)⟩
    · rename_i h0
      obtain ⟨rfl, rfl, rfl, rfl⟩ := m_go_eq h
      refine ⟨rfl, fun kk => m_gst hF hEx hI hTG hd hq hok (fun z => by omega) (fun _ => ?_) (fun z => by omega)⟩
      have kk : W p l e R s m args below meth c H locs cells slots Q (F0 m (pc + 3) ls (.ref (m_ad b eA (1000 + 1)) :: _)) := kk _ _ _ _ hI
      rw [m_ad_ge] at kk
      exact kk
    · rename_i h0 h1
      obtain ⟨rfl, rfl, rfl, rfl⟩ := m_go_eq h
      exact ⟨rfl, fun kk => m_gst hF hEx hI hTG hd hq hok (fun z => absurd z h0) (fun z => absurd z h1) (fun _ => kk _ _ _ _ hI)⟩
  case h_4 =>
    obtain ⟨v, hv, h⟩ := Option.bind_eq_some_iff.mp h
    obtain ⟨rfl, rfl, rfl, rfl⟩ := m_go_eq h
    exact ⟨rfl, fun kk => m_iald hF hEx hI hd hv (kk _ _ _ _ hI)⟩
  case h_5 =>
    obtain ⟨v, hv, h⟩ := Option.bind_eq_some_iff.mp h
    obtain ⟨rfl, rfl, rfl, rfl⟩ := m_go_eq h
    exact ⟨rfl, fun kk => m_bald hF hEx hI hd hv (kk _ _ _ _ hI)⟩
  case h_6 =>
    obtain ⟨v, hv, h⟩ := Option.bind_eq_some_iff.mp h
    obtain ⟨rfl, rfl, rfl, rfl⟩ := m_go_eq h
    exact ⟨rfl, fun kk => m_lald hF hEx hI hd hv (kk _ _ _ _ hI)⟩
  case h_7 =>
    obtain ⟨v, hv, h⟩ := Option.bind_eq_some_iff.mp h
    obtain ⟨rfl, rfl, rfl, rfl⟩ := m_go_eq h
    exact ⟨rfl, fun kk => m_aald hF hEx hI hd hv (kk _ _ _ _ hI)⟩
  case h_8 =>
    obtain ⟨v, hv, h⟩ := Option.bind_eq_some_iff.mp h
    obtain ⟨rfl, rfl, rfl, rfl⟩ := m_go_eq h
    exact ⟨rfl, fun kk => m_alen hF hEx hI hd hv (kk _ _ _ _ hI)⟩
  case h_9 =>
    obtain ⟨v, hv, h⟩ := Option.bind_eq_some_iff.mp h
    obtain ⟨rfl, rfl, rfl, rfl⟩ := m_go_eq h
    exact ⟨rfl, fun kk => m_iast hF hEx hI hd hv (fun H1 locs1 hI1 => kk _ _ _ _ hI1)⟩
  case h_10 =>
    obtain ⟨v, hv, h⟩ := Option.bind_eq_some_iff.mp h
    obtain ⟨rfl, rfl, rfl, rfl⟩ := m_go_eq h
    exact ⟨rfl, fun kk => m_bast hF hEx hI hd hv (fun H1 locs1 hI1 => kk _ _ _ _ hI1)⟩
  case h_11 =>
    obtain ⟨v, hv, h⟩ := Option.bind_eq_some_iff.mp h
    obtain ⟨rfl, rfl, rfl, rfl⟩ := m_go_eq h
    exact ⟨rfl, fun kk => m_last hF hEx hI hd hv (fun H1 locs1 hI1 => kk _ _ _ _ hI1)⟩
  case h_12 =>
    obtain ⟨v, hv, h⟩ := Option.bind_eq_some_iff.mp h
    obtain ⟨rfl, rfl, rfl, rfl⟩ := m_go_eq h
    exact ⟨rfl, fun kk => m_aast hF hEx hI hd hv (fun H1 locs1 hI1 => kk _ _ _ _ hI1)⟩
  case h_13 =>
    obtain ⟨q, hq, h⟩ := Option.bind_eq_some_iff.mp h
    simp only [hq, Option.any_some] at hok
    split at h
    · rename_i hl
      obtain ⟨rfl, rfl, rfl, rfl⟩ := m_go_eq h
      exact ⟨rfl, fun kk => m_new hF hEx hI hTL hTC hd hq hok (by omega) hR (fun H1 locs1 c1 s1 hI1 => kk _ _ _ _ hI1)⟩
    · cases h
  case h_14 =>
    split at h
    · rename_i hl
      obtain ⟨hl, hn, hbs⟩ := hl
      split at h
      · obtain ⟨rfl, rfl, rfl, rfl⟩ := m_go_eq h
        exact ⟨rfl, fun kk => m_newi hF hEx hI hTA hd hn hbs hl (Or.inl ⟨rfl, rfl⟩) hR (fun H1 locs1 c1 s1 hI1 => kk _ _ _ _ hI1)⟩
      · obtain ⟨rfl, rfl, rfl, rfl⟩ := m_go_eq h
        exact ⟨rfl, fun kk => m_newi hF hEx hI hTA hd hn hbs hl (Or.inr (Or.inl ⟨rfl, rfl⟩)) hR (fun H1 locs1 c1 s1 hI1 => kk _ _ _ _ hI1)⟩
      · obtain ⟨rfl, rfl, rfl, rfl⟩ := m_go_eq h
        exact ⟨rfl, fun kk => m_newi hF hEx hI hTA hd hn hbs hl (Or.inr (Or.inr ⟨rfl, rfl⟩)) hR (fun H1 locs1 c1 s1 hI1 => kk _ _ _ _ hI1)⟩
      · cases h
    · cases h
  case h_15 =>
    simp only [Bool.and_eq_true, beq_iff_eq] at hok
    split at h
    · rename_i hl
      obtain ⟨hl, hn, hbs⟩ := hl
      obtain ⟨rfl, rfl, rfl, rfl⟩ := m_go_eq h
      exact ⟨rfl, fun kk => m_anew hF hEx hI hTA hd hok.1 hok.2 hn hbs (by omega) hR (fun H1 locs1 c1 s1 hI1 => kk _ _ _ _ hI1)⟩
    · cases h
  case h_16 =>
    simp only [Bool.and_eq_true, beq_iff_eq] at hok
    obtain ⟨⟨hok1, hok2⟩, rfl⟩ := hok
    split at h
    · rename_i hl
      obtain ⟨hl, hn, hw, hbs⟩ := hl
      obtain ⟨rfl, rfl, rfl, rfl⟩ := m_go_eq h
      exact ⟨rfl, fun kk => m_mnew hF hEx hI hTA hd hok1 hok2 hn hw hbs hl hR (fun H1 locs1 c1 s1 hI1 => kk _ _ _ _ hI1)⟩
    · cases h
  case h_17 =>
    split at h
    · rename_i hj
      obtain ⟨q, hq, h⟩ := Option.bind_eq_some_iff.mp h
      simp only [hj, if_true, hq, Option.any_some] at hok
      obtain ⟨rfl, rfl, rfl, rfl⟩ := m_go_eq h
      exact ⟨rfl, fun kk => m_ldi hF hTD hd hq hok (kk _ _ _ _ hI)⟩
    · rename_i hj
      obtain ⟨q, hq, h⟩ := Option.bind_eq_some_iff.mp h
      simp only [hj, if_false, hq, Option.any_some] at hok
      obtain ⟨rfl, rfl, rfl, rfl⟩ := m_go_eq h
      exact ⟨rfl, fun kk => m_lds hF hEx hTD hd hq hok (kk _ _ _ _ hI)⟩
  case h_18 =>
    split at h
    · rename_i hj
      obtain ⟨q, hq, h⟩ := Option.bind_eq_some_iff.mp h
      simp only [hq, Option.any_some] at hok
      obtain ⟨rfl, rfl, rfl, rfl⟩ := m_go_eq h
      exact ⟨rfl, fun kk => m_ldw hF hTD hd hq hok (kk _ _ _ _ hI)⟩
    · cases h
  case h_19 =>
    obtain ⟨q, hq, h⟩ := Option.bind_eq_some_iff.mp h
    simp only [hq, Option.any_some] at hok
    obtain ⟨rfl, rfl, rfl, rfl⟩ := m_go_eq h
    exact ⟨rfl, fun kk => m_ldl hF hTD hd hq hok (kk _ _ _ _ hI)⟩
  case h_20 => cases h
end SD7
