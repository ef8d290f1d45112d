section SD6
variable {p : Program} {l : Launch} {e : Env} {R : Room} {s : State} {m : MethodId} {args : Array Value} {below : List Frame} {meth : Method} {c : Code} {H : Heap} {locs : List Loc} {cells slots : Nat} {Q : State → Prop}
variable {x : m_X} {b : Nat} {eA : Nat → Nat} {D : va_G} {cA : Nat → ClassId} {N0 S0 : Nat} {σ : m_H} {k pc : Nat} {ls : Array Slot} {rest : List Value}
def m_mrow (n : Nat) (i0 : Nat) : m_E := .inl (4, n, .inr (.inr (.inr (.inr fun i => if i < n then some (i0 + 1 + i) else none))))
theorem m_mnew (hF : m_F k p s m args meth c) (hEx : m_Ex x b eA D cA s) (hI : m_I b eA D cA N0 S0 σ s H locs cells slots) (hTA : m_TA) {idx : Nat} (hd : decode (m_CD k) pc = .ok (.multianewarray idx 2, 4)) (hcn : m_CN k = "LeftGlove$Steps") (hix : idx = 13) {n w : Int32} (hn : ¬ n < 0) (hw : ¬ w < 0) (hbs : w.toNatClampNeg ≤ 100000) (hl : σ.length + n.toNatClampNeg < 900)
    (hR : (σ ++ (m_mrow n.toNatClampNeg σ.length :: List.replicate n.toNatClampNeg (.inl (0, w.toNatClampNeg, .inl fun _ => 0)) : m_H)).length ≤ N0 + R.cells ∧ m_slt (σ ++ (m_mrow n.toNatClampNeg σ.length :: List.replicate n.toNatClampNeg (.inl (0, w.toNatClampNeg, .inl fun _ => 0)) : m_H)) ≤ S0 + R.slots)
    (kk : ∀ (H1 : Heap) (locs1 : List Loc) (cells1 slots1 : Nat), m_I b eA D cA N0 S0 (σ ++ m_mrow n.toNatClampNeg σ.length :: List.replicate n.toNatClampNeg (.inl (0, w.toNatClampNeg, .inl fun _ => 0))) s H1 locs1 cells1 slots1 → W p l e R s m args below meth c H1 locs1 cells1 slots1 Q (F0 m (pc + 4) ls (.ref (m_ad b eA σ.length) :: rest))) : W p l e R s m args below meth c H locs cells slots Q (F0 m pc ls (.int w :: .int n :: rest)) := by
  obtain ⟨hx, hb, -, hown, hts, -, -, -⟩ := hF
  obtain ⟨a1, -, -, -, a5, -⟩ := hTA
  obtain ⟨i1, i2, i3, i4, i5, i6, i7⟩ := id hI
  subst hix
  rw [hcn] at hown
  generalize hN : n.toNatClampNeg = N at *
  generalize hM : w.toNatClampNeg = M at *
  obtain ⟨r1, r2⟩ := hR
  rw [List.length_append, List.length_cons, List.length_replicate] at r1
  have hslt : m_slt (m_mrow N σ.length :: List.replicate N (.inl (0, M, .inl fun _ => 0))) = N + N * M := by
    simp [m_slt, m_sz, m_mrow]
  rw [m_slt_app, hslt] at r2
  have h9 := m_mulW (Q := Q) hx hown (hts _ a5) (m_AOA.use hEx.2.2.2.2.2.2.2.2) (hts _ a1) (g := F0 m pc ls (.int w :: .int n :: rest)) rfl (by rw [hb]; exact hd) rfl hn hw hN hM (H := H) (locs := locs) (cells := cells) (slots := slots) (l := l) (e := e) (R := R) (below := below) (meth := meth) (by omega) (by omega) (by omega) (by omega)
  refine h9 (fun c4 c0 H1 n4 n0 z1 z2 z3 z4 => ?_)
  have hc0 : c0 = cA 0 := by
    have k1 : s.vm.findClass ("[" ++ FieldType.int.toString) = some (cA 0) := (hEx.1.2 0 _ (rfl : (m_tys cA)[0]? = some (cA 0, .int))).2
    exact Option.some.inj (n0.symm.trans k1)
  have hc4 : c4 = cA 4 := by
    have k1 : s.vm.findClass ("[" ++ (FieldType.array .int).toString) = some (cA 4) := (hEx.1.2 4 _ (rfl : (m_tys cA)[4]? = some (cA 4, .array .int))).2
    exact Option.some.inj (n4.symm.trans k1)
  subst hc0
  subst hc4
  have hP1 : va_P D vwCl (m_w (m_ad b eA) cA (σ ++ m_mrow N σ.length :: List.replicate N (.inl (0, M, .inl fun _ => 0)))) H1 := by
    intro i q hq
    obtain ⟨E, h1, rfl⟩ := m_w_some hq
    rcases Nat.lt_trichotomy i σ.length with hi | hi | hi
    · rw [List.getElem?_append_left hi] at h1
      exact (i1 i _ (m_w_get h1)).kept (z3 _ (i1 i _ (m_w_get h1)).lt)
    · subst hi
      rw [List.getElem?_append_right (Nat.le_refl _), Nat.sub_self, List.getElem?_cons_zero] at h1
      cases h1
      show H1[m_ad b eA σ.length]? = some (arrV (cA 4) N (fun j => va_rf ((if j < N then some (σ.length + 1 + j) else none).map (m_ad b eA))))
      rw [m_ad_lt (by omega), ← i2, z2]
      unfold m_mro
      congr 2
      funext j
      split
      · show va_rf (some (H.size + 1 + j)) = va_rf (some (m_ad b eA (σ.length + 1 + j)))
        rw [m_ad_lt (by omega), i2]
        congr 2
        omega
      · rfl
    · rw [List.getElem?_append_right (by omega)] at h1
      obtain ⟨j, hj⟩ : ∃ j, i - σ.length = j + 1 := ⟨i - σ.length - 1, by omega⟩
      rw [hj, List.getElem?_cons_succ, List.getElem?_replicate] at h1
      split at h1
      · rename_i hjN
        cases h1
        show H1[m_ad b eA i]? = some (arrV (cA 0) M fun _ => .int 0)
        rw [m_ad_lt (by omega), ← z4 j hjN, i2]
        congr 1
        omega
      · cases h1
  have hI1 : m_I b eA D cA N0 S0 (σ ++ m_mrow N σ.length :: List.replicate N (.inl (0, M, .inl fun _ => 0))) s H1 (locs ++ (List.range N).map fun j => ⟨H.size, j⟩) (cells + 1 + N) (slots + N + N * M) := by
    refine ⟨hP1, by rw [z1, List.length_append, List.length_cons, List.length_replicate]; omega, by rw [List.length_append, List.length_cons, List.length_replicate]; omega, i4, ⟨by rw [z1]; have := i5.1; omega, fun z h1 h2 => (z3 z (Nat.lt_of_lt_of_le h1 i5.1)).trans (i5.2.1 z h1 h2), fun q hq => ?_⟩, by rw [List.length_append, List.length_cons, List.length_replicate]; omega, by rw [m_slt_app, hslt]; omega⟩
    rcases List.mem_append.mp hq with hq | hq
    · exact i5.2.2 q hq
    · obtain ⟨j, -, rfl⟩ := List.mem_map.mp hq
      show b ≤ H.size
      omega
  have e9 : H.size = m_ad b eA σ.length := by rw [m_ad_lt (by omega), i2]
  refine W.eq (g2 := F0 m (pc + 4) ls (.ref (m_ad b eA σ.length) :: rest)) ?_ (kk H1 _ _ _ hI1)
  rw [← e9]
theorem m_ldi (hF : m_F k p s m args meth c) (hTD : m_TD) {idx j : Nat} {q : Nat × Nat × Int32} (hd : decode (m_CD k) pc = .ok (.ldc idx, 2)) (hq : m_ld[j]? = some q) (ho : m_own k idx q.1 q.2.1 = true)
    (kk : W p l e R s m args below meth c H locs cells slots Q (F0 m (pc + 2) ls (.int q.2.2 :: rest))) : W p l e R s m args below meth c H locs cells slots Q (F0 m pc ls rest) := by
  obtain ⟨hx, hb, -, hown, hts, -, -, -⟩ := hF
  obtain ⟨e1, e2⟩ := m_own_eq ho
  have h2 := hTD.1 j q hq
  rw [e1, e2] at h2
  exact lv_ldc hx hb hown (hts _ h2) hd kk
theorem m_ldw (hF : m_F k p s m args meth c) (hTD : m_TD) {idx j : Nat} {q : Nat × Nat × Int32} (hd : decode (m_CD k) pc = .ok (.ldc_w idx, 3)) (hq : m_ld[j]? = some q) (ho : m_own k idx q.1 q.2.1 = true)
    (kk : W p l e R s m args below meth c H locs cells slots Q (F0 m (pc + 3) ls (.int q.2.2 :: rest))) : W p l e R s m args below meth c H locs cells slots Q (F0 m pc ls rest) := by
  obtain ⟨hx, hb, -, hown, hts, -, -, -⟩ := hF
  obtain ⟨e1, e2⟩ := m_own_eq ho
  have h2 := hTD.1 j q hq
  rw [e1, e2] at h2
  exact lv_ldcw hx hb hown (hts _ h2) hd kk
theorem m_ldl (hF : m_F k p s m args meth c) (hTD : m_TD) {idx j : Nat} {q : Nat × Nat × Int64} (hd : decode (m_CD k) pc = .ok (.ldc2_w idx, 3)) (hq : m_ll[j]? = some q) (ho : m_own k idx q.1 q.2.1 = true)
    (kk : W p l e R s m args below meth c H locs cells slots Q (F0 m (pc + 3) ls (.long q.2.2 :: rest))) : W p l e R s m args below meth c H locs cells slots Q (F0 m pc ls rest) := by
  obtain ⟨hx, hb, -, hown, hts, -, -, -⟩ := hF
  obtain ⟨e1, e2⟩ := m_own_eq ho
  have h2 := hTD.2.1 j q hq
  rw [e1, e2] at h2
  exact lv_ldc2 hx hb hown (hts _ h2) hd kk
theorem m_lds (hF : m_F k p s m args meth c) (hEx : m_Ex x b eA D cA s) (hTD : m_TD) {idx j : Nat} {q : Nat × Nat × Nat} (hd : decode (m_CD k) pc = .ok (.ldc idx, 2)) (hq : m_ls[j]? = some q) (ho : m_own k idx q.1 q.2.1 = true)
    (kk : W p l e R s m args below meth c H locs cells slots Q (F0 m (pc + 2) ls (.ref (m_ad b eA (1002 + q.2.2)) :: rest))) : W p l e R s m args below meth c H locs cells slots Q (F0 m pc ls rest) := by
  obtain ⟨hx, hb, -, hown, hts, -, -, -⟩ := hF
  obtain ⟨e1, e2⟩ := m_own_eq ho
  obtain ⟨h1, h2⟩ := hTD.2.2 j q hq
  rw [← e1, h1] at hown
  obtain ⟨z1, z2⟩ := hEx.2.2.2.2.1
  rcases h2 with ⟨h2, h3⟩ | ⟨h2, h3⟩
  · rw [h3, show 1002 + 0 = 1000 + 2 from rfl, m_ad_ge] at kk
    rw [← e2, h2] at hd
    exact va_ldcS hx hb hown z1 hd kk
  · rw [h3, show 1002 + 1 = 1000 + 3 from rfl, m_ad_ge] at kk
    rw [← e2, h2] at hd
    exact va_ldcS hx hb hown z2 hd kk
end SD6
