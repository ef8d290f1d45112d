-- what holds of the objects just made
theorem w0_z {z : Int} (h : ¬ z = 24) : u Z0 24 139 z = 0 := by
  rw [u_ne _ _ h]
theorem w0_WI : WI (u Z0 24 139) := by
  unfold WI
  refine ⟨?_, ?_, ?_, ?_, ?_⟩
  · rw [w0_z (z := 0) (by omega), w0_z (z := 22) (by omega), w0_z (z := 23) (by omega), u_eq, w0_z (z := 25) (by omega), w0_z (z := 26) (by omega)]
    omega
  · intro p p0 p1
    rw [w0_z (z := 1 + p) (by omega), w0_z (z := 8 + p) (by omega), w0_z (z := 15 + p) (by omega)]
    omega
  · intro g g0 g1
    rw [w0_z (z := 27 + g) (by omega), w0_z (z := 39 + g) (by omega), w0_z (z := 51 + g) (by omega), w0_z (z := 63 + g) (by omega), w0_z (z := 75 + g) (by omega), w0_z (z := 87 + g) (by omega), w0_z (z := 99 + g) (by omega)]
    omega
  · intro g g0 g1
    rw [w0_z (z := 25) (by omega)] at g1
    omega
  · intro i i0 i1
    rw [w0_z (z := 111 + i) (by omega)]
    omega
theorem w0_V {k : Int} (h : vok k) : u Z0 24 139 k = V (om 12) k := by
  unfold V
  rw [if_pos h]
  unfold vok at h
  by_cases q : k = 24
  · rw [q, u_eq, show io 24 = 10 from by decide, om_10]
  · rw [w0_z q]
    unfold io
    by_cases q0 : k = 0
    · rw [if_pos q0, om_z (by omega) (by omega) (by omega)]
    · rw [if_neg q0]
      by_cases q1 : k < 8
      · rw [if_pos q1, om_z (by omega) (by omega) (by omega)]
      · rw [if_neg q1]
        by_cases q2 : k < 22
        · rw [if_pos q2, om_z (by omega) (by omega) (by omega)]
        · rw [if_neg q2]
          by_cases q3 : k < 26
          · rw [if_pos q3, om_z (by omega) (by omega) (by omega)]
          · rw [if_neg q3, om_z (by omega) (by omega) (by omega)]
theorem w0_RR : RR (u Z0 24 139) (om 12) := by
  refine ⟨w0_WI, ⟨?_, ?_⟩, ?_⟩
  · intro k hk _
    exact w0_V hk
  · intro k k1 k8 _
    exact w0_z (by omega)
  · unfold RB
    rw [om_z (z := 12) (by omega) (by omega) (by omega), w0_z (z := 22) (by omega), w0_z (z := 26) (by omega)]
    refine ⟨by omega, by omega, by omega, ?_⟩
    intro i i0 i1
    omega
theorem fj_o {a : Nat} (h : ¬ a = 150) (h2 : ¬ a = 151) : fj a = fi a := by
  unfold fj
  rw [sA_ne _ _ h2, sA_ne _ _ h]
theorem fj_z {a : Nat} (h : ¬ (a = 2 ∨ a = 52 ∨ a = 102 ∨ a = 36 ∨ a = 86 ∨ a = 37 ∨ a = 87 ∨ a = 38 ∨ a = 88 ∨ a = 128 ∨ a = 149 ∨ a = 150 ∨ a = 151)) (z : Int) : fj a z = 0 := by
  rw [fj_o (by omega) (by omega), fi_z (by omega)]
theorem fj_150 : fj 150 = om 12 := by
  unfold fj
  rw [sA_ne _ _ (by omega), sA_eq]
theorem fj_151 : fj 151 = om 12 := by
  unfold fj
  rw [sA_eq]
theorem fj_RS {w s : Nat} (h : (w = 1 ∧ s = 3) ∨ (w = 51 ∧ s = 53)) : RS fj w s (om 12) := by
  have z : ∀ k, fj s k = 0 := fun k => fj_z (by omega) k
  have hw : fj (w + 1) = u Z0 24 139 := by rw [fj_o (by omega) (by omega), fi_W (by omega)]
  have a3 : om 12 3 = 0 := om_z (by omega) (by omega) (by omega)
  unfold RS
  refine ⟨?_, ?_, ?_, ?_⟩
  · rw [z 1, z 2, a3]
    omega
  · intro i i0 i1
    rw [z 2] at i1
    have e : i = 0 := by omega
    subst e
    unfold rowC rowM
    rw [z 2, a3, if_pos rfl, if_pos rfl, hw]
    exact w0_RR
  · intro i i0 i1
    rw [z 2] at i1
    omega
  · intro p p0 p1 _
    exact om_z (by omega) (by omega) (by omega)
theorem t0_7 : u Z0 8 (-1) 7 = 0 := by
  rw [u_ne _ _ (by omega)]
theorem fj_RT {t : Nat} (h : t = 36 ∨ t = 86) : RT fj t (om 12) := by
  have ht : fj t = u Z0 8 (-1) := by rw [fj_o (by omega) (by omega), fi_T (by omega)]
  have hh : fj (t + 2) = pr 12 := by rw [fj_o (by omega) (by omega), fi_H (by omega)]
  have z3 : fj (t + 3) 1 = 0 := fj_z (by omega) 1
  have z5 : fj (t + 5) 1 = 0 := fj_z (by omega) 1
  have z7 : fj (t + 7) 1 = 0 := fj_z (by omega) 1
  have z9 : fj (t + 9) 1 = 0 := fj_z (by omega) 1
  have z11 : fj (t + 11) 1 = 0 := fj_z (by omega) 1
  have z13 : fj (t + 13) 1 = 0 := fj_z (by omega) 1
  have o : ∀ k, k = 1 ∨ k = 4 ∨ k = 5 ∨ k = 6 ∨ k = 7 → om 12 k = 0 := fun k hk => om_z (by omega) (by omega) (by omega)
  refine ⟨?_, ?_, ?_, ?_, ?_, ?_⟩
  · unfold RT0
    rw [ht, t0_7, u_eq, o 1 (by omega), om_2]
    omega
  · intro g g0 g1
    rw [hh, om_1 (by omega) (by omega)]
    unfold pr
    rw [if_pos g1]
    omega
  · unfold RT2
    rw [z3, o 4 (by omega)]
    exact ⟨rfl, by omega, by omega, fun i i0 i1 => absurd i1 (by omega)⟩
  · unfold RT3
    rw [z5, o 5 (by omega)]
    exact ⟨rfl, by omega, by omega, fun i i0 i1 => absurd i1 (by omega)⟩
  · unfold RT4
    rw [z9, z7, o 6 (by omega)]
    exact ⟨rfl, rfl, by omega, by omega, fun i i0 i1 => absurd i1 (by omega)⟩
  · unfold RT5
    rw [z13, z11, o 7 (by omega)]
    exact ⟨rfl, rfl, by omega, by omega, fun i i0 i1 => absurd i1 (by omega)⟩
theorem fj_RD : RD fj := by
  have h1 : fj 128 = u (u Z0 3 (-1)) 4 (-1) := by rw [fj_o (by omega) (by omega), fi_128]
  have h2 : fj 149 = u (u (u Z0 5 (-1)) 6 (-1)) 23 1 := by rw [fj_o (by omega) (by omega), fi_149]
  have a2 : fj 128 2 = 0 := by rw [h1, u_ne _ _ (by omega), u_ne _ _ (by omega)]
  have a3 : fj 128 3 = -1 := by rw [h1, u_ne _ _ (by omega), u_eq]
  have a4 : fj 128 4 = -1 := by rw [h1, u_eq]
  have b4 : fj 149 4 = 0 := by rw [h2, u_ne _ _ (by omega), u_ne _ _ (by omega), u_ne _ _ (by omega)]
  have b5 : fj 149 5 = -1 := by rw [h2, u_ne _ _ (by omega), u_ne _ _ (by omega), u_eq]
  have b6 : fj 149 6 = -1 := by rw [h2, u_ne _ _ (by omega), u_eq]
  have b23 : fj 149 23 = 1 := by rw [h2, u_eq]
  unfold RD
  rw [a2, a3, a4, b4, b5, b6, b23]
  unfold rg
  exact ⟨rfl, by omega, by omega, rfl, rfl, by omega, by omega, rfl, fun i i0 i1 => absurd i1 (by omega)⟩
theorem fj_Rel : Rel fj := by
  have e36 : fj 36 7 = 0 := by rw [fj_o (by omega) (by omega), fi_T (by omega), u_ne _ _ (by omega)]
  have e86 : fj 86 7 = 0 := by rw [fj_o (by omega) (by omega), fi_T (by omega), u_ne _ _ (by omega)]
  unfold Rel
  rw [fj_150, fj_151, e36, e86]
  exact ⟨fj_RS (by omega), fj_RS (by omega), fj_RT (by omega), fj_RT (by omega), fj_RD, by omega, fun t h => absurd h (by omega)⟩
/-- how many fields and elements the heap has -/
def sz (a : Nat) : Nat := if (shp a).1 < 10 then (shp a).2.1 else (shp a).2.2.length
theorem m_sz_cell (F G : Nat → Fn) (a : Nat) : m_sz (mkc F G a) = sz a := by
  unfold mkc sz
  by_cases h0 : (shp a).1 = 0
  · rw [if_pos h0, if_pos (by omega)]
    rfl
  rw [if_neg h0]
  by_cases h1 : (shp a).1 = 1
  · rw [if_pos h1, if_pos (by omega)]
    rfl
  rw [if_neg h1]
  by_cases h2 : (shp a).1 = 2
  · rw [if_pos h2, if_pos (by omega)]
    rfl
  rw [if_neg h2]
  by_cases h3 : (shp a).1 < 10
  · rw [if_pos h3, if_pos h3]
    rfl
  · rw [if_neg h3, if_neg h3]
    show ((shp a).2.2.mapIdx _).length = _
    rw [List.length_mapIdx]
theorem sz_sum : ((List.range 168).map sz).sum ≤ 7302250 := by decide +kernel
theorem sz_list (F G : Nat → Fn) (l : List Nat) : ((l.map (mkc F G)).map m_sz).sum = (l.map sz).sum := by
  induction l with
  | nil => rfl
  | cons a l ih => rw [List.map_cons, List.map_cons, List.map_cons, List.sum_cons, List.sum_cons, ih, m_sz_cell]
theorem m_slt_mk (F G : Nat → Fn) : m_slt (mk F G) ≤ 7302250 := by
  unfold m_slt mk
  rw [sz_list]
  exact sz_sum
theorem law_all (x : m_X) (hx : x.1 ≤ 4096) (hX : x.2.2 = .null ∨ ∃ a, x.2.2 = .ref a) : m_law x := by
  have h0 := L_made x
  obtain ⟨F', G', h1, -⟩ := L_loop x hX hx 700 0 fj gi (by omega) (by omega) (by omega) fj_Rel
  rw [h1] at h0
  have h2 : m_M x k_L_law [.ref 1000] [] = m_D x 100 0 0 [some (.ref 1000), none, none, none] [] [] := e_M0 (L0 := [some (.ref 1000), none, none, none]) rfl (q_L_law _) rfl rfl
  rw [h2] at h0
  obtain ⟨n, hn⟩ := m_D_iff.mp h0
  exact ⟨n, mk F' G', hn, m_slt_mk F' G'⟩
