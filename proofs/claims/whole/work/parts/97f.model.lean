-- making the model's object
theorem mi_step {k : Nat} {c : Int32} {fs : List Value} {s R : m_H} {e : m_E} (e' : m_E) {K : m_H → Option m_R} {r : Option m_R} (j : Nat) (hs : s.length = 149) (hl : R.length = j) (hj : j < 100) (hk : k < fs.length) (hc : ¬ c < (0 : Int32) ∧ c.toNatClampNeg ≤ 100000) (he : e = e') (nxt : K (s ++ (.inr (11, fs.set k (.ref (150 + j))) :: (R ++ [e']))) = r) : (if (s ++ (.inr (11, fs) :: R)).length < 900 ∧ ¬ c < (0 : Int32) ∧ c.toNatClampNeg ≤ 100000 then ((m_pf ((s ++ (.inr (11, fs) :: R)) ++ [e]) 11 k 149 (.ref (s ++ (.inr (11, fs) :: R)).length)).bind K) else none) = r := by
  subst he
  have l : (s ++ (.inr (11, fs) :: R : m_H)).length = 150 + j := by rw [List.length_append, List.length_cons, hs, hl]; omega
  rw [l, if_pos ⟨by omega, hc⟩, List.append_assoc, pf_app (j := 0) fs (by omega) (by omega) rfl hk, Option.bind_some]
  exact nxt
theorem mi_pf {k : Nat} {v : Value} {fs : List Value} {s R : m_H} {K : m_H → Option m_R} {r : Option m_R} (hs : s.length = 149) (hk : k < fs.length) (nxt : K (s ++ (.inr (11, fs.set k v) :: R)) = r) : ((m_pf (s ++ (.inr (11, fs) :: R)) 11 k 149 v).bind K) = r := by
  rw [pf_app (j := 0) fs (by omega) (by omega) rfl hk, Option.bind_some]
  exact nxt
def bM : Fn := u (u Z0 10 139) 2 (-1)
def om (i : Int) : Fn := fun z => if 168 ≤ z ∧ z < 168 + i then 1 else bM z
theorem om_0 : om 0 = bM := by
  funext z
  unfold om
  rw [if_neg (by omega)]
theorem om_s {i : Int} (h : 0 ≤ i) : u (om i) (168 + i) 1 = om (i + 1) := by
  funext z
  unfold u om
  by_cases q : z = 168 + i
  · rw [if_pos q, if_pos (by omega)]
  · rw [if_neg q]
    by_cases q2 : 168 ≤ z ∧ z < 168 + i
    · rw [if_pos q2, if_pos (by omega)]
    · rw [if_neg q2, if_neg (by omega)]
theorem bM_z {z : Int} (h : ¬ z = 10) (h2 : ¬ z = 2) : bM z = 0 := by
  unfold bM
  rw [u_ne _ _ h2, u_ne _ _ h]
theorem om_z {z : Int} (h : ¬ z = 10) (h2 : ¬ z = 2) (h3 : z < 168 ∨ 180 ≤ z) : om 12 z = 0 := by
  unfold om
  rw [if_neg (by omega), bM_z h h2]
theorem om_1 {z : Int} (h : 168 ≤ z) (h2 : z < 180) : om 12 z = 1 := by
  unfold om
  rw [if_pos (by omega)]
theorem om_10 : om 12 10 = 139 := by
  unfold om bM
  rw [if_neg (by omega), u_ne _ _ (by omega), u_eq]
theorem om_2 : om 12 2 = -1 := by
  unfold om bM
  rw [if_neg (by omega), u_eq]
theorem om_cp : cp (om 12) Z0 0 0 11730 = om 12 := by
  funext z
  unfold cp
  by_cases q : 0 ≤ z ∧ z < 0 + 11730
  · rw [if_pos q, show 0 + (z - 0) = z by omega]
  · rw [if_neg q, om_z (by omega) (by omega) (by omega)]
def fj : Nat → Fn := sA (sA fi 150 (om 12)) 151 (om 12)
section
variable (x : m_X)
theorem M_ones : ∀ (k : Nat) (i : Int), 0 ≤ i → i + k = 12 → m_D x 2 k_M_init 192 [some (.ref 149), some (.int (jI i))] [] (mk (sA fi 150 (om i)) gi) = some (none, mk fj gi) := by
  intro k
  induction k with
  | zero =>
    intro i i0 hk
    have e : i = 12 := by omega
    rw [e, E_M_init_192 x 2 (by omega), lit_12, if_pos (by rw [jI_le (by omega) (by omega) (by omega) (by omega)]; omega), fR_149_0, Option.bind_some, fR_149_1, Option.bind_some, M_copy x _ _ (Or.inl ⟨rfl, rfl⟩), b_V, sA_eq, sA_ne _ _ (by decide), fi_z (by decide), om_cp]
    rfl
  | succ k ih =>
    intro i i0 hk
    rw [E_M_init_192 x 2 (by omega), lit_12, if_neg (by rw [jI_le (by omega) (by omega) (by omega) (by omega)]; omega), fR_149_0, Option.bind_some, lit_168, lit_1, jI_add 168 i, is_150 _ _ _ (by omega) (by omega), Option.bind_some, sA_eq, sA_sA, om_s i0, jI_add i 1]
    exact ih (i + 1) (by omega) (by omega)
theorem M_end : ((m_fR (mk fi gi) 11 0 149).bind fun v174 => (m_is (mk fi gi) v174 10 139).bind fun s182 => (m_fR s182 11 0 149).bind fun v184 => (m_is s182 v184 2 (-1)).bind fun s189 => m_D x 2 k_M_init 192 [some (.ref 149), some (.int 0)] [] s189) = some (none, mk fj gi) := by
  have h := M_ones x 12 0 (by omega) (by omega)
  rw [om_0] at h
  rw [fR_149_0, Option.bind_some, lit_10, lit_139, is_150 _ _ _ (by omega) (by omega), Option.bind_some, fR_149_0, Option.bind_some, lit_2, show (-1 : Int32) = jI (-1) from rfl, is_150 _ _ _ (by omega) (by omega), Option.bind_some, sA_eq, sA_sA, fi_z (by decide), lit_0]
  exact h
theorem I_Model : m_M x k_M_init [.ref 149] (hC ++ [.inr (11, m_nf 11)]) = some (none, mk fj gi) := by
  have h := M_end x
  rw [← H_mk] at h
  rw [E_M_init]
  refine mi_step (fs := m_nf 11) (s := hC) (R := []) (zr 11730) 0 lhC rfl (by omega) (by decide) ⟨by decide, by decide⟩ rfl ?_
  refine mi_step (s := hC) (zr 11730) 1 lhC rfl (by omega) (by simp only [List.length_set]; decide) ⟨by decide, by decide⟩ rfl ?_
  refine mi_step (s := hC) (zr 3012) 2 lhC rfl (by omega) (by simp only [List.length_set]; decide) ⟨by decide, by decide⟩ rfl ?_
  refine mi_step (s := hC) (zr 300) 3 lhC rfl (by omega) (by simp only [List.length_set]; decide) ⟨by decide, by decide⟩ rfl ?_
  refine mi_pf (s := hC) lhC (by simp only [List.length_set]; decide) ?_
  refine mi_pf (s := hC) lhC (by simp only [List.length_set]; decide) ?_
  refine mi_step (s := hC) (zr 160) 4 lhC rfl (by omega) (by simp only [List.length_set]; decide) ⟨by decide, by decide⟩ rfl ?_
  refine mi_step (s := hC) (zr 14) 5 lhC rfl (by omega) (by simp only [List.length_set]; decide) ⟨by decide, by decide⟩ rfl ?_
  refine mi_step (s := hC) (zl 330) 6 lhC rfl (by omega) (by simp only [List.length_set]; decide) ⟨by decide, by decide⟩ rfl ?_
  refine mi_step (s := hC) (zb 330) 7 lhC rfl (by omega) (by simp only [List.length_set]; decide) ⟨by decide, by decide⟩ rfl ?_
  refine mi_pf (s := hC) lhC (by simp only [List.length_set]; decide) ?_
  refine mi_step (s := hC) (zr 7) 8 lhC rfl (by omega) (by simp only [List.length_set]; decide) ⟨by decide, by decide⟩ rfl ?_
  refine mi_step (s := hC) (zr 112) 9 lhC rfl (by omega) (by simp only [List.length_set]; decide) ⟨by decide, by decide⟩ rfl ?_
  refine mi_step (s := hC) (zr 12) 10 lhC rfl (by omega) (by simp only [List.length_set]; decide) ⟨by decide, by decide⟩ rfl ?_
  refine mi_step (s := hC) (zr 128) 11 lhC rfl (by omega) (by simp only [List.length_set]; decide) ⟨by decide, by decide⟩ rfl ?_
  refine mi_step (s := hC) (zr 128) 12 lhC rfl (by omega) (by simp only [List.length_set]; decide) ⟨by decide, by decide⟩ rfl ?_
  refine mi_step (s := hC) (zr 7) 13 lhC rfl (by omega) (by simp only [List.length_set]; decide) ⟨by decide, by decide⟩ rfl ?_
  refine mi_step (s := hC) (zr 7) 14 lhC rfl (by omega) (by simp only [List.length_set]; decide) ⟨by decide, by decide⟩ rfl ?_
  refine mi_step (s := hC) (zr 896) 15 lhC rfl (by omega) (by simp only [List.length_set]; decide) ⟨by decide, by decide⟩ rfl ?_
  refine mi_step (s := hC) (zl 10) 16 lhC rfl (by omega) (by simp only [List.length_set]; decide) ⟨by decide, by decide⟩ rfl ?_
  refine mi_step (s := hC) (zl 10) 17 lhC rfl (by omega) (by simp only [List.length_set]; decide) ⟨by decide, by decide⟩ rfl ?_
  exact h
/-- both objects made: the law stands before its loop -/
theorem L_made : m_M x k_L_law [.ref 1000] [] = m_D x 100 k_L_law 18 [some (.ref 1000), some (.ref 0), some (.ref 149), some (.int (jI 0))] [] (mk fj gi) := by
  have hc : m_M x k_G_init [.ref 0] [.inr (10, m_nf 10)] = some (none, hC) := I_Class x
  rw [E_L_law, if_pos (by decide), List.nil_append, show (([] : m_H).length) = 0 from rfl, hc, b_V, lhC, if_pos (by omega), I_Model, b_V, lit_0]
end
