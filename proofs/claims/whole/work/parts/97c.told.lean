-- making what is told
def pr (i : Int) : Fn := fun z => if z < i then 1 else 0
theorem pr_0 : (fun k : Nat => jI (pr 0 (k : Int))) = fun _ => 0 := by
  funext k
  unfold pr
  rw [if_neg (by omega)]
  rfl
theorem pr_s (i : Int) : u (pr i) i 1 = pr (i + 1) := by
  funext z
  unfold u pr
  by_cases q : z = i
  · rw [if_pos q, if_pos (by omega)]
  · rw [if_neg q]
    by_cases q2 : z < i
    · rw [if_pos q2, if_pos (by omega)]
    · rw [if_neg q2, if_neg (by omega)]
def tlT (w : Nat) (i : Int) : m_H := [.inr (7, [.ref (w + 1), .null, .null, .null, .null, .null, .null, .int 0, .int 0]), .inr (4, [.ref (w + 2), .int (jI i)]), .inl (0, 12, .inl fun k : Nat => jI (pr i (k : Int)))]
def cT (w : Nat) : m_H := [.inr (7, [.ref (w + 1), .ref (w + 3), .ref (w + 5), .ref (w + 7), .ref (w + 9), .ref (w + 11), .ref (w + 13), .int 0, .int (jI (-1))]), .inr (4, [.ref (w + 2), .int (jI 12)]), .inl (0, 12, .inl fun k : Nat => jI (pr 12 (k : Int))), .inr (4, [.ref (w + 4), .int 0]), zr 8, .inr (4, [.ref (w + 6), .int 0]), zr 6, .inr (4, [.ref (w + 8), .int 0]), zr 6, .inr (4, [.ref (w + 10), .int 0]), zr 6, .inr (4, [.ref (w + 12), .int 0]), zr 8, .inr (4, [.ref (w + 14), .int 0]), zr 8]
def tlU (w : Nat) : Nat → m_H
  | 1 => [.inr (7, [.ref (w + 1), .ref (w + 3), .null, .null, .null, .null, .null, .int 0, .int 0]), .inr (4, [.ref (w + 2), .int (jI 12)]), .inl (0, 12, .inl fun k : Nat => jI (pr 12 (k : Int))), .inr (4, [.ref (w + 4), .int 0]), zr 8]
  | 2 => [.inr (7, [.ref (w + 1), .ref (w + 3), .ref (w + 5), .null, .null, .null, .null, .int 0, .int 0]), .inr (4, [.ref (w + 2), .int (jI 12)]), .inl (0, 12, .inl fun k : Nat => jI (pr 12 (k : Int))), .inr (4, [.ref (w + 4), .int 0]), zr 8, .inr (4, [.ref (w + 6), .int 0]), zr 6]
  | 3 => [.inr (7, [.ref (w + 1), .ref (w + 3), .ref (w + 5), .ref (w + 7), .null, .null, .null, .int 0, .int 0]), .inr (4, [.ref (w + 2), .int (jI 12)]), .inl (0, 12, .inl fun k : Nat => jI (pr 12 (k : Int))), .inr (4, [.ref (w + 4), .int 0]), zr 8, .inr (4, [.ref (w + 6), .int 0]), zr 6, .inr (4, [.ref (w + 8), .int 0]), zr 6]
  | 4 => [.inr (7, [.ref (w + 1), .ref (w + 3), .ref (w + 5), .ref (w + 7), .ref (w + 9), .null, .null, .int 0, .int 0]), .inr (4, [.ref (w + 2), .int (jI 12)]), .inl (0, 12, .inl fun k : Nat => jI (pr 12 (k : Int))), .inr (4, [.ref (w + 4), .int 0]), zr 8, .inr (4, [.ref (w + 6), .int 0]), zr 6, .inr (4, [.ref (w + 8), .int 0]), zr 6, .inr (4, [.ref (w + 10), .int 0]), zr 6]
  | 5 => [.inr (7, [.ref (w + 1), .ref (w + 3), .ref (w + 5), .ref (w + 7), .ref (w + 9), .ref (w + 11), .null, .int 0, .int 0]), .inr (4, [.ref (w + 2), .int (jI 12)]), .inl (0, 12, .inl fun k : Nat => jI (pr 12 (k : Int))), .inr (4, [.ref (w + 4), .int 0]), zr 8, .inr (4, [.ref (w + 6), .int 0]), zr 6, .inr (4, [.ref (w + 8), .int 0]), zr 6, .inr (4, [.ref (w + 10), .int 0]), zr 6, .inr (4, [.ref (w + 12), .int 0]), zr 8]
  | 6 => [.inr (7, [.ref (w + 1), .ref (w + 3), .ref (w + 5), .ref (w + 7), .ref (w + 9), .ref (w + 11), .ref (w + 13), .int 0, .int 0]), .inr (4, [.ref (w + 2), .int (jI 12)]), .inl (0, 12, .inl fun k : Nat => jI (pr 12 (k : Int))), .inr (4, [.ref (w + 4), .int 0]), zr 8, .inr (4, [.ref (w + 6), .int 0]), zr 6, .inr (4, [.ref (w + 8), .int 0]), zr 6, .inr (4, [.ref (w + 10), .int 0]), zr 6, .inr (4, [.ref (w + 12), .int 0]), zr 8, .inr (4, [.ref (w + 14), .int 0]), zr 8]
  | _ => []
section
variable (x : m_X)
theorem T_put {s : m_H} {w : Nat} {i : Int} (hw : s.length = w) (h : w < 700) (i0 : 0 ≤ i) (i1 : i < 12) : m_M x k_Row_put [.ref (w + 1), .int (jI 1)] (s ++ tlT w i) = some (some (.int (jI 1)), s ++ tlT w (i + 1)) := by
  rw [E_Row_put, isO_app (j := 1) [.ref (w + 2), .int (jI i)] (by omega) (by omega) rfl, if_pos rfl, fI_app (j := 1) (r := jI i) [.ref (w + 2), .int (jI i)] (by omega) (by omega) rfl rfl, Option.bind_some, show (0 : Int32) = jI 0 from rfl, if_neg (by rw [jI_lt (by omega) (by omega) (by omega) (by omega)]; omega), Option.bind_some, fR_app (j := 1) (r := w + 2) [.ref (w + 2), .int (jI i)] (by omega) (by omega) rfl rfl, Option.bind_some, len_app x (j := 2) (n := 12) (f := fun k : Nat => jI (pr i (k : Int))) (by omega) (by omega) rfl, Option.bind_some, show Int32.ofNat 12 = jI 12 from by decide, if_pos (by rw [jI_lt (by omega) (by omega) (by omega) (by omega)]; omega), Option.bind_some, Option.bind_some, is_app (j := 2) (n := 12) (pr i) (by omega) (by omega) rfl (by omega) i0 i1, Option.bind_some, fI_app (j := 1) (r := jI i) [.ref (w + 2), .int (jI i)] (by omega) (by omega) rfl rfl, Option.bind_some, show (1 : Int32) = jI 1 from rfl, jI_add, pf_app (j := 1) [.ref (w + 2), .int (jI i)] (by omega) (by omega) rfl (by first | decide | (simp only [List.length_set]; decide) | simp), Option.bind_some, pr_s]
  rfl
theorem T_loop {s : m_H} {w : Nat} (hw : s.length = w) (h : w < 700) : ∀ (k : Nat) (i : Int), 0 ≤ i → i + k = 12 → m_D x 3 k_Told_init 19 [some (.ref w), some (.int (jI i))] [] (s ++ tlT w i) = m_D x 3 k_Told_init 19 [some (.ref w), some (.int (jI 12))] [] (s ++ tlT w 12) := by
  intro k
  induction k with
  | zero =>
    intro i i0 hk
    have e : i = 12 := by omega
    rw [e]
  | succ k ih =>
    intro i i0 hk
    rw [E_Told_init_19 x 3 (by omega), show (12 : Int32) = jI 12 from by decide, if_neg (by rw [jI_le (by omega) (by omega) (by omega) (by omega)]; omega), fR_app (j := 0) (r := w + 1) [.ref (w + 1), .null, .null, .null, .null, .null, .null, .int 0, .int 0] (by omega) (by omega) rfl rfl, Option.bind_some, show (1 : Int32) = jI 1 from rfl, T_put x hw h i0 (by omega), b_I, jI_add]
    exact ih (i + 1) (by omega) (by omega)
theorem I_Told {s : m_H} {w : Nat} (hw : s.length = w) (h : w < 600) : m_M x k_Told_init [.ref w] (s ++ [.inr (7, m_nf 7)]) = some (none, s ++ cT w) := by
  have l1 : ∀ t : m_H, (s ++ t).length = w + t.length := by intro t; simp [hw]
  have row : ∀ (t : m_H) (v n : Nat), w + t.length = v → v < 800 → (n = 6 ∨ n = 8 ∨ n = 12) → m_M x k_Row_init [.ref v, .int (jI (n : Int))] ((s ++ t) ++ [.inr (4, m_nf 4)]) = some (none, (s ++ t) ++ cR n v) := fun t v n h1 h2 h3 => I_Row x (s := s ++ t) (w := v) (n := n) (by rw [l1]; exact h1) h2 h3
  have start : s ++ (([.inr (7, m_nf 7)] ++ cR 12 (w + 1) : m_H).set 0 (.inr (7, (m_nf 7).set 0 (.ref (w + 1))))) = s ++ tlT w 0 := by
    unfold tlT
    rw [pr_0]
    rfl
  have fin : ∀ n : Nat, n < 6 → True := fun _ _ => True.intro
  rw [E_Told_init]
  rw [l1, show w + ([.inr (7, m_nf 7)] : m_H).length = w + 1 from rfl, if_pos (by omega), show (12 : Int32) = jI ((12 : Nat) : Int) from by decide, row _ (w + 1) 12 rfl (by omega) (by omega), b_V, List.append_assoc, pf_app (j := 0) (m_nf 7) (by omega) (by omega) rfl (by first | decide | (simp only [List.length_set]; decide) | simp), Option.bind_some, start, show (0 : Int32) = jI 0 from rfl, T_loop x hw (by omega) 12 0 (by omega) (by omega), E_Told_init_19 x 3 (by omega), if_pos (by decide)]
  rw [l1, show w + (tlT w 12).length = w + 3 from rfl, if_pos (by omega), show (8 : Int32) = jI ((8 : Nat) : Int) from by decide, row _ (w + 3) 8 rfl (by omega) (by omega), b_V, List.append_assoc, pf_app (j := 0) [.ref (w + 1), .null, .null, .null, .null, .null, .null, .int 0, .int 0] (by omega) (by omega) rfl (by first | decide | (simp only [List.length_set]; decide) | simp), Option.bind_some, show ((tlT w 12 ++ cR 8 (w + 3) : m_H).set 0 (.inr (7, ([.ref (w + 1), .null, .null, .null, .null, .null, .null, .int 0, .int 0] : List Value).set 1 (.ref (w + 3))))) = tlU w 1 from rfl]
  rw [l1, show w + (tlU w 1).length = w + 5 from rfl, if_pos (by omega), show (6 : Int32) = jI ((6 : Nat) : Int) from by decide, row _ (w + 5) 6 rfl (by omega) (by omega), b_V, List.append_assoc, pf_app (j := 0) [.ref (w + 1), .ref (w + 3), .null, .null, .null, .null, .null, .int 0, .int 0] (by omega) (by omega) rfl (by first | decide | (simp only [List.length_set]; decide) | simp), Option.bind_some, show ((tlU w 1 ++ cR 6 (w + 5) : m_H).set 0 (.inr (7, ([.ref (w + 1), .ref (w + 3), .null, .null, .null, .null, .null, .int 0, .int 0] : List Value).set 2 (.ref (w + 5))))) = tlU w 2 from rfl]
  rw [l1, show w + (tlU w 2).length = w + 7 from rfl, if_pos (by omega), row _ (w + 7) 6 rfl (by omega) (by omega), b_V, List.append_assoc, pf_app (j := 0) [.ref (w + 1), .ref (w + 3), .ref (w + 5), .null, .null, .null, .null, .int 0, .int 0] (by omega) (by omega) rfl (by first | decide | (simp only [List.length_set]; decide) | simp), Option.bind_some, show ((tlU w 2 ++ cR 6 (w + 7) : m_H).set 0 (.inr (7, ([.ref (w + 1), .ref (w + 3), .ref (w + 5), .null, .null, .null, .null, .int 0, .int 0] : List Value).set 3 (.ref (w + 7))))) = tlU w 3 from rfl]
  rw [l1, show w + (tlU w 3).length = w + 9 from rfl, if_pos (by omega), row _ (w + 9) 6 rfl (by omega) (by omega), b_V, List.append_assoc, pf_app (j := 0) [.ref (w + 1), .ref (w + 3), .ref (w + 5), .ref (w + 7), .null, .null, .null, .int 0, .int 0] (by omega) (by omega) rfl (by first | decide | (simp only [List.length_set]; decide) | simp), Option.bind_some, show ((tlU w 3 ++ cR 6 (w + 9) : m_H).set 0 (.inr (7, ([.ref (w + 1), .ref (w + 3), .ref (w + 5), .ref (w + 7), .null, .null, .null, .int 0, .int 0] : List Value).set 4 (.ref (w + 9))))) = tlU w 4 from rfl]
  rw [l1, show w + (tlU w 4).length = w + 11 from rfl, if_pos (by omega), row _ (w + 11) 8 rfl (by omega) (by omega), b_V, List.append_assoc, pf_app (j := 0) [.ref (w + 1), .ref (w + 3), .ref (w + 5), .ref (w + 7), .ref (w + 9), .null, .null, .int 0, .int 0] (by omega) (by omega) rfl (by first | decide | (simp only [List.length_set]; decide) | simp), Option.bind_some, show ((tlU w 4 ++ cR 8 (w + 11) : m_H).set 0 (.inr (7, ([.ref (w + 1), .ref (w + 3), .ref (w + 5), .ref (w + 7), .ref (w + 9), .null, .null, .int 0, .int 0] : List Value).set 5 (.ref (w + 11))))) = tlU w 5 from rfl]
  rw [l1, show w + (tlU w 5).length = w + 13 from rfl, if_pos (by omega), row _ (w + 13) 8 rfl (by omega) (by omega), b_V, List.append_assoc, pf_app (j := 0) [.ref (w + 1), .ref (w + 3), .ref (w + 5), .ref (w + 7), .ref (w + 9), .ref (w + 11), .null, .int 0, .int 0] (by omega) (by omega) rfl (by first | decide | (simp only [List.length_set]; decide) | simp), Option.bind_some, show ((tlU w 5 ++ cR 8 (w + 13) : m_H).set 0 (.inr (7, ([.ref (w + 1), .ref (w + 3), .ref (w + 5), .ref (w + 7), .ref (w + 9), .ref (w + 11), .null, .int 0, .int 0] : List Value).set 6 (.ref (w + 13))))) = tlU w 6 from rfl]
  rw [show (-1 : Int32) = jI (-1) from rfl, pf_app (j := 0) [.ref (w + 1), .ref (w + 3), .ref (w + 5), .ref (w + 7), .ref (w + 9), .ref (w + 11), .ref (w + 13), .int 0, .int 0] (by omega) (by omega) rfl (by first | decide | (simp only [List.length_set]; decide) | simp), Option.bind_some]
  rfl
end
