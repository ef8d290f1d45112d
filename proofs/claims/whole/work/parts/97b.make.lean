-- making the objects: what each constructor appends
abbrev Z0 : Fn := fun _ => 0
def zr (n : Nat) : m_E := .inl (0, n, .inl fun _ => 0)
theorem o_app {s t : m_H} {i j : Nat} (hi : s.length + j = i) (h : i < 1000) : m_o (s ++ t) i = t[j]? := by
  unfold m_o
  rw [if_pos h, List.getElem?_append_right (by omega)]
  congr 1
  omega
theorem set_app {s t : m_H} {i j : Nat} {e : m_E} (hi : s.length + j = i) : (s ++ t).set i e = s ++ t.set j e := by
  rw [List.set_append_right _ _ (by omega)]
  congr 2
  omega
theorem pf_app {s t : m_H} {i j ci k : Nat} {v : Value} (fs : List Value) (hi : s.length + j = i) (h : i < 1000) (ht : t[j]? = some (.inr (ci, fs))) (hk : k < fs.length) : m_pf (s ++ t) ci k i v = some (s ++ t.set j (.inr (ci, fs.set k v))) := by
  unfold m_pf
  rw [o_app hi h, ht]
  show (if ci = ci ∧ k < fs.length then _ else _) = _
  rw [if_pos ⟨rfl, hk⟩, set_app hi]
theorem fv_app {s t : m_H} {i j ci k : Nat} (fs : List Value) (hi : s.length + j = i) (h : i < 1000) (ht : t[j]? = some (.inr (ci, fs))) : m_fv (s ++ t) ci k i = fs[k]? := by
  unfold m_fv
  rw [o_app hi h, ht]
  show (if ci = ci then _ else _) = _
  rw [if_pos rfl]
theorem fR_app {s t : m_H} {i j ci k r : Nat} (fs : List Value) (hi : s.length + j = i) (h : i < 1000) (ht : t[j]? = some (.inr (ci, fs))) (hk : fs[k]? = some (.ref r)) : m_fR (s ++ t) ci k i = some r := by
  unfold m_fR
  rw [fv_app fs hi h ht, hk]
theorem fI_app {s t : m_H} {i j ci k : Nat} {r : Int32} (fs : List Value) (hi : s.length + j = i) (h : i < 1000) (ht : t[j]? = some (.inr (ci, fs))) (hk : fs[k]? = some (.int r)) : m_fI (s ++ t) ci k i = some r := by
  unfold m_fI
  rw [fv_app fs hi h ht, hk]
theorem isO_app {s t : m_H} {i j ci : Nat} (fs : List Value) (hi : s.length + j = i) (h : i < 1000) (ht : t[j]? = some (.inr (ci, fs))) : m_isO (s ++ t) i ci = true := by
  unfold m_isO
  rw [o_app hi h, ht]
  show (ci == ci) = true
  simp
theorem ri_app {s t : m_H} {i j n : Nat} {f : Nat → Int32} (hi : s.length + j = i) (h : i < 1000) (ht : t[j]? = some (.inl (0, n, .inl f))) : m_ri (s ++ t) 0 i = some (n, f) := by
  unfold m_ri
  rw [o_app hi h, ht]
  rfl
theorem len_app (x : m_X) {s t : m_H} {i j n : Nat} {f : Nat → Int32} (hi : s.length + j = i) (h : i < 1000) (ht : t[j]? = some (.inl (0, n, .inl f))) : m_len x (s ++ t) i = some (Int32.ofNat n) := by
  unfold m_len
  rw [if_pos h, o_app hi h, ht]
  rfl
theorem upd_jI (f : Fn) (z v : Int) (h0 : 0 ≤ z) : upd (fun k : Nat => jI (f (k : Int))) z.toNat (jI v) = fun k : Nat => jI (u f z v (k : Int)) := by
  funext k
  unfold upd u
  by_cases q : k = z.toNat
  · rw [if_pos q, if_pos (by omega)]
  · rw [if_neg q, if_neg (by omega)]
theorem is_app {s t : m_H} {i j n : Nat} (f : Fn) {z v : Int} (hi : s.length + j = i) (h : i < 1000) (ht : t[j]? = some (.inl (0, n, .inl fun k : Nat => jI (f (k : Int))))) (hn : n < 2147483648) (h0 : 0 ≤ z) (h1 : z < (n : Int)) : m_is (s ++ t) i (jI z) (jI v) = some (s ++ t.set j (.inl (0, n, .inl fun k : Nat => jI (u f z v (k : Int))))) := by
  unfold m_is
  rw [ri_app hi h ht]
  show (m_ix (jI z) n).map _ = _
  rw [jI_ix h0 h1 hn]
  show some ((s ++ t).set i (.inl (0, n, .inl (upd (fun k : Nat => jI (f (k : Int))) z.toNat (jI v))))) = _
  rw [set_app hi, upd_jI f z v h0]
theorem nf_9 : m_nf 9 = [.null] := rfl
theorem nf_6 : m_nf 6 = [.null, .int 0, .int 0] := rfl
theorem nf_7 : m_nf 7 = [.null, .null, .null, .null, .null, .null, .null, .int 0, .int 0] := rfl
theorem nf_4 : m_nf 4 = [.null, .int 0] := rfl
theorem nf_5 : m_nf 5 = [.null, .null, .null, .null, .null, .int 0, .int 0] := rfl
theorem nf_3 : m_nf 3 = [.null, .null, .int 0, .int 0, .int 0, .int 0, .int 0, .int 0, .int 0, .int 0] := rfl
theorem nf_1 : m_nf 1 = [.null, .int 0] := rfl
theorem nf_8 : m_nf 8 = [.null, .null] := rfl
theorem nf_0 : m_nf 0 = [.null, .int 0, .int 0] := rfl
theorem nf_2 : m_nf 2 = [.int 0, .int 0, .int 0, .null, .null, .null, .null] := rfl
theorem nf_10 : m_nf 10 = [.null, .null, .null, .null, .null, .null, .null, .null, .null, .null, .null, .null, .null] := rfl
theorem nf_11 : m_nf 11 = [.null, .null, .null, .null, .int 0, .int 0, .int 0, .int 0, .int 0, .int 0, .int 0, .long 0, .int 0, .int 0, .int 0, .null, .int 0, .int 0, .int 0, .int 0, .null, .null, .null, .int 0, .null, .null, .null, .null, .null, .null, .null, .long 0, .long 0, .null, .null, .null] := rfl
def cW (w : Nat) : m_H := [.inr (9, [.ref (w + 1)]), .inl (0, 141, .inl fun k : Nat => jI (u Z0 24 139 (k : Int)))]
def cS (w : Nat) : m_H := .inr (6, [.ref (w + 1), .int 0, .int 0]) :: m_mrow 31 (w + 1) :: List.replicate 31 (zr 141)
def cR (n w : Nat) : m_H := [.inr (4, [.ref (w + 1), .int 0]), zr n]
def cP (w : Nat) : m_H := [.inr (5, [.ref (w + 1), .ref (w + 2), .ref (w + 3), .ref (w + 4), .ref (w + 5), .int 0, .int 0]), zr 24, zr 24, zr 24, zr 300, zr 4]
def cQ (w : Nat) : m_H := .inr (3, [.ref (w + 1), .ref (w + 7), .int 0, .int (jI (-1)), .int (jI (-1)), .int 0, .int 0, .int 0, .int 0, .int 0]) :: (cP (w + 1) ++ [zr 300])
def cL (w : Nat) : m_H := [.inr (1, [.ref (w + 1), .int 0]), zr 64]
def cE (w : Nat) : m_H := [.inr (8, [.ref (w + 1), .ref (w + 2)]), zr 7, zr 7]
def cD (w : Nat) : m_H := .inr (0, [.ref (w + 1), .int 0, .int 0]) :: cR 12 (w + 1)
def cZ (w : Nat) : m_H := [.inr (2, [.int 0, .int 0, .int 0, .ref (w + 1), .ref (w + 2), .ref (w + 3), .ref (w + 4)]), zr 128, zr 128, zr 9, zr 9]
section
variable (x : m_X)
theorem I_World {s : m_H} {w : Nat} (hw : s.length = w) (h : w < 800) : m_M x k_World_init [.ref w] (s ++ [.inr (9, m_nf 9)]) = some (none, s ++ cW w) := by
  have l1 : (s ++ ([.inr (9, m_nf 9)] : m_H)).length = w + 1 := by simp [hw]
  rw [E_World_init, l1, if_pos ⟨by omega, by decide, by decide⟩, List.append_assoc, pf_app (j := 0) (m_nf 9) (by omega) (by omega) rfl (by first | decide | (simp only [List.length_set]; decide)), Option.bind_some, fR_app (j := 0) (r := w + 1) ((m_nf 9).set 0 (.ref (w + 1))) (by omega) (by omega) rfl rfl, Option.bind_some, show (24 : Int32) = jI 24 from by decide, show (139 : Int32) = jI 139 from by decide, is_app (j := 1) (n := 141) Z0 (by omega) (by omega) rfl (by omega) (by omega) (by omega), Option.bind_some]
  rfl
theorem I_Steps {s : m_H} {w : Nat} (hw : s.length = w) (h : w < 800) : m_M x k_Steps_init [.ref w] (s ++ [.inr (6, m_nf 6)]) = some (none, s ++ cS w) := by
  have l1 : (s ++ ([.inr (6, m_nf 6)] : m_H)).length = w + 1 := by simp [hw]
  have e31 : (31 : Int32).toNatClampNeg = 31 := by decide
  rw [E_Steps_init, l1, e31, if_pos ⟨by omega, by decide, by decide, by decide⟩, List.append_assoc, pf_app (j := 0) (m_nf 6) (by omega) (by omega) rfl (by first | decide | (simp only [List.length_set]; decide)), Option.bind_some]
  rfl
theorem I_Row {s : m_H} {w : Nat} {n : Nat} (hw : s.length = w) (h : w < 800) (hn : n = 6 ∨ n = 8 ∨ n = 12) : m_M x k_Row_init [.ref w, .int (jI (n : Int))] (s ++ [.inr (4, m_nf 4)]) = some (none, s ++ cR n w) := by
  have l1 : (s ++ ([.inr (4, m_nf 4)] : m_H)).length = w + 1 := by simp [hw]
  have e : (jI (n : Int)).toNatClampNeg = n := by rcases hn with e | e | e <;> rw [e] <;> decide
  rw [E_Row_init, E_Math_max_II, if_pos (by rcases hn with e | e | e <;> rw [e] <;> decide), b_I, l1, e, if_pos ⟨by omega, by rcases hn with e | e | e <;> rw [e] <;> decide, by omega⟩, List.append_assoc, pf_app (j := 0) (m_nf 4) (by omega) (by omega) rfl (by show 0 < (m_nf 4).length; decide), Option.bind_some]
  rfl
theorem I_Script {s : m_H} {w : Nat} (hw : s.length = w) (h : w < 800) : m_M x k_Script_init [.ref w] (s ++ [.inr (5, m_nf 5)]) = some (none, s ++ cP w) := by
  have l1 : ∀ t : m_H, (s ++ t).length = w + t.length := by intro t; simp [hw]
  rw [E_Script_init]
  simp only [l1]
  rw [if_pos ⟨by show w + 1 < 900; omega, by decide, by decide⟩, List.append_assoc, pf_app (j := 0) (m_nf 5) (by omega) (by omega) rfl (by first | decide | (simp only [List.length_set]; decide)), Option.bind_some]
  simp only [l1]
  rw [if_pos ⟨by show w + 2 < 900; omega, by decide, by decide⟩, List.append_assoc, pf_app (j := 0) ((m_nf 5).set 0 (.ref (w + 1))) (by omega) (by omega) rfl (by first | decide | (simp only [List.length_set]; decide)), Option.bind_some]
  simp only [l1]
  rw [if_pos ⟨by show w + 3 < 900; omega, by decide, by decide⟩, List.append_assoc, pf_app (j := 0) (((m_nf 5).set 0 (.ref (w + 1))).set 1 (.ref (w + 2))) (by omega) (by omega) rfl (by first | decide | (simp only [List.length_set]; decide)), Option.bind_some]
  simp only [l1]
  rw [if_pos ⟨by show w + 4 < 900; omega, by decide, by decide⟩, List.append_assoc, pf_app (j := 0) ((((m_nf 5).set 0 (.ref (w + 1))).set 1 (.ref (w + 2))).set 2 (.ref (w + 3))) (by omega) (by omega) rfl (by first | decide | (simp only [List.length_set]; decide)), Option.bind_some]
  simp only [l1]
  rw [if_pos ⟨by show w + 5 < 900; omega, by decide, by decide⟩, List.append_assoc, pf_app (j := 0) (((((m_nf 5).set 0 (.ref (w + 1))).set 1 (.ref (w + 2))).set 2 (.ref (w + 3))).set 3 (.ref (w + 4))) (by omega) (by omega) rfl (by first | decide | (simp only [List.length_set]; decide)), Option.bind_some]
  rfl
theorem I_Law {s : m_H} {w : Nat} (hw : s.length = w) (h : w < 800) : m_M x k_Law_init [.ref w] (s ++ [.inr (1, m_nf 1)]) = some (none, s ++ cL w) := by
  have l1 : (s ++ ([.inr (1, m_nf 1)] : m_H)).length = w + 1 := by simp [hw]
  rw [E_Law_init, l1, if_pos ⟨by omega, by decide, by decide⟩, List.append_assoc, pf_app (j := 0) (m_nf 1) (by omega) (by omega) rfl (by first | decide | (simp only [List.length_set]; decide)), Option.bind_some]
  rfl
theorem I_Weddings {s : m_H} {w : Nat} (hw : s.length = w) (h : w < 800) : m_M x k_Weddings_init [.ref w] (s ++ [.inr (8, m_nf 8)]) = some (none, s ++ cE w) := by
  have l1 : ∀ t : m_H, (s ++ t).length = w + t.length := by intro t; simp [hw]
  rw [E_Weddings_init]
  simp only [l1]
  rw [if_pos ⟨by show w + 1 < 900; omega, by decide, by decide⟩, List.append_assoc, pf_app (j := 0) (m_nf 8) (by omega) (by omega) rfl (by first | decide | (simp only [List.length_set]; decide)), Option.bind_some]
  simp only [l1]
  rw [if_pos ⟨by show w + 2 < 900; omega, by decide, by decide⟩, List.append_assoc, pf_app (j := 0) ((m_nf 8).set 0 (.ref (w + 1))) (by omega) (by omega) rfl (by first | decide | (simp only [List.length_set]; decide)), Option.bind_some]
  rfl
theorem I_Puzzles {s : m_H} {w : Nat} (hw : s.length = w) (h : w < 800) : m_M x k_Puzzles_init [.ref w] (s ++ [.inr (2, m_nf 2)]) = some (none, s ++ cZ w) := by
  have l1 : ∀ t : m_H, (s ++ t).length = w + t.length := by intro t; simp [hw]
  rw [E_Puzzles_init]
  simp only [l1]
  rw [if_pos ⟨by show w + 1 < 900; omega, by decide, by decide⟩, List.append_assoc, pf_app (j := 0) (m_nf 2) (by omega) (by omega) rfl (by first | decide | (simp only [List.length_set]; decide)), Option.bind_some]
  simp only [l1]
  rw [if_pos ⟨by show w + 2 < 900; omega, by decide, by decide⟩, List.append_assoc, pf_app (j := 0) ((m_nf 2).set 3 (.ref (w + 1))) (by omega) (by omega) rfl (by first | decide | (simp only [List.length_set]; decide)), Option.bind_some]
  simp only [l1]
  rw [if_pos ⟨by show w + 3 < 900; omega, by decide, by decide⟩, List.append_assoc, pf_app (j := 0) (((m_nf 2).set 3 (.ref (w + 1))).set 4 (.ref (w + 2))) (by omega) (by omega) rfl (by first | decide | (simp only [List.length_set]; decide)), Option.bind_some]
  simp only [l1]
  rw [if_pos ⟨by show w + 4 < 900; omega, by decide, by decide⟩, List.append_assoc, pf_app (j := 0) ((((m_nf 2).set 3 (.ref (w + 1))).set 4 (.ref (w + 2))).set 5 (.ref (w + 3))) (by omega) (by omega) rfl (by first | decide | (simp only [List.length_set]; decide)), Option.bind_some]
  rfl
theorem I_Duties {s : m_H} {w : Nat} (hw : s.length = w) (h : w < 700) : m_M x k_Duties_init [.ref w] (s ++ [.inr (0, m_nf 0)]) = some (none, s ++ cD w) := by
  have l1 : (s ++ ([.inr (0, m_nf 0)] : m_H)).length = w + 1 := by simp [hw]
  have r := I_Row x (s := s ++ [.inr (0, m_nf 0)]) (w := w + 1) (n := 12) l1 (by omega) (by omega)
  rw [E_Duties_init, l1, if_pos (by omega), show (12 : Int32) = jI ((12 : Nat) : Int) from by decide, r, b_V, List.append_assoc, pf_app (j := 0) (m_nf 0) (by omega) (by omega) rfl (by first | decide | (simp only [List.length_set]; decide)), Option.bind_some]
  rfl
theorem I_Reader {s : m_H} {w : Nat} (hw : s.length = w) (h : w < 700) : m_M x k_Reader_init [.ref w] (s ++ [.inr (3, m_nf 3)]) = some (none, s ++ cQ w) := by
  have l1 : ∀ t : m_H, (s ++ t).length = w + t.length := by intro t; simp [hw]
  have r := I_Script x (s := s ++ [.inr (3, m_nf 3)]) (w := w + 1) (by rw [l1]; rfl) (by omega)
  rw [E_Reader_init]
  simp only [l1]
  rw [if_pos (by show w + 1 < 900; omega), show w + ([.inr (3, m_nf 3)] : m_H).length = w + 1 from rfl, r, b_V, List.append_assoc, pf_app (j := 0) (m_nf 3) (by omega) (by omega) rfl (by first | decide | (simp only [List.length_set]; decide)), Option.bind_some]
  simp only [l1]
  rw [if_pos ⟨by show w + 7 < 900; omega, by decide, by decide⟩, List.append_assoc, pf_app (j := 0) ((m_nf 3).set 0 (.ref (w + 1))) (by omega) (by omega) rfl (by first | decide | (simp only [List.length_set]; decide)), Option.bind_some, pf_app (j := 0) (((m_nf 3).set 0 (.ref (w + 1))).set 1 (.ref (w + 7))) (by omega) (by omega) rfl (by first | decide | (simp only [List.length_set]; decide)), Option.bind_some, pf_app (j := 0) ((((m_nf 3).set 0 (.ref (w + 1))).set 1 (.ref (w + 7))).set 3 (.int (-1))) (by omega) (by omega) rfl (by first | decide | (simp only [List.length_set]; decide)), Option.bind_some]
  rfl
end
