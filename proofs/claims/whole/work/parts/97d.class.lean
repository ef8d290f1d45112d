-- making the class's object
theorem nlW (w : Nat) : (cW w).length = 2 := rfl
theorem nlS (w : Nat) : (cS w).length = 33 := rfl
theorem nlT (w : Nat) : (cT w).length = 15 := rfl
theorem nlP (w : Nat) : (cP w).length = 6 := rfl
theorem nlQ (w : Nat) : (cQ w).length = 8 := rfl
theorem nlL (w : Nat) : (cL w).length = 2 := rfl
theorem nlE (w : Nat) : (cE w).length = 3 := rfl
theorem nlD (w : Nat) : (cD w).length = 3 := rfl
theorem nlZ (w : Nat) : (cZ w).length = 5 := rfl
def gg (i : Nat) : Nat → Option Nat := fun k => if k < i then some (104 + 6 * k) else none
def rw3 (i : Nat) : m_E := .inl (3, 4, .inr (.inr (.inr (.inr (gg i)))))
def Sc : Nat → m_H
  | 0 => []
  | i + 1 => Sc i ++ cP (104 + 6 * i)
theorem lSc (i : Nat) : (Sc i).length = 6 * i := by
  induction i with
  | zero => rfl
  | succ i ih => rw [Sc, List.length_append, ih, nlP]; omega
theorem gg_s (i : Nat) : va_up (gg i) i (some (104 + 6 * i)) = gg (i + 1) := by
  funext k
  unfold va_up gg
  by_cases q : k = i
  · rw [if_pos q, if_pos (by omega), q]
  · rw [if_neg q]
    by_cases q2 : k < i
    · rw [if_pos q2, if_pos (by omega)]
    · rw [if_neg q2, if_neg (by omega)]
def R7 : m_H := cW 1 ++ cS 3 ++ cT 36 ++ cW 51 ++ cS 53 ++ cT 86 ++ cW 101
def f7 : List Value := [.ref 1, .ref 3, .ref 36, .ref 51, .ref 53, .ref 86, .ref 101, .ref 103, .null, .null, .null, .null, .null]
theorem lR7 : R7.length = 102 := by
  unfold R7
  simp only [List.length_append, nlW, nlS, nlT]
theorem pf0 {c k : Nat} {fs : List Value} {R : m_H} {v : Value} (hk : k < fs.length) : m_pf (.inr (c, fs) :: R) c k 0 v = some (.inr (c, fs.set k v) :: R) := by
  have := pf_app (s := []) (t := .inr (c, fs) :: R) (i := 0) (j := 0) (ci := c) (k := k) (v := v) fs rfl (by omega) rfl hk
  exact this
section
variable (x : m_X)
theorem g_step {kk c k w : Nat} {fs : List Value} {R C : m_H} {K : m_H → Option m_R} {r : Option m_R} (hl : (.inr (10, fs) :: R : m_H).length = w) (hw : w < 900) (hk : k < fs.length) (init : ∀ {s : m_H}, s.length = w → m_M x kk [.ref w] (s ++ [.inr (c, m_nf c)]) = some (none, s ++ C)) (nxt : K (.inr (10, fs.set k (.ref w)) :: (R ++ C)) = r) : (if (.inr (10, fs) :: R : m_H).length < 900 then (m_bV (m_M x kk [.ref (.inr (10, fs) :: R : m_H).length] ((.inr (10, fs) :: R : m_H) ++ [.inr (c, m_nf c)])) fun s9 => (m_pf s9 10 k 0 (.ref (.inr (10, fs) :: R : m_H).length)).bind K) else none) = r := by
  rw [hl, if_pos hw, init hl, b_V, List.cons_append, pf0 hk, Option.bind_some]
  exact nxt
theorem as_app {s t : m_H} {v i : Nat} (hs : s.length = 103) (hi : i < 4) (ht : t[0]? = some (rw3 i)) (hv : v < 1000) {fs : List Value} {j : Nat} (hj : 103 + j = v) (hc : t[j]? = some (.inr (5, fs))) (hvi : v = 104 + 6 * i) : m_as (s ++ t) 103 (jI (i : Int)) v = some (s ++ t.set 0 (rw3 (i + 1))) := by
  have e1 : m_o (s ++ t) v = some (.inr (5, fs)) := by rw [o_app (j := j) (by omega) hv, hc]
  have e2 : m_rr (s ++ t) 3 103 = some (4, gg i) := by
    unfold m_rr
    rw [o_app (j := 0) (by omega) (by omega), ht]
    rfl
  unfold m_as
  rw [e1, e2]
  show (m_ix (jI (i : Int)) 4).map _ = _
  rw [jI_ix (by omega) (by omega) (by omega)]
  show some ((s ++ t).set 103 (.inl (3, 4, .inr (.inr (.inr (.inr (va_up (gg i) (i : Int).toNat (some v)))))))) = _
  rw [set_app (j := 0) (by omega), show (i : Int).toNat = i by omega, hvi, gg_s]
  rfl
theorem G_sc {i : Nat} (hi : i < 4) : m_D x 4 k_G_init 91 [some (.ref 0), some (.int (jI (i : Int)))] [] ((.inr (10, f7) :: R7) ++ (rw3 i :: Sc i)) = m_D x 4 k_G_init 91 [some (.ref 0), some (.int (jI ((i + 1 : Nat) : Int)))] [] ((.inr (10, f7) :: R7) ++ (rw3 (i + 1) :: Sc (i + 1))) := by
  have lP0 : (.inr (10, f7) :: R7 : m_H).length = 103 := by rw [List.length_cons, lR7]
  have ll : ((.inr (10, f7) :: R7 : m_H) ++ (rw3 i :: Sc i)).length = 104 + 6 * i := by rw [List.length_append, lP0, List.length_cons, lSc]; omega
  have fr : m_fR ((.inr (10, f7) :: R7 : m_H) ++ (rw3 i :: Sc i)) 10 7 0 = some 103 := fR_app (s := []) (t := (.inr (10, f7) :: R7 : m_H) ++ (rw3 i :: Sc i)) (j := 0) (r := 103) f7 rfl (by omega) rfl rfl
  have init := I_Script x (s := (.inr (10, f7) :: R7 : m_H) ++ (rw3 i :: Sc i)) (w := 104 + 6 * i) ll (by omega)
  have as := as_app (s := .inr (10, f7) :: R7) (t := rw3 i :: Sc (i + 1)) (v := 104 + 6 * i) (i := i) (j := 1 + 6 * i) (fs := [.ref (104 + 6 * i + 1), .ref (104 + 6 * i + 2), .ref (104 + 6 * i + 3), .ref (104 + 6 * i + 4), .ref (104 + 6 * i + 5), .int 0, .int 0]) lP0 hi rfl (by omega) (by omega) (by
    rw [Nat.add_comm 1, List.getElem?_cons_succ, Sc, List.getElem?_append_right (by rw [lSc]; omega), lSc, Nat.sub_self]
    rfl) rfl
  rw [E_G_init_91 x 4 (by omega), show (4 : Int32) = jI 4 from by decide, if_neg (by rw [jI_le (by omega) (by omega) (by omega) (by omega)]; omega), fr, Option.bind_some, ll, if_pos (by omega), init, b_V, List.append_assoc, show ((.inr (10, f7) :: R7 : m_H) ++ ((rw3 i :: Sc i) ++ cP (104 + 6 * i))) = (.inr (10, f7) :: R7 : m_H) ++ (rw3 i :: Sc (i + 1)) from rfl, as, Option.bind_some, show (1 : Int32) = jI 1 from rfl, jI_add]
  rfl
def R8 : m_H := R7 ++ (rw3 4 :: Sc 4)
theorem lR8 : R8.length = 127 := by
  unfold R8
  rw [List.length_append, List.length_cons, lR7, lSc]
def RC : m_H := R8 ++ cQ 128 ++ cL 136 ++ cE 138 ++ cD 141 ++ cZ 144
def fC : List Value := [.ref 1, .ref 3, .ref 36, .ref 51, .ref 53, .ref 86, .ref 101, .ref 103, .ref 128, .ref 136, .ref 138, .ref 141, .ref 144]
theorem I_Class : m_M x k_G_init [.ref 0] [.inr (10, m_nf 10)] = some (none, .inr (10, fC) :: RC) := by
  rw [E_G_init]
  refine g_step x (R := []) (C := cW 1) (w := 1) rfl (by omega) (by decide) (fun h => I_World x h (by omega)) ?_
  refine g_step x (C := cS 3) (w := 3) rfl (by omega) (by simp only [List.length_set]; decide) (fun h => I_Steps x h (by omega)) ?_
  refine g_step x (C := cT 36) (w := 36) (by simp only [List.length_cons, List.length_append, List.length_nil, nlW, nlS]) (by omega) (by simp only [List.length_set]; decide) (fun h => I_Told x h (by omega)) ?_
  refine g_step x (C := cW 51) (w := 51) (by simp only [List.length_cons, List.length_append, List.length_nil, nlW, nlS, nlT]) (by omega) (by simp only [List.length_set]; decide) (fun h => I_World x h (by omega)) ?_
  refine g_step x (C := cS 53) (w := 53) (by simp only [List.length_cons, List.length_append, List.length_nil, nlW, nlS, nlT]) (by omega) (by simp only [List.length_set]; decide) (fun h => I_Steps x h (by omega)) ?_
  refine g_step x (C := cT 86) (w := 86) (by simp only [List.length_cons, List.length_append, List.length_nil, nlW, nlS, nlT]) (by omega) (by simp only [List.length_set]; decide) (fun h => I_Told x h (by omega)) ?_
  refine g_step x (C := cW 101) (w := 101) (by simp only [List.length_cons, List.length_append, List.length_nil, nlW, nlS, nlT]) (by omega) (by simp only [List.length_set]; decide) (fun h => I_World x h (by omega)) ?_
  rw [show ([] ++ cW 1 ++ cS 3 ++ cT 36 ++ cW 51 ++ cS 53 ++ cT 86 ++ cW 101 : m_H) = R7 from rfl]
  have l7 : ∀ fs, (.inr (10, fs) :: R7 : m_H).length = 103 := fun fs => by rw [List.length_cons, lR7]
  rw [l7, if_pos ⟨by omega, by decide, by decide⟩, List.cons_append, pf0 (by simp only [List.length_set]; decide), Option.bind_some]
  have e0 : (.inl (3, (4 : Int32).toNatClampNeg, .inr (.inr (.inr (.inr fun _ => none)))) : m_E) = rw3 0 := by
    unfold rw3
    congr 5
  rw [e0]
  have s0 := G_sc x (i := 0) (by omega)
  have s1 := G_sc x (i := 1) (by omega)
  have s2 := G_sc x (i := 2) (by omega)
  have s3 := G_sc x (i := 3) (by omega)
  have all := ((s0.trans s1).trans s2).trans s3
  refine Eq.trans all ?_
  rw [E_G_init_91 x 4 (by omega), if_pos (by decide), show ((.inr (10, f7) :: R7 : m_H) ++ (rw3 (3 + 1) :: Sc (3 + 1))) = .inr (10, f7) :: R8 from rfl]
  refine g_step x (C := cQ 128) (w := 128) (by rw [List.length_cons, lR8]) (by omega) (by decide) (fun h => I_Reader x h (by omega)) ?_
  refine g_step x (C := cL 136) (w := 136) (by simp only [List.length_cons, List.length_append, lR8, nlQ]) (by omega) (by decide) (fun h => I_Law x h (by omega)) ?_
  refine g_step x (C := cE 138) (w := 138) (by simp only [List.length_cons, List.length_append, lR8, nlQ, nlL]) (by omega) (by decide) (fun h => I_Weddings x h (by omega)) ?_
  refine g_step x (C := cD 141) (w := 141) (by simp only [List.length_cons, List.length_append, lR8, nlQ, nlL, nlE]) (by omega) (by decide) (fun h => I_Duties x h (by omega)) ?_
  refine g_step x (C := cZ 144) (w := 144) (by simp only [List.length_cons, List.length_append, lR8, nlQ, nlL, nlE, nlD]) (by omega) (by decide) (fun h => I_Puzzles x h (by omega)) ?_
  rfl
end
