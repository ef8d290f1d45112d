-- reading: the numbers of a deed, the class
def cv (T : Fn) (n p : Int) : Int := cnR T (n - p).toNat p 0
def hed (T : Fn) (n w p : Int) : Int := if w = -1 then p else nxp T n p
def NF (T : Fn) (n : Int) : List (Int × Int × Int) → Int → (Int × Int) ⊕ (Int × List Int)
  | [], p => .inr (p, [])
  | r :: R, p => if ¬ r.1 = -1 ∧ ¬ kd T n p = r.1 then .inl (1, p) else if ¬ kd T n (hed T n r.1 p) = 51 then .inl (1, hed T n r.1 p) else if ¬ (r.2.1 ≤ cv T n (hed T n r.1 p) ∧ cv T n (hed T n r.1 p) ≤ r.2.2) then .inl (2, hed T n r.1 p) else Sum.elim (fun e => .inl e) (fun q => .inr (q.1, cv T n (hed T n r.1 p) :: q.2)) (NF T n R (nxp T n (hed T n r.1 p)))
def FRW : List (Int × Int × Int × Int) := [(4, -1, 1, 9), (4, 15, 0, 9999), (5, -1, 0, 6), (5, 25, 0, 6), (5, 19, 1, 99), (5, 20, 0, 2), (5, 22, 0, 9), (6, -1, 0, 11), (6, 26, 1, 9), (7, -1, 0, 11), (7, 25, 0, 6), (8, -1, 0, 11), (9, -1, 0, 11), (10, -1, 0, 11), (11, -1, 1, 60)]
def sel (d : Int) : List (Int × Int × Int × Int) → List (Int × Int × Int)
  | [] => []
  | r :: R => if r.1 = d then r.2 :: sel d R else sel d R
def FR (i : Nat) : Int × Int × Int × Int := FRW.getD i (0, 0, 0, 0)
theorem FR_all : ∀ i : Fin 15, FRW.drop i.val = FR i.val :: FRW.drop (i.val + 1) ∧ m_forms.getD (4 * i.val) 0 = jI (FR i.val).1 ∧ m_forms.getD (4 * i.val + 1) 0 = jI (FR i.val).2.1 ∧ m_forms.getD (4 * i.val + 2) 0 = jI (FR i.val).2.2.1 ∧ m_forms.getD (4 * i.val + 3) 0 = jI (FR i.val).2.2.2 ∧ (4 ≤ (FR i.val).1 ∧ (FR i.val).1 ≤ 11) ∧ (-1 ≤ (FR i.val).2.1 ∧ (FR i.val).2.1 ≤ 60) ∧ (0 ≤ (FR i.val).2.2.1 ∧ (FR i.val).2.2.1 ≤ 9999) ∧ (0 ≤ (FR i.val).2.2.2 ∧ (FR i.val).2.2.2 ≤ 9999) := by decide +kernel
section
variable (x : m_X)
theorem len_1001 (σ : m_H) : m_len x σ 1001 = some (jI 60) := rfl
theorem ia_1001 (σ : m_H) {z : Int} (h0 : 0 ≤ z) (h1 : z < 60) : m_ia x σ 1001 (jI z) = some (m_forms.getD z.toNat 0) := by
  unfold m_ia m_xa
  rw [if_neg (by omega), if_neg (by omega), if_pos rfl]
  show (m_ix (jI z) 60).map (fun j => m_forms.getD j 0) = _
  rw [jI_ix h0 h1 (by decide)]
  rfl
theorem nm_end {G F : Nat → Fn} {d b i : Int} (hb : b = 0 ∨ b = 1) (hi : 0 ≤ i ∧ i ≤ 60) (he : b = 0 ∨ i = 60) : m_D x 9 k_Reader_readNumbers 4 [some (.ref 128), some (.int (jI d)), some (.int (jI b)), some (.int (jI i))] [] (mk F G) = some (some (.int (jI b)), mk F G) := by
  have rb : m_rk (some .boolean) (some (.int (jI b))) = true := by
    rcases hb with e | e <;> rw [e] <;> decide
  rw [E_Reader_readNumbers_4 x 9 (by omega), len_1001, Option.bind_some, show (3 : Int32) = jI 3 from by decide, jI_add]
  by_cases q : 60 ≤ i + 3
  · rw [if_pos (by rw [jI_le (by omega) (by omega) (by omega) (by omega)]; omega), if_pos rb]
  · rcases he with e | e
    · rw [if_neg (by rw [jI_le (by omega) (by omega) (by omega) (by omega)]; omega), e, if_pos (by decide), if_pos (by decide)]
    · omega
/-- the numbers, from a row of the forms on -/
theorem C_nums (hX : XOK x) {T : Fn} {n d : Int} (hd : 4 ≤ d ∧ d ≤ 11) : ∀ (k i : Nat), i + k = 15 → ∀ (F G : Nat → Fn) (p : Int), TP F T n → CT F T n p → 0 ≤ F 129 6 → F 129 6 ≤ p → Sum.elim (fun e => ∃ F2, m_D x 9 k_Reader_readNumbers 4 [some (.ref 128), some (.int (jI d)), some (.int (jI 1)), some (.int (jI (4 * i : Int)))] [] (mk F G) = some (some (.int (jI 0)), mk F2 G) ∧ CF F F2 e.1 e.2) (fun q => ∃ F2, m_D x 9 k_Reader_readNumbers 4 [some (.ref 128), some (.int (jI d)), some (.int (jI 1)), some (.int (jI (4 * i : Int)))] [] (mk F G) = some (some (.int (jI 1)), mk F2 G) ∧ aqP F F2 ∧ CT F2 T n q.1 ∧ F2 129 6 = F 129 6 + (q.2.length : Int) ∧ (∀ z, z < F 129 6 → F2 133 z = F 133 z) ∧ (∀ j : Nat, j < q.2.length → F2 133 (F 129 6 + (j : Int)) = q.2.getD j 0) ∧ (q.2.length : Int) ≤ q.1 - p) (NF T n (sel d (FRW.drop i)) p) := by
  intro k
  induction k with
  | zero =>
    intro i hi F G p hT hc l0 l1
    have e : i = 15 := by omega
    rw [e, show FRW.drop 15 = [] from rfl, sel, NF]
    refine ⟨F, ?_, aqP_rfl F, hc, by simp, fun _ _ => rfl, fun j hj => absurd hj (by simp), by simp⟩
    exact nm_end x (Or.inr rfl) (by omega) (Or.inr (by omega))
  | succ k ih =>
    intro i hi F G p hT hc l0 l1
    obtain ⟨f1, f2, f3, f4, f5, f6, f7, f8, f9⟩ := FR_all ⟨i, by omega⟩
    simp only at f1 f2 f3 f4 f5 f6 f7 f8 f9
    have hn := hT.2.2.1
    have hp := hc.2.1
    have nxt : ((4 * ((i + 1 : Nat) : Int)) : Int) = 4 * (i : Int) + 4 := by omega
    have ia0 : ∀ σ, m_ia x σ 1001 (jI (4 * (i : Int))) = some (jI (FR i).1) := fun σ => by
      rw [ia_1001 x σ (by omega) (by omega), show (4 * (i : Int)).toNat = 4 * i by omega, f2]
    have ia1 : ∀ σ, m_ia x σ 1001 (jI (4 * (i : Int) + 1)) = some (jI (FR i).2.1) := fun σ => by
      rw [ia_1001 x σ (by omega) (by omega), show (4 * (i : Int) + 1).toNat = 4 * i + 1 by omega, f3]
    have ia2 : ∀ σ, m_ia x σ 1001 (jI (4 * (i : Int) + 2)) = some (jI (FR i).2.2.1) := fun σ => by
      rw [ia_1001 x σ (by omega) (by omega), show (4 * (i : Int) + 2).toNat = 4 * i + 2 by omega, f4]
    have ia3 : ∀ σ, m_ia x σ 1001 (jI (4 * (i : Int) + 3)) = some (jI (FR i).2.2.2) := fun σ => by
      rw [ia_1001 x σ (by omega) (by omega), show (4 * (i : Int) + 3).toNat = 4 * i + 3 by omega, f5]
    have D4 : ∀ F G : Nat → Fn, m_D x 9 k_Reader_readNumbers 4 [some (.ref 128), some (.int (jI d)), some (.int (jI 1)), some (.int (jI (4 * i : Int)))] [] (mk F G) = if (FR i).1 = d then (if (FR i).2.1 = -1 then (m_D x 9 k_Reader_readNumbers 57 [some (.ref 128), some (.int (jI d)), some (.int (jI 1)), some (.int (jI (4 * i : Int)))] [.int (jI 1)] (mk F G)) else m_bI (m_M x k_Reader_expects [.ref 128, .int (jI (FR i).2.1)] (mk F G)) fun v46 s46 => if v46 = jI 0 then (m_D x 9 k_Reader_readNumbers 57 [some (.ref 128), some (.int (jI d)), some (.int (jI 1)), some (.int (jI (4 * i : Int)))] [.int (jI 0)] s46) else m_D x 9 k_Reader_readNumbers 57 [some (.ref 128), some (.int (jI d)), some (.int (jI 1)), some (.int (jI (4 * i : Int)))] [.int (jI 1)] s46) else m_D x 9 k_Reader_readNumbers 4 [some (.ref 128), some (.int (jI d)), some (.int (jI 1)), some (.int (jI (4 * ((i + 1 : Nat) : Int))))] [] (mk F G) := by
      intro F G
      rw [E_Reader_readNumbers_4 x 9 (by omega), len_1001, Option.bind_some, show (3 : Int32) = jI 3 from by decide, jI_add, if_neg (by rw [jI_le (by omega) (by omega) (by omega) (by omega)]; omega), if_neg (by decide), ia0, Option.bind_some, show (-1 : Int32) = jI (-1) from rfl, show (1 : Int32) = jI 1 from rfl, show (0 : Int32) = jI 0 from rfl, jI_add, ia1, Option.bind_some, Option.bind_some, show (4 : Int32) = jI 4 from by decide, jI_add, nxt]
      by_cases q : (FR i).1 = d
      · rw [if_pos q, if_pos (by rw [q])]
        by_cases q2 : (FR i).2.1 = -1
        · rw [if_pos q2, if_pos (by rw [q2])]
        · rw [if_neg q2, if_neg (by rw [jI_eq (by omega) (by omega) (by omega) (by omega)]; omega)]
      · rw [if_neg q, if_neg (by rw [jI_eq (by omega) (by omega) (by omega) (by omega)]; omega)]
    have D57 : ∀ F G : Nat → Fn, m_D x 9 k_Reader_readNumbers 57 [some (.ref 128), some (.int (jI d)), some (.int (jI 1)), some (.int (jI (4 * i : Int)))] [.int (jI 1)] (mk F G) = m_bI (m_M x k_Reader_readNumber [.ref 128, .int (jI (FR i).2.2.1), .int (jI (FR i).2.2.2)] (mk F G)) fun v77 s77 => if v77 = jI 0 then (m_D x 9 k_Reader_readNumbers 4 [some (.ref 128), some (.int (jI d)), some (.int (jI 0)), some (.int (jI (4 * i + 4 : Int)))] [] s77) else m_D x 9 k_Reader_readNumbers 4 [some (.ref 128), some (.int (jI d)), some (.int (jI 1)), some (.int (jI (4 * ((i + 1 : Nat) : Int))))] [] s77 := by
      intro F G
      rw [E_Reader_readNumbers_57 x 9 (by omega), show (0 : Int32) = jI 0 from rfl, if_neg (by decide), lit_2, jI_add, ia2, Option.bind_some, show (3 : Int32) = jI 3 from by decide, jI_add, ia3, Option.bind_some, show (1 : Int32) = jI 1 from rfl, show (4 : Int32) = jI 4 from by decide, jI_add, nxt]
    have D57n : ∀ F G : Nat → Fn, m_D x 9 k_Reader_readNumbers 57 [some (.ref 128), some (.int (jI d)), some (.int (jI 1)), some (.int (jI (4 * i : Int)))] [.int (jI 0)] (mk F G) = some (some (.int (jI 0)), mk F G) := by
      intro F G
      rw [E_Reader_readNumbers_57 x 9 (by omega), show (0 : Int32) = jI 0 from rfl, if_pos rfl, show (4 : Int32) = jI 4 from by decide, jI_add]
      exact nm_end x (Or.inl rfl) (by omega) (Or.inl rfl)
    rw [f1, sel]
    by_cases q : (FR i).1 = d
    · rw [if_pos q, NF]
      -- behind the word
      have go : ∀ (F1 : Nat → Fn), TP F1 T n → CT F1 T n (hed T n (FR i).2.1 p) → aqP F F1 → F1 129 = F 129 → F1 133 = F 133 → m_D x 9 k_Reader_readNumbers 4 [some (.ref 128), some (.int (jI d)), some (.int (jI 1)), some (.int (jI (4 * i : Int)))] [] (mk F G) = m_D x 9 k_Reader_readNumbers 57 [some (.ref 128), some (.int (jI d)), some (.int (jI 1)), some (.int (jI (4 * i : Int)))] [.int (jI 1)] (mk F1 G) → Sum.elim (fun e => ∃ F2, m_D x 9 k_Reader_readNumbers 4 [some (.ref 128), some (.int (jI d)), some (.int (jI 1)), some (.int (jI (4 * i : Int)))] [] (mk F G) = some (some (.int (jI 0)), mk F2 G) ∧ CF F F2 e.1 e.2) (fun q => ∃ F2, m_D x 9 k_Reader_readNumbers 4 [some (.ref 128), some (.int (jI d)), some (.int (jI 1)), some (.int (jI (4 * i : Int)))] [] (mk F G) = some (some (.int (jI 1)), mk F2 G) ∧ aqP F F2 ∧ CT F2 T n q.1 ∧ F2 129 6 = F 129 6 + (q.2.length : Int) ∧ (∀ z, z < F 129 6 → F2 133 z = F 133 z) ∧ (∀ j : Nat, j < q.2.length → F2 133 (F 129 6 + (j : Int)) = q.2.getD j 0) ∧ (q.2.length : Int) ≤ q.1 - p) (if ¬ kd T n (hed T n (FR i).2.1 p) = 51 then .inl (1, hed T n (FR i).2.1 p) else if ¬ ((FR i).2.2.1 ≤ cv T n (hed T n (FR i).2.1 p) ∧ cv T n (hed T n (FR i).2.1 p) ≤ (FR i).2.2.2) then .inl (2, hed T n (FR i).2.1 p) else Sum.elim (fun e => .inl e) (fun q => .inr (q.1, cv T n (hed T n (FR i).2.1 p) :: q.2)) (NF T n (sel d (FRW.drop (i + 1))) (nxp T n (hed T n (FR i).2.1 p)))) := by
        intro F1 hT1 hc1 a1 e129 e133 ee
        have hh : p ≤ hed T n (FR i).2.1 p := by
          have nx := nxp_r (T := T) (n := n) (p := p) hp.1 hp.2
          unfold hed
          split <;> omega
        have hp1 := hc1.2.1
        have nx1 := nxp_r (T := T) (n := n) (p := hed T n (FR i).2.1 p) hp1.1 hp1.2
        rw [ee, D57]
        rcases C_readNum x F1 G hX (a := (FR i).2.2.1) (b := (FR i).2.2.2) hT1 hc1 (by rw [e129]; exact l0) (by rw [e129]; omega) f8 f9.2 (by unfold rg; omega) with ⟨c1, F2, y1, y2⟩ | ⟨c1, c2, F2, y1, y2⟩ | ⟨c1, c2, F2, y1, y2, y3, y4, y5⟩
        · rw [if_pos c1]
          refine ⟨F2, ?_, aqP_tr a1 y2.1, y2.2⟩
          rw [y1, b_I, if_pos rfl]
          exact nm_end x (Or.inl rfl) (by omega) (Or.inl rfl)
        · have c3 : ¬ ((FR i).2.2.1 ≤ cv T n (hed T n (FR i).2.1 p) ∧ cv T n (hed T n (FR i).2.1 p) ≤ (FR i).2.2.2) := c2
          rw [if_neg (fun z => z c1), if_pos c3]
          refine ⟨F2, ?_, aqP_tr a1 y2.1, y2.2⟩
          rw [y1, b_I, if_pos rfl]
          exact nm_end x (Or.inl rfl) (by omega) (Or.inl rfl)
        · have hlt : hed T n (FR i).2.1 p < n := kd_lt (T := T) (by omega)
          have a2 := aqP_tr a1 y2
          rw [e129] at y4 y5
          rw [e133] at y5
          have c3 : (FR i).2.2.1 ≤ cv T n (hed T n (FR i).2.1 p) ∧ cv T n (hed T n (FR i).2.1 p) ≤ (FR i).2.2.2 := c2
          rw [if_neg (fun z => z c1), if_neg (fun z => z c3), y1, b_I, if_neg (by decide)]
          have up := ih (i + 1) (by omega) F2 G (nxp T n (hed T n (FR i).2.1 p)) (aqP_TP y2 hT1) y3 (by omega) (by omega)
          revert up
          cases NF T n (sel d (FRW.drop (i + 1))) (nxp T n (hed T n (FR i).2.1 p)) with
          | inl e =>
            rintro ⟨F3, z1, z2⟩
            exact ⟨F3, z1, aqP_tr a2 z2.1, z2.2⟩
          | inr r =>
            rintro ⟨F3, z1, z2, z3, z4, z5, z6, z7⟩
            rw [y4] at z4 z5 z6
            refine ⟨F3, z1, aqP_tr a2 z2, z3, ?_, ?_, ?_, ?_⟩
            · simp only [List.length_cons]
              omega
            · intro z hz
              rw [z5 z (by omega), y5, u_ne _ _ (by omega)]
            · intro j hj
              cases j with
              | zero =>
                rw [z5 _ (by omega), y5, show F 129 6 + ((0 : Nat) : Int) = F 129 6 by omega, u_eq]
                rfl
              | succ j =>
                simp only [List.length_cons] at hj
                have := z6 j (by omega)
                rw [show F 129 6 + ((j + 1 : Nat) : Int) = F 129 6 + 1 + (j : Int) by omega, this]
                rfl
            · simp only [List.length_cons]
              show _ ≤ r.1 - p
              omega
      by_cases q2 : (FR i).2.1 = -1
      · rw [if_neg (by omega)]
        refine go F hT ?_ (aqP_rfl F) rfl rfl ?_
        · unfold hed
          rw [if_pos q2]
          exact hc
        · rw [D4, if_pos q, if_pos q2]
      · rcases C_expects x F G hX (tk := (FR i).2.1) hT hc ⟨l0, by omega⟩ (by omega) with ⟨c1, F2, y1, y2, y3⟩ | ⟨c1, F2, y1, y2⟩
        · rw [if_neg (fun z => z.2 c1)]
          refine go F2 (aqP_TP (ag8_aq y2) hT) ?_ (ag8_aq y2) (y2.1 129 (by omega)) (y2.1 133 (by omega)) ?_
          · unfold hed
            rw [if_neg q2]
            exact y3
          · rw [D4, if_pos q, if_neg q2, y1, b_I, if_neg (by decide)]
        · rw [if_pos ⟨q2, c1⟩]
          refine ⟨F2, ?_, y2⟩
          rw [D4, if_pos q, if_neg q2, y1, b_I, if_pos rfl]
          exact D57n F2 G
    · rw [if_neg q]
      have up := ih (i + 1) (by omega) F G p hT hc l0 l1
      have e4 := D4 F G
      rw [if_neg q] at e4
      rw [e4]
      exact up
end
