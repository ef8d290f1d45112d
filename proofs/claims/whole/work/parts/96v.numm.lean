-- reading: the numbers of a deed, the model
def aqN (a b : Int) (F F2 : Nat → Fn) : Prop := (∀ o, ¬ o = 149 → ¬ o = 152 → F2 o = F o) ∧ (∀ z, z < 7 ∨ 10 < z → F2 149 z = F 149 z) ∧ ∀ z, z ≤ a ∨ b < z → F2 152 z = F 152 z
theorem aqN_rfl (a b : Int) (F : Nat → Fn) : aqN a b F F := ⟨fun _ _ _ => rfl, fun _ _ => rfl, fun _ _ => rfl⟩
theorem aqN_tr {a b a1 : Int} {F F1 F2 : Nat → Fn} (h1 : aqN a b F F1) (h2 : aqN a1 b F1 F2) (ha : a ≤ a1) : aqN a b F F2 := ⟨fun o x y => (h2.1 o x y).trans (h1.1 o x y), fun z h => (h2.2.1 z h).trans (h1.2.1 z h), fun z h => (h2.2.2 z (by omega)).trans (h1.2.2 z h)⟩
theorem agn_N {a b : Int} {F F2 : Nat → Fn} (h : agn F F2) : aqN a b F F2 := ⟨fun o x _ => h.1 o x, h.2, fun z _ => by rw [h.1 152 (by omega)]⟩
theorem aqN_TM {a b : Int} {F F2 : Nat → Fn} {T : Fn} {n : Int} (h : aqN a b F F2) (hT : TM F T n) : TM F2 T n := by
  obtain ⟨t1, t2, t3⟩ := hT
  exact ⟨by rw [h.2.1 4 (by omega)]; exact t1, t2, by rw [h.1 153 (by omega) (by omega)]; exact t3⟩
def MN (T : Fn) (n x0 : Int) (i : Nat) (p : Int) (F : Nat → Fn) (m : Option m_R) (R : List (Int × Int × Int)) : Prop := Sum.elim (fun e => ∃ F2 G2, m = some (some (.int (jI e.1)), mk F2 G2) ∧ F2 149 8 = e.2 ∧ aqN (x0 + (i : Int)) (x0 + 5) F F2) (fun q => ∃ F2 G2, m = some (some (.int (jI 0)), mk F2 G2) ∧ aqN (x0 + (i : Int)) (x0 + 5) F F2 ∧ MT F2 G2 T n q.1 ∧ ∀ j : Nat, j < q.2.length → F2 152 (x0 + 1 + (i : Int) + (j : Int)) = q.2.getD j 0) (NF T n R p)
theorem MN_nil {T : Fn} {n x0 : Int} {i : Nat} {p : Int} {F F1 G1 : Nat → Fn} (h : aqN (x0 + (i : Int)) (x0 + 5) F F1) (hm : MT F1 G1 T n p) : MN T n x0 i p F (some (some (.int (jI 0)), mk F1 G1)) [] := by
  unfold MN
  rw [NF]
  exact ⟨F1, G1, rfl, h, hm, fun j hj => absurd hj (by simp)⟩
theorem MN_no {T : Fn} {n x0 w lo hi : Int} {i : Nat} {p : Int} {F F1 G1 : Nat → Fn} {R : List (Int × Int × Int)} (h : aqN (x0 + (i : Int)) (x0 + 5) F F1) (hm : MT F1 G1 T n p) (hw : ¬ w = -1) (hk : ¬ kd T n p = w) : MN T n x0 i p F (some (some (.int (jI 1)), mk F1 G1)) ((w, lo, hi) :: R) := by
  unfold MN
  rw [NF, if_pos ⟨hw, hk⟩]
  exact ⟨F1, G1, rfl, hm.1.2.1, h⟩
theorem MN_w {T : Fn} {n x0 w lo hi : Int} {i : Nat} {p : Int} {F F1 : Nat → Fn} {m : Option m_R} {R : List (Int × Int × Int)} (h : aqN (x0 + (i : Int)) (x0 + 5) F F1) (hw : ¬ w = -1) (hk : kd T n p = w) (hm : MN T n x0 i (nxp T n p) F1 m ((-1, lo, hi) :: R)) : MN T n x0 i p F m ((w, lo, hi) :: R) := by
  have e : NF T n ((w, lo, hi) :: R) p = NF T n ((-1, lo, hi) :: R) (nxp T n p) := by
    have h1 : hed T n w p = nxp T n p := by unfold hed; rw [if_neg hw]
    have h2 : hed T n (-1) (nxp T n p) = nxp T n p := by unfold hed; rw [if_pos rfl]
    rw [NF, NF]
    show (if ¬ w = -1 ∧ ¬ kd T n p = w then _ else if ¬ kd T n (hed T n w p) = 51 then Sum.inl (1, hed T n w p) else if ¬ (lo ≤ cv T n (hed T n w p) ∧ cv T n (hed T n w p) ≤ hi) then Sum.inl (2, hed T n w p) else Sum.elim (fun e => .inl e) (fun q => .inr (q.1, cv T n (hed T n w p) :: q.2)) (NF T n R (nxp T n (hed T n w p)))) = (if ¬ (-1 : Int) = -1 ∧ ¬ kd T n (nxp T n p) = -1 then _ else if ¬ kd T n (hed T n (-1) (nxp T n p)) = 51 then Sum.inl (1, hed T n (-1) (nxp T n p)) else if ¬ (lo ≤ cv T n (hed T n (-1) (nxp T n p)) ∧ cv T n (hed T n (-1) (nxp T n p)) ≤ hi) then Sum.inl (2, hed T n (-1) (nxp T n p)) else Sum.elim (fun e => .inl e) (fun q => .inr (q.1, cv T n (hed T n (-1) (nxp T n p)) :: q.2)) (NF T n R (nxp T n (hed T n (-1) (nxp T n p)))))
    rw [h1, h2, if_neg (show ¬ (¬ w = -1 ∧ ¬ kd T n p = w) from fun z => z.2 hk), if_neg (show ¬ (¬ (-1 : Int) = -1 ∧ ¬ kd T n (nxp T n p) = -1) from fun z => z.1 rfl)]
  unfold MN at *
  rw [e]
  revert hm
  cases NF T n ((-1, lo, hi) :: R) (nxp T n p) with
  | inl e => rintro ⟨F2, G2, y1, y2, y3⟩; exact ⟨F2, G2, y1, y2, aqN_tr h y3 (Int.le_refl _)⟩
  | inr q => rintro ⟨F2, G2, y1, y2, y3, y4⟩; exact ⟨F2, G2, y1, aqN_tr h y2 (Int.le_refl _), y3, y4⟩
section
variable (x : m_X)
theorem MN_fig {T : Fn} {n x0 lo hi : Int} {i : Nat} {p : Int} {F G : Nat → Fn} {R : List (Int × Int × Int)} {K : Int32 → m_H → Option m_R} (hB : BY T n) (hT : TM F T n) (hm : MT F G T n p) (hx : 0 ≤ x0 ∧ x0 + 5 < 3012) (hi5 : i < 5) (hl : (0 ≤ lo ∧ lo ≤ 9999) ∧ 0 ≤ hi ∧ hi ≤ 9999) (hK : ∀ c s, (c = 1 ∨ c = 2) → K (jI c) s = some (some (.int (jI c)), s)) (ok : ∀ F1 G1, TM F1 T n → MT F1 G1 T n (nxp T n p) → MN T n x0 (i + 1) (nxp T n p) F1 (K (jI 0) (mk F1 G1)) R) : MN T n x0 i p F (m_bI (m_M x k_M_figure [.ref 149, .int (jI (x0 + 1 + (i : Int))), .int (jI lo), .int (jI hi)] (mk F G)) K) ((-1, lo, hi) :: R) := by
  have hp := hm.2.1
  have k1 := kt_1 hB hp.1
  have nr := NR_0 T (n - p).toNat p
  have h2 : hed T n (-1) p = p := by unfold hed; rw [if_pos rfl]
  have hc : cv T n p = cnR T (n - p).toNat p 0 := rfl
  unfold NR at nr
  unfold MN
  rw [NF, if_neg (show ¬ (¬ (-1 : Int) = -1 ∧ ¬ kd T n p = -1) from fun z => z.1 rfl)]
  show Sum.elim _ _ (if ¬ kd T n (hed T n (-1) p) = 51 then Sum.inl (1, hed T n (-1) p) else if ¬ (lo ≤ cv T n (hed T n (-1) p) ∧ cv T n (hed T n (-1) p) ≤ hi) then Sum.inl (2, hed T n (-1) p) else Sum.elim (fun e => .inl e) (fun q => .inr (q.1, cv T n (hed T n (-1) p) :: q.2)) (NF T n R (nxp T n (hed T n (-1) p))))
  rw [h2, E_M_figure, isO_149, if_pos rfl, fI_149_9, Option.bind_some, hm.1.2.2, show (1 : Int32) = jI 1 from rfl]
  have tr : -10 ≤ tok T n p ∧ tok T n p ≤ 1000 := by
    rcases kt hB hp.1 with ⟨_, _, e⟩ | ⟨_, _, e, _⟩ | ⟨_, _, e⟩ | ⟨_, c, hc, _, e⟩ | ⟨_, _, e | e⟩
    · omega
    · omega
    · omega
    · have := (show ∀ c : Fin 13, -10 ≤ ([43, 45, 42, 47, 40, 41, 59, 60, 62, 61, 35, 4, 5] : List Int).getD c.val 0 ∧ ([43, 45, 42, 47, 40, 41, 59, 60, 62, 61, 35, 4, 5] : List Int).getD c.val 0 ≤ 1000 by decide +kernel) ⟨c, hc⟩
      simp only at this
      omega
    · omega
    · omega
  by_cases q : kd T n p = 51
  · have t1 := k1.2 q
    have hlt : p < n := kd_lt (T := T) (n := n) (p := p) (by omega)
    have n10 := hm.2.2.1 t1
    rw [if_neg (show ¬ ¬ kd T n p = 51 from fun z => z q), if_pos (show jI (tok T n p) = jI 1 by rw [t1]), fI_149_10, Option.bind_some, n10, M_isIn x F G (by unfold rg; omega) (by unfold rg; omega) (by unfold rg; omega), b_I]
    by_cases q2 : lo ≤ cv T n p ∧ cv T n p ≤ hi
    · have em : cnR T (n - p).toNat p 0 = mnR T (n - p).toNat p 0 := by omega
      generalize hF1 : sA F 152 (u (F 152) (x0 + 1 + (i : Int)) (mnR T (n - p).toNat p 0)) = F1
      have f149 : F1 149 = F 149 := by rw [← hF1, sA_ne _ _ (by omega)]
      have tm1 : TM F1 T n := by
        obtain ⟨a1, a2, a3⟩ := hT
        exact ⟨by rw [f149]; exact a1, a2, by rw [← hF1, sA_ne (b := 153) _ _ (by omega)]; exact a3⟩
      obtain ⟨F2, G2, y1, y2, y3⟩ := M_next x F1 G tm1 (show F1 149 7 = tle T n p by rw [f149]; exact hm.1.1) (by have := tle_r (T := T) hp.1 hp.2; omega) (by have := tle_r (T := T) hp.1 hp.2; omega)
      have n0 : aqN (x0 + (i : Int)) (x0 + 5) F F1 := by
        rw [← hF1]
        exact ⟨fun o _ h => by rw [sA_ne _ _ h], fun z _ => by rw [sA_ne _ _ (by omega)], fun z hz => by rw [sA_eq, u_ne _ _ (by omega)]⟩
      have n1 : aqN (x0 + (i : Int)) (x0 + 5) F F2 := aqN_tr n0 (agn_N y2) (Int.le_refl _)
      have up := ok F2 G2 (aqN_TM n1 hT) y3
      have hv : F2 152 (x0 + 1 + (i : Int)) = cv T n p := by
        rw [y2.1 152 (by omega), ← hF1, sA_eq, u_eq, hc, em]
      rw [if_neg (show ¬ ¬ (lo ≤ cv T n p ∧ cv T n p ≤ hi) from fun z => z q2), if_pos (show lo ≤ mnR T (n - p).toNat p 0 ∧ mnR T (n - p).toNat p 0 ≤ hi by omega), if_neg (by decide), fR_149_2, Option.bind_some, fI_149_10, Option.bind_some, n10, is_152 _ _ _ (by omega) (by omega), Option.bind_some, hF1, y1, b_V, show (0 : Int32) = jI 0 from rfl, b_I]
      unfold MN at up
      revert up
      cases NF T n R (nxp T n p) with
      | inl e =>
        rintro ⟨F3, G3, z1, z2, z3⟩
        exact ⟨F3, G3, z1, z2, aqN_tr n1 z3 (by omega)⟩
      | inr r =>
        rintro ⟨F3, G3, z1, z2, z3, z4⟩
        refine ⟨F3, G3, z1, aqN_tr n1 z2 (by omega), z3, ?_⟩
        intro j hj
        cases j with
        | zero =>
          rw [z2.2.2 _ (by omega), show x0 + 1 + (i : Int) + ((0 : Nat) : Int) = x0 + 1 + (i : Int) by omega, hv]
          rfl
        | succ j =>
          simp only [List.length_cons] at hj
          have := z4 j (by omega)
          rw [show x0 + 1 + (i : Int) + ((j + 1 : Nat) : Int) = x0 + 1 + ((i + 1 : Nat) : Int) + (j : Int) by omega, this]
          rfl
    · rw [if_pos q2, if_neg (show ¬ (lo ≤ mnR T (n - p).toNat p 0 ∧ mnR T (n - p).toNat p 0 ≤ hi) by omega), if_pos (by decide), lit_2, b_I, hK 2 _ (Or.inr rfl)]
      exact ⟨F, G, rfl, hm.1.2.1, aqN_rfl _ _ F⟩
  · rw [if_pos q, if_neg (show ¬ jI (tok T n p) = jI 1 by rw [jI_eq (by omega) (by omega) (by omega) (by omega)]; exact fun z => q (k1.1 z)), b_I, hK 1 _ (Or.inl rfl)]
    exact ⟨F, G, rfl, hm.1.2.1, aqN_rfl _ _ F⟩
theorem MN_wd {T : Fn} {n x0 lo hi : Int} {i w : Nat} {p : Int} {F G : Nat → Fn} {R : List (Int × Int × Int)} {K : Int32 → m_H → Option m_R} (hB : BY T n) (hT : TM F T n) (hm : MT F G T n p) (hx : 0 ≤ x0 ∧ x0 + 5 < 3012) (hi5 : i < 5) (hw : w < 37) (hl : (0 ≤ lo ∧ lo ≤ 9999) ∧ 0 ≤ hi ∧ hi ≤ 9999) (hK : ∀ c s, (c = 1 ∨ c = 2) → K (jI c) s = some (some (.int (jI c)), s)) (ok : ∀ F1 G1 q, TM F1 T n → MT F1 G1 T n q → MN T n x0 (i + 1) q F1 (K (jI 0) (mk F1 G1)) R) : MN T n x0 i p F (m_bI (m_M x k_M_worded [.ref 149, .long (jL (vr (SP.getD w []).reverse)), .int (jI (x0 + 1 + (i : Int))), .int (jI lo), .int (jI hi)] (mk F G)) K) (((w : Int), lo, hi) :: R) := by
  have hp := hm.2.1
  rw [E_M_worded, isO_149, if_pos rfl, M_isW x F G hB hm hw, b_I, show (0 : Int32) = jI 0 from rfl]
  by_cases q : kd T n p = (w : Int)
  · obtain ⟨F1, G1, y1, y2, y3⟩ := M_next x F G hT hm.1.1 (by have := tle_r (T := T) hp.1 hp.2; omega) (by have := tle_r (T := T) hp.1 hp.2; omega)
    rw [if_pos q, if_neg (by decide), y1, b_V]
    refine MN_w (F1 := F1) (agn_N y2) (by omega) q ?_
    have e : (m_bI (m_bI (m_M x k_M_figure [.ref 149, .int (jI (x0 + 1 + (i : Int))), .int (jI lo), .int (jI hi)] (mk F1 G1)) fun v20 s20 => some (some (.int v20), s20)) K) = m_bI (m_M x k_M_figure [.ref 149, .int (jI (x0 + 1 + (i : Int))), .int (jI lo), .int (jI hi)] (mk F1 G1)) K := by
      cases m_M x k_M_figure [.ref 149, .int (jI (x0 + 1 + (i : Int))), .int (jI lo), .int (jI hi)] (mk F1 G1) with
      | none => rfl
      | some r =>
        obtain ⟨v, s⟩ := r
        cases v with
        | none => rfl
        | some v => cases v <;> rfl
    rw [e]
    exact MN_fig x hB (aqN_TM (a := 0) (b := 0) (agn_N y2) hT) y3 hx hi5 hl hK (fun F2 G2 a b => ok F2 G2 _ a b)
  · rw [if_neg q, if_pos rfl, show (1 : Int32) = jI 1 from rfl, b_I, hK 1 _ (Or.inl rfl)]
    exact MN_no (aqN_rfl _ _ F) hm (by omega) q
end
