-- reading: a clause, the model
def aqC (t w x0 : Int) (F F2 : Nat → Fn) : Prop := (∀ o, ¬ o = 149 → ¬ o = 152 → ¬ o = 154 → F2 o = F o) ∧ (∀ z, z < 7 ∨ z = 12 ∨ z = 14 ∨ z = 15 ∨ 18 < z → F2 149 z = F 149 z) ∧ ∀ j, j ≤ x0 ∨ (x0 + 5 < j ∧ j < 753 * t + 145 + 2 * w) → F2 152 j = F 152 j
theorem aqN_C {t w x0 : Int} {F F2 : Nat → Fn} (h : aqN x0 (x0 + 5) F F2) : aqC t w x0 F F2 := ⟨fun o a b _ => h.1 o a b, fun z hz => h.2.1 z (by omega), fun j hj => h.2.2 j (by omega)⟩
def aqS (t : Int) (F F2 : Nat → Fn) : Prop := (∀ o, ¬ o = 149 → ¬ o = 152 → ¬ o = 154 → F2 o = F o) ∧ (∀ z, z < 7 ∨ z = 12 ∨ z = 15 ∨ 19 < z → F2 149 z = F 149 z) ∧ ∀ j, j < 753 * t → F2 152 j = F 152 j
theorem aqS_rfl (t : Int) (F : Nat → Fn) : aqS t F F := ⟨fun _ _ _ _ => rfl, fun _ _ => rfl, fun _ _ => rfl⟩
theorem aqS_tr {t : Int} {F F1 F2 : Nat → Fn} (h1 : aqS t F F1) (h2 : aqS t F1 F2) : aqS t F F2 := ⟨fun o a b c => (h2.1 o a b c).trans (h1.1 o a b c), fun z h => (h2.2.1 z h).trans (h1.2.1 z h), fun j h => (h2.2.2 j h).trans (h1.2.2 j h)⟩
theorem agn_S {t : Int} {F F2 : Nat → Fn} (h : agn F F2) : aqS t F F2 := ⟨fun o a _ _ => h.1 o a, fun z hz => h.2 z (by omega), fun j _ => by rw [h.1 152 (by omega)]⟩
theorem aqC_S {t w x0 : Int} {F F2 : Nat → Fn} (h : aqC t w x0 F F2) (hx : 753 * t ≤ x0) : aqS t F F2 := ⟨h.1, fun z hz => h.2.1 z (by omega), fun j hj => h.2.2 j (by omega)⟩
theorem aqS_TM {t : Int} {F F2 : Nat → Fn} {T : Fn} {n : Int} (h : aqS t F F2) (hT : TM F T n) : TM F2 T n := by
  obtain ⟨t1, t2, t3⟩ := hT
  exact ⟨by rw [h.2.1 4 (by omega)]; exact t1, t2, by rw [h.1 153 (by omega) (by omega) (by omega)]; exact t3⟩
noncomputable def ClK (x : m_X) (v : Int32) (s : m_H) : Option m_R := if v = 0 then ((m_fR s 11 2 149).bind fun v110 => (m_fI s 11 12 149).bind fun v114 => (m_ia x s v110 v114).bind fun v118 => (m_is s v110 v114 (v118 + (1 : Int32))).bind fun s121 => (m_fI s121 11 9 149).bind fun v123 => if v123 = 59 then (m_bV (m_M x k_M_nextToken [.ref 149] s121) fun s134 => some (some (.int 0), s134)) else some (some (.int 1), s121)) else some (some (.int v), s)
theorem bit16 : ∀ (m : Fin 16) (d : Fin 4), jI (m.val : Int) ||| (jI 1 <<< (jI (d.val : Int) &&& jI 31)) = jI ((m.val ||| 2 ^ d.val : Nat) : Int) ∧ m.val ||| 2 ^ d.val < 16 ∧ ∀ s : Fin 4, (m.val ||| 2 ^ d.val).testBit s.val = (m.val.testBit s.val || decide (s.val = d.val)) := by decide +kernel
section
variable (x : m_X) (F G : Nat → Fn)
theorem M_summedN {T : Fn} {n t s p w : Int} {r : (Int × Int) ⊕ (Int × LEnv)} (hB : BY T n) (hT : TM F T n) (hm : MT F G T n p) (ht : 0 ≤ t ∧ t ≤ 3) (h12 : F 149 12 = 753 * t) (h13 : F 149 13 = w) (h14 : F 149 14 = s) (hw : 0 ≤ w ∧ w ≤ p) (c2 : Mok x 5 false cq (ctxA 4) 3 T n t s p 0 r) (c3 : ∀ q, r = .inr q → (p < q.1 ∧ q.1 ≤ n) ∧ bdE q.2 ∧ ¬ kd T n q.1 = 41 ∧ ¬ kd T n q.1 = 42 ∧ ¬ kd T n q.1 = 43 ∧ ¬ kd T n q.1 = 44) : Sum.elim (fun e => ∃ F2 G2, m_M x k_M_summed [.ref 149] (mk F G) = some (some (.int (jI e.1)), mk F2 G2) ∧ F2 149 8 = e.2 ∧ aqM t w F F2) (fun q => ∃ F2 G2 w3, m_M x k_M_summed [.ref 149] (mk F G) = some (some (.int (jI 0)), mk F2 G2) ∧ MT F2 G2 T n q.1 ∧ F2 149 13 = w3 ∧ aqM t w F F2 ∧ w < w3 ∧ w3 - w ≤ q.1 - p ∧ MCo s (cod t F2) w w3 q.2) r := by
  generalize hF1 : sA (sA (sA F 149 (u (F 149) 16 0)) 149 (u (sA F 149 (u (F 149) 16 0) 149) 17 0)) 149 (u (sA (sA F 149 (u (F 149) 16 0)) 149 (u (sA F 149 (u (F 149) 16 0) 149) 17 0) 149) 18 0) = F1
  have top : m_M x k_M_summed [.ref 149] (mk F G) = LH x none F1 G := by
    rw [E_M_summed, isO_149, if_pos rfl, show (0 : Int32) = jI 0 from rfl, pf_149_16, Option.bind_some, pf_149_17, Option.bind_some, pf_149_18, Option.bind_some, hF1]
    rfl
  have f1 : ∀ b, ¬ b = 149 → F1 b = F b := fun b hb => by rw [← hF1, sA_ne _ _ hb, sA_ne _ _ hb, sA_ne _ _ hb]
  have f2 : ∀ z, ¬ z = 16 → ¬ z = 17 → ¬ z = 18 → F1 149 z = F 149 z := fun z h1 h2 h3 => by rw [← hF1, sA_eq, u_ne _ _ h3, sA_eq, u_ne _ _ h2, sA_eq, u_ne _ _ h1]
  have a1 : aqM t w F F1 := ⟨fun b b1 _ _ => f1 b b1, fun z hz => f2 z (by omega) (by omega) (by omega), fun j _ => by rw [f1 152 (by omega)]⟩
  have st : STa F1 G T n t s p [] 0 w 0 := by
    obtain ⟨t1, t2, t3⟩ := hT
    obtain ⟨⟨m1, m2, m3⟩, m4, m5, m6⟩ := hm
    refine ⟨⟨⟨by rw [f2 4 (by omega) (by omega) (by omega)]; exact t1, t2, by rw [f1 153 (by omega)]; exact t3⟩, ⟨by rw [f2 7 (by omega) (by omega) (by omega)]; exact m1, by rw [f2 8 (by omega) (by omega) (by omega)]; exact m2, by rw [f2 9 (by omega) (by omega) (by omega)]; exact m3⟩, m4, by rw [f2 10 (by omega) (by omega) (by omega)]; exact m5, m6⟩, ⟨by rw [f2 12 (by omega) (by omega) (by omega)]; exact h12, by rw [f2 14 (by omega) (by omega) (by omega)]; exact h14⟩, ⟨?_, True.intro⟩, ?_, by rw [f2 13 (by omega) (by omega) (by omega)]; exact h13, ?_⟩
    · rw [← hF1, sA_eq, u_ne _ _ (by omega), sA_eq, u_ne _ _ (by omega), sA_eq, u_eq]; rfl
    · rw [← hF1, sA_eq, u_ne _ _ (by omega), sA_eq, u_eq]
    · rw [← hF1, sA_eq, u_eq]
  have go := c2 F1 G none [] w rfl st (fun z hz => (by cases hz)) ⟨fun _ h => (by cases h), fun z R hz => (by cases hz)⟩ (by simp) hw.1 hw.2
  rw [top]
  cases r with
  | inl e =>
    obtain ⟨F2, G2, y1, y2, y3⟩ := go
    exact ⟨F2, G2, y1, y3, aqM_tr a1 y2 (Int.le_refl _)⟩
  | inr q =>
    obtain ⟨q1, q2, q3, q4, q5, q6⟩ := c3 q rfl
    obtain ⟨F2, G2, F3, d2, w3, y0, y1, y2, y3, y4, y5, y6, y7⟩ := go
    obtain ⟨O, op2, w2, z1, z2, z3, z4, z5, z6, z7⟩ := y2
    have on : oN (O ++ []) = -1 := z4
    have bh := BH_none x F2 G2 hB y0 z1 z2 (by omega) (by unfold btw; rw [if_neg q3, if_neg q4, if_neg q5, if_neg q6, if_pos (by rw [on]; omega)]) (by unfold prt; rw [on]; rfl)
    rw [if_pos on, z6 1 (by omega) (by omega), M_stop x F3 G2 (l := 1) z7 (fun z hz => (by cases hz)) (by simp) (fun z R hz => by cases hz) (by omega), b_V] at bh
    refine ⟨F3, G2, w3, by rw [y1]; exact bh, z7.1.2, z7.2.2.2.2.1, aqM_tr a1 y4 (Int.le_refl _), y5, y6, y7⟩
theorem M_lawN {T : Fn} {n t s p w k : Int} {r : (Int × Int) ⊕ (Int × LEnv)} (hB : BY T n) (hT : TM F T n) (hm : MT F G T n p) (ht : 0 ≤ t ∧ t ≤ 3) (hs : 0 ≤ s ∧ s ≤ 3) (hk : 0 ≤ k ∧ k < 24) (h12 : F 149 12 = 753 * t) (h13 : F 149 13 = w) (h14 : F 149 14 = s) (hw : 0 ≤ w ∧ w ≤ p) (c2 : Mok x 5 false cq (ctxA 4) 3 T n t s p 0 r) (c3 : ∀ q, r = .inr q → (p < q.1 ∧ q.1 ≤ n) ∧ bdE q.2 ∧ ¬ kd T n q.1 = 41 ∧ ¬ kd T n q.1 = 42 ∧ ¬ kd T n q.1 = 43 ∧ ¬ kd T n q.1 = 44) : Sum.elim (fun e => ∃ F2 G2, m_M x k_M_body [.ref 149, .int (jI s), .int (jI (753 * t + 1 + 6 * k))] (mk F G) = some (some (.int (jI e.1)), mk F2 G2) ∧ F2 149 8 = e.2 ∧ aqC t w (753 * t + 1 + 6 * k) F F2) (fun q => ∃ F2 G2 w3, m_M x k_M_body [.ref 149, .int (jI s), .int (jI (753 * t + 1 + 6 * k))] (mk F G) = some (some (.int (jI 0)), mk F2 G2) ∧ MT F2 G2 T n q.1 ∧ F2 149 13 = w3 ∧ aqC t w (753 * t + 1 + 6 * k) F F2 ∧ w < w3 ∧ w3 - w ≤ q.1 - p ∧ F2 152 (753 * t + 1 + 6 * k + 1) = w ∧ F2 152 (753 * t + 1 + 6 * k + 2) = w3 ∧ MCo s (fun j => F2 152 (753 * t + 145 + j)) w w3 q.2) r := by
  have s3 : s = 0 ∨ s = 1 ∨ s = 2 ∨ s = 3 := by omega
  have bod : m_M x k_M_body [.ref 149, .int (jI s), .int (jI (753 * t + 1 + 6 * k))] (mk F G) = m_bI (m_M x k_M_lawClause [.ref 149, .int (jI (753 * t + 1 + 6 * k))] (mk F G)) fun v170 s170 => some (some (.int v170), s170) := by
    rw [E_M_body, isO_149, if_pos rfl]
    rcases s3 with e | e | e | e <;> rw [e, if_neg (by decide), if_neg (by decide), if_neg (by decide), if_neg (by decide), if_neg (by decide), if_neg (by decide), if_neg (by decide), if_neg (by decide)]
  generalize hF1 : sA F 152 (u (F 152) (753 * t + 1 + 6 * k + 1) w) = F1
  have f1 : ∀ b, ¬ b = 152 → F1 b = F b := fun b hb => by rw [← hF1, sA_ne _ _ hb]
  have f149 := f1 149 (by omega)
  have hT1 : TM F1 T n := by
    obtain ⟨t1, t2, t3⟩ := hT
    exact ⟨by rw [f149]; exact t1, t2, by rw [f1 153 (by omega)]; exact t3⟩
  have hm1 : MT F1 G T n p := by
    unfold MT
    rw [f149]
    exact hm
  have go := M_summedN x F1 G hB hT1 hm1 ht (by rw [f149]; exact h12) (by rw [f149]; exact h13) (by rw [f149]; exact h14) hw c2 c3
  have lc : m_M x k_M_lawClause [.ref 149, .int (jI (753 * t + 1 + 6 * k))] (mk F G) = m_bI (m_M x k_M_summed [.ref 149] (mk F1 G)) fun v13 s13 => (m_fR s13 11 2 149).bind fun v18 => (m_fI s13 11 13 149).bind fun v25 => (m_is s13 v18 (jI (753 * t + 1 + 6 * k + 2)) v25).bind fun s28 => some (some (.int v13), s28) := by
    rw [E_M_lawClause, isO_149, if_pos rfl, fR_149_2, Option.bind_some, fI_149_13, Option.bind_some, h13, show (1 : Int32) = jI 1 from rfl, jI_add, is_152 _ _ _ (by omega) (by omega), Option.bind_some, hF1, lit_2, jI_add]
  have fin : ∀ (F2 G2 : Nat → Fn) (c : Int), m_M x k_M_summed [.ref 149] (mk F1 G) = some (some (.int (jI c)), mk F2 G2) → m_M x k_M_body [.ref 149, .int (jI s), .int (jI (753 * t + 1 + 6 * k))] (mk F G) = some (some (.int (jI c)), mk (sA F2 152 (u (F2 152) (753 * t + 1 + 6 * k + 2) (F2 149 13))) G2) := by
    intro F2 G2 c e
    rw [bod, lc, e, b_I, fR_149_2, Option.bind_some, fI_149_13, Option.bind_some, is_152 _ _ _ (by omega) (by omega), Option.bind_some, b_I]
  have fr : ∀ (F2 : Nat → Fn), aqM t w F1 F2 → aqC t w (753 * t + 1 + 6 * k) F (sA F2 152 (u (F2 152) (753 * t + 1 + 6 * k + 2) (F2 149 13))) := by
    intro F2 h
    refine ⟨fun o o1 o2 o3 => ?_, fun z hz => ?_, fun j hj => ?_⟩
    · rw [sA_ne _ _ o2, h.1 o o1 o2 o3, f1 o o2]
    · rw [sA_ne _ _ (by omega), h.2.1 z (by omega), f149]
    · rw [sA_eq, u_ne _ _ (by omega), h.2.2 j (by omega), ← hF1, sA_eq, u_ne _ _ (by omega)]
  cases r with
  | inl e =>
    obtain ⟨F2, G2, y1, y2, y3⟩ := go
    exact ⟨_, G2, fin F2 G2 e.1 y1, by rw [sA_ne _ _ (by omega)]; exact y2, fr F2 y3⟩
  | inr q =>
    obtain ⟨F2, G2, w3, y1, y2, y3, y4, y5, y6, y7⟩ := go
    refine ⟨_, G2, w3, fin F2 G2 0 y1, ?_, ?_, fr F2 y4, y5, y6, ?_, ?_, ?_⟩
    · unfold MT
      rw [sA_ne _ _ (by omega)]
      exact y2
    · rw [sA_ne _ _ (by omega)]; exact y3
    · rw [sA_eq, u_ne _ _ (by omega), y4.2.2 _ (by omega), ← hF1, sA_eq, u_eq]
    · rw [sA_eq, u_eq]; exact y3
    · refine MC_loc (T1 := cod t F2) (fun z z0 z1 => ?_) y7
      show sA F2 152 _ 152 (753 * t + 145 + z) = F2 152 (753 * t + 145 + z)
      rw [sA_eq, u_ne _ _ (by omega)]
/-- the end of a clause -/
theorem M_tail0 {v : Int} {s : m_H} (hv : 1 ≤ v ∧ v ≤ 6) : ClK x (jI v) s = some (some (.int (jI v)), s) := by
  unfold ClK
  rw [show (0 : Int32) = jI 0 from rfl, if_neg (by rw [jI_eq (by omega) (by omega) (by omega) (by omega)]; omega)]
theorem M_tail1 {T : Fn} {n t q k : Int} (hB : BY T n) (hT : TM F T n) (hm : MT F G T n q) (ht : 0 ≤ t ∧ t ≤ 3) (h12 : F 149 12 = 753 * t) (hk : F 152 (753 * t) = k) : (kd T n q = 47 ∧ ∃ F2 G2, ClK x (jI 0) (mk F G) = some (some (.int (jI 0)), mk F2 G2) ∧ aqS t F F2 ∧ MT F2 G2 T n (nxp T n q) ∧ F2 152 = u (F 152) (753 * t) (k + 1) ∧ F2 149 13 = F 149 13 ∧ F2 149 19 = F 149 19) ∨ (¬ kd T n q = 47 ∧ ∃ F2, ClK x (jI 0) (mk F G) = some (some (.int (jI 1)), mk F2 G) ∧ aqS t F F2 ∧ F2 149 8 = q) := by
  have hp := hm.2.1
  have k47 := (kts hB hp.1).2.1.2.2
  have tr : -10 ≤ tok T n q ∧ tok T n q ≤ 1000 := by
    rcases kt hB hp.1 with ⟨_, _, e⟩ | ⟨_, _, e, _⟩ | ⟨_, _, e⟩ | ⟨_, c, hc, _, e⟩ | ⟨_, _, e | e⟩
    · omega
    · omega
    · omega
    · have := (show ∀ c : Fin 13, -10 ≤ ([43, 45, 42, 47, 40, 41, 59, 60, 62, 61, 35, 4, 5] : List Int).getD c.val 0 ∧ ([43, 45, 42, 47, 40, 41, 59, 60, 62, 61, 35, 4, 5] : List Int).getD c.val 0 ≤ 1000 by decide +kernel) ⟨c, hc⟩
      simp only at this
      omega
    · omega
    · omega
  generalize hF1 : sA F 152 (u (F 152) (753 * t) (k + 1)) = F1
  have f1 : ∀ b, ¬ b = 152 → F1 b = F b := fun b hb => by rw [← hF1, sA_ne _ _ hb]
  have f149 := f1 149 (by omega)
  have a1 : aqS t F F1 := ⟨fun o _ o2 _ => f1 o o2, fun z _ => by rw [f149], fun j hj => by rw [← hF1, sA_eq, u_ne _ _ (by omega)]⟩
  have m1 : MT F1 G T n q := by
    unfold MT
    rw [f149]
    exact hm
  unfold ClK
  rw [if_pos (show jI 0 = 0 from rfl), fR_149_2, Option.bind_some, fI_149_12, Option.bind_some, h12, ia_152 x F G (by omega) (by omega), Option.bind_some, hk, show (1 : Int32) = jI 1 from rfl, jI_add, is_152 _ _ _ (by omega) (by omega), Option.bind_some, hF1, fI_149_9, Option.bind_some, m1.1.2.2, show (59 : Int32) = jI 59 from by decide]
  by_cases q47 : kd T n q = 47
  · left
    obtain ⟨F2, G2, y1, y2, y3⟩ := M_next x F1 G (aqS_TM a1 hT) m1.1.1 (by have := tle_r (T := T) hp.1 hp.2; omega) (by have := tle_r (T := T) hp.1 hp.2; omega)
    refine ⟨q47, F2, G2, ?_, aqS_tr a1 (agn_S y2), y3, ?_, ?_, ?_⟩
    · rw [if_pos (by rw [k47.2 q47]), y1, b_V]; rfl
    · rw [y2.1 152 (by omega), ← hF1, sA_eq]
    · rw [y2.2 13 (by omega), f149]
    · rw [y2.2 19 (by omega), f149]
  · right
    refine ⟨q47, F1, ?_, a1, m1.1.2.1⟩
    rw [if_neg (by rw [jI_eq (by omega) (by omega) (by omega) (by omega)]; exact fun z => q47 (k47.1 z))]
/-- the start of a clause -/
theorem M_head {T : Fn} {n t p k : Int} {m : Nat} (hB : BY T n) (hT : TM F T n) (hm : MT F G T n p) (ht : 0 ≤ t ∧ t ≤ 3) (h12 : F 149 12 = 753 * t) (hk : F 152 (753 * t) = k) (k0 : 0 ≤ k) (k1 : k ≤ 24) (h19 : F 149 19 = (m : Int)) (m16 : m < 16) : (11 < kd T n p → m_M x k_M_clause [.ref 149] (mk F G) = some (some (.int (jI 1)), mk F G)) ∧ (kd T n p ≤ 3 → m.testBit (kd T n p).toNat = true → m_M x k_M_clause [.ref 149] (mk F G) = some (some (.int (jI 4)), mk F G)) ∧ (kd T n p ≤ 11 → (kd T n p ≤ 3 → m.testBit (kd T n p).toNat = false) → k = 24 → m_M x k_M_clause [.ref 149] (mk F G) = some (some (.int (jI 6)), mk F G)) ∧ (kd T n p ≤ 11 → (kd T n p ≤ 3 → m.testBit (kd T n p).toNat = false) → k < 24 → ∃ F2 G2 m2, m_M x k_M_clause [.ref 149] (mk F G) = (m_bI (m_M x k_M_body [.ref 149, .int (jI (kd T n p)), .int (jI (753 * t + 1 + 6 * k))] (mk F2 G2)) (ClK x)) ∧ aqS t F F2 ∧ MT F2 G2 T n (nxp T n p) ∧ F2 149 13 = F 149 13 ∧ F2 149 14 = kd T n p ∧ F2 149 19 = ((m2 : Nat) : Int) ∧ m2 < 16 ∧ (∀ s : Nat, s < 4 → m2.testBit s = (m.testBit s || decide ((s : Int) = kd T n p))) ∧ F2 152 = u (F 152) (753 * t + 1 + 6 * k) (kd T n p)) := by
  have kr := kd_r T n p
  have hp := hm.2.1
  have top : m_M x k_M_clause [.ref 149] (mk F G) = if kd T n p ≤ 11 then (if kd T n p ≤ 3 ∧ m.testBit (kd T n p).toNat = true then some (some (.int (jI 4)), mk F G) else m_D x 11 k_M_clause 29 [some (.ref 149), some (.int (jI (kd T n p))), none, none, none] [] (mk F G)) else some (some (.int (jI 1)), mk F G) := by
    rw [E_M_clause, isO_149, if_pos rfl, M_sortOf x F G hB hm, b_I, show (0 : Int32) = jI 0 from rfl]
    by_cases q : kd T n p ≤ 11
    · rw [if_pos q, if_pos (by rw [jI_le (by omega) (by omega) (by omega) (by omega)]; omega), if_pos q, show (3 : Int32) = jI 3 from by decide]
      by_cases q3 : kd T n p ≤ 3
      · rw [if_neg (by rw [jI_lt (by omega) (by omega) (by omega) (by omega)]; omega), fI_149_19, Option.bind_some, h19, M_has x F G (a := m) kr.1 (by omega), b_I]
        by_cases q4 : m.testBit (kd T n p).toNat = true
        · rw [if_pos q4, if_neg (by decide), if_pos ⟨q3, q4⟩]; rfl
        · rw [if_neg q4, if_pos rfl, if_neg (fun z => q4 z.2)]
      · rw [if_pos (by rw [jI_lt (by omega) (by omega) (by omega) (by omega)]; omega), if_neg (fun z => q3 z.1)]
    · rw [if_neg q, if_neg (by decide), if_neg q]; rfl
  have t29 : kd T n p ≤ 11 → (kd T n p ≤ 3 → m.testBit (kd T n p).toNat = false) → m_M x k_M_clause [.ref 149] (mk F G) = m_D x 11 k_M_clause 29 [some (.ref 149), some (.int (jI (kd T n p))), none, none, none] [] (mk F G) := by
    intro q h
    rw [top, if_pos q, if_neg (fun z => by rw [h z.1] at z; exact absurd z.2 (by decide))]
  refine ⟨fun q => by rw [top, if_neg (by omega)], fun q q4 => by rw [top, if_pos (by omega), if_pos ⟨q, q4⟩], ?_, ?_⟩
  · intro q h k24
    rw [t29 q h, E_M_clause_29 x 11 (by omega), fR_149_2, Option.bind_some, fI_149_12, Option.bind_some, h12, ia_152 x F G (by omega) (by omega), Option.bind_some, hk, show (24 : Int32) = jI 24 from by decide, if_pos (by rw [k24])]
    rfl
  · intro q h k24
    -- from 65 on
    have d65 : ∀ (F1 : Nat → Fn) (m2 : Nat), aqS t F F1 → MT F1 G T n p → F1 149 13 = F 149 13 → F1 149 19 = ((m2 : Nat) : Int) → m2 < 16 → F1 152 = F 152 → (∀ s : Nat, s < 4 → m2.testBit s = (m.testBit s || decide ((s : Int) = kd T n p))) → ∃ F2 G2 m2, m_D x 11 k_M_clause 65 [some (.ref 149), some (.int (jI (kd T n p))), some (.int (jI k)), none, none] [] (mk F1 G) = (m_bI (m_M x k_M_body [.ref 149, .int (jI (kd T n p)), .int (jI (753 * t + 1 + 6 * k))] (mk F2 G2)) (ClK x)) ∧ aqS t F F2 ∧ MT F2 G2 T n (nxp T n p) ∧ F2 149 13 = F 149 13 ∧ F2 149 14 = kd T n p ∧ F2 149 19 = ((m2 : Nat) : Int) ∧ m2 < 16 ∧ (∀ s : Nat, s < 4 → m2.testBit s = (m.testBit s || decide ((s : Int) = kd T n p))) ∧ F2 152 = u (F 152) (753 * t + 1 + 6 * k) (kd T n p) := by
      intro F1 m2 a1 hm1 e13 e19 m216 e152 ebit
      generalize hF3 : sA F1 149 (u (F1 149) 14 (kd T n p)) = F3
      have g1 : ∀ b, ¬ b = 149 → F3 b = F1 b := fun b hb => by rw [← hF3, sA_ne _ _ hb]
      have g2 : ∀ z, ¬ z = 14 → F3 149 z = F1 149 z := fun z hz => by rw [← hF3, sA_eq, u_ne _ _ hz]
      have g14 : F3 149 14 = kd T n p := by rw [← hF3, sA_eq, u_eq]
      have a3 : aqS t F1 F3 := ⟨fun o o1 _ _ => g1 o o1, fun z hz => g2 z (by omega), fun j _ => by rw [g1 152 (by omega)]⟩
      have t3 := aqS_TM (aqS_tr a1 a3) hT
      obtain ⟨F4, G4, y1, y2, y3⟩ := M_next x F3 G (n := n) (T := T) t3 (show F3 149 7 = tle T n p by rw [g2 7 (by omega)]; exact hm1.1.1) (by have := tle_r (T := T) hp.1 hp.2; omega) (by have := tle_r (T := T) hp.1 hp.2; omega)
      have a4 : aqS t F F4 := aqS_tr a1 (aqS_tr a3 (agn_S y2))
      have e12 : F4 149 12 = 753 * t := by rw [a4.2.1 12 (by omega)]; exact h12
      generalize hF5 : sA F4 152 (u (F4 152) (753 * t + 1 + 6 * k) (kd T n p)) = F5
      have h1 : ∀ b, ¬ b = 152 → F5 b = F4 b := fun b hb => by rw [← hF5, sA_ne _ _ hb]
      have h149 := h1 149 (by omega)
      refine ⟨F5, G4, m2, ?_, aqS_tr a4 ⟨fun o _ o2 _ => h1 o o2, fun z _ => by rw [h149], fun j hj => by rw [← hF5, sA_eq, u_ne _ _ (by omega)]⟩, ?_, ?_, ?_, ?_, m216, ebit, ?_⟩
      · rw [E_M_clause_65 x 11 (by omega), pf_149_14, Option.bind_some, hF3, y1, b_V, fI_149_12, Option.bind_some, e12, fR_149_2, Option.bind_some, show (1 : Int32) = jI 1 from rfl, jI_add, show (6 : Int32) = jI 6 from by decide, jI_mul, jI_add, is_152 _ _ _ (by omega) (by omega), Option.bind_some, hF5]
        rfl
      · unfold MT
        rw [h149]
        exact y3
      · rw [h149, y2.2 13 (by omega), g2 13 (by omega)]; exact e13
      · rw [h149, y2.2 14 (by omega)]; exact g14
      · rw [h149, y2.2 19 (by omega), g2 19 (by omega)]; exact e19
      · rw [← hF5, sA_eq, y2.1 152 (by omega), g1 152 (by omega), e152]
    have e29 : m_D x 11 k_M_clause 29 [some (.ref 149), some (.int (jI (kd T n p))), none, none, none] [] (mk F G) = if 3 < kd T n p then (m_D x 11 k_M_clause 65 [some (.ref 149), some (.int (jI (kd T n p))), some (.int (jI k)), none, none] [] (mk F G)) else (m_pf (mk F G) 11 19 149 (.int (jI (m : Int) ||| (jI 1 <<< (jI (kd T n p) &&& jI 31))))).bind fun s62 => m_D x 11 k_M_clause 65 [some (.ref 149), some (.int (jI (kd T n p))), some (.int (jI k)), none, none] [] s62 := by
      rw [E_M_clause_29 x 11 (by omega), fR_149_2, Option.bind_some, fI_149_12, Option.bind_some, h12, ia_152 x F G (by omega) (by omega), Option.bind_some, hk, show (24 : Int32) = jI 24 from by decide, if_neg (by rw [jI_eq (by omega) (by omega) (by omega) (by omega)]; omega), show (3 : Int32) = jI 3 from by decide, fI_149_19, Option.bind_some, h19, show (1 : Int32) = jI 1 from rfl, show (31 : Int32) = jI 31 from by decide]
      by_cases q3 : 3 < kd T n p
      · rw [if_pos (by rw [jI_lt (by omega) (by omega) (by omega) (by omega)]; omega), if_pos q3]
      · rw [if_neg (by rw [jI_lt (by omega) (by omega) (by omega) (by omega)]; omega), if_neg q3]
    rw [t29 q h, e29]
    by_cases q3 : 3 < kd T n p
    · rw [if_pos q3]
      refine d65 F m (aqS_rfl t F) hm rfl h19 m16 rfl ?_
      intro s hs
      rw [show decide ((s : Int) = kd T n p) = false from decide_eq_false (by omega), Bool.or_false]
    · obtain ⟨b1, b2, b3⟩ := bit16 ⟨m, m16⟩ ⟨(kd T n p).toNat, by omega⟩
      simp only at b1 b2 b3
      rw [show (((kd T n p).toNat : Nat) : Int) = kd T n p by omega] at b1
      rw [if_neg q3, b1, pf_149_19, Option.bind_some]
      refine d65 _ (m ||| 2 ^ (kd T n p).toNat) ?_ ?_ ?_ ?_ b2 ?_ ?_
      · exact ⟨fun o o1 _ _ => by rw [sA_ne _ _ o1], fun z hz => by rw [sA_eq, u_ne _ _ (by omega)], fun j _ => by rw [sA_ne _ _ (by omega)]⟩
      · unfold MT
        rw [sA_eq, u_ne _ _ (by omega), u_ne _ _ (by omega), u_ne _ _ (by omega), u_ne _ _ (by omega)]
        exact hm
      · rw [sA_eq, u_ne _ _ (by omega)]
      · rw [sA_eq, u_eq]
      · rw [sA_ne _ _ (by omega)]
      · intro s hs
        have := b3 ⟨s, hs⟩
        simp only at this
        rw [this]
        congr 1
        have e : s = (kd T n p).toNat ↔ (s : Int) = kd T n p := by omega
        simp only [e]
end
