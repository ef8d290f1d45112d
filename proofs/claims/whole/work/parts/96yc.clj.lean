-- reading: a clause, both
theorem TXG_cg {k L W t : Int} {Kd St Sp Cd Lw X X2 : Fn} (hX : ∀ j, 753 * t + 1 ≤ j → X2 j = X j) (h : TXG k L W t Kd St Sp Cd Lw X) : TXG k L W t Kd St Sp Cd Lw X2 := by
  obtain ⟨h1, h2, h3⟩ := h
  refine ⟨?_, ?_, ?_⟩
  · intro j j0 j1
    rw [hX _ (by omega)]
    exact h1 j j0 j1
  · intro j j0 j1 j4 i i0 i1
    rw [hX _ (by omega)]
    exact h2 j j0 j1 j4 i i0 i1
  · intro s s0 s1
    rcases h3 s s0 s1 with a | ⟨a1, a2, a3, f, f1, f2, f3, f4, f5⟩
    · exact Or.inl a
    · right
      refine ⟨a1, a2, a3, f, f1, f2, ?_, ?_, ?_⟩
      · rw [hX (753 * t + 1 + 6 * Lw s + 1) (by omega), hX (753 * t + 1 + 6 * Lw s + 2) (by omega)]
        exact MC_loc (fun z z0 _ => hX _ (by omega)) f3
      · rw [hX _ (by omega)]; exact f4
      · rw [hX _ (by omega)]; exact f5
def mskOK (Fc Fm : Nat → Fn) : Prop := ∃ m : Nat, Fm 149 19 = (m : Int) ∧ m < 16 ∧ ∀ s : Nat, s < 4 → (m.testBit s = true ↔ ¬ Fc 134 (s : Int) = -1)
def J (T : Fn) (n t : Int) (Fc Fm Gm : Nat → Fn) (p k : Int) : Prop := ((TP Fc T n ∧ CT Fc T n p) ∧ Fc 129 5 = k ∧ (0 ≤ k ∧ k ≤ 24) ∧ 0 ≤ Fc 129 6 ∧ Fc 129 6 ≤ p) ∧ ((TM Fm T n ∧ MT Fm Gm T n p) ∧ Fm 149 12 = 753 * t ∧ Fm 152 (753 * t) = k ∧ 0 ≤ Fm 149 13 ∧ Fm 149 13 ≤ p) ∧ mskOK Fc Fm ∧ TXG k (Fc 129 6) (Fm 149 13) t (Fc 130) (Fc 131) (Fc 132) (Fc 133) (Fc 134) (Fm 152)
theorem NF_ok {T : Fn} {n : Int} : ∀ (R : List (Int × Int × Int)) (p : Int) (q : Int × List Int), (∀ r ∈ R, 0 ≤ r.2.1 ∧ r.2.2 ≤ 9999) → NF T n R p = .inr q → q.2.length = R.length ∧ ∀ j : Nat, j < q.2.length → 0 ≤ q.2.getD j 0 ∧ q.2.getD j 0 ≤ 9999 := by
  intro R
  induction R with
  | nil =>
    intro p q _ h
    rw [NF] at h
    injection h with h
    rw [← h]
    exact ⟨rfl, fun j hj => absurd hj (by simp)⟩
  | cons r R ih =>
    intro p q hR h
    rw [NF] at h
    by_cases c1 : ¬ r.1 = -1 ∧ ¬ kd T n p = r.1
    · rw [if_pos c1] at h; cases h
    · rw [if_neg c1] at h
      by_cases c2 : ¬ kd T n (hed T n r.1 p) = 51
      · rw [if_pos c2] at h; cases h
      · rw [if_neg c2] at h
        by_cases c3 : ¬ (r.2.1 ≤ cv T n (hed T n r.1 p) ∧ cv T n (hed T n r.1 p) ≤ r.2.2)
        · rw [if_pos c3] at h; cases h
        · rw [if_neg c3] at h
          have rr := hR r List.mem_cons_self
          have c4 : r.2.1 ≤ cv T n (hed T n r.1 p) ∧ cv T n (hed T n r.1 p) ≤ r.2.2 := Classical.not_not.1 c3
          cases e : NF T n R (nxp T n (hed T n r.1 p)) with
          | inl z => rw [e] at h; cases h
          | inr z =>
            rw [e] at h
            have h' : (Sum.inr (z.1, cv T n (hed T n r.1 p) :: z.2) : (Int × Int) ⊕ (Int × List Int)) = .inr q := h
            injection h' with h'
            obtain ⟨i1, i2⟩ := ih _ z (fun a ha => hR a (List.mem_cons_of_mem _ ha)) e
            rw [← h']
            refine ⟨by simp only [List.length_cons]; omega, ?_⟩
            intro j hj
            cases j with
            | zero =>
              show 0 ≤ cv T n (hed T n r.1 p) ∧ cv T n (hed T n r.1 p) ≤ 9999
              omega
            | succ j =>
              simp only [List.length_cons] at hj
              exact i2 j (by omega)
theorem sel_ok : ∀ d : Fin 12, 4 ≤ d.val → ((sel (d.val : Int) FRW).length : Int) = cnt (d.val : Int) ∧ ∀ r ∈ sel (d.val : Int) FRW, 0 ≤ r.2.1 ∧ r.2.2 ≤ 9999 := by decide +kernel
section
variable (x : m_X)
theorem J_tail (hX : XOK x) {T : Fn} {n t q k : Int} {Fc Fm Gc Gm : Nat → Fn} (hB : BY T n) (hn : 0 ≤ n ∧ n ≤ 300) (ht : 0 ≤ t ∧ t ≤ 3) (hT : TP Fc T n) (hc : CT Fc T n q) (hk : Fc 129 5 = k) (k0 : 0 ≤ k ∧ k < 24) (hl : 0 ≤ Fc 129 6 ∧ Fc 129 6 ≤ q) (tm : TM Fm T n) (mt : MT Fm Gm T n q) (h12 : Fm 149 12 = 753 * t) (hk2 : Fm 152 (753 * t) = k) (hw : 0 ≤ Fm 149 13 ∧ Fm 149 13 ≤ q) (hm : mskOK Fc Fm) (tx : TXG (k + 1) (Fc 129 6) (Fm 149 13) t (Fc 130) (Fc 131) (u (Fc 132) k (Fc 129 6)) (Fc 133) (Fc 134) (Fm 152)) : (∃ F4 F4m, m_D x 97 k_Reader_readClause 115 [some (.ref 128), none] [.int (jI 1)] (mk Fc Gc) = some (some (.int (jI 0)), mk F4 Gc) ∧ F4 128 3 = 1 ∧ F4 128 4 = q ∧ aqR Fc F4 ∧ ClK x (jI 0) (mk Fm Gm) = some (some (.int (jI 1)), mk F4m Gm) ∧ F4m 149 8 = q ∧ aqS t Fm F4m) ∨ (∃ F4 F4m G4m, m_D x 97 k_Reader_readClause 115 [some (.ref 128), none] [.int (jI 1)] (mk Fc Gc) = some (some (.int (jI 1)), mk F4 Gc) ∧ ClK x (jI 0) (mk Fm Gm) = some (some (.int (jI 0)), mk F4m G4m) ∧ J T n t F4 F4m G4m (nxp T n q) (k + 1) ∧ aqQ Fc F4 ∧ aqS t Fm F4m) := by
  have hp := hc.2.1
  have nx := nxp_r (T := T) (n := n) (p := q) hp.1 hp.2
  rcases C_tail1 x Fc Gc hX hT hc hk k0.1 k0.2 ⟨hl.1, by omega⟩ with ⟨a1, F4, y1, y2, y3, y4, y5, y6, y7, y8, y9, y10⟩ | ⟨a1, F4, y1, y2, y3, y4⟩
  · rcases M_tail1 x Fm Gm hB tm mt ht h12 hk2 with ⟨_, F4m, G4m, z1, z2, z3, z4, z5, z6⟩ | ⟨b1, _⟩
    · right
      refine ⟨F4, F4m, G4m, y1, z1, ⟨⟨⟨aqR_TP y2.1 hT, y3⟩, y4, by omega, by omega, by omega⟩, ⟨⟨aqS_TM z2 tm, z3⟩, ?_, ?_, by omega, by omega⟩, ?_, ?_⟩, y2, z2⟩
      · rw [z2.2.1 12 (by omega)]; exact h12
      · rw [z4, u_eq]
      · obtain ⟨m, m1, m2, m3⟩ := hm
        exact ⟨m, by rw [z6]; exact m1, m2, by rw [y10]; exact m3⟩
      · rw [y5, z5, y6, y7, y8, y9, y10, z4]
        exact TXG_cg (fun j hj => u_ne _ _ (by omega)) tx
    · exact absurd a1 b1
  · rcases M_tail1 x Fm Gm hB tm mt ht h12 hk2 with ⟨b1, _⟩ | ⟨_, F4m, z1, z2, z3⟩
    · exact absurd b1 a1
    · exact Or.inl ⟨F4, F4m, y1, y3, y4, y2, z1, z3, z2⟩
theorem J_clause (hX : XOK x) {T : Fn} {n t p k : Int} {Fc Fm Gc Gm : Nat → Fn} (hB : BY T n) (hn : 0 ≤ n ∧ n ≤ 300) (ht : 0 ≤ t ∧ t ≤ 3) (hJ : J T n t Fc Fm Gm p k) : (∃ c pl F4 F4m G4m, (1 ≤ c ∧ c ≤ 6) ∧ (0 ≤ pl ∧ pl ≤ 300) ∧ m_M x k_Reader_readClause [.ref 128] (mk Fc Gc) = some (some (.int (jI 0)), mk F4 Gc) ∧ F4 128 3 = c ∧ F4 128 4 = pl ∧ aqR Fc F4 ∧ m_M x k_M_clause [.ref 149] (mk Fm Gm) = some (some (.int (jI c)), mk F4m G4m) ∧ F4m 149 8 = pl ∧ aqS t Fm F4m) ∨ (∃ p2 F4 F4m G4m, k < 24 ∧ m_M x k_Reader_readClause [.ref 128] (mk Fc Gc) = some (some (.int (jI 1)), mk F4 Gc) ∧ m_M x k_M_clause [.ref 149] (mk Fm Gm) = some (some (.int (jI 0)), mk F4m G4m) ∧ J T n t F4 F4m G4m p2 (k + 1) ∧ aqQ Fc F4 ∧ aqS t Fm F4m) := by
  obtain ⟨⟨⟨hT, hc⟩, h5, hk, hl0, hl1⟩, ⟨⟨tm, mt⟩, h12, hk2, hw0, hw1⟩, ⟨m, hm19, hm16, hmb⟩, tx⟩ := hJ
  have kr := kd_r T n p
  have hp := hc.2.1
  have nx := nxp_r (T := T) (n := n) (p := p) hp.1 hp.2
  have hrg : ∀ s, 0 ≤ s → s ≤ 3 → rg (Fc 134 s) := by
    intro s s0 s1
    unfold rg
    rcases tx.2.2 s s0 s1 with ⟨a, _⟩ | ⟨a, _⟩ <;> omega
  have bit : kd T n p ≤ 3 → (m.testBit (kd T n p).toNat = true ↔ ¬ Fc 134 (kd T n p) = -1) := by
    intro h
    have := hmb (kd T n p).toNat (by omega)
    rw [show (((kd T n p).toNat : Nat) : Int) = kd T n p by omega] at this
    exact this
  have bitn : (kd T n p ≤ 3 → Fc 134 (kd T n p) = -1) → (kd T n p ≤ 3 → m.testBit (kd T n p).toNat = false) := by
    intro h h3
    cases e : m.testBit (kd T n p).toNat with
    | false => rfl
    | true => exact absurd (h h3) ((bit h3).1 e)
  obtain ⟨mh1, mh2, mh3, mh4⟩ := M_head x Fm Gm hB tm mt ht h12 hk2 hk.1 hk.2 hm19 hm16
  rcases C_head x Fc Gc hX hT hc h5 hk.1 hk.2 ⟨hl0, by omega⟩ hrg with ⟨a1, F4, y1, y2⟩ | ⟨a1, a2, F4, y1, y2⟩ | ⟨a1, a2, a3, F4, y1, y2⟩ | ⟨a1, a2, a3, F2, y1, y2, y3, y4, y5, y6, y7, y8, y9, y10⟩
  · left
    exact ⟨1, p, F4, Fm, Gm, by omega, by omega, y1, y2.2.1.1, y2.2.2.1.1, aqP_R y2.1, mh1 a1, mt.1.2.1, aqS_rfl t Fm⟩
  · left
    exact ⟨4, p, F4, Fm, Gm, by omega, by omega, y1, y2.2.1.1, y2.2.2.1.1, aqP_R y2.1, mh2 a1 ((bit a1).2 a2), mt.1.2.1, aqS_rfl t Fm⟩
  · left
    exact ⟨6, p, F4, Fm, Gm, by omega, by omega, y1, y2.2.1.1, y2.2.2.1.1, aqP_R y2.1, mh3 a1 (bitn a2) a3, mt.1.2.1, aqS_rfl t Fm⟩
  · obtain ⟨F2m, G2m, m2, z1, z2, z3, z4, z5, z6, z7, z8, z9⟩ := mh4 a1 (bitn a2) a3
    have hlt : p < n := kd_lt (T := T) (n := n) (p := p) (by omega)
    have T2 := aqR_TP y2.1 hT
    have tm2 := aqS_TM z2 tm
    have e12 : F2m 149 12 = 753 * t := by rw [z2.2.1 12 (by omega)]; exact h12
    have x0c : F2m 152 (753 * t) = k := by rw [z9, u_ne _ _ (by omega)]; exact hk2
    have L2 : F2 129 6 = Fc 129 6 := by rw [y5]
    have k2 : F2 129 5 = k := by rw [y5]; exact h5
    -- what is left when the body is read
    have done : ∀ (q : Int) (F3 F3m G3m : Nat → Fn), aqP F2 F3 → CT F3 T n q → Fc 129 6 ≤ F3 129 6 → F3 129 6 ≤ q → (∀ i, i < Fc 129 6 → F3 133 i = Fc 133 i) → MT F3m G3m T n q → aqC t (Fm 149 13) (753 * t + 1 + 6 * k) F2m F3m → Fm 149 13 ≤ F3m 149 13 → F3m 149 13 ≤ q → ((4 ≤ kd T n p ∧ ∀ i, 0 ≤ i → i < cnt (kd T n p) → Fc 129 6 + i < F3 129 6 ∧ F3 133 (Fc 129 6 + i) = F3m 152 (753 * t + 1 + 6 * k + 1 + i) ∧ 0 ≤ F3m 152 (753 * t + 1 + 6 * k + 1 + i) ∧ F3m 152 (753 * t + 1 + 6 * k + 1 + i) ≤ 9999) ∨ (kd T n p ≤ 3 ∧ ∃ f : Env, bdE f ∧ CC (kd T n p) (F3 133) (Fc 129 6) (F3 129 6) f 50 ∧ MC (kd T n p) (fun j => F3m 152 (753 * t + 145 + j)) (F3m 152 (753 * t + 1 + 6 * k + 1)) (F3m 152 (753 * t + 1 + 6 * k + 2)) f ∧ 0 ≤ F3m 152 (753 * t + 1 + 6 * k + 1) ∧ F3m 152 (753 * t + 1 + 6 * k + 2) ≤ F3m 149 13)) → (∃ F4 F4m, m_D x 97 k_Reader_readClause 115 [some (.ref 128), none] [.int (jI 1)] (mk F3 Gc) = some (some (.int (jI 0)), mk F4 Gc) ∧ F4 128 3 = 1 ∧ F4 128 4 = q ∧ aqR F3 F4 ∧ ClK x (jI 0) (mk F3m G3m) = some (some (.int (jI 1)), mk F4m G3m) ∧ F4m 149 8 = q ∧ aqS t F3m F4m) ∨ (∃ F4 F4m G4m, m_D x 97 k_Reader_readClause 115 [some (.ref 128), none] [.int (jI 1)] (mk F3 Gc) = some (some (.int (jI 1)), mk F4 Gc) ∧ ClK x (jI 0) (mk F3m G3m) = some (some (.int (jI 0)), mk F4m G4m) ∧ J T n t F4 F4m G4m (nxp T n q) (k + 1) ∧ aqQ F3 F4 ∧ aqS t F3m F4m) := by
      intro q F3 F3m G3m g1 g2 g3 g4 g5 g6 g7 g8 g9 g10
      have o130 : F3 130 = F2 130 := g1.1 130 (by omega) (by omega) (by omega)
      have o131 : F3 131 = F2 131 := g1.1 131 (by omega) (by omega) (by omega)
      have o132 : F3 132 = F2 132 := g1.1 132 (by omega) (by omega) (by omega)
      have o134 : F3 134 = F2 134 := g1.1 134 (by omega) (by omega) (by omega)
      refine J_tail x hX hB hn ht (aqP_TP g1 T2) g2 (by rw [g1.2.2 5 (by omega)]; exact k2) ⟨hk.1, a3⟩ ⟨by omega, g4⟩ (aqS_TM (aqC_S g7 (by omega)) tm2) g6 (by rw [g7.2.1 12 (by omega)]; exact e12) (by rw [g7.2.2 _ (by omega)]; exact x0c) ⟨by omega, g9⟩ ?_ ?_
      · refine ⟨m2, by rw [g7.2.1 19 (by omega)]; exact z6, z7, ?_⟩
        intro s hs
        rw [z8 s hs, o134, y10]
        by_cases d3 : kd T n p ≤ 3
        · rw [if_pos d3]
          by_cases e : (s : Int) = kd T n p
          · rw [e, u_eq]
            simp
            omega
          · rw [u_ne _ _ e, decide_eq_false e, Bool.or_false]
            exact hmb s hs
        · rw [if_neg d3, decide_eq_false (by omega), Bool.or_false]
          exact hmb s hs
      · refine TXG_ext (d := kd T n p) (L := Fc 129 6) (W := Fm 149 13) tx ⟨hk.1, a3⟩ ⟨kr.1, a1⟩ ⟨hl0, g3⟩ g8 (by rw [o130, y6]) (by rw [o131, y7]) (by rw [o132, y8]) g5 ?_ ?_ ?_ ?_
        · intro j j0 j1
          rw [g7.2.2 j (by omega), z9, u_ne _ _ (by omega)]
        · intro j j0 j1
          rw [g7.2.2 j (by omega), z9, u_ne _ _ (by omega)]
        · rw [g7.2.2 _ (by omega), z9, u_eq]
        · rcases g10 with ⟨b1, b2⟩ | ⟨b1, b2⟩
          · exact Or.inl ⟨b1, by rw [o134, y10, if_neg (by omega)], b2⟩
          · exact Or.inr ⟨b1, a2 b1, by rw [o134, y10, if_pos b1], b2⟩
    -- both fail in the body
    have fail : ∀ (c pl : Int) (F3 F3m G3m : Nat → Fn), CF F2 F3 c pl → F3m 149 8 = pl → aqS t F2m F3m → m_M x k_Reader_readClause [.ref 128] (mk Fc Gc) = m_D x 97 k_Reader_readClause 115 [some (.ref 128), none] [.int (jI 0)] (mk F3 Gc) → m_M x k_M_clause [.ref 149] (mk Fm Gm) = ClK x (jI c) (mk F3m G3m) → ∃ c pl F4 F4m G4m, (1 ≤ c ∧ c ≤ 6) ∧ (0 ≤ pl ∧ pl ≤ 300) ∧ m_M x k_Reader_readClause [.ref 128] (mk Fc Gc) = some (some (.int (jI 0)), mk F4 Gc) ∧ F4 128 3 = c ∧ F4 128 4 = pl ∧ aqR Fc F4 ∧ m_M x k_M_clause [.ref 149] (mk Fm Gm) = some (some (.int (jI c)), mk F4m G4m) ∧ F4m 149 8 = pl ∧ aqS t Fm F4m := by
      intro c pl F3 F3m G3m g1 g2 g3 g4 g5
      obtain ⟨F4, w1, w2, w3⟩ := C_tail0 x F3 Gc (k := k) (by rw [g1.1.2.2 5 (by omega)]; exact k2) hk.1 a3
      exact ⟨c, pl, F4, F3m, G3m, g1.2.1.2, g1.2.2.1.2, by rw [g4]; exact w1, by rw [w2]; exact g1.2.1.1, by rw [w2]; exact g1.2.2.1.1, aqR_tr y2.1 (aqR_tr (aqP_R g1.1) w3), by rw [g5]; exact M_tail0 x g1.2.1.2, g2, aqS_tr z2 g3⟩
    have joinD : ∀ (q : Int) (F3 F3m G3m : Nat → Fn), aqP F2 F3 → CT F3 T n q → aqS t F2m F3m → m_M x k_Reader_readClause [.ref 128] (mk Fc Gc) = m_D x 97 k_Reader_readClause 115 [some (.ref 128), none] [.int (jI 1)] (mk F3 Gc) → m_M x k_M_clause [.ref 149] (mk Fm Gm) = ClK x (jI 0) (mk F3m G3m) → ((∃ F4 F4m, m_D x 97 k_Reader_readClause 115 [some (.ref 128), none] [.int (jI 1)] (mk F3 Gc) = some (some (.int (jI 0)), mk F4 Gc) ∧ F4 128 3 = 1 ∧ F4 128 4 = q ∧ aqR F3 F4 ∧ ClK x (jI 0) (mk F3m G3m) = some (some (.int (jI 1)), mk F4m G3m) ∧ F4m 149 8 = q ∧ aqS t F3m F4m) ∨ (∃ F4 F4m G4m, m_D x 97 k_Reader_readClause 115 [some (.ref 128), none] [.int (jI 1)] (mk F3 Gc) = some (some (.int (jI 1)), mk F4 Gc) ∧ ClK x (jI 0) (mk F3m G3m) = some (some (.int (jI 0)), mk F4m G4m) ∧ J T n t F4 F4m G4m (nxp T n q) (k + 1) ∧ aqQ F3 F4 ∧ aqS t F3m F4m)) → (∃ c pl F4 F4m G4m, (1 ≤ c ∧ c ≤ 6) ∧ (0 ≤ pl ∧ pl ≤ 300) ∧ m_M x k_Reader_readClause [.ref 128] (mk Fc Gc) = some (some (.int (jI 0)), mk F4 Gc) ∧ F4 128 3 = c ∧ F4 128 4 = pl ∧ aqR Fc F4 ∧ m_M x k_M_clause [.ref 149] (mk Fm Gm) = some (some (.int (jI c)), mk F4m G4m) ∧ F4m 149 8 = pl ∧ aqS t Fm F4m) ∨ (∃ p2 F4 F4m G4m, k < 24 ∧ m_M x k_Reader_readClause [.ref 128] (mk Fc Gc) = some (some (.int (jI 1)), mk F4 Gc) ∧ m_M x k_M_clause [.ref 149] (mk Fm Gm) = some (some (.int (jI 0)), mk F4m G4m) ∧ J T n t F4 F4m G4m p2 (k + 1) ∧ aqQ Fc F4 ∧ aqS t Fm F4m) := by
      intro q F3 F3m G3m g1 g2 g3 g4 g5 g6
      have hq := g2.2.1
      rcases g6 with ⟨F4, F4m, w1, w2, w3, w4, w5, w6, w7⟩ | ⟨F4, F4m, G4m, w1, w2, w3, w4, w5⟩
      · left
        exact ⟨1, q, F4, F4m, G3m, by omega, by omega, by rw [g4]; exact w1, w2, w3, aqR_tr y2.1 (aqR_tr (aqP_R g1) w4), by rw [g5]; exact w5, w6, aqS_tr z2 (aqS_tr g3 w7)⟩
      · right
        exact ⟨nxp T n q, F4, F4m, G4m, a3, by rw [g4]; exact w1, by rw [g5]; exact w2, w3, aqQ_tr y2 (aqQ_tr (aqP_Q g1) w4), aqS_tr z2 (aqS_tr g3 w5)⟩
    by_cases d3 : kd T n p ≤ 3
    · rw [if_pos d3] at y1
      obtain ⟨r, c1, c2, c3⟩ := EX_sum x hX hB hn ht (s := kd T n p) (p := nxp T n p) ⟨kr.1, d3⟩ (by omega) (by omega)
      have pc := c1 F2 Gc ⟨T2, y3, ⟨y4, kr.1, d3⟩, by rw [L2]; exact hl0, by rw [L2]; omega⟩
      have pm := M_lawN x F2m G2m hB tm2 z3 ht ⟨kr.1, d3⟩ ⟨hk.1, a3⟩ e12 z4 z5 ⟨hw0, by omega⟩ c2 c3
      cases r with
      | inl e =>
        obtain ⟨F3, v1, v2⟩ := pc
        obtain ⟨F3m, G3m, w1, w2, w3⟩ := pm
        left
        exact fail e.1 e.2 F3 F3m G3m v2 w2 (aqC_S w3 (by omega)) (by rw [y1, v1, b_I]) (by rw [z1, w1, b_I])
      | inr q =>
        obtain ⟨q1, q2, _⟩ := c3 q rfl
        obtain ⟨F3, v1, v2, v3, v4, v5, v6, v7⟩ := pc
        obtain ⟨F3m, G3m, w3, w1, u2, u3, u4, u5, u6, u7, u8, u9⟩ := pm
        rw [L2] at v4 v5 v6 v7
        have dp : Dp 0 + 2 ≤ 50 := by decide
        refine joinD q.1 F3 F3m G3m v2 v3 (aqC_S u4 (by omega)) (by rw [y1, v1, b_I]) (by rw [z1, w1, b_I]) (done q.1 F3 F3m G3m v2 v3 v4 (by omega) ?_ u2 u4 (by omega) (by omega) (Or.inr ⟨d3, q.2, q2, CC_le v7 dp, ?_, by rw [u7]; exact hw0, by rw [u8, u3]; omega⟩))
        · intro i hi
          rw [v6 i hi, y9]
        · rw [u7, u8]
          exact u9
    · rw [if_neg d3, E_Reader_readNumbers, isO_128, if_pos rfl] at y1
      have pc := C_nums x hX (n := n) (T := T) (d := kd T n p) (by omega) 15 0 rfl F2 Gc (nxp T n p) T2 y3 (by rw [L2]; exact hl0) (by rw [L2]; omega)
      have pm := M_bodyN x hB tm2 z3 (x0 := 753 * t + 1 + 6 * k) (by omega) (d := kd T n p) (by omega)
      obtain ⟨s1, s2⟩ := sel_ok ⟨(kd T n p).toNat, by omega⟩ (by show 4 ≤ (kd T n p).toNat; omega)
      simp only at s1 s2
      rw [show (((kd T n p).toNat : Nat) : Int) = kd T n p by omega] at s1 s2
      have y1' : m_M x k_Reader_readClause [.ref 128] (mk Fc Gc) = m_bI (m_D x 9 k_Reader_readNumbers 4 [some (.ref 128), some (.int (jI (kd T n p))), some (.int (jI 1)), some (.int (jI (4 * ((0 : Nat) : Int))))] [] (mk F2 Gc)) fun v s => m_D x 97 k_Reader_readClause 115 [some (.ref 128), none] [.int v] s := y1
      unfold MN at pm
      have ok := NF_ok (T := T) (n := n) (sel (kd T n p) FRW) (nxp T n p)
      rw [show FRW.drop 0 = FRW from rfl] at pc
      revert pc pm ok
      cases NF T n (sel (kd T n p) FRW) (nxp T n p) with
      | inl e =>
        intro pc pm _
        obtain ⟨F3, v1, v2⟩ := pc
        obtain ⟨F3m, G3m, w1, w2, w3⟩ := pm
        left
        exact fail e.1 e.2 F3 F3m G3m v2 w2 (aqC_S (w := 0) (x0 := 753 * t + 1 + 6 * k) (aqN_C (by rw [show 753 * t + 1 + 6 * k + ((0 : Nat) : Int) = 753 * t + 1 + 6 * k by omega] at w3; exact w3)) (by omega)) (by rw [y1', v1, b_I]) (by rw [z1, w1, b_I])
      | inr q =>
        intro pc pm ok
        obtain ⟨F3, v1, v2, v3, v4, v5, v6, v7⟩ := pc
        obtain ⟨F3m, G3m, w1, w3, w2, w4⟩ := pm
        obtain ⟨o1, o2⟩ := ok q s2 rfl
        rw [show 753 * t + 1 + 6 * k + ((0 : Nat) : Int) = 753 * t + 1 + 6 * k by omega] at w3
        rw [L2] at v4 v5 v6
        have c5 := @cnt_r (kd T n p)
        have w13 : F3m 149 13 = Fm 149 13 := by rw [w3.2.1 13 (by omega)]; exact z4
        have hq := v3.2.1
        refine joinD q.1 F3 F3m G3m v2 v3 (aqC_S (w := 0) (x0 := 753 * t + 1 + 6 * k) (aqN_C w3) (by omega)) (by rw [y1', v1, b_I]) (by rw [z1, w1, b_I]) (done q.1 F3 F3m G3m v2 v3 (by omega) (by omega) ?_ w2 (aqN_C w3) (by omega) (by omega) (Or.inl ⟨by omega, ?_⟩))
        · intro i hi
          rw [v5 i hi, y9]
        · intro i i0 i1
          have e : ((i.toNat : Nat) : Int) = i := by omega
          have ii : i.toNat < q.2.length := by omega
          have h1 := v6 i.toNat ii
          have h2 := w4 i.toNat ii
          have h3 := o2 i.toNat ii
          rw [e] at h1 h2
          rw [show 753 * t + 1 + 6 * k + 1 + ((0 : Nat) : Int) + i = 753 * t + 1 + 6 * k + 1 + i by omega] at h2
          rw [h1, h2]
          exact ⟨by omega, rfl, h3⟩
end
