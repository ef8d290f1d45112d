-- reading: a clause, both
theorem TXG_cg {k L W t : Int} {Kd St Sp Cd Lw X X2 : Fn} (hX : ∀ j, 753 * t + 1 ≤ j → X2 j = X j) (h : TXG k L W t Kd St Sp Cd Lw X) : TXG k L W t Kd St Sp Cd Lw X2 := by
  obtain ⟨h1, h2, h3⟩ := h
  refine ⟨?_, ?_, ?_⟩
  · intro j j0 j1
    rw [hX _ (by omega)]
    exact h1 j j0 j1
  · intro j j0 j1 j4 i i0 i1
    rw [hX _ (by omega)]
    exact h2 j j0 j1 j4 i i0 i1
  · intro s s0 s1
    rcases h3 s s0 s1 with a | ⟨a1, a2, a3, f, f1, f2, f3, f4, f5⟩
    · exact Or.inl a
    · right
      refine ⟨a1, a2, a3, f, f1, f2, ?_, ?_, ?_⟩
      · rw [hX (753 * t + 1 + 6 * Lw s + 1) (by omega), hX (753 * t + 1 + 6 * Lw s + 2) (by omega)]
        exact MC_loc (fun z z0 _ => hX _ (by omega)) f3
      · rw [hX _ (by omega)]; exact f4
      · rw [hX _ (by omega)]; exact f5
def mskOK (Fc Fm : Nat → Fn) : Prop := ∃ m : Nat, Fm 149 19 = (m : Int) ∧ m < 16 ∧ ∀ s : Nat, s < 4 → (m.testBit s = true ↔ ¬ Fc 134 (s : Int) = -1)
def J (T : Fn) (n t : Int) (Fc Fm Gm : Nat → Fn) (p k : Int) : Prop := ((TP Fc T n ∧ CT Fc T n p) ∧ Fc 129 5 = k ∧ (0 ≤ k ∧ k ≤ 24) ∧ 0 ≤ Fc 129 6 ∧ Fc 129 6 ≤ p) ∧ ((TM Fm T n ∧ MT Fm Gm T n p) ∧ Fm 149 12 = 753 * t ∧ Fm 152 (753 * t) = k ∧ 0 ≤ Fm 149 13 ∧ Fm 149 13 ≤ p) ∧ mskOK Fc Fm ∧ TXG k (Fc 129 6) (Fm 149 13) t (Fc 130) (Fc 131) (Fc 132) (Fc 133) (Fc 134) (Fm 152)
theorem NF_ok {T : Fn} {n : Int} : ∀ (R : List (Int × Int × Int)) (p : Int) (q : Int × List Int), (∀ r ∈ R, 0 ≤ r.2.1 ∧ r.2.2 ≤ 9999) → NF T n R p = .inr q → q.2.length = R.length ∧ ∀ j : Nat, j < q.2.length → 0 ≤ q.2.getD j 0 ∧ q.2.getD j 0 ≤ 9999 := by
  intro R
  induction R with
  | nil =>
    intro p q _ h
    rw [NF] at h
    injection h with h
    rw [← h]
    exact ⟨rfl, fun j hj => absurd hj (by simp)⟩
  | cons r R ih =>
    intro p q hR h
    rw [NF] at h
    by_cases c1 : ¬ r.1 = -1 ∧ ¬ kd T n p = r.1
    · rw [if_pos c1] at h; cases h
    · rw [if_neg c1] at h
      by_cases c2 : ¬ kd T n (hed T n r.1 p) = 51
      · rw [if_pos c2] at h; cases h
      · rw [if_neg c2] at h
        by_cases c3 : ¬ (r.2.1 ≤ cv T n (hed T n r.1 p) ∧ cv T n (hed T n r.1 p) ≤ r.2.2)
        · rw [if_pos c3] at h; cases h
        · rw [if_neg c3] at h
          have rr := hR r List.mem_cons_self
          have c4 : r.2.1 ≤ cv T n (hed T n r.1 p) ∧ cv T n (hed T n r.1 p) ≤ r.2.2 := Classical.not_not.1 c3
          cases e : NF T n R (nxp T n (hed T n r.1 p)) with
          | inl z => rw [e] at h; cases h
          | inr z =>
            rw [e] at h
            have h' : (Sum.inr (z.1, cv T n (hed T n r.1 p) :: z.2) : (Int × Int) ⊕ (Int × List Int)) = .inr q := h
            injection h' with h'
            obtain ⟨i1, i2⟩ := ih _ z (fun a ha => hR a (List.mem_cons_of_mem _ ha)) e
            rw [← h']
            refine ⟨by simp only [List.length_cons]; omega, ?_⟩
            intro j hj
            cases j with
            | zero =>
              show 0 ≤ cv T n (hed T n r.1 p) ∧ cv T n (hed T n r.1 p) ≤ 9999
              omega
            | succ j =>
              simp only [List.length_cons] at hj
              exact i2 j (by omega)
theorem sel_ok : ∀ d : Fin 12, 4 ≤ d.val → ((sel (d.val : Int) FRW).length : Int) = cnt (d.val : Int) ∧ ∀ r ∈ sel (d.val : Int) FRW, 0 ≤ r.2.1 ∧ r.2.2 ≤ 9999 := by decide +kernel
def JCl (T : Fn) (n : Int) (F : Nat → Fn) (p k : Int) : Prop := (TP F T n ∧ CT F T n p) ∧ F 129 5 = k ∧ (0 ≤ k ∧ k ≤ 24) ∧ (0 ≤ F 129 6 ∧ F 129 6 ≤ p) ∧ ∀ s, 0 ≤ s → s ≤ 3 → rg (F 134 s)
theorem J_Cl {T : Fn} {n t : Int} {Fc Fm Gm : Nat → Fn} {p k : Int} (h : J T n t Fc Fm Gm p k) : JCl T n Fc p k := by
  obtain ⟨⟨h1, h5, hk, hl⟩, _, _, tx⟩ := h
  refine ⟨h1, h5, hk, hl, ?_⟩
  intro s s0 s1
  unfold rg
  rcases tx.2.2 s s0 s1 with ⟨a, _⟩ | ⟨a, _⟩ <;> omega
/-- the model before a clause's body -/
def HD (T : Fn) (n t d p : Int) (F G : Nat → Fn) (W : Int) : Prop := (TM F T n ∧ MT F G T n p) ∧ F 149 12 = 753 * t ∧ F 149 13 = W ∧ F 149 14 = d ∧ 0 ≤ W ∧ W ≤ p
/-- what the bodies of both have read -/
def BD (d k L L2 t : Int) (Cd X : Fn) (W2 : Int) : Prop := (4 ≤ d ∧ ∀ i, 0 ≤ i → i < cnt d → L + i < L2 ∧ Cd (L + i) = X (753 * t + 1 + 6 * k + 1 + i) ∧ 0 ≤ X (753 * t + 1 + 6 * k + 1 + i) ∧ X (753 * t + 1 + 6 * k + 1 + i) ≤ 9999) ∨ (d ≤ 3 ∧ ∃ f : LEnv, bdE f ∧ CC d Cd L L2 f 50 ∧ MCo d (fun j => X (753 * t + 145 + j)) (X (753 * t + 1 + 6 * k + 1)) (X (753 * t + 1 + 6 * k + 2)) f ∧ 0 ≤ X (753 * t + 1 + 6 * k + 1) ∧ X (753 * t + 1 + 6 * k + 2) ≤ W2)
section
variable (x : m_X)
theorem J_body (hX : XOK x) {T : Fn} {n t d p k : Int} {F2 G : Nat → Fn} (hB : BY T n) (hn : 0 ≤ n ∧ n ≤ 300) (ht : 0 ≤ t ∧ t ≤ 3) (hd : 0 ≤ d ∧ d ≤ 11) (hk : 0 ≤ k ∧ k < 24) (T2 : TP F2 T n) (c2 : CT F2 T n p) (h9 : F2 128 9 = d) (hl : 0 ≤ F2 129 6 ∧ F2 129 6 ≤ p) : (∃ c pl F3, (if d ≤ 3 then m_M x k_Reader_readSum [.ref 128, .int (jI 0)] (mk F2 G) else m_M x k_Reader_readNumbers [.ref 128, .int (jI d)] (mk F2 G)) = some (some (.int (jI 0)), mk F3 G) ∧ CF F2 F3 c pl ∧ ∀ Fm Gm W, HD T n t d p Fm Gm W → ∃ F3m G3m, m_M x k_M_body [.ref 149, .int (jI d), .int (jI (753 * t + 1 + 6 * k))] (mk Fm Gm) = some (some (.int (jI c)), mk F3m G3m) ∧ F3m 149 8 = pl ∧ aqC t W (753 * t + 1 + 6 * k) Fm F3m) ∨ (∃ q F3, (if d ≤ 3 then m_M x k_Reader_readSum [.ref 128, .int (jI 0)] (mk F2 G) else m_M x k_Reader_readNumbers [.ref 128, .int (jI d)] (mk F2 G)) = some (some (.int (jI 1)), mk F3 G) ∧ aqP F2 F3 ∧ CT F3 T n q ∧ (F2 129 6 ≤ F3 129 6 ∧ F3 129 6 - F2 129 6 ≤ q - p) ∧ (∀ i, i < F2 129 6 → F3 133 i = F2 133 i) ∧ ∀ Fm Gm W, HD T n t d p Fm Gm W → ∃ F3m G3m, m_M x k_M_body [.ref 149, .int (jI d), .int (jI (753 * t + 1 + 6 * k))] (mk Fm Gm) = some (some (.int (jI 0)), mk F3m G3m) ∧ MT F3m G3m T n q ∧ aqC t W (753 * t + 1 + 6 * k) Fm F3m ∧ (W ≤ F3m 149 13 ∧ F3m 149 13 - W ≤ q - p) ∧ BD d k (F2 129 6) (F3 129 6) t (F3 133) (F3m 152) (F3m 149 13)) := by
  have hp := c2.2.1
  by_cases d3 : d ≤ 3
  · rw [if_pos d3]
    obtain ⟨r, c1, cm, c3⟩ := EX_sum x hX hB hn ht (s := d) (p := p) ⟨hd.1, d3⟩ hp.1 hp.2
    have pc := c1 F2 G ⟨T2, c2, ⟨h9, hd.1, d3⟩, hl⟩
    have pm : ∀ Fm Gm W, HD T n t d p Fm Gm W → _ := fun Fm Gm W h => M_lawN x Fm Gm hB h.1.1 h.1.2 ht ⟨hd.1, d3⟩ hk h.2.1 h.2.2.1 h.2.2.2.1 h.2.2.2.2 cm c3
    cases r with
    | inl e =>
      obtain ⟨F3, v1, v2⟩ := pc
      exact Or.inl ⟨e.1, e.2, F3, v1, v2, fun Fm Gm W h => pm Fm Gm W h⟩
    | inr q =>
      obtain ⟨q1, q2, _⟩ := c3 q rfl
      obtain ⟨F3, v1, v2, v3, v4, v5, v6, v7⟩ := pc
      refine Or.inr ⟨q.1, F3, v1, v2, v3, ⟨v4, v5⟩, v6, ?_⟩
      intro Fm Gm W h
      obtain ⟨F3m, G3m, w3, w1, u2, u3, u4, u5, u6, u7, u8, u9⟩ := pm Fm Gm W h
      have hw := h.2.2.2.2
      have dp : Dp 0 + 2 ≤ 50 := by decide
      refine ⟨F3m, G3m, w1, u2, u4, by omega, Or.inr ⟨d3, q.2, q2, CC_le v7 dp, ?_, by rw [u7]; exact hw.1, by rw [u8, u3]; omega⟩⟩
      rw [u7, u8]
      exact u9
  · rw [if_neg d3]
    have pc := C_nums x hX (n := n) (T := T) (d := d) (by omega) 15 0 rfl F2 G p T2 c2 hl.1 hl.2
    have pm : ∀ Fm Gm W, HD T n t d p Fm Gm W → _ := fun Fm Gm W h => M_bodyN x hB h.1.1 h.1.2 (x0 := 753 * t + 1 + 6 * k) (by omega) (d := d) (by omega)
    obtain ⟨s1, s2⟩ := sel_ok ⟨d.toNat, by omega⟩ (by show 4 ≤ d.toNat; omega)
    simp only at s1 s2
    rw [show ((d.toNat : Nat) : Int) = d by omega] at s1 s2
    have y1 : m_M x k_Reader_readNumbers [.ref 128, .int (jI d)] (mk F2 G) = m_D x 9 k_Reader_readNumbers 4 [some (.ref 128), some (.int (jI d)), some (.int (jI 1)), some (.int (jI (4 * ((0 : Nat) : Int))))] [] (mk F2 G) := by
      rw [E_Reader_readNumbers, isO_128, if_pos rfl]
      rfl
    unfold MN at pm
    have ok := NF_ok (T := T) (n := n) (sel d FRW) p
    rw [show FRW.drop 0 = FRW from rfl] at pc
    revert pc pm ok
    cases NF T n (sel d FRW) p with
    | inl e =>
      intro pc pm _
      obtain ⟨F3, v1, v2⟩ := pc
      refine Or.inl ⟨e.1, e.2, F3, by rw [y1]; exact v1, v2, ?_⟩
      intro Fm Gm W h
      obtain ⟨F3m, G3m, w1, w2, w3⟩ := pm Fm Gm W h
      rw [show 753 * t + 1 + 6 * k + ((0 : Nat) : Int) = 753 * t + 1 + 6 * k by omega] at w3
      exact ⟨F3m, G3m, w1, w2, aqN_C w3⟩
    | inr q =>
      intro pc pm ok
      obtain ⟨F3, v1, v2, v3, v4, v5, v6, v7⟩ := pc
      obtain ⟨o1, o2⟩ := ok q s2 rfl
      refine Or.inr ⟨q.1, F3, by rw [y1]; exact v1, v2, v3, by omega, v5, ?_⟩
      intro Fm Gm W h
      obtain ⟨F3m, G3m, w1, w3, w2, w4⟩ := pm Fm Gm W h
      rw [show 753 * t + 1 + 6 * k + ((0 : Nat) : Int) = 753 * t + 1 + 6 * k by omega] at w3
      have w13 : F3m 149 13 = W := by rw [w3.2.1 13 (by omega)]; exact h.2.2.1
      refine ⟨F3m, G3m, w1, w2, aqN_C w3, by omega, Or.inl ⟨by omega, ?_⟩⟩
      intro i i0 i1
      have e : ((i.toNat : Nat) : Int) = i := by omega
      have ii : i.toNat < q.2.length := by omega
      have h1 := v6 i.toNat ii
      have h2 := w4 i.toNat ii
      have h3 := o2 i.toNat ii
      rw [e] at h1 h2
      rw [show 753 * t + 1 + 6 * k + 1 + ((0 : Nat) : Int) + i = 753 * t + 1 + 6 * k + 1 + i by omega] at h2
      rw [h1, h2]
      exact ⟨by omega, rfl, h3⟩
theorem J_clause (hX : XOK x) {T : Fn} {n t p k : Int} {Fc Gc : Nat → Fn} (hB : BY T n) (hn : 0 ≤ n ∧ n ≤ 300) (ht : 0 ≤ t ∧ t ≤ 3) (hC : JCl T n Fc p k) : (∃ c pl F4, (1 ≤ c ∧ c ≤ 6) ∧ (0 ≤ pl ∧ pl ≤ 300) ∧ m_M x k_Reader_readClause [.ref 128] (mk Fc Gc) = some (some (.int (jI 0)), mk F4 Gc) ∧ F4 128 3 = c ∧ F4 128 4 = pl ∧ aqR Fc F4 ∧ ∀ Fm Gm, J T n t Fc Fm Gm p k → ∃ F4m G4m, m_M x k_M_clause [.ref 149] (mk Fm Gm) = some (some (.int (jI c)), mk F4m G4m) ∧ F4m 149 8 = pl ∧ aqS t Fm F4m) ∨ (∃ p2 F4, k < 24 ∧ m_M x k_Reader_readClause [.ref 128] (mk Fc Gc) = some (some (.int (jI 1)), mk F4 Gc) ∧ aqQ Fc F4 ∧ JCl T n F4 p2 (k + 1) ∧ ∀ Fm Gm, J T n t Fc Fm Gm p k → ∃ F4m G4m, m_M x k_M_clause [.ref 149] (mk Fm Gm) = some (some (.int (jI 0)), mk F4m G4m) ∧ J T n t F4 F4m G4m p2 (k + 1) ∧ aqS t Fm F4m) := by
  obtain ⟨⟨hT, hc⟩, h5, hk, ⟨hl0, hl1⟩, hrg⟩ := hC
  have kr := kd_r T n p
  have hp := hc.2.1
  have nx := nxp_r (T := T) (n := n) (p := p) hp.1 hp.2
  -- the model's head
  have mh : ∀ Fm Gm, J T n t Fc Fm Gm p k → ∃ m : Nat, (Fm 149 19 = (m : Int) ∧ m < 16 ∧ ∀ s : Nat, s < 4 → (m.testBit s = true ↔ ¬ Fc 134 (s : Int) = -1)) ∧ (kd T n p ≤ 3 → (m.testBit (kd T n p).toNat = true ↔ ¬ Fc 134 (kd T n p) = -1)) ∧ ((kd T n p ≤ 3 → Fc 134 (kd T n p) = -1) → (kd T n p ≤ 3 → m.testBit (kd T n p).toNat = false)) := by
    intro Fm Gm hJ
    obtain ⟨m, hm19, hm16, hmb⟩ := hJ.2.2.1
    have bit : kd T n p ≤ 3 → (m.testBit (kd T n p).toNat = true ↔ ¬ Fc 134 (kd T n p) = -1) := by
      intro h
      have := hmb (kd T n p).toNat (by omega)
      rw [show (((kd T n p).toNat : Nat) : Int) = kd T n p by omega] at this
      exact this
    refine ⟨m, ⟨hm19, hm16, hmb⟩, bit, ?_⟩
    intro h h3
    cases e : m.testBit (kd T n p).toNat with
    | false => rfl
    | true => exact absurd (h h3) ((bit h3).1 e)
  rcases C_head x Fc Gc hX hT hc h5 hk.1 hk.2 ⟨hl0, by omega⟩ hrg with ⟨a1, F4, y1, y2⟩ | ⟨a1, a2, F4, y1, y2⟩ | ⟨a1, a2, a3, F4, y1, y2⟩ | ⟨a1, a2, a3, F2, y1, y2, y3, y4, y5, y6, y7, y8, y9, y10⟩
  · left
    refine ⟨1, p, F4, by omega, by omega, y1, y2.2.1.1, y2.2.2.1.1, aqP_R y2.1, ?_⟩
    intro Fm Gm hJ
    obtain ⟨m, ⟨hm19, hm16, hmb⟩, bit, bitn⟩ := mh Fm Gm hJ
    obtain ⟨_, ⟨⟨tm, mt⟩, h12, hk2, hw0, hw1⟩, _, tx⟩ := hJ
    obtain ⟨mh1, mh2, mh3, mh4⟩ := M_head x Fm Gm hB tm mt ht h12 hk2 hk.1 hk.2 hm19 hm16
    exact ⟨Fm, Gm, mh1 a1, mt.1.2.1, aqS_rfl t Fm⟩
  · left
    refine ⟨4, p, F4, by omega, by omega, y1, y2.2.1.1, y2.2.2.1.1, aqP_R y2.1, ?_⟩
    intro Fm Gm hJ
    obtain ⟨m, ⟨hm19, hm16, hmb⟩, bit, bitn⟩ := mh Fm Gm hJ
    obtain ⟨_, ⟨⟨tm, mt⟩, h12, hk2, hw0, hw1⟩, _, tx⟩ := hJ
    obtain ⟨mh1, mh2, mh3, mh4⟩ := M_head x Fm Gm hB tm mt ht h12 hk2 hk.1 hk.2 hm19 hm16
    exact ⟨Fm, Gm, mh2 a1 ((bit a1).2 a2), mt.1.2.1, aqS_rfl t Fm⟩
  · left
    refine ⟨6, p, F4, by omega, by omega, y1, y2.2.1.1, y2.2.2.1.1, aqP_R y2.1, ?_⟩
    intro Fm Gm hJ
    obtain ⟨m, ⟨hm19, hm16, hmb⟩, bit, bitn⟩ := mh Fm Gm hJ
    obtain ⟨_, ⟨⟨tm, mt⟩, h12, hk2, hw0, hw1⟩, _, tx⟩ := hJ
    obtain ⟨mh1, mh2, mh3, mh4⟩ := M_head x Fm Gm hB tm mt ht h12 hk2 hk.1 hk.2 hm19 hm16
    exact ⟨Fm, Gm, mh3 a1 (bitn a2) a3, mt.1.2.1, aqS_rfl t Fm⟩
  · have hlt : p < n := kd_lt (T := T) (n := n) (p := p) (by omega)
    have T2 := aqR_TP y2.1 hT
    have L2 : F2 129 6 = Fc 129 6 := by rw [y5]
    have k2 : F2 129 5 = k := by rw [y5]; exact h5
    rcases J_body x hX (G := Gc) (d := kd T n p) (k := k) hB hn ht ⟨kr.1, a1⟩ ⟨hk.1, a3⟩ T2 y3 y4 (by rw [L2]; omega) with ⟨c, pl, F3, v1, v2, v3⟩ | ⟨q, F3, v1, v2, v3, v4, v5, v6⟩
    · -- both fail in the body
      left
      obtain ⟨F4, w1, w2, w3⟩ := C_tail0 x F3 Gc (k := k) (by rw [v2.1.2.2 5 (by omega)]; exact k2) hk.1 a3
      refine ⟨c, pl, F4, v2.2.1.2, v2.2.2.1.2, by rw [y1, v1, b_I]; exact w1, by rw [w2]; exact v2.2.1.1, by rw [w2]; exact v2.2.2.1.1, aqR_tr y2.1 (aqR_tr (aqP_R v2.1) w3), ?_⟩
      intro Fm Gm hJ
      obtain ⟨m, ⟨hm19, hm16, hmb⟩, bit, bitn⟩ := mh Fm Gm hJ
      obtain ⟨_, ⟨⟨tm, mt⟩, h12, hk2, hw0, hw1⟩, _, tx⟩ := hJ
      obtain ⟨_, _, _, mh4⟩ := M_head x Fm Gm hB tm mt ht h12 hk2 hk.1 hk.2 hm19 hm16
      obtain ⟨F2m, G2m, m2, z1, z2, z3, z4, z5, z6, z7, z8, z9⟩ := mh4 a1 (bitn a2) a3
      obtain ⟨F3m, G3m, u1, u2, u3⟩ := v3 F2m G2m (Fm 149 13) ⟨⟨aqS_TM z2 tm, z3⟩, by rw [z2.2.1 12 (by omega)]; exact h12, z4, z5, hw0, by omega⟩
      exact ⟨F3m, G3m, by rw [z1, u1, b_I]; exact M_tail0 x v2.2.1.2, u2, aqS_tr z2 (aqC_S u3 (by omega))⟩
    · have hq := v3.2.1
      have nxq := nxp_r (T := T) (n := n) (p := q) hq.1 hq.2
      rw [L2] at v4 v5 v6
      have T3 := aqP_TP v2 T2
      have k3 : F3 129 5 = k := by rw [v2.2.2 5 (by omega)]; exact k2
      have o130 : F3 130 = F2 130 := v2.1 130 (by omega) (by omega) (by omega)
      have o131 : F3 131 = F2 131 := v2.1 131 (by omega) (by omega) (by omega)
      have o132 : F3 132 = F2 132 := v2.1 132 (by omega) (by omega) (by omega)
      have o134 : F3 134 = F2 134 := v2.1 134 (by omega) (by omega) (by omega)
      rcases C_tail1 x F3 Gc hX T3 v3 k3 hk.1 a3 ⟨by omega, by omega⟩ with ⟨b1, F4, w1, w2, w3, w4, w5, w6, w7, w8, w9, w10⟩ | ⟨b1, F4, w1, w2, w3, w4⟩
      · right
        refine ⟨nxp T n q, F4, a3, by rw [y1, v1, b_I]; exact w1, aqQ_tr y2 (aqQ_tr (aqP_Q v2) w2), ⟨⟨aqR_TP w2.1 T3, w3⟩, w4, by omega, by omega, ?_⟩, ?_⟩
        · intro s s0 s1
          rw [w10, o134, y10]
          by_cases d3 : kd T n p ≤ 3
          · rw [if_pos d3]
            by_cases e : s = kd T n p
            · rw [e, u_eq]; unfold rg; omega
            · rw [u_ne _ _ e]; exact hrg s s0 s1
          · rw [if_neg d3]; exact hrg s s0 s1
        · intro Fm Gm hJ
          obtain ⟨m, ⟨hm19, hm16, hmb⟩, bit, bitn⟩ := mh Fm Gm hJ
          obtain ⟨_, ⟨⟨tm, mt⟩, h12, hk2, hw0, hw1⟩, _, tx⟩ := hJ
          obtain ⟨_, _, _, mh4⟩ := M_head x Fm Gm hB tm mt ht h12 hk2 hk.1 hk.2 hm19 hm16
          obtain ⟨F2m, G2m, m2, z1, z2, z3, z4, z5, z6, z7, z8, z9⟩ := mh4 a1 (bitn a2) a3
          have tm2 := aqS_TM z2 tm
          have e12 : F2m 149 12 = 753 * t := by rw [z2.2.1 12 (by omega)]; exact h12
          obtain ⟨F3m, G3m, u1, g6, g7, g8, g10⟩ := v6 F2m G2m (Fm 149 13) ⟨⟨tm2, z3⟩, e12, z4, z5, hw0, by omega⟩
          have tm3 := aqS_TM (aqC_S g7 (by omega)) tm2
          have e13 : F3m 149 12 = 753 * t := by rw [g7.2.1 12 (by omega)]; exact e12
          have x3 : F3m 152 (753 * t) = k := by rw [g7.2.2 _ (by omega), z9, u_ne _ _ (by omega)]; exact hk2
          rcases M_tail1 x F3m G3m hB tm3 g6 ht e13 x3 with ⟨_, F4m, G4m, r1, r2, r3, r4, r5, r6⟩ | ⟨r0, _⟩
          · refine ⟨F4m, G4m, by rw [z1, u1, b_I]; exact r1, ⟨⟨⟨aqR_TP w2.1 T3, w3⟩, w4, by omega, by omega, by omega⟩, ⟨⟨aqS_TM r2 tm3, r3⟩, by rw [r2.2.1 12 (by omega)]; exact e13, by rw [r4, u_eq], by omega, by omega⟩, ?_, ?_⟩, aqS_tr z2 (aqS_tr (aqC_S g7 (by omega)) r2)⟩
            · refine ⟨m2, by rw [r6, g7.2.1 19 (by omega)]; exact z6, z7, ?_⟩
              intro s hs
              rw [z8 s hs, w10, o134, y10]
              by_cases d3 : kd T n p ≤ 3
              · rw [if_pos d3]
                by_cases e : (s : Int) = kd T n p
                · rw [e, u_eq]
                  simp
                  omega
                · rw [u_ne _ _ e, decide_eq_false e, Bool.or_false]
                  exact hmb s hs
              · rw [if_neg d3, decide_eq_false (by omega), Bool.or_false]
                exact hmb s hs
            · rw [w5, r5, w6, w7, w8, w9, w10, r4]
              refine TXG_cg (X := F3m 152) (fun j hj => u_ne _ _ (by omega)) ?_
              refine TXG_ext (d := kd T n p) (L := Fc 129 6) (W := Fm 149 13) tx ⟨hk.1, a3⟩ ⟨kr.1, a1⟩ ⟨hl0, v4.1⟩ g8.1 (by rw [o130, y6]) (by rw [o131, y7]) (by rw [o132, y8]) ?_ ?_ ?_ ?_ ?_
              · intro i hi
                rw [v5 i hi, y9]
              · intro j j0 j1
                rw [g7.2.2 j (by omega), z9, u_ne _ _ (by omega)]
              · intro j j0 j1
                rw [g7.2.2 j (by omega), z9, u_ne _ _ (by omega)]
              · rw [g7.2.2 _ (by omega), z9, u_eq]
              · rcases g10 with ⟨b1, b2⟩ | ⟨b1, b2⟩
                · exact Or.inl ⟨b1, by rw [o134, y10, if_neg (by omega)], b2⟩
                · exact Or.inr ⟨b1, a2 b1, by rw [o134, y10, if_pos b1], b2⟩
          · exact absurd b1 r0
      · left
        refine ⟨1, q, F4, by omega, by omega, by rw [y1, v1, b_I]; exact w1, w3, w4, aqR_tr y2.1 (aqR_tr (aqP_R v2) w2), ?_⟩
        intro Fm Gm hJ
        obtain ⟨m, ⟨hm19, hm16, hmb⟩, bit, bitn⟩ := mh Fm Gm hJ
        obtain ⟨_, ⟨⟨tm, mt⟩, h12, hk2, hw0, hw1⟩, _, tx⟩ := hJ
        obtain ⟨_, _, _, mh4⟩ := M_head x Fm Gm hB tm mt ht h12 hk2 hk.1 hk.2 hm19 hm16
        obtain ⟨F2m, G2m, m2, z1, z2, z3, z4, z5, z6, z7, z8, z9⟩ := mh4 a1 (bitn a2) a3
        have tm2 := aqS_TM z2 tm
        have e12 : F2m 149 12 = 753 * t := by rw [z2.2.1 12 (by omega)]; exact h12
        obtain ⟨F3m, G3m, u1, g6, g7, g8, g10⟩ := v6 F2m G2m (Fm 149 13) ⟨⟨tm2, z3⟩, e12, z4, z5, hw0, by omega⟩
        have tm3 := aqS_TM (aqC_S g7 (by omega)) tm2
        have e13 : F3m 149 12 = 753 * t := by rw [g7.2.1 12 (by omega)]; exact e12
        have x3 : F3m 152 (753 * t) = k := by rw [g7.2.2 _ (by omega), z9, u_ne _ _ (by omega)]; exact hk2
        rcases M_tail1 x F3m G3m hB tm3 g6 ht e13 x3 with ⟨r0, _⟩ | ⟨_, F4m, r1, r2, r3⟩
        · exact absurd r0 b1
        · exact ⟨F4m, G3m, by rw [z1, u1, b_I]; exact r1, r3, aqS_tr z2 (aqS_tr (aqC_S g7 (by omega)) r2)⟩
end
