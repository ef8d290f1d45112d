-- reading: one, by what stands first
section
variable (x : m_X)
theorem C_open1 (hX : XOK x) {T : Fn} {n s p op : Int} {F G : Nat → Fn} (hp : CPre F T n s p) (ho : 0 ≤ op ∧ op < 8) : ∃ F1, m_M x k_Reader_opens [.ref 128, .int (jI op)] (mk F G) = some (some (.int (jI 1)), mk F1 G) ∧ CPre F1 T n s (nxp T n p) ∧ aqP F F1 ∧ F1 129 = F 129 ∧ F1 133 = F 133 := by
  obtain ⟨hT, hc, hs0, l0, l1⟩ := hp
  have hn := hT.2.2.1
  have nx := nxp_r (T := T) (n := n) (p := p) hc.2.1.1 hc.2.1.2
  rcases C_opens x F G hX (o := op) hT hc ⟨l0, by have := hc.2.1; omega⟩ (by omega) with ⟨_, F1, y1, y2, y3⟩ | ⟨e8, _⟩
  · exact ⟨F1, y1, ⟨ag8_TP y2 hT, y3, ⟨by rw [y2.2 9 (by omega)]; exact hs0.1, hs0.2⟩, by rw [y2.1 129 (by omega)]; exact l0, by rw [y2.1 129 (by omega)]; omega⟩, ag8_aq y2, y2.1 129 (by omega), y2.1 133 (by omega)⟩
  · omega
/-- what must stand here does stand, or both say so -/
theorem C_exp1 (hX : XOK x) {T : Fn} {n s p tk : Int} {F G : Nat → Fn} (hp : CPre F T n s p) (ht : 0 ≤ tk ∧ tk ≤ 60) : (kd T n p = tk ∧ ∃ F1, m_M x k_Reader_expects [.ref 128, .int (jI tk)] (mk F G) = some (some (.int (jI 1)), mk F1 G) ∧ CPre F1 T n s (nxp T n p) ∧ aqP F F1 ∧ F1 129 = F 129 ∧ F1 133 = F 133) ∨ (¬ kd T n p = tk ∧ ∃ F2, m_M x k_Reader_expects [.ref 128, .int (jI tk)] (mk F G) = some (some (.int (jI 0)), mk F2 G) ∧ CF F F2 1 p) := by
  obtain ⟨hT, hc, hs0, l0, l1⟩ := hp
  have hn := hT.2.2.1
  have nx := nxp_r (T := T) (n := n) (p := p) hc.2.1.1 hc.2.1.2
  rcases C_expects x F G hX hT hc ⟨l0, by have := hc.2.1; omega⟩ ht with ⟨q, F1, y1, y2, y3⟩ | ⟨q, F2, y1, y2⟩
  · exact Or.inl ⟨q, F1, y1, ⟨ag8_TP y2 hT, y3, ⟨by rw [y2.2 9 (by omega)]; exact hs0.1, hs0.2⟩, by rw [y2.1 129 (by omega)]; exact l0, by rw [y2.1 129 (by omega)]; omega⟩, ag8_aq y2, y2.1 129 (by omega), y2.1 133 (by omega)⟩
  · exact Or.inr ⟨q, F2, y1, y2⟩
theorem CPre_of {T : Fn} {n s p p1 : Int} {F F2 : Nat → Fn} {f : LEnv} {d : Nat} (hp : CPre F T n s p) (hg : CG s F F2 T n p p1 f d) : CPre F2 T n s p1 := by
  obtain ⟨hT, hc, hs0, l0, l1⟩ := hp
  obtain ⟨g1, g2, g3, g4, g5, g6⟩ := hg
  exact ⟨aqP_TP g1 hT, g2, ⟨by rw [g1.2.1 9 (by omega)]; exact hs0.1, hs0.2⟩, by omega, by omega⟩
theorem O_num (hX : XOK x) {T : Fn} {n t s p op : Int} (hB : BY T n) (hn : 0 ≤ n ∧ n ≤ 300) (ht : 0 ≤ t ∧ t ≤ 3) (hop : 0 ≤ op ∧ op ≤ 8) (p0 : 0 ≤ p) (hpn : p ≤ n) (hk : kd T n p = 51) : EX1 x T n t s p op := by
  have hlt : p < n := kd_lt (T := T) (n := n) (p := p) (by omega)
  have nx := nxp_r (T := T) (n := n) (p := p) p0 hpn
  have nr := NR_0 T (n - p).toNat p
  have D3 : 3 ≤ Dp op := by unfold Dp; omega
  unfold NR at nr
  by_cases q : cnR T (n - p).toNat p 0 ≤ 9999
  · have em : cnR T (n - p).toNat p 0 = mnR T (n - p).toNat p 0 := by omega
    refine ⟨.inr (nxp T n p, fun _ _ => cnR T (n - p).toNat p 0), ?_, ?_, ?_⟩
    · intro F G hp
      have r8 := (R_8 x (F := F) (G := G) (op := op) hp.2.1.1.1 (by omega) hop).2.1 hk
      rcases C_readNumber x F G hX (a := 0) (b := 9999) hp (by omega) (by omega) (by unfold rg; omega) with ⟨a, _⟩ | ⟨_, a, _⟩ | ⟨_, _, F2, y1, y2, y3, y4, y5⟩
      · exact absurd hk a
      · omega
      · refine ⟨F2, by rw [r8, y1, b_I, if_pos rk_b1], y2, y3, by omega, ?_, ?_, ?_⟩
        · show F2 129 6 - F 129 6 ≤ nxp T n p - p
          omega
        · intro i hi
          rw [y5, u_ne _ _ (by omega)]
        · rw [y4]
          exact CC_num (by rw [y5, u_eq]) (by omega) q (by omega)
    · intro F G d Q w b1 b2 b3 b4 b5 b6 b7
      rcases B_num x F G hB b1 b2 ht (by omega) hk with ⟨a, _⟩ | ⟨_, F2, G2, y1, y2, y3, y4, y5⟩
      · omega
      · refine ⟨F2, G2, d, w + 1, 0, b1, y1, y2, y3, by omega, ?_, ?_⟩
        · show w + 1 - w ≤ nxp T n p - p
          omega
        · rw [em]
          exact MC_num y4 (by unfold cod; rw [show 753 * t + 145 + (2 * w + 1) = 753 * t + 145 + 2 * w + 1 by omega]; exact y5) (by omega) (by omega)
    · intro z hz
      injection hz with hz
      rw [← hz]
      refine ⟨⟨by show p < nxp T n p; omega, nx.2.1⟩, ?_⟩
      intro nm lf _
      show bd (cnR T (n - p).toNat p 0)
      unfold bd
      omega
  · refine ⟨.inl (2, p), ?_, ?_, fun z hz => by cases hz⟩
    · intro F G hp
      have r8 := (R_8 x (F := F) (G := G) (op := op) hp.2.1.1.1 (by omega) hop).2.1 hk
      rcases C_readNumber x F G hX (a := 0) (b := 9999) hp (by omega) (by omega) (by unfold rg; omega) with ⟨a, _⟩ | ⟨_, _, F2, y1, y2⟩ | ⟨_, a, _⟩
      · exact absurd hk a
      · exact ⟨F2, by rw [r8, y1, b_I, if_pos rk_b0], y2⟩
      · omega
    · intro F G d Q w b1 b2 b3 b4 b5 b6 b7
      rcases B_num x F G hB b1 b2 ht (by omega) hk with ⟨_, a⟩ | ⟨a, _⟩
      · exact ⟨F, G, a, aqM_rfl t w F, b2.1.2.1.2.1⟩
      · omega
theorem O_name (hX : XOK x) {T : Fn} {n t s p op : Int} (hB : BY T n) (hn : 0 ≤ n ∧ n ≤ 300) (ht : 0 ≤ t ∧ t ≤ 3) (hs : 0 ≤ s ∧ s ≤ 3) (hop : 0 ≤ op ∧ op ≤ 8) (p0 : 0 ≤ p) (hpn : p ≤ n) (hk : 11 ≤ kd T n p ∧ kd T n p ≤ 24) : EX1 x T n t s p op := by
  have hlt : p < n := kd_lt (T := T) (n := n) (p := p) (by omega)
  have nx := nxp_r (T := T) (n := n) (p := p) p0 hpn
  have D3 : 3 ≤ Dp op := by unfold Dp; omega
  by_cases q : nmok s (kd T n p)
  · refine ⟨.inr (nxp T n p, fun nm _ => nm (kd T n p)), ?_, ?_, ?_⟩
    · intro F G hp
      have r8 := (R_8 x (F := F) (G := G) (op := op) hp.2.1.1.1 (by omega) hop).2.2 (by omega) (by omega)
      rcases C_readName x F G hX hp with ⟨a, _⟩ | ⟨_, a, _⟩ | ⟨_, _, F2, y1, y2, y3, y4, y5⟩
      · exact absurd hk a
      · exact absurd q a
      · refine ⟨F2, by rw [r8, y1, b_I, if_pos rk_b1], y2, y3, by omega, ?_, ?_, ?_⟩
        · show F2 129 6 - F 129 6 ≤ nxp T n p - p
          omega
        · intro i hi
          rw [y5, u_ne _ _ (by omega)]
        · rw [y4]
          exact CC_name (by rw [y5, u_eq]) hk.1 hk.2 q (by omega)
    · intro F G d Q w b1 b2 b3 b4 b5 b6 b7
      rcases B_name x F G hB b1 b2 ht (by omega) hs hk with ⟨a, _⟩ | ⟨_, F2, G2, y1, y2, y3, y4, y5⟩
      · exact absurd q a
      · refine ⟨F2, G2, d, w + 1, 0, b1, y1, y2, y3, by omega, ?_, ?_⟩
        · show w + 1 - w ≤ nxp T n p - p
          omega
        · have e : 11 + (kd T n p - 11) = kd T n p := by omega
          have m := MC_name (s := s) (T := cod t F2) (i := w) (k := kd T n p - 11) y4 (by unfold cod; rw [show 753 * t + 145 + (2 * w + 1) = 753 * t + 145 + 2 * w + 1 by omega]; exact y5) (by omega) (by omega) (by rw [e]; exact q)
          rw [e] at m
          exact m
    · intro z hz
      injection hz with hz
      rw [← hz]
      exact ⟨⟨by show p < nxp T n p; omega, nx.2.1⟩, fun nm lf hE => hE.1 _⟩
  · refine ⟨.inl (5, p), ?_, ?_, fun z hz => by cases hz⟩
    · intro F G hp
      have r8 := (R_8 x (F := F) (G := G) (op := op) hp.2.1.1.1 (by omega) hop).2.2 (by omega) (by omega)
      rcases C_readName x F G hX hp with ⟨a, _⟩ | ⟨_, _, F2, y1, y2⟩ | ⟨_, a, _⟩
      · exact absurd hk a
      · exact ⟨F2, by rw [r8, y1, b_I, if_pos rk_b0], y2⟩
      · exact absurd a q
    · intro F G d Q w b1 b2 b3 b4 b5 b6 b7
      rcases B_name x F G hB b1 b2 ht (by omega) hs hk with ⟨_, a⟩ | ⟨a, _⟩
      · exact ⟨F, G, a, aqM_rfl t w F, b2.1.2.1.2.1⟩
      · exact absurd a q
theorem O_bad (hX : XOK x) {T : Fn} {n t s p op : Int} (hB : BY T n) (hn : 0 ≤ n ∧ n ≤ 300) (hs : 0 ≤ s ∧ s ≤ 3) (hop : 0 ≤ op ∧ op ≤ 8) (hk1 : ¬ kd T n p = 51) (hk2 : ¬ (11 ≤ kd T n p ∧ kd T n p ≤ 24)) (hk3 : ¬ (kd T n p = 27 ∨ kd T n p = 29 ∨ kd T n p = 30 ∨ kd T n p = 42 ∨ kd T n p = 45)) : EX1 x T n t s p op := by
  have kr := kd_r T n p
  refine ⟨.inl (1, p), ?_, ?_, fun z hz => by cases hz⟩
  · intro F G hp
    have r8 := (R_8 x (F := F) (G := G) (op := op) hp.2.1.1.1 (by omega) hop).2.2 hk3 hk1
    rcases C_readName x F G hX hp with ⟨_, F2, y1, y2⟩ | ⟨a, _⟩ | ⟨a, _⟩
    · exact ⟨F2, by rw [r8, y1, b_I, if_pos rk_b0], y2⟩
    · exact absurd a hk2
    · exact absurd a hk2
  · intro F G d Q w b1 b2 b3 b4 b5 b6 b7
    have oo : opO (kd T n p) Q = -1 := by
      unfold opO
      rw [if_neg (by omega), if_neg (by omega), if_neg (by omega), if_neg (by omega), if_neg (by omega), if_neg (fun z => b4 z.1 z.2)]
    rcases B_open x F G hB b1 b2 hs b3 (by omega) hop hk1 hk2 with ⟨_, a⟩ | ⟨a, _⟩ | ⟨a, _⟩
    · exact ⟨F, G, a, aqM_rfl t w F, b2.1.2.1.2.1⟩
    · exact absurd oo a
    · exact absurd oo a
theorem opO_c {k : Int} (h : k = 27 ∨ k = 29 ∨ k = 30 ∨ k = 42 ∨ k = 45) (Q : List Int) : opO k Q = (if k = 45 then 40 else if k = 42 then 5 else if k = 27 then 41 else if k = 29 then 2 else 42) := by
  unfold opO
  rcases h with h | h | h | h | h <;> rw [h] <;> rfl
theorem O_8 (hX : XOK x) {T : Fn} {n t s p op : Int} (hB : BY T n) (hn : 0 ≤ n ∧ n ≤ 300) (hs : 0 ≤ s ∧ s ≤ 3) (hop : op = 8) (hk : kd T n p = 27 ∨ kd T n p = 29 ∨ kd T n p = 30 ∨ kd T n p = 42 ∨ kd T n p = 45) : EX1 x T n t s p op := by
  have kr := kd_r T n p
  refine ⟨.inl (3, p), ?_, ?_, fun z hz => by cases hz⟩
  · intro F G hp
    have hp' := hp
    obtain ⟨hT, hc, hs0, l0, l1⟩ := hp'
    have r8 := (R_8 x (F := F) (G := G) (op := op) hc.1.1 (by omega) (by omega)).1 hk
    rcases C_opens x F G hX (o := op) hT hc ⟨l0, by have := hc.2.1; omega⟩ (by omega) with ⟨a, _⟩ | ⟨_, F2, y1, y2⟩
    · omega
    · exact ⟨F2, r8 _ y1, y2⟩
  · intro F G d Q w b1 b2 b3 b4 b5 b6 b7
    have oo := opO_c hk Q
    rcases B_open x F G hB b1 b2 hs b3 (by omega) (by omega) (by omega) (by omega) with ⟨a, _⟩ | ⟨_, _, a⟩ | ⟨_, a, _⟩
    · exfalso
      rw [oo] at a
      rcases hk with h | h | h | h | h <;> rw [h] at a <;> simp at a
    · exact ⟨F, G, a, aqM_rfl t w F, b2.1.2.1.2.1⟩
    · omega
/-- the model opens -/
theorem M_open1 {T : Fn} {n t s p op w o : Int} {F G : Nat → Fn} {d : Option Value} {Q : List Int} (hB : BY T n) (hs : 0 ≤ s ∧ s ≤ 3) (hop : 0 ≤ op ∧ op < 8) (hk : kd T n p = 27 ∨ kd T n p = 29 ∨ kd T n p = 30 ∨ kd T n p = 42 ∨ kd T n p = 45) (ho : o = (if kd T n p = 45 then 40 else if kd T n p = 42 then 5 else if kd T n p = 27 then 41 else if kd T n p = 29 then 2 else 42)) (b1 : m_nl d = true) (b2 : STa F G T n t s p Q op w 0) (b3 : okQ Q) (b5 : Q.length ≤ 6 * op.toNat + 5) : ∃ F2 G2, LH x d F G = LH x (some (.int (jI 0))) F2 G2 ∧ STa F2 G2 T n t s (nxp T n p) (o :: Q) (op + 1) w 0 ∧ aqM t w F F2 := by
  have oo := opO_c hk Q
  rw [← ho] at oo
  have on : ¬ o = -1 := by
    rw [ho]
    rcases hk with h | h | h | h | h <;> rw [h] <;> decide
  rcases B_open x F G hB b1 b2 hs b3 (by omega) (by omega) (by omega) (by omega) with ⟨a, _⟩ | ⟨_, a, _⟩ | ⟨_, _, F2, G2, z1, z2, z3⟩
  · omega
  · omega
  · rw [oo] at z2
    exact ⟨F2, G2, z1, z2, z3⟩
theorem O_un (hX : XOK x) {T : Fn} {n t s p op : Int} (hB : BY T n) (hn : 0 ≤ n ∧ n ≤ 300) (ht : 0 ≤ t ∧ t ≤ 3) (hs : 0 ≤ s ∧ s ≤ 3) (hop : 0 ≤ op ∧ op < 8) (p0 : 0 ≤ p) (hpn : p ≤ n) (hk : kd T n p = 42 ∨ kd T n p = 29) (h1 : EX1 x T n t s (nxp T n p) (op + 1)) : EX1 x T n t s p op := by
  have hlt : p < n := kd_lt (T := T) (n := n) (p := p) (by omega)
  have nx := nxp_r (T := T) (n := n) (p := p) p0 hpn
  have ds := Dp_s hop
  have D3 : 3 ≤ Dp (op + 1) := by unfold Dp; omega
  obtain ⟨dd, o, e1, e2, e3, e4, e5⟩ : ∃ dd o : Int, (dd = 50 ∧ o = 5 ∧ kd T n p = 42 ∨ dd = 29 ∧ o = 2 ∧ kd T n p = 29) ∧ (0 ≤ dd ∧ dd ≤ 60) ∧ rk o = 7 ∧ (0 ≤ o ∧ o < 40) ∧ o = (if kd T n p = 45 then 40 else if kd T n p = 42 then 5 else if kd T n p = 27 then 41 else if kd T n p = 29 then 2 else 42) := by
    rcases hk with h | h
    · exact ⟨50, 5, Or.inl ⟨rfl, rfl, h⟩, by omega, by decide, by omega, by rw [h]; rfl⟩
    · exact ⟨29, 2, Or.inr ⟨rfl, rfl, h⟩, by omega, by decide, by omega, by rw [h]; rfl⟩
  obtain ⟨r, c1, c2, c3⟩ := h1
  have cls : ∀ F G, CPre F T n s p → ∃ F1, CPre F1 T n s (nxp T n p) ∧ aqP F F1 ∧ F1 129 = F 129 ∧ F1 133 = F 133 ∧ m_M x k_Reader_readOne [.ref 128, .int (jI op)] (mk F G) = (m_bI (m_M x k_Reader_readOne [.ref 128, .int (jI (op + 1))] (mk F1 G)) fun v118 s118 => if v118 = jI 0 then (some (some (.int (jI 0)), s118)) else m_bI (m_M x k_Reader_does [.ref 128, .int (jI dd)] s118) fun v127 s127 => if v127 = jI 0 then (some (some (.int (jI 0)), s127)) else some (some (.int (jI 1)), s127)) := by
    intro F G hp
    obtain ⟨F1, y1, y2, y3, y4, y5⟩ := C_open1 x hX (G := G) hp hop
    refine ⟨F1, y2, y3, y4, y5, ?_⟩
    rw [R_sw x hp.2.1.1.1 (by omega) hop]
    rcases e1 with ⟨d1, _, k1⟩ | ⟨d1, _, k1⟩
    · rw [if_neg (by omega), if_neg (by omega), if_neg (by omega), if_pos k1, y1, b_I, if_neg (by decide), d1]
    · rw [if_neg (by omega), if_pos k1, y1, b_I, if_neg (by decide), d1]
  have nao : ∀ Q, ¬ aa (o :: Q) = true := by
    intro Q
    simp only [aa, Bool.and_eq_true, Bool.or_eq_true, decide_eq_true_eq]
    intro hh
    rcases hh.2 with hh | hh <;> omega
  cases r with
  | inl e =>
    refine ⟨.inl e, ?_, ?_, fun z hz => by cases hz⟩
    · intro F G hp
      obtain ⟨F1, y1, y2, y3, y4, y5⟩ := cls F G hp
      obtain ⟨F2, z1, z2, z3⟩ := c1 F1 G y1
      exact ⟨F2, by rw [y5, z1, b_I, if_pos rfl], aqP_tr y2 z2, z3⟩
    · intro F G d Q w b1 b2 b3 b4 b5 b6 b7
      obtain ⟨F2, G2, z1, z2, z3⟩ := M_open1 x hB hs hop (by omega) e5 b1 b2 b3 b5
      obtain ⟨F4, G4, k1, k2, k3⟩ := c2 F2 G2 (some (.int (jI 0))) (o :: Q) w rfl z2 (okQ_i (by omega) b3) (fun _ => nao Q) (by simp only [List.length_cons]; omega) b6 (by omega)
      exact ⟨F4, G4, by rw [z1]; exact k1, aqM_tr z3 k2 (Int.le_refl _), k3⟩
  | inr q =>
    obtain ⟨f1, f2⟩ := c3 q rfl
    refine ⟨.inr (q.1, fun nm lf => if dd = 50 then -(q.2 nm lf) else lf (q.2 nm lf)), ?_, ?_, ?_⟩
    · intro F G hp
      have l0 := hp.2.2.2
      obtain ⟨F1, y1, y2, y3, y4, y5⟩ := cls F G hp
      obtain ⟨F2, z1, z2, z3, z4, z5, z6, z7⟩ := c1 F1 G y1
      rw [y3] at z4 z5 z6 z7
      obtain ⟨F3, k1, k2, k3, k4⟩ := C_does x F2 G (dd := dd) ⟨by omega, by omega⟩
      obtain ⟨k5, k6⟩ := k4 (by omega)
      refine ⟨F3, ?_, aqP_tr y2 (aqP_tr z2 (aqD_P k2)), aqD_CT k2 z3, ?_, ?_, ?_, ?_⟩
      · rw [y5, z1, b_I, if_neg (by decide), k1, b_I, if_neg (by decide)]
      · rw [k5]; omega
      · rw [k5]; show F2 129 6 + 1 - F 129 6 ≤ q.1 - p; omega
      · intro i hi
        rw [k6, u_ne _ _ (by omega), z6 i (by omega), y4]
      · rw [k5]
        refine CC_step (f := q.2) (CC_le (CC_loc (c1 := F2 133) (fun z _ hz => by rw [k6, u_ne _ _ (by omega)]) z7) (by omega)) (by omega) f2 ?_
        intro nm lf hE st
        unfold CS
        rcases e1 with ⟨d1, _, _⟩ | ⟨d1, _, _⟩
        · refine Or.inr (Or.inr (Or.inr (Or.inr (Or.inr (Or.inl ⟨?_, rfl, q.2 nm lf, st, rfl, ?_⟩)))))
          · rw [k6, u_eq, d1]; rfl
          · show (if dd = 50 then -(q.2 nm lf) else lf (q.2 nm lf)) :: st = _
            rw [if_pos d1]
        · refine Or.inr (Or.inr (Or.inr (Or.inr (Or.inr (Or.inr (Or.inl ⟨?_, rfl, q.2 nm lf, st, rfl, ?_⟩))))))
          · rw [k6, u_eq, d1]; rfl
          · show (if dd = 50 then -(q.2 nm lf) else lf (q.2 nm lf)) :: st = _
            rw [if_neg (by omega)]
    · intro F G d Q w b1 b2 b3 b4 b5 b6 b7
      obtain ⟨F2, G2, z1, z2, z3⟩ := M_open1 x hB hs hop (by omega) e5 b1 b2 b3 b5
      obtain ⟨F4, G4, d4, w4', wh, k0, k1, k2, k3, k4, k5, k6⟩ := c2 F2 G2 (some (.int (jI 0))) (o :: Q) w rfl z2 (okQ_i (by omega) b3) (fun _ => nao Q) (by simp only [List.length_cons]; omega) b6 (by omega)
      obtain ⟨F5, j1, j2, j3, j4⟩ := EO_pop x F4 G4 (d := d4) k2 e3 (okQ_i (by omega) b3) (by omega) ht (by omega) (by omega)
      rw [show op + 1 - 1 = op from by omega] at j2
      refine ⟨F5, G4, d4, w4' + 1, wh, k0, by rw [z1, k1]; exact j1, j2, aqM_tr (aqM_tr z3 k3 (Int.le_refl _)) j3 (by omega), by omega, ?_, ?_⟩
      · show w4' + 1 - w ≤ q.1 - p
        omega
      · refine MC_un (f := q.2) (MC_loc (T1 := cod t F4) (fun z _ hz => cod_ag j3 z hz) k6) b6 f2 ?_
        have jc : cod t F5 (2 * w4') = o := j4
        rcases e1 with ⟨d1, o1, _⟩ | ⟨d1, o1, _⟩
        · left
          exact ⟨by rw [jc, o1], by funext nm lf; show (if dd = 50 then -(q.2 nm lf) else lf (q.2 nm lf)) = _; rw [if_pos d1]⟩
        · right
          exact ⟨by rw [jc, o1], by funext nm lf; show (if dd = 50 then -(q.2 nm lf) else lf (q.2 nm lf)) = _; rw [if_neg (by omega)]⟩
    · intro z hz
      injection hz with hz
      rw [← hz]
      refine ⟨⟨by show p < q.1; omega, f1.2⟩, ?_⟩
      intro nm lf hE
      show bd (if dd = 50 then -(q.2 nm lf) else lf (q.2 nm lf))
      have a := f2 nm lf hE
      have b := hE.2 (q.2 nm lf)
      unfold bd at *
      split <;> omega
theorem O_paren (hX : XOK x) {T : Fn} {n t s p op : Int} (hB : BY T n) (hn : 0 ≤ n ∧ n ≤ 300) (ht : 0 ≤ t ∧ t ≤ 3) (hs : 0 ≤ s ∧ s ≤ 3) (hop : 0 ≤ op ∧ op < 8) (p0 : 0 ≤ p) (hpn : p ≤ n) (hk : kd T n p = 45) (h1 : EXS x T n t s (nxp T n p) (op + 1)) : EX1 x T n t s p op := by
  have hlt : p < n := kd_lt (T := T) (n := n) (p := p) (by omega)
  have nx := nxp_r (T := T) (n := n) (p := p) p0 hpn
  have ds := Dp_s hop
  obtain ⟨r, c1, c2, c3⟩ := h1
  have cls : ∀ F G, CPre F T n s p → ∃ F1, CPre F1 T n s (nxp T n p) ∧ aqP F F1 ∧ F1 129 = F 129 ∧ F1 133 = F 133 ∧ m_M x k_Reader_readOne [.ref 128, .int (jI op)] (mk F G) = (m_bI (m_M x k_Reader_readSum [.ref 128, .int (jI (op + 1))] (mk F1 G)) fun v85 s85 => if v85 = jI 0 then (some (some (.int (jI 0)), s85)) else m_bI (m_M x k_Reader_expects [.ref 128, .int (jI 46)] s85) fun v94 s94 => if v94 = jI 0 then (some (some (.int (jI 0)), s94)) else some (some (.int (jI 1)), s94)) := by
    intro F G hp
    obtain ⟨F1, y1, y2, y3, y4, y5⟩ := C_open1 x hX (G := G) hp hop
    refine ⟨F1, y2, y3, y4, y5, ?_⟩
    rw [R_sw x hp.2.1.1.1 (by omega) hop, if_neg (by omega), if_neg (by omega), if_neg (by omega), if_neg (by omega), if_pos hk, y1, b_I, if_neg (by decide)]
  have e40 : (40 : Int) = (if kd T n p = 45 then 40 else if kd T n p = 42 then 5 else if kd T n p = 27 then 41 else if kd T n p = 29 then 2 else 42) := by rw [if_pos hk]
  have ctx : ∀ Q, ctxA 4 (kd T n (nxp T n p)) (40 :: Q) := by
    intro Q
    refine ⟨fun _ => ?_, ?_⟩
    · simp only [aa, Bool.and_eq_true, Bool.or_eq_true, decide_eq_true_eq]
      intro hh
      have := hh.1
      rw [oN, if_pos (by omega)] at this
      omega
    · intro z R hz
      injection hz with z1 z2
      rw [← z1]
      exact ⟨by decide, by omega⟩
  cases r with
  | inl e =>
    refine ⟨.inl e, ?_, ?_, fun z hz => by cases hz⟩
    · intro F G hp
      obtain ⟨F1, y1, y2, y3, y4, y5⟩ := cls F G hp
      obtain ⟨F2, z1, z2, z3⟩ := c1 F1 G y1
      exact ⟨F2, by rw [y5, z1, b_I, if_pos rfl], aqP_tr y2 z2, z3⟩
    · intro F G d Q w b1 b2 b3 b4 b5 b6 b7
      obtain ⟨F2, G2, z1, z2, z3⟩ := M_open1 x hB hs hop (by omega) e40 b1 b2 b3 b5
      obtain ⟨F4, G4, k1, k2, k3⟩ := c2 F2 G2 (some (.int (jI 0))) (40 :: Q) w rfl z2 (okQ_i (by omega) b3) (ctx Q) (by simp only [List.length_cons]; omega) b6 (by omega)
      exact ⟨F4, G4, by rw [z1]; exact k1, aqM_tr z3 k2 (Int.le_refl _), k3⟩
  | inr q =>
    obtain ⟨f1, f2, f3⟩ := c3 q rfl
    have nxq := nxp_r (T := T) (n := n) (p := q.1) (by omega) f1.2
    have kq := kd_r T n q.1
    -- the model, up to what must close it
    have mod : ∀ F G d Q w, m_nl d = true → STa F G T n t s p Q op w 0 → okQ Q → Q.length ≤ 6 * op.toNat + 5 → 0 ≤ w → w ≤ p → ∃ F4 G4 F5 d5 w5 O op2 w2, m_nl d5 = true ∧ LH x d F G = LH x d5 F4 G4 ∧ STa F4 G4 T n t s q.1 (O ++ 40 :: Q) op2 w2 1 ∧ okQ (O ++ 40 :: Q) ∧ (O ++ 40 :: Q).length ≤ 100 ∧ oN (O ++ 40 :: Q) = 40 ∧ SE x 1 F4 G4 = some (none, mk F5 G4) ∧ STa F5 G4 T n t s q.1 (40 :: Q) (op + 1) w5 1 ∧ aqM t w F F4 ∧ aqM t w F F5 ∧ w < w5 ∧ w5 - w ≤ q.1 - nxp T n p ∧ MCo s (cod t F5) w w5 q.2 := by
      intro F G d Q w b1 b2 b3 b5 b6 b7
      obtain ⟨F2, G2, z1, z2, z3⟩ := M_open1 x hB hs hop (by omega) e40 b1 b2 b3 b5
      obtain ⟨F4, G4, F5, d5, w5, k0, k1, k2, k3, k4, k5, k6, k7⟩ := c2 F2 G2 (some (.int (jI 0))) (40 :: Q) w rfl z2 (okQ_i (by omega) b3) (ctx Q) (by simp only [List.length_cons]; omega) b6 (by omega)
      obtain ⟨O, op2, w2, g1, g2, g3, g4, g5, g6, g7⟩ := k2
      have sst := M_stop x F5 G4 (l := 1) g7 (okQ_i (by omega) b3) (by simp only [List.length_cons]; omega) (fun z R hz => by injection hz with e1 e2; rw [← e1]; decide) (by omega)
      refine ⟨F4, G4, F5, d5, w5, O, op2, w2, k0, by rw [z1]; exact k1, g1, g2, g3, ?_, by rw [g6 1 (by omega) (by omega)]; exact sst, g7, aqM_tr z3 k3 (Int.le_refl _), aqM_tr z3 k4 (Int.le_refl _), k5, k6, k7⟩
      rw [g4, oN, if_pos (by omega)]
    have bq : ∀ R, oN R = 40 → btw (kd T n q.1) R = -1 := by
      intro R hR
      unfold btw
      rw [if_neg f3.1, if_neg f3.2.1, if_neg f3.2.2.1, if_neg f3.2.2.2, if_pos (by omega)]
    by_cases cl : kd T n q.1 = 46
    · have hq : q.1 < n := kd_lt (T := T) (n := n) (p := q.1) (by omega)
      refine ⟨.inr (nxp T n q.1, q.2), ?_, ?_, ?_⟩
      · intro F G hp
        obtain ⟨F1, y1, y2, y3, y4, y5⟩ := cls F G hp
        obtain ⟨F2, z1, z2⟩ := c1 F1 G y1
        have pre2 := CPre_of y1 z2
        obtain ⟨z2', z3, z4, z5, z6, z7⟩ := z2
        rw [y3] at z4 z5 z6 z7
        rcases C_exp1 x hX (G := G) (tk := 46) pre2 (by omega) with ⟨_, F3, k1, k2, k3, k4, k5⟩ | ⟨a, _⟩
        · refine ⟨F3, ?_, aqP_tr y2 (aqP_tr z2' k3), k2.2.1, ?_, ?_, ?_, ?_⟩
          · rw [y5, z1, b_I, if_neg (by decide), k1, b_I, if_neg (by decide)]
          · rw [k4]; exact z4
          · rw [k4]; show F2 129 6 - F 129 6 ≤ nxp T n q.1 - p; omega
          · intro i hi
            rw [k5, z6 i (by omega), y4]
          · rw [k4, k5]
            exact CC_le z7 (by omega)
        · exact absurd cl a
      · intro F G d Q w b1 b2 b3 b4 b5 b6 b7
        obtain ⟨F4, G4, F5, d5, w5, O, op2, w2, m0, m1, m2, m3, m4, m5, m6, m7, m8, m9, m10, m11, m12⟩ := mod F G d Q w b1 b2 b3 b5 b6 b7
        obtain ⟨F6, G6, j1, j2, j3, j4⟩ := BH_close x F4 G4 hB m0 m2 m3 (by omega) (bq _ m5) (by unfold prt; rw [if_pos m5, if_pos cl]) m5 m6 m7 (by omega) (by omega) ht (by omega)
        rw [if_neg (by omega), show op + 1 - 1 = op from by omega] at j2
        refine ⟨F6, G6, d5, w5, 1, m0, by rw [m1]; exact j1, j2, aqM_tr m9 j3 (by omega), m10, ?_, MC_loc (T1 := cod t F5) (fun z _ hz => cod_ag j3 z hz) m12⟩
        show w5 - w ≤ nxp T n q.1 - p
        omega
      · intro z hz
        injection hz with hz
        rw [← hz]
        exact ⟨⟨by show p < nxp T n q.1; omega, nxq.2.1⟩, f2⟩
    · refine ⟨.inl (1, q.1), ?_, ?_, fun z hz => by cases hz⟩
      · intro F G hp
        obtain ⟨F1, y1, y2, y3, y4, y5⟩ := cls F G hp
        obtain ⟨F2, z1, z2⟩ := c1 F1 G y1
        have pre2 := CPre_of y1 z2
        rcases C_exp1 x hX (G := G) (tk := 46) pre2 (by omega) with ⟨a, _⟩ | ⟨_, F3, k1, k2⟩
        · exact absurd a cl
        · exact ⟨F3, by rw [y5, z1, b_I, if_neg (by decide), k1, b_I, if_pos rfl], aqP_tr y2 (aqP_tr z2.1 k2.1), k2.2⟩
      · intro F G d Q w b1 b2 b3 b4 b5 b6 b7
        obtain ⟨F4, G4, F5, d5, w5, O, op2, w2, m0, m1, m2, m3, m4, m5, m6, m7, m8, m9, m10, m11, m12⟩ := mod F G d Q w b1 b2 b3 b5 b6 b7
        have bn := BH_none x F4 G4 hB m0 m2 m3 (by omega) (bq _ m5) (by unfold prt; rw [if_pos m5, if_neg cl])
        rw [if_neg (by omega)] at bn
        exact ⟨F4, G4, by rw [m1]; exact bn, m8, m2.1.2.1.2.1⟩
end
