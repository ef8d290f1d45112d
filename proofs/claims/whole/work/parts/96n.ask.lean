-- reading: what is asked
def ctxK : Int → List Int → Prop := fun _ Q => aa Q = true
theorem aa_top {Q : List Int} (h : aa Q = true) : oN Q = 42 ∧ cq Q = false ∧ top4 3 Q ∧ ¬ Q = [] := by
  cases Q with
  | nil => simp [aa] at h
  | cons o R =>
    simp only [aa, Bool.and_eq_true, Bool.or_eq_true, decide_eq_true_eq] at h
    have r0 : 40 ≤ o → rk o = 0 := by intro h; unfold rk; rw [if_pos h]
    have rl : rk o ≤ 3 := by
      rcases h.2 with h | h
      · rw [r0 h]; omega
      · omega
    refine ⟨h.1, ?_, ?_, by simp⟩
    · rw [cq, if_pos (by omega)]
      simp
      omega
    · intro z S hz
      injection hz with e1 e2
      rw [← e1]
      refine ⟨rl, ?_⟩
      intro e
      have := h.1
      rw [oN, if_pos (by omega)] at this
      omega
theorem cmpO_r {k : Int} (h : ¬ cmpO k = -1) : (10 ≤ cmpO k ∧ cmpO k ≤ 15) ∧ mo (cmpO k) = k ∧ rk (cmpO k) = 4 ∧ (k = 37 ∨ k = 38 ∨ k = 39 ∨ k = 40 ∨ k = 48 ∨ k = 49) := by
  have f : ∀ v : Fin 54, ¬ cmpO (v.val : Int) = -1 → (10 ≤ cmpO (v.val : Int) ∧ cmpO (v.val : Int) ≤ 15) ∧ mo (cmpO (v.val : Int)) = (v.val : Int) ∧ rk (cmpO (v.val : Int)) = 4 ∧ ((v.val : Int) = 37 ∨ (v.val : Int) = 38 ∨ (v.val : Int) = 39 ∨ (v.val : Int) = 40 ∨ (v.val : Int) = 48 ∨ (v.val : Int) = 49) := by decide +kernel
  have hk : k = 37 ∨ k = 38 ∨ k = 39 ∨ k = 40 ∨ k = 48 ∨ k = 49 := by
    unfold cmpO at h
    by_cases a1 : k = 37
    · omega
    · by_cases a2 : k = 48
      · omega
      · by_cases a3 : k = 38
        · omega
        · by_cases a4 : k = 49
          · omega
          · by_cases a5 : k = 39
            · omega
            · by_cases a6 : k = 40
              · omega
              · rw [if_neg a1, if_neg a2, if_neg a3, if_neg a4, if_neg a5, if_neg a6] at h
                exact absurd rfl h
  have g := f ⟨k.toNat, by omega⟩
  have e : ((k.toNat : Nat) : Int) = k := by omega
  simp only [e] at g
  exact g h
section
variable (x : m_X)
theorem C_compares {F G : Nat → Fn} {k : Int} (hk : 0 ≤ k ∧ k ≤ 53) : m_M x k_Words_compares [.int (jI k)] (mk F G) = some (some (.int (jI (if cmpO k = -1 then 0 else 1))), mk F G) := by
  have f : ∀ v : Fin 54, (if jI (v.val : Int) < 37 then (if jI (v.val : Int) = 48 then (1 : Int32) else if jI (v.val : Int) = 49 then 1 else 0) else if jI (v.val : Int) ≤ 40 then 1 else if jI (v.val : Int) = 48 then 1 else if jI (v.val : Int) = 49 then 1 else 0) = jI (if cmpO (v.val : Int) = -1 then 0 else 1) := by decide +kernel
  have g := f ⟨k.toNat, by omega⟩
  have e : ((k.toNat : Nat) : Int) = k := by omega
  simp only [e] at g
  rw [E_Words_compares, ← g]
  simp only [some_ite]
def EXA (x : m_X) (T : Fn) (n t s p op : Int) : Prop := ∃ r, Cok x k_Reader_readAsk [.ref 128, .int (jI op)] s T n p r (Dp op + 3) ∧ Mok x 3 true (fun _ => true) ctxK 2 T n t s p op r ∧ ∀ q, r = .inr q → (p < q.1 ∧ q.1 ≤ n) ∧ b01 q.2 ∧ ¬ kd T n q.1 = 41 ∧ ¬ kd T n q.1 = 42 ∧ ¬ kd T n q.1 = 43 ∧ ¬ kd T n q.1 = 44
theorem Dp_s {op : Int} (h : 0 ≤ op ∧ op < 8) : Dp op = Dp (op + 1) + 5 := by
  unfold Dp
  omega
theorem ASK_of (hX : XOK x) {T : Fn} {n t s p op : Int} (hB : BY T n) (hn : 0 ≤ n ∧ n ≤ 300) (ht : 0 ≤ t ∧ t ≤ 3) (hs : 0 ≤ s ∧ s ≤ 3) (hop : 0 ≤ op ∧ op ≤ 8) (p0 : 0 ≤ p) (h1 : ∀ p1, p ≤ p1 → p1 ≤ n → EXS x T n t s p1 op) (h2 : op < 8 → ∀ p1, p < p1 → p1 ≤ n → EXA x T n t s p1 (op + 1)) (hpn : p ≤ n) : EXA x T n t s p op := by
  have D3 : 3 ≤ Dp op := by unfold Dp; omega
  have kr := kd_r T n p
  have nx := nxp_r (T := T) (n := n) (p := p) p0 hpn
  have rka := rk_ask hop
  have rks := rk_sum hop
  by_cases q36 : kd T n p = 36
  · have hlt : p < n := kd_lt (T := T) (n := n) (p := p) (by omega)
    have e51 : ¬ kd T n p = 51 := by omega
    have e24 : ¬ (11 ≤ kd T n p ∧ kd T n p ≤ 24) := by omega
    have oo : ∀ Q, aa Q = true → opO (kd T n p) Q = 20 := by
      intro Q hQ
      unfold opO
      rw [if_neg (by omega), if_neg (by omega), if_neg (by omega), if_neg (by omega), if_neg (by omega), if_pos ⟨q36, hQ⟩]
    by_cases o8 : op < 8
    · have ds := Dp_s (op := op) ⟨hop.1, o8⟩
      have rka1 := rk_ask (op := op + 1) (by omega)
      obtain ⟨r2, c1, c2, c3⟩ := h2 o8 (nxp T n p) (by omega) (by omega)
      have cpre : ∀ F G, CPre F T n s p → ∃ F1, CPre F1 T n s (nxp T n p) ∧ aqP F F1 ∧ F1 129 = F 129 ∧ F1 133 = F 133 ∧ m_M x k_Reader_readAsk [.ref 128, .int (jI op)] (mk F G) = (m_bI (m_M x k_Reader_readAsk [.ref 128, .int (jI (op + 1))] (mk F1 G)) fun v21 s21 => if v21 = jI 0 then (some (some (.int (jI 0)), s21)) else m_bI (m_M x k_Reader_does [.ref 128, .int (jI 36)] s21) fun v30 s30 => if v30 = jI 0 then (some (some (.int (jI 0)), s30)) else some (some (.int (jI 1)), s30)) := by
        intro F G hp
        obtain ⟨hT, hc, hs0, l0, l1⟩ := hp
        rcases C_opens x F G hX hT hc ⟨l0, by omega⟩ hop with ⟨_, F1, y1, y2, y3⟩ | ⟨e8, _⟩
        · refine ⟨F1, ⟨ag8_TP y2 hT, y3, ⟨by rw [y2.2 9 (by omega)]; exact hs0.1, hs0.2⟩, by rw [y2.1 129 (by omega)]; exact l0, by rw [y2.1 129 (by omega)]; omega⟩, ag8_aq y2, y2.1 129 (by omega), y2.1 133 (by omega), ?_⟩
          rw [E_Reader_readAsk, isO_128, if_pos rfl, fI_128_5, Option.bind_some, hc.1.1, show (36 : Int32) = jI 36 from by decide, if_pos (by rw [q36]), y1, b_I, if_neg (by decide), show (1 : Int32) = jI 1 from rfl, jI_add, if_pos (by omega)]
          rfl
        · omega
      have mpre : ∀ F G d Q w, m_nl d = true → STa F G T n t s p Q op w 0 → okQ Q → aa Q = true → Q.length ≤ 6 * op.toNat + 2 → ∃ F2 G2, LH x d F G = LH x (some (.int (jI 0))) F2 G2 ∧ STa F2 G2 T n t s (nxp T n p) (20 :: Q) (op + 1) w 0 ∧ aqM t w F F2 := by
        intro F G d Q w b1 b2 b3 b4 b5
        have ob := B_open x F G hB b1 b2 hs b3 (by omega) hop e51 e24
        rw [oo Q b4] at ob
        rcases ob with ⟨a, _⟩ | ⟨_, a, _⟩ | ⟨_, _, F2, G2, z1, z2, z3⟩
        · omega
        · omega
        · exact ⟨F2, G2, z1, z2, z3⟩
      have aa20 : ∀ Q, aa Q = true → aa (20 :: Q) = true := by
        intro Q hQ
        have := (aa_top hQ).1
        simp only [aa, Bool.and_eq_true, Bool.or_eq_true, decide_eq_true_eq]
        refine ⟨?_, Or.inr (by decide)⟩
        rw [oN, if_neg (by omega)]
        exact this
      cases r2 with
      | inl e =>
        refine ⟨.inl e, ?_, ?_, fun q hq => by cases hq⟩
        · intro F G hp
          obtain ⟨F1, y1, y2, y3, y4, y5⟩ := cpre F G hp
          obtain ⟨F2, z1, z2, z3⟩ := c1 F1 G y1
          refine ⟨F2, ?_, aqP_tr y2 z2, z3⟩
          rw [y5, z1, b_I, if_pos rfl]
        · intro F G d Q w b1 b2 b3 b4 b5 b6 b7
          obtain ⟨F2, G2, z1, z2, z3⟩ := mpre F G d Q w b1 b2 b3 b4 b5
          obtain ⟨F4, G4, k1, k2, k3⟩ := c2 F2 G2 (some (.int (jI 0))) (20 :: Q) w rfl z2 (okQ_i (by omega) b3) (aa20 Q b4) (by simp only [List.length_cons]; omega) b6 (by omega)
          exact ⟨F4, G4, by rw [z1]; exact k1, aqM_tr z3 k2 (Int.le_refl _), k3⟩
      | inr q =>
        obtain ⟨e1, e2, e3⟩ := c3 q rfl
        refine ⟨.inr (q.1, fun nm lf => 1 - q.2 nm lf), ?_, ?_, ?_⟩
        · intro F G hp
          obtain ⟨F1, y1, y2, y3, y4, y5⟩ := cpre F G hp
          have l0 := hp.2.2.2
          obtain ⟨F2, z1, z2, z3, z4, z5, z6, z7⟩ := c1 F1 G y1
          rw [y3] at z4 z5 z6 z7
          obtain ⟨F3, k1, k2, k3, k4⟩ := C_does x F2 G (dd := 36) ⟨by omega, by omega⟩
          obtain ⟨k5, k6⟩ := k4 (by omega)
          refine ⟨F3, ?_, aqP_tr y2 (aqP_tr z2 (aqD_P k2)), aqD_CT k2 z3, ?_, ?_, ?_, ?_⟩
          · rw [y5, z1, b_I, if_neg (by decide), k1, b_I, if_neg (by decide)]
          · rw [k5]; omega
          · rw [k5]; show F2 129 6 + 1 - F 129 6 ≤ q.1 - p; omega
          · intro i hi
            rw [k6, u_ne _ _ (by omega), z6 i (by omega), y4]
          · rw [k5]
            refine CC_step (f := q.2) (CC_le (CC_loc (c1 := F2 133) (fun z _ hz => by rw [k6, u_ne _ _ (by omega)]) z7) (by omega)) (by omega) (b01_bd e2) ?_
            intro nm lf hk st
            unfold CS
            refine Or.inr (Or.inr (Or.inr (Or.inr (Or.inl ⟨?_, rfl, q.2 nm lf, st, rfl, e2 nm lf hk, rfl⟩))))
            rw [k6, u_eq]
            rfl
        · intro F G d Q w b1 b2 b3 b4 b5 b6 b7
          obtain ⟨F2, G2, z1, z2, z3⟩ := mpre F G d Q w b1 b2 b3 b4 b5
          obtain ⟨F4, G4, F5, d5, w5, k0, k1, k2, k3, k4, k5, k6, k7⟩ := c2 F2 G2 (some (.int (jI 0))) (20 :: Q) w rfl z2 (okQ_i (by omega) b3) (aa20 Q b4) (by simp only [List.length_cons]; omega) b6 (by omega)
          obtain ⟨F6, j1, j2, j3⟩ := Beh_pop (L2 := 3) k2 (by omega) (by omega) (by decide) ht (by omega) (by omega)
          rw [if_pos (Or.inr rfl), show op + 1 - 1 = op from by omega] at j1
          refine ⟨F4, G4, F6, d5, w5 + 1, k0, by rw [z1]; exact k1, j1, aqM_tr z3 k3 (Int.le_refl _), aqM_tr (aqM_tr z3 k4 (Int.le_refl _)) j2 (by omega), by omega, ?_, ?_⟩
          · show w5 + 1 - w ≤ q.1 - p
            omega
          · refine MB_not (f := q.2) (MB_loc (T1 := cod t F5) (fun z _ hz => cod_ag j2 z hz) k7) b6 e2 ?_
            exact j3
        · intro q2 hq
          injection hq with hq
          rw [← hq]
          refine ⟨⟨by show p < q.1; omega, e1.2⟩, ?_, e3⟩
          intro nm lf hk
          rcases e2 nm lf hk with e | e
          · right; show 1 - q.2 nm lf = 1; omega
          · left; show 1 - q.2 nm lf = 0; omega
    · have e8 : op = 8 := by omega
      refine ⟨.inl (3, p), ?_, ?_, fun q hq => by cases hq⟩
      · intro F G hp
        obtain ⟨hT, hc, hs0, l0, l1⟩ := hp
        rcases C_opens x F G hX hT hc ⟨l0, by omega⟩ hop with ⟨e8', _⟩ | ⟨_, F1, y1, y2⟩
        · omega
        · refine ⟨F1, ?_, y2⟩
          rw [E_Reader_readAsk, isO_128, if_pos rfl, fI_128_5, Option.bind_some, hc.1.1, show (36 : Int32) = jI 36 from by decide, if_pos (by rw [q36]), y1, b_I, if_pos (by decide)]
          rfl
      · intro F G d Q w b1 b2 b3 b4 b5 b6 b7
        have ob := B_open x F G hB b1 b2 hs b3 (by omega) hop e51 e24
        rw [oo Q b4] at ob
        rcases ob with ⟨a, _⟩ | ⟨_, _, a⟩ | ⟨_, a, _⟩
        · omega
        · exact ⟨F, G, a, aqM_rfl t w F, b2.1.2.1.2.1⟩
        · omega
  · obtain ⟨r1, c1, c2, c3⟩ := h1 p (Int.le_refl _) hpn
    have ctx1 : ∀ Q, aa Q = true → ctxA 4 (kd T n p) Q := by
      intro Q hQ
      refine ⟨fun h => absurd h q36, ?_⟩
      intro z R hz
      have := (aa_top hQ).2.2.1 z R hz
      exact ⟨by omega, this.2⟩
    -- the class, up to the first sum
    have cst : ∀ F G, CPre F T n s p → m_M x k_Reader_readAsk [.ref 128, .int (jI op)] (mk F G) = (m_bI (m_M x k_Reader_readSum [.ref 128, .int (jI op)] (mk F G)) fun v44 s44 => if v44 = jI 0 then (some (some (.int (jI 0)), s44)) else (m_fI s44 3 5 128).bind fun v53 => m_bI (m_M x k_Words_compares [.int v53] s44) fun v58 s58 => if v58 = jI 0 then (m_bI (m_M x k_Reader_fails [.ref 128, .int (jI 1)] s58) fun v66 s66 => if m_rk (some .boolean) (some (.int v66)) = true then some (some (.int v66), s66) else none) else m_bV (m_M x k_Reader_advance [.ref 128] s58) fun s71 => m_bI (m_M x k_Reader_readSum [.ref 128, .int (jI op)] s71) fun v76 s76 => if v76 = jI 0 then (some (some (.int (jI 0)), s76)) else m_bI (m_M x k_Reader_does [.ref 128, .int v53] s76) fun v84 s84 => if v84 = jI 0 then (some (some (.int (jI 0)), s84)) else some (some (.int (jI 1)), s84)) := by
      intro F G hp
      rw [E_Reader_readAsk, isO_128, if_pos rfl, fI_128_5, Option.bind_some, hp.2.1.1.1, show (36 : Int32) = jI 36 from by decide, if_neg (by rw [jI_eq (by omega) (by omega) (by omega) (by omega)]; omega), if_pos (by omega)]
      simp only [if_pos (show m_rank k_Reader_readSum [.ref 128, .int (jI op)] < m_rank k_Reader_readAsk [.ref 128, .int (jI op)] by omega)]
      rfl
    cases r1 with
    | inl e =>
      refine ⟨.inl e, ?_, ?_, fun q hq => by cases hq⟩
      · intro F G hp
        obtain ⟨F2, y1, y2⟩ := c1 F G hp
        refine ⟨F2, ?_, y2⟩
        rw [cst F G hp, y1, b_I, if_pos rfl]
      · intro F G d Q w b1 b2 b3 b4 b5 b6 b7
        exact c2 F G d Q w b1 b2 b3 (ctx1 Q b4) (by omega) b6 b7
    | inr q =>
      obtain ⟨e1, e2, e3⟩ := c3 q rfl
      have kq := kd_r T n q.1
      have nxq := nxp_r (T := T) (n := n) (p := q.1) (by omega) e1.2
      by_cases cm : cmpO (kd T n q.1) = -1
      · refine ⟨.inl (1, q.1), ?_, ?_, fun q hq => by cases hq⟩
        · intro F G hp
          have l0 := hp.2.2.2
          obtain ⟨F2, y1, y2⟩ := c1 F G hp
          obtain ⟨F3, z1, z2⟩ := C_fails x F2 G (c := 1) y2.2.1 ⟨by have := y2.2.2.1; omega, by have := y2.2.2.2.1; omega⟩ (hT := aqP_TP y2.1 hp.1)
          refine ⟨F3, ?_, aqP_tr y2.1 z2.1, z2.2⟩
          rw [cst F G hp, y1, b_I, if_neg (by decide), fI_128_5, Option.bind_some, y2.2.1.1.1, C_compares x kq, b_I, if_pos cm, if_pos rfl, z1, b_I, if_pos rk_b0]
        · intro F G d Q w b1 b2 b3 b4 b5 b6 b7
          obtain ⟨F4, G4, F5, d5, w5, k0, k1, k2, k3, k4, k5, k6, k7⟩ := c2 F G d Q w b1 b2 b3 (ctx1 Q b4) (by omega) b6 b7
          obtain ⟨O, op2, w2, g1, g2, g3, g4, g5, g6, g7⟩ := k2
          have at' := aa_top b4
          have e42 : oN (O ++ Q) = 42 := by rw [g4]; exact at'.1
          have ecq : ¬ cq (O ++ Q) = true := by rw [g5, at'.2.1]; decide
          have bn := BH_none x F4 G4 hB k0 g1 g2 (by omega) (by unfold btw; rw [if_neg e3.1, if_neg e3.2.1, if_neg e3.2.2.1, if_neg e3.2.2.2, if_neg (fun z => z e42), if_pos ecq, cm]) (by unfold prt; rw [if_neg (by omega), if_pos e42, if_neg (fun z => ecq z.2)])
          rw [if_neg (by omega)] at bn
          exact ⟨F4, G4, by rw [k1]; exact bn, k3, g1.1.2.1.2.1⟩
      · obtain ⟨m1, m2, m3, m4⟩ := cmpO_r cm
        have hlt : q.1 < n := kd_lt (T := T) (n := n) (p := q.1) (by omega)
        obtain ⟨r2, d1, d2, d3⟩ := h1 (nxp T n q.1) (by omega) (by omega)
        have cgo : ∀ F G, CPre F T n s p → ∃ F2 F1, CG s F F2 T n p q.1 q.2 (Dp op + 2) ∧ CPre F1 T n s (nxp T n q.1) ∧ aqP F F1 ∧ F1 129 = F2 129 ∧ F1 133 = F2 133 ∧ m_M x k_Reader_readAsk [.ref 128, .int (jI op)] (mk F G) = (m_bI (m_M x k_Reader_readSum [.ref 128, .int (jI op)] (mk F1 G)) fun v76 s76 => if v76 = jI 0 then (some (some (.int (jI 0)), s76)) else m_bI (m_M x k_Reader_does [.ref 128, .int (jI (kd T n q.1))] s76) fun v84 s84 => if v84 = jI 0 then (some (some (.int (jI 0)), s84)) else some (some (.int (jI 1)), s84)) := by
          intro F G hp
          have l0 := hp.2.2.2
          obtain ⟨F2, y1, y2⟩ := c1 F G hp
          obtain ⟨F1, z1, z2, z3⟩ := C_adv x F2 G hX (aqP_TP y2.1 hp.1) y2.2.1
          have g3 := y2.2.2.1
          have g4 := y2.2.2.2.1
          have a1 : aqP F F1 := aqP_tr y2.1 (ag8_aq z2)
          refine ⟨F2, F1, y2, ⟨aqP_TP a1 hp.1, z3, ⟨by rw [a1.2.1 9 (by omega)]; exact hp.2.2.1.1, hp.2.2.1.2⟩, by rw [z2.1 129 (by omega)]; omega, by rw [z2.1 129 (by omega)]; omega⟩, a1, z2.1 129 (by omega), z2.1 133 (by omega), ?_⟩
          rw [cst F G hp, y1, b_I, if_neg (by decide), fI_128_5, Option.bind_some, y2.2.1.1.1, C_compares x kq, b_I, if_neg cm, if_neg (by decide), z1, b_V]
        have mgo : ∀ F G d Q w, m_nl d = true → STa F G T n t s p Q op w 0 → okQ Q → aa Q = true → Q.length ≤ 6 * op.toNat + 2 → 0 ≤ w → w ≤ p → ∃ F5 w5 F6 G6, LH x d F G = LH x (some (.int (jI 0))) F6 G6 ∧ STa F6 G6 T n t s (nxp T n q.1) (cmpO (kd T n q.1) :: Q) op w5 0 ∧ aqM t w F F5 ∧ aqM t w5 F5 F6 ∧ w < w5 ∧ w5 - w ≤ q.1 - p ∧ MCo s (cod t F5) w w5 q.2 := by
          intro F G d Q w b1 b2 b3 b4 b5 b6 b7
          obtain ⟨F4, G4, F5, d5, w5, k0, k1, k2, k3, k4, k5, k6, k7⟩ := c2 F G d Q w b1 b2 b3 (ctx1 Q b4) (by omega) b6 b7
          obtain ⟨O, op2, w2, g1, g2, g3, g4, g5, g6, g7⟩ := k2
          have at' := aa_top b4
          have e42 : oN (O ++ Q) = 42 := by rw [g4]; exact at'.1
          have ecq : ¬ cq (O ++ Q) = true := by rw [g5, at'.2.1]; decide
          have sst := M_stop x F5 G4 (l := 5) g7 b3 (by omega) (fun z R hz => by have := (at'.2.2.1 z R hz).1; omega) (by omega)
          obtain ⟨F6, G6, j1, j2, j3⟩ := BH_op x F4 G4 (l := 5) (o := cmpO (kd T n q.1)) hB k0 g1 g2 (by omega) (by unfold btw; rw [if_neg e3.1, if_neg e3.2.1, if_neg e3.2.2.1, if_neg e3.2.2.2, if_neg (fun z => z e42), if_pos ecq]) (by omega) (by rw [if_pos m3]) (by rw [g6 5 (by omega) (by omega)]; exact sst) g7 (by omega)
          exact ⟨F5, w5, F6, G6, by rw [k1]; exact j1, j2, k4, j3, k5, k6, k7⟩
        have ctx2 : ∀ Q, ctxA 4 (kd T n (nxp T n q.1)) (cmpO (kd T n q.1) :: Q) := by
          intro Q
          refine ⟨fun _ => ?_, ?_⟩
          · simp only [aa, Bool.and_eq_true, Bool.or_eq_true, decide_eq_true_eq]
            intro hh
            rcases hh.2 with hh | hh <;> omega
          · intro z R hz
            injection hz with z1 z2
            rw [← z1]
            omega
        cases r2 with
        | inl e =>
          refine ⟨.inl e, ?_, ?_, fun q hq => by cases hq⟩
          · intro F G hp
            obtain ⟨F2, F1, y1, y2, y3, y4, y5, y6⟩ := cgo F G hp
            obtain ⟨F3, z1, z2, z3⟩ := d1 F1 G y2
            exact ⟨F3, by rw [y6, z1, b_I, if_pos rfl], aqP_tr y3 z2, z3⟩
          · intro F G d Q w b1 b2 b3 b4 b5 b6 b7
            obtain ⟨F5, w5, F6, G6, j1, j2, j3, j4, j5, j6, j7⟩ := mgo F G d Q w b1 b2 b3 b4 b5 b6 b7
            obtain ⟨F7, G7, i1, i2, i3⟩ := d2 F6 G6 (some (.int (jI 0))) (cmpO (kd T n q.1) :: Q) w5 rfl j2 (okQ_i (by omega) b3) (ctx2 Q) (by simp only [List.length_cons]; omega) (by omega) (by omega)
            exact ⟨F7, G7, by rw [j1]; exact i1, aqM_tr (aqM_tr j3 j4 (by omega)) i2 (by omega), i3⟩
        | inr q2 =>
          obtain ⟨f1, f2, f3⟩ := d3 q2 rfl
          refine ⟨.inr (q2.1, fun nm lf => cbin (kd T n q.1) (q.2 nm lf) (q2.2 nm lf)), ?_, ?_, ?_⟩
          · intro F G hp
            have l0 := hp.2.2.2
            obtain ⟨F2, F1, y1, y2, y3, y4, y5, y6⟩ := cgo F G hp
            obtain ⟨u1, u2, u3, u4, u5, u6⟩ := y1
            obtain ⟨F3, z1, z2, z3, z4, z5, z6, z7⟩ := d1 F1 G y2
            rw [y4] at z4 z5 z6 z7
            obtain ⟨F4, k1, k2, k3, k4⟩ := C_does x F3 G (dd := kd T n q.1) ⟨by omega, by omega⟩
            obtain ⟨k5, k6⟩ := k4 (by omega)
            refine ⟨F4, ?_, aqP_tr y3 (aqP_tr z2 (aqD_P k2)), aqD_CT k2 z3, ?_, ?_, ?_, ?_⟩
            · rw [y6, z1, b_I, if_neg (by decide), k1, b_I, if_neg (by decide)]
            · rw [k5]; omega
            · rw [k5]; show F3 129 6 + 1 - F 129 6 ≤ q2.1 - p; omega
            · intro i hi
              rw [k6, u_ne _ _ (by omega), z6 i (by omega), y5]
              exact u5 i hi
            · rw [k5]
              refine CC_bin (dd := kd T n q.1) (CC_le (CC_loc (c1 := F2 133) ?_ u6) (show Dp op + 2 ≤ Dp op + 3 by omega)) (CC_loc (c1 := F3 133) ?_ z7) (by omega) (Nat.le_refl _) (by omega) ?_ e2 f2 (Or.inl (by unfold isBin; omega))
              · intro z _ hz
                rw [k6, u_ne _ _ (by omega), z6 z (by omega), y5]
              · intro z _ hz
                rw [k6, u_ne _ _ (by omega)]
              · rw [k6, u_eq]
          · intro F G d Q w b1 b2 b3 b4 b5 b6 b7
            obtain ⟨F5, w5, F6, G6, j1, j2, j3, j4, j5, j6, j7⟩ := mgo F G d Q w b1 b2 b3 b4 b5 b6 b7
            obtain ⟨F7, G7, F8, d8, w8', i0, i1, i2, i3, i4, i5, i6, i7⟩ := d2 F6 G6 (some (.int (jI 0))) (cmpO (kd T n q.1) :: Q) w5 rfl j2 (okQ_i (by omega) b3) (ctx2 Q) (by simp only [List.length_cons]; omega) (by omega) (by omega)
            obtain ⟨F9, v1, v2, v3⟩ := Beh_pop (L2 := 3) i2 (by omega) (by omega) (by omega) ht (by omega) (by omega)
            rw [if_neg (by omega)] at v1
            have vc : cq (cmpO (kd T n q.1) :: Q) = true := by
              rw [cq, if_pos (by omega)]
              simpa using m3
            rw [vc] at v1
            have a8 : aqM t w5 F5 F8 := aqM_tr j4 i4 (Int.le_refl _)
            have a9 : aqM t w5 F5 F9 := aqM_tr a8 v2 (by omega)
            refine ⟨F7, G7, F9, d8, w8' + 1, i0, by rw [j1]; exact i1, v1, aqM_tr (aqM_tr j3 j4 (by omega)) i3 (by omega), aqM_tr j3 a9 (by omega), by omega, ?_, ?_⟩
            · show w8' + 1 - w ≤ q2.1 - p
              omega
            · have mb := MB_cmp (o := cmpO (kd T n q.1)) (MC_loc (T1 := cod t F5) (T2 := cod t F9) (fun z _ hz => cod_ag a9 z hz) j7) (MC_loc (T1 := cod t F8) (T2 := cod t F9) (fun z _ hz => cod_ag v2 z hz) i7) b6 e2 f2 m1 v3
              rw [m2] at mb
              exact mb
          · intro q3 hq
            injection hq with hq
            rw [← hq]
            refine ⟨⟨by show p < q2.1; omega, f1.2⟩, ?_, f3⟩
            intro nm lf hk
            show cbin (kd T n q.1) (q.2 nm lf) (q2.2 nm lf) = 0 ∨ cbin (kd T n q.1) (q.2 nm lf) (q2.2 nm lf) = 1
            rw [cbin_cmp m4]
            split <;> simp
end
