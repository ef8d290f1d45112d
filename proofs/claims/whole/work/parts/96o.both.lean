-- reading: both, either
def ctxB : Int → List Int → Prop := fun _ Q => aa Q = true ∧ top4 1 Q
def ctxE : Int → List Int → Prop := fun _ Q => aa Q = true ∧ top4 0 Q
section
variable (x : m_X)
def EXB (x : m_X) (T : Fn) (n t s p op : Int) : Prop := ∃ r, Cok x k_Reader_readBoth [.ref 128, .int (jI op)] s T n p r (Dp op + 4) ∧ Mok x 2 true (fun _ => true) ctxB 1 T n t s p op r ∧ ∀ q, r = .inr q → (p < q.1 ∧ q.1 ≤ n) ∧ b01 q.2 ∧ ¬ kd T n q.1 = 35 ∧ ¬ kd T n q.1 = 41 ∧ ¬ kd T n q.1 = 42 ∧ ¬ kd T n q.1 = 43 ∧ ¬ kd T n q.1 = 44
theorem BOTH_of (hX : XOK x) {T : Fn} {n t s p op : Int} (hB : BY T n) (hn : 0 ≤ n ∧ n ≤ 300) (ht : 0 ≤ t ∧ t ≤ 3) (hop : 0 ≤ op ∧ op ≤ 8) (p0 : 0 ≤ p) (h1 : ∀ p1, p ≤ p1 → p1 ≤ n → EXA x T n t s p1 op) (hpn : p ≤ n) : EXB x T n t s p op := by
  have D3 : 3 ≤ Dp op := by unfold Dp; omega
  have rks := rk_ask hop
  have rkk := rk_both hop
  have loop : ∀ (k : Nat) (p1 : Int) (f1 : LEnv), p < p1 → p1 ≤ n → n - p1 ≤ k → b01 f1 → (¬ kd T n p1 = 41 ∧ ¬ kd T n p1 = 42 ∧ ¬ kd T n p1 = 43 ∧ ¬ kd T n p1 = 44) → ∃ r : (Int × Int) ⊕ (Int × LEnv), (∀ F0 F G i, CPre F0 T n s p → CG s F0 F T n p p1 f1 (Dp op + 4) → 0 ≤ i → i < p1 → Sum.elim (fun e => ∃ F2, m_D x (m_rank k_Reader_readBoth [.ref 128, .int (jI op)]) k_Reader_readBoth 8 [some (.ref 128), some (.int (jI op)), some (.int (jI 1)), some (.int (jI i))] [] (mk F G) = some (some (.int (jI 0)), mk F2 G) ∧ CF F0 F2 e.1 e.2) (fun q => ∃ F2, m_D x (m_rank k_Reader_readBoth [.ref 128, .int (jI op)]) k_Reader_readBoth 8 [some (.ref 128), some (.int (jI op)), some (.int (jI 1)), some (.int (jI i))] [] (mk F G) = some (some (.int (jI 1)), mk F2 G) ∧ CG s F0 F2 T n p q.1 q.2 (Dp op + 4)) r) ∧ (∀ F0 F G F3 d Q w w3, m_nl d = true → Beh x 2 F G F3 T n t s p1 Q op w3 true → oN Q = 42 → top4 1 Q → Q.length ≤ 6 * op.toNat + 1 → 0 ≤ w → w < w3 → w3 - w ≤ p1 - p → w ≤ p → aqM t w F0 F → aqM t w F0 F3 → MX true s (cod t F3) w w3 f1 → Sum.elim (fun e => Mfl x d F0 F G t w e.1 e.2) (fun q => Mgo x 2 true true d F0 F G T n t s p Q op w q.1 q.2) r) ∧ ∀ q, r = .inr q → (p < q.1 ∧ q.1 ≤ n) ∧ b01 q.2 ∧ ¬ kd T n q.1 = 35 ∧ ¬ kd T n q.1 = 41 ∧ ¬ kd T n q.1 = 42 ∧ ¬ kd T n q.1 = 43 ∧ ¬ kd T n q.1 = 44 := by
    intro k
    induction k with
    | zero =>
      intro p1 f1 a1 a2 a3 ae asub
      have k52 : kd T n p1 = 52 := by unfold kd; rw [if_pos (by omega)]
      refine ⟨.inr (p1, f1), ?_, ?_, ?_⟩
      · intro F0 F G i b1 b2 b3 b4
        refine ⟨F, ?_, b2⟩
        have ck := b2.2.1.1.1
        rw [k52] at ck
        rw [E_Reader_readBoth_8 x _ (by omega), show (300 : Int32) = jI 300 from by decide, if_neg (by rw [jI_le (by omega) (by omega) (by omega) (by omega)]; omega), if_neg (by decide), fI_128_5, Option.bind_some, ck, if_neg (by decide), if_pos rk_b1]
      · intro F0 F G F3 d Q w w3 b1 b2 b2a b3 b4 b5 b6 b7 b8 b9 b10 b11
        exact ⟨F, G, F3, d, w3, b1, rfl, b2, b9, b10, b6, b7, b11⟩
      · intro q hq
        injection hq with hq
        rw [← hq]
        simp only
        rw [k52]
        exact ⟨⟨a1, a2⟩, ae, by omega⟩
    | succ k ih =>
      intro p1 f1 a1 a2 a3 ae asub
      have nx := nxp_r (T := T) (n := n) (p := p1) (by omega) a2
      have kr := kd_r T n p1
      by_cases fin : ¬ kd T n p1 = 35
      · refine ⟨.inr (p1, f1), ?_, ?_, ?_⟩
        · intro F0 F G i b1 b2 b3 b4
          refine ⟨F, ?_, b2⟩
          have ck := b2.2.1.1.1
          rw [E_Reader_readBoth_8 x _ (by omega), show (300 : Int32) = jI 300 from by decide, if_neg (by rw [jI_le (by omega) (by omega) (by omega) (by omega)]; omega), if_neg (by decide), fI_128_5, Option.bind_some, ck, show (35 : Int32) = jI 35 from by decide, if_neg (by rw [jI_eq (by omega) (by omega) (by omega) (by omega)]; omega), if_pos rk_b1]
        · intro F0 F G F3 d Q w w3 b1 b2 b2a b3 b4 b5 b6 b7 b8 b9 b10 b11
          exact ⟨F, G, F3, d, w3, b1, rfl, b2, b9, b10, b6, b7, b11⟩
        · intro q hq
          injection hq with hq
          rw [← hq]
          exact ⟨⟨a1, a2⟩, ae, ⟨fin, asub⟩⟩
      · have hlt : p1 < n := kd_lt (T := T) (n := n) (p := p1) (by omega)
        obtain ⟨r2, c1, c2, c3⟩ := h1 (nxp T n p1) (by omega) (by omega)
        have hk : kd T n p1 = 35 := by omega
        have mpart : ∀ F0 F G F3 d Q w w3, m_nl d = true → Beh x 2 F G F3 T n t s p1 Q op w3 true → oN Q = 42 → top4 1 Q → Q.length ≤ 6 * op.toNat + 1 → 0 ≤ w → w < w3 → w3 - w ≤ p1 - p → w ≤ p → aqM t w F0 F → aqM t w F0 F3 → MX true s (cod t F3) w w3 f1 → Sum.elim (fun e => Mfl x d F0 F G t w e.1 e.2) (fun q => Mgo x 2 true true d F0 F G T n t s p Q op w q.1 (fun nm lf => cbin (kd T n p1) (f1 nm lf) (q.2 nm lf))) r2 := by
          intro F0 F G F3 d Q w w3 b1 b2 b2a b3 b4 b5 b6 b7 b8 b9 b10 b11
          have z := LM_next x (L := 2) (Ls := 3) (b := true) (cv := fun _ => true) (ctx := ctxK) (bn := 2) (o := 21) (r := r2) (p := p) (f1 := f1) (cq0 := true) hB hn ht hop b1 b2 (fun R hR hc => by
            unfold btw
            rw [if_neg (by omega), if_neg (by omega), if_neg (by omega), if_neg (by omega), if_neg (fun z => z (by rw [hR]; exact b2a)), if_neg (fun z => z hc), if_pos hk]) (by omega) (by decide) (by decide) (by omega) (by decide) (fun z R hz => by have := (b3 z R hz).1; omega) (by omega) (by omega) (by show aa (21 :: Q) = true; simp only [aa, Bool.and_eq_true, Bool.or_eq_true, decide_eq_true_eq]; exact ⟨by rw [oN, if_neg (by omega)]; exact b2a, Or.inr (by decide)⟩) p0 hlt b5 b6 b7 b8 b9 b10 b11 (b01_bd ae) (Or.inr ⟨rfl, by omega⟩) c2 rfl (fun q hq => ⟨(c3 q hq).1, b01_bd (c3 q hq).2.1⟩)
          have eb : bop 21 = kd T n p1 := by rw [hk]; rfl
          rw [eb] at z
          exact z
        have cpart : ∀ F0 F G i, CPre F0 T n s p → CG s F0 F T n p p1 f1 (Dp op + 4) → 0 ≤ i → i < p1 → Sum.elim (fun e => ∃ F2, m_D x (m_rank k_Reader_readBoth [.ref 128, .int (jI op)]) k_Reader_readBoth 8 [some (.ref 128), some (.int (jI op)), some (.int (jI 1)), some (.int (jI i))] [] (mk F G) = some (some (.int (jI 0)), mk F2 G) ∧ CF F0 F2 e.1 e.2) (fun q => ∃ F3, m_D x (m_rank k_Reader_readBoth [.ref 128, .int (jI op)]) k_Reader_readBoth 8 [some (.ref 128), some (.int (jI op)), some (.int (jI 1)), some (.int (jI i))] [] (mk F G) = m_D x (m_rank k_Reader_readBoth [.ref 128, .int (jI op)]) k_Reader_readBoth 8 [some (.ref 128), some (.int (jI op)), some (.int (jI 1)), some (.int (jI (i + 1)))] [] (mk F3 G) ∧ CG s F0 F3 T n p q.1 (fun nm lf => cbin (kd T n p1) (f1 nm lf) (q.2 nm lf)) (Dp op + 4)) r2 := by
          intro F0 F G i b1 b2 b3 b4
          have ck := b2.2.1.1.1
          have cl := CL_next x hX (ks := k_Reader_readAsk) (D2 := Dp op + 3) (dd := kd T n p1) (op := op) (G := G) (r := r2) (K := fun v49 s59 => m_D x (m_rank k_Reader_readBoth [.ref 128, .int (jI op)]) k_Reader_readBoth 8 [some (.ref 128), some (.int (jI op)), some (.int v49), some (.int (jI (i + 1)))] [] s59) b1 b2 hlt (by omega) c1 (b01_bd ae) (Or.inr ⟨by omega, ae⟩) (fun q hq => ⟨(c3 q hq).1, b01_bd (c3 q hq).2.1, fun _ => (c3 q hq).2.1⟩)
          have run : m_D x (m_rank k_Reader_readBoth [.ref 128, .int (jI op)]) k_Reader_readBoth 8 [some (.ref 128), some (.int (jI op)), some (.int (jI 1)), some (.int (jI i))] [] (mk F G) = (m_bV (m_M x k_Reader_advance [.ref 128] (mk F G)) fun s44 => m_bI (m_M x k_Reader_readAsk [.ref 128, .int (jI op)] s44) fun v49 s49 => (m_fR s49 3 0 128).bind fun v54 => m_bV (m_M x k_Script_addDeed [.ref v54, .int (jI (kd T n p1))] s49) fun s59 => m_D x (m_rank k_Reader_readBoth [.ref 128, .int (jI op)]) k_Reader_readBoth 8 [some (.ref 128), some (.int (jI op)), some (.int v49), some (.int (jI (i + 1)))] [] s59) := by
            rw [E_Reader_readBoth_8 x _ (by omega), show (300 : Int32) = jI 300 from by decide, if_neg (by rw [jI_le (by omega) (by omega) (by omega) (by omega)]; omega), if_neg (by decide), fI_128_5, Option.bind_some, ck, show (35 : Int32) = jI 35 from by decide, show (1 : Int32) = jI 1 from rfl, jI_add, if_pos (by rw [hk]), hk]
            simp only [if_pos (show m_rank k_Reader_readAsk [.ref 128, .int (jI op)] < m_rank k_Reader_readBoth [.ref 128, .int (jI op)] by omega)]
          cases r2 with
          | inl e =>
            obtain ⟨F3, y1, y2⟩ := cl
            refine ⟨F3, ?_, y2⟩
            rw [run, y1, E_Reader_readBoth_8 x _ (by omega), show (300 : Int32) = jI 300 from by decide, if_neg (by rw [jI_le (by omega) (by omega) (by omega) (by omega)]; omega), if_pos (by decide), if_pos rk_b0]
          | inr q =>
            obtain ⟨F3, y1, y2⟩ := cl
            exact ⟨F3, by rw [run, y1], y2⟩
        cases r2 with
        | inl e =>
          exact ⟨.inl e, cpart, mpart, fun q hq => by cases hq⟩
        | inr q =>
          obtain ⟨e1, e2, e3⟩ := c3 q rfl
          obtain ⟨r, k1, k2, k3⟩ := ih q.1 (fun nm lf => cbin (kd T n p1) (f1 nm lf) (q.2 nm lf)) (by omega) (by omega) (by omega) (fun nm lf _ => cbin_01 (by omega)) e3
          refine ⟨r, ?_, ?_, k3⟩
          · intro F0 F G i b1 b2 b3 b4
            obtain ⟨F3, y1, y2⟩ := cpart F0 F G i b1 b2 b3 b4
            have z := k1 F0 F3 G (i + 1) b1 y2 (by omega) (by omega)
            rw [y1]
            exact z
          · intro F0 F G F3 d Q w w3 b1 b2 b2a b3 b4 b5 b6 b7 b8 b9 b10 b11
            obtain ⟨F5, G5, F7, d5, w5, z0, z1, z2, z3, z4, z5, z6, z7⟩ := mpart F0 F G F3 d Q w w3 b1 b2 b2a b3 b4 b5 b6 b7 b8 b9 b10 b11
            have z := k2 F0 F5 G5 F7 d5 Q w w5 z0 z2 b2a b3 b4 b5 z5 z6 b8 z3 z4 z7
            unfold Mfl Mgo at z ⊢
            rw [z1]
            exact z
  obtain ⟨r1, c1, c2, c3⟩ := h1 p (Int.le_refl _) hpn
  cases r1 with
  | inl e =>
    refine ⟨.inl e, ?_, ?_, fun q hq => by cases hq⟩
    · intro F G hp
      obtain ⟨F2, y1, y2⟩ := c1 F G hp
      refine ⟨F2, ?_, y2⟩
      rw [E_Reader_readBoth, isO_128, if_pos rfl, if_pos (by omega), y1, b_I, E_Reader_readBoth_8 x _ (by omega), if_neg (by decide), if_pos (by decide), if_pos rk_b0]
    · intro F G d Q w b1 b2 b3 b4 b5 b6 b7
      exact c2 F G d Q w b1 b2 b3 b4.1 (by omega) b6 b7
  | inr q =>
    obtain ⟨e1, e2, e3⟩ := c3 q rfl
    obtain ⟨r, k1, k2, k3⟩ := loop (n - q.1).toNat q.1 q.2 (by omega) (by omega) (by omega) e2 e3
    refine ⟨r, ?_, ?_, k3⟩
    · intro F G hp
      obtain ⟨F2, y1, y2⟩ := c1 F G hp
      have z := k1 F F2 G 0 hp ⟨y2.1, y2.2.1, y2.2.2.1, y2.2.2.2.1, y2.2.2.2.2.1, CC_le y2.2.2.2.2.2 (by omega)⟩ (by omega) (by omega)
      have run : m_M x k_Reader_readBoth [.ref 128, .int (jI op)] (mk F G) = m_D x (m_rank k_Reader_readBoth [.ref 128, .int (jI op)]) k_Reader_readBoth 8 [some (.ref 128), some (.int (jI op)), some (.int (jI 1)), some (.int (jI 0))] [] (mk F2 G) := by
        rw [E_Reader_readBoth, isO_128, if_pos rfl, if_pos (by omega), y1, b_I]
        rfl
      rw [← run] at z
      exact z
    · intro F G d Q w b1 b2 b3 b4 b5 b6 b7
      obtain ⟨F5, G5, F7, d5, w5, z0, z1, z2, z3, z4, z5, z6, z7⟩ := c2 F G d Q w b1 b2 b3 b4.1 (by omega) b6 b7
      have zb : Beh x 2 F5 G5 F7 T n t s q.1 Q op w5 true := by
        obtain ⟨O, op2, w2, g1, g2, g3, g4, g5, g6, g7⟩ := z2
        exact ⟨O, op2, w2, g1, g2, g3, g4, g5, fun l l0 l1 => g6 l l0 (by omega), g7⟩
      have z := k2 F F5 G5 F7 d5 Q w w5 z0 zb (aa_top b4.1).1 b4.2 b5 b6 z5 z6 b7 z3 z4 z7
      unfold Mfl Mgo at z ⊢
      rw [z1]
      exact z
def EXE (x : m_X) (T : Fn) (n t s p op : Int) : Prop := ∃ r, Cok x k_Reader_readEither [.ref 128, .int (jI op)] s T n p r (Dp op + 5) ∧ Mok x 1 true (fun _ => true) ctxE 0 T n t s p op r ∧ ∀ q, r = .inr q → (p < q.1 ∧ q.1 ≤ n) ∧ b01 q.2 ∧ ¬ kd T n q.1 = 34 ∧ ¬ kd T n q.1 = 35 ∧ ¬ kd T n q.1 = 41 ∧ ¬ kd T n q.1 = 42 ∧ ¬ kd T n q.1 = 43 ∧ ¬ kd T n q.1 = 44
theorem EITHER_of (hX : XOK x) {T : Fn} {n t s p op : Int} (hB : BY T n) (hn : 0 ≤ n ∧ n ≤ 300) (ht : 0 ≤ t ∧ t ≤ 3) (hop : 0 ≤ op ∧ op ≤ 8) (p0 : 0 ≤ p) (h1 : ∀ p1, p ≤ p1 → p1 ≤ n → EXB x T n t s p1 op) (hpn : p ≤ n) : EXE x T n t s p op := by
  have D3 : 3 ≤ Dp op := by unfold Dp; omega
  have rks := rk_both hop
  have rkk := rk_either hop
  have loop : ∀ (k : Nat) (p1 : Int) (f1 : LEnv), p < p1 → p1 ≤ n → n - p1 ≤ k → b01 f1 → (¬ kd T n p1 = 35 ∧ ¬ kd T n p1 = 41 ∧ ¬ kd T n p1 = 42 ∧ ¬ kd T n p1 = 43 ∧ ¬ kd T n p1 = 44) → ∃ r : (Int × Int) ⊕ (Int × LEnv), (∀ F0 F G i, CPre F0 T n s p → CG s F0 F T n p p1 f1 (Dp op + 5) → 0 ≤ i → i < p1 → Sum.elim (fun e => ∃ F2, m_D x (m_rank k_Reader_readEither [.ref 128, .int (jI op)]) k_Reader_readEither 8 [some (.ref 128), some (.int (jI op)), some (.int (jI 1)), some (.int (jI i))] [] (mk F G) = some (some (.int (jI 0)), mk F2 G) ∧ CF F0 F2 e.1 e.2) (fun q => ∃ F2, m_D x (m_rank k_Reader_readEither [.ref 128, .int (jI op)]) k_Reader_readEither 8 [some (.ref 128), some (.int (jI op)), some (.int (jI 1)), some (.int (jI i))] [] (mk F G) = some (some (.int (jI 1)), mk F2 G) ∧ CG s F0 F2 T n p q.1 q.2 (Dp op + 5)) r) ∧ (∀ F0 F G F3 d Q w w3, m_nl d = true → Beh x 1 F G F3 T n t s p1 Q op w3 true → oN Q = 42 → top4 0 Q → Q.length ≤ 6 * op.toNat + 0 → 0 ≤ w → w < w3 → w3 - w ≤ p1 - p → w ≤ p → aqM t w F0 F → aqM t w F0 F3 → MX true s (cod t F3) w w3 f1 → Sum.elim (fun e => Mfl x d F0 F G t w e.1 e.2) (fun q => Mgo x 1 true true d F0 F G T n t s p Q op w q.1 q.2) r) ∧ ∀ q, r = .inr q → (p < q.1 ∧ q.1 ≤ n) ∧ b01 q.2 ∧ ¬ kd T n q.1 = 34 ∧ ¬ kd T n q.1 = 35 ∧ ¬ kd T n q.1 = 41 ∧ ¬ kd T n q.1 = 42 ∧ ¬ kd T n q.1 = 43 ∧ ¬ kd T n q.1 = 44 := by
    intro k
    induction k with
    | zero =>
      intro p1 f1 a1 a2 a3 ae asub
      have k52 : kd T n p1 = 52 := by unfold kd; rw [if_pos (by omega)]
      refine ⟨.inr (p1, f1), ?_, ?_, ?_⟩
      · intro F0 F G i b1 b2 b3 b4
        refine ⟨F, ?_, b2⟩
        have ck := b2.2.1.1.1
        rw [k52] at ck
        rw [E_Reader_readEither_8 x _ (by omega), show (300 : Int32) = jI 300 from by decide, if_neg (by rw [jI_le (by omega) (by omega) (by omega) (by omega)]; omega), if_neg (by decide), fI_128_5, Option.bind_some, ck, if_neg (by decide), if_pos rk_b1]
      · intro F0 F G F3 d Q w w3 b1 b2 b2a b3 b4 b5 b6 b7 b8 b9 b10 b11
        exact ⟨F, G, F3, d, w3, b1, rfl, b2, b9, b10, b6, b7, b11⟩
      · intro q hq
        injection hq with hq
        rw [← hq]
        simp only
        rw [k52]
        exact ⟨⟨a1, a2⟩, ae, by omega⟩
    | succ k ih =>
      intro p1 f1 a1 a2 a3 ae asub
      have nx := nxp_r (T := T) (n := n) (p := p1) (by omega) a2
      have kr := kd_r T n p1
      by_cases fin : ¬ kd T n p1 = 34
      · refine ⟨.inr (p1, f1), ?_, ?_, ?_⟩
        · intro F0 F G i b1 b2 b3 b4
          refine ⟨F, ?_, b2⟩
          have ck := b2.2.1.1.1
          rw [E_Reader_readEither_8 x _ (by omega), show (300 : Int32) = jI 300 from by decide, if_neg (by rw [jI_le (by omega) (by omega) (by omega) (by omega)]; omega), if_neg (by decide), fI_128_5, Option.bind_some, ck, show (34 : Int32) = jI 34 from by decide, if_neg (by rw [jI_eq (by omega) (by omega) (by omega) (by omega)]; omega), if_pos rk_b1]
        · intro F0 F G F3 d Q w w3 b1 b2 b2a b3 b4 b5 b6 b7 b8 b9 b10 b11
          exact ⟨F, G, F3, d, w3, b1, rfl, b2, b9, b10, b6, b7, b11⟩
        · intro q hq
          injection hq with hq
          rw [← hq]
          exact ⟨⟨a1, a2⟩, ae, ⟨fin, asub⟩⟩
      · have hlt : p1 < n := kd_lt (T := T) (n := n) (p := p1) (by omega)
        obtain ⟨r2, c1, c2, c3⟩ := h1 (nxp T n p1) (by omega) (by omega)
        have hk : kd T n p1 = 34 := by omega
        have mpart : ∀ F0 F G F3 d Q w w3, m_nl d = true → Beh x 1 F G F3 T n t s p1 Q op w3 true → oN Q = 42 → top4 0 Q → Q.length ≤ 6 * op.toNat + 0 → 0 ≤ w → w < w3 → w3 - w ≤ p1 - p → w ≤ p → aqM t w F0 F → aqM t w F0 F3 → MX true s (cod t F3) w w3 f1 → Sum.elim (fun e => Mfl x d F0 F G t w e.1 e.2) (fun q => Mgo x 1 true true d F0 F G T n t s p Q op w q.1 (fun nm lf => cbin (kd T n p1) (f1 nm lf) (q.2 nm lf))) r2 := by
          intro F0 F G F3 d Q w w3 b1 b2 b2a b3 b4 b5 b6 b7 b8 b9 b10 b11
          have z := LM_next x (L := 1) (Ls := 2) (b := true) (cv := fun _ => true) (ctx := ctxB) (bn := 1) (o := 22) (r := r2) (p := p) (f1 := f1) (cq0 := true) hB hn ht hop b1 b2 (fun R hR hc => by
            unfold btw
            rw [if_neg (by omega), if_neg (by omega), if_neg (by omega), if_neg (by omega), if_neg (fun z => z (by rw [hR]; exact b2a)), if_neg (fun z => z hc), if_neg (by omega), if_pos hk]) (by omega) (by decide) (by decide) (by omega) (by decide) (fun z R hz => by have := (b3 z R hz).1; omega) (by omega) (by omega) ⟨by simp only [aa, Bool.and_eq_true, Bool.or_eq_true, decide_eq_true_eq]; exact ⟨by rw [oN, if_neg (by omega)]; exact b2a, Or.inr (by decide)⟩, fun z R hz => by injection hz with e1 e2; rw [← e1]; exact ⟨by decide, by omega⟩⟩ p0 hlt b5 b6 b7 b8 b9 b10 b11 (b01_bd ae) (Or.inr ⟨rfl, by omega⟩) c2 rfl (fun q hq => ⟨(c3 q hq).1, b01_bd (c3 q hq).2.1⟩)
          have eb : bop 22 = kd T n p1 := by rw [hk]; rfl
          rw [eb] at z
          exact z
        have cpart : ∀ F0 F G i, CPre F0 T n s p → CG s F0 F T n p p1 f1 (Dp op + 5) → 0 ≤ i → i < p1 → Sum.elim (fun e => ∃ F2, m_D x (m_rank k_Reader_readEither [.ref 128, .int (jI op)]) k_Reader_readEither 8 [some (.ref 128), some (.int (jI op)), some (.int (jI 1)), some (.int (jI i))] [] (mk F G) = some (some (.int (jI 0)), mk F2 G) ∧ CF F0 F2 e.1 e.2) (fun q => ∃ F3, m_D x (m_rank k_Reader_readEither [.ref 128, .int (jI op)]) k_Reader_readEither 8 [some (.ref 128), some (.int (jI op)), some (.int (jI 1)), some (.int (jI i))] [] (mk F G) = m_D x (m_rank k_Reader_readEither [.ref 128, .int (jI op)]) k_Reader_readEither 8 [some (.ref 128), some (.int (jI op)), some (.int (jI 1)), some (.int (jI (i + 1)))] [] (mk F3 G) ∧ CG s F0 F3 T n p q.1 (fun nm lf => cbin (kd T n p1) (f1 nm lf) (q.2 nm lf)) (Dp op + 5)) r2 := by
          intro F0 F G i b1 b2 b3 b4
          have ck := b2.2.1.1.1
          have cl := CL_next x hX (ks := k_Reader_readBoth) (D2 := Dp op + 4) (dd := kd T n p1) (op := op) (G := G) (r := r2) (K := fun v49 s59 => m_D x (m_rank k_Reader_readEither [.ref 128, .int (jI op)]) k_Reader_readEither 8 [some (.ref 128), some (.int (jI op)), some (.int v49), some (.int (jI (i + 1)))] [] s59) b1 b2 hlt (by omega) c1 (b01_bd ae) (Or.inr ⟨by omega, ae⟩) (fun q hq => ⟨(c3 q hq).1, b01_bd (c3 q hq).2.1, fun _ => (c3 q hq).2.1⟩)
          have run : m_D x (m_rank k_Reader_readEither [.ref 128, .int (jI op)]) k_Reader_readEither 8 [some (.ref 128), some (.int (jI op)), some (.int (jI 1)), some (.int (jI i))] [] (mk F G) = (m_bV (m_M x k_Reader_advance [.ref 128] (mk F G)) fun s44 => m_bI (m_M x k_Reader_readBoth [.ref 128, .int (jI op)] s44) fun v49 s49 => (m_fR s49 3 0 128).bind fun v54 => m_bV (m_M x k_Script_addDeed [.ref v54, .int (jI (kd T n p1))] s49) fun s59 => m_D x (m_rank k_Reader_readEither [.ref 128, .int (jI op)]) k_Reader_readEither 8 [some (.ref 128), some (.int (jI op)), some (.int v49), some (.int (jI (i + 1)))] [] s59) := by
            rw [E_Reader_readEither_8 x _ (by omega), show (300 : Int32) = jI 300 from by decide, if_neg (by rw [jI_le (by omega) (by omega) (by omega) (by omega)]; omega), if_neg (by decide), fI_128_5, Option.bind_some, ck, show (34 : Int32) = jI 34 from by decide, show (1 : Int32) = jI 1 from rfl, jI_add, if_pos (by rw [hk]), hk]
            simp only [if_pos (show m_rank k_Reader_readBoth [.ref 128, .int (jI op)] < m_rank k_Reader_readEither [.ref 128, .int (jI op)] by omega)]
          cases r2 with
          | inl e =>
            obtain ⟨F3, y1, y2⟩ := cl
            refine ⟨F3, ?_, y2⟩
            rw [run, y1, E_Reader_readEither_8 x _ (by omega), show (300 : Int32) = jI 300 from by decide, if_neg (by rw [jI_le (by omega) (by omega) (by omega) (by omega)]; omega), if_pos (by decide), if_pos rk_b0]
          | inr q =>
            obtain ⟨F3, y1, y2⟩ := cl
            exact ⟨F3, by rw [run, y1], y2⟩
        cases r2 with
        | inl e =>
          exact ⟨.inl e, cpart, mpart, fun q hq => by cases hq⟩
        | inr q =>
          obtain ⟨e1, e2, e3⟩ := c3 q rfl
          obtain ⟨r, k1, k2, k3⟩ := ih q.1 (fun nm lf => cbin (kd T n p1) (f1 nm lf) (q.2 nm lf)) (by omega) (by omega) (by omega) (fun nm lf _ => cbin_01 (by omega)) e3
          refine ⟨r, ?_, ?_, k3⟩
          · intro F0 F G i b1 b2 b3 b4
            obtain ⟨F3, y1, y2⟩ := cpart F0 F G i b1 b2 b3 b4
            have z := k1 F0 F3 G (i + 1) b1 y2 (by omega) (by omega)
            rw [y1]
            exact z
          · intro F0 F G F3 d Q w w3 b1 b2 b2a b3 b4 b5 b6 b7 b8 b9 b10 b11
            obtain ⟨F5, G5, F7, d5, w5, z0, z1, z2, z3, z4, z5, z6, z7⟩ := mpart F0 F G F3 d Q w w3 b1 b2 b2a b3 b4 b5 b6 b7 b8 b9 b10 b11
            have z := k2 F0 F5 G5 F7 d5 Q w w5 z0 z2 b2a b3 b4 b5 z5 z6 b8 z3 z4 z7
            unfold Mfl Mgo at z ⊢
            rw [z1]
            exact z
  obtain ⟨r1, c1, c2, c3⟩ := h1 p (Int.le_refl _) hpn
  cases r1 with
  | inl e =>
    refine ⟨.inl e, ?_, ?_, fun q hq => by cases hq⟩
    · intro F G hp
      obtain ⟨F2, y1, y2⟩ := c1 F G hp
      refine ⟨F2, ?_, y2⟩
      rw [E_Reader_readEither, isO_128, if_pos rfl, if_pos (by omega), y1, b_I, E_Reader_readEither_8 x _ (by omega), if_neg (by decide), if_pos (by decide), if_pos rk_b0]
    · intro F G d Q w b1 b2 b3 b4 b5 b6 b7
      exact c2 F G d Q w b1 b2 b3 ⟨b4.1, fun z R hz => ⟨by have := (b4.2 z R hz).1; omega, (b4.2 z R hz).2⟩⟩ (by omega) b6 b7
  | inr q =>
    obtain ⟨e1, e2, e3⟩ := c3 q rfl
    obtain ⟨r, k1, k2, k3⟩ := loop (n - q.1).toNat q.1 q.2 (by omega) (by omega) (by omega) e2 e3
    refine ⟨r, ?_, ?_, k3⟩
    · intro F G hp
      obtain ⟨F2, y1, y2⟩ := c1 F G hp
      have z := k1 F F2 G 0 hp ⟨y2.1, y2.2.1, y2.2.2.1, y2.2.2.2.1, y2.2.2.2.2.1, CC_le y2.2.2.2.2.2 (by omega)⟩ (by omega) (by omega)
      have run : m_M x k_Reader_readEither [.ref 128, .int (jI op)] (mk F G) = m_D x (m_rank k_Reader_readEither [.ref 128, .int (jI op)]) k_Reader_readEither 8 [some (.ref 128), some (.int (jI op)), some (.int (jI 1)), some (.int (jI 0))] [] (mk F2 G) := by
        rw [E_Reader_readEither, isO_128, if_pos rfl, if_pos (by omega), y1, b_I]
        rfl
      rw [← run] at z
      exact z
    · intro F G d Q w b1 b2 b3 b4 b5 b6 b7
      obtain ⟨F5, G5, F7, d5, w5, z0, z1, z2, z3, z4, z5, z6, z7⟩ := c2 F G d Q w b1 b2 b3 ⟨b4.1, fun z R hz => ⟨by have := (b4.2 z R hz).1; omega, (b4.2 z R hz).2⟩⟩ (by omega) b6 b7
      have zb : Beh x 1 F5 G5 F7 T n t s q.1 Q op w5 true := by
        obtain ⟨O, op2, w2, g1, g2, g3, g4, g5, g6, g7⟩ := z2
        exact ⟨O, op2, w2, g1, g2, g3, g4, g5, fun l l0 l1 => g6 l l0 (by omega), g7⟩
      have z := k2 F F5 G5 F7 d5 Q w w5 z0 zb (aa_top b4.1).1 b4.2 b5 b6 z5 z6 b7 z3 z4 z7
      unfold Mfl Mgo at z ⊢
      rw [z1]
      exact z
end
