-- reading: products, sums, and what is asked
def Dp (op : Int) : Nat := 5 * (8 - op.toNat) + 3
theorem rkR {k c : Nat} (hk : m_rb.getD k (0, 0, 0) = (9, 1, c)) {op : Int} (h : 0 ≤ op ∧ op ≤ 8) : m_rank k [.ref 128, .int (jI op)] = 9 + c + 8 * (10 - op.toNat) := by
  have e : m_ai [.ref 128, .int (jI op)] 1 = op.toNat := by
    show (jI op).toNatClampNeg = op.toNat
    exact jI_clamp (by omega) (by omega)
  unfold m_rank
  rw [hk, e]
  rfl
theorem rk_one {op : Int} (h : 0 ≤ op ∧ op ≤ 8) : m_rank k_Reader_readOne [.ref 128, .int (jI op)] = 9 + 1 + 8 * (10 - op.toNat) := rkR (k := k_Reader_readOne) rfl h
theorem rk_prod {op : Int} (h : 0 ≤ op ∧ op ≤ 8) : m_rank k_Reader_readProduct [.ref 128, .int (jI op)] = 9 + 2 + 8 * (10 - op.toNat) := rkR (k := k_Reader_readProduct) rfl h
theorem rk_sum {op : Int} (h : 0 ≤ op ∧ op ≤ 8) : m_rank k_Reader_readSum [.ref 128, .int (jI op)] = 9 + 3 + 8 * (10 - op.toNat) := rkR (k := k_Reader_readSum) rfl h
theorem rk_ask {op : Int} (h : 0 ≤ op ∧ op ≤ 8) : m_rank k_Reader_readAsk [.ref 128, .int (jI op)] = 9 + 4 + 8 * (10 - op.toNat) := rkR (k := k_Reader_readAsk) rfl h
theorem rk_both {op : Int} (h : 0 ≤ op ∧ op ≤ 8) : m_rank k_Reader_readBoth [.ref 128, .int (jI op)] = 9 + 5 + 8 * (10 - op.toNat) := rkR (k := k_Reader_readBoth) rfl h
theorem rk_either {op : Int} (h : 0 ≤ op ∧ op ≤ 8) : m_rank k_Reader_readEither [.ref 128, .int (jI op)] = 9 + 6 + 8 * (10 - op.toNat) := rkR (k := k_Reader_readEither) rfl h
theorem rk_choice {op : Int} (h : 0 ≤ op ∧ op ≤ 8) : m_rank k_Reader_readChoice [.ref 128, .int (jI op)] = 9 + 7 + 8 * (10 - op.toNat) := rkR (k := k_Reader_readChoice) rfl h
theorem cbin_01 {dd l r : Int} (h : dd = 34 ∨ dd = 35) : cbin dd l r = 0 ∨ cbin dd l r = 1 := by
  unfold cbin
  rcases h with h | h
  · rw [if_neg (by omega), if_neg (by omega), if_neg (by omega), if_neg (by omega), if_neg (by omega), if_pos h]
    split <;> simp
  · rw [if_neg (by omega), if_neg (by omega), if_neg (by omega), if_neg (by omega), if_neg (by omega), if_neg (by omega), if_pos h]
    split <;> simp
section
variable (x : m_X)
/-- the class reads one more part and puts the deed behind it -/
theorem CL_next (hX : XOK x) {T : Fn} {n s p p1 dd op : Int} {F0 F G : Nat → Fn} {f1 : LEnv} {D2 ks : Nat} {r : (Int × Int) ⊕ (Int × LEnv)} {K : Int32 → m_H → Option m_R} (hpre : CPre F0 T n s p) (hg : CG s F0 F T n p p1 f1 (D2 + 1)) (hp1 : p1 < n) (hD : 2 ≤ D2) (hs : Cok x ks [.ref 128, .int (jI op)] s T n (nxp T n p1) r D2) (hf : bdE f1) (hb : isBin dd ∨ ((dd = 34 ∨ dd = 35) ∧ b01 f1)) (hr : ∀ q, r = .inr q → (nxp T n p1 < q.1 ∧ q.1 ≤ n) ∧ bdE q.2 ∧ ((dd = 34 ∨ dd = 35) → b01 q.2)) : Sum.elim (fun e => ∃ F3, (m_bV (m_M x k_Reader_advance [.ref 128] (mk F G)) fun s44 => m_bI (m_M x ks [.ref 128, .int (jI op)] s44) fun v49 s49 => (m_fR s49 3 0 128).bind fun v54 => m_bV (m_M x k_Script_addDeed [.ref v54, .int (jI dd)] s49) fun s59 => K v49 s59) = K (jI 0) (mk F3 G) ∧ CF F0 F3 e.1 e.2) (fun q => ∃ F3, (m_bV (m_M x k_Reader_advance [.ref 128] (mk F G)) fun s44 => m_bI (m_M x ks [.ref 128, .int (jI op)] s44) fun v49 s49 => (m_fR s49 3 0 128).bind fun v54 => m_bV (m_M x k_Script_addDeed [.ref v54, .int (jI dd)] s49) fun s59 => K v49 s59) = K (jI 1) (mk F3 G) ∧ CG s F0 F3 T n p q.1 (fun nm lf => cbin dd (f1 nm lf) (q.2 nm lf)) (D2 + 1)) r := by
  obtain ⟨hT, hc0, hs0, l0, l1⟩ := hpre
  obtain ⟨g1, g2, g3, g4, g5, g6⟩ := hg
  have hn := hT.2.2.1
  have nx := nxp_r (T := T) (n := n) (p := p1) g2.2.1.1 g2.2.1.2
  obtain ⟨F1, y1, y2, y3⟩ := C_adv x F G hX (aqP_TP g1 hT) g2
  have a1 : aqP F0 F1 := aqP_tr g1 (ag8_aq y2)
  have e129 : F1 129 = F 129 := y2.1 129 (by omega)
  have e133 : F1 133 = F 133 := y2.1 133 (by omega)
  have pre1 : CPre F1 T n s (nxp T n p1) := by
    refine ⟨aqP_TP a1 hT, y3, ⟨by rw [a1.2.1 9 (by omega)]; exact hs0.1, hs0.2⟩, ?_, ?_⟩
    · rw [e129]; omega
    · rw [e129]; omega
  have hs' := hs F1 G pre1
  rw [y1, b_V]
  cases r with
  | inl e =>
    obtain ⟨F2, z1, z2, z3, z4, z5, z6⟩ := hs'
    obtain ⟨F3, k1, k2, k3, k4⟩ := C_addDeed x F2 G (dd := dd) ⟨z5, z6⟩
    refine ⟨F3, ?_, aqP_tr a1 (aqF_tr z2 (aqD_P k2)), ?_, ?_, k3⟩
    · rw [z1, b_I, fR_128_0, Option.bind_some, k1, b_V]
    · rw [k2.1 128 (by omega) (by omega)]; exact z3
    · rw [k2.1 128 (by omega) (by omega)]; exact z4
  | inr q =>
    obtain ⟨hq1, hq2, hq3⟩ := hr q rfl
    obtain ⟨F2, z1, z2, z3, z4, z5, z6, z7⟩ := hs'
    rw [e129] at z4 z5 z6 z7
    obtain ⟨F3, k1, k2, k3, k4⟩ := C_addDeed x F2 G (dd := dd) ⟨by omega, by omega⟩
    obtain ⟨k5, k6⟩ := k4 (by omega)
    refine ⟨F3, ?_, aqP_tr a1 (aqP_tr z2 (aqD_P k2)), aqD_CT k2 z3, ?_, ?_, ?_, ?_⟩
    · rw [z1, b_I, fR_128_0, Option.bind_some, k1, b_V]
    · rw [k5]; omega
    · rw [k5]; omega
    · intro i hi
      rw [k6, u_ne _ _ (by omega), z6 i (by omega), e133]
      exact g5 i hi
    · rw [k5]
      refine CC_bin (dd := dd) (CC_loc (c1 := F 133) ?_ g6) (CC_loc (c1 := F2 133) ?_ z7) hD (Nat.le_refl _) (by omega) ?_ hf hq2 ?_
      · intro z _ hz
        rw [k6, u_ne _ _ (by omega), z6 z (by omega), e133]
      · intro z _ hz
        rw [k6, u_ne _ _ (by omega)]
      · rw [k6, u_eq]
      · rcases hb with hb | hb
        · exact Or.inl hb
        · exact Or.inr ⟨hb.1, hb.2, hq3 hb.1⟩

/-- one, where what it stands on is no waiting deed of its own -/
def EXO (x : m_X) (T : Fn) (n t s p op : Int) : Prop := ∃ r, Cok x k_Reader_readOne [.ref 128, .int (jI op)] s T n p r (Dp op) ∧ Mok x 7 false cq (ctxA 6) 5 T n t s p op r ∧ ∀ q, r = .inr q → (p < q.1 ∧ q.1 ≤ n) ∧ bdE q.2
def EXP (x : m_X) (T : Fn) (n t s p op : Int) : Prop := ∃ r, Cok x k_Reader_readProduct [.ref 128, .int (jI op)] s T n p r (Dp op + 1) ∧ Mok x 6 false cq (ctxA 5) 4 T n t s p op r ∧ ∀ q, r = .inr q → (p < q.1 ∧ q.1 ≤ n) ∧ bdE q.2 ∧ ¬ kd T n q.1 = 43 ∧ ¬ kd T n q.1 = 44
theorem PROD_of (hX : XOK x) {T : Fn} {n t s p op : Int} (hB : BY T n) (hn : 0 ≤ n ∧ n ≤ 300) (ht : 0 ≤ t ∧ t ≤ 3) (hop : 0 ≤ op ∧ op ≤ 8) (p0 : 0 ≤ p) (h1 : ∀ p1, p ≤ p1 → p1 ≤ n → EXO x T n t s p1 op) (hpn : p ≤ n) : EXP x T n t s p op := by
  have D3 : 3 ≤ Dp op := by unfold Dp; omega
  have rks := rk_one hop
  have rkk := rk_prod hop
  have loop : ∀ (k : Nat) (p1 : Int) (f1 : LEnv), p < p1 → p1 ≤ n → n - p1 ≤ k → bdE f1 → ∃ r : (Int × Int) ⊕ (Int × LEnv), (∀ F0 F G i d4, CPre F0 T n s p → CG s F0 F T n p p1 f1 (Dp op + 1) → 0 ≤ i → i < p1 → m_nl d4 = true → Sum.elim (fun e => ∃ F2, m_D x (m_rank k_Reader_readProduct [.ref 128, .int (jI op)]) k_Reader_readProduct 8 [some (.ref 128), some (.int (jI op)), some (.int (jI 1)), some (.int (jI i)), d4] [] (mk F G) = some (some (.int (jI 0)), mk F2 G) ∧ CF F0 F2 e.1 e.2) (fun q => ∃ F2, m_D x (m_rank k_Reader_readProduct [.ref 128, .int (jI op)]) k_Reader_readProduct 8 [some (.ref 128), some (.int (jI op)), some (.int (jI 1)), some (.int (jI i)), d4] [] (mk F G) = some (some (.int (jI 1)), mk F2 G) ∧ CG s F0 F2 T n p q.1 q.2 (Dp op + 1)) r) ∧ (∀ F0 F G F3 d Q w w3, m_nl d = true → Beh x 6 F G F3 T n t s p1 Q op w3 (cq Q) → top4 5 Q → Q.length ≤ 6 * op.toNat + 4 → 0 ≤ w → w < w3 → w3 - w ≤ p1 - p → w ≤ p → aqM t w F0 F → aqM t w F0 F3 → MX false s (cod t F3) w w3 f1 → Sum.elim (fun e => Mfl x d F0 F G t w e.1 e.2) (fun q => Mgo x 6 false (cq Q) d F0 F G T n t s p Q op w q.1 q.2) r) ∧ ∀ q, r = .inr q → (p < q.1 ∧ q.1 ≤ n) ∧ bdE q.2 ∧ ¬ kd T n q.1 = 43 ∧ ¬ kd T n q.1 = 44 := by
    intro k
    induction k with
    | zero =>
      intro p1 f1 a1 a2 a3 ae
      have k52 : kd T n p1 = 52 := by unfold kd; rw [if_pos (by omega)]
      refine ⟨.inr (p1, f1), ?_, ?_, ?_⟩
      · intro F0 F G i d4 b1 b2 b3 b4 b5
        refine ⟨F, ?_, b2⟩
        have ck := b2.2.1.1.1
        rw [k52] at ck
        rw [E_Reader_readProduct_8 x _ (by omega) _ _ _ _ _ _ b5, show (300 : Int32) = jI 300 from by decide, if_neg (by rw [jI_le (by omega) (by omega) (by omega) (by omega)]; omega), if_neg (by decide), fI_128_5, Option.bind_some, ck, if_neg (by decide), Option.bind_some, if_neg (by decide), if_pos rk_b1]
      · intro F0 F G F3 d Q w w3 b1 b2 b3 b4 b5 b6 b7 b8 b9 b10 b11
        exact ⟨F, G, F3, d, w3, b1, rfl, b2, b9, b10, b6, b7, b11⟩
      · intro q hq
        injection hq with hq
        rw [← hq]
        simp only
        rw [k52]
        exact ⟨⟨a1, a2⟩, ae, by omega⟩
    | succ k ih =>
      intro p1 f1 a1 a2 a3 ae
      have nx := nxp_r (T := T) (n := n) (p := p1) (by omega) a2
      have kr := kd_r T n p1
      by_cases fin : ¬ kd T n p1 = 43 ∧ ¬ kd T n p1 = 44
      · refine ⟨.inr (p1, f1), ?_, ?_, ?_⟩
        · intro F0 F G i d4 b1 b2 b3 b4 b5
          refine ⟨F, ?_, b2⟩
          have ck := b2.2.1.1.1
          rw [E_Reader_readProduct_8 x _ (by omega) _ _ _ _ _ _ b5, show (300 : Int32) = jI 300 from by decide, if_neg (by rw [jI_le (by omega) (by omega) (by omega) (by omega)]; omega), if_neg (by decide), fI_128_5, Option.bind_some, ck, show (43 : Int32) = jI 43 from by decide, if_neg (by rw [jI_eq (by omega) (by omega) (by omega) (by omega)]; omega), Option.bind_some, show (44 : Int32) = jI 44 from by decide, if_neg (by rw [jI_eq (by omega) (by omega) (by omega) (by omega)]; omega), if_pos rk_b1]
        · intro F0 F G F3 d Q w w3 b1 b2 b3 b4 b5 b6 b7 b8 b9 b10 b11
          exact ⟨F, G, F3, d, w3, b1, rfl, b2, b9, b10, b6, b7, b11⟩
        · intro q hq
          injection hq with hq
          rw [← hq]
          exact ⟨⟨a1, a2⟩, ae, fin⟩
      · have hlt : p1 < n := kd_lt (T := T) (n := n) (p := p1) (by omega)
        obtain ⟨r2, c1, c2, c3⟩ := h1 (nxp T n p1) (by omega) (by omega)
        obtain ⟨o, ho1, ho2, ho3⟩ : ∃ o : Int, bop o = kd T n p1 ∧ (o = 8 ∨ o = 9) ∧ ∀ R, btw (kd T n p1) R = o := by
          by_cases q3 : kd T n p1 = 43
          · exact ⟨8, by rw [q3]; rfl, Or.inl rfl, fun R => by unfold btw; rw [if_neg (by omega), if_neg (by omega), if_pos q3]⟩
          · exact ⟨9, by rw [show kd T n p1 = 44 by omega]; rfl, Or.inr rfl, fun R => by unfold btw; rw [if_neg (by omega), if_neg (by omega), if_neg (by omega), if_pos (by omega)]⟩
        have rko : rk o = 6 := by rcases ho2 with e | e <;> rw [e] <;> decide
        have o6 : 6 ≤ o ∧ o ≤ 9 := by omega
        have mpart : ∀ F0 F G F3 d Q w w3, m_nl d = true → Beh x 6 F G F3 T n t s p1 Q op w3 (cq Q) → top4 5 Q → Q.length ≤ 6 * op.toNat + 4 → 0 ≤ w → w < w3 → w3 - w ≤ p1 - p → w ≤ p → aqM t w F0 F → aqM t w F0 F3 → MX false s (cod t F3) w w3 f1 → Sum.elim (fun e => Mfl x d F0 F G t w e.1 e.2) (fun q => Mgo x 6 false (cq Q) d F0 F G T n t s p Q op w q.1 (fun nm lf => cbin (kd T n p1) (f1 nm lf) (q.2 nm lf))) r2 := by
          intro F0 F G F3 d Q w w3 b1 b2 b3 b4 b5 b6 b7 b8 b9 b10 b11
          have aao : ¬ aa (o :: Q) = true := by
            simp only [aa, Bool.and_eq_true, Bool.or_eq_true, decide_eq_true_eq]
            intro hh
            rcases hh.2 with hh | hh <;> omega
          have z := LM_next x (L := 6) (Ls := 7) (b := false) (cv := cq) (ctx := ctxA 6) (bn := 5) (o := o) (r := r2) (p := p) (f1 := f1) (cq0 := cq Q) hB hn ht hop b1 b2 (fun R _ _ => ho3 R) (by omega) (by omega) rko (by omega) (by omega) (fun z R hz => by have := (b3 z R hz).1; omega) (by omega) (by omega) ⟨fun _ => aao, fun z R hz => by injection hz with e1 e2; rw [← e1]; omega⟩ p0 hlt b5 b6 b7 b8 b9 b10 b11 ae (Or.inl ⟨rfl, by omega, by omega⟩) c2 (by rw [cq, if_neg (by omega)]) (fun q hq => ⟨(c3 q hq).1, (c3 q hq).2⟩)
          rw [ho1] at z
          exact z
        have cpart : ∀ F0 F G i d4, CPre F0 T n s p → CG s F0 F T n p p1 f1 (Dp op + 1) → 0 ≤ i → i < p1 → m_nl d4 = true → Sum.elim (fun e => ∃ F2, m_D x (m_rank k_Reader_readProduct [.ref 128, .int (jI op)]) k_Reader_readProduct 8 [some (.ref 128), some (.int (jI op)), some (.int (jI 1)), some (.int (jI i)), d4] [] (mk F G) = some (some (.int (jI 0)), mk F2 G) ∧ CF F0 F2 e.1 e.2) (fun q => ∃ F3, m_D x (m_rank k_Reader_readProduct [.ref 128, .int (jI op)]) k_Reader_readProduct 8 [some (.ref 128), some (.int (jI op)), some (.int (jI 1)), some (.int (jI i)), d4] [] (mk F G) = m_D x (m_rank k_Reader_readProduct [.ref 128, .int (jI op)]) k_Reader_readProduct 8 [some (.ref 128), some (.int (jI op)), some (.int (jI 1)), some (.int (jI (i + 1))), some (.int (jI (kd T n p1)))] [] (mk F3 G) ∧ CG s F0 F3 T n p q.1 (fun nm lf => cbin (kd T n p1) (f1 nm lf) (q.2 nm lf)) (Dp op + 1)) r2 := by
          intro F0 F G i d4 b1 b2 b3 b4 b5
          have ck := b2.2.1.1.1
          have cl := CL_next x hX (ks := k_Reader_readOne) (D2 := Dp op) (dd := kd T n p1) (op := op) (G := G) (r := r2) (K := fun v49 s59 => m_D x (m_rank k_Reader_readProduct [.ref 128, .int (jI op)]) k_Reader_readProduct 8 [some (.ref 128), some (.int (jI op)), some (.int v49), some (.int (jI (i + 1))), some (.int (jI (kd T n p1)))] [] s59) b1 b2 hlt (by omega) c1 ae (Or.inl (by unfold isBin; omega)) (fun q hq => ⟨(c3 q hq).1, (c3 q hq).2, fun hh => by omega⟩)
          have run : m_D x (m_rank k_Reader_readProduct [.ref 128, .int (jI op)]) k_Reader_readProduct 8 [some (.ref 128), some (.int (jI op)), some (.int (jI 1)), some (.int (jI i)), d4] [] (mk F G) = (m_bV (m_M x k_Reader_advance [.ref 128] (mk F G)) fun s44 => m_bI (m_M x k_Reader_readOne [.ref 128, .int (jI op)] s44) fun v49 s49 => (m_fR s49 3 0 128).bind fun v54 => m_bV (m_M x k_Script_addDeed [.ref v54, .int (jI (kd T n p1))] s49) fun s59 => m_D x (m_rank k_Reader_readProduct [.ref 128, .int (jI op)]) k_Reader_readProduct 8 [some (.ref 128), some (.int (jI op)), some (.int v49), some (.int (jI (i + 1))), some (.int (jI (kd T n p1)))] [] s59) := by
            rw [E_Reader_readProduct_8 x _ (by omega) _ _ _ _ _ _ b5, show (300 : Int32) = jI 300 from by decide, if_neg (by rw [jI_le (by omega) (by omega) (by omega) (by omega)]; omega), if_neg (by decide), fI_128_5, Option.bind_some, ck, show (43 : Int32) = jI 43 from by decide, show (44 : Int32) = jI 44 from by decide, show (1 : Int32) = jI 1 from rfl, jI_add]
            by_cases q3 : kd T n p1 = 43
            · rw [if_pos (by rw [q3]), Option.bind_some]
              simp only [if_pos (show m_rank k_Reader_readOne [.ref 128, .int (jI op)] < m_rank k_Reader_readProduct [.ref 128, .int (jI op)] by omega)]
            · rw [if_neg (by rw [jI_eq (by omega) (by omega) (by omega) (by omega)]; omega), Option.bind_some, if_pos (by rw [show kd T n p1 = 44 by omega]), Option.bind_some]
              simp only [if_pos (show m_rank k_Reader_readOne [.ref 128, .int (jI op)] < m_rank k_Reader_readProduct [.ref 128, .int (jI op)] by omega)]
          cases r2 with
          | inl e =>
            obtain ⟨F3, y1, y2⟩ := cl
            refine ⟨F3, ?_, y2⟩
            rw [run, y1, E_Reader_readProduct_8 x _ (by omega) _ _ _ _ _ _ (by rfl), show (300 : Int32) = jI 300 from by decide, if_neg (by rw [jI_le (by omega) (by omega) (by omega) (by omega)]; omega), if_pos (by decide), if_pos rk_b0]
          | inr q =>
            obtain ⟨F3, y1, y2⟩ := cl
            exact ⟨F3, by rw [run, y1], y2⟩
        cases r2 with
        | inl e =>
          exact ⟨.inl e, cpart, mpart, fun q hq => by cases hq⟩
        | inr q =>
          obtain ⟨e1, e2⟩ := c3 q rfl
          obtain ⟨r, k1, k2, k3⟩ := ih q.1 (fun nm lf => cbin (kd T n p1) (f1 nm lf) (q.2 nm lf)) (by omega) (by omega) (by omega) (fun nm lf hk => cbin_bd (ae nm lf hk) (e2 nm lf hk))
          refine ⟨r, ?_, ?_, k3⟩
          · intro F0 F G i d4 b1 b2 b3 b4 b5
            obtain ⟨F3, y1, y2⟩ := cpart F0 F G i d4 b1 b2 b3 b4 b5
            have z := k1 F0 F3 G (i + 1) (some (.int (jI (kd T n p1)))) b1 y2 (by omega) (by omega) rfl
            rw [y1]
            exact z
          · intro F0 F G F3 d Q w w3 b1 b2 b3 b4 b5 b6 b7 b8 b9 b10 b11
            obtain ⟨F5, G5, F7, d5, w5, z0, z1, z2, z3, z4, z5, z6, z7⟩ := mpart F0 F G F3 d Q w w3 b1 b2 b3 b4 b5 b6 b7 b8 b9 b10 b11
            have z := k2 F0 F5 G5 F7 d5 Q w w5 z0 z2 b3 b4 b5 z5 z6 b8 z3 z4 z7
            unfold Mfl Mgo at z ⊢
            rw [z1]
            exact z
  obtain ⟨r1, c1, c2, c3⟩ := h1 p (Int.le_refl _) hpn
  cases r1 with
  | inl e =>
    refine ⟨.inl e, ?_, ?_, fun q hq => by cases hq⟩
    · intro F G hp
      obtain ⟨F2, y1, y2⟩ := c1 F G hp
      refine ⟨F2, ?_, y2⟩
      rw [E_Reader_readProduct, isO_128, if_pos rfl, if_pos (by omega), y1, b_I, E_Reader_readProduct_8 x _ (by omega) _ _ _ _ _ _ (by rfl), if_neg (by decide), if_pos (by decide), if_pos rk_b0]
    · intro F G d Q w b1 b2 b3 b4 b5 b6 b7
      exact c2 F G d Q w b1 b2 b3 ⟨b4.1, fun z R hz => ⟨by have := (b4.2 z R hz).1; omega, (b4.2 z R hz).2⟩⟩ (by omega) b6 b7
  | inr q =>
    obtain ⟨e1, e2⟩ := c3 q rfl
    obtain ⟨r, k1, k2, k3⟩ := loop (n - q.1).toNat q.1 q.2 (by omega) (by omega) (by omega) e2
    refine ⟨r, ?_, ?_, k3⟩
    · intro F G hp
      obtain ⟨F2, y1, y2⟩ := c1 F G hp
      have z := k1 F F2 G 0 none hp ⟨y2.1, y2.2.1, y2.2.2.1, y2.2.2.2.1, y2.2.2.2.2.1, CC_le y2.2.2.2.2.2 (by omega)⟩ (by omega) (by omega) rfl
      have run : m_M x k_Reader_readProduct [.ref 128, .int (jI op)] (mk F G) = m_D x (m_rank k_Reader_readProduct [.ref 128, .int (jI op)]) k_Reader_readProduct 8 [some (.ref 128), some (.int (jI op)), some (.int (jI 1)), some (.int (jI 0)), none] [] (mk F2 G) := by
        rw [E_Reader_readProduct, isO_128, if_pos rfl, if_pos (by omega), y1, b_I]
        rfl
      rw [← run] at z
      exact z
    · intro F G d Q w b1 b2 b3 b4 b5 b6 b7
      obtain ⟨F5, G5, F7, d5, w5, z0, z1, z2, z3, z4, z5, z6, z7⟩ := c2 F G d Q w b1 b2 b3 ⟨b4.1, fun z R hz => ⟨by have := (b4.2 z R hz).1; omega, (b4.2 z R hz).2⟩⟩ (by omega) b6 b7
      have zb : Beh x 6 F5 G5 F7 T n t s q.1 Q op w5 (cq Q) := by
        obtain ⟨O, op2, w2, g1, g2, g3, g4, g5, g6, g7⟩ := z2
        exact ⟨O, op2, w2, g1, g2, g3, g4, g5, fun l l0 l1 => g6 l l0 (by omega), g7⟩
      have z := k2 F F5 G5 F7 d5 Q w w5 z0 zb b4.2 b5 b6 z5 z6 b7 z3 z4 z7
      unfold Mfl Mgo at z ⊢
      rw [z1]
      exact z
end
