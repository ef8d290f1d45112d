-- reading: common, if
section
variable (x : m_X)
theorem O_common (hX : XOK x) {T : Fn} {n t s p op : Int} (hB : BY T n) (hn : 0 ≤ n ∧ n ≤ 300) (ht : 0 ≤ t ∧ t ≤ 3) (hs : 0 ≤ s ∧ s ≤ 3) (hop : 0 ≤ op ∧ op < 8) (p0 : 0 ≤ p) (hpn : p ≤ n) (hk : kd T n p = 27) (h1 : ∀ p1, p < p1 → p1 ≤ n → EX1 x T n t s p1 (op + 1)) : EX1 x T n t s p op := by
  have hlt : p < n := kd_lt (T := T) (n := n) (p := p) (by omega)
  have nx := nxp_r (T := T) (n := n) (p := p) p0 hpn
  have ds := Dp_s hop
  have D3 : 3 ≤ Dp (op + 1) := by unfold Dp; omega
  have e41 : (41 : Int) = (if kd T n p = 45 then 40 else if kd T n p = 42 then 5 else if kd T n p = 27 then 41 else if kd T n p = 29 then 2 else 42) := by rw [hk]; rfl
  obtain ⟨r, c1, c2, c3⟩ := h1 (nxp T n p) (by omega) (by omega)
  have cls : ∀ F G, CPre F T n s p → ∃ F1, CPre F1 T n s (nxp T n p) ∧ aqP F F1 ∧ F1 129 = F 129 ∧ F1 133 = F 133 ∧ m_M x k_Reader_readOne [.ref 128, .int (jI op)] (mk F G) = (m_bI (m_M x k_Reader_readOne [.ref 128, .int (jI (op + 1))] (mk F1 G)) fun v184 s184 => if v184 = jI 0 then (some (some (.int (jI 0)), s184)) else m_bI (m_M x k_Reader_expects [.ref 128, .int (jI 28)] s184) fun v193 s193 => if v193 = jI 0 then (some (some (.int (jI 0)), s193)) else m_bI (m_M x k_Reader_readOne [.ref 128, .int (jI (op + 1))] s193) fun v203 s203 => if v203 = jI 0 then (some (some (.int (jI 0)), s203)) else m_bI (m_M x k_Reader_does [.ref 128, .int (jI 27)] s203) fun v212 s212 => if v212 = jI 0 then (some (some (.int (jI 0)), s212)) else some (some (.int (jI 1)), s212)) := by
    intro F G hp
    obtain ⟨F1, y1, y2, y3, y4, y5⟩ := C_open1 x hX (G := G) hp hop
    refine ⟨F1, y2, y3, y4, y5, ?_⟩
    rw [R_sw x hp.2.1.1.1 (by omega) hop, if_pos hk, y1, b_I, if_neg (by decide)]
  have na : ∀ Q, ¬ aa (41 :: Q) = true := by
    intro Q
    simp only [aa, Bool.and_eq_true, Bool.or_eq_true, decide_eq_true_eq]
    intro hh
    have := hh.1
    rw [oN, if_pos (by omega)] at this
    omega
  have na4 : ∀ Q, ¬ aa (4 :: Q) = true := by
    intro Q
    simp only [aa, Bool.and_eq_true, Bool.or_eq_true, decide_eq_true_eq]
    intro hh
    have r4 : rk 4 = 7 := by decide
    rcases hh.2 with hh | hh <;> omega
  cases r with
  | inl e =>
    refine ⟨.inl e, ?_, ?_, fun z hz => by cases hz⟩
    · intro F G hp
      obtain ⟨F1, y1, y2, y3, y4, y5⟩ := cls F G hp
      obtain ⟨F2, z1, z2, z3⟩ := c1 F1 G y1
      exact ⟨F2, by rw [y5, z1, b_I, if_pos rfl], aqP_tr y2 z2, z3⟩
    · intro F G d Q w b1 b2 b3 b4 b5 b6 b7
      obtain ⟨F2, G2, z1, z2, z3⟩ := M_open1 x hB hs hop (by omega) e41 b1 b2 b3 b5
      obtain ⟨F4, G4, k1, k2, k3⟩ := c2 F2 G2 (some (.int (jI 0))) (41 :: Q) w rfl z2 (okQ_i (by omega) b3) (fun _ => na Q) (by simp only [List.length_cons]; omega) b6 (by omega)
      exact ⟨F4, G4, by rw [z1]; exact k1, aqM_tr z3 k2 (Int.le_refl _), k3⟩
  | inr q =>
    obtain ⟨f1, f2⟩ := c3 q rfl
    have nxq := nxp_r (T := T) (n := n) (p := q.1) (by omega) f1.2
    have mod : ∀ F G d Q w, m_nl d = true → STa F G T n t s p Q op w 0 → okQ Q → Q.length ≤ 6 * op.toNat + 5 → 0 ≤ w → w ≤ p → ∃ F4 G4 d4 w4' wh, m_nl d4 = true ∧ LH x d F G = EO x d4 F4 G4 ∧ STa F4 G4 T n t s q.1 (41 :: Q) (op + 1) w4' wh ∧ aqM t w F F4 ∧ w < w4' ∧ w4' - w ≤ q.1 - nxp T n p ∧ MCo s (cod t F4) w w4' q.2 := by
      intro F G d Q w b1 b2 b3 b5 b6 b7
      obtain ⟨F2, G2, z1, z2, z3⟩ := M_open1 x hB hs hop (by omega) e41 b1 b2 b3 b5
      obtain ⟨F4, G4, d4, w4', wh, k0, k1, k2, k3, k4, k5, k6⟩ := c2 F2 G2 (some (.int (jI 0))) (41 :: Q) w rfl z2 (okQ_i (by omega) b3) (fun _ => na Q) (by simp only [List.length_cons]; omega) b6 (by omega)
      exact ⟨F4, G4, d4, w4', wh, k0, by rw [z1]; exact k1, k2, aqM_tr z3 k3 (Int.le_refl _), k4, k5, k6⟩
    by_cases cl : kd T n q.1 = 28
    · have hq : q.1 < n := kd_lt (T := T) (n := n) (p := q.1) (by omega)
      obtain ⟨r2, d1, d2, d3⟩ := h1 (nxp T n q.1) (by omega) (by omega)
      have cgo : ∀ F G, CPre F T n s p → ∃ F1 F2 F3, F1 129 = F 129 ∧ F1 133 = F 133 ∧ CG s F1 F2 T n (nxp T n p) q.1 q.2 (Dp (op + 1)) ∧ CPre F3 T n s (nxp T n q.1) ∧ aqP F F3 ∧ F3 129 = F2 129 ∧ F3 133 = F2 133 ∧ m_M x k_Reader_readOne [.ref 128, .int (jI op)] (mk F G) = (m_bI (m_M x k_Reader_readOne [.ref 128, .int (jI (op + 1))] (mk F3 G)) fun v203 s203 => if v203 = jI 0 then (some (some (.int (jI 0)), s203)) else m_bI (m_M x k_Reader_does [.ref 128, .int (jI 27)] s203) fun v212 s212 => if v212 = jI 0 then (some (some (.int (jI 0)), s212)) else some (some (.int (jI 1)), s212)) := by
        intro F G hp
        obtain ⟨F1, y1, y2, y3, y4, y5⟩ := cls F G hp
        obtain ⟨F2, z1, z2⟩ := c1 F1 G y1
        have pre2 := CPre_of y1 z2
        rcases C_exp1 x hX (G := G) (tk := 28) pre2 (by omega) with ⟨_, F3, k1, k2, k3, k4, k5⟩ | ⟨a, _⟩
        · refine ⟨F1, F2, F3, y3, y4, z2, k2, aqP_tr y2 (aqP_tr z2.1 k3), k4, k5, ?_⟩
          rw [y5, z1, b_I, if_neg (by decide), k1, b_I, if_neg (by decide)]
        · exact absurd cl a
      have mgo : ∀ F G d Q w, m_nl d = true → STa F G T n t s p Q op w 0 → okQ Q → Q.length ≤ 6 * op.toNat + 5 → 0 ≤ w → w ≤ p → ∃ F4 w4' F5 G5, LH x d F G = LH x (some (.int (jI 0))) F5 G5 ∧ STa F5 G5 T n t s (nxp T n q.1) (4 :: Q) (op + 1) w4' 0 ∧ aqM t w F F4 ∧ aqM t w4' F4 F5 ∧ w < w4' ∧ w4' - w ≤ q.1 - nxp T n p ∧ MCo s (cod t F4) w w4' q.2 := by
        intro F G d Q w b1 b2 b3 b5 b6 b7
        obtain ⟨F4, G4, d4, w4', wh, m0, m1, m2, m3, m4, m5, m6⟩ := mod F G d Q w b1 b2 b3 b5 b6 b7
        rcases EO_with x F4 G4 hB m0 m2 (okQ_i (by omega) b3) (by omega) with ⟨_, F5, G5, j1, j2, j3⟩ | ⟨a, _⟩
        · exact ⟨F4, w4', F5, G5, by rw [m1]; exact j1, j2, m3, j3, m4, m5, m6⟩
        · exact absurd cl a
      cases r2 with
      | inl e =>
        refine ⟨.inl e, ?_, ?_, fun z hz => by cases hz⟩
        · intro F G hp
          obtain ⟨F1, F2, F3, y1, y2, y3, y4, y5, y6, y7, y8⟩ := cgo F G hp
          obtain ⟨F4, z1, z2, z3⟩ := d1 F3 G y4
          exact ⟨F4, by rw [y8, z1, b_I, if_pos rfl], aqP_tr y5 z2, z3⟩
        · intro F G d Q w b1 b2 b3 b4 b5 b6 b7
          obtain ⟨F4, w4', F5, G5, m1, m2, m3, m4, m5, m6, m7⟩ := mgo F G d Q w b1 b2 b3 b5 b6 b7
          obtain ⟨F6, G6, k1, k2, k3⟩ := d2 F5 G5 (some (.int (jI 0))) (4 :: Q) w4' rfl m2 (okQ_i (by omega) b3) (fun _ => na4 Q) (by simp only [List.length_cons]; omega) (by omega) (by omega)
          exact ⟨F6, G6, by rw [m1]; exact k1, aqM_tr (aqM_tr m3 m4 (by omega)) k2 (by omega), k3⟩
      | inr q2 =>
        obtain ⟨g1, g2⟩ := d3 q2 rfl
        refine ⟨.inr (q2.1, fun nm lf => cbin 27 (q.2 nm lf) (q2.2 nm lf)), ?_, ?_, ?_⟩
        · intro F G hp
          have l0 := hp.2.2.2
          obtain ⟨F1, F2, F3, y1, y2, y3, y4, y5, y6, y7, y8⟩ := cgo F G hp
          obtain ⟨u1, u2, u3, u4, u5, u6⟩ := y3
          rw [y1] at u3 u4 u5 u6
          rw [y2] at u5
          obtain ⟨F4, z1, z2, z3, z4, z5, z6, z7⟩ := d1 F3 G y4
          rw [y6] at z4 z5 z6 z7
          obtain ⟨F5, k1, k2, k3, k4⟩ := C_does x F4 G (dd := 27) ⟨by omega, by omega⟩
          obtain ⟨k5, k6⟩ := k4 (by omega)
          refine ⟨F5, ?_, aqP_tr y5 (aqP_tr z2 (aqD_P k2)), aqD_CT k2 z3, ?_, ?_, ?_, ?_⟩
          · rw [y8, z1, b_I, if_neg (by decide), k1, b_I, if_neg (by decide)]
          · rw [k5]; omega
          · rw [k5]; show F4 129 6 + 1 - F 129 6 ≤ q2.1 - p; omega
          · intro i hi
            rw [k6, u_ne _ _ (by omega), z6 i (by omega), y7]
            exact u5 i hi
          · rw [k5]
            refine CC_le (CC_bin (dd := 27) (d1 := Dp (op + 1)) (d2 := Dp (op + 1)) (CC_loc (c1 := F2 133) ?_ u6) (CC_loc (c1 := F4 133) ?_ z7) (by omega) (by omega) (by omega) ?_ f2 g2 (Or.inl (by unfold isBin; omega))) (by omega)
            · intro z _ hz
              rw [k6, u_ne _ _ (by omega), z6 z (by omega), y7]
            · intro z _ hz
              rw [k6, u_ne _ _ (by omega)]
            · rw [k6, u_eq]
        · intro F G d Q w b1 b2 b3 b4 b5 b6 b7
          obtain ⟨F4, w4', F5, G5, m1, m2, m3, m4, m5, m6, m7⟩ := mgo F G d Q w b1 b2 b3 b5 b6 b7
          obtain ⟨F6, G6, d6, w6, wh, k0, k1, k2, k3, k4, k5, k6⟩ := d2 F5 G5 (some (.int (jI 0))) (4 :: Q) w4' rfl m2 (okQ_i (by omega) b3) (fun _ => na4 Q) (by simp only [List.length_cons]; omega) (by omega) (by omega)
          obtain ⟨F7, j1, j2, j3, j4⟩ := EO_pop x F6 G6 (d := d6) k2 (by decide) (okQ_i (by omega) b3) (by omega) ht (by omega) (by omega)
          rw [show op + 1 - 1 = op from by omega] at j2
          have a6 : aqM t w4' F4 F6 := aqM_tr m4 k3 (Int.le_refl _)
          have a7 : aqM t w4' F4 F7 := aqM_tr a6 j3 (by omega)
          refine ⟨F7, G6, d6, w6 + 1, wh, k0, by rw [m1, k1]; exact j1, j2, aqM_tr m3 a7 (by omega), by omega, ?_, ?_⟩
          · show w6 + 1 - w ≤ q2.1 - p
            omega
          · exact MC_bin (o := 4) (MC_loc (T1 := cod t F4) (fun z _ hz => cod_ag a7 z hz) m7) (MC_loc (T1 := cod t F6) (fun z _ hz => cod_ag j3 z hz) k6) b6 f2 g2 (Or.inl rfl) j4
        · intro z hz
          injection hz with hz
          rw [← hz]
          refine ⟨⟨by show p < q2.1; omega, g1.2⟩, ?_⟩
          intro nm lf hE
          show bd (cbin 27 (q.2 nm lf) (q2.2 nm lf))
          exact cbin_bd (f2 nm lf hE) (g2 nm lf hE)
    · refine ⟨.inl (1, q.1), ?_, ?_, fun z hz => by cases hz⟩
      · intro F G hp
        obtain ⟨F1, y1, y2, y3, y4, y5⟩ := cls F G hp
        obtain ⟨F2, z1, z2⟩ := c1 F1 G y1
        have pre2 := CPre_of y1 z2
        rcases C_exp1 x hX (G := G) (tk := 28) pre2 (by omega) with ⟨a, _⟩ | ⟨_, F3, k1, k2⟩
        · exact absurd a cl
        · exact ⟨F3, by rw [y5, z1, b_I, if_neg (by decide), k1, b_I, if_pos rfl], aqP_tr y2 (aqP_tr z2.1 k2.1), k2.2⟩
      · intro F G d Q w b1 b2 b3 b4 b5 b6 b7
        obtain ⟨F4, G4, d4, w4', wh, m0, m1, m2, m3, m4, m5, m6⟩ := mod F G d Q w b1 b2 b3 b5 b6 b7
        rcases EO_with x F4 G4 hB m0 m2 (okQ_i (by omega) b3) (by omega) with ⟨a, _⟩ | ⟨_, F5, j1, j2, j3⟩
        · exact absurd a cl
        · exact ⟨F5, G4, by rw [m1]; exact j1, aqM_tr m3 j2 (by omega), j3⟩
/-- a sum between if's words: what follows must be the next word -/
theorem M_sumw {T : Fn} {n t s p op c tk pa : Int} {f : LEnv} {p' : Int} (hB : BY T n) (hn : 0 ≤ n ∧ n ≤ 300) (hop : 0 ≤ op ∧ op ≤ 8) (p0 : 0 ≤ p) (hc : (c = 43 ∧ tk = 32 ∧ pa = 44) ∨ (c = 44 ∧ tk = 33 ∧ pa = 0)) (c2 : Mok x 5 false cq (ctxA 4) 3 T n t s p op (.inr (p', f))) (f3 : ¬ kd T n p' = 41 ∧ ¬ kd T n p' = 42 ∧ ¬ kd T n p' = 43 ∧ ¬ kd T n p' = 44) {F G : Nat → Fn} {d : Option Value} {Q : List Int} {w : Int} (b1 : m_nl d = true) (b2 : STa F G T n t s p (c :: Q) op w 0) (b3 : okQ Q) (b5 : Q.length ≤ 6 * op.toNat) (b6 : 0 ≤ w) (b7 : w ≤ p) : (¬ kd T n p' = tk ∧ Mfl x d F F G t w 1 p') ∨ (kd T n p' = tk ∧ ∃ F4 G4 F5 d5 w5 R op2 w2, m_nl d5 = true ∧ LH x d F G = LH x d5 F4 G4 ∧ STa F4 G4 T n t s p' R op2 w2 1 ∧ okQ R ∧ R.length ≤ 160 ∧ btw (kd T n p') R = -1 ∧ prt (kd T n p') R = pa ∧ oN R = c ∧ SE x 1 F4 G4 = some (none, mk F5 G4) ∧ STa F5 G4 T n t s p' (c :: Q) op w5 1 ∧ aqM t w F F5 ∧ w < w5 ∧ w5 - w ≤ p' - p ∧ MCo s (cod t F5) w w5 f) := by
  have ctx : ctxA 4 (kd T n p) (c :: Q) := by
    refine ⟨fun _ => ?_, ?_⟩
    · simp only [aa, Bool.and_eq_true, Bool.or_eq_true, decide_eq_true_eq]
      intro hh
      have := hh.1
      rw [oN, if_pos (by omega)] at this
      omega
    · intro z R hz
      injection hz with z1 z2
      rw [← z1]
      refine ⟨?_, by omega⟩
      rcases hc with h | h <;> rw [h.1] <;> decide
  have okc : okQ (c :: Q) := okQ_i (by omega) b3
  obtain ⟨F4, G4, F5, d5, w5, k0, k1, k2, k3, k4, k5, k6, k7⟩ := c2 F G d (c :: Q) w b1 b2 okc ctx (by simp only [List.length_cons]; omega) b6 b7
  obtain ⟨O, op2, w2, g1, g2, g3, g4, g5, g6, g7⟩ := k2
  have eo : oN (O ++ c :: Q) = c := by rw [g4, oN, if_pos (by omega)]
  have bt : btw (kd T n p') (O ++ c :: Q) = -1 := by
    unfold btw
    rw [if_neg f3.1, if_neg f3.2.1, if_neg f3.2.2.1, if_neg f3.2.2.2, if_pos (by omega)]
  have sst := M_stop x F5 G4 (l := 1) g7 okc (by simp only [List.length_cons]; omega) (fun z R hz => by
    injection hz with e1 e2
    rw [← e1]
    rcases hc with h | h <;> rw [h.1] <;> decide) (by omega)
  by_cases q : kd T n p' = tk
  · right
    refine ⟨q, F4, G4, F5, d5, w5, O ++ c :: Q, op2, w2, k0, k1, g1, g2, by omega, bt, ?_, eo, by rw [g6 1 (by omega) (by omega)]; exact sst, g7, k4, k5, k6, k7⟩
    unfold prt
    rcases hc with ⟨h1, h2, h3⟩ | ⟨h1, h2, h3⟩
    · rw [if_neg (by omega), if_neg (by omega), if_pos (by omega), if_pos (by omega), h3]
    · rw [if_neg (by omega), if_neg (by omega), if_neg (by omega), if_pos (by omega), if_pos (by omega), h3]
  · left
    refine ⟨q, ?_⟩
    have bn := BH_none x F4 G4 hB k0 g1 g2 (by omega) bt (by
      unfold prt
      rcases hc with ⟨h1, h2, h3⟩ | ⟨h1, h2, h3⟩
      · rw [if_neg (by omega), if_neg (by omega), if_pos (by omega), if_neg (fun z => q (by rw [z, h2]))]
      · rw [if_neg (by omega), if_neg (by omega), if_neg (by omega), if_pos (by omega), if_neg (fun z => q (by rw [z, h2]))])
    rw [if_neg (by omega)] at bn
    exact ⟨F4, G4, by rw [k1]; exact bn, k3, g1.1.2.1.2.1⟩
end
