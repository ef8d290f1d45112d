-- reading: if
section
variable (x : m_X)
theorem CPre_D {T : Fn} {n s p : Int} {F F2 : Nat → Fn} (hp : CPre F T n s p) (h : aqD F F2) (h0 : 0 ≤ F2 129 6) (h1 : F2 129 6 ≤ p) : CPre F2 T n s p := by
  obtain ⟨hT, hc, hs0, l0, l1⟩ := hp
  exact ⟨aqP_TP (aqD_P h) hT, aqD_CT h hc, ⟨by rw [h.1 128 (by omega) (by omega)]; exact hs0.1, hs0.2⟩, h0, h1⟩
theorem R_choice {F G : Nat → Fn} {op : Int} (hop : 0 ≤ op ∧ op ≤ 8) : m_M x k_Reader_readChoice [.ref 128, .int (jI op)] (mk F G) = (m_bI (m_M x k_Reader_readEither [.ref 128, .int (jI op)] (mk F G)) fun v2 s2 => if v2 = jI 0 then (some (some (.int (jI 0)), s2)) else m_bI (m_M x k_Reader_expects [.ref 128, .int (jI 31)] s2) fun v11 s11 => if v11 = jI 0 then (some (some (.int (jI 0)), s11)) else (m_fR s11 3 0 128).bind fun v20 => m_bI (m_M x k_Script_addLeap [.ref v20, .int (jI 31)] s11) fun v25 s25 => m_bI (m_M x k_Reader_readSum [.ref 128, .int (jI op)] s25) fun v31 s31 => if v31 = jI 0 then (some (some (.int (jI 0)), s31)) else m_bI (m_M x k_Reader_expects [.ref 128, .int (jI 32)] s31) fun v40 s40 => if v40 = jI 0 then (some (some (.int (jI 0)), s40)) else (m_fR s40 3 0 128).bind fun v49 => m_bI (m_M x k_Script_addLeap [.ref v49, .int (jI 32)] s40) fun v54 s54 => (m_fR s54 3 0 128).bind fun v59 => m_bV (m_M x k_Script_aimHere [.ref v59, .int v25] s54) fun s63 => m_bI (m_M x k_Reader_readSum [.ref 128, .int (jI op)] s63) fun v68 s68 => if v68 = jI 0 then (some (some (.int (jI 0)), s68)) else m_bI (m_M x k_Reader_expects [.ref 128, .int (jI 33)] s68) fun v77 s77 => if v77 = jI 0 then (some (some (.int (jI 0)), s77)) else (m_fR s77 3 0 128).bind fun v86 => m_bV (m_M x k_Script_aimHere [.ref v86, .int v54] s77) fun s90 => some (some (.int (jI 1)), s90)) := by
  have r1 := rk_either hop
  have r2 := rk_sum hop
  have r3 := rk_choice hop
  have c1 : m_rank k_Reader_readEither [.ref 128, .int (jI op)] < m_rank k_Reader_readChoice [.ref 128, .int (jI op)] := by omega
  have c2 : m_rank k_Reader_readSum [.ref 128, .int (jI op)] < m_rank k_Reader_readChoice [.ref 128, .int (jI op)] := by omega
  rw [E_Reader_readChoice, isO_128, if_pos rfl]
  simp only [if_pos c1, if_pos c2]
  rw [show (31 : Int32) = jI 31 from by decide, show (32 : Int32) = jI 32 from by decide, show (33 : Int32) = jI 33 from by decide, show (0 : Int32) = jI 0 from rfl, show (1 : Int32) = jI 1 from rfl]
theorem O_if (hX : XOK x) {T : Fn} {n t s p op : Int} (hB : BY T n) (hn : 0 ≤ n ∧ n ≤ 300) (ht : 0 ≤ t ∧ t ≤ 3) (hs : 0 ≤ s ∧ s ≤ 3) (hop : 0 ≤ op ∧ op < 8) (p0 : 0 ≤ p) (hpn : p ≤ n) (hk : kd T n p = 30) (hE : EXE x T n t s (nxp T n p) (op + 1)) (hS : ∀ p1, p < p1 → p1 ≤ n → EXS x T n t s p1 (op + 1)) : EX1 x T n t s p op := by
  have hlt : p < n := kd_lt (T := T) (n := n) (p := p) (by omega)
  have nx := nxp_r (T := T) (n := n) (p := p) p0 hpn
  have ds := Dp_s hop
  have D3 : 3 ≤ Dp (op + 1) := by unfold Dp; omega
  have e42 : (42 : Int) = (if kd T n p = 45 then 40 else if kd T n p = 42 then 5 else if kd T n p = 27 then 41 else if kd T n p = 29 then 2 else 42) := by rw [hk]; rfl
  have op1 : 0 ≤ op + 1 ∧ op + 1 ≤ 8 := by omega
  obtain ⟨r, c1, c2, c3⟩ := hE
  have cls : ∀ F G, CPre F T n s p → ∃ F1, CPre F1 T n s (nxp T n p) ∧ aqP F F1 ∧ F1 129 = F 129 ∧ F1 133 = F 133 ∧ m_M x k_Reader_readOne [.ref 128, .int (jI op)] (mk F G) = (m_bI (m_M x k_Reader_readChoice [.ref 128, .int (jI (op + 1))] (mk F1 G)) fun v236 s236 => if v236 = jI 0 then (some (some (.int (jI 0)), s236)) else some (some (.int (jI 1)), s236)) := by
    intro F G hp
    obtain ⟨F1, y1, y2, y3, y4, y5⟩ := C_open1 x hX (G := G) hp hop
    refine ⟨F1, y2, y3, y4, y5, ?_⟩
    rw [R_sw x hp.2.1.1.1 (by omega) hop, if_neg (by omega), if_neg (by omega), if_pos hk, y1, b_I, if_neg (by decide)]
  have ctxe : ∀ Q k, ctxE k (42 :: Q) := by
    intro Q k
    refine ⟨?_, ?_⟩
    · simp only [aa, Bool.and_eq_true, Bool.or_eq_true, decide_eq_true_eq]
      exact ⟨by rw [oN, if_pos (by omega)], Or.inl (by omega)⟩
    · intro z R hz
      injection hz with z1 z2
      rw [← z1]
      exact ⟨by decide, by omega⟩
  cases r with
  | inl e =>
    refine ⟨.inl e, ?_, ?_, fun z hz => by cases hz⟩
    · intro F G hp
      obtain ⟨F1, y1, y2, y3, y4, y5⟩ := cls F G hp
      obtain ⟨F2, z1, z2, z3⟩ := c1 F1 G y1
      exact ⟨F2, by rw [y5, R_choice x op1, z1, b_I, if_pos rfl, b_I, if_pos rfl], aqP_tr y2 z2, z3⟩
    · intro F G d Q w b1 b2 b3 b4 b5 b6 b7
      obtain ⟨F2, G2, z1, z2, z3⟩ := M_open1 x hB hs hop (by omega) e42 b1 b2 b3 b5
      obtain ⟨F4, G4, k1, k2, k3⟩ := c2 F2 G2 (some (.int (jI 0))) (42 :: Q) w rfl z2 (okQ_i (by omega) b3) (ctxe Q _) (by simp only [List.length_cons]; omega) b6 (by omega)
      exact ⟨F4, G4, by rw [z1]; exact k1, aqM_tr z3 k2 (Int.le_refl _), k3⟩
  | inr q =>
    obtain ⟨f1, f2, f3⟩ := c3 q rfl
    have nxq := nxp_r (T := T) (n := n) (p := q.1) (by omega) f1.2
    -- the model, up to 'then'
    have mod : ∀ F G d Q w, m_nl d = true → STa F G T n t s p Q op w 0 → okQ Q → Q.length ≤ 6 * op.toNat + 5 → 0 ≤ w → w ≤ p → ∃ F4 G4 F5 d5 w5 R op2 w2, m_nl d5 = true ∧ LH x d F G = LH x d5 F4 G4 ∧ STa F4 G4 T n t s q.1 R op2 w2 1 ∧ okQ R ∧ R.length ≤ 160 ∧ oN R = 42 ∧ cq R = true ∧ btw (kd T n q.1) R = -1 ∧ SE x 1 F4 G4 = some (none, mk F5 G4) ∧ STa F5 G4 T n t s q.1 (42 :: Q) (op + 1) w5 1 ∧ aqM t w F F4 ∧ aqM t w F F5 ∧ w < w5 ∧ w5 - w ≤ q.1 - nxp T n p ∧ MB s (cod t F5) w w5 q.2 := by
      intro F G d Q w b1 b2 b3 b5 b6 b7
      obtain ⟨F2, G2, z1, z2, z3⟩ := M_open1 x hB hs hop (by omega) e42 b1 b2 b3 b5
      obtain ⟨F4, G4, F5, d5, w5, k0, k1, k2, k3, k4, k5, k6, k7⟩ := c2 F2 G2 (some (.int (jI 0))) (42 :: Q) w rfl z2 (okQ_i (by omega) b3) (ctxe Q _) (by simp only [List.length_cons]; omega) b6 (by omega)
      obtain ⟨O, op2, w2, g1, g2, g3, g4, g5, g6, g7⟩ := k2
      have eo : oN (O ++ 42 :: Q) = 42 := by rw [g4, oN, if_pos (by omega)]
      have sst := M_stop x F5 G4 (l := 1) g7 (okQ_i (by omega) b3) (by simp only [List.length_cons]; omega) (fun z R hz => by injection hz with e1 e2; rw [← e1]; decide) (by omega)
      refine ⟨F4, G4, F5, d5, w5, O ++ 42 :: Q, op2, w2, k0, by rw [z1]; exact k1, g1, g2, by omega, eo, g5, ?_, by rw [g6 1 (by omega) (by omega)]; exact sst, g7, aqM_tr z3 k3 (Int.le_refl _), aqM_tr z3 k4 (Int.le_refl _), k5, k6, k7⟩
      unfold btw
      rw [if_neg f3.2.2.1, if_neg f3.2.2.2.1, if_neg f3.2.2.2.2.1, if_neg f3.2.2.2.2.2, if_neg (fun z => z eo), if_neg (fun z => z g5), if_neg f3.2.1, if_neg f3.1]
    by_cases q31 : kd T n q.1 = 31
    · have hq : q.1 < n := kd_lt (T := T) (n := n) (p := q.1) (by omega)
      have n2 := nx_2 hB (show 0 ≤ q.1 by omega) (Or.inl q31)
      obtain ⟨rS, s1, s2, s3⟩ := hS (nxp T n q.1) (by omega) (by omega)
      -- the class, up to the first sum
      have cgo : ∀ F G, CPre F T n s p → ∃ F1 F2 F4 : Nat → Fn, F1 129 = F 129 ∧ F1 133 = F 133 ∧ CG s F1 F2 T n (nxp T n p) q.1 q.2 (Dp (op + 1) + 5) ∧ CPre F4 T n s (nxp T n q.1) ∧ aqP F F4 ∧ F4 129 6 = F2 129 6 + 2 ∧ F4 133 = u (u (F2 133) (F2 129 6) (-32)) (F2 129 6 + 1) 0 ∧ m_M x k_Reader_readChoice [.ref 128, .int (jI (op + 1))] (mk F1 G) = (m_bI (m_M x k_Reader_readSum [.ref 128, .int (jI (op + 1))] (mk F4 G)) fun v31 s31 => if v31 = jI 0 then (some (some (.int (jI 0)), s31)) else m_bI (m_M x k_Reader_expects [.ref 128, .int (jI 32)] s31) fun v40 s40 => if v40 = jI 0 then (some (some (.int (jI 0)), s40)) else (m_fR s40 3 0 128).bind fun v49 => m_bI (m_M x k_Script_addLeap [.ref v49, .int (jI 32)] s40) fun v54 s54 => (m_fR s54 3 0 128).bind fun v59 => m_bV (m_M x k_Script_aimHere [.ref v59, .int (jI (F2 129 6 + 1))] s54) fun s63 => m_bI (m_M x k_Reader_readSum [.ref 128, .int (jI (op + 1))] s63) fun v68 s68 => if v68 = jI 0 then (some (some (.int (jI 0)), s68)) else m_bI (m_M x k_Reader_expects [.ref 128, .int (jI 33)] s68) fun v77 s77 => if v77 = jI 0 then (some (some (.int (jI 0)), s77)) else (m_fR s77 3 0 128).bind fun v86 => m_bV (m_M x k_Script_aimHere [.ref v86, .int v54] s77) fun s90 => some (some (.int (jI 1)), s90)) ∧ m_M x k_Reader_readOne [.ref 128, .int (jI op)] (mk F G) = (m_bI (m_M x k_Reader_readChoice [.ref 128, .int (jI (op + 1))] (mk F1 G)) fun v236 s236 => if v236 = jI 0 then (some (some (.int (jI 0)), s236)) else some (some (.int (jI 1)), s236)) := by
        intro F G hp
        obtain ⟨F1, y1, y2, y3, y4, y5⟩ := cls F G hp
        obtain ⟨F2, z1, z2⟩ := c1 F1 G y1
        have pre2 := CPre_of y1 z2
        rcases C_exp1 x hX (G := G) (tk := 31) pre2 (by omega) with ⟨_, F3, k1, k2, k3, k4, k5⟩ | ⟨a, _⟩
        · have l3 := pre2.2.2.2
          obtain ⟨F4, j1, j2, j3, j4⟩ := C_addLeap x (F := F3) (G := G) (dd := 31) ⟨by rw [k4]; exact l3.1, by rw [k4]; omega⟩
          rw [k4] at j1 j3 j4
          rw [k5] at j4
          refine ⟨F1, F2, F4, y3, y4, z2, CPre_D k2 j2 (by omega) (by omega), aqP_tr y2 (aqP_tr z2.1 (aqP_tr k3 (aqD_P j2))), j3, j4, ?_, y5⟩
          rw [R_choice x op1, z1, b_I, if_neg (by decide), k1, b_I, if_neg (by decide), fR_128_0, Option.bind_some, j1, b_I]
        · exact absurd q31 a
      have mgo : ∀ F G d Q w, m_nl d = true → STa F G T n t s p Q op w 0 → okQ Q → Q.length ≤ 6 * op.toNat + 5 → 0 ≤ w → w ≤ p → ∃ F5 w5 F6 G6, LH x d F G = LH x (some (.int (jI 0))) F6 G6 ∧ STa F6 G6 T n t s (nxp T n q.1) (43 :: Q) (op + 1) w5 0 ∧ aqM t w F F5 ∧ aqM t w5 F5 F6 ∧ w < w5 ∧ w5 - w ≤ q.1 - nxp T n p ∧ MB s (cod t F5) w w5 q.2 := by
        intro F G d Q w b1 b2 b3 b5 b6 b7
        obtain ⟨F4, G4, F5, d5, w5, R, op2, w2, m0, m1, m2, m3, m4, m5, m6, m7, m8, m9, m10, m11, m12, m13, m14⟩ := mod F G d Q w b1 b2 b3 b5 b6 b7
        obtain ⟨F6, G6, j1, j2, j3⟩ := BH_part x F4 G4 (pa := 43) hB m0 m2 m3 m4 m7 (by unfold prt; rw [if_neg (by omega), if_pos m5, if_pos ⟨q31, m6⟩]) (by omega) m8 m9 (okQ_i (by omega) b3) (by omega) (by omega)
        exact ⟨F5, w5, F6, G6, by rw [m1]; exact j1, j2, m11, j3, m12, m13, m14⟩
      cases rS with
      | inl e =>
        refine ⟨.inl e, ?_, ?_, fun z hz => by cases hz⟩
        · intro F G hp
          obtain ⟨F1, F2, F4, y1, y2, y3, y4, y5, y6, y7, y8, y9⟩ := cgo F G hp
          obtain ⟨F5, z1, z2, z3⟩ := s1 F4 G y4
          exact ⟨F5, by rw [y9, y8, z1, b_I, if_pos rfl, b_I, if_pos rfl], aqP_tr y5 z2, z3⟩
        · intro F G d Q w b1 b2 b3 b4 b5 b6 b7
          obtain ⟨F5, w5, F6, G6, m1, m2, m3, m4, m5, m6, m7⟩ := mgo F G d Q w b1 b2 b3 b5 b6 b7
          have ctx : ctxA 4 (kd T n (nxp T n q.1)) (43 :: Q) := by
            refine ⟨fun _ => ?_, ?_⟩
            · simp only [aa, Bool.and_eq_true, Bool.or_eq_true, decide_eq_true_eq]
              intro hh
              have := hh.1
              rw [oN, if_pos (by omega)] at this
              omega
            · intro z R hz
              injection hz with z1 z2
              rw [← z1]
              exact ⟨by decide, by omega⟩
          obtain ⟨F7, G7, k1, k2, k3⟩ := s2 F6 G6 (some (.int (jI 0))) (43 :: Q) w5 rfl m2 (okQ_i (by omega) b3) ctx (by simp only [List.length_cons]; omega) (by omega) (by omega)
          exact ⟨F7, G7, by rw [m1]; exact k1, aqM_tr (aqM_tr m3 m4 (by omega)) k2 (by omega), k3⟩
      | inr q2 =>
        obtain ⟨g1, g2, g3⟩ := s3 q2 rfl
        have nxq2 := nxp_r (T := T) (n := n) (p := q2.1) (by omega) g1.2
        by_cases q32 : kd T n q2.1 = 32
        · have hq2 : q2.1 < n := kd_lt (T := T) (n := n) (p := q2.1) (by omega)
          have n3 := nx_2 hB (show 0 ≤ q2.1 by omega) (Or.inr q32)
          obtain ⟨rU, u1, u2, u3⟩ := hS (nxp T n q2.1) (by omega) (by omega)
          -- the class, up to the second sum
          have cgo2 : ∀ F G, CPre F T n s p → ∃ F2 F5 F8 : Nat → Fn, (0 ≤ F 129 6 ∧ F 129 6 ≤ p ∧ F 129 6 ≤ F2 129 6 ∧ F2 129 6 - F 129 6 ≤ q.1 - nxp T n p ∧ (∀ i, i < F 129 6 → F2 133 i = F 133 i) ∧ CC s (F2 133) (F 129 6) (F2 129 6) q.2 (Dp (op + 1) + 5)) ∧ (F2 129 6 + 2 ≤ F5 129 6 ∧ F5 129 6 - (F2 129 6 + 2) ≤ q2.1 - nxp T n q.1 ∧ (∀ i, i < F2 129 6 → F5 133 i = F2 133 i) ∧ F5 133 (F2 129 6) = -32 ∧ CC s (F5 133) (F2 129 6 + 2) (F5 129 6) q2.2 (Dp (op + 1) + 2)) ∧ CPre F8 T n s (nxp T n q2.1) ∧ aqP F F8 ∧ F8 129 6 = F5 129 6 + 2 ∧ F8 133 = u (u (u (F5 133) (F5 129 6) (-33)) (F5 129 6 + 1) 0) (F2 129 6 + 1) (F5 129 6 + 2) ∧ m_M x k_Reader_readOne [.ref 128, .int (jI op)] (mk F G) = (m_bI (m_bI (m_M x k_Reader_readSum [.ref 128, .int (jI (op + 1))] (mk F8 G)) fun v68 s68 => if v68 = jI 0 then (some (some (.int (jI 0)), s68)) else m_bI (m_M x k_Reader_expects [.ref 128, .int (jI 33)] s68) fun v77 s77 => if v77 = jI 0 then (some (some (.int (jI 0)), s77)) else (m_fR s77 3 0 128).bind fun v86 => m_bV (m_M x k_Script_aimHere [.ref v86, .int (jI (F5 129 6 + 1))] s77) fun s90 => some (some (.int (jI 1)), s90)) fun v236 s236 => if v236 = jI 0 then (some (some (.int (jI 0)), s236)) else some (some (.int (jI 1)), s236)) := by
            intro F G hp
            have lp := hp.2.2.2
            obtain ⟨F1, F2, F4, y1, y2, y3, y4, y5, y6, y7, y8, y9⟩ := cgo F G hp
            obtain ⟨v1, v2, v3, v4, v5, v6⟩ := y3
            rw [y1] at v3 v4 v5 v6
            rw [y2] at v5
            obtain ⟨F5, z1, z2⟩ := s1 F4 G y4
            have pre5 := CPre_of y4 z2
            obtain ⟨t1, t2, t3, t4, t5, t6⟩ := z2
            rw [y6] at t3 t4 t5 t6
            rcases C_exp1 x hX (G := G) (tk := 32) pre5 (by omega) with ⟨_, F6, k1, k2, k3, k4, k5⟩ | ⟨a, _⟩
            · have l5 := pre5.2.2.2
              obtain ⟨F7, j1, j2, j3, j4⟩ := C_addLeap x (F := F6) (G := G) (dd := 32) ⟨by rw [k4]; exact l5.1, by rw [k4]; omega⟩
              rw [k4] at j1 j3 j4
              rw [k5] at j4
              obtain ⟨F8, i1, i2, i3, i4⟩ := C_aimHere x (F := F7) (G := G) (l := F2 129 6 + 1) ⟨by omega, by omega⟩
              have c7 := CPre_D k2 j2 (by omega) (by omega)
              have e8 : F8 129 6 = F5 129 6 + 2 := by rw [i3]; exact j3
              refine ⟨F2, F5, F8, ⟨lp.1, lp.2, v3, v4, v5, v6⟩, ⟨t3, t4, ?_, ?_, t6⟩, CPre_D c7 i2 (by omega) (by omega), aqP_tr y5 (aqP_tr t1 (aqP_tr k3 (aqP_tr (aqD_P j2) (aqD_P i2)))), e8, ?_, ?_⟩
              · intro i hi
                rw [t5 i (by omega), y7, u_ne _ _ (by omega), u_ne _ _ (by omega)]
              · rw [t5 _ (by omega), y7, u_ne _ _ (by omega), u_eq]
              · rw [i4, j4, j3]
                rfl
              · rw [y9, y8, z1, b_I, if_neg (by decide), k1, b_I, if_neg (by decide), fR_128_0, Option.bind_some, j1, b_I, fR_128_0, Option.bind_some, i1, b_V]
            · exact absurd q32 a
          have mgo2 : ∀ F G d Q w, m_nl d = true → STa F G T n t s p Q op w 0 → okQ Q → Q.length ≤ 6 * op.toNat + 5 → 0 ≤ w → w ≤ p → ∃ F5 w5 F7 w7 F8 G8, LH x d F G = LH x (some (.int (jI 0))) F8 G8 ∧ STa F8 G8 T n t s (nxp T n q2.1) (44 :: Q) (op + 1) w7 0 ∧ aqM t w F F5 ∧ aqM t w5 F5 F7 ∧ aqM t w7 F7 F8 ∧ w < w5 ∧ w5 < w7 ∧ w7 - w ≤ q2.1 - nxp T n p ∧ MB s (cod t F5) w w5 q.2 ∧ MCo s (cod t F7) w5 w7 q2.2 := by
            intro F G d Q w b1 b2 b3 b5 b6 b7
            obtain ⟨F5, w5, F6, G6, m1, m2, m3, m4, m5, m6, m7⟩ := mgo F G d Q w b1 b2 b3 b5 b6 b7
            rcases M_sumw x hB hn op1 (by omega) (Or.inl ⟨rfl, rfl, rfl⟩) s2 g3 (d := some (.int (jI 0))) rfl m2 b3 (by omega) (by omega) (by omega) with ⟨a, _⟩ | ⟨_, Fa, Ga, F7, da, w7, R, opa, wa, k0, k1, k2, k3, k4, k5, k6, k7, k8, k9, k10, k11, k12, k13⟩
            · exact absurd q32 a
            · obtain ⟨F8, G8, j1, j2, j3⟩ := BH_part x Fa Ga (pa := 44) hB k0 k2 k3 k4 k5 k6 (by omega) k8 k9 (okQ_i (by omega) b3) (by omega) (by omega)
              exact ⟨F5, w5, F7, w7, F8, G8, by rw [m1, k1]; exact j1, j2, m3, aqM_tr m4 k10 (Int.le_refl _), j3, m5, k11, by omega, m7, k13⟩
          cases rU with
          | inl e =>
            refine ⟨.inl e, ?_, ?_, fun z hz => by cases hz⟩
            · intro F G hp
              obtain ⟨F2, F5, F8, y1, y2, y3, y4, y5, y6, y7⟩ := cgo2 F G hp
              obtain ⟨F9, z1, z2, z3⟩ := u1 F8 G y3
              exact ⟨F9, by rw [y7, z1, b_I, if_pos rfl, b_I, if_pos rfl], aqP_tr y4 z2, z3⟩
            · intro F G d Q w b1 b2 b3 b4 b5 b6 b7
              obtain ⟨F5, w5, F7, w7, F8, G8, m1, m2, m3, m4, m5, m6, m7, m8, m9, m10⟩ := mgo2 F G d Q w b1 b2 b3 b5 b6 b7
              have ctx : ctxA 4 (kd T n (nxp T n q2.1)) (44 :: Q) := by
                refine ⟨fun _ => ?_, ?_⟩
                · simp only [aa, Bool.and_eq_true, Bool.or_eq_true, decide_eq_true_eq]
                  intro hh
                  have := hh.1
                  rw [oN, if_pos (by omega)] at this
                  omega
                · intro z R hz
                  injection hz with z1 z2
                  rw [← z1]
                  exact ⟨by decide, by omega⟩
              obtain ⟨F9, G9, k1, k2, k3⟩ := u2 F8 G8 (some (.int (jI 0))) (44 :: Q) w7 rfl m2 (okQ_i (by omega) b3) ctx (by simp only [List.length_cons]; omega) (by omega) (by omega)
              exact ⟨F9, G9, by rw [m1]; exact k1, aqM_tr (aqM_tr (aqM_tr m3 m4 (by omega)) m5 (by omega)) k2 (by omega), k3⟩
          | inr q3 =>
            obtain ⟨h1, h2, h3⟩ := u3 q3 rfl
            have nxq3 := nxp_r (T := T) (n := n) (p := q3.1) (by omega) h1.2
            by_cases q33 : kd T n q3.1 = 33
            · have hq3 : q3.1 < n := kd_lt (T := T) (n := n) (p := q3.1) (by omega)
              refine ⟨.inr (nxp T n q3.1, fun nm lf => if q.2 nm lf = 0 then q3.2 nm lf else q2.2 nm lf), ?_, ?_, ?_⟩
              · intro F G hp
                obtain ⟨F2, F5, F8, ⟨a1, a2, a3, a4, a5, a6⟩, ⟨d1, d2, d3, d4, d5⟩, y3, y4, y5, y6, y7⟩ := cgo2 F G hp
                obtain ⟨F9, z1, z2⟩ := u1 F8 G y3
                have pre9 := CPre_of y3 z2
                obtain ⟨t1, t2, t3, t4, t5, t6⟩ := z2
                rw [y5] at t3 t4 t5 t6
                rcases C_exp1 x hX (G := G) (tk := 33) pre9 (by omega) with ⟨_, F10, k1, k2, k3, k4, k5⟩ | ⟨a, _⟩
                · obtain ⟨F11, i1, i2, i3, i4⟩ := C_aimHere x (F := F10) (G := G) (l := F5 129 6 + 1) ⟨by omega, by omega⟩
                  rw [k4] at i3 i4
                  rw [k5] at i4
                  have e11 : F11 129 6 = F9 129 6 := by rw [i3]
                  have c9 : ∀ z, z < F5 129 6 → ¬ z = F2 129 6 + 1 → F11 133 z = F5 133 z := by
                    intro z hz hz2
                    rw [i4, u_ne _ _ (by omega), t5 z (by omega), y6, u_ne _ _ hz2, u_ne _ _ (by omega), u_ne _ _ (by omega)]
                  refine ⟨F11, ?_, aqP_tr y4 (aqP_tr t1 (aqP_tr k3 (aqD_P i2))), aqD_CT i2 k2.2.1, ?_, ?_, ?_, ?_⟩
                  · rw [y7, z1, b_I, if_neg (by decide), k1, b_I, if_neg (by decide), fR_128_0, Option.bind_some, i1, b_V, b_I, if_neg (by decide)]
                  · rw [e11]; omega
                  · rw [e11]; show F9 129 6 - F 129 6 ≤ nxp T n q3.1 - p; omega
                  · intro i hi
                    rw [c9 i (by omega) (by omega), d3 i (by omega)]
                    exact a5 i hi
                  · rw [e11]
                    refine CC_le (CC_if (d := Dp (op + 1) + 5) (a := F2 129 6) (b := F5 129 6) (CC_loc (c1 := F2 133) ?_ a6) (CC_le (CC_loc (c1 := F5 133) ?_ d5) (by omega)) (CC_le (CC_loc (c1 := F9 133) ?_ t6) (by omega)) (by omega) f2 g2 ?_ ?_ ?_ ?_ d1 t3 (by omega)) (by omega)
                    · intro z _ hz
                      rw [c9 z (by omega) (by omega), d3 z hz]
                    · intro z hz0 hz
                      exact c9 z hz (by omega)
                    · intro z hz0 hz
                      rw [i4, u_ne _ _ (by omega)]
                    · rw [c9 _ (by omega) (by omega)]; exact d4
                    · rw [i4, u_ne _ _ (by omega), t5 _ (by omega), y6, u_eq]
                    · rw [i4, u_ne _ _ (by omega), t5 _ (by omega), y6, u_ne _ _ (by omega), u_ne _ _ (by omega), u_eq]
                    · rw [i4, u_eq]
                · exact absurd q33 a
              · intro F G d Q w b1 b2 b3 b4 b5 b6 b7
                obtain ⟨F5, w5, F7, w7, F8, G8, m1, m2, m3, m4, m5, m6, m7, m8, m9, m10⟩ := mgo2 F G d Q w b1 b2 b3 b5 b6 b7
                rcases M_sumw x hB hn op1 (by omega) (Or.inr ⟨rfl, rfl, rfl⟩) u2 h3 (d := some (.int (jI 0))) rfl m2 b3 (by omega) (by omega) (by omega) with ⟨a, _⟩ | ⟨_, Fa, Ga, F9, da, w9, R, opa, wa, k0, k1, k2, k3, k4, k5, k6, k7, k8, k9, k10, k11, k12, k13⟩
                · exact absurd q33 a
                · obtain ⟨Fb, Gb, j1, j2, j3, j4⟩ := BH_close x Fa Ga hB k0 k2 k3 k4 k5 k6 k7 k8 k9 (by omega) (by omega) ht (by omega)
                  rw [if_pos rfl, show op + 1 - 1 = op from by omega] at j2
                  have a9 : aqM t w7 F7 F9 := aqM_tr m5 k10 (Int.le_refl _)
                  have ab7 : aqM t w7 F7 Fb := aqM_tr a9 j3 (by omega)
                  have ab5 : aqM t w5 F5 Fb := aqM_tr m4 ab7 (by omega)
                  refine ⟨Fb, Gb, da, w9 + 1, 1, k0, by rw [m1, k1]; exact j1, j2, aqM_tr m3 ab5 (by omega), by omega, ?_, ?_⟩
                  · show w9 + 1 - w ≤ nxp T n q3.1 - p
                    omega
                  · exact MC_sel (MB_loc (T1 := cod t F5) (fun z _ hz => cod_ag ab5 z hz) m9) (MC_loc (T1 := cod t F7) (fun z _ hz => cod_ag ab7 z hz) m10) (MC_loc (T1 := cod t F9) (fun z _ hz => cod_ag j3 z hz) k13) b6 g2 h2 (j4 rfl)
              · intro z hz
                injection hz with hz
                rw [← hz]
                refine ⟨⟨by show p < nxp T n q3.1; omega, nxq3.2.1⟩, ?_⟩
                intro nm lf hE2
                show bd (if q.2 nm lf = 0 then q3.2 nm lf else q2.2 nm lf)
                split
                · exact h2 nm lf hE2
                · exact g2 nm lf hE2
            · refine ⟨.inl (1, q3.1), ?_, ?_, fun z hz => by cases hz⟩
              · intro F G hp
                obtain ⟨F2, F5, F8, y1, y2, y3, y4, y5, y6, y7⟩ := cgo2 F G hp
                obtain ⟨F9, z1, z2⟩ := u1 F8 G y3
                have pre9 := CPre_of y3 z2
                rcases C_exp1 x hX (G := G) (tk := 33) pre9 (by omega) with ⟨a, _⟩ | ⟨_, F10, k1, k2⟩
                · exact absurd a q33
                · exact ⟨F10, by rw [y7, z1, b_I, if_neg (by decide), k1, b_I, if_pos rfl, b_I, if_pos rfl], aqP_tr y4 (aqP_tr z2.1 k2.1), k2.2⟩
              · intro F G d Q w b1 b2 b3 b4 b5 b6 b7
                obtain ⟨F5, w5, F7, w7, F8, G8, m1, m2, m3, m4, m5, m6, m7, m8, m9, m10⟩ := mgo2 F G d Q w b1 b2 b3 b5 b6 b7
                rcases M_sumw x hB hn op1 (by omega) (Or.inr ⟨rfl, rfl, rfl⟩) u2 h3 (d := some (.int (jI 0))) rfl m2 b3 (by omega) (by omega) (by omega) with ⟨_, Fa, Ga, k1, k2, k3⟩ | ⟨a, _⟩
                · exact ⟨Fa, Ga, by rw [m1]; exact k1, aqM_tr (aqM_tr (aqM_tr m3 m4 (by omega)) m5 (by omega)) k2 (by omega), k3⟩
                · exact absurd a q33
        · refine ⟨.inl (1, q2.1), ?_, ?_, fun z hz => by cases hz⟩
          · intro F G hp
            obtain ⟨F1, F2, F4, y1, y2, y3, y4, y5, y6, y7, y8, y9⟩ := cgo F G hp
            obtain ⟨F5, z1, z2⟩ := s1 F4 G y4
            have pre5 := CPre_of y4 z2
            rcases C_exp1 x hX (G := G) (tk := 32) pre5 (by omega) with ⟨a, _⟩ | ⟨_, F6, k1, k2⟩
            · exact absurd a q32
            · exact ⟨F6, by rw [y9, y8, z1, b_I, if_neg (by decide), k1, b_I, if_pos rfl, b_I, if_pos rfl], aqP_tr y5 (aqP_tr z2.1 k2.1), k2.2⟩
          · intro F G d Q w b1 b2 b3 b4 b5 b6 b7
            obtain ⟨F5, w5, F6, G6, m1, m2, m3, m4, m5, m6, m7⟩ := mgo F G d Q w b1 b2 b3 b5 b6 b7
            rcases M_sumw x hB hn op1 (by omega) (Or.inl ⟨rfl, rfl, rfl⟩) s2 g3 (d := some (.int (jI 0))) rfl m2 b3 (by omega) (by omega) (by omega) with ⟨_, Fa, Ga, k1, k2, k3⟩ | ⟨a, _⟩
            · exact ⟨Fa, Ga, by rw [m1]; exact k1, aqM_tr (aqM_tr m3 m4 (by omega)) k2 (by omega), k3⟩
            · exact absurd a q32
    · refine ⟨.inl (1, q.1), ?_, ?_, fun z hz => by cases hz⟩
      · intro F G hp
        obtain ⟨F1, y1, y2, y3, y4, y5⟩ := cls F G hp
        obtain ⟨F2, z1, z2⟩ := c1 F1 G y1
        have pre2 := CPre_of y1 z2
        rcases C_exp1 x hX (G := G) (tk := 31) pre2 (by omega) with ⟨a, _⟩ | ⟨_, F3, k1, k2⟩
        · exact absurd a q31
        · exact ⟨F3, by rw [y5, R_choice x op1, z1, b_I, if_neg (by decide), k1, b_I, if_pos rfl, b_I, if_pos rfl], aqP_tr y2 (aqP_tr z2.1 k2.1), k2.2⟩
      · intro F G d Q w b1 b2 b3 b4 b5 b6 b7
        obtain ⟨F4, G4, F5, d5, w5, R, op2, w2, m0, m1, m2, m3, m4, m5, m6, m7, m8, m9, m10, m11, m12, m13, m14⟩ := mod F G d Q w b1 b2 b3 b5 b6 b7
        have bn := BH_none x F4 G4 hB m0 m2 m3 m4 m7 (by unfold prt; rw [if_neg (by omega), if_pos m5, if_neg (fun z => q31 z.1)])
        rw [if_neg (by omega)] at bn
        exact ⟨F4, G4, by rw [m1]; exact bn, m10, m2.1.2.1.2.1⟩
end
