-- calls that ask of one and of a glove
theorem balance_cg {c d : Fn} (p : Int) (h : ∀ k, vok k → c k = d k) (h1 : c 25 ≤ 12) : balance c p = balance d p := by
  unfold balance
  rw [h 25 (by unfold vok; omega)] at h1 ⊢
  apply sm_congr
  intro g g0 g1
  rw [h (99 + g) (by unfold vok; omega), h (39 + g) (by unfold vok; omega), h (27 + g) (by unfold vok; omega), h (51 + g) (by unfold vok; omega)]
theorem jne {k n : Int} (hk : rg k) (h0 : -2147483648 ≤ n) (h1 : n ≤ 2147483647) (h : ¬ k = n) : ¬ jI k = jI n := by
  unfold rg at hk
  rw [jI_eq hk.1 hk.2 h0 h1]
  exact h
section
variable (x : m_X) (F G : Nat → Fn)
/-- the ruling law's amount, as the class asks for it -/
theorem amt_r {s q : Int} {A : Law4} (hA : LA F (F 36 8) A) (ht : TR F) (hi : WI (F 2)) (h0 : 0 ≤ s) (h3 : s ≤ 3) (hq : qok s q) : ∃ F2, (m_bN (m_M x k_G_ruling [.ref 0] (mk F G)) (fun v s1 => (m_fR s1 10 0 0).bind fun v2 => m_bI (m_M x k_Law_amount [.ref 136, .int (jI s), .ref v, .ref v2, .int (jI q)] s1) fun v3 s3 => some (some (Value.int v3), s3)) fun s1 => (m_fR s1 10 0 0).bind fun v2 => m_bI (m_M x k_Law_amount [.ref 136, .int (jI s), .null, .ref v2, .int (jI q)] s1) fun v3 s3 => some (some (Value.int v3), s3)) = some (some (.int (jI (A s (F 2) q))), mk F2 G) ∧ agr F F2 := by
  obtain ⟨F2, r1, r2⟩ := C_amount x F G (w := 1) (t := F 36 8) (s := s) (q := q) hA (Or.inl rfl) hi h0 h3 hq
  refine ⟨F2, ?_, r2⟩
  rw [C_ruling x F G ht.1 ht.2.1 ht.2.2.1 ht.2.2.2]
  by_cases q1 : F 36 8 < 0
  · have es : sv (F 36 8) = .null := by unfold sv; rw [if_pos q1]
    rw [es] at r1 ⊢
    rw [b_N0, fR_0_0, Option.bind_some, r1, b_I]
  · have es : sv (F 36 8) = .ref (104 + 6 * (F 36 8).toNat) := by unfold sv; rw [if_neg q1]
    rw [es] at r1 ⊢
    rw [b_N, fR_0_0, Option.bind_some, r1, b_I]
theorem Rel_scr {F F2 F3 : Nat → Fn} (hR : Rel F) (h1 : agr F F2) (h2 : agN F2 F3) : Rel F3 := by
  refine Rel_ag hR ?_
  intro b hb
  rw [h2 b (by omega) (by omega), h1 b (by omega) (by omega)]
theorem TR_R {F : Nat → Fn} (hR : Rel F) : TR F ∧ F 150 2 = F 36 8 := by
  have g := hR.2.2.1.1
  unfold RT0 at g
  exact ⟨⟨by omega, by omega, by omega, by omega⟩, by omega⟩
theorem ok_of {p k : Int} (hR : Rel F) (hp : rg p) (hk : rg k) : Ok x F G k_G_of k_M_of [.int (jI p), .int (jI k)] := by
  have hi : WI (F 2) := RS_WI hR.1
  have hc := WI_c hi
  have hwv := RS_WV hR.1
  have hv := Rel_V hR
  have hv0 := Rel_V0 hR
  have hk' := hk
  unfold rg at hk'
  obtain ⟨A, hA⟩ := Rel_LA hR
  have ht := TR_R hR
  have hf := C_hasOne x F G (w := 1) (p := p) (Or.inl rfl) hp (by unfold rg; simp only [Nat.reduceAdd]; omega)
  simp only [Nat.reduceAdd] at hf
  have ho : ∀ F' : Nat → Fn, F' 150 = F 150 → m_M x k_M_isOne [.ref 149, .int (jI p)] (mk F' G) = some (some (.int (jI (if 0 ≤ p ∧ p < F 2 0 then 1 else 0))), mk F' G) := by
    intro F' e
    have q := M_isOne x F' G (p := p) (by rw [e]; exact hwv) hp
    rw [e, hv0.1] at q
    exact q
  by_cases q : 0 ≤ p ∧ p < F 2 0
  · rw [if_pos q] at hf
    simp only [if_pos q] at ho
    have qp : qok 0 p := by unfold qok; omega
    have a1 := C_at x F G (w := 1) (p := 1) (i := p) (Or.inl rfl) (by omega) (by omega)
    have a2 := C_at x F G (w := 1) (p := 8) (i := p) (Or.inl rfl) (by omega) (by omega)
    have a3 := C_at x F G (w := 1) (p := 15) (i := p) (Or.inl rfl) (by omega) (by omega)
    have a4 := C_rightsOf x F G (w := 1) (p := p) (Or.inl rfl) hi hp
    have a5 := C_leftsOf x F G (w := 1) (p := p) (Or.inl rfl) hi hp
    have a6 := C_balanceOf x F G (w := 1) (p := p) (Or.inl rfl) hi hp
    simp only [Nat.reduceAdd] at a1 a2 a3 a4 a5 a6
    replace a1 : m_M x k_World_at [.ref 1, .int 1, .int (jI p)] (mk F G) = _ := a1
    replace a2 : m_M x k_World_at [.ref 1, .int 8, .int (jI p)] (mk F G) = _ := a2
    replace a3 : m_M x k_World_at [.ref 1, .int 15, .int (jI p)] (mk F G) = _ := a3
    obtain ⟨Fa, s1, s2⟩ := amt_r x F G (s := 0) (q := p) hA ht.1 hi (by omega) (by omega) (by unfold qok; omega)
    obtain ⟨Fb, t1, t2⟩ := amt_r x F G (s := 1) (q := p) hA ht.1 hi (by omega) (by omega) (by unfold qok; omega)
    have cs : m_M x k_G_of [.ref 0, .int (jI p), .int (jI k)] (mk F G) = (if k = 0 then some (some (.int (jI (F 2 (1 + p)))), mk F G) else if k = 1 then some (some (.int (jI (F 2 (8 + p)))), mk F G) else if k = 2 then some (some (.int (jI (F 2 (15 + p)))), mk F G) else if k = 3 then some (some (.int (jI (rights (F 2) p))), mk F G) else if k = 4 then some (some (.int (jI (lefts (F 2) p))), mk F G) else if k = 5 then some (some (.int (jI (A 0 (F 2) p))), mk Fa G) else if k = 6 then some (some (.int (jI (A 1 (F 2) p))), mk Fb G) else if k = 7 then some (some (.int (jI (balance (F 2) p))), mk F G) else some (some (.int (jI (-100000))), mk F G)) := by
      by_cases k0 : k = 0
      · subst k0
        rw [E_G_of, isO_0, if_pos rfl, fR_0_0, Option.bind_some, hf, b_I, if_neg (show ¬ jI 1 = 0 by decide), if_pos (show jI 0 = 0 by decide), fR_0_0, Option.bind_some, a1, b_I]
        rfl
      by_cases k1 : k = 1
      · subst k1
        rw [E_G_of, isO_0, if_pos rfl, fR_0_0, Option.bind_some, hf, b_I, if_neg (show ¬ jI 1 = 0 by decide), if_neg (show ¬ jI 1 = 0 by decide), if_pos (show jI 1 = 1 by decide), fR_0_0, Option.bind_some, a2, b_I]
        rfl
      by_cases k2 : k = 2
      · subst k2
        rw [E_G_of, isO_0, if_pos rfl, fR_0_0, Option.bind_some, hf, b_I, if_neg (show ¬ jI 1 = 0 by decide), if_neg (show ¬ jI 2 = 0 by decide), if_neg (show ¬ jI 2 = 1 by decide), if_pos (show jI 2 = 2 by decide), fR_0_0, Option.bind_some, a3, b_I]
        rfl
      by_cases k3 : k = 3
      · subst k3
        rw [E_G_of, isO_0, if_pos rfl, fR_0_0, Option.bind_some, hf, b_I, if_neg (show ¬ jI 1 = 0 by decide), if_neg (show ¬ jI 3 = 0 by decide), if_neg (show ¬ jI 3 = 1 by decide), if_neg (show ¬ jI 3 = 2 by decide), if_pos (show jI 3 = 3 by decide), fR_0_0, Option.bind_some, a4, b_I]
        rfl
      by_cases k4 : k = 4
      · subst k4
        rw [E_G_of, isO_0, if_pos rfl, fR_0_0, Option.bind_some, hf, b_I, if_neg (show ¬ jI 1 = 0 by decide), if_neg (show ¬ jI 4 = 0 by decide), if_neg (show ¬ jI 4 = 1 by decide), if_neg (show ¬ jI 4 = 2 by decide), if_neg (show ¬ jI 4 = 3 by decide), if_pos (show jI 4 = 4 by decide), fR_0_0, Option.bind_some, a5, b_I]
        rfl
      by_cases k5 : k = 5
      · subst k5
        rw [E_G_of, isO_0, if_pos rfl, fR_0_0, Option.bind_some, hf, b_I, if_neg (show ¬ jI 1 = 0 by decide), if_neg (show ¬ jI 5 = 0 by decide), if_neg (show ¬ jI 5 = 1 by decide), if_neg (show ¬ jI 5 = 2 by decide), if_neg (show ¬ jI 5 = 3 by decide), if_neg (show ¬ jI 5 = 4 by decide), if_pos (show jI 5 = 5 by decide), fR_0_9, Option.bind_some]
        exact s1
      by_cases k6 : k = 6
      · subst k6
        rw [E_G_of, isO_0, if_pos rfl, fR_0_0, Option.bind_some, hf, b_I, if_neg (show ¬ jI 1 = 0 by decide), if_neg (show ¬ jI 6 = 0 by decide), if_neg (show ¬ jI 6 = 1 by decide), if_neg (show ¬ jI 6 = 2 by decide), if_neg (show ¬ jI 6 = 3 by decide), if_neg (show ¬ jI 6 = 4 by decide), if_neg (show ¬ jI 6 = 5 by decide), if_pos (show jI 6 = 6 by decide), fR_0_9, Option.bind_some]
        exact t1
      by_cases k7 : k = 7
      · subst k7
        rw [E_G_of, isO_0, if_pos rfl, fR_0_0, Option.bind_some, hf, b_I, if_neg (show ¬ jI 1 = 0 by decide), if_neg (show ¬ jI 7 = 0 by decide), if_neg (show ¬ jI 7 = 1 by decide), if_neg (show ¬ jI 7 = 2 by decide), if_neg (show ¬ jI 7 = 3 by decide), if_neg (show ¬ jI 7 = 4 by decide), if_neg (show ¬ jI 7 = 5 by decide), if_neg (show ¬ jI 7 = 6 by decide), if_pos (show jI 7 = 7 by decide), fR_0_0, Option.bind_some, a6, b_I]
        rfl
      rw [if_neg k0, if_neg k1, if_neg k2, if_neg k3, if_neg k4, if_neg k5, if_neg k6, if_neg k7]
      rw [E_G_of, isO_0, if_pos rfl, fR_0_0, Option.bind_some, hf, b_I, if_neg (show ¬ jI 1 = 0 by decide), if_neg (show ¬ jI k = 0 from jne hk (by decide) (by decide) k0), if_neg (show ¬ jI k = 1 from jne hk (by decide) (by decide) k1), if_neg (show ¬ jI k = 2 from jne hk (by decide) (by decide) k2), if_neg (show ¬ jI k = 3 from jne hk (by decide) (by decide) k3), if_neg (show ¬ jI k = 4 from jne hk (by decide) (by decide) k4), if_neg (show ¬ jI k = 5 from jne hk (by decide) (by decide) k5), if_neg (show ¬ jI k = 6 from jne hk (by decide) (by decide) k6), if_neg (show ¬ jI k = 7 from jne hk (by decide) (by decide) k7)]
      rfl
    have ms : ∀ F' : Nat → Fn, F' 150 = F 150 → agT F F' → ∃ F2 G2, m_M x k_M_of [.ref 149, .int (jI p), .int (jI k)] (mk F' G) = some (some (.int (jI (if k = 0 then F 2 (1 + p) else if k = 1 then F 2 (8 + p) else if k = 2 then F 2 (15 + p) else if k = 3 then rights (F 2) p else if k = 4 then lefts (F 2) p else if k = 5 then A 0 (F 2) p else if k = 6 then A 1 (F 2) p else if k = 7 then balance (F 2) p else -100000))), mk F2 G2) ∧ agN F' F2 := by
      intro F' e hT
      have wv : WI (V (F' 150)) := by rw [e]; exact hwv
      have hA' : LA F' (F' 150 2) A := by rw [e, ht.2]; exact LA_cg hT hA
      have v1 := hv (1 + p) (by unfold vok; omega)
      have v2 := hv (8 + p) (by unfold vok; omega)
      have v3 := hv (15 + p) (by unfold vok; omega)
      have hcv := WI_c hwv
      have b4 := M_rightsOf x F' G (p := p) wv hp
      have b5 := M_leftsOf x F' G (p := p) wv hp
      have b6 := M_sumOf x F' G (p := p) wv hp
      have m1 := va_h x F' G (p := p) (by omega) (by omega)
      have m2 := va_c x F' G (p := p) (by omega) (by omega)
      have m3 := va_d x F' G (p := p) (by omega) (by omega)
      rw [e, rights_cg p (c := V (F 150)) (d := F 2) hv (by omega)] at b4
      rw [e, lefts_cg (c := V (F 150)) (d := F 2) hv (by omega)] at b5
      rw [e, balance_cg p (c := V (F 150)) (d := F 2) hv (by omega)] at b6
      rw [e, v1] at m1
      rw [e, v2] at m2
      rw [e, v3] at m3
      have n1 : m_ia x (mk F' G) 150 ((112 : Int32) + jI p) = some (jI (F 2 (1 + p))) := by rw [lit_112, jI_add]; exact m1
      have n2 : m_ia x (mk F' G) 150 ((13 : Int32) + jI p) = some (jI (F 2 (8 + p))) := by rw [lit_13, jI_add]; exact m2
      have n3 : m_ia x (mk F' G) 150 ((20 : Int32) + jI p) = some (jI (F 2 (15 + p))) := by rw [lit_20, jI_add]; exact m3
      obtain ⟨Fx, Gx, x1, x2, x3⟩ := M_chillOf x F' G (p := p) hA' wv (by omega) (by omega)
      obtain ⟨Fy, Gy, y1, y2, y3⟩ := M_fineOf x F' G (p := p) hA' wv (by omega) (by omega)
      rw [e, A_cg (c := V (F 150)) (d := F 2) hA (by omega) (by omega) (by unfold qok; omega) hv (by omega)] at x1
      rw [e, A_cg (c := V (F 150)) (d := F 2) hA (by omega) (by omega) (by unfold qok; omega) hv (by omega)] at y1
      have st : m_M x k_M_of [.ref 149, .int (jI p), .int (jI k)] (mk F' G) = (if k = 0 then some (some (.int (jI (F 2 (1 + p)))), mk F' G) else if k = 1 then some (some (.int (jI (F 2 (8 + p)))), mk F' G) else if k = 2 then some (some (.int (jI (F 2 (15 + p)))), mk F' G) else if k = 3 then some (some (.int (jI (rights (F 2) p))), mk F' G) else if k = 4 then some (some (.int (jI (lefts (F 2) p))), mk F' G) else if k = 5 then some (some (.int (jI (A 0 (F 2) p))), mk Fx Gx) else if k = 6 then some (some (.int (jI (A 1 (F 2) p))), mk Fy Gy) else if k = 7 then some (some (.int (jI (balance (F 2) p))), mk F' G) else some (some (.int (jI (-100000))), mk F' G)) := by
        by_cases k0 : k = 0
        · subst k0
          rw [E_M_of, isO_149, if_pos rfl, ho F' e, b_I, if_neg (show ¬ jI 1 = 0 by decide), if_pos (show jI 0 = 0 by decide), fR_149_0, Option.bind_some, n1, Option.bind_some]
          rfl
        by_cases k1 : k = 1
        · subst k1
          rw [E_M_of, isO_149, if_pos rfl, ho F' e, b_I, if_neg (show ¬ jI 1 = 0 by decide), if_neg (show ¬ jI 1 = 0 by decide), if_pos (show jI 1 = 1 by decide), fR_149_0, Option.bind_some, n2, Option.bind_some]
          rfl
        by_cases k2 : k = 2
        · subst k2
          rw [E_M_of, isO_149, if_pos rfl, ho F' e, b_I, if_neg (show ¬ jI 1 = 0 by decide), if_neg (show ¬ jI 2 = 0 by decide), if_neg (show ¬ jI 2 = 1 by decide), if_pos (show jI 2 = 2 by decide), fR_149_0, Option.bind_some, n3, Option.bind_some]
          rfl
        by_cases k3 : k = 3
        · subst k3
          rw [E_M_of, isO_149, if_pos rfl, ho F' e, b_I, if_neg (show ¬ jI 1 = 0 by decide), if_neg (show ¬ jI 3 = 0 by decide), if_neg (show ¬ jI 3 = 1 by decide), if_neg (show ¬ jI 3 = 2 by decide), if_pos (show jI 3 = 3 by decide), b4, b_I]
          rfl
        by_cases k4 : k = 4
        · subst k4
          rw [E_M_of, isO_149, if_pos rfl, ho F' e, b_I, if_neg (show ¬ jI 1 = 0 by decide), if_neg (show ¬ jI 4 = 0 by decide), if_neg (show ¬ jI 4 = 1 by decide), if_neg (show ¬ jI 4 = 2 by decide), if_neg (show ¬ jI 4 = 3 by decide), if_pos (show jI 4 = 4 by decide), b5, b_I]
          rfl
        by_cases k5 : k = 5
        · subst k5
          rw [E_M_of, isO_149, if_pos rfl, ho F' e, b_I, if_neg (show ¬ jI 1 = 0 by decide), if_neg (show ¬ jI 5 = 0 by decide), if_neg (show ¬ jI 5 = 1 by decide), if_neg (show ¬ jI 5 = 2 by decide), if_neg (show ¬ jI 5 = 3 by decide), if_neg (show ¬ jI 5 = 4 by decide), if_pos (show jI 5 = 5 by decide), x1, b_I]
          rfl
        by_cases k6 : k = 6
        · subst k6
          rw [E_M_of, isO_149, if_pos rfl, ho F' e, b_I, if_neg (show ¬ jI 1 = 0 by decide), if_neg (show ¬ jI 6 = 0 by decide), if_neg (show ¬ jI 6 = 1 by decide), if_neg (show ¬ jI 6 = 2 by decide), if_neg (show ¬ jI 6 = 3 by decide), if_neg (show ¬ jI 6 = 4 by decide), if_neg (show ¬ jI 6 = 5 by decide), if_pos (show jI 6 = 6 by decide), y1, b_I]
          rfl
        by_cases k7 : k = 7
        · subst k7
          rw [E_M_of, isO_149, if_pos rfl, ho F' e, b_I, if_neg (show ¬ jI 1 = 0 by decide), if_neg (show ¬ jI 7 = 0 by decide), if_neg (show ¬ jI 7 = 1 by decide), if_neg (show ¬ jI 7 = 2 by decide), if_neg (show ¬ jI 7 = 3 by decide), if_neg (show ¬ jI 7 = 4 by decide), if_neg (show ¬ jI 7 = 5 by decide), if_neg (show ¬ jI 7 = 6 by decide), if_pos (show jI 7 = 7 by decide), b6, b_I]
          rfl
        rw [if_neg k0, if_neg k1, if_neg k2, if_neg k3, if_neg k4, if_neg k5, if_neg k6, if_neg k7]
        rw [E_M_of, isO_149, if_pos rfl, ho F' e, b_I, if_neg (show ¬ jI 1 = 0 by decide), if_neg (show ¬ jI k = 0 from jne hk (by decide) (by decide) k0), if_neg (show ¬ jI k = 1 from jne hk (by decide) (by decide) k1), if_neg (show ¬ jI k = 2 from jne hk (by decide) (by decide) k2), if_neg (show ¬ jI k = 3 from jne hk (by decide) (by decide) k3), if_neg (show ¬ jI k = 4 from jne hk (by decide) (by decide) k4), if_neg (show ¬ jI k = 5 from jne hk (by decide) (by decide) k5), if_neg (show ¬ jI k = 6 from jne hk (by decide) (by decide) k6), if_neg (show ¬ jI k = 7 from jne hk (by decide) (by decide) k7)]
        rfl
      rw [st]
      by_cases k5 : k = 5
      · subst k5
        exact ⟨Fx, Gx, rfl, x2⟩
      · by_cases k6 : k = 6
        · subst k6
          exact ⟨Fy, Gy, rfl, y2⟩
        · refine ⟨F', G, ?_, fun _ _ _ => rfl⟩
          repeat' split
          all_goals first | rfl | omega
    by_cases k5 : k = 5
    · subst k5
      obtain ⟨F2, G2, r1, r2⟩ := ms Fa (s2 150 (by omega) (by omega)) ⟨fun b h0 h1 => s2 b (by omega) (by omega), s2 152 (by omega) (by omega)⟩
      exact ⟨_, _, _, _, cs, r1, Rel_scr hR s2 r2⟩
    · by_cases k6 : k = 6
      · subst k6
        obtain ⟨F2, G2, r1, r2⟩ := ms Fb (t2 150 (by omega) (by omega)) ⟨fun b h0 h1 => t2 b (by omega) (by omega), t2 152 (by omega) (by omega)⟩
        exact ⟨_, _, _, _, cs, r1, Rel_scr hR t2 r2⟩
      · obtain ⟨F2, G2, r1, r2⟩ := ms F rfl ⟨fun _ _ _ => rfl, rfl⟩
        refine ⟨_, F, _, _, ?_, r1, Rel_scr hR (fun _ _ _ => rfl) r2⟩
        rw [cs]
        repeat' split
        all_goals first | rfl | omega
  · rw [if_neg q] at hf
    have e1 : m_M x k_G_of [.ref 0, .int (jI p), .int (jI k)] (mk F G) = some (some (.int (jI (-100000))), mk F G) := by
      rw [E_G_of]
      rw [isO_0, if_pos rfl, fR_0_0, Option.bind_some, hf, b_I, if_pos (show jI 0 = 0 by decide)]
      rfl
    have e2 : m_M x k_M_of [.ref 149, .int (jI p), .int (jI k)] (mk F G) = some (some (.int (jI (-100000))), mk F G) := by
      have q2 := ho F rfl
      rw [if_neg q] at q2
      rw [E_M_of]
      rw [isO_149, if_pos rfl, q2, b_I, if_pos (show jI 0 = 0 by decide)]
      rfl
    exact Ok_pure hR e1 e2
theorem ok_ofGlove {p k : Int} (hR : Rel F) (hp : rg p) (hk : rg k) : Ok x F G k_G_ofGlove k_M_ofGlove [.int (jI p), .int (jI k)] := by
  have hi : WI (F 2) := RS_WI hR.1
  have hc := WI_c hi
  have hwv := RS_WV hR.1
  have hv := Rel_V hR
  have hv0 := Rel_V0 hR
  have hk' := hk
  unfold rg at hk'
  obtain ⟨A, hA⟩ := Rel_LA hR
  have ht := TR_R hR
  have hf := C_hasGlove x F G (w := 1) (g := p) (Or.inl rfl) hp (by unfold rg; simp only [Nat.reduceAdd]; omega)
  simp only [Nat.reduceAdd] at hf
  have ho : ∀ F' : Nat → Fn, F' 150 = F 150 → m_M x k_M_isGlove [.ref 149, .int (jI p)] (mk F' G) = some (some (.int (jI (if 0 ≤ p ∧ p < F 2 25 then 1 else 0))), mk F' G) := by
    intro F' e
    have q := M_isGlove x F' G (p := p) (by rw [e]; exact hwv) hp
    rw [e, hv0.2.2.2.2] at q
    exact q
  by_cases q : 0 ≤ p ∧ p < F 2 25
  · rw [if_pos q] at hf
    simp only [if_pos q] at ho
    have aat : ∀ b, 0 ≤ b → b ≤ 99 → m_M x k_World_at [.ref 1, .int (jI b), .int (jI p)] (mk F G) = some (some (.int (jI (F 2 (b + p)))), mk F G) := by
      intro b b0 b1
      have a := C_at x F G (w := 1) (p := b) (i := p) (Or.inl rfl) (by omega) (by omega)
      simp only [Nat.reduceAdd] at a
      exact a
    obtain ⟨Fa, s1, s2⟩ := amt_r x F G (s := 2) (q := p) hA ht.1 hi (by omega) (by omega) (by unfold qok; omega)
    obtain ⟨Fb, t1, t2⟩ := amt_r x F G (s := 3) (q := p) hA ht.1 hi (by omega) (by omega) (by unfold qok; omega)
    have cs : m_M x k_G_ofGlove [.ref 0, .int (jI p), .int (jI k)] (mk F G) = (if 0 ≤ k ∧ k ≤ 6 then some (some (.int (jI (F 2 (27 + 12 * k + p)))), mk F G) else if k = 7 then some (some (.int (jI (A 2 (F 2) p))), mk Fa G) else if k = 8 then some (some (.int (jI (A 3 (F 2) p))), mk Fb G) else some (some (.int (jI (-1))), mk F G)) := by
      by_cases k0 : k = 0
      · subst k0
        rw [E_G_ofGlove, isO_0, if_pos rfl, fR_0_0, Option.bind_some, hf, b_I, if_neg (show ¬ jI 1 = 0 by decide), if_pos (show jI 0 = 0 by decide), fR_0_0, Option.bind_some, show m_M x k_World_at [.ref 1, .int 27, .int (jI p)] (mk F G) = _ from aat 27 (by omega) (by omega), b_I]
        rfl
      by_cases k1 : k = 1
      · subst k1
        rw [E_G_ofGlove, isO_0, if_pos rfl, fR_0_0, Option.bind_some, hf, b_I, if_neg (show ¬ jI 1 = 0 by decide), if_neg (show ¬ jI 1 = 0 by decide), if_pos (show jI 1 = 1 by decide), fR_0_0, Option.bind_some, show m_M x k_World_at [.ref 1, .int 39, .int (jI p)] (mk F G) = _ from aat 39 (by omega) (by omega), b_I]
        rfl
      by_cases k2 : k = 2
      · subst k2
        rw [E_G_ofGlove, isO_0, if_pos rfl, fR_0_0, Option.bind_some, hf, b_I, if_neg (show ¬ jI 1 = 0 by decide), if_neg (show ¬ jI 2 = 0 by decide), if_neg (show ¬ jI 2 = 1 by decide), if_pos (show jI 2 = 2 by decide), fR_0_0, Option.bind_some, show m_M x k_World_at [.ref 1, .int 51, .int (jI p)] (mk F G) = _ from aat 51 (by omega) (by omega), b_I]
        rfl
      by_cases k3 : k = 3
      · subst k3
        rw [E_G_ofGlove, isO_0, if_pos rfl, fR_0_0, Option.bind_some, hf, b_I, if_neg (show ¬ jI 1 = 0 by decide), if_neg (show ¬ jI 3 = 0 by decide), if_neg (show ¬ jI 3 = 1 by decide), if_neg (show ¬ jI 3 = 2 by decide), if_pos (show jI 3 = 3 by decide), fR_0_0, Option.bind_some, show m_M x k_World_at [.ref 1, .int 63, .int (jI p)] (mk F G) = _ from aat 63 (by omega) (by omega), b_I]
        rfl
      by_cases k4 : k = 4
      · subst k4
        rw [E_G_ofGlove, isO_0, if_pos rfl, fR_0_0, Option.bind_some, hf, b_I, if_neg (show ¬ jI 1 = 0 by decide), if_neg (show ¬ jI 4 = 0 by decide), if_neg (show ¬ jI 4 = 1 by decide), if_neg (show ¬ jI 4 = 2 by decide), if_neg (show ¬ jI 4 = 3 by decide), if_pos (show jI 4 = 4 by decide), fR_0_0, Option.bind_some, show m_M x k_World_at [.ref 1, .int 75, .int (jI p)] (mk F G) = _ from aat 75 (by omega) (by omega), b_I]
        rfl
      by_cases k5 : k = 5
      · subst k5
        rw [E_G_ofGlove, isO_0, if_pos rfl, fR_0_0, Option.bind_some, hf, b_I, if_neg (show ¬ jI 1 = 0 by decide), if_neg (show ¬ jI 5 = 0 by decide), if_neg (show ¬ jI 5 = 1 by decide), if_neg (show ¬ jI 5 = 2 by decide), if_neg (show ¬ jI 5 = 3 by decide), if_neg (show ¬ jI 5 = 4 by decide), if_pos (show jI 5 = 5 by decide), fR_0_0, Option.bind_some, show m_M x k_World_at [.ref 1, .int 87, .int (jI p)] (mk F G) = _ from aat 87 (by omega) (by omega), b_I]
        rfl
      by_cases k6 : k = 6
      · subst k6
        rw [E_G_ofGlove, isO_0, if_pos rfl, fR_0_0, Option.bind_some, hf, b_I, if_neg (show ¬ jI 1 = 0 by decide), if_neg (show ¬ jI 6 = 0 by decide), if_neg (show ¬ jI 6 = 1 by decide), if_neg (show ¬ jI 6 = 2 by decide), if_neg (show ¬ jI 6 = 3 by decide), if_neg (show ¬ jI 6 = 4 by decide), if_neg (show ¬ jI 6 = 5 by decide), if_pos (show jI 6 = 6 by decide), fR_0_0, Option.bind_some, show m_M x k_World_at [.ref 1, .int 99, .int (jI p)] (mk F G) = _ from aat 99 (by omega) (by omega), b_I]
        rfl
      by_cases k7 : k = 7
      · subst k7
        rw [E_G_ofGlove, isO_0, if_pos rfl, fR_0_0, Option.bind_some, hf, b_I, if_neg (show ¬ jI 1 = 0 by decide), if_neg (show ¬ jI 7 = 0 by decide), if_neg (show ¬ jI 7 = 1 by decide), if_neg (show ¬ jI 7 = 2 by decide), if_neg (show ¬ jI 7 = 3 by decide), if_neg (show ¬ jI 7 = 4 by decide), if_neg (show ¬ jI 7 = 5 by decide), if_neg (show ¬ jI 7 = 6 by decide), if_pos (show jI 7 = 7 by decide), fR_0_9, Option.bind_some]
        exact s1
      by_cases k8 : k = 8
      · subst k8
        rw [E_G_ofGlove, isO_0, if_pos rfl, fR_0_0, Option.bind_some, hf, b_I, if_neg (show ¬ jI 1 = 0 by decide), if_neg (show ¬ jI 8 = 0 by decide), if_neg (show ¬ jI 8 = 1 by decide), if_neg (show ¬ jI 8 = 2 by decide), if_neg (show ¬ jI 8 = 3 by decide), if_neg (show ¬ jI 8 = 4 by decide), if_neg (show ¬ jI 8 = 5 by decide), if_neg (show ¬ jI 8 = 6 by decide), if_neg (show ¬ jI 8 = 7 by decide), if_pos (show jI 8 = 8 by decide), fR_0_9, Option.bind_some]
        exact t1
      rw [if_neg (by omega), if_neg k7, if_neg k8]
      rw [E_G_ofGlove, isO_0, if_pos rfl, fR_0_0, Option.bind_some, hf, b_I, if_neg (show ¬ jI 1 = 0 by decide), if_neg (show ¬ jI k = 0 from jne hk (by decide) (by decide) k0), if_neg (show ¬ jI k = 1 from jne hk (by decide) (by decide) k1), if_neg (show ¬ jI k = 2 from jne hk (by decide) (by decide) k2), if_neg (show ¬ jI k = 3 from jne hk (by decide) (by decide) k3), if_neg (show ¬ jI k = 4 from jne hk (by decide) (by decide) k4), if_neg (show ¬ jI k = 5 from jne hk (by decide) (by decide) k5), if_neg (show ¬ jI k = 6 from jne hk (by decide) (by decide) k6), if_neg (show ¬ jI k = 7 from jne hk (by decide) (by decide) k7), if_neg (show ¬ jI k = 8 from jne hk (by decide) (by decide) k8)]
      rfl
    have ms : ∀ F' : Nat → Fn, F' 150 = F 150 → agT F F' → ∃ F2 G2, m_M x k_M_ofGlove [.ref 149, .int (jI p), .int (jI k)] (mk F' G) = some (some (.int (jI (if 0 ≤ k ∧ k ≤ 6 then F 2 (27 + 12 * k + p) else if k = 7 then A 2 (F 2) p else if k = 8 then A 3 (F 2) p else -1))), mk F2 G2) ∧ agN F' F2 := by
      intro F' e hT
      have wv : WI (V (F' 150)) := by rw [e]; exact hwv
      have hA' : LA F' (F 36 8) A := LA_cg hT hA
      have hcv := WI_c hwv
      obtain ⟨Fx, Gx, x1, x2, x3⟩ := M_growsOf x F' G (t := F 36 8) (g := p) hA' wv (by omega) (by omega)
      obtain ⟨Fy, Gy, y1, y2, y3⟩ := M_pawnOf x F' G (g := p) (A := A) (by rw [e, ht.2]; exact hA') wv (by omega) (by omega)
      rw [e, A_cg (c := V (F 150)) (d := F 2) hA (by omega) (by omega) (by unfold qok; omega) hv (by omega)] at x1
      rw [e, A_cg (c := V (F 150)) (d := F 2) hA (by omega) (by omega) (by unfold qok; omega) hv (by omega)] at y1
      have i2 : m_ia x (mk F' G) 150 (jI 2) = some (jI (F 36 8)) := by rw [ia_150 x F' G (by omega) (by omega), e, ht.2]
      by_cases k7 : k = 7
      · subst k7
        refine ⟨Fx, Gx, ?_, x2⟩
        rw [E_M_ofGlove]
        simp (disch := first | omega | assumption | (unfold rg; omega)) only [lit_0, lit_1, lit_2, lit_3, lit_4, lit_5, lit_6, lit_7, lit_8, lit_9, lit_10, lit_11, lit_12, lit_13, lit_14, lit_15, lit_16, lit_17, lit_18, lit_19, lit_20, lit_21, lit_22, lit_23, lit_24, lit_25, lit_26, lit_27, lit_28, lit_29, lit_30, lit_31, lit_32, lit_33, lit_34, lit_35, lit_36, lit_37, lit_38, lit_39, lit_40, lit_41, lit_42, lit_43, lit_44, lit_45, lit_46, lit_47, lit_48, lit_49, lit_50, lit_51, lit_52, lit_53, lit_54, lit_55, lit_56, lit_57, lit_58, lit_59, lit_60, lit_61, lit_62, lit_63, lit_64, lit_65, lit_67, lit_70, lit_71, lit_73, lit_75, lit_78, lit_84, lit_85, lit_86, lit_87, lit_89, lit_90, lit_91, lit_95, lit_96, lit_97, lit_98, lit_99, lit_100, lit_101, lit_102, lit_103, lit_104, lit_105, lit_107, lit_108, lit_109, lit_110, lit_111, lit_112, lit_114, lit_115, lit_116, lit_117, lit_119, lit_121, lit_122, lit_126, lit_127, lit_128, lit_130, lit_134, lit_137, lit_139, lit_140, lit_141, lit_145, lit_152, lit_159, lit_160, lit_168, lit_174, lit_180, lit_183, lit_192, lit_199, lit_236, lit_251, lit_255, lit_272, lit_284, lit_300, lit_330, lit_373, lit_753, lit_800, lit_896, lit_900, lit_1000, lit_1001, lit_1002, lit_1003, lit_1079, lit_1276, lit_1330, lit_1450, lit_3012, lit_3016, lit_3300, lit_8430, lit_9999, lit_10000, lit_11730, lit_30467, lit_65536, lit_99999, lit_100000, lit_1000000, lit_252645135, lit_858993459, lit_1000000000, lit_1431655765, jI_add, jI_sub, jI_mul, jI_neg, jI_lt, jI_le, jI_eq, isO_149, fR_149_0, b_I, b_L, b_V, b_R, b_N, b_N0, Option.bind_some, ↓reduceIte, bq0, bq1, bz0, bz1, ite_not, Classical.not_not, ho F' e, M_isIn, i2, x1, if_pos, if_neg]
      · by_cases k8 : k = 8
        · subst k8
          refine ⟨Fy, Gy, ?_, y2⟩
          rw [E_M_ofGlove]
          simp (disch := first | omega | assumption | (unfold rg; omega)) only [lit_0, lit_1, lit_2, lit_3, lit_4, lit_5, lit_6, lit_7, lit_8, lit_9, lit_10, lit_11, lit_12, lit_13, lit_14, lit_15, lit_16, lit_17, lit_18, lit_19, lit_20, lit_21, lit_22, lit_23, lit_24, lit_25, lit_26, lit_27, lit_28, lit_29, lit_30, lit_31, lit_32, lit_33, lit_34, lit_35, lit_36, lit_37, lit_38, lit_39, lit_40, lit_41, lit_42, lit_43, lit_44, lit_45, lit_46, lit_47, lit_48, lit_49, lit_50, lit_51, lit_52, lit_53, lit_54, lit_55, lit_56, lit_57, lit_58, lit_59, lit_60, lit_61, lit_62, lit_63, lit_64, lit_65, lit_67, lit_70, lit_71, lit_73, lit_75, lit_78, lit_84, lit_85, lit_86, lit_87, lit_89, lit_90, lit_91, lit_95, lit_96, lit_97, lit_98, lit_99, lit_100, lit_101, lit_102, lit_103, lit_104, lit_105, lit_107, lit_108, lit_109, lit_110, lit_111, lit_112, lit_114, lit_115, lit_116, lit_117, lit_119, lit_121, lit_122, lit_126, lit_127, lit_128, lit_130, lit_134, lit_137, lit_139, lit_140, lit_141, lit_145, lit_152, lit_159, lit_160, lit_168, lit_174, lit_180, lit_183, lit_192, lit_199, lit_236, lit_251, lit_255, lit_272, lit_284, lit_300, lit_330, lit_373, lit_753, lit_800, lit_896, lit_900, lit_1000, lit_1001, lit_1002, lit_1003, lit_1079, lit_1276, lit_1330, lit_1450, lit_3012, lit_3016, lit_3300, lit_8430, lit_9999, lit_10000, lit_11730, lit_30467, lit_65536, lit_99999, lit_100000, lit_1000000, lit_252645135, lit_858993459, lit_1000000000, lit_1431655765, jI_add, jI_sub, jI_mul, jI_neg, jI_lt, jI_le, jI_eq, isO_149, fR_149_0, b_I, b_L, b_V, b_R, b_N, b_N0, Option.bind_some, ↓reduceIte, bq0, bq1, bz0, bz1, ite_not, Classical.not_not, ho F' e, M_isIn, y1, if_pos, if_neg]
        · refine ⟨F', G, ?_, fun _ _ _ => rfl⟩
          rw [E_M_ofGlove]
          simp (disch := first | omega | assumption | (unfold rg; omega)) only [lit_0, lit_1, lit_2, lit_3, lit_4, lit_5, lit_6, lit_7, lit_8, lit_9, lit_10, lit_11, lit_12, lit_13, lit_14, lit_15, lit_16, lit_17, lit_18, lit_19, lit_20, lit_21, lit_22, lit_23, lit_24, lit_25, lit_26, lit_27, lit_28, lit_29, lit_30, lit_31, lit_32, lit_33, lit_34, lit_35, lit_36, lit_37, lit_38, lit_39, lit_40, lit_41, lit_42, lit_43, lit_44, lit_45, lit_46, lit_47, lit_48, lit_49, lit_50, lit_51, lit_52, lit_53, lit_54, lit_55, lit_56, lit_57, lit_58, lit_59, lit_60, lit_61, lit_62, lit_63, lit_64, lit_65, lit_67, lit_70, lit_71, lit_73, lit_75, lit_78, lit_84, lit_85, lit_86, lit_87, lit_89, lit_90, lit_91, lit_95, lit_96, lit_97, lit_98, lit_99, lit_100, lit_101, lit_102, lit_103, lit_104, lit_105, lit_107, lit_108, lit_109, lit_110, lit_111, lit_112, lit_114, lit_115, lit_116, lit_117, lit_119, lit_121, lit_122, lit_126, lit_127, lit_128, lit_130, lit_134, lit_137, lit_139, lit_140, lit_141, lit_145, lit_152, lit_159, lit_160, lit_168, lit_174, lit_180, lit_183, lit_192, lit_199, lit_236, lit_251, lit_255, lit_272, lit_284, lit_300, lit_330, lit_373, lit_753, lit_800, lit_896, lit_900, lit_1000, lit_1001, lit_1002, lit_1003, lit_1079, lit_1276, lit_1330, lit_1450, lit_3012, lit_3016, lit_3300, lit_8430, lit_9999, lit_10000, lit_11730, lit_30467, lit_65536, lit_99999, lit_100000, lit_1000000, lit_252645135, lit_858993459, lit_1000000000, lit_1431655765, jI_add, jI_sub, jI_mul, jI_neg, jI_lt, jI_le, jI_eq, isO_149, b_I, b_L, b_V, b_R, b_N, b_N0, Option.bind_some, ↓reduceIte, bq0, bq1, bz0, bz1, ite_not, Classical.not_not, ho F' e, M_isIn]
          rw [if_neg (show ¬ (1 : Int) = 0 by omega)]
          by_cases k3 : 0 ≤ k ∧ k ≤ 6
          · have hg := M_get x F' G (g := p) (k := k) (by omega) (by omega) (by omega) (by omega)
            rw [e, hv _ (by unfold vok; omega)] at hg
            rw [if_pos (by omega), if_neg (by omega), hg, b_I, if_pos k3]
          · rw [if_neg (by omega), if_neg k3, if_neg k7, if_neg k8]
    by_cases k5 : k = 7
    · subst k5
      obtain ⟨F2, G2, r1, r2⟩ := ms Fa (s2 150 (by omega) (by omega)) ⟨fun b h0 h1 => s2 b (by omega) (by omega), s2 152 (by omega) (by omega)⟩
      exact ⟨_, _, _, _, cs, r1, Rel_scr hR s2 r2⟩
    · by_cases k6 : k = 8
      · subst k6
        obtain ⟨F2, G2, r1, r2⟩ := ms Fb (t2 150 (by omega) (by omega)) ⟨fun b h0 h1 => t2 b (by omega) (by omega), t2 152 (by omega) (by omega)⟩
        exact ⟨_, _, _, _, cs, r1, Rel_scr hR t2 r2⟩
      · obtain ⟨F2, G2, r1, r2⟩ := ms F rfl ⟨fun _ _ _ => rfl, rfl⟩
        refine ⟨_, F, _, _, ?_, r1, Rel_scr hR (fun _ _ _ => rfl) r2⟩
        rw [cs, if_neg k5, if_neg k6, if_neg k5, if_neg k6]
        split <;> rfl
  · rw [if_neg q] at hf
    have e1 : m_M x k_G_ofGlove [.ref 0, .int (jI p), .int (jI k)] (mk F G) = some (some (.int (jI (-1))), mk F G) := by
      rw [E_G_ofGlove]
      rw [isO_0, if_pos rfl, fR_0_0, Option.bind_some, hf, b_I, if_pos (show jI 0 = 0 by decide)]
      rfl
    have e2 : m_M x k_M_ofGlove [.ref 149, .int (jI p), .int (jI k)] (mk F G) = some (some (.int (jI (-1))), mk F G) := by
      have q2 := ho F rfl
      rw [if_neg q] at q2
      rw [E_M_ofGlove]
      rw [isO_149, if_pos rfl, q2, b_I, if_pos (show jI 0 = 0 by decide)]
      rfl
    exact Ok_pure hR e1 e2
end
