-- weddings: the model's chains
def cutA (k : Int) (a : Fn) : Fn := fun j => if j < k then a j else 0
theorem cutA_u {k p v : Int} {a : Fn} (h : p < k) : cutA k (u a p v) = u (cutA k a) p v := by
  funext j
  unfold cutA
  by_cases e : j = p
  · rw [e, if_pos h, u_eq, u_eq]
  · rw [u_ne _ _ e, u_ne _ _ e]
theorem cutA_0 {k : Int} {a : Fn} : cutA (k + 1) (u a k 0) = cutA k a := by
  funext j
  unfold cutA
  by_cases e : j = k
  · rw [e, if_pos (by omega), u_eq, if_neg (by omega)]
  · rw [u_ne _ _ e]
    by_cases e2 : j < k
    · rw [if_pos e2, if_pos (by omega)]
    · rw [if_neg e2, if_neg (by omega)]
def wedM (μ : Fn) (p q h : Int) : Fn := if h = -1 then u (u μ q p) p q else u (u (u μ q p) p q) h (-1)
theorem wedM_U {μ : Fn} {p q : Int} (h : ¬ p = q) (h1 : ¬ μ q = p) (h2 : ¬ μ q = q) : wedM μ p q (μ q) = wedU μ p q := by
  unfold wedM wedU
  by_cases e : μ q = -1
  · rw [if_pos e, if_pos e, u_comm _ _ _ h]
  · rw [if_neg e, if_neg e, u_comm μ (y := q) (z := p) _ _ (fun z => h z.symm), u_comm (u μ p q) (y := q) (z := μ q) _ _ (fun z => h2 z.symm), u_comm μ (y := p) (z := μ q) _ _ (fun z => h1 z.symm)]
section
variable (x : m_X) (F G : Nat → Fn)
def ag10 (F F1 : Nat → Fn) : Prop := ∀ b, ¬ b = 163 → ¬ b = 164 → F1 b = F b
theorem ag10_tr {F F1 F2 : Nat → Fn} (h1 : ag10 F F1) (h2 : ag10 F1 F2) : ag10 F F2 := fun b a c => (h2 b a c).trans (h1 b a c)
theorem M_ask78 {n1 n2 p q h : Int} (p0 : 0 ≤ p) (p1 : p < 7) (q0 : 0 ≤ q) (q1 : q < 7) (h0 : -1 ≤ h) (h1 : h < 7) : m_D x 5 k_M_askOn 78 [some (.ref 149), some (.int (jI n1)), some (.int (jI n2)), some (.int (jI p)), some (.int (jI q)), some (.int (jI h))] [] (mk F G) = m_D x 5 k_M_askOn 9 [some (.ref 149), some (.int (jI n1)), some (.int (jI n2)), some (.int (jI h)), some (.int (jI q)), some (.int (jI h))] [] (mk (sA F 163 (wedM (F 163) p q h)) G) := by
  rw [E_M_askOn_78 x 5 (by omega), fR_149_29, Option.bind_some, is_163 _ _ _ q0 q1, Option.bind_some, fR_149_29, Option.bind_some, is_163 _ _ _ p0 p1, Option.bind_some, sA_eq, sA_sA]
  unfold wedM
  by_cases e : h = -1
  · rw [if_pos (by rw [e]; rfl), if_pos e]
  · rw [if_neg (by rw [show (-1 : Int32) = jI (-1) from rfl, jI_eq (by omega) (by omega) (by omega) (by omega)]; exact e), if_neg e, fR_149_29, Option.bind_some, show (-1 : Int32) = jI (-1) from rfl, is_163 _ _ _ (by omega) h1, Option.bind_some, sA_eq, sA_sA]
/-- one chain of askings -/
theorem M_askL {c : Fn} {m k : Int} (hv : ∀ j, vok j → V (F 150) j = c j) (hi : WI c) (hm0 : 0 ≤ m) (hm1 : m ≤ 6) (hm2 : m ≤ c 0) (k0 : 0 ≤ k) (k1 : k < m) : ∀ i, 0 ≤ i → i ≤ 43 → ∀ (F1 : Nat → Fn) (p : Int) d4 d5, m_nl d4 = true → m_nl d5 = true → CI m c (F1 163) (cutA (k + 1) (F1 164)) → ag10 F F1 → 0 ≤ p → p ≤ k → F1 163 p = -1 → (∀ j, 0 ≤ j → j ≤ k → ¬ j = p → F1 163 j = -1 → ∀ q, m ≤ q → q < c 0 → Tq (asF (cutA (k + 1) (F1 164))) j q) → i ≤ cntA m (c 0) (asF (cutA (k + 1) (F1 164))) → ∃ F2, m_D x 5 k_M_askOn 9 [some (.ref 149), some (.int (jI k)), some (.int (jI m)), some (.int (jI p)), d4, d5] [] (mk F1 G) = some (none, mk F2 G) ∧ CI m c (F2 163) (cutA (k + 1) (F2 164)) ∧ ag10 F F2 ∧ ∀ j, 0 ≤ j → j ≤ k → F2 163 j = -1 → ∀ q, m ≤ q → q < c 0 → Tq (asF (cutA (k + 1) (F2 164))) j q := by
  have hc := WI_c hi
  apply down
  · intro F1 p d4 d5 _ _ _ _ _ _ _ _ h3
    have := cntA_r (N := c 0) (asF (cutA (k + 1) (F1 164))) hm0 hm1 hm2 (by omega)
    omega
  · intro i i0 i1 ih F1 p d4 d5 n4 n5 h h2 p0 p1 hp hx h3
    have ap := h.2.1 p p0 (by omega)
    have ea1 : cutA (k + 1) (F1 164) p = F1 164 p := by unfold cutA; rw [if_pos (by omega)]
    have ea : F1 164 p = ((asF (cutA (k + 1) (F1 164)) p : Nat) : Int) := by unfold asF; rw [ea1] at ap ⊢; omega
    have e150 := h2 150 (by omega) (by omega)
    have nx := M_nextOf x F1 G (c := c) (p := p) (m := m) (a := asF (cutA (k + 1) (F1 164)) p) (by rw [e150]; exact hv) hi hm0 hm2 p0 (by omega)
    rw [E_M_askOn_9 x 5 (by omega) _ _ _ _ _ _ _ n4 n5, show (-1 : Int32) = jI (-1) from rfl, if_neg (by rw [jI_eq (by omega) (by omega) (by omega) (by omega)]; omega), fR_149_30, Option.bind_some, ia_164 x F1 G p0 (by omega), Option.bind_some, ea, nx, b_I]
    by_cases q0 : nxN c p (asF (cutA (k + 1) (F1 164)) p) m (c 0 - m).toNat = -1
    · refine ⟨F1, ?_, h, h2, ?_⟩
      · rw [if_pos (by rw [q0])]
      · intro j j0 j1 hj
        by_cases e : j = p
        · rw [e]
          exact nx_all (as := asF (cutA (k + 1) (F1 164))) hm0 hm2 q0
        · exact hx j j0 j1 e hj
    · have st := CI_step h hi hm0 hm1 hm2 p0 (by omega) hp q0
      generalize nxN c p (asF (cutA (k + 1) (F1 164)) p) m (c 0 - m).toNat = q at *
      have vq := h.2.2 q (by omega) (by omega)
      have vq2 := h.1.1.2 q (by omega) (by omega)
      have hcn := cntA_askd (as := asF (cutA (k + 1) (F1 164))) (N := c 0) hm0 p0 (by omega) st.1 st.2.1 st.2.2.1
      have eq : q = ((q.toNat : Nat) : Int) := by omega
      have esh : jI ((asF (cutA (k + 1) (F1 164)) p : Nat) : Int) ||| (jI 1 <<< (jI q &&& jI 31)) = jI ((asF (cutA (k + 1) (F1 164)) p ||| 2 ^ q.toNat : Nat) : Int) := by
        rw [eq, nshl (by omega), nor, Int.toNat_natCast]
      rw [if_neg (by rw [jI_eq (by omega) (by omega) (by omega) (by omega)]; exact q0), fR_149_30, Option.bind_some, ia_164 x F1 G p0 (by omega), Option.bind_some, ea, lit_1, lit_31, esh, is_164 _ _ _ p0 (by omega), Option.bind_some, fR_149_29, Option.bind_some, ia_163 _ _ _ (by omega) (by omega), Option.bind_some]
      generalize hF2 : sA F1 164 (u (F1 164) p ((asF (cutA (k + 1) (F1 164)) p ||| 2 ^ q.toNat : Nat) : Int)) = F2
      have e163 : F2 163 = F1 163 := by rw [← hF2, sA_ne _ _ (by omega)]
      have e164 : cutA (k + 1) (F2 164) = u (cutA (k + 1) (F1 164)) p ((asF (cutA (k + 1) (F1 164)) p ||| 2 ^ q.toNat : Nat) : Int) := by rw [← hF2, sA_eq, cutA_u (by omega)]
      have ag1 : ag10 F F2 := by
        intro b b1 b2
        rw [← hF2, sA_ne _ _ b2]
        exact h2 b b1 b2
      have st4 := st.2.2.2
      rw [← e164] at st4
      rw [← asF_u, ← e164] at hcn
      have hT : ∀ j z, Tq (asF (cutA (k + 1) (F1 164))) j z → 0 ≤ z → Tq (asF (cutA (k + 1) (F2 164))) j z := by
        intro j z hz z0
        rw [e164, asF_u, Tq_askd _ (by omega) z0]
        exact Or.inl hz
      rw [e163]
      -- what follows an asking that is taken
      have yes : (F1 163 q = -1 ∨ ahB c q p (F1 163 q) = true) → ∃ F3, m_D x 5 k_M_askOn 78 [some (.ref 149), some (.int (jI k)), some (.int (jI m)), some (.int (jI p)), some (.int (jI q)), some (.int (jI (F1 163 q)))] [] (mk F2 G) = some (none, mk F3 G) ∧ CI m c (F3 163) (cutA (k + 1) (F3 164)) ∧ ag10 F F3 ∧ ∀ j, 0 ≤ j → j ≤ k → F3 163 j = -1 → ∀ q, m ≤ q → q < c 0 → Tq (asF (cutA (k + 1) (F3 164))) j q := by
        intro y
        rw [if_pos y] at st4
        have hne : ¬ F1 163 q = p := by
          intro e
          rw [e, hp] at vq2
          omega
        have ew : sA F2 163 (wedM (F2 163) p q (F1 163 q)) 163 = wedU (F1 163) p q := by
          rw [sA_eq, e163, wedM_U (by omega) hne (by omega)]
        have ea : sA F2 163 (wedM (F2 163) p q (F1 163 q)) 164 = F2 164 := by rw [sA_ne _ _ (by omega)]
        have ag2 : ag10 F (sA F2 163 (wedM (F2 163) p q (F1 163 q))) := by
          intro b b1 b2
          rw [sA_ne _ _ b1]
          exact ag1 b b1 b2
        rw [M_ask78 x F2 G p0 (by omega) (by omega) (by omega) vq.1 vq.2]
        generalize sA F2 163 (wedM (F2 163) p q (F1 163 q)) = F3 at *
        have wv : ∀ j, 0 ≤ j → F3 163 j = wedF (F1 163) p q j := by
          intro j j0
          rw [ew, wedU_F j0]
        by_cases e : F1 163 q = -1
        · refine ⟨F3, ?_, ?_, ag2, ?_⟩
          · rw [E_M_askOn_9 x 5 (by omega) _ _ _ _ _ _ _ rfl rfl, e, if_pos (by decide)]
          · rw [ew, ea]; exact st4
          · intro j j0 j1 hj z z0 z1
            rw [wv j j0] at hj
            unfold wedF at hj
            rw [if_neg (by omega)] at hj
            rw [ea]
            by_cases e2 : j = p
            · rw [if_pos e2] at hj; omega
            · rw [if_neg e2, if_neg (by omega)] at hj
              exact hT j z (hx j j0 j1 e2 hj z z0 z1) (by omega)
        · have hpk : F1 163 q ≤ k := by
            by_cases e2 : F1 163 q ≤ k
            · exact e2
            · exfalso
              have t := h.1.2.1 (F1 163 q) (by omega) (by omega) (by omega)
              unfold Tq asF cutA at t
              rw [if_neg (by omega)] at t
              simp at t
          refine ih F3 (F1 163 q) _ _ rfl rfl (by rw [ew, ea]; exact st4) ag2 (by omega) hpk ?_ ?_ (by rw [ea]; omega)
          · rw [wv _ (by omega)]
            unfold wedF
            rw [if_neg (by omega), if_neg hne, if_pos rfl]
          · intro j j0 j1 j2 hj z z0 z1
            rw [wv j j0] at hj
            unfold wedF at hj
            rw [if_neg (by omega)] at hj
            rw [ea]
            by_cases e2 : j = p
            · rw [if_pos e2] at hj; omega
            · rw [if_neg e2, if_neg j2] at hj
              exact hT j z (hx j j0 j1 e2 hj z z0 z1) (by omega)
      by_cases e : F1 163 q = -1
      · rw [if_pos (by rw [e])]
        exact yes (Or.inl e)
      · rw [if_neg (by rw [jI_eq (by omega) (by omega) (by omega) (by omega)]; exact e), M_isRather x F2 G (c := c) (by rw [ag1 150 (by omega) (by omega)]; exact hv) hi (by omega) (by omega) p0 (by omega) (by omega) vq.2, b_I]
        by_cases y : ahB c q p (F1 163 q) = true
        · rw [if_pos y, if_neg (by decide)]
          exact yes (Or.inr y)
        · rw [if_neg y, if_pos (by decide)]
          rw [if_neg (by rintro (h | h) <;> contradiction)] at st4
          refine ih F2 p _ _ rfl rfl (by rw [e163]; exact st4) ag1 p0 p1 (by rw [e163]; exact hp) ?_ (by omega)
          intro j j0 j1 j2 hj z z0 z1
          rw [e163] at hj
          exact hT j z (hx j j0 j1 j2 hj z z0 z1) (by omega)
theorem M_wedL {c : Fn} {m : Int} (hv : ∀ j, vok j → V (F 150) j = c j) (hi : WI c) (hm0 : 0 ≤ m) (hm1 : m ≤ 6) (hm2 : m ≤ c 0) : ∀ k, 0 ≤ k → k ≤ m → ∀ F1 : Nat → Fn, CI m c (F1 163) (cutA k (F1 164)) → ag10 F F1 → (∀ j, 0 ≤ j → j < k → F1 163 j = -1 → ∀ q, m ≤ q → q < c 0 → Tq (asF (cutA k (F1 164))) j q) → ∃ F2, m_D x 6 k_M_wed 23 [some (.ref 149), some (.int (jI m)), some (.int (jI k))] [] (mk F1 G) = some (none, mk F2 G) ∧ CI m c (F2 163) (cutA m (F2 164)) ∧ ag10 F F2 ∧ FIN m (c 0) (F2 163) (asF (cutA m (F2 164))) := by
  have hc := WI_c hi
  apply down
  · intro F1 h h2 h3
    refine ⟨F1, ?_, h, h2, h3⟩
    rw [E_M_wed_23 x 6 (by omega), if_pos (Int32.le_refl _)]
  · intro k k0 k1 ih F1 h h2 h3
    rw [E_M_wed_23 x 6 (by omega), if_neg (by rw [jI_le (by omega) (by omega) (by omega) (by omega)]; omega), E_M_askOn, isO_149, if_pos rfl, fR_149_30, Option.bind_some, lit_0, is_164 _ _ _ k0 (by omega), Option.bind_some]
    have e163 : sA F1 164 (u (F1 164) k 0) 163 = F1 163 := by rw [sA_ne _ _ (by omega)]
    have e164 : cutA (k + 1) (sA F1 164 (u (F1 164) k 0) 164) = cutA k (F1 164) := by rw [sA_eq, cutA_0]
    have ag1 : ag10 F (sA F1 164 (u (F1 164) k 0)) := by
      intro b b1 b2
      rw [sA_ne _ _ b2]
      exact h2 b b1 b2
    have hk : F1 163 k = -1 := by
      by_cases e : F1 163 k = -1
      · exact e
      · have t := h.1.2.1 k k0 k1 e
        unfold Tq asF cutA at t
        rw [if_neg (by omega)] at t
        simp at t
    have cr := cntA_r (N := c 0) (asF (cutA k (F1 164))) hm0 hm1 hm2 (by omega)
    obtain ⟨F2, r1, r2, r3, r4⟩ := M_askL x F G (c := c) (m := m) (k := k) hv hi hm0 hm1 hm2 k0 k1 0 (by omega) (by omega) (sA F1 164 (u (F1 164) k 0)) k none none rfl rfl (by rw [e163, e164]; exact h) ag1 k0 (by omega) (by rw [e163]; exact hk) (by
      intro j j0 j1 j2 hj
      rw [e163] at hj
      rw [e164]
      exact h3 j j0 (by omega) hj) (by rw [e164]; omega)
    rw [r1, b_V, lit_1, jI_add]
    exact ih F2 r2 r3 (fun j j0 j1 => r4 j j0 (by omega))
theorem M_leave {k : Nat} {n1 : Int} : ∀ n, 0 ≤ n → n ≤ 7 → ∀ F1 : Nat → Fn, (∀ k, 0 ≤ k → k < n → F1 163 k = -1) → ag10 F F1 → ∃ F2, m_D x 6 k_M_wed 2 [some (.ref 149), some (.int (jI n1)), some (.int (jI n))] [] (mk F1 G) = m_D x 6 k_M_wed 23 [some (.ref 149), some (.int (jI n1)), some (.int (jI 0))] [] (mk F2 G) ∧ (∀ k, 0 ≤ k → k < 7 → F2 163 k = -1) ∧ ag10 F F2 := by
  apply down
  · intro F1 h1 h2
    refine ⟨F1, ?_, h1, h2⟩
    rw [E_M_wed_2 x 6 (by omega), lit_7, if_pos (Int32.le_refl _), lit_0]
  · intro n n0 n1 ih F1 h1 h2
    rw [E_M_wed_2 x 6 (by omega), lit_7, if_neg (by rw [jI_le (by omega) (by omega) (by omega) (by omega)]; omega), fR_149_29, Option.bind_some, show (-1 : Int32) = jI (-1) from rfl, is_163 _ _ _ n0 n1, Option.bind_some, lit_1, jI_add]
    refine ih _ ?_ ?_
    · intro k k0 k1
      rw [sA_eq]
      by_cases e : k = n
      · rw [e, u_eq]
      · rw [u_ne _ _ e]
        exact h1 k k0 (by omega)
    · intro b b1 b2
      rw [sA_ne _ _ b1]
      exact h2 b b1 b2
theorem M_wed {c : Fn} {m : Int} (hv : ∀ j, vok j → V (F 150) j = c j) (hi : WI c) (hm0 : 0 ≤ m) (hm1 : m ≤ 6) (hm2 : m ≤ c 0) : ∃ F2, m_M x k_M_wed [.ref 149, .int (jI m)] (mk F G) = some (none, mk F2 G) ∧ CI m c (F2 163) (cutA m (F2 164)) ∧ ag10 F F2 ∧ FIN m (c 0) (F2 163) (asF (cutA m (F2 164))) := by
  have hc := WI_c hi
  obtain ⟨F1, r1, r2, r3⟩ := M_leave x F G (k := 0) (n1 := m) 0 (by omega) (by omega) F (fun k _ _ => by omega) (fun _ _ _ => rfl)
  have h0 : CI m c (F1 163) (cutA 0 (F1 164)) := by
    refine ⟨?_, ?_, ?_⟩
    · refine DA_cg hm0 hm2 (μ := F1 163) (as := fun _ => 0) (fun _ _ _ => rfl) ?_ (DA_0 c m (c 0) (fun p p0 p1 => r2 p p0 (by omega)) hm0 hm2)
      intro k k0 k1
      unfold asF cutA
      rw [if_neg (by omega)]
      rfl
    · intro k k0 k1
      unfold cutA
      rw [if_neg (by omega)]
      omega
    · intro k k0 k1
      rw [r2 k k0 k1]
      omega
  obtain ⟨F2, z1, z2, z3, z4⟩ := M_wedL x F G (c := c) (m := m) hv hi hm0 hm1 hm2 0 (by omega) (by omega) F1 h0 r3 (fun j _ _ => by omega)
  refine ⟨F2, ?_, z2, z3, z4⟩
  rw [E_M_wed, isO_149, if_pos rfl, lit_0, r1]
  exact z1
theorem C_canWed {m : Int} (hi : WI (F 2)) (hm : rg m) : m_M x k_G_canWed [.ref 0, .int (jI m)] (mk F G) = some (some (.int (jI (if (1 ≤ m ∧ m ≤ 6) ∧ m < F 2 0 then 1 else 0))), mk F G) := by
  have hc := WI_c hi
  have hm' := hm
  unfold rg at hm'
  have fw : m_fR (mk F G) 9 0 1 = some 2 := fR_W_0 F G (w := 1) (Or.inl rfl)
  rw [E_G_canWed, isO_0, if_pos rfl, lit_1, lit_6, C_isIn x F G hm (by unfold rg; omega) (by unfold rg; omega), b_I]
  by_cases q : 1 ≤ m ∧ m ≤ 6
  · rw [if_pos q, if_neg (by decide), fR_0_0, Option.bind_some, fw, Option.bind_some, lit_0, ia_2 x F G (by omega) (by omega), Option.bind_some]
    by_cases q2 : m < F 2 0
    · rw [if_neg (by rw [jI_le (by omega) (by omega) (by omega) (by omega)]; omega), if_pos ⟨q, q2⟩]
    · rw [if_pos (by rw [jI_le (by omega) (by omega) (by omega) (by omega)]; omega), if_neg (by omega)]
  · rw [if_neg q, if_pos (by decide), if_neg (by omega), lit_0]
theorem M_canWed {c : Fn} {m : Int} (hv : ∀ j, vok j → V (F 150) j = c j) (hi : WI c) (hm : rg m) : m_M x k_M_canWed [.ref 149, .int (jI m)] (mk F G) = some (some (.int (jI (if (1 ≤ m ∧ m ≤ 6) ∧ m < c 0 then 1 else 0))), mk F G) := by
  have hc := WI_c hi
  have hm' := hm
  unfold rg at hm'
  have a2 := va_0 x F G
  rw [hv 0 (by unfold vok; omega)] at a2
  rw [E_M_canWed, isO_149, if_pos rfl, lit_1, lit_6, M_isIn x F G hm (by unfold rg; omega) (by unfold rg; omega), b_I]
  by_cases q : 1 ≤ m ∧ m ≤ 6
  · rw [if_pos q, if_neg (by decide), fR_149_0, Option.bind_some, lit_0, a2, Option.bind_some]
    by_cases q2 : m < c 0
    · rw [if_neg (by rw [jI_le (by omega) (by omega) (by omega) (by omega)]; omega), if_pos ⟨q, q2⟩]
    · rw [if_pos (by rw [jI_le (by omega) (by omega) (by omega) (by omega)]; omega), if_neg (by omega)]
  · rw [if_neg q, if_pos (by decide), if_neg (by omega), lit_0]
theorem ok_weds (hR : Rel F) {m o : Int} (hm : rg m) (ho : rg o) : Ok x F G k_G_weds k_M_weds [.int (jI m), .int (jI o)] := by
  have hi : WI (F 2) := RS_WI hR.1
  have hc := WI_c hi
  have hv := Rel_V hR
  have wv := RS_WV hR.1
  have cw := C_canWed x F G hi hm
  have ch : m_M x k_World_hasOne [.ref 1, .int (jI o)] (mk F G) = some (some (.int (jI (if 0 ≤ o ∧ o < F 2 0 then 1 else 0))), mk F G) := C_hasOne x F G (w := 1) (Or.inl rfl) ho (by show rg (F 2 0); unfold rg; omega)
  by_cases q : (1 ≤ m ∧ m ≤ 6) ∧ m < F 2 0
  · by_cases q2 : 0 ≤ o ∧ o < F 2 0
    · obtain ⟨F1, r1, r2, r3, r4⟩ := C_wedAll x F G (m := m) hi (by omega) (by omega) (by omega)
      have e150 := r3 150 (by omega) (by omega)
      obtain ⟨F2, z1, z2, z3, z4⟩ := M_wed x F1 G (c := F 2) (m := m) (by rw [e150]; exact hv) hi (by omega) (by omega) (by omega)
      have heq := DA_un r2.1 r4 z2.1 z4 o q2.1 q2.2
      have cs : m_M x k_G_weds [.ref 0, .int (jI m), .int (jI o)] (mk F G) = some (some (.int (jI (F1 139 o))), mk F1 G) := by
        rw [E_G_weds, isO_0, if_pos rfl, cw, if_pos q, b_I, if_neg (by decide), fR_0_0, Option.bind_some, ch, if_pos q2, b_I, if_neg (by decide), fR_0_10, Option.bind_some, fR_0_0, Option.bind_some, r1, b_V, fR_0_10, Option.bind_some, C_mateOf x F1 G q2.1 (by omega), b_I]
      have ms : m_M x k_M_weds [.ref 149, .int (jI m), .int (jI o)] (mk F1 G) = some (some (.int (jI (F1 139 o))), mk F2 G) := by
        rw [E_M_weds, isO_149, if_pos rfl, M_canWed x F1 G (c := F 2) (by rw [e150]; exact hv) hi hm, if_pos q, b_I, if_neg (by decide), M_isOne x F1 G (by rw [e150]; exact wv) ho, e150, hv 0 (by unfold vok; omega), if_pos q2, b_I, if_neg (by decide), z1, b_V, fR_149_29, Option.bind_some, ia_163 x F2 G q2.1 (by omega), Option.bind_some, heq]
      refine ⟨_, _, _, _, cs, ms, ?_⟩
      refine Rel_ag hR ?_
      intro b hb
      rw [z3 b (by omega) (by omega), r3 b (by omega) (by omega)]
    · refine Ok_pure (v := jI (-1)) hR ?_ ?_
      · rw [E_G_weds, isO_0, if_pos rfl, cw, if_pos q, b_I, if_neg (by decide), fR_0_0, Option.bind_some, ch, if_neg q2, b_I, if_pos (by decide)]
        rfl
      · rw [E_M_weds, isO_149, if_pos rfl, M_canWed x F G (c := F 2) hv hi hm, if_pos q, b_I, if_neg (by decide), M_isOne x F G wv ho, hv 0 (by unfold vok; omega), if_neg q2, b_I, if_pos (by decide)]
        rfl
  · refine Ok_pure (v := jI (-1)) hR ?_ ?_
    · rw [E_G_weds, isO_0, if_pos rfl, cw, if_neg q, b_I, if_pos (by decide)]
      rfl
    · rw [E_M_weds, isO_149, if_pos rfl, M_canWed x F G (c := F 2) hv hi hm, if_neg q, b_I, if_pos (by decide)]
      rfl
end
