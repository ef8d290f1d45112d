-- estate: alike much, whoever is settled first
def wS (w : Fn) (s : Nat) (k : Int) : Int := sm (fun i => if s.testBit i.toNat = true then w i else 0) k
def oS (s : Nat) (k : Int) : Int := sm (fun i => if s.testBit i.toNat = true then 0 else 1) k
theorem sm_at {f g : Int → Int} {p n d : Int} (p0 : 0 ≤ p) (p1 : p < n) (he : ∀ i, 0 ≤ i → i < n → ¬ i = p → g i = f i) (hp : g p = f p + d) : sm g n = sm f n + d := by
  have key : ∀ k, 0 ≤ k → k ≤ n → sm g k = sm f k + (if p < k then d else 0) := by
    apply up
    · rw [sm_0, sm_0, if_neg (by omega)]; rfl
    · intro k k0 k1 ih
      rw [sm_s _ k0, sm_s _ k0, ih]
      by_cases e : k = p
      · rw [e, hp, if_neg (by omega), if_pos (by omega)]; omega
      · rw [he k k0 k1 e]
        by_cases e2 : p < k
        · rw [if_pos e2, if_pos (by omega)]; omega
        · rw [if_neg e2, if_neg (by omega)]; omega
  rw [key n (by omega) (by omega), if_pos p1]
theorem tb_or {s : Nat} {i j : Int} (i0 : 0 ≤ i) (j0 : 0 ≤ j) : (s ||| 2 ^ i.toNat).testBit j.toNat = true ↔ s.testBit j.toNat = true ∨ j = i := by
  rw [Nat.testBit_or, Nat.testBit_two_pow]
  have : (i.toNat = j.toNat) ↔ (j = i) := by omega
  simp [this]
theorem wS_add {w : Fn} {s : Nat} {i n : Int} (i0 : 0 ≤ i) (i1 : i < n) (h : ¬ s.testBit i.toNat = true) : wS w (s ||| 2 ^ i.toNat) n = wS w s n + w i := by
  unfold wS
  refine sm_at i0 i1 ?_ ?_
  · intro j j0 j1 hj
    have t := tb_or (s := s) i0 j0
    by_cases e : s.testBit j.toNat = true
    · rw [if_pos e, if_pos (t.2 (Or.inl e))]
    · rw [if_neg e, if_neg]
      intro h2
      rcases t.1 h2 with h3 | h3
      · exact e h3
      · exact hj h3
  · rw [if_neg h, if_pos ((tb_or (s := s) i0 i0).2 (Or.inr rfl))]
    omega
theorem oS_add {s : Nat} {i n : Int} (i0 : 0 ≤ i) (i1 : i < n) (h : ¬ s.testBit i.toNat = true) : oS (s ||| 2 ^ i.toNat) n = oS s n - 1 := by
  unfold oS
  have := sm_at (f := fun i => if s.testBit i.toNat = true then 0 else 1) (g := fun j => if (s ||| 2 ^ i.toNat).testBit j.toNat = true then 0 else 1) (d := -1) i0 i1 (by
    intro j j0 j1 hj
    have t := tb_or (s := s) i0 j0
    by_cases e : s.testBit j.toNat = true
    · rw [if_pos e, if_pos (t.2 (Or.inl e))]
    · rw [if_neg e, if_neg]
      intro h2
      rcases t.1 h2 with h3 | h3
      · exact e h3
      · exact hj h3) (by
    rw [if_neg h, if_pos ((tb_or (s := s) i0 i0).2 (Or.inr rfl))]
    omega)
  rw [this]
  omega
theorem oS_r (s : Nat) {n : Int} (hn : 0 ≤ n) : 0 ≤ oS s n ∧ oS s n ≤ n := by
  have := sm_le (f := fun i => if s.testBit i.toNat = true then 0 else 1) (a := 0) (b := 1) hn (by
    intro i _ _
    split <;> omega)
  unfold oS
  omega
theorem oS_pos {s : Nat} {i n : Int} (i0 : 0 ≤ i) (i1 : i < n) (h : ¬ s.testBit i.toNat = true) : 1 ≤ oS s n := by
  have a := oS_add i0 i1 h
  have b := oS_r (s ||| 2 ^ i.toNat) (n := n) (by omega)
  omega
theorem wS_r {w : Fn} {s : Nat} {n : Int} (hn : 0 ≤ n) (hw : ∀ i, 0 ≤ i → i < n → 0 ≤ w i ∧ w i ≤ 9999) : 0 ≤ wS w s n ∧ wS w s n ≤ 9999 * n := by
  have := sm_le (f := fun i => if s.testBit i.toNat = true then w i else 0) (a := 0) (b := 9999) hn (by
    intro i i0 i1
    have := hw i i0 i1
    split <;> omega)
  unfold wS
  omega
/-- who gets his claim now gets it later also -/
theorem el_add {a b m r : Int} (hm : 1 ≤ m) (h1 : a * m ≤ r) (h2 : b * m ≤ r) : a * (m - 1) ≤ r - b := by
  rw [Int.mul_sub, Int.mul_one]
  by_cases q : b ≤ a
  · omega
  · have e : a * (m - 1) ≤ b * (m - 1) := Int.mul_le_mul_of_nonneg_right (by omega) (by omega)
    rw [Int.mul_sub, Int.mul_sub, Int.mul_one, Int.mul_one] at e
    omega
def IV (w : Fn) (n H : Int) (s : Nat) : Prop := 0 ≤ H - wS w s n ∧ ∀ i, 0 ≤ i → i < n → s.testBit i.toNat = true → w i * oS s n ≤ H - wS w s n
def CL (w : Fn) (n H : Int) (s : Nat) : Prop := ∀ i, 0 ≤ i → i < n → ¬ s.testBit i.toNat = true → H - wS w s n < w i * oS s n
theorem IV_add {w : Fn} {n H i : Int} {s : Nat} (h : IV w n H s) (i0 : 0 ≤ i) (i1 : i < n) (hw : 0 ≤ w i) (hb : ¬ s.testBit i.toNat = true) (he : w i * oS s n ≤ H - wS w s n) : IV w n H (s ||| 2 ^ i.toNat) := by
  have m1 := oS_pos i0 i1 hb
  have e1 : w i ≤ w i * oS s n := by
    have := Int.mul_le_mul_of_nonneg_left m1 hw
    rw [Int.mul_one] at this
    exact this
  refine ⟨?_, ?_⟩
  · rw [wS_add i0 i1 hb]
    omega
  · intro j j0 j1 hj
    rw [wS_add i0 i1 hb, oS_add i0 i1 hb]
    have el : w j * oS s n ≤ H - wS w s n := by
      rcases (tb_or (s := s) i0 j0).1 hj with h3 | h3
      · exact h.2 j j0 j1 h3
      · rw [h3]; exact he
    have := el_add m1 el he
    omega
theorem uq_sum {w : Fn} {n H : Int} {s t : Nat} (hs : ∀ i, 0 ≤ i → i < n → s.testBit i.toNat = true → t.testBit i.toNat = true) (hc : CL w n H s) : ∀ k, 0 ≤ k → k ≤ n → (H - wS w s n + 1) * (oS s k - oS t k) ≤ oS s n * (wS w t k - wS w s k) ∧ oS t k ≤ oS s k ∧ (oS t k = oS s k → ∀ i, 0 ≤ i → i < k → (s.testBit i.toNat = true ↔ t.testBit i.toNat = true)) := by
  apply up
  · refine ⟨?_, ?_, ?_⟩
    · unfold oS wS
      simp only [sm_0, Int.sub_self, Int.mul_zero]
      omega
    · unfold oS
      simp only [sm_0]
      omega
    · intro _ i i0 i1
      omega
  · intro k k0 k1 ⟨h1, h2, h3⟩
    have a1 : oS s (k + 1) = oS s k + (if s.testBit k.toNat = true then 0 else 1) := sm_s _ k0
    have a2 : oS t (k + 1) = oS t k + (if t.testBit k.toNat = true then 0 else 1) := sm_s _ k0
    have a3 : wS w s (k + 1) = wS w s k + (if s.testBit k.toNat = true then w k else 0) := sm_s _ k0
    have a4 : wS w t (k + 1) = wS w t k + (if t.testBit k.toNat = true then w k else 0) := sm_s _ k0
    by_cases b1 : s.testBit k.toNat = true
    · have b2 := hs k k0 k1 b1
      rw [if_pos b1] at a1 a3
      rw [if_pos b2] at a2 a4
      have e1 : oS s (k + 1) - oS t (k + 1) = oS s k - oS t k := by omega
      have e2 : wS w t (k + 1) - wS w s (k + 1) = wS w t k - wS w s k := by omega
      rw [e1, e2]
      refine ⟨h1, by omega, ?_⟩
      intro e i i0 i1
      by_cases q : i = k
      · rw [q]; exact ⟨fun _ => b2, fun _ => b1⟩
      · exact h3 (by omega) i i0 (by omega)
    · by_cases b2 : t.testBit k.toNat = true
      · rw [if_neg b1] at a1 a3
        rw [if_pos b2] at a2 a4
        have e1 : oS s (k + 1) - oS t (k + 1) = (oS s k - oS t k) + 1 := by omega
        have e2 : wS w t (k + 1) - wS w s (k + 1) = (wS w t k - wS w s k) + w k := by omega
        have hcl := hc k k0 k1 b1
        rw [e1, e2, Int.mul_add, Int.mul_add, Int.mul_one, Int.mul_comm (oS s n) (w k)]
        refine ⟨by omega, by omega, ?_⟩
        intro e
        omega
      · rw [if_neg b1] at a1 a3
        rw [if_neg b2] at a2 a4
        have e1 : oS s (k + 1) - oS t (k + 1) = oS s k - oS t k := by omega
        have e2 : wS w t (k + 1) - wS w s (k + 1) = wS w t k - wS w s k := by omega
        rw [e1, e2]
        refine ⟨h1, by omega, ?_⟩
        intro e i i0 i1
        by_cases q : i = k
        · rw [q]; exact ⟨fun h => absurd h b1, fun h => absurd h b2⟩
        · exact h3 (by omega) i i0 (by omega)
theorem uqA {w : Fn} {n H : Int} {s t : Nat} (hn : 0 ≤ n) (hs : ∀ i, 0 ≤ i → i < n → s.testBit i.toNat = true → t.testBit i.toNat = true) (hc : CL w n H s) (hr : (H - wS w s n) * oS t n ≤ (H - wS w t n) * oS s n) : ∀ i, 0 ≤ i → i < n → (s.testBit i.toNat = true ↔ t.testBit i.toNat = true) := by
  obtain ⟨h1, h2, h3⟩ := uq_sum hs hc n hn (Int.le_refl _)
  apply h3
  have e : wS w t n - wS w s n = (H - wS w s n) - (H - wS w t n) := by omega
  rw [e] at h1
  generalize H - wS w s n = r at *
  generalize H - wS w t n = q at *
  generalize oS s n = a at *
  generalize oS t n = b at *
  rw [Int.add_mul, Int.one_mul, Int.mul_sub, Int.mul_sub, Int.mul_comm a r, Int.mul_comm a q] at h1
  omega
theorem uq {w : Fn} {n H : Int} {s t : Nat} (hn : 0 ≤ n) (is : IV w n H s) (cs : CL w n H s) (it : IV w n H t) (ct : CL w n H t) : ∀ i, 0 ≤ i → i < n → (s.testBit i.toNat = true ↔ t.testBit i.toNat = true) := by
  have rs := oS_r s hn
  have rt := oS_r t hn
  have all : ∀ z : Nat, oS z n = 0 → ∀ i, 0 ≤ i → i < n → z.testBit i.toNat = true := by
    intro z hz i i0 i1
    by_cases e : z.testBit i.toNat = true
    · exact e
    · have := oS_pos i0 i1 e
      omega
  by_cases q1 : oS t n = 0
  · refine uqA hn (fun i i0 i1 _ => all t q1 i i0 i1) cs ?_
    rw [q1, Int.mul_zero]
    exact Int.mul_nonneg it.1 rs.1
  · by_cases q2 : oS s n = 0
    · intro i i0 i1
      refine (uqA hn (fun i i0 i1 _ => all s q2 i i0 i1) ct ?_ i i0 i1).symm
      rw [q2, Int.mul_zero]
      exact Int.mul_nonneg is.1 rt.1
    · have sub : ∀ {s t : Nat}, 0 < oS s n → 0 < oS t n → IV w n H s → CL w n H t → (H - wS w s n) * oS t n ≤ (H - wS w t n) * oS s n → ∀ i, 0 ≤ i → i < n → s.testBit i.toNat = true → t.testBit i.toNat = true := by
        intro s t ps pt is ct hr i i0 i1 hi
        by_cases e : t.testBit i.toNat = true
        · exact e
        · exfalso
          have a1 := is.2 i i0 i1 hi
          have a2 := ct i i0 i1 e
          have b1 := Int.mul_le_mul_of_nonneg_right a1 (Int.le_of_lt pt)
          have b2 := Int.mul_lt_mul_of_pos_right a2 ps
          rw [Int.mul_assoc, Int.mul_comm (oS s n), ← Int.mul_assoc] at b1
          omega
      by_cases q3 : (H - wS w s n) * oS t n ≤ (H - wS w t n) * oS s n
      · exact uqA hn (sub (by omega) (by omega) is ct q3) cs q3
      · intro i i0 i1
        exact (uqA hn (sub (by omega) (by omega) it cs (by omega)) ct (by omega) i i0 i1).symm
theorem wS_cg {w : Fn} {n : Int} {s t : Nat} (h : ∀ i, 0 ≤ i → i < n → (s.testBit i.toNat = true ↔ t.testBit i.toNat = true)) : wS w s n = wS w t n := by
  unfold wS
  apply sm_congr
  intro i i0 i1
  by_cases e : s.testBit i.toNat = true
  · rw [if_pos e, if_pos ((h i i0 i1).1 e)]
  · rw [if_neg e, if_neg (fun q => e ((h i i0 i1).2 q))]
theorem oS_cg {n : Int} {s t : Nat} (h : ∀ i, 0 ≤ i → i < n → (s.testBit i.toNat = true ↔ t.testBit i.toNat = true)) : oS s n = oS t n := by
  unfold oS
  apply sm_congr
  intro i i0 i1
  by_cases e : s.testBit i.toNat = true
  · rw [if_pos e, if_pos ((h i i0 i1).1 e)]
  · rw [if_neg e, if_neg (fun q => e ((h i i0 i1).2 q))]
/-- what is written above and below the line, before it is made shorter -/
def esU (w : Fn) (n H : Int) (s : Nat) (k : Int) : Int := if s.testBit k.toNat = true then w k else H - wS w s n
def esL (n : Int) (s : Nat) (k : Int) : Int := if s.testBit k.toNat = true then 1 else oS s n
section
variable (x : m_X) (F G : Nat → Fn)
theorem fI41 : m_fI (mk F G) 4 1 41 = some (jI (F 41 1)) := fI_R_1 F G (w := 41) (by omega)
theorem it41 {i : Int} (h0 : 0 ≤ i) (h1 : i < 6) : m_M x k_Row_itemAt [.ref 41, .int (jI i)] (mk F G) = some (some (.int (jI (F 42 i))), mk F G) := C_itemAt x F G (w := 41) (by omega) h0 h1
theorem C_lev27 {n2 n3 : Int32} {n H j : Int} (hn0 : 0 ≤ n) (hn1 : n ≤ 6) (hn : F 41 1 = n) (hw : ∀ i, 0 ≤ i → i < n → 0 ≤ F 42 i ∧ F 42 i ≤ 9999) (hH0 : 0 ≤ H) (hH1 : H ≤ 200000) : ∀ i, 0 ≤ i → i ≤ n → ∀ s : Nat, s < 64 → IV (F 42) n H s → ∀ d9, m_nl d9 = true → ∃ (s' : Nat) (d : Option Value), m_nl d = true ∧ m_D x 2 k_Puzzles_levelled 27 [some (.ref 144), some (.ref 41), some (.int n2), some (.int n3), some (.int (jI (s : Int))), some (.int (jI (H - wS (F 42) s n))), some (.int (jI (oS s n))), some (.int (jI j)), some (.int (jI i)), d9] [] (mk F G) = m_D x 2 k_Puzzles_levelled 15 [some (.ref 144), some (.ref 41), some (.int n2), some (.int n3), some (.int (jI (s' : Int))), some (.int (jI (H - wS (F 42) s' n))), some (.int (jI (oS s' n))), some (.int (jI (j + 1))), some (.int (jI n)), d] [] (mk F G) ∧ s' < 64 ∧ IV (F 42) n H s' ∧ oS s' n ≤ oS s n ∧ (CL (F 42) n H s → s' = s) ∧ (oS s' n = oS s n → s' = s ∧ ∀ k, i ≤ k → k < n → ¬ s.testBit k.toNat = true → H - wS (F 42) s n < F 42 k * oS s n) := by
  apply down
  · intro s hs hI d9 h9
    refine ⟨s, d9, h9, ?_, hs, hI, Int.le_refl _, fun _ => rfl, fun _ => ⟨rfl, fun k k0 k1 => by omega⟩⟩
    rw [E_Puzzles_levelled_27 x 2 (by omega) _ _ _ _ _ _ _ _ _ _ _ h9, fI41, Option.bind_some, hn, if_pos (Int32.le_refl _), lit_1, jI_add]
  · intro i i0 i1 ih s hs hI d9 h9
    have hwi := hw i i0 i1
    have r1 := wS_r (w := F 42) (s := s) hn0 hw
    have r2 := oS_r s hn0
    have p1 : 0 ≤ F 42 i * oS s n := Int.mul_nonneg hwi.1 r2.1
    have p2 : F 42 i * oS s n ≤ 9999 * 6 := Int.mul_le_mul hwi.2 (by omega) r2.1 (by omega)
    rw [E_Puzzles_levelled_27 x 2 (by omega) _ _ _ _ _ _ _ _ _ _ _ h9, fI41, Option.bind_some, hn, if_neg (by rw [jI_le (by omega) (by omega) (by omega) (by omega)]; omega), lit_31, lit_1, lit_0]
    simp only [has_0 (a := jI (s : Int)) i0 (show i < 32 by omega), bt_nat s i0 (show i < 32 by omega)]
    by_cases b : s.testBit i.toNat = true
    · rw [if_neg (by rw [b]; decide), E_Puzzles_levelled_51 x 2 (by omega) _ _ _ _ _ _ _ _ _ _ _ _ h9, if_pos (by decide), lit_1, jI_add]
      obtain ⟨s', d, z1, z2, z3, z4, z5, z6, z7⟩ := ih s hs hI _ (show m_nl (some (.int (jI 0))) = true from rfl)
      refine ⟨s', d, z1, z2, z3, z4, z5, z6, ?_⟩
      intro e
      refine ⟨(z7 e).1, ?_⟩
      intro k k0 k1 hk
      by_cases ek : k = i
      · rw [ek] at hk; exact absurd b hk
      · exact (z7 e).2 k (by omega) k1 hk
    · rw [if_pos (by simpa using b), E_Puzzles_levelled_51 x 2 (by omega) _ _ _ _ _ _ _ _ _ _ _ _ h9, if_neg (show ¬ jI 1 = 0 by decide), it41 x F G i0 (by omega), b_I, jI_mul]
      by_cases q : H - wS (F 42) s n < F 42 i * oS s n
      · rw [if_pos (by rw [jI_lt (by omega) (by omega) (by omega) (by omega)]; omega), lit_1, jI_add]
        obtain ⟨s', d, z1, z2, z3, z4, z5, z6, z7⟩ := ih s hs hI _ (show m_nl (some (.int (jI 1))) = true from rfl)
        refine ⟨s', d, z1, z2, z3, z4, z5, z6, ?_⟩
        intro e
        refine ⟨(z7 e).1, ?_⟩
        intro k k0 k1 hk
        by_cases ek : k = i
        · rw [ek]; exact q
        · exact (z7 e).2 k (by omega) k1 hk
      · have ei : i = ((i.toNat : Nat) : Int) := by omega
        have esh : jI (s : Int) ||| (jI 1 <<< (jI i &&& jI 31)) = jI ((s ||| 2 ^ i.toNat : Nat) : Int) := by
          rw [ei, nshl (by omega), nor, Int.toNat_natCast]
        have hs2 : s ||| 2 ^ i.toNat < 2 ^ 6 := Nat.or_lt_two_pow (by omega) (Nat.pow_lt_pow_right (by omega) (by omega))
        have w1 := wS_add (w := F 42) i0 i1 b
        have o1 := oS_add i0 i1 b
        have hI2 := IV_add hI i0 i1 hwi.1 b (by omega)
        obtain ⟨s', d, z1, z2, z3, z4, z5, z6, z7⟩ := ih (s ||| 2 ^ i.toNat) (by omega) hI2 _ (show m_nl (some (.int (jI 1))) = true from rfl)
        refine ⟨s', d, z1, ?_, z3, z4, by omega, ?_, ?_⟩
        · rw [if_neg (by rw [jI_lt (by omega) (by omega) (by omega) (by omega)]; omega), it41 x F G i0 (by omega), b_I, lit_1, lit_31, esh, jI_sub, jI_neg, jI_add, jI_add]
          rw [w1, o1] at z2
          have e1 : H - wS (F 42) s n - F 42 i = H - (wS (F 42) s n + F 42 i) := by omega
          have e2 : oS s n + -1 = oS s n - 1 := by omega
          rw [e1, e2]
          exact z2
        · intro hc
          exact absurd (hc i i0 i1 b) q
        · intro e
          omega
theorem C_levelled {n H k : Int} (hn0 : 0 ≤ n) (hn1 : n ≤ 6) (hn : F 41 1 = n) (hw : ∀ i, 0 ≤ i → i < n → 0 ≤ F 42 i ∧ F 42 i ≤ 9999) (hH0 : 0 ≤ H) (hH1 : H ≤ 200000) (k0 : 0 ≤ k) (k1 : k < n) : ∃ s : Nat, IV (F 42) n H s ∧ CL (F 42) n H s ∧ m_M x k_Puzzles_levelled [.ref 144, .ref 41, .int (jI H), .int (jI k)] (mk F G) = some (none, mk (sA F 144 (u (u (F 144) 1 (esU (F 42) n H s k)) 2 (esL n s k))) G) := by
  have key : ∀ j, 0 ≤ j → j ≤ n → ∀ s : Nat, s < 64 → IV (F 42) n H s → (CL (F 42) n H s ∨ oS s n + j ≤ n) → ∀ d8 d9, m_nl d8 = true → m_nl d9 = true → ∃ s' : Nat, IV (F 42) n H s' ∧ CL (F 42) n H s' ∧ m_D x 2 k_Puzzles_levelled 15 [some (.ref 144), some (.ref 41), some (.int (jI H)), some (.int (jI k)), some (.int (jI (s : Int))), some (.int (jI (H - wS (F 42) s n))), some (.int (jI (oS s n))), some (.int (jI j)), d8, d9] [] (mk F G) = some (none, mk (sA F 144 (u (u (F 144) 1 (esU (F 42) n H s' k)) 2 (esL n s' k))) G) := by
    apply down
    · intro s hs hI hc d8 d9 h8 h9
      have r2 := oS_r s hn0
      have hC : CL (F 42) n H s := by
        rcases hc with hc | hc
        · exact hc
        · intro i i0 i1 hi
          have := oS_pos i0 i1 hi
          omega
      refine ⟨s, hI, hC, ?_⟩
      rw [E_Puzzles_levelled_15 x 2 (by omega) _ _ _ _ _ _ _ _ _ _ _ h8 h9, fI41, Option.bind_some, hn, if_pos (Int32.le_refl _), lit_31, lit_1]
      simp only [has_1 (a := jI (s : Int)) k0 (show k < 32 by omega), bt_nat s k0 (show k < 32 by omega)]
      unfold esU esL
      by_cases b : s.testBit k.toNat = true
      · rw [if_pos b, if_pos b, if_pos b, E_Puzzles_levelled_122 x 2 (by omega) _ _ _ _ _ _ _ _ _ _ _ _ h8 h9, if_neg (show ¬ jI 1 = 0 by decide), it41 x F G k0 (by omega), b_I, pf_144_1, Option.bind_some, if_neg (show ¬ jI 1 = 0 by decide), lit_1, pf_144_2, Option.bind_some, sA_eq, sA_sA]
      · have := oS_pos k0 k1 b
        rw [if_neg b, if_neg b, if_neg b, E_Puzzles_levelled_122 x 2 (by omega) _ _ _ _ _ _ _ _ _ _ _ _ h8 h9, if_pos (by decide), pf_144_1, Option.bind_some, if_pos (by decide), lit_1, C_max _ _ _ (by unfold rg; omega) (by unfold rg; omega), b_I, Int.max_eq_right this, pf_144_2, Option.bind_some, sA_eq, sA_sA]
    · intro j j0 j1 ih s hs hI hc d8 d9 h8 h9
      obtain ⟨s', d, z1, z2, z3, z4, z5, z6, z7⟩ := C_lev27 x F G (n2 := jI H) (n3 := jI k) (n := n) (H := H) (j := j) hn0 hn1 hn hw hH0 hH1 0 (by omega) hn0 s hs hI d9 h9
      rw [E_Puzzles_levelled_15 x 2 (by omega) _ _ _ _ _ _ _ _ _ _ _ h8 h9, fI41, Option.bind_some, hn, if_neg (by rw [jI_le (by omega) (by omega) (by omega) (by omega)]; omega), lit_0, z2]
      refine ih s' z3 z4 ?_ _ _ rfl z1
      rcases hc with hc | hc
      · left
        rw [z6 hc]
        exact hc
      · by_cases e : oS s' n = oS s n
        · left
          obtain ⟨e1, e2⟩ := z7 e
          rw [e1]
          intro i i0 i1 hi
          exact e2 i i0 i1 hi
        · right
          omega
  have w0 : wS (F 42) 0 n = 0 := by
    have : wS (F 42) 0 n = sm (fun _ => 0) n := by
      unfold wS
      apply sm_congr
      intro i _ _
      rw [if_neg (by simp)]
    rw [this]
    have := sm_le (f := fun _ => 0) (a := 0) (b := 0) hn0 (fun _ _ _ => ⟨Int.le_refl _, Int.le_refl _⟩)
    omega
  have o0 : oS 0 n = n := by
    have : oS 0 n = sm (fun _ => 1) n := by
      unfold oS
      apply sm_congr
      intro i _ _
      rw [if_neg (by simp)]
    rw [this]
    have := sm_le (f := fun _ => 1) (a := 1) (b := 1) hn0 (fun _ _ _ => ⟨Int.le_refl _, Int.le_refl _⟩)
    omega
  obtain ⟨s', z1, z2, z3⟩ := key 0 (by omega) hn0 0 (by omega) ⟨by omega, fun i _ _ h => by simp at h⟩ (Or.inr (by omega)) none none rfl rfl
  refine ⟨s', z1, z2, ?_⟩
  have e0 : H - wS (F 42) 0 n = H := by omega
  rw [e0, o0] at z3
  rw [E_Puzzles_levelled, isO_144, if_pos rfl, fI41, Option.bind_some, hn, lit_0]
  exact z3
theorem C_lowest {a b : Int} (ha0 : 0 ≤ a) (ha1 : a ≤ 1000000000) (hb0 : 1 ≤ b) (hb1 : b ≤ 1000000000) : m_M x k_Puzzles_lowestTerms [.ref 144, .int (jI a), .int (jI b)] (mk F G) = some (none, mk (sA F 144 (u (u (F 144) 1 (a / (Int.gcd a b : Int))) 2 (b / (Int.gcd a b : Int)))) G) := by
  have g0 : 0 < Int.gcd a b := Int.gcd_pos_of_ne_zero_right a (by omega)
  have g1 : Int.gcd a b ≤ b.natAbs := Nat.le_of_dvd (by omega) (Int.gcd_dvd_natAbs_right a b)
  have hp : a.natAbs * b.natAbs < 2 ^ 62 := by
    have : a.natAbs * b.natAbs ≤ 1000000000 * 1000000000 := Nat.mul_le_mul (by omega) (by omega)
    omega
  rw [E_Puzzles_lowestTerms, isO_144, if_pos rfl, C_commonOf x F G (by omega) (by omega) hp, b_I, lit_1, C_max _ _ _ (by unfold rg; omega) (by unfold rg; omega), b_I, Int.max_eq_right (by omega), lit_0]
  generalize Int.gcd a b = g at *
  rw [if_neg (by rw [jI_eq (by omega) (by omega) (by omega) (by omega)]; omega), jI_div (by omega) (by omega) (by omega) (by omega), jI_div (by omega) (by omega) (by omega) (by omega), pf_144_1, Option.bind_some, if_neg (by rw [jI_eq (by omega) (by omega) (by omega) (by omega)]; omega), pf_144_2, Option.bind_some, sA_eq, sA_sA, td ha0, td (by omega)]
end
