-- estate: the class's share, the model's parts, both alike
theorem Nat_two_pow_bit {f k i : Nat} : (f % 2 ^ k).testBit i = (decide (i < k) && f.testBit i) := Nat.testBit_mod_two_pow f k i
theorem pc_oS : ∀ n : Fin 7, ∀ s : Fin 64, s.val < 2 ^ n.val → (n.val : Int) - (pcN s.val : Int) = oS s.val n.val ∧ (s.val = 2 ^ n.val - 1 ↔ oS s.val n.val = 0) := by decide +kernel
theorem q_mul {a b m : Int} (hm : 0 < m) : (m * a) / (Int.gcd (m * a) (m * b) : Int) = a / (Int.gcd a b : Int) ∧ (m * b) / (Int.gcd (m * a) (m * b) : Int) = b / (Int.gcd a b : Int) := by
  have e : (Int.gcd (m * a) (m * b) : Int) = m * (Int.gcd a b : Int) := by
    rw [Int.gcd_mul_left, Int.natCast_mul]
    congr 1
    omega
  rw [e]
  exact ⟨Int.mul_ediv_mul_of_pos _ _ hm, Int.mul_ediv_mul_of_pos _ _ hm⟩
def esH (al e : Int) : Int := if 2 * e ≤ al then 2 * e else 2 * max 0 (al - e)
def esA (al e U L w : Int) : Int := if 2 * e ≤ al then U else 2 * L * w - U
section
variable (x : m_X) (F G : Nat → Fn)
theorem es_r {w : Fn} {n H k : Int} {s : Nat} (hn0 : 0 ≤ n) (hn1 : n ≤ 6) (hw : ∀ i, 0 ≤ i → i < n → 0 ≤ w i ∧ w i ≤ 9999) (hH1 : H ≤ 200000) (k0 : 0 ≤ k) (k1 : k < n) (hI : IV w n H s) (hC : CL w n H s) : (0 ≤ esU w n H s k ∧ esU w n H s k ≤ 200000) ∧ (1 ≤ esL n s k ∧ esL n s k ≤ 6) ∧ 0 ≤ 2 * esL n s k * w k - esU w n H s k ∧ 2 * esL n s k * w k - esU w n H s k ≤ 119988 := by
  have hk := hw k k0 k1
  have r1 := wS_r (w := w) (s := s) hn0 hw
  have r2 := oS_r s hn0
  unfold esU esL
  by_cases b : s.testBit k.toNat = true
  · rw [if_pos b, if_pos b]
    omega
  · rw [if_neg b, if_neg b]
    have m1 := oS_pos k0 k1 b
    have c1 := hC k k0 k1 b
    have i1 := hI.1
    have p2 : w k * oS s n ≤ 9999 * 6 := Int.mul_le_mul hk.2 (by omega) r2.1 (by omega)
    have e : 2 * oS s n * w k = 2 * (w k * oS s n) := by rw [Int.mul_assoc, Int.mul_comm (oS s n)]
    rw [e]
    omega
theorem C_share {n e k : Int} (hn0 : 0 ≤ n) (hn1 : n ≤ 6) (hn : F 41 1 = n) (hw : ∀ i, 0 ≤ i → i < n → 0 ≤ F 42 i ∧ F 42 i ≤ 9999) (he0 : 0 ≤ e) (he1 : e ≤ 9999) (k0 : 0 ≤ k) (k1 : k < n) : ∃ (s : Nat) (F2 : Nat → Fn), IV (F 42) n (esH (sm (F 42) n) e) s ∧ CL (F 42) n (esH (sm (F 42) n) e) s ∧ m_M x k_Puzzles_share [.ref 144, .ref 41, .int (jI e), .int (jI k)] (mk F G) = some (none, mk F2 G) ∧ (∀ b, ¬ b = 144 → F2 b = F b) ∧ F2 144 1 = esA (sm (F 42) n) e (esU (F 42) n (esH (sm (F 42) n) e) s k) (esL n s k) (F 42 k) / (Int.gcd (esA (sm (F 42) n) e (esU (F 42) n (esH (sm (F 42) n) e) s k) (esL n s k) (F 42 k)) (2 * esL n s k) : Int) ∧ F2 144 2 = 2 * esL n s k / (Int.gcd (esA (sm (F 42) n) e (esU (F 42) n (esH (sm (F 42) n) e) s k) (esL n s k) (F 42 k)) (2 * esL n s k) : Int) := by
  have sr : ∀ i, 0 ≤ i → i ≤ n → 0 ≤ sm (F 42) i ∧ sm (F 42) i ≤ 59994 := by
    intro i i0 i1
    have := sm_le (f := F 42) (a := 0) (b := 9999) i0 (fun j j0 j1 => hw j j0 (by omega))
    omega
  have ar := sr n hn0 (Int.le_refl _)
  have loop : ∀ i, 0 ≤ i → i ≤ n → m_D x 4 k_Puzzles_share 6 [some (.ref 144), some (.ref 41), some (.int (jI e)), some (.int (jI k)), some (.int (jI (sm (F 42) i))), some (.int (jI i))] [] (mk F G) = m_D x 4 k_Puzzles_share 6 [some (.ref 144), some (.ref 41), some (.int (jI e)), some (.int (jI k)), some (.int (jI (sm (F 42) n))), some (.int (jI n))] [] (mk F G) := by
    apply down
    · rfl
    · intro i i0 i1 ih
      rw [sm_s _ i0] at ih
      rw [E_Puzzles_share_6 x 4 (by omega), fI41, Option.bind_some, hn, if_neg (by rw [jI_le (by omega) (by omega) (by omega) (by omega)]; omega), it41 x F G i0 (by omega), b_I, lit_1, jI_add, jI_add]
      exact ih
  rw [E_Puzzles_share, isO_144, if_pos rfl]
  have l0 := loop 0 (by omega) hn0
  rw [sm_0] at l0
  rw [lit_0, l0, E_Puzzles_share_6 x 4 (by omega), fI41, Option.bind_some, hn, if_pos (Int32.le_refl _), lit_2, jI_mul]
  by_cases q : 2 * e ≤ sm (F 42) n
  · rw [if_neg (by rw [jI_lt (by omega) (by omega) (by omega) (by omega)]; omega)]
    unfold esH esA
    simp only [if_pos q]
    obtain ⟨s, z1, z2, z3⟩ := C_levelled x F G (n := n) (H := 2 * e) (k := k) hn0 hn1 hn hw (by omega) (by omega) k0 k1
    obtain ⟨b1, b2, b3⟩ := es_r hn0 hn1 hw (by omega) k0 k1 z1 z2
    rw [z3, b_V, fI_144_1, Option.bind_some, fI_144_2, Option.bind_some, sA_eq, u_eq, u_ne _ _ (by omega), u_eq, jI_mul, C_lowest x _ G (by omega) (by omega) (by omega) (by omega), b_V]
    refine ⟨s, _, z1, z2, rfl, ?_, ?_, ?_⟩
    · intro b hb
      rw [sA_ne _ _ hb, sA_ne _ _ hb]
    · rw [sA_eq, u_ne _ _ (by omega), u_eq]
    · rw [sA_eq, u_eq]
  · rw [if_pos (by rw [jI_lt (by omega) (by omega) (by omega) (by omega)]; omega), jI_sub, lit_0, C_max x F G (by unfold rg; omega) (by unfold rg; omega), b_I, jI_mul]
    unfold esH esA
    simp only [if_neg q]
    have hm : 0 ≤ max 0 (sm (F 42) n - e) ∧ max 0 (sm (F 42) n - e) ≤ 59994 := by omega
    obtain ⟨s, z1, z2, z3⟩ := C_levelled x F G (n := n) (H := 2 * max 0 (sm (F 42) n - e)) (k := k) hn0 hn1 hn hw (by omega) (by omega) k0 k1
    obtain ⟨b1, b2, b3⟩ := es_r hn0 hn1 hw (by omega) k0 k1 z1 z2
    rw [z3, b_V, fI_144_2, Option.bind_some, it41 x _ G k0 (by omega), b_I, fI_144_1, Option.bind_some, fI_144_2, Option.bind_some, sA_eq, u_eq, u_ne _ _ (by omega), u_eq, sA_ne (b := 42) _ _ (by omega), jI_mul, jI_mul, jI_sub, C_lowest x _ G (by omega) (by omega) (by omega) (by omega), b_V]
    refine ⟨s, _, z1, z2, rfl, ?_, ?_, ?_⟩
    · intro b hb
      rw [sA_ne _ _ hb, sA_ne _ _ hb]
    · rw [sA_eq, u_ne _ _ (by omega), u_eq]
    · rw [sA_eq, u_eq]
/-- the model: who could be settled now -/
theorem M_pa62 {w : Fn} {n H : Int} {s : Nat} (hn0 : 0 ≤ n) (hn1 : n ≤ 6) (hn : F 150 5 = n) (ha : ∀ i, 0 ≤ i → i < n → F 150 (134 + i) = w i) (hw : ∀ i, 0 ≤ i → i < n → 0 ≤ w i ∧ w i ≤ 9999) (hH0 : 0 ≤ H) (hH1 : H ≤ 200000) (hs : s < 64) (hI : IV w n H s) : ∀ i, 0 ≤ i → i ≤ n → ∀ f : Nat, f < 2 ^ i.toNat → (∀ j, 0 ≤ j → j < i → (f.testBit j.toNat = true ↔ ¬ s.testBit j.toNat = true ∧ w j * oS s n ≤ H - wS w s n)) → ∃ f' : Nat, f' < 2 ^ n.toNat ∧ (∀ j, 0 ≤ j → j < n → (f'.testBit j.toNat = true ↔ ¬ s.testBit j.toNat = true ∧ w j * oS s n ≤ H - wS w s n)) ∧ m_D x 2 k_M_partAlike 62 [some (.ref 149), some (.long (jL H)), none, some (.long (jL (H - wS w s n))), none, some (.int (jI (s : Int))), some (.int (jI (oS s n))), some (.int (jI (f : Int))), some (.int (jI i))] [] (mk F G) = (if f' = 0 then some (none, mk F G) else m_D x 2 k_M_partAlike 128 [some (.ref 149), some (.long (jL H)), none, some (.long (jL (H - wS w s n))), none, some (.int (jI (s : Int))), some (.int (jI (oS s n))), some (.int (jI (f' : Int))), some (.int (jI 0))] [] (mk F G)) := by
  have r1 := wS_r (w := w) (s := s) hn0 hw
  have r2 := oS_r s hn0
  have i5 : m_ia x (mk F G) 150 (jI 5) = some (jI n) := by rw [ia_150 x F G (by omega) (by omega), hn]
  apply down
  · intro f hf hb
    refine ⟨f, hf, hb, ?_⟩
    have l : f < 64 := Nat.lt_of_lt_of_le hf (show 2 ^ n.toNat ≤ 2 ^ 6 from Nat.pow_le_pow_right (by omega) (by omega))
    rw [E_M_partAlike_62 x 2 (by omega), fR_149_0, Option.bind_some, lit_5, i5, Option.bind_some, if_pos (Int32.le_refl _), lit_0]
    by_cases q : f = 0
    · rw [if_pos q, if_pos (by rw [q]; rfl)]
    · rw [if_neg q, if_neg (by rw [jI_eq (by omega) (by omega) (by omega) (by omega)]; omega)]
  · intro i i0 i1 ih f hf hb
    have hwi := hw i i0 i1
    have p1 : 0 ≤ w i * oS s n := Int.mul_nonneg hwi.1 r2.1
    have p2 : w i * oS s n ≤ 9999 * 6 := Int.mul_le_mul hwi.2 (by omega) r2.1 (by omega)
    have ei : (i + 1).toNat = i.toNat + 1 := by omega
    have hf2 : f < 2 ^ (i + 1).toNat := by rw [ei, Nat.pow_succ]; omega
    have fb : ¬ f.testBit i.toNat = true := by rw [Nat.testBit_lt_two_pow hf]; decide
    have no : (¬ (¬ s.testBit i.toNat = true ∧ w i * oS s n ≤ H - wS w s n)) → ∀ j, 0 ≤ j → j < i + 1 → (f.testBit j.toNat = true ↔ ¬ s.testBit j.toNat = true ∧ w j * oS s n ≤ H - wS w s n) := by
      intro h j j0 j1
      by_cases e : j = i
      · rw [e]
        exact ⟨fun z => absurd z fb, fun z => absurd z h⟩
      · exact hb j j0 (by omega)
    rw [E_M_partAlike_62 x 2 (by omega), fR_149_0, Option.bind_some, lit_5, i5, Option.bind_some, if_neg (by rw [jI_le (by omega) (by omega) (by omega) (by omega)]; omega), M_has x F G i0 (by omega), b_I, lit_1, jI_add, lit_134]
    by_cases b : s.testBit i.toNat = true
    · rw [if_pos b, if_neg (show ¬ jI 1 = 0 by decide)]
      exact ih f hf2 (no (fun h => h.1 b))
    · rw [if_neg b, if_pos (show jI 0 = 0 by decide), fR_149_0, Option.bind_some, jI_add, ia_150 x F G (by omega) (by omega), Option.bind_some, ha i i0 i1, jI_toL (by omega) (by omega), jI_toL (by omega) (by omega), jL_mul]
      by_cases q : H - wS w s n < w i * oS s n
      · rw [if_pos (by rw [jL_lt (by omega) (by omega) (by omega) (by omega)]; exact q)]
        exact ih f hf2 (no (fun h => by omega))
      · have en : i = ((i.toNat : Nat) : Int) := by omega
        have esh : jI (f : Int) ||| (jI 1 <<< (jI i &&& jI 31)) = jI ((f ||| 2 ^ i.toNat : Nat) : Int) := by
          rw [en, nshl (by omega), nor, Int.toNat_natCast]
        rw [if_neg (by rw [jL_lt (by omega) (by omega) (by omega) (by omega)]; exact q), lit_31, esh]
        refine ih (f ||| 2 ^ i.toNat) ?_ ?_
        · refine Nat.or_lt_two_pow hf2 ?_
          rw [ei]
          exact Nat.pow_lt_pow_right (by omega) (by omega)
        · intro j j0 j1
          rw [tb_or i0 j0]
          by_cases e : j = i
          · rw [e]
            exact ⟨fun _ => ⟨b, by omega⟩, fun _ => Or.inr rfl⟩
          · rw [hb j j0 (by omega)]
            exact ⟨fun z => z.resolve_right e, fun z => Or.inl z⟩
/-- the model: they are settled one after another -/
theorem M_pa128 {w : Fn} {n H : Int} {s f : Nat} (hn0 : 0 ≤ n) (hn1 : n ≤ 6) (hn : F 150 5 = n) (ha : ∀ i, 0 ≤ i → i < n → F 150 (134 + i) = w i) (hw : ∀ i, 0 ≤ i → i < n → 0 ≤ w i ∧ w i ≤ 9999) (hH0 : 0 ≤ H) (hH1 : H ≤ 200000) (hs : s < 2 ^ n.toNat) (hf : f < 2 ^ n.toNat) (hf0 : ¬ f = 0) (hb : ∀ j, 0 ≤ j → j < n → (f.testBit j.toNat = true ↔ ¬ s.testBit j.toNat = true ∧ w j * oS s n ≤ H - wS w s n)) : ∀ i, 0 ≤ i → i ≤ n → IV w n H (s ||| f % 2 ^ i.toNat) → (∀ j, i ≤ j → j < n → f.testBit j.toNat = true → w j * oS (s ||| f % 2 ^ i.toNat) n ≤ H - wS w (s ||| f % 2 ^ i.toNat) n) → (oS (s ||| f % 2 ^ i.toNat) n ≤ oS s n ∧ (oS (s ||| f % 2 ^ i.toNat) n = oS s n → ∀ j, 0 ≤ j → j < i → ¬ f.testBit j.toNat = true)) → (IV w n H (s ||| f) ∧ oS (s ||| f) n < oS s n ∧ m_D x 2 k_M_partAlike 128 [some (.ref 149), some (.long (jL H)), none, some (.long (jL (H - wS w (s ||| f % 2 ^ i.toNat) n))), none, some (.int (jI (s : Int))), some (.int (jI (oS s n))), some (.int (jI (f : Int))), some (.int (jI i))] [] (mk F G) = m_D x 2 k_M_partAlike 15 [some (.ref 149), some (.long (jL H)), none, some (.long (jL (H - wS w (s ||| f) n))), none, some (.int (jI ((s ||| f : Nat) : Int))), some (.int (jI (oS s n))), some (.int (jI (f : Int))), some (.int (jI n))] [] (mk F G)) := by
  have i5 : m_ia x (mk F G) 150 (jI 5) = some (jI n) := by rw [ia_150 x F G (by omega) (by omega), hn]
  apply down
  · intro hI hE hO
    have em : f % 2 ^ n.toNat = f := Nat.mod_eq_of_lt hf
    rw [em] at hI hO ⊢
    refine ⟨hI, ?_, ?_⟩
    · by_cases e : oS (s ||| f) n = oS s n
      · exfalso
        apply hf0
        apply Nat.eq_of_testBit_eq
        intro j
        rw [Nat.zero_testBit]
        by_cases hj : j < n.toNat
        · have := hO.2 e j (by omega) (by omega)
          rw [Int.toNat_natCast] at this
          simpa using this
        · exact Nat.testBit_lt_two_pow (Nat.lt_of_lt_of_le hf (Nat.pow_le_pow_right (by omega) (by omega)))
      · omega
    · rw [E_M_partAlike_128 x 2 (by omega), fR_149_0, Option.bind_some, lit_5, i5, Option.bind_some, if_pos (Int32.le_refl _), nor]
  · intro i i0 i1 ih hI hE hO
    have hwi := hw i i0 i1
    have ei : (i + 1).toNat = i.toNat + 1 := by omega
    have r1 := wS_r (w := w) (s := s ||| f % 2 ^ i.toNat) hn0 hw
    rw [E_M_partAlike_128 x 2 (by omega), fR_149_0, Option.bind_some, lit_5, i5, Option.bind_some, if_neg (by rw [jI_le (by omega) (by omega) (by omega) (by omega)]; omega), M_has x F G i0 (by omega), b_I, lit_1, jI_add, lit_134]
    by_cases b : f.testBit i.toNat = true
    · have es : s ||| f % 2 ^ (i + 1).toNat = (s ||| f % 2 ^ i.toNat) ||| 2 ^ i.toNat := by
        apply Nat.eq_of_testBit_eq
        intro j
        rw [ei]
        simp only [Nat.testBit_or, Nat_two_pow_bit, Nat.testBit_two_pow]
        by_cases e : j = i.toNat
        · rw [e]; simp [b]
        · have h1 : (j < i.toNat + 1) = (j < i.toNat) := by apply propext; omega
          have h2 : ¬ i.toNat = j := by omega
          simp [h1, h2]
      have nb : ¬ (s ||| f % 2 ^ i.toNat).testBit i.toNat = true := by
        have := ((hb i i0 i1).1 b).1
        simp only [Nat.testBit_or, Nat_two_pow_bit]
        simpa using this
      have he := hE i (Int.le_refl _) i1 b
      have m1 := oS_pos i0 i1 nb
      have w1 := wS_add (w := w) i0 i1 nb
      have o1 := oS_add i0 i1 nb
      rw [es, w1, o1] at ih
      have ih2 := ih (IV_add hI i0 i1 hwi.1 nb he) (by
        intro j j0 j1 hj
        have := el_add m1 (hE j (by omega) j1 hj) he
        omega) ⟨by omega, fun e => by omega⟩
      refine ⟨ih2.1, ih2.2.1, ?_⟩
      rw [if_pos b, if_neg (show ¬ jI 1 = 0 by decide), fR_149_0, Option.bind_some, jI_add, ia_150 x F G (by omega) (by omega), Option.bind_some, ha i i0 i1, jI_toL (by omega) (by omega), jL_sub]
      have e1 : H - wS w (s ||| f % 2 ^ i.toNat) n - w i = H - (wS w (s ||| f % 2 ^ i.toNat) n + w i) := by omega
      rw [e1]
      exact ih2.2.2
    · have es : s ||| f % 2 ^ (i + 1).toNat = s ||| f % 2 ^ i.toNat := by
        apply Nat.eq_of_testBit_eq
        intro j
        rw [ei]
        simp only [Nat.testBit_or, Nat_two_pow_bit]
        by_cases e : j = i.toNat
        · rw [e]; simp [b]
        · have h1 : (j < i.toNat + 1) = (j < i.toNat) := by apply propext; omega
          simp [h1]
      rw [es] at ih
      have ih2 := ih hI (fun j j0 j1 hj => hE j (by omega) j1 hj) ⟨hO.1, by
        intro e j j0 j1
        by_cases q : j = i
        · rw [q]; exact b
        · exact hO.2 e j j0 (by omega)⟩
      refine ⟨ih2.1, ih2.2.1, ?_⟩
      rw [if_neg b, if_pos (show jI 0 = 0 by decide), llt_0, jL_sub, Int.sub_zero]
      exact ih2.2.2
theorem M_partL {w : Fn} {n H : Int} (hn0 : 0 ≤ n) (hn1 : n ≤ 6) (hn : F 150 5 = n) (ha : ∀ i, 0 ≤ i → i < n → F 150 (134 + i) = w i) (hw : ∀ i, 0 ≤ i → i < n → 0 ≤ w i ∧ w i ≤ 9999) (hH0 : 0 ≤ H) (hH1 : H ≤ 200000) : ∀ fuel : Nat, ∀ s : Nat, oS s n < fuel → s < 2 ^ n.toNat → IV w n H s → ∀ G d6 d7 d8, m_nl d6 = true → m_nl d7 = true → m_nl d8 = true → ∃ (s' : Nat) (G2 : Nat → Fn), IV w n H s' ∧ CL w n H s' ∧ m_D x 2 k_M_partAlike 15 [some (.ref 149), some (.long (jL H)), none, some (.long (jL (H - wS w s n))), none, some (.int (jI (s : Int))), d6, d7, d8] [] (mk F G) = some (none, mk F G2) ∧ G2 149 31 = (if oS s' n = 0 then 1000000000 else H - wS w s' n) ∧ G2 149 32 = (if oS s' n = 0 then 1 else oS s' n) := by
  intro fuel
  induction fuel with
  | zero =>
    intro s h
    have := oS_r s hn0
    omega
  | succ fuel ih =>
    intro s hfu hs hI G d6 d7 d8 h6 h7 h8
    have i5 : m_ia x (mk F G) 150 (jI 5) = some (jI n) := by rw [ia_150 x F G (by omega) (by omega), hn]
    have hs2 : s < 64 := Nat.lt_of_lt_of_le hs (show 2 ^ n.toNat ≤ 2 ^ 6 from Nat.pow_le_pow_right (by omega) (by omega))
    have pcs := pc_oS ⟨n.toNat, by omega⟩ ⟨s, hs2⟩ hs
    simp only at pcs
    have en : ((n.toNat : Nat) : Int) = n := by omega
    rw [en] at pcs
    have hsh : jI 1 <<< (jI n &&& jI 31) - jI 1 = jI ((2 ^ n.toNat - 1 : Nat) : Int) := by
      have := nshl (n := n.toNat) (by omega)
      rw [en] at this
      rw [this, jI_sub]
      congr 1
      have : 1 ≤ 2 ^ n.toNat := Nat.one_le_two_pow
      omega
    have hp : 2 ^ n.toNat ≤ 2 ^ 6 := Nat.pow_le_pow_right (by omega) (by omega)
    have r2 := oS_r s hn0
    rw [E_M_partAlike_15 x 2 (by omega) _ _ _ _ _ _ _ _ h6 h7 h8, fR_149_0, Option.bind_some, Option.bind_some, lit_5, i5, Option.bind_some, Option.bind_some, lit_1, lit_31, hsh]
    by_cases q : s = 2 ^ n.toNat - 1
    · have o0 := pcs.2.1 q
      rw [if_pos (by rw [q]), show (1000000000 : Int64) = jL 1000000000 from by decide, pf_149_31, Option.bind_some, llt_1, pf_149_32, Option.bind_some]
      refine ⟨s, _, hI, ?_, rfl, ?_, ?_⟩
      · intro i i0 i1 hi
        have := oS_pos i0 i1 hi
        omega
      · rw [sA_eq, u_ne _ _ (by omega), sA_eq, u_eq, if_pos o0]
      · rw [sA_eq, u_eq, if_pos o0]
    · have o0 : ¬ oS s n = 0 := fun h => q (pcs.2.2 h)
      rw [if_neg (by rw [jI_eq (by omega) (by omega) (by omega) (by omega)]; omega), M_bits x F G (by omega), b_I, jI_sub, pcs.1, pf_149_31, Option.bind_some, jI_toL (by omega) (by omega), pf_149_32, Option.bind_some, lit_0]
      generalize hG : sA (sA G 149 (u (G 149) 31 (H - wS w s n))) 149 (u (sA G 149 (u (G 149) 31 (H - wS w s n)) 149) 32 (oS s n)) = G1
      have g1 : G1 149 31 = H - wS w s n := by rw [← hG, sA_eq, u_ne _ _ (by omega), sA_eq, u_eq]
      have g2 : G1 149 32 = oS s n := by rw [← hG, sA_eq, u_eq]
      obtain ⟨f, f1, f2, f3⟩ := M_pa62 x F G1 (w := w) (n := n) (H := H) (s := s) hn0 hn1 hn ha hw hH0 hH1 hs2 hI 0 (by omega) hn0 0 (by decide) (fun j _ _ => by omega)
      replace f3 : m_D x 2 k_M_partAlike 62 [some (.ref 149), some (.long (jL H)), none, some (.long (jL (H - wS w s n))), none, some (.int (jI (s : Int))), some (.int (jI (oS s n))), some (.int (jI 0)), some (.int (jI 0))] [] (mk F G1) = _ := f3
      rw [f3]
      by_cases f0 : f = 0
      · rw [if_pos f0]
        refine ⟨s, G1, hI, ?_, rfl, ?_, ?_⟩
        · intro i i0 i1 hi
          by_cases z : H - wS w s n < w i * oS s n
          · exact z
          · have := (f2 i i0 i1).2 ⟨hi, by omega⟩
            rw [f0] at this
            simp at this
        · rw [g1, if_neg o0]
        · rw [g2, if_neg o0]
      · rw [if_neg f0]
        have m0 : s ||| f % 2 ^ (0 : Int).toNat = s := by simp [Nat.mod_one]
        obtain ⟨z1, z2, z3⟩ := M_pa128 x F G1 (w := w) (n := n) (H := H) (s := s) (f := f) hn0 hn1 hn ha hw hH0 hH1 hs f1 f0 f2 0 (by omega) hn0 (by rw [m0]; exact hI) (by
          intro j j0 j1 hj
          rw [m0]
          exact ((f2 j j0 j1).1 hj).2) ⟨by rw [m0]; omega, fun _ j _ _ => by omega⟩
        rw [m0] at z3
        rw [z3]
        exact ih (s ||| f) (by omega) (Nat.or_lt_two_pow hs f1) z1 G1 _ _ _ rfl rfl rfl
theorem M_partAlike {w : Fn} {n H : Int} (hn0 : 0 ≤ n) (hn1 : n ≤ 6) (hn : F 150 5 = n) (ha : ∀ i, 0 ≤ i → i < n → F 150 (134 + i) = w i) (hw : ∀ i, 0 ≤ i → i < n → 0 ≤ w i ∧ w i ≤ 9999) (hH0 : 0 ≤ H) (hH1 : H ≤ 200000) : ∃ (s' : Nat) (G2 : Nat → Fn), IV w n H s' ∧ CL w n H s' ∧ m_M x k_M_partAlike [.ref 149, .long (jL H)] (mk F G) = some (none, mk F G2) ∧ G2 149 31 = (if oS s' n = 0 then 1000000000 else H - wS w s' n) ∧ G2 149 32 = (if oS s' n = 0 then 1 else oS s' n) := by
  have w0 : wS w 0 n = 0 := by
    have : wS w 0 n = sm (fun _ => 0) n := by
      unfold wS
      apply sm_congr
      intro i _ _
      rw [if_neg (by simp)]
    rw [this]
    have := sm_le (f := fun _ => 0) (a := 0) (b := 0) hn0 (fun _ _ _ => ⟨Int.le_refl _, Int.le_refl _⟩)
    omega
  have r2 := oS_r 0 hn0
  rw [E_M_partAlike, isO_149, if_pos rfl, llt_0, pf_149_31, Option.bind_some, llt_1, pf_149_32, Option.bind_some, lit_0]
  obtain ⟨s', G2, z1, z2, z3, z4, z5⟩ := M_partL x F (w := w) (n := n) (H := H) hn0 hn1 hn ha hw hH0 hH1 8 0 (by omega) Nat.one_le_two_pow ⟨by omega, fun i _ _ h => by simp at h⟩ (sA (sA G 149 (u (G 149) 31 0)) 149 (u (sA G 149 (u (G 149) 31 0) 149) 32 1)) none none none rfl rfl rfl
  have e0 : H - wS w 0 n = H := by omega
  rw [e0] at z3
  exact ⟨s', G2, z1, z2, z3, z4, z5⟩
end
