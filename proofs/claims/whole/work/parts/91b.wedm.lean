-- weddings: the small methods
def ahB (c : Fn) (p a b : Int) : Bool := decide (dst c p a < dst c p b ∨ (dst c p a = dst c p b ∧ a < b))
theorem ahB_t {c : Fn} {p a b : Int} : ahB c p a b = true ↔ ah c p a b := by
  unfold ahB ah
  simp
theorem dst_r {c : Fn} {p q : Int} (hi : WI c) (p0 : 0 ≤ p) (p1 : p < 7) (q0 : 0 ≤ q) (q1 : q < 7) : 0 ≤ dst c p q ∧ dst c p q ≤ 9 := by
  have a := WI_p hi p0 p1
  have b := WI_p hi q0 q1
  unfold dst
  split <;> omega
def nxN (c : Fn) (p : Int) (a : Nat) (m : Int) : Nat → Int
  | 0 => -1
  | n + 1 => if a.testBit (m + n).toNat = true then nxN c p a m n else if nxN c p a m n = -1 ∨ ahB c p (m + n) (nxN c p a m n) = true then m + n else nxN c p a m n
theorem nx_r {c : Fn} {p : Int} {a : Nat} {m : Int} (hm : 0 ≤ m) : ∀ n : Nat, nxN c p a m n = -1 ∨ (m ≤ nxN c p a m n ∧ nxN c p a m n < m + n ∧ ¬ a.testBit (nxN c p a m n).toNat = true) := by
  intro n
  induction n with
  | zero => exact Or.inl rfl
  | succ n ih =>
    rw [nxN]
    by_cases q : a.testBit (m + n).toNat = true
    · rw [if_pos q]
      rcases ih with ih | ih
      · exact Or.inl ih
      · exact Or.inr ⟨ih.1, by omega, ih.2.2⟩
    · rw [if_neg q]
      by_cases q2 : nxN c p a m n = -1 ∨ ahB c p (m + n) (nxN c p a m n) = true
      · rw [if_pos q2]
        exact Or.inr ⟨by omega, by omega, q⟩
      · rw [if_neg q2]
        rcases ih with ih | ih
        · exact Or.inl ih
        · exact Or.inr ⟨ih.1, by omega, ih.2.2⟩
theorem nx_b {c : Fn} {p : Int} {a : Nat} {m : Int} (hm : 0 ≤ m) : ∀ n : Nat, ∀ r, m ≤ r → r < m + n → ¬ a.testBit r.toNat = true → ¬ nxN c p a m n = -1 ∧ (r = nxN c p a m n ∨ ah c p (nxN c p a m n) r) := by
  intro n
  induction n with
  | zero => intro r r0 r1; omega
  | succ n ih =>
    intro r r0 r1 hr
    have rr := nx_r (c := c) (p := p) (a := a) hm n
    rw [nxN]
    by_cases q : a.testBit (m + n).toNat = true
    · rw [if_pos q]
      refine ih r r0 ?_ hr
      by_cases e : r = m + n
      · rw [e] at hr; exact absurd q hr
      · omega
    · rw [if_neg q]
      by_cases q2 : nxN c p a m n = -1 ∨ ahB c p (m + n) (nxN c p a m n) = true
      · rw [if_pos q2]
        refine ⟨by omega, ?_⟩
        by_cases e : r = m + n
        · exact Or.inl e
        · right
          have i := ih r r0 (by omega) hr
          rcases q2 with q2 | q2
          · exact absurd q2 i.1
          · rw [ahB_t] at q2
            rcases i.2 with i | i
            · rw [i]; exact q2
            · exact ah_tr q2 i
      · rw [if_neg q2]
        by_cases e : r = m + n
        · refine ⟨fun h => q2 (Or.inl h), Or.inr ?_⟩
          rw [e]
          refine ah_to (by omega) ?_
          intro h
          exact q2 (Or.inr (ahB_t.2 h))
        · exact ih r r0 (by omega) hr
section
variable (x : m_X) (F G : Nat → Fn)
theorem C_isAhead {p a b : Int} (hi : WI (F 2)) (p0 : 0 ≤ p) (p1 : p < 7) (a0 : 0 ≤ a) (a1 : a < 7) (b0 : 0 ≤ b) (b1 : b < 7) : m_M x k_Weddings_isAhead [.ref 1, .int (jI p), .int (jI a), .int (jI b)] (mk F G) = some (some (.int (jI (if ahB (F 2) p a b then 1 else 0))), mk F G) := by
  have hp := WI_p hi p0 p1
  have ha := WI_p hi a0 a1
  have hb := WI_p hi b0 b1
  have da := dst_r (p := p) (q := a) hi p0 p1 a0 a1
  have db := dst_r (p := p) (q := b) hi p0 p1 b0 b1
  have t1 := C_at x F G (w := 1) (p := 1) (i := p) (Or.inl rfl) (by omega) (by omega)
  have t2 := C_at x F G (w := 1) (p := 1) (i := a) (Or.inl rfl) (by omega) (by omega)
  have t3 := C_at x F G (w := 1) (p := 1) (i := b) (Or.inl rfl) (by omega) (by omega)
  have s1 := C_abs x F G (a := F 2 (1 + p) - F 2 (1 + a)) (by omega) (by omega)
  have s2 := C_abs x F G (a := F 2 (1 + p) - F 2 (1 + b)) (by omega) (by omega)
  simp only [Nat.reduceAdd] at t1 t2 t3
  rw [E_Weddings_isAhead, lit_1, t1, b_I, t2, b_I, jI_sub, s1, b_I, t1, b_I, t3, b_I, jI_sub, s2, b_I]
  show (if jI (dst (F 2) p a) < jI (dst (F 2) p b) then _ else _) = _
  change (if jI (dst (F 2) p a) < jI (dst (F 2) p b) then _ else if jI (dst (F 2) p a) = jI (dst (F 2) p b) then _ else _) = _
  simp (disch := omega) only [jI_lt, jI_le, jI_eq]
  unfold ahB
  simp only [decide_eq_true_eq]
  by_cases q : dst (F 2) p a < dst (F 2) p b
  · rw [if_pos q, if_pos (Or.inl q)]
  · rw [if_neg q]
    by_cases q2 : dst (F 2) p a = dst (F 2) p b
    · rw [if_pos q2]
      by_cases q3 : b ≤ a
      · rw [if_pos q3, if_neg (by omega)]; rfl
      · rw [if_neg q3, if_pos (by omega)]
    · rw [if_neg q2, if_neg (by omega)]; rfl
theorem M_isRather {c : Fn} {p a b : Int} (hv : ∀ k, vok k → V (F 150) k = c k) (hi : WI c) (p0 : 0 ≤ p) (p1 : p < 7) (a0 : 0 ≤ a) (a1 : a < 7) (b0 : 0 ≤ b) (b1 : b < 7) : m_M x k_M_isRather [.ref 149, .int (jI p), .int (jI a), .int (jI b)] (mk F G) = some (some (.int (jI (if ahB c p a b then 1 else 0))), mk F G) := by
  have da := dst_r (p := p) (q := a) hi p0 p1 a0 a1
  have db := dst_r (p := p) (q := b) hi p0 p1 b0 b1
  have wv := WIV_of hi (fun k hk => (hv k hk).symm)
  have t1 := M_apart x F G (p := p) (q := a) wv p0 p1 a0 a1
  have t2 := M_apart x F G (p := p) (q := b) wv p0 p1 b0 b1
  rw [hv (1 + p) (by unfold vok; omega), hv (1 + a) (by unfold vok; omega)] at t1
  rw [hv (1 + p) (by unfold vok; omega), hv (1 + b) (by unfold vok; omega)] at t2
  have t3 : m_M x k_M_apart [.ref 149, .int (jI p), .int (jI a)] (mk F G) = some (some (.int (jI (dst c p a))), mk F G) := t1
  have t4 : m_M x k_M_apart [.ref 149, .int (jI p), .int (jI b)] (mk F G) = some (some (.int (jI (dst c p b))), mk F G) := t2
  rw [E_M_isRather]
  simp (disch := omega) only [lit_0, lit_1, lit_2, lit_3, lit_4, lit_5, lit_6, lit_7, lit_8, lit_9, lit_10, lit_11, lit_12, lit_13, lit_14, lit_15, lit_16, lit_17, lit_18, lit_19, lit_20, lit_21, lit_22, lit_23, lit_24, lit_25, lit_26, lit_27, lit_28, lit_29, lit_30, lit_31, lit_32, lit_33, lit_34, lit_35, lit_36, lit_37, lit_38, lit_39, lit_40, lit_41, lit_42, lit_43, lit_44, lit_45, lit_46, lit_47, lit_48, lit_49, lit_50, lit_51, lit_52, lit_53, lit_54, lit_55, lit_56, lit_57, lit_58, lit_59, lit_60, lit_61, lit_62, lit_63, lit_64, lit_65, lit_67, lit_70, lit_71, lit_73, lit_75, lit_78, lit_84, lit_85, lit_86, lit_87, lit_89, lit_90, lit_91, lit_95, lit_96, lit_97, lit_98, lit_99, lit_100, lit_101, lit_102, lit_103, lit_104, lit_105, lit_107, lit_108, lit_109, lit_110, lit_111, lit_112, lit_114, lit_115, lit_116, lit_117, lit_119, lit_121, lit_122, lit_126, lit_127, lit_128, lit_130, lit_134, lit_137, lit_139, lit_140, lit_141, lit_145, lit_152, lit_159, lit_160, lit_168, lit_174, lit_180, lit_183, lit_192, lit_199, lit_236, lit_251, lit_255, lit_272, lit_284, lit_300, lit_330, lit_373, lit_753, lit_800, lit_896, lit_900, lit_1000, lit_1001, lit_1002, lit_1003, lit_1079, lit_1276, lit_1330, lit_1450, lit_3012, lit_3016, lit_3300, lit_8430, lit_9999, lit_10000, lit_11730, lit_30467, lit_65536, lit_99999, lit_100000, lit_1000000, lit_252645135, lit_858993459, lit_1000000000, lit_1431655765, jI_add, jI_sub, jI_mul, jI_neg, jI_lt, jI_le, jI_eq, isO_149, b_I, b_L, b_V, b_R, b_N, b_N0, Option.bind_some, ↓reduceIte, bq0, bq1, bz0, bz1, ite_not, Classical.not_not, t3, t4]
  unfold ahB
  simp only [decide_eq_true_eq]
  by_cases q : dst c p a < dst c p b
  · rw [if_pos (by omega), if_pos (Or.inl q)]
  · rw [if_neg (by omega)]
    by_cases q2 : dst c p a = dst c p b
    · rw [if_pos (by omega)]
      by_cases q3 : b ≤ a
      · rw [if_pos q3, if_neg (by omega)]
      · rw [if_neg q3, if_pos (by omega)]
    · rw [if_neg (by omega), if_neg (by omega)]
theorem C_mateOf {p : Int} (p0 : 0 ≤ p) (p1 : p < 7) : m_M x k_Weddings_mateOf [.ref 138, .int (jI p)] (mk F G) = some (some (.int (jI (F 139 p))), mk F G) := by
  rw [E_Weddings_mateOf]
  simp (disch := omega) only [lit_0, lit_1, lit_2, lit_3, lit_4, lit_5, lit_6, lit_7, lit_8, lit_9, lit_10, lit_11, lit_12, lit_13, lit_14, lit_15, lit_16, lit_17, lit_18, lit_19, lit_20, lit_21, lit_22, lit_23, lit_24, lit_25, lit_26, lit_27, lit_28, lit_29, lit_30, lit_31, lit_32, lit_33, lit_34, lit_35, lit_36, lit_37, lit_38, lit_39, lit_40, lit_41, lit_42, lit_43, lit_44, lit_45, lit_46, lit_47, lit_48, lit_49, lit_50, lit_51, lit_52, lit_53, lit_54, lit_55, lit_56, lit_57, lit_58, lit_59, lit_60, lit_61, lit_62, lit_63, lit_64, lit_65, lit_67, lit_70, lit_71, lit_73, lit_75, lit_78, lit_84, lit_85, lit_86, lit_87, lit_89, lit_90, lit_91, lit_95, lit_96, lit_97, lit_98, lit_99, lit_100, lit_101, lit_102, lit_103, lit_104, lit_105, lit_107, lit_108, lit_109, lit_110, lit_111, lit_112, lit_114, lit_115, lit_116, lit_117, lit_119, lit_121, lit_122, lit_126, lit_127, lit_128, lit_130, lit_134, lit_137, lit_139, lit_140, lit_141, lit_145, lit_152, lit_159, lit_160, lit_168, lit_174, lit_180, lit_183, lit_192, lit_199, lit_236, lit_251, lit_255, lit_272, lit_284, lit_300, lit_330, lit_373, lit_753, lit_800, lit_896, lit_900, lit_1000, lit_1001, lit_1002, lit_1003, lit_1079, lit_1276, lit_1330, lit_1450, lit_3012, lit_3016, lit_3300, lit_8430, lit_9999, lit_10000, lit_11730, lit_30467, lit_65536, lit_99999, lit_100000, lit_1000000, lit_252645135, lit_858993459, lit_1000000000, lit_1431655765, jI_lt, jI_le, jI_eq, isO_138, fR_138_0, fR_138_1, ia_139, b_I, b_L, b_V, b_R, b_N, b_N0, Option.bind_some, ↓reduceIte, bq0, bq1, bz0, bz1, ite_not, Classical.not_not]
  rw [if_neg (by omega), if_neg (by omega)]
theorem C_wouldRather {p o : Int} (hi : WI (F 2)) (p0 : 0 ≤ p) (p1 : p < 7) (o0 : 0 ≤ o) (o1 : o < 7) (h0 : -1 ≤ F 139 p) (h1 : F 139 p < 7) : m_M x k_Weddings_wouldRather [.ref 138, .ref 1, .int (jI p), .int (jI o)] (mk F G) = some (some (.int (jI (if F 139 p = -1 ∨ ahB (F 2) p o (F 139 p) = true then 1 else 0))), mk F G) := by
  rw [E_Weddings_wouldRather, isO_138, if_pos rfl, C_mateOf x F G p0 p1, b_I]
  by_cases q : F 139 p = -1
  · rw [if_pos (by rw [q]; rfl), if_pos (Or.inl q)]
    rfl
  · rw [if_neg (by rw [show (-1 : Int32) = jI (-1) from rfl, jI_eq (by omega) (by omega) (by omega) (by omega)]; exact q), C_isAhead x F G hi p0 p1 o0 o1 (by omega) h1, b_I]
    by_cases q2 : ahB (F 2) p o (F 139 p) = true
    · rw [if_pos q2, if_pos (Or.inr q2)]
      rfl
    · rw [if_neg q2, if_pos (show jI 0 = 0 by decide), if_neg (by rintro (h | h) <;> contradiction)]
      rfl
theorem M_has {a : Nat} {n : Int} (hn0 : 0 ≤ n) (hn1 : n < 32) : m_M x k_M_has [.int (jI (a : Int)), .int (jI n)] (mk F G) = some (some (.int (jI (if a.testBit n.toNat = true then 1 else 0))), mk F G) := by
  rw [E_M_has, lit_31, lit_1]
  simp only [has_1 (a := jI (a : Int)) hn0 hn1, bt_nat a hn0 hn1]
  split <;> rfl
theorem C_next {p m : Int} {a : Nat} (hi : WI (F 2)) (ha : F 140 p = a) (hm0 : 0 ≤ m) (hm1 : m ≤ F 2 0) (p0 : 0 ≤ p) (p1 : p < 7) : m_M x k_Weddings_nextToAsk [.ref 138, .ref 1, .int (jI m), .int (jI p)] (mk F G) = some (some (.int (jI (nxN (F 2) p a m (F 2 0 - m).toNat))), mk F G) := by
  have hc := WI_c hi
  have fw : m_fR (mk F G) 9 0 1 = some 2 := fR_W_0 F G (w := 1) (Or.inl rfl)
  have a2 : m_ia x (mk F G) 2 (jI 0) = some (jI (F 2 0)) := ia_2 x F G (by omega) (by omega)
  have a140 : m_ia x (mk F G) 140 (jI p) = some (jI (a : Int)) := by rw [ia_140 x F G p0 p1, ha]
  have key : ∀ q, m ≤ q → q ≤ F 2 0 → ∀ d6, m_nl d6 = true → m_D x 3 k_Weddings_nextToAsk 6 [some (.ref 138), some (.ref 1), some (.int (jI m)), some (.int (jI p)), some (.int (jI (nxN (F 2) p a m (q - m).toNat))), some (.int (jI q)), d6] [] (mk F G) = some (some (.int (jI (nxN (F 2) p a m (F 2 0 - m).toNat))), mk F G) := by
    apply down
    · intro d6 h6
      rw [E_Weddings_nextToAsk_6 x 3 (by omega) _ _ _ _ _ _ _ _ h6, fw, Option.bind_some, lit_0, a2, Option.bind_some, if_pos (Int32.le_refl _)]
    · intro q q0 q1 ih d6 h6
      have eq : (q + 1 - m).toNat = (q - m).toNat + 1 := by omega
      have eq2 : m + ((q - m).toNat : Int) = q := by omega
      have r := nx_r (c := F 2) (p := p) (a := a) hm0 (q - m).toNat
      rw [eq, nxN, eq2] at ih
      generalize nxN (F 2) p a m (q - m).toNat = b at *
      rw [E_Weddings_nextToAsk_6 x 3 (by omega) _ _ _ _ _ _ _ _ h6]
      simp (disch := omega) only [lit_0, lit_1, lit_2, lit_3, lit_4, lit_5, lit_6, lit_7, lit_8, lit_9, lit_10, lit_11, lit_12, lit_13, lit_14, lit_15, lit_16, lit_17, lit_18, lit_19, lit_20, lit_21, lit_22, lit_23, lit_24, lit_25, lit_26, lit_27, lit_28, lit_29, lit_30, lit_31, lit_32, lit_33, lit_34, lit_35, lit_36, lit_37, lit_38, lit_39, lit_40, lit_41, lit_42, lit_43, lit_44, lit_45, lit_46, lit_47, lit_48, lit_49, lit_50, lit_51, lit_52, lit_53, lit_54, lit_55, lit_56, lit_57, lit_58, lit_59, lit_60, lit_61, lit_62, lit_63, lit_64, lit_65, lit_67, lit_70, lit_71, lit_73, lit_75, lit_78, lit_84, lit_85, lit_86, lit_87, lit_89, lit_90, lit_91, lit_95, lit_96, lit_97, lit_98, lit_99, lit_100, lit_101, lit_102, lit_103, lit_104, lit_105, lit_107, lit_108, lit_109, lit_110, lit_111, lit_112, lit_114, lit_115, lit_116, lit_117, lit_119, lit_121, lit_122, lit_126, lit_127, lit_128, lit_130, lit_134, lit_137, lit_139, lit_140, lit_141, lit_145, lit_152, lit_159, lit_160, lit_168, lit_174, lit_180, lit_183, lit_192, lit_199, lit_236, lit_251, lit_255, lit_272, lit_284, lit_300, lit_330, lit_373, lit_753, lit_800, lit_896, lit_900, lit_1000, lit_1001, lit_1002, lit_1003, lit_1079, lit_1276, lit_1330, lit_1450, lit_3012, lit_3016, lit_3300, lit_8430, lit_9999, lit_10000, lit_11730, lit_30467, lit_65536, lit_99999, lit_100000, lit_1000000, lit_252645135, lit_858993459, lit_1000000000, lit_1431655765, jI_add, jI_sub, jI_mul, jI_neg, jI_lt, jI_le, jI_eq, fw, a2, b_I, b_L, b_V, b_R, b_N, b_N0, Option.bind_some, ↓reduceIte, bq0, bq1, bz0, bz1, ite_not, Classical.not_not, fR_138_1, a140, has_1, bt_nat]
      rw [if_neg (by omega), if_neg (by omega), if_neg (by omega)]
      by_cases h1 : a.testBit q.toNat = true
      · rw [if_pos h1] at ih
        rw [if_pos h1, E_Weddings_nextToAsk_47 x 3 (by omega) _ _ _ _ _ _ _ _ _ h6, if_neg (show ¬ jI 1 = 0 by decide), lit_1, jI_add]
        exact ih _ rfl
      · rw [if_neg h1] at ih
        rw [if_neg h1, E_Weddings_nextToAsk_47 x 3 (by omega) _ _ _ _ _ _ _ _ _ h6, if_pos (show jI 0 = 0 by decide), lit_1, jI_add]
        by_cases h2 : b = -1
        · rw [if_pos (Or.inl h2)] at ih
          rw [if_pos (by rw [h2]; rfl)]
          exact ih _ rfl
        · rw [if_neg (by rw [jI_neg, jI_eq (by omega) (by omega) (by omega) (by omega)]; exact h2), C_isAhead x F G hi p0 p1 (by omega) (by omega) (by omega) (by omega), b_I]
          by_cases h3 : ahB (F 2) p q b = true
          · rw [if_pos (Or.inr h3)] at ih
            simp only [if_pos h3]
            rw [if_neg (show ¬ jI 1 = 0 by decide)]
            exact ih _ rfl
          · rw [if_neg (by rintro (h | h) <;> contradiction)] at ih
            simp only [if_neg h3]
            rw [if_pos (show jI 0 = 0 by decide)]
            exact ih _ rfl
  rw [E_Weddings_nextToAsk, isO_138, if_pos rfl]
  have k0 := key m (by omega) hm1 none rfl
  have e0 : (m - m).toNat = 0 := by omega
  rw [e0] at k0
  exact k0
theorem M_nextOf {c : Fn} {p m : Int} {a : Nat} (hv : ∀ k, vok k → V (F 150) k = c k) (hi : WI c) (hm0 : 0 ≤ m) (hm1 : m ≤ c 0) (p0 : 0 ≤ p) (p1 : p < 7) : m_M x k_M_nextOf [.ref 149, .int (jI p), .int (jI m), .int (jI (a : Int))] (mk F G) = some (some (.int (jI (nxN c p a m (c 0 - m).toNat))), mk F G) := by
  have hc := WI_c hi
  have a2 := va_0 x F G
  rw [hv 0 (by unfold vok; omega)] at a2
  have key : ∀ q, m ≤ q → q ≤ c 0 → m_D x 4 k_M_nextOf 6 [some (.ref 149), some (.int (jI p)), some (.int (jI m)), some (.int (jI (a : Int))), some (.int (jI (nxN c p a m (q - m).toNat))), some (.int (jI q))] [] (mk F G) = some (some (.int (jI (nxN c p a m (c 0 - m).toNat))), mk F G) := by
    apply down
    · rw [E_M_nextOf_6 x 4 (by omega), fR_149_0, Option.bind_some, lit_0, a2, Option.bind_some, if_pos (Int32.le_refl _)]
    · intro q q0 q1 ih
      have eq : (q + 1 - m).toNat = (q - m).toNat + 1 := by omega
      have eq2 : m + ((q - m).toNat : Int) = q := by omega
      have r := nx_r (c := c) (p := p) (a := a) hm0 (q - m).toNat
      rw [eq, nxN, eq2] at ih
      generalize nxN c p a m (q - m).toNat = b at *
      rw [E_M_nextOf_6 x 4 (by omega), fR_149_0, Option.bind_some, lit_0, a2, Option.bind_some, if_neg (by rw [jI_le (by omega) (by omega) (by omega) (by omega)]; omega), M_has x F G (by omega) (by omega), b_I, lit_1, jI_add]
      by_cases h1 : a.testBit q.toNat = true
      · rw [if_pos h1] at ih
        rw [if_pos h1, if_neg j10]
        exact ih
      · rw [if_neg h1] at ih
        rw [if_neg h1, if_pos rfl]
        by_cases h2 : b = -1
        · rw [if_pos (Or.inl h2)] at ih
          rw [if_pos (by rw [h2]; rfl)]
          exact ih
        · rw [if_neg (by rw [jI_neg, jI_eq (by omega) (by omega) (by omega) (by omega)]; exact h2), M_isRather x F G hv hi p0 p1 (by omega) (by omega) (by omega) (by omega), b_I]
          by_cases h3 : ahB c p q b = true
          · rw [if_pos (Or.inr h3)] at ih
            rw [if_pos h3, if_neg j10]
            exact ih
          · rw [if_neg (by rintro (h | h) <;> contradiction)] at ih
            rw [if_neg h3, if_pos rfl]
            exact ih
  rw [E_M_nextOf, isO_149, if_pos rfl]
  have k0 := key m (by omega) hm1
  have e0 : (m - m).toNat = 0 := by omega
  rw [e0] at k0
  exact k0
end
