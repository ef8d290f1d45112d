-- the fewest tries: what both come to
def trW (f : Fn) (s t : Nat) : Int := if s &&& t = 0 ∨ s ^^^ (s &&& t) = 0 then 1000 else 1 + max (f (s &&& t : Nat)) (f (s ^^^ (s &&& t) : Nat))
def trK (f T : Fn) (s : Nat) : Nat → Int × Int
  | 0 => (if pcN s = 1 then 0 else 1000, -1)
  | k + 1 => if trW f s (T k).toNat < (trK f T s k).1 then (trW f s (T k).toNat, (k : Int)) else trK f T s k
/-- tables of tries and of first tests for the sets up to the last one that lie in P; n tests -/
def tab (T : Fn) (n P : Nat) : Nat → Fn × Fn
  | 0 => (fun _ => 0, fun _ => 0)
  | j + 1 => if (j + 1) &&& P = j + 1 then (u (tab T n P j).1 ((j + 1 : Nat) : Int) (trK (tab T n P j).1 T (j + 1) n).1, u (tab T n P j).2 ((j + 1 : Nat) : Int) (trK (tab T n P j).1 T (j + 1) n).2) else tab T n P j
def fok (f : Fn) (P j : Nat) : Prop := ∀ s : Nat, 1 ≤ s → s ≤ j → s &&& P = s → 0 ≤ f s ∧ (f s ≤ s ∨ f s = 1000)
def Tok (T : Fn) (n : Nat) : Prop := ∀ k : Nat, k < n → 0 ≤ T k ∧ T k ≤ 127
theorem parts_lt {s t : Nat} (hs : s < 128) (ht : t < 128) (h1 : ¬ s &&& t = 0) (h2 : ¬ s ^^^ (s &&& t) = 0) : 1 ≤ s &&& t ∧ s &&& t < s ∧ 1 ≤ s ^^^ (s &&& t) ∧ s ^^^ (s &&& t) < s := by
  have q := sub_le ⟨s, hs⟩ ⟨t, ht⟩
  dsimp only at q
  have l := Nat.and_le_left (n := s) (m := t)
  have e : ¬ s &&& t = s := fun h => h2 ((nsub0 s t).2 h)
  have e2 : ¬ s ^^^ (s &&& t) = s := fun h => h1 (q.2 h)
  omega
theorem trW_r {f : Fn} {P s t : Nat} (hf : fok f P (s - 1)) (hs : s &&& P = s) (hs1 : s < 128) (ht : t < 128) : 0 ≤ trW f s t ∧ (trW f s t ≤ s ∨ 1000 ≤ trW f s t) ∧ trW f s t ≤ 1001 := by
  unfold trW
  by_cases q : s &&& t = 0 ∨ s ^^^ (s &&& t) = 0
  · rw [if_pos q]; omega
  · rw [if_neg q]
    have hp := parts_lt hs1 ht (fun h => q (Or.inl h)) (fun h => q (Or.inr h))
    have a := hf (s &&& t) hp.1 (by omega) (sub_and hs)
    have b := hf (s ^^^ (s &&& t)) hp.2.2.1 (by omega) (sub_xor hs)
    omega
theorem trK_r {f T : Fn} {P s n : Nat} (hf : fok f P (s - 1)) (hs : s &&& P = s) (hs1 : s < 128) (hT : Tok T n) : ∀ k : Nat, k ≤ n → 0 ≤ (trK f T s k).1 ∧ ((trK f T s k).1 ≤ s ∨ (trK f T s k).1 = 1000) ∧ -1 ≤ (trK f T s k).2 ∧ (trK f T s k).2 < k := by
  intro k
  induction k with
  | zero =>
    intro _
    rw [trK]
    dsimp only
    split <;> omega
  | succ k ih =>
    intro hk
    have q := ih (by omega)
    have t := hT k (by omega)
    have w := trW_r (t := (T k).toNat) hf hs hs1 (by omega)
    rw [trK]
    split
    · dsimp only; omega
    · omega
theorem tab_r {T : Fn} {n P : Nat} (hT : Tok T n) : ∀ j : Nat, j < 128 → fok (tab T n P j).1 P j := by
  intro j
  induction j with
  | zero => intro _ s s1 s2; omega
  | succ j ih =>
    intro hj s s1 s2 s3
    have q := ih (by omega)
    rw [tab]
    by_cases e : (j + 1) &&& P = j + 1
    · rw [if_pos e]
      dsimp only
      by_cases e2 : s = j + 1
      · rw [e2, u_eq]
        have r := trK_r (f := (tab T n P j).1) (T := T) (s := j + 1) (n := n) q e (by omega) hT n (Nat.le_refl _)
        exact ⟨r.1, r.2.1⟩
      · rw [u_ne _ _ (by omega)]
        exact q s s1 (by omega) s3
    · rw [if_neg e]
      by_cases e2 : s = j + 1
      · rw [e2] at s3; exact absurd s3 e
      · exact q s s1 (by omega) s3
section
variable (x : m_X) (F G : Nat → Fn)
theorem C_known {s : Nat} (h : s < 128) : m_M x k_Puzzles_triesKnown [.ref 144, .int (jI (s : Int))] (mk F G) = some (some (.int (jI (F 145 s))), mk F G) := by
  rw [E_Puzzles_triesKnown]
  simp (disch := omega) only [lit_0, lit_1, lit_2, lit_3, lit_4, lit_5, lit_6, lit_7, lit_8, lit_9, lit_10, lit_11, lit_12, lit_13, lit_14, lit_15, lit_16, lit_17, lit_18, lit_19, lit_20, lit_21, lit_22, lit_23, lit_24, lit_25, lit_26, lit_27, lit_28, lit_29, lit_30, lit_31, lit_32, lit_33, lit_34, lit_35, lit_36, lit_37, lit_38, lit_39, lit_40, lit_41, lit_42, lit_43, lit_44, lit_45, lit_46, lit_47, lit_48, lit_49, lit_50, lit_51, lit_52, lit_53, lit_54, lit_55, lit_56, lit_57, lit_58, lit_59, lit_60, lit_61, lit_62, lit_63, lit_64, lit_65, lit_67, lit_70, lit_71, lit_73, lit_75, lit_78, lit_84, lit_85, lit_86, lit_87, lit_89, lit_90, lit_91, lit_95, lit_96, lit_97, lit_98, lit_99, lit_100, lit_101, lit_102, lit_103, lit_104, lit_105, lit_107, lit_108, lit_109, lit_110, lit_111, lit_112, lit_114, lit_115, lit_116, lit_117, lit_119, lit_121, lit_122, lit_126, lit_127, lit_128, lit_130, lit_134, lit_137, lit_139, lit_140, lit_141, lit_145, lit_152, lit_159, lit_160, lit_168, lit_174, lit_180, lit_183, lit_192, lit_199, lit_236, lit_251, lit_255, lit_272, lit_284, lit_300, lit_330, lit_373, lit_753, lit_800, lit_896, lit_900, lit_1000, lit_1001, lit_1002, lit_1003, lit_1079, lit_1276, lit_1330, lit_1450, lit_3012, lit_3016, lit_3300, lit_8430, lit_9999, lit_10000, lit_11730, lit_30467, lit_65536, lit_99999, lit_100000, lit_1000000, lit_252645135, lit_858993459, lit_1000000000, lit_1431655765, jI_lt, jI_le, jI_eq, isO_144, fI_144_0, pf_144_0, fI_144_1, pf_144_1, fI_144_2, pf_144_2, fR_144_3, fR_144_4, fR_144_5, fR_144_6, ia_145, b_I, b_L, b_V, b_R, b_N, b_N0, Option.bind_some, ↓reduceIte, bq0, bq1, bz0, bz1, ite_not, Classical.not_not]
  rw [if_neg (by omega), if_neg (by omega)]
/-- only the puzzles' first test differs -/
def agP (F F1 : Nat → Fn) : Prop := (∀ b, ¬ b = 144 → F1 b = F b) ∧ ∀ k, ¬ k = 0 → F1 144 k = F 144 k
theorem C_triesL {f T : Fn} {P s n : Nat} (hn : F 39 1 = n) (hn8 : n ≤ 8) (hT : Tok T n) (hTr : ∀ k : Nat, k < n → F 40 k = T k) (hf : fok f P (s - 1)) (hs : s &&& P = s) (hs1 : s < 128) (hs0 : 1 ≤ s) (hf2 : ∀ z : Nat, 1 ≤ z → z < s → z &&& P = z → F 145 z = f z) : ∀ k : Int, 0 ≤ k → k ≤ n → ∀ d5 d6 d7, m_nl d5 = true → m_nl d6 = true → m_nl d7 = true → m_D x 2 k_Puzzles_triesOf 22 [some (.ref 144), some (.ref 39), some (.int (jI s)), some (.int (jI (trK f T s k.toNat).1)), some (.int (jI k)), d5, d6, d7] [] (mk (sA F 144 (u (F 144) 0 (trK f T s k.toNat).2)) G) = some (some (.int (jI (trK f T s n).1)), mk (sA F 144 (u (F 144) 0 (trK f T s n).2)) G) := by
  apply down
  · intro d5 d6 d7 h5 h6 h7
    rw [E_Puzzles_triesOf_22 x 2 (by omega) _ _ _ _ _ _ _ _ _ h5 h6 h7, fI_R_1 _ _ (w := 39) (by omega), Option.bind_some, sA_ne _ _ (by omega), hn, if_pos (Int32.le_refl _)]
    rfl
  · intro k k0 k1 ih d5 d6 d7 h5 h6 h7
    have ek : (k + 1).toNat = k.toNat + 1 := by omega
    have ekk : ((k.toNat : Nat) : Int) = k := by omega
    rw [ek, trK, ekk] at ih
    have tk := hT k.toNat (by omega)
    have tr := hTr k.toNat (by omega)
    rw [ekk] at tk tr
    have r := trK_r hf hs hs1 hT k.toNat (by omega)
    have w := trW_r (t := (T k).toNat) hf hs hs1 (by omega)
    generalize trK f T s k.toNat = R at *
    have i1 := C_itemAt x (sA F 144 (u (F 144) 0 R.2)) G (w := 39) (i := k) (by omega) k0 (by simp only [show rL 39 = 8 from rfl]; omega)
    simp only [Nat.reduceAdd] at i1
    rw [sA_ne _ _ (by omega), tr] at i1
    have fr := fI_R_1 (sA F 144 (u (F 144) 0 R.2)) G (w := 39) (by omega)
    rw [sA_ne _ _ (by omega), hn] at fr
    have et : T k = (((T k).toNat : Nat) : Int) := by omega
    rw [et] at i1
    generalize (T k).toNat = t at *
    rw [E_Puzzles_triesOf_22 x 2 (by omega) _ _ _ _ _ _ _ _ _ h5 h6 h7]
    simp (disch := omega) only [lit_0, lit_1, lit_2, lit_3, lit_4, lit_5, lit_6, lit_7, lit_8, lit_9, lit_10, lit_11, lit_12, lit_13, lit_14, lit_15, lit_16, lit_17, lit_18, lit_19, lit_20, lit_21, lit_22, lit_23, lit_24, lit_25, lit_26, lit_27, lit_28, lit_29, lit_30, lit_31, lit_32, lit_33, lit_34, lit_35, lit_36, lit_37, lit_38, lit_39, lit_40, lit_41, lit_42, lit_43, lit_44, lit_45, lit_46, lit_47, lit_48, lit_49, lit_50, lit_51, lit_52, lit_53, lit_54, lit_55, lit_56, lit_57, lit_58, lit_59, lit_60, lit_61, lit_62, lit_63, lit_64, lit_65, lit_67, lit_70, lit_71, lit_73, lit_75, lit_78, lit_84, lit_85, lit_86, lit_87, lit_89, lit_90, lit_91, lit_95, lit_96, lit_97, lit_98, lit_99, lit_100, lit_101, lit_102, lit_103, lit_104, lit_105, lit_107, lit_108, lit_109, lit_110, lit_111, lit_112, lit_114, lit_115, lit_116, lit_117, lit_119, lit_121, lit_122, lit_126, lit_127, lit_128, lit_130, lit_134, lit_137, lit_139, lit_140, lit_141, lit_145, lit_152, lit_159, lit_160, lit_168, lit_174, lit_180, lit_183, lit_192, lit_199, lit_236, lit_251, lit_255, lit_272, lit_284, lit_300, lit_330, lit_373, lit_753, lit_800, lit_896, lit_900, lit_1000, lit_1001, lit_1002, lit_1003, lit_1079, lit_1276, lit_1330, lit_1450, lit_3012, lit_3016, lit_3300, lit_8430, lit_9999, lit_10000, lit_11730, lit_30467, lit_65536, lit_99999, lit_100000, lit_1000000, lit_252645135, lit_858993459, lit_1000000000, lit_1431655765, jI_add, jI_sub, jI_mul, jI_neg, jI_lt, jI_le, jI_eq, fr, b_I, b_L, b_V, b_R, b_N, b_N0, Option.bind_some, ↓reduceIte, bq0, bq1, bz0, bz1, ite_not, Classical.not_not, i1]
    rw [if_neg (by omega)]
    rw [nand, nsub]
    have l := Nat.and_le_left (n := s) (m := t)
    have l2 := (sub_le ⟨s, hs1⟩ ⟨t, by omega⟩).1
    dsimp only at l2
    have e63 : ∀ d5 d6 d7, m_nl d7 = true → trW f s t = 1000 → m_D x 2 k_Puzzles_triesOf 63 [some (.ref 144), some (.ref 39), some (.int (jI s)), some (.int (jI R.1)), some (.int (jI k)), some (.int d5), some (.int d6), d7] [] (mk (sA F 144 (u (F 144) 0 R.2)) G) = some (some (.int (jI (trK f T s n).1)), mk (sA F 144 (u (F 144) 0 (trK f T s n).2)) G) := by
      intro d5 d6 d7 h7 hw
      rw [if_neg (by omega)] at ih
      rw [E_Puzzles_triesOf_63 x 2 (by omega) _ _ _ _ _ _ _ _ _ h7, lit_1000, if_pos (by rw [jI_le (by omega) (by omega) (by omega) (by omega)]; omega), lit_1, jI_add]
      exact ih _ _ _ rfl rfl rfl
    by_cases q1 : s &&& t = 0
    · have hw : trW f s t = 1000 := by unfold trW; rw [if_pos (Or.inl q1)]
      rw [if_pos (by rw [q1]; rfl)]
      exact e63 _ _ _ h7 hw
    · rw [if_neg (by rw [jI_eq (by omega) (by omega) (by omega) (by omega)]; omega)]
      by_cases q2 : s ^^^ (s &&& t) = 0
      · have hw : trW f s t = 1000 := by unfold trW; rw [if_pos (Or.inr q2)]
        rw [if_pos (by rw [q2]; rfl)]
        exact e63 _ _ _ h7 hw
      · rw [if_neg (by rw [jI_eq (by omega) (by omega) (by omega) (by omega)]; omega)]
        have hp := parts_lt hs1 (show t < 128 by omega) q1 q2
        have f1 := hf2 _ hp.1 hp.2.1 (sub_and (t := t) hs)
        have f2 := hf2 _ hp.2.2.1 hp.2.2.2 (sub_xor (t := t) hs)
        have g1 := hf _ hp.1 (by omega) (sub_and (t := t) hs)
        have g2 := hf _ hp.2.2.1 (by omega) (sub_xor (t := t) hs)
        have k1 := C_known x (sA F 144 (u (F 144) 0 R.2)) G (s := s &&& t) (by omega)
        have k2 := C_known x (sA F 144 (u (F 144) 0 R.2)) G (s := s ^^^ (s &&& t)) (by omega)
        rw [sA_ne _ _ (by omega), f1] at k1
        rw [sA_ne _ _ (by omega), f2] at k2
        have hw : trW f s t = 1 + max (f (s &&& t : Nat)) (f (s ^^^ (s &&& t) : Nat)) := by
          unfold trW
          rw [if_neg (by omega)]
        rw [k1, b_I, k2, b_I, C_max x _ _ (by unfold rg; omega) (by unfold rg; omega), b_I, jI_add, ← hw]
        simp (disch := omega) only [jI_lt, jI_le, jI_eq]
        by_cases q3 : trW f s t < R.1
        · rw [if_pos q3] at ih
          rw [if_neg (by omega), pf_144_0, Option.bind_some, sA_eq, sA_sA]
          have eu : u (u (F 144) 0 R.2) 0 k = u (F 144) 0 k := by
            funext z
            simp only [u]
            split <;> rfl
          rw [eu]
          exact ih _ _ _ rfl rfl rfl
        · rw [if_neg q3] at ih
          rw [if_pos (by omega)]
          exact ih _ _ _ rfl rfl rfl
theorem trK_one {f T : Fn} {P s n : Nat} (hf : fok f P (s - 1)) (hs : s &&& P = s) (hs1 : s < 128) (hT : Tok T n) (h1 : pcN s = 1) : ∀ k : Nat, k ≤ n → trK f T s k = (0, -1) := by
  intro k
  induction k with
  | zero => intro _; rw [trK, if_pos h1]
  | succ k ih =>
    intro hk
    have t := hT k (by omega)
    have w := trW_r (t := (T k).toNat) hf hs hs1 (by omega)
    rw [trK, ih (by omega), if_neg (by dsimp only; omega)]
theorem C_triesOf {f T : Fn} {P s n : Nat} (hn : F 39 1 = n) (hn8 : n ≤ 8) (hT : Tok T n) (hTr : ∀ k : Nat, k < n → F 40 k = T k) (hf : fok f P (s - 1)) (hs : s &&& P = s) (hs1 : s < 128) (hs0 : 1 ≤ s) (hf2 : ∀ z : Nat, 1 ≤ z → z < s → z &&& P = z → F 145 z = f z) : m_M x k_Puzzles_triesOf [.ref 144, .ref 39, .int (jI s)] (mk F G) = some (some (.int (jI (trK f T s n).1)), mk (sA F 144 (u (F 144) 0 (trK f T s n).2)) G) := by
  have pf := pf_144_0 F G (-1)
  rw [E_Puzzles_triesOf, isO_144, if_pos rfl, show (-1 : Int32) = jI (-1) from rfl, pf, Option.bind_some, C_bitCount x _ _ hs1, b_I]
  by_cases q : pcN s = 1
  · rw [if_pos (by rw [q]; rfl), trK_one hf hs hs1 hT q n (Nat.le_refl _)]
    rfl
  · have hp := pc_le 12 s
    rw [if_neg (by rw [lit_1, jI_eq (by omega) (by unfold pcN; omega) (by omega) (by omega)]; omega)]
    have h := C_triesL x F G hn hn8 hT hTr hf hs hs1 hs0 hf2 0 (by omega) (by omega) none none none rfl rfl rfl
    have e : trK f T s (0 : Int).toNat = (1000, -1) := by
      show trK f T s 0 = _
      rw [trK, if_neg q]
    rw [e] at h
    exact h
end
