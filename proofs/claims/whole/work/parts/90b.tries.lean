-- the fewest tries: the calls
def nu (v : Int) : Int := if v = 1000 then 1000000000 else v
section
variable (x : m_X) (F G : Nat → Fn)
theorem tabP {T : Fn} {n P : Nat} (h : 1 ≤ P) : (tab T n P P).1 P = (trK (tab T n P (P - 1)).1 T P n).1 ∧ (tab T n P P).2 P = (trK (tab T n P (P - 1)).1 T P n).2 := by
  obtain ⟨j, rfl⟩ : ∃ j, P = j + 1 := ⟨P - 1, by omega⟩
  rw [Nat.add_sub_cancel, tab, if_pos (Nat.and_self _)]
  dsimp only
  rw [u_eq, u_eq]
  exact ⟨rfl, rfl⟩
theorem C_fewest {T : Fn} {P n : Nat} (hn : F 39 1 = n) (hn8 : n ≤ 8) (hT : Tok T n) (hTr : ∀ k : Nat, k < n → F 40 k = T k) (hP0 : 1 ≤ P) (hP : P < 128) : ∃ F2, m_M x k_Puzzles_fewestTries [.ref 144, .ref 39, .int (jI P)] (mk F G) = some (some (.int (jI ((tab T n P P).1 P))), mk F2 G) ∧ F2 144 0 = (tab T n P P).2 P ∧ (∀ b, ¬ b = 144 → ¬ b = 145 → F2 b = F b) := by
  have key : ∀ j : Int, 0 ≤ j → j ≤ P → ∀ (F1 : Nat → Fn) (n3 : Int32), (∀ z : Nat, 1 ≤ z → (z : Int) ≤ j → z &&& P = z → F1 145 z = (tab T n P j.toNat).1 z) → (j = P → n3 = jI ((tab T n P P).1 P) ∧ F1 144 0 = (tab T n P P).2 P) → (∀ b, ¬ b = 144 → ¬ b = 145 → F1 b = F b) → ∃ F2, m_D x 3 k_Puzzles_fewestTries 7 [some (.ref 144), some (.ref 39), some (.int (jI P)), some (.int n3), some (.int (jI (j + 1)))] [] (mk F1 G) = some (some (.int (jI ((tab T n P P).1 P))), mk F2 G) ∧ F2 144 0 = (tab T n P P).2 P ∧ (∀ b, ¬ b = 144 → ¬ b = 145 → F2 b = F b) := by
    apply down
    · intro F1 n3 h1 h2 h3
      refine ⟨F1, ?_, (h2 rfl).2, h3⟩
      rw [E_Puzzles_fewestTries_7 x 3 (by omega), if_pos (by rw [jI_lt (by omega) (by omega) (by omega) (by omega)]; omega), (h2 rfl).1]
    · intro j j0 j1 ih F1 n3 h1 h2 h3
      have ej : ((j.toNat : Nat) : Int) = j := by omega
      have ej1 : j + 1 = ((j.toNat + 1 : Nat) : Int) := by omega
      have ejn : (j + 1).toNat = j.toNat + 1 := by omega
      rw [ejn, tab] at ih
      rw [E_Puzzles_fewestTries_7 x 3 (by omega), if_neg (by rw [jI_lt (by omega) (by omega) (by omega) (by omega)]; omega), lit_128, if_neg (by rw [jI_le (by omega) (by omega) (by omega) (by omega)]; omega), lit_1, jI_neg, ej1, nsub]
      by_cases q : (j.toNat + 1) &&& P = j.toNat + 1
      · rw [if_pos q] at ih
        rw [if_pos (by rw [(nsub0 _ _).2 q]; rfl)]
        have hf := tab_r (P := P) hT j.toNat (by omega)
        have c1 := C_triesOf x F1 G (f := (tab T n P j.toNat).1) (T := T) (P := P) (s := j.toNat + 1) (n := n) (by rw [h3 39 (by omega) (by omega)]; exact hn) hn8 hT (by intro k hk; rw [h3 40 (by omega) (by omega)]; exact hTr k hk) hf q (by omega) (by omega) (fun z z1 z2 z3 => h1 z z1 (by omega) z3)
        rw [c1, b_I, fR_144_3, Option.bind_some, is_145 _ _ _ (by omega) (by omega), Option.bind_some, jI_add]
        rw [← ej1]
        refine ih _ _ ?_ ?_ ?_
        · intro z z1 z2 z3
          dsimp only
          rw [sA_eq, ej1]
          by_cases q2 : z = j.toNat + 1
          · rw [q2, u_eq, u_eq]
          · rw [u_ne _ _ (by omega), u_ne _ _ (by omega), sA_ne _ _ (by omega)]
            exact h1 z z1 (by omega) z3
        · intro e
          have eP : j.toNat + 1 = P := by omega
          have tp := tabP (T := T) (n := n) hP0
          have ep : P - 1 = j.toNat := by omega
          rw [ep] at tp
          rw [tp.1, tp.2, sA_ne _ _ (by omega), sA_eq, u_eq, ← eP]
          exact ⟨rfl, rfl⟩
        · intro b b1 b2
          rw [sA_ne _ _ b2, sA_ne _ _ b1, h3 b b1 b2]
      · rw [if_neg q] at ih
        rw [if_neg (by
          intro h
          have l := (sub_le ⟨j.toNat + 1, by omega⟩ ⟨P, hP⟩).1
          dsimp only at l
          rw [lit_0, jI_eq (by omega) (by omega) (by omega) (by omega)] at h
          exact q ((nsub0 _ _).1 (by omega))), jI_add, ← ej1]
        refine ih F1 n3 ?_ ?_ h3
        · intro z z1 z2 z3
          by_cases q2 : z = j.toNat + 1
          · rw [q2] at z3; exact absurd z3 q
          · exact h1 z z1 (by omega) z3
        · intro e
          have eP : j.toNat + 1 = P := by omega
          rw [eP, Nat.and_self] at q
          exact absurd rfl q
  rw [E_Puzzles_fewestTries, isO_144, if_pos rfl]
  exact key 0 (by omega) (by omega) F _ (fun z z1 z2 => by omega) (fun h => by omega) (fun _ _ _ => rfl)
def ag6 (F F1 : Nat → Fn) : Prop := ∀ b, ¬ b = 161 → ¬ b = 162 → F1 b = F b
theorem M_layIn6 {f T : Fn} {P s n : Nat} {pp : Int32} (hn : F 150 4 = n) (hn8 : n ≤ 8) (hT : Tok T n) (hTr : ∀ k : Nat, k < n → F 150 (126 + k) = T k) (hf : fok f P (s - 1)) (hs : s &&& P = s) (hs1 : s < 128) (hs0 : 1 ≤ s) : ∀ k : Int, 0 ≤ k → k ≤ n → ∀ (F1 : Nat → Fn) d4 d5, m_nl d4 = true → m_nl d5 = true → (∀ z : Nat, 1 ≤ z → z < s → z &&& P = z → F1 161 z = nu (f z)) → F1 161 s = nu (trK f T s k.toNat).1 → F1 162 s = (trK f T s k.toNat).2 → ag6 F F1 → ∃ F2 d3 d4' d5', m_nl d3 = true ∧ m_nl d4' = true ∧ m_nl d5' = true ∧ m_D x 2 k_M_layTries 48 [some (.ref 149), some (.int pp), some (.int (jI s)), some (.int (jI k)), d4, d5] [] (mk F1 G) = m_D x 2 k_M_layTries 2 [some (.ref 149), some (.int pp), some (.int (jI ((s : Int) + 1))), d3, d4', d5'] [] (mk F2 G) ∧ F2 161 s = nu (trK f T s n).1 ∧ F2 162 s = (trK f T s n).2 ∧ ag6 F F2 ∧ (∀ z : Int, ¬ z = s → F2 161 z = F1 161 z ∧ F2 162 z = F1 162 z) := by
  apply down
  · intro F1 d4 d5 h4 h5 hz ha hb hag
    refine ⟨F1, some (.int (jI n)), d4, d5, rfl, h4, h5, ?_, ha, hb, hag, fun _ _ => ⟨rfl, rfl⟩⟩
    have e150 := hag 150 (by omega) (by omega)
    rw [E_M_layTries_48 x 2 (by omega) _ _ _ _ _ _ _ h4 h5, fR_149_0, Option.bind_some, lit_4, ia_150 x _ _ (by omega) (by omega), Option.bind_some, e150, hn, if_pos (Int32.le_refl _), lit_1, jI_add]
  · intro k k0 k1 ih F1 d4 d5 h4 h5 hz ha hb hag
    have ek : (k + 1).toNat = k.toNat + 1 := by omega
    have ekk : ((k.toNat : Nat) : Int) = k := by omega
    rw [ek, trK, ekk] at ih
    have tk := hT k.toNat (by omega)
    have tr := hTr k.toNat (by omega)
    rw [ekk] at tk tr
    have r := trK_r hf hs hs1 hT k.toNat (by omega)
    have w := trW_r (t := (T k).toNat) hf hs hs1 (by omega)
    generalize trK f T s k.toNat = R at *
    have e150 := hag 150 (by omega) (by omega)
    have i4 : m_ia x (mk F1 G) 150 (jI 4) = some (jI n) := by rw [ia_150 x _ _ (by omega) (by omega), e150, hn]
    have iT : m_ia x (mk F1 G) 150 (jI (126 + k)) = some (jI (T k)) := by rw [ia_150 x _ _ (by omega) (by omega), e150, tr]
    have et : T k = (((T k).toNat : Nat) : Int) := by omega
    rw [et] at iT
    generalize (T k).toNat = t at *
    have hnu : 0 ≤ nu R.1 ∧ nu R.1 ≤ 1000000000 := by unfold nu; split <;> omega
    have l := Nat.and_le_left (n := s) (m := t)
    have l2 := (sub_le ⟨s, hs1⟩ ⟨t, by omega⟩).1
    dsimp only at l2
    -- a test that changes nothing
    have skip : ∀ d4 d5, m_nl d4 = true → m_nl d5 = true → ¬ trW f s t < R.1 → ∃ F2 d3 d4' d5', m_nl d3 = true ∧ m_nl d4' = true ∧ m_nl d5' = true ∧ m_D x 2 k_M_layTries 48 [some (.ref 149), some (.int pp), some (.int (jI s)), some (.int (jI (k + 1))), d4, d5] [] (mk F1 G) = m_D x 2 k_M_layTries 2 [some (.ref 149), some (.int pp), some (.int (jI ((s : Int) + 1))), d3, d4', d5'] [] (mk F2 G) ∧ F2 161 s = nu (trK f T s n).1 ∧ F2 162 s = (trK f T s n).2 ∧ ag6 F F2 ∧ (∀ z : Int, ¬ z = s → F2 161 z = F1 161 z ∧ F2 162 z = F1 162 z) := by
      intro d4 d5 h4 h5 hw
      rw [if_neg hw] at ih
      exact ih F1 d4 d5 h4 h5 hz ha hb hag
    rw [E_M_layTries_48 x 2 (by omega) _ _ _ _ _ _ _ h4 h5]
    simp (disch := omega) only [lit_0, lit_1, lit_2, lit_3, lit_4, lit_5, lit_6, lit_7, lit_8, lit_9, lit_10, lit_11, lit_12, lit_13, lit_14, lit_15, lit_16, lit_17, lit_18, lit_19, lit_20, lit_21, lit_22, lit_23, lit_24, lit_25, lit_26, lit_27, lit_28, lit_29, lit_30, lit_31, lit_32, lit_33, lit_34, lit_35, lit_36, lit_37, lit_38, lit_39, lit_40, lit_41, lit_42, lit_43, lit_44, lit_45, lit_46, lit_47, lit_48, lit_49, lit_50, lit_51, lit_52, lit_53, lit_54, lit_55, lit_56, lit_57, lit_58, lit_59, lit_60, lit_61, lit_62, lit_63, lit_64, lit_65, lit_67, lit_70, lit_71, lit_73, lit_75, lit_78, lit_84, lit_85, lit_86, lit_87, lit_89, lit_90, lit_91, lit_95, lit_96, lit_97, lit_98, lit_99, lit_100, lit_101, lit_102, lit_103, lit_104, lit_105, lit_107, lit_108, lit_109, lit_110, lit_111, lit_112, lit_114, lit_115, lit_116, lit_117, lit_119, lit_121, lit_122, lit_126, lit_127, lit_128, lit_130, lit_134, lit_137, lit_139, lit_140, lit_141, lit_145, lit_152, lit_159, lit_160, lit_168, lit_174, lit_180, lit_183, lit_192, lit_199, lit_236, lit_251, lit_255, lit_272, lit_284, lit_300, lit_330, lit_373, lit_753, lit_800, lit_896, lit_900, lit_1000, lit_1001, lit_1002, lit_1003, lit_1079, lit_1276, lit_1330, lit_1450, lit_3012, lit_3016, lit_3300, lit_8430, lit_9999, lit_10000, lit_11730, lit_30467, lit_65536, lit_99999, lit_100000, lit_1000000, lit_252645135, lit_858993459, lit_1000000000, lit_1431655765, jI_add, jI_sub, jI_mul, jI_neg, jI_lt, jI_le, jI_eq, fR_149_0, fR_149_27, i4, iT, b_I, b_L, b_V, b_R, b_N, b_N0, Option.bind_some, ↓reduceIte, bq0, bq1, bz0, bz1, ite_not, Classical.not_not]
    rw [if_neg (by omega), nand, nsub]
    by_cases q1 : s &&& t = 0
    · have hw : trW f s t = 1000 := by unfold trW; rw [if_pos (Or.inl q1)]
      rw [if_pos (by rw [q1]; rfl)]
      exact skip _ _ rfl h5 (by omega)
    · rw [if_neg (by rw [jI_eq (by omega) (by omega) (by omega) (by omega)]; omega)]
      by_cases q2 : s ^^^ (s &&& t) = 0
      · have hw : trW f s t = 1000 := by unfold trW; rw [if_pos (Or.inr q2)]
        rw [if_pos (by rw [(nsub0 _ _).1 q2])]
        exact skip _ _ rfl h5 (by omega)
      · have hp := parts_lt hs1 (show t < 128 by omega) q1 q2
        rw [if_neg (by rw [jI_eq (by omega) (by omega) (by omega) (by omega)]; omega)]
        have e3 : s ^^^ (s &&& (s &&& t)) = s ^^^ (s &&& t) := by rw [← Nat.and_assoc, Nat.and_self]
        rw [e3]
        have g1 := hf _ hp.1 (by omega) (sub_and (t := t) hs)
        have g2 := hf _ hp.2.2.1 (by omega) (sub_xor (t := t) hs)
        have y1 : m_ia x (mk F1 G) 161 (jI ((s &&& t : Nat) : Int)) = some (jI (nu (f (s &&& t : Nat)))) := by rw [ia_161 x _ _ (by omega) (by omega), hz _ hp.1 hp.2.1 (sub_and hs)]
        have y2 : m_ia x (mk F1 G) 161 (jI ((s ^^^ (s &&& t) : Nat) : Int)) = some (jI (nu (f (s ^^^ (s &&& t) : Nat)))) := by rw [ia_161 x _ _ (by omega) (by omega), hz _ hp.2.2.1 hp.2.2.2 (sub_xor hs)]
        have hw : trW f s t = 1 + max (f (s &&& t : Nat)) (f (s ^^^ (s &&& t) : Nat)) := by
          unfold trW
          rw [if_neg (by omega)]
        generalize f (s &&& t : Nat) = v1 at *
        generalize f (s ^^^ (s &&& t) : Nat) = v2 at *
        have e127 : ∀ wv : Int, wv = max (nu v1) (nu v2) → ∀ dd, ∃ F2 d3 d4' d5', m_nl d3 = true ∧ m_nl d4' = true ∧ m_nl d5' = true ∧ m_D x 2 k_M_layTries 127 [some (.ref 149), some (.int pp), some (.int (jI s)), some (.int (jI k)), some (.int dd), d5] [.int (jI wv)] (mk F1 G) = m_D x 2 k_M_layTries 2 [some (.ref 149), some (.int pp), some (.int (jI ((s : Int) + 1))), d3, d4', d5'] [] (mk F2 G) ∧ F2 161 s = nu (trK f T s n).1 ∧ F2 162 s = (trK f T s n).2 ∧ ag6 F F2 ∧ (∀ z : Int, ¬ z = s → F2 161 z = F1 161 z ∧ F2 162 z = F1 162 z) := by
          intro wv hwv dd
          have n1 : nu v1 = if v1 = 1000 then 1000000000 else v1 := rfl
          have n2 : nu v2 = if v2 = 1000 then 1000000000 else v2 := rfl
          have n3 : nu R.1 = if R.1 = 1000 then 1000000000 else R.1 := rfl
          have hwr : 0 ≤ wv ∧ wv ≤ 1000000000 := by
            rw [hwv, n1, n2]
            split <;> split <;> omega
          rw [E_M_layTries_127 x 2 (by omega) _ _ _ _ _ _ _ _ h5]
          have i5 : m_ia x (mk F1 G) 161 (jI (s : Int)) = some (jI (nu R.1)) := by rw [ia_161 x _ _ (by omega) (by omega), ha]
          simp (disch := omega) only [lit_0, lit_1, lit_2, lit_3, lit_4, lit_5, lit_6, lit_7, lit_8, lit_9, lit_10, lit_11, lit_12, lit_13, lit_14, lit_15, lit_16, lit_17, lit_18, lit_19, lit_20, lit_21, lit_22, lit_23, lit_24, lit_25, lit_26, lit_27, lit_28, lit_29, lit_30, lit_31, lit_32, lit_33, lit_34, lit_35, lit_36, lit_37, lit_38, lit_39, lit_40, lit_41, lit_42, lit_43, lit_44, lit_45, lit_46, lit_47, lit_48, lit_49, lit_50, lit_51, lit_52, lit_53, lit_54, lit_55, lit_56, lit_57, lit_58, lit_59, lit_60, lit_61, lit_62, lit_63, lit_64, lit_65, lit_67, lit_70, lit_71, lit_73, lit_75, lit_78, lit_84, lit_85, lit_86, lit_87, lit_89, lit_90, lit_91, lit_95, lit_96, lit_97, lit_98, lit_99, lit_100, lit_101, lit_102, lit_103, lit_104, lit_105, lit_107, lit_108, lit_109, lit_110, lit_111, lit_112, lit_114, lit_115, lit_116, lit_117, lit_119, lit_121, lit_122, lit_126, lit_127, lit_128, lit_130, lit_134, lit_137, lit_139, lit_140, lit_141, lit_145, lit_152, lit_159, lit_160, lit_168, lit_174, lit_180, lit_183, lit_192, lit_199, lit_236, lit_251, lit_255, lit_272, lit_284, lit_300, lit_330, lit_373, lit_753, lit_800, lit_896, lit_900, lit_1000, lit_1001, lit_1002, lit_1003, lit_1079, lit_1276, lit_1330, lit_1450, lit_3012, lit_3016, lit_3300, lit_8430, lit_9999, lit_10000, lit_11730, lit_30467, lit_65536, lit_99999, lit_100000, lit_1000000, lit_252645135, lit_858993459, lit_1000000000, lit_1431655765, jI_add, jI_sub, jI_mul, jI_neg, jI_lt, jI_le, jI_eq, fR_149_27, i5, b_I, b_L, b_V, b_R, b_N, b_N0, Option.bind_some, ↓reduceIte, bq0, bq1, bz0, bz1, ite_not, Classical.not_not]
          by_cases q3 : 1000000000 ≤ wv
          · rw [if_pos q3]
            refine skip _ _ rfl rfl ?_
            rw [hwv, n1, n2] at q3
            revert q3
            split <;> split <;> omega
          · rw [if_neg q3]
            rw [hwv, n1, n2] at q3
            have hv : ¬ v1 = 1000 ∧ ¬ v2 = 1000 := by
              revert q3
              split <;> split <;> omega
            rw [n1, n2, if_neg hv.1, if_neg hv.2] at hwv
            by_cases q4 : wv + 1 < nu R.1
            · rw [if_pos q4]
              have q5 : trW f s t < R.1 := by
                rw [n3] at q4
                revert q4
                split <;> omega
              rw [if_pos q5] at ih
              dsimp only at ih
              have is1 := is_161 F1 G (z := (s : Int)) (wv + 1) (by omega) (by omega)
              have is2 := is_162 (sA F1 161 (u (F1 161) s (wv + 1))) G (z := (s : Int)) k (by omega) (by omega)
              simp (disch := omega) only [is1, is2, fR_149_28, b_I, b_L, b_V, b_R, b_N, b_N0, Option.bind_some, ↓reduceIte, bq0, bq1, bz0, bz1, ite_not, Classical.not_not]
              obtain ⟨F2, d3, d4', d5', x1, x2, x3, x4, x5, x6, x7, x8⟩ := ih (sA (sA F1 161 (u (F1 161) s (wv + 1))) 162 (u (sA F1 161 (u (F1 161) s (wv + 1)) 162) s k)) (some (.int dd)) (some (.int (jI wv))) rfl rfl (by
                intro z z1 z2 z3
                rw [sA_ne _ _ (by omega), sA_eq, u_ne _ _ (by omega)]
                exact hz z z1 z2 z3) (by
                rw [sA_ne _ _ (by omega), sA_eq, u_eq, hw]
                unfold nu
                rw [if_neg (by omega)]
                omega) (by rw [sA_eq, u_eq]) (by
                intro b b1 b2
                rw [sA_ne _ _ b2, sA_ne _ _ b1]
                exact hag b b1 b2)
              refine ⟨F2, d3, d4', d5', x1, x2, x3, x4, x5, x6, x7, ?_⟩
              intro z hzz
              have := x8 z hzz
              rw [sA_ne (b := 161) _ _ (by omega), sA_eq, u_ne _ _ hzz, sA_eq, u_ne _ _ hzz, sA_ne _ _ (by omega)] at this
              exact this
            · rw [if_neg q4]
              refine skip _ _ rfl rfl ?_
              rw [n3] at q4
              revert q4
              split <;> omega
        have hv1 : 0 ≤ nu v1 ∧ nu v1 ≤ 1000000000 := by unfold nu; split <;> omega
        have hv2 : 0 ≤ nu v2 ∧ nu v2 ≤ 1000000000 := by unfold nu; split <;> omega
        simp (disch := omega) only [y1, y2, b_I, b_L, b_V, b_R, b_N, b_N0, Option.bind_some, ↓reduceIte, bq0, bq1, bz0, bz1, ite_not, Classical.not_not, jI_lt, jI_le, jI_eq]
        by_cases q6 : nu v1 ≤ nu v2
        · rw [if_pos q6]
          exact e127 (nu v2) (by omega) _
        · rw [if_neg q6]
          exact e127 (nu v1) (by omega) _
end
