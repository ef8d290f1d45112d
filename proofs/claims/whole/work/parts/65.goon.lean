-- a day of the model
def mLive (A : Law4) (d : Fn) (p : Int) : Fn := if 0 < fineAt A (wChill A d p) p then u (wChill A d p) (8 + p) (d (8 + p) - fineAt A (wChill A d p) p) else wChill A d p
def mLivesN (A : Law4) (d : Fn) : Nat → Fn
  | 0 => d
  | n + 1 => mLive A (mLivesN A d n) n
def mDay (A : Law4) (d : Fn) : Fn := wEnd (if d 22 % 7 = 6 then wGrowsN A (mLivesN A d (d 0).toNat) (d 25).toNat else mLivesN A d (d 0).toNat)
def mLvC (A : Law4) (a : Fn) (p : Int) : Fn := u a (20 + p) (min (V a (15 + p) + A 0 (V a) p) 9999)
def mLvF (A : Law4) (a : Fn) (p : Int) : Fn := if 0 < fineAt A (wChill A (V a) p) p then u (mLvC A a p) (13 + p) (V a (8 + p) - fineAt A (wChill A (V a) p) p) else mLvC A a p
/-- the model's row after one lived; r: whether fines are written -/
def mLv (A : Law4) (r : Int) (a : Fn) (p : Int) : Fn := if 0 < fineAt A (wChill A (V a) p) p ∧ r = 1 then u (u (mLvF A a p) (3300 + a 12 % 8430) ((a 8 * 8 + p) * 100 + fineAt A (wChill A (V a) p) p)) 12 (a 12 + 1) else mLvF A a p
theorem V_mLvC (A : Law4) (a : Fn) {p : Int} (h0 : 0 ≤ p) (h1 : p < 7) : V (mLvC A a p) = wChill A (V a) p := by
  unfold mLvC wChill
  rw [Vu_d _ _ h0 h1]
theorem V_mLvF (A : Law4) (a : Fn) {p : Int} (h0 : 0 ≤ p) (h1 : p < 7) : V (mLvF A a p) = mLive A (V a) p := by
  unfold mLvF mLive
  split
  · rw [Vu_c _ _ h0 h1, V_mLvC A a h0 h1]
  · exact V_mLvC A a h0 h1
theorem V_mLv (A : Law4) (r : Int) (a : Fn) {p : Int} (h0 : 0 ≤ p) (h1 : p < 7) : V (mLv A r a p) = mLive A (V a) p := by
  unfold mLv
  split
  · rw [V_sk _ _ (by omega), V_sk _ _ (by omega), V_mLvF A a h0 h1]
  · exact V_mLvF A a h0 h1
theorem mLvF_ne (A : Law4) (a : Fn) {p j : Int} (h1 : ¬ j = 20 + p) (h2 : ¬ j = 13 + p) : mLvF A a p j = a j := by
  unfold mLvF mLvC
  split
  · rw [u_ne _ _ h2, u_ne _ _ h1]
  · rw [u_ne _ _ h1]
theorem u_self (f : Fn) (z : Int) : u f z (f z) = f := by
  funext k
  simp only [u]
  split
  · rename_i h; rw [h]
  · rfl
def agL (F F1 : Nat → Fn) : Prop := ∀ b, ¬ b = 150 → ¬ b = 155 → ¬ b = 157 → ¬ b = 158 → F1 b = F b
theorem agL_tr {F F1 F2 : Nat → Fn} (h1 : agL F F1) (h2 : agL F1 F2) : agL F F2 := fun b a c d e => (h2 b a c d e).trans (h1 b a c d e)
theorem agL_N {F F1 : Nat → Fn} (h : agN F F1) : agL F F1 := fun b _ h1 h2 _ => h b h1 h2
theorem agL_0 (F : Nat → Fn) (f : Fn) : agL F (sA F 150 f) := fun _ h _ _ _ => sA_ne _ _ h
theorem agL_8 (F : Nat → Fn) (f : Fn) : agL F (sA F 158 f) := fun _ _ _ _ h => sA_ne _ _ h
theorem agL_T {F F1 : Nat → Fn} (h : agL F F1) : agT F F1 := ⟨fun b h1 h2 => h b (by omega) (by omega) (by omega) (by omega), h 152 (by omega) (by omega) (by omega) (by omega)⟩
section
variable (x : m_X) (F G : Nat → Fn)
theorem M_live {p : Int} {A : Law4} (hA : LA F (F 150 2) A) (hi : WI (V (F 150))) (h0 : 0 ≤ p) (h1 : p < 7) (hr : F 149 23 = 0 ∨ F 149 23 = 1) (hw0 : 0 ≤ F 150 12) (hw1 : F 150 12 ≤ 100000) : ∃ F2 G2, m_M x k_M_live [.ref 149, .int (jI p)] (mk F G) = some (none, mk F2 G2) ∧ F2 150 = mLv A (F 149 23) (F 150) p ∧ F2 158 = u (F 158) p (fineAt A (wChill A (V (F 150)) p) p) ∧ agL F F2 ∧ agG G G2 := by
  have hc := WI_c hi
  have hp := WI_p hi h0 h1
  have ha0 := A_r (s := 0) (q := p) (c := V (F 150)) hA (by omega) (by omega)
  have ha1 := A_r (s := 1) (q := p) (c := wChill A (V (F 150)) p) hA (by omega) (by omega)
  have hiC := WI_chill (p := p) hA hi h0 h1
  have hcC := WI_c hiC
  have hfr := fine_r (p := p) hA hiC h0 h1
  have c8 : wChill A (V (F 150)) p (8 + p) = V (F 150) (8 + p) := chill_ne A _ (by omega)
  rw [c8] at hfr
  have hrl := rights_le (c := wChill A (V (F 150)) p) p (by omega)
  obtain ⟨F1, G1, r1, r2, r3⟩ := M_chillOf x F G hA hi h0 h1
  have e150 : F1 150 = F 150 := r2 _ (by omega) (by omega)
  have e149 : F1 149 = F 149 := r2 _ (by omega) (by omega)
  have e158 : F1 158 = F 158 := r2 _ (by omega) (by omega)
  have em : (if V (F 150) (15 + p) + A 0 (V (F 150)) p < 0 then 0 else if 9999 < V (F 150) (15 + p) + A 0 (V (F 150)) p then 9999 else V (F 150) (15 + p) + A 0 (V (F 150)) p) = min (V (F 150) (15 + p) + A 0 (V (F 150)) p) 9999 := by
    repeat' split
    all_goals omega
  -- behind the cold
  generalize hFa : sA (sA F1 150 (mLvC A (F 150) p)) 158 (u (F 158) p 0) = Fa
  have Fa150 : Fa 150 = mLvC A (F 150) p := by rw [← hFa, sA_ne _ _ (by omega), sA_eq]
  have Fa158 : Fa 158 = u (F 158) p 0 := by rw [← hFa, sA_eq]
  have Fa149 : Fa 149 = F 149 := by rw [← hFa, sA_ne _ _ (by omega), sA_ne _ _ (by omega), e149]
  have agA : agL F Fa := by
    rw [← hFa]
    exact agL_tr (agL_tr (agL_N r2) (agL_0 _ _)) (agL_8 _ _)
  have VFa : V (Fa 150) = wChill A (V (F 150)) p := by rw [Fa150, V_mLvC A _ h0 h1]
  have hAa : LA Fa (Fa 150 2) A := by
    have e2 : Fa 150 2 = F 150 2 := by
      rw [Fa150]
      unfold mLvC
      rw [u_ne _ _ (by omega)]
    rw [e2]
    exact LA_cg (agL_T agA) hA
  have hrt := M_rightsOf x Fa G1 (p := p) (by rw [VFa]; exact hiC) (by unfold rg; omega)
  rw [VFa] at hrt
  have start : m_M x k_M_live [.ref 149, .int (jI p)] (mk F G) = _ := E_M_live x (mk F G) 149 (jI p)
  rw [isO_149, if_pos rfl, fR_149_0, Option.bind_some, Option.bind_some, lit_20, jI_add, va_d x F G h0 h1, Option.bind_some, r1, b_I, jI_add, jI_toL (by omega) (by omega), lit_0, lit_9999, M_cut x F1 G1 (by omega) (by omega) (by unfold rg; omega) (by unfold rg; omega), b_I, em, is_150 F1 G1 _ (by omega) (by omega), Option.bind_some, e150, fR_149_24, Option.bind_some, is_158 _ G1 _ (by omega) (by omega), Option.bind_some, sA_ne (b := 158) _ _ (by omega), e158] at start
  have hFa2 : sA (sA F1 150 (u (F 150) (20 + p) (min (V (F 150) (15 + p) + A 0 (V (F 150)) p) 9999))) 158 (u (F 158) p 0) = Fa := hFa
  rw [hFa2, hrt, b_I] at start
  rw [start]
  have nofine : fineAt A (wChill A (V (F 150)) p) p = 0 → ∃ F2 G2, (some (none, mk Fa G1) : Option (Option Value × m_H)) = some (none, mk F2 G2) ∧ F2 150 = mLv A (F 149 23) (F 150) p ∧ F2 158 = u (F 158) p (fineAt A (wChill A (V (F 150)) p) p) ∧ agL F F2 ∧ agG G G2 := by
    intro hz
    refine ⟨Fa, G1, rfl, ?_, ?_, agA, r3⟩
    · rw [Fa150]
      unfold mLv mLvF
      rw [hz, if_neg (by omega), if_neg (by omega)]
    · rw [Fa158, hz]
  by_cases q2 : rights (wChill A (V (F 150)) p) p = 0
  · rw [if_pos (by rw [q2])]
    exact nofine (by unfold fineAt; rw [if_neg (by omega)])
  · have q2' : ¬ jI (rights (wChill A (V (F 150)) p) p) = jI 0 := by
      rw [jI_eq (by omega) (by omega) (by omega) (by omega)]
      exact q2
    rw [if_neg q2', fR_149_0, Option.bind_some, lit_13, jI_add, va_c x Fa G1 h0 h1, Option.bind_some, VFa, c8]
    by_cases q1 : V (F 150) (8 + p) = 0
    · rw [if_pos (by rw [q1])]
      exact nofine (by unfold fineAt; rw [if_neg (by rw [c8]; omega)])
    · have q1' : ¬ jI (V (F 150) (8 + p)) = jI 0 := by
        rw [jI_eq (by omega) (by omega) (by omega) (by omega)]
        exact q1
      obtain ⟨F4, G4, s1, s2, s3⟩ := M_fineOf x Fa G1 hAa (by rw [VFa]; exact hiC) h0 h1
      rw [VFa] at s1
      have f150 : F4 150 = mLvC A (F 150) p := (s2 _ (by omega) (by omega)).trans Fa150
      have f158 : F4 158 = u (F 158) p 0 := (s2 _ (by omega) (by omega)).trans Fa158
      have f149 : F4 149 = F 149 := (s2 _ (by omega) (by omega)).trans Fa149
      have VF4 : V (F4 150) = wChill A (V (F 150)) p := by rw [f150, V_mLvC A _ h0 h1]
      have ag4 : agL F F4 := agL_tr agA (agL_N s2)
      have hz : (if A 1 (wChill A (V (F 150)) p) p < 0 then 0 else if V (F 150) (8 + p) < A 1 (wChill A (V (F 150)) p) p then V (F 150) (8 + p) else A 1 (wChill A (V (F 150)) p) p) = fineAt A (wChill A (V (F 150)) p) p := by
        have hfe : fineAt A (wChill A (V (F 150)) p) p = min (V (F 150) (8 + p)) (A 1 (wChill A (V (F 150)) p) p) := by
          unfold fineAt
          rw [c8, if_pos (by omega)]
        rw [hfe]
        repeat' split
        all_goals omega
      generalize hf : fineAt A (wChill A (V (F 150)) p) p = f at *
      rw [if_neg q1', fR_149_24, Option.bind_some, s1, b_I, fR_149_0, Option.bind_some, va_c x F4 G4 h0 h1, Option.bind_some, VF4, c8, jI_toL (by omega) (by omega), M_cut x F4 G4 (by omega) (by omega) (by unfold rg; omega) (by unfold rg; omega), b_I, hz, is_158 F4 G4 _ (by omega) (by omega), Option.bind_some, f158, u_u]
      generalize hFb : sA F4 158 (u (F 158) p f) = Fb
      have Fb150 : Fb 150 = mLvC A (F 150) p := by rw [← hFb, sA_ne _ _ (by omega), f150]
      have Fb158 : Fb 158 = u (F 158) p f := by rw [← hFb, sA_eq]
      have Fb149 : Fb 149 = F 149 := by rw [← hFb, sA_ne _ _ (by omega), f149]
      have agB : agL F Fb := by rw [← hFb]; exact agL_tr ag4 (agL_8 _ _)
      have VFb : V (Fb 150) = wChill A (V (F 150)) p := by rw [Fb150, V_mLvC A _ h0 h1]
      have hu : u (mLvC A (F 150) p) (13 + p) (V (F 150) (8 + p) - f) = mLvF A (F 150) p := by
        unfold mLvF
        rw [hf]
        by_cases hpos : 0 < f
        · rw [if_pos hpos]
        · rw [if_neg hpos]
          have e0 : f = 0 := by omega
          have e1 : V (F 150) (8 + p) - f = mLvC A (F 150) p (13 + p) := by
            rw [e0, ← V_c (mLvC A (F 150) p) h0 h1, V_mLvC A _ h0 h1, c8, Int.sub_zero]
          rw [e1, u_self]
      rw [fR_149_0, Option.bind_some, va_c x Fb G4 h0 h1, Option.bind_some, fR_149_24, Option.bind_some, ia_158 x Fb G4 h0 h1, Option.bind_some, VFb, c8, Fb158, u_eq, jI_sub, is_150 Fb G4 _ (by omega) (by omega), Option.bind_some, Fb150, hu]
      generalize hFc : sA Fb 150 (mLvF A (F 150) p) = Fc
      have Fc150 : Fc 150 = mLvF A (F 150) p := by rw [← hFc, sA_eq]
      have Fc158 : Fc 158 = u (F 158) p f := by rw [← hFc, sA_ne _ _ (by omega), Fb158]
      have Fc149 : Fc 149 = F 149 := by rw [← hFc, sA_ne _ _ (by omega), Fb149]
      have agC : agL F Fc := by rw [← hFc]; exact agL_tr agB (agL_0 _ _)
      have gC : agG G G4 := agG_tr r3 s3
      rw [fR_149_24, Option.bind_some, ia_158 x Fc G4 h0 h1, Option.bind_some, Fc158, u_eq]
      by_cases hpos : f = 0
      · rw [if_pos (by rw [hpos])]
        refine ⟨Fc, G4, rfl, ?_, Fc158, agC, gC⟩
        rw [Fc150]
        unfold mLv
        rw [hf, if_neg (by omega)]
      · have hpos' : ¬ jI f = jI 0 := by
          rw [jI_eq (by omega) (by omega) (by omega) (by omega)]
          exact hpos
        rw [if_neg hpos', fI_149_23, Option.bind_some, Fc149]
        rcases hr with hr | hr
        · rw [hr, if_pos rfl]
          refine ⟨Fc, G4, rfl, ?_, Fc158, agC, gC⟩
          rw [Fc150]
          unfold mLv
          rw [if_neg (by omega)]
        · have hr' : ¬ jI 1 = jI 0 := by decide
          have w12 : mLvF A (F 150) p 12 = F 150 12 := mLvF_ne A _ (by omega) (by omega)
          have w8 : V (Fc 150) 22 = F 150 8 := by
            rw [Fc150, V_22, mLvF_ne A _ (by omega) (by omega)]
          have d8r : 0 ≤ F 150 8 ∧ F 150 8 ≤ 9999 := by rw [← V_22 (F 150)]; omega
          rw [hr, if_neg hr']
          simp (disch := omega) only [lit_0, lit_1, lit_2, lit_3, lit_4, lit_5, lit_6, lit_7, lit_8, lit_9, lit_10, lit_11, lit_12, lit_13, lit_14, lit_15, lit_16, lit_17, lit_18, lit_19, lit_20, lit_21, lit_22, lit_23, lit_24, lit_25, lit_26, lit_27, lit_28, lit_29, lit_30, lit_31, lit_32, lit_33, lit_34, lit_35, lit_36, lit_37, lit_38, lit_39, lit_40, lit_41, lit_42, lit_43, lit_44, lit_45, lit_46, lit_47, lit_48, lit_49, lit_50, lit_51, lit_52, lit_53, lit_54, lit_55, lit_56, lit_57, lit_58, lit_59, lit_60, lit_61, lit_62, lit_63, lit_64, lit_65, lit_67, lit_70, lit_71, lit_73, lit_75, lit_78, lit_84, lit_85, lit_86, lit_87, lit_89, lit_90, lit_91, lit_95, lit_96, lit_97, lit_98, lit_99, lit_100, lit_101, lit_102, lit_103, lit_104, lit_105, lit_107, lit_108, lit_109, lit_110, lit_111, lit_112, lit_114, lit_115, lit_116, lit_117, lit_119, lit_121, lit_122, lit_126, lit_127, lit_128, lit_130, lit_134, lit_137, lit_139, lit_140, lit_141, lit_145, lit_152, lit_159, lit_160, lit_168, lit_174, lit_180, lit_183, lit_192, lit_199, lit_236, lit_251, lit_255, lit_272, lit_284, lit_300, lit_330, lit_373, lit_753, lit_800, lit_896, lit_900, lit_1000, lit_1001, lit_1002, lit_1003, lit_1079, lit_1276, lit_1330, lit_1450, lit_3012, lit_3016, lit_3300, lit_8430, lit_9999, lit_10000, lit_11730, lit_30467, lit_65536, lit_99999, lit_100000, lit_1000000, lit_252645135, lit_858993459, lit_1000000000, lit_1431655765, jI_add, jI_sub, jI_mul, jI_neg, b_I, b_L, b_V, b_R, b_N, b_N0, Option.bind_some, ↓reduceIte, bq0, bq1, bz0, bz1, ite_not, Classical.not_not, fR_149_0, fR_149_24, ia_150, ia_158, va_8, w8, Fc158, u_eq, Fc150, w12, jI_modn, is_150, sA_eq, sA_sA, u_ne]
          refine ⟨_, _, rfl, ?_, ?_, ?_, gC⟩
          · rw [sA_eq]
            unfold mLv
            rw [hf, if_pos (by omega), mLvF_ne A _ (j := 8) (by omega) (by omega)]
          · rw [sA_ne _ _ (by omega), Fc158]
          · exact agL_tr agC (agL_0 _ _)
end
