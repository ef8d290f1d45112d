-- what comes: foretold, firstFine
def dayS (A : Law4) (c : Fn) : Fn := if c 22 < 9999 then wDay A c else c
def goS (A : Law4) (a : Fn) : Fn := if a 8 < 9999 then mGo A 0 a else a
def dF (A : Law4) : Nat → Fn → Fn
  | 0, c => c
  | n + 1, c => dF A n (dayS A c)
def gF (A : Law4) : Nat → Fn → Fn
  | 0, a => a
  | n + 1, a => gF A n (goS A a)
def fineB (A : Law4) (c : Fn) (p : Int) : Bool := decide (0 < fineAt A (wChill A (wLivesN A c p.toNat) p) p)
def ffN (A : Law4) (p : Int) : Nat → Fn → Int → Int
  | 0, _, _ => -1
  | n + 1, c, i => if c 22 < 9999 then (if fineB A c p then i else ffN A p n (wDay A c) (i + 1)) else -1
theorem fSet_st (A : Law4) (c : Fn) : ∀ n : Nat, fSetN A c n = st (fineB A c) n := by
  intro n
  induction n with
  | zero => rfl
  | succ n ih =>
    have e : ((n + 1 : Nat) : Int) = (n : Int) + 1 := by omega
    rw [e, st_s _ (by omega), fSetN, ih]
    unfold fineB
    simp only [Int.toNat_natCast, decide_eq_true_eq]
theorem mLvs0 (A : Law4) (a : Fn) : ∀ n : Nat, n ≤ 7 → ∀ j, j < 13 ∨ 27 ≤ j → mLvsN A 0 a n j = a j := by
  intro n
  induction n with
  | zero => intro _ j _; rfl
  | succ n ih =>
    intro hn j hj
    show mLv A 0 (mLvsN A 0 a n) n j = a j
    unfold mLv
    rw [if_neg (by omega), mLvF_ne _ _ (by omega) (by omega)]
    exact ih (by omega) j hj
theorem wDay_0 {F : Nat → Fn} {t : Int} {A : Law4} {c : Fn} (hA : LA F t A) (hi : WI c) : wDay A c 0 = c 0 := by
  have hc := WI_c hi
  have q := lives_ok hA hi (c 0).toNat (by omega)
  have q2 := grows_ok hA q.1 (c 25).toNat (by omega)
  unfold wDay
  rw [wEnd_ne _ (by omega) (by omega) (by omega)]
  split
  · rw [q2.2 0 (by omega), q.2 0 (by omega)]
  · exact q.2 0 (by omega)
def KP (a0 a : Fn) : Prop := ∀ k, k < 8 ∨ k = 12 ∨ 112 ≤ k → a k = a0 k
theorem KP_tr {a b c : Fn} (h1 : KP a b) (h2 : KP b c) : KP a c := fun k hk => (h2 k hk).trans (h1 k hk)
theorem WIV_of {c a : Fn} (hi : WI c) (hv : ∀ k, vok k → c k = V a k) : WI (V a) :=
  WI_vok (fun k hk => (hv k hk).symm) (V_out a (by unfold vok; omega)) (fun i h0 h1 => V_out a (by unfold vok; omega)) hi
theorem day0 {F : Nat → Fn} {t : Int} {A : Law4} {c a : Fn} (hA : LA F t A) (hi : WI c) (hv : ∀ k, vok k → c k = V a k) : (∀ k, vok k → wDay A c k = V (mGo A 0 a) k) ∧ KP a (mGo A 0 a) := by
  have hc := WI_c hi
  have hw := WIV_of hi hv
  have e0 : c 0 = a 0 := by rw [hv 0 (by unfold vok; omega), V_0]
  have e25 : c 25 = a 11 := by rw [hv 25 (by unfold vok; omega), V_25]
  refine ⟨?_, ?_⟩
  · intro k hk
    rw [V_mGo A 0 a hw]
    exact ag_day hA hi hv k hk
  · intro k hk
    have m := mLvs0 A a (a 0).toNat (by omega) k (by omega)
    unfold mGo
    rw [mEnd_ne _ (by omega) (by omega) (by omega)]
    split
    · rw [(mGwN_ok A _ _ (by omega)).2 k (by omega)]
      exact m
    · exact m
theorem dayS_ok {F : Nat → Fn} {t : Int} {A : Law4} {c a : Fn} (hA : LA F t A) (hi : WI c) (hv : ∀ k, vok k → c k = V a k) : WI (dayS A c) ∧ (∀ k, vok k → dayS A c k = V (goS A a) k) ∧ KP a (goS A a) := by
  have e22 : c 22 = a 8 := by rw [hv 22 (by unfold vok; omega), V_22]
  unfold dayS goS
  rw [← e22]
  by_cases q : c 22 < 9999
  · rw [if_pos q, if_pos q]
    exact ⟨WI_day hA hi q, day0 hA hi hv⟩
  · rw [if_neg q, if_neg q]
    exact ⟨hi, hv, fun _ _ => rfl⟩
theorem dF_ok {F : Nat → Fn} {t : Int} {A : Law4} (hA : LA F t A) : ∀ n c a, WI c → (∀ k, vok k → c k = V a k) → (∀ k, vok k → dF A n c k = V (gF A n a) k) := by
  intro n
  induction n with
  | zero => intro c a _ hv; exact hv
  | succ n ih =>
    intro c a hi hv
    have q := dayS_ok hA hi hv
    exact ih _ _ q.1 q.2.1
section
variable (x : m_X) (F G : Nat → Fn)
theorem r_day {α : Type} (ht : TR F) (k : Int32 → m_H → Option α) : (m_bN (m_M x k_G_ruling [.ref 0] (mk F G)) (fun v s => m_bI (m_M x k_Law_passDay [.ref 136, .ref 101, .ref v] s) k) fun s => m_bI (m_M x k_Law_passDay [.ref 136, .ref 101, .null] s) k) = m_bI (m_M x k_Law_passDay [.ref 136, .ref 101, sv (F 36 8)] (mk F G)) k := by
  rw [C_ruling x F G ht.1 ht.2.1 ht.2.2.1 ht.2.2.2]
  by_cases q1 : F 36 8 < 0
  · have es : sv (F 36 8) = .null := by unfold sv; rw [if_pos q1]
    rw [es, b_N0]
  · have es : sv (F 36 8) = .ref (104 + 6 * (F 36 8).toNat) := by unfold sv; rw [if_neg q1]
    rw [es, b_N]
theorem TR_W {F F1 : Nat → Fn} (ha : agW 101 F F1) (ht : TR F) : TR F1 := by
  have e := ha 36 (by omega) (by omega) (by omega)
  exact ⟨by rw [e]; exact ht.1, by rw [e]; exact ht.2.1, by rw [e]; exact ht.2.2.1, by rw [e]; exact ht.2.2.2⟩
theorem C_tday {A : Law4} (hA : LA F (F 36 8) A) (hi : WI (F 102)) : ∃ F2 v, m_M x k_Law_passDay [.ref 136, .ref 101, sv (F 36 8)] (mk F G) = some (some (.int v), mk F2 G) ∧ F2 102 = dayS A (F 102) ∧ agW 101 F F2 ∧ (F 102 22 < 9999 → v = st (fineB A (F 102)) (F 102 0)) := by
  have hc := WI_c hi
  by_cases q : F 102 22 < 9999
  · obtain ⟨F2, r1, r2, r3⟩ := C_passDay x F G (w := 101) (t := F 36 8) hA (by omega) hi q
    refine ⟨F2, _, r1, ?_, r3, ?_⟩
    · unfold dayS; rw [if_pos q]; exact r2
    · intro _
      simp only [Nat.reduceAdd]
      rw [fSet_st, Int.toNat_of_nonneg (by omega)]
  · refine ⟨F, jI (-1), ?_, ?_, fun _ _ _ _ => rfl, fun h => absurd h q⟩
    · have hd := C_dayCanPass x F G (w := 101) (by omega) (by simp only [Nat.reduceAdd]; unfold rg; omega)
      simp only [Nat.reduceAdd] at hd
      rw [if_neg q] at hd
      rw [S_passDay x _ _ _ _ (sv_is _), isO_136, if_pos rfl, hd, b_I, if_pos (show jI 0 = 0 by decide)]
      rfl
    · unfold dayS; rw [if_neg q]
def fval (w p : Int) (c : Fn) : Int := if w = 0 then c 23 else if w = 1 then c (15 + p) else c (8 + p)
theorem C_foreL {A : Law4} {n p w d : Int} (ht : TR F) (hA : LA F (F 36 8) A) (hn : n ≤ 60) (hw0 : 0 ≤ w) (hw1 : w ≤ 2) (hp : w = 0 ∨ (0 ≤ p ∧ p < 7)) : ∀ i, 0 ≤ i → i ≤ n → ∀ F1, agW 101 F F1 → WI (F1 102) → ∃ F2, m_D x 7 k_G_foretold 62 [some (.ref 0), some (.int (jI n)), some (.int (jI p)), some (.int (jI w)), some (.int (jI d)), some (.int (jI i))] [] (mk F1 G) = some (some (.int (jI (fval w p (dF A (n - i).toNat (F1 102))))), mk F2 G) ∧ agW 101 F F2 := by
  apply down
  · intro F1 ha hi
    refine ⟨F1, ?_, ha⟩
    have e : (n - n).toNat = 0 := by omega
    rw [e]
    show _ = some (some (Value.int (jI (fval w p (F1 102)))), mk F1 G)
    have fw : m_fR (mk F1 G) 9 0 101 = some 102 := fR_W_0 F1 G (w := 101) (by omega)
    have aw : m_ia x (mk F1 G) 102 (jI 23) = some (jI (F1 102 23)) := ia_W x F1 G (w := 101) (by omega) (by omega) (by omega)
    rw [E_G_foretold_62 x 7 (by omega), if_pos (Int32.le_refl _)]
    unfold fval
    by_cases q : w = 0
    · rw [if_pos q, q]
      simp only [lit_0, lit_1, lit_2, lit_3, lit_4, lit_5, lit_6, lit_7, lit_8, lit_9, lit_10, lit_11, lit_12, lit_13, lit_14, lit_15, lit_16, lit_17, lit_18, lit_19, lit_20, lit_21, lit_22, lit_23, lit_24, lit_25, lit_26, lit_27, lit_28, lit_29, lit_30, lit_31, lit_32, lit_33, lit_34, lit_35, lit_36, lit_37, lit_38, lit_39, lit_40, lit_41, lit_42, lit_43, lit_44, lit_45, lit_46, lit_47, lit_48, lit_49, lit_50, lit_51, lit_52, lit_53, lit_54, lit_55, lit_56, lit_57, lit_58, lit_59, lit_60, lit_61, lit_62, lit_63, lit_64, lit_65, lit_67, lit_70, lit_71, lit_73, lit_75, lit_78, lit_84, lit_85, lit_86, lit_87, lit_89, lit_90, lit_91, lit_95, lit_96, lit_97, lit_98, lit_99, lit_100, lit_101, lit_102, lit_103, lit_104, lit_105, lit_107, lit_108, lit_109, lit_110, lit_111, lit_112, lit_114, lit_115, lit_116, lit_117, lit_119, lit_121, lit_122, lit_126, lit_127, lit_128, lit_130, lit_134, lit_137, lit_139, lit_140, lit_141, lit_145, lit_152, lit_159, lit_160, lit_168, lit_174, lit_180, lit_183, lit_192, lit_199, lit_236, lit_251, lit_255, lit_272, lit_284, lit_300, lit_330, lit_373, lit_753, lit_800, lit_896, lit_900, lit_1000, lit_1001, lit_1002, lit_1003, lit_1079, lit_1276, lit_1330, lit_1450, lit_3012, lit_3016, lit_3300, lit_8430, lit_9999, lit_10000, lit_11730, lit_30467, lit_65536, lit_99999, lit_100000, lit_1000000, lit_252645135, lit_858993459, lit_1000000000, lit_1431655765, isO_0, fR_0_0, fR_0_1, fR_0_2, fR_0_3, fR_0_4, fR_0_5, fR_0_6, fR_0_7, fR_0_8, fR_0_9, fR_0_10, fR_0_11, fR_0_12, b_I, b_L, b_V, b_R, b_N, b_N0, Option.bind_some, ↓reduceIte, bq0, bq1, bz0, bz1, ite_not, Classical.not_not, fw, aw]
    · rw [if_neg q, if_neg (show ¬ jI w = 0 from jne (by unfold rg; omega) (by decide) (by decide) q), fR_0_6, Option.bind_some]
      by_cases q2 : w = 1
      · have a := C_at x F1 G (w := 101) (p := 15) (i := p) (by omega) (by omega) (by omega)
        simp only [Nat.reduceAdd] at a
        rw [if_pos q2, q2, if_pos (show jI 1 = 1 by decide), lit_15, a, b_I]
      · have a := C_at x F1 G (w := 101) (p := 8) (i := p) (by omega) (by omega) (by omega)
        simp only [Nat.reduceAdd] at a
        rw [if_neg q2, if_neg (show ¬ jI w = 1 from jne (by unfold rg; omega) (by decide) (by decide) q2), lit_8, a, b_I]
  · intro i i0 i1 ih F1 ha hi
    have e36 := ha 36 (by omega) (by omega) (by omega)
    obtain ⟨F2, v, r1, r2, r3, r4⟩ := C_tday x F1 G (A := A) (by rw [e36]; exact LA_cg (agW_T (by omega) ha) hA) hi
    have a2 := agW_tr ha r3
    have hi2 : WI (F2 102) := by
      rw [r2]
      unfold dayS
      split
      · rename_i q
        exact WI_day hA hi q
      · exact hi
    obtain ⟨F3, z1, z2⟩ := ih F2 a2 hi2
    refine ⟨F3, ?_, z2⟩
    have e : (n - i).toNat = (n - (i + 1)).toNat + 1 := by omega
    rw [e]
    show _ = some (some (Value.int (jI (fval w p (dF A (n - (i + 1)).toNat (dayS A (F1 102)))))), mk F3 G)
    rw [← r2, ← z1]
    rw [E_G_foretold_62 x 7 (by omega), if_neg (show ¬ jI n ≤ jI i by rw [jI_le (by omega) (by omega) (by omega) (by omega)]; omega), fR_0_9, Option.bind_some, fR_0_6, Option.bind_some, r_day x F1 G (TR_W ha ht), r1, b_I, lit_1, jI_add]
theorem C_ffL {A : Law4} {p : Int} (ht : TR F) (hA : LA F (F 36 8) A) (hp0 : 0 ≤ p) (hp1 : p < F 2 0) : ∀ n : Nat, ∀ i F1 d3, i + n = 61 → m_nl d3 = true → agW 101 F F1 → WI (F1 102) → F1 102 0 = F 2 0 → ∃ F2, m_D x 7 k_G_firstFine 26 [some (.ref 0), some (.int (jI p)), some (.int (jI i)), d3] [] (mk F1 G) = some (some (.int (jI (ffN A p n (F1 102) i))), mk F2 G) ∧ agW 101 F F2 := by
  intro n
  induction n with
  | zero =>
    intro i F1 d3 hn hd ha hi h0
    refine ⟨F1, ?_, ha⟩
    rw [E_G_firstFine_26 x 7 (by omega) _ _ _ _ _ hd, if_pos]
    · rfl
    · rw [show i = 61 by omega]; decide
  | succ n ih =>
    intro i F1 d3 hn hd ha hi h0
    have hc := WI_c hi
    have e36 := ha 36 (by omega) (by omega) (by omega)
    have hdp := C_dayCanPass x F1 G (w := 101) (by omega) (by simp only [Nat.reduceAdd]; unfold rg; omega)
    simp only [Nat.reduceAdd] at hdp
    obtain ⟨F2, v, r1, r2, r3, r4⟩ := C_tday x F1 G (A := A) (by rw [e36]; exact LA_cg (agW_T (by omega) ha) hA) hi
    have a2 := agW_tr ha r3
    rw [E_G_firstFine_26 x 7 (by omega) _ _ _ _ _ hd, if_neg (show ¬ (60 : Int32) < jI i by rw [lit_60, jI_lt (by omega) (by omega) (by omega) (by omega)]; omega), fR_0_6, Option.bind_some, hdp, b_I, ffN]
    by_cases q : F1 102 22 < 9999
    · rw [if_pos q] at hdp
      have hv := r4 q
      have e2 : F2 102 = wDay A (F1 102) := by rw [r2]; unfold dayS; rw [if_pos q]
      have hw : WI (F2 102) := by rw [e2]; exact WI_day hA hi q
      simp only [if_pos q]
      rw [if_neg (show ¬ jI 1 = 0 by decide), fR_0_9, Option.bind_some, fR_0_6, Option.bind_some, r_day x F1 G (TR_W ha ht), r1, b_I, lit_31, lit_1]
      have hb := bt_st (fineB A (F1 102)) (p := p) hp0 (by omega) (F1 102 0) (by omega) (by omega)
      have d1 : decide (p < F1 102 0) = true := by rw [h0]; simp; omega
      rw [d1, Bool.true_and] at hb
      simp only [has_1 (a := v) hp0 (show p < 32 by omega)]
      rw [hv, hb]
      by_cases q2 : fineB A (F1 102) p = true
      · rw [if_pos q2, if_pos q2]
        exact ⟨F2, rfl, a2⟩
      · rw [if_neg q2, if_neg q2, jI_add, ← e2]
        refine ih (i + 1) F2 _ (by omega) rfl a2 hw ?_
        rw [e2]
        rw [wDay_0 hA hi]
        exact h0
    · simp only [if_neg q]
      rw [if_pos (show jI 0 = 0 by decide)]
      exact ⟨F1, rfl, ha⟩
end
