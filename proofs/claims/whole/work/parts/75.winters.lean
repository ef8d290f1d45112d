-- winters as a call
def HBk (c0 b0 c b : Fn) (k : Int) : Prop := RR c b ∧ (∀ j, vok j → c j = V b j) ∧ HZ b0 b ∧ b 12 ≤ b0 12 + 7 * k ∧ (∀ j, (j < 8 ∨ (111 ≤ j ∧ j < 3300)) → b j = b0 j) ∧ (∀ j, 0 ≤ j → j < 8 → c j = c0 j)
theorem WI_draw {c : Fn} (hi : WI c) : WI (wDraw c) := by
  have hc := WI_c hi
  have e3 : hiB 24 = 30466 := by simp [hiB]
  unfold wDraw
  exact WI_u hi (by omega) (by omega) (by omega)
theorem HB_draw {c0 b0 c b : Fn} {k : Int} (h : HBk c0 b0 c b k) : HBk c0 b0 (wDraw c) (u b 10 ((b 10 * 373 + 251) % 30467)) k := by
  obtain ⟨h1, h2, h3, h4, h5, h6⟩ := h
  have e24 := h2 24 (by unfold vok; omega)
  rw [V_24] at e24
  have hag : ∀ j, vok j → wDraw c j = V (u b 10 ((b 10 * 373 + 251) % 30467)) j := by
    intro j hj
    rw [Vu_10]
    unfold wDraw
    rw [e24]
    exact ag_u h2 j hj
  refine ⟨RR_of h1 (WI_draw h1.1) hag ?_ (u_ne _ _ (by omega)) (fun j hj => u_ne _ _ (by omega)), hag, HZ_tr h3 (HZ_of (fun j hj => u_ne _ _ (by omega))), ?_, ?_, ?_⟩
  · intro j j0 j1
    unfold wDraw
    rw [u_ne _ _ (by omega)]
  · rw [u_ne _ _ (by omega)]; exact h4
  · intro j hj
    rw [u_ne _ _ (by omega)]
    exact h5 j hj
  · intro j j0 j1
    unfold wDraw
    rw [u_ne _ _ (by omega)]
    exact h6 j j0 j1
theorem HB_hap {F : Nat → Fn} {t : Int} {A : Law4} {c0 b0 c b b2 : Fn} {k X : Int} (hA : LA F t A) (h : HBk c0 b0 c b k) (hp : 1 ≤ c 0) (h0 : 0 ≤ X) (hb : if 4 < X % 7 ∧ V b 22 < 9999 then b2 = mGo A 1 b else V b2 = hap A (V b) X ∧ Fr b b2) : HBk c0 b0 (hap A c X) b2 (k + 1) := by
  obtain ⟨h1, h2, h3, h4, h5, h6⟩ := h
  have e22 := h2 22 (by unfold vok; omega)
  rw [← e22] at hb
  by_cases hd : 4 < X % 7 ∧ c 22 < 9999
  · rw [if_pos hd] at hb
    obtain ⟨q1, q2, q3, q4, q5, q6, q7⟩ := RR_day hA h2 h1 hd.2
    have e : hap A c X = wDay A c := by
      unfold hap
      rw [if_neg (by omega), if_pos hd.1, if_pos hd.2]
    rw [e, hb]
    exact ⟨q1, q7, HZ_tr h3 q2, by omega, fun j hj => by rw [q4 j hj]; exact h5 j hj, fun j j0 j1 => by rw [q5 j j0 j1]; exact h6 j j0 j1⟩
  · rw [if_neg hd] at hb
    have hag : ∀ j, vok j → hap A c X j = V b2 j := by
      rw [hb.1]
      exact ag_hap hA h1.1 h2 hp h0 hd
    have hr : ∀ j, (j < 8 ∨ 111 ≤ j ∨ j = 12) → b2 j = b j := hb.2
    refine ⟨RR_of h1 (WI_hap hA h1.1 hp h0) hag (fun j j0 j1 => hap_ne h1.1 hp h0 hd j0 j1) (hr 12 (by omega)) (fun j hj => hr j (by omega)), hag, HZ_tr h3 (HZ_of (fun j hj => hr j (by omega))), ?_, ?_, ?_⟩
    · rw [hr 12 (by omega)]; omega
    · intro j hj
      rw [hr j (by omega)]
      exact h5 j hj
    · intro j j0 j1
      rw [hap_ne h1.1 hp h0 hd j0 (by omega)]
      exact h6 j j0 j1
/-- the class's world after k draws -/
def wvN (A : Law4) (c : Fn) : Nat → Fn
  | 0 => c
  | k + 1 => hap A (wDraw (wvN A c k)) (wvN A c k 24)
theorem wv_ok {F : Nat → Fn} {t : Int} {A : Law4} {c : Fn} (hA : LA F t A) (hi : WI c) (hp : 1 ≤ c 0) : ∀ k, WI (wvN A c k) ∧ wvN A c k 0 = c 0 := by
  intro k
  induction k with
  | zero => exact ⟨hi, rfl⟩
  | succ k ih =>
    have hd := WI_draw ih.1
    have hc := WI_c ih.1
    have e0 : wDraw (wvN A c k) 0 = c 0 := by
      unfold wDraw
      rw [u_ne _ _ (by omega)]
      exact ih.2
    refine ⟨WI_hap hA hd (by omega) (by omega), ?_⟩
    show hap A (wDraw (wvN A c k)) (wvN A c k 24) 0 = c 0
    by_cases q : 4 < wvN A c k 24 % 7 ∧ wDraw (wvN A c k) 22 < 9999
    · unfold hap
      rw [if_neg (by omega), if_pos q.1, if_pos q.2]
      have hcd := WI_c hd
      have lo := lives_ok hA hd (wDraw (wvN A c k) 0).toNat (by omega)
      have go := grows_ok hA lo.1 (wDraw (wvN A c k) 25).toNat (by omega)
      unfold wDay
      split
      · rw [wEnd_ne _ (by omega) (by omega) (by omega), go.2 0 (by omega), lo.2 0 (by omega), e0]
      · rw [wEnd_ne _ (by omega) (by omega) (by omega), lo.2 0 (by omega), e0]
    · rw [hap_ne hd (by omega) (by omega) q (by omega) (by omega), e0]
section
variable (x : m_X)
theorem C_winloop {F0 G : Nat → Fn} {A : Law4} {n : Int} {n1 n3 : Int32} (hs : SR F0) (ht : TR F0) (hw : WI (F0 2)) (hA : LA F0 (F0 36 8) A) (hp : 1 ≤ F0 2 0) (hn : n ≤ 40) : ∀ i, 0 ≤ i → i ≤ n → ∀ F : Nat → Fn, agW 1 F0 F → F 2 = wvN A (F0 2) i.toNat → ∃ F2, m_D x 9 k_G_winters 67 [some (.ref 0), some (.int n1), some (.int (jI n)), some (.int n3), some (.int (jI i))] [] (mk F G) = some (some (.int (jI (F2 2 22))), mk (sA F2 3 (kf (F0 3))) G) ∧ F2 2 = wvN A (F0 2) n.toNat ∧ agW 1 F0 F2 := by
  have fw : ∀ H : Nat → Fn, m_fR (mk H G) 9 0 1 = some 2 := fun H => fR_W_0 H G (w := 1) (Or.inl rfl)
  apply down
  · intro F ha he
    have f3 : F 3 = F0 3 := ha 3 (by omega) (by omega) (by omega)
    have hk := C_keepS x F G (s := 3) (Or.inl rfl) (by rw [f3]; exact hs.1) (by rw [f3]; exact hs.2.1) (by rw [f3]; exact hs.2.2.1) (by rw [f3]; exact hs.2.2.2)
    rw [f3] at hk
    refine ⟨F, ?_, he, ha⟩
    have i22 : m_ia x (mk (sA F 3 (kf (F0 3))) G) 2 22 = some (jI (F 2 22)) := by
      rw [lit_22, ia_2 x _ G (by omega) (by omega), sA_ne _ _ (by omega)]
    have hk2 : m_M x k_Steps_keep [.ref 3] (mk F G) = some (none, mk (sA F 3 (kf (F0 3))) G) := hk
    rw [E_G_winters_67 x 9 (by omega), if_pos (Int32.le_refl _), fR_0_1, Option.bind_some, hk2, b_V, fR_0_0, Option.bind_some, fw, Option.bind_some, i22, Option.bind_some]
  · intro i i0 i1 ih F ha he
    have wk := wv_ok hA hw hp i.toNat
    have hi1 : WI (F 2) := by rw [he]; exact wk.1
    have hc1 := WI_c hi1
    have hle : ¬ jI n ≤ jI i := by
      rw [jI_le (by omega) (by omega) (by omega) (by omega)]
      omega
    have hdr := C_draw x F G (w := 1) (Or.inl rfl) hi1
    simp only [Nat.reduceAdd] at hdr
    have ha1 : agW 1 F0 (sA F 2 (wDraw (F 2))) := agW_tr ha (agW_s 1 _ _)
    have e36 : sA F 2 (wDraw (F 2)) 36 = F0 36 := ha1 36 (by omega) (by omega) (by omega)
    obtain ⟨F2, r1, r2, r3⟩ := C_hap x (sA F 2 (wDraw (F 2))) G (X := F 2 24) (A := A) (by unfold TR; rw [e36]; exact ht) (by rw [sA_eq]; exact WI_draw hi1) (by rw [e36]; exact LA_cg (agW_T (Or.inl rfl) ha1) hA) (by rw [sA_eq]; unfold wDraw; rw [u_ne _ _ (by omega), he, wk.2]; exact hp) (by omega) (by omega)
    rw [sA_eq] at r2
    have es : wvN A (F0 2) (i + 1).toNat = F2 2 := by
      have e : (i + 1).toNat = i.toNat + 1 := by omega
      rw [e, r2, he]
      rfl
    rw [E_G_winters_67 x 9 (by omega), if_neg hle, fR_0_0, Option.bind_some, hdr, b_I, r1, b_V, lit_1, jI_add]
    exact ih F2 (agW_tr ha1 r3) es.symm
theorem M_winloop {F0 G0 : Nat → Fn} {A : Law4} {n : Int} {n1 : Int32} {c0 b0 : Fn} (hA : LA F0 (b0 2) A) (hr : F0 149 23 = 1) (hw0 : b0 12 ≤ 80000) (hp : 1 ≤ c0 0) (hn : n ≤ 40) : ∀ i, 0 ≤ i → i ≤ n → ∀ (F G : Nat → Fn) d4, m_nl d4 = true → agL F0 F → agG G0 G → HBk c0 b0 (wvN A c0 i.toNat) (F 150) i → ∃ F2 G2, m_D x 10 k_M_winters 52 [some (.ref 149), some (.int n1), some (.int (jI n)), some (.int (jI i)), d4] [] (mk F G) = some (some (.int (jI (F2 150 8))), mk F2 G2) ∧ HBk c0 b0 (wvN A c0 n.toNat) (F2 150) n ∧ agL F0 F2 ∧ agG G0 G2 := by
  apply down
  · intro F G d4 hd ha hg hb
    refine ⟨F, G, ?_, hb, ha, hg⟩
    rw [E_M_winters_52 x 10 (by omega) _ _ _ _ _ _ hd, if_pos (Int32.le_refl _), fR_149_0, Option.bind_some, lit_8, ia_150 x F G (by omega) (by omega), Option.bind_some]
  · intro i i0 i1 ih F G d4 hd ha hg hb
    have hle : ¬ jI n ≤ jI i := by
      rw [jI_le (by omega) (by omega) (by omega) (by omega)]
      omega
    have hc1 := WI_c hb.1.1
    have e24 := hb.2.1 24 (by unfold vok; omega)
    rw [V_24] at e24
    have b10 : 0 ≤ F 150 10 ∧ F 150 10 < 30467 := by omega
    have hb1 := HB_draw hb
    have hW := hb1.1.2.2
    unfold RB at hW
    have h2 := hb1.2.2.2.2.1 2 (by omega)
    have hwv : WI (V (u (F 150) 10 ((F 150 10 * 373 + 251) % 30467))) := WI_vok (fun k hk => (hb1.2.1 k hk).symm) (V_out _ (by unfold vok; omega)) (fun i h0 h1 => V_out _ (by unfold vok; omega)) hb1.1.1
    have ha1 : agL F0 (sA F 150 (u (F 150) 10 ((F 150 10 * 373 + 251) % 30467))) := agL_tr ha (agL_0 _ _)
    have e149 : sA F 150 (u (F 150) 10 ((F 150 10 * 373 + 251) % 30467)) 149 = F0 149 := ha1 149 (by omega) (by omega) (by omega) (by omega)
    have p0 : wDraw (wvN A c0 i.toNat) 0 = c0 0 := hb1.2.2.2.2.2 0 (by omega) (by omega)
    have pv : V (u (F 150) 10 ((F 150 10 * 373 + 251) % 30467)) 0 = c0 0 := by rw [← hb1.2.1 0 (by unfold vok; omega), p0]
    obtain ⟨F2, G2, r1, r2, r3, r4⟩ := M_hap x (sA F 150 (u (F 150) 10 ((F 150 10 * 373 + 251) % 30467))) G (X := F 150 10) (A := A) (by rw [sA_eq, h2]; exact LA_cg (agL_T ha1) hA) (by rw [sA_eq]; exact hwv) (by rw [e149]; exact hr) (by rw [sA_eq]; omega) (by rw [sA_eq]; have := hb1.2.2.2.1; omega) (by rw [sA_eq, pv]; exact hp) (by omega) (by omega)
    rw [sA_eq] at r2
    have hb2 := HB_hap hA hb1 (by rw [p0]; exact hp) b10.1 r2
    have es : wvN A c0 (i + 1).toNat = hap A (wDraw (wvN A c0 i.toNat)) (F 150 10) := by
      have e : (i + 1).toNat = i.toNat + 1 := by omega
      rw [e, ← e24]
      rfl
    rw [E_M_winters_52 x 10 (by omega) _ _ _ _ _ _ hd, if_neg hle, fR_149_0, Option.bind_some, lit_10, ia_150 x F G (by omega) (by omega), Option.bind_some, M_anew x F G b10.1 b10.2, b_V, r1, b_V, lit_1, jI_add]
    refine ih F2 G2 (some (.int (jI (F 150 10)))) rfl (agL_tr ha1 r3) (agG_tr hg r4) ?_
    rw [es]
    exact hb2
theorem ok_winters {F G : Nat → Fn} {s n : Int} (hR : Rel F) (hs : rg s) (hn : rg n) : Ok x F G k_G_winters k_M_winters [.int (jI s), .int (jI n)] := by
  have hw : WI (F 2) := RS_WI hR.1
  have hc := WI_c hw
  have g1 := hR.1.1
  have hv0 := Rel_V0 hR
  have hSR : SR F := ⟨by omega, by omega, by omega, by omega⟩
  have hrt := hR.2.2.1.1
  unfold RT0 at hrt
  have hTR : TR F := ⟨by omega, by omega, by omega, by omega⟩
  obtain ⟨A, hA⟩ := Rel_LA hR
  have hwv := RS_WV hR.1
  have hrd := hR.2.2.2.2.1
  unfold RD at hrd
  have i0 : m_ia x (mk F G) 2 (jI 0) = some (jI (F 2 0)) := ia_2 x F G (by omega) (by omega)
  have fw : ∀ H : Nat → Fn, m_fR (mk H G) 9 0 1 = some 2 := fun H => fR_W_0 H G (w := 1) (Or.inl rfl)
  have e26 : ∀ t : Int, (t = 0 ∨ t = 1) → m_D x 9 k_G_winters 26 [some (.ref 0), some (.int (jI s)), some (.int (jI n)), none, none] [.int (jI t)] (mk F G) = if t = 1 ∧ 1 ≤ F 2 0 then m_D x 9 k_G_winters 67 [some (.ref 0), some (.int (jI s)), some (.int (jI n)), some (.int (jI t)), some (.int (jI 0))] [] (mk (sA (mkd F 1 3) 2 (u (F 2) 24 (s * 2 + 139))) G) else some (some (.int (jI (-1))), mk F G) := by
    intro t ht
    have hsw := C_sow x (mkd F 1 3) G (w := 1) (s := s) (Or.inl rfl)
    have em2 : mkd F 1 3 2 = F 2 := mkd_ne (by omega)
    simp only [Nat.reduceAdd, em2] at hsw
    rw [E_G_winters_26 x 9 (by omega)]
    simp (disch := first | omega | assumption | (unfold rg; omega)) only [lit_0, lit_1, lit_2, lit_3, lit_4, lit_5, lit_6, lit_7, lit_8, lit_9, lit_10, lit_11, lit_12, lit_13, lit_14, lit_15, lit_16, lit_17, lit_18, lit_19, lit_20, lit_21, lit_22, lit_23, lit_24, lit_25, lit_26, lit_27, lit_28, lit_29, lit_30, lit_31, lit_32, lit_33, lit_34, lit_35, lit_36, lit_37, lit_38, lit_39, lit_40, lit_41, lit_42, lit_43, lit_44, lit_45, lit_46, lit_47, lit_48, lit_49, lit_50, lit_51, lit_52, lit_53, lit_54, lit_55, lit_56, lit_57, lit_58, lit_59, lit_60, lit_61, lit_62, lit_63, lit_64, lit_65, lit_67, lit_70, lit_71, lit_73, lit_75, lit_78, lit_84, lit_85, lit_86, lit_87, lit_89, lit_90, lit_91, lit_95, lit_96, lit_97, lit_98, lit_99, lit_100, lit_101, lit_102, lit_103, lit_104, lit_105, lit_107, lit_108, lit_109, lit_110, lit_111, lit_112, lit_114, lit_115, lit_116, lit_117, lit_119, lit_121, lit_122, lit_126, lit_127, lit_128, lit_130, lit_134, lit_137, lit_139, lit_140, lit_141, lit_145, lit_152, lit_159, lit_160, lit_168, lit_174, lit_180, lit_183, lit_192, lit_199, lit_236, lit_251, lit_255, lit_272, lit_284, lit_300, lit_330, lit_373, lit_753, lit_800, lit_896, lit_900, lit_1000, lit_1001, lit_1002, lit_1003, lit_1079, lit_1276, lit_1330, lit_1450, lit_3012, lit_3016, lit_3300, lit_8430, lit_9999, lit_10000, lit_11730, lit_30467, lit_65536, lit_99999, lit_100000, lit_1000000, lit_252645135, lit_858993459, lit_1000000000, lit_1431655765, jI_add, jI_sub, jI_mul, jI_neg, jI_lt, jI_le, jI_eq, isO_0, fR_0_0, fR_0_1, fR_0_2, fR_0_3, fR_0_4, fR_0_5, fR_0_6, fR_0_7, fR_0_8, fR_0_9, fR_0_10, fR_0_11, fR_0_12, b_I, b_L, b_V, b_R, b_N, b_N0, Option.bind_some, ↓reduceIte, bq0, bq1, bz0, bz1, ite_not, Classical.not_not, fw, i0, Cs_mark x F G hSR, hsw]
    by_cases q1 : t = 0
    · rw [if_pos q1, if_neg (by omega)]
    · rw [if_neg q1]
      by_cases q2 : F 2 0 = 0
      · rw [if_pos q2, if_neg (by omega)]
      · rw [if_neg q2, if_pos (by omega)]
  by_cases hC : ((0 ≤ s ∧ s ≤ 9999) ∧ 1 ≤ n ∧ n ≤ 40) ∧ 1 ≤ F 2 0
  · have e1 : m_M x k_G_winters [.ref 0, .int (jI s), .int (jI n)] (mk F G) = m_D x 9 k_G_winters 67 [some (.ref 0), some (.int (jI s)), some (.int (jI n)), some (.int (jI 1)), some (.int (jI 0))] [] (mk (sA (mkd F 1 3) 2 (u (F 2) 24 (s * 2 + 139))) G) := by
      rw [E_G_winters]
      simp (disch := first | omega | assumption | (unfold rg; omega)) only [lit_0, lit_1, lit_2, lit_3, lit_4, lit_5, lit_6, lit_7, lit_8, lit_9, lit_10, lit_11, lit_12, lit_13, lit_14, lit_15, lit_16, lit_17, lit_18, lit_19, lit_20, lit_21, lit_22, lit_23, lit_24, lit_25, lit_26, lit_27, lit_28, lit_29, lit_30, lit_31, lit_32, lit_33, lit_34, lit_35, lit_36, lit_37, lit_38, lit_39, lit_40, lit_41, lit_42, lit_43, lit_44, lit_45, lit_46, lit_47, lit_48, lit_49, lit_50, lit_51, lit_52, lit_53, lit_54, lit_55, lit_56, lit_57, lit_58, lit_59, lit_60, lit_61, lit_62, lit_63, lit_64, lit_65, lit_67, lit_70, lit_71, lit_73, lit_75, lit_78, lit_84, lit_85, lit_86, lit_87, lit_89, lit_90, lit_91, lit_95, lit_96, lit_97, lit_98, lit_99, lit_100, lit_101, lit_102, lit_103, lit_104, lit_105, lit_107, lit_108, lit_109, lit_110, lit_111, lit_112, lit_114, lit_115, lit_116, lit_117, lit_119, lit_121, lit_122, lit_126, lit_127, lit_128, lit_130, lit_134, lit_137, lit_139, lit_140, lit_141, lit_145, lit_152, lit_159, lit_160, lit_168, lit_174, lit_180, lit_183, lit_192, lit_199, lit_236, lit_251, lit_255, lit_272, lit_284, lit_300, lit_330, lit_373, lit_753, lit_800, lit_896, lit_900, lit_1000, lit_1001, lit_1002, lit_1003, lit_1079, lit_1276, lit_1330, lit_1450, lit_3012, lit_3016, lit_3300, lit_8430, lit_9999, lit_10000, lit_11730, lit_30467, lit_65536, lit_99999, lit_100000, lit_1000000, lit_252645135, lit_858993459, lit_1000000000, lit_1431655765, isO_0, fR_0_0, fR_0_1, fR_0_2, fR_0_3, fR_0_4, fR_0_5, fR_0_6, fR_0_7, fR_0_8, fR_0_9, fR_0_10, fR_0_11, fR_0_12, b_I, b_L, b_V, b_R, b_N, b_N0, Option.bind_some, ↓reduceIte, bq0, bq1, bz0, bz1, ite_not, Classical.not_not, C_isIn]
      rw [if_pos hC.1.1, if_pos hC.1.2, e26 1 (by omega), if_pos ⟨rfl, hC.2⟩]
    -- the world sown
    have e3 : hiB 24 = 30466 := by simp [hiB]
    have hWs : WI (u (F 2) 24 (s * 2 + 139)) := WI_u hw (by omega) (by omega) (by omega)
    generalize hF0 : sA (mkd F 1 3) 2 (u (F 2) 24 (s * 2 + 139)) = F0 at e1
    have f2 : F0 2 = u (F 2) 24 (s * 2 + 139) := by rw [← hF0, sA_eq]
    have f3 : F0 3 = F 3 := by rw [← hF0, sA_ne _ _ (by omega), mkd_ne (by omega)]
    have fh : ∀ b, 36 ≤ b → F0 b = F b := by
      intro b hb
      rw [← hF0, sA_ne _ _ (by omega), mkd_ne (by omega)]
    have p0 : F0 2 0 = F 2 0 := by rw [f2, u_ne _ _ (by omega)]
    have hA0 : LA F0 (F 36 8) A := LA_cg ⟨fun b h1 h2 => fh b (by omega), fh 152 (by omega)⟩ hA
    obtain ⟨F2, r1, r2, r3⟩ := C_winloop x (F0 := F0) (G := G) (A := A) (n := n) (n1 := jI s) (n3 := jI 1) (by unfold SR; rw [f3]; exact hSR) (by unfold TR; rw [fh 36 (by omega)]; exact hTR) (by rw [f2]; exact hWs) (by rw [fh 36 (by omega)]; exact hA0) (by rw [p0]; exact hC.2) (by omega) 0 (by omega) (by omega) F0 (fun _ _ _ _ => rfl) rfl
    rw [f3] at r1
    have e1' := e1.trans r1
    -- the model
    have up : ∀ b, 149 ≤ b → sA F2 3 (kf (F 3)) b = F b := by
      intro b hb
      rw [sA_ne _ _ (by omega), r3 b (by omega) (by omega) (by omega), fh b (by omega)]
    have s3 : 0 ≤ F 150 3 ∧ F 150 3 ≤ 30 := by omega
    have ek := V_keep (a := F 150) s3.1 s3.2
    have htop : RR (F 2) (mKeep (F 150)) := RR_keep s3.1 s3.2 (RS_top hR.1)
    have hb0 : HBk (F0 2) (mKeep (F 150)) (wvN A (F0 2) 0) (u (mKeep (F 150)) 10 (s * 2 + 139)) 0 := by
      have hag : ∀ j, vok j → u (F 2) 24 (s * 2 + 139) j = V (u (mKeep (F 150)) 10 (s * 2 + 139)) j := by
        intro j hj
        rw [Vu_10, ek]
        exact ag_u (fun k hk => RS_V hR.1 k hk) j hj
      show HBk (F0 2) (mKeep (F 150)) (F0 2) (u (mKeep (F 150)) 10 (s * 2 + 139)) 0
      rw [f2]
      refine ⟨RR_of htop hWs hag (fun j j0 j1 => u_ne _ _ (by omega)) (u_ne _ _ (by omega)) (fun j hj => u_ne _ _ (by omega)), hag, HZ_of (fun j hj => u_ne _ _ (by omega)), by rw [u_ne _ _ (by omega)]; omega, fun j hj => u_ne _ _ (by omega), fun j j0 j1 => rfl⟩
    have k2 : mKeep (F 150) 2 = F 36 8 := by rw [mKeep_lo (by omega) (by omega) s3.1 s3.2]; omega
    have k12 : mKeep (F 150) 12 = F 150 12 := mKeep_lo (by omega) (by omega) s3.1 s3.2
    have hWr : RB (F 2) (F 150) := (RS_top hR.1).2.2
    unfold RB at hWr
    generalize hF1 : sA F2 3 (kf (F 3)) = F1 at *
    have l150 : F1 150 = F 150 := up 150 (by omega)
    have l149 : F1 149 = F 149 := up 149 (by omega)
    have hA1 : LA F1 (F 36 8) A := by
      refine LA_cg ⟨?_, up 152 (by omega)⟩ hA
      intro b b0 b1
      rw [← hF1, sA_ne _ _ (by omega), r3 b (by omega) (by omega) (by omega), fh b (by omega)]
    have hmk := M_keep x F1 G (by rw [l150]; exact s3.1) (by rw [l150]; exact s3.2)
    rw [l150] at hmk
    have agk : agL F1 (sA F1 150 (u (mKeep (F 150)) 10 (s * 2 + 139))) := agL_0 _ _
    obtain ⟨F3, G3, t1, t2, t3, t4⟩ := M_winloop x (F0 := F1) (G0 := G) (A := A) (n := n) (n1 := jI s) (c0 := F0 2) (b0 := mKeep (F 150)) (by rw [k2]; exact hA1) (by rw [l149]; exact hrd.2.2.2.2.2.2.2.1) (by rw [k12]; omega) (by rw [p0]; exact hC.2) (by omega) 0 (by omega) (by omega) (sA F1 150 (u (mKeep (F 150)) 10 (s * 2 + 139))) G none rfl agk (fun _ _ => rfl) (by rw [sA_eq]; exact hb0)
    have e2 : m_M x k_M_winters [.ref 149, .int (jI s), .int (jI n)] (mk F1 G) = some (some (.int (jI (F3 150 8))), mk F3 G3) := by
      have l0 : F 150 0 = F 2 0 := by rw [← V_0 (F 150)]; exact hv0.1
      rw [E_M_winters]
      simp (disch := first | omega | assumption | (unfold rg; omega)) only [lit_0, lit_1, lit_2, lit_3, lit_4, lit_5, lit_6, lit_7, lit_8, lit_9, lit_10, lit_11, lit_12, lit_13, lit_14, lit_15, lit_16, lit_17, lit_18, lit_19, lit_20, lit_21, lit_22, lit_23, lit_24, lit_25, lit_26, lit_27, lit_28, lit_29, lit_30, lit_31, lit_32, lit_33, lit_34, lit_35, lit_36, lit_37, lit_38, lit_39, lit_40, lit_41, lit_42, lit_43, lit_44, lit_45, lit_46, lit_47, lit_48, lit_49, lit_50, lit_51, lit_52, lit_53, lit_54, lit_55, lit_56, lit_57, lit_58, lit_59, lit_60, lit_61, lit_62, lit_63, lit_64, lit_65, lit_67, lit_70, lit_71, lit_73, lit_75, lit_78, lit_84, lit_85, lit_86, lit_87, lit_89, lit_90, lit_91, lit_95, lit_96, lit_97, lit_98, lit_99, lit_100, lit_101, lit_102, lit_103, lit_104, lit_105, lit_107, lit_108, lit_109, lit_110, lit_111, lit_112, lit_114, lit_115, lit_116, lit_117, lit_119, lit_121, lit_122, lit_126, lit_127, lit_128, lit_130, lit_134, lit_137, lit_139, lit_140, lit_141, lit_145, lit_152, lit_159, lit_160, lit_168, lit_174, lit_180, lit_183, lit_192, lit_199, lit_236, lit_251, lit_255, lit_272, lit_284, lit_300, lit_330, lit_373, lit_753, lit_800, lit_896, lit_900, lit_1000, lit_1001, lit_1002, lit_1003, lit_1079, lit_1276, lit_1330, lit_1450, lit_3012, lit_3016, lit_3300, lit_8430, lit_9999, lit_10000, lit_11730, lit_30467, lit_65536, lit_99999, lit_100000, lit_1000000, lit_252645135, lit_858993459, lit_1000000000, lit_1431655765, jI_add, jI_sub, jI_mul, jI_neg, jI_lt, jI_le, jI_eq, b_I, b_L, b_V, b_R, b_N, b_N0, Option.bind_some, ↓reduceIte, bq0, bq1, bz0, bz1, ite_not, Classical.not_not, isO_149, fR_149_0, M_isIn, ia_150, l150, l0, hmk, is_150, sA_eq, sA_sA]
      rw [if_pos hC.1.1, if_pos hC.1.2, if_neg (by omega)]
      exact t1
    have e8 : F3 150 8 = F2 2 22 := by
      rw [r2, ← V_22 (F3 150)]
      exact (t2.2.1 22 (by unfold vok; omega)).symm
    rw [e8] at e2
    refine ⟨_, _, _, _, e1', e2, ?_⟩
    have hrs : RS (sA (kpd F 1 3) (1 + 1) (wvN A (F0 2) n.toNat)) 1 3 (F3 150) := by
      refine RS_step hs13 (by omega) hR.1 t2.1 ?_ ?_ ?_ ?_
      · rw [t2.2.2.2.2.2 0 (by omega) (by omega), p0]
      · intro k hk
        exact t2.2.2.2.2.1 k (by omega)
      · intro z z0 z1 z2
        rw [t2.2.2.1.2 z z0 z1 (by rw [k12]; exact z2), mKeep_hi s3.1 s3.2 (by omega)]
      · have q1 := t2.2.2.1.1
        have q2 := t2.2.2.2.1
        omega
    have hrel := Rel_step hR hrs (by
      intro k hk
      rw [t2.2.2.2.2.1 k (by omega), mKeep_lo (by omega) (by omega) s3.1 s3.2])
    refine Rel_ag hrel ?_
    intro b hb
    by_cases q1 : b = 150
    · rw [q1, sA_eq]
    · rw [sA_ne _ _ q1, t3 b q1 (by omega) (by omega) (by omega), ← hF1]
      by_cases q3 : b = 3
      · rw [q3, sA_eq, sA_ne _ _ (by omega), kpd_eq, sA_eq]
      · rw [sA_ne _ _ q3]
        by_cases q2 : b = 2
        · rw [q2, sA_eq, r2]
        · rw [sA_ne _ _ q2, kpd_eq, sA_ne _ _ q3, r3 b (by omega) (by omega) (by omega), ← hF0, sA_ne _ _ q2]
  · have e1 : m_M x k_G_winters [.ref 0, .int (jI s), .int (jI n)] (mk F G) = some (some (.int (jI (-1))), mk F G) := by
      rw [E_G_winters]
      simp (disch := first | omega | assumption | (unfold rg; omega)) only [lit_0, lit_1, lit_2, lit_3, lit_4, lit_5, lit_6, lit_7, lit_8, lit_9, lit_10, lit_11, lit_12, lit_13, lit_14, lit_15, lit_16, lit_17, lit_18, lit_19, lit_20, lit_21, lit_22, lit_23, lit_24, lit_25, lit_26, lit_27, lit_28, lit_29, lit_30, lit_31, lit_32, lit_33, lit_34, lit_35, lit_36, lit_37, lit_38, lit_39, lit_40, lit_41, lit_42, lit_43, lit_44, lit_45, lit_46, lit_47, lit_48, lit_49, lit_50, lit_51, lit_52, lit_53, lit_54, lit_55, lit_56, lit_57, lit_58, lit_59, lit_60, lit_61, lit_62, lit_63, lit_64, lit_65, lit_67, lit_70, lit_71, lit_73, lit_75, lit_78, lit_84, lit_85, lit_86, lit_87, lit_89, lit_90, lit_91, lit_95, lit_96, lit_97, lit_98, lit_99, lit_100, lit_101, lit_102, lit_103, lit_104, lit_105, lit_107, lit_108, lit_109, lit_110, lit_111, lit_112, lit_114, lit_115, lit_116, lit_117, lit_119, lit_121, lit_122, lit_126, lit_127, lit_128, lit_130, lit_134, lit_137, lit_139, lit_140, lit_141, lit_145, lit_152, lit_159, lit_160, lit_168, lit_174, lit_180, lit_183, lit_192, lit_199, lit_236, lit_251, lit_255, lit_272, lit_284, lit_300, lit_330, lit_373, lit_753, lit_800, lit_896, lit_900, lit_1000, lit_1001, lit_1002, lit_1003, lit_1079, lit_1276, lit_1330, lit_1450, lit_3012, lit_3016, lit_3300, lit_8430, lit_9999, lit_10000, lit_11730, lit_30467, lit_65536, lit_99999, lit_100000, lit_1000000, lit_252645135, lit_858993459, lit_1000000000, lit_1431655765, isO_0, fR_0_0, fR_0_1, fR_0_2, fR_0_3, fR_0_4, fR_0_5, fR_0_6, fR_0_7, fR_0_8, fR_0_9, fR_0_10, fR_0_11, fR_0_12, b_I, b_L, b_V, b_R, b_N, b_N0, Option.bind_some, ↓reduceIte, bq0, bq1, bz0, bz1, ite_not, Classical.not_not, C_isIn]
      rw [e26 0 (by omega), e26 1 (by omega)]
      by_cases q1 : 0 ≤ s ∧ s ≤ 9999
      · rw [if_pos q1]
        by_cases q2 : 1 ≤ n ∧ n ≤ 40
        · rw [if_pos q2, if_neg (fun z => hC ⟨⟨q1, q2⟩, z.2⟩)]
        · rw [if_neg q2, if_neg (by omega)]
      · rw [if_neg q1, if_neg (by omega)]
    have e2 : m_M x k_M_winters [.ref 149, .int (jI s), .int (jI n)] (mk F G) = some (some (.int (jI (-1))), mk F G) := by
      rw [E_M_winters]
      simp (disch := first | omega | assumption | (unfold rg; omega)) only [lit_0, lit_1, lit_2, lit_3, lit_4, lit_5, lit_6, lit_7, lit_8, lit_9, lit_10, lit_11, lit_12, lit_13, lit_14, lit_15, lit_16, lit_17, lit_18, lit_19, lit_20, lit_21, lit_22, lit_23, lit_24, lit_25, lit_26, lit_27, lit_28, lit_29, lit_30, lit_31, lit_32, lit_33, lit_34, lit_35, lit_36, lit_37, lit_38, lit_39, lit_40, lit_41, lit_42, lit_43, lit_44, lit_45, lit_46, lit_47, lit_48, lit_49, lit_50, lit_51, lit_52, lit_53, lit_54, lit_55, lit_56, lit_57, lit_58, lit_59, lit_60, lit_61, lit_62, lit_63, lit_64, lit_65, lit_67, lit_70, lit_71, lit_73, lit_75, lit_78, lit_84, lit_85, lit_86, lit_87, lit_89, lit_90, lit_91, lit_95, lit_96, lit_97, lit_98, lit_99, lit_100, lit_101, lit_102, lit_103, lit_104, lit_105, lit_107, lit_108, lit_109, lit_110, lit_111, lit_112, lit_114, lit_115, lit_116, lit_117, lit_119, lit_121, lit_122, lit_126, lit_127, lit_128, lit_130, lit_134, lit_137, lit_139, lit_140, lit_141, lit_145, lit_152, lit_159, lit_160, lit_168, lit_174, lit_180, lit_183, lit_192, lit_199, lit_236, lit_251, lit_255, lit_272, lit_284, lit_300, lit_330, lit_373, lit_753, lit_800, lit_896, lit_900, lit_1000, lit_1001, lit_1002, lit_1003, lit_1079, lit_1276, lit_1330, lit_1450, lit_3012, lit_3016, lit_3300, lit_8430, lit_9999, lit_10000, lit_11730, lit_30467, lit_65536, lit_99999, lit_100000, lit_1000000, lit_252645135, lit_858993459, lit_1000000000, lit_1431655765, jI_add, jI_sub, jI_mul, jI_neg, jI_lt, jI_le, jI_eq, b_I, b_L, b_V, b_R, b_N, b_N0, Option.bind_some, ↓reduceIte, bq0, bq1, bz0, bz1, ite_not, Classical.not_not, isO_149, fR_149_0, M_isIn, va_0]
      by_cases q1 : 0 ≤ s ∧ s ≤ 9999
      · rw [if_pos q1]
        by_cases q2 : 1 ≤ n ∧ n ≤ 40
        · rw [if_pos q2, if_pos (by omega)]
        · rw [if_neg q2]
      · rw [if_neg q1]
    exact Ok_pure hR e1 e2
end
