-- days as calls
section
variable {x : m_X} {Fc Fm : Nat → Fn}
theorem top_of (hR : Rel (hyb Fc Fm)) : RR (Fc 2) (Fm 150) := by
  have g := RS_top hR.1
  rw [hyb_lo Fc Fm (by omega), hyb_hi Fc Fm (by omega)] at g
  exact g
theorem RR_keep {c a : Fn} (h0 : 0 ≤ a 3) (h1 : a 3 ≤ 30) (h : RR c a) : RR c (mKeep a) := by
  refine RR_cg (fun _ _ _ => rfl) ?_ h
  intro k hk
  unfold rlv at hk
  by_cases q : k < 180
  · exact mKeep_lo q (by omega) h0 h1
  · exact mKeep_hi h0 h1 (by omega)
theorem Rel_dayStep {A : Law4} (hR : Rel (hyb Fc Fm)) (hA : LA (hyb Fc Fm) (Fc 36 8) A) (hd : Fc 2 22 < 9999) : Rel (hyb (stp Fc (wDay A (Fc 2))) (sA Fm 150 (mGo A 1 (mKeep (Fm 150))))) ∧ wDay A (Fc 2) 22 = Fc 2 22 + 1 := by
  have s3 := s3_of hR
  have hv := V_of hR
  have ek := V_keep (a := Fm 150) s3.1 s3.2
  have ht := RR_keep s3.1 s3.2 (top_of hR)
  obtain ⟨q1, q2, q3, q4, q5, q6, q7⟩ := RR_day hA (fun k hk => by rw [ek]; exact (hv k hk).symm) ht hd
  have k12 : mKeep (Fm 150) 12 = Fm 150 12 := mKeep_lo (by omega) (by omega) s3.1 s3.2
  have hrs : RS (sA (kpd (hyb Fc Fm) 1 3) (1 + 1) (wDay A (Fc 2))) 1 3 (mGo A 1 (mKeep (Fm 150))) := by
    refine RS_step hs13 (by omega) hR.1 q1 ?_ ?_ ?_ ?_
    · rw [hyb_lo Fc Fm (by omega)]
      exact q5 0 (by omega) (by omega)
    · intro k hk
      rw [hyb_hi Fc Fm (by omega)]
      exact q4 k (by omega)
    · intro z z0 z1 z2
      rw [hyb_hi Fc Fm (by omega)] at z2 ⊢
      rw [q2.2 z z0 z1 (by rw [k12]; exact z2), mKeep_hi s3.1 s3.2 (by omega)]
    · rw [hyb_hi Fc Fm (by omega)]
      have := q2.1
      omega
  have hrel := Rel_step hR hrs (by
    intro k hk
    rw [hyb_hi Fc Fm (by omega), q4 k (by omega), mKeep_lo (by omega) (by omega) s3.1 s3.2])
  rw [← stp_eq, stp_hyb, hyb_sB _ _ _ (by omega)] at hrel
  exact ⟨hrel, q6⟩
theorem RD_23 (hR : Rel (hyb Fc Fm)) : Fm 149 23 = 1 := by
  have g := hR.2.2.2.2.1
  unfold RD at g
  rw [hyb_hi Fc Fm (b := 149) (by omega)] at g
  exact g.2.2.2.2.2.2.2.1
theorem W_of (hR : Rel (hyb Fc Fm)) : 0 ≤ Fm 150 12 ∧ Fm 150 12 ≤ 70000 := by
  have g := top_of hR
  have h := WI_c g.1
  have q := g.2.2
  unfold RB at q
  omega
/-- one day of the class's loop -/
theorem day_c {F G : Nat → Fn} {A : Law4} (hs : SR F) (ht : TR F) (hw : WI (F 2)) (hA : LA F (F 36 8) A) (hd : F 2 22 < 9999) (n : Int32) (i : Int) : ∃ F2, m_D x 7 k_G_letDaysPass 2 [some (.ref 0), some (.int n), some (.int (jI i))] [] (mk F G) = (if n ≤ jI i then some (some (.int 1), mk F G) else m_D x 7 k_G_letDaysPass 2 [some (.ref 0), some (.int n), some (.int (jI (i + 1)))] [] (mk F2 G)) ∧ eqC (stp F (wDay A (F 2))) F2 ∧ upM F F2 := by
  have em2 : mkd F 1 3 (1 + 1) = F 2 := mkd_ne (by omega)
  have em3 : mkd F 1 3 3 = F 3 := mkd_ne (by omega)
  have em36 : mkd F 1 3 36 = F 36 := mkd_ne (by omega)
  have hA1 : LA (mkd F 1 3) (F 36 8) A := LA_cg ⟨fun b h1 h2 => mkd_ne (by omega), mkd_ne (by omega)⟩ hA
  obtain ⟨F2, r1, r2, r3⟩ := C_passDay x (mkd F 1 3) G (w := 1) (t := F 36 8) hA1 (Or.inl rfl) (by rw [em2]; exact hw) (by rw [em2]; exact hd)
  rw [em2] at r1 r2
  have hrl := C_ruling x (mkd F 1 3) G (by rw [em36]; exact ht.1) (by rw [em36]; exact ht.2.1) (by rw [em36]; exact ht.2.2.1) (by rw [em36]; exact ht.2.2.2)
  rw [em36] at hrl
  have f3 : F2 3 = F 3 := (r3 3 (by omega) (by omega) (by omega)).trans em3
  have hk := C_keepS x F2 G (s := 3) (Or.inl rfl) (by rw [f3]; exact hs.1) (by rw [f3]; exact hs.2.1) (by rw [f3]; exact hs.2.2.1) (by rw [f3]; exact hs.2.2.2)
  rw [f3] at hk
  have hcd := C_dayCanPass x F G (w := 1) (Or.inl rfl) (by have := WI_c hw; unfold rg; simp only [Nat.reduceAdd]; omega)
  simp only [Nat.reduceAdd] at hcd
  rw [if_pos hd] at hcd
  refine ⟨sA F2 3 (kf (F 3)), ?_, agW_stp r3 r2⟩
  have fin : ∀ S, S = sv (F 36 8) → (m_bI (m_M x k_Law_passDay [.ref 136, .ref 1, S] (mk (mkd F 1 3) G)) fun v42 s42 => (m_fR s42 10 1 0).bind fun v47 => m_bV (m_M x k_Steps_keep [.ref v47] s42) fun s50 => m_D x 7 k_G_letDaysPass 2 [some (.ref 0), some (.int n), some (.int (jI i + (1 : Int32)))] [] s50) = m_D x 7 k_G_letDaysPass 2 [some (.ref 0), some (.int n), some (.int (jI (i + 1)))] [] (mk (sA F2 3 (kf (F 3))) G) := by
    intro S hS
    rw [hS, r1, b_I, fR_0_1, Option.bind_some, hk, b_V, lit_1, jI_add]
    rfl
  rw [E_G_letDaysPass_2 x 7 (by omega)]
  by_cases q0 : n ≤ jI i
  · rw [if_pos q0, if_pos q0]
  · rw [if_neg q0, if_neg q0, fR_0_0, Option.bind_some, hcd, b_I, if_neg (show ¬ jI 1 = 0 by decide), fR_0_1, Option.bind_some, fR_0_0, Option.bind_some, Cs_mark x F G hs, b_V, fR_0_9, Option.bind_some, fR_0_0, Option.bind_some, hrl]
    by_cases q : F 36 8 < 0
    · have es : sv (F 36 8) = .null := by unfold sv; rw [if_pos q]
      rw [es, b_N0]
      exact fin _ es.symm
    · have es : sv (F 36 8) = .ref (104 + 6 * (F 36 8).toNat) := by unfold sv; rw [if_neg q]
      rw [es, b_N]
      exact fin _ es.symm
/-- some days, both -/
theorem days_S {n : Int} (hn : rg n) : ∀ (k : Nat) (i : Int), i + k = n ∨ (n < i ∧ k = 0) → 0 ≤ i → rg i → ∀ Fc Fm, Rel (hyb Fc Fm) → ∃ v Fc' Fm', (∀ F G, eqC Fc F → F 152 = Fm 152 → ∃ F', m_D x 7 k_G_letDaysPass 2 [some (.ref 0), some (.int (jI n)), some (.int (jI i))] [] (mk F G) = some (some (.int (jI v)), mk F' G) ∧ eqC Fc' F' ∧ upM F F') ∧ (∀ F G, eqM Fm F → (∀ b, 104 ≤ b → b < 128 → F b = Fc b) → ∃ F' G', m_D x 9 k_M_arePassed 2 [some (.ref 149), some (.int (jI n)), some (.int (jI i))] [] (mk F G) = some (some (.int (jI v)), mk F' G') ∧ eqM Fm' F' ∧ loC F F') ∧ Rel (hyb Fc' Fm') ∧ Fm' 152 = Fm 152 ∧ (∀ b, 104 ≤ b → b < 128 → Fc' b = Fc b) ∧ (v = 0 ∨ v = 1) ∧ (Fc 2 22 + k ≤ 9999 → v = 1) := by
  intro k
  unfold rg at hn
  induction k with
  | zero =>
    intro i hi h0 hri Fc Fm hR
    unfold rg at hri
    have hle : jI n ≤ jI i := by
      rw [jI_le (by omega) (by omega) (by omega) (by omega)]
      omega
    refine ⟨1, Fc, Fm, ?_, ?_, hR, rfl, fun _ _ _ => rfl, by omega, by omega⟩
    · intro F G h _
      refine ⟨F, ?_, h, fun _ _ => rfl⟩
      rw [E_G_letDaysPass_2 x 7 (by omega), if_pos hle]
      rfl
    · intro F G h _
      refine ⟨F, G, ?_, h, fun _ _ => rfl⟩
      rw [E_M_arePassed_2 x 9 (by omega), if_pos hle]
      rfl
  | succ k ih =>
    intro i hi h0 hri Fc Fm hR
    unfold rg at hri
    have hw := WI_of hR
    have hc := WI_c hw
    have hs := SR_of hR
    have ht := TR_of hR
    have s3 := s3_of hR
    have hv0 := cond_g hR
    have hwv := WV_of hR
    have e8 : Fm 150 8 = Fc 2 22 := by rw [← V_22 (Fm 150)]; exact hv0.2.1
    obtain ⟨A, hA⟩ := LA_of hR
    have hle : ¬ jI n ≤ jI i := by
      rw [jI_le (by omega) (by omega) (by omega) (by omega)]
      omega
    by_cases hd : Fc 2 22 < 9999
    · obtain ⟨hR1, hd1⟩ := Rel_dayStep hR hA hd
      obtain ⟨v, Fc', Fm', p1, p2, p3, p4, p5, p6, p7⟩ := ih (i + 1) (by omega) (by omega) (by unfold rg; omega) _ _ hR1
      refine ⟨v, Fc', Fm', ?_, ?_, p3, by rw [p4, sA_ne _ _ (by omega)], ?_, p6, ?_⟩
      · intro F G h h2
        obtain ⟨F2, q1, q2, q3⟩ := day_c (x := x) (F := F) (G := G) (A := A) (eqC_SR hs h) (eqC_TR ht.1 h) (by rw [eqC_2 h]; exact hw) (LA_C hA h h2) (by rw [eqC_2 h]; exact hd) (jI n) i
        rw [if_neg hle] at q1
        rw [eqC_2 h] at q2
        obtain ⟨F3, s1, s2, s4⟩ := p1 F2 G (eqC_tr (stp_eqC hs h _) q2) (by rw [q3 152 (by omega), h2, sA_ne _ _ (by omega)])
        exact ⟨F3, q1.trans s1, s2, fun b hb => (s4 b hb).trans (q3 b hb)⟩
      · intro F G h h2
        have f150 := h 150 (by omega) (by omega)
        have f149 := h 149 (by omega) (by omega)
        have hW := W_of hR
        have ek := V_keep (a := Fm 150) s3.1 s3.2
        have hm : ¬ jI (Fm 150 8) = 9999 := by
          rw [lit_9999, jI_eq (by omega) (by omega) (by omega) (by omega)]
          omega
        have hAm := LA_M hR hA h h2
        have a150 : sA F 150 (mKeep (Fm 150)) 150 = mKeep (Fm 150) := sA_eq _ _ _
        have k12 : mKeep (Fm 150) 12 = Fm 150 12 := mKeep_lo (by omega) (by omega) s3.1 s3.2
        obtain ⟨F2, G2, r1, r2, r3, r4, r5⟩ := M_goOn x (sA F 150 (mKeep (Fm 150))) G (A := A) (by rw [a150, mKeep_lo (by omega) (by omega) s3.1 s3.2, ← f150]; exact LA_cg ⟨fun b h0 h1 => sA_ne _ _ (by omega), sA_ne _ _ (by omega)⟩ hAm) (by rw [a150, ek]; exact hwv) (by rw [sA_ne _ _ (by omega), f149, RD_23 hR]; omega) (by rw [a150, k12]; omega) (by rw [a150, k12]; omega)
        rw [a150, sA_ne _ _ (by omega), f149, RD_23 hR] at r2
        have ag : eqM (sA Fm 150 (mGo A 1 (mKeep (Fm 150)))) F2 ∧ loC F F2 := agL_eq h (agL_tr (agL_0 F _) r4) r2
        obtain ⟨F3, G3, s1, s2, s4⟩ := p2 F2 G2 ag.1 (fun b h0 h1 => by rw [ag.2 b (by omega), h2 b h0 h1, stp_sc _ (by omega)])
        refine ⟨F3, G3, ?_, s2, fun b hb => (s4 b hb).trans (ag.2 b hb)⟩
        rw [E_M_arePassed_2 x 9 (by omega), if_neg hle, fR_149_0, Option.bind_some, lit_8, ia_150 x F G (by omega) (by omega), Option.bind_some, f150, if_neg hm, M_keep x F G (by rw [f150]; exact s3.1) (by rw [f150]; exact s3.2), b_V, f150, r1, b_V, lit_1, jI_add]
        exact s1
      · intro b b0 b1
        rw [p5 b b0 b1, stp_sc _ (by omega)]
      · intro hq
        apply p7
        have e2 : stp Fc (wDay A (Fc 2)) 2 = wDay A (Fc 2) := by
          unfold stp
          rw [sA_ne _ _ (by omega), sA_eq]
        rw [e2, hd1]
        omega
    · refine ⟨0, Fc, Fm, ?_, ?_, hR, rfl, fun _ _ _ => rfl, by omega, by omega⟩
      · intro F G h _
        refine ⟨F, ?_, h, fun _ _ => rfl⟩
        have hcd := C_dayCanPass x F G (w := 1) (Or.inl rfl) (by rw [eqC_2 h]; unfold rg; omega)
        simp only [Nat.reduceAdd, eqC_2 h] at hcd
        rw [if_neg hd] at hcd
        rw [E_G_letDaysPass_2 x 7 (by omega), if_neg hle, fR_0_0, Option.bind_some, hcd, b_I, if_pos (show jI 0 = 0 by decide)]
        rfl
      · intro F G h _
        have f150 := h 150 (by omega) (by omega)
        refine ⟨F, G, ?_, h, fun _ _ => rfl⟩
        have hm : jI (Fm 150 8) = 9999 := by
          rw [lit_9999]
          congr 1
          omega
        rw [E_M_arePassed_2 x 9 (by omega), if_neg hle, fR_149_0, Option.bind_some, lit_8, ia_150 x F G (by omega) (by omega), Option.bind_some, f150, if_pos hm]
        rfl
theorem oks_days {n : Int} (hR : Rel (hyb Fc Fm)) (h0 : 0 ≤ n) (hn : rg n) : ∃ v Fc' Fm', (∀ F G, eqC Fc F → F 152 = Fm 152 → ∃ F', m_M x k_G_letDaysPass [.ref 0, .int (jI n)] (mk F G) = some (some (.int (jI v)), mk F' G) ∧ eqC Fc' F' ∧ upM F F') ∧ (∀ F G, eqM Fm F → (∀ b, 104 ≤ b → b < 128 → F b = Fc b) → ∃ F' G', m_M x k_M_arePassed [.ref 149, .int (jI n)] (mk F G) = some (some (.int (jI v)), mk F' G') ∧ eqM Fm' F' ∧ loC F F') ∧ Rel (hyb Fc' Fm') ∧ Fm' 152 = Fm 152 ∧ (∀ b, 104 ≤ b → b < 128 → Fc' b = Fc b) ∧ (v = 0 ∨ v = 1) ∧ (Fc 2 22 + n ≤ 9999 → v = 1) := by
  have hn' := hn
  unfold rg at hn'
  obtain ⟨v, Fc', Fm', p1, p2, p3, p4, p5, p6, p7⟩ := days_S (x := x) hn n.toNat 0 (by omega) (by omega) (by unfold rg; omega) Fc Fm hR
  refine ⟨v, Fc', Fm', ?_, ?_, p3, p4, p5, p6, by intro q; exact p7 (by omega)⟩
  · intro F G h h2
    obtain ⟨F', q⟩ := p1 F G h h2
    refine ⟨F', ?_, q.2⟩
    rw [E_G_letDaysPass, isO_0, if_pos rfl, lit_0]
    exact q.1
  · intro F G h h2
    obtain ⟨F', G', q⟩ := p2 F G h h2
    refine ⟨F', G', ?_, q.2⟩
    rw [E_M_arePassed, isO_149, if_pos rfl, lit_0]
    exact q.1
theorem oks_day {n : Int} (hR : Rel (hyb Fc Fm)) (hn : rg n) : OkS x Fc Fm k_G_day k_M_day [.int (jI n)] := by
  have hw := WI_of hR
  have hc := WI_c hw
  have hv0 := cond_g hR
  have hn' := hn
  unfold rg at hn'
  have e8 : Fm 150 8 = Fc 2 22 := by rw [← V_22 (Fm 150)]; exact hv0.2.1
  by_cases hC : (1 ≤ n ∧ n ≤ 60) ∧ Fc 2 22 + n ≤ 9999
  · obtain ⟨v, Fc', Fm', p1, p2, p3, p4, p5, p6, p7⟩ := oks_days (x := x) hR (by omega) hn
    have ev := p7 hC.2
    subst ev
    have hv1 := V_of p3
    have e9 : Fm' 150 9 = Fc' 2 23 := by
      have q := hv1 23 (by unfold vok; omega)
      rw [V_23] at q
      exact q
    have hcc := WI_c (WI_of p3)
    refine ⟨jI (Fc' 2 23), Fc', Fm', ?_, ?_, p3, p4, p5, VR_i (by omega) (by omega)⟩
    · intro F G h h2
      obtain ⟨F', q1, q2, q3⟩ := p1 F G h h2
      refine ⟨F', ?_, q2, q3⟩
      rw [E_G_day]
      have i22 : m_ia x (mk F G) 2 (jI 22) = some (jI (Fc 2 22)) := by rw [ia_2 x F G (by omega) (by omega), eqC_2 h]
      have i23 : m_ia x (mk F' G) 2 (jI 23) = some (jI (Fc' 2 23)) := by rw [ia_2 x F' G (by omega) (by omega), eqC_2 q2]
      have fw : ∀ (H : Nat → Fn), m_fR (mk H G) 9 0 1 = some 2 := fun H => fR_W_0 H G (w := 1) (Or.inl rfl)
      simp (disch := first | omega | assumption | (unfold rg; omega)) only [lit_0, lit_1, lit_2, lit_3, lit_4, lit_5, lit_6, lit_7, lit_8, lit_9, lit_10, lit_11, lit_12, lit_13, lit_14, lit_15, lit_16, lit_17, lit_18, lit_19, lit_20, lit_21, lit_22, lit_23, lit_24, lit_25, lit_26, lit_27, lit_28, lit_29, lit_30, lit_31, lit_32, lit_33, lit_34, lit_35, lit_36, lit_37, lit_38, lit_39, lit_40, lit_41, lit_42, lit_43, lit_44, lit_45, lit_46, lit_47, lit_48, lit_49, lit_50, lit_51, lit_52, lit_53, lit_54, lit_55, lit_56, lit_57, lit_58, lit_59, lit_60, lit_61, lit_62, lit_63, lit_64, lit_65, lit_67, lit_70, lit_71, lit_73, lit_75, lit_78, lit_84, lit_85, lit_86, lit_87, lit_89, lit_90, lit_91, lit_95, lit_96, lit_97, lit_98, lit_99, lit_100, lit_101, lit_102, lit_103, lit_104, lit_105, lit_107, lit_108, lit_109, lit_110, lit_111, lit_112, lit_114, lit_115, lit_116, lit_117, lit_119, lit_121, lit_122, lit_126, lit_127, lit_128, lit_130, lit_134, lit_137, lit_139, lit_140, lit_141, lit_145, lit_152, lit_159, lit_160, lit_168, lit_174, lit_180, lit_183, lit_192, lit_199, lit_236, lit_251, lit_255, lit_272, lit_284, lit_300, lit_330, lit_373, lit_753, lit_800, lit_896, lit_900, lit_1000, lit_1001, lit_1002, lit_1003, lit_1079, lit_1276, lit_1330, lit_1450, lit_3012, lit_3016, lit_3300, lit_8430, lit_9999, lit_10000, lit_11730, lit_30467, lit_65536, lit_99999, lit_100000, lit_1000000, lit_252645135, lit_858993459, lit_1000000000, lit_1431655765, jI_add, jI_sub, jI_mul, jI_neg, jI_lt, jI_le, jI_eq, isO_0, fR_0_0, fR_0_1, fR_0_2, fR_0_3, fR_0_4, fR_0_5, fR_0_6, fR_0_7, fR_0_8, fR_0_9, fR_0_10, fR_0_11, fR_0_12, b_I, b_L, b_V, b_R, b_N, b_N0, Option.bind_some, ↓reduceIte, bq0, bq1, bz0, bz1, ite_not, Classical.not_not, fw, C_isIn, i22, q1, i23]
      rw [if_pos hC.1, if_pos hC.2]
    · intro F G h h2
      obtain ⟨F', G', q1, q2, q3⟩ := p2 F G h h2
      refine ⟨F', G', ?_, q2, q3⟩
      have f150 := h 150 (by omega) (by omega)
      have g150 := q2 150 (by omega) (by omega)
      rw [E_M_day]
      simp (disch := first | omega | assumption | (unfold rg; omega)) only [lit_0, lit_1, lit_2, lit_3, lit_4, lit_5, lit_6, lit_7, lit_8, lit_9, lit_10, lit_11, lit_12, lit_13, lit_14, lit_15, lit_16, lit_17, lit_18, lit_19, lit_20, lit_21, lit_22, lit_23, lit_24, lit_25, lit_26, lit_27, lit_28, lit_29, lit_30, lit_31, lit_32, lit_33, lit_34, lit_35, lit_36, lit_37, lit_38, lit_39, lit_40, lit_41, lit_42, lit_43, lit_44, lit_45, lit_46, lit_47, lit_48, lit_49, lit_50, lit_51, lit_52, lit_53, lit_54, lit_55, lit_56, lit_57, lit_58, lit_59, lit_60, lit_61, lit_62, lit_63, lit_64, lit_65, lit_67, lit_70, lit_71, lit_73, lit_75, lit_78, lit_84, lit_85, lit_86, lit_87, lit_89, lit_90, lit_91, lit_95, lit_96, lit_97, lit_98, lit_99, lit_100, lit_101, lit_102, lit_103, lit_104, lit_105, lit_107, lit_108, lit_109, lit_110, lit_111, lit_112, lit_114, lit_115, lit_116, lit_117, lit_119, lit_121, lit_122, lit_126, lit_127, lit_128, lit_130, lit_134, lit_137, lit_139, lit_140, lit_141, lit_145, lit_152, lit_159, lit_160, lit_168, lit_174, lit_180, lit_183, lit_192, lit_199, lit_236, lit_251, lit_255, lit_272, lit_284, lit_300, lit_330, lit_373, lit_753, lit_800, lit_896, lit_900, lit_1000, lit_1001, lit_1002, lit_1003, lit_1079, lit_1276, lit_1330, lit_1450, lit_3012, lit_3016, lit_3300, lit_8430, lit_9999, lit_10000, lit_11730, lit_30467, lit_65536, lit_99999, lit_100000, lit_1000000, lit_252645135, lit_858993459, lit_1000000000, lit_1431655765, jI_add, jI_sub, jI_mul, jI_neg, jI_lt, jI_le, jI_eq, b_I, b_L, b_V, b_R, b_N, b_N0, Option.bind_some, ↓reduceIte, bq0, bq1, bz0, bz1, ite_not, Classical.not_not, isO_149, fR_149_0, M_isIn, ia_150, f150, e8, q1, g150, e9]
      rw [if_pos hC.1, if_neg (by omega), if_neg (by omega)]
  · refine ⟨jI (-1), Fc, Fm, ?_, ?_, hR, rfl, fun _ _ _ => rfl, VR_i (by omega) (by omega)⟩
    · intro F G h h2
      refine ⟨F, ?_, h, fun _ _ => rfl⟩
      rw [E_G_day]
      have i22 : m_ia x (mk F G) 2 (jI 22) = some (jI (Fc 2 22)) := by rw [ia_2 x F G (by omega) (by omega), eqC_2 h]
      have fw : m_fR (mk F G) 9 0 1 = some 2 := fR_W_0 F G (w := 1) (Or.inl rfl)
      simp (disch := first | omega | assumption | (unfold rg; omega)) only [lit_0, lit_1, lit_2, lit_3, lit_4, lit_5, lit_6, lit_7, lit_8, lit_9, lit_10, lit_11, lit_12, lit_13, lit_14, lit_15, lit_16, lit_17, lit_18, lit_19, lit_20, lit_21, lit_22, lit_23, lit_24, lit_25, lit_26, lit_27, lit_28, lit_29, lit_30, lit_31, lit_32, lit_33, lit_34, lit_35, lit_36, lit_37, lit_38, lit_39, lit_40, lit_41, lit_42, lit_43, lit_44, lit_45, lit_46, lit_47, lit_48, lit_49, lit_50, lit_51, lit_52, lit_53, lit_54, lit_55, lit_56, lit_57, lit_58, lit_59, lit_60, lit_61, lit_62, lit_63, lit_64, lit_65, lit_67, lit_70, lit_71, lit_73, lit_75, lit_78, lit_84, lit_85, lit_86, lit_87, lit_89, lit_90, lit_91, lit_95, lit_96, lit_97, lit_98, lit_99, lit_100, lit_101, lit_102, lit_103, lit_104, lit_105, lit_107, lit_108, lit_109, lit_110, lit_111, lit_112, lit_114, lit_115, lit_116, lit_117, lit_119, lit_121, lit_122, lit_126, lit_127, lit_128, lit_130, lit_134, lit_137, lit_139, lit_140, lit_141, lit_145, lit_152, lit_159, lit_160, lit_168, lit_174, lit_180, lit_183, lit_192, lit_199, lit_236, lit_251, lit_255, lit_272, lit_284, lit_300, lit_330, lit_373, lit_753, lit_800, lit_896, lit_900, lit_1000, lit_1001, lit_1002, lit_1003, lit_1079, lit_1276, lit_1330, lit_1450, lit_3012, lit_3016, lit_3300, lit_8430, lit_9999, lit_10000, lit_11730, lit_30467, lit_65536, lit_99999, lit_100000, lit_1000000, lit_252645135, lit_858993459, lit_1000000000, lit_1431655765, jI_add, jI_sub, jI_mul, jI_neg, isO_0, fR_0_0, fR_0_1, fR_0_2, fR_0_3, fR_0_4, fR_0_5, fR_0_6, fR_0_7, fR_0_8, fR_0_9, fR_0_10, fR_0_11, fR_0_12, b_I, b_L, b_V, b_R, b_N, b_N0, Option.bind_some, ↓reduceIte, bq0, bq1, bz0, bz1, ite_not, Classical.not_not, fw, C_isIn, i22]
      by_cases q1 : 1 ≤ n ∧ n ≤ 60
      · rw [if_pos q1]
        simp (disch := omega) only [jI_lt, jI_le, jI_eq]
        rw [if_neg (fun z => hC ⟨q1, z⟩)]
      · rw [if_neg q1]
    · intro F G h h2
      refine ⟨F, G, ?_, h, fun _ _ => rfl⟩
      have f150 := h 150 (by omega) (by omega)
      rw [E_M_day]
      simp (disch := first | omega | assumption | (unfold rg; omega)) only [lit_0, lit_1, lit_2, lit_3, lit_4, lit_5, lit_6, lit_7, lit_8, lit_9, lit_10, lit_11, lit_12, lit_13, lit_14, lit_15, lit_16, lit_17, lit_18, lit_19, lit_20, lit_21, lit_22, lit_23, lit_24, lit_25, lit_26, lit_27, lit_28, lit_29, lit_30, lit_31, lit_32, lit_33, lit_34, lit_35, lit_36, lit_37, lit_38, lit_39, lit_40, lit_41, lit_42, lit_43, lit_44, lit_45, lit_46, lit_47, lit_48, lit_49, lit_50, lit_51, lit_52, lit_53, lit_54, lit_55, lit_56, lit_57, lit_58, lit_59, lit_60, lit_61, lit_62, lit_63, lit_64, lit_65, lit_67, lit_70, lit_71, lit_73, lit_75, lit_78, lit_84, lit_85, lit_86, lit_87, lit_89, lit_90, lit_91, lit_95, lit_96, lit_97, lit_98, lit_99, lit_100, lit_101, lit_102, lit_103, lit_104, lit_105, lit_107, lit_108, lit_109, lit_110, lit_111, lit_112, lit_114, lit_115, lit_116, lit_117, lit_119, lit_121, lit_122, lit_126, lit_127, lit_128, lit_130, lit_134, lit_137, lit_139, lit_140, lit_141, lit_145, lit_152, lit_159, lit_160, lit_168, lit_174, lit_180, lit_183, lit_192, lit_199, lit_236, lit_251, lit_255, lit_272, lit_284, lit_300, lit_330, lit_373, lit_753, lit_800, lit_896, lit_900, lit_1000, lit_1001, lit_1002, lit_1003, lit_1079, lit_1276, lit_1330, lit_1450, lit_3012, lit_3016, lit_3300, lit_8430, lit_9999, lit_10000, lit_11730, lit_30467, lit_65536, lit_99999, lit_100000, lit_1000000, lit_252645135, lit_858993459, lit_1000000000, lit_1431655765, jI_add, jI_sub, jI_mul, jI_neg, b_I, b_L, b_V, b_R, b_N, b_N0, Option.bind_some, ↓reduceIte, bq0, bq1, bz0, bz1, ite_not, Classical.not_not, isO_149, fR_149_0, M_isIn, ia_150, f150, e8]
      by_cases q1 : 1 ≤ n ∧ n ≤ 60
      · rw [if_pos q1]
        simp (disch := omega) only [jI_lt, jI_le, jI_eq]
        rw [if_pos (by omega)]
      · rw [if_neg q1]
end
