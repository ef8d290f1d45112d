-- pawning and days as calls
theorem agW_stp {F F2 : Nat → Fn} {c : Fn} (h : agW 1 (mkd F 1 3) F2) (h2 : F2 2 = c) : eqC (stp F c) (sA F2 3 (kf (F 3))) ∧ upM F (sA F2 3 (kf (F 3))) := by
  constructor
  · intro b hb
    unfold keepC at hb
    unfold stp
    by_cases q : b = 3
    · rw [q, sA_eq, sA_eq]
    · rw [sA_ne _ _ q, sA_ne _ _ q]
      by_cases q2 : b = 2
      · rw [q2, sA_eq, h2]
      · rw [sA_ne _ _ q2]
        exact h b (by omega) (by omega) (by omega)
  · intro b hb
    rw [sA_ne _ _ (by omega), h b (by omega) (by omega) (by omega), mkd_ne (by omega)]
theorem agW_mkd {F F2 : Nat → Fn} (h : agW 1 (mkd F 1 3) F2) (h2 : F2 2 = F 2) : eqC (mkd F 1 3) F2 ∧ upM F F2 := by
  constructor
  · intro b hb
    unfold keepC at hb
    by_cases q2 : b = 2
    · rw [q2, h2, mkd_ne (by omega)]
    · exact h b (by omega) (by omega) (by omega)
  · intro b hb
    rw [h b (by omega) (by omega) (by omega), mkd_ne (by omega)]
theorem agL_eq {A F F2 : Nat → Fn} {f : Fn} (h : eqM A F) (h1 : agL F F2) (h2 : F2 150 = f) : eqM (sA A 150 f) F2 ∧ loC F F2 := by
  constructor
  · intro b b0 b1
    by_cases q : b = 150
    · rw [q, sA_eq, h2]
    · rw [sA_ne _ _ q, h1 b q (by omega) (by omega) (by omega)]
      exact h b b0 b1
  · intro b hb
    exact h1 b (by omega) (by omega) (by omega) (by omega)
abbrev TR (F : Nat → Fn) : Prop := 0 ≤ F 36 7 ∧ F 36 7 ≤ 4 ∧ -1 ≤ F 36 8 ∧ F 36 8 < F 36 7
section
variable (x : m_X) (F G : Nat → Fn)
theorem Gc_pledge {g : Int} {A : Law4} (hs : SR F) (ht : TR F) (hw : WI (F 2)) (hA : LA F (F 36 8) A) (hg : rg g) : ∃ F2, m_M x k_G_pledge [.ref 0, .int (jI g)] (mk F G) = some (some (.int (jI (if pawnC A (F 2) g then A 3 (F 2) g else -1))), mk F2 G) ∧ eqC (if pawnC A (F 2) g then stp F (wPawn A (F 2) g) else mkd F 1 3) F2 ∧ upM F F2 := by
  have em2 : mkd F 1 3 (1 + 1) = F 2 := mkd_ne (by omega)
  have em3 : mkd F 1 3 3 = F 3 := mkd_ne (by omega)
  have em36 : mkd F 1 3 36 = F 36 := mkd_ne (by omega)
  have hA1 : LA (mkd F 1 3) (F 36 8) A := LA_cg ⟨fun b h1 h2 => mkd_ne (by omega), mkd_ne (by omega)⟩ hA
  obtain ⟨F2, r1, r2, r3⟩ := C_pawnOff x (mkd F 1 3) G (w := 1) (t := F 36 8) (g := g) hA1 (Or.inl rfl) (by rw [em2]; exact hw) hg
  rw [em2] at r1 r2
  have hrl := C_ruling x (mkd F 1 3) G (by rw [em36]; exact ht.1) (by rw [em36]; exact ht.2.1) (by rw [em36]; exact ht.2.2.1) (by rw [em36]; exact ht.2.2.2)
  rw [em36] at hrl
  have f3 : F2 3 = F 3 := (r3 3 (by omega) (by omega) (by omega)).trans em3
  have fin : ∀ S, S = sv (F 36 8) → (m_bI (m_M x k_Law_pawnOff [.ref 136, .ref 1, S, .int (jI g)] (mk (mkd F 1 3) G)) fun v25 s25 => m_bI (m_M x k_G_kept [.ref 0, .int v25] s25) fun v28 s28 => some (some (Value.int v28), s28)) = (if pawnC A (F 2) g then some (some (.int (jI (A 3 (F 2) g))), mk (sA F2 3 (kf (F 3))) G) else some (some (.int (jI (-1))), mk F2 G)) := by
    intro S hS
    have ha := A_r (s := 3) (q := g) (c := F 2) hA (by omega) (by omega)
    rw [hS, r1, b_I]
    by_cases hC : pawnC A (F 2) g
    · rw [if_pos hC, if_pos hC, Cs_c x F G hs f3 (by unfold rg; omega) (by omega), b_I]
    · rw [if_neg hC, if_neg hC, Cs_n x F G hs f3, b_I]
  have hm : m_M x k_G_pledge [.ref 0, .int (jI g)] (mk F G) = (if pawnC A (F 2) g then some (some (.int (jI (A 3 (F 2) g))), mk (sA F2 3 (kf (F 3))) G) else some (some (.int (jI (-1))), mk F2 G)) := by
    rw [E_G_pledge]
    simp only [isO_0, fR_0_0, fR_0_1, fR_0_2, fR_0_3, fR_0_4, fR_0_5, fR_0_6, fR_0_7, fR_0_8, fR_0_9, fR_0_10, fR_0_11, fR_0_12, b_I, b_L, b_V, b_R, b_N, b_N0, Option.bind_some, ↓reduceIte, bq0, bq1, bz0, bz1, ite_not, Classical.not_not, Cs_mark x F G hs]
    rw [hrl]
    by_cases q : F 36 8 < 0
    · have es : sv (F 36 8) = .null := by unfold sv; rw [if_pos q]
      rw [es, b_N0, fin _ es.symm]
    · have es : sv (F 36 8) = .ref (104 + 6 * (F 36 8).toNat) := by unfold sv; rw [if_neg q]
      rw [es, b_N, fin _ es.symm]
  by_cases hC : pawnC A (F 2) g
  · rw [if_pos hC] at hm r2 ⊢
    rw [if_pos hC]
    exact ⟨_, hm, agW_stp r3 r2⟩
  · rw [if_neg hC] at hm r2 ⊢
    rw [if_neg hC]
    exact ⟨_, hm, agW_mkd r3 r2⟩
theorem Gc_redeem {g : Int} {A : Law4} (hs : SR F) (ht : TR F) (hw : WI (F 2)) (hA : LA F (F 36 8) A) (hg : rg g) : ∃ F2, m_M x k_G_redeem [.ref 0, .int (jI g)] (mk F G) = some (some (.int (jI (if buyC A (F 2) g then A 3 (F 2) g else -1))), mk F2 G) ∧ eqC (if buyC A (F 2) g then stp F (wBuy A (F 2) g) else mkd F 1 3) F2 ∧ upM F F2 := by
  have em2 : mkd F 1 3 (1 + 1) = F 2 := mkd_ne (by omega)
  have em3 : mkd F 1 3 3 = F 3 := mkd_ne (by omega)
  have em36 : mkd F 1 3 36 = F 36 := mkd_ne (by omega)
  have hA1 : LA (mkd F 1 3) (F 36 8) A := LA_cg ⟨fun b h1 h2 => mkd_ne (by omega), mkd_ne (by omega)⟩ hA
  obtain ⟨F2, r1, r2, r3⟩ := C_buyBack x (mkd F 1 3) G (w := 1) (t := F 36 8) (g := g) hA1 (Or.inl rfl) (by rw [em2]; exact hw) hg
  rw [em2] at r1 r2
  have hrl := C_ruling x (mkd F 1 3) G (by rw [em36]; exact ht.1) (by rw [em36]; exact ht.2.1) (by rw [em36]; exact ht.2.2.1) (by rw [em36]; exact ht.2.2.2)
  rw [em36] at hrl
  have f3 : F2 3 = F 3 := (r3 3 (by omega) (by omega) (by omega)).trans em3
  have fin : ∀ S, S = sv (F 36 8) → (m_bI (m_M x k_Law_buyBack [.ref 136, .ref 1, S, .int (jI g)] (mk (mkd F 1 3) G)) fun v25 s25 => m_bI (m_M x k_G_kept [.ref 0, .int v25] s25) fun v28 s28 => some (some (Value.int v28), s28)) = (if buyC A (F 2) g then some (some (.int (jI (A 3 (F 2) g))), mk (sA F2 3 (kf (F 3))) G) else some (some (.int (jI (-1))), mk F2 G)) := by
    intro S hS
    have ha := A_r (s := 3) (q := g) (c := F 2) hA (by omega) (by omega)
    rw [hS, r1, b_I]
    by_cases hC : buyC A (F 2) g
    · rw [if_pos hC, if_pos hC, Cs_c x F G hs f3 (by unfold rg; omega) (by omega), b_I]
    · rw [if_neg hC, if_neg hC, Cs_n x F G hs f3, b_I]
  have hm : m_M x k_G_redeem [.ref 0, .int (jI g)] (mk F G) = (if buyC A (F 2) g then some (some (.int (jI (A 3 (F 2) g))), mk (sA F2 3 (kf (F 3))) G) else some (some (.int (jI (-1))), mk F2 G)) := by
    rw [E_G_redeem]
    simp only [isO_0, fR_0_0, fR_0_1, fR_0_2, fR_0_3, fR_0_4, fR_0_5, fR_0_6, fR_0_7, fR_0_8, fR_0_9, fR_0_10, fR_0_11, fR_0_12, b_I, b_L, b_V, b_R, b_N, b_N0, Option.bind_some, ↓reduceIte, bq0, bq1, bz0, bz1, ite_not, Classical.not_not, Cs_mark x F G hs]
    rw [hrl]
    by_cases q : F 36 8 < 0
    · have es : sv (F 36 8) = .null := by unfold sv; rw [if_pos q]
      rw [es, b_N0, fin _ es.symm]
    · have es : sv (F 36 8) = .ref (104 + 6 * (F 36 8).toNat) := by unfold sv; rw [if_neg q]
      rw [es, b_N, fin _ es.symm]
  by_cases hC : buyC A (F 2) g
  · rw [if_pos hC] at hm r2 ⊢
    rw [if_pos hC]
    exact ⟨_, hm, agW_stp r3 r2⟩
  · rw [if_neg hC] at hm r2 ⊢
    rw [if_neg hC]
    exact ⟨_, hm, agW_mkd r3 r2⟩
end
section
variable {x : m_X} {Fc Fm : Nat → Fn}
theorem TR_of (hR : Rel (hyb Fc Fm)) : TR Fc ∧ Fm 150 2 = Fc 36 8 := by
  have g := hR.2.2.1.1
  unfold RT0 at g
  rw [hyb_lo Fc Fm (b := 36) (by omega), hyb_hi Fc Fm (b := 150) (by omega)] at g
  exact ⟨⟨by omega, by omega, by omega, by omega⟩, by omega⟩
theorem LA_of (hR : Rel (hyb Fc Fm)) : ∃ A, LA (hyb Fc Fm) (Fc 36 8) A := by
  have g := Rel_LA hR
  rw [hyb_lo Fc Fm (b := 36) (by omega)] at g
  exact g
theorem LA_C {A : Law4} {F : Nat → Fn} (hA : LA (hyb Fc Fm) (Fc 36 8) A) (h : eqC Fc F) (h2 : F 152 = Fm 152) : LA F (F 36 8) A := by
  have e : F 36 = Fc 36 := h 36 (by unfold keepC; omega)
  rw [e]
  refine LA_cg ⟨?_, by rw [h2, hyb_hi _ _ (by omega)]⟩ hA
  intro b b0 b1
  rw [hyb_lo _ _ (by omega)]
  exact h b (by unfold keepC; omega)
theorem LA_M {A : Law4} {F : Nat → Fn} (hR : Rel (hyb Fc Fm)) (hA : LA (hyb Fc Fm) (Fc 36 8) A) (h : eqM Fm F) (h2 : ∀ b, 104 ≤ b → b < 128 → F b = Fc b) : LA F (F 150 2) A := by
  rw [h 150 (by omega) (by omega), (TR_of hR).2]
  refine LA_cg ⟨?_, by rw [hyb_hi _ _ (by omega)]; exact h 152 (by omega) (by omega)⟩ hA
  intro b b0 b1
  rw [hyb_lo _ _ (by omega)]
  exact h2 b b0 b1
theorem eqC_TR {F : Nat → Fn} (ht : TR Fc) (h : eqC Fc F) : TR F := by
  have e : F 36 = Fc 36 := h 36 (by unfold keepC; omega)
  unfold TR
  rw [e]
  exact ht
theorem oks_pledge {g : Int} (hR : Rel (hyb Fc Fm)) (hg : rg g) : OkS x Fc Fm k_G_pledge k_M_pledge [.int (jI g)] := by
  have hw := WI_of hR
  have hc := WI_c hw
  have hs := SR_of hR
  have ht := TR_of hR
  have s3 := s3_of hR
  have hv := V_of hR
  have hwv := WV_of hR
  obtain ⟨A, hA⟩ := LA_of hR
  obtain ⟨v0, v22, v25, vg⟩ := cond_g hR
  have hiff : pawnC A (V (Fm 150)) g ↔ pawnC A (Fc 2) g := by
    constructor
    · intro q
      have q2 := vg g q.1 (by have := q.2.1; omega)
      have q3 := (ag_pawn (g := g) hA hw (fun k hk => (hv k hk).symm) q.1 (by have := q.2.1; omega)).2.2.1
      have q4 := q.2.2.2
      exact ⟨q.1, by have := q.2.1; omega, by have := q.2.2.1; omega, by omega⟩
    · intro q
      have q2 := vg g q.1 (by have := q.2.1; omega)
      have q3 := (ag_pawn (g := g) hA hw (fun k hk => (hv k hk).symm) q.1 (by have := q.2.1; omega)).2.2.1
      have q4 := q.2.2.2
      exact ⟨q.1, by have := q.2.1; omega, by have := q.2.2.1; omega, by omega⟩
  have e1 : ∀ (F G : Nat → Fn) (h : eqC Fc F) (h2 : F 152 = Fm 152), _ := fun F G h h2 => Gc_pledge x F G (g := g) (A := A) (eqC_SR hs h) (eqC_TR ht.1 h) (by rw [eqC_2 h]; exact hw) (LA_C hA h h2) hg
  have e2 : ∀ (F G : Nat → Fn) (h : eqM Fm F) (h2 : ∀ b, 104 ≤ b → b < 128 → F b = Fc b), _ := fun F G h h2 => M_pledge x F G (g := g) (A := A) (LA_M hR hA h h2) (by rw [h 150 (by omega) (by omega)]; exact hwv) (by rw [h 150 (by omega) (by omega)]; exact s3.1) (by rw [h 150 (by omega) (by omega)]; exact s3.2) hg
  by_cases hC : pawnC A (Fc 2) g
  · have hag := ag_pawn (g := g) hA hw (fun k hk => (hv k hk).symm) hC.1 (by have := hC.2.1; omega)
    have hgg := WI_g hw hC.1 (by have := hC.2.1; omega)
    have ek := V_keep (a := Fm 150) s3.1 s3.2
    refine ⟨jI (A 3 (Fc 2) g), stp Fc (wPawn A (Fc 2) g), sA Fm 150 (mPawn A (mKeep (Fm 150)) g), ?_, ?_, ?_, sA_ne _ _ (by omega), fun b h0 h1 => stp_sc _ (by omega), by have := A_r (s := 3) (q := g) (c := Fc 2) hA (by omega) (by omega); exact VR_i (by omega) (by omega)⟩
    · intro F G h h2
      obtain ⟨F2, q1, q2, q3⟩ := e1 F G h h2
      rw [eqC_2 h, if_pos hC] at q1 q2
      exact ⟨F2, q1, eqC_tr (stp_eqC hs h _) q2, q3⟩
    · intro F G h h2
      obtain ⟨F2, G2, q1, q2, q3, q4⟩ := e2 F G h h2
      rw [h 150 (by omega) (by omega), if_pos (hiff.mpr hC)] at q1 q2
      rw [← hag.2.2.1] at q1
      exact ⟨F2, G2, q1, agL_eq h q3 q2⟩
    · refine Rel_do hR (WI_pawn hA hw hC.1 (by have := hC.2.1; omega)) hag.1 ?_ (by rw [V_mPawn A _ (by rw [ek]; exact hwv) hC.1 (by have := hC.2.1; omega), ek]) (Fr_mPawn A _ (by rw [ek]; exact hwv) hC.1 (by have := hC.2.1; omega))
      intro k k0 k1
      have := hC.2.1
      have := hC.1
      unfold wPawn
      rw [u_ne _ _ (by omega), u_ne _ _ (by omega)]
  · refine ⟨jI (-1), mkd Fc 1 3, Fm, ?_, ?_, Rel_not hR, rfl, fun b h0 h1 => mkd_ne (by omega), VR_i (by omega) (by omega)⟩
    · intro F G h h2
      obtain ⟨F2, q1, q2, q3⟩ := e1 F G h h2
      rw [eqC_2 h, if_neg hC] at q1 q2
      exact ⟨F2, q1, eqC_tr (mkd_eqC hs h) q2, q3⟩
    · intro F G h h2
      obtain ⟨F2, G2, q1, q2, q3, q4⟩ := e2 F G h h2
      rw [h 150 (by omega) (by omega), if_neg (fun z => hC (hiff.mp z))] at q1 q2
      have q5 := agL_eq h q3 q2
      rw [sA_self] at q5
      exact ⟨F2, G2, q1, q5⟩
theorem oks_redeem {g : Int} (hR : Rel (hyb Fc Fm)) (hg : rg g) : OkS x Fc Fm k_G_redeem k_M_redeem [.int (jI g)] := by
  have hw := WI_of hR
  have hc := WI_c hw
  have hs := SR_of hR
  have ht := TR_of hR
  have s3 := s3_of hR
  have hv := V_of hR
  have hwv := WV_of hR
  obtain ⟨A, hA⟩ := LA_of hR
  obtain ⟨v0, v22, v25, vg⟩ := cond_g hR
  have hiff : buyC A (V (Fm 150)) g ↔ buyC A (Fc 2) g := by
    constructor
    · intro q
      have q2 := vg g q.1 (by have := q.2.1; omega)
      have q3 := (ag_pawn (g := g) hA hw (fun k hk => (hv k hk).symm) q.1 (by have := q.2.1; omega)).2.2
      have q4 := q.2.2.2
      exact ⟨q.1, by have := q.2.1; omega, by have := q.2.2.1; omega, by rw [q3.1, q3.2]; exact q4⟩
    · intro q
      have q2 := vg g q.1 (by have := q.2.1; omega)
      have q3 := (ag_pawn (g := g) hA hw (fun k hk => (hv k hk).symm) q.1 (by have := q.2.1; omega)).2.2
      have q4 := q.2.2.2
      exact ⟨q.1, by have := q.2.1; omega, by have := q.2.2.1; omega, by rw [← q3.1, ← q3.2]; exact q4⟩
  have e1 : ∀ (F G : Nat → Fn) (h : eqC Fc F) (h2 : F 152 = Fm 152), _ := fun F G h h2 => Gc_redeem x F G (g := g) (A := A) (eqC_SR hs h) (eqC_TR ht.1 h) (by rw [eqC_2 h]; exact hw) (LA_C hA h h2) hg
  have e2 : ∀ (F G : Nat → Fn) (h : eqM Fm F) (h2 : ∀ b, 104 ≤ b → b < 128 → F b = Fc b), _ := fun F G h h2 => M_redeem x F G (g := g) (A := A) (LA_M hR hA h h2) (by rw [h 150 (by omega) (by omega)]; exact hwv) (by rw [h 150 (by omega) (by omega)]; exact s3.1) (by rw [h 150 (by omega) (by omega)]; exact s3.2) hg
  by_cases hC : buyC A (Fc 2) g
  · have hag := ag_pawn (g := g) hA hw (fun k hk => (hv k hk).symm) hC.1 (by have := hC.2.1; omega)
    have hgg := WI_g hw hC.1 (by have := hC.2.1; omega)
    have ek := V_keep (a := Fm 150) s3.1 s3.2
    refine ⟨jI (A 3 (Fc 2) g), stp Fc (wBuy A (Fc 2) g), sA Fm 150 (mBuy A (mKeep (Fm 150)) g), ?_, ?_, ?_, sA_ne _ _ (by omega), fun b h0 h1 => stp_sc _ (by omega), by have := A_r (s := 3) (q := g) (c := Fc 2) hA (by omega) (by omega); exact VR_i (by omega) (by omega)⟩
    · intro F G h h2
      obtain ⟨F2, q1, q2, q3⟩ := e1 F G h h2
      rw [eqC_2 h, if_pos hC] at q1 q2
      exact ⟨F2, q1, eqC_tr (stp_eqC hs h _) q2, q3⟩
    · intro F G h h2
      obtain ⟨F2, G2, q1, q2, q3, q4⟩ := e2 F G h h2
      rw [h 150 (by omega) (by omega), if_pos (hiff.mpr hC)] at q1 q2
      rw [← hag.2.2.1] at q1
      exact ⟨F2, G2, q1, agL_eq h q3 q2⟩
    · refine Rel_do hR (WI_buy hA hw hC) hag.2.1 ?_ (by rw [V_mBuy A _ (by rw [ek]; exact hwv) hC.1 (by have := hC.2.1; omega), ek]) (Fr_mBuy A _ (by rw [ek]; exact hwv) hC.1 (by have := hC.2.1; omega))
      intro k k0 k1
      have := hC.2.1
      have := hC.1
      unfold wBuy
      rw [u_ne _ _ (by omega), u_ne _ _ (by omega)]
  · refine ⟨jI (-1), mkd Fc 1 3, Fm, ?_, ?_, Rel_not hR, rfl, fun b h0 h1 => mkd_ne (by omega), VR_i (by omega) (by omega)⟩
    · intro F G h h2
      obtain ⟨F2, q1, q2, q3⟩ := e1 F G h h2
      rw [eqC_2 h, if_neg hC] at q1 q2
      exact ⟨F2, q1, eqC_tr (mkd_eqC hs h) q2, q3⟩
    · intro F G h h2
      obtain ⟨F2, G2, q1, q2, q3, q4⟩ := e2 F G h h2
      rw [h 150 (by omega) (by omega), if_neg (fun z => hC (hiff.mp z))] at q1 q2
      have q5 := agL_eq h q3 q2
      rw [sA_self] at q5
      exact ⟨F2, G2, q1, q5⟩
end
