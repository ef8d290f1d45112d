-- the auction
def mxN (c : Fn) (g but : Int) : Nat → Int
  | 0 => 0
  | n + 1 => if ¬ (n : Int) = but ∧ 0 < c (8 + n) then max (mxN c g but n) (bid c n g) else mxN c g but n
def mx (c : Fn) (g but n : Int) : Int := mxN c g but n.toNat
theorem mx_s (c : Fn) (g but : Int) {n : Int} (h : 0 ≤ n) : mx c g but (n + 1) = if ¬ n = but ∧ 0 < c (8 + n) then max (mx c g but n) (bid c n g) else mx c g but n := by
  unfold mx
  have : (n + 1).toNat = n.toNat + 1 := by omega
  rw [this, mxN, Int.toNat_of_nonneg h]
theorem up {P : Int → Prop} {n : Int} (h0 : P 0) (hs : ∀ g, 0 ≤ g → g < n → P g → P (g + 1)) : ∀ g, 0 ≤ g → g ≤ n → P g := by
  have : ∀ d : Nat, (d : Int) ≤ n → P d := by
    intro d
    induction d with
    | zero => intro _; exact h0
    | succ d ih =>
      intro h
      have e := hs d (by omega) (by omega) (ih (by omega))
      have e2 : ((d + 1 : Nat) : Int) = (d : Int) + 1 := by omega
      rw [e2]
      exact e
  intro g g0 g1
  have h := this g.toNat (by omega)
  rw [Int.toNat_of_nonneg g0] at h
  exact h
theorem best_0 (c : Fn) (g b : Int) : best c g b 0 = -1 := rfl
theorem mx_0 (c : Fn) (g b : Int) : mx c g b 0 = 0 := rfl
theorem mx_best {c : Fn} (hi : WI c) {g : Int} (b : Int) (hg : 0 ≤ g) (hg1 : g < 12) : ∀ n, 0 ≤ n → n ≤ c 0 → (if best c g b n = -1 then 0 else bid c (best c g b n) g) = mx c g b n := by
  have hc := WI_c hi
  apply up
  · rw [best_0, mx_0, if_pos rfl]
  · intro n n0 n1 ih
    have r := best_r c g b n0
    have hb := bid_r hi (p := n) (g := g) n0 (by omega) hg hg1
    have hs := best_s c g b n0
    rw [mx_s c g b n0]
    by_cases q : ¬ n = b ∧ 0 < c (8 + n)
    · by_cases q2 : best c g b n = -1
      · rw [if_pos q2] at ih
        rw [if_pos ⟨q.1, q.2, Or.inl q2⟩] at hs
        rw [hs, if_neg (by omega), if_pos q]
        omega
      · rw [if_neg q2] at ih
        by_cases q3 : bid c (best c g b n) g < bid c n g
        · rw [if_pos ⟨q.1, q.2, Or.inr q3⟩] at hs
          rw [hs, if_neg (by omega), if_pos q]
          omega
        · rw [if_neg (by rintro ⟨_, _, h | h⟩ <;> contradiction)] at hs
          rw [hs, if_neg q2, if_pos q]
          omega
    · rw [if_neg (fun h => q ⟨h.1, h.2.1⟩)] at hs
      rw [hs, if_neg q]
      exact ih
theorem mx_out {c : Fn} {g b d : Int} : ∀ n, 0 ≤ n → n ≤ 7 → (b < 0 ∨ n ≤ b) → (d < 0 ∨ n ≤ d) → mx c g b n = mx c g d n := by
  apply up
  · intros; rfl
  · intro n n0 n1 ih h1 h2
    rw [mx_s c g b n0, mx_s c g d n0, ih (by omega) (by omega)]
    by_cases q : 0 < c (8 + n)
    · rw [if_pos ⟨by omega, q⟩, if_pos ⟨by omega, q⟩]
    · rw [if_neg (fun h => q h.2), if_neg (fun h => q h.2)]
theorem mx_no {c : Fn} {g b : Int} : ∀ n, 0 ≤ n → n ≤ 7 → best c g (-1) n = -1 → mx c g b n = 0 := by
  apply up
  · intros; rfl
  · intro n n0 n1 ih h
    rw [best_s c g _ n0] at h
    have r := best_r c g (-1) n0
    by_cases q : 0 < c (8 + n)
    · by_cases q2 : best c g (-1) n = -1
      · rw [if_pos ⟨by omega, q, Or.inl q2⟩] at h
        omega
      · split at h
        · omega
        · contradiction
    · rw [if_neg (fun h => q h.2.1)] at h
      rw [mx_s c g b n0, if_neg (fun h => q h.2)]
      exact ih h
section
variable (x : m_X) (F G : Nat → Fn)
theorem M_bidOf {c : Fn} {p g : Int} (hv : ∀ k, vok k → V (F 150) k = c k) (hi : WI c) (h0 : 0 ≤ p) (h1 : p < 7) (hg : 0 ≤ g) (hg1 : g < 12) : m_M x k_M_bidOf [.ref 149, .int (jI p), .int (jI g)] (mk F G) = some (some (.int (jI (bid c p g))), mk F G) := by
  have hp := WI_p hi h0 h1
  have hq := WI_g hi hg hg1
  have e1 := M_get x F G (g := g) (k := 4) hg hg1 (by omega) (by omega)
  have e2 := M_get x F G (g := g) (k := 2) hg hg1 (by omega) (by omega)
  have e3 := va_c x F G (p := p) h0 h1
  rw [hv _ (by unfold vok; omega)] at e1 e2 e3
  simp only [Int.reduceMul, Int.reduceAdd] at e1 e2
  rw [E_M_bidOf]
  simp (disch := omega) only [lit_0, lit_1, lit_2, lit_3, lit_4, lit_5, lit_6, lit_7, lit_8, lit_9, lit_10, lit_11, lit_12, lit_13, lit_14, lit_15, lit_16, lit_17, lit_18, lit_19, lit_20, lit_21, lit_22, lit_23, lit_24, lit_25, lit_26, lit_27, lit_28, lit_29, lit_30, lit_31, lit_32, lit_33, lit_34, lit_35, lit_36, lit_37, lit_38, lit_39, lit_40, lit_41, lit_42, lit_43, lit_44, lit_45, lit_46, lit_47, lit_48, lit_49, lit_50, lit_51, lit_52, lit_53, lit_54, lit_55, lit_56, lit_57, lit_58, lit_59, lit_60, lit_61, lit_62, lit_63, lit_64, lit_65, lit_67, lit_70, lit_71, lit_73, lit_75, lit_78, lit_84, lit_85, lit_86, lit_87, lit_89, lit_90, lit_91, lit_95, lit_96, lit_97, lit_98, lit_99, lit_100, lit_101, lit_102, lit_103, lit_104, lit_105, lit_107, lit_108, lit_109, lit_110, lit_111, lit_112, lit_114, lit_115, lit_116, lit_117, lit_119, lit_121, lit_122, lit_126, lit_127, lit_128, lit_130, lit_134, lit_137, lit_139, lit_140, lit_141, lit_145, lit_152, lit_159, lit_160, lit_168, lit_174, lit_180, lit_183, lit_192, lit_199, lit_236, lit_251, lit_255, lit_272, lit_284, lit_300, lit_330, lit_373, lit_753, lit_800, lit_896, lit_900, lit_1000, lit_1001, lit_1002, lit_1003, lit_1079, lit_1276, lit_1330, lit_1450, lit_3012, lit_3016, lit_3300, lit_8430, lit_9999, lit_10000, lit_11730, lit_30467, lit_65536, lit_99999, lit_100000, lit_1000000, lit_252645135, lit_858993459, lit_1000000000, lit_1431655765, jI_add, jI_sub, jI_mul, jI_neg, jI_lt, jI_le, jI_eq, isO_149, fR_149_0, b_I, b_L, b_V, b_R, b_N, b_N0, Option.bind_some, ↓reduceIte, bq0, bq1, bz0, bz1, ite_not, Classical.not_not, e1, e2, e3]
  unfold bid
  by_cases q : 10 * (c (75 + g) + c (51 + g)) ≤ c (8 + p)
  · rw [if_pos q, show min (c (8 + p)) (10 * (c (75 + g) + c (51 + g))) = 10 * (c (75 + g) + c (51 + g)) by omega]
  · rw [if_neg q, show min (c (8 + p)) (10 * (c (75 + g) + c (51 + g))) = c (8 + p) by omega]
theorem M_auctionL {c : Fn} {g t : Int} (hv : ∀ k, vok k → V (F 150) k = c k) (hi : WI c) (hg : 0 ≤ g) (hg1 : g < 12) (ht : rg t) : m_D x 3 k_M_auction 29 [some (.ref 149), some (.int (jI g)), some (.int (jI t)), some (.int (jI (-1))), some (.int (jI 0)), some (.int (jI 0))] [] (mk F G) = some (some (.int (jI (if best c g (-1) (c 0) = -1 ∨ t = 0 then best c g (-1) (c 0) else mx c g (best c g (-1) (c 0)) (c 0)))), mk F G) := by
  have hc := WI_c hi
  have a0 := va_0 x F G
  rw [hv _ (by unfold vok; omega)] at a0
  have key : ∀ p, 0 ≤ p → p ≤ c 0 → m_D x 3 k_M_auction 29 [some (.ref 149), some (.int (jI g)), some (.int (jI t)), some (.int (jI (best c g (-1) p))), some (.int (jI (mx c g (best c g (-1) p) p))), some (.int (jI p))] [] (mk F G) = some (some (.int (jI (if best c g (-1) (c 0) = -1 ∨ t = 0 then best c g (-1) (c 0) else mx c g (best c g (-1) (c 0)) (c 0)))), mk F G) := by
    apply down
    · have r := best_r c g (-1) (n := c 0) (by omega)
      unfold rg at ht
      rw [E_M_auction_29 x 3 (by omega)]
      simp (disch := omega) only [lit_0, lit_1, lit_2, lit_3, lit_4, lit_5, lit_6, lit_7, lit_8, lit_9, lit_10, lit_11, lit_12, lit_13, lit_14, lit_15, lit_16, lit_17, lit_18, lit_19, lit_20, lit_21, lit_22, lit_23, lit_24, lit_25, lit_26, lit_27, lit_28, lit_29, lit_30, lit_31, lit_32, lit_33, lit_34, lit_35, lit_36, lit_37, lit_38, lit_39, lit_40, lit_41, lit_42, lit_43, lit_44, lit_45, lit_46, lit_47, lit_48, lit_49, lit_50, lit_51, lit_52, lit_53, lit_54, lit_55, lit_56, lit_57, lit_58, lit_59, lit_60, lit_61, lit_62, lit_63, lit_64, lit_65, lit_67, lit_70, lit_71, lit_73, lit_75, lit_78, lit_84, lit_85, lit_86, lit_87, lit_89, lit_90, lit_91, lit_95, lit_96, lit_97, lit_98, lit_99, lit_100, lit_101, lit_102, lit_103, lit_104, lit_105, lit_107, lit_108, lit_109, lit_110, lit_111, lit_112, lit_114, lit_115, lit_116, lit_117, lit_119, lit_121, lit_122, lit_126, lit_127, lit_128, lit_130, lit_134, lit_137, lit_139, lit_140, lit_141, lit_145, lit_152, lit_159, lit_160, lit_168, lit_174, lit_180, lit_183, lit_192, lit_199, lit_236, lit_251, lit_255, lit_272, lit_284, lit_300, lit_330, lit_373, lit_753, lit_800, lit_896, lit_900, lit_1000, lit_1001, lit_1002, lit_1003, lit_1079, lit_1276, lit_1330, lit_1450, lit_3012, lit_3016, lit_3300, lit_8430, lit_9999, lit_10000, lit_11730, lit_30467, lit_65536, lit_99999, lit_100000, lit_1000000, lit_252645135, lit_858993459, lit_1000000000, lit_1431655765, jI_add, jI_sub, jI_mul, jI_neg, jI_lt, jI_le, jI_eq, fR_149_0, b_I, b_L, b_V, b_R, b_N, b_N0, Option.bind_some, ↓reduceIte, bq0, bq1, bz0, bz1, ite_not, Classical.not_not, a0]
      rw [if_pos (Int.le_refl _)]
      by_cases q : best c g (-1) (c 0) = -1
      · rw [if_pos q, if_pos (Or.inl q)]
      · by_cases q2 : t = 0
        · rw [if_neg q, if_pos q2, if_pos (Or.inr q2)]
        · rw [if_neg q, if_neg q2, if_neg (by omega)]
    · intro p p0 p1 ih
      have r := best_r c g (-1) p0
      have hp := WI_p hi p0 (by omega)
      have e3 := va_c x F G (p := p) p0 (by omega)
      rw [hv _ (by unfold vok; omega)] at e3
      have b1 := M_bidOf x F G (p := p) hv hi p0 (by omega) hg hg1
      have r1 := bid_r hi (p := p) (g := g) p0 (by omega) hg hg1
      have hm := mx_best hi (-1) hg hg1 p p0 (by omega)
      rw [best_s c g _ p0] at ih
      rw [E_M_auction_29 x 3 (by omega)]
      simp (disch := omega) only [lit_0, lit_1, lit_2, lit_3, lit_4, lit_5, lit_6, lit_7, lit_8, lit_9, lit_10, lit_11, lit_12, lit_13, lit_14, lit_15, lit_16, lit_17, lit_18, lit_19, lit_20, lit_21, lit_22, lit_23, lit_24, lit_25, lit_26, lit_27, lit_28, lit_29, lit_30, lit_31, lit_32, lit_33, lit_34, lit_35, lit_36, lit_37, lit_38, lit_39, lit_40, lit_41, lit_42, lit_43, lit_44, lit_45, lit_46, lit_47, lit_48, lit_49, lit_50, lit_51, lit_52, lit_53, lit_54, lit_55, lit_56, lit_57, lit_58, lit_59, lit_60, lit_61, lit_62, lit_63, lit_64, lit_65, lit_67, lit_70, lit_71, lit_73, lit_75, lit_78, lit_84, lit_85, lit_86, lit_87, lit_89, lit_90, lit_91, lit_95, lit_96, lit_97, lit_98, lit_99, lit_100, lit_101, lit_102, lit_103, lit_104, lit_105, lit_107, lit_108, lit_109, lit_110, lit_111, lit_112, lit_114, lit_115, lit_116, lit_117, lit_119, lit_121, lit_122, lit_126, lit_127, lit_128, lit_130, lit_134, lit_137, lit_139, lit_140, lit_141, lit_145, lit_152, lit_159, lit_160, lit_168, lit_174, lit_180, lit_183, lit_192, lit_199, lit_236, lit_251, lit_255, lit_272, lit_284, lit_300, lit_330, lit_373, lit_753, lit_800, lit_896, lit_900, lit_1000, lit_1001, lit_1002, lit_1003, lit_1079, lit_1276, lit_1330, lit_1450, lit_3012, lit_3016, lit_3300, lit_8430, lit_9999, lit_10000, lit_11730, lit_30467, lit_65536, lit_99999, lit_100000, lit_1000000, lit_252645135, lit_858993459, lit_1000000000, lit_1431655765, jI_add, jI_sub, jI_mul, jI_neg, jI_lt, jI_le, jI_eq, fR_149_0, b_I, b_L, b_V, b_R, b_N, b_N0, Option.bind_some, ↓reduceIte, bq0, bq1, bz0, bz1, ite_not, Classical.not_not, a0, e3]
      rw [if_neg (by omega)]
      by_cases q : c (8 + p) = 0
      · rw [if_neg (by omega), mx_s c g _ p0, if_neg (by omega)] at ih
        rw [if_pos q]
        exact ih
      · rw [if_neg q]
        by_cases q2 : best c g (-1) p = -1
        · rw [if_pos ⟨by omega, by omega, Or.inl q2⟩, mx_s c g _ p0, if_neg (by omega), mx_no p p0 (by omega) q2] at ih
          rw [if_pos q2, mx_no p p0 (by omega) q2]
          exact ih
        · have b2 := M_bidOf x F G (p := best c g (-1) p) hv hi (by omega) (by omega) hg hg1
          have r2 := bid_r hi (p := best c g (-1) p) (g := g) (by omega) (by omega) hg hg1
          rw [if_neg q2] at hm
          rw [if_neg q2]
          simp (disch := omega) only [b1, b2, b_I, b_L, b_V, b_R, b_N, b_N0, Option.bind_some, ↓reduceIte, bq0, bq1, bz0, bz1, ite_not, Classical.not_not, jI_lt, jI_le, jI_eq]
          by_cases q3 : bid c (best c g (-1) p) g < bid c p g
          · rw [if_pos ⟨by omega, by omega, Or.inr q3⟩, mx_s c g _ p0, if_neg (by omega), mx_out p p0 (by omega) (b := p) (d := -1) (by omega) (by omega), ← hm] at ih
            rw [if_neg (by omega)]
            exact ih
          · have hmr : 0 ≤ mx c g (best c g (-1) p) p ∧ mx c g (best c g (-1) p) p ≤ 9999 := by
              rw [← mx_best hi _ hg hg1 p p0 (by omega)]
              have r4 := best_r c g (best c g (-1) p) p0
              split
              · omega
              · exact bid_r hi (by omega) (by omega) hg hg1
            rw [if_neg (c := ¬ p = -1 ∧ 0 < c (8 + p) ∧ (best c g (-1) p = -1 ∨ bid c (best c g (-1) p) g < bid c p g)) (by rintro ⟨_, _, h | h⟩ <;> contradiction), mx_s c g _ p0, if_pos ⟨by omega, by omega⟩] at ih
            rw [if_pos (by omega)]
            simp (disch := omega) only [jI_lt, jI_le, jI_eq]
            by_cases q4 : bid c p g ≤ mx c g (best c g (-1) p) p
            · rw [show max (mx c g (best c g (-1) p) p) (bid c p g) = mx c g (best c g (-1) p) p by omega] at ih
              rw [if_pos q4]
              exact ih
            · rw [show max (mx c g (best c g (-1) p) p) (bid c p g) = bid c p g by omega] at ih
              rw [if_neg q4]
              exact ih
  exact key 0 (by omega) (by omega)
theorem ok_auction {g t : Int} (hR : Rel F) (hg : rg g) (ht : rg t) : Ok x F G k_G_auction k_M_auction [.int (jI g), .int (jI t)] := by
  have hi : WI (F 2) := RS_WI hR.1
  have hc := WI_c hi
  have hv := Rel_V hR
  have hh := C_isHow x F G (w := 1) (g := g) (h := 2) (Or.inl rfl) hi hg (by unfold rg; omega)
  have hq := M_isGlove x F G (p := g) (RS_WV hR.1) hg
  rw [hv 25 (by unfold vok; omega)] at hq
  simp only [Nat.reduceAdd] at hh
  have ht2 := ht
  unfold rg at ht2
  by_cases q : 0 ≤ g ∧ g < F 2 25
  · have hm := M_get x F G (g := g) (k := 6) q.1 (by omega) (by omega) (by omega)
    simp only [Int.reduceMul, Int.reduceAdd] at hm
    rw [hv _ (by unfold vok; omega)] at hm
    have hgg := WI_g hi q.1 (by omega)
    rw [if_pos q] at hq
    by_cases q2 : F 2 (99 + g) = 2
    · rw [if_pos ⟨q.1, q.2, q2⟩] at hh
      have r := best_r (F 2) g (-1) (n := F 2 0) (by omega)
      have c1 := C_highestBidder x F G (w := 1) (g := g) (b := -1) (Or.inl rfl) hi q.1 (by omega) (by unfold rg; omega)
      have c2 := C_highestBidder x F G (w := 1) (g := g) (b := best (F 2) g (-1) (F 2 0)) (Or.inl rfl) hi q.1 (by omega) (by unfold rg; omega)
      simp only [Nat.reduceAdd] at c1 c2
      have e1 : m_M x k_G_auction [.ref 0, .int (jI g), .int (jI t)] (mk F G) = some (some (.int (jI (if best (F 2) g (-1) (F 2 0) = -1 ∨ t = 0 then best (F 2) g (-1) (F 2 0) else mx (F 2) g (best (F 2) g (-1) (F 2 0)) (F 2 0)))), mk F G) := by
        have r2 := best_r (F 2) g (best (F 2) g (-1) (F 2 0)) (n := F 2 0) (by omega)
        have hb := mx_best hi (best (F 2) g (-1) (F 2 0)) q.1 (by omega) (F 2 0) (by omega) (by omega)
        rw [E_G_auction]
        simp (disch := omega) only [lit_0, lit_1, lit_2, lit_3, lit_4, lit_5, lit_6, lit_7, lit_8, lit_9, lit_10, lit_11, lit_12, lit_13, lit_14, lit_15, lit_16, lit_17, lit_18, lit_19, lit_20, lit_21, lit_22, lit_23, lit_24, lit_25, lit_26, lit_27, lit_28, lit_29, lit_30, lit_31, lit_32, lit_33, lit_34, lit_35, lit_36, lit_37, lit_38, lit_39, lit_40, lit_41, lit_42, lit_43, lit_44, lit_45, lit_46, lit_47, lit_48, lit_49, lit_50, lit_51, lit_52, lit_53, lit_54, lit_55, lit_56, lit_57, lit_58, lit_59, lit_60, lit_61, lit_62, lit_63, lit_64, lit_65, lit_67, lit_70, lit_71, lit_73, lit_75, lit_78, lit_84, lit_85, lit_86, lit_87, lit_89, lit_90, lit_91, lit_95, lit_96, lit_97, lit_98, lit_99, lit_100, lit_101, lit_102, lit_103, lit_104, lit_105, lit_107, lit_108, lit_109, lit_110, lit_111, lit_112, lit_114, lit_115, lit_116, lit_117, lit_119, lit_121, lit_122, lit_126, lit_127, lit_128, lit_130, lit_134, lit_137, lit_139, lit_140, lit_141, lit_145, lit_152, lit_159, lit_160, lit_168, lit_174, lit_180, lit_183, lit_192, lit_199, lit_236, lit_251, lit_255, lit_272, lit_284, lit_300, lit_330, lit_373, lit_753, lit_800, lit_896, lit_900, lit_1000, lit_1001, lit_1002, lit_1003, lit_1079, lit_1276, lit_1330, lit_1450, lit_3012, lit_3016, lit_3300, lit_8430, lit_9999, lit_10000, lit_11730, lit_30467, lit_65536, lit_99999, lit_100000, lit_1000000, lit_252645135, lit_858993459, lit_1000000000, lit_1431655765, jI_add, jI_sub, jI_mul, jI_neg, jI_lt, jI_le, jI_eq, isO_0, fR_0_0, fR_0_1, fR_0_2, fR_0_3, fR_0_4, fR_0_5, fR_0_6, fR_0_7, fR_0_8, fR_0_9, fR_0_10, fR_0_11, fR_0_12, b_I, b_L, b_V, b_R, b_N, b_N0, Option.bind_some, ↓reduceIte, bq0, bq1, bz0, bz1, ite_not, Classical.not_not, hh, c1]
        rw [if_neg (show ¬ (1 : Int) = 0 by omega)]
        by_cases q3 : best (F 2) g (-1) (F 2 0) = -1
        · rw [if_pos q3, if_pos (Or.inl q3)]
        · rw [if_neg q3]
          by_cases q4 : t = 0
          · rw [if_pos q4, if_pos (Or.inr q4)]
          · rw [if_neg q4, if_neg (c := best (F 2) g (-1) (F 2 0) = -1 ∨ t = 0) (by omega), ← hb]
            simp (disch := omega) only [b_I, b_L, b_V, b_R, b_N, b_N0, Option.bind_some, ↓reduceIte, bq0, bq1, bz0, bz1, ite_not, Classical.not_not, c2, jI_lt, jI_le, jI_eq]
            by_cases q5 : best (F 2) g (best (F 2) g (-1) (F 2 0)) (F 2 0) = -1
            · rw [if_pos q5, if_pos q5]
            · have c3 := C_bidOf x F G (w := 1) (p := best (F 2) g (best (F 2) g (-1) (F 2 0)) (F 2 0)) (Or.inl rfl) hi (by omega) (by omega) q.1 (by omega)
              simp only [Nat.reduceAdd] at c3
              rw [if_neg q5, if_neg q5, fR_0_0, Option.bind_some, c3, b_I]
      have e2 := M_auctionL x F G (c := F 2) (t := t) hv hi q.1 (by omega) ht
      refine Ok_pure hR e1 ?_
      rw [E_M_auction]
      simp (disch := omega) only [lit_0, lit_1, lit_2, lit_3, lit_4, lit_5, lit_6, lit_7, lit_8, lit_9, lit_10, lit_11, lit_12, lit_13, lit_14, lit_15, lit_16, lit_17, lit_18, lit_19, lit_20, lit_21, lit_22, lit_23, lit_24, lit_25, lit_26, lit_27, lit_28, lit_29, lit_30, lit_31, lit_32, lit_33, lit_34, lit_35, lit_36, lit_37, lit_38, lit_39, lit_40, lit_41, lit_42, lit_43, lit_44, lit_45, lit_46, lit_47, lit_48, lit_49, lit_50, lit_51, lit_52, lit_53, lit_54, lit_55, lit_56, lit_57, lit_58, lit_59, lit_60, lit_61, lit_62, lit_63, lit_64, lit_65, lit_67, lit_70, lit_71, lit_73, lit_75, lit_78, lit_84, lit_85, lit_86, lit_87, lit_89, lit_90, lit_91, lit_95, lit_96, lit_97, lit_98, lit_99, lit_100, lit_101, lit_102, lit_103, lit_104, lit_105, lit_107, lit_108, lit_109, lit_110, lit_111, lit_112, lit_114, lit_115, lit_116, lit_117, lit_119, lit_121, lit_122, lit_126, lit_127, lit_128, lit_130, lit_134, lit_137, lit_139, lit_140, lit_141, lit_145, lit_152, lit_159, lit_160, lit_168, lit_174, lit_180, lit_183, lit_192, lit_199, lit_236, lit_251, lit_255, lit_272, lit_284, lit_300, lit_330, lit_373, lit_753, lit_800, lit_896, lit_900, lit_1000, lit_1001, lit_1002, lit_1003, lit_1079, lit_1276, lit_1330, lit_1450, lit_3012, lit_3016, lit_3300, lit_8430, lit_9999, lit_10000, lit_11730, lit_30467, lit_65536, lit_99999, lit_100000, lit_1000000, lit_252645135, lit_858993459, lit_1000000000, lit_1431655765, jI_add, jI_sub, jI_mul, jI_neg, jI_lt, jI_le, jI_eq, isO_149, b_I, b_L, b_V, b_R, b_N, b_N0, Option.bind_some, ↓reduceIte, bq0, bq1, bz0, bz1, ite_not, Classical.not_not, hq, hm]
      rw [if_neg (show ¬ (1 : Int) = 0 by omega), if_pos q2]
      exact e2
    · rw [if_neg (fun h => q2 h.2.2)] at hh
      refine Ok_pure (v := jI (-1)) hR ?_ ?_
      · rw [E_G_auction]
        simp (disch := omega) only [lit_0, lit_1, lit_2, lit_3, lit_4, lit_5, lit_6, lit_7, lit_8, lit_9, lit_10, lit_11, lit_12, lit_13, lit_14, lit_15, lit_16, lit_17, lit_18, lit_19, lit_20, lit_21, lit_22, lit_23, lit_24, lit_25, lit_26, lit_27, lit_28, lit_29, lit_30, lit_31, lit_32, lit_33, lit_34, lit_35, lit_36, lit_37, lit_38, lit_39, lit_40, lit_41, lit_42, lit_43, lit_44, lit_45, lit_46, lit_47, lit_48, lit_49, lit_50, lit_51, lit_52, lit_53, lit_54, lit_55, lit_56, lit_57, lit_58, lit_59, lit_60, lit_61, lit_62, lit_63, lit_64, lit_65, lit_67, lit_70, lit_71, lit_73, lit_75, lit_78, lit_84, lit_85, lit_86, lit_87, lit_89, lit_90, lit_91, lit_95, lit_96, lit_97, lit_98, lit_99, lit_100, lit_101, lit_102, lit_103, lit_104, lit_105, lit_107, lit_108, lit_109, lit_110, lit_111, lit_112, lit_114, lit_115, lit_116, lit_117, lit_119, lit_121, lit_122, lit_126, lit_127, lit_128, lit_130, lit_134, lit_137, lit_139, lit_140, lit_141, lit_145, lit_152, lit_159, lit_160, lit_168, lit_174, lit_180, lit_183, lit_192, lit_199, lit_236, lit_251, lit_255, lit_272, lit_284, lit_300, lit_330, lit_373, lit_753, lit_800, lit_896, lit_900, lit_1000, lit_1001, lit_1002, lit_1003, lit_1079, lit_1276, lit_1330, lit_1450, lit_3012, lit_3016, lit_3300, lit_8430, lit_9999, lit_10000, lit_11730, lit_30467, lit_65536, lit_99999, lit_100000, lit_1000000, lit_252645135, lit_858993459, lit_1000000000, lit_1431655765, jI_add, jI_sub, jI_mul, jI_neg, jI_lt, jI_le, jI_eq, isO_0, fR_0_0, fR_0_1, fR_0_2, fR_0_3, fR_0_4, fR_0_5, fR_0_6, fR_0_7, fR_0_8, fR_0_9, fR_0_10, fR_0_11, fR_0_12, b_I, b_L, b_V, b_R, b_N, b_N0, Option.bind_some, ↓reduceIte, bq0, bq1, bz0, bz1, ite_not, Classical.not_not, hh]
      · rw [E_M_auction]
        simp (disch := omega) only [lit_0, lit_1, lit_2, lit_3, lit_4, lit_5, lit_6, lit_7, lit_8, lit_9, lit_10, lit_11, lit_12, lit_13, lit_14, lit_15, lit_16, lit_17, lit_18, lit_19, lit_20, lit_21, lit_22, lit_23, lit_24, lit_25, lit_26, lit_27, lit_28, lit_29, lit_30, lit_31, lit_32, lit_33, lit_34, lit_35, lit_36, lit_37, lit_38, lit_39, lit_40, lit_41, lit_42, lit_43, lit_44, lit_45, lit_46, lit_47, lit_48, lit_49, lit_50, lit_51, lit_52, lit_53, lit_54, lit_55, lit_56, lit_57, lit_58, lit_59, lit_60, lit_61, lit_62, lit_63, lit_64, lit_65, lit_67, lit_70, lit_71, lit_73, lit_75, lit_78, lit_84, lit_85, lit_86, lit_87, lit_89, lit_90, lit_91, lit_95, lit_96, lit_97, lit_98, lit_99, lit_100, lit_101, lit_102, lit_103, lit_104, lit_105, lit_107, lit_108, lit_109, lit_110, lit_111, lit_112, lit_114, lit_115, lit_116, lit_117, lit_119, lit_121, lit_122, lit_126, lit_127, lit_128, lit_130, lit_134, lit_137, lit_139, lit_140, lit_141, lit_145, lit_152, lit_159, lit_160, lit_168, lit_174, lit_180, lit_183, lit_192, lit_199, lit_236, lit_251, lit_255, lit_272, lit_284, lit_300, lit_330, lit_373, lit_753, lit_800, lit_896, lit_900, lit_1000, lit_1001, lit_1002, lit_1003, lit_1079, lit_1276, lit_1330, lit_1450, lit_3012, lit_3016, lit_3300, lit_8430, lit_9999, lit_10000, lit_11730, lit_30467, lit_65536, lit_99999, lit_100000, lit_1000000, lit_252645135, lit_858993459, lit_1000000000, lit_1431655765, jI_add, jI_sub, jI_mul, jI_neg, jI_lt, jI_le, jI_eq, isO_149, b_I, b_L, b_V, b_R, b_N, b_N0, Option.bind_some, ↓reduceIte, bq0, bq1, bz0, bz1, ite_not, Classical.not_not, hq, hm]
        rw [if_neg (show ¬ (1 : Int) = 0 by omega), if_neg q2]
  · rw [if_neg q] at hq
    rw [if_neg (fun h => q ⟨h.1, h.2.1⟩)] at hh
    refine Ok_pure (v := jI (-1)) hR ?_ ?_
    · rw [E_G_auction]
      simp (disch := omega) only [lit_0, lit_1, lit_2, lit_3, lit_4, lit_5, lit_6, lit_7, lit_8, lit_9, lit_10, lit_11, lit_12, lit_13, lit_14, lit_15, lit_16, lit_17, lit_18, lit_19, lit_20, lit_21, lit_22, lit_23, lit_24, lit_25, lit_26, lit_27, lit_28, lit_29, lit_30, lit_31, lit_32, lit_33, lit_34, lit_35, lit_36, lit_37, lit_38, lit_39, lit_40, lit_41, lit_42, lit_43, lit_44, lit_45, lit_46, lit_47, lit_48, lit_49, lit_50, lit_51, lit_52, lit_53, lit_54, lit_55, lit_56, lit_57, lit_58, lit_59, lit_60, lit_61, lit_62, lit_63, lit_64, lit_65, lit_67, lit_70, lit_71, lit_73, lit_75, lit_78, lit_84, lit_85, lit_86, lit_87, lit_89, lit_90, lit_91, lit_95, lit_96, lit_97, lit_98, lit_99, lit_100, lit_101, lit_102, lit_103, lit_104, lit_105, lit_107, lit_108, lit_109, lit_110, lit_111, lit_112, lit_114, lit_115, lit_116, lit_117, lit_119, lit_121, lit_122, lit_126, lit_127, lit_128, lit_130, lit_134, lit_137, lit_139, lit_140, lit_141, lit_145, lit_152, lit_159, lit_160, lit_168, lit_174, lit_180, lit_183, lit_192, lit_199, lit_236, lit_251, lit_255, lit_272, lit_284, lit_300, lit_330, lit_373, lit_753, lit_800, lit_896, lit_900, lit_1000, lit_1001, lit_1002, lit_1003, lit_1079, lit_1276, lit_1330, lit_1450, lit_3012, lit_3016, lit_3300, lit_8430, lit_9999, lit_10000, lit_11730, lit_30467, lit_65536, lit_99999, lit_100000, lit_1000000, lit_252645135, lit_858993459, lit_1000000000, lit_1431655765, jI_add, jI_sub, jI_mul, jI_neg, jI_lt, jI_le, jI_eq, isO_0, fR_0_0, fR_0_1, fR_0_2, fR_0_3, fR_0_4, fR_0_5, fR_0_6, fR_0_7, fR_0_8, fR_0_9, fR_0_10, fR_0_11, fR_0_12, b_I, b_L, b_V, b_R, b_N, b_N0, Option.bind_some, ↓reduceIte, bq0, bq1, bz0, bz1, ite_not, Classical.not_not, hh]
    · rw [E_M_auction]
      simp (disch := omega) only [lit_0, lit_1, lit_2, lit_3, lit_4, lit_5, lit_6, lit_7, lit_8, lit_9, lit_10, lit_11, lit_12, lit_13, lit_14, lit_15, lit_16, lit_17, lit_18, lit_19, lit_20, lit_21, lit_22, lit_23, lit_24, lit_25, lit_26, lit_27, lit_28, lit_29, lit_30, lit_31, lit_32, lit_33, lit_34, lit_35, lit_36, lit_37, lit_38, lit_39, lit_40, lit_41, lit_42, lit_43, lit_44, lit_45, lit_46, lit_47, lit_48, lit_49, lit_50, lit_51, lit_52, lit_53, lit_54, lit_55, lit_56, lit_57, lit_58, lit_59, lit_60, lit_61, lit_62, lit_63, lit_64, lit_65, lit_67, lit_70, lit_71, lit_73, lit_75, lit_78, lit_84, lit_85, lit_86, lit_87, lit_89, lit_90, lit_91, lit_95, lit_96, lit_97, lit_98, lit_99, lit_100, lit_101, lit_102, lit_103, lit_104, lit_105, lit_107, lit_108, lit_109, lit_110, lit_111, lit_112, lit_114, lit_115, lit_116, lit_117, lit_119, lit_121, lit_122, lit_126, lit_127, lit_128, lit_130, lit_134, lit_137, lit_139, lit_140, lit_141, lit_145, lit_152, lit_159, lit_160, lit_168, lit_174, lit_180, lit_183, lit_192, lit_199, lit_236, lit_251, lit_255, lit_272, lit_284, lit_300, lit_330, lit_373, lit_753, lit_800, lit_896, lit_900, lit_1000, lit_1001, lit_1002, lit_1003, lit_1079, lit_1276, lit_1330, lit_1450, lit_3012, lit_3016, lit_3300, lit_8430, lit_9999, lit_10000, lit_11730, lit_30467, lit_65536, lit_99999, lit_100000, lit_1000000, lit_252645135, lit_858993459, lit_1000000000, lit_1431655765, jI_add, jI_sub, jI_mul, jI_neg, jI_lt, jI_le, jI_eq, isO_149, b_I, b_L, b_V, b_R, b_N, b_N0, Option.bind_some, ↓reduceIte, bq0, bq1, bz0, bz1, ite_not, Classical.not_not, hq]
end
