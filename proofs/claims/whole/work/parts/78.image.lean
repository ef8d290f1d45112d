-- calls: image, back
theorem toldO_ne (F : Nat → Fn) {t r b : Nat} (h : b < t ∨ t + 15 ≤ b) : toldO F t r b = F b := by
  unfold toldO
  rw [sA_ne _ _ (by omega), rowO_ne _ (by omega) (by omega), rowO_ne _ (by omega) (by omega), rowO_ne _ (by omega) (by omega), rowO_ne _ (by omega) (by omega), rowO_ne _ (by omega) (by omega), rowO_ne _ (by omega) (by omega), rowO_ne _ (by omega) (by omega)]
theorem rowO_w (F : Nat → Fn) {w r : Nat} : rowO F w r w = u (F w) 1 (F r 1) := by
  unfold rowO
  rw [sA_eq]
theorem rowO_v (F : Nat → Fn) {w r : Nat} : rowO F w r (w + 1) = cp (F (r + 1)) (F (w + 1)) 0 0 (rL w) := by
  unfold rowO
  rw [sA_ne _ _ (by omega), sA_eq]
/-- what is told at t has become as that at r -/
theorem toldO_ok (F : Nat → Fn) {t r : Nat} (h : t = 36 ∧ r = 86 ∨ t = 86 ∧ r = 36) : toldO F t r t 7 = F r 7 ∧ toldO F t r t 8 = F r 8 ∧ (∀ j, j < 7 → toldO F t r (t + 1 + 2 * j) 1 = F (r + 1 + 2 * j) 1) ∧ (∀ j, j < 7 → ∀ i, 0 ≤ i → i < (rL (t + 1 + 2 * j) : Int) → toldO F t r (t + 1 + 2 * j + 1) i = F (r + 1 + 2 * j + 1) i) := by
  refine ⟨?_, ?_, ?_, ?_⟩
  · unfold toldO
    rw [sA_eq, u_ne _ _ (by omega), u_eq]
  · unfold toldO
    rw [sA_eq, u_eq]
  · intro j hj
    unfold toldO
    rw [sA_ne _ _ (by omega)]
    have e : j = 0 ∨ j = 1 ∨ j = 2 ∨ j = 3 ∨ j = 4 ∨ j = 5 ∨ j = 6 := by omega
    rcases e with rfl | rfl | rfl | rfl | rfl | rfl | rfl
    · rw [rowO_ne _ (by omega) (by omega), rowO_ne _ (by omega) (by omega), rowO_ne _ (by omega) (by omega), rowO_ne _ (by omega) (by omega), rowO_ne _ (by omega) (by omega), rowO_ne _ (by omega) (by omega)]
      rw [show t + 1 + 2 * 0 = t + 1 from rfl, rowO_w, u_eq]
    · rw [rowO_ne _ (by omega) (by omega), rowO_ne _ (by omega) (by omega), rowO_ne _ (by omega) (by omega), rowO_ne _ (by omega) (by omega), rowO_ne _ (by omega) (by omega)]
      rw [show t + 1 + 2 * 1 = t + 3 from rfl, rowO_w, u_eq, rowO_ne _ (by omega) (by omega)]
    · rw [rowO_ne _ (by omega) (by omega), rowO_ne _ (by omega) (by omega), rowO_ne _ (by omega) (by omega), rowO_ne _ (by omega) (by omega)]
      rw [show t + 1 + 2 * 2 = t + 5 from rfl, rowO_w, u_eq, rowO_ne _ (by omega) (by omega), rowO_ne _ (by omega) (by omega)]
    · rw [rowO_ne _ (by omega) (by omega), rowO_ne _ (by omega) (by omega), rowO_ne _ (by omega) (by omega)]
      rw [show t + 1 + 2 * 3 = t + 7 from rfl, rowO_w, u_eq, rowO_ne _ (by omega) (by omega), rowO_ne _ (by omega) (by omega), rowO_ne _ (by omega) (by omega)]
    · rw [rowO_ne _ (by omega) (by omega), rowO_ne _ (by omega) (by omega)]
      rw [show t + 1 + 2 * 4 = t + 9 from rfl, rowO_w, u_eq, rowO_ne _ (by omega) (by omega), rowO_ne _ (by omega) (by omega), rowO_ne _ (by omega) (by omega), rowO_ne _ (by omega) (by omega)]
    · rw [rowO_ne _ (by omega) (by omega)]
      rw [show t + 1 + 2 * 5 = t + 11 from rfl, rowO_w, u_eq, rowO_ne _ (by omega) (by omega), rowO_ne _ (by omega) (by omega), rowO_ne _ (by omega) (by omega), rowO_ne _ (by omega) (by omega), rowO_ne _ (by omega) (by omega)]
    · rw [show t + 1 + 2 * 6 = t + 13 from rfl, rowO_w, u_eq, rowO_ne _ (by omega) (by omega), rowO_ne _ (by omega) (by omega), rowO_ne _ (by omega) (by omega), rowO_ne _ (by omega) (by omega), rowO_ne _ (by omega) (by omega), rowO_ne _ (by omega) (by omega)]
  · intro j hj i i0 i1
    unfold toldO
    rw [sA_ne _ _ (by omega)]
    have e : j = 0 ∨ j = 1 ∨ j = 2 ∨ j = 3 ∨ j = 4 ∨ j = 5 ∨ j = 6 := by omega
    rcases e with rfl | rfl | rfl | rfl | rfl | rfl | rfl
    · rw [rowO_ne _ (by omega) (by omega), rowO_ne _ (by omega) (by omega), rowO_ne _ (by omega) (by omega), rowO_ne _ (by omega) (by omega), rowO_ne _ (by omega) (by omega), rowO_ne _ (by omega) (by omega)]
      rw [show t + 1 + 2 * 0 = t + 1 from rfl] at i1 ⊢
      rw [rowO_v, cp_in _ _ i0 i1]
    · rw [rowO_ne _ (by omega) (by omega), rowO_ne _ (by omega) (by omega), rowO_ne _ (by omega) (by omega), rowO_ne _ (by omega) (by omega), rowO_ne _ (by omega) (by omega)]
      rw [show t + 1 + 2 * 1 = t + 3 from rfl] at i1 ⊢
      rw [rowO_v, cp_in _ _ i0 i1, rowO_ne _ (by omega) (by omega)]
    · rw [rowO_ne _ (by omega) (by omega), rowO_ne _ (by omega) (by omega), rowO_ne _ (by omega) (by omega), rowO_ne _ (by omega) (by omega)]
      rw [show t + 1 + 2 * 2 = t + 5 from rfl] at i1 ⊢
      rw [rowO_v, cp_in _ _ i0 i1, rowO_ne _ (by omega) (by omega), rowO_ne _ (by omega) (by omega)]
    · rw [rowO_ne _ (by omega) (by omega), rowO_ne _ (by omega) (by omega), rowO_ne _ (by omega) (by omega)]
      rw [show t + 1 + 2 * 3 = t + 7 from rfl] at i1 ⊢
      rw [rowO_v, cp_in _ _ i0 i1, rowO_ne _ (by omega) (by omega), rowO_ne _ (by omega) (by omega), rowO_ne _ (by omega) (by omega)]
    · rw [rowO_ne _ (by omega) (by omega), rowO_ne _ (by omega) (by omega)]
      rw [show t + 1 + 2 * 4 = t + 9 from rfl] at i1 ⊢
      rw [rowO_v, cp_in _ _ i0 i1, rowO_ne _ (by omega) (by omega), rowO_ne _ (by omega) (by omega), rowO_ne _ (by omega) (by omega), rowO_ne _ (by omega) (by omega)]
    · rw [rowO_ne _ (by omega) (by omega)]
      rw [show t + 1 + 2 * 5 = t + 11 from rfl] at i1 ⊢
      rw [rowO_v, cp_in _ _ i0 i1, rowO_ne _ (by omega) (by omega), rowO_ne _ (by omega) (by omega), rowO_ne _ (by omega) (by omega), rowO_ne _ (by omega) (by omega), rowO_ne _ (by omega) (by omega)]
    · rw [show t + 1 + 2 * 6 = t + 13 from rfl] at i1 ⊢
      rw [rowO_v, cp_in _ _ i0 i1, rowO_ne _ (by omega) (by omega), rowO_ne _ (by omega) (by omega), rowO_ne _ (by omega) (by omega), rowO_ne _ (by omega) (by omega), rowO_ne _ (by omega) (by omega), rowO_ne _ (by omega) (by omega)]
/-- F' has at w', s', t' and m' what F has at w, s, t and m -/
theorem RS_copy {F F' : Nat → Fn} {w s w' s' m m' : Nat} (hw : F' (w' + 1) = cp (F (w + 1)) (F (w' + 1)) 0 0 141) (hs : F' s' = u (u (F s') 1 (F s 1)) 2 (F s 2)) (hr : ∀ i : Nat, i < 31 → F' (s' + 2 + i) = cp (F (s + 2 + i)) (F (s' + 2 + i)) 0 0 141) (hm : F' m' = cp (F m) (F m') 0 0 11730) (h : RS F w s (F m)) : RS F' w' s' (F' m') := by
  have g := h.1
  have e1 : F' s' 1 = F s 1 := by rw [hs, u_ne _ _ (by omega), u_eq]
  have e2 : F' s' 2 = F s 2 := by rw [hs, u_eq]
  have ea : ∀ k, 0 ≤ k → k < 11730 → F' m' k = F m k := by
    intro k k0 k1
    rw [hm, cp_in _ _ k0 k1]
  refine RS_cg (F := F) (w := w) (s := s) e1 e2 (ea 3 (by omega) (by omega)) ?_ ?_ h
  · intro i i0 i1 k k0 k1
    unfold rowC
    rw [e1, e2]
    by_cases q : i = F s 2
    · rw [if_pos q, if_pos q, hw, cp_in _ _ k0 k1]
    · rw [if_neg q, if_neg q, hr _ (by omega), cp_in _ _ k0 k1]
  · intro k hk
    unfold rlv at hk
    exact ea k (by omega) (by omega)
theorem RT_copy {F F' : Nat → Fn} {t r m m' : Nat} (h : t = 36 ∧ r = 86 ∨ t = 86 ∧ r = 36) (ht : ∀ b, t ≤ b → b < t + 15 → F' b = toldO F t r b) (hm : F' m' = cp (F m) (F m') 0 0 11730) (hR : RT F r (F m)) : RT F' t (F' m') := by
  obtain ⟨r0, r1, r2, r3, r4, r5⟩ := hR
  obtain ⟨o1, o2, o3, o4⟩ := toldO_ok F h
  have ea : ∀ k, 0 ≤ k → k < 11730 → F' m' k = F m k := by
    intro k k0 k1
    rw [hm, cp_in _ _ k0 k1]
  have c : ∀ j, j < 7 → F' (t + 1 + 2 * j) 1 = F (r + 1 + 2 * j) 1 := by
    intro j hj
    rw [ht _ (by omega) (by omega)]
    exact o3 j hj
  have v : ∀ j, j < 7 → ∀ i, 0 ≤ i → i < (rL (t + 1 + 2 * j) : Int) → F' (t + 1 + 2 * j + 1) i = F (r + 1 + 2 * j + 1) i := by
    intro j hj
    rw [ht _ (by omega) (by omega)]
    exact o4 j hj
  have l0 : rL (t + 1 + 2 * 0) = 12 := by rcases h with ⟨rfl, _⟩ | ⟨rfl, _⟩ <;> rfl
  have l1 : rL (t + 1 + 2 * 1) = 8 := by rcases h with ⟨rfl, _⟩ | ⟨rfl, _⟩ <;> rfl
  have l2 : rL (t + 1 + 2 * 2) = 6 := by rcases h with ⟨rfl, _⟩ | ⟨rfl, _⟩ <;> rfl
  have l3 : rL (t + 1 + 2 * 3) = 6 := by rcases h with ⟨rfl, _⟩ | ⟨rfl, _⟩ <;> rfl
  have l4 : rL (t + 1 + 2 * 4) = 6 := by rcases h with ⟨rfl, _⟩ | ⟨rfl, _⟩ <;> rfl
  have l5 : rL (t + 1 + 2 * 5) = 8 := by rcases h with ⟨rfl, _⟩ | ⟨rfl, _⟩ <;> rfl
  have l6 : rL (t + 1 + 2 * 6) = 8 := by rcases h with ⟨rfl, _⟩ | ⟨rfl, _⟩ <;> rfl
  refine ⟨RT0_cg (by rw [ht t (by omega) (by omega)]; exact o1) (by rw [ht t (by omega) (by omega)]; exact o2) (ea _ (by omega) (by omega)) (ea _ (by omega) (by omega)) r0, RT1_cg ?_ (fun k _ _ => ea k (by omega) (by omega)) r1, RT2_cg (c 1 (by omega)) ?_ (ea _ (by omega) (by omega)) (fun k _ _ => ea k (by omega) (by omega)) r2, RT3_cg (c 2 (by omega)) ?_ (ea _ (by omega) (by omega)) (fun k _ _ => ea k (by omega) (by omega)) r3, RT4_cg (c 3 (by omega)) (c 4 (by omega)) ?_ (ea _ (by omega) (by omega)) (fun k _ _ => ea k (by omega) (by omega)) r4, RT5_cg (c 5 (by omega)) (c 6 (by omega)) ?_ (ea _ (by omega) (by omega)) (fun k _ _ => ea k (by omega) (by omega)) r5⟩
  · intro g g0 g1; exact v 0 (by omega) g g0 (by omega)
  · intro g g0 g1; exact v 1 (by omega) g g0 (by omega)
  · intro g g0 g1; exact v 2 (by omega) g g0 (by omega)
  · intro g g0 g1; exact ⟨v 3 (by omega) g g0 (by omega), v 4 (by omega) g g0 (by omega)⟩
  · intro g g0 g1; exact ⟨v 5 (by omega) g g0 (by omega), v 6 (by omega) g g0 (by omega)⟩
section
variable (x : m_X) (F G : Nat → Fn)
/-- the class's copy of all, from (w, s, r) to (w', s', t) -/
theorem C_copyAll {w s r w' s' t : Nat} (h : (w = 1 ∧ s = 3 ∧ r = 36 ∧ w' = 51 ∧ s' = 53 ∧ t = 86) ∨ (w = 51 ∧ s = 53 ∧ r = 86 ∧ w' = 1 ∧ s' = 3 ∧ t = 36)) : ∃ F1 F2, m_M x k_World_takeOver [.ref w', .ref w] (mk F G) = some (none, mk (sA F (w' + 1) (cp (F (w + 1)) (F (w' + 1)) 0 0 141)) G) ∧ m_M x k_Steps_takeOver [.ref s', .ref s] (mk (sA F (w' + 1) (cp (F (w + 1)) (F (w' + 1)) 0 0 141)) G) = some (none, mk F1 G) ∧ m_M x k_Told_takeOver [.ref t, .ref r] (mk F1 G) = some (none, mk F2 G) ∧ F2 (w' + 1) = cp (F (w + 1)) (F (w' + 1)) 0 0 141 ∧ F2 s' = u (u (F s') 1 (F s 1)) 2 (F s 2) ∧ (∀ i : Nat, i < 31 → F2 (s' + 2 + i) = cp (F (s + 2 + i)) (F (s' + 2 + i)) 0 0 141) ∧ (∀ b, t ≤ b → b < t + 15 → F2 b = toldO F t r b) ∧ (∀ b, ¬ b = w' + 1 → ¬ b = s' → (b < s' + 2 ∨ s' + 33 ≤ b) → (b < t ∨ t + 15 ≤ b) → F2 b = F b) := by
  obtain ⟨F1, q1, q2, q3, q4⟩ := C_takeOverS x (sA F (w' + 1) (cp (F (w + 1)) (F (w' + 1)) 0 0 141)) G (s := s') (r := s) (by omega)
  have qt : t = 36 ∧ r = 86 ∨ t = 86 ∧ r = 36 := by omega
  refine ⟨F1, toldO F1 t r, C_takeOverW x F G (by omega) (by omega), q1, C_takeOverT x F1 G qt, ?_, ?_, ?_, ?_, ?_⟩
  · rw [toldO_ne _ (by omega), q4 _ (by omega) (by intro i hi; omega), sA_eq]
  · rw [toldO_ne _ (by omega), q3, sA_ne _ _ (by omega), sA_ne _ _ (by omega)]
  · intro i hi
    rw [toldO_ne _ (by omega), q2 i hi, sA_ne _ _ (by omega), sA_ne _ _ (by omega)]
  · intro b b0 b1
    have e : ∀ z, (t ≤ z ∧ z < t + 15) ∨ (r ≤ z ∧ z < r + 15) → F1 z = F z := by
      intro z hz
      rw [q4 z (by omega) (by intro i hi; omega), sA_ne _ _ (by omega)]
    unfold toldO rowO
    simp (disch := omega) only [sA_ne, e]
    simp only [sA]
    repeat' split
    all_goals first | rfl | (exfalso; omega) | (rw [e _ (by omega)])
  · intro b h1 h2 h3 h4
    rw [toldO_ne _ h4, q4 b h2 (by intro i hi; omega), sA_ne _ _ h1]
theorem ok_image (hR : Rel F) : Ok x F G k_G_image k_M_image [] := by
  obtain ⟨F1, F2, c1, c2, c3, d1, d2, d3, d4, d5⟩ := C_copyAll x F G (w := 1) (s := 3) (r := 36) (w' := 51) (s' := 53) (t := 86) (by omega)
  have hv := Rel_V0 hR
  have e2 : F2 2 = F 2 := d5 2 (by omega) (by omega) (by omega) (by omega)
  have e150 : F2 150 = F 150 := d5 150 (by omega) (by omega) (by omega) (by omega)
  have fw : m_fR (mk F2 G) 9 0 1 = some 2 := fR_W_0 F2 G (w := 1) (Or.inl rfl)
  have eC : m_M x k_G_image [.ref 0] (mk F G) = some (some (.int (jI (F 2 22))), mk F2 G) := by
    rw [E_G_image]
    simp only [isO_0, fR_0_0, fR_0_1, fR_0_2, fR_0_3, fR_0_4, fR_0_5, fR_0_6, fR_0_7, fR_0_8, fR_0_9, fR_0_10, fR_0_11, fR_0_12, b_I, b_L, b_V, b_R, b_N, b_N0, Option.bind_some, ↓reduceIte, bq0, bq1, bz0, bz1, ite_not, Classical.not_not, c1, c2, c3]
    simp (disch := omega) only [lit_0, lit_1, lit_2, lit_3, lit_4, lit_5, lit_6, lit_7, lit_8, lit_9, lit_10, lit_11, lit_12, lit_13, lit_14, lit_15, lit_16, lit_17, lit_18, lit_19, lit_20, lit_21, lit_22, lit_23, lit_24, lit_25, lit_26, lit_27, lit_28, lit_29, lit_30, lit_31, lit_32, lit_33, lit_34, lit_35, lit_36, lit_37, lit_38, lit_39, lit_40, lit_41, lit_42, lit_43, lit_44, lit_45, lit_46, lit_47, lit_48, lit_49, lit_50, lit_51, lit_52, lit_53, lit_54, lit_55, lit_56, lit_57, lit_58, lit_59, lit_60, lit_61, lit_62, lit_63, lit_64, lit_65, lit_67, lit_70, lit_71, lit_73, lit_75, lit_78, lit_84, lit_85, lit_86, lit_87, lit_89, lit_90, lit_91, lit_95, lit_96, lit_97, lit_98, lit_99, lit_100, lit_101, lit_102, lit_103, lit_104, lit_105, lit_107, lit_108, lit_109, lit_110, lit_111, lit_112, lit_114, lit_115, lit_116, lit_117, lit_119, lit_121, lit_122, lit_126, lit_127, lit_128, lit_130, lit_134, lit_137, lit_139, lit_140, lit_141, lit_145, lit_152, lit_159, lit_160, lit_168, lit_174, lit_180, lit_183, lit_192, lit_199, lit_236, lit_251, lit_255, lit_272, lit_284, lit_300, lit_330, lit_373, lit_753, lit_800, lit_896, lit_900, lit_1000, lit_1001, lit_1002, lit_1003, lit_1079, lit_1276, lit_1330, lit_1450, lit_3012, lit_3016, lit_3300, lit_8430, lit_9999, lit_10000, lit_11730, lit_30467, lit_65536, lit_99999, lit_100000, lit_1000000, lit_252645135, lit_858993459, lit_1000000000, lit_1431655765, fw, ia_2, is_2, b_I, b_L, b_V, b_R, b_N, b_N0, Option.bind_some, ↓reduceIte, bq0, bq1, bz0, bz1, ite_not, Classical.not_not, e2]
  have e8 : F 150 8 = F 2 22 := by rw [← V_22 (F 150)]; exact hv.2.1
  have hcp := M_copy x F2 G (r := 150) (b := 151) (by omega)
  have eM : m_M x k_M_image [.ref 149] (mk F2 G) = some (some (.int (jI (F 2 22))), mk (sA F2 151 (cp (F2 150) (F2 151) 0 0 11730)) G) := by
    rw [E_M_image]
    simp (disch := omega) only [lit_0, lit_1, lit_2, lit_3, lit_4, lit_5, lit_6, lit_7, lit_8, lit_9, lit_10, lit_11, lit_12, lit_13, lit_14, lit_15, lit_16, lit_17, lit_18, lit_19, lit_20, lit_21, lit_22, lit_23, lit_24, lit_25, lit_26, lit_27, lit_28, lit_29, lit_30, lit_31, lit_32, lit_33, lit_34, lit_35, lit_36, lit_37, lit_38, lit_39, lit_40, lit_41, lit_42, lit_43, lit_44, lit_45, lit_46, lit_47, lit_48, lit_49, lit_50, lit_51, lit_52, lit_53, lit_54, lit_55, lit_56, lit_57, lit_58, lit_59, lit_60, lit_61, lit_62, lit_63, lit_64, lit_65, lit_67, lit_70, lit_71, lit_73, lit_75, lit_78, lit_84, lit_85, lit_86, lit_87, lit_89, lit_90, lit_91, lit_95, lit_96, lit_97, lit_98, lit_99, lit_100, lit_101, lit_102, lit_103, lit_104, lit_105, lit_107, lit_108, lit_109, lit_110, lit_111, lit_112, lit_114, lit_115, lit_116, lit_117, lit_119, lit_121, lit_122, lit_126, lit_127, lit_128, lit_130, lit_134, lit_137, lit_139, lit_140, lit_141, lit_145, lit_152, lit_159, lit_160, lit_168, lit_174, lit_180, lit_183, lit_192, lit_199, lit_236, lit_251, lit_255, lit_272, lit_284, lit_300, lit_330, lit_373, lit_753, lit_800, lit_896, lit_900, lit_1000, lit_1001, lit_1002, lit_1003, lit_1079, lit_1276, lit_1330, lit_1450, lit_3012, lit_3016, lit_3300, lit_8430, lit_9999, lit_10000, lit_11730, lit_30467, lit_65536, lit_99999, lit_100000, lit_1000000, lit_252645135, lit_858993459, lit_1000000000, lit_1431655765, isO_149, fR_149_0, fR_149_1, b_I, b_L, b_V, b_R, b_N, b_N0, Option.bind_some, ↓reduceIte, bq0, bq1, bz0, bz1, ite_not, Classical.not_not, hcp, ia_150, is_150, sA_ne, e150, e8]
  refine ⟨_, _, _, _, eC, eM, ?_⟩
  have e151 : F2 151 = F 151 := d5 151 (by omega) (by omega) (by omega) (by omega)
  rw [e150, e151]
  have eo : ∀ b, ¬ b = 151 → sA F2 151 (cp (F 150) (F 151) 0 0 11730) b = F2 b := fun b h => sA_ne _ _ h
  obtain ⟨h1, h2, h3, h4, h5, h6, h7⟩ := hR
  have h36 := h3.1
  unfold RT0 at h36
  have k86 : sA F2 151 (cp (F 150) (F 151) 0 0 11730) 86 7 = F 36 7 := by
    rw [eo 86 (by omega), d4 86 (by omega) (by omega)]
    exact (toldO_ok F (Or.inr ⟨rfl, rfl⟩)).1
  refine ⟨?_, ?_, ?_, ?_, ?_, ?_, ?_⟩
  · rw [eo 150 (by omega), e150]
    exact RS_ob (by rw [eo _ (by omega), d5 _ (by omega) (by omega) (by omega) (by omega)]) (by rw [eo _ (by omega), d5 _ (by omega) (by omega) (by omega) (by omega)]) (fun i hi => by rw [eo _ (by omega), d5 _ (by omega) (by omega) (by omega) (by omega)]) h1
  · exact RS_copy (F := F) (w := 1) (s := 3) (m := 150) (m' := 151) (by rw [eo _ (by omega)]; exact d1) (by rw [eo _ (by omega)]; exact d2) (fun i hi => by rw [eo _ (by omega)]; exact d3 i hi) (sA_eq _ _ _) h1
  · rw [eo 150 (by omega), e150]
    exact RT_ob (fun j hj => by rw [eo _ (by omega), d5 _ (by omega) (by omega) (by omega) (by omega)]) (fun _ _ => rfl) h3
  · exact RT_copy (F := F) (r := 36) (m := 150) (m' := 151) (Or.inr ⟨rfl, rfl⟩) (fun b b0 b1 => by rw [eo _ (by omega)]; exact d4 b b0 b1) (sA_eq _ _ _) h3
  · have en : ∀ b, 101 ≤ b → ¬ b = 151 → sA F2 151 (cp (F 150) (F 151) 0 0 11730) b = F b := fun b hb hb2 => by rw [eo b hb2, d5 b (by omega) (by omega) (by omega) (by omega)]
    refine RD_cg ?_ ?_ (en _ (by omega) (by omega)) (en _ (by omega) (by omega)) h5
    · rw [en 128 (by omega) (by omega)]; exact ⟨rfl, rfl, rfl⟩
    · rw [en 149 (by omega) (by omega)]; exact ⟨rfl, rfl, rfl, rfl⟩
  · rw [k86, eo 36 (by omega), d5 36 (by omega) (by omega) (by omega) (by omega)]
    omega
  · intro t ht
    rw [eo 36 (by omega), d5 36 (by omega) (by omega) (by omega) (by omega)] at ht
    exact TX_cg (by omega) (fun b b0 b1 => by rw [eo b (by omega), d5 b (by omega) (by omega) (by omega) (by omega)]) (by rw [eo 152 (by omega), d5 152 (by omega) (by omega) (by omega) (by omega)]) (h7 t ht)
theorem ok_back (hR : Rel F) : Ok x F G k_G_back k_M_back [] := by
  obtain ⟨F1, F2, c1, c2, c3, d1, d2, d3, d4, d5⟩ := C_copyAll x F G (w := 51) (s := 53) (r := 86) (w' := 1) (s' := 3) (t := 36) (by omega)
  have hv2 := RS_V hR.2.1
  have e2 : F2 2 22 = F 52 22 := by
    have q : F2 (1 + 1) = cp (F (51 + 1)) (F (1 + 1)) 0 0 141 := d1
    show F2 (1 + 1) 22 = _
    rw [q, cp_in _ _ (by omega) (by omega)]
  have e150 : F2 150 = F 150 := d5 150 (by omega) (by omega) (by omega) (by omega)
  have e151 : F2 151 = F 151 := d5 151 (by omega) (by omega) (by omega) (by omega)
  have fw : m_fR (mk F2 G) 9 0 1 = some 2 := fR_W_0 F2 G (w := 1) (Or.inl rfl)
  have eC : m_M x k_G_back [.ref 0] (mk F G) = some (some (.int (jI (F 52 22))), mk F2 G) := by
    rw [E_G_back]
    simp only [isO_0, fR_0_0, fR_0_1, fR_0_2, fR_0_3, fR_0_4, fR_0_5, fR_0_6, fR_0_7, fR_0_8, fR_0_9, fR_0_10, fR_0_11, fR_0_12, b_I, b_L, b_V, b_R, b_N, b_N0, Option.bind_some, ↓reduceIte, bq0, bq1, bz0, bz1, ite_not, Classical.not_not, c1, c2, c3]
    simp (disch := omega) only [lit_0, lit_1, lit_2, lit_3, lit_4, lit_5, lit_6, lit_7, lit_8, lit_9, lit_10, lit_11, lit_12, lit_13, lit_14, lit_15, lit_16, lit_17, lit_18, lit_19, lit_20, lit_21, lit_22, lit_23, lit_24, lit_25, lit_26, lit_27, lit_28, lit_29, lit_30, lit_31, lit_32, lit_33, lit_34, lit_35, lit_36, lit_37, lit_38, lit_39, lit_40, lit_41, lit_42, lit_43, lit_44, lit_45, lit_46, lit_47, lit_48, lit_49, lit_50, lit_51, lit_52, lit_53, lit_54, lit_55, lit_56, lit_57, lit_58, lit_59, lit_60, lit_61, lit_62, lit_63, lit_64, lit_65, lit_67, lit_70, lit_71, lit_73, lit_75, lit_78, lit_84, lit_85, lit_86, lit_87, lit_89, lit_90, lit_91, lit_95, lit_96, lit_97, lit_98, lit_99, lit_100, lit_101, lit_102, lit_103, lit_104, lit_105, lit_107, lit_108, lit_109, lit_110, lit_111, lit_112, lit_114, lit_115, lit_116, lit_117, lit_119, lit_121, lit_122, lit_126, lit_127, lit_128, lit_130, lit_134, lit_137, lit_139, lit_140, lit_141, lit_145, lit_152, lit_159, lit_160, lit_168, lit_174, lit_180, lit_183, lit_192, lit_199, lit_236, lit_251, lit_255, lit_272, lit_284, lit_300, lit_330, lit_373, lit_753, lit_800, lit_896, lit_900, lit_1000, lit_1001, lit_1002, lit_1003, lit_1079, lit_1276, lit_1330, lit_1450, lit_3012, lit_3016, lit_3300, lit_8430, lit_9999, lit_10000, lit_11730, lit_30467, lit_65536, lit_99999, lit_100000, lit_1000000, lit_252645135, lit_858993459, lit_1000000000, lit_1431655765, fw, ia_2, is_2, b_I, b_L, b_V, b_R, b_N, b_N0, Option.bind_some, ↓reduceIte, bq0, bq1, bz0, bz1, ite_not, Classical.not_not, e2]
  have e8 : F 151 8 = F 52 22 := by
    have q := hv2 22 (by unfold vok; omega)
    rw [V_22] at q
    exact q.symm
  have hcp := M_copy x F2 G (r := 151) (b := 150) (by omega)
  have eM : m_M x k_M_back [.ref 149] (mk F2 G) = some (some (.int (jI (F 52 22))), mk (sA F2 150 (cp (F2 151) (F2 150) 0 0 11730)) G) := by
    have k8 : cp (F2 151) (F2 150) 0 0 11730 8 = F 52 22 := by rw [cp_in _ _ (by omega) (by omega), e151, e8]
    rw [E_M_back]
    simp (disch := omega) only [lit_0, lit_1, lit_2, lit_3, lit_4, lit_5, lit_6, lit_7, lit_8, lit_9, lit_10, lit_11, lit_12, lit_13, lit_14, lit_15, lit_16, lit_17, lit_18, lit_19, lit_20, lit_21, lit_22, lit_23, lit_24, lit_25, lit_26, lit_27, lit_28, lit_29, lit_30, lit_31, lit_32, lit_33, lit_34, lit_35, lit_36, lit_37, lit_38, lit_39, lit_40, lit_41, lit_42, lit_43, lit_44, lit_45, lit_46, lit_47, lit_48, lit_49, lit_50, lit_51, lit_52, lit_53, lit_54, lit_55, lit_56, lit_57, lit_58, lit_59, lit_60, lit_61, lit_62, lit_63, lit_64, lit_65, lit_67, lit_70, lit_71, lit_73, lit_75, lit_78, lit_84, lit_85, lit_86, lit_87, lit_89, lit_90, lit_91, lit_95, lit_96, lit_97, lit_98, lit_99, lit_100, lit_101, lit_102, lit_103, lit_104, lit_105, lit_107, lit_108, lit_109, lit_110, lit_111, lit_112, lit_114, lit_115, lit_116, lit_117, lit_119, lit_121, lit_122, lit_126, lit_127, lit_128, lit_130, lit_134, lit_137, lit_139, lit_140, lit_141, lit_145, lit_152, lit_159, lit_160, lit_168, lit_174, lit_180, lit_183, lit_192, lit_199, lit_236, lit_251, lit_255, lit_272, lit_284, lit_300, lit_330, lit_373, lit_753, lit_800, lit_896, lit_900, lit_1000, lit_1001, lit_1002, lit_1003, lit_1079, lit_1276, lit_1330, lit_1450, lit_3012, lit_3016, lit_3300, lit_8430, lit_9999, lit_10000, lit_11730, lit_30467, lit_65536, lit_99999, lit_100000, lit_1000000, lit_252645135, lit_858993459, lit_1000000000, lit_1431655765, isO_149, fR_149_0, fR_149_1, b_I, b_L, b_V, b_R, b_N, b_N0, Option.bind_some, ↓reduceIte, bq0, bq1, bz0, bz1, ite_not, Classical.not_not, hcp, ia_150, is_150, sA_eq, k8]
  refine ⟨_, _, _, _, eC, eM, ?_⟩
  rw [e150, e151]
  have eo : ∀ b, ¬ b = 150 → sA F2 150 (cp (F 151) (F 150) 0 0 11730) b = F2 b := fun b h => sA_ne _ _ h
  obtain ⟨h1, h2, h3, h4, h5, h6, h7⟩ := hR
  have h86 := h4.1
  unfold RT0 at h86
  have h36 := h3.1
  unfold RT0 at h36
  have k36 : sA F2 150 (cp (F 151) (F 150) 0 0 11730) 36 7 = F 86 7 := by
    rw [eo 36 (by omega), d4 36 (by omega) (by omega)]
    exact (toldO_ok F (Or.inl ⟨rfl, rfl⟩)).1
  have en : ∀ b, 51 ≤ b → ¬ b = 150 → sA F2 150 (cp (F 151) (F 150) 0 0 11730) b = F b := fun b hb hb2 => by rw [eo b hb2, d5 b (by omega) (by omega) (by omega) (by omega)]
  refine ⟨?_, ?_, ?_, ?_, ?_, ?_, ?_⟩
  · exact RS_copy (F := F) (w := 51) (s := 53) (m := 151) (m' := 150) (by rw [eo _ (by omega)]; exact d1) (by rw [eo _ (by omega)]; exact d2) (fun i hi => by rw [eo _ (by omega)]; exact d3 i hi) (sA_eq _ _ _) h2
  · rw [en 151 (by omega) (by omega)]
    exact RS_ob (en _ (by omega) (by omega)) (en _ (by omega) (by omega)) (fun i hi => en _ (by omega) (by omega)) h2
  · exact RT_copy (F := F) (r := 86) (m := 151) (m' := 150) (Or.inl ⟨rfl, rfl⟩) (fun b b0 b1 => by rw [eo _ (by omega)]; exact d4 b b0 b1) (sA_eq _ _ _) h4
  · rw [en 151 (by omega) (by omega)]
    exact RT_ob (fun j hj => en _ (by omega) (by omega)) (fun _ _ => rfl) h4
  · refine RD_cg ?_ ?_ (en _ (by omega) (by omega)) (en _ (by omega) (by omega)) h5
    · rw [en 128 (by omega) (by omega)]; exact ⟨rfl, rfl, rfl⟩
    · rw [en 149 (by omega) (by omega)]; exact ⟨rfl, rfl, rfl, rfl⟩
  · rw [k36, en 86 (by omega) (by omega)]
    omega
  · intro t ht
    rw [k36] at ht
    exact TX_cg (by omega) (fun b b0 b1 => en b (by omega) (by omega)) (en 152 (by omega) (by omega)) (h7 t (by omega))
end
