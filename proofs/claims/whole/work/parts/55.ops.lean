-- the calls that tell and do, one by one: both answer alike, and the relation is kept
def Ok (x : m_X) (F G : Nat → Fn) (kc km : Nat) (as : List Value) : Prop := ∃ v F' F'' G'', m_M x kc (.ref 0 :: as) (mk F G) = some (some (.int v), mk F' G) ∧ m_M x km (.ref 149 :: as) (mk F' G) = some (some (.int v), mk F'' G'') ∧ Rel F''
theorem Ok_pure {x : m_X} {F G : Nat → Fn} {kc km : Nat} {as : List Value} {v : Int32} (hR : Rel F) (h1 : m_M x kc (.ref 0 :: as) (mk F G) = some (some (.int v), mk F G)) (h2 : m_M x km (.ref 149 :: as) (mk F G) = some (some (.int v), mk F G)) : Ok x F G kc km as := ⟨v, F, F, G, h1, h2, hR⟩
theorem RD_cg {F F' : Nat → Fn} (h1 : F' 128 2 = F 128 2 ∧ F' 128 3 = F 128 3 ∧ F' 128 4 = F 128 4) (h2 : F' 149 4 = F 149 4 ∧ F' 149 5 = F 149 5 ∧ F' 149 6 = F 149 6 ∧ F' 149 23 = F 149 23) (h3 : F' 135 = F 135) (h4 : F' 153 = F 153) (h : RD F) : RD F' := by
  unfold RD
  rw [h1.1, h1.2.1, h1.2.2, h2.1, h2.2.1, h2.2.2.1, h2.2.2.2, h3, h4]
  exact h
theorem RS_ob {F F' : Nat → Fn} {w s : Nat} {a : Fn} (hs : F' s = F s) (hw : F' (w + 1) = F (w + 1)) (hr : ∀ i : Nat, i < 31 → F' (s + 2 + i) = F (s + 2 + i)) (h : RS F w s a) : RS F' w s a := by
  refine RS_cg (F := F) (w := w) (s := s) (by rw [hs]) (by rw [hs]) rfl ?_ (fun _ _ => rfl) h
  intro i _ _ k _ _
  unfold rowC
  rw [hs, hw, hr _ (by omega)]
theorem Rel_live {F F' : Nat → Fn} (h : Rel F) (ho : ∀ b, (36 ≤ b ∧ b < 101) ∨ (104 ≤ b ∧ b < 128) ∨ b = 151 ∨ b = 152 → F' b = F b) (hd : RD F') (hrs : RS F' 1 3 (F' 150)) (hf : ∀ k, (1 ≤ k ∧ k < 8 ∧ ¬ k = 3) ∨ (126 ≤ k ∧ k < 180) → F' 150 k = F 150 k) : Rel F' := by
  obtain ⟨h1, h2, h3, h4, h5, h6, h7⟩ := h
  have h36 := h3.1
  unfold RT0 at h36
  refine ⟨hrs, ?_, ?_, ?_, hd, ?_, ?_⟩
  · rw [ho 151 (by omega)]
    exact RS_ob (ho _ (by omega)) (ho _ (by omega)) (fun i hi => ho _ (by omega)) h2
  · exact RT_ob (fun j hj => ho _ (by omega)) hf h3
  · rw [ho 151 (by omega)]
    exact RT_ob (fun j hj => ho _ (by omega)) (fun _ _ => rfl) h4
  · rw [ho 86 (by omega), ho 36 (by omega)]
    exact h6
  · intro t ht
    rw [ho 36 (by omega)] at ht
    exact TX_cg (by omega) (fun b h0 h1 => ho _ (by omega)) (ho _ (by omega)) (h7 t ht)
theorem sA_comm (F : Nat → Fn) {a b : Nat} (f g : Fn) (h : ¬ a = b) : sA (sA F a f) b g = sA (sA F b g) a f := by
  funext c
  simp only [sA]
  by_cases h1 : c = b
  · rw [if_pos h1, if_neg (by omega), if_pos h1]
  · rw [if_neg h1, if_neg h1]
theorem sA_sw (F : Nat → Fn) {a b : Nat} (f g k : Fn) (h : ¬ a = b) : sA (sA (sA F a f) b g) a k = sA (sA F a k) b g := by
  rw [sA_comm _ _ _ (fun q => h q.symm), sA_sA, sA_comm _ _ _ h]
theorem u_u (f : Fn) (z v w : Int) : u (u f z v) z w = u f z w := by
  funext k
  simp only [u]
  split <;> rfl
def kf (g : Fn) : Fn := if g 2 < 30 then u g 2 (g 2 + 1) else u g 1 ((g 1 + 1) % 31)
theorem kpd_eq (F : Nat → Fn) : kpd F 1 3 = sA (mkd F 1 3) 3 (kf (F 3)) := rfl
theorem mkd_ne {F : Nat → Fn} {b : Nat} (h : b < 5 ∨ 36 ≤ b) : mkd F 1 3 b = F b := by
  unfold mkd spr
  rw [sA_ne _ _ (by omega)]
theorem kpd_ne {F : Nat → Fn} {b : Nat} (h : b < 3 ∨ b = 4 ∨ 36 ≤ b) : kpd F 1 3 b = F b := by
  rw [kpd_eq, sA_ne _ _ (by omega), mkd_ne (by omega)]
theorem hs13 : ∀ i : Nat, i < 31 → ¬ 3 + 2 + i = 1 + 1 := by intro i _; omega
theorem Rel_mkd {F : Nat → Fn} (h : Rel F) : Rel (mkd F 1 3) := by
  refine Rel_live h (fun b hb => mkd_ne (by omega)) ?_ ?_ ?_
  · have e : ∀ b, 36 ≤ b → mkd F 1 3 b = F b := fun b hb => mkd_ne (by omega)
    refine RD_cg ?_ ?_ (e _ (by omega)) (e _ (by omega)) h.2.2.2.2.1
    · rw [e 128 (by omega)]; exact ⟨rfl, rfl, rfl⟩
    · rw [e 149 (by omega)]; exact ⟨rfl, rfl, rfl, rfl⟩
  · rw [mkd_ne (b := 150) (by omega)]
    exact RS_mark hs13 h.1
  · intro k _
    rw [mkd_ne (b := 150) (by omega)]
/-- a deed done: a step kept, the world and the model's row changed -/
theorem Rel_step {F : Nat → Fn} {c b : Fn} (h : Rel F) (hrs : RS (sA (kpd F 1 3) 2 c) 1 3 b) (hf : ∀ k, (1 ≤ k ∧ k < 8 ∧ ¬ k = 3) ∨ (126 ≤ k ∧ k < 180) → b k = F 150 k) : Rel (sA (sA (kpd F 1 3) 2 c) 150 b) := by
  have e : ∀ d, 36 ≤ d → ¬ d = 150 → sA (sA (kpd F 1 3) 2 c) 150 b d = F d := by
    intro d h0 h1
    rw [sA_ne _ _ h1, sA_ne _ _ (by omega), kpd_ne (by omega)]
  refine Rel_live h (fun d hd => e d (by omega) (by omega)) ?_ ?_ ?_
  · refine RD_cg ?_ ?_ (e _ (by omega) (by omega)) (e _ (by omega) (by omega)) h.2.2.2.2.1
    · rw [e 128 (by omega) (by omega)]; exact ⟨rfl, rfl, rfl⟩
    · rw [e 149 (by omega) (by omega)]; exact ⟨rfl, rfl, rfl, rfl⟩
  · rw [sA_eq]
    exact RS_sA (by omega) (by omega) (by omega) hrs
  · rw [sA_eq]
    exact hf
theorem Rel_step0 {F : Nat → Fn} {c b : Fn} (h : Rel F) (hi : WI c) (hv : ∀ k, vok k → c k = V b k) (hk : ∀ k, 0 ≤ k → (k < 8 ∨ k = 22 ∨ k = 26 ∨ (111 ≤ k ∧ k < 141)) → c k = F 2 k) (hf : Fr (mKeep (F 150)) b) : Rel (sA (sA (kpd F 1 3) 2 c) 150 b) := by
  have g1 := h.1.1
  refine Rel_step h (RS_step0 hs13 (by omega) h.1 hi hv hk hf) ?_
  intro k q
  rw [hf k (by omega), mKeep_lo (by omega) (by omega) (by omega) (by omega)]
theorem Rel_V {F : Nat → Fn} (h : Rel F) : ∀ k, vok k → V (F 150) k = F 2 k := fun k hk => (RS_V h.1 k hk).symm
theorem Rel_V0 {F : Nat → Fn} (h : Rel F) : V (F 150) 0 = F 2 0 ∧ V (F 150) 22 = F 2 22 ∧ V (F 150) 23 = F 2 23 ∧ V (F 150) 24 = F 2 24 ∧ V (F 150) 25 = F 2 25 :=
  ⟨Rel_V h _ (by unfold vok; omega), Rel_V h _ (by unfold vok; omega), Rel_V h _ (by unfold vok; omega), Rel_V h _ (by unfold vok; omega), Rel_V h _ (by unfold vok; omega)⟩
theorem Rel_Vp {F : Nat → Fn} (h : Rel F) {p : Int} (h0 : 0 ≤ p) (h1 : p < 7) : V (F 150) (1 + p) = F 2 (1 + p) ∧ V (F 150) (8 + p) = F 2 (8 + p) ∧ V (F 150) (15 + p) = F 2 (15 + p) :=
  ⟨Rel_V h _ (by unfold vok; omega), Rel_V h _ (by unfold vok; omega), Rel_V h _ (by unfold vok; omega)⟩
theorem Rel_Vg {F : Nat → Fn} (h : Rel F) {g : Int} (h0 : 0 ≤ g) (h1 : g < 12) : V (F 150) (27 + g) = F 2 (27 + g) ∧ V (F 150) (39 + g) = F 2 (39 + g) ∧ V (F 150) (51 + g) = F 2 (51 + g) ∧ V (F 150) (63 + g) = F 2 (63 + g) ∧ V (F 150) (75 + g) = F 2 (75 + g) ∧ V (F 150) (87 + g) = F 2 (87 + g) ∧ V (F 150) (99 + g) = F 2 (99 + g) :=
  ⟨Rel_V h _ (by unfold vok; omega), Rel_V h _ (by unfold vok; omega), Rel_V h _ (by unfold vok; omega), Rel_V h _ (by unfold vok; omega), Rel_V h _ (by unfold vok; omega), Rel_V h _ (by unfold vok; omega), Rel_V h _ (by unfold vok; omega)⟩
theorem and255 (a : Int32) : 0 ≤ (a &&& jI 255).toInt ∧ (a &&& jI 255).toInt ≤ 255 := by
  have h1 : (a &&& jI 255).toBitVec = a.toBitVec &&& 255#32 := by rw [Int32.toBitVec_and]; rfl
  have h2 : (a.toBitVec &&& 255#32).toNat ≤ 255 := by rw [BitVec.toNat_and]; exact Nat.and_le_right
  have h3 : (a &&& jI 255).toInt = (a.toBitVec &&& 255#32).toInt := by rw [← h1]; rfl
  rw [h3, BitVec.toInt_eq_toNat_of_lt (by omega)]
  omega
/-- the byte of n behind k bits -/
def byt (n : Int32) (k : Int) : Int := ((n >>> (jI k &&& jI 31)) &&& jI 255).toInt
theorem byt_eq (n : Int32) (k : Int) : (n >>> (jI k &&& jI 31)) &&& jI 255 = jI (byt n k) := (jI_of _).symm
theorem byt_r (n : Int32) (k : Int) : 0 ≤ byt n k ∧ byt n k ≤ 255 := and255 _
def tk4 (f : Fn) (l : Int) (n : Int32) : Fn := u (u (u (u f l (byt n 24)) (l + 1) (byt n 16)) (l + 1 + 1) (byt n 8)) (l + 1 + 1 + 1) (byt n 0)
theorem tk4_ok {f g : Fn} {l : Int} (n : Int32) (h : ∀ i, 0 ≤ i → i < l → g i = f i ∧ 0 ≤ f i ∧ f i ≤ 255) : ∀ i, 0 ≤ i → i < l + 1 + 1 + 1 + 1 → tk4 g l n i = tk4 f l n i ∧ 0 ≤ tk4 f l n i ∧ tk4 f l n i ≤ 255 := by
  intro i h0 h1
  have r1 := byt_r n 24
  have r2 := byt_r n 16
  have r3 := byt_r n 8
  have r4 := byt_r n 0
  simp only [tk4, u]
  by_cases e1 : i = l + 1 + 1 + 1
  · rw [if_pos e1, if_pos e1]; omega
  · rw [if_neg e1, if_neg e1]
    by_cases e2 : i = l + 1 + 1
    · rw [if_pos e2, if_pos e2]; omega
    · rw [if_neg e2, if_neg e2]
      by_cases e3 : i = l + 1
      · rw [if_pos e3, if_pos e3]; omega
      · rw [if_neg e3, if_neg e3]
        by_cases e4 : i = l
        · rw [if_pos e4, if_pos e4]; omega
        · rw [if_neg e4, if_neg e4]
          exact h i h0 (by omega)
section
variable (x : m_X) (F G : Nat → Fn)
theorem C_take {n : Int32} (h0 : 0 ≤ F 128 2) (h1 : F 128 2 ≤ 296) : m_M x k_Reader_take [.ref 128, .int n] (mk F G) = some (none, mk (sA (sA F 135 (tk4 (F 135) (F 128 2) n)) 128 (u (F 128) 2 (F 128 2 + 1 + 1 + 1 + 1))) G) := by
  rw [E_Reader_take, isO_128, if_pos rfl]
  rw [E_Reader_take_3 x 1 (by omega)]
  simp (disch := omega) only [lit_0, lit_1, lit_2, lit_3, lit_4, lit_5, lit_6, lit_7, lit_8, lit_9, lit_10, lit_11, lit_12, lit_13, lit_14, lit_15, lit_16, lit_17, lit_18, lit_19, lit_20, lit_21, lit_22, lit_23, lit_24, lit_25, lit_26, lit_27, lit_28, lit_29, lit_30, lit_31, lit_32, lit_33, lit_34, lit_35, lit_36, lit_37, lit_38, lit_39, lit_40, lit_41, lit_42, lit_43, lit_44, lit_45, lit_46, lit_47, lit_48, lit_49, lit_50, lit_51, lit_52, lit_53, lit_54, lit_55, lit_56, lit_57, lit_58, lit_59, lit_60, lit_61, lit_62, lit_63, lit_64, lit_65, lit_67, lit_70, lit_71, lit_73, lit_75, lit_78, lit_84, lit_85, lit_86, lit_87, lit_89, lit_90, lit_91, lit_95, lit_96, lit_97, lit_98, lit_99, lit_100, lit_101, lit_102, lit_103, lit_104, lit_105, lit_107, lit_108, lit_109, lit_110, lit_111, lit_112, lit_114, lit_115, lit_116, lit_117, lit_119, lit_121, lit_122, lit_126, lit_127, lit_128, lit_130, lit_134, lit_137, lit_139, lit_140, lit_141, lit_145, lit_152, lit_159, lit_160, lit_168, lit_174, lit_180, lit_183, lit_192, lit_199, lit_236, lit_251, lit_255, lit_272, lit_284, lit_300, lit_330, lit_373, lit_753, lit_800, lit_896, lit_900, lit_1000, lit_1001, lit_1002, lit_1003, lit_1079, lit_1276, lit_1330, lit_1450, lit_3012, lit_3016, lit_3300, lit_8430, lit_9999, lit_10000, lit_11730, lit_30467, lit_65536, lit_99999, lit_100000, lit_1000000, lit_252645135, lit_858993459, lit_1000000000, lit_1431655765, jI_add, jI_sub, jI_mul, jI_neg, jI_lt, jI_le, jI_eq, isO_128, fR_128_0, fR_128_1, fI_128_2, pf_128_2, fI_128_3, pf_128_3, fI_128_4, pf_128_4, fI_128_5, pf_128_5, fI_128_6, pf_128_6, fI_128_7, pf_128_7, fI_128_8, pf_128_8, fI_128_9, pf_128_9, ia_135, is_135, b_I, b_L, b_V, b_R, b_N, b_N0, Option.bind_some, ↓reduceIte, bq0, bq1, bz0, bz1, ite_not, Classical.not_not, byt_eq, if_pos, if_neg, sA_eq, sA_ne, sA_sw, u_eq, u_u]
  rw [E_Reader_take_3 x 1 (by omega)]
  simp (disch := omega) only [lit_0, lit_1, lit_2, lit_3, lit_4, lit_5, lit_6, lit_7, lit_8, lit_9, lit_10, lit_11, lit_12, lit_13, lit_14, lit_15, lit_16, lit_17, lit_18, lit_19, lit_20, lit_21, lit_22, lit_23, lit_24, lit_25, lit_26, lit_27, lit_28, lit_29, lit_30, lit_31, lit_32, lit_33, lit_34, lit_35, lit_36, lit_37, lit_38, lit_39, lit_40, lit_41, lit_42, lit_43, lit_44, lit_45, lit_46, lit_47, lit_48, lit_49, lit_50, lit_51, lit_52, lit_53, lit_54, lit_55, lit_56, lit_57, lit_58, lit_59, lit_60, lit_61, lit_62, lit_63, lit_64, lit_65, lit_67, lit_70, lit_71, lit_73, lit_75, lit_78, lit_84, lit_85, lit_86, lit_87, lit_89, lit_90, lit_91, lit_95, lit_96, lit_97, lit_98, lit_99, lit_100, lit_101, lit_102, lit_103, lit_104, lit_105, lit_107, lit_108, lit_109, lit_110, lit_111, lit_112, lit_114, lit_115, lit_116, lit_117, lit_119, lit_121, lit_122, lit_126, lit_127, lit_128, lit_130, lit_134, lit_137, lit_139, lit_140, lit_141, lit_145, lit_152, lit_159, lit_160, lit_168, lit_174, lit_180, lit_183, lit_192, lit_199, lit_236, lit_251, lit_255, lit_272, lit_284, lit_300, lit_330, lit_373, lit_753, lit_800, lit_896, lit_900, lit_1000, lit_1001, lit_1002, lit_1003, lit_1079, lit_1276, lit_1330, lit_1450, lit_3012, lit_3016, lit_3300, lit_8430, lit_9999, lit_10000, lit_11730, lit_30467, lit_65536, lit_99999, lit_100000, lit_1000000, lit_252645135, lit_858993459, lit_1000000000, lit_1431655765, jI_add, jI_sub, jI_mul, jI_neg, jI_lt, jI_le, jI_eq, isO_128, fR_128_0, fR_128_1, fI_128_2, pf_128_2, fI_128_3, pf_128_3, fI_128_4, pf_128_4, fI_128_5, pf_128_5, fI_128_6, pf_128_6, fI_128_7, pf_128_7, fI_128_8, pf_128_8, fI_128_9, pf_128_9, ia_135, is_135, b_I, b_L, b_V, b_R, b_N, b_N0, Option.bind_some, ↓reduceIte, bq0, bq1, bz0, bz1, ite_not, Classical.not_not, byt_eq, if_pos, if_neg, sA_eq, sA_ne, sA_sw, sA_sA, u_eq, u_u, Int.reduceAdd, Int.reduceNeg]
  rw [E_Reader_take_3 x 1 (by omega)]
  simp (disch := omega) only [lit_0, lit_1, lit_2, lit_3, lit_4, lit_5, lit_6, lit_7, lit_8, lit_9, lit_10, lit_11, lit_12, lit_13, lit_14, lit_15, lit_16, lit_17, lit_18, lit_19, lit_20, lit_21, lit_22, lit_23, lit_24, lit_25, lit_26, lit_27, lit_28, lit_29, lit_30, lit_31, lit_32, lit_33, lit_34, lit_35, lit_36, lit_37, lit_38, lit_39, lit_40, lit_41, lit_42, lit_43, lit_44, lit_45, lit_46, lit_47, lit_48, lit_49, lit_50, lit_51, lit_52, lit_53, lit_54, lit_55, lit_56, lit_57, lit_58, lit_59, lit_60, lit_61, lit_62, lit_63, lit_64, lit_65, lit_67, lit_70, lit_71, lit_73, lit_75, lit_78, lit_84, lit_85, lit_86, lit_87, lit_89, lit_90, lit_91, lit_95, lit_96, lit_97, lit_98, lit_99, lit_100, lit_101, lit_102, lit_103, lit_104, lit_105, lit_107, lit_108, lit_109, lit_110, lit_111, lit_112, lit_114, lit_115, lit_116, lit_117, lit_119, lit_121, lit_122, lit_126, lit_127, lit_128, lit_130, lit_134, lit_137, lit_139, lit_140, lit_141, lit_145, lit_152, lit_159, lit_160, lit_168, lit_174, lit_180, lit_183, lit_192, lit_199, lit_236, lit_251, lit_255, lit_272, lit_284, lit_300, lit_330, lit_373, lit_753, lit_800, lit_896, lit_900, lit_1000, lit_1001, lit_1002, lit_1003, lit_1079, lit_1276, lit_1330, lit_1450, lit_3012, lit_3016, lit_3300, lit_8430, lit_9999, lit_10000, lit_11730, lit_30467, lit_65536, lit_99999, lit_100000, lit_1000000, lit_252645135, lit_858993459, lit_1000000000, lit_1431655765, jI_add, jI_sub, jI_mul, jI_neg, jI_lt, jI_le, jI_eq, isO_128, fR_128_0, fR_128_1, fI_128_2, pf_128_2, fI_128_3, pf_128_3, fI_128_4, pf_128_4, fI_128_5, pf_128_5, fI_128_6, pf_128_6, fI_128_7, pf_128_7, fI_128_8, pf_128_8, fI_128_9, pf_128_9, ia_135, is_135, b_I, b_L, b_V, b_R, b_N, b_N0, Option.bind_some, ↓reduceIte, bq0, bq1, bz0, bz1, ite_not, Classical.not_not, byt_eq, if_pos, if_neg, sA_eq, sA_ne, sA_sw, sA_sA, u_eq, u_u, Int.reduceAdd, Int.reduceNeg]
  rw [E_Reader_take_3 x 1 (by omega)]
  simp (disch := omega) only [lit_0, lit_1, lit_2, lit_3, lit_4, lit_5, lit_6, lit_7, lit_8, lit_9, lit_10, lit_11, lit_12, lit_13, lit_14, lit_15, lit_16, lit_17, lit_18, lit_19, lit_20, lit_21, lit_22, lit_23, lit_24, lit_25, lit_26, lit_27, lit_28, lit_29, lit_30, lit_31, lit_32, lit_33, lit_34, lit_35, lit_36, lit_37, lit_38, lit_39, lit_40, lit_41, lit_42, lit_43, lit_44, lit_45, lit_46, lit_47, lit_48, lit_49, lit_50, lit_51, lit_52, lit_53, lit_54, lit_55, lit_56, lit_57, lit_58, lit_59, lit_60, lit_61, lit_62, lit_63, lit_64, lit_65, lit_67, lit_70, lit_71, lit_73, lit_75, lit_78, lit_84, lit_85, lit_86, lit_87, lit_89, lit_90, lit_91, lit_95, lit_96, lit_97, lit_98, lit_99, lit_100, lit_101, lit_102, lit_103, lit_104, lit_105, lit_107, lit_108, lit_109, lit_110, lit_111, lit_112, lit_114, lit_115, lit_116, lit_117, lit_119, lit_121, lit_122, lit_126, lit_127, lit_128, lit_130, lit_134, lit_137, lit_139, lit_140, lit_141, lit_145, lit_152, lit_159, lit_160, lit_168, lit_174, lit_180, lit_183, lit_192, lit_199, lit_236, lit_251, lit_255, lit_272, lit_284, lit_300, lit_330, lit_373, lit_753, lit_800, lit_896, lit_900, lit_1000, lit_1001, lit_1002, lit_1003, lit_1079, lit_1276, lit_1330, lit_1450, lit_3012, lit_3016, lit_3300, lit_8430, lit_9999, lit_10000, lit_11730, lit_30467, lit_65536, lit_99999, lit_100000, lit_1000000, lit_252645135, lit_858993459, lit_1000000000, lit_1431655765, jI_add, jI_sub, jI_mul, jI_neg, jI_lt, jI_le, jI_eq, isO_128, fR_128_0, fR_128_1, fI_128_2, pf_128_2, fI_128_3, pf_128_3, fI_128_4, pf_128_4, fI_128_5, pf_128_5, fI_128_6, pf_128_6, fI_128_7, pf_128_7, fI_128_8, pf_128_8, fI_128_9, pf_128_9, ia_135, is_135, b_I, b_L, b_V, b_R, b_N, b_N0, Option.bind_some, ↓reduceIte, bq0, bq1, bz0, bz1, ite_not, Classical.not_not, byt_eq, if_pos, if_neg, sA_eq, sA_ne, sA_sw, sA_sA, u_eq, u_u, Int.reduceAdd, Int.reduceNeg]
  rw [E_Reader_take_3 x 1 (by omega)]
  simp (disch := omega) only [lit_0, lit_1, lit_2, lit_3, lit_4, lit_5, lit_6, lit_7, lit_8, lit_9, lit_10, lit_11, lit_12, lit_13, lit_14, lit_15, lit_16, lit_17, lit_18, lit_19, lit_20, lit_21, lit_22, lit_23, lit_24, lit_25, lit_26, lit_27, lit_28, lit_29, lit_30, lit_31, lit_32, lit_33, lit_34, lit_35, lit_36, lit_37, lit_38, lit_39, lit_40, lit_41, lit_42, lit_43, lit_44, lit_45, lit_46, lit_47, lit_48, lit_49, lit_50, lit_51, lit_52, lit_53, lit_54, lit_55, lit_56, lit_57, lit_58, lit_59, lit_60, lit_61, lit_62, lit_63, lit_64, lit_65, lit_67, lit_70, lit_71, lit_73, lit_75, lit_78, lit_84, lit_85, lit_86, lit_87, lit_89, lit_90, lit_91, lit_95, lit_96, lit_97, lit_98, lit_99, lit_100, lit_101, lit_102, lit_103, lit_104, lit_105, lit_107, lit_108, lit_109, lit_110, lit_111, lit_112, lit_114, lit_115, lit_116, lit_117, lit_119, lit_121, lit_122, lit_126, lit_127, lit_128, lit_130, lit_134, lit_137, lit_139, lit_140, lit_141, lit_145, lit_152, lit_159, lit_160, lit_168, lit_174, lit_180, lit_183, lit_192, lit_199, lit_236, lit_251, lit_255, lit_272, lit_284, lit_300, lit_330, lit_373, lit_753, lit_800, lit_896, lit_900, lit_1000, lit_1001, lit_1002, lit_1003, lit_1079, lit_1276, lit_1330, lit_1450, lit_3012, lit_3016, lit_3300, lit_8430, lit_9999, lit_10000, lit_11730, lit_30467, lit_65536, lit_99999, lit_100000, lit_1000000, lit_252645135, lit_858993459, lit_1000000000, lit_1431655765, jI_add, jI_sub, jI_mul, jI_neg, jI_lt, jI_le, jI_eq, if_pos, if_neg]
  rfl
theorem M_four {n : Int32} (h0 : 0 ≤ F 149 4) (h1 : F 149 4 ≤ 296) : m_M x k_M_four [.ref 149, .int n] (mk F G) = some (none, mk (sA (sA F 153 (tk4 (F 153) (F 149 4) n)) 149 (u (F 149) 4 (F 149 4 + 1 + 1 + 1 + 1))) G) := by
  rw [E_M_four, isO_149, if_pos rfl]
  rw [E_M_four_3 x 1 (by omega)]
  simp (disch := omega) only [lit_0, lit_1, lit_2, lit_3, lit_4, lit_5, lit_6, lit_7, lit_8, lit_9, lit_10, lit_11, lit_12, lit_13, lit_14, lit_15, lit_16, lit_17, lit_18, lit_19, lit_20, lit_21, lit_22, lit_23, lit_24, lit_25, lit_26, lit_27, lit_28, lit_29, lit_30, lit_31, lit_32, lit_33, lit_34, lit_35, lit_36, lit_37, lit_38, lit_39, lit_40, lit_41, lit_42, lit_43, lit_44, lit_45, lit_46, lit_47, lit_48, lit_49, lit_50, lit_51, lit_52, lit_53, lit_54, lit_55, lit_56, lit_57, lit_58, lit_59, lit_60, lit_61, lit_62, lit_63, lit_64, lit_65, lit_67, lit_70, lit_71, lit_73, lit_75, lit_78, lit_84, lit_85, lit_86, lit_87, lit_89, lit_90, lit_91, lit_95, lit_96, lit_97, lit_98, lit_99, lit_100, lit_101, lit_102, lit_103, lit_104, lit_105, lit_107, lit_108, lit_109, lit_110, lit_111, lit_112, lit_114, lit_115, lit_116, lit_117, lit_119, lit_121, lit_122, lit_126, lit_127, lit_128, lit_130, lit_134, lit_137, lit_139, lit_140, lit_141, lit_145, lit_152, lit_159, lit_160, lit_168, lit_174, lit_180, lit_183, lit_192, lit_199, lit_236, lit_251, lit_255, lit_272, lit_284, lit_300, lit_330, lit_373, lit_753, lit_800, lit_896, lit_900, lit_1000, lit_1001, lit_1002, lit_1003, lit_1079, lit_1276, lit_1330, lit_1450, lit_3012, lit_3016, lit_3300, lit_8430, lit_9999, lit_10000, lit_11730, lit_30467, lit_65536, lit_99999, lit_100000, lit_1000000, lit_252645135, lit_858993459, lit_1000000000, lit_1431655765, jI_add, jI_sub, jI_mul, jI_neg, jI_lt, jI_le, jI_eq, isO_149, fR_149_0, fR_149_1, fR_149_2, fR_149_3, fI_149_4, pf_149_4, fI_149_5, pf_149_5, fI_149_6, pf_149_6, fI_149_7, pf_149_7, fI_149_8, pf_149_8, fI_149_9, pf_149_9, fI_149_10, pf_149_10, fL_149_11, pf_149_11, fI_149_12, pf_149_12, fI_149_13, pf_149_13, fI_149_14, pf_149_14, fR_149_15, fI_149_16, pf_149_16, fI_149_17, pf_149_17, fI_149_18, pf_149_18, fI_149_19, pf_149_19, fR_149_20, fR_149_21, fR_149_22, fI_149_23, pf_149_23, fR_149_24, fR_149_25, fR_149_26, fR_149_27, fR_149_28, fR_149_29, fR_149_30, fL_149_31, pf_149_31, fL_149_32, pf_149_32, fR_149_33, fR_149_34, fR_149_35, ia_153, is_153, b_I, b_L, b_V, b_R, b_N, b_N0, Option.bind_some, ↓reduceIte, bq0, bq1, bz0, bz1, ite_not, Classical.not_not, byt_eq, if_pos, if_neg, sA_eq, sA_ne, sA_sw, u_eq, u_u]
  rw [E_M_four_3 x 1 (by omega)]
  simp (disch := omega) only [lit_0, lit_1, lit_2, lit_3, lit_4, lit_5, lit_6, lit_7, lit_8, lit_9, lit_10, lit_11, lit_12, lit_13, lit_14, lit_15, lit_16, lit_17, lit_18, lit_19, lit_20, lit_21, lit_22, lit_23, lit_24, lit_25, lit_26, lit_27, lit_28, lit_29, lit_30, lit_31, lit_32, lit_33, lit_34, lit_35, lit_36, lit_37, lit_38, lit_39, lit_40, lit_41, lit_42, lit_43, lit_44, lit_45, lit_46, lit_47, lit_48, lit_49, lit_50, lit_51, lit_52, lit_53, lit_54, lit_55, lit_56, lit_57, lit_58, lit_59, lit_60, lit_61, lit_62, lit_63, lit_64, lit_65, lit_67, lit_70, lit_71, lit_73, lit_75, lit_78, lit_84, lit_85, lit_86, lit_87, lit_89, lit_90, lit_91, lit_95, lit_96, lit_97, lit_98, lit_99, lit_100, lit_101, lit_102, lit_103, lit_104, lit_105, lit_107, lit_108, lit_109, lit_110, lit_111, lit_112, lit_114, lit_115, lit_116, lit_117, lit_119, lit_121, lit_122, lit_126, lit_127, lit_128, lit_130, lit_134, lit_137, lit_139, lit_140, lit_141, lit_145, lit_152, lit_159, lit_160, lit_168, lit_174, lit_180, lit_183, lit_192, lit_199, lit_236, lit_251, lit_255, lit_272, lit_284, lit_300, lit_330, lit_373, lit_753, lit_800, lit_896, lit_900, lit_1000, lit_1001, lit_1002, lit_1003, lit_1079, lit_1276, lit_1330, lit_1450, lit_3012, lit_3016, lit_3300, lit_8430, lit_9999, lit_10000, lit_11730, lit_30467, lit_65536, lit_99999, lit_100000, lit_1000000, lit_252645135, lit_858993459, lit_1000000000, lit_1431655765, jI_add, jI_sub, jI_mul, jI_neg, jI_lt, jI_le, jI_eq, isO_149, fR_149_0, fR_149_1, fR_149_2, fR_149_3, fI_149_4, pf_149_4, fI_149_5, pf_149_5, fI_149_6, pf_149_6, fI_149_7, pf_149_7, fI_149_8, pf_149_8, fI_149_9, pf_149_9, fI_149_10, pf_149_10, fL_149_11, pf_149_11, fI_149_12, pf_149_12, fI_149_13, pf_149_13, fI_149_14, pf_149_14, fR_149_15, fI_149_16, pf_149_16, fI_149_17, pf_149_17, fI_149_18, pf_149_18, fI_149_19, pf_149_19, fR_149_20, fR_149_21, fR_149_22, fI_149_23, pf_149_23, fR_149_24, fR_149_25, fR_149_26, fR_149_27, fR_149_28, fR_149_29, fR_149_30, fL_149_31, pf_149_31, fL_149_32, pf_149_32, fR_149_33, fR_149_34, fR_149_35, ia_153, is_153, b_I, b_L, b_V, b_R, b_N, b_N0, Option.bind_some, ↓reduceIte, bq0, bq1, bz0, bz1, ite_not, Classical.not_not, byt_eq, if_pos, if_neg, sA_eq, sA_ne, sA_sw, sA_sA, u_eq, u_u, Int.reduceAdd, Int.reduceNeg]
  rw [E_M_four_3 x 1 (by omega)]
  simp (disch := omega) only [lit_0, lit_1, lit_2, lit_3, lit_4, lit_5, lit_6, lit_7, lit_8, lit_9, lit_10, lit_11, lit_12, lit_13, lit_14, lit_15, lit_16, lit_17, lit_18, lit_19, lit_20, lit_21, lit_22, lit_23, lit_24, lit_25, lit_26, lit_27, lit_28, lit_29, lit_30, lit_31, lit_32, lit_33, lit_34, lit_35, lit_36, lit_37, lit_38, lit_39, lit_40, lit_41, lit_42, lit_43, lit_44, lit_45, lit_46, lit_47, lit_48, lit_49, lit_50, lit_51, lit_52, lit_53, lit_54, lit_55, lit_56, lit_57, lit_58, lit_59, lit_60, lit_61, lit_62, lit_63, lit_64, lit_65, lit_67, lit_70, lit_71, lit_73, lit_75, lit_78, lit_84, lit_85, lit_86, lit_87, lit_89, lit_90, lit_91, lit_95, lit_96, lit_97, lit_98, lit_99, lit_100, lit_101, lit_102, lit_103, lit_104, lit_105, lit_107, lit_108, lit_109, lit_110, lit_111, lit_112, lit_114, lit_115, lit_116, lit_117, lit_119, lit_121, lit_122, lit_126, lit_127, lit_128, lit_130, lit_134, lit_137, lit_139, lit_140, lit_141, lit_145, lit_152, lit_159, lit_160, lit_168, lit_174, lit_180, lit_183, lit_192, lit_199, lit_236, lit_251, lit_255, lit_272, lit_284, lit_300, lit_330, lit_373, lit_753, lit_800, lit_896, lit_900, lit_1000, lit_1001, lit_1002, lit_1003, lit_1079, lit_1276, lit_1330, lit_1450, lit_3012, lit_3016, lit_3300, lit_8430, lit_9999, lit_10000, lit_11730, lit_30467, lit_65536, lit_99999, lit_100000, lit_1000000, lit_252645135, lit_858993459, lit_1000000000, lit_1431655765, jI_add, jI_sub, jI_mul, jI_neg, jI_lt, jI_le, jI_eq, isO_149, fR_149_0, fR_149_1, fR_149_2, fR_149_3, fI_149_4, pf_149_4, fI_149_5, pf_149_5, fI_149_6, pf_149_6, fI_149_7, pf_149_7, fI_149_8, pf_149_8, fI_149_9, pf_149_9, fI_149_10, pf_149_10, fL_149_11, pf_149_11, fI_149_12, pf_149_12, fI_149_13, pf_149_13, fI_149_14, pf_149_14, fR_149_15, fI_149_16, pf_149_16, fI_149_17, pf_149_17, fI_149_18, pf_149_18, fI_149_19, pf_149_19, fR_149_20, fR_149_21, fR_149_22, fI_149_23, pf_149_23, fR_149_24, fR_149_25, fR_149_26, fR_149_27, fR_149_28, fR_149_29, fR_149_30, fL_149_31, pf_149_31, fL_149_32, pf_149_32, fR_149_33, fR_149_34, fR_149_35, ia_153, is_153, b_I, b_L, b_V, b_R, b_N, b_N0, Option.bind_some, ↓reduceIte, bq0, bq1, bz0, bz1, ite_not, Classical.not_not, byt_eq, if_pos, if_neg, sA_eq, sA_ne, sA_sw, sA_sA, u_eq, u_u, Int.reduceAdd, Int.reduceNeg]
  rw [E_M_four_3 x 1 (by omega)]
  simp (disch := omega) only [lit_0, lit_1, lit_2, lit_3, lit_4, lit_5, lit_6, lit_7, lit_8, lit_9, lit_10, lit_11, lit_12, lit_13, lit_14, lit_15, lit_16, lit_17, lit_18, lit_19, lit_20, lit_21, lit_22, lit_23, lit_24, lit_25, lit_26, lit_27, lit_28, lit_29, lit_30, lit_31, lit_32, lit_33, lit_34, lit_35, lit_36, lit_37, lit_38, lit_39, lit_40, lit_41, lit_42, lit_43, lit_44, lit_45, lit_46, lit_47, lit_48, lit_49, lit_50, lit_51, lit_52, lit_53, lit_54, lit_55, lit_56, lit_57, lit_58, lit_59, lit_60, lit_61, lit_62, lit_63, lit_64, lit_65, lit_67, lit_70, lit_71, lit_73, lit_75, lit_78, lit_84, lit_85, lit_86, lit_87, lit_89, lit_90, lit_91, lit_95, lit_96, lit_97, lit_98, lit_99, lit_100, lit_101, lit_102, lit_103, lit_104, lit_105, lit_107, lit_108, lit_109, lit_110, lit_111, lit_112, lit_114, lit_115, lit_116, lit_117, lit_119, lit_121, lit_122, lit_126, lit_127, lit_128, lit_130, lit_134, lit_137, lit_139, lit_140, lit_141, lit_145, lit_152, lit_159, lit_160, lit_168, lit_174, lit_180, lit_183, lit_192, lit_199, lit_236, lit_251, lit_255, lit_272, lit_284, lit_300, lit_330, lit_373, lit_753, lit_800, lit_896, lit_900, lit_1000, lit_1001, lit_1002, lit_1003, lit_1079, lit_1276, lit_1330, lit_1450, lit_3012, lit_3016, lit_3300, lit_8430, lit_9999, lit_10000, lit_11730, lit_30467, lit_65536, lit_99999, lit_100000, lit_1000000, lit_252645135, lit_858993459, lit_1000000000, lit_1431655765, jI_add, jI_sub, jI_mul, jI_neg, jI_lt, jI_le, jI_eq, isO_149, fR_149_0, fR_149_1, fR_149_2, fR_149_3, fI_149_4, pf_149_4, fI_149_5, pf_149_5, fI_149_6, pf_149_6, fI_149_7, pf_149_7, fI_149_8, pf_149_8, fI_149_9, pf_149_9, fI_149_10, pf_149_10, fL_149_11, pf_149_11, fI_149_12, pf_149_12, fI_149_13, pf_149_13, fI_149_14, pf_149_14, fR_149_15, fI_149_16, pf_149_16, fI_149_17, pf_149_17, fI_149_18, pf_149_18, fI_149_19, pf_149_19, fR_149_20, fR_149_21, fR_149_22, fI_149_23, pf_149_23, fR_149_24, fR_149_25, fR_149_26, fR_149_27, fR_149_28, fR_149_29, fR_149_30, fL_149_31, pf_149_31, fL_149_32, pf_149_32, fR_149_33, fR_149_34, fR_149_35, ia_153, is_153, b_I, b_L, b_V, b_R, b_N, b_N0, Option.bind_some, ↓reduceIte, bq0, bq1, bz0, bz1, ite_not, Classical.not_not, byt_eq, if_pos, if_neg, sA_eq, sA_ne, sA_sw, sA_sA, u_eq, u_u, Int.reduceAdd, Int.reduceNeg]
  rw [E_M_four_3 x 1 (by omega)]
  simp (disch := omega) only [lit_0, lit_1, lit_2, lit_3, lit_4, lit_5, lit_6, lit_7, lit_8, lit_9, lit_10, lit_11, lit_12, lit_13, lit_14, lit_15, lit_16, lit_17, lit_18, lit_19, lit_20, lit_21, lit_22, lit_23, lit_24, lit_25, lit_26, lit_27, lit_28, lit_29, lit_30, lit_31, lit_32, lit_33, lit_34, lit_35, lit_36, lit_37, lit_38, lit_39, lit_40, lit_41, lit_42, lit_43, lit_44, lit_45, lit_46, lit_47, lit_48, lit_49, lit_50, lit_51, lit_52, lit_53, lit_54, lit_55, lit_56, lit_57, lit_58, lit_59, lit_60, lit_61, lit_62, lit_63, lit_64, lit_65, lit_67, lit_70, lit_71, lit_73, lit_75, lit_78, lit_84, lit_85, lit_86, lit_87, lit_89, lit_90, lit_91, lit_95, lit_96, lit_97, lit_98, lit_99, lit_100, lit_101, lit_102, lit_103, lit_104, lit_105, lit_107, lit_108, lit_109, lit_110, lit_111, lit_112, lit_114, lit_115, lit_116, lit_117, lit_119, lit_121, lit_122, lit_126, lit_127, lit_128, lit_130, lit_134, lit_137, lit_139, lit_140, lit_141, lit_145, lit_152, lit_159, lit_160, lit_168, lit_174, lit_180, lit_183, lit_192, lit_199, lit_236, lit_251, lit_255, lit_272, lit_284, lit_300, lit_330, lit_373, lit_753, lit_800, lit_896, lit_900, lit_1000, lit_1001, lit_1002, lit_1003, lit_1079, lit_1276, lit_1330, lit_1450, lit_3012, lit_3016, lit_3300, lit_8430, lit_9999, lit_10000, lit_11730, lit_30467, lit_65536, lit_99999, lit_100000, lit_1000000, lit_252645135, lit_858993459, lit_1000000000, lit_1431655765, jI_add, jI_sub, jI_mul, jI_neg, jI_lt, jI_le, jI_eq, if_pos, if_neg]
  rfl
end
