-- undo, telling people, steps; bounds of a world after a deed
def hiB (k : Int) : Int := if k = 0 then 7 else if k < 8 then 9 else if k < 23 then 9999 else if k = 23 then 9 else if k = 24 then 30466 else if k = 25 then 12 else if k = 26 then 30 else if k < 51 then 6 else if k < 63 then 99 else if k < 75 then 2 else if k < 99 then 9 else if k < 111 then 3 else 9999999
theorem hB_h {k : Int} (h0 : 1 ≤ k) (h1 : k < 8) : hiB k = 9 := by
  unfold hiB
  rw [if_neg (by omega), if_pos (by omega)]
theorem hB_c {k : Int} (h0 : 8 ≤ k) (h1 : k < 23) : hiB k = 9999 := by
  unfold hiB
  rw [if_neg (by omega), if_neg (by omega), if_pos (by omega)]
theorem hB_f {k : Int} (h0 : 27 ≤ k) (h1 : k < 51) : hiB k = 6 := by
  unfold hiB
  rw [if_neg (by omega), if_neg (by omega), if_neg (by omega), if_neg (by omega), if_neg (by omega), if_neg (by omega), if_neg (by omega), if_pos (by omega)]
theorem hB_w {k : Int} (h0 : 51 ≤ k) (h1 : k < 63) : hiB k = 99 := by
  unfold hiB
  rw [if_neg (by omega), if_neg (by omega), if_neg (by omega), if_neg (by omega), if_neg (by omega), if_neg (by omega), if_neg (by omega), if_neg (by omega), if_pos (by omega)]
theorem hB_l {k : Int} (h0 : 63 ≤ k) (h1 : k < 75) : hiB k = 2 := by
  unfold hiB
  rw [if_neg (by omega), if_neg (by omega), if_neg (by omega), if_neg (by omega), if_neg (by omega), if_neg (by omega), if_neg (by omega), if_neg (by omega), if_neg (by omega), if_pos (by omega)]
theorem hB_m {k : Int} (h0 : 75 ≤ k) (h1 : k < 99) : hiB k = 9 := by
  unfold hiB
  rw [if_neg (by omega), if_neg (by omega), if_neg (by omega), if_neg (by omega), if_neg (by omega), if_neg (by omega), if_neg (by omega), if_neg (by omega), if_neg (by omega), if_neg (by omega), if_pos (by omega)]
theorem hB_o {k : Int} (h0 : 99 ≤ k) (h1 : k < 111) : hiB k = 3 := by
  unfold hiB
  rw [if_neg (by omega), if_neg (by omega), if_neg (by omega), if_neg (by omega), if_neg (by omega), if_neg (by omega), if_neg (by omega), if_neg (by omega), if_neg (by omega), if_neg (by omega), if_neg (by omega), if_pos (by omega)]
theorem hB_b {k : Int} (h0 : 111 ≤ k) (h1 : k < 141) : hiB k = 9999999 := by
  unfold hiB
  rw [if_neg (by omega), if_neg (by omega), if_neg (by omega), if_neg (by omega), if_neg (by omega), if_neg (by omega), if_neg (by omega), if_neg (by omega), if_neg (by omega), if_neg (by omega), if_neg (by omega), if_neg (by omega)]
theorem WI_hi {c : Fn} (hi : WI c) : ∀ k, 0 ≤ k → k < 141 → 0 ≤ c k ∧ c k ≤ hiB k := by
  have h1 := WI_c hi
  intro k h0 hk
  by_cases a0 : k = 0
  · subst a0; unfold hiB; simp only [↓reduceIte]; omega
  · by_cases a1 : k < 8
    · have h := WI_p hi (p := k - 1) (by omega) (by omega)
      have e : 1 + (k - 1) = k := by omega
      rw [e] at h
      unfold hiB; rw [if_neg (by omega), if_pos (by omega)]; omega
    · by_cases a2 : k < 15
      · have h := WI_p hi (p := k - 8) (by omega) (by omega)
        have e : 8 + (k - 8) = k := by omega
        rw [e] at h
        unfold hiB; rw [if_neg (by omega), if_neg (by omega), if_pos (by omega)]; omega
      · by_cases a3 : k < 22
        · have h := WI_p hi (p := k - 15) (by omega) (by omega)
          have e : 15 + (k - 15) = k := by omega
          rw [e] at h
          unfold hiB; rw [if_neg (by omega), if_neg (by omega), if_pos (by omega)]; omega
        · by_cases a4 : k < 27
          · have e : k = 22 ∨ k = 23 ∨ k = 24 ∨ k = 25 ∨ k = 26 := by omega
            rcases e with rfl | rfl | rfl | rfl | rfl <;> simp [hiB] <;> omega
          · by_cases a5 : k < 111
            · have h := WI_g hi (g := (k - 27) % 12) (by omega) (by omega)
              have e : k = 27 + (k - 27) % 12 ∨ k = 39 + (k - 27) % 12 ∨ k = 51 + (k - 27) % 12 ∨ k = 63 + (k - 27) % 12 ∨ k = 75 + (k - 27) % 12 ∨ k = 87 + (k - 27) % 12 ∨ k = 99 + (k - 27) % 12 := by omega
              rcases e with e | e | e | e | e | e | e <;> rw [← e] at h
              · rw [hB_f (by omega) (by omega)]; omega
              · rw [hB_f (by omega) (by omega)]; omega
              · rw [hB_w (by omega) (by omega)]; omega
              · rw [hB_l (by omega) (by omega)]; omega
              · rw [hB_m (by omega) (by omega)]; omega
              · rw [hB_m (by omega) (by omega)]; omega
              · rw [hB_o (by omega) (by omega)]; omega
            · have h := WI_b hi (i := k - 111) (by omega) (by omega)
              have e : 111 + (k - 111) = k := by omega
              rw [e] at h
              rw [hB_b (by omega) hk]; omega
theorem WI_mk {c : Fn} (h : ∀ k, 0 ≤ k → k < 141 → 0 ≤ c k ∧ c k ≤ hiB k) (hg : ∀ g, 0 ≤ g → g < c 25 → c (27 + g) < c 0 ∧ c (39 + g) < c 0 ∧ ¬ c (27 + g) = c (39 + g)) : WI c := by
  refine ⟨?_, ?_, ?_, hg, ?_⟩
  · have h0 := h 0 (by omega) (by omega)
    have h1 := h 22 (by omega) (by omega)
    have h2 := h 23 (by omega) (by omega)
    have h3 := h 24 (by omega) (by omega)
    have h4 := h 25 (by omega) (by omega)
    have h5 := h 26 (by omega) (by omega)
    simp [hiB] at h0 h1 h2 h3 h4 h5
    omega
  · intro p hp0 hp1
    have h1 := h (1 + p) (by omega) (by omega)
    have h2 := h (8 + p) (by omega) (by omega)
    have h3 := h (15 + p) (by omega) (by omega)
    have e1 : hiB (1 + p) = 9 := hB_h (by omega) (by omega)
    have e2 : hiB (8 + p) = 9999 := hB_c (by omega) (by omega)
    have e3 : hiB (15 + p) = 9999 := hB_c (by omega) (by omega)
    omega
  · intro g hg0 hg1
    have h1 := h (27 + g) (by omega) (by omega)
    have h2 := h (39 + g) (by omega) (by omega)
    have h3 := h (51 + g) (by omega) (by omega)
    have h4 := h (63 + g) (by omega) (by omega)
    have h5 := h (75 + g) (by omega) (by omega)
    have h6 := h (87 + g) (by omega) (by omega)
    have h7 := h (99 + g) (by omega) (by omega)
    have e1 : hiB (27 + g) = 6 := hB_f (by omega) (by omega)
    have e2 : hiB (39 + g) = 6 := hB_f (by omega) (by omega)
    have e3 : hiB (51 + g) = 99 := hB_w (by omega) (by omega)
    have e4 : hiB (63 + g) = 2 := hB_l (by omega) (by omega)
    have e5 : hiB (75 + g) = 9 := hB_m (by omega) (by omega)
    have e6 : hiB (87 + g) = 9 := hB_m (by omega) (by omega)
    have e7 : hiB (99 + g) = 3 := hB_o (by omega) (by omega)
    omega
  · intro i hi0 hi1
    have h1 := h (111 + i) (by omega) (by omega)
    have e1 : hiB (111 + i) = 9999999 := hB_b (by omega) (by omega)
    omega
theorem hi_u {c : Fn} {z v : Int} (h : ∀ k, 0 ≤ k → k < 141 → 0 ≤ c k ∧ c k ≤ hiB k) (h0 : 0 ≤ v) (h1 : v ≤ hiB z) : ∀ k, 0 ≤ k → k < 141 → 0 ≤ u c z v k ∧ u c z v k ≤ hiB k := by
  intro k hk0 hk1
  by_cases e : k = z
  · rw [e, u_eq]; exact ⟨h0, h1⟩
  · rw [u_ne _ _ e]; exact h k hk0 hk1
theorem WI_u {c : Fn} {z v : Int} (hi : WI c) (h0 : 0 ≤ v) (h1 : v ≤ hiB z) (hz : ¬ z = 0 ∧ ¬ z = 25 ∧ (z < 27 ∨ 51 ≤ z)) : WI (u c z v) := by
  have hc := WI_c hi
  refine WI_mk (hi_u (WI_hi hi) h0 h1) ?_
  intro g hg0 hg1
  rw [u_ne _ _ (by omega)] at hg1
  rw [u_ne _ _ (by omega), u_ne _ _ (by omega), u_ne _ _ (by omega)]
  exact WI_h hi hg0 hg1
theorem WI_held {c : Fn} {g p : Int} (hi : WI c) (hg0 : 0 ≤ g) (hg1 : g < 12) (h0 : 0 ≤ p) (h1 : p < c 0) (h2 : ¬ p = c (27 + g)) : WI (u c (39 + g) p) := by
  have hc := WI_c hi
  have e : hiB (39 + g) = 6 := hB_f (by omega) (by omega)
  refine WI_mk (hi_u (WI_hi hi) h0 (by omega)) ?_
  intro g' a b
  rw [u_ne _ _ (by omega)] at b
  rw [u_ne _ _ (by omega), u_ne (k := 0) _ _ (by omega)]
  have q := WI_h hi a b
  by_cases e2 : g' = g
  · rw [e2, u_eq]
    rw [e2] at q
    omega
  · rw [u_ne _ _ (by omega)]
    exact q
theorem WI_tell {c : Fn} {h k : Int} (hi : WI c) (h0 : c 0 < 7) (h1 : 1 ≤ h) (h2 : h ≤ 9) (h3 : 0 ≤ k) (h4 : k ≤ 9999) : WI (wTell c h k) := by
  have hc := WI_c hi
  unfold wTell
  have e1 : hiB (1 + c 0) = 9 := hB_h (by omega) (by omega)
  have e2 : hiB (8 + c 0) = 9999 := hB_c (by omega) (by omega)
  have e3 : hiB (15 + c 0) = 9999 := hB_c (by omega) (by omega)
  have e4 : hiB 0 = 7 := by simp [hiB]
  refine WI_mk (hi_u (hi_u (hi_u (hi_u (WI_hi hi) (by omega) (by omega)) (by omega) (by omega)) (by omega) (by omega)) (by omega) (by omega)) ?_
  intro g a b
  simp (disch := omega) only [u_ne] at b
  have q := WI_h hi a b
  simp (disch := omega) only [u_ne, u_eq]
  omega
theorem WI_strike {c : Fn} {a b k l m : Int} (hi : WI c) (hg : c 25 < 12) (hk : 1 ≤ k ∧ k ≤ 99) (hl : 0 ≤ l ∧ l ≤ 2) (hm : 0 ≤ m ∧ m ≤ 9) (ha : 0 ≤ a ∧ a < c 0) (hb : 0 ≤ b ∧ b < c 0) (hab : ¬ a = b) : WI (wStrike c a b k l m) := by
  have hc := WI_c hi
  have hp := WI_p hi ha.1 (by omega)
  unfold wStrike
  have e1 : hiB (27 + c 25) = 6 := hB_f (by omega) (by omega)
  have e2 : hiB (39 + c 25) = 6 := hB_f (by omega) (by omega)
  have e3 : hiB (51 + c 25) = 99 := hB_w (by omega) (by omega)
  have e4 : hiB (63 + c 25) = 2 := hB_l (by omega) (by omega)
  have e5 : hiB (75 + c 25) = 9 := hB_m (by omega) (by omega)
  have e6 : hiB (87 + c 25) = 9 := hB_m (by omega) (by omega)
  have e7 : hiB (99 + c 25) = 3 := hB_o (by omega) (by omega)
  have e8 : hiB 25 = 12 := by simp [hiB]
  refine WI_mk (hi_u (hi_u (hi_u (hi_u (hi_u (hi_u (hi_u (hi_u (WI_hi hi) (by omega) (by omega)) (by omega) (by omega)) (by omega) (by omega)) (by omega) (by omega)) (by omega) (by omega)) (by omega) (by omega)) (by omega) (by omega)) (by omega) (by omega)) ?_
  intro g h0 h1
  simp (disch := omega) only [u_eq] at h1
  by_cases e : g = c 25
  · subst e
    simp (disch := omega) only [u_ne, u_eq]
    omega
  · have q := WI_h hi h0 (by omega)
    simp (disch := omega) only [u_ne]
    exact q
theorem WI_labour {c : Fn} {g h : Int} (hi : WI c) (hg0 : 0 ≤ g) (hg1 : g < 12) (h0 : 0 ≤ h) : WI (wLabour c g h) := by
  have q := WI_g hi hg0 hg1
  have e3 : hiB (51 + g) = 99 := hB_w (by omega) (by omega)
  have e7 : hiB (99 + g) = 3 := hB_o (by omega) (by omega)
  unfold wLabour
  split
  · exact WI_u (WI_u hi (by omega) (by omega) (by omega)) (by omega) (by omega) (by omega)
  · exact WI_u hi (by omega) (by omega) (by omega)
/-- the relation after a deed that writes no fine -/
theorem RR_of {c a c' b : Fn} (h : RR c a) (hi : WI c') (hv : ∀ k, vok k → c' k = V b k) (hk : ∀ k, 0 ≤ k → (k < 8 ∨ k = 22 ∨ k = 26 ∨ (111 ≤ k ∧ k < 141)) → c' k = c k) (h12 : b 12 = a 12) (hr : ∀ k, 3300 ≤ k → b k = a k) : RR c' b := by
  have hc := WI_c h.1
  refine ⟨hi, ⟨fun k hk _ => hv k hk, ?_⟩, ?_⟩
  · intro k h0 h1 h2
    rw [hk 0 (by omega) (by omega)] at h2
    rw [hk k (by omega) (by omega)]
    exact h.2.1.2 k h0 h1 h2
  · obtain ⟨q1, q2, q3, q4⟩ := h.2.2
    unfold RB
    rw [h12, hk 22 (by omega) (by omega), hk 26 (by omega) (by omega)]
    refine ⟨q1, q2, q3, ?_⟩
    intro i hi0 hi1
    rw [hk (111 + i) (by omega) (by omega), hr _ (by omega)]
    exact q4 i hi0 hi1
theorem mKeep_hi {a : Fn} (h0 : 0 ≤ a 3) (h1 : a 3 ≤ 30) {k : Int} (h : 3300 ≤ k) : mKeep a k = a k := by
  have es := mShift_3 h1
  unfold mKeep mKeep1
  rw [u_ne _ _ (by omega)]
  unfold mKp
  rw [if_neg (by split at es <;> omega), if_neg (by split at es <;> omega), mShift_up a (by omega)]
theorem RS_step {F : Nat → Fn} {w s : Nat} {a b c' : Fn} (hs : ∀ i : Nat, i < 31 → ¬ s + 2 + i = w + 1) (hsw : ¬ s = w + 1) (h : RS F w s a) (hr : RR c' b) (h0 : c' 0 = F (w + 1) 0) (hf : ∀ k, (0 ≤ k ∧ k < 8) ∨ (111 ≤ k ∧ k < 3300) → b k = mKeep a k) (hz : ∀ z, 0 ≤ z → b 12 - 8430 ≤ z → z < a 12 → b (3300 + z % 8430) = a (3300 + z % 8430)) (hw : a 12 ≤ b 12 ∧ b 12 ≤ a 12 + 280) : RS (sA (kpd F w s) (w + 1) c') w s b := by
  have g1 := h.1
  have a0 : 0 ≤ a 3 := by omega
  have a1 : a 3 ≤ 30 := by omega
  have hk := RS_keep hs hsw h
  have e3 := mKeep_3 a1
  have e12 : mKeep a 12 = a 12 := mKeep_lo (by omega) (by omega) a0 a1
  have em : kpd F w s s 2 = mKeep a 3 := hk.1.2.2.2.2.symm
  have m1 : 1 ≤ mKeep a 3 := by
    rw [e3]
    split <;> omega
  have j0 : 0 ≤ mKeep a 3 - 1 := by omega
  have j1 : mKeep a 3 - 1 < mKeep a 3 := by omega
  have cl := rowC_keep (F := F) (w := w) (s := s) hs hsw (by omega) (by omega) (by omega) (by omega) j0 (by rw [← g1.2.2.2.2, ← e3]; exact j1)
  have ml := rowM_keep a0 a1 j0 j1
  have ej : (if a 3 = 30 then mKeep a 3 - 1 + 1 else mKeep a 3 - 1) = a 3 := by
    split at e3 <;> split <;> omega
  rw [← g1.2.2.2.2, ej, g1.2.2.2.2, rowC_top] at cl
  rw [ej, rowM_top] at ml
  refine RS_deed hs hsw hk (by omega) hr hf ?_ ?_
  · intro z z0 z1 z2
    rw [mKeep_hi a0 a1 (by omega)]
    rw [e12] at z2
    exact hz z z0 z1 z2
  · rw [em]
    refine ⟨?_, ?_, ?_⟩
    · rw [cl 0 (by omega) (by omega), h0]
      omega
    · intro p p0 p1 p2 p3
      rw [cl 0 (by omega) (by omega)] at p2
      rw [h0] at p3
      omega
    · rw [ml 12 (by unfold rlv; omega)]
      exact hw
theorem RS_step0 {F : Nat → Fn} {w s : Nat} {a b c' : Fn} (hs : ∀ i : Nat, i < 31 → ¬ s + 2 + i = w + 1) (hsw : ¬ s = w + 1) (h : RS F w s a) (hi : WI c') (hv : ∀ k, vok k → c' k = V b k) (hk : ∀ k, 0 ≤ k → (k < 8 ∨ k = 22 ∨ k = 26 ∨ (111 ≤ k ∧ k < 141)) → c' k = F (w + 1) k) (hf : Fr (mKeep a) b) : RS (sA (kpd F w s) (w + 1) c') w s b := by
  have g1 := h.1
  have a0 : 0 ≤ a 3 := by omega
  have a1 : a 3 ≤ 30 := by omega
  have hr : ∀ k, 3300 ≤ k → b k = a k := by
    intro k q
    rw [hf k (by omega), mKeep_hi a0 a1 q]
  have h12 : b 12 = a 12 := by rw [hf 12 (by omega), mKeep_lo (by omega) (by omega) a0 a1]
  refine RS_step hs hsw h (RR_of (RS_top h) hi hv hk h12 hr) (hk 0 (by omega) (by omega)) ?_ ?_ (by omega)
  · intro k q
    exact hf k (by omega)
  · intro z _ _ _
    exact hr _ (by omega)
theorem RS_one {F : Nat → Fn} {w s : Nat} {a : Fn} {h k : Int} (hs : ∀ i : Nat, i < 31 → ¬ s + 2 + i = w + 1) (hsw : ¬ s = w + 1) (hR : RS F w s a) (h0 : F (w + 1) 0 < 7) (h1 : 1 ≤ h) (h2 : h ≤ 9) (h3 : 0 ≤ k) (h4 : k ≤ 9999) : RS (sA F (w + 1) (wTell (F (w + 1)) h k)) w s (u (u (u (u (u a (112 + V a 0) h) (119 + V a 0) k) (13 + V a 0) k) (20 + V a 0) 0) 0 (V a 0 + 1)) := by
  have hv := RS_V hR
  have e0 : V a 0 = F (w + 1) 0 := (hv 0 (by unfold vok; omega)).symm
  have hwi := RS_WI hR
  have hc := WI_c hwi
  have hvv : V (u (u (u (u (u a (112 + V a 0) h) (119 + V a 0) k) (13 + V a 0) k) (20 + V a 0) 0) 0 (V a 0 + 1)) = wTell (V a) h k := by
    simp (disch := omega) only [Vu_0, Vu_d, Vu_c, V_sk, Vu_h]
    rfl
  generalize hb : u (u (u (u (u a (112 + V a 0) h) (119 + V a 0) k) (13 + V a 0) k) (20 + V a 0) 0) 0 (V a 0 + 1) = b at hvv
  have bn : ∀ j, ¬ j = 112 + V a 0 → ¬ j = 119 + V a 0 → ¬ j = 13 + V a 0 → ¬ j = 20 + V a 0 → ¬ j = 0 → b j = a j := by
    intro j j1 j2 j3 j4 j5
    rw [← hb, u_ne _ _ j5, u_ne _ _ j4, u_ne _ _ j3, u_ne _ _ j2, u_ne _ _ j1]
  have bt : b (119 + V a 0) = k := by
    rw [← hb, u_ne _ _ (by omega), u_ne _ _ (by omega), u_ne _ _ (by omega), u_eq]
  have b0 : b 0 = V a 0 + 1 := by rw [← hb, u_eq]
  have hi' := WI_tell hwi h0 h1 h2 h3 h4
  have hV' : ∀ j, vok j → wTell (F (w + 1)) h k j = V b j := by
    intro j hj
    rw [hvv]
    unfold wTell
    rw [e0]
    simp only [u]
    rw [hv j hj]
  have w0 : wTell (F (w + 1)) h k 0 = F (w + 1) 0 + 1 := by unfold wTell; rw [u_eq]
  have wn : ∀ j, ¬ j = 1 + F (w + 1) 0 → ¬ j = 8 + F (w + 1) 0 → ¬ j = 15 + F (w + 1) 0 → ¬ j = 0 → wTell (F (w + 1)) h k j = F (w + 1) j := by
    intro j j1 j2 j3 j4
    unfold wTell
    rw [u_ne _ _ j4, u_ne _ _ j3, u_ne _ _ j2, u_ne _ _ j1]
  have htop := RS_top hR
  have hrr : RR (wTell (F (w + 1)) h k) b := by
    refine ⟨hi', ⟨fun j hj _ => hV' j hj, ?_⟩, ?_⟩
    · intro j j0 j1 j2
      rw [w0] at j2
      rw [wn j (by omega) (by omega) (by omega) (by omega)]
      exact htop.2.1.2 j j0 j1 (by omega)
    · obtain ⟨q1, q2, q3, q4⟩ := htop.2.2
      unfold RB
      rw [bn 12 (by omega) (by omega) (by omega) (by omega) (by omega), wn 22 (by omega) (by omega) (by omega) (by omega), wn 26 (by omega) (by omega) (by omega) (by omega)]
      refine ⟨q1, q2, q3, ?_⟩
      intro i i0 i1
      rw [wn (111 + i) (by omega) (by omega) (by omega) (by omega), bn _ (by omega) (by omega) (by omega) (by omega) (by omega)]
      exact q4 i i0 i1
  obtain ⟨g1, g2, g3, g4⟩ := hR
  have es : sA F (w + 1) (wTell (F (w + 1)) h k) s = F s := sA_ne _ _ hsw
  have b3 : b 3 = a 3 := bn 3 (by omega) (by omega) (by omega) (by omega) (by omega)
  have hcl : ∀ i, 0 ≤ i → i < F s 2 → rowC (sA F (w + 1) (wTell (F (w + 1)) h k)) w s i = rowC F w s i := by
    intro i hi0 hi1
    rw [rowC_lo _ _ _ (by rw [es]; exact hi1), rowC_lo _ _ _ hi1, es, sA_ne _ _ (hs _ (by omega))]
  have hct : rowC (sA F (w + 1) (wTell (F (w + 1)) h k)) w s (F s 2) = wTell (F (w + 1)) h k := by
    have e := rowC_top (sA F (w + 1) (wTell (F (w + 1)) h k)) w s
    rw [es, sA_eq] at e
    exact e
  have hmt : rowM b (F s 2) = b := by rw [← g1.2.2.2.2, ← b3, rowM_top]
  have hml : ∀ i, 0 ≤ i → i < F s 2 → ∀ j, ¬ j = 112 + V a 0 → ¬ j = 119 + V a 0 → rowM b i j = rowM a i j := by
    intro i hi0 hi1 j j1 j2
    rw [rowM_lo b (by omega), rowM_lo a (by omega)]
    dsimp only
    by_cases q1 : j = 0
    · rw [if_pos q1, if_pos q1]
      exact bn _ (by omega) (by omega) (by omega) (by omega) (by omega)
    · rw [if_neg q1, if_neg q1]
      by_cases q2 : 8 ≤ j ∧ j ≤ 110
      · rw [if_pos q2, if_pos q2]
        exact bn _ (by omega) (by omega) (by omega) (by omega) (by omega)
      · rw [if_neg q2, if_neg q2]
        exact bn _ j1 j2 (by omega) (by omega) q1
  -- people of kept rows are no more than now
  have hpp : ∀ i, 0 ≤ i → i ≤ F s 2 → rowC F w s i 0 ≤ F (w + 1) 0 := by
    apply down
    · rw [rowC_top]
      omega
    · intro i hi0 hi1 ih
      have q := (g3 i hi0 hi1).1
      omega
  have hRRl : ∀ i, 0 ≤ i → i < F s 2 → RR (rowC F w s i) (rowM b i) := by
    intro i hi0 hi1
    have q := g2 i hi0 (by omega)
    have qc := WI_c q.1
    have qp := hpp i hi0 (by omega)
    refine ⟨q.1, ⟨?_, q.2.1.2⟩, ?_⟩
    · intro j hj hj2
      rw [q.2.1.1 j hj hj2]
      unfold V
      rw [if_pos hj, if_pos hj]
      have hj3 := hj
      unfold vok at hj3
      have r1 := io_r hj
      refine (hml i hi0 hi1 _ ?_ (by omega)).symm
      intro q5
      have q6 : io j = io (1 + V a 0) := by rw [q5, io_h (by omega) (by omega)]
      have q7 := io_inj hj (by unfold vok; omega) q6
      have q8 := hj2 (by omega) (by omega)
      omega
    · obtain ⟨q1, q2, q3, q4⟩ := q.2.2
      unfold RB
      rw [hml i hi0 hi1 12 (by omega) (by omega)]
      refine ⟨q1, q2, q3, ?_⟩
      intro j j0 j1
      rw [hml i hi0 hi1 _ (by omega) (by omega)]
      exact q4 j j0 j1
  refine ⟨?_, ?_, ?_, ?_⟩
  · rw [es, b3]
    exact g1
  · intro i hi0 hi1
    rw [es] at hi1
    by_cases e : i = F s 2
    · rw [e, hct, hmt]
      exact hrr
    · rw [hcl i hi0 (by omega)]
      exact hRRl i hi0 (by omega)
  · intro i hi0 hi1
    rw [es] at hi1
    have q := g3 i hi0 hi1
    obtain ⟨r1, r2, r3⟩ := q
    by_cases e : i + 1 = F s 2
    · rw [e, hct, hmt, hcl i hi0 hi1]
      rw [e, rowC_top] at r1 r2
      have em : rowM a (F s 2) = a := by rw [← g1.2.2.2.2, rowM_top]
      rw [e, em] at r3
      refine ⟨by omega, ?_, ?_⟩
      · intro p p0 p1 p2 p3
        rw [w0] at p3
        by_cases ep : p = F (w + 1) 0
        · have mt : rowM b i (119 + p) = k := by
            rw [rowM_lo b (by omega)]
            dsimp only
            rw [if_neg (by omega), if_neg (by omega), ep, ← e0, bt]
          rw [mt, ep]
          unfold wTell
          constructor
          · rw [u_ne _ _ (by omega), u_ne _ _ (by omega), u_eq]
          · rw [u_ne _ _ (by omega), u_eq]
        · have r4 := r2 p p0 p1 p2 (by omega)
          rw [wn _ (by omega) (by omega) (by omega) (by omega), wn _ (by omega) (by omega) (by omega) (by omega), hml i hi0 hi1 _ (by omega) (by omega)]
          exact r4
      · rw [hml i hi0 hi1 12 (by omega) (by omega), bn 12 (by omega) (by omega) (by omega) (by omega) (by omega)]
        exact r3
    · rw [hcl i hi0 hi1, hcl (i + 1) (by omega) (by omega)]
      refine ⟨r1, ?_, ?_⟩
      · intro p p0 p1 p2 p3
        have q9 := hpp (i + 1) (by omega) (by omega)
        rw [hml i hi0 hi1 _ (by omega) (by omega)]
        exact r2 p p0 p1 p2 p3
      · rw [hml i hi0 hi1 12 (by omega) (by omega), hml (i + 1) (by omega) (by omega) 12 (by omega) (by omega)]
        exact r3
  · intro p p0 p1 p2
    rw [b0] at p2
    rw [bn _ (by omega) (by omega) (by omega) (by omega) (by omega)]
    exact g4 p p0 p1 (by rw [← V_0 a]; omega)
