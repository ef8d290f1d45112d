-- class's world and steps against the model's row
def RB (c a : Fn) : Prop := 0 ≤ a 12 ∧ a 12 ≤ 7 * c 22 ∧ c 26 = min (a 12) 30 ∧ ∀ i, 0 ≤ i → i < c 26 → c (111 + i) / 100 % 10 < 7 ∧ a (3300 + (a 12 - c 26 + i) % 8430) = (c (111 + i) / 1000 * 8 + c (111 + i) / 100 % 10) * 100 + c (111 + i) % 100
def RW (c a : Fn) : Prop := (∀ k, vok k → (1 ≤ k → k < 8 → k ≤ c 0) → c k = V a k) ∧ (∀ k, 1 ≤ k → k < 8 → c 0 < k → c k = 0)
def RR (c a : Fn) : Prop := WI c ∧ RW c a ∧ RB c a
def RL (c d a b : Fn) : Prop := c 0 ≤ d 0 ∧ (∀ p, 0 ≤ p → p < 7 → c 0 ≤ p → p < d 0 → d (8 + p) = a (119 + p) ∧ d (15 + p) = 0) ∧ a 12 ≤ b 12 ∧ b 12 ≤ a 12 + 280
def rowC (F : Nat → Fn) (w s : Nat) (i : Int) : Fn := if i = F s 2 then F (w + 1) else F (s + 2 + ((F s 1 + i) % 31).toNat)
def rowM (a : Fn) (i : Int) : Fn := if i = a 3 then a else fun k => if k = 0 then a (180 + 104 * i) else if 8 ≤ k ∧ k ≤ 110 then a (180 + 104 * i + (k - 7)) else a k
def RS (F : Nat → Fn) (w s : Nat) (a : Fn) : Prop := (0 ≤ F s 1 ∧ F s 1 ≤ 30 ∧ 0 ≤ F s 2 ∧ F s 2 ≤ 30 ∧ a 3 = F s 2) ∧ (∀ i, 0 ≤ i → i ≤ F s 2 → RR (rowC F w s i) (rowM a i)) ∧ (∀ i, 0 ≤ i → i < F s 2 → RL (rowC F w s i) (rowC F w s (i + 1)) (rowM a i) (rowM a (i + 1))) ∧ (∀ p, 0 ≤ p → p < 7 → a 0 ≤ p → a (112 + p) = 0)
abbrev rlv (k : Int) : Prop := k = 0 ∨ (8 ≤ k ∧ k ≤ 125 ∧ ¬ k = 111) ∨ (3300 ≤ k ∧ k < 11730)
theorem rowC_top (F : Nat → Fn) (w s : Nat) : rowC F w s (F s 2) = F (w + 1) := by unfold rowC; rw [if_pos rfl]
theorem rowC_lo (F : Nat → Fn) (w s : Nat) {i : Int} (h : i < F s 2) : rowC F w s i = F (s + 2 + ((F s 1 + i) % 31).toNat) := by unfold rowC; rw [if_neg (by omega)]
theorem rowM_top (a : Fn) : rowM a (a 3) = a := by unfold rowM; rw [if_pos rfl]
theorem rowM_lo (a : Fn) {i : Int} (h : i < a 3) : rowM a i = fun k => if k = 0 then a (180 + 104 * i) else if 8 ≤ k ∧ k ≤ 110 then a (180 + 104 * i + (k - 7)) else a k := by unfold rowM; rw [if_neg (by omega)]
theorem WI_cg {c d : Fn} (h : ∀ k, 0 ≤ k → k < 141 → d k = c k) (hi : WI c) : WI d := by
  obtain ⟨h1, h2, h3, h4, h5⟩ := hi
  refine ⟨?_, ?_, ?_, ?_, ?_⟩
  · rw [h 0 (by omega) (by omega), h 22 (by omega) (by omega), h 23 (by omega) (by omega), h 24 (by omega) (by omega), h 25 (by omega) (by omega), h 26 (by omega) (by omega)]
    exact h1
  · intro p hp0 hp1
    rw [h (1 + p) (by omega) (by omega), h (8 + p) (by omega) (by omega), h (15 + p) (by omega) (by omega)]
    exact h2 p hp0 hp1
  · intro g hg0 hg1
    rw [h (27 + g) (by omega) (by omega), h (39 + g) (by omega) (by omega), h (51 + g) (by omega) (by omega), h (63 + g) (by omega) (by omega), h (75 + g) (by omega) (by omega), h (87 + g) (by omega) (by omega), h (99 + g) (by omega) (by omega)]
    exact h3 g hg0 hg1
  · intro g hg0 hg1
    rw [h 25 (by omega) (by omega)] at hg1
    rw [h (27 + g) (by omega) (by omega), h (39 + g) (by omega) (by omega), h 0 (by omega) (by omega)]
    exact h4 g hg0 hg1
  · intro i hi0 hi1
    rw [h (111 + i) (by omega) (by omega)]
    exact h5 i hi0 hi1
theorem WI_vok {c d : Fn} (h : ∀ k, vok k → d k = c k) (h26 : d 26 = 0) (hb : ∀ i, 0 ≤ i → i < 30 → d (111 + i) = 0) (hi : WI c) : WI d := by
  obtain ⟨h1, h2, h3, h4, h5⟩ := hi
  unfold vok at h
  refine ⟨?_, ?_, ?_, ?_, ?_⟩
  · rw [h 0 (by omega), h 22 (by omega), h 23 (by omega), h 24 (by omega), h 25 (by omega), h26]
    omega
  · intro p hp0 hp1
    rw [h (1 + p) (by omega), h (8 + p) (by omega), h (15 + p) (by omega)]
    exact h2 p hp0 hp1
  · intro g hg0 hg1
    rw [h (27 + g) (by omega), h (39 + g) (by omega), h (51 + g) (by omega), h (63 + g) (by omega), h (75 + g) (by omega), h (87 + g) (by omega), h (99 + g) (by omega)]
    exact h3 g hg0 hg1
  · intro g hg0 hg1
    rw [h 25 (by omega)] at hg1
    rw [h (27 + g) (by omega), h (39 + g) (by omega), h 0 (by omega)]
    exact h4 g hg0 hg1
  · intro i hi0 hi1
    rw [hb i hi0 hi1]
    omega
theorem V_out (a : Fn) {k : Int} (h : ¬ vok k) : V a k = 0 := by
  unfold V
  rw [if_neg h]
theorem V_rl {a b : Fn} (h : ∀ k, rlv k → b k = a k) : V b = V a := V_cg (fun j hj => h j (by unfold rlv; omega))
theorem RB_cg {c d a b : Fn} (hi : WI c) (hc : ∀ k, 0 ≤ k → k < 141 → d k = c k) (ha : ∀ k, rlv k → b k = a k) (h : RB c a) : RB d b := by
  have hw := WI_c hi
  obtain ⟨h1, h2, h3, h4⟩ := h
  unfold rlv at ha
  unfold RB
  rw [ha 12 (by omega), hc 22 (by omega) (by omega), hc 26 (by omega) (by omega)]
  refine ⟨h1, h2, h3, ?_⟩
  intro i hi0 hi1
  rw [hc (111 + i) (by omega) (by omega), ha (3300 + (a 12 - c 26 + i) % 8430) (by omega)]
  exact h4 i hi0 hi1
theorem RW_cg {c d a b : Fn} (hc : ∀ k, 0 ≤ k → k < 141 → d k = c k) (ha : V b = V a) (h : RW c a) : RW d b := by
  refine ⟨?_, ?_⟩
  · intro k hk hk2
    have hk3 := hk
    unfold vok at hk3
    rw [hc 0 (by omega) (by omega)] at hk2
    rw [hc k (by omega) (by omega), ha]
    exact h.1 k hk hk2
  · intro k h1 h2 h3
    rw [hc 0 (by omega) (by omega)] at h3
    rw [hc k (by omega) (by omega)]
    exact h.2 k h1 h2 h3
theorem RR_cg {c d a b : Fn} (hc : ∀ k, 0 ≤ k → k < 141 → d k = c k) (ha : ∀ k, rlv k → b k = a k) (h : RR c a) : RR d b :=
  ⟨WI_cg hc h.1, RW_cg hc (V_rl ha) h.2.1, RB_cg h.1 hc ha h.2.2⟩
theorem RL_cg {c d a b c' d' a' b' : Fn} (hc : ∀ k, 0 ≤ k → k < 141 → c' k = c k) (hd : ∀ k, 0 ≤ k → k < 141 → d' k = d k) (ha : ∀ k, rlv k → a' k = a k) (hb : ∀ k, rlv k → b' k = b k) (h : RL c d a b) : RL c' d' a' b' := by
  obtain ⟨h1, h2, h3⟩ := h
  unfold rlv at ha hb
  unfold RL
  rw [hc 0 (by omega) (by omega), hd 0 (by omega) (by omega), ha 12 (by omega), hb 12 (by omega)]
  refine ⟨h1, ?_, h3⟩
  intro p hp0 hp1 hp2 hp3
  rw [hd (8 + p) (by omega) (by omega), hd (15 + p) (by omega) (by omega), ha (119 + p) (by omega)]
  exact h2 p hp0 hp1 hp2 hp3
theorem RS_cg {F F' : Nat → Fn} {w s w' s' : Nat} {a a' : Fn} (h1 : F' s' 1 = F s 1) (h2 : F' s' 2 = F s 2) (h3 : a' 3 = a 3) (hc : ∀ i, 0 ≤ i → i ≤ F s 2 → ∀ k, 0 ≤ k → k < 141 → rowC F' w' s' i k = rowC F w s i k) (ha : ∀ k, (rlv k ∨ (180 ≤ k ∧ k < 3300)) → a' k = a k) (h : RS F w s a) : RS F' w' s' a' := by
  obtain ⟨g1, g2, g3, g4⟩ := h
  have hm : ∀ i, 0 ≤ i → i ≤ F s 2 → ∀ k, rlv k → rowM a' i k = rowM a i k := by
    intro i hi0 hi1 k hk
    unfold rowM
    rw [h3]
    by_cases e : i = a 3
    · rw [if_pos e, if_pos e]
      exact ha k (Or.inl hk)
    · rw [if_neg e, if_neg e]
      unfold rlv at hk ha
      by_cases e1 : k = 0
      · rw [if_pos e1, if_pos e1]
        exact ha _ (by omega)
      · rw [if_neg e1, if_neg e1]
        by_cases e2 : 8 ≤ k ∧ k ≤ 110
        · rw [if_pos e2, if_pos e2]
          exact ha _ (by omega)
        · rw [if_neg e2, if_neg e2]
          exact ha k (by omega)
  refine ⟨?_, ?_, ?_, ?_⟩
  · rw [h1, h2, h3]
    exact g1
  · intro i hi0 hi1
    rw [h2] at hi1
    exact RR_cg (hc i hi0 hi1) (hm i hi0 hi1) (g2 i hi0 hi1)
  · intro i hi0 hi1
    rw [h2] at hi1
    exact RL_cg (hc i hi0 (by omega)) (hc (i + 1) (by omega) (by omega)) (hm i hi0 (by omega)) (hm (i + 1) (by omega) (by omega)) (g3 i hi0 hi1)
  · intro p hp0 hp1 hp2
    unfold rlv at ha
    rw [ha 0 (by omega)] at hp2
    rw [ha (112 + p) (by omega)]
    exact g4 p hp0 hp1 hp2
theorem RS_top {F : Nat → Fn} {w s : Nat} {a : Fn} (h : RS F w s a) : RR (F (w + 1)) a := by
  have h1 := h.2.1 (F s 2) h.1.2.2.1 (Int.le_refl _)
  rw [rowC_top] at h1
  have e : rowM a (F s 2) = a := by rw [← h.1.2.2.2.2, rowM_top]
  rw [e] at h1
  exact h1
theorem RS_WI {F : Nat → Fn} {w s : Nat} {a : Fn} (h : RS F w s a) : WI (F (w + 1)) := (RS_top h).1
/-- the world and the model's row, cell by cell -/
theorem RS_V {F : Nat → Fn} {w s : Nat} {a : Fn} (h : RS F w s a) : ∀ k, vok k → F (w + 1) k = V a k := by
  have h1 := RS_top h
  have hw := WI_c h1.1
  have e0 : F (w + 1) 0 = V a 0 := h1.2.1.1 0 (by unfold vok; omega) (by omega)
  intro k hk
  by_cases e : 1 ≤ k ∧ k < 8 ∧ F (w + 1) 0 < k
  · rw [h1.2.1.2 k e.1 e.2.1 e.2.2]
    have e2 : k = 1 + (k - 1) := by omega
    rw [V_0] at e0
    rw [e2, V_h a (by omega) (by omega)]
    exact (h.2.2.2 (k - 1) (by omega) (by omega) (by omega)).symm
  · exact h1.2.1.1 k hk (by omega)
theorem RS_WV {F : Nat → Fn} {w s : Nat} {a : Fn} (h : RS F w s a) : WI (V a) :=
  WI_vok (fun k hk => (RS_V h k hk).symm) (V_out a (by unfold vok; omega)) (fun i h0 h1 => V_out a (by unfold vok; omega)) (RS_WI h)
theorem RS_ch {F : Nat → Fn} {w s : Nat} {a : Fn} (h : RS F w s a) : ∀ i, 0 ≤ i → i ≤ F s 2 → rowM a i 12 ≤ a 12 ∧ a 12 ≤ rowM a i 12 + 280 * (F s 2 - i) := by
  apply down
  · rw [← h.1.2.2.2.2, rowM_top]
    omega
  · intro i h0 h1 ih
    have h2 := (h.2.2.1 i h0 h1).2.2
    omega
theorem RS_deed {F : Nat → Fn} {w s : Nat} {a b c' : Fn} (hs : ∀ i : Nat, i < 31 → ¬ s + 2 + i = w + 1) (hs2 : ¬ s = w + 1) (h : RS F w s a) (hm : 1 ≤ F s 2) (hr : RR c' b) (hf : ∀ k, (0 ≤ k ∧ k < 8) ∨ (111 ≤ k ∧ k < 3300) → b k = a k) (hz : ∀ z, 0 ≤ z → b 12 - 8430 ≤ z → z < a 12 → b (3300 + z % 8430) = a (3300 + z % 8430)) (hl : RL (rowC F w s (F s 2 - 1)) c' (rowM a (F s 2 - 1)) b) : RS (sA F (w + 1) c') w s b := by
  have hch := RS_ch h
  obtain ⟨g1, g2, g3, g4⟩ := h
  have es : sA F (w + 1) c' s = F s := sA_ne _ _ hs2
  have hc : ∀ i, 0 ≤ i → i < F s 2 → rowC (sA F (w + 1) c') w s i = rowC F w s i := by
    intro i hi0 hi1
    rw [rowC_lo _ _ _ (by rw [es]; exact hi1), rowC_lo _ _ _ hi1, es, sA_ne _ _ (hs _ (by omega))]
  have hct : rowC (sA F (w + 1) c') w s (F s 2) = c' := by
    have e := rowC_top (sA F (w + 1) c') w s
    rw [es, sA_eq] at e
    exact e
  have b3 : b 3 = F s 2 := by rw [hf 3 (by omega)]; exact g1.2.2.2.2
  have hmt : rowM b (F s 2) = b := by rw [← b3, rowM_top]
  have hlo : ∀ i, 0 ≤ i → i < F s 2 → ∀ k, k < 3300 → rlv k → rowM b i k = rowM a i k := by
    intro i hi0 hi1 k hk hk2
    rw [rowM_lo b (by omega), rowM_lo a (by omega)]
    unfold rlv at hk2
    dsimp only
    by_cases e1 : k = 0
    · rw [if_pos e1, if_pos e1]
      exact hf _ (by omega)
    · rw [if_neg e1, if_neg e1]
      by_cases e2 : 8 ≤ k ∧ k ≤ 110
      · rw [if_pos e2, if_pos e2]
        exact hf _ (by omega)
      · rw [if_neg e2, if_neg e2]
        exact hf k (by omega)
  have hhi : ∀ i, 0 ≤ i → i < F s 2 → ∀ k, 3300 ≤ k → rowM b i k = b k ∧ rowM a i k = a k := by
    intro i hi0 hi1 k hk
    rw [rowM_lo b (by omega), rowM_lo a (by omega)]
    dsimp only
    rw [if_neg (by omega), if_neg (by omega), if_neg (by omega), if_neg (by omega)]
    exact ⟨rfl, rfl⟩
  have hV : ∀ i, 0 ≤ i → i < F s 2 → V (rowM b i) = V (rowM a i) := by
    intro i hi0 hi1
    apply V_cg
    intro j hj
    exact hlo i hi0 hi1 j (by omega) (by unfold rlv; omega)
  have h12 : ∀ i, 0 ≤ i → i < F s 2 → rowM b i 12 = rowM a i 12 := by
    intro i hi0 hi1
    exact hlo i hi0 hi1 12 (by omega) (by unfold rlv; omega)
  refine ⟨?_, ?_, ?_, ?_⟩
  · rw [es, hf 3 (by omega)]
    exact g1
  · intro i hi0 hi1
    rw [es] at hi1
    by_cases e : i = F s 2
    · rw [e, hct, hmt]
      exact hr
    · have q := g2 i hi0 hi1
      rw [hc i hi0 (by omega)]
      refine ⟨q.1, ?_, ?_⟩
      · exact RW_cg (fun _ _ _ => rfl) (hV i hi0 (by omega)) q.2.1
      · obtain ⟨q1, q2, q3, q4⟩ := q.2.2
        have qw := WI_c q.1
        unfold RB
        rw [h12 i hi0 (by omega)]
        refine ⟨q1, q2, q3, ?_⟩
        intro j hj0 hj1
        have q5 := q4 j hj0 hj1
        refine ⟨q5.1, ?_⟩
        rw [← q5.2]
        generalize hZ : rowM a i 12 - rowC F w s i 26 + j = z
        rw [(hhi i hi0 (by omega) (3300 + z % 8430) (by omega)).1, (hhi i hi0 (by omega) (3300 + z % 8430) (by omega)).2]
        have w1 := hch i hi0 (by omega)
        have w2 := hch (F s 2 - 1) (by omega) (by omega)
        have w3 := hl.2.2
        have w4 : rowM a (F s 2 - 1) 12 ≤ rowM a i 12 + 280 * (F s 2 - 1 - i) := by
          have : ∀ t, i ≤ t → t ≤ F s 2 - 1 → rowM a t 12 ≤ rowM a i 12 + 280 * (t - i) := by
            intro t ht0 ht1
            have : ∀ d : Nat, i + d ≤ F s 2 - 1 → rowM a (i + d) 12 ≤ rowM a i 12 + 280 * d := by
              intro d
              induction d with
              | zero => intro _; simp
              | succ d ih =>
                intro hd
                have k1 := ih (by omega)
                have k2 := (g3 (i + d) (by omega) (by omega)).2.2
                have e : i + ((d + 1 : Nat) : Int) = i + d + 1 := by omega
                rw [e]
                omega
            have k := this (t - i).toNat (by omega)
            have e : i + ((t - i).toNat : Int) = t := by omega
            rw [e] at k
            omega
          exact this _ (by omega) (Int.le_refl _)
        apply hz
        · omega
        · omega
        · omega
  · intro i hi0 hi1
    rw [es] at hi1
    have q := g3 i hi0 hi1
    by_cases e : i = F s 2 - 1
    · have e2 : i + 1 = F s 2 := by omega
      rw [e2, hct, hmt, hc i hi0 hi1, e]
      obtain ⟨r1, r2, r3⟩ := hl
      refine ⟨r1, ?_, ?_⟩
      · intro p hp0 hp1 hp2 hp3
        rw [hlo _ (by omega) (by omega) _ (by omega) (by unfold rlv; omega)]
        exact r2 p hp0 hp1 hp2 hp3
      · rw [h12 _ (by omega) (by omega)]
        exact r3
    · rw [hc i hi0 hi1, hc (i + 1) (by omega) (by omega)]
      obtain ⟨r1, r2, r3⟩ := q
      refine ⟨r1, ?_, ?_⟩
      · intro p hp0 hp1 hp2 hp3
        rw [hlo _ (by omega) (by omega) _ (by omega) (by unfold rlv; omega)]
        exact r2 p hp0 hp1 hp2 hp3
      · rw [h12 _ (by omega) (by omega), h12 _ (by omega) (by omega)]
        exact r3
  · intro p hp0 hp1 hp2
    rw [hf 0 (by omega)] at hp2
    rw [hf (112 + p) (by omega)]
    exact g4 p hp0 hp1 hp2
/-- the row that is to spare -/
def spr (F : Nat → Fn) (s : Nat) : Nat := s + 2 + ((F s 1 + F s 2) % 31).toNat
def mkd (F : Nat → Fn) (w s : Nat) : Nat → Fn := sA F (spr F s) (cp (F (w + 1)) (F (spr F s)) 0 0 141)
def kpd (F : Nat → Fn) (w s : Nat) : Nat → Fn := sA (mkd F w s) s (if F s 2 < 30 then u (F s) 2 (F s 2 + 1) else u (F s) 1 ((F s 1 + 1) % 31))
theorem cp_in (f g : Fn) {k n : Int} (h0 : 0 ≤ k) (h1 : k < n) : cp f g 0 0 n k = f k := by
  unfold cp
  rw [if_pos (by omega)]
  congr 1
  omega
theorem RS_mark {F : Nat → Fn} {w s : Nat} {a : Fn} (hs : ∀ i : Nat, i < 31 → ¬ s + 2 + i = w + 1) (h : RS F w s a) : RS (mkd F w s) w s a := by
  have g1 := h.1
  have e : mkd F w s s = F s := by
    unfold mkd spr
    rw [sA_ne _ _ (by omega)]
  have e1 : mkd F w s (w + 1) = F (w + 1) := by
    unfold mkd spr
    rw [sA_ne _ _ (fun q => hs _ (by omega) q.symm)]
  refine RS_cg (F := F) (w := w) (s := s) (by rw [e]) (by rw [e]) rfl ?_ (fun _ _ => rfl) h
  intro i hi0 hi1 k hk0 hk1
  unfold rowC
  rw [e, e1]
  by_cases q : i = F s 2
  · rw [if_pos q, if_pos q]
  · rw [if_neg q, if_neg q]
    unfold mkd spr
    rw [sA_ne _ _ (by omega)]
theorem mKeep_3 {a : Fn} (h1 : a 3 ≤ 30) : mKeep a 3 = if a 3 = 30 then 30 else a 3 + 1 := by
  unfold mKeep mKeep1
  rw [u_eq, mShift_3 h1]
  split <;> omega
theorem mShift_hi (a : Fn) {k : Int} (h : 180 ≤ k) (h3 : k < 3196) : mShift a k = if a 3 = 30 then a (k + 104) else a k := by
  unfold mShift
  split
  · rw [u_ne _ _ (by omega)]
    unfold mSh
    rw [if_pos (by omega)]
  · rfl
theorem mShift_up (a : Fn) {k : Int} (h : 3196 ≤ k) : mShift a k = a k := by
  unfold mShift
  split
  · rw [u_ne _ _ (by omega)]
    unfold mSh
    rw [if_neg (by omega)]
  · rfl
/-- the model's kept steps after one more -/
theorem rowM_keep {a : Fn} (h0 : 0 ≤ a 3) (h1 : a 3 ≤ 30) {i : Int} (hi0 : 0 ≤ i) (hi1 : i < mKeep a 3) : ∀ k, rlv k → rowM (mKeep a) i k = rowM a (if a 3 = 30 then i + 1 else i) k := by
  have e3 := mKeep_3 h1
  have es := mShift_3 h1
  have ehi : ∀ k, 3300 ≤ k → mKeep a k = a k := by
    intro k hk
    unfold mKeep mKeep1
    rw [u_ne _ _ (by omega)]
    unfold mKp
    rw [if_neg (by split at es <;> omega), if_neg (by split at es <;> omega), mShift_up a (by omega)]
  intro k hk
  unfold rlv at hk
  rw [rowM_lo _ hi1]
  dsimp only
  have ek : ∀ y, 180 ≤ y → ¬ y = 3 → mKeep a y = mKp (mShift a) (180 + 104 * mShift a 3) 104 y := by
    intro y hy0 hy1
    unfold mKeep mKeep1
    rw [u_ne _ _ hy1]
  by_cases h30 : a 3 = 30
  · rw [if_pos h30] at e3 es ⊢
    by_cases q : i = 29
    · have q2 : i + 1 = a 3 := by omega
      rw [q2, rowM_top]
      by_cases e1 : k = 0
      · rw [if_pos e1, ek _ (by omega) (by omega)]
        unfold mKp
        rw [if_pos (by omega), mShift_lo a (by omega) (by omega), e1]
      · rw [if_neg e1]
        by_cases e2 : 8 ≤ k ∧ k ≤ 110
        · rw [if_pos e2, ek _ (by omega) (by omega)]
          unfold mKp
          rw [if_neg (by omega), if_pos (by omega), mShift_lo a (by omega) (by omega)]
          congr 1
          omega
        · rw [if_neg e2]
          by_cases e4 : k < 180
          · rw [mKeep_lo e4 (by omega) h0 h1]
          · exact ehi k (by omega)
    · rw [rowM_lo a (by omega)]
      dsimp only
      by_cases e1 : k = 0
      · rw [if_pos e1, if_pos e1, ek _ (by omega) (by omega)]
        unfold mKp
        rw [if_neg (by omega), if_neg (by omega), mShift_hi a (by omega) (by omega), if_pos h30]
        congr 1
        omega
      · rw [if_neg e1, if_neg e1]
        by_cases e2 : 8 ≤ k ∧ k ≤ 110
        · rw [if_pos e2, if_pos e2, ek _ (by omega) (by omega)]
          unfold mKp
          rw [if_neg (by omega), if_neg (by omega), mShift_hi a (by omega) (by omega), if_pos h30]
          congr 1
          omega
        · rw [if_neg e2, if_neg e2]
          by_cases e4 : k < 180
          · rw [mKeep_lo e4 (by omega) h0 h1]
          · exact ehi k (by omega)
  · rw [if_neg h30] at e3 es ⊢
    by_cases q : i = a 3
    · rw [q, rowM_top]
      by_cases e1 : k = 0
      · rw [if_pos e1, ek _ (by omega) (by omega)]
        unfold mKp
        rw [if_pos (by omega), mShift_lo a (by omega) (by omega), e1]
      · rw [if_neg e1]
        by_cases e2 : 8 ≤ k ∧ k ≤ 110
        · rw [if_pos e2, ek _ (by omega) (by omega)]
          unfold mKp
          rw [if_neg (by omega), if_pos (by omega), mShift_lo a (by omega) (by omega)]
          congr 1
          omega
        · rw [if_neg e2]
          by_cases e4 : k < 180
          · rw [mKeep_lo e4 (by omega) h0 h1]
          · exact ehi k (by omega)
    · rw [rowM_lo a (by omega)]
      dsimp only
      by_cases e1 : k = 0
      · rw [if_pos e1, if_pos e1, ek _ (by omega) (by omega)]
        unfold mKp
        rw [if_neg (by omega), if_neg (by omega), mShift_hi a (by omega) (by omega), if_neg h30]
      · rw [if_neg e1, if_neg e1]
        by_cases e2 : 8 ≤ k ∧ k ≤ 110
        · rw [if_pos e2, if_pos e2, ek _ (by omega) (by omega)]
          unfold mKp
          rw [if_neg (by omega), if_neg (by omega), mShift_hi a (by omega) (by omega), if_neg h30]
        · rw [if_neg e2, if_neg e2]
          by_cases e4 : k < 180
          · rw [mKeep_lo e4 (by omega) h0 h1]
          · exact ehi k (by omega)
theorem rowC_keep {F : Nat → Fn} {w s : Nat} (hs : ∀ i : Nat, i < 31 → ¬ s + 2 + i = w + 1) (hsw : ¬ s = w + 1) (h1 : 0 ≤ F s 1) (h2 : F s 1 ≤ 30) (h3 : 0 ≤ F s 2) (h4 : F s 2 ≤ 30) {i : Int} (hi0 : 0 ≤ i) (hi1 : i < if F s 2 = 30 then 30 else F s 2 + 1) : ∀ k, 0 ≤ k → k < 141 → rowC (kpd F w s) w s i k = rowC F w s (if F s 2 = 30 then i + 1 else i) k := by
  have es : kpd F w s s = (if F s 2 < 30 then u (F s) 2 (F s 2 + 1) else u (F s) 1 ((F s 1 + 1) % 31)) := by
    unfold kpd
    rw [sA_eq]
  intro k hk0 hk1
  by_cases h30 : F s 2 = 30
  · rw [if_pos h30] at hi1 ⊢
    rw [if_neg (by omega)] at es
    have e2 : kpd F w s s 2 = 30 := by rw [es, u_ne _ _ (by omega), h30]
    have e1 : kpd F w s s 1 = (F s 1 + 1) % 31 := by rw [es, u_eq]
    rw [rowC_lo _ _ _ (by rw [e2]; exact hi1), e1]
    unfold kpd
    rw [sA_ne _ _ (by omega)]
    unfold mkd spr
    by_cases q : i = 29
    · have q2 : i + 1 = F s 2 := by omega
      rw [q2, rowC_top]
      have q3 : ((F s 1 + 1) % 31 + i) % 31 = (F s 1 + F s 2) % 31 := by omega
      rw [q3, sA_eq, cp_in _ _ hk0 hk1]
    · rw [rowC_lo _ _ _ (by omega), sA_ne _ _ (by omega)]
      have q3 : ((F s 1 + 1) % 31 + i) % 31 = (F s 1 + (i + 1)) % 31 := by omega
      rw [q3]
  · rw [if_neg h30] at hi1 ⊢
    rw [if_pos (by omega)] at es
    have e2 : kpd F w s s 2 = F s 2 + 1 := by rw [es, u_eq]
    have e1 : kpd F w s s 1 = F s 1 := by rw [es, u_ne _ _ (by omega)]
    rw [rowC_lo _ _ _ (by rw [e2]; exact hi1), e1]
    unfold kpd
    rw [sA_ne _ _ (by omega)]
    unfold mkd spr
    by_cases q : i = F s 2
    · rw [q, rowC_top, sA_eq, cp_in _ _ hk0 hk1]
    · rw [rowC_lo _ _ _ (by omega), sA_ne _ _ (by omega)]
theorem RL_same (c a : Fn) : RL c c a a := ⟨Int.le_refl _, fun p _ _ h1 h2 => by omega, Int.le_refl _, by omega⟩
theorem RS_keep {F : Nat → Fn} {w s : Nat} {a : Fn} (hs : ∀ i : Nat, i < 31 → ¬ s + 2 + i = w + 1) (hsw : ¬ s = w + 1) (h : RS F w s a) : RS (kpd F w s) w s (mKeep a) := by
  obtain ⟨g1, g2, g3, g4⟩ := h
  have a0 : 0 ≤ a 3 := by omega
  have a1 : a 3 ≤ 30 := by omega
  have e3 := mKeep_3 a1
  have es : kpd F w s s = (if F s 2 < 30 then u (F s) 2 (F s 2 + 1) else u (F s) 1 ((F s 1 + 1) % 31)) := by
    unfold kpd
    rw [sA_eq]
  have ew : kpd F w s (w + 1) = F (w + 1) := by
    unfold kpd mkd spr
    rw [sA_ne _ _ (fun q => hsw q.symm), sA_ne _ _ (fun q => hs _ (by omega) q.symm)]
  have e2 : kpd F w s s 2 = mKeep a 3 := by
    rw [es, e3]
    by_cases q : a 3 = 30
    · rw [if_pos q, if_neg (by omega), u_ne _ _ (by omega)]; omega
    · rw [if_neg q, if_pos (by omega), u_eq]; omega
  have e1 : 0 ≤ kpd F w s s 1 ∧ kpd F w s s 1 ≤ 30 := by
    rw [es]
    by_cases q : a 3 = 30
    · rw [if_neg (by omega), u_eq]; omega
    · rw [if_pos (by omega), u_ne _ _ (by omega)]; omega
  have n1 : 0 ≤ mKeep a 3 ∧ mKeep a 3 ≤ 30 := by
    rw [e3]
    split <;> omega
  have hc : ∀ i, 0 ≤ i → i < mKeep a 3 → ∀ k, 0 ≤ k → k < 141 → rowC (kpd F w s) w s i k = rowC F w s (if a 3 = 30 then i + 1 else i) k := by
    intro i hi0 hi1
    have := rowC_keep (F := F) (w := w) (s := s) hs hsw (by omega) (by omega) (by omega) (by omega) hi0 (by rw [e3] at hi1; rw [← g1.2.2.2.2]; exact hi1)
    rw [← g1.2.2.2.2] at this
    exact this
  have hm : ∀ i, 0 ≤ i → i < mKeep a 3 → ∀ k, rlv k → rowM (mKeep a) i k = rowM a (if a 3 = 30 then i + 1 else i) k := fun i hi0 hi1 => rowM_keep a0 a1 hi0 hi1
  have ct : rowC (kpd F w s) w s (mKeep a 3) = rowC F w s (F s 2) := by
    rw [← e2, rowC_top, rowC_top, ew]
  have mt : ∀ k, rlv k → rowM (mKeep a) (mKeep a 3) k = rowM a (F s 2) k := by
    intro k hk
    rw [rowM_top, ← g1.2.2.2.2, rowM_top]
    unfold rlv at hk
    by_cases e4 : k < 180
    · exact mKeep_lo e4 (by omega) a0 a1
    · unfold mKeep mKeep1
      rw [u_ne _ _ (by omega)]
      have es2 := mShift_3 a1
      unfold mKp
      rw [if_neg (by split at es2 <;> omega), if_neg (by split at es2 <;> omega), mShift_up a (by omega)]
  refine ⟨?_, ?_, ?_, ?_⟩
  · rw [e2]
    exact ⟨e1.1, e1.2, n1.1, n1.2, rfl⟩
  · intro i hi0 hi1
    rw [e2] at hi1
    by_cases q : i = mKeep a 3
    · rw [q, ct]
      exact RR_cg (fun _ _ _ => rfl) mt (g2 _ (by omega) (Int.le_refl _))
    · refine RR_cg (hc i hi0 (by omega)) (hm i hi0 (by omega)) (g2 _ ?_ ?_)
      · split <;> omega
      · rw [e3] at hi1 q
        split <;> split at hi1 <;> split at q <;> omega
  · intro i hi0 hi1
    rw [e2] at hi1
    have hj : (if a 3 = 30 then i + 1 else i) ≤ F s 2 ∧ 0 ≤ (if a 3 = 30 then i + 1 else i) := by
      rw [e3] at hi1
      split <;> split at hi1 <;> omega
    by_cases q : i + 1 = mKeep a 3
    · have hj2 : (if a 3 = 30 then i + 1 else i) = F s 2 := by
        rw [e3] at q
        split <;> split at q <;> omega
      rw [q, ct]
      have c1 := hc i hi0 hi1
      have c2 := hm i hi0 hi1
      rw [hj2] at c1 c2
      exact RL_cg c1 (fun _ _ _ => rfl) c2 mt (RL_same _ _)
    · have c1 := hc i hi0 hi1
      have c2 := hm i hi0 hi1
      have c3 := hc (i + 1) (by omega) (by omega)
      have c4 := hm (i + 1) (by omega) (by omega)
      have hj3 : (if a 3 = 30 then i + 1 + 1 else i + 1) = (if a 3 = 30 then i + 1 else i) + 1 := by
        split <;> rfl
      rw [hj3] at c3 c4
      refine RL_cg c1 c3 c2 c4 (g3 _ hj.2 ?_)
      rw [e3] at q hi1
      split <;> split at q <;> split at hi1 <;> omega
  · intro p hp0 hp1 hp2
    rw [mKeep_lo (by omega) (by omega) a0 a1] at hp2
    rw [mKeep_lo (by omega) (by omega) a0 a1]
    exact g4 p hp0 hp1 hp2
