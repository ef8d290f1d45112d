-- undo keeps the relation
theorem mUndo_lo {a : Fn} {k : Int} (h : k < 8) (h3 : ¬ k = 3) (h1 : 0 ≤ a (180 + 104 * (a 3 - 1))) : mUndo a k = a k := by
  unfold mUndo mTold mTk
  rw [if_neg (by omega), if_neg (by omega), if_neg (by omega), u_ne _ _ h3]
theorem mUndo_hi {a : Fn} {k : Int} (h : 111 ≤ k) (h0 : a 0 ≤ 7) : mUndo a k = a k := by
  unfold mUndo mTold mTk
  rw [if_neg (by omega), if_neg (by omega), if_neg (by omega), u_ne _ _ (by omega)]
theorem mUndo_3 {a : Fn} (h1 : 0 ≤ a (180 + 104 * (a 3 - 1))) : mUndo a 3 = a 3 - 1 := by
  unfold mUndo mTold mTk
  rw [if_neg (by omega), if_neg (by omega), if_neg (by omega), u_eq]
theorem mUndo_mid {a : Fn} {k : Int} (h : 8 ≤ k) (h2 : k ≤ 110) (hn : 1 ≤ a 3) (h0 : ¬ (13 + a (180 + 104 * (a 3 - 1)) ≤ k ∧ k < 13 + a 0)) (h1 : ¬ (20 + a (180 + 104 * (a 3 - 1)) ≤ k ∧ k < 20 + a 0)) : mUndo a k = a (180 + 104 * (a 3 - 1) + (k - 7)) := by
  unfold mUndo mTold mTk
  rw [if_neg h0, if_neg h1, if_pos (by omega), u_ne _ _ (by omega)]
theorem RS_undo {F F' : Nat → Fn} {w s : Nat} {a : Fn} (h : RS F w s a) (hm : 1 ≤ F s 2) (f1 : F' s 1 = F s 1) (f2 : F' s 2 = F s 2 - 1) (fw : ∀ k, 0 ≤ k → k < 141 → F' (w + 1) k = u (tbk (F (s + 2 + ((F s 1 + (F s 2 - 1)) % 31).toNat)) (F (w + 1)) (F (w + 1) 0)) 0 (F (w + 1) 0) k) (fr : ∀ i, 0 ≤ i → i < F s 2 - 1 → F' (s + 2 + ((F s 1 + i) % 31).toNat) = F (s + 2 + ((F s 1 + i) % 31).toNat)) : RS F' w s (mUndo a) := by
  have hv := RS_V h
  have htop := RS_top h
  obtain ⟨g1, g2, g3, g4⟩ := h
  have er := rowC_lo F w s (i := F s 2 - 1) (by omega)
  have hr := g2 (F s 2 - 1) (by omega) (by omega)
  have hl := g3 (F s 2 - 1) (by omega) (by omega)
  have en : F s 2 - 1 + 1 = F s 2 := by omega
  have em : rowM a (F s 2) = a := by rw [← g1.2.2.2.2, rowM_top]
  rw [en, rowC_top, em] at hl
  rw [er] at hr hl
  generalize F (s + 2 + ((F s 1 + (F s 2 - 1)) % 31).toNat) = r at hr hl fw er
  have eb := rowM_lo a (i := F s 2 - 1) (by omega)
  have ea : 180 + 104 * (F s 2 - 1) = 180 + 104 * (a 3 - 1) := by omega
  rw [ea] at eb
  generalize hbb : rowM a (F s 2 - 1) = b at hr hl eb
  have b0 : b 0 = a (180 + 104 * (a 3 - 1)) := by rw [eb]; rfl
  have bm : ∀ k, 8 ≤ k → k ≤ 110 → b k = a (180 + 104 * (a 3 - 1) + (k - 7)) := by
    intro k k0 k1
    rw [eb]
    dsimp only
    rw [if_neg (by omega), if_pos (by omega)]
  have bh : ∀ k, 111 ≤ k → b k = a k := by
    intro k k0
    rw [eb]
    dsimp only
    rw [if_neg (by omega), if_neg (by omega)]
  have rc := WI_c hr.1
  have cc := WI_c htop.1
  have r0 : r 0 = a (180 + 104 * (a 3 - 1)) := by
    rw [hr.2.1.1 0 (by unfold vok; omega) (by omega), V_0, b0]
  have c0 : F (w + 1) 0 = a 0 := by rw [hv 0 (by unfold vok; omega), V_0]
  have rle : r 0 ≤ F (w + 1) 0 := hl.1
  have ulo : ∀ k, k < 8 → ¬ k = 3 → mUndo a k = a k := fun k k0 k1 => mUndo_lo k0 k1 (by omega)
  have uhi : ∀ k, 111 ≤ k → mUndo a k = a k := fun k k0 => mUndo_hi k0 (by omega)
  have u3 : mUndo a 3 = a 3 - 1 := mUndo_3 (by omega)
  have umid : ∀ k, 8 ≤ k → k ≤ 110 → ¬ (13 + r 0 ≤ k ∧ k < 13 + F (w + 1) 0) → ¬ (20 + r 0 ≤ k ∧ k < 20 + F (w + 1) 0) → mUndo a k = b k := by
    intro k k0 k1 k2 k3
    rw [bm k k0 k1]
    exact mUndo_mid k0 k1 (by omega) (by rw [← r0, ← c0]; exact k2) (by rw [← r0, ← c0]; exact k3)
  have uc : ∀ p, r 0 ≤ p → p < F (w + 1) 0 → mUndo a (13 + p) = a (119 + p) := by
    intro p p0 p1
    unfold mUndo mTold
    rw [if_pos (by omega)]
    unfold mTk
    rw [if_neg (by omega), u_ne _ _ (by omega)]
    congr 1
    omega
  have ud : ∀ p, r 0 ≤ p → p < F (w + 1) 0 → mUndo a (20 + p) = 0 := by
    intro p p0 p1
    unfold mUndo mTold
    rw [if_neg (by omega), if_pos (by omega)]
  -- the world afterwards
  have w0 : F' (w + 1) 0 = F (w + 1) 0 := by rw [fw 0 (by omega) (by omega), u_eq]
  have wi : ∀ k, 1 ≤ k → k < 141 → ((1 + r 0 ≤ k ∧ k < 1 + F (w + 1) 0) ∨ (8 + r 0 ≤ k ∧ k < 8 + F (w + 1) 0) ∨ (15 + r 0 ≤ k ∧ k < 15 + F (w + 1) 0)) → F' (w + 1) k = F (w + 1) k := by
    intro k k0 k1 k2
    rw [fw k (by omega) k1, u_ne _ _ (by omega)]
    unfold tbk
    rw [if_pos k2]
  have wo : ∀ k, 1 ≤ k → k < 141 → ¬ ((1 + r 0 ≤ k ∧ k < 1 + F (w + 1) 0) ∨ (8 + r 0 ≤ k ∧ k < 8 + F (w + 1) 0) ∨ (15 + r 0 ≤ k ∧ k < 15 + F (w + 1) 0)) → F' (w + 1) k = r k := by
    intro k k0 k1 k2
    rw [fw k (by omega) k1, u_ne _ _ (by omega)]
    unfold tbk
    rw [if_neg k2]
  have hW : WI (F' (w + 1)) := by
    refine WI_mk ?_ ?_
    · intro k k0 k1
      by_cases q0 : k = 0
      · rw [q0, w0]
        exact WI_hi htop.1 0 (by omega) (by omega)
      · by_cases q : (1 + r 0 ≤ k ∧ k < 1 + F (w + 1) 0) ∨ (8 + r 0 ≤ k ∧ k < 8 + F (w + 1) 0) ∨ (15 + r 0 ≤ k ∧ k < 15 + F (w + 1) 0)
        · rw [wi k (by omega) k1 q]
          exact WI_hi htop.1 k k0 k1
        · rw [wo k (by omega) k1 q]
          exact WI_hi hr.1 k k0 k1
    · intro g k0 k1
      rw [wo 25 (by omega) (by omega) (by omega)] at k1
      rw [w0, wo (27 + g) (by omega) (by omega) (by omega), wo (39 + g) (by omega) (by omega) (by omega)]
      have q := WI_h hr.1 k0 k1
      omega
  have hRW : RW (F' (w + 1)) (mUndo a) := by
    refine ⟨?_, ?_⟩
    · intro k hk hk2
      have hk3 := hk
      unfold vok at hk3
      rw [w0] at hk2
      by_cases q0 : k = 0
      · rw [q0, w0, V_0, ulo 0 (by omega) (by omega), c0]
      · by_cases q1 : k < 8
        · obtain ⟨p, rfl⟩ : ∃ p, k = 1 + p := ⟨k - 1, by omega⟩
          rw [V_h _ (by omega) (by omega), uhi _ (by omega)]
          by_cases q : r 0 ≤ p
          · rw [wi _ (by omega) (by omega) (by omega), hv _ hk, V_h _ (by omega) (by omega)]
          · rw [wo _ (by omega) (by omega) (by omega), hr.2.1.1 _ hk (by omega), V_h _ (by omega) (by omega), bh _ (by omega)]
        · by_cases q2 : k < 15
          · obtain ⟨p, rfl⟩ : ∃ p, k = 8 + p := ⟨k - 8, by omega⟩
            rw [V_c _ (by omega) (by omega)]
            by_cases q : r 0 ≤ p ∧ p < F (w + 1) 0
            · rw [wi _ (by omega) (by omega) (by omega), uc p q.1 q.2, (hl.2.1 p (by omega) (by omega) q.1 q.2).1, bh _ (by omega)]
            · rw [wo _ (by omega) (by omega) (by omega), hr.2.1.1 _ hk (by omega), V_c _ (by omega) (by omega), umid _ (by omega) (by omega) (by omega) (by omega)]
          · by_cases q3 : k < 22
            · obtain ⟨p, rfl⟩ : ∃ p, k = 15 + p := ⟨k - 15, by omega⟩
              rw [V_d _ (by omega) (by omega)]
              by_cases q : r 0 ≤ p ∧ p < F (w + 1) 0
              · rw [wi _ (by omega) (by omega) (by omega), ud p q.1 q.2, (hl.2.1 p (by omega) (by omega) q.1 q.2).2]
              · rw [wo _ (by omega) (by omega) (by omega), hr.2.1.1 _ hk (by omega), V_d _ (by omega) (by omega), umid _ (by omega) (by omega) (by omega) (by omega)]
            · rw [wo _ (by omega) (by omega) (by omega), hr.2.1.1 _ hk (by omega)]
              unfold V
              rw [if_pos hk, if_pos hk]
              have q5 : (8 ≤ io k ∧ io k < 12) ∨ (27 ≤ io k ∧ io k ≤ 110) := by
                unfold io
                rw [if_neg (by omega), if_neg (by omega), if_neg (by omega)]
                split <;> omega
              exact (umid _ (by omega) (by omega) (by omega) (by omega)).symm
    · intro k k0 k1 k2
      rw [w0] at k2
      rw [wo k (by omega) (by omega) (by omega)]
      exact hr.2.1.2 k k0 k1 (by omega)
  have u12 : mUndo a 12 = b 12 := umid 12 (by omega) (by omega) (by omega) (by omega)
  have hRB : RB (F' (w + 1)) (mUndo a) := by
    obtain ⟨q1, q2, q3, q4⟩ := hr.2.2
    unfold RB
    rw [u12, wo 22 (by omega) (by omega) (by omega), wo 26 (by omega) (by omega) (by omega)]
    refine ⟨q1, q2, q3, ?_⟩
    intro i i0 i1
    rw [wo (111 + i) (by omega) (by omega) (by omega), uhi _ (by omega), ← bh _ (by omega)]
    exact q4 i i0 i1
  have hcl : ∀ i, 0 ≤ i → i < F s 2 - 1 → rowC F' w s i = rowC F w s i := by
    intro i i0 i1
    rw [rowC_lo F' w s (by omega), rowC_lo F w s (by omega), f1]
    exact fr i i0 i1
  have hct : rowC F' w s (F s 2 - 1) = F' (w + 1) := by rw [← f2, rowC_top]
  have hmt : rowM (mUndo a) (F s 2 - 1) = mUndo a := by
    have e : F s 2 - 1 = mUndo a 3 := by omega
    rw [e, rowM_top]
  have hml : ∀ i, 0 ≤ i → i < F s 2 - 1 → ∀ k, rlv k → rowM (mUndo a) i k = rowM a i k := by
    intro i i0 i1 k hk
    unfold rlv at hk
    rw [rowM_lo (mUndo a) (by omega), rowM_lo a (by omega)]
    dsimp only
    by_cases q1 : k = 0
    · rw [if_pos q1, if_pos q1]
      exact uhi _ (by omega)
    · rw [if_neg q1, if_neg q1]
      by_cases q2 : 8 ≤ k ∧ k ≤ 110
      · rw [if_pos q2, if_pos q2]
        exact uhi _ (by omega)
      · rw [if_neg q2, if_neg q2]
        exact uhi _ (by omega)
  refine ⟨?_, ?_, ?_, ?_⟩
  · rw [f1, f2, u3]
    omega
  · intro i i0 i1
    rw [f2] at i1
    by_cases e : i = F s 2 - 1
    · rw [e, hct, hmt]
      exact ⟨hW, hRW, hRB⟩
    · rw [hcl i i0 (by omega)]
      exact RR_cg (fun _ _ _ => rfl) (hml i i0 (by omega)) (g2 i i0 (by omega))
  · intro i i0 i1
    rw [f2] at i1
    have q := g3 i i0 (by omega)
    by_cases e : i + 1 = F s 2 - 1
    · rw [e, hct, hmt, hcl i i0 i1]
      rw [e, er, hbb] at q
      obtain ⟨r1, r2, r3⟩ := q
      refine ⟨by omega, ?_, ?_⟩
      · intro p p0 p1 p2 p3
        rw [w0] at p3
        rw [hml i i0 i1 _ (by unfold rlv; omega)]
        by_cases q : p < r 0
        · have r4 := r2 p p0 p1 p2 q
          rw [wo _ (by omega) (by omega) (by omega), wo _ (by omega) (by omega) (by omega)]
          exact r4
        · have r4 := hl.2.1 p p0 p1 (by omega) p3
          rw [wi _ (by omega) (by omega) (by omega), wi _ (by omega) (by omega) (by omega)]
          rw [bh _ (by omega)] at r4
          rw [rowM_lo a (by omega)]
          dsimp only
          rw [if_neg (by omega), if_neg (by omega)]
          exact r4
      · rw [hml i i0 i1 _ (by unfold rlv; omega), u12]
        exact r3
    · rw [hcl i i0 i1, hcl (i + 1) (by omega) (by omega)]
      exact RL_cg (fun _ _ _ => rfl) (fun _ _ _ => rfl) (hml i i0 i1) (hml (i + 1) (by omega) (by omega)) q
  · intro p p0 p1 p2
    rw [ulo 0 (by omega) (by omega)] at p2
    rw [uhi _ (by omega)]
    exact g4 p p0 p1 p2
