-- a day: class and model alike
theorem ag_chill {F : Nat → Fn} {t : Int} {A : Law4} {c d : Fn} {p : Int} (hA : LA F t A) (hi : WI c) (hv : ∀ k, vok k → c k = d k) (h0 : 0 ≤ p) (h1 : p < 7) : ∀ k, vok k → wChill A c p k = wChill A d p k := by
  have hc := WI_c hi
  intro k hk
  unfold wChill
  simp only [u]
  rw [hv k hk, hv (15 + p) (by unfold vok; omega), A_cg hA (by omega) (by omega) (by unfold qok; omega) hv (by omega)]
theorem ag_fine {F : Nat → Fn} {t : Int} {A : Law4} {c d : Fn} {p : Int} (hA : LA F t A) (hi : WI c) (hv : ∀ k, vok k → c k = d k) (h0 : 0 ≤ p) (h1 : p < 7) : fineAt A c p = fineAt A d p := by
  have hc := WI_c hi
  unfold fineAt
  rw [hv (8 + p) (by unfold vok; omega), A_cg hA (by omega) (by omega) (by unfold qok; omega) hv (by omega), rights_cg p hv (by omega)]
theorem ag_live {F : Nat → Fn} {t : Int} {A : Law4} {c d : Fn} {p : Int} (hA : LA F t A) (hi : WI c) (hv : ∀ k, vok k → c k = d k) (h0 : 0 ≤ p) (h1 : p < 7) : ∀ k, vok k → wLive A c p k = mLive A d p k := by
  have hc := WI_c hi
  have h2 := ag_chill (p := p) hA hi hv h0 h1
  have h3 := ag_fine (p := p) hA (WI_chill hA hi h0 h1) h2 h0 h1
  intro k hk
  have hk' := hk
  unfold vok at hk'
  unfold wLive mLive
  rw [h3, hv (8 + p) (by unfold vok; omega)]
  split
  · rw [wFine_lo _ _ _ (by rw [u_ne _ _ (by omega), chill_ne A c (by omega)]; omega) (by omega) (by omega)]
    simp only [u]
    rw [h2 k hk]
  · exact h2 k hk
theorem ag_lives {F : Nat → Fn} {t : Int} {A : Law4} {c d : Fn} (hA : LA F t A) (hi : WI c) (hv : ∀ k, vok k → c k = d k) : ∀ n : Nat, n ≤ 7 → ∀ k, vok k → wLivesN A c n k = mLivesN A d n k := by
  intro n
  induction n with
  | zero => intro _; exact hv
  | succ n ih =>
    intro hn
    exact ag_live hA (lives_ok hA hi n (by omega)).1 (ih (by omega)) (by omega) (by omega)
theorem ag_grow {F : Nat → Fn} {t : Int} {A : Law4} {c d : Fn} {g : Int} (hA : LA F t A) (hi : WI c) (hv : ∀ k, vok k → c k = d k) (h0 : 0 ≤ g) (h1 : g < 12) : ∀ k, vok k → wGrow A c g k = wGrow A d g k := by
  have hc := WI_c hi
  intro k hk
  unfold wGrow
  rw [hv (99 + g) (by unfold vok; omega), hv (51 + g) (by unfold vok; omega), A_cg hA (by omega) (by omega) (by unfold qok; omega) hv (by omega)]
  split
  · simp only [u]; rw [hv k hk]
  · exact hv k hk
theorem ag_grows {F : Nat → Fn} {t : Int} {A : Law4} {c d : Fn} (hA : LA F t A) (hi : WI c) (hv : ∀ k, vok k → c k = d k) : ∀ n : Nat, n ≤ 12 → ∀ k, vok k → wGrowsN A c n k = wGrowsN A d n k := by
  intro n
  induction n with
  | zero => intro _; exact hv
  | succ n ih =>
    intro hn
    exact ag_grow hA (grows_ok hA hi n (by omega)).1 (ih (by omega)) (by omega) (by omega)
theorem ag_end {c d : Fn} (hv : ∀ k, vok k → c k = d k) : ∀ k, vok k → wEnd c k = wEnd d k := by
  intro k hk
  unfold wEnd wDraw
  simp only [u]
  rw [hv k hk, hv 22 (by unfold vok; omega), hv 24 (by unfold vok; omega)]
theorem ag_day {F : Nat → Fn} {t : Int} {A : Law4} {c d : Fn} (hA : LA F t A) (hi : WI c) (hv : ∀ k, vok k → c k = d k) : ∀ k, vok k → wDay A c k = mDay A d k := by
  have hc := WI_c hi
  have e0 := hv 0 (by unfold vok; omega)
  have e22 := hv 22 (by unfold vok; omega)
  have e25 := hv 25 (by unfold vok; omega)
  have h1 := ag_lives hA hi hv (c 0).toNat (by omega)
  have h2 := ag_grows hA (lives_ok hA hi (c 0).toNat (by omega)).1 h1 (c 25).toNat (by omega)
  unfold wDay mDay
  rw [← e0, ← e22, ← e25]
  split
  · exact ag_end h2
  · exact ag_end h1
/-- the book, but for the bound by days -/
def RBx (c a : Fn) : Prop := 0 ≤ a 12 ∧ c 26 = min (a 12) 30 ∧ ∀ i, 0 ≤ i → i < c 26 → c (111 + i) / 100 % 10 < 7 ∧ a (3300 + (a 12 - c 26 + i) % 8430) = (c (111 + i) / 1000 * 8 + c (111 + i) / 100 % 10) * 100 + c (111 + i) % 100
theorem RBx_cg {c a c' b : Fn} (h1 : ∀ k, (k = 26 ∨ 111 ≤ k) → c' k = c k) (h2 : ∀ k, (k = 12 ∨ 3300 ≤ k) → b k = a k) (h : RBx c a) : RBx c' b := by
  obtain ⟨q1, q2, q3⟩ := h
  unfold RBx
  rw [h1 26 (by omega), h2 12 (by omega)]
  refine ⟨q1, q2, ?_⟩
  intro i i0 i1
  rw [h1 (111 + i) (by omega), h2 _ (by omega)]
  exact q3 i i0 i1
def HZ (a b : Fn) : Prop := a 12 ≤ b 12 ∧ ∀ z, 0 ≤ z → b 12 - 8430 ≤ z → z < a 12 → b (3300 + z % 8430) = a (3300 + z % 8430)
theorem HZ_tr {a b c : Fn} (h1 : HZ a b) (h2 : HZ b c) : HZ a c := by
  refine ⟨Int.le_trans h1.1 h2.1, ?_⟩
  intro z z0 z1 z2
  have k1 := h1.1
  have k2 := h2.1
  rw [h2.2 z z0 z1 (by omega), h1.2 z z0 (by omega) z2]
theorem HZ_of {a b : Fn} (h : ∀ k, (k = 12 ∨ 3300 ≤ k) → b k = a k) : HZ a b := by
  refine ⟨by rw [h 12 (by omega)]; omega, ?_⟩
  intro z _ _ _
  exact h _ (by omega)
theorem HZ_live (A : Law4) (r : Int) {a : Fn} {p : Int} (h0 : 0 ≤ p) (h1 : p < 7) : HZ a (mLv A r a p) := by
  refine ⟨(mLv_12 A r a h0 h1).1, ?_⟩
  intro z z0 z1 z2
  have w := mLv_12 A r a (p := p) h0 h1
  unfold mLv at *
  split
  · rename_i hq
    rw [if_pos hq, u_eq] at w z1
    rw [u_ne _ _ (by omega), u_ne _ _ (by omega), mLvF_ne A a (by omega) (by omega)]
  · rw [mLvF_ne A a (by omega) (by omega)]
theorem RBx_fine {c a c1 a1 : Fn} {p f : Int} (h : RBx c a) (hc1 : ∀ k, (k = 26 ∨ k = 22 ∨ 111 ≤ k) → c1 k = c k) (ha1 : ∀ k, (k = 12 ∨ k = 8 ∨ 3300 ≤ k) → a1 k = a k) (h22 : c 22 = a 8) (hd : 0 ≤ c 22) (h0 : 0 ≤ p) (h1 : p < 7) (h2 : 0 ≤ f) (h3 : f ≤ 99) : RBx (wFine c1 p f) (u (u a1 (3300 + a 12 % 8430) ((a 8 * 8 + p) * 100 + f)) 12 (a 12 + 1)) := by
  obtain ⟨q1, q2, q3⟩ := h
  have e26 := hc1 26 (by omega)
  have e22 := hc1 22 (by omega)
  have hdig : (c 22 * 1000 + p * 100 + f) / 100 % 10 = p ∧ (c 22 * 1000 + p * 100 + f) / 1000 = c 22 ∧ (c 22 * 1000 + p * 100 + f) % 100 = f := by omega
  unfold RBx
  rw [u_eq]
  by_cases hs : c 26 < 30
  · have eW : c 26 = a 12 := by omega
    have k26 : wFine c1 p f 26 = a 12 + 1 := by
      unfold wFine
      rw [if_pos (by omega), u_eq, e26, eW]
    have kc : ∀ i, 0 ≤ i → i < a 12 → wFine c1 p f (111 + i) = c (111 + i) := by
      intro i i0 i1
      unfold wFine
      rw [if_pos (by omega), u_ne _ _ (by omega), u_ne _ _ (by omega), hc1 _ (by omega)]
    have kn : wFine c1 p f (111 + a 12) = c 22 * 1000 + p * 100 + f := by
      unfold wFine
      rw [if_pos (by omega), u_ne _ _ (by omega), e26, eW, u_eq, e22]
    rw [k26]
    refine ⟨by omega, by omega, ?_⟩
    intro i i0 i1
    rw [u_ne _ _ (by omega)]
    by_cases e : i = a 12
    · have ez : (a 12 + 1 - (a 12 + 1) + i) % 8430 = a 12 % 8430 := by
        rw [e]
        congr 1
        omega
      rw [ez, u_eq, e, kn, hdig.1, hdig.2.1, hdig.2.2, h22]
      exact ⟨h1, rfl⟩
    · have q := q3 i i0 (by omega)
      have ez : (a 12 + 1 - (a 12 + 1) + i) = i := by omega
      have ez2 : a 12 - c 26 + i = i := by omega
      rw [ez2] at q
      rw [ez, kc i i0 (by omega), u_ne _ _ (by omega), ha1 _ (by omega)]
      exact q
  · have eW : c 26 = 30 := by omega
    have k26 : wFine c1 p f 26 = 30 := by
      unfold wFine
      rw [if_neg (by omega), u_eq]
    have kc : ∀ i, 0 ≤ i → i < 29 → wFine c1 p f (111 + i) = c (111 + (i + 1)) := by
      intro i i0 i1
      unfold wFine
      rw [if_neg (by omega), u_ne _ _ (by omega), u_ne _ _ (by omega), u_ne _ _ (by omega)]
      unfold cp
      rw [if_pos (by omega)]
      have e : 112 + (111 + i - 111) = 111 + (i + 1) := by omega
      rw [e, hc1 _ (by omega)]
    have kn : wFine c1 p f (111 + 29) = c 22 * 1000 + p * 100 + f := by
      unfold wFine
      rw [if_neg (by omega), u_ne _ _ (by omega)]
      have e : (111 + 29 : Int) = 140 := by omega
      rw [e, u_eq, e22]
    rw [k26]
    refine ⟨by omega, by omega, ?_⟩
    intro i i0 i1
    rw [u_ne _ _ (by omega)]
    by_cases e : i = 29
    · have ez : (a 12 + 1 - 30 + i) = a 12 := by omega
      rw [ez, u_eq, e, kn, hdig.1, hdig.2.1, hdig.2.2, h22]
      exact ⟨h1, rfl⟩
    · have q := q3 (i + 1) (by omega) (by omega)
      have ez : a 12 + 1 - 30 + i = a 12 - c 26 + (i + 1) := by omega
      rw [ez, kc i i0 (by omega), u_ne _ _ (by omega), ha1 _ (by omega)]
      exact q
theorem RBx_live {F : Nat → Fn} {t : Int} {A : Law4} {c a : Fn} {p : Int} (hA : LA F t A) (hi : WI c) (hv : ∀ k, vok k → c k = V a k) (h : RBx c a) (h0 : 0 ≤ p) (h1 : p < 7) : RBx (wLive A c p) (mLv A 1 a p) := by
  have hc := WI_c hi
  have h2 := ag_chill (p := p) hA hi hv h0 h1
  have hiC := WI_chill (p := p) hA hi h0 h1
  have h3 := ag_fine (p := p) hA hiC h2 h0 h1
  have hfr := fine_r (p := p) hA hiC h0 h1
  have e22 : c 22 = a 8 := by rw [hv 22 (by unfold vok; omega), V_22]
  unfold wLive mLv
  rw [← h3]
  by_cases hf : 0 < fineAt A (wChill A c p) p
  · rw [if_pos hf, if_pos ⟨hf, rfl⟩]
    refine RBx_fine h ?_ ?_ e22 (by omega) h0 h1 (by omega) (by omega)
    · intro k hk
      rw [u_ne _ _ (by omega), chill_ne A c (by omega)]
    · intro k hk
      exact mLvF_ne A a (by omega) (by omega)
  · rw [if_neg hf, if_neg (fun z => hf z.1)]
    refine RBx_cg ?_ ?_ h
    · intro k hk
      exact chill_ne A c (by omega)
    · intro k hk
      exact mLvF_ne A a (by omega) (by omega)
theorem lives_both {F : Nat → Fn} {t : Int} {A : Law4} {c a : Fn} (hA : LA F t A) (hi : WI c) (hv : ∀ k, vok k → c k = V a k) (h : RBx c a) : ∀ n : Nat, n ≤ 7 → RBx (wLivesN A c n) (mLvsN A 1 a n) ∧ HZ a (mLvsN A 1 a n) := by
  intro n
  induction n with
  | zero => intro _; exact ⟨h, HZ_of (fun _ _ => rfl)⟩
  | succ n ih =>
    intro hn
    have q := ih (by omega)
    have k := lives_ok hA hi n (by omega)
    have m := mLvs_ok A 1 a n (by omega)
    have g := ag_lives hA hi hv n (by omega)
    exact ⟨RBx_live hA k.1 (by rw [m.1]; exact g) q.1 (by omega) (by omega), HZ_tr q.2 (HZ_live A 1 (by omega) (by omega))⟩
theorem wEnd_ne (c : Fn) {k : Int} (h1 : ¬ k = 22) (h2 : ¬ k = 23) (h3 : ¬ k = 24) : wEnd c k = c k := by
  unfold wEnd wDraw
  rw [u_ne _ _ h2, u_ne _ _ h3, u_ne _ _ h1]
theorem wEnd_22 (c : Fn) : wEnd c 22 = c 22 + 1 := by
  unfold wEnd wDraw
  rw [u_ne _ _ (by omega), u_ne _ _ (by omega), u_eq]
theorem mEnd_ne (a : Fn) {k : Int} (h1 : ¬ k = 8) (h2 : ¬ k = 9) (h3 : ¬ k = 10) : mEnd a k = a k := by
  unfold mEnd
  rw [u_ne _ _ h3, u_ne _ _ h2, u_ne _ _ h1]
/-- a day keeps the relation of world and row -/
theorem RR_day {F : Nat → Fn} {t : Int} {A : Law4} {c a : Fn} (hA : LA F t A) (hv : ∀ k, vok k → c k = V a k) (h : RR c a) (hd : c 22 < 9999) : RR (wDay A c) (mGo A 1 a) ∧ HZ a (mGo A 1 a) ∧ mGo A 1 a 12 ≤ a 12 + 7 ∧ (∀ k, (k < 8 ∨ (111 ≤ k ∧ k < 3300)) → mGo A 1 a k = a k) ∧ (∀ k, 0 ≤ k → k < 8 → wDay A c k = c k) ∧ wDay A c 22 = c 22 + 1 ∧ (∀ k, vok k → wDay A c k = V (mGo A 1 a) k) := by
  have hi := h.1
  have hc := WI_c hi
  have e0 : c 0 = a 0 := by rw [hv 0 (by unfold vok; omega), V_0]
  have e22 : c 22 = a 8 := by rw [hv 22 (by unfold vok; omega), V_22]
  have e25 : c 25 = a 11 := by rw [hv 25 (by unfold vok; omega), V_25]
  obtain ⟨b1, b2, b3, b4⟩ := h.2.2
  have hx : RBx c a := ⟨b1, b3, b4⟩
  have lb := lives_both hA hi hv hx (c 0).toNat (by omega)
  have lo := lives_ok hA hi (c 0).toNat (by omega)
  have mo := mLvs_ok A 1 a (c 0).toNat (by omega)
  have go := grows_ok hA lo.1 (c 25).toNat (by omega)
  have gm := mGwN_ok A (mLvsN A 1 a (c 0).toNat) (c 25).toNat (by omega)
  have hwv : WI (V a) := WI_vok (fun k hk => (hv k hk).symm) (V_out a (by unfold vok; omega)) (fun i h0 h1 => V_out a (by unfold vok; omega)) hi
  have hag : ∀ k, vok k → wDay A c k = V (mGo A 1 a) k := by
    intro k hk
    rw [V_mGo A 1 a hwv]
    exact ag_day hA hi hv k hk
  -- the two worlds and rows ahead of the day's end
  have key : ∃ c2 a2, wDay A c = wEnd c2 ∧ mGo A 1 a = mEnd a2 ∧ RBx c2 a2 ∧ HZ a a2 ∧ a2 12 ≤ a 12 + 7 ∧ (∀ k, (k < 8 ∨ (111 ≤ k ∧ k < 3300)) → a2 k = a k) ∧ (∀ k, 0 ≤ k → k < 8 → c2 k = c k) ∧ c2 22 = c 22 := by
    unfold wDay mGo
    rw [← e0, ← e22, ← e25]
    by_cases h7 : c 22 % 7 = 6
    · rw [if_pos h7, if_pos h7]
      refine ⟨_, _, rfl, rfl, RBx_cg (fun k hk => go.2 k (by omega)) (fun k hk => gm.2 k (by omega)) lb.1, HZ_tr lb.2 (HZ_of (fun k hk => gm.2 k (by omega))), ?_, ?_, ?_, ?_⟩
      · rw [gm.2 12 (by omega)]; omega
      · intro k hk
        rw [gm.2 k (by omega), mo.2.1 k (by omega)]
      · intro k k0 k1
        rw [go.2 k (by omega), lo.2 k (by omega)]
      · rw [go.2 22 (by omega), lo.2 22 (by omega)]
    · rw [if_neg h7, if_neg h7]
      refine ⟨_, _, rfl, rfl, lb.1, lb.2, by omega, ?_, ?_, ?_⟩
      · intro k hk
        exact mo.2.1 k (by omega)
      · intro k k0 k1
        exact lo.2 k (by omega)
      · exact lo.2 22 (by omega)
  obtain ⟨c2, a2, k1, k2, k3, k4, k5, k6, k7, k8⟩ := key
  have hW := WI_day hA hi hd
  have f1 : ∀ k, 0 ≤ k → k < 8 → wDay A c k = c k := by
    intro k q0 q1
    rw [k1, wEnd_ne _ (by omega) (by omega) (by omega), k7 k q0 q1]
  have f2 : wDay A c 22 = c 22 + 1 := by rw [k1, wEnd_22, k8]
  have f3 : mGo A 1 a 12 = a2 12 := by rw [k2, mEnd_ne _ (by omega) (by omega) (by omega)]
  have hx2 : RBx (wDay A c) (mGo A 1 a) := by
    rw [k1, k2]
    exact RBx_cg (fun k hk => wEnd_ne _ (by omega) (by omega) (by omega)) (fun k hk => mEnd_ne _ (by omega) (by omega) (by omega)) k3
  refine ⟨⟨hW, ⟨fun k hk _ => hag k hk, ?_⟩, ?_⟩, ?_, ?_, ?_, f1, f2, hag⟩
  · intro k q0 q1 q2
    rw [f1 0 (by omega) (by omega)] at q2
    rw [f1 k (by omega) q1]
    exact h.2.1.2 k q0 q1 q2
  · exact ⟨hx2.1, by rw [f2, f3]; omega, hx2.2.1, hx2.2.2⟩
  · refine HZ_tr k4 ?_
    rw [k2]
    exact HZ_of (fun k hk => mEnd_ne _ (by omega) (by omega) (by omega))
  · rw [f3]; exact k5
  · intro k hk
    rw [k2, mEnd_ne _ (by omega) (by omega) (by omega), k6 k hk]
