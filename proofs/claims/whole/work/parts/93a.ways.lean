-- chests of lefts: ways, by sets of owners
def rm (S : Nat) (p : Int) : Nat := S ^^^ (S &&& 2 ^ p.toNat)
theorem rm_f : ∀ S : Fin 128, ∀ p : Fin 7, S.val.testBit p.val = true → pcN (S.val ^^^ (S.val &&& 2 ^ p.val)) + 1 = pcN S.val ∧ (S.val ^^^ (S.val &&& 2 ^ p.val)) < S.val ∧ (S.val ^^^ (S.val &&& 2 ^ p.val)) ||| 2 ^ p.val = S.val ∧ (S.val ^^^ (S.val &&& 2 ^ p.val)).testBit p.val = false := by decide +kernel
theorem or_f : ∀ T : Fin 128, ∀ p : Fin 7, T.val.testBit p.val = false → ((T.val ||| 2 ^ p.val) ^^^ ((T.val ||| 2 ^ p.val) &&& 2 ^ p.val)) = T.val ∧ T.val ||| 2 ^ p.val < 128 ∧ (T.val ||| 2 ^ p.val).testBit p.val = true ∧ pcN (T.val ||| 2 ^ p.val) = pcN T.val + 1 := by decide +kernel
theorem hi_f : ∀ N : Fin 8, ∀ S : Fin 128, ∀ p : Fin 7, 2 ^ N.val ≤ S.val → p.val < N.val → 2 ^ N.val ≤ (S.val ^^^ (S.val &&& 2 ^ p.val)) := by decide +kernel
theorem pc_f : ∀ S : Fin 128, (pcN S.val = 0 ↔ S.val = 0) := by decide +kernel
theorem rm_1 {S : Nat} {p : Int} (hS : S < 128) (p0 : 0 ≤ p) (p1 : p < 7) (h : S.testBit p.toNat = true) : pcN (rm S p) + 1 = pcN S ∧ rm S p < S ∧ rm S p ||| 2 ^ p.toNat = S ∧ (rm S p).testBit p.toNat = false := rm_f ⟨S, hS⟩ ⟨p.toNat, by omega⟩ h
theorem or_1 {T : Nat} {p : Int} (hT : T < 128) (p0 : 0 ≤ p) (p1 : p < 7) (h : ¬ T.testBit p.toNat = true) : rm (T ||| 2 ^ p.toNat) p = T ∧ T ||| 2 ^ p.toNat < 128 ∧ (T ||| 2 ^ p.toNat).testBit p.toNat = true ∧ pcN (T ||| 2 ^ p.toNat) = pcN T + 1 := or_f ⟨T, hT⟩ ⟨p.toNat, by omega⟩ (by simpa using h)
theorem sm_z {f : Int → Int} {n : Int} (hn : 0 ≤ n) (h : ∀ i, 0 ≤ i → i < n → f i = 0) : sm f n = 0 := by
  have := sm_le (f := f) (a := 0) (b := 0) hn (fun i i0 i1 => by rw [h i i0 i1]; omega)
  omega
theorem sm_ext {f : Int → Int} {n : Int} (hn : 0 ≤ n) : ∀ m, n ≤ m → (∀ i, n ≤ i → i < m → f i = 0) → sm f m = sm f n := by
  intro m hm h
  have key : ∀ k : Nat, n + k ≤ m → sm f (n + k) = sm f n := by
    intro k
    induction k with
    | zero => intro _; simp
    | succ k ih =>
      intro hk
      have e : n + ((k + 1 : Nat) : Int) = (n + k) + 1 := by omega
      rw [e, sm_s _ (by omega), ih (by omega), h (n + k) (by omega) (by omega)]
      omega
  have := key (m - n).toNat (by omega)
  have e : n + ((m - n).toNat : Int) = m := by omega
  rw [e] at this
  exact this
/-- ways in which the first k lefts are those of S -/
def lW (ok : Nat → Int → Bool) : Nat → Nat → Int
  | 0, S => if S = 0 then 1 else 0
  | k + 1, S => sm (fun p => if S.testBit p.toNat = true ∧ ok k p = true then lW ok k (rm S p) else 0) 7
theorem lW_s (ok : Nat → Int → Bool) (k S : Nat) : lW ok (k + 1) S = sm (fun p => if S.testBit p.toNat = true ∧ ok k p = true then lW ok k (rm S p) else 0) 7 := rfl
theorem lW_pc {ok : Nat → Int → Bool} : ∀ k S : Nat, S < 128 → ¬ pcN S = k → lW ok k S = 0 := by
  intro k
  induction k with
  | zero =>
    intro S hS h
    rw [lW, if_neg]
    intro e
    exact h ((pc_f ⟨S, hS⟩).2 e)
  | succ k ih =>
    intro S hS h
    rw [lW_s]
    apply sm_z (by omega)
    intro p p0 p1
    split
    · next q =>
      have r := rm_1 hS p0 p1 q.1
      exact ih _ (by omega) (by omega)
    · rfl
theorem lW_hi {ok : Nat → Int → Bool} {N : Int} (hN0 : 0 ≤ N) (hN : N ≤ 7) (hok : ∀ k p, ok k p = true → p < N) : ∀ k S : Nat, S < 128 → 2 ^ N.toNat ≤ S → lW ok k S = 0 := by
  intro k
  induction k with
  | zero =>
    intro S hS h
    rw [lW, if_neg]
    have : 1 ≤ 2 ^ N.toNat := Nat.one_le_two_pow
    omega
  | succ k ih =>
    intro S hS h
    rw [lW_s]
    apply sm_z (by omega)
    intro p p0 p1
    split
    · next q =>
      have r := rm_1 hS p0 p1 q.1
      have hp := hok k p q.2
      exact ih _ (by omega) (hi_f ⟨N.toNat, by omega⟩ ⟨S, hS⟩ ⟨p.toNat, by omega⟩ h (by show p.toNat < N.toNat; omega))
    · rfl
theorem lW_p {ok : Nat → Int → Bool} : ∀ k S : Nat, 0 ≤ lW ok k S ∧ lW ok k S ≤ ((7 ^ k : Nat) : Int) := by
  intro k
  induction k with
  | zero =>
    intro S
    rw [lW]
    split <;> simp
  | succ k ih =>
    intro S
    rw [lW_s]
    have := sm_le (f := fun p => if S.testBit p.toNat = true ∧ ok k p = true then lW ok k (rm S p) else 0) (a := 0) (b := ((7 ^ k : Nat) : Int)) (n := 7) (by omega) (by
      intro p _ _
      have := ih (rm S p)
      split
      · exact this
      · omega)
    rw [Nat.pow_succ]
    omega
theorem lW_r {ok : Nat → Int → Bool} {k : Nat} (hk : k ≤ 6) (S : Nat) : 0 ≤ lW ok k S ∧ lW ok k S ≤ 117649 := by
  have := lW_p (ok := ok) k S
  have l : 7 ^ k ≤ 7 ^ 6 := Nat.pow_le_pow_right (by omega) hk
  omega
/-- what the class's table holds of S when it has come to T -/
def lA (ok : Nat → Int → Bool) (T S : Nat) : Int := if S = 0 then 1 else sm (fun p => if (S.testBit p.toNat = true ∧ rm S p < T) ∧ ok (pcN S - 1) p = true then lW ok (pcN S - 1) (rm S p) else 0) 7
theorem lA_0 {ok : Nat → Int → Bool} (S : Nat) : lA ok 0 S = if S = 0 then 1 else 0 := by
  unfold lA
  by_cases e : S = 0
  · rw [if_pos e, if_pos e]
  · rw [if_neg e, if_neg e]
    apply sm_z (by omega)
    intro p _ _
    rw [if_neg]
    intro h
    omega
theorem lA_top {ok : Nat → Int → Bool} {T S : Nat} (hS : S < 128) (h : S ≤ T) : lA ok T S = lW ok (pcN S) S := by
  unfold lA
  by_cases e : S = 0
  · rw [if_pos e, e]
    rfl
  · rw [if_neg e]
    have h0 : ¬ pcN S = 0 := fun q => e ((pc_f ⟨S, hS⟩).1 q)
    obtain ⟨k, hk⟩ : ∃ k, pcN S = k + 1 := ⟨pcN S - 1, by omega⟩
    rw [hk, lW_s]
    apply sm_congr
    intro p p0 p1
    have e1 : k + 1 - 1 = k := by omega
    rw [e1]
    by_cases b : S.testBit p.toNat = true
    · have r := rm_1 hS p0 p1 b
      by_cases o : ok k p = true
      · rw [if_pos ⟨⟨b, by omega⟩, o⟩, if_pos ⟨b, o⟩]
      · rw [if_neg (fun h => o h.2), if_neg (fun h => o h.2)]
    · rw [if_neg (fun h => b h.1.1), if_neg (fun h => b h.1)]
def gvS (g : Int → Bool) (T : Nat) (v : Int) (S : Nat) : Int → Int := fun p => if (S = T ||| 2 ^ p.toNat ∧ ¬ T.testBit p.toNat = true) ∧ g p = true then v else 0
theorem lA_step {ok : Nat → Int → Bool} {T S : Nat} (hS : S < 128) (hT : T < 128) : lA ok (T + 1) S = lA ok T S + sm (gvS (ok (pcN T)) T (lW ok (pcN T) T) S) 7 := by
  unfold lA
  by_cases e : S = 0
  · rw [if_pos e, if_pos e, sm_z (by omega)]
    · rfl
    · intro p p0 p1
      unfold gvS
      rw [if_neg]
      intro h
      have o := or_1 hT p0 p1 h.1.2
      rw [← h.1.1, e] at o
      simp at o
  · rw [if_neg e, if_neg e, ← sm_add (by omega)]
    apply sm_congr
    intro p p0 p1
    unfold gvS
    by_cases b : S.testBit p.toNat = true
    · have r := rm_1 hS p0 p1 b
      by_cases q : rm S p = T
      · have nb : ¬ T.testBit p.toNat = true := by rw [← q, r.2.2.2]; decide
        have es : S = T ||| 2 ^ p.toNat := by rw [← q, r.2.2.1]
        have ep : pcN S - 1 = pcN T := by rw [← q]; omega
        rw [ep, q]
        by_cases o : ok (pcN T) p = true
        · rw [if_pos ⟨⟨b, by omega⟩, o⟩, if_neg (fun h => by omega), if_pos ⟨⟨es, nb⟩, o⟩]
          omega
        · rw [if_neg (fun h => o h.2), if_neg (fun h => o h.2), if_neg (fun h => o h.2)]
          rfl
      · have ne : ¬ (S = T ||| 2 ^ p.toNat ∧ ¬ T.testBit p.toNat = true) := by
          intro h
          have o := or_1 hT p0 p1 h.2
          rw [← h.1] at o
          exact q o.1
        rw [if_neg (c := (S = T ||| 2 ^ p.toNat ∧ ¬ T.testBit p.toNat = true) ∧ ok (pcN T) p = true) (fun h => ne h.1), Int.add_zero]
        by_cases l : rm S p < T
        · by_cases o : ok (pcN S - 1) p = true
          · rw [if_pos ⟨⟨b, by omega⟩, o⟩, if_pos ⟨⟨b, l⟩, o⟩]
          · rw [if_neg (fun h => o h.2), if_neg (fun h => o h.2)]
        · rw [if_neg (fun h => by omega), if_neg (fun h => l h.1.2)]
    · rw [if_neg (fun h => b h.1.1), if_neg (fun h => b h.1.1), if_neg]
      · rfl
      · intro h
        have o := or_1 hT p0 p1 h.1.2
        rw [← h.1.1] at o
        exact b o.2.2.1
/-- a set that gives nothing on changes nothing of those that count -/
theorem lA_big {ok : Nat → Int → Bool} {T S L : Nat} (hS : S < 128) (hT : T < 128) (h1 : pcN S ≤ L) (h2 : L ≤ pcN T) : lA ok (T + 1) S = lA ok T S := by
  rw [lA_step hS hT, sm_z (by omega)]
  · omega
  · intro p p0 p1
    unfold gvS
    rw [if_neg]
    intro h
    have o := or_1 hT p0 p1 h.1.2
    rw [← h.1.1] at o
    omega
theorem lA_nil {ok : Nat → Int → Bool} {T S : Nat} (hS : S < 128) (hT : T < 128) (h : lW ok (pcN T) T = 0) : lA ok (T + 1) S = lA ok T S := by
  rw [lA_step hS hT, sm_z (by omega)]
  · omega
  · intro p p0 p1
    unfold gvS
    rw [h]
    split <;> rfl
section
variable (x : m_X) (F G : Nat → Fn)
theorem C_give37 {T : Nat} {o n5 : Int} {fw : Int32} {g : Int → Bool} (hT : T < 128) (ho : rg o) (hg : ∀ p, 0 ≤ p → p < 7 → ((bt fw p = true ∧ (o = -1 ∨ o = p)) ↔ (¬ T.testBit p.toNat = true ∧ g p = true))) : ∀ i, 0 ≤ i → i ≤ 7 → ∀ F1 : Nat → Fn, (∀ S : Nat, S < 128 → F1 146 S = F 146 S + sm (gvS g T (F 146 T) S) i) → (∀ b, ¬ b = 146 → F1 b = F b) → ∀ d8 d9, m_nl d8 = true → m_nl d9 = true → ∃ F2, m_D x 4 k_Puzzles_giveNext 37 [some (.ref 144), some (.ref 1), some (.ref 36), some (.int (jI (T : Int))), some (.int (jI o)), some (.int (jI n5)), some (.int fw), some (.int (jI i)), d8, d9] [] (mk F1 G) = some (none, mk F2 G) ∧ (∀ S : Nat, S < 128 → F2 146 S = F 146 S + sm (gvS g T (F 146 T) S) 7) ∧ (∀ b, ¬ b = 146 → F2 b = F b) := by
  unfold rg at ho
  apply down
  · intro F1 h1 h2 d8 d9 h8 h9
    refine ⟨F1, ?_, h1, h2⟩
    rw [E_Puzzles_giveNext_37 x 4 (by omega) _ _ _ _ _ _ _ _ _ _ _ h8 h9, lit_7, if_pos (Int32.le_refl _)]
  · intro i i0 i1 ih F1 h1 h2 d8 d9 h8 h9
    have hgi := hg i i0 i1
    have en : i = ((i.toNat : Nat) : Int) := by omega
    have esh : jI (T : Int) ||| (jI 1 <<< (jI i &&& jI 31)) = jI ((T ||| 2 ^ i.toNat : Nat) : Int) := by
      rw [en, nshl (by omega), nor, Int.toNat_natCast]
    -- nothing is given
    have no : ¬ (¬ T.testBit i.toNat = true ∧ g i = true) → ∃ F2, m_D x 4 k_Puzzles_giveNext 73 [some (.ref 144), some (.ref 1), some (.ref 36), some (.int (jI (T : Int))), some (.int (jI o)), some (.int (jI n5)), some (.int fw), some (.int (jI i)), d8, d9] [.int 0] (mk F1 G) = some (none, mk F2 G) ∧ (∀ S : Nat, S < 128 → F2 146 S = F 146 S + sm (gvS g T (F 146 T) S) 7) ∧ (∀ b, ¬ b = 146 → F2 b = F b) := by
      intro hno
      rw [E_Puzzles_giveNext_73 x 4 (by omega) _ _ _ _ _ _ _ _ _ _ _ _ h8 h9, if_pos (by decide), lit_1, jI_add]
      refine ih F1 ?_ h2 _ _ rfl rfl
      intro S hS
      rw [h1 S hS, sm_s _ i0]
      have : gvS g T (F 146 T) S i = 0 := by
        unfold gvS
        rw [if_neg]
        intro h
        exact hno ⟨h.1.2, h.2⟩
      omega
    -- something is given
    have yes : (¬ T.testBit i.toNat = true ∧ g i = true) → ∃ F2, m_D x 4 k_Puzzles_giveNext 73 [some (.ref 144), some (.ref 1), some (.ref 36), some (.int (jI (T : Int))), some (.int (jI o)), some (.int (jI n5)), some (.int fw), some (.int (jI i)), d8, d9] [.int 1] (mk F1 G) = some (none, mk F2 G) ∧ (∀ S : Nat, S < 128 → F2 146 S = F 146 S + sm (gvS g T (F 146 T) S) 7) ∧ (∀ b, ¬ b = 146 → F2 b = F b) := by
      intro hy
      have o1 := or_1 hT i0 i1 hy.1
      have hTT : F1 146 T = F 146 T := by
        rw [h1 T hT, sm_z i0]
        · omega
        · intro p p0 p1
          unfold gvS
          rw [if_neg]
          intro h
          have o2 := or_1 hT p0 (by omega) h.1.2
          rw [← h.1.1] at o2
          exact h.1.2 o2.2.2.1
      rw [E_Puzzles_giveNext_73 x 4 (by omega) _ _ _ _ _ _ _ _ _ _ _ _ h8 h9, if_neg (show ¬ (1 : Int32) = 0 by decide), lit_1, lit_31, esh, lit_0, if_neg (by rw [jI_lt (by omega) (by omega) (by omega) (by omega)]; omega), lit_128, if_neg (by rw [jI_le (by omega) (by omega) (by omega) (by omega)]; omega), if_neg (by rw [jI_lt (by omega) (by omega) (by omega) (by omega)]; omega), if_neg (by rw [jI_le (by omega) (by omega) (by omega) (by omega)]; omega), fR_144_4, Option.bind_some, ia_146 x F1 G (by omega) (by omega), Option.bind_some, Option.bind_some, ia_146 x F1 G (by omega) (by omega), Option.bind_some, jI_add, is_146 _ _ _ (by omega) (by omega), Option.bind_some, jI_add]
      refine ih _ ?_ ?_ _ _ rfl rfl
      · intro S hS
        rw [sA_eq, sm_s _ i0]
        by_cases e : S = T ||| 2 ^ i.toNat
        · have : gvS g T (F 146 T) S i = F 146 T := by
            unfold gvS
            rw [if_pos ⟨⟨e, hy.1⟩, hy.2⟩]
          rw [this, e, u_eq, ← e, h1 S hS, hTT]
          omega
        · have : gvS g T (F 146 T) S i = 0 := by
            unfold gvS
            rw [if_neg (fun h => e h.1.1)]
          rw [this, u_ne _ _ (by omega), h1 S hS]
          omega
      · intro b hb
        rw [sA_ne _ _ hb]
        exact h2 b hb
    rw [E_Puzzles_giveNext_37 x 4 (by omega) _ _ _ _ _ _ _ _ _ _ _ h8 h9, lit_7, if_neg (by rw [jI_le (by omega) (by omega) (by omega) (by omega)]; omega), lit_31, show ((1 : Int32)) = jI 1 from rfl]
    simp only [has_1 (a := fw) i0 (show i < 32 by omega)]
    by_cases b : bt fw i = true
    · rw [if_pos b, jI_neg]
      by_cases q1 : o = -1
      · rw [if_pos (by rw [q1])]
        exact yes (hgi.1 ⟨b, Or.inl q1⟩)
      · rw [if_neg (by rw [jI_eq (by omega) (by omega) (by omega) (by omega)]; omega)]
        by_cases q2 : o = i
        · rw [if_pos (by rw [q2])]
          exact yes (hgi.1 ⟨b, Or.inr q2⟩)
        · rw [if_neg (by rw [jI_eq (by omega) (by omega) (by omega) (by omega)]; omega)]
          exact no (fun h => by
            have := (hgi.2 h).2
            omega)
    · rw [if_neg b]
      exact no (fun h => b (hgi.2 h).1)
end
