-- weddings: the class's rounds
theorem VM_cg {m N : Int} {μ ν : Fn} (hm : 0 ≤ m) (hN : m ≤ N) (he : ∀ k, 0 ≤ k → k < N → ν k = μ k) (h : VM m N μ) : VM m N ν := by
  refine ⟨?_, ?_⟩
  · intro p p0 p1
    have v := h.1 p p0 p1
    rw [he p p0 (by omega)]
    rcases v with v | v
    · exact Or.inl v
    · right
      rw [he _ (by omega) (by omega)]
      exact v
  · intro p p0 p1
    have v := h.2 p p0 p1
    rw [he p (by omega) p1]
    rcases v with v | v
    · exact Or.inl v
    · right
      rw [he _ (by omega) (by omega)]
      exact v
theorem DA_cg {c : Fn} {m N : Int} {μ ν : Fn} {as bs : Int → Nat} (hm : 0 ≤ m) (hN : m ≤ N) (he : ∀ k, 0 ≤ k → k < N → ν k = μ k) (ha : ∀ k, 0 ≤ k → k < m → bs k = as k) (h : DA c m N μ as) : DA c m N ν bs := by
  obtain ⟨hV, h2, h3, h4, h5⟩ := h
  have ht : ∀ p q, 0 ≤ p → p < m → (Tq bs p q ↔ Tq as p q) := by
    intro p q p0 p1
    unfold Tq
    rw [ha p p0 p1]
  refine ⟨VM_cg hm hN he hV, ?_, ?_, ?_, ?_⟩
  · intro p p0 p1 hp
    rw [he p p0 (by omega)] at hp ⊢
    exact (ht p _ p0 p1).2 (h2 p p0 p1 hp)
  · intro p q r p0 p1 q0 q1 r0 r1 t1 t2
    exact (ht p r p0 p1).2 (h3 p q r p0 p1 q0 q1 r0 r1 ((ht p q p0 p1).1 t1) t2)
  · intro p q p0 p1 q0 q1 t1 t2
    rw [he p p0 (by omega)] at t2
    rw [he q (by omega) q1]
    exact h4 p q p0 p1 q0 q1 ((ht p q p0 p1).1 t1) t2
  · intro M hM p q p0 p1 q0 q1 t1 t2
    rw [he p p0 (by omega)]
    exact h5 M hM p q p0 p1 q0 q1 ((ht p q p0 p1).1 t1) t2
/-- how many have been asked by how many -/
def cntA (m N : Int) (as : Int → Nat) : Int := sm (fun p => sm (fun i => if (as p).testBit (m + i).toNat = true then 1 else 0) (N - m)) m
theorem cntA_r {m N : Int} (as : Int → Nat) (hm : 0 ≤ m) (hm1 : m ≤ 6) (hN : m ≤ N) (hN1 : N ≤ 7) : 0 ≤ cntA m N as ∧ cntA m N as ≤ 42 := by
  unfold cntA
  have h := sm_le (f := fun p => sm (fun i => if (as p).testBit (m + i).toNat = true then 1 else 0) (N - m)) (a := 0) (b := 7) (n := m) hm (by
    intro p p0 p1
    have h := sm_le (f := fun i => if (as p).testBit (m + i).toNat = true then 1 else 0) (a := 0) (b := 1) (n := N - m) (by omega) (by
      intro i i0 i1
      split <;> omega)
    omega)
  omega
theorem sm_one {f g : Int → Int} {p n : Int} (p0 : 0 ≤ p) (p1 : p < n) (he : ∀ i, 0 ≤ i → i < n → ¬ i = p → g i = f i) (hp : g p = f p + 1) : sm g n = sm f n + 1 := by
  have key : ∀ k, 0 ≤ k → k ≤ n → sm g k = sm f k + (if p < k then 1 else 0) := by
    apply up
    · rw [sm_0, sm_0, if_neg (by omega)]; rfl
    · intro k k0 k1 ih
      rw [sm_s _ k0, sm_s _ k0, ih]
      by_cases e : k = p
      · rw [e, hp, if_neg (by omega), if_pos (by omega)]; omega
      · rw [he k k0 k1 e]
        by_cases e2 : p < k
        · rw [if_pos e2, if_pos (by omega)]; omega
        · rw [if_neg e2, if_neg (by omega)]; omega
  rw [key n (by omega) (by omega), if_pos p1]
theorem cntA_askd {m N : Int} {as : Int → Nat} {p q : Int} (hm : 0 ≤ m) (p0 : 0 ≤ p) (p1 : p < m) (q0 : m ≤ q) (q1 : q < N) (hn : ¬ Tq as p q) : cntA m N (askd as p q) = cntA m N as + 1 := by
  unfold cntA
  refine sm_one p0 p1 ?_ ?_
  · intro i i0 i1 hi
    have : askd as p q i = as i := by unfold askd; rw [if_neg hi]
    rw [this]
  · refine sm_one (p := q - m) (by omega) (by omega) ?_ ?_
    · intro i i0 i1 hi
      have h := Tq_askd as (p := p) (q := q) (k := p) (z := m + i) (by omega) (by omega)
      unfold Tq at h
      by_cases e : (as p).testBit (m + i).toNat = true
      · rw [if_pos e, if_pos (h.2 (Or.inl e))]
      · rw [if_neg e, if_neg]
        intro e2
        rcases h.1 e2 with e3 | e3
        · exact e e3
        · omega
    · have e : m + (q - m) = q := by omega
      have h := Tq_askd as (p := p) (q := q) (k := p) (z := q) (by omega) (by omega)
      unfold Tq at h hn
      rw [e, if_neg hn, if_pos (h.2 (Or.inr ⟨rfl, rfl⟩))]
      rfl
def asF (f : Fn) : Int → Nat := fun k => (f k).toNat
def CI (m : Int) (c μ a : Fn) : Prop := DA c m (c 0) μ (asF a) ∧ (∀ k, 0 ≤ k → k < 7 → 0 ≤ a k ∧ a k < 128) ∧ (∀ k, 0 ≤ k → k < 7 → -1 ≤ μ k ∧ μ k < 7)
def wedU (μ : Fn) (p q : Int) : Fn := if μ q = -1 then u (u μ p q) q p else u (u (u μ (μ q) (-1)) p q) q p
theorem wedU_F {μ : Fn} {p q k : Int} (h : 0 ≤ k) : wedU μ p q k = wedF μ p q k := by
  unfold wedU wedF
  by_cases e1 : k = q
  · rw [if_pos e1, e1]
    split <;> rw [u_eq]
  · rw [if_neg e1]
    by_cases e2 : k = p
    · rw [if_pos e2, e2]
      rw [e2] at e1
      split <;> rw [u_ne _ _ e1, u_eq]
    · rw [if_neg e2]
      by_cases e3 : μ q = -1
      · rw [if_pos e3, u_ne _ _ e1, u_ne _ _ e2, if_neg (by omega)]
      · rw [if_neg e3, u_ne _ _ e1, u_ne _ _ e2]
        by_cases e4 : k = μ q
        · rw [if_pos e4, e4, u_eq]
        · rw [if_neg e4, u_ne _ _ e4]
theorem asF_u {a : Fn} {p q : Int} : asF (u a p ((asF a p ||| 2 ^ q.toNat : Nat) : Int)) = askd (asF a) p q := by
  funext k
  unfold asF askd
  by_cases e : k = p
  · rw [if_pos e, e, u_eq, Int.toNat_natCast]
  · rw [if_neg e, u_ne _ _ e]
/-- one asking keeps all that is so -/
theorem CI_step {m : Int} {c μ a : Fn} {p : Int} (h : CI m c μ a) (hi : WI c) (hm0 : 0 ≤ m) (hm1 : m ≤ 6) (hm2 : m ≤ c 0) (p0 : 0 ≤ p) (p1 : p < m) (hp : μ p = -1) (hq : ¬ nxN c p (asF a p) m (c 0 - m).toNat = -1) : m ≤ nxN c p (asF a p) m (c 0 - m).toNat ∧ nxN c p (asF a p) m (c 0 - m).toNat < c 0 ∧ ¬ Tq (asF a) p (nxN c p (asF a p) m (c 0 - m).toNat) ∧ CI m c (if μ (nxN c p (asF a p) m (c 0 - m).toNat) = -1 ∨ ahB c (nxN c p (asF a p) m (c 0 - m).toNat) p (μ (nxN c p (asF a p) m (c 0 - m).toNat)) = true then wedU μ p (nxN c p (asF a p) m (c 0 - m).toNat) else μ) (u a p ((asF a p ||| 2 ^ (nxN c p (asF a p) m (c 0 - m).toNat).toNat : Nat) : Int)) := by
  have hc := WI_c hi
  have r := nx_r (c := c) (p := p) (a := asF a p) hm0 (c 0 - m).toNat
  have b := nx_b (c := c) (p := p) (a := asF a p) hm0 (c 0 - m).toNat
  generalize nxN c p (asF a p) m (c 0 - m).toNat = q at *
  have r2 : m ≤ q ∧ q < c 0 ∧ ¬ (asF a p).testBit q.toNat = true := by
    rcases r with r | r
    · exact absurd r hq
    · exact ⟨r.1, by omega, r.2.2⟩
  have hb : ∀ z, m ≤ z → z < c 0 → ¬ Tq (asF a) p z → z = q ∨ ah c p q z := fun z z0 z1 z2 => (b z z0 (by omega) z2).2
  refine ⟨r2.1, r2.2.1, r2.2.2, ?_, ?_, ?_⟩
  · rw [asF_u]
    by_cases y : μ q = -1 ∨ ahB c q p (μ q) = true
    · rw [if_pos y]
      refine DA_cg hm0 hm2 (fun k k0 _ => wedU_F k0) (fun _ _ _ => rfl) (DA_yes h.1 hm0 p0 p1 hp r2.1 r2.2.1 hb ?_)
      rcases y with y | y
      · exact Or.inl y
      · exact Or.inr (ahB_t.1 y)
    · rw [if_neg y]
      exact DA_no h.1 hm0 p0 p1 hp r2.1 r2.2.1 hb ⟨fun e => y (Or.inl e), fun e => y (Or.inr (ahB_t.2 e))⟩
  · intro k k0 k1
    by_cases e : k = p
    · rw [e, u_eq]
      have a1 := h.2.1 p p0 (by omega)
      have l1 : asF a p < 2 ^ 7 := by unfold asF; omega
      have l2 : 2 ^ q.toNat < 2 ^ 7 := Nat.pow_lt_pow_right (by omega) (by omega)
      have l := Nat.or_lt_two_pow l1 l2
      omega
    · rw [u_ne _ _ e]
      exact h.2.1 k k0 k1
  · intro k k0 k1
    have v := h.2.2 k k0 k1
    split
    · rw [wedU_F k0]
      unfold wedF
      split
      · omega
      · split
        · omega
        · split <;> omega
    · exact v
section
variable (x : m_X) (F G : Nat → Fn)
def ag9 (F F1 : Nat → Fn) : Prop := ∀ b, ¬ b = 139 → ¬ b = 140 → F1 b = F b
theorem ag9_tr {F F1 F2 : Nat → Fn} (h1 : ag9 F F1) (h2 : ag9 F1 F2) : ag9 F F2 := fun b a c => (h2 b a c).trans (h1 b a c)
theorem C_part {q : Int} (q0 : 0 ≤ q) (q1 : q < 7) (h0 : -1 ≤ F 139 q) (h1 : F 139 q < 7) : m_M x k_Weddings_part [.ref 138, .int (jI q)] (mk F G) = some (none, mk (sA F 139 (if F 139 q = -1 then F 139 else u (F 139) (F 139 q) (-1))) G) := by
  have e : sA F 139 (F 139) = F := by
    funext b
    by_cases q : b = 139
    · rw [q, sA_eq]
    · rw [sA_ne _ _ q]
  rw [E_Weddings_part, isO_138, if_pos rfl, C_mateOf x F G q0 q1, b_I]
  by_cases y : F 139 q = -1
  · rw [if_pos (by rw [y]; decide), if_pos y, e]
  · rw [if_neg (by rw [lit_0, jI_lt (by omega) (by omega) (by omega) (by omega)]; omega), if_neg (by rw [lit_7, jI_le (by omega) (by omega) (by omega) (by omega)]; omega), fR_138_0, Option.bind_some, show (-1 : Int32) = jI (-1) from rfl, is_139 _ _ _ (by omega) h1, Option.bind_some, if_neg y]
theorem C_asksOn {m p : Int} (hi : WI (F 2)) (h : CI m (F 2) (F 139) (F 140)) (hm0 : 0 ≤ m) (hm1 : m ≤ 6) (hm2 : m ≤ F 2 0) (p0 : 0 ≤ p) (p1 : p < m) (hp : F 139 p = -1) : (nxN (F 2) p (asF (F 140) p) m (F 2 0 - m).toNat = -1 ∧ m_M x k_Weddings_asksOn [.ref 138, .ref 1, .int (jI m), .int (jI p)] (mk F G) = some (some (.int (jI 0)), mk F G)) ∨ ∃ F2, m_M x k_Weddings_asksOn [.ref 138, .ref 1, .int (jI m), .int (jI p)] (mk F G) = some (some (.int (jI 1)), mk F2 G) ∧ CI m (F 2) (F2 139) (F2 140) ∧ ag9 F F2 ∧ cntA m (F 2 0) (asF (F2 140)) = cntA m (F 2 0) (asF (F 140)) + 1 := by
  have hc := WI_c hi
  have ap := h.2.1 p p0 (by omega)
  have ea : F 140 p = ((asF (F 140) p : Nat) : Int) := by unfold asF; omega
  have nx := C_next x F G (p := p) (m := m) (a := asF (F 140) p) hi ea hm0 hm2 p0 (by omega)
  rw [E_Weddings_asksOn, isO_138, if_pos rfl, nx, b_I]
  by_cases q0 : nxN (F 2) p (asF (F 140) p) m (F 2 0 - m).toNat = -1
  · refine Or.inl ⟨q0, ?_⟩
    rw [if_pos (by rw [q0]; decide)]
    rfl
  · right
    have st := CI_step h hi hm0 hm1 hm2 p0 p1 hp q0
    generalize nxN (F 2) p (asF (F 140) p) m (F 2 0 - m).toNat = q at *
    have vq := h.2.2 q (by omega) (by omega)
    have wr := C_wouldRather x (sA F 140 (u (F 140) p ((asF (F 140) p ||| 2 ^ q.toNat : Nat) : Int))) G (p := q) (o := p) (by rw [sA_ne _ _ (by omega)]; exact hi) (by omega) (by omega) p0 (by omega) (by rw [sA_ne _ _ (by omega)]; omega) (by rw [sA_ne _ _ (by omega)]; omega)
    rw [sA_ne _ _ (by omega), sA_ne _ _ (by omega)] at wr
    have eq : q = ((q.toNat : Nat) : Int) := by omega
    have esh : jI ((asF (F 140) p : Nat) : Int) ||| (jI 1 <<< (jI q &&& jI 31)) = jI ((asF (F 140) p ||| 2 ^ q.toNat : Nat) : Int) := by
      rw [eq, nshl (by omega), nor, Int.toNat_natCast]
    rw [if_neg (by rw [lit_0, jI_lt (by omega) (by omega) (by omega) (by omega)]; omega), lit_7, if_neg (by rw [jI_le (by omega) (by omega) (by omega) (by omega)]; omega), lit_0, if_neg (by rw [jI_lt (by omega) (by omega) (by omega) (by omega)]; omega), if_pos (by rw [jI_lt (by omega) (by omega) (by omega) (by omega)]; omega), fR_138_1, Option.bind_some, ia_140 x F G p0 (by omega), Option.bind_some, ea, lit_1, lit_31, esh, is_140 _ _ _ p0 (by omega), Option.bind_some, wr, b_I]
    have hcn := cntA_askd (as := asF (F 140)) (N := F 2 0) hm0 p0 p1 st.1 st.2.1 st.2.2.1
    by_cases y : F 139 q = -1 ∨ ahB (F 2) q p (F 139 q) = true
    · have st4 := st.2.2.2
      rw [if_pos y] at st4
      rw [if_pos y, if_neg j10]
      generalize hF1 : sA F 140 (u (F 140) p ((asF (F 140) p ||| 2 ^ q.toNat : Nat) : Int)) = F1
      have e139 : F1 139 = F 139 := by rw [← hF1, sA_ne _ _ (by omega)]
      have e140 : F1 140 = u (F 140) p ((asF (F 140) p ||| 2 ^ q.toNat : Nat) : Int) := by rw [← hF1, sA_eq]
      have ag1 : ag9 F F1 := by
        intro b b1 b2
        rw [← hF1, sA_ne _ _ b2]
      rw [C_part x F1 G (q := q) (by omega) (by omega) (by rw [e139]; omega) (by rw [e139]; omega), b_V, fR_138_0, Option.bind_some, is_139 _ _ _ p0 (by omega), Option.bind_some, fR_138_0, Option.bind_some, is_139 _ _ _ (by omega) (by omega), Option.bind_some]
      refine ⟨_, rfl, ?_, ?_, ?_⟩
      · have ew : sA (sA (sA F1 139 (if F1 139 q = -1 then F1 139 else u (F1 139) (F1 139 q) (-1))) 139 (u (sA F1 139 (if F1 139 q = -1 then F1 139 else u (F1 139) (F1 139 q) (-1)) 139) p q)) 139 (u (sA (sA F1 139 (if F1 139 q = -1 then F1 139 else u (F1 139) (F1 139 q) (-1))) 139 (u (sA F1 139 (if F1 139 q = -1 then F1 139 else u (F1 139) (F1 139 q) (-1)) 139) p q) 139) q p) 139 = wedU (F 139) p q := by
          rw [sA_eq, sA_eq, sA_eq, e139]
          unfold wedU
          split <;> rfl
        rw [ew, sA_ne (b := 140) _ _ (by omega), sA_ne (b := 140) _ _ (by omega), sA_ne (b := 140) _ _ (by omega), e140]
        exact st4
      · intro b b1 b2
        rw [sA_ne _ _ b1, sA_ne _ _ b1, sA_ne _ _ b1]
        exact ag1 b b1 b2
      · rw [sA_ne (b := 140) _ _ (by omega), sA_ne (b := 140) _ _ (by omega), sA_ne (b := 140) _ _ (by omega), e140, asF_u]
        exact hcn
    · have st4 := st.2.2.2
      rw [if_neg y] at st4
      rw [if_neg y, if_pos rfl]
      refine ⟨_, rfl, ?_, ?_, ?_⟩
      · rw [sA_eq, sA_ne _ _ (by omega)]
        exact st4
      · intro b b1 b2
        rw [sA_ne _ _ b2]
      · rw [sA_eq, asF_u]
        exact hcn
end
