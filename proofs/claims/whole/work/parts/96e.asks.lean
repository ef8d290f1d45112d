-- the lexer: the model's questions, by the class's kinds
def BY (T : Fn) (n : Int) : Prop := ∀ i, 0 ≤ i → i < n → 0 ≤ T i ∧ T i ≤ 255
theorem kd_r (T : Fn) (n p : Int) : 0 ≤ kd T n p ∧ kd T n p ≤ 53 := by
  unfold kd
  split
  · omega
  · split
    · have := kw_r (bl T (rn (fun i => lb (T i)) (n - p).toNat p - p).toNat p)
      omega
    · split
      · omega
      · have := sy_r (v := T p)
        split <;> omega
theorem tok_0 {T : Fn} {n p : Int} : tok T n p = 0 ↔ kd T n p = 52 ∨ (p < n ∧ tok T n p = 0) := by
  constructor
  · intro h
    by_cases q : n ≤ p
    · left; unfold kd; rw [if_pos q]
    · exact Or.inr ⟨by omega, h⟩
  · rintro (h | h)
    · by_cases q : n ≤ p
      · unfold tok; rw [if_pos q]
      · exfalso
        unfold kd at h
        rw [if_neg q] at h
        split at h
        · have := kw_r (bl T (rn (fun i => lb (T i)) (n - p).toNat p - p).toNat p)
          omega
        · split at h
          · omega
          · have := sy_r (v := T p)
            split at h <;> omega
    · exact h.2
theorem sg_0 : ∀ v : Fin 256, lb (v.val : Int) = false → db (v.val : Int) = false → ¬ (if isSg (v.val : Int) = true then (v.val : Int) else 3) = 0 ∧ ¬ (if isSg (v.val : Int) = true then (v.val : Int) else 3) = 1 ∧ ¬ (if isSg (v.val : Int) = true then (v.val : Int) else 3) = 2 ∧ ¬ (if isSg (v.val : Int) = true then (v.val : Int) else 3) = 4 ∧ ¬ (if isSg (v.val : Int) = true then (v.val : Int) else 3) = 5 ∧ 0 ≤ (if isSg (v.val : Int) = true then (v.val : Int) else 3) ∧ (if isSg (v.val : Int) = true then (v.val : Int) else 3) ≤ 255 := by decide +kernel
/-- what stands at p, by both -/
theorem kt {T : Fn} {n p : Int} (hB : BY T n) (p0 : 0 ≤ p) : (n ≤ p ∧ kd T n p = 52 ∧ tok T n p = 0) ∨ (p < n ∧ lb (T p) = true ∧ tok T n p = 2 ∧ kd T n p = kw (bl T (rn (fun i => lb (T i)) (n - p).toNat p - p).toNat p)) ∨ (p < n ∧ kd T n p = 51 ∧ tok T n p = 1) ∨ (p < n ∧ ∃ c : Nat, c < 13 ∧ kd T n p = [41, 42, 43, 44, 45, 46, 47, 37, 38, 39, 40, 48, 49].getD c 0 ∧ tok T n p = [43, 45, 42, 47, 40, 41, 59, 60, 62, 61, 35, 4, 5].getD c 0) ∨ (p < n ∧ kd T n p = 53 ∧ (tok T n p = 3 ∨ tok T n p = 58)) := by
  by_cases q : n ≤ p
  · left
    refine ⟨q, ?_, ?_⟩
    · unfold kd; rw [if_pos q]
    · unfold tok; rw [if_pos q]
  · right
    have b := hB p p0 (by omega)
    have eT : (((T p).toNat : Nat) : Int) = T p := by omega
    by_cases l : lb (T p) = true
    · left
      have nd : ¬ db (T p) = true := by
        unfold lb at l
        unfold db
        simp only [decide_eq_true_eq] at l ⊢
        omega
      refine ⟨by omega, l, ?_, ?_⟩
      · unfold tok; rw [if_neg q, if_neg nd, if_pos l]
      · unfold kd; rw [if_neg q, if_pos l]
    · right
      by_cases d : db (T p) = true
      · left
        refine ⟨by omega, ?_, ?_⟩
        · unfold kd; rw [if_neg q, if_neg l, if_pos d]
        · unfold tok; rw [if_neg q, if_pos d]
      · right
        have s60 := sy_60 ⟨(T p).toNat, by omega⟩
        simp only [eT] at s60
        have l' : lb (T p) = false := by simpa using l
        have d' : db (T p) = false := by simpa using d
        have ek : kd T n p = if (sy (T p) = 37 ∨ sy (T p) = 38) ∧ (p + 1 < n ∧ T (p + 1) = 61) then sy (T p) + 11 else sy (T p) := by unfold kd; rw [if_neg q, if_neg l, if_neg d]
        have et : tok T n p = if (T p = 60 ∨ T p = 62) ∧ (p + 1 < n ∧ T (p + 1) = 61) then (if T p = 60 then 4 else 5) else if isSg (T p) = true then T p else 3 := by unfold tok; rw [if_neg q, if_neg d, if_neg l]
        by_cases e : (T p = 60 ∨ T p = 62) ∧ (p + 1 < n ∧ T (p + 1) = 61)
        · left
          refine ⟨by omega, ?_⟩
          rw [if_pos e] at et
          rw [if_pos (by omega)] at ek
          by_cases e6 : T p = 60
          · refine ⟨11, by omega, ?_, ?_⟩
            · rw [ek]; show _ = 48; omega
            · rw [et, if_pos e6]; rfl
          · refine ⟨12, by omega, ?_, ?_⟩
            · rw [ek]; show _ = 49; omega
            · rw [et, if_neg e6]; rfl
        · rw [if_neg e] at et
          rw [if_neg (by omega)] at ek
          have f : ∀ v : Fin 256, lb (v.val : Int) = false → db (v.val : Int) = false → (∃ c : Fin 11, sy (v.val : Int) = [41, 42, 43, 44, 45, 46, 47, 37, 38, 39, 40, 48, 49].getD c.val 0 ∧ (if isSg (v.val : Int) = true then (v.val : Int) else 3) = [43, 45, 42, 47, 40, 41, 59, 60, 62, 61, 35, 4, 5].getD c.val 0) ∨ (sy (v.val : Int) = 53 ∧ ((if isSg (v.val : Int) = true then (v.val : Int) else 3) = 3 ∨ (if isSg (v.val : Int) = true then (v.val : Int) else 3) = 58)) := by decide +kernel
          have g := f ⟨(T p).toNat, by omega⟩
          simp only [eT] at g
          rcases g l' d' with ⟨c, c1, c2⟩ | ⟨c1, c2⟩
          · left
            exact ⟨by omega, c.val, by omega, by rw [ek, c1], by rw [et, c2]⟩
          · right
            exact ⟨by omega, by rw [ek, c1], by rw [et]; exact c2⟩
theorem tk_all : ∀ c e : Fin 13, ([43, 45, 42, 47, 40, 41, 59, 60, 62, 61, 35, 4, 5].getD c.val (0 : Int) = [43, 45, 42, 47, 40, 41, 59, 60, 62, 61, 35, 4, 5].getD e.val 0 ↔ [41, 42, 43, 44, 45, 46, 47, 37, 38, 39, 40, 48, 49].getD c.val (0 : Int) = [41, 42, 43, 44, 45, 46, 47, 37, 38, 39, 40, 48, 49].getD e.val 0) ∧ (4 ≤ [43, 45, 42, 47, 40, 41, 59, 60, 62, 61, 35, 4, 5].getD c.val (0 : Int) ∧ [43, 45, 42, 47, 40, 41, 59, 60, 62, 61, 35, 4, 5].getD c.val (0 : Int) ≤ 62 ∧ ¬ [43, 45, 42, 47, 40, 41, 59, 60, 62, 61, 35, 4, 5].getD c.val (0 : Int) = 58) ∧ 37 ≤ [41, 42, 43, 44, 45, 46, 47, 37, 38, 39, 40, 48, 49].getD c.val (0 : Int) ∧ [41, 42, 43, 44, 45, 46, 47, 37, 38, 39, 40, 48, 49].getD c.val (0 : Int) ≤ 49 := by decide +kernel
theorem tk_c {c : Nat} (h : c < 13) : (4 ≤ [43, 45, 42, 47, 40, 41, 59, 60, 62, 61, 35, 4, 5].getD c (0 : Int) ∧ [43, 45, 42, 47, 40, 41, 59, 60, 62, 61, 35, 4, 5].getD c (0 : Int) ≤ 62 ∧ ¬ [43, 45, 42, 47, 40, 41, 59, 60, 62, 61, 35, 4, 5].getD c (0 : Int) = 58) ∧ 37 ≤ [41, 42, 43, 44, 45, 46, 47, 37, 38, 39, 40, 48, 49].getD c (0 : Int) ∧ [41, 42, 43, 44, 45, 46, 47, 37, 38, 39, 40, 48, 49].getD c (0 : Int) ≤ 49 := (tk_all ⟨c, h⟩ ⟨c, h⟩).2
theorem kt_c {T : Fn} {n p : Int} (hB : BY T n) (p0 : 0 ≤ p) (e : Fin 13) : tok T n p = [43, 45, 42, 47, 40, 41, 59, 60, 62, 61, 35, 4, 5].getD e.val 0 ↔ kd T n p = [41, 42, 43, 44, 45, 46, 47, 37, 38, 39, 40, 48, 49].getD e.val 0 := by
  have te := (tk_all e e).2
  rcases kt hB p0 with ⟨_, h1, h2⟩ | ⟨_, _, h1, h2⟩ | ⟨_, h1, h2⟩ | ⟨_, c, c1, c2, c3⟩ | ⟨_, h1, h2⟩
  · omega
  · have := kw_r (bl T (rn (fun i => lb (T i)) (n - p).toNat p - p).toNat p)
    omega
  · omega
  · have := (tk_all ⟨c, c1⟩ e).1
    rw [c2, c3]
    exact this
  · omega
theorem kt_1 {T : Fn} {n p : Int} (hB : BY T n) (p0 : 0 ≤ p) : tok T n p = 1 ↔ kd T n p = 51 := by
  rcases kt hB p0 with ⟨_, h1, h2⟩ | ⟨_, _, h1, h2⟩ | ⟨_, h1, h2⟩ | ⟨_, c, c1, c2, c3⟩ | ⟨_, h1, h2⟩
  · omega
  · have := kw_r (bl T (rn (fun i => lb (T i)) (n - p).toNat p - p).toNat p)
    omega
  · omega
  · have := tk_c c1
    omega
  · omega
theorem kt_0 {T : Fn} {n p : Int} (hB : BY T n) (p0 : 0 ≤ p) : tok T n p = 0 ↔ kd T n p = 52 := by
  rcases kt hB p0 with ⟨_, h1, h2⟩ | ⟨_, _, h1, h2⟩ | ⟨_, h1, h2⟩ | ⟨_, c, c1, c2, c3⟩ | ⟨_, h1, h2⟩
  · omega
  · have := kw_r (bl T (rn (fun i => lb (T i)) (n - p).toNat p - p).toNat p)
    omega
  · omega
  · have := tk_c c1
    omega
  · omega
theorem tok_r {T : Fn} {n p : Int} (hB : BY T n) (p0 : 0 ≤ p) : 0 ≤ tok T n p ∧ tok T n p ≤ 62 := by
  rcases kt hB p0 with ⟨_, h1, h2⟩ | ⟨_, _, h1, h2⟩ | ⟨_, h1, h2⟩ | ⟨_, c, c1, c2, c3⟩ | ⟨_, h1, h2⟩
  · omega
  · omega
  · omega
  · have := tk_c c1
    omega
  · omega
theorem mw_eq (T : Fn) (n p : Int) : mwR T (n - p).toNat p 0 = vr (bl T (rn (fun i => lb (T i)) (n - p).toNat p - p).toNat p).reverse := by
  have h := mwR_vr T (n - p).toNat p []
  rw [List.append_nil] at h
  exact h
theorem byL_rev {l : List Int} (h : byL l) : byL l.reverse := fun b hb => h b (List.mem_reverse.1 hb)
theorem kt_w {T : Fn} {n p : Int} (hB : BY T n) (p0 : 0 ≤ p) {j : Nat} (hj : j < 37) : (tok T n p = 2 ∧ mwR T (n - p).toNat p 0 = vr (SP.getD j []).reverse) ↔ kd T n p = (j : Int) := by
  have sj := kw_SP ⟨j, hj⟩
  have bj := SP_byL ⟨j, hj⟩
  simp only at sj bj
  rw [mw_eq]
  rcases kt hB p0 with ⟨_, h1, h2⟩ | ⟨_, _, h1, h2⟩ | ⟨_, h1, h2⟩ | ⟨_, c, c1, c2, c3⟩ | ⟨_, h1, h2⟩
  · omega
  · rw [h2, kw_iff hj]
    constructor
    · intro ⟨_, h⟩
      have := vr_inj (SP.getD j []).reverse (bl T (rn (fun i => lb (T i)) (n - p).toNat p - p).toNat p).reverse (byL_rev bj) (byL_rev (bl_byL T (n - p).toNat p)) (by rw [List.length_reverse]; exact sj.2) h
      have := congrArg List.reverse this
      rw [List.reverse_reverse, List.reverse_reverse] at this
      exact this
    · intro h
      exact ⟨h1, by rw [h]⟩
  · omega
  · have := tk_c c1
    omega
  · omega
theorem mw_r (T : Fn) (n p : Int) : 0 ≤ mwR T (n - p).toNat p 0 ∧ mwR T (n - p).toNat p 0 ≤ 1152921504606846976 := by
  rw [mw_eq]
  have := vr_r _ (byL_rev (bl_byL T (n - p).toNat p))
  exact ⟨this.1, this.2.1⟩
/-- the class's number and the model's -/
def NR (c m : Int) : Prop := (c = m ∧ 0 ≤ m ∧ m ≤ 9999) ∨ (c = 10000 ∧ 10000 ≤ m ∧ m ≤ 1000010)
theorem NR_f (T : Fn) : ∀ (k : Nat) (p c m : Int), NR c m → NR (cnR T k p c) (mnR T k p m) := by
  intro k
  induction k with
  | zero => intro p c m h; exact h
  | succ k ih =>
    intro p c m h
    rw [cnR, mnR]
    by_cases d : db (T p) = true
    · rw [if_pos d, if_pos d]
      apply ih
      unfold db at d
      simp only [decide_eq_true_eq] at d
      unfold NR at *
      by_cases q : m ≤ 99999
      · rw [if_pos q]; omega
      · rw [if_neg q]; omega
    · rw [if_neg d, if_neg d]
      exact h
theorem NR_0 (T : Fn) (k : Nat) (p : Int) : NR (cnR T k p 0) (mnR T k p 0) := NR_f T k p 0 0 (Or.inl ⟨rfl, by omega, by omega⟩)
section
variable (x : m_X) (F G : Nat → Fn)
theorem M_w2 {a b : Int} (ha : 0 < a ∧ a < 256) (hb : 0 < b ∧ b < 256) : m_M x k_M_w2 [.int (jI a), .int (jI b)] (mk F G) = some (some (.long (jL (vr [b, a]))), mk F G) := by
  have e : vr [b, a] = a * 256 + b := by simp [vr]; omega
  rw [E_M_w2, jI_toL (z := a) (by omega) (by omega), w8 (by omega) (by omega) (by omega) (by omega), e]
theorem M_w3 {a b c : Int} (ha : 0 < a ∧ a < 256) (hb : 0 < b ∧ b < 256) (hc : 0 < c ∧ c < 256) : m_M x k_M_w3 [.int (jI a), .int (jI b), .int (jI c)] (mk F G) = some (some (.long (jL (vr [c, b, a]))), mk F G) := by
  have e : vr [b, a] = a * 256 + b := by simp [vr]; omega
  have e2 : vr [c, b, a] = vr [b, a] * 256 + c := by
    show (if vr [b, a] < 281474976710656 then vr [b, a] * 256 + c else 1152921504606846976) = _
    rw [if_pos (by omega)]
  rw [E_M_w3, M_w2 x F G ha hb, b_L, w8 (by omega) (by omega) (by omega) (by omega), e2]
theorem M_w4 {a b c d : Int} (ha : 0 < a ∧ a < 256) (hb : 0 < b ∧ b < 256) (hc : 0 < c ∧ c < 256) (hd : 0 < d ∧ d < 256) : m_M x k_M_w4 [.int (jI a), .int (jI b), .int (jI c), .int (jI d)] (mk F G) = some (some (.long (jL (vr [d, c, b, a]))), mk F G) := by
  have v := vr_s [c, b, a] (by intro z hz; simp at hz; rcases hz with hz | hz | hz <;> omega) (by simp)
  have v0 := (vr_r [c, b, a] (by intro z hz; simp at hz; rcases hz with hz | hz | hz <;> omega)).1
  have e3 : [c, b, a].length = 3 := rfl
  have e4 : ((256 ^ 3 : Nat) : Int) = 16777216 := by decide
  rw [e3, e4] at v
  have e2 : vr [d, c, b, a] = vr [c, b, a] * 256 + d := by
    show (if vr [c, b, a] < 281474976710656 then vr [c, b, a] * 256 + d else 1152921504606846976) = _
    rw [if_pos (by omega)]
  rw [E_M_w4, M_w3 x F G ha hb hc, b_L, w8 (by omega) (by omega) (by omega) (by omega), e2]

theorem W_chill : m_M x k_M_w5 [.int 99, .int 104, .int 105, .int 108, .int 108] (mk F G) = some (some (.long (jL (vr (SP.getD 0 []).reverse))), mk F G) := by
  rw [E_M_w5, E_M_w4, E_M_w3, E_M_w2, b_L, b_L, b_L]
  exact congrArg (fun v => some (some (Value.long v), mk F G)) (by decide +kernel)
theorem W_fine : m_M x k_M_w4 [.int 102, .int 105, .int 110, .int 101] (mk F G) = some (some (.long (jL (vr (SP.getD 1 []).reverse))), mk F G) := by
  rw [E_M_w4, E_M_w3, E_M_w2, b_L, b_L]
  exact congrArg (fun v => some (some (Value.long v), mk F G)) (by decide +kernel)
theorem W_grows : m_M x k_M_w5 [.int 103, .int 114, .int 111, .int 119, .int 115] (mk F G) = some (some (.long (jL (vr (SP.getD 2 []).reverse))), mk F G) := by
  rw [E_M_w5, E_M_w4, E_M_w3, E_M_w2, b_L, b_L, b_L]
  exact congrArg (fun v => some (some (Value.long v), mk F G)) (by decide +kernel)
theorem W_pawn : m_M x k_M_w4 [.int 112, .int 97, .int 119, .int 110] (mk F G) = some (some (.long (jL (vr (SP.getD 3 []).reverse))), mk F G) := by
  rw [E_M_w4, E_M_w3, E_M_w2, b_L, b_L]
  exact congrArg (fun v => some (some (Value.long v), mk F G)) (by decide +kernel)
theorem W_one : m_M x k_M_w3 [.int 111, .int 110, .int 101] (mk F G) = some (some (.long (jL (vr (SP.getD 4 []).reverse))), mk F G) := by
  rw [E_M_w3, E_M_w2, b_L]
  exact congrArg (fun v => some (some (Value.long v), mk F G)) (by decide +kernel)
theorem W_owe : m_M x k_M_w3 [.int 111, .int 119, .int 101] (mk F G) = some (some (.long (jL (vr (SP.getD 5 []).reverse))), mk F G) := by
  rw [E_M_w3, E_M_w2, b_L]
  exact congrArg (fun v => some (some (Value.long v), mk F G)) (by decide +kernel)
theorem W_do : m_M x k_M_w2 [.int 100, .int 111] (mk F G) = some (some (.long (jL (vr (SP.getD 6 []).reverse))), mk F G) := by
  rw [E_M_w2]
  exact congrArg (fun v => some (some (Value.long v), mk F G)) (by decide +kernel)
theorem W_pass : m_M x k_M_w4 [.int 112, .int 97, .int 115, .int 115] (mk F G) = some (some (.long (jL (vr (SP.getD 7 []).reverse))), mk F G) := by
  rw [E_M_w4, E_M_w3, E_M_w2, b_L, b_L]
  exact congrArg (fun v => some (some (Value.long v), mk F G)) (by decide +kernel)
theorem W_lose : m_M x k_M_w4 [.int 108, .int 111, .int 115, .int 101] (mk F G) = some (some (.long (jL (vr (SP.getD 8 []).reverse))), mk F G) := by
  rw [E_M_w4, E_M_w3, E_M_w2, b_L, b_L]
  exact congrArg (fun v => some (some (Value.long v), mk F G)) (by decide +kernel)
theorem W_pledge : m_M x k_M_w6 [.int 112, .int 108, .int 101, .int 100, .int 103, .int 101] (mk F G) = some (some (.long (jL (vr (SP.getD 9 []).reverse))), mk F G) := by
  rw [E_M_w6, E_M_w5, E_M_w4, E_M_w3, E_M_w2, b_L, b_L, b_L, b_L]
  exact congrArg (fun v => some (some (Value.long v), mk F G)) (by decide +kernel)
theorem W_redeem : m_M x k_M_w6 [.int 114, .int 101, .int 100, .int 101, .int 101, .int 109] (mk F G) = some (some (.long (jL (vr (SP.getD 10 []).reverse))), mk F G) := by
  rw [E_M_w6, E_M_w5, E_M_w4, E_M_w3, E_M_w2, b_L, b_L, b_L, b_L]
  exact congrArg (fun v => some (some (Value.long v), mk F G)) (by decide +kernel)
theorem W_day : m_M x k_M_w3 [.int 100, .int 97, .int 121] (mk F G) = some (some (.long (jL (vr (SP.getD 11 []).reverse))), mk F G) := by
  rw [E_M_w3, E_M_w2, b_L]
  exact congrArg (fun v => some (some (Value.long v), mk F G)) (by decide +kernel)
theorem W_frost : m_M x k_M_w5 [.int 102, .int 114, .int 111, .int 115, .int 116] (mk F G) = some (some (.long (jL (vr (SP.getD 12 []).reverse))), mk F G) := by
  rw [E_M_w5, E_M_w4, E_M_w3, E_M_w2, b_L, b_L, b_L]
  exact congrArg (fun v => some (some (Value.long v), mk F G)) (by decide +kernel)
theorem W_who : m_M x k_M_w3 [.int 119, .int 104, .int 111] (mk F G) = some (some (.long (jL (vr (SP.getD 13 []).reverse))), mk F G) := by
  rw [E_M_w3, E_M_w2, b_L]
  exact congrArg (fun v => some (some (Value.long v), mk F G)) (by decide +kernel)
theorem W_hand : m_M x k_M_w4 [.int 104, .int 97, .int 110, .int 100] (mk F G) = some (some (.long (jL (vr (SP.getD 14 []).reverse))), mk F G) := by
  rw [E_M_w4, E_M_w3, E_M_w2, b_L, b_L]
  exact congrArg (fun v => some (some (Value.long v), mk F G)) (by decide +kernel)
theorem W_coins : m_M x k_M_w5 [.int 99, .int 111, .int 105, .int 110, .int 115] (mk F G) = some (some (.long (jL (vr (SP.getD 15 []).reverse))), mk F G) := by
  rw [E_M_w5, E_M_w4, E_M_w3, E_M_w2, b_L, b_L, b_L]
  exact congrArg (fun v => some (some (Value.long v), mk F G)) (by decide +kernel)
theorem W_cold : m_M x k_M_w4 [.int 99, .int 111, .int 108, .int 100] (mk F G) = some (some (.long (jL (vr (SP.getD 16 []).reverse))), mk F G) := by
  rw [E_M_w4, E_M_w3, E_M_w2, b_L, b_L]
  exact congrArg (fun v => some (some (Value.long v), mk F G)) (by decide +kernel)
theorem W_rights : m_M x k_M_w6 [.int 114, .int 105, .int 103, .int 104, .int 116, .int 115] (mk F G) = some (some (.long (jL (vr (SP.getD 17 []).reverse))), mk F G) := by
  rw [E_M_w6, E_M_w5, E_M_w4, E_M_w3, E_M_w2, b_L, b_L, b_L, b_L]
  exact congrArg (fun v => some (some (Value.long v), mk F G)) (by decide +kernel)
theorem W_bare : m_M x k_M_w4 [.int 98, .int 97, .int 114, .int 101] (mk F G) = some (some (.long (jL (vr (SP.getD 18 []).reverse))), mk F G) := by
  rw [E_M_w4, E_M_w3, E_M_w2, b_L, b_L]
  exact congrArg (fun v => some (some (Value.long v), mk F G)) (by decide +kernel)
theorem W_work : m_M x k_M_w4 [.int 119, .int 111, .int 114, .int 107] (mk F G) = some (some (.long (jL (vr (SP.getD 19 []).reverse))), mk F G) := by
  rw [E_M_w4, E_M_w3, E_M_w2, b_L, b_L]
  exact congrArg (fun v => some (some (Value.long v), mk F G)) (by decide +kernel)
theorem W_size : m_M x k_M_w4 [.int 115, .int 105, .int 122, .int 101] (mk F G) = some (some (.long (jL (vr (SP.getD 21 []).reverse))), mk F G) := by
  rw [E_M_w4, E_M_w3, E_M_w2, b_L, b_L]
  exact congrArg (fun v => some (some (Value.long v), mk F G)) (by decide +kernel)
theorem W_mark : m_M x k_M_w4 [.int 109, .int 97, .int 114, .int 107] (mk F G) = some (some (.long (jL (vr (SP.getD 22 []).reverse))), mk F G) := by
  rw [E_M_w4, E_M_w3, E_M_w2, b_L, b_L]
  exact congrArg (fun v => some (some (Value.long v), mk F G)) (by decide +kernel)
theorem W_from : m_M x k_M_w4 [.int 102, .int 114, .int 111, .int 109] (mk F G) = some (some (.long (jL (vr (SP.getD 23 []).reverse))), mk F G) := by
  rw [E_M_w4, E_M_w3, E_M_w2, b_L, b_L]
  exact congrArg (fun v => some (some (Value.long v), mk F G)) (by decide +kernel)
theorem W_by : m_M x k_M_w2 [.int 98, .int 121] (mk F G) = some (some (.long (jL (vr (SP.getD 24 []).reverse))), mk F G) := by
  rw [E_M_w2]
  exact congrArg (fun v => some (some (Value.long v), mk F G)) (by decide +kernel)
theorem W_to : m_M x k_M_w2 [.int 116, .int 111] (mk F G) = some (some (.long (jL (vr (SP.getD 25 []).reverse))), mk F G) := by
  rw [E_M_w2]
  exact congrArg (fun v => some (some (Value.long v), mk F G)) (by decide +kernel)
theorem W_hours : m_M x k_M_w5 [.int 104, .int 111, .int 117, .int 114, .int 115] (mk F G) = some (some (.long (jL (vr (SP.getD 26 []).reverse))), mk F G) := by
  rw [E_M_w5, E_M_w4, E_M_w3, E_M_w2, b_L, b_L, b_L]
  exact congrArg (fun v => some (some (Value.long v), mk F G)) (by decide +kernel)
theorem W_common : m_M x k_M_w6 [.int 99, .int 111, .int 109, .int 109, .int 111, .int 110] (mk F G) = some (some (.long (jL (vr (SP.getD 27 []).reverse))), mk F G) := by
  rw [E_M_w6, E_M_w5, E_M_w4, E_M_w3, E_M_w2, b_L, b_L, b_L, b_L]
  exact congrArg (fun v => some (some (Value.long v), mk F G)) (by decide +kernel)
theorem W_with : m_M x k_M_w4 [.int 119, .int 105, .int 116, .int 104] (mk F G) = some (some (.long (jL (vr (SP.getD 28 []).reverse))), mk F G) := by
  rw [E_M_w4, E_M_w3, E_M_w2, b_L, b_L]
  exact congrArg (fun v => some (some (Value.long v), mk F G)) (by decide +kernel)
theorem W_lefts : m_M x k_M_w5 [.int 108, .int 101, .int 102, .int 116, .int 115] (mk F G) = some (some (.long (jL (vr (SP.getD 29 []).reverse))), mk F G) := by
  rw [E_M_w5, E_M_w4, E_M_w3, E_M_w2, b_L, b_L, b_L]
  exact congrArg (fun v => some (some (Value.long v), mk F G)) (by decide +kernel)
theorem W_if : m_M x k_M_w2 [.int 105, .int 102] (mk F G) = some (some (.long (jL (vr (SP.getD 30 []).reverse))), mk F G) := by
  rw [E_M_w2]
  exact congrArg (fun v => some (some (Value.long v), mk F G)) (by decide +kernel)
theorem W_then : m_M x k_M_w4 [.int 116, .int 104, .int 101, .int 110] (mk F G) = some (some (.long (jL (vr (SP.getD 31 []).reverse))), mk F G) := by
  rw [E_M_w4, E_M_w3, E_M_w2, b_L, b_L]
  exact congrArg (fun v => some (some (Value.long v), mk F G)) (by decide +kernel)
theorem W_else : m_M x k_M_w4 [.int 101, .int 108, .int 115, .int 101] (mk F G) = some (some (.long (jL (vr (SP.getD 32 []).reverse))), mk F G) := by
  rw [E_M_w4, E_M_w3, E_M_w2, b_L, b_L]
  exact congrArg (fun v => some (some (Value.long v), mk F G)) (by decide +kernel)
theorem W_end : m_M x k_M_w3 [.int 101, .int 110, .int 100] (mk F G) = some (some (.long (jL (vr (SP.getD 33 []).reverse))), mk F G) := by
  rw [E_M_w3, E_M_w2, b_L]
  exact congrArg (fun v => some (some (Value.long v), mk F G)) (by decide +kernel)
theorem W_or : m_M x k_M_w2 [.int 111, .int 114] (mk F G) = some (some (.long (jL (vr (SP.getD 34 []).reverse))), mk F G) := by
  rw [E_M_w2]
  exact congrArg (fun v => some (some (Value.long v), mk F G)) (by decide +kernel)
theorem W_and : m_M x k_M_w3 [.int 97, .int 110, .int 100] (mk F G) = some (some (.long (jL (vr (SP.getD 35 []).reverse))), mk F G) := by
  rw [E_M_w3, E_M_w2, b_L]
  exact congrArg (fun v => some (some (Value.long v), mk F G)) (by decide +kernel)
theorem W_not : m_M x k_M_w3 [.int 110, .int 111, .int 116] (mk F G) = some (some (.long (jL (vr (SP.getD 36 []).reverse))), mk F G) := by
  rw [E_M_w3, E_M_w2, b_L]
  exact congrArg (fun v => some (some (Value.long v), mk F G)) (by decide +kernel)
theorem M_isW {T : Fn} {n p : Int} (hB : BY T n) (h : MT F G T n p) {j : Nat} (hj : j < 37) : m_M x k_M_isWord [.ref 149, .long (jL (vr (SP.getD j []).reverse))] (mk F G) = some (some (.int (jI (if kd T n p = (j : Int) then 1 else 0))), mk F G) := by
  obtain ⟨⟨h7, h8, h9⟩, ⟨p0, p1⟩, h10, h11⟩ := h
  have w := kt_w hB p0 hj
  have tr := tok_r hB p0
  have mr := mw_r T n p
  have bj := SP_byL ⟨j, hj⟩
  simp only at bj
  have vj := vr_r _ (byL_rev bj)
  rw [E_M_isWord, isO_149, if_pos rfl, fI_149_9, Option.bind_some, h9, lit_2]
  by_cases q : tok T n p = 2
  · rw [if_pos (by rw [q]), fL_149_11, Option.bind_some, h11 q]
    by_cases q2 : mwR T (n - p).toNat p 0 = vr (SP.getD j []).reverse
    · rw [if_pos (by rw [q2]), if_pos (w.1 ⟨q, q2⟩)]
      rfl
    · rw [if_neg (by rw [jL_eq (by omega) (by omega) (by omega) (by omega)]; exact q2), if_neg (fun h => q2 (w.2 h).2)]
      rfl
  · rw [if_neg (by rw [jI_eq (by omega) (by omega) (by omega) (by omega)]; omega), if_neg (fun h => q (w.2 h).1)]
    rfl
theorem M_sortOf {T : Fn} {n p : Int} (hB : BY T n) (h : MT F G T n p) : m_M x k_M_sortOf [.ref 149] (mk F G) = some (some (.int (jI (if kd T n p ≤ 11 then kd T n p else -1))), mk F G) := by
  have kr := kd_r T n p
  rw [E_M_sortOf, isO_149, if_pos rfl]
  rw [W_chill, b_L, M_isW x F G hB h (j := 0) (by omega), b_I]
  by_cases h0 : kd T n p = ((0 : Nat) : Int)
  · rw [if_pos h0, if_neg (by decide), if_pos (by omega), h0]
    rfl
  rw [if_neg h0, if_pos (by decide)]
  rw [W_fine, b_L, M_isW x F G hB h (j := 1) (by omega), b_I]
  by_cases h1 : kd T n p = ((1 : Nat) : Int)
  · rw [if_pos h1, if_neg (by decide), if_pos (by omega), h1]
    rfl
  rw [if_neg h1, if_pos (by decide)]
  rw [W_grows, b_L, M_isW x F G hB h (j := 2) (by omega), b_I]
  by_cases h2 : kd T n p = ((2 : Nat) : Int)
  · rw [if_pos h2, if_neg (by decide), if_pos (by omega), h2]
    rfl
  rw [if_neg h2, if_pos (by decide)]
  rw [W_pawn, b_L, M_isW x F G hB h (j := 3) (by omega), b_I]
  by_cases h3 : kd T n p = ((3 : Nat) : Int)
  · rw [if_pos h3, if_neg (by decide), if_pos (by omega), h3]
    rfl
  rw [if_neg h3, if_pos (by decide)]
  rw [W_one, b_L, M_isW x F G hB h (j := 4) (by omega), b_I]
  by_cases h4 : kd T n p = ((4 : Nat) : Int)
  · rw [if_pos h4, if_neg (by decide), if_pos (by omega), h4]
    rfl
  rw [if_neg h4, if_pos (by decide)]
  rw [W_owe, b_L, M_isW x F G hB h (j := 5) (by omega), b_I]
  by_cases h5 : kd T n p = ((5 : Nat) : Int)
  · rw [if_pos h5, if_neg (by decide), if_pos (by omega), h5]
    rfl
  rw [if_neg h5, if_pos (by decide)]
  rw [W_do, b_L, M_isW x F G hB h (j := 6) (by omega), b_I]
  by_cases h6 : kd T n p = ((6 : Nat) : Int)
  · rw [if_pos h6, if_neg (by decide), if_pos (by omega), h6]
    rfl
  rw [if_neg h6, if_pos (by decide)]
  rw [W_pass, b_L, M_isW x F G hB h (j := 7) (by omega), b_I]
  by_cases h7 : kd T n p = ((7 : Nat) : Int)
  · rw [if_pos h7, if_neg (by decide), if_pos (by omega), h7]
    rfl
  rw [if_neg h7, if_pos (by decide)]
  rw [W_lose, b_L, M_isW x F G hB h (j := 8) (by omega), b_I]
  by_cases h8 : kd T n p = ((8 : Nat) : Int)
  · rw [if_pos h8, if_neg (by decide), if_pos (by omega), h8]
    rfl
  rw [if_neg h8, if_pos (by decide)]
  rw [W_pledge, b_L, M_isW x F G hB h (j := 9) (by omega), b_I]
  by_cases h9 : kd T n p = ((9 : Nat) : Int)
  · rw [if_pos h9, if_neg (by decide), if_pos (by omega), h9]
    rfl
  rw [if_neg h9, if_pos (by decide)]
  rw [W_redeem, b_L, M_isW x F G hB h (j := 10) (by omega), b_I]
  by_cases h10 : kd T n p = ((10 : Nat) : Int)
  · rw [if_pos h10, if_neg (by decide), if_pos (by omega), h10]
    rfl
  rw [if_neg h10, if_pos (by decide)]
  rw [W_day, b_L, M_isW x F G hB h (j := 11) (by omega), b_I]
  by_cases h11 : kd T n p = ((11 : Nat) : Int)
  · rw [if_pos h11, if_neg (by decide), if_pos (by omega), h11]
    rfl
  rw [if_neg h11, if_pos (by decide)]
  rw [if_neg (by omega)]
  rfl
theorem M_isLeather {T : Fn} {n p : Int} (hB : BY T n) (hT : TM F T n) (h : MT F G T n p) : m_M x k_M_isLeather [.ref 149] (mk F G) = some (some (.int (jI (if kd T n p = 20 then 1 else 0))), mk F G) := by
  obtain ⟨⟨h7, h8, h9⟩, ⟨p0, p1⟩, h10, h11⟩ := h
  have tr := tok_r hB p0
  have hn := hT.2.1
  rw [E_M_isLeather, isO_149, if_pos rfl, fI_149_9, Option.bind_some, h9, lit_2]
  by_cases q : tok T n p = 2
  · have hk : p < n ∧ lb (T p) = true ∧ kd T n p = kw (bl T (rn (fun i => lb (T i)) (n - p).toNat p - p).toNat p) := by
      rcases kt hB p0 with ⟨_, h1, h2⟩ | ⟨a1, a2, h1, h2⟩ | ⟨_, h1, h2⟩ | ⟨_, c, c1, c2, c3⟩ | ⟨_, h1, h2⟩
      · omega
      · exact ⟨a1, a2, h2⟩
      · omega
      · have := tk_c c1
        omega
      · omega
    have el : tle T n p = rn (fun i => lb (T i)) (n - p).toNat p := by
      unfold tle
      rw [if_neg (by omega), if_pos hk.2.1]
    have rr := rn_r (fun i => lb (T i)) (n - p).toNat p
    have ki := kw_iff (l := bl T (rn (fun i => lb (T i)) (n - p).toNat p - p).toNat p) (j := 20) (by omega)
    have by' := bl_byL T (n - p).toNat p
    generalize rn (fun i => lb (T i)) (n - p).toNat p = e at *
    rw [if_pos (by rw [q]), fI_149_7, Option.bind_some, fI_149_8, Option.bind_some, h7, h8, el, jI_sub, show (7 : Int32) = jI 7 from by decide]
    have blen : ∀ (k : Nat) (p : Int), (bl T k p).length = k := by
      intro k
      induction k with
      | zero => intro p; rfl
      | succ k ih => intro p; rw [bl, List.length_cons, ih]
    by_cases q7 : e - p = 7
    · have e7 : (e - p).toNat = 7 := by omega
      rw [e7] at ki by' hk
      have bx : ∀ i : Int, 0 ≤ i → i < 7 → m_M x k_M_byteAt [.ref 149, .int (jI (p + i))] (mk F G) = some (some (.int (jI (T (p + i)))), mk F G) := by
        intro i i0 i1
        rw [M_byteAt x F G hT (by omega) (by omega), if_pos (by omega)]
      have b0 := bx 0 (by omega) (by omega)
      rw [Int.add_zero] at b0
      have bl7 : bl T 7 p = [T p, T (p + 1), T (p + 1 + 1), T (p + 1 + 1 + 1), T (p + 1 + 1 + 1 + 1), T (p + 1 + 1 + 1 + 1 + 1), T (p + 1 + 1 + 1 + 1 + 1 + 1)] := rfl
      have a2 : p + 1 + 1 = p + 2 := by omega
      have a3 : p + 2 + 1 = p + 3 := by omega
      have a4 : p + 3 + 1 = p + 4 := by omega
      have a5 : p + 4 + 1 = p + 5 := by omega
      have a6 : p + 5 + 1 = p + 6 := by omega
      rw [a2, a3, a4, a5, a6] at bl7
      rw [bl7] at by' ki hk
      have c0 := by' (T p) (by simp)
      have c1 := by' (T (p + 1)) (by simp)
      have c2 := by' (T (p + 2)) (by simp)
      have c3 := by' (T (p + 3)) (by simp)
      have c4 := by' (T (p + 4)) (by simp)
      have c5 := by' (T (p + 5)) (by simp)
      have c6 := by' (T (p + 6)) (by simp)
      have sp20 : SP.getD 20 [] = [108, 101, 97, 116, 104, 101, 114] := rfl
      rw [sp20] at ki
      have wl := M_w4 x F G (a := 108) (b := 101) (c := 97) (d := 116) (by omega) (by omega) (by omega) (by omega)
      have wl' : m_M x k_M_w4 [.int 108, .int 101, .int 97, .int 116] (mk F G) = some (some (.long (jL (vr [116, 97, 101, 108]))), mk F G) := wl
      have wh := M_w3 x F G (a := 104) (b := 101) (c := 114) (by omega) (by omega) (by omega)
      have wh' : m_M x k_M_w3 [.int 104, .int 101, .int 114] (mk F G) = some (some (.long (jL (vr [114, 101, 104]))), mk F G) := wh
      have byA : byL [T (p + 3), T (p + 2), T (p + 1), T p] := by intro z hz; simp at hz; rcases hz with hz | hz | hz | hz <;> rw [hz] <;> assumption
      have byC : byL [T (p + 6), T (p + 5), T (p + 4)] := by intro z hz; simp at hz; rcases hz with hz | hz | hz <;> rw [hz] <;> assumption
      have byB : byL [116, 97, 101, 108] := by intro z hz; simp at hz; omega
      have byD : byL [114, 101, 104] := by intro z hz; simp at hz; omega
      have vA := vr_r _ byA
      have vB := vr_r _ byB
      have vC := vr_r _ byC
      have vD := vr_r _ byD
      rw [if_pos (by rw [q7]), Option.bind_some, b0, b_I, fI_149_8, Option.bind_some, h8, lit_1, jI_add, bx 1 (by omega) (by omega), b_I, fI_149_8, Option.bind_some, h8, jI_add, bx 2 (by omega) (by omega), b_I, fI_149_8, Option.bind_some, h8, lit_3, jI_add, bx 3 (by omega) (by omega), b_I, M_w4 x F G c0 c1 c2 c3, b_L, wl', b_L]
      by_cases z1 : vr [T (p + 3), T (p + 2), T (p + 1), T p] = vr [116, 97, 101, 108]
      · have l1 := vr_inj _ _ byB byA (by simp) z1
        rw [if_pos (by rw [z1]), fI_149_8, Option.bind_some, h8, show (4 : Int32) = jI 4 from by decide, jI_add, bx 4 (by omega) (by omega), b_I, fI_149_8, Option.bind_some, h8, show (5 : Int32) = jI 5 from by decide, jI_add, bx 5 (by omega) (by omega), b_I, fI_149_8, Option.bind_some, h8, show (6 : Int32) = jI 6 from by decide, jI_add, bx 6 (by omega) (by omega), b_I, M_w3 x F G c4 c5 c6, b_L, wh', b_L]
        by_cases z2 : vr [T (p + 6), T (p + 5), T (p + 4)] = vr [114, 101, 104]
        · have l2 := vr_inj _ _ byD byC (by simp) z2
          have : kd T n p = 20 := by
            rw [hk.2.2]
            refine ki.2 ?_
            simp at l1 l2
            simp [l1, l2]
          rw [if_pos (by rw [z2]), if_pos this]
        · rw [if_neg (by rw [jL_eq (by omega) (by omega) (by omega) (by omega)]; exact z2), if_neg]
          · rfl
          · intro hh
            rw [hk.2.2] at hh
            have := ki.1 hh
            simp at this
            apply z2
            rw [this.2.2.2.2.1, this.2.2.2.2.2.1, this.2.2.2.2.2.2]
      · rw [if_neg (by rw [jL_eq (by omega) (by omega) (by omega) (by omega)]; exact z1), if_neg]
        · rfl
        · intro hh
          rw [hk.2.2] at hh
          have := ki.1 hh
          simp at this
          apply z1
          rw [this.1, this.2.1, this.2.2.1, this.2.2.2.1]
    · rw [if_neg (by rw [jI_eq (by omega) (by omega) (by omega) (by omega)]; omega), if_neg]
      · rfl
      · intro hh
        rw [hk.2.2] at hh
        have := congrArg List.length (ki.1 hh)
        rw [blen] at this
        have e20 : (SP.getD 20 []).length = 7 := rfl
        omega
  · rw [if_neg (by rw [jI_eq (by omega) (by omega) (by omega) (by omega)]; omega), if_neg]
    · rfl
    · intro hh
      exact q ((kt_w hB p0 (j := 20) (by omega)).2 hh).1
theorem M_nameOf {T : Fn} {n p : Int} (hB : BY T n) (hT : TM F T n) (h : MT F G T n p) : m_M x k_M_nameOf [.ref 149] (mk F G) = some (some (.int (jI (if 11 ≤ kd T n p ∧ kd T n p ≤ 24 then kd T n p - 11 else -1))), mk F G) := by
  have h' := h
  obtain ⟨⟨h7, h8, h9⟩, ⟨p0, p1⟩, hu, hw⟩ := h'
  have tr := tok_r hB p0
  have kr := kd_r T n p
  rw [E_M_nameOf, isO_149, if_pos rfl, fI_149_9, Option.bind_some, h9, lit_2]
  by_cases q : tok T n p = 2
  · have lq : ∀ {j : Nat}, j < 37 → ((jL (mwR T (n - p).toNat p 0) = jL (vr (SP.getD j []).reverse)) ↔ (kd T n p = (j : Int))) := by
      intro j hj
      have w := kt_w hB p0 hj
      have mr := mw_r T n p
      have bj := SP_byL ⟨j, hj⟩
      simp only at bj
      have vj := vr_r _ (byL_rev bj)
      rw [jL_eq (by omega) (by omega) (by omega) (by omega), ← w]
      exact ⟨fun z => ⟨q, z⟩, fun z => z.2⟩
    rw [if_pos (by rw [q])]
    rw [fL_149_11, Option.bind_some, hw q, W_day, b_L]
    by_cases h11 : kd T n p = ((11 : Nat) : Int)
    · rw [if_pos ((lq (j := 11) (by omega)).2 h11), if_pos (by omega), h11]
      rfl
    rw [if_neg (fun z => h11 ((lq (j := 11) (by omega)).1 z))]
    rw [fL_149_11, Option.bind_some, hw q, W_frost, b_L]
    by_cases h12 : kd T n p = ((12 : Nat) : Int)
    · rw [if_pos ((lq (j := 12) (by omega)).2 h12), if_pos (by omega), h12]
      rfl
    rw [if_neg (fun z => h12 ((lq (j := 12) (by omega)).1 z))]
    rw [fL_149_11, Option.bind_some, hw q, W_who, b_L]
    by_cases h13 : kd T n p = ((13 : Nat) : Int)
    · rw [if_pos ((lq (j := 13) (by omega)).2 h13), if_pos (by omega), h13]
      rfl
    rw [if_neg (fun z => h13 ((lq (j := 13) (by omega)).1 z))]
    rw [fL_149_11, Option.bind_some, hw q, W_hand, b_L]
    by_cases h14 : kd T n p = ((14 : Nat) : Int)
    · rw [if_pos ((lq (j := 14) (by omega)).2 h14), if_pos (by omega), h14]
      rfl
    rw [if_neg (fun z => h14 ((lq (j := 14) (by omega)).1 z))]
    rw [fL_149_11, Option.bind_some, hw q, W_coins, b_L]
    by_cases h15 : kd T n p = ((15 : Nat) : Int)
    · rw [if_pos ((lq (j := 15) (by omega)).2 h15), if_pos (by omega), h15]
      rfl
    rw [if_neg (fun z => h15 ((lq (j := 15) (by omega)).1 z))]
    rw [fL_149_11, Option.bind_some, hw q, W_cold, b_L]
    by_cases h16 : kd T n p = ((16 : Nat) : Int)
    · rw [if_pos ((lq (j := 16) (by omega)).2 h16), if_pos (by omega), h16]
      rfl
    rw [if_neg (fun z => h16 ((lq (j := 16) (by omega)).1 z))]
    rw [fL_149_11, Option.bind_some, hw q, W_rights, b_L]
    by_cases h17 : kd T n p = ((17 : Nat) : Int)
    · rw [if_pos ((lq (j := 17) (by omega)).2 h17), if_pos (by omega), h17]
      rfl
    rw [if_neg (fun z => h17 ((lq (j := 17) (by omega)).1 z))]
    rw [fL_149_11, Option.bind_some, hw q, W_bare, b_L]
    by_cases h18 : kd T n p = ((18 : Nat) : Int)
    · rw [if_pos ((lq (j := 18) (by omega)).2 h18), if_pos (by omega), h18]
      rfl
    rw [if_neg (fun z => h18 ((lq (j := 18) (by omega)).1 z))]
    rw [fL_149_11, Option.bind_some, hw q, W_work, b_L]
    by_cases h19 : kd T n p = ((19 : Nat) : Int)
    · rw [if_pos ((lq (j := 19) (by omega)).2 h19), if_pos (by omega), h19]
      rfl
    rw [if_neg (fun z => h19 ((lq (j := 19) (by omega)).1 z))]
    rw [M_isLeather x F G hB hT h, b_I]
    by_cases h20 : kd T n p = 20
    · rw [if_pos h20, if_neg (by decide), if_pos (by omega), h20]
      rfl
    rw [if_neg h20, if_pos (by decide)]
    rw [fL_149_11, Option.bind_some, hw q, W_size, b_L]
    by_cases h21 : kd T n p = ((21 : Nat) : Int)
    · rw [if_pos ((lq (j := 21) (by omega)).2 h21), if_pos (by omega), h21]
      rfl
    rw [if_neg (fun z => h21 ((lq (j := 21) (by omega)).1 z))]
    rw [fL_149_11, Option.bind_some, hw q, W_mark, b_L]
    by_cases h22 : kd T n p = ((22 : Nat) : Int)
    · rw [if_pos ((lq (j := 22) (by omega)).2 h22), if_pos (by omega), h22]
      rfl
    rw [if_neg (fun z => h22 ((lq (j := 22) (by omega)).1 z))]
    rw [fL_149_11, Option.bind_some, hw q, W_from, b_L]
    by_cases h23 : kd T n p = ((23 : Nat) : Int)
    · rw [if_pos ((lq (j := 23) (by omega)).2 h23), if_pos (by omega), h23]
      rfl
    rw [if_neg (fun z => h23 ((lq (j := 23) (by omega)).1 z))]
    rw [fL_149_11, Option.bind_some, hw q, W_by, b_L]
    by_cases h24 : kd T n p = ((24 : Nat) : Int)
    · rw [if_pos ((lq (j := 24) (by omega)).2 h24), if_pos (by omega), h24]
      rfl
    rw [if_neg (fun z => h24 ((lq (j := 24) (by omega)).1 z))]
    rw [if_neg (by omega)]
    rfl
  · rw [if_neg (by rw [jI_eq (by omega) (by omega) (by omega) (by omega)]; omega), if_neg]
    · rfl
    · intro hh
      have := kt_w hB p0 (j := (kd T n p).toNat) (by omega)
      exact q (this.2 (by omega)).1
theorem M_isOf {k s : Int} (hs : F 149 14 = s) (hk : 0 ≤ k ∧ k ≤ 13) (s0 : 0 ≤ s ∧ s ≤ 3) : m_M x k_M_isOf [.ref 149, .int (jI k)] (mk F G) = some (some (.int (jI (if nmok s (11 + k) then 1 else 0))), mk F G) := by
  rw [E_M_isOf, isO_149, if_pos rfl, lit_2]
  unfold nmok
  by_cases q : k < 2
  · rw [if_pos (by rw [jI_lt (by omega) (by omega) (by omega) (by omega)]; omega), if_pos (by omega)]
    rfl
  · rw [if_neg (by rw [jI_lt (by omega) (by omega) (by omega) (by omega)]; omega), show (8 : Int32) = jI 8 from by decide]
    by_cases q8 : 8 ≤ k
    · rw [if_pos (by rw [jI_le (by omega) (by omega) (by omega) (by omega)]; omega), E_M_isOf_16 x 1 (by omega), fI_149_14, Option.bind_some, hs, show (1 : Int32) = jI 1 from rfl]
      by_cases qs : 1 < s
      · rw [if_pos (by rw [jI_lt (by omega) (by omega) (by omega) (by omega)]; omega), if_pos (by decide), if_pos (by omega)]
      · rw [if_neg (by rw [jI_lt (by omega) (by omega) (by omega) (by omega)]; omega), if_neg (by decide), if_neg (by omega)]
        rfl
    · rw [if_neg (by rw [jI_le (by omega) (by omega) (by omega) (by omega)]; omega), E_M_isOf_16 x 1 (by omega), fI_149_14, Option.bind_some, hs, show (1 : Int32) = jI 1 from rfl]
      by_cases qs : 1 < s
      · rw [if_pos (by rw [jI_lt (by omega) (by omega) (by omega) (by omega)]; omega), if_neg (by decide), if_neg (by omega)]
        rfl
      · rw [if_neg (by rw [jI_lt (by omega) (by omega) (by omega) (by omega)]; omega), if_pos (by decide), if_pos (by omega)]
end
