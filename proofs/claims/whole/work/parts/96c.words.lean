-- the lexer: the model's words
theorem sh8 : (((8 : Int32).toInt64 &&& (63 : Int64)).toBitVec.smod 64).toNat = 8 := by decide
theorem sh48 : (((48 : Int32).toInt64 &&& (63 : Int64)).toBitVec.smod 64).toNat = 48 := by decide
theorem w8 {a b : Int} (a0 : 0 ≤ a) (a1 : a < 281474976710656) (b0 : 0 ≤ b) (b1 : b < 256) : (jL a <<< ((8 : Int32).toInt64 &&& (63 : Int64))) ||| (jI b).toInt64 = jL (a * 256 + b) := by
  rw [jI_toL (by omega) (by omega)]
  obtain ⟨m, em⟩ : ∃ m : Nat, a = (m : Int) := ⟨a.toNat, by omega⟩
  obtain ⟨k, ek⟩ : ∃ k : Nat, b = (k : Int) := ⟨b.toNat, by omega⟩
  subst em
  subst ek
  have e : (m : Int) * 256 + (k : Int) = ((2 ^ 8 * m + k : Nat) : Int) := by omega
  rw [e]
  apply Int64.toBitVec_inj.1
  apply BitVec.eq_of_getLsbD_eq
  intro i hi
  have e1 : (jL (m : Int) <<< ((8 : Int32).toInt64 &&& (63 : Int64))).toBitVec = (jL (m : Int)).toBitVec <<< (((8 : Int32).toInt64 &&& (63 : Int64)).toBitVec.smod 64) := rfl
  rw [Int64.toBitVec_or, BitVec.getLsbD_or, e1, BitVec.getLsbD_shiftLeft', sh8]
  unfold jL
  rw [Int64.toBitVec_ofInt, Int64.toBitVec_ofInt, Int64.toBitVec_ofInt, BitVec.ofInt_natCast, BitVec.ofInt_natCast, BitVec.ofInt_natCast, BitVec.getLsbD_ofNat, BitVec.getLsbD_ofNat, BitVec.getLsbD_ofNat, Nat.testBit_two_pow_mul_add m (show k < 2 ^ 8 by omega)]
  by_cases q : i < 8
  · simp [q, hi]
  · have kb : k.testBit i = false := Nat.testBit_lt_two_pow (Nat.lt_of_lt_of_le (show k < 2 ^ 8 by omega) (Nat.pow_le_pow_right (by omega) (by omega)))
    have h3 : i - 8 < 64 := by omega
    simp [q, hi, kb, h3]
theorem shr48 {a : Int} (a0 : 0 ≤ a) (a1 : a < 4611686018427387904) : ((jL a >>> ((48 : Int32).toInt64 &&& (63 : Int64))) = 0) ↔ a < 281474976710656 := by
  obtain ⟨m, em⟩ : ∃ m : Nat, a = (m : Int) := ⟨a.toNat, by omega⟩
  subst em
  have e1 : (jL (m : Int) >>> ((48 : Int32).toInt64 &&& (63 : Int64))).toBitVec = BitVec.sshiftRight' (jL (m : Int)).toBitVec (((48 : Int32).toInt64 &&& (63 : Int64)).toBitVec.smod 64) := rfl
  have eb : ∀ j, j < 64 → (jL (m : Int)).toBitVec.getLsbD j = m.testBit j := by
    intro j hj
    unfold jL
    rw [Int64.toBitVec_ofInt, BitVec.ofInt_natCast, BitVec.getLsbD_ofNat]
    simp [hj]
  have hm : (jL (m : Int)).toBitVec.msb = false := by
    rw [BitVec.msb_eq_getLsbD_last, eb _ (by omega)]
    exact Nat.testBit_lt_two_pow (by omega)
  have bits : ∀ i, i < 64 → (jL (m : Int) >>> ((48 : Int32).toInt64 &&& (63 : Int64))).toBitVec.getLsbD i = (if 48 + i < 64 then m.testBit (48 + i) else false) := by
    intro i hi
    rw [e1, BitVec.getLsbD_sshiftRight', sh48, hm]
    by_cases q : 48 + i < 64
    · rw [if_pos q, if_pos q, eb _ q]
      simp [hi]
    · rw [if_neg q, if_neg q]
      simp
  constructor
  · intro h
    have : m < 2 ^ 48 := by
      apply Nat.lt_pow_two_of_testBit
      intro i hi
      by_cases q : i < 64
      · have b := bits (i - 48) (by omega)
        rw [h] at b
        have e : 48 + (i - 48) = i := by omega
        rw [e, if_pos q] at b
        rw [← b]
        simp
      · exact Nat.testBit_lt_two_pow (Nat.lt_of_lt_of_le (show m < 2 ^ 64 by omega) (Nat.pow_le_pow_right (by omega) (by omega)))
    omega
  · intro h
    apply Int64.toBitVec_inj.1
    apply BitVec.eq_of_getLsbD_eq
    intro i hi
    rw [bits i hi]
    have : m.testBit (48 + i) = false := Nat.testBit_lt_two_pow (Nat.lt_of_lt_of_le (show m < 2 ^ 48 by omega) (Nat.pow_le_pow_right (by omega) (by omega)))
    rw [this]
    simp
/-- a word's number in the model, its bytes from the last to the first -/
def vr : List Int → Int
  | [] => 0
  | b :: r => if vr r < 281474976710656 then vr r * 256 + b else 1152921504606846976
def byL (l : List Int) : Prop := ∀ b ∈ l, 0 < b ∧ b < 256
theorem vr_r : ∀ r : List Int, byL r → 0 ≤ vr r ∧ vr r ≤ 1152921504606846976 ∧ (r ≠ [] → 0 < vr r) := by
  intro r
  induction r with
  | nil => intro _; exact ⟨by unfold vr; omega, by unfold vr; omega, fun h => absurd rfl h⟩
  | cons b r ih =>
    intro h
    have i := ih (fun c hc => h c (List.mem_cons_of_mem _ hc))
    have hb := h b List.mem_cons_self
    rw [vr]
    split
    · refine ⟨by omega, by omega, fun _ => by omega⟩
    · refine ⟨by omega, by omega, fun _ => by omega⟩
theorem vr_s : ∀ s : List Int, byL s → s.length ≤ 7 → vr s < ((256 ^ s.length : Nat) : Int) := by
  intro s
  induction s with
  | nil => intro _ _; simp [vr]
  | cons b s ih =>
    intro h hl
    have hl' : s.length ≤ 6 := by simp at hl; omega
    have i := ih (fun c hc => h c (List.mem_cons_of_mem _ hc)) (by omega)
    have hb := h b List.mem_cons_self
    have p : 256 ^ s.length ≤ 256 ^ 6 := Nat.pow_le_pow_right (by omega) hl'
    rw [vr, if_pos (by omega), List.length_cons, Nat.pow_succ]
    omega
theorem vr_inj : ∀ (s r : List Int), byL s → byL r → s.length ≤ 7 → vr r = vr s → r = s := by
  intro s
  induction s with
  | nil =>
    intro r _ hr _ h
    by_cases e : r = []
    · exact e
    · have := (vr_r r hr).2.2 e
      rw [h] at this
      simp [vr] at this
  | cons c s ih =>
    intro r hs hr hl h
    have hl' : s.length ≤ 6 := by simp at hl; omega
    have hs' : byL s := fun d hd => hs d (List.mem_cons_of_mem _ hd)
    have hc := hs c List.mem_cons_self
    have p : 256 ^ s.length ≤ 256 ^ 6 := Nat.pow_le_pow_right (by omega) hl'
    have v := vr_s s hs' (by omega)
    have v0 := (vr_r s hs').1
    cases r with
    | nil =>
      exfalso
      have := (vr_r (c :: s) hs).2.2 (by simp)
      rw [← h] at this
      simp [vr] at this
    | cons b r =>
      have hr' : byL r := fun d hd => hr d (List.mem_cons_of_mem _ hd)
      have hb := hr b List.mem_cons_self
      have w0 := (vr_r r hr').1
      rw [vr, vr, if_pos (show vr s < 281474976710656 by omega)] at h
      by_cases q : vr r < 281474976710656
      · rw [if_pos q] at h
        have e1 : vr r = vr s := by omega
        have e2 : b = c := by omega
        rw [e2, ih r hs' hr' (by omega) e1]
      · rw [if_neg q] at h
        omega
def mwR (T : Fn) : Nat → Int → Int → Int
  | 0, _, a => a
  | k + 1, p, a => if lb (T p) = true then mwR T k (p + 1) (if a < 281474976710656 then a * 256 + T p else 1152921504606846976) else a
theorem mwR_vr (T : Fn) : ∀ (k : Nat) (p : Int) (r : List Int), mwR T k p (vr r) = vr ((bl T (rn (fun i => lb (T i)) k p - p).toNat p).reverse ++ r) := by
  intro k
  induction k with
  | zero =>
    intro p r
    rw [mwR, rn]
    have : (p - p).toNat = 0 := by omega
    rw [this]
    rfl
  | succ k ih =>
    intro p r
    rw [mwR, rn]
    by_cases l : lb (T p) = true
    · rw [if_pos l, if_pos l]
      have rr := rn_r (fun i => lb (T i)) k (p + 1)
      have e : (rn (fun i => lb (T i)) k (p + 1) - p).toNat = (rn (fun i => lb (T i)) k (p + 1) - (p + 1)).toNat + 1 := by omega
      have ev : (if vr r < 281474976710656 then vr r * 256 + T p else 1152921504606846976) = vr (T p :: r) := rfl
      rw [ev, ih (p + 1) (T p :: r), e, bl, List.reverse_cons, List.append_assoc]
      rfl
    · rw [if_neg l, if_neg l]
      have : (p - p).toNat = 0 := by omega
      rw [this]
      rfl
theorem bl_byL (T : Fn) : ∀ (k : Nat) (p : Int), byL (bl T (rn (fun i => lb (T i)) k p - p).toNat p) := by
  intro k
  induction k with
  | zero =>
    intro p
    rw [rn]
    have : (p - p).toNat = 0 := by omega
    rw [this]
    intro b hb
    simp [bl] at hb
  | succ k ih =>
    intro p
    rw [rn]
    by_cases l : lb (T p) = true
    · rw [if_pos l]
      have rr := rn_r (fun i => lb (T i)) k (p + 1)
      have e : (rn (fun i => lb (T i)) k (p + 1) - p).toNat = (rn (fun i => lb (T i)) k (p + 1) - (p + 1)).toNat + 1 := by omega
      rw [e, bl]
      intro b hb
      rcases List.mem_cons.1 hb with hb | hb
      · rw [hb]
        unfold lb at l
        simp at l
        omega
      · exact ih (p + 1) b hb
    · rw [if_neg l]
      have : (p - p).toNat = 0 := by omega
      rw [this]
      intro b hb
      simp [bl] at hb
theorem kwF_inv : ∀ (ws : List (List Int)) (i : Int) (l : List Int), kwF ws i l = 53 ∨ ∃ j : Nat, j < ws.length ∧ ws.getD j [] = l ∧ kwF ws i l = i + j := by
  intro ws
  induction ws with
  | nil => intro i l; exact Or.inl rfl
  | cons w ws ih =>
    intro i l
    rw [kwF]
    by_cases e : w = l
    · rw [if_pos e]
      exact Or.inr ⟨0, by simp, by simpa using e, by omega⟩
    · rw [if_neg e]
      rcases ih (i + 1) l with h | ⟨j, j1, j2, j3⟩
      · exact Or.inl h
      · refine Or.inr ⟨j + 1, by simp; omega, by simpa using j2, by omega⟩
theorem kw_SP : ∀ j : Fin 37, kw (SP.getD j.val []) = (j.val : Int) ∧ (SP.getD j.val []).length ≤ 7 := by decide +kernel
theorem SP_byL : ∀ j : Fin 37, ∀ b ∈ SP.getD j.val [], 0 < b ∧ b < 256 := by decide +kernel
theorem kw_iff {l : List Int} {j : Nat} (hj : j < 37) : kw l = (j : Int) ↔ l = SP.getD j [] := by
  constructor
  · intro h
    rcases kwF_inv SP 0 l with e | ⟨i, i1, i2, i3⟩
    · unfold kw at h
      omega
    · unfold kw at h
      have : i = j := by omega
      rw [← this, i2]
  · intro h
    rw [h]
    exact (kw_SP ⟨j, hj⟩).1
theorem kw_r (l : List Int) : kw l = 53 ∨ (0 ≤ kw l ∧ kw l ≤ 36) := by
  rcases kwF_inv SP 0 l with e | ⟨i, i1, i2, i3⟩
  · exact Or.inl e
  · right
    have : SP.length = 37 := rfl
    unfold kw
    omega
def isSg (v : Int) : Bool := [35, 40, 41, 42, 43, 45, 47, 58, 59, 60, 61, 62].contains v
def tok (T : Fn) (n p : Int) : Int := if n ≤ p then 0 else if db (T p) = true then 1 else if lb (T p) = true then 2 else if (T p = 60 ∨ T p = 62) ∧ (p + 1 < n ∧ T (p + 1) = 61) then (if T p = 60 then 4 else 5) else if isSg (T p) = true then T p else 3
theorem sy_60 : ∀ v : Fin 256, (sy (v.val : Int) = 37 ↔ v.val = 60) ∧ (sy (v.val : Int) = 38 ↔ v.val = 62) := by decide +kernel
/-- the model's sign for the class's kind -/
theorem sg_f : ∀ v : Fin 256, lb (v.val : Int) = false → db (v.val : Int) = false → ∀ c : Fin 13, ((if isSg (v.val : Int) = true then (v.val : Int) else 3) = [43, 45, 42, 47, 40, 41, 59, 60, 62, 61, 35, 4, 5].getD c.val 0 ↔ (c.val < 11 ∧ sy (v.val : Int) = [41, 42, 43, 44, 45, 46, 47, 37, 38, 39, 40, 48, 49].getD c.val 0)) := by decide +kernel
