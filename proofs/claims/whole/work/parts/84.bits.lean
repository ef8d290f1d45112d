-- sets as bits
def bt (a : Int32) (p : Int) : Bool := a.toBitVec.getLsbD p.toNat
theorem sha_f : ∀ p : Fin 32, ((jI (p.val : Int) &&& jI 31).toBitVec.smod 32).toNat = p.val := by decide +kernel
theorem sha {p : Int} (h0 : 0 ≤ p) (h1 : p < 32) : ((jI p &&& jI 31).toBitVec.smod 32).toNat = p.toNat := by
  have h := sha_f ⟨p.toNat, by omega⟩
  simp only [Int.toNat_of_nonneg h0] at h
  exact h
theorem bt_or (a b : Int32) (p : Int) : bt (a ||| b) p = (bt a p || bt b p) := by
  unfold bt
  rw [Int32.toBitVec_or, BitVec.getLsbD_or]
theorem bt_and (a b : Int32) (p : Int) : bt (a &&& b) p = (bt a p && bt b p) := by
  unfold bt
  rw [Int32.toBitVec_and, BitVec.getLsbD_and]
theorem bt_not (a : Int32) {p : Int} (h0 : 0 ≤ p) (h1 : p < 32) : bt (~~~ a) p = ! bt a p := by
  unfold bt
  rw [Int32.toBitVec_not, BitVec.getLsbD_not]
  have : decide (p.toNat < 32) = true := by simp; omega
  rw [this, Bool.true_and]
theorem bt_xor (a b : Int32) (p : Int) : bt (a ^^^ b) p = (bt a p ^^ bt b p) := by
  unfold bt
  rw [Int32.toBitVec_xor, BitVec.getLsbD_xor]
theorem bt_nat (m : Nat) {p : Int} (h0 : 0 ≤ p) (h1 : p < 32) : bt (jI (m : Int)) p = m.testBit p.toNat := by
  unfold bt jI
  rw [Int32.toBitVec_ofInt, BitVec.ofInt_natCast, BitVec.getLsbD_ofNat]
  have : decide (p.toNat < 32) = true := by simp; omega
  rw [this, Bool.true_and]
theorem bt_int {s p : Int} (hs : 0 ≤ s) (h0 : 0 ≤ p) (h1 : p < 32) : bt (jI s) p = s.toNat.testBit p.toNat := by
  have h := bt_nat s.toNat h0 h1
  rw [Int.toNat_of_nonneg hs] at h
  exact h
theorem bt_0 {p : Int} (h0 : 0 ≤ p) (h1 : p < 32) : bt (jI 0) p = false := by
  rw [bt_int (by omega) h0 h1]
  simp
theorem bt_1 {p : Int} (h0 : 0 ≤ p) (h1 : p < 32) : bt (jI 1) p = decide (p = 0) := by
  unfold bt
  rw [show (jI 1).toBitVec = 1#32 by decide, BitVec.getLsbD_one]
  have : p.toNat = 0 ↔ p = 0 := by omega
  simp only [this]
  simp
theorem bt_ext {a b : Int32} (h : ∀ p, 0 ≤ p → p < 32 → bt a p = bt b p) : a = b := by
  apply Int32.toBitVec_inj.1
  apply BitVec.eq_of_getLsbD_eq
  intro i hi
  have q := h i (by omega) (by omega)
  unfold bt at q
  simp only [Int.toNat_natCast] at q
  exact q
theorem bt_one {n p : Int} (hn0 : 0 ≤ n) (hn1 : n < 32) (h0 : 0 ≤ p) (h1 : p < 32) : bt (jI 1 <<< (jI n &&& jI 31)) p = decide (p = n) := by
  have e : (jI 1 <<< (jI n &&& jI 31)).toBitVec = (jI 1).toBitVec <<< ((jI n &&& jI 31).toBitVec.smod 32) := rfl
  unfold bt
  rw [e, BitVec.getLsbD_shiftLeft', sha hn0 hn1]
  have d1 : decide (p.toNat < 32) = true := by simp; omega
  rw [d1, Bool.true_and]
  by_cases q : p = n
  · rw [q]
    simp
    decide
  · by_cases q2 : p < n
    · have d2 : decide (p.toNat < n.toNat) = true := by simp; omega
      rw [d2]
      simp [q]
    · have d2 : decide (p.toNat < n.toNat) = false := by simp; omega
      rw [d2]
      have h := bt_1 (p := p - n) (by omega) (by omega)
      unfold bt at h
      have e3 : (p - n).toNat = p.toNat - n.toNat := by omega
      rw [e3] at h
      rw [h]
      simp [q]
      omega
theorem bt_shr {a : Int32} {n : Int} (hn0 : 0 ≤ n) (hn1 : n < 32) : bt (a >>> (jI n &&& jI 31)) 0 = bt a n := by
  have e : (a >>> (jI n &&& jI 31)).toBitVec = BitVec.sshiftRight' a.toBitVec ((jI n &&& jI 31).toBitVec.smod 32) := rfl
  unfold bt
  rw [e, BitVec.getLsbD_sshiftRight', sha hn0 hn1]
  have : n.toNat + (0 : Int).toNat < 32 := by
    simp
    omega
  rw [if_pos this]
  simp
theorem and1 (a : Int32) : a &&& jI 1 = if bt a 0 then jI 1 else jI 0 := by
  apply bt_ext
  intro p h0 h1
  rw [bt_and, bt_1 h0 h1]
  by_cases q : p = 0
  · rw [q]
    by_cases q2 : bt a 0 = true
    · rw [if_pos q2, q2]; decide
    · rw [if_neg q2]
      rw [Bool.not_eq_true] at q2
      rw [q2]; decide
  · have : decide (p = 0) = false := by simp [q]
    rw [this, Bool.and_false]
    split
    · rw [bt_1 h0 h1, this]
    · rw [bt_0 h0 h1]
theorem has_bt {a : Int32} {n : Int} (hn0 : 0 ≤ n) (hn1 : n < 32) : ((a >>> (jI n &&& jI 31)) &&& jI 1) = if bt a n then jI 1 else jI 0 := by
  rw [and1, bt_shr hn0 hn1]
theorem j10 : ¬ jI 1 = jI 0 := by decide
theorem j01 : ¬ jI 0 = jI 1 := by decide
theorem has_1 {a : Int32} {n : Int} (hn0 : 0 ≤ n) (hn1 : n < 32) : (((a >>> (jI n &&& jI 31)) &&& jI 1) = jI 1) = (bt a n = true) := by
  rw [has_bt hn0 hn1]
  by_cases q : bt a n = true
  · rw [if_pos q, q]; simp
  · rw [if_neg q]; simp [q, j01]
theorem has_0 {a : Int32} {n : Int} (hn0 : 0 ≤ n) (hn1 : n < 32) : (((a >>> (jI n &&& jI 31)) &&& jI 1) = jI 0) = (bt a n = false) := by
  rw [has_bt hn0 hn1]
  by_cases q : bt a n = true
  · rw [if_pos q, q]; simp [j10]
  · rw [if_neg q]; simp at q; simp [q]
theorem bt_st (P : Int → Bool) {p : Int} (h0 : 0 ≤ p) (h1 : p < 32) : ∀ n, 0 ≤ n → n ≤ 32 → bt (st P n) p = (decide (p < n) && P p) := by
  apply up
  · rw [st_0, bt_0 h0 h1]
    have : decide (p < 0) = false := by simp; omega
    rw [this, Bool.false_and]
  · intro n n0 n1 ih
    rw [st_s P n0]
    by_cases q : p = n
    · have d1 : decide (p < n) = false := by simp; omega
      have d2 : decide (p < n + 1) = true := by simp; omega
      rw [d1, Bool.false_and] at ih
      rw [d2, Bool.true_and]
      by_cases q2 : P n = true
      · rw [if_pos q2, bt_or, ih, bt_one n0 n1 h0 h1, q, q2]
        simp
      · rw [if_neg q2, ih, q]
        simp at q2
        exact q2.symm
    · have d2 : decide (p < n + 1) = decide (p < n) := by
        have : (p < n + 1) ↔ (p < n) := by omega
        simp only [this]
      rw [d2]
      split
      · rw [bt_or, ih, bt_one n0 n1 h0 h1]
        simp [q]
      · exact ih
