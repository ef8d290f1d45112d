-- sets as numbers
def bcF (n0 : Int32) : Int32 := ((((((((n0 - ((n0.toUInt32 >>> ((1 : Int32).toUInt32 &&& Int32.toUInt32 31)).toInt32 &&& (1431655765 : Int32))) &&& (858993459 : Int32)) + (((n0 - ((n0.toUInt32 >>> ((1 : Int32).toUInt32 &&& Int32.toUInt32 31)).toInt32 &&& (1431655765 : Int32))).toUInt32 >>> ((2 : Int32).toUInt32 &&& Int32.toUInt32 31)).toInt32 &&& (858993459 : Int32))) + ((((n0 - ((n0.toUInt32 >>> ((1 : Int32).toUInt32 &&& Int32.toUInt32 31)).toInt32 &&& (1431655765 : Int32))) &&& (858993459 : Int32)) + (((n0 - ((n0.toUInt32 >>> ((1 : Int32).toUInt32 &&& Int32.toUInt32 31)).toInt32 &&& (1431655765 : Int32))).toUInt32 >>> ((2 : Int32).toUInt32 &&& Int32.toUInt32 31)).toInt32 &&& (858993459 : Int32))).toUInt32 >>> ((4 : Int32).toUInt32 &&& Int32.toUInt32 31)).toInt32) &&& (252645135 : Int32)) + ((((((n0 - ((n0.toUInt32 >>> ((1 : Int32).toUInt32 &&& Int32.toUInt32 31)).toInt32 &&& (1431655765 : Int32))) &&& (858993459 : Int32)) + (((n0 - ((n0.toUInt32 >>> ((1 : Int32).toUInt32 &&& Int32.toUInt32 31)).toInt32 &&& (1431655765 : Int32))).toUInt32 >>> ((2 : Int32).toUInt32 &&& Int32.toUInt32 31)).toInt32 &&& (858993459 : Int32))) + ((((n0 - ((n0.toUInt32 >>> ((1 : Int32).toUInt32 &&& Int32.toUInt32 31)).toInt32 &&& (1431655765 : Int32))) &&& (858993459 : Int32)) + (((n0 - ((n0.toUInt32 >>> ((1 : Int32).toUInt32 &&& Int32.toUInt32 31)).toInt32 &&& (1431655765 : Int32))).toUInt32 >>> ((2 : Int32).toUInt32 &&& Int32.toUInt32 31)).toInt32 &&& (858993459 : Int32))).toUInt32 >>> ((4 : Int32).toUInt32 &&& Int32.toUInt32 31)).toInt32) &&& (252645135 : Int32)).toUInt32 >>> ((8 : Int32).toUInt32 &&& Int32.toUInt32 31)).toInt32) + (((((((n0 - ((n0.toUInt32 >>> ((1 : Int32).toUInt32 &&& Int32.toUInt32 31)).toInt32 &&& (1431655765 : Int32))) &&& (858993459 : Int32)) + (((n0 - ((n0.toUInt32 >>> ((1 : Int32).toUInt32 &&& Int32.toUInt32 31)).toInt32 &&& (1431655765 : Int32))).toUInt32 >>> ((2 : Int32).toUInt32 &&& Int32.toUInt32 31)).toInt32 &&& (858993459 : Int32))) + ((((n0 - ((n0.toUInt32 >>> ((1 : Int32).toUInt32 &&& Int32.toUInt32 31)).toInt32 &&& (1431655765 : Int32))) &&& (858993459 : Int32)) + (((n0 - ((n0.toUInt32 >>> ((1 : Int32).toUInt32 &&& Int32.toUInt32 31)).toInt32 &&& (1431655765 : Int32))).toUInt32 >>> ((2 : Int32).toUInt32 &&& Int32.toUInt32 31)).toInt32 &&& (858993459 : Int32))).toUInt32 >>> ((4 : Int32).toUInt32 &&& Int32.toUInt32 31)).toInt32) &&& (252645135 : Int32)) + ((((((n0 - ((n0.toUInt32 >>> ((1 : Int32).toUInt32 &&& Int32.toUInt32 31)).toInt32 &&& (1431655765 : Int32))) &&& (858993459 : Int32)) + (((n0 - ((n0.toUInt32 >>> ((1 : Int32).toUInt32 &&& Int32.toUInt32 31)).toInt32 &&& (1431655765 : Int32))).toUInt32 >>> ((2 : Int32).toUInt32 &&& Int32.toUInt32 31)).toInt32 &&& (858993459 : Int32))) + ((((n0 - ((n0.toUInt32 >>> ((1 : Int32).toUInt32 &&& Int32.toUInt32 31)).toInt32 &&& (1431655765 : Int32))) &&& (858993459 : Int32)) + (((n0 - ((n0.toUInt32 >>> ((1 : Int32).toUInt32 &&& Int32.toUInt32 31)).toInt32 &&& (1431655765 : Int32))).toUInt32 >>> ((2 : Int32).toUInt32 &&& Int32.toUInt32 31)).toInt32 &&& (858993459 : Int32))).toUInt32 >>> ((4 : Int32).toUInt32 &&& Int32.toUInt32 31)).toInt32) &&& (252645135 : Int32)).toUInt32 >>> ((8 : Int32).toUInt32 &&& Int32.toUInt32 31)).toInt32).toUInt32 >>> ((16 : Int32).toUInt32 &&& Int32.toUInt32 31)).toInt32) &&& (63 : Int32))
theorem nand (m n : Nat) : jI (m : Int) &&& jI (n : Int) = jI ((m &&& n : Nat) : Int) := by
  apply bt_ext
  intro p h0 h1
  rw [bt_and, bt_nat m h0 h1, bt_nat n h0 h1, bt_nat _ h0 h1, Nat.testBit_and]
theorem nor (m n : Nat) : jI (m : Int) ||| jI (n : Int) = jI ((m ||| n : Nat) : Int) := by
  apply bt_ext
  intro p h0 h1
  rw [bt_or, bt_nat m h0 h1, bt_nat n h0 h1, bt_nat _ h0 h1, Nat.testBit_or]
theorem bt_m1 {p : Int} (h0 : 0 ≤ p) (h1 : p < 32) : bt (jI (-1)) p = true := by
  unfold bt
  rw [show (jI (-1)).toBitVec = BitVec.allOnes 32 by decide, BitVec.getLsbD_allOnes]
  simp
  omega
theorem nsub (m n : Nat) : jI (m : Int) &&& (jI (n : Int) ^^^ jI (-1)) = jI ((m ^^^ (m &&& n) : Nat) : Int) := by
  apply bt_ext
  intro p h0 h1
  rw [bt_and, bt_xor, bt_m1 h0 h1, bt_nat m h0 h1, bt_nat n h0 h1, bt_nat _ h0 h1, Nat.testBit_xor, Nat.testBit_and]
  cases m.testBit p.toNat <;> cases n.testBit p.toNat <;> rfl
theorem nshl {n : Nat} (hn : n < 31) : jI 1 <<< (jI (n : Int) &&& jI 31) = jI ((2 ^ n : Nat) : Int) := by
  apply bt_ext
  intro p h0 h1
  rw [bt_one (by omega) (by omega) h0 h1, bt_nat _ h0 h1, Nat.testBit_two_pow]
  have : (p = (n : Int)) ↔ (n = p.toNat) := by omega
  simp only [this]
theorem nsub0 (m n : Nat) : m ^^^ (m &&& n) = 0 ↔ m &&& n = m := by
  refine ⟨fun h => ?_, fun h => by rw [h, Nat.xor_self]⟩
  apply Nat.eq_of_testBit_eq
  intro i
  have q : (m ^^^ (m &&& n)).testBit i = false := by rw [h]; simp
  rw [Nat.testBit_xor, Nat.testBit_and] at q
  rw [Nat.testBit_and]
  revert q
  cases m.testBit i <;> cases n.testBit i <;> simp
theorem sub_and {s t P : Nat} (h : s &&& P = s) : (s &&& t) &&& P = s &&& t := by
  rw [Nat.and_assoc, Nat.and_comm t P, ← Nat.and_assoc, h]
theorem sub_xor {s t P : Nat} (h : s &&& P = s) : (s ^^^ (s &&& t)) &&& P = s ^^^ (s &&& t) := by
  apply Nat.eq_of_testBit_eq
  intro i
  have q : (s &&& P).testBit i = s.testBit i := by rw [h]
  rw [Nat.testBit_and] at q
  rw [Nat.testBit_and, Nat.testBit_xor, Nat.testBit_and]
  revert q
  cases s.testBit i <;> cases t.testBit i <;> cases P.testBit i <;> simp
theorem sub_le : ∀ s t : Fin 128, (s.val ^^^ (s.val &&& t.val)) ≤ s.val ∧ ((s.val ^^^ (s.val &&& t.val)) = s.val → s.val &&& t.val = 0) := by decide +kernel
def pcF : Nat → Nat → Nat
  | 0, _ => 0
  | f + 1, n => if n = 0 then 0 else 1 + pcF f (n &&& (n - 1))
def itz : Nat → Nat → Bool
  | 0, n => n == 0
  | f + 1, n => n == 0 || itz f (n &&& (n - 1))
def pcN (n : Nat) : Nat := pcF 12 n
theorem itz_64 : ∀ a b : Fin 64, itz 12 (64 * a.val + b.val) = true := by decide +kernel
theorem itz_ok {n : Nat} (h : n < 4096) : itz 12 n = true := by
  have q := itz_64 ⟨n / 64, by omega⟩ ⟨n % 64, by omega⟩
  have e : 64 * (n / 64) + n % 64 = n := Nat.div_add_mod n 64
  simp only [e] at q
  exact q
theorem bcF_ok : ∀ k : Fin 128, bcF (jI (k.val : Int)) = jI (pcN k.val : Int) := by decide +kernel
theorem pc_le : ∀ f n : Nat, pcF f n ≤ f := by
  intro f
  induction f with
  | zero => intro n; exact Nat.le_refl _
  | succ f ih =>
    intro n
    rw [pcF]
    have := ih (n &&& (n - 1))
    split <;> omega
section
variable (x : m_X) (F G : Nat → Fn)
theorem C_bitCount {s : Nat} (h : s < 128) : m_M x k_Integer_bitCount [.int (jI (s : Int))] (mk F G) = some (some (.int (jI (pcN s : Int))), mk F G) := by
  rw [E_Integer_bitCount]
  show some (some (Value.int (bcF (jI (s : Int)))), mk F G) = _
  rw [bcF_ok ⟨s, h⟩]
theorem M_bitsL {n0 : Int32} : ∀ (f n a : Nat), n < 2147483648 → itz f n = true → m_D x 1 k_M_bits 4 [some (.int n0), some (.int (jI (a : Int))), some (.int (jI (n : Int)))] [] (mk F G) = some (some (.int (jI ((a + pcF f n : Nat) : Int))), mk F G) := by
  intro f
  induction f with
  | zero =>
    intro n a hn h
    have : n = 0 := by simpa [itz] using h
    rw [this, E_M_bits_4 x 1 (by omega), if_pos (show jI ((0 : Nat) : Int) = 0 by decide)]
    rfl
  | succ f ih =>
    intro n a hn h
    rw [E_M_bits_4 x 1 (by omega), pcF]
    by_cases q : n = 0
    · rw [q, if_pos (show jI ((0 : Nat) : Int) = 0 by decide), if_pos rfl]
      rfl
    · have hz : itz f (n &&& (n - 1)) = true := by
        rw [itz] at h
        simpa [q] using h
      have e1 : (n : Int) - 1 = ((n - 1 : Nat) : Int) := by omega
      have l := Nat.and_le_left (n := n) (m := n - 1)
      rw [if_neg (show ¬ jI (n : Int) = 0 by rw [lit_0, jI_eq (by omega) (by omega) (by omega) (by omega)]; omega), lit_1, jI_add, jI_sub, e1, nand, if_neg q]
      have e2 : (a : Int) + 1 = ((a + 1 : Nat) : Int) := by omega
      rw [e2, ih _ _ (by omega) hz]
      have e3 : a + 1 + pcF f (n &&& (n - 1)) = a + (1 + pcF f (n &&& (n - 1))) := by omega
      rw [e3]
theorem M_bits {s : Nat} (h : s < 4096) : m_M x k_M_bits [.int (jI (s : Int))] (mk F G) = some (some (.int (jI (pcN s : Int))), mk F G) := by
  have q := M_bitsL x F G (n0 := jI (s : Int)) 12 s 0 (by omega) (itz_ok h)
  rw [Nat.zero_add] at q
  rw [E_M_bits]
  exact q
end
