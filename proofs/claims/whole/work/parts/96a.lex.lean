-- the lexer: what the tape's bytes spell; the class's words and signs
def lb (b : Int) : Bool := decide ((97 ≤ b ∧ b ≤ 122) ∨ (65 ≤ b ∧ b ≤ 90))
def db (b : Int) : Bool := decide (48 ≤ b ∧ b ≤ 57)
def bb (b : Int) : Bool := decide (b = 32 ∨ b = 10)
def rn (P : Int → Bool) : Nat → Int → Int
  | 0, p => p
  | k + 1, p => if P p = true then rn P k (p + 1) else p
theorem rn_r (P : Int → Bool) : ∀ (k : Nat) (p : Int), p ≤ rn P k p ∧ rn P k p ≤ p + k := by
  intro k
  induction k with
  | zero => intro p; rw [rn]; omega
  | succ k ih =>
    intro p
    rw [rn]
    split
    · have := ih (p + 1)
      omega
    · omega
def bl (T : Fn) : Nat → Int → List Int
  | 0, _ => []
  | k + 1, p => T p :: bl T k (p + 1)
def SP : List (List Int) := [[99, 104, 105, 108, 108], [102, 105, 110, 101], [103, 114, 111, 119, 115], [112, 97, 119, 110], [111, 110, 101], [111, 119, 101], [100, 111], [112, 97, 115, 115], [108, 111, 115, 101], [112, 108, 101, 100, 103, 101], [114, 101, 100, 101, 101, 109], [100, 97, 121], [102, 114, 111, 115, 116], [119, 104, 111], [104, 97, 110, 100], [99, 111, 105, 110, 115], [99, 111, 108, 100], [114, 105, 103, 104, 116, 115], [98, 97, 114, 101], [119, 111, 114, 107], [108, 101, 97, 116, 104, 101, 114], [115, 105, 122, 101], [109, 97, 114, 107], [102, 114, 111, 109], [98, 121], [116, 111], [104, 111, 117, 114, 115], [99, 111, 109, 109, 111, 110], [119, 105, 116, 104], [108, 101, 102, 116, 115], [105, 102], [116, 104, 101, 110], [101, 108, 115, 101], [101, 110, 100], [111, 114], [97, 110, 100], [110, 111, 116]]
def kwF : List (List Int) → Int → List Int → Int
  | [], _, _ => 53
  | w :: ws, i, l => if w = l then i else kwF ws (i + 1) l
/-- the word's number, 53 if it is none -/
def kw (l : List Int) : Int := kwF SP 0 l
def sx (i : Nat) : Int := ((m_txt.getD 0 []).getD i 0).toInt
theorem sx_ok : ∀ i : Fin 185, (((m_txt.getD 0 []).getD i.val 0 &&& (255 : Int32)).toUInt32 % 65536).toInt32 = jI (sx i.val) ∧ m_rk (some .char) (some (.int (((m_txt.getD 0 []).getD i.val 0 &&& (255 : Int32)).toUInt32 % 65536).toInt32)) = true ∧ 0 ≤ sx i.val ∧ sx i.val ≤ 255 := by decide +kernel
def atS : List Int → Nat → Bool
  | [], o => decide (o < 185) && (sx o == 32)
  | c :: cs, o => decide (o < 185) && ((sx o == c) && (c != 32)) && atS cs (o + 1)
def atA : List (List Int) → Nat → Bool
  | [], _ => true
  | w :: ws, o => atS w o && atA ws (o + w.length + 1)
theorem atA_SP : atA SP 0 = true := by decide +kernel
def pre (T : Fn) (to : Int) : List Int → Int → Bool
  | [], _ => true
  | c :: cs, s => (decide (s < to) && decide (T s = c)) && pre T to cs (s + 1)
theorem pre_eq {T : Fn} {to : Int} : ∀ (w : List Int) (p : Int), p ≤ to → ((pre T to w p = true ∧ (w.length : Int) = to - p) ↔ w = bl T (to - p).toNat p) := by
  intro w
  induction w with
  | nil =>
    intro p hp
    constructor
    · intro ⟨_, h⟩
      have e : (to - p).toNat = 0 := by simp at h; omega
      rw [e]
      rfl
    · intro h
      refine ⟨rfl, ?_⟩
      cases hk : (to - p).toNat with
      | zero => simp; omega
      | succ k => rw [hk] at h; simp [bl] at h
  | cons c cs ih =>
    intro p hp
    by_cases hlt : p < to
    · have e : (to - p).toNat = (to - (p + 1)).toNat + 1 := by omega
      have i := ih (p + 1) (by omega)
      rw [e, bl, pre]
      constructor
      · intro ⟨h1, h2⟩
        simp only [Bool.and_eq_true, decide_eq_true_eq] at h1
        rw [← i.1 ⟨h1.2, by simp at h2; omega⟩, h1.1.2]
      · intro h
        injection h with h1 h2
        have j := i.2 h2
        simp only [Bool.and_eq_true, decide_eq_true_eq, List.length_cons]
        exact ⟨⟨⟨hlt, h1.symm⟩, j.1⟩, by have := j.2; omega⟩
    · have e : (to - p).toNat = 0 := by omega
      rw [e]
      constructor
      · intro ⟨_, h2⟩
        simp at h2
        omega
      · intro h
        simp [bl] at h
theorem tln0 : m_tln.getD 0 0 = 185 := rfl
theorem tln1 : m_tln.getD 1 0 = 11 := rfl
section
variable (x : m_X) (F G : Nat → Fn)
theorem xlen4 : m_len x (mk F G) 1004 = some (jI 185) := rfl
theorem xlen5 : m_len x (mk F G) 1005 = some (jI 11) := rfl
theorem xba4 {i : Int} (h0 : 0 ≤ i) (h1 : i < 185) : m_ba x (mk F G) 1004 (jI i) = some ((m_txt.getD 0 []).getD i.toNat 0) := by
  show ((m_ix (jI i) (m_tln.getD 0 0)).map fun j => (m_txt.getD 0 []).getD j 0) = _
  rw [tln0, jI_ix h0 (by omega) (by omega)]
  rfl
theorem xba5 {i : Int} (h0 : 0 ≤ i) (h1 : i < 11) : m_ba x (mk F G) 1005 (jI i) = some ((m_txt.getD 1 []).getD i.toNat 0) := by
  show ((m_ix (jI i) (m_tln.getD 1 0)).map fun j => (m_txt.getD 1 []).getD j 0) = _
  rw [tln1, jI_ix h0 (by omega) (by omega)]
  rfl
theorem C_isLatin {w : Nat} (hw : w = 1002 ∨ w = 1003) : m_M x k_String_isLatin1 [.ref w] (mk F G) = some (some (.int 1), mk F G) := by
  have hb : (w == 1002 || w == 1003) = true := by simpa using hw
  rw [E_String_isLatin1 x _ w hb, if_pos hw]
theorem C_coder {w : Nat} (hw : w = 1002 ∨ w = 1003) : m_M x k_String_coder [.ref w] (mk F G) = some (some (.int 0), mk F G) := by
  have hb : (w == 1002 || w == 1003) = true := by simpa using hw
  rw [E_String_coder x _ w hb, if_pos hw, if_pos (by decide)]
theorem C_slen2 : m_M x k_String_length [.ref 1002] (mk F G) = some (some (.int (jI 185)), mk F G) := by
  rw [E_String_length x _ 1002 rfl, if_pos (Or.inl rfl), xlen4, Option.bind_some, C_coder x F G (Or.inl rfl), b_I]
  rfl
theorem C_slen3 : m_M x k_String_length [.ref 1003] (mk F G) = some (some (.int (jI 11)), mk F G) := by
  rw [E_String_length x _ 1003 rfl, if_pos (Or.inr rfl), xlen5, Option.bind_some, C_coder x F G (Or.inr rfl), b_I]
  rfl
theorem C_charAt (hX : x.2.2 = .null ∨ ∃ a, x.2.2 = .ref a) {i : Int} (h0 : 0 ≤ i) (h1 : i < 185) : m_M x k_String_charAt [.ref 1002, .int (jI i)] (mk F G) = some (some (.int (jI (sx i.toNat))), mk F G) := by
  have ok := sx_ok ⟨i.toNat, by omega⟩
  simp only at ok
  rw [E_String_charAt x _ 1002 _ rfl, C_isLatin x F G (Or.inl rfl), b_I, if_neg (by decide), if_pos (Or.inl rfl), E_Latin1_charAt, xlen4, Option.bind_some, E_String_checkIndex x _ _ _ hX, E_Prec_checkIndex x _ _ _ _ hX, lit_0, if_neg (by rw [jI_lt (by omega) (by omega) (by omega) (by omega)]; omega), if_pos (by rw [jI_lt (by omega) (by omega) (by omega) (by omega)]; omega), b_I, b_V, xba4 x F G h0 h1, Option.bind_some, if_pos ok.2.1, b_I, if_pos ok.2.1, ok.1]
/-- one word of the class's list is held against the tape -/
theorem C_word18 (hX : x.2.2 = .null ∨ ∃ a, x.2.2 = .ref a) {T : Fn} {from' to wd : Int} (hT : F 135 = T) (hB : ∀ i, from' ≤ i → i < to → 0 ≤ T i ∧ T i ≤ 255) (f0 : 0 ≤ from') (f1 : from' ≤ to) (t1 : to ≤ 300) : ∀ (w : List Int) (o : Nat) (start : Int) (like : Int) (d7 : Option Value), (like = 0 ∨ like = 1) → atS w o = true → 0 ≤ start → start ≤ o → m_nl d7 = true → ∃ d, m_nl d = true ∧ m_D x 5 k_Words_wordOf 18 [some (.ref 135), some (.int (jI from')), some (.int (jI to)), some (.int (jI start)), some (.int (jI wd)), some (.int (jI like)), some (.int (jI (o : Int))), d7] [] (mk F G) = m_D x 5 k_Words_wordOf 98 [some (.ref 135), some (.int (jI from')), some (.int (jI to)), some (.int (jI start)), some (.int (jI wd)), some (.int (jI (if like = 1 ∧ pre T to w (from' + (o - start)) = true then 1 else 0))), some (.int (jI ((o + w.length : Nat) : Int))), d] [] (mk F G) := by
  intro w
  induction w with
  | nil =>
    intro o start like d7 hl ha s0 s1 h7
    simp only [atS, Bool.and_eq_true, decide_eq_true_eq, beq_iff_eq] at ha
    refine ⟨d7, h7, ?_⟩
    rw [E_Words_wordOf_18 x 5 (by omega) _ _ _ _ _ _ _ _ _ h7, C_slen2, b_I, if_neg (by rw [jI_le (by omega) (by omega) (by omega) (by omega)]; omega), C_charAt x F G hX (by omega) (by omega), b_I, Int.toNat_natCast, ha.2, if_pos (by decide)]
    have e : (if like = 1 ∧ pre T to [] (from' + (o - start)) = true then (1 : Int) else 0) = like := by
      rcases hl with hl | hl
      · rw [if_neg (by omega), hl]
      · rw [if_pos ⟨hl, rfl⟩, hl]
    rw [e]
    rfl
  | cons c cs ih =>
    intro o start like d7 hl ha s0 s1 h7
    simp only [atS, Bool.and_eq_true, decide_eq_true_eq, beq_iff_eq, bne_iff_ne] at ha
    obtain ⟨⟨ho, hc, hc2⟩, hr⟩ := ha
    have sr := sx_ok ⟨o, ho⟩
    simp only at sr
    have e1 : (((o + 1 : Nat) : Int) - start) = (o - start) + 1 := by omega
    have e2 : from' + ((o - start) + 1) = from' + (o - start) + 1 := by omega
    have e3 : ((o + (c :: cs).length : Nat) : Int) = (((o + 1) + cs.length : Nat) : Int) := by simp; omega
    have e4 : jI (o : Int) + jI 1 = jI ((o + 1 : Nat) : Int) := by rw [jI_add]; congr 1
    have e5 : jI from' + jI (o : Int) - jI start = jI (from' + (o - start)) := by rw [jI_add, jI_sub]; congr 1; omega
    have ch := C_charAt x F G hX (i := (o : Int)) (by omega) (by omega)
    rw [Int.toNat_natCast] at ch
    have nxt : ∀ like', (like' = 0 ∨ like' = 1) → (like' = 1 ↔ (like = 1 ∧ (from' + (o - start) < to ∧ T (from' + (o - start)) = c))) → ∃ d, m_nl d = true ∧ m_D x 5 k_Words_wordOf 18 [some (.ref 135), some (.int (jI from')), some (.int (jI to)), some (.int (jI start)), some (.int (jI wd)), some (.int (jI like')), some (.int (jI ((o + 1 : Nat) : Int))), some (.int (jI (from' + (o - start))))] [] (mk F G) = m_D x 5 k_Words_wordOf 98 [some (.ref 135), some (.int (jI from')), some (.int (jI to)), some (.int (jI start)), some (.int (jI wd)), some (.int (jI (if like = 1 ∧ pre T to (c :: cs) (from' + (o - start)) = true then 1 else 0))), some (.int (jI ((o + (c :: cs).length : Nat) : Int))), d] [] (mk F G) := by
      intro like' hl' hll
      obtain ⟨d, d1, d2⟩ := ih (o + 1) start like' (some (.int (jI (from' + (o - start))))) hl' hr s0 (by omega) rfl
      refine ⟨d, d1, ?_⟩
      rw [d2, e1, e2, e3]
      have e6 : (if like' = 1 ∧ pre T to cs (from' + (o - start) + 1) = true then (1 : Int) else 0) = (if like = 1 ∧ pre T to (c :: cs) (from' + (o - start)) = true then 1 else 0) := by
        simp only [pre, Bool.and_eq_true, decide_eq_true_eq]
        by_cases q : like' = 1 ∧ pre T to cs (from' + (o - start) + 1) = true
        · have := hll.1 q.1
          rw [if_pos q, if_pos ⟨this.1, this.2, q.2⟩]
        · rw [if_neg q, if_neg]
          intro h
          exact q ⟨hll.2 ⟨h.1, h.2.1⟩, h.2.2⟩
      rw [e6]
    rw [E_Words_wordOf_18 x 5 (by omega) _ _ _ _ _ _ _ _ _ h7, C_slen2, b_I, if_neg (by rw [jI_le (by omega) (by omega) (by omega) (by omega)]; omega), ch, b_I, if_neg (by rw [show (32 : Int32) = jI 32 from by decide, jI_eq (by omega) (by omega) (by omega) (by omega)]; omega), show (1 : Int32) = jI 1 from rfl, show (0 : Int32) = jI 0 from rfl, e4, e5]
    rcases hl with hl | hl
    · rw [if_pos (by rw [hl])]
      exact nxt 0 (Or.inl rfl) ⟨fun h => by omega, fun h => by omega⟩
    · rw [if_neg (by rw [hl]; decide), if_neg (by rw [jI_lt (by omega) (by omega) (by omega) (by omega)]; omega)]
      by_cases q1 : to ≤ from' + (o - start)
      · rw [if_pos (by rw [jI_le (by omega) (by omega) (by omega) (by omega)]; omega)]
        exact nxt 0 (Or.inl rfl) ⟨fun h => by omega, fun h => by omega⟩
      · have ln : m_len x (mk F G) 135 = some (jI 300) := mk_len (t := 0) (n := 300) x F G (by omega) rfl (by omega)
        rw [if_neg (by rw [jI_le (by omega) (by omega) (by omega) (by omega)]; omega), ln, Option.bind_some, if_neg (by rw [jI_le (by omega) (by omega) (by omega) (by omega)]; omega), ia_135 x F G (by omega) (by omega), Option.bind_some, ch, b_I, hT]
        have b := hB (from' + (o - start)) (by omega) (by omega)
        by_cases q2 : T (from' + (o - start)) = c
        · rw [if_pos (by rw [q2, hc])]
          exact nxt 1 (Or.inr rfl) ⟨fun _ => ⟨hl, by omega, q2⟩, fun _ => rfl⟩
        · rw [if_neg (by rw [hc, jI_eq (by omega) (by omega) (by omega) (by omega)]; exact q2)]
          exact nxt 0 (Or.inl rfl) ⟨fun h => by omega, fun h => absurd h.2.2 q2⟩
theorem C_wordOf (hX : x.2.2 = .null ∨ ∃ a, x.2.2 = .ref a) {T : Fn} {from' to : Int} (hT : F 135 = T) (hB : ∀ i, from' ≤ i → i < to → 0 ≤ T i ∧ T i ≤ 255) (f0 : 0 ≤ from') (f1 : from' ≤ to) (t1 : to ≤ 300) : m_M x k_Words_wordOf [.ref 135, .int (jI from'), .int (jI to)] (mk F G) = some (some (.int (jI (kw (bl T (to - from').toNat from')))), mk F G) := by
  have key : ∀ (ws : List (List Int)) (o : Nat) (k : Nat), atA ws o = true → k + ws.length = 37 → o ≤ 185 → ∀ d5 d6 d7, m_nl d5 = true → m_nl d6 = true → m_nl d7 = true → m_D x 5 k_Words_wordOf 5 [some (.ref 135), some (.int (jI from')), some (.int (jI to)), some (.int (jI (o : Int))), some (.int (jI (k : Int))), d5, d6, d7] [] (mk F G) = some (some (.int (jI (kwF ws k (bl T (to - from').toNat from')))), mk F G) := by
    intro ws
    induction ws with
    | nil =>
      intro o k _ hk ho d5 d6 d7 h5 h6 h7
      have ek : k = 37 := by simpa using hk
      rw [E_Words_wordOf_5 x 5 (by omega) _ _ _ _ _ _ _ _ _ h5 h6 h7, ek, if_pos (by decide), kwF]
      rfl
    | cons w ws ih =>
      intro o k ha hk ho d5 d6 d7 h5 h6 h7
      simp only [atA, Bool.and_eq_true] at ha
      have hk' : k + (ws.length + 1) = 37 := by simpa using hk
      obtain ⟨d, d1, d2⟩ := C_word18 x F G hX (wd := (k : Int)) hT hB f0 f1 t1 w o (o : Int) 1 d7 (Or.inr rfl) ha.1 (by omega) (by omega) h7
      have e0 : from' + ((o : Int) - o) = from' := by omega
      rw [e0] at d2
      have ole : o + w.length < 185 := by
        have : ∀ (w : List Int) (o : Nat), atS w o = true → o + w.length < 185 := by
          intro w
          induction w with
          | nil => intro o h; simp [atS] at h; simp; omega
          | cons c cs ih => intro o h; simp [atS] at h; have := ih (o + 1) h.2; simp; omega
        exact this w o ha.1
      have e4 : jI ((o + w.length : Nat) : Int) + jI 1 = jI ((o + w.length + 1 : Nat) : Int) := by rw [jI_add]; congr 1
      have e5 : jI (k : Int) + jI 1 = jI ((k + 1 : Nat) : Int) := by rw [jI_add]; congr 1
      have e6 : jI ((o + w.length : Nat) : Int) - jI (o : Int) = jI (w.length : Int) := by rw [jI_sub]; congr 1; omega
      have e7 : ((k + 1 : Nat) : Int) = (k : Int) + 1 := by omega
      have pe := pre_eq (T := T) (to := to) w from' f1
      have on : ¬ w = bl T (to - from').toNat from' → ∀ d5 d6, m_nl d5 = true → m_nl d6 = true → m_D x 5 k_Words_wordOf 5 [some (.ref 135), some (.int (jI from')), some (.int (jI to)), some (.int (jI ((o + w.length + 1 : Nat) : Int))), some (.int (jI ((k + 1 : Nat) : Int))), d5, d6, d] [] (mk F G) = some (some (.int (jI (kwF (w :: ws) k (bl T (to - from').toNat from')))), mk F G) := by
        intro hne d5 d6 h5 h6
        rw [kwF, if_neg hne, ← e7]
        exact ih (o + w.length + 1) (k + 1) ha.2 (by omega) (by omega) d5 d6 d h5 h6 d1
      rw [E_Words_wordOf_5 x 5 (by omega) _ _ _ _ _ _ _ _ _ h5 h6 h7, if_neg (by rw [show (37 : Int32) = jI 37 from by decide, jI_le (by omega) (by omega) (by omega) (by omega)]; omega), show (1 : Int32) = jI 1 from rfl, d2]
      by_cases q : pre T to w from' = true
      · rw [if_pos ⟨rfl, q⟩, E_Words_wordOf_98 x 5 (by omega) _ _ _ _ _ _ _ _ _ d1, if_neg (by decide), e6, jI_sub]
        by_cases q2 : (w.length : Int) = to - from'
        · rw [if_pos (by rw [q2]), kwF, if_pos (pe.1 ⟨q, q2⟩)]
        · rw [if_neg (by rw [jI_eq (by omega) (by omega) (by omega) (by omega)]; exact q2), show (1 : Int32) = jI 1 from rfl, e4, e5]
          exact on (fun h => q2 (pe.2 h).2) _ _ rfl rfl
      · rw [if_neg (fun h => q h.2), E_Words_wordOf_98 x 5 (by omega) _ _ _ _ _ _ _ _ _ d1, if_pos (by decide), show (1 : Int32) = jI 1 from rfl, e4, e5]
        exact on (fun h => q (pe.2 h).1) _ _ rfl rfl
  rw [E_Words_wordOf]
  exact key SP 0 0 atA_SP rfl (by omega) none none none rfl rfl rfl
/-- the sign's number among the class's signs -/
def sIx (v : Int) : Nat → Int
  | 0 => -1
  | k + 1 => if [60, 62, 61, 35, 43, 45, 42, 47, 40, 41, 59].getD (11 - (k + 1)) (0 : Int) = v then ((11 - (k + 1) : Nat) : Int) else sIx v k
def sy (v : Int) : Int := if 0 ≤ sIx v 11 then 37 + sIx v 11 else 53
theorem sy_f : ∀ v : Fin 256, ∀ j : Fin 11, (((m_txt.getD 1 []).getD j.val 0 = (((jI (v.val : Int)).toUInt32 % 65536).toInt32).toInt8.toInt32) ↔ [60, 62, 61, 35, 43, 45, 42, 47, 40, 41, 59].getD j.val (0 : Int) = (v.val : Int)) := by decide +kernel
theorem sy_c : ∀ v : Fin 256, ((jI (v.val : Int)).toUInt32 % 65536).toInt32 = jI (v.val : Int) := by decide +kernel
theorem sIx_r (v : Int) : ∀ k : Nat, k ≤ 11 → -1 ≤ sIx v k ∧ sIx v k ≤ 10 := by
  intro k
  induction k with
  | zero => intro _; rw [sIx]; omega
  | succ k ih =>
    intro h
    rw [sIx]
    have := ih (by omega)
    split <;> omega
theorem C_symbolOf {v : Int} (v0 : 0 ≤ v) (v1 : v ≤ 255) : m_M x k_Words_symbolOf [.int (jI v)] (mk F G) = some (some (.int (jI (sy v))), mk F G) := by
  obtain ⟨n, en⟩ : ∃ n : Nat, v = (n : Int) := ⟨v.toNat, by omega⟩
  subst en
  have hn : n < 256 := by omega
  have sc := sy_c ⟨n, hn⟩
  simp only at sc
  have key : ∀ k : Nat, k ≤ 11 → m_D x 1 k_Latin1_indexOfChar 7 [some (.ref 1005), some (.int (jI (n : Int))), some (.int (jI 0)), some (.int (jI 11)), some (.int (jI (n : Int)).toInt8.toInt32), some (.int (jI ((11 - k : Nat) : Int)))] [] (mk F G) = some (some (.int (jI (sIx n k))), mk F G) := by
    intro k
    induction k with
    | zero =>
      intro _
      rw [E_Latin1_indexOfChar_7 x 1 (by omega), if_pos (by decide), sIx]
      rfl
    | succ k ih =>
      intro hk
      have e : ((11 - (k + 1) : Nat) : Int) = 11 - ((k : Int) + 1) := by omega
      have e2 : jI ((11 - (k + 1) : Nat) : Int) + jI 1 = jI ((11 - k : Nat) : Int) := by rw [jI_add]; congr 1; omega
      have f := sy_f ⟨n, hn⟩ ⟨11 - (k + 1), by omega⟩
      simp only [sc] at f
      rw [E_Latin1_indexOfChar_7 x 1 (by omega), if_neg (by rw [jI_le (by omega) (by omega) (by omega) (by omega)]; omega), xba5 x F G (by omega) (by omega), Option.bind_some, Int.toNat_natCast, show (1 : Int32) = jI 1 from rfl, e2, sIx]
      by_cases q : [60, 62, 61, 35, 43, 45, 42, 47, 40, 41, 59].getD (11 - (k + 1)) (0 : Int) = (n : Int)
      · rw [if_pos (f.2 q), if_pos q]
      · rw [if_neg (fun h => q (f.1 h)), if_neg q]
        exact ih (by omega)
  have k11 := key 11 (by omega)
  have r := sIx_r n 11 (by omega)
  have e0 : jI ((11 - 11 : Nat) : Int) = jI 0 := rfl
  rw [e0] at k11
  rw [E_Words_symbolOf, sc, E_String_indexOf_I x _ 1003 _ rfl, E_String_indexOf_II x _ 1003 _ _ rfl, C_isLatin x F G (Or.inr rfl), b_I, if_neg (by decide), if_pos (Or.inr rfl), C_slen3, b_I, E_Latin1_indexOf, E_Latin1_canEncode, lit_0, if_neg (by rw [jI_lt (by omega) (by omega) (by omega) (by omega)]; omega), show (255 : Int32) = jI 255 from by decide, if_neg (by rw [jI_lt (by omega) (by omega) (by omega) (by omega)]; omega), b_I, if_neg (by decide), C_max x F G (by unfold rg; omega) (by unfold rg; omega), b_I, Int.max_self]
  rw [show m_len x (mk F G) (1003 + 2) = some (jI 11) from xlen5 x F G, Option.bind_some, C_min x F G (by unfold rg; omega) (by unfold rg; omega), b_I, Int.min_self, if_pos (by decide), E_Latin1_indexOfChar]
  rw [show m_D x 1 k_Latin1_indexOfChar 7 [some (.ref (1003 + 2)), some (.int (jI (n : Int))), some (.int (jI 0)), some (.int (jI 11)), some (.int (jI (n : Int)).toInt8.toInt32), some (.int (jI 0))] [] (mk F G) = _ from k11, b_I, b_I, b_I, b_I]
  unfold sy
  by_cases q : 0 ≤ sIx n 11
  · rw [if_pos (by rw [jI_le (by omega) (by omega) (by omega) (by omega)]; omega), if_pos q, show (37 : Int32) = jI 37 from by decide, jI_add]
  · rw [if_neg (by rw [jI_le (by omega) (by omega) (by omega) (by omega)]; omega), if_neg q]
    rfl
end
