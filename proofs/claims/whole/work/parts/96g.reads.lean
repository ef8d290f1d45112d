-- reading: the class's small methods
abbrev XOK (x : m_X) : Prop := x.2.2 = .null ∨ ∃ a, x.2.2 = .ref a
/-- where the next token stands -/
def nxp (T : Fn) (n p : Int) : Int := sk T n (tle T n p)
theorem rn_gt {P : Int → Bool} {k : Nat} {p : Int} (h : P p = true) (hk : 0 < k) : p < rn P k p := by
  cases k with
  | zero => omega
  | succ k =>
    rw [rn, if_pos h]
    have := rn_r P k (p + 1)
    omega
theorem tle_r {T : Fn} {n p : Int} (p0 : 0 ≤ p) (p1 : p ≤ n) : p ≤ tle T n p ∧ tle T n p ≤ n ∧ (p < n → p < tle T n p) := by
  unfold tle
  by_cases q : n ≤ p
  · rw [if_pos q]; omega
  · rw [if_neg q]
    by_cases l : lb (T p) = true
    · rw [if_pos l]
      have a := rn_r (fun i => lb (T i)) (n - p).toNat p
      have b := rn_gt (P := fun i => lb (T i)) (k := (n - p).toNat) (p := p) l (by omega)
      omega
    · rw [if_neg l]
      by_cases d : db (T p) = true
      · rw [if_pos d]
        have a := rn_r (fun i => db (T i)) (n - p).toNat p
        have b := rn_gt (P := fun i => db (T i)) (k := (n - p).toNat) (p := p) d (by omega)
        omega
      · rw [if_neg d]
        split <;> omega
theorem nxp_r {T : Fn} {n p : Int} (p0 : 0 ≤ p) (p1 : p ≤ n) : p ≤ nxp T n p ∧ nxp T n p ≤ n ∧ (p < n → p < nxp T n p) := by
  have a := tle_r (T := T) p0 p1
  have b := rn_r (fun i => bb (T i)) (n - tle T n p).toNat (tle T n p)
  unfold nxp sk
  omega
theorem kd_lt {T : Fn} {n p : Int} (h : ¬ kd T n p = 52) : p < n := by
  by_cases q : n ≤ p
  · exfalso
    apply h
    unfold kd
    rw [if_pos q]
  · omega
def aqG (m : Int) (F F2 : Nat → Fn) : Prop := (∀ b, ¬ b = 128 → ¬ b = 129 → ¬ b = 133 → F2 b = F b) ∧ (∀ z, z < m ∨ 8 < z → F2 128 z = F 128 z) ∧ ∀ z, ¬ z = 6 → F2 129 z = F 129 z
abbrev aqP (F F2 : Nat → Fn) : Prop := aqG 5 F F2
def aqD (F F2 : Nat → Fn) : Prop := (∀ b, ¬ b = 129 → ¬ b = 133 → F2 b = F b) ∧ ∀ z, ¬ z = 6 → F2 129 z = F 129 z
theorem aqP_tr {m : Int} {F F1 F2 : Nat → Fn} (h1 : aqG 5 F F1) (h2 : aqG m F1 F2) (hm : m ≤ 5 := by omega) : aqG m F F2 := ⟨fun b a c d => (h2.1 b a c d).trans (h1.1 b a c d), fun z h => (h2.2.1 z h).trans (h1.2.1 z (by omega)), fun z h => (h2.2.2 z h).trans (h1.2.2 z h)⟩
theorem aqF_tr {m : Int} {F F1 F2 : Nat → Fn} (h1 : aqG m F F1) (h2 : aqG 5 F1 F2) (hm : m ≤ 5 := by omega) : aqG m F F2 := ⟨fun b a c d => (h2.1 b a c d).trans (h1.1 b a c d), fun z h => (h2.2.1 z (by omega)).trans (h1.2.1 z h), fun z h => (h2.2.2 z h).trans (h1.2.2 z h)⟩
theorem aqP_rfl (F : Nat → Fn) : aqP F F := ⟨fun _ _ _ _ => rfl, fun _ _ => rfl, fun _ _ => rfl⟩
theorem aqD_P {F F2 : Nat → Fn} (h : aqD F F2) : aqP F F2 := ⟨fun b _ c d => h.1 b c d, fun z _ => by rw [h.1 128 (by omega) (by omega)], h.2⟩
theorem ag8_aq {F F2 : Nat → Fn} (h : ag8 F F2) : aqP F F2 := ⟨fun b a _ _ => h.1 b a, fun z hz => h.2 z (by omega), fun z _ => by rw [h.1 129 (by omega)]⟩
theorem aqD_tr {F F1 F2 : Nat → Fn} (h1 : aqD F F1) (h2 : aqD F1 F2) : aqD F F2 := ⟨fun b a c => (h2.1 b a c).trans (h1.1 b a c), fun z h => (h2.2 z h).trans (h1.2 z h)⟩
theorem aqP_TP {m : Int} {F F2 : Nat → Fn} {T : Fn} {n : Int} (h : aqG m F F2) (t : TP F T n) (hm : 3 ≤ m := by omega) : TP F2 T n := by
  obtain ⟨t1, t2, t3⟩ := t
  exact ⟨by rw [h.1 135 (by omega) (by omega) (by omega)]; exact t1, by rw [h.2.1 2 (by omega)]; exact t2, t3⟩
theorem aqD_CT {F F2 : Nat → Fn} {T : Fn} {n p : Int} (h : aqD F F2) (t : CT F T n p) : CT F2 T n p := by
  unfold CT
  rw [h.1 128 (by omega) (by omega)]
  exact t
def CPre (F : Nat → Fn) (T : Fn) (n s p : Int) : Prop := TP F T n ∧ CT F T n p ∧ (F 128 9 = s ∧ 0 ≤ s ∧ s ≤ 3) ∧ 0 ≤ F 129 6 ∧ F 129 6 ≤ p
def CF (F F2 : Nat → Fn) (c pl : Int) : Prop := aqG 3 F F2 ∧ (F2 128 3 = c ∧ 1 ≤ c ∧ c ≤ 6) ∧ (F2 128 4 = pl ∧ 0 ≤ pl ∧ pl ≤ 300) ∧ 0 ≤ F2 129 6 ∧ F2 129 6 ≤ 300
def CG (s : Int) (F F2 : Nat → Fn) (T : Fn) (n p p' : Int) (f : LEnv) (d : Nat) : Prop := aqP F F2 ∧ CT F2 T n p' ∧ F 129 6 ≤ F2 129 6 ∧ F2 129 6 - F 129 6 ≤ p' - p ∧ (∀ i, i < F 129 6 → F2 133 i = F 133 i) ∧ CC s (F2 133) (F 129 6) (F2 129 6) f d
def Cok (x : m_X) (k : Nat) (as : List Value) (s : Int) (T : Fn) (n p : Int) (r : (Int × Int) ⊕ (Int × LEnv)) (d : Nat) : Prop := ∀ F G, CPre F T n s p → Sum.elim (fun e => ∃ F2, m_M x k as (mk F G) = some (some (.int (jI 0)), mk F2 G) ∧ CF F F2 e.1 e.2) (fun q => ∃ F2, m_M x k as (mk F G) = some (some (.int (jI 1)), mk F2 G) ∧ CG s F F2 T n p q.1 q.2 d) r
section
variable (x : m_X) (F G : Nat → Fn)
theorem C_adv (hX : XOK x) {T : Fn} {n p : Int} (h : TP F T n) (hc : CT F T n p) : ∃ F2, m_M x k_Reader_advance [.ref 128] (mk F G) = some (none, mk F2 G) ∧ ag8 F F2 ∧ CT F2 T n (nxp T n p) := by
  have a := tle_r (T := T) hc.2.1.1 hc.2.1.2
  exact C_advance x F G hX h hc.1.2.2 (by have := hc.2.1.1; omega) (by omega)
theorem C_fails {T : Fn} {n p c : Int} (hc : CT F T n p) (hl : 0 ≤ F 129 6 ∧ F 129 6 ≤ 300) (h6 : 1 ≤ c ∧ c ≤ 6 := by omega) (hT : TP F T n := by assumption) : ∃ F2, m_M x k_Reader_fails [.ref 128, .int (jI c)] (mk F G) = some (some (.int (jI 0)), mk F2 G) ∧ CF F F2 c p := by
  rw [E_Reader_fails, isO_128, if_pos rfl, pf_128_3, Option.bind_some, fI_128_7, Option.bind_some, pf_128_4, Option.bind_some]
  refine ⟨_, rfl, ⟨?_, ?_, ?_⟩, ?_, ?_, ?_⟩
  · intro b b1 b2 b3
    rw [sA_ne _ _ b1, sA_ne _ _ b1]
  · intro z hz
    rw [sA_eq, u_ne _ _ (by omega), sA_eq, u_ne _ _ (by omega)]
  · intro z hz
    rw [sA_ne (b := 129) _ _ (by omega), sA_ne (b := 129) _ _ (by omega)]
  · exact ⟨by rw [sA_eq, u_ne _ _ (by omega), sA_eq, u_eq], h6⟩
  · have q1 := hc.2.1
    have q2 := hT.2.2.1
    refine ⟨?_, by omega, by omega⟩
    rw [sA_eq, u_eq, sA_eq, u_ne _ _ (by omega)]
    exact hc.1.2.1
  · rw [sA_ne (b := 129) _ _ (by omega), sA_ne (b := 129) _ _ (by omega)]
    exact hl
theorem rk_b0 : m_rk (some .boolean) (some (.int (jI 0))) = true := by decide
theorem rk_b1 : m_rk (some .boolean) (some (.int (jI 1))) = true := by decide
/-- a token that must stand here -/
theorem C_expects (hX : XOK x) {T : Fn} {n p tk : Int} (h : TP F T n) (hc : CT F T n p) (hl : 0 ≤ F 129 6 ∧ F 129 6 ≤ 300) (ht : 0 ≤ tk ∧ tk ≤ 60) : (kd T n p = tk ∧ ∃ F2, m_M x k_Reader_expects [.ref 128, .int (jI tk)] (mk F G) = some (some (.int (jI 1)), mk F2 G) ∧ ag8 F F2 ∧ CT F2 T n (nxp T n p)) ∨ (¬ kd T n p = tk ∧ ∃ F2, m_M x k_Reader_expects [.ref 128, .int (jI tk)] (mk F G) = some (some (.int (jI 0)), mk F2 G) ∧ CF F F2 1 p) := by
  have kr := kd_r T n p
  rw [E_Reader_expects, isO_128, if_pos rfl, fI_128_5, Option.bind_some, hc.1.1]
  by_cases q : kd T n p = tk
  · left
    obtain ⟨F2, y1, y2, y3⟩ := C_adv x F G hX h hc
    refine ⟨q, F2, ?_, y2, y3⟩
    rw [if_pos (by rw [q]), y1, b_V]
    rfl
  · right
    obtain ⟨F2, y1, y2⟩ := C_fails x F G (c := 1) hc hl
    refine ⟨q, F2, ?_, y2⟩
    rw [if_neg (by rw [jI_eq (by omega) (by omega) (by omega) (by omega)]; omega), show (1 : Int32) = jI 1 from rfl, y1, b_I, if_pos rk_b0]
theorem C_opens (hX : XOK x) {T : Fn} {n p o : Int} (h : TP F T n) (hc : CT F T n p) (hl : 0 ≤ F 129 6 ∧ F 129 6 ≤ 300) (ho : 0 ≤ o ∧ o ≤ 8) : (o < 8 ∧ ∃ F2, m_M x k_Reader_opens [.ref 128, .int (jI o)] (mk F G) = some (some (.int (jI 1)), mk F2 G) ∧ ag8 F F2 ∧ CT F2 T n (nxp T n p)) ∨ (o = 8 ∧ ∃ F2, m_M x k_Reader_opens [.ref 128, .int (jI o)] (mk F G) = some (some (.int (jI 0)), mk F2 G) ∧ CF F F2 3 p) := by
  rw [E_Reader_opens, isO_128, if_pos rfl, show (8 : Int32) = jI 8 from by decide]
  by_cases q : o < 8
  · left
    obtain ⟨F2, y1, y2, y3⟩ := C_adv x F G hX h hc
    refine ⟨q, F2, ?_, y2, y3⟩
    rw [if_pos (by rw [jI_lt (by omega) (by omega) (by omega) (by omega)]; omega), y1, b_V]
    rfl
  · right
    obtain ⟨F2, y1, y2⟩ := C_fails x F G (c := 3) hc hl
    refine ⟨by omega, F2, ?_, y2⟩
    rw [if_neg (by rw [jI_lt (by omega) (by omega) (by omega) (by omega)]; omega), show (3 : Int32) = jI 3 from by decide, y1, b_I, if_pos rk_b0]
theorem C_add {v : Int} (hl : 0 ≤ F 129 6 ∧ F 129 6 ≤ 300) : ∃ F2, m_M x k_Script_add [.ref 129, .int (jI v)] (mk F G) = some (none, mk F2 G) ∧ aqD F F2 ∧ (0 ≤ F2 129 6 ∧ F2 129 6 ≤ 300) ∧ (F 129 6 < 300 → F2 129 6 = F 129 6 + 1 ∧ F2 133 = u (F 133) (F 129 6) v) := by
  have i0 : m_isO (mk F G) 129 5 = true := isO_P F G (by omega)
  have f6 : ∀ F' : Nat → Fn, m_fI (mk F' G) 5 6 129 = some (jI (F' 129 6)) := fun F' => fI_P_6 F' G (by omega)
  have r3 : m_fR (mk F G) 5 3 129 = some 133 := fR_P_3 F G (w := 129) (by omega)
  rw [E_Script_add, i0, if_pos rfl, f6, Option.bind_some, show (0 : Int32) = jI 0 from rfl, if_neg (by rw [jI_lt (by omega) (by omega) (by omega) (by omega)]; omega), Option.bind_some, show (300 : Int32) = jI 300 from by decide]
  by_cases q : 300 ≤ F 129 6
  · rw [if_pos (by rw [jI_le (by omega) (by omega) (by omega) (by omega)]; omega)]
    exact ⟨F, rfl, ⟨fun _ _ _ => rfl, fun _ _ => rfl⟩, hl, fun h => by omega⟩
  · have w4 : m_is (mk F G) 133 (jI (F 129 6)) (jI v) = some (mk (sA F 133 (u (F 133) (F 129 6) v)) G) := is_P4 F G (w := 129) v (by omega) hl.1 (by omega)
    have p6 : ∀ (F' : Nat → Fn) (z : Int), m_pf (mk F' G) 5 6 129 (.int (jI z)) = some (mk (sA F' 129 (u (F' 129) 6 z)) G) := fun F' z => pf_P_6 F' G z (w := 129) (by omega)
    rw [if_neg (by rw [jI_le (by omega) (by omega) (by omega) (by omega)]; omega), r3, Option.bind_some, Option.bind_some, w4, Option.bind_some, f6, Option.bind_some, sA_ne (b := 129) _ _ (by omega), show (1 : Int32) = jI 1 from rfl, jI_add, p6, Option.bind_some]
    refine ⟨_, rfl, ⟨?_, ?_⟩, ?_, ?_⟩
    · intro b b1 b2
      rw [sA_ne _ _ b1, sA_ne _ _ b2]
    · intro z hz
      rw [sA_eq, u_ne _ _ hz, sA_ne _ _ (by omega)]
    · rw [sA_eq, u_eq]; omega
    · intro _
      rw [sA_eq, u_eq, sA_ne (b := 133) _ _ (by omega), sA_eq]
      exact ⟨rfl, rfl⟩
theorem C_addDeed {dd : Int} (hl : 0 ≤ F 129 6 ∧ F 129 6 ≤ 300) : ∃ F2, m_M x k_Script_addDeed [.ref 129, .int (jI dd)] (mk F G) = some (none, mk F2 G) ∧ aqD F F2 ∧ (0 ≤ F2 129 6 ∧ F2 129 6 ≤ 300) ∧ (F 129 6 < 300 → F2 129 6 = F 129 6 + 1 ∧ F2 133 = u (F 133) (F 129 6) (-1 - dd)) := by
  have i0 : m_isO (mk F G) 129 5 = true := isO_P F G (by omega)
  obtain ⟨F2, y1, y2⟩ := C_add x F G (v := -1 - dd) hl
  refine ⟨F2, ?_, y2⟩
  rw [E_Script_addDeed, i0, if_pos rfl, show (-1 : Int32) = jI (-1) from rfl, jI_sub, y1, b_V]
theorem C_does {dd : Int} (hl : 0 ≤ F 129 6 ∧ F 129 6 ≤ 300) : ∃ F2, m_M x k_Reader_does [.ref 128, .int (jI dd)] (mk F G) = some (some (.int (jI 1)), mk F2 G) ∧ aqD F F2 ∧ (0 ≤ F2 129 6 ∧ F2 129 6 ≤ 300) ∧ (F 129 6 < 300 → F2 129 6 = F 129 6 + 1 ∧ F2 133 = u (F 133) (F 129 6) (-1 - dd)) := by
  obtain ⟨F2, y1, y2⟩ := C_addDeed x F G (dd := dd) hl
  refine ⟨F2, ?_, y2⟩
  rw [E_Reader_does, isO_128, if_pos rfl, fR_128_0, Option.bind_some, y1, b_V]
  rfl
theorem C_isNm {k : Int} (hk : 0 ≤ k ∧ k ≤ 60) : m_M x k_Words_isName [.int (jI k)] (mk F G) = some (some (.int (jI (if 11 ≤ k ∧ k ≤ 24 then 1 else 0))), mk F G) := by
  rw [E_Words_isName, show (11 : Int32) = jI 11 from by decide, show (24 : Int32) = jI 24 from by decide]
  by_cases q : k < 11
  · rw [if_pos (by rw [jI_lt (by omega) (by omega) (by omega) (by omega)]; omega), if_neg (by omega)]; rfl
  · rw [if_neg (by rw [jI_lt (by omega) (by omega) (by omega) (by omega)]; omega)]
    by_cases q2 : 24 < k
    · rw [if_pos (by rw [jI_lt (by omega) (by omega) (by omega) (by omega)]; omega), if_neg (by omega)]; rfl
    · rw [if_neg (by rw [jI_lt (by omega) (by omega) (by omega) (by omega)]; omega), if_pos (by omega)]; rfl
theorem C_isNameOf {k s : Int} (hk : 11 ≤ k ∧ k ≤ 24) (hs : 0 ≤ s ∧ s ≤ 3) : m_M x k_Words_isNameOf [.int (jI s), .int (jI k)] (mk F G) = some (some (.int (jI (if nmok s k then 1 else 0))), mk F G) := by
  have cn := C_isNm x F G (k := k) (by omega)
  rw [if_pos hk] at cn
  have f31 : ∀ b : Int, (b = 0 ∨ b = 1) → (b = 1 ↔ (13 ≤ k ∧ k ≤ 18)) → ¬ k = 11 → ¬ k = 12 → m_D x 2 k_Words_isNameOf 31 [some (.int (jI s)), some (.int (jI k)), none, none] [.int (jI b)] (mk F G) = some (some (.int (jI (if nmok s k then 1 else 0))), mk F G) := by
    intro b hb hbb k1 k2
    unfold nmok
    rw [E_Words_isNameOf_31 x 2 (by omega), show (0 : Int32) = jI 0 from rfl, show (1 : Int32) = jI 1 from rfl]
    by_cases s0 : s = 0
    · rw [if_pos (by rw [s0]), cn, b_I, if_neg (by decide)]
      rcases hb with hb | hb
      · rw [hb, if_neg (by decide), if_neg (by omega)]
      · rw [hb, if_pos (by decide), if_pos (by omega)]
    · rw [if_neg (by rw [jI_eq (by omega) (by omega) (by omega) (by omega)]; omega)]
      by_cases s1 : s = 1
      · rw [if_pos (by rw [s1]), cn, b_I, if_neg (by decide)]
        rcases hb with hb | hb
        · rw [hb, if_neg (by decide), if_neg (by omega)]
        · rw [hb, if_pos (by decide), if_pos (by omega)]
      · rw [if_neg (by rw [jI_eq (by omega) (by omega) (by omega) (by omega)]; omega), cn, b_I, if_neg (by decide)]
        rcases hb with hb | hb
        · rw [hb, if_pos (by decide), if_pos (by omega)]
        · rw [hb, if_neg (by decide), if_neg (by omega)]
  rw [E_Words_isNameOf, show (11 : Int32) = jI 11 from by decide, show (12 : Int32) = jI 12 from by decide, show (13 : Int32) = jI 13 from by decide, show (18 : Int32) = jI 18 from by decide]
  by_cases k1 : k = 11
  · rw [if_pos (by rw [k1]), if_pos (by unfold nmok; omega)]; rfl
  · rw [if_neg (by rw [jI_eq (by omega) (by omega) (by omega) (by omega)]; omega)]
    by_cases k2 : k = 12
    · rw [if_pos (by rw [k2]), if_pos (by unfold nmok; omega)]; rfl
    · rw [if_neg (by rw [jI_eq (by omega) (by omega) (by omega) (by omega)]; omega), if_neg (by rw [jI_lt (by omega) (by omega) (by omega) (by omega)]; omega)]
      by_cases k3 : 18 < k
      · rw [if_pos (by rw [jI_lt (by omega) (by omega) (by omega) (by omega)]; omega)]
        exact f31 0 (Or.inl rfl) ⟨fun h => by omega, fun h => by omega⟩ k1 k2
      · rw [if_neg (by rw [jI_lt (by omega) (by omega) (by omega) (by omega)]; omega)]
        exact f31 1 (Or.inr rfl) ⟨fun h => by omega, fun h => rfl⟩ k1 k2
/-- a number that stands here -/
theorem C_readNum (hX : XOK x) {T : Fn} {n p a b : Int} (hT : TP F T n) (hc : CT F T n p) (l0 : 0 ≤ F 129 6) (l1 : F 129 6 ≤ p) (ha : 0 ≤ a ∧ a ≤ 9999) (hb : b ≤ 9999) (hab : rg b) : (¬ kd T n p = 51 ∧ ∃ F2, m_M x k_Reader_readNumber [.ref 128, .int (jI a), .int (jI b)] (mk F G) = some (some (.int (jI 0)), mk F2 G) ∧ CF F F2 1 p) ∨ (kd T n p = 51 ∧ ¬ (a ≤ cnR T (n - p).toNat p 0 ∧ cnR T (n - p).toNat p 0 ≤ b) ∧ ∃ F2, m_M x k_Reader_readNumber [.ref 128, .int (jI a), .int (jI b)] (mk F G) = some (some (.int (jI 0)), mk F2 G) ∧ CF F F2 2 p) ∨ (kd T n p = 51 ∧ (a ≤ cnR T (n - p).toNat p 0 ∧ cnR T (n - p).toNat p 0 ≤ b) ∧ ∃ F2, m_M x k_Reader_readNumber [.ref 128, .int (jI a), .int (jI b)] (mk F G) = some (some (.int (jI 1)), mk F2 G) ∧ aqP F F2 ∧ CT F2 T n (nxp T n p) ∧ F2 129 6 = F 129 6 + 1 ∧ F2 133 = u (F 133) (F 129 6) (cnR T (n - p).toNat p 0)) := by
  have kr := kd_r T n p
  have nr := NR_0 T (n - p).toNat p
  have hn := hT.2.2.1
  have hp := hc.2.1
  rw [E_Reader_readNumber, isO_128, if_pos rfl, fI_128_5, Option.bind_some, hc.1.1, show (51 : Int32) = jI 51 from by decide]
  by_cases q : kd T n p = 51
  · have e6 := hc.2.2 q
    have hlt := kd_lt (T := T) (n := n) (p := p) (by omega)
    have cr : 0 ≤ cnR T (n - p).toNat p 0 ∧ cnR T (n - p).toNat p 0 ≤ 10000 := by unfold NR at nr; omega
    rw [if_pos (by rw [q]), fI_128_6, Option.bind_some, e6, C_isIn x F G (by unfold rg; omega) (by unfold rg at *; omega) hab, b_I]
    by_cases q2 : a ≤ cnR T (n - p).toNat p 0 ∧ cnR T (n - p).toNat p 0 ≤ b
    · right; right
      obtain ⟨F2, y1, y2, y3, y4⟩ := C_add x F G (v := cnR T (n - p).toNat p 0) ⟨l0, by omega⟩
      obtain ⟨z1, z2⟩ := y4 (by omega)
      obtain ⟨F3, w1, w2, w3⟩ := C_adv x F2 G hX (aqP_TP (aqD_P y2) hT) (aqD_CT y2 hc)
      refine ⟨q, q2, F3, ?_, aqP_tr (aqD_P y2) (ag8_aq w2), w3, ?_, ?_⟩
      · rw [if_pos q2, if_neg (by decide), fR_128_0, Option.bind_some, fI_128_6, Option.bind_some, e6, y1, b_V, w1, b_V]
        rfl
      · rw [w2.1 129 (by omega), z1]
      · rw [w2.1 133 (by omega), z2]
    · right; left
      obtain ⟨F2, y1, y2⟩ := C_fails x F G (c := 2) hc ⟨l0, by omega⟩
      refine ⟨q, q2, F2, ?_, y2⟩
      rw [if_neg q2, if_pos (by decide), show (2 : Int32) = jI 2 from by decide, y1, b_I, if_pos rk_b0]
  · left
    obtain ⟨F2, y1, y2⟩ := C_fails x F G (c := 1) hc ⟨l0, by omega⟩
    refine ⟨q, F2, ?_, y2⟩
    rw [if_neg (by rw [jI_eq (by omega) (by omega) (by omega) (by omega)]; omega), show (1 : Int32) = jI 1 from rfl, y1, b_I, if_pos rk_b0]
theorem C_readNumber (hX : XOK x) {T : Fn} {n p a b s : Int} (h : CPre F T n s p) (ha : 0 ≤ a ∧ a ≤ 9999) (hb : b ≤ 9999) (hab : rg b) : (¬ kd T n p = 51 ∧ ∃ F2, m_M x k_Reader_readNumber [.ref 128, .int (jI a), .int (jI b)] (mk F G) = some (some (.int (jI 0)), mk F2 G) ∧ CF F F2 1 p) ∨ (kd T n p = 51 ∧ ¬ (a ≤ cnR T (n - p).toNat p 0 ∧ cnR T (n - p).toNat p 0 ≤ b) ∧ ∃ F2, m_M x k_Reader_readNumber [.ref 128, .int (jI a), .int (jI b)] (mk F G) = some (some (.int (jI 0)), mk F2 G) ∧ CF F F2 2 p) ∨ (kd T n p = 51 ∧ (a ≤ cnR T (n - p).toNat p 0 ∧ cnR T (n - p).toNat p 0 ≤ b) ∧ ∃ F2, m_M x k_Reader_readNumber [.ref 128, .int (jI a), .int (jI b)] (mk F G) = some (some (.int (jI 1)), mk F2 G) ∧ aqP F F2 ∧ CT F2 T n (nxp T n p) ∧ F2 129 6 = F 129 6 + 1 ∧ F2 133 = u (F 133) (F 129 6) (cnR T (n - p).toNat p 0)) :=
  C_readNum x F G hX h.1 h.2.1 h.2.2.2.1 h.2.2.2.2 ha hb hab
theorem C_readName (hX : XOK x) {T : Fn} {n p s : Int} (h : CPre F T n s p) : (¬ (11 ≤ kd T n p ∧ kd T n p ≤ 24) ∧ ∃ F2, m_M x k_Reader_readName [.ref 128] (mk F G) = some (some (.int (jI 0)), mk F2 G) ∧ CF F F2 1 p) ∨ ((11 ≤ kd T n p ∧ kd T n p ≤ 24) ∧ ¬ nmok s (kd T n p) ∧ ∃ F2, m_M x k_Reader_readName [.ref 128] (mk F G) = some (some (.int (jI 0)), mk F2 G) ∧ CF F F2 5 p) ∨ ((11 ≤ kd T n p ∧ kd T n p ≤ 24) ∧ nmok s (kd T n p) ∧ ∃ F2, m_M x k_Reader_readName [.ref 128] (mk F G) = some (some (.int (jI 1)), mk F2 G) ∧ aqP F F2 ∧ CT F2 T n (nxp T n p) ∧ F2 129 6 = F 129 6 + 1 ∧ F2 133 = u (F 133) (F 129 6) (-1 - kd T n p)) := by
  obtain ⟨hT, hc, hs, l0, l1⟩ := h
  have kr := kd_r T n p
  have hn := hT.2.2.1
  have hp := hc.2.1
  rw [E_Reader_readName, isO_128, if_pos rfl, fI_128_5, Option.bind_some, hc.1.1, C_isNm x F G (by omega), b_I]
  by_cases q : 11 ≤ kd T n p ∧ kd T n p ≤ 24
  · have hlt := kd_lt (T := T) (n := n) (p := p) (by omega)
    rw [if_pos q, if_neg (by decide), fI_128_9, Option.bind_some, fI_128_5, Option.bind_some, hs.1, hc.1.1, C_isNameOf x F G q hs.2, b_I]
    by_cases q2 : nmok s (kd T n p)
    · right; right
      obtain ⟨F2, y1, y2, y3, y4⟩ := C_addDeed x F G (dd := kd T n p) ⟨l0, by omega⟩
      obtain ⟨z1, z2⟩ := y4 (by omega)
      obtain ⟨F3, w1, w2, w3⟩ := C_adv x F2 G hX (aqP_TP (aqD_P y2) hT) (aqD_CT y2 hc)
      refine ⟨q, q2, F3, ?_, aqP_tr (aqD_P y2) (ag8_aq w2), w3, ?_, ?_⟩
      · rw [if_pos q2, if_neg (by decide), fR_128_0, Option.bind_some, fI_128_5, Option.bind_some, hc.1.1, y1, b_V, w1, b_V]
        rfl
      · rw [w2.1 129 (by omega), z1]
      · rw [w2.1 133 (by omega), z2]
    · right; left
      obtain ⟨F2, y1, y2⟩ := C_fails x F G (c := 5) hc ⟨l0, by omega⟩
      refine ⟨q, q2, F2, ?_, y2⟩
      rw [if_neg q2, if_pos (by decide), show (5 : Int32) = jI 5 from by decide, y1, b_I, if_pos rk_b0]
  · left
    obtain ⟨F2, y1, y2⟩ := C_fails x F G (c := 1) hc ⟨l0, by omega⟩
    refine ⟨q, F2, ?_, y2⟩
    rw [if_neg q, if_pos (by decide), show (1 : Int32) = jI 1 from rfl, y1, b_I, if_pos rk_b0]
end
