-- reading: a clause, the class
def aqR (F F2 : Nat → Fn) : Prop := (∀ b, (b < 128 ∨ 134 < b) → F2 b = F b) ∧ F2 128 2 = F 128 2
theorem aqR_rfl (F : Nat → Fn) : aqR F F := ⟨fun _ _ => rfl, rfl⟩
theorem aqR_tr {F F1 F2 : Nat → Fn} (h1 : aqR F F1) (h2 : aqR F1 F2) : aqR F F2 := ⟨fun b h => (h2.1 b h).trans (h1.1 b h), h2.2.trans h1.2⟩
theorem aqP_R {m : Int} {F F2 : Nat → Fn} (h : aqG m F F2) (hm : 3 ≤ m := by omega) : aqR F F2 := ⟨fun b hb => h.1 b (by omega) (by omega) (by omega), h.2.1 2 (by omega)⟩
def aqQ (F F2 : Nat → Fn) : Prop := aqR F F2 ∧ F2 128 3 = F 128 3 ∧ F2 128 4 = F 128 4
theorem aqQ_tr {F F1 F2 : Nat → Fn} (h1 : aqQ F F1) (h2 : aqQ F1 F2) : aqQ F F2 := ⟨aqR_tr h1.1 h2.1, h2.2.1.trans h1.2.1, h2.2.2.trans h1.2.2⟩
theorem aqP_Q {F F2 : Nat → Fn} (h : aqP F F2) : aqQ F F2 := ⟨aqP_R h, h.2.1 3 (by omega), h.2.1 4 (by omega)⟩
theorem aqR_TP {F F2 : Nat → Fn} {T : Fn} {n : Int} (h : aqR F F2) (t : TP F T n) : TP F2 T n := by
  obtain ⟨t1, t2, t3⟩ := t
  exact ⟨by rw [h.1 135 (by omega)]; exact t1, by rw [h.2]; exact t2, t3⟩
section
variable (x : m_X) (F G : Nat → Fn)
theorem C_isStart {k : Int} (hk : 0 ≤ k ∧ k ≤ 60) : m_M x k_Words_isClauseStart [.int (jI k)] (mk F G) = some (some (.int (jI (if k ≤ 11 then 1 else 0))), mk F G) := by
  rw [E_Words_isClauseStart, show (0 : Int32) = jI 0 from rfl, show (11 : Int32) = jI 11 from by decide, if_neg (by rw [jI_lt (by omega) (by omega) (by omega) (by omega)]; omega)]
  by_cases q : k ≤ 11
  · rw [if_neg (by rw [jI_lt (by omega) (by omega) (by omega) (by omega)]; omega), if_pos q]; rfl
  · rw [if_pos (by rw [jI_lt (by omega) (by omega) (by omega) (by omega)]; omega), if_neg q]
theorem C_isLw {k : Int} (hk : 0 ≤ k ∧ k ≤ 60) : m_M x k_Words_isLaw [.int (jI k)] (mk F G) = some (some (.int (jI (if k ≤ 3 then 1 else 0))), mk F G) := by
  rw [E_Words_isLaw, show (0 : Int32) = jI 0 from rfl, show (3 : Int32) = jI 3 from by decide, if_neg (by rw [jI_lt (by omega) (by omega) (by omega) (by omega)]; omega)]
  by_cases q : k ≤ 3
  · rw [if_neg (by rw [jI_lt (by omega) (by omega) (by omega) (by omega)]; omega), if_pos q]; rfl
  · rw [if_pos (by rw [jI_lt (by omega) (by omega) (by omega) (by omega)]; omega), if_neg q]
theorem C_lawAt9 {s : Int} (hs : 0 ≤ s ∧ s ≤ 3) : m_M x k_Script_lawAt [.ref 129, .int (jI s)] (mk F G) = some (some (.int (jI (F 134 s))), mk F G) := by
  have i5 : m_ia x (mk F G) 134 (jI s) = some (jI (F 134 s)) := ia_P5 x F G (w := 129) (by omega) hs.1 (by omega)
  rw [E_Script_lawAt, isO_P F G (w := 129) (by omega), if_pos rfl, show (0 : Int32) = jI 0 from rfl, show (4 : Int32) = jI 4 from by decide, if_neg (by rw [jI_lt (by omega) (by omega) (by omega) (by omega)]; omega), if_neg (by rw [jI_le (by omega) (by omega) (by omega) (by omega)]; omega), fR_P_4 F G (w := 129) (by omega), Option.bind_some]
  show (m_ia x (mk F G) 134 (jI s)).bind _ = _
  rw [i5, Option.bind_some]
theorem C_start {k d : Int} (hk : F 129 5 = k) (k0 : 0 ≤ k) (k1 : k < 24) (hd : 0 ≤ d ∧ d ≤ 60) : ∃ F2, m_M x k_Script_startClause [.ref 129, .int (jI d)] (mk F G) = some (none, mk F2 G) ∧ (∀ b, ¬ b = 130 → ¬ b = 131 → ¬ b = 134 → F2 b = F b) ∧ F2 130 = u (F 130) k d ∧ F2 131 = u (F 131) k (F 129 6) ∧ F2 134 = if d ≤ 3 then u (F 134) d k else F 134 := by
  have f5 : ∀ F' : Nat → Fn, m_fI (mk F' G) 5 5 129 = some (jI (F' 129 5)) := fun F' => fI_P_5 F' G (by omega)
  have f6 : ∀ F' : Nat → Fn, m_fI (mk F' G) 5 6 129 = some (jI (F' 129 6)) := fun F' => fI_P_6 F' G (by omega)
  have r0 : ∀ F' : Nat → Fn, m_fR (mk F' G) 5 0 129 = some 130 := fun F' => fR_P_0 F' G (w := 129) (by omega)
  have r1 : ∀ F' : Nat → Fn, m_fR (mk F' G) 5 1 129 = some 131 := fun F' => fR_P_1 F' G (w := 129) (by omega)
  have r4 : ∀ F' : Nat → Fn, m_fR (mk F' G) 5 4 129 = some 134 := fun F' => fR_P_4 F' G (w := 129) (by omega)
  have w1 : ∀ (F' : Nat → Fn) (v : Int), m_is (mk F' G) 130 (jI k) (jI v) = some (mk (sA F' 130 (u (F' 130) k v)) G) := fun F' v => is_P1 F' G (w := 129) v (by omega) k0 k1
  have w2 : ∀ (F' : Nat → Fn) (v : Int), m_is (mk F' G) 131 (jI k) (jI v) = some (mk (sA F' 131 (u (F' 131) k v)) G) := fun F' v => is_P2 F' G (w := 129) v (by omega) k0 k1
  rw [E_Script_startClause, isO_P F G (w := 129) (by omega), if_pos rfl, f5, Option.bind_some, hk, show (0 : Int32) = jI 0 from rfl, if_neg (by rw [jI_lt (by omega) (by omega) (by omega) (by omega)]; omega), Option.bind_some, show (24 : Int32) = jI 24 from by decide, if_pos (by rw [jI_lt (by omega) (by omega) (by omega) (by omega)]; omega), r0, Option.bind_some, Option.bind_some, w1, Option.bind_some, r1, Option.bind_some, f5, Option.bind_some, f6, Option.bind_some, sA_ne (b := 129) _ _ (by omega), hk, w2, Option.bind_some, if_neg (by rw [jI_lt (by omega) (by omega) (by omega) (by omega)]; omega), show (4 : Int32) = jI 4 from by decide]
  by_cases q : d ≤ 3
  · have w5 : ∀ (F' : Nat → Fn) (v : Int), m_is (mk F' G) 134 (jI d) (jI v) = some (mk (sA F' 134 (u (F' 134) d v)) G) := fun F' v => is_P5 F' G (w := 129) v (by omega) hd.1 (by omega)
    rw [if_neg (by rw [jI_le (by omega) (by omega) (by omega) (by omega)]; omega), r4, Option.bind_some, f5, Option.bind_some, sA_ne (b := 129) _ _ (by omega), sA_ne (b := 129) _ _ (by omega), hk, w5, Option.bind_some, if_pos q]
    refine ⟨_, rfl, ?_, ?_, ?_, ?_⟩
    · intro b b1 b2 b3
      rw [sA_ne _ _ b3, sA_ne _ _ b2, sA_ne _ _ b1]
    · rw [sA_ne _ _ (by omega), sA_ne _ _ (by omega), sA_eq]
    · rw [sA_ne _ _ (by omega), sA_eq, sA_ne _ _ (by omega)]
    · rw [sA_eq, sA_ne _ _ (by omega), sA_ne _ _ (by omega)]
  · rw [if_pos (by rw [jI_le (by omega) (by omega) (by omega) (by omega)]; omega), if_neg q]
    refine ⟨_, rfl, ?_, ?_, ?_, ?_⟩
    · intro b b1 b2 b3
      rw [sA_ne _ _ b2, sA_ne _ _ b1]
    · rw [sA_ne _ _ (by omega), sA_eq]
    · rw [sA_eq, sA_ne _ _ (by omega)]
    · rw [sA_ne _ _ (by omega), sA_ne _ _ (by omega)]
theorem C_endc {k : Int} (hk : F 129 5 = k) (k0 : 0 ≤ k) (k1 : k < 24) : ∃ F2, m_M x k_Script_endClause [.ref 129] (mk F G) = some (none, mk F2 G) ∧ (∀ b, ¬ b = 129 → ¬ b = 132 → F2 b = F b) ∧ F2 129 = u (F 129) 5 (k + 1) ∧ F2 132 = u (F 132) k (F 129 6) := by
  have f5 : ∀ F' : Nat → Fn, m_fI (mk F' G) 5 5 129 = some (jI (F' 129 5)) := fun F' => fI_P_5 F' G (by omega)
  have f6 : ∀ F' : Nat → Fn, m_fI (mk F' G) 5 6 129 = some (jI (F' 129 6)) := fun F' => fI_P_6 F' G (by omega)
  have r2 : ∀ F' : Nat → Fn, m_fR (mk F' G) 5 2 129 = some 132 := fun F' => fR_P_2 F' G (w := 129) (by omega)
  have w3 : ∀ (F' : Nat → Fn) (v : Int), m_is (mk F' G) 132 (jI k) (jI v) = some (mk (sA F' 132 (u (F' 132) k v)) G) := fun F' v => is_P3 F' G (w := 129) v (by omega) k0 k1
  have p5 : ∀ (F' : Nat → Fn) (z : Int), m_pf (mk F' G) 5 5 129 (.int (jI z)) = some (mk (sA F' 129 (u (F' 129) 5 z)) G) := fun F' z => pf_P_5 F' G z (w := 129) (by omega)
  rw [E_Script_endClause, isO_P F G (w := 129) (by omega), if_pos rfl, f5, Option.bind_some, hk, show (0 : Int32) = jI 0 from rfl, if_neg (by rw [jI_lt (by omega) (by omega) (by omega) (by omega)]; omega), Option.bind_some, show (24 : Int32) = jI 24 from by decide, if_pos (by rw [jI_lt (by omega) (by omega) (by omega) (by omega)]; omega), r2, Option.bind_some, Option.bind_some, f6, Option.bind_some, w3, Option.bind_some, f5, Option.bind_some, sA_ne (b := 129) _ _ (by omega), hk, show (1 : Int32) = jI 1 from rfl, jI_add, p5, Option.bind_some]
  refine ⟨_, rfl, ?_, ?_, ?_⟩
  · intro b b1 b2
    rw [sA_ne _ _ b1, sA_ne _ _ b2]
  · rw [sA_eq, sA_ne _ _ (by omega)]
  · rw [sA_ne _ _ (by omega), sA_eq]
/-- the end of a clause -/
theorem C_tail0 {k : Int} (hk : F 129 5 = k) (k0 : 0 ≤ k) (k1 : k < 24) : ∃ F2, m_D x 97 k_Reader_readClause 115 [some (.ref 128), none] [.int (jI 0)] (mk F G) = some (some (.int (jI 0)), mk F2 G) ∧ F2 128 = F 128 ∧ aqR F F2 := by
  obtain ⟨F2, y1, y2, y3, y4⟩ := C_endc x F G hk k0 k1
  refine ⟨F2, ?_, y2 128 (by omega) (by omega), fun b hb => y2 b (by omega) (by omega), by rw [y2 128 (by omega) (by omega)]⟩
  rw [E_Reader_readClause_115 x 97 (by omega), fR_128_0, Option.bind_some, y1, b_V, show (0 : Int32) = jI 0 from rfl, if_pos rfl]
theorem C_tail1 (hX : XOK x) {T : Fn} {n q k : Int} (hT : TP F T n) (hc : CT F T n q) (hk : F 129 5 = k) (k0 : 0 ≤ k) (k1 : k < 24) (hl : 0 ≤ F 129 6 ∧ F 129 6 ≤ 300) : (kd T n q = 47 ∧ ∃ F2, m_D x 97 k_Reader_readClause 115 [some (.ref 128), none] [.int (jI 1)] (mk F G) = some (some (.int (jI 1)), mk F2 G) ∧ aqQ F F2 ∧ CT F2 T n (nxp T n q) ∧ F2 129 5 = k + 1 ∧ F2 129 6 = F 129 6 ∧ F2 130 = F 130 ∧ F2 131 = F 131 ∧ F2 132 = u (F 132) k (F 129 6) ∧ F2 133 = F 133 ∧ F2 134 = F 134) ∨ (¬ kd T n q = 47 ∧ ∃ F2, m_D x 97 k_Reader_readClause 115 [some (.ref 128), none] [.int (jI 1)] (mk F G) = some (some (.int (jI 0)), mk F2 G) ∧ aqR F F2 ∧ F2 128 3 = 1 ∧ F2 128 4 = q) := by
  obtain ⟨F2, y1, y2, y3, y4⟩ := C_endc x F G hk k0 k1
  have r2 : aqR F F2 := ⟨fun b hb => y2 b (by omega) (by omega), by rw [y2 128 (by omega) (by omega)]⟩
  have c2 : CT F2 T n q := by
    unfold CT
    rw [y2 128 (by omega) (by omega)]
    exact hc
  have e6 : F2 129 6 = F 129 6 := by rw [y3, u_ne _ _ (by omega)]
  have e5 : F2 129 5 = k + 1 := by rw [y3, u_eq]
  rcases C_expects x F2 G hX (tk := 47) (aqR_TP r2 hT) c2 (by rw [e6]; exact hl) (by omega) with ⟨c1, F3, z1, z2, z3⟩ | ⟨c1, F3, z1, z2⟩
  · left
    refine ⟨c1, F3, ?_, aqQ_tr ⟨r2, by rw [y2 128 (by omega) (by omega)], by rw [y2 128 (by omega) (by omega)]⟩ (aqP_Q (ag8_aq z2)), z3, ?_, ?_, ?_, ?_, ?_, ?_, ?_⟩
    · rw [E_Reader_readClause_115 x 97 (by omega), fR_128_0, Option.bind_some, y1, b_V, show (0 : Int32) = jI 0 from rfl, if_neg (by decide), show (47 : Int32) = jI 47 from by decide, z1, b_I, if_neg (by decide)]
      rfl
    · rw [z2.1 129 (by omega)]; exact e5
    · rw [z2.1 129 (by omega)]; exact e6
    · rw [z2.1 130 (by omega), y2 130 (by omega) (by omega)]
    · rw [z2.1 131 (by omega), y2 131 (by omega) (by omega)]
    · rw [z2.1 132 (by omega)]; exact y4
    · rw [z2.1 133 (by omega), y2 133 (by omega) (by omega)]
    · rw [z2.1 134 (by omega), y2 134 (by omega) (by omega)]
  · right
    refine ⟨c1, F3, ?_, aqR_tr r2 (aqP_R z2.1), z2.2.1.1, z2.2.2.1.1⟩
    rw [E_Reader_readClause_115 x 97 (by omega), fR_128_0, Option.bind_some, y1, b_V, show (0 : Int32) = jI 0 from rfl, if_neg (by decide), show (47 : Int32) = jI 47 from by decide, z1, b_I, if_pos rfl]
/-- the start of a clause -/
theorem C_head (hX : XOK x) {T : Fn} {n p k : Int} (hT : TP F T n) (hc : CT F T n p) (hk : F 129 5 = k) (k0 : 0 ≤ k) (k1 : k ≤ 24) (hl : 0 ≤ F 129 6 ∧ F 129 6 ≤ 300) (hw : ∀ s, 0 ≤ s → s ≤ 3 → rg (F 134 s)) : (11 < kd T n p ∧ ∃ F2, m_M x k_Reader_readClause [.ref 128] (mk F G) = some (some (.int (jI 0)), mk F2 G) ∧ CF F F2 1 p) ∨ (kd T n p ≤ 3 ∧ ¬ F 134 (kd T n p) = -1 ∧ ∃ F2, m_M x k_Reader_readClause [.ref 128] (mk F G) = some (some (.int (jI 0)), mk F2 G) ∧ CF F F2 4 p) ∨ (kd T n p ≤ 11 ∧ (kd T n p ≤ 3 → F 134 (kd T n p) = -1) ∧ k = 24 ∧ ∃ F2, m_M x k_Reader_readClause [.ref 128] (mk F G) = some (some (.int (jI 0)), mk F2 G) ∧ CF F F2 6 p) ∨ (kd T n p ≤ 11 ∧ (kd T n p ≤ 3 → F 134 (kd T n p) = -1) ∧ k < 24 ∧ ∃ F2, m_M x k_Reader_readClause [.ref 128] (mk F G) = (m_bI (if kd T n p ≤ 3 then m_M x k_Reader_readSum [.ref 128, .int (jI 0)] (mk F2 G) else m_M x k_Reader_readNumbers [.ref 128, .int (jI (kd T n p))] (mk F2 G)) fun v s => m_D x 97 k_Reader_readClause 115 [some (.ref 128), none] [.int v] s) ∧ aqQ F F2 ∧ CT F2 T n (nxp T n p) ∧ F2 128 9 = kd T n p ∧ F2 129 = F 129 ∧ F2 130 = u (F 130) k (kd T n p) ∧ F2 131 = u (F 131) k (F 129 6) ∧ F2 132 = F 132 ∧ F2 133 = F 133 ∧ F2 134 = if kd T n p ≤ 3 then u (F 134) (kd T n p) k else F 134) := by
  have kr := kd_r T n p
  have top : m_M x k_Reader_readClause [.ref 128] (mk F G) = if kd T n p ≤ 11 then (if kd T n p ≤ 3 ∧ ¬ F 134 (kd T n p) = -1 then (m_bI (m_M x k_Reader_fails [.ref 128, .int (jI 4)] (mk F G)) fun v43 s43 => if m_rk (some .boolean) (some (.int v43)) = true then some (some (.int v43), s43) else none) else m_D x 97 k_Reader_readClause 47 [some (.ref 128), none] [] (mk F G)) else (m_bI (m_M x k_Reader_fails [.ref 128, .int (jI 1)] (mk F G)) fun v12 s12 => if m_rk (some .boolean) (some (.int v12)) = true then some (some (.int v12), s12) else none) := by
    rw [E_Reader_readClause, isO_128, if_pos rfl, fI_128_5, Option.bind_some, hc.1.1, C_isStart x F G (by omega), b_I, show (0 : Int32) = jI 0 from rfl]
    by_cases q : kd T n p ≤ 11
    · rw [if_pos q, if_neg (by decide), if_pos q, fI_128_5, Option.bind_some, hc.1.1, C_isLw x F G (by omega), b_I]
      by_cases q3 : kd T n p ≤ 3
      · have hw' := hw _ kr.1 q3
        unfold rg at hw'
        rw [if_pos q3, if_neg (by decide), fR_128_0, Option.bind_some, fI_128_5, Option.bind_some, hc.1.1, C_lawAt9 x F G ⟨kr.1, q3⟩, b_I, show (-1 : Int32) = jI (-1) from rfl]
        by_cases q4 : F 134 (kd T n p) = -1
        · rw [if_pos (by rw [q4]), if_neg (fun z => z.2 q4)]
        · rw [if_neg (by rw [jI_eq (by omega) (by omega) (by omega) (by omega)]; omega), if_pos ⟨q3, q4⟩]
          rfl
      · rw [if_neg q3, if_pos rfl, if_neg (fun z => q3 z.1)]
    · rw [if_neg q, if_pos rfl, if_neg q]
      rfl
  rw [top]
  by_cases q : kd T n p ≤ 11
  · rw [if_pos q]
    by_cases q4 : kd T n p ≤ 3 ∧ ¬ F 134 (kd T n p) = -1
    · right; left
      obtain ⟨F2, y1, y2⟩ := C_fails x F G (c := 4) hc hl
      exact ⟨q4.1, q4.2, F2, by rw [if_pos q4, y1, b_I, if_pos rk_b0], y2⟩
    · have f5 : m_fI (mk F G) 5 5 129 = some (jI (F 129 5)) := fI_P_5 F G (by omega)
      have nl : kd T n p ≤ 3 → F 134 (kd T n p) = -1 := fun h => by
        by_cases z : F 134 (kd T n p) = -1
        · exact z
        · exact absurd ⟨h, z⟩ q4
      rw [if_neg q4, E_Reader_readClause_47 x 97 (by omega), fR_128_0, Option.bind_some, f5, Option.bind_some, hk, show (24 : Int32) = jI 24 from by decide]
      by_cases q5 : k < 24
      · right; right; right
        refine ⟨q, nl, q5, ?_⟩
        rw [if_pos (by rw [jI_lt (by omega) (by omega) (by omega) (by omega)]; omega), fI_128_5, Option.bind_some, hc.1.1, pf_128_9, Option.bind_some, fR_128_0, Option.bind_some, fI_128_5, Option.bind_some, sA_eq, u_ne _ _ (by omega), hc.1.1]
        generalize hF1 : sA F 128 (u (F 128) 9 (kd T n p)) = F1
        have f1 : ∀ b, ¬ b = 128 → F1 b = F b := fun b hb => by rw [← hF1, sA_ne _ _ hb]
        have f128 : ∀ z, ¬ z = 9 → F1 128 z = F 128 z := fun z hz => by rw [← hF1, sA_eq, u_ne _ _ hz]
        have f9 : F1 128 9 = kd T n p := by rw [← hF1, sA_eq, u_eq]
        obtain ⟨F2, y1, y2, y3, y4, y5⟩ := C_start x F1 G (k := k) (d := kd T n p) (by rw [f1 129 (by omega)]; exact hk) k0 q5 (by omega)
        have c2 : CT F2 T n p := by
          unfold CT
          rw [y2 128 (by omega) (by omega) (by omega), f128 5 (by omega), f128 6 (by omega), f128 7 (by omega), f128 8 (by omega)]
          exact hc
        have r2 : aqR F F2 := by
          refine ⟨fun b hb => ?_, ?_⟩
          · rw [y2 b (by omega) (by omega) (by omega), f1 b (by omega)]
          · rw [y2 128 (by omega) (by omega) (by omega), f128 2 (by omega)]
        obtain ⟨F3, z1, z2, z3⟩ := C_adv x F2 G hX (aqR_TP r2 hT) c2
        have e9 : F3 128 9 = kd T n p := by
          rw [z2.2 9 (by omega), y2 128 (by omega) (by omega) (by omega)]
          exact f9
        refine ⟨F3, ?_, aqQ_tr ⟨r2, by rw [y2 128 (by omega) (by omega) (by omega), f128 3 (by omega)], by rw [y2 128 (by omega) (by omega) (by omega), f128 4 (by omega)]⟩ (aqP_Q (ag8_aq z2)), z3, e9, ?_, ?_, ?_, ?_, ?_, ?_⟩
        · rw [y1, b_V, z1, b_V, fI_128_9, Option.bind_some, e9, C_isLw x F3 G (by omega), b_I, show (0 : Int32) = jI 0 from rfl]
          by_cases q3 : kd T n p ≤ 3
          · rw [if_pos q3, if_neg (by decide), if_pos q3]
          · rw [if_neg q3, if_pos rfl, if_neg q3, fI_128_9, Option.bind_some, e9]
        · rw [z2.1 129 (by omega), y2 129 (by omega) (by omega) (by omega), f1 129 (by omega)]
        · rw [z2.1 130 (by omega), y3, f1 130 (by omega)]
        · rw [z2.1 131 (by omega), y4, f1 131 (by omega), f1 129 (by omega)]
        · rw [z2.1 132 (by omega), y2 132 (by omega) (by omega) (by omega), f1 132 (by omega)]
        · rw [z2.1 133 (by omega), y2 133 (by omega) (by omega) (by omega), f1 133 (by omega)]
        · rw [z2.1 134 (by omega), y5, f1 134 (by omega)]
      · right; right; left
        obtain ⟨F2, y1, y2⟩ := C_fails x F G (c := 6) hc hl
        exact ⟨q, nl, by omega, F2, by rw [if_neg (by rw [jI_lt (by omega) (by omega) (by omega) (by omega)]; omega), show (6 : Int32) = jI 6 from by decide, y1, b_I, if_pos rk_b0], y2⟩
  · left
    obtain ⟨F2, y1, y2⟩ := C_fails x F G (c := 1) hc hl
    exact ⟨by omega, F2, by rw [if_neg q, y1, b_I, if_pos rk_b0], y2⟩
end
