-- the lexer: the model's tokens
def mnR (T : Fn) : Nat → Int → Int → Int
  | 0, _, a => a
  | k + 1, p, a => if db (T p) = true then mnR T k (p + 1) (if a ≤ 99999 then 10 * a + T p - 48 else a) else a
def TM (F : Nat → Fn) (T : Fn) (n : Int) : Prop := F 149 4 = n ∧ (0 ≤ n ∧ n ≤ 300) ∧ ∀ i, 0 ≤ i → i < n → F 153 i = T i ∧ 0 ≤ T i ∧ T i ≤ 255
def MT (F G : Nat → Fn) (T : Fn) (n p : Int) : Prop := (F 149 7 = tle T n p ∧ F 149 8 = p ∧ F 149 9 = tok T n p) ∧ (0 ≤ p ∧ p ≤ n) ∧ (tok T n p = 1 → F 149 10 = mnR T (n - p).toNat p 0) ∧ (tok T n p = 2 → G 149 11 = mwR T (n - p).toNat p 0)
def agn (F F1 : Nat → Fn) : Prop := (∀ b, ¬ b = 149 → F1 b = F b) ∧ ∀ z, z < 7 ∨ 10 < z → F1 149 z = F 149 z
theorem agn_tr {F F1 F2 : Nat → Fn} (h1 : agn F F1) (h2 : agn F1 F2) : agn F F2 := ⟨fun b h => (h2.1 b h).trans (h1.1 b h), fun z h => (h2.2 z h).trans (h1.2 z h)⟩
theorem agn_TM {F F1 : Nat → Fn} {T : Fn} {n : Int} (h : agn F F1) (t : TM F T n) : TM F1 T n := by
  obtain ⟨t1, t2, t3⟩ := t
  exact ⟨by rw [h.2 4 (by omega)]; exact t1, t2, by rw [h.1 153 (by omega)]; exact t3⟩
theorem agn_u {F : Nat → Fn} {z v : Int} (h : 7 ≤ z ∧ z ≤ 10) : agn F (sA F 149 (u (F 149) z v)) := by
  refine ⟨fun b hb => by rw [sA_ne _ _ hb], fun y hy => by rw [sA_eq, u_ne _ _ (by omega)]⟩
theorem sg_ok : ∀ v : Fin 256, (if jI (v.val : Int) = 35 then (1 : Int32) else if jI (v.val : Int) = 36 then 0 else if jI (v.val : Int) = 37 then 0 else if jI (v.val : Int) = 38 then 0 else if jI (v.val : Int) = 39 then 0 else if jI (v.val : Int) = 40 then 1 else if jI (v.val : Int) = 41 then 1 else if jI (v.val : Int) = 42 then 1 else if jI (v.val : Int) = 43 then 1 else if jI (v.val : Int) = 44 then 0 else if jI (v.val : Int) = 45 then 1 else if jI (v.val : Int) = 46 then 0 else if jI (v.val : Int) = 47 then 1 else if jI (v.val : Int) = 48 then 0 else if jI (v.val : Int) = 49 then 0 else if jI (v.val : Int) = 50 then 0 else if jI (v.val : Int) = 51 then 0 else if jI (v.val : Int) = 52 then 0 else if jI (v.val : Int) = 53 then 0 else if jI (v.val : Int) = 54 then 0 else if jI (v.val : Int) = 55 then 0 else if jI (v.val : Int) = 56 then 0 else if jI (v.val : Int) = 57 then 0 else if jI (v.val : Int) = 58 then 1 else if jI (v.val : Int) = 59 then 1 else if jI (v.val : Int) = 60 then 1 else if jI (v.val : Int) = 61 then 1 else if jI (v.val : Int) = 62 then 1 else 0) = jI (if isSg (v.val : Int) = true then 1 else 0) := by decide +kernel
theorem some_ite {P : Prop} [Decidable P] (a b : Int32) (s : m_H) : (if P then (some (some (.int a), s) : Option m_R) else some (some (.int b), s)) = some (some (.int (if P then a else b)), s) := by split <;> rfl
section
variable (x : m_X) (F G : Nat → Fn)
theorem M_byteAt {T : Fn} {n i : Int} (h : TM F T n) (i0 : 0 ≤ i) (i1 : i ≤ 1000) : m_M x k_M_byteAt [.ref 149, .int (jI i)] (mk F G) = some (some (.int (jI (if i < n then T i else -1))), mk F G) := by
  obtain ⟨t1, t2, t3⟩ := h
  rw [E_M_byteAt, isO_149, if_pos rfl, fI_149_4, Option.bind_some, t1]
  by_cases q : i < n
  · rw [if_neg (by rw [jI_le (by omega) (by omega) (by omega) (by omega)]; omega), fR_149_3, Option.bind_some, ia_153 x F G i0 (by omega), Option.bind_some, if_pos q, (t3 i i0 q).1]
  · rw [if_pos (by rw [jI_le (by omega) (by omega) (by omega) (by omega)]; omega), if_neg q]
    rfl
theorem M_isLet {b : Int} (hb : -1 ≤ b ∧ b ≤ 255) : m_M x k_M_isLetterByte [.int (jI b)] (mk F G) = some (some (.int (jI (if lb b = true then 1 else 0))), mk F G) := by
  have f : ∀ v : Fin 257, (if jI ((v.val : Int) - 1) < 97 then (if jI ((v.val : Int) - 1) < 65 then (0 : Int32) else if 90 < jI ((v.val : Int) - 1) then 0 else 1) else if jI ((v.val : Int) - 1) ≤ 122 then 1 else if jI ((v.val : Int) - 1) < 65 then 0 else if 90 < jI ((v.val : Int) - 1) then 0 else 1) = jI (if lb ((v.val : Int) - 1) = true then 1 else 0) := by decide +kernel
  have g := f ⟨(b + 1).toNat, by omega⟩
  have e : (((b + 1).toNat : Nat) : Int) - 1 = b := by omega
  simp only [e] at g
  rw [E_M_isLetterByte, ← g]
  simp only [some_ite]
theorem M_isFig {b : Int} (hb : -1 ≤ b ∧ b ≤ 255) : m_M x k_M_isFigure [.int (jI b)] (mk F G) = some (some (.int (jI (if db b = true then 1 else 0))), mk F G) := by
  rw [E_M_isFigure, show (48 : Int32) = jI 48 from by decide, show (57 : Int32) = jI 57 from by decide]
  unfold db
  simp only [decide_eq_true_eq]
  by_cases q : b < 48
  · rw [if_pos (by rw [jI_lt (by omega) (by omega) (by omega) (by omega)]; omega), if_neg (by omega)]
    rfl
  · rw [if_neg (by rw [jI_lt (by omega) (by omega) (by omega) (by omega)]; omega)]
    by_cases q2 : 57 < b
    · rw [if_pos (by rw [jI_lt (by omega) (by omega) (by omega) (by omega)]; omega), if_neg (by omega)]
      rfl
    · rw [if_neg (by rw [jI_lt (by omega) (by omega) (by omega) (by omega)]; omega), if_pos (by omega)]
      rfl
theorem M_isSg {b : Int} (hb : 0 ≤ b ∧ b ≤ 255) : m_M x k_M_isSign [.int (jI b)] (mk F G) = some (some (.int (jI (if isSg b = true then 1 else 0))), mk F G) := by
  have g := sg_ok ⟨b.toNat, by omega⟩
  have e : ((b.toNat : Nat) : Int) = b := by omega
  simp only [e] at g
  rw [E_M_isSign, ← g]
  simp only [some_ite]
theorem M_next85 {T : Fn} {n : Int} {n1 : Int32} : ∀ (k : Nat) (q a : Int) (F1 : Nat → Fn), TM F1 T n → F1 149 7 = q → F1 149 10 = a → 0 ≤ a → a ≤ 1000010 → agn F F1 → 0 ≤ q → q + k = n → ∃ F2, m_D x 2 k_M_nextToken 85 [some (.ref 149), some (.int n1)] [] (mk F1 G) = some (none, mk F2 G) ∧ agn F F2 ∧ F2 149 7 = rn (fun i => db (T i)) k q ∧ F2 149 8 = F1 149 8 ∧ F2 149 9 = F1 149 9 ∧ F2 149 10 = mnR T k q a := by
  intro k
  induction k with
  | zero =>
    intro q a F1 h h7 h10 a0 a1 ha q0 q1
    have hn := h.2.1
    refine ⟨F1, ?_, ha, ?_, rfl, rfl, ?_⟩
    · rw [E_M_nextToken_85 x 2 (by omega), fI_149_7, Option.bind_some, h7, M_byteAt x F1 G h q0 (by omega), b_I, if_neg (by omega), M_isFig x F1 G (by omega), b_I, if_pos (by decide)]
    · rw [rn]; exact h7
    · rw [mnR]; exact h10
  | succ k ih =>
    intro q a F1 h h7 h10 a0 a1 ha q0 q1
    have hn := h.2.1
    have b := h.2.2 q q0 (by omega)
    have by7 := M_byteAt x F1 G h q0 (by omega)
    rw [if_pos (show q < n by omega)] at by7
    rw [E_M_nextToken_85 x 2 (by omega), fI_149_7, Option.bind_some, h7, by7, b_I, M_isFig x F1 G (by omega), b_I, rn, mnR]
    by_cases l : db (T q) = true
    · have l' : 48 ≤ T q ∧ T q ≤ 57 := by unfold db at l; simpa using l
      simp only [if_pos l]
      rw [if_neg (by decide), fI_149_10, Option.bind_some, h10, show (99999 : Int32) = jI 99999 from by decide]
      have go : ∀ v, 0 ≤ v → v ≤ 1000010 → v = (if a ≤ 99999 then 10 * a + T q - 48 else a) → ∃ F2, ((m_pf (mk F1 G) 11 10 149 (.int (jI v))).bind fun s135 => (m_fI s135 11 7 149).bind fun v140 => (m_pf s135 11 7 149 (.int (v140 + (1 : Int32)))).bind fun s145 => m_D x 2 k_M_nextToken 85 [some (.ref 149), some (.int n1)] [] s145) = some (none, mk F2 G) ∧ agn F F2 ∧ F2 149 7 = rn (fun i => db (T i)) k (q + 1) ∧ F2 149 8 = F1 149 8 ∧ F2 149 9 = F1 149 9 ∧ F2 149 10 = mnR T k (q + 1) (if a ≤ 99999 then 10 * a + T q - 48 else a) := by
        intro v v0 v1 hv
        rw [pf_149_10, Option.bind_some, fI_149_7, Option.bind_some, sA_eq, u_ne _ _ (by omega), h7, lit_1, jI_add, pf_149_7, Option.bind_some, ← hv]
        generalize hF2 : sA (sA F1 149 (u (F1 149) 10 v)) 149 (u (sA F1 149 (u (F1 149) 10 v) 149) 7 (q + 1)) = F2
        have ag : agn F1 F2 := by rw [← hF2]; exact agn_tr (agn_u (by omega)) (agn_u (by omega))
        obtain ⟨F3, y1, y2, y3, y4, y5, y6⟩ := ih (q + 1) v F2 (agn_TM ag h) (by rw [← hF2, sA_eq, u_eq]) (by rw [← hF2, sA_eq, u_ne _ _ (by omega), sA_eq, u_eq]) v0 v1 (agn_tr ha ag) (by omega) (by omega)
        refine ⟨F3, y1, y2, y3, ?_, ?_, y6⟩
        · rw [y4, ← hF2, sA_eq, u_ne _ _ (by omega), sA_eq, u_ne _ _ (by omega)]
        · rw [y5, ← hF2, sA_eq, u_ne _ _ (by omega), sA_eq, u_ne _ _ (by omega)]
      by_cases q2 : a ≤ 99999
      · rw [if_pos (by rw [jI_le (by omega) (by omega) (by omega) (by omega)]; omega), fI_149_7, Option.bind_some, Option.bind_some, h7, by7, b_I, show (10 : Int32) = jI 10 from by decide, show (48 : Int32) = jI 48 from by decide, jI_mul, jI_add, jI_sub]
        exact go _ (by omega) (by omega) (by rw [if_pos q2])
      · rw [if_neg (by rw [jI_le (by omega) (by omega) (by omega) (by omega)]; omega), Option.bind_some]
        exact go a a0 a1 (by rw [if_neg q2])
    · simp only [if_neg l]
      rw [if_pos (by decide)]
      exact ⟨F1, rfl, ha, h7, rfl, rfl, h10⟩
theorem M_next168 {T : Fn} {n : Int} {n1 : Int32} : ∀ (k : Nat) (q : Int) (r : List Int) (F1 G1 : Nat → Fn), TM F1 T n → F1 149 7 = q → G1 149 11 = vr r → byL r → agn F F1 → 0 ≤ q → q + k = n → ∃ F2 G2, m_D x 2 k_M_nextToken 168 [some (.ref 149), some (.int n1)] [] (mk F1 G1) = some (none, mk F2 G2) ∧ agn F F2 ∧ F2 149 7 = rn (fun i => lb (T i)) k q ∧ F2 149 8 = F1 149 8 ∧ F2 149 9 = F1 149 9 ∧ G2 149 11 = mwR T k q (vr r) := by
  intro k
  induction k with
  | zero =>
    intro q r F1 G1 h h7 h11 hr ha q0 q1
    have hn := h.2.1
    refine ⟨F1, G1, ?_, ha, ?_, rfl, rfl, ?_⟩
    · rw [E_M_nextToken_168 x 2 (by omega), fI_149_7, Option.bind_some, h7, M_byteAt x F1 G1 h q0 (by omega), b_I, if_neg (by omega), M_isLet x F1 G1 (by omega), b_I, if_pos (by decide)]
    · rw [rn]; exact h7
    · rw [mwR]; exact h11
  | succ k ih =>
    intro q r F1 G1 h h7 h11 hr ha q0 q1
    have hn := h.2.1
    have b := h.2.2 q q0 (by omega)
    have vv := vr_r r hr
    have by7 := M_byteAt x F1 G1 h q0 (by omega)
    rw [if_pos (show q < n by omega)] at by7
    rw [E_M_nextToken_168 x 2 (by omega), fI_149_7, Option.bind_some, h7, by7, b_I, M_isLet x F1 G1 (by omega), b_I, rn, mwR]
    by_cases l : lb (T q) = true
    · have l' : 65 ≤ T q ∧ T q ≤ 122 := by unfold lb at l; simp at l; omega
      simp only [if_pos l]
      rw [if_neg (by decide), fL_149_11, Option.bind_some, h11]
      have go : ∀ v, v = vr (T q :: r) → ∃ F2 G2, ((m_pf (mk F1 G1) 11 11 149 (.long (jL v))).bind fun s218 => (m_fI s218 11 7 149).bind fun v223 => (m_pf s218 11 7 149 (.int (v223 + (1 : Int32)))).bind fun s228 => m_D x 2 k_M_nextToken 168 [some (.ref 149), some (.int n1)] [] s228) = some (none, mk F2 G2) ∧ agn F F2 ∧ F2 149 7 = rn (fun i => lb (T i)) k (q + 1) ∧ F2 149 8 = F1 149 8 ∧ F2 149 9 = F1 149 9 ∧ G2 149 11 = mwR T k (q + 1) (if vr r < 281474976710656 then vr r * 256 + T q else 1152921504606846976) := by
        intro v hv
        rw [pf_149_11, Option.bind_some, fI_149_7, Option.bind_some, h7, lit_1, jI_add, pf_149_7, Option.bind_some]
        obtain ⟨F3, G3, y1, y2, y3, y4, y5, y6⟩ := ih (q + 1) (T q :: r) (sA F1 149 (u (F1 149) 7 (q + 1))) (sA G1 149 (u (G1 149) 11 v)) (agn_TM (agn_u (by omega)) h) (by rw [sA_eq, u_eq]) (by rw [sA_eq, u_eq, hv]) (by
          intro c hc
          rcases List.mem_cons.1 hc with hc | hc
          · rw [hc]; omega
          · exact hr c hc) (agn_tr ha (agn_u (by omega))) (by omega) (by omega)
        refine ⟨F3, G3, y1, y2, y3, ?_, ?_, y6⟩
        · rw [y4, sA_eq, u_ne _ _ (by omega)]
        · rw [y5, sA_eq, u_ne _ _ (by omega)]
      have sh := shr48 vv.1 (by omega)
      by_cases q2 : vr r < 281474976710656
      · rw [if_pos (sh.2 q2), Option.bind_some, fI_149_7, Option.bind_some, h7, by7, b_I, w8 vv.1 q2 (by omega) (by omega)]
        refine go _ ?_
        rw [vr, if_pos q2]
      · rw [if_neg (fun h => q2 (sh.1 h)), show (1152921504606846976 : Int64) = jL 1152921504606846976 from by decide]
        refine go _ ?_
        rw [vr, if_neg q2]
    · simp only [if_neg l]
      rw [if_pos (by decide)]
      exact ⟨F1, G1, rfl, ha, h7, rfl, rfl, h11⟩
theorem M_nextS {T : Fn} {n p : Int} (h : TM F T n) (h7 : F 149 7 = p) (p0 : 0 ≤ p) (p1 : p ≤ n) (hb : p < n → ¬ bb (T p) = true) : ∃ F2 G2, m_D x 2 k_M_nextToken 0 [some (.ref 149), none] [] (mk F G) = some (none, mk F2 G2) ∧ agn F F2 ∧ MT F2 G2 T n p := by
  have by0 := M_byteAt x F G h p0 (by have := h.2.1; omega)
  have hn := h.2.1
  by_cases q : p < n
  · have b := h.2.2 p p0 q
    have nb := hb q
    unfold bb at nb
    simp only [decide_eq_true_eq] at nb
    have nn : ¬ n ≤ p := by omega
    rw [if_pos q] at by0
    rw [E_M_nextToken_0 x 2 (by omega), fI_149_7, Option.bind_some, h7, by0, b_I, if_neg (by rw [show (32 : Int32) = jI 32 from by decide, jI_eq (by omega) (by omega) (by omega) (by omega)]; omega), fI_149_7, Option.bind_some, h7, by0, b_I, if_neg (by rw [show (10 : Int32) = jI 10 from by decide, jI_eq (by omega) (by omega) (by omega) (by omega)]; omega), fI_149_7, Option.bind_some, h7, pf_149_8, Option.bind_some]
    generalize hF1 : sA F 149 (u (F 149) 8 p) = F1
    have ag1 : agn F F1 := by rw [← hF1]; exact agn_u (by omega)
    have h1 := agn_TM ag1 h
    have g7 : F1 149 7 = p := by rw [← hF1, sA_eq, u_ne _ _ (by omega)]; exact h7
    have g8 : F1 149 8 = p := by rw [← hF1, sA_eq, u_eq]
    have by1 := M_byteAt x F1 G h1 p0 (by omega)
    rw [if_pos q] at by1
    rw [fI_149_7, Option.bind_some, g7, by1, b_I, lit_0, if_pos (by rw [jI_le (by omega) (by omega) (by omega) (by omega)]; omega), M_isFig x F1 G (by omega), b_I]
    by_cases dg : db (T p) = true
    · have et : tok T n p = 1 := by unfold tok; rw [if_neg nn, if_pos dg]
      have nl : ¬ lb (T p) = true := by
        unfold db at dg
        unfold lb
        simp only [decide_eq_true_eq] at dg ⊢
        omega
      rw [if_pos dg, if_neg (by decide), lit_1, pf_149_9, Option.bind_some, pf_149_10, Option.bind_some]
      generalize hF2 : sA (sA F1 149 (u (F1 149) 9 1)) 149 (u (sA F1 149 (u (F1 149) 9 1) 149) 10 0) = F2
      have ag2 : agn F1 F2 := by rw [← hF2]; exact agn_tr (agn_u (by omega)) (agn_u (by omega))
      obtain ⟨F3, y1, y2, y3, y4, y5, y6⟩ := M_next85 x F2 G (T := T) (n := n) (n1 := jI (T p)) (n - p).toNat p 0 F2 (agn_TM ag2 h1) (by rw [← hF2, sA_eq, u_ne _ _ (by omega), sA_eq, u_ne _ _ (by omega)]; exact g7) (by rw [← hF2, sA_eq, u_eq]) (by omega) (by omega) ⟨fun _ _ => rfl, fun _ _ => rfl⟩ p0 (by omega)
      refine ⟨F3, G, y1, agn_tr ag1 (agn_tr ag2 y2), ⟨?_, ?_, ?_⟩, ⟨p0, p1⟩, fun _ => y6, fun hh => by omega⟩
      · unfold tle; rw [if_neg nn, if_neg nl, if_pos dg]; exact y3
      · rw [y4, ← hF2, sA_eq, u_ne _ _ (by omega), sA_eq, u_ne _ _ (by omega)]; exact g8
      · rw [y5, et, ← hF2, sA_eq, u_ne _ _ (by omega), sA_eq, u_eq]
    · rw [if_neg dg, if_pos (by decide), M_isLet x F1 G (by omega), b_I]
      by_cases l : lb (T p) = true
      · have et : tok T n p = 2 := by unfold tok; rw [if_neg nn, if_neg dg, if_pos l]
        rw [if_pos l, if_neg (by decide), lit_2, pf_149_9, Option.bind_some, llt_0, pf_149_11, Option.bind_some]
        generalize hF2 : sA F1 149 (u (F1 149) 9 2) = F2
        have ag2 : agn F1 F2 := by rw [← hF2]; exact agn_u (by omega)
        obtain ⟨F3, G3, y1, y2, y3, y4, y5, y6⟩ := M_next168 x F2 (T := T) (n := n) (n1 := jI (T p)) (n - p).toNat p [] F2 (sA G 149 (u (G 149) 11 0)) (agn_TM ag2 h1) (by rw [← hF2, sA_eq, u_ne _ _ (by omega)]; exact g7) (by rw [sA_eq, u_eq]; rfl) (fun b hb => by simp at hb) ⟨fun _ _ => rfl, fun _ _ => rfl⟩ p0 (by omega)
        refine ⟨F3, G3, y1, agn_tr ag1 (agn_tr ag2 y2), ⟨?_, ?_, ?_⟩, ⟨p0, p1⟩, fun hh => by omega, fun _ => y6⟩
        · unfold tle; rw [if_neg nn, if_pos l]; exact y3
        · rw [y4, ← hF2, sA_eq, u_ne _ _ (by omega)]; exact g8
        · rw [y5, et, ← hF2, sA_eq, u_eq]
      · rw [if_neg l, if_pos (by decide), M_isSg x F1 G (by omega), b_I]
        have s60 := sy_60 ⟨(T p).toNat, by omega⟩
        have eT : (((T p).toNat : Nat) : Int) = T p := by omega
        simp only [eT] at s60
        have sy1 : (sy (T p) = 37 ∨ sy (T p) = 38) ↔ (T p = 60 ∨ T p = 62) := by omega
        -- behind the sign
        have go : ∀ v : Int, v = (if isSg (T p) = true then T p else 3) → ∃ F2 G2, ((m_pf (mk F1 G) 11 9 149 (.int (jI v))).bind fun s247 => (m_fI s247 11 7 149).bind fun v252 => (m_pf s247 11 7 149 (.int (v252 + (1 : Int32)))).bind fun s257 => if jI (T p) = 60 then (m_D x 2 k_M_nextToken 272 [some (.ref 149), some (.int (jI (T p)))] [] s257) else if jI (T p) = 62 then (m_D x 2 k_M_nextToken 272 [some (.ref 149), some (.int (jI (T p)))] [] s257) else (some (none, s257) : Option m_R)) = some (none, mk F2 G2) ∧ agn F F2 ∧ MT F2 G2 T n p := by
          intro v hv
          rw [pf_149_9, Option.bind_some, fI_149_7, Option.bind_some, sA_eq, u_ne _ _ (by omega), g7, lit_1, jI_add, pf_149_7, Option.bind_some]
          generalize hF2 : sA (sA F1 149 (u (F1 149) 9 v)) 149 (u (sA F1 149 (u (F1 149) 9 v) 149) 7 (p + 1)) = F2
          have ag2 : agn F1 F2 := by rw [← hF2]; exact agn_tr (agn_u (by omega)) (agn_u (by omega))
          have h2 := agn_TM ag2 h1
          have k7 : F2 149 7 = p + 1 := by rw [← hF2, sA_eq, u_eq]
          have k8 : F2 149 8 = p := by rw [← hF2, sA_eq, u_ne _ _ (by omega), sA_eq, u_ne _ _ (by omega)]; exact g8
          have k9 : F2 149 9 = v := by rw [← hF2, sA_eq, u_ne _ _ (by omega), sA_eq, u_eq]
          have by2 := M_byteAt x F2 G h2 (i := p + 1) (by omega) (by omega)
          have vr3 : ¬ v = 1 ∧ ¬ v = 2 := by
            have f : ∀ w : Fin 256, ¬ (if isSg (w.val : Int) = true then (w.val : Int) else 3) = 1 ∧ ¬ (if isSg (w.val : Int) = true then (w.val : Int) else 3) = 2 := by decide +kernel
            have f1 := f ⟨(T p).toNat, by omega⟩
            simp only [eT] at f1
            rw [hv]
            exact f1
          have r272 : (T p = 60 ∨ T p = 62) → ∃ F3 G3, m_D x 2 k_M_nextToken 272 [some (.ref 149), some (.int (jI (T p)))] [] (mk F2 G) = some (none, mk F3 G3) ∧ agn F F3 ∧ MT F3 G3 T n p := by
            intro hT
            rw [E_M_nextToken_272 x 2 (by omega), fI_149_7, Option.bind_some, k7, by2, b_I, show (61 : Int32) = jI 61 from by decide]
            by_cases q2 : p + 1 < n ∧ T (p + 1) = 61
            · have c1 : (T p = 60 ∨ T p = 62) ∧ (p + 1 < n ∧ T (p + 1) = 61) := ⟨hT, q2⟩
              have et : tok T n p = (if T p = 60 then 4 else 5) := by unfold tok; rw [if_neg nn, if_neg dg, if_neg l, if_pos c1]
              have el : tle T n p = p + 2 := by unfold tle; rw [if_neg nn, if_neg l, if_neg dg, if_pos ⟨sy1.2 hT, q2⟩]
              rw [if_pos q2.1, if_pos (by rw [q2.2]), show (60 : Int32) = jI 60 from by decide]
              have fin : ∀ w : Int, w = (if T p = 60 then 4 else 5) → ∃ F3 G3, ((m_pf (mk F2 G) 11 9 149 (.int (jI w))).bind fun s297 => (m_fI s297 11 7 149).bind fun v302 => (m_pf s297 11 7 149 (.int (v302 + (1 : Int32)))).bind fun s307 => (some (none, s307) : Option m_R)) = some (none, mk F3 G3) ∧ agn F F3 ∧ MT F3 G3 T n p := by
                intro w hw
                rw [pf_149_9, Option.bind_some, fI_149_7, Option.bind_some, sA_eq, u_ne _ _ (by omega), k7, lit_1, jI_add, pf_149_7, Option.bind_some]
                have w12 : w = 4 ∨ w = 5 := by rw [hw]; split <;> omega
                refine ⟨_, G, rfl, agn_tr ag1 (agn_tr ag2 (agn_tr (agn_u (by omega)) (agn_u (by omega)))), ⟨?_, ?_, ?_⟩, ⟨p0, p1⟩, ?_, ?_⟩
                · rw [el, sA_eq, u_eq]; omega
                · rw [sA_eq, u_ne _ _ (by omega), sA_eq, u_ne _ _ (by omega)]; exact k8
                · rw [et, sA_eq, u_ne _ _ (by omega), sA_eq, u_eq, hw]
                · intro hh; rw [et, ← hw] at hh; omega
                · intro hh; rw [et, ← hw] at hh; omega
              by_cases q3 : T p = 60
              · rw [if_pos (by rw [q3])]
                exact fin 4 (by rw [if_pos q3])
              · rw [if_neg (by rw [jI_eq (by omega) (by omega) (by omega) (by omega)]; omega)]
                exact fin 5 (by rw [if_neg q3])
            · have c1 : ¬ ((T p = 60 ∨ T p = 62) ∧ (p + 1 < n ∧ T (p + 1) = 61)) := fun hh => q2 hh.2
              have et : tok T n p = v := by unfold tok; rw [if_neg nn, if_neg dg, if_neg l, if_neg c1, hv]
              have el : tle T n p = p + 1 := by unfold tle; rw [if_neg nn, if_neg l, if_neg dg, if_neg (fun hh => q2 hh.2)]
              have ne : ¬ jI (if p + 1 < n then T (p + 1) else -1) = jI 61 := by
                by_cases q3 : p + 1 < n
                · have b2 := h.2.2 (p + 1) (by omega) q3
                  rw [if_pos q3, jI_eq (by omega) (by omega) (by omega) (by omega)]
                  exact fun hh => q2 ⟨q3, hh⟩
                · rw [if_neg q3]; decide
              rw [if_neg ne]
              refine ⟨F2, G, rfl, agn_tr ag1 ag2, ⟨by rw [el]; exact k7, k8, by rw [et]; exact k9⟩, ⟨p0, p1⟩, ?_, ?_⟩
              · intro hh; omega
              · intro hh; omega
          rw [show (60 : Int32) = jI 60 from by decide, show (62 : Int32) = jI 62 from by decide]
          by_cases q3 : T p = 60
          · rw [if_pos (by rw [q3])]
            exact r272 (Or.inl q3)
          · rw [if_neg (by rw [jI_eq (by omega) (by omega) (by omega) (by omega)]; omega)]
            by_cases q4 : T p = 62
            · rw [if_pos (by rw [q4])]
              exact r272 (Or.inr q4)
            · rw [if_neg (by rw [jI_eq (by omega) (by omega) (by omega) (by omega)]; omega)]
              have c1 : ¬ ((T p = 60 ∨ T p = 62) ∧ (p + 1 < n ∧ T (p + 1) = 61)) := fun hh => by omega
              have et : tok T n p = v := by unfold tok; rw [if_neg nn, if_neg dg, if_neg l, if_neg c1, hv]
              have el : tle T n p = p + 1 := by unfold tle; rw [if_neg nn, if_neg l, if_neg dg, if_neg (fun hh => by have := sy1.1 hh.1; omega)]
              refine ⟨F2, G, rfl, agn_tr ag1 ag2, ⟨by rw [el]; exact k7, k8, by rw [et]; exact k9⟩, ⟨p0, p1⟩, ?_, ?_⟩
              · intro hh; omega
              · intro hh; omega
        by_cases sg : isSg (T p) = true
        · rw [if_pos sg, if_neg (by decide)]
          exact go (T p) (by rw [if_pos sg])
        · rw [if_neg sg, if_pos (by decide), lit_3]
          exact go 3 (by rw [if_neg sg])
  · have ep : n ≤ p := by omega
    have et : tok T n p = 0 := by unfold tok; rw [if_pos ep]
    rw [if_neg q] at by0
    rw [E_M_nextToken_0 x 2 (by omega), fI_149_7, Option.bind_some, h7, by0, b_I, if_neg (by decide), fI_149_7, Option.bind_some, h7, by0, b_I, if_neg (by decide), fI_149_7, Option.bind_some, h7, pf_149_8, Option.bind_some]
    generalize hF1 : sA F 149 (u (F 149) 8 p) = F1
    have ag1 : agn F F1 := by rw [← hF1]; exact agn_u (by omega)
    have h1 := agn_TM ag1 h
    have g7 : F1 149 7 = p := by rw [← hF1, sA_eq, u_ne _ _ (by omega)]; exact h7
    have g8 : F1 149 8 = p := by rw [← hF1, sA_eq, u_eq]
    have by1 := M_byteAt x F1 G h1 p0 (by omega)
    rw [if_neg q] at by1
    rw [fI_149_7, Option.bind_some, g7, by1, b_I, if_neg (by decide), lit_0, pf_149_9, Option.bind_some]
    refine ⟨_, G, rfl, agn_tr ag1 (agn_u (by omega)), ⟨?_, ?_, ?_⟩, ⟨p0, p1⟩, fun hh => by omega, fun hh => by omega⟩
    · unfold tle; rw [if_pos ep, sA_eq, u_ne _ _ (by omega)]; exact g7
    · rw [sA_eq, u_ne _ _ (by omega)]; exact g8
    · rw [et, sA_eq, u_eq]
theorem M_nextB {T : Fn} {n : Int} : ∀ (k : Nat) (a : Int) (F1 : Nat → Fn), TM F1 T n → F1 149 7 = a → agn F F1 → 0 ≤ a → a + k = n → ∃ F2 G2, m_D x 2 k_M_nextToken 0 [some (.ref 149), none] [] (mk F1 G) = some (none, mk F2 G2) ∧ agn F F2 ∧ MT F2 G2 T n (rn (fun i => bb (T i)) k a) := by
  intro k
  induction k with
  | zero =>
    intro a F1 h h7 ha a0 a1
    obtain ⟨F2, G2, y1, y2, y3⟩ := M_nextS x F1 G h h7 a0 (by omega) (fun hh => by omega)
    exact ⟨F2, G2, y1, agn_tr ha y2, by rw [rn]; exact y3⟩
  | succ k ih =>
    intro a F1 h h7 ha a0 a1
    have hn := h.2.1
    have b := h.2.2 a a0 (by omega)
    by_cases q : bb (T a) = true
    · have by0 := M_byteAt x F1 G h a0 (by omega)
      rw [if_pos (show a < n by omega)] at by0
      rw [rn, if_pos q]
      unfold bb at q
      simp only [decide_eq_true_eq] at q
      have go : ∃ F2 G2, ((m_fI (mk F1 G) 11 7 149).bind fun v28 => (m_pf (mk F1 G) 11 7 149 (.int (v28 + (1 : Int32)))).bind fun s33 => m_D x 2 k_M_nextToken 0 [some (.ref 149), none] [] s33) = some (none, mk F2 G2) ∧ agn F F2 ∧ MT F2 G2 T n (rn (fun i => bb (T i)) k (a + 1)) := by
        rw [fI_149_7, Option.bind_some, h7, lit_1, jI_add, pf_149_7, Option.bind_some]
        exact ih (a + 1) _ (agn_TM (agn_u (by omega)) h) (by rw [sA_eq, u_eq]) (agn_tr ha (agn_u (by omega))) (by omega) (by omega)
      rw [E_M_nextToken_0 x 2 (by omega), fI_149_7, Option.bind_some, h7, by0, b_I, show (32 : Int32) = jI 32 from by decide]
      by_cases q2 : T a = 32
      · rw [if_pos (by rw [q2])]
        exact go
      · rw [if_neg (by rw [jI_eq (by omega) (by omega) (by omega) (by omega)]; omega), fI_149_7, Option.bind_some, h7, by0, b_I, show (10 : Int32) = jI 10 from by decide, if_pos (by rw [show T a = 10 by omega])]
        exact go
    · rw [rn, if_neg q]
      obtain ⟨F2, G2, y1, y2, y3⟩ := M_nextS x F1 G h h7 a0 (by omega) (fun _ => q)
      exact ⟨F2, G2, y1, agn_tr ha y2, y3⟩
theorem M_next {T : Fn} {n a : Int} (h : TM F T n) (h7 : F 149 7 = a) (a0 : 0 ≤ a) (a1 : a ≤ n) : ∃ F2 G2, m_M x k_M_nextToken [.ref 149] (mk F G) = some (none, mk F2 G2) ∧ agn F F2 ∧ MT F2 G2 T n (sk T n a) := by
  have e : m_M x k_M_nextToken [.ref 149] (mk F G) = m_D x 2 k_M_nextToken 0 [some (.ref 149), none] [] (mk F G) := by
    rw [E_M_nextToken, isO_149, if_pos rfl, E_M_nextToken_0 x 2 (by omega)]
  rw [e]
  exact M_nextB x F G (n - a).toNat a F h h7 ⟨fun _ _ => rfl, fun _ _ => rfl⟩ a0 (by omega)
end
