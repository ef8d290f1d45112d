-- the call: text
def aqU (t : Int) (F F2 : Nat → Fn) : Prop := (∀ o, ¬ o = 149 → ¬ o = 152 → ¬ o = 154 → F2 o = F o) ∧ (∀ z, z < 7 ∨ z = 15 ∨ 19 < z → F2 149 z = F 149 z) ∧ ∀ j, j < 753 * t → F2 152 j = F 152 j
section
variable (x : m_X)
theorem C_empty9 {F G : Nat → Fn} : ∃ F2, m_M x k_Script_empty [.ref 129] (mk F G) = some (none, mk F2 G) ∧ (∀ b, ¬ b = 129 → ¬ b = 134 → F2 b = F b) ∧ F2 129 5 = 0 ∧ F2 129 6 = 0 ∧ ∀ s, 0 ≤ s → s ≤ 3 → F2 134 s = -1 := by
  have st : ∀ (F' : Nat → Fn) (i : Int), 0 ≤ i → i < 4 → m_D x 1 k_Script_empty 12 [some (.ref 129), some (.int (jI i))] [] (mk F' G) = m_D x 1 k_Script_empty 12 [some (.ref 129), some (.int (jI (i + 1)))] [] (mk (sA F' 134 (u (F' 134) i (-1))) G) := by
    intro F' i i0 i1
    have w5 : m_is (mk F' G) 134 (jI i) (jI (-1)) = some (mk (sA F' 134 (u (F' 134) i (-1))) G) := is_P5 F' G (w := 129) (-1) (by omega) i0 i1
    have a4 : m_fR (mk F' G) 5 4 129 = some 134 := fR_P_4 F' G (w := 129) (by omega)
    rw [E_Script_empty_12 x 1 (by omega), show (4 : Int32) = jI 4 from by decide, if_neg (by rw [jI_le (by omega) (by omega) (by omega) (by omega)]; omega), a4, Option.bind_some, show (-1 : Int32) = jI (-1) from rfl, w5, Option.bind_some, show (1 : Int32) = jI 1 from rfl, jI_add]
  have en : ∀ (F' : Nat → Fn), m_D x 1 k_Script_empty 12 [some (.ref 129), some (.int (jI 4))] [] (mk F' G) = some (none, mk F' G) := by
    intro F'
    rw [E_Script_empty_12 x 1 (by omega), if_pos (by decide)]
  rw [E_Script_empty, isO_P F G (w := 129) (by omega), if_pos rfl, show (0 : Int32) = jI 0 from rfl, pf_P_5 _ G 0 (w := 129) (by omega), Option.bind_some, pf_P_6 _ G 0 (w := 129) (by omega), Option.bind_some, st _ 0 (by omega) (by omega), show (0 : Int) + 1 = 1 from rfl, st _ 1 (by omega) (by omega), show (1 : Int) + 1 = 2 from rfl, st _ 2 (by omega) (by omega), show (2 : Int) + 1 = 3 from rfl, st _ 3 (by omega) (by omega), show (3 : Int) + 1 = 4 from rfl, en]
  refine ⟨_, rfl, ?_, ?_, ?_, ?_⟩
  · intro b b1 b2
    rw [sA_ne _ _ b2, sA_ne _ _ b2, sA_ne _ _ b2, sA_ne _ _ b2, sA_ne _ _ b1, sA_ne _ _ b1]
  · rw [sA_ne _ _ (by omega), sA_ne _ _ (by omega), sA_ne _ _ (by omega), sA_ne _ _ (by omega), sA_eq, u_ne _ _ (by omega), sA_eq, u_eq]
  · rw [sA_ne _ _ (by omega), sA_ne _ _ (by omega), sA_ne _ _ (by omega), sA_ne _ _ (by omega), sA_eq, u_eq]
  · intro s s0 s1
    have e : s = 0 ∨ s = 1 ∨ s = 2 ∨ s = 3 := by omega
    simp only [sA_eq]
    rcases e with e | e | e | e <;> rw [e]
    · rw [u_ne _ _ (by omega), u_ne _ _ (by omega), u_ne _ _ (by omega), u_eq]
    · rw [u_ne _ _ (by omega), u_ne _ _ (by omega), u_eq]
    · rw [u_ne _ _ (by omega), u_eq]
    · rw [u_eq]
theorem C_tape (hX : XOK x) {F G : Nat → Fn} {T : Fn} {n : Int} (hT : TP F T n) : ∃ F2, m_M x k_Reader_readTape [.ref 128] (mk F G) = m_D x 98 k_Reader_readTape 28 [some (.ref 128), some (.int (jI 0))] [] (mk F2 G) ∧ JCl T n F2 (sk T n 0) 0 ∧ aqR F F2 ∧ F2 128 3 = 0 ∧ F2 128 4 = -1 ∧ F2 129 6 = 0 ∧ ∀ s, 0 ≤ s → s ≤ 3 → F2 134 s = -1 := by
  obtain ⟨F1, y1, y2, y3, y4, y5⟩ := C_empty9 x (F := F) (G := G)
  generalize hF3 : sA (sA (sA F1 128 (u (F1 128) 3 0)) 128 (u (sA F1 128 (u (F1 128) 3 0) 128) 4 (-1))) 128 (u (sA (sA F1 128 (u (F1 128) 3 0)) 128 (u (sA F1 128 (u (F1 128) 3 0) 128) 4 (-1)) 128) 8 0) = F3
  have f1 : ∀ b, ¬ b = 128 → F3 b = F1 b := fun b hb => by rw [← hF3, sA_ne _ _ hb, sA_ne _ _ hb, sA_ne _ _ hb]
  have f2 : F3 128 2 = F 128 2 := by rw [← hF3, sA_eq, u_ne _ _ (by omega), sA_eq, u_ne _ _ (by omega), sA_eq, u_ne _ _ (by omega), y2 128 (by omega) (by omega)]
  have f3 : F3 128 3 = 0 := by rw [← hF3, sA_eq, u_ne _ _ (by omega), sA_eq, u_ne _ _ (by omega), sA_eq, u_eq]
  have f4 : F3 128 4 = -1 := by rw [← hF3, sA_eq, u_ne _ _ (by omega), sA_eq, u_eq]
  have f8 : F3 128 8 = 0 := by rw [← hF3, sA_eq, u_eq]
  have r3 : aqR F F3 := ⟨fun b hb => by rw [f1 b (by omega), y2 b (by omega) (by omega)], f2⟩
  have T3 := aqR_TP r3 hT
  have hn := hT.2.2.1
  obtain ⟨F4, z1, z2, z3⟩ := C_advance x F3 G hX T3 f8 (by omega) (by omega)
  have e5 : F4 129 5 = 0 := by rw [z2.1 129 (by omega), f1 129 (by omega)]; exact y3
  have e6 : F4 129 6 = 0 := by rw [z2.1 129 (by omega), f1 129 (by omega)]; exact y4
  have e134 : ∀ s, 0 ≤ s → s ≤ 3 → F4 134 s = -1 := fun s s0 s1 => by rw [z2.1 134 (by omega), f1 134 (by omega)]; exact y5 s s0 s1
  have r4 : aqR F F4 := aqR_tr r3 (aqP_R (ag8_aq z2))
  refine ⟨F4, ?_, ⟨⟨aqR_TP r4 hT, z3⟩, e5, by omega, ?_, ?_⟩, r4, by rw [z2.2 3 (by omega)]; exact f3, by rw [z2.2 4 (by omega)]; exact f4, e6, e134⟩
  · rw [E_Reader_readTape, isO_128, if_pos rfl, fR_128_0, Option.bind_some, y1, b_V, show (0 : Int32) = jI 0 from rfl, pf_128_3, Option.bind_some, show (-1 : Int32) = jI (-1) from rfl, pf_128_4, Option.bind_some, pf_128_8, Option.bind_some, hF3, z1, b_V]
  · have := z3.2.1
    omega
  · intro s s0 s1
    rw [e134 s s0 s1]
    unfold rg
    omega
theorem M_textH {F G : Nat → Fn} {T : Fn} {n t : Int} (ht : 0 ≤ t ∧ t ≤ 3) (hT : TM F T n) (ha : F 150 1 = t) : ∃ F2 G2, m_M x k_M_readText [.ref 149] (mk F G) = m_D x 12 k_M_readText 43 [some (.ref 149), none] [] (mk F2 G2) ∧ aqU t F F2 ∧ TM F2 T n ∧ MT F2 G2 T n (sk T n 0) ∧ F2 149 12 = 753 * t ∧ F2 152 (753 * t) = 0 ∧ F2 149 13 = 0 ∧ F2 149 19 = 0 := by
  generalize hA : sA F 149 (u (F 149) 12 (753 * t)) = A
  generalize hBB : sA A 152 (u (A 152) (753 * t) 0) = B
  generalize hC : sA B 149 (u (B 149) 13 0) = C
  generalize hD : sA C 149 (u (C 149) 19 0) = D
  generalize hE : sA D 149 (u (D 149) 7 0) = E
  have o1 : ∀ b, ¬ b = 149 → ¬ b = 152 → E b = F b := fun b b1 b2 => by rw [← hE, sA_ne _ _ b1, ← hD, sA_ne _ _ b1, ← hC, sA_ne _ _ b1, ← hBB, sA_ne _ _ b2, ← hA, sA_ne _ _ b1]
  have o152 : E 152 = u (F 152) (753 * t) 0 := by rw [← hE, sA_ne _ _ (by omega), ← hD, sA_ne _ _ (by omega), ← hC, sA_ne _ _ (by omega), ← hBB, sA_eq, ← hA, sA_ne _ _ (by omega)]
  have b149 : B 149 = u (F 149) 12 (753 * t) := by rw [← hBB, sA_ne _ _ (by omega), ← hA, sA_eq]
  have o149 : E 149 = u (u (u (u (F 149) 12 (753 * t)) 13 0) 19 0) 7 0 := by
    rw [← hE, sA_eq, ← hD, sA_eq, ← hC, sA_eq, b149]
  have a12 : A 149 12 = 753 * t := by rw [← hA, sA_eq, u_eq]
  have TE : TM E T n := by
    obtain ⟨t1, t2, t3⟩ := hT
    refine ⟨?_, t2, by rw [o1 153 (by omega) (by omega)]; exact t3⟩
    rw [o149, u_ne _ _ (by omega), u_ne _ _ (by omega), u_ne _ _ (by omega), u_ne _ _ (by omega)]
    exact t1
  have hn := hT.2.1
  obtain ⟨F2, G2, y1, y2, y3⟩ := M_next x E G TE (a := 0) (by rw [o149, u_eq]) (by omega) (by omega)
  refine ⟨F2, G2, ?_, ⟨fun o h1 h2 _ => by rw [y2.1 o h1, o1 o h1 h2], fun z hz => ?_, fun j hj => ?_⟩, aqN_TM (a := 0) (b := 0) (agn_N y2) TE, y3, ?_, ?_, ?_, ?_⟩
  · rw [E_M_readText, isO_149, if_pos rfl, fR_149_0, Option.bind_some, show (1 : Int32) = jI 1 from rfl, ia_150 x F G (by omega) (by omega), Option.bind_some, ha, show (753 : Int32) = jI 753 from by decide, jI_mul, pf_149_12, Option.bind_some, hA, fR_149_2, Option.bind_some, fI_149_12, Option.bind_some, a12, show (0 : Int32) = jI 0 from rfl, is_152 _ _ _ (by omega) (by omega), Option.bind_some, hBB, pf_149_13, Option.bind_some, hC, pf_149_19, Option.bind_some, hD, pf_149_7, Option.bind_some, hE, y1, b_V]
  · rw [y2.2 z (by omega), o149, u_ne _ _ (by omega), u_ne _ _ (by omega), u_ne _ _ (by omega), u_ne _ _ (by omega)]
  · rw [y2.1 152 (by omega), o152, u_ne _ _ (by omega)]
  · rw [y2.2 12 (by omega), o149, u_ne _ _ (by omega), u_ne _ _ (by omega), u_ne _ _ (by omega), u_eq]
  · rw [y2.1 152 (by omega), o152, u_eq]
  · rw [y2.2 13 (by omega), o149, u_ne _ _ (by omega), u_ne _ _ (by omega), u_eq]
  · rw [y2.2 19 (by omega), o149, u_ne _ _ (by omega), u_eq]
theorem J_start {T : Fn} {n t : Int} {Fc Fm Gm : Nat → Fn} (h : JCl T n Fc (sk T n 0) 0) (h6 : Fc 129 6 = 0) (hw : ∀ s, 0 ≤ s → s ≤ 3 → Fc 134 s = -1) (tm : TM Fm T n) (mt : MT Fm Gm T n (sk T n 0)) (h12 : Fm 149 12 = 753 * t) (hk : Fm 152 (753 * t) = 0) (h13 : Fm 149 13 = 0) (h19 : Fm 149 19 = 0) : J T n t Fc Fm Gm (sk T n 0) 0 := by
  have hp := mt.2.1
  refine ⟨⟨h.1, h.2.1, by omega, by omega, by omega⟩, ⟨⟨tm, mt⟩, h12, hk, by omega, by omega⟩, ⟨0, h19, by omega, ?_⟩, ?_, ?_, ?_⟩
  · intro s hs
    rw [hw s (by omega) (by omega)]
    simp
  · intro j j0 j1; omega
  · intro j j0 j1; omega
  · intro s s0 s1
    exact Or.inl ⟨hw s s0 s1, fun j j0 j1 => by omega⟩
/-- the model's end -/
theorem M_text0 {F G : Nat → Fn} {c : Int} (hc : 1 ≤ c ∧ c ≤ 6) : ∃ F2, (m_bI (some (some (.int (jI c)), mk F G)) fun v14 s14 => (m_pf s14 11 5 149 (.int v14)).bind fun s17 => (m_fI s17 11 5 149).bind fun v22 => if v22 = 0 then (m_D x 13 k_M_text 36 [some (.ref 149)] [.int (-1), .ref 149] s17) else (m_fI s17 11 8 149).bind fun v33 => m_D x 13 k_M_text 36 [some (.ref 149)] [.int v33, .ref 149] s17) = some (some (.int (jI (-1))), mk F2 G) ∧ (∀ b, ¬ b = 149 → F2 b = F b) ∧ (∀ z, ¬ z = 4 → ¬ z = 5 → ¬ z = 6 → F2 149 z = F 149 z) ∧ F2 149 4 = 0 ∧ F2 149 5 = c ∧ F2 149 6 = F 149 8 := by
  generalize hA : sA F 149 (u (F 149) 5 c) = A
  generalize hBB : sA A 149 (u (A 149) 6 (F 149 8)) = B
  generalize hC : sA B 149 (u (B 149) 4 0) = C
  have a149 : A 149 = u (F 149) 5 c := by rw [← hA, sA_eq]
  have c149 : C 149 = u (u (u (F 149) 5 c) 6 (F 149 8)) 4 0 := by rw [← hC, sA_eq, ← hBB, sA_eq, a149]
  have c5 : C 149 5 = c := by rw [c149, u_ne _ _ (by omega), u_ne _ _ (by omega), u_eq]
  refine ⟨C, ?_, ?_, ?_, ?_, c5, ?_⟩
  · rw [b_I, pf_149_5, Option.bind_some, hA, fI_149_5, Option.bind_some, a149, u_eq, show (0 : Int32) = jI 0 from rfl, if_neg (by rw [jI_eq (by omega) (by omega) (by omega) (by omega)]; omega), fI_149_8, Option.bind_some, a149, u_ne _ _ (by omega), E_M_text_36 x 13 (by omega), pf_149_6, Option.bind_some, hBB, show (0 : Int32) = jI 0 from rfl, pf_149_4, Option.bind_some, hC, fI_149_5, Option.bind_some, c5, if_neg (by rw [jI_eq (by omega) (by omega) (by omega) (by omega)]; omega)]
    rfl
  · intro b hb
    rw [← hC, sA_ne _ _ hb, ← hBB, sA_ne _ _ hb, ← hA, sA_ne _ _ hb]
  · intro z h4 h5 h6
    rw [c149, u_ne _ _ h4, u_ne _ _ h6, u_ne _ _ h5]
  · rw [c149, u_eq]
  · rw [c149, u_ne _ _ (by omega), u_eq]
theorem M_text1 {F G : Nat → Fn} {t : Int} (ht : 0 ≤ t ∧ t ≤ 3) (ha : F 150 1 = t) : ∃ F2, (m_bI (some (some (.int (jI 0)), mk F G)) fun v14 s14 => (m_pf s14 11 5 149 (.int v14)).bind fun s17 => (m_fI s17 11 5 149).bind fun v22 => if v22 = 0 then (m_D x 13 k_M_text 36 [some (.ref 149)] [.int (-1), .ref 149] s17) else (m_fI s17 11 8 149).bind fun v33 => m_D x 13 k_M_text 36 [some (.ref 149)] [.int v33, .ref 149] s17) = some (some (.int (jI t)), mk F2 G) ∧ (∀ b, ¬ b = 149 → ¬ b = 150 → F2 b = F b) ∧ F2 150 = u (F 150) 1 (t + 1) ∧ (∀ z, ¬ z = 4 → ¬ z = 5 → ¬ z = 6 → F2 149 z = F 149 z) ∧ F2 149 4 = 0 ∧ F2 149 5 = 0 ∧ F2 149 6 = -1 := by
  generalize hA : sA F 149 (u (F 149) 5 0) = A
  generalize hBB : sA A 149 (u (A 149) 6 (-1)) = B
  generalize hC : sA B 149 (u (B 149) 4 0) = C
  generalize hD : sA C 150 (u (C 150) 1 (t + 1)) = D
  have a149 : A 149 = u (F 149) 5 0 := by rw [← hA, sA_eq]
  have c149 : C 149 = u (u (u (F 149) 5 0) 6 (-1)) 4 0 := by rw [← hC, sA_eq, ← hBB, sA_eq, a149]
  have c5 : C 149 5 = 0 := by rw [c149, u_ne _ _ (by omega), u_ne _ _ (by omega), u_eq]
  have c150 : C 150 = F 150 := by rw [← hC, sA_ne _ _ (by omega), ← hBB, sA_ne _ _ (by omega), ← hA, sA_ne _ _ (by omega)]
  have d149 : D 149 = C 149 := by rw [← hD, sA_ne _ _ (by omega)]
  have d150 : D 150 = u (F 150) 1 (t + 1) := by rw [← hD, sA_eq, c150]
  refine ⟨D, ?_, ?_, d150, ?_, ?_, by rw [d149]; exact c5, ?_⟩
  · rw [b_I, pf_149_5, Option.bind_some, hA, fI_149_5, Option.bind_some, a149, u_eq, if_pos (show jI 0 = 0 from rfl), E_M_text_36 x 13 (by omega), show (-1 : Int32) = jI (-1) from rfl, pf_149_6, Option.bind_some, hBB, show (0 : Int32) = jI 0 from rfl, pf_149_4, Option.bind_some, hC, fI_149_5, Option.bind_some, c5, if_pos rfl, fR_149_0, Option.bind_some, show (1 : Int32) = jI 1 from rfl, ia_150 x C G (by omega) (by omega), Option.bind_some, c150, ha, jI_add, is_150 C G (t + 1) (by omega) (by omega), Option.bind_some, hD, fR_149_0, Option.bind_some, ia_150 x D G (by omega) (by omega), Option.bind_some, d150, u_eq, jI_sub, show t + 1 - 1 = t by omega]
  · intro b h1 h2
    rw [← hD, sA_ne _ _ h2, ← hC, sA_ne _ _ h1, ← hBB, sA_ne _ _ h1, ← hA, sA_ne _ _ h1]
  · intro z h4 h5 h6
    rw [d149, c149, u_ne _ _ h4, u_ne _ _ h6, u_ne _ _ h5]
  · rw [d149, c149, u_eq]
  · rw [d149, c149, u_ne _ _ (by omega), u_eq]
theorem ok_text (hX : XOK x) {F G : Nat → Fn} (hR : Rel F) : Ok x F G k_G_text k_M_text [] := by
  have r0 := hR.2.2.1.1
  unfold RT0 at r0
  have rd := hR.2.2.2.2.1
  unfold RD at rd
  obtain ⟨rd1, rd2, rd3, rd4, rd5, rd6, rd7, rd8, rd9⟩ := rd
  obtain ⟨a1, t0, t4, _⟩ := r0
  generalize et : F 36 7 = t at *
  have hd : m_M x k_G_text [.ref 0] (mk F G) = if t ≤ 3 then (m_bI (m_M x k_Reader_readTape [.ref 128] (mk F G)) fun v23 s23 => (m_fR s23 10 8 0).bind fun v28 => (m_pf s23 3 2 v28 (.int (jI 0))).bind fun s32 => if v23 = jI 0 then (some (some (.int (jI (-1))), s32)) else (m_fR s32 10 7 0).bind fun v42 => (m_aa s32 v42 (jI t)).bind fun v46 => (m_fR s32 10 8 0).bind fun v48 => (m_fR s32 3 0 v48).bind fun v51 => m_bV (m_M x k_Script_takeOver [.ref v46, .ref v51] s32) fun s54 => (m_fR s54 10 2 0).bind fun v58 => (m_pf s54 7 7 v58 (.int (jI (t + 1)))).bind fun s64 => some (some (.int (jI t)), s64)) else some (some (.int (jI (-1))), mk F G) := by
    rw [E_G_text, isO_0, if_pos rfl, fR_0_2, Option.bind_some, fI_T_7 F G (Or.inl rfl), Option.bind_some, et, show (0 : Int32) = jI 0 from rfl, show (3 : Int32) = jI 3 from by decide, C_isIn x F G (by unfold rg; omega) (by unfold rg; omega) (by unfold rg; omega), b_I, show (-1 : Int32) = jI (-1) from rfl, show (1 : Int32) = jI 1 from rfl, jI_add]
    by_cases q : t ≤ 3
    · rw [if_pos (show 0 ≤ t ∧ t ≤ 3 from ⟨t0, q⟩), if_neg (by decide), if_pos q, fR_0_8, Option.bind_some]
    · rw [if_neg (show ¬ (0 ≤ t ∧ t ≤ 3) from fun z => q z.2), if_pos rfl, if_neg q]
  have hm : ∀ F' G' : Nat → Fn, F' 150 1 = t → m_M x k_M_text [.ref 149] (mk F' G') = if t ≤ 3 then (m_bI (m_M x k_M_readText [.ref 149] (mk F' G')) fun v14 s14 => (m_pf s14 11 5 149 (.int v14)).bind fun s17 => (m_fI s17 11 5 149).bind fun v22 => if v22 = 0 then (m_D x 13 k_M_text 36 [some (.ref 149)] [.int (-1), .ref 149] s17) else (m_fI s17 11 8 149).bind fun v33 => m_D x 13 k_M_text 36 [some (.ref 149)] [.int v33, .ref 149] s17) else some (some (.int (jI (-1))), mk F' G') := by
    intro F' G' h
    rw [E_M_text, isO_149, if_pos rfl, fR_149_0, Option.bind_some, show (1 : Int32) = jI 1 from rfl, ia_150 x F' G' (by omega) (by omega), Option.bind_some, h, show (4 : Int32) = jI 4 from by decide]
    by_cases q : t ≤ 3
    · rw [if_neg (by rw [jI_eq (by omega) (by omega) (by omega) (by omega)]; omega), if_pos q]
    · rw [if_pos (by rw [show t = 4 by omega]), if_neg q]
      rfl
  by_cases q : t ≤ 3
  · have ht : 0 ≤ t ∧ t ≤ 3 := ⟨t0, q⟩
    generalize eT : F 135 = T
    generalize en : F 128 2 = n at *
    rw [eT] at rd9
    have hn : 0 ≤ n ∧ n ≤ 300 := ⟨rd2, rd3⟩
    have hB : BY T n := fun i i0 i1 => (rd9 i i0 i1).2
    have hT : TP F T n := ⟨eT, en, hn, hB⟩
    have tm0 : ∀ F' : Nat → Fn, F' 149 = F 149 → F' 153 = F 153 → TM F' T n := fun F' h1 h2 => ⟨by rw [h1]; exact rd1, hn, fun i i0 i1 => by rw [h2]; exact rd9 i i0 i1⟩
    obtain ⟨F2, y1, y2, y3, y4, y5, y6, y7⟩ := C_tape x hX (G := G) hT
    rw [if_pos q, y1] at hd
    rcases J_loop x hX (Gc := G) hB hn ht 25 (sk T n 0) 0 F2 (by omega) y2 with ⟨c, pl, F4, c1, c2, z1, z2, z3, z4, z5⟩ | ⟨p2, k2, F4, z1, z2, z3⟩
    · -- a fault
      have fr : aqR F F4 := aqR_tr y3 z4
      generalize hF5 : sA F4 128 (u (F4 128) 2 0) = F5
      have f5 : ∀ b, ¬ b = 128 → F5 b = F4 b := fun b hb => by rw [← hF5, sA_ne _ _ hb]
      have f5o : ∀ b, (b < 128 ∨ 134 < b) → F5 b = F b := fun b hb => by rw [f5 b (by omega), fr.1 b hb]
      have eC : m_M x k_G_text [.ref 0] (mk F G) = some (some (.int (jI (-1))), mk F5 G) := by
        rw [hd, z1, b_I, fR_0_8, Option.bind_some, pf_128_2, Option.bind_some, hF5, if_pos rfl]
      have a5 : F5 150 1 = t := by rw [f5o 150 (by omega)]; exact a1
      obtain ⟨F6, G6, u1, u2, u3, u4, u5, u6, u7, u8⟩ := M_textH x (F := F5) (G := G) ht (tm0 F5 (f5o 149 (by omega)) (f5o 153 (by omega))) a5
      obtain ⟨F7, G7, w1, w2, w3⟩ := z5 F6 G6 none rfl (J_start y2 y6 y7 u3 u4 u5 u6 u7 u8)
      obtain ⟨F8, v1, v2, v3, v4, v5, v6⟩ := M_text0 x (F := F7) (G := G7) c1
      refine ⟨jI (-1), F5, F8, G7, eC, ?_, ?_⟩
      · rw [hm F5 G a5, if_pos q, u1, w1]
        exact v1
      · have o7 : ∀ b, ¬ b = 149 → ¬ b = 152 → ¬ b = 154 → F8 b = F5 b := fun b b1 b2 b3 => by rw [v2 b b1, w3.1 b b1 b2 b3, u2.1 b b1 b2 b3]
        have o8 : ∀ b, (b < 128 ∨ 134 < b) → ¬ b = 149 → ¬ b = 152 → ¬ b = 154 → F8 b = F b := fun b b0 b1 b2 b3 => by rw [o7 b b1 b2 b3, f5o b b0]
        have e3 : F8 128 3 = c := by rw [o7 128 (by omega) (by omega) (by omega), ← hF5, sA_eq, u_ne _ _ (by omega)]; exact z2
        have e4 : F8 128 4 = pl := by rw [o7 128 (by omega) (by omega) (by omega), ← hF5, sA_eq, u_ne _ _ (by omega)]; exact z3
        refine Rel_text (t := t) (t2 := t) hR et (Or.inl rfl) t4 (fun b b1 b2 => o8 b (by omega) (by omega) (by omega) (by omega)) (fun z _ => by rw [o8 36 (by omega) (by omega) (by omega) (by omega)]) (by rw [o8 36 (by omega) (by omega) (by omega) (by omega)]; exact et) (fun z _ => by rw [o8 150 (by omega) (by omega) (by omega) (by omega)]) (by rw [o8 150 (by omega) (by omega) (by omega) (by omega)]; exact a1) (o8 151 (by omega) (by omega) (by omega) (by omega)) (fun b b1 b2 => o8 b (by omega) (by omega) (by omega) (by omega)) ?_ ⟨v4, ?_⟩ ⟨?_, ?_⟩ ⟨?_, ?_⟩ ?_ (fun h => by omega)
        · intro j hj
          rw [v2 152 (by omega), w3.2.2 j hj, u2.2.2 j hj, f5o 152 (by omega)]
        · rw [o7 128 (by omega) (by omega) (by omega), ← hF5, sA_eq, u_eq]
        · rw [v5, e3]
        · rw [v6, w2, e4]
        · rw [e3]; unfold rg; omega
        · rw [e4]; unfold rg; omega
        · rw [v3 23 (by omega) (by omega) (by omega), w3.2.1 23 (by omega), u2.2.1 23 (by omega), f5o 149 (by omega)]
          exact rd8
    · -- a text
      have fr : aqR F F4 := aqR_tr y3 z2.1
      generalize hF5 : sA F4 128 (u (F4 128) 2 0) = F5
      have f5 : ∀ b, ¬ b = 128 → F5 b = F4 b := fun b hb => by rw [← hF5, sA_ne _ _ hb]
      have f5o : ∀ b, (b < 128 ∨ 134 < b) → F5 b = F b := fun b hb => by rw [f5 b (by omega), fr.1 b hb]
      have hw : 104 + 6 * t.toNat = 104 ∨ 104 + 6 * t.toNat = 110 ∨ 104 + 6 * t.toNat = 116 ∨ 104 + 6 * t.toNat = 122 := by omega
      obtain ⟨F6, s1, s2, s3, s4, s5, s6⟩ := C_takeO x (F := F5) (G := G) hw
      generalize hF7 : sA F6 36 (u (F6 36) 7 (t + 1)) = F7
      have f7 : ∀ b, ¬ b = 36 → F7 b = F6 b := fun b hb => by rw [← hF7, sA_ne _ _ hb]
      have f7o : ∀ b, (b < 128 ∨ 134 < b) → ¬ b = 36 → (b < 104 + 6 * t.toNat ∨ 104 + 6 * t.toNat + 6 ≤ b) → F7 b = F b := fun b b0 b1 b2 => by rw [f7 b b1, s2 b b2, f5o b b0]
      have eC : m_M x k_G_text [.ref 0] (mk F G) = some (some (.int (jI t)), mk F7 G) := by
        rw [hd, z1, b_I, fR_0_8, Option.bind_some, pf_128_2, Option.bind_some, hF5, if_neg (by decide), fR_0_7, Option.bind_some, aa_103 F5 G ht.1 (by omega), Option.bind_some, fR_0_8, Option.bind_some, fR_128_0, Option.bind_some, s1, b_V, fR_0_2, Option.bind_some, pf_T_7 F6 G (t + 1) (Or.inl rfl), Option.bind_some, hF7]
      have a7 : F7 150 1 = t := by rw [f7o 150 (by omega) (by omega) (by omega)]; exact a1
      obtain ⟨F8, G8, u1, u2, u3, u4, u5, u6, u7, u8⟩ := M_textH x (F := F7) (G := G) ht (tm0 F7 (f7o 149 (by omega) (by omega) (by omega)) (f7o 153 (by omega) (by omega) (by omega))) a7
      obtain ⟨F9, G9, w1, w2, w3⟩ := z3 F8 G8 none rfl (J_start y2 y6 y7 u3 u4 u5 u6 u7 u8)
      have a9 : F9 150 1 = t := by rw [w3.1 150 (by omega) (by omega) (by omega), u2.1 150 (by omega) (by omega) (by omega)]; exact a7
      obtain ⟨F10, v1, v2, v2b, v3, v4, v5, v6⟩ := M_text1 x (F := F9) (G := G9) ht a9
      refine ⟨jI t, F7, F10, G9, eC, ?_, ?_⟩
      · rw [hm F7 G a7, if_pos q, u1, w1]
        exact v1
      · have o7 : ∀ b, ¬ b = 149 → ¬ b = 150 → ¬ b = 152 → ¬ b = 154 → F10 b = F7 b := fun b b1 b4 b2 b3 => by rw [v2 b b1 b4, w3.1 b b1 b2 b3, u2.1 b b1 b2 b3]
        have o8 : ∀ b, (b < 128 ∨ 134 < b) → ¬ b = 36 → (b < 104 + 6 * t.toNat ∨ 104 + 6 * t.toNat + 6 ≤ b) → ¬ b = 149 → ¬ b = 150 → ¬ b = 152 → ¬ b = 154 → F10 b = F b := fun b b0 b1 b2 b3 b4 b5 b6 => by rw [o7 b b3 b4 b5 b6, f7o b b0 b1 b2]
        have e36 : F10 36 = u (F 36) 7 (t + 1) := by rw [o7 36 (by omega) (by omega) (by omega) (by omega), ← hF7, sA_eq, s2 36 (by omega), f5o 36 (by omega)]
        have e128 : F10 128 = u (F4 128) 2 0 := by rw [o7 128 (by omega) (by omega) (by omega) (by omega), f7 128 (by omega), s2 128 (by omega), ← hF5, sA_eq]
        have e3 : F10 128 3 = 0 := by rw [e128, u_ne _ _ (by omega), z2.2.1]; exact y4
        have e4 : F10 128 4 = -1 := by rw [e128, u_ne _ _ (by omega), z2.2.2]; exact y5
        have e150 : F10 150 = u (F 150) 1 (t + 1) := by rw [v2b, w3.1 150 (by omega) (by omega) (by omega), u2.1 150 (by omega) (by omega) (by omega), f7o 150 (by omega) (by omega) (by omega)]
        obtain ⟨⟨_, k5, kk, kl0, kl1⟩, ⟨⟨_, mt9⟩, _, x9, kw0, kw1⟩, _, tx⟩ := w2
        have hp9 := mt9.2.1
        refine Rel_text (t := t) (t2 := t + 1) hR et (Or.inr rfl) (by omega) (fun b b1 b2 => o8 b (by omega) (by omega) (by omega) (by omega) (by omega) (by omega) (by omega)) (fun z hz => by rw [e36, u_ne _ _ hz]) (by rw [e36, u_eq]) (fun z hz => by rw [e150, u_ne _ _ hz]) (by rw [e150, u_eq]) (o8 151 (by omega) (by omega) (by omega) (by omega) (by omega) (by omega) (by omega)) (fun b b1 b2 => o8 b (by omega) (by omega) (by omega) (by omega) (by omega) (by omega) (by omega)) ?_ ⟨v4, ?_⟩ ⟨?_, ?_⟩ ⟨?_, ?_⟩ ?_ (fun _ => ?_)
        · intro j hj
          rw [v2 152 (by omega) (by omega), w3.2.2 j hj, u2.2.2 j hj, f7o 152 (by omega) (by omega) (by omega)]
        · rw [e128, u_eq]
        · rw [v5, e3]
        · rw [v6, e4]
        · rw [e3]; unfold rg; omega
        · rw [e4]; unfold rg; omega
        · rw [v3 23 (by omega) (by omega) (by omega), w3.2.1 23 (by omega), u2.2.1 23 (by omega), f7o 149 (by omega) (by omega) (by omega)]
          exact rd8
        · have et2 : ((t.toNat : Nat) : Int) = t := by omega
          have sc : ∀ j, j < 6 → F10 (104 + 6 * t.toNat + j) = F6 (104 + 6 * t.toNat + j) := fun j hj => by rw [o7 _ (by omega) (by omega) (by omega) (by omega), f7 _ (by omega)]
          have x10 : F10 152 = F9 152 := v2 152 (by omega) (by omega)
          refine TX_of (k := k2) (L := F4 129 6) (W := F9 149 13) (Kd := F4 130) (St := F4 131) (Sp := F4 132) (Cd := F4 133) (Lw := F4 134) ?_ kk (by omega) (by omega) ?_ ?_ ?_ ?_ ?_
          · rw [et2, x10]
            exact tx
          · have := sc 0 (by omega)
            rw [show 104 + 6 * t.toNat + 0 = 104 + 6 * t.toNat from rfl] at this
            rw [this, s3, f5 129 (by omega)]
            exact k5
          · rw [et2, x10]
            exact x9
          · intro z h0 h1
            rw [sc 1 (by omega), sc 2 (by omega), sc 3 (by omega), ← f5 130 (by omega), ← f5 131 (by omega), ← f5 132 (by omega)]
            exact s4 z h0 h1
          · intro z h0 h1
            rw [sc 4 (by omega), ← f5 133 (by omega)]
            exact s5 z h0 h1
          · intro z h0 h1
            rw [sc 5 (by omega), ← f5 134 (by omega)]
            exact s6 z h0 h1
  · rw [if_neg q] at hd
    refine ⟨jI (-1), F, F, G, hd, ?_, hR⟩
    have := hm F G a1
    rw [if_neg q] at this
    exact this
end
