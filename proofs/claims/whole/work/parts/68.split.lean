-- class and model each on its own half of the heap
def hyb (A B : Nat → Fn) : Nat → Fn := fun b => if b < 149 then A b else B b
theorem hyb_lo (A B : Nat → Fn) {b : Nat} (h : b < 149) : hyb A B b = A b := by unfold hyb; rw [if_pos h]
theorem hyb_hi (A B : Nat → Fn) {b : Nat} (h : 149 ≤ b) : hyb A B b = B b := by unfold hyb; rw [if_neg (by omega)]
theorem hyb_self (A : Nat → Fn) : hyb A A = A := by
  funext b
  unfold hyb
  split <;> rfl
theorem hyb_l (A B C : Nat → Fn) : hyb (hyb A B) C = hyb A C := by
  funext b
  unfold hyb
  split <;> rfl
theorem hyb_sA (A B : Nat → Fn) {b : Nat} (f : Fn) (h : b < 149) : sA (hyb A B) b f = hyb (sA A b f) B := by
  funext c
  simp only [sA, hyb]
  by_cases h1 : c = b
  · rw [if_pos h1, if_pos (by omega), if_pos h1]
  · rw [if_neg h1]
    by_cases h2 : c < 149
    · rw [if_pos h2, if_pos h2, if_neg h1]
    · rw [if_neg h2, if_neg h2]
theorem hyb_sB (A B : Nat → Fn) {b : Nat} (f : Fn) (h : 149 ≤ b) : sA (hyb A B) b f = hyb A (sA B b f) := by
  funext c
  simp only [sA, hyb]
  by_cases h1 : c = b
  · rw [if_pos h1, if_neg (by omega), if_pos h1]
  · rw [if_neg h1]
    by_cases h2 : c < 149
    · rw [if_pos h2, if_pos h2]
    · rw [if_neg h2, if_neg h2, if_neg h1]
theorem hyb_eq {A B F : Nat → Fn} (h1 : ∀ b, b < 149 → F b = A b) (h2 : ∀ b, 149 ≤ b → F b = B b) : F = hyb A B := by
  funext b
  unfold hyb
  split
  · exact h1 b (by assumption)
  · exact h2 b (by omega)
abbrev keepC (b : Nat) : Prop := b < 101 ∨ (104 ≤ b ∧ b < 129) ∨ b = 135
def eqC (F F' : Nat → Fn) : Prop := ∀ b, keepC b → F' b = F b
def eqM (F F' : Nat → Fn) : Prop := ∀ b, 149 ≤ b → b < 154 → F' b = F b
def upM (F F' : Nat → Fn) : Prop := ∀ b, 149 ≤ b → F' b = F b
def loC (F F' : Nat → Fn) : Prop := ∀ b, b < 149 → F' b = F b
theorem eqC_rfl (F : Nat → Fn) : eqC F F := fun _ _ => rfl
theorem eqM_rfl (F : Nat → Fn) : eqM F F := fun _ _ _ => rfl
theorem eqC_tr {A B C : Nat → Fn} (h1 : eqC A B) (h2 : eqC B C) : eqC A C := fun b h => (h2 b h).trans (h1 b h)
theorem eqM_tr {A B C : Nat → Fn} (h1 : eqM A B) (h2 : eqM B C) : eqM A C := fun b h k => (h2 b h k).trans (h1 b h k)
def VR (v : Int32) : Prop := ∃ z : Int, -1 ≤ z ∧ z ≤ 2147483647 ∧ v = jI z
theorem VR_i {z : Int} (h0 : -1 ≤ z) (h1 : z ≤ 2147483647) : VR (jI z) := ⟨z, h0, h1, rfl⟩
/-- both answer v, each on its own half -/
def OkS (x : m_X) (Fc Fm : Nat → Fn) (kc km : Nat) (as : List Value) : Prop := ∃ v Fc' Fm', (∀ F G, eqC Fc F → F 152 = Fm 152 → ∃ F', m_M x kc (.ref 0 :: as) (mk F G) = some (some (.int v), mk F' G) ∧ eqC Fc' F' ∧ upM F F') ∧ (∀ F G, eqM Fm F → (∀ b, 104 ≤ b → b < 128 → F b = Fc b) → ∃ F' G', m_M x km (.ref 149 :: as) (mk F G) = some (some (.int v), mk F' G') ∧ eqM Fm' F' ∧ loC F F') ∧ Rel (hyb Fc' Fm') ∧ Fm' 152 = Fm 152 ∧ (∀ b, 104 ≤ b → b < 128 → Fc' b = Fc b) ∧ VR v
theorem Rel_ag {F F' : Nat → Fn} (h : Rel F) (ho : ∀ b, (b < 101 ∨ (104 ≤ b ∧ b < 128) ∨ b = 128 ∨ b = 135 ∨ (149 ≤ b ∧ b < 154)) → F' b = F b) : Rel F' := by
  refine Rel_live h (fun b hb => ho b (by omega)) ?_ ?_ ?_
  · refine RD_cg ?_ ?_ (ho _ (by omega)) (ho _ (by omega)) h.2.2.2.2.1
    · rw [ho 128 (by omega)]; exact ⟨rfl, rfl, rfl⟩
    · rw [ho 149 (by omega)]; exact ⟨rfl, rfl, rfl, rfl⟩
  · rw [ho 150 (by omega)]
    exact RS_ob (ho _ (by omega)) (ho _ (by omega)) (fun i hi => ho _ (by omega)) h.1
  · intro k _
    rw [ho 150 (by omega)]
theorem Rel_eq {Fc Fm F : Nat → Fn} (h : Rel (hyb Fc Fm)) (h1 : eqC Fc F) (h2 : eqM Fm F) : Rel F := by
  refine Rel_ag h ?_
  intro b hb
  by_cases q : b < 149
  · rw [hyb_lo _ _ q]
    exact h1 b (by unfold keepC; omega)
  · rw [hyb_hi _ _ (by omega)]
    exact h2 b (by omega) (by omega)
theorem Ok_of {x : m_X} {F G : Nat → Fn} {kc km : Nat} {as : List Value} (h : OkS x F F kc km as) : Ok x F G kc km as := by
  obtain ⟨v, Fc', Fm', h1, h2, h3, h4, h5, h6⟩ := h
  obtain ⟨F1, a1, a2, a3⟩ := h1 F G (eqC_rfl F) rfl
  obtain ⟨F2, G2, b1, b2, b3⟩ := h2 F1 G (fun b k1 k2 => a3 b k1) (fun b k1 k2 => (a2 b (by unfold keepC; omega)).trans (h5 b k1 k2))
  exact ⟨v, F1, F2, G2, a1, b1, Rel_eq h3 (fun b hb => (b3 b (by unfold keepC at hb; omega)).trans (a2 b hb)) b2⟩
abbrev SR (F : Nat → Fn) : Prop := 0 ≤ F 3 1 ∧ F 3 1 ≤ 30 ∧ 0 ≤ F 3 2 ∧ F 3 2 ≤ 30
section
variable (x : m_X) (F G : Nat → Fn)
theorem Cs_mark (h : SR F) : m_M x k_Steps_mark [.ref 3, .ref 1] (mk F G) = some (none, mk (mkd F 1 3) G) :=
  C_mark x F G (s := 3) (w := 1) (Or.inl rfl) (Or.inl rfl) h.1 h.2.1 h.2.2.1 h.2.2.2
theorem Cs_c {v : Int} {F2 : Nat → Fn} (h : SR F) (h3 : F2 3 = F 3) (hv : rg v) (h1 : ¬ v = -1) : m_M x k_G_kept [.ref 0, .int (jI v)] (mk F2 G) = some (some (.int (jI v)), mk (sA F2 3 (kf (F 3))) G) := by
  rw [C_kept x F2 G hv (by rw [h3]; exact h.1) (by rw [h3]; exact h.2.1) (by rw [h3]; exact h.2.2.1) (by rw [h3]; exact h.2.2.2), if_neg h1, h3]
theorem Cs_n {F2 : Nat → Fn} (h : SR F) (h3 : F2 3 = F 3) : m_M x k_G_kept [.ref 0, .int (jI (-1))] (mk F2 G) = some (some (.int (jI (-1))), mk F2 G) := by
  rw [C_kept x F2 G (by unfold rg; omega) (by rw [h3]; exact h.1) (by rw [h3]; exact h.2.1) (by rw [h3]; exact h.2.2.1) (by rw [h3]; exact h.2.2.2), if_pos rfl]
theorem Cs_t {F2 : Nat → Fn} (h : SR F) (h3 : F2 3 = F 3) : m_M x k_G_keptIf [.ref 0, .int (jI 1)] (mk F2 G) = some (some (.int (jI 1)), mk (sA F2 3 (kf (F 3))) G) := by
  rw [C_keptIf x F2 G (by omega) (by rw [h3]; exact h.1) (by rw [h3]; exact h.2.1) (by rw [h3]; exact h.2.2.1) (by rw [h3]; exact h.2.2.2), if_neg (by omega), h3]
theorem Cs_f {F2 : Nat → Fn} (h : SR F) (h3 : F2 3 = F 3) : m_M x k_G_keptIf [.ref 0, .int (jI 0)] (mk F2 G) = some (some (.int (jI 0)), mk F2 G) := by
  rw [C_keptIf x F2 G (by omega) (by rw [h3]; exact h.1) (by rw [h3]; exact h.2.1) (by rw [h3]; exact h.2.2.1) (by rw [h3]; exact h.2.2.2), if_pos rfl]
/-- a step kept behind a deed that left the world c -/
def stp (F : Nat → Fn) (c : Fn) : Nat → Fn := sA (sA (mkd F 1 3) 2 c) 3 (kf (F 3))
theorem stp_eq (F : Nat → Fn) (c : Fn) : stp F c = sA (kpd F 1 3) 2 c := by
  unfold stp
  rw [sA_comm _ _ _ (by omega)]
  rfl
theorem mkd_hyb (A B : Nat → Fn) : mkd (hyb A B) 1 3 = hyb (mkd A 1 3) B := by
  unfold mkd spr
  rw [hyb_lo A B (b := 3) (by omega), hyb_lo A B (b := 1 + 1) (by omega), hyb_lo A B (by omega), hyb_sA A B _ (by omega)]
theorem stp_hyb (A B : Nat → Fn) (c : Fn) : stp (hyb A B) c = hyb (stp A c) B := by
  unfold stp
  rw [mkd_hyb, hyb_lo A B (b := 3) (by omega), hyb_sA _ B _ (by omega), hyb_sA _ B _ (by omega)]
theorem Gc_bargain {a b k l m : Int} (hs : SR F) (hw : WI (F 2)) (ha : rg a) (hb : rg b) (hk : rg k) (hl : rg l) (hm : rg m) : m_M x k_G_bargain [.ref 0, .int (jI a), .int (jI b), .int (jI k), .int (jI l), .int (jI m)] (mk F G) = if F 2 25 < 12 ∧ (1 ≤ k ∧ k ≤ 99) ∧ (0 ≤ l ∧ l ≤ 2) ∧ (0 ≤ m ∧ m ≤ 9) ∧ (0 ≤ a ∧ a < F 2 0) ∧ (0 ≤ b ∧ b < F 2 0) ∧ ¬ a = b then some (some (.int (jI (F 2 25))), mk (stp F (wStrike (F 2) a b k l m)) G) else some (some (.int (jI (-1))), mk (mkd F 1 3) G) := by
  have hc := WI_c hw
  have em2 : mkd F 1 3 2 = F 2 := mkd_ne (by omega)
  have em3 : mkd F 1 3 3 = F 3 := mkd_ne (by omega)
  have e1 := C_strike x (mkd F 1 3) G (w := 1) (a := a) (b := b) (k := k) (l := l) (m := m) (Or.inl rfl) (by rw [mkd_ne (by omega)]; exact hw) ha hb hk hl hm
  simp only [Nat.reduceAdd, em2] at e1
  rw [E_G_bargain]
  simp only [isO_0, fR_0_0, fR_0_1, fR_0_2, fR_0_3, fR_0_4, fR_0_5, fR_0_6, fR_0_7, fR_0_8, fR_0_9, fR_0_10, fR_0_11, fR_0_12, b_I, b_L, b_V, b_R, b_N, b_N0, Option.bind_some, ↓reduceIte, bq0, bq1, bz0, bz1, ite_not, Classical.not_not, Cs_mark x F G hs, e1]
  split
  · rw [b_I, Cs_c x F G hs (by rw [sA_ne _ _ (by omega), em3]) (by unfold rg; omega) (by omega), b_I]
    rfl
  · rw [b_I, Cs_n x F G hs em3, b_I]
theorem Gc_work {g h : Int} (hs : SR F) (hw : WI (F 2)) (hg : rg g) (hh : rg h) : m_M x k_G_work [.ref 0, .int (jI g), .int (jI h)] (mk F G) = if (0 ≤ g ∧ g < F 2 25 ∧ (F 2 (99 + g) = 0 ∨ F 2 (99 + g) = 3)) ∧ 1 ≤ h ∧ h ≤ 9 then some (some (.int (jI (max 0 (F 2 (51 + g) - h)))), mk (stp F (wLabour (F 2) g h)) G) else some (some (.int (jI (-1))), mk (mkd F 1 3) G) := by
  have hc := WI_c hw
  have em2 : mkd F 1 3 2 = F 2 := mkd_ne (by omega)
  have em3 : mkd F 1 3 3 = F 3 := mkd_ne (by omega)
  have e1 := C_labour x (mkd F 1 3) G (w := 1) (g := g) (h := h) (Or.inl rfl) (by rw [mkd_ne (by omega)]; exact hw) hg hh
  simp only [Nat.reduceAdd, em2] at e1
  rw [E_G_work]
  simp only [isO_0, fR_0_0, fR_0_1, fR_0_2, fR_0_3, fR_0_4, fR_0_5, fR_0_6, fR_0_7, fR_0_8, fR_0_9, fR_0_10, fR_0_11, fR_0_12, b_I, b_L, b_V, b_R, b_N, b_N0, Option.bind_some, ↓reduceIte, bq0, bq1, bz0, bz1, ite_not, Classical.not_not, Cs_mark x F G hs, e1]
  split
  · rename_i q
    have wg := WI_g hw q.1.1 (by omega)
    rw [b_I, Cs_c x F G hs (by rw [sA_ne _ _ (by omega), em3]) (by unfold rg; omega) (by omega), b_I]
    rfl
  · rw [b_I, Cs_n x F G hs em3, b_I]
theorem Gc_pass {g p : Int} (hs : SR F) (hw : WI (F 2)) (hg : rg g) (hp : rg p) : m_M x k_G_pass [.ref 0, .int (jI g), .int (jI p)] (mk F G) = if (0 ≤ g ∧ g < F 2 25 ∧ F 2 (99 + g) = 0) ∧ (0 ≤ p ∧ p < F 2 0) ∧ ¬ p = F 2 (27 + g) ∧ ¬ p = F 2 (39 + g) then some (some (.int (jI 1)), mk (stp F (u (F 2) (39 + g) p)) G) else some (some (.int (jI 0)), mk (mkd F 1 3) G) := by
  have em2 : mkd F 1 3 2 = F 2 := mkd_ne (by omega)
  have em3 : mkd F 1 3 3 = F 3 := mkd_ne (by omega)
  have e1 := C_handOn x (mkd F 1 3) G (w := 1) (g := g) (p := p) (Or.inl rfl) (by rw [mkd_ne (by omega)]; exact hw) hg hp
  simp only [Nat.reduceAdd, em2] at e1
  rw [E_G_pass]
  simp only [isO_0, fR_0_0, fR_0_1, fR_0_2, fR_0_3, fR_0_4, fR_0_5, fR_0_6, fR_0_7, fR_0_8, fR_0_9, fR_0_10, fR_0_11, fR_0_12, b_I, b_L, b_V, b_R, b_N, b_N0, Option.bind_some, ↓reduceIte, bq0, bq1, bz0, bz1, ite_not, Classical.not_not, Cs_mark x F G hs, e1]
  split
  · rw [b_I, Cs_t x F G hs (by rw [sA_ne _ _ (by omega), em3]), b_I, rk1, if_pos rfl]
    rfl
  · rw [b_I, Cs_f x F G hs em3, b_I, rk0, if_pos rfl]
theorem Gc_lose {g : Int} (hs : SR F) (hw : WI (F 2)) (hg : rg g) : m_M x k_G_lose [.ref 0, .int (jI g)] (mk F G) = if 0 ≤ g ∧ g < F 2 25 ∧ F 2 (99 + g) = 0 then some (some (.int (jI 1)), mk (stp F (u (F 2) (99 + g) 2)) G) else some (some (.int (jI 0)), mk (mkd F 1 3) G) := by
  have em2 : mkd F 1 3 2 = F 2 := mkd_ne (by omega)
  have em3 : mkd F 1 3 3 = F 3 := mkd_ne (by omega)
  have e1 := C_drop x (mkd F 1 3) G (w := 1) (g := g) (Or.inl rfl) (by rw [mkd_ne (by omega)]; exact hw) hg
  simp only [Nat.reduceAdd, em2] at e1
  rw [E_G_lose]
  simp only [isO_0, fR_0_0, fR_0_1, fR_0_2, fR_0_3, fR_0_4, fR_0_5, fR_0_6, fR_0_7, fR_0_8, fR_0_9, fR_0_10, fR_0_11, fR_0_12, b_I, b_L, b_V, b_R, b_N, b_N0, Option.bind_some, ↓reduceIte, bq0, bq1, bz0, bz1, ite_not, Classical.not_not, Cs_mark x F G hs, e1]
  split
  · rw [b_I, Cs_t x F G hs (by rw [sA_ne _ _ (by omega), em3]), b_I, rk1, if_pos rfl]
    rfl
  · rw [b_I, Cs_f x F G hs em3, b_I, rk0, if_pos rfl]
end
section
variable {x : m_X} {Fc Fm Gm : Nat → Fn}
theorem SR_of (hR : Rel (hyb Fc Fm)) : SR Fc := by
  have g := hR.1.1
  rw [hyb_lo Fc Fm (b := 3) (by omega)] at g
  exact ⟨g.1, g.2.1, g.2.2.1, g.2.2.2.1⟩
theorem WI_of (hR : Rel (hyb Fc Fm)) : WI (Fc 2) := by
  have g := RS_WI hR.1
  rw [hyb_lo Fc Fm (by omega)] at g
  exact g
theorem WV_of (hR : Rel (hyb Fc Fm)) : WI (V (Fm 150)) := by
  have g := RS_WV hR.1
  rw [hyb_hi Fc Fm (by omega)] at g
  exact g
theorem s3_of (hR : Rel (hyb Fc Fm)) : 0 ≤ Fm 150 3 ∧ Fm 150 3 ≤ 30 := by
  have g := hR.1.1
  rw [hyb_hi Fc Fm (b := 150) (by omega)] at g
  omega
theorem V_of (hR : Rel (hyb Fc Fm)) : ∀ k, vok k → V (Fm 150) k = Fc 2 k := by
  have g := Rel_V hR
  rw [hyb_hi Fc Fm (b := 150) (by omega), hyb_lo Fc Fm (b := 2) (by omega)] at g
  exact g
/-- a deed done: both halves afterwards -/
theorem Rel_do {c d f : Fn} (hR : Rel (hyb Fc Fm)) (hi : WI c) (hv : ∀ k, vok k → c k = d k) (hk : ∀ k, 0 ≤ k → (k < 8 ∨ k = 22 ∨ k = 26 ∨ (111 ≤ k ∧ k < 141)) → c k = Fc 2 k) (hV : V f = d) (hf : Fr (mKeep (Fm 150)) f) : Rel (hyb (stp Fc c) (sA Fm 150 f)) := by
  have q := Rel_step0 hR hi (b := f) (by rw [hV]; exact hv) (by rw [hyb_lo Fc Fm (by omega)]; exact hk) (by rw [hyb_hi Fc Fm (by omega)]; exact hf)
  rw [← stp_eq, stp_hyb, hyb_sB _ _ _ (by omega)] at q
  exact q
theorem Rel_not (hR : Rel (hyb Fc Fm)) : Rel (hyb (mkd Fc 1 3) Fm) := by
  have q := Rel_mkd hR
  rw [mkd_hyb] at q
  exact q
theorem mkd_eqC {A F : Nat → Fn} (hs : SR A) (h : eqC A F) : eqC (mkd A 1 3) (mkd F 1 3) := by
  intro b hb
  have h3 : F 3 = A 3 := h 3 (by unfold keepC; omega)
  have h2 : F (1 + 1) = A (1 + 1) := h _ (by unfold keepC; omega)
  have hsp : F (spr A 3) = A (spr A 3) := h _ (by unfold keepC spr; omega)
  have e : spr F 3 = spr A 3 := by unfold spr; rw [h3]
  unfold mkd
  rw [e, h2, hsp]
  by_cases q : b = spr A 3
  · rw [q, sA_eq, sA_eq]
  · rw [sA_ne _ _ q, sA_ne _ _ q]
    exact h b hb
theorem stp_eqC {A F : Nat → Fn} (hs : SR A) (h : eqC A F) (c : Fn) : eqC (stp A c) (stp F c) := by
  intro b hb
  have h3 : F 3 = A 3 := h 3 (by unfold keepC; omega)
  unfold stp
  rw [h3]
  by_cases q : b = 3
  · rw [q, sA_eq, sA_eq]
  · rw [sA_ne _ _ q, sA_ne _ _ q]
    by_cases q2 : b = 2
    · rw [q2, sA_eq, sA_eq]
    · rw [sA_ne _ _ q2, sA_ne _ _ q2]
      exact mkd_eqC hs h b hb
theorem mkd_up {F : Nat → Fn} : upM F (mkd F 1 3) := fun b hb => mkd_ne (by omega)
theorem stp_up {F : Nat → Fn} {c : Fn} : upM F (stp F c) := by
  intro b hb
  unfold stp
  rw [sA_ne _ _ (by omega), sA_ne _ _ (by omega), mkd_ne (by omega)]
theorem stp_sc {F : Nat → Fn} (c : Fn) {b : Nat} (h : 36 ≤ b) : stp F c b = F b := by
  unfold stp
  rw [sA_ne _ _ (by omega), sA_ne _ _ (by omega), mkd_ne (by omega)]
theorem s150_eq {A F : Nat → Fn} (h : eqM A F) (f : Fn) : eqM (sA A 150 f) (sA F 150 f) := by
  intro b h0 h1
  by_cases q : b = 150
  · rw [q, sA_eq, sA_eq]
  · rw [sA_ne _ _ q, sA_ne _ _ q]
    exact h b h0 h1
theorem s150_lo {F : Nat → Fn} (f : Fn) : loC F (sA F 150 f) := fun b hb => sA_ne _ _ (by omega)
/-- the model's row is known by its world and by what a deed leaves alone -/
theorem Fr_u1 {a f f' d : Fn} (h1 : V f = d) (h2 : V f' = d) (h3 : Fr a f) (h4 : Fr a f') : f = f' := by
  funext k
  by_cases h : k < 8 ∨ 111 ≤ k ∨ k = 12
  · rw [h3 k h, h4 k h]
  · have hx : ∃ z, vok z ∧ io z = k := by
      by_cases h5 : k < 12
      · exact ⟨k + 14, by unfold vok; omega, by unfold io; rw [if_neg (by omega), if_neg (by omega), if_neg (by omega), if_pos (by omega)]; omega⟩
      · by_cases h6 : k < 27
        · exact ⟨k - 5, by unfold vok; omega, by unfold io; rw [if_neg (by omega), if_neg (by omega), if_pos (by omega)]; omega⟩
        · refine ⟨27 + 12 * ((k - 27) % 7) + (k - 27) / 7, by unfold vok; omega, ?_⟩
          rw [io_g (by omega) (by omega) (by omega) (by omega)]
          omega
    obtain ⟨z, z1, z2⟩ := hx
    have e : V f z = V f' z := by rw [h1, h2]
    rw [V_at z1 z2, V_at z1 z2] at e
    exact e
theorem OkS_do {kc km : Nat} {as : List Value} {v : Int} {c d : Fn} (hR : Rel (hyb Fc Fm)) (hz0 : -1 ≤ v) (hz1 : v ≤ 2147483647) (hcls : ∀ F G, eqC Fc F → m_M x kc (.ref 0 :: as) (mk F G) = some (some (.int (jI v)), mk (stp F c) G)) (hmod : ∀ F G, F 150 = Fm 150 → ∃ f, m_M x km (.ref 149 :: as) (mk F G) = some (some (.int (jI v)), mk (sA F 150 f) G) ∧ V f = d ∧ Fr (mKeep (Fm 150)) f) (hi : WI c) (hv : ∀ k, vok k → c k = d k) (hk : ∀ k, 0 ≤ k → (k < 8 ∨ k = 22 ∨ k = 26 ∨ (111 ≤ k ∧ k < 141)) → c k = Fc 2 k) : OkS x Fc Fm kc km as := by
  have hs := SR_of hR
  obtain ⟨f, e1, e2, e3⟩ := hmod Fm Fm rfl
  refine ⟨jI v, stp Fc c, sA Fm 150 f, ?_, ?_, Rel_do hR hi hv hk e2 e3, sA_ne _ _ (by omega), fun b h0 h1 => stp_sc c (by omega), VR_i hz0 hz1⟩
  · intro F G h _
    exact ⟨_, hcls F G h, stp_eqC hs h c, stp_up⟩
  · intro F G h _
    obtain ⟨f', g1, g2, g3⟩ := hmod F G (h 150 (by omega) (by omega))
    have ef := Fr_u1 g2 e2 g3 e3
    rw [ef] at g1
    exact ⟨_, G, g1, s150_eq h f, s150_lo f⟩
theorem OkS_no {kc km : Nat} {as : List Value} {v : Int} (hR : Rel (hyb Fc Fm)) (hz0 : -1 ≤ v) (hz1 : v ≤ 2147483647) (hcls : ∀ F G, eqC Fc F → m_M x kc (.ref 0 :: as) (mk F G) = some (some (.int (jI v)), mk (mkd F 1 3) G)) (hmod : ∀ F G, F 150 = Fm 150 → m_M x km (.ref 149 :: as) (mk F G) = some (some (.int (jI v)), mk F G)) : OkS x Fc Fm kc km as := by
  have hs := SR_of hR
  exact ⟨jI v, mkd Fc 1 3, Fm, fun F G h _ => ⟨_, hcls F G h, mkd_eqC hs h, mkd_up⟩, fun F G h _ => ⟨F, G, hmod F G (h 150 (by omega) (by omega)), h, fun _ _ => rfl⟩, Rel_not hR, rfl, fun b h0 h1 => mkd_ne (by omega), VR_i hz0 hz1⟩
theorem cond_g (hR : Rel (hyb Fc Fm)) : V (Fm 150) 0 = Fc 2 0 ∧ V (Fm 150) 22 = Fc 2 22 ∧ V (Fm 150) 25 = Fc 2 25 ∧ ∀ g, 0 ≤ g → g < 12 → V (Fm 150) (27 + g) = Fc 2 (27 + g) ∧ V (Fm 150) (39 + g) = Fc 2 (39 + g) ∧ V (Fm 150) (51 + g) = Fc 2 (51 + g) ∧ V (Fm 150) (99 + g) = Fc 2 (99 + g) := by
  have h := V_of hR
  refine ⟨h _ (by unfold vok; omega), h _ (by unfold vok; omega), h _ (by unfold vok; omega), ?_⟩
  intro g g0 g1
  exact ⟨h _ (by unfold vok; omega), h _ (by unfold vok; omega), h _ (by unfold vok; omega), h _ (by unfold vok; omega)⟩
theorem eqC_2 {F : Nat → Fn} (h : eqC Fc F) : F 2 = Fc 2 := h 2 (by unfold keepC; omega)
theorem eqC_SR {F : Nat → Fn} (hs : SR Fc) (h : eqC Fc F) : SR F := by
  have e : F 3 = Fc 3 := h 3 (by unfold keepC; omega)
  unfold SR
  rw [e]
  exact hs
theorem oks_bargain {a b k l m : Int} (hR : Rel (hyb Fc Fm)) (ha : rg a) (hb : rg b) (hk : rg k) (hl : rg l) (hm : rg m) : OkS x Fc Fm k_G_bargain k_M_bargain [.int (jI a), .int (jI b), .int (jI k), .int (jI l), .int (jI m)] := by
  have hw := WI_of hR
  have hc := WI_c hw
  have hs := SR_of hR
  have s3 := s3_of hR
  obtain ⟨v0, v22, v25, vg⟩ := cond_g hR
  have e1 : ∀ F G, eqC Fc F → _ := fun F G h => Gc_bargain x F G (a := a) (b := b) (k := k) (l := l) (m := m) (eqC_SR hs h) (by rw [eqC_2 h]; exact hw) ha hb hk hl hm
  have e2 : ∀ (F G : Nat → Fn), F 150 = Fm 150 → _ := fun F G h => M_bargain x F G (a := a) (b := b) (k := k) (l := l) (m := m) (by rw [h]; exact WV_of hR) (by rw [h]; omega) (by rw [h]; omega) ha hb hk hl hm
  by_cases hC : Fc 2 25 < 12 ∧ (1 ≤ k ∧ k ≤ 99) ∧ (0 ≤ l ∧ l ≤ 2) ∧ (0 ≤ m ∧ m ≤ 9) ∧ (0 ≤ a ∧ a < Fc 2 0) ∧ (0 ≤ b ∧ b < Fc 2 0) ∧ ¬ a = b
  · refine OkS_do hR (v := Fc 2 25) (by omega) (by omega) (c := wStrike (Fc 2) a b k l m) (d := wStrike (V (Fm 150)) a b k l m) ?_ ?_ (WI_strike hw hC.1 hC.2.1 hC.2.2.1 hC.2.2.2.1 hC.2.2.2.2.1 hC.2.2.2.2.2.1 hC.2.2.2.2.2.2) (ag_strike (fun k hk => (V_of hR k hk).symm) (by omega) (by omega)) ?_
    · intro F G h
      have q := e1 F G h
      rw [eqC_2 h, if_pos hC] at q
      exact q
    · intro F G h
      have q := e2 F G h
      rw [h, if_pos (by rw [v0, v25]; exact hC), v25] at q
      exact q
    · intro j j0 j1
      unfold wStrike
      rw [u_ne _ _ (by omega), u_ne _ _ (by omega), u_ne _ _ (by omega), u_ne _ _ (by omega), u_ne _ _ (by omega), u_ne _ _ (by omega), u_ne _ _ (by omega), u_ne _ _ (by omega)]
  · refine OkS_no hR (v := -1) (by omega) (by omega) ?_ ?_
    · intro F G h
      have q := e1 F G h
      rw [eqC_2 h, if_neg hC] at q
      exact q
    · intro F G h
      have q := e2 F G h
      rw [h, if_neg (by rw [v0, v25]; exact hC)] at q
      exact q
theorem oks_work {g h : Int} (hR : Rel (hyb Fc Fm)) (hg : rg g) (hh : rg h) : OkS x Fc Fm k_G_work k_M_work [.int (jI g), .int (jI h)] := by
  have hw := WI_of hR
  have hc := WI_c hw
  have hs := SR_of hR
  have s3 := s3_of hR
  obtain ⟨v0, v22, v25, vg⟩ := cond_g hR
  have e1 : ∀ F G, eqC Fc F → _ := fun F G k => Gc_work x F G (g := g) (h := h) (eqC_SR hs k) (by rw [eqC_2 k]; exact hw) hg hh
  have e2 : ∀ (F G : Nat → Fn), F 150 = Fm 150 → _ := fun F G k => M_work x F G (g := g) (h := h) (by rw [k]; exact WV_of hR) (by rw [k]; omega) (by rw [k]; omega) hg hh
  have hno : ¬ ((0 ≤ g ∧ g < Fc 2 25 ∧ (Fc 2 (99 + g) = 0 ∨ Fc 2 (99 + g) = 3)) ∧ 1 ≤ h ∧ h ≤ 9) → ¬ ((0 ≤ g ∧ g < V (Fm 150) 25 ∧ (V (Fm 150) (99 + g) = 0 ∨ V (Fm 150) (99 + g) = 3)) ∧ 1 ≤ h ∧ h ≤ 9) := by
    intro h1 h2
    have q := vg g h2.1.1 (by omega)
    omega
  by_cases hC : (0 ≤ g ∧ g < Fc 2 25 ∧ (Fc 2 (99 + g) = 0 ∨ Fc 2 (99 + g) = 3)) ∧ 1 ≤ h ∧ h ≤ 9
  · have q := vg g hC.1.1 (by omega)
    have wgg := WI_g hw hC.1.1 (by omega)
    refine OkS_do hR (v := max 0 (Fc 2 (51 + g) - h)) (by omega) (by omega) (c := wLabour (Fc 2) g h) (d := wLabour (V (Fm 150)) g h) ?_ ?_ (WI_labour hw (by omega) (by omega) (by omega)) (ag_labour (fun k hk => (V_of hR k hk).symm) (by omega) (by omega)) ?_
    · intro F G k
      have q := e1 F G k
      rw [eqC_2 k, if_pos hC] at q
      exact q
    · intro F G k
      have q2 := e2 F G k
      rw [k, if_pos (by omega), q.2.2.1] at q2
      exact q2
    · intro j j0 j1
      unfold wLabour
      split
      · rw [u_ne _ _ (by omega), u_ne _ _ (by omega)]
      · rw [u_ne _ _ (by omega)]
  · refine OkS_no hR (v := -1) (by omega) (by omega) ?_ ?_
    · intro F G k
      have q := e1 F G k
      rw [eqC_2 k, if_neg hC] at q
      exact q
    · intro F G k
      have q := e2 F G k
      rw [k, if_neg (hno hC)] at q
      exact q
theorem oks_pass {g p : Int} (hR : Rel (hyb Fc Fm)) (hg : rg g) (hp : rg p) : OkS x Fc Fm k_G_pass k_M_pass [.int (jI g), .int (jI p)] := by
  have hw := WI_of hR
  have hc := WI_c hw
  have hs := SR_of hR
  have s3 := s3_of hR
  obtain ⟨v0, v22, v25, vg⟩ := cond_g hR
  have e1 : ∀ F G, eqC Fc F → _ := fun F G k => Gc_pass x F G (g := g) (p := p) (eqC_SR hs k) (by rw [eqC_2 k]; exact hw) hg hp
  have e2 : ∀ (F G : Nat → Fn), F 150 = Fm 150 → _ := fun F G k => M_pass x F G (g := g) (p := p) (by rw [k]; exact WV_of hR) (by rw [k]; omega) (by rw [k]; omega) hg hp
  have hno : ¬ ((0 ≤ g ∧ g < Fc 2 25 ∧ Fc 2 (99 + g) = 0) ∧ (0 ≤ p ∧ p < Fc 2 0) ∧ ¬ p = Fc 2 (27 + g) ∧ ¬ p = Fc 2 (39 + g)) → ¬ ((0 ≤ g ∧ g < V (Fm 150) 25 ∧ V (Fm 150) (99 + g) = 0) ∧ (0 ≤ p ∧ p < V (Fm 150) 0) ∧ ¬ p = V (Fm 150) (27 + g) ∧ ¬ p = V (Fm 150) (39 + g)) := by
    intro h1 h2
    have q := vg g h2.1.1 (by omega)
    omega
  by_cases hC : (0 ≤ g ∧ g < Fc 2 25 ∧ Fc 2 (99 + g) = 0) ∧ (0 ≤ p ∧ p < Fc 2 0) ∧ ¬ p = Fc 2 (27 + g) ∧ ¬ p = Fc 2 (39 + g)
  · have q := vg g hC.1.1 (by omega)
    refine OkS_do hR (v := 1) (by omega) (by omega) (c := u (Fc 2) (39 + g) p) (d := u (V (Fm 150)) (39 + g) p) ?_ ?_ (WI_held hw (by omega) (by omega) (by omega) (by omega) (by omega)) (ag_u (fun k hk => (V_of hR k hk).symm)) ?_
    · intro F G k
      have q := e1 F G k
      rw [eqC_2 k, if_pos hC] at q
      exact q
    · intro F G k
      have q2 := e2 F G k
      rw [k, if_pos (by omega)] at q2
      exact q2
    · intro j j0 j1
      rw [u_ne _ _ (by omega)]
  · refine OkS_no hR (v := 0) (by omega) (by omega) ?_ ?_
    · intro F G k
      have q := e1 F G k
      rw [eqC_2 k, if_neg hC] at q
      exact q
    · intro F G k
      have q := e2 F G k
      rw [k, if_neg (hno hC)] at q
      exact q
theorem oks_lose {g : Int} (hR : Rel (hyb Fc Fm)) (hg : rg g) : OkS x Fc Fm k_G_lose k_M_lose [.int (jI g)] := by
  have hw := WI_of hR
  have hc := WI_c hw
  have hs := SR_of hR
  have s3 := s3_of hR
  obtain ⟨v0, v22, v25, vg⟩ := cond_g hR
  have e1 : ∀ F G, eqC Fc F → _ := fun F G k => Gc_lose x F G (g := g) (eqC_SR hs k) (by rw [eqC_2 k]; exact hw) hg
  have e2 : ∀ (F G : Nat → Fn), F 150 = Fm 150 → _ := fun F G k => M_lose x F G (g := g) (by rw [k]; exact WV_of hR) (by rw [k]; omega) (by rw [k]; omega) hg
  have hno : ¬ (0 ≤ g ∧ g < Fc 2 25 ∧ Fc 2 (99 + g) = 0) → ¬ (0 ≤ g ∧ g < V (Fm 150) 25 ∧ V (Fm 150) (99 + g) = 0) := by
    intro h1 h2
    have q := vg g h2.1 (by omega)
    omega
  by_cases hC : 0 ≤ g ∧ g < Fc 2 25 ∧ Fc 2 (99 + g) = 0
  · have q := vg g hC.1 (by omega)
    have e7 : hiB (99 + g) = 3 := hB_o (by omega) (by omega)
    refine OkS_do hR (v := 1) (by omega) (by omega) (c := u (Fc 2) (99 + g) 2) (d := u (V (Fm 150)) (99 + g) 2) ?_ ?_ (WI_u hw (by omega) (by omega) (by omega)) (ag_u (fun k hk => (V_of hR k hk).symm)) ?_
    · intro F G k
      have q := e1 F G k
      rw [eqC_2 k, if_pos hC] at q
      exact q
    · intro F G k
      have q2 := e2 F G k
      rw [k, if_pos (by omega)] at q2
      exact q2
    · intro j j0 j1
      rw [u_ne _ _ (by omega)]
  · refine OkS_no hR (v := 0) (by omega) (by omega) ?_ ?_
    · intro F G k
      have q := e1 F G k
      rw [eqC_2 k, if_neg hC] at q
      exact q
    · intro F G k
      have q := e2 F G k
      rw [k, if_neg (hno hC)] at q
      exact q
theorem oks_one {h k : Int} (hR : Rel (hyb Fc Fm)) (hh : rg h) (hk : rg k) : OkS x Fc Fm k_G_one k_M_one [.int (jI h), .int (jI k)] := by
  have hw := WI_of hR
  obtain ⟨v0, v22, v25, vg⟩ := cond_g hR
  have e1 : ∀ (F G : Nat → Fn), eqC Fc F → m_M x k_G_one [.ref 0, .int (jI h), .int (jI k)] (mk F G) = if Fc 2 0 < 7 ∧ 1 ≤ h ∧ h ≤ 9 ∧ 0 ≤ k ∧ k ≤ 9999 then some (some (.int (jI (Fc 2 0))), mk (sA F 2 (wTell (Fc 2) h k)) G) else some (some (.int (jI (-1))), mk F G) := by
    intro F G e
    have q := C_tellOne x F G (w := 1) (h := h) (k := k) (Or.inl rfl) (by rw [eqC_2 e]; exact hw) hh hk
    simp only [Nat.reduceAdd, eqC_2 e] at q
    rw [E_G_one]
    simp only [isO_0, fR_0_0, fR_0_1, fR_0_2, fR_0_3, fR_0_4, fR_0_5, fR_0_6, fR_0_7, fR_0_8, fR_0_9, fR_0_10, fR_0_11, fR_0_12, b_I, b_L, b_V, b_R, b_N, b_N0, Option.bind_some, ↓reduceIte, bq0, bq1, bz0, bz1, ite_not, Classical.not_not, q]
    split <;> rfl
  have e2 : ∀ (F G : Nat → Fn), F 150 = Fm 150 → _ := fun F G e => M_one x F G (h := h) (k := k) (by rw [e]; exact WV_of hR) hh hk
  by_cases hC : Fc 2 0 < 7 ∧ 1 ≤ h ∧ h ≤ 9 ∧ 0 ≤ k ∧ k ≤ 9999
  · have hrs := RS_one hs13 (by omega) hR.1 (h := h) (k := k) (by rw [hyb_lo Fc Fm (by omega)]; exact hC.1) hC.2.1 hC.2.2.1 hC.2.2.2.1 hC.2.2.2.2
    have wv := WI_c (WV_of hR)
    rw [hyb_hi Fc Fm (b := 150) (by omega), hyb_lo Fc Fm (b := 1 + 1) (by omega), hyb_sA _ _ _ (by omega)] at hrs
    generalize hb : u (u (u (u (u (Fm 150) (112 + V (Fm 150) 0) h) (119 + V (Fm 150) 0) k) (13 + V (Fm 150) 0) k) (20 + V (Fm 150) 0) 0) 0 (V (Fm 150) 0 + 1) = b at hrs
    refine ⟨jI (Fc 2 0), sA Fc 2 (wTell (Fc 2) h k), sA Fm 150 b, ?_, ?_, ?_, sA_ne _ _ (by omega), fun b h0 h1 => sA_ne _ _ (by omega), VR_i (by have := WI_c hw; omega) (by omega)⟩
    · intro F G e _
      have q := e1 F G e
      rw [if_pos hC] at q
      refine ⟨_, q, ?_, fun b hb => sA_ne _ _ (by omega)⟩
      intro b hb
      by_cases q2 : b = 2
      · rw [q2, sA_eq, sA_eq]
      · rw [sA_ne _ _ q2, sA_ne _ _ q2]
        exact e b hb
    · intro F G e _
      have e150 := e 150 (by omega) (by omega)
      have q := e2 F G e150
      rw [e150, if_pos (by rw [v0]; exact hC), hb, v0] at q
      exact ⟨_, G, q, s150_eq e b, s150_lo b⟩
    · have eo : ∀ d, 36 ≤ d → ¬ d = 150 → hyb (sA Fc 2 (wTell (Fc 2) h k)) (sA Fm 150 b) d = hyb Fc Fm d := by
        intro d h0 h1
        unfold hyb
        rw [sA_ne _ _ (by omega), sA_ne _ _ h1]
      have e50 : hyb (sA Fc 2 (wTell (Fc 2) h k)) (sA Fm 150 b) 150 = b := by rw [hyb_hi _ _ (by omega), sA_eq]
      refine Rel_live hR (fun d hd => eo d (by omega) (by omega)) ?_ ?_ ?_
      · refine RD_cg ?_ ?_ (eo _ (by omega) (by omega)) (eo _ (by omega) (by omega)) hR.2.2.2.2.1
        · rw [eo 128 (by omega) (by omega)]; exact ⟨rfl, rfl, rfl⟩
        · rw [eo 149 (by omega) (by omega)]; exact ⟨rfl, rfl, rfl, rfl⟩
      · rw [e50]
        exact RS_ob (by rw [hyb_lo _ _ (by omega), hyb_lo _ _ (by omega)]) (by rw [hyb_lo _ _ (by omega), hyb_lo _ _ (by omega)]) (fun i hi => by rw [hyb_lo _ _ (by omega), hyb_lo _ _ (by omega)]) hrs
      · intro j hj
        rw [e50, hyb_hi _ _ (by omega), ← hb, u_ne _ _ (by omega), u_ne _ _ (by omega), u_ne _ _ (by omega), u_ne _ _ (by omega), u_ne _ _ (by omega)]
  · refine ⟨jI (-1), Fc, Fm, ?_, ?_, hR, rfl, fun _ _ _ => rfl, VR_i (by omega) (by omega)⟩
    · intro F G e _
      have q := e1 F G e
      rw [if_neg hC] at q
      exact ⟨F, q, e, fun _ _ => rfl⟩
    · intro F G e _
      have e150 := e 150 (by omega) (by omega)
      have q := e2 F G e150
      rw [e150, if_neg (by rw [v0]; exact hC)] at q
      exact ⟨F, G, q, e, fun _ _ => rfl⟩
end
