-- reading: what each part of a sum promises, and rows of like parts
def cod (t : Int) (F : Nat → Fn) : Fn := fun j => F 152 (753 * t + 145 + j)
def MX (b : Bool) (s : Int) (T : Fn) (i j : Int) (f : LEnv) : Prop := if b = true then MB s T i j f else MCo s T i j f
def Mfl (x : m_X) (d : Option Value) (F0 F G : Nat → Fn) (t w c pl : Int) : Prop := ∃ F2 G2, LH x d F G = some (some (.int (jI c)), mk F2 G2) ∧ aqM t w F0 F2 ∧ F2 149 8 = pl
def Mgo (x : m_X) (L : Int) (b cv : Bool) (d : Option Value) (F0 F G : Nat → Fn) (T : Fn) (n t s p : Int) (Q : List Int) (op w p' : Int) (f : LEnv) : Prop := ∃ F2 G2 F3 d2 w3, m_nl d2 = true ∧ LH x d F G = LH x d2 F2 G2 ∧ Beh x L F2 G2 F3 T n t s p' Q op w3 cv ∧ aqM t w F0 F2 ∧ aqM t w F0 F3 ∧ w < w3 ∧ w3 - w ≤ p' - p ∧ MX b s (cod t F3) w w3 f
def Mok (x : m_X) (L : Int) (b : Bool) (cv : List Int → Bool) (ctx : Int → List Int → Prop) (bn : Nat) (T : Fn) (n t s p op : Int) (r : (Int × Int) ⊕ (Int × LEnv)) : Prop := ∀ F G d Q w, m_nl d = true → STa F G T n t s p Q op w 0 → okQ Q → ctx (kd T n p) Q → Q.length ≤ 6 * op.toNat + bn → 0 ≤ w → w ≤ p → Sum.elim (fun e => Mfl x d F F G t w e.1 e.2) (fun q => Mgo x L b (cv Q) d F F G T n t s p Q op w q.1 q.2) r
def top4 (m : Int) (Q : List Int) : Prop := ∀ o R, Q = o :: R → rk o ≤ m ∧ ¬ o = 41
def ctxA (m : Int) : Int → List Int → Prop := fun k Q => (k = 36 → ¬ aa Q = true) ∧ top4 m Q
def bop (o : Int) : Int := if o = 21 then 35 else if o = 22 then 34 else mo o
theorem MX_loc {b : Bool} {s : Int} {T1 T2 : Fn} {i j : Int} {f : LEnv} (he : ∀ z, 2 * i ≤ z → z < 2 * j → T2 z = T1 z) (h : MX b s T1 i j f) : MX b s T2 i j f := by
  unfold MX at *
  cases b with
  | true => exact MB_loc he h
  | false => exact MC_loc he h
theorem MX_bin {b : Bool} {s : Int} {T : Fn} {i k j o : Int} {f g : LEnv} (h1 : MX b s T i k f) (h2 : MX b s T k j g) (h0 : 0 ≤ i) (hf : bdE f) (hg : bdE g) (ho : (b = false ∧ 6 ≤ o ∧ o ≤ 9) ∨ (b = true ∧ (o = 21 ∨ o = 22))) (hT : T (2 * j) = o) : MX b s T i (j + 1) (fun nm lf => cbin (bop o) (f nm lf) (g nm lf)) := by
  unfold MX at *
  cases b with
  | true =>
    have ho' : o = 21 ∨ o = 22 := by simpa using ho
    have hh := MB_two (dd := bop o) h1 h2 h0 (by
      rcases ho' with e | e
      · exact Or.inl ⟨by rw [hT, e], by rw [e]; rfl⟩
      · exact Or.inr ⟨by rw [hT, e], by rw [e]; rfl⟩)
    exact hh
  | false =>
    have ho' : 6 ≤ o ∧ o ≤ 9 := by simpa using ho
    have e : bop o = mo o := by unfold bop; rw [if_neg (by omega), if_neg (by omega)]
    rw [e]
    exact MC_bin h1 h2 h0 hf hg (by omega) hT
theorem cod_ag {t w : Int} {F F2 : Nat → Fn} (h : aqM t w F F2) : ∀ z, z < 2 * w → cod t F2 z = cod t F z := by
  intro z hz
  unfold cod
  exact h.2.2 _ (by omega)
section
variable (x : m_X)
/-- one more part behind a joining word -/
theorem LM_next {L Ls : Int} {b : Bool} {cv : List Int → Bool} {ctx : Int → List Int → Prop} {bn : Nat} {T : Fn} {n t s p p1 op w w3 o : Int} {F0 F G F3 : Nat → Fn} {d : Option Value} {Q : List Int} {f1 : LEnv} {r : (Int × Int) ⊕ (Int × LEnv)} {cq0 : Bool} (hB : BY T n) (hn : 0 ≤ n ∧ n ≤ 300) (ht : 0 ≤ t ∧ t ≤ 3) (hop : 0 ≤ op ∧ op ≤ 8) (hd : m_nl d = true) (hb : Beh x L F G F3 T n t s p1 Q op w3 cq0) (hbt : ∀ R, oN R = oN Q → cq R = cq0 → btw (kd T n p1) R = o) (ho : 6 ≤ o ∧ o ≤ 22) (hro : ¬ rk o = 4) (hL : rk o = L) (hLs : L ≤ Ls) (hrk : ¬ rk o = 7 ∧ ¬ o = 20) (htop : ∀ z R, Q = z :: R → rk z < L) (hQ : Q.length + 1 ≤ 6 * op.toNat + bn) (hbn : bn ≤ 5) (hctx : ctx (kd T n (nxp T n p1)) (o :: Q)) (p0 : 0 ≤ p) (hp1 : p1 < n) (hw0 : 0 ≤ w) (hw1 : w < w3) (hw2 : w3 - w ≤ p1 - p) (hw3 : w ≤ p) (ha1 : aqM t w F0 F) (ha3 : aqM t w F0 F3) (hm : MX b s (cod t F3) w w3 f1) (hf1 : bdE f1) (hbo : (b = false ∧ 6 ≤ o ∧ o ≤ 9) ∨ (b = true ∧ (o = 21 ∨ o = 22))) (hs : Mok x Ls b cv ctx bn T n t s (nxp T n p1) op r) (hcv : cv (o :: Q) = cq0) (hr : ∀ q, r = .inr q → (nxp T n p1 < q.1 ∧ q.1 ≤ n) ∧ bdE q.2) : Sum.elim (fun e => Mfl x d F0 F G t w e.1 e.2) (fun q => Mgo x L b cq0 d F0 F G T n t s p Q op w q.1 (fun nm lf => cbin (bop o) (f1 nm lf) (q.2 nm lf))) r := by
  have hb' := hb
  obtain ⟨O, op2, w2, h1, h2, h3, h4, h5, h6, h7⟩ := hb'
  have hp0 := h7.1.2.2.1
  have nx := nxp_r (T := T) (n := n) (p := p1) hp0.1 hp0.2
  have okq : okQ Q := fun z hz => h2 z (List.mem_append_right _ hz)
  have lq : Q.length ≤ 100 := by simp only [List.length_append] at h3; omega
  have rr := rk_r (o := o)
  have ao := hbt (O ++ Q) h4 h5
  have L1 : 1 ≤ L := by
    have : ∀ v : Fin 23, 6 ≤ v.val → 1 ≤ rk (v.val : Int) := by decide +kernel
    have := this ⟨o.toNat, by omega⟩ (by show 6 ≤ o.toNat; omega)
    have e : ((o.toNat : Nat) : Int) = o := by omega
    simp only [e] at this
    omega
  have sst := M_stop x F3 G (l := L) h7 okq (by omega) htop (by omega)
  obtain ⟨F4, G4, y1, y2, y3⟩ := BH_op x F G (l := L) hB hd h1 h2 (by omega) ao ho (by rw [if_neg hro, hL]) (by rw [h6 L L1 (Int.le_refl _)]; exact sst) h7 (by omega)
  have hs' := hs F4 G4 (some (.int (jI 0))) (o :: Q) w3 rfl y2 (okQ_i (by omega) okq) hctx (by simp only [List.length_cons]; omega) (by omega) (by omega)
  have a4 : aqM t w F0 F4 := aqM_tr ha3 y3 (by omega)
  cases r with
  | inl e =>
    obtain ⟨F5, G5, z1, z2, z3⟩ := hs'
    exact ⟨F5, G5, by rw [y1]; exact z1, aqM_tr a4 z2 (by omega), z3⟩
  | inr q =>
    obtain ⟨F5, G5, F6, d5, w5, z0, z1, z2, z3, z4, z5, z6, z7⟩ := hs'
    obtain ⟨hq1, hq2⟩ := hr q rfl
    rw [hcv] at z2
    obtain ⟨F7, k1, k2, k3⟩ := Beh_pop (L2 := L) z2 (by omega) hLs (by omega) ht (by omega) (by omega)
    rw [if_neg (by omega)] at k1
    have a6 : aqM t w3 F3 F6 := aqM_tr y3 z4 (Int.le_refl _)
    have a7 : aqM t w3 F3 F7 := aqM_tr a6 k2 (by omega)
    refine ⟨F5, G5, F7, d5, w5 + 1, z0, by rw [y1]; exact z1, k1, aqM_tr a4 z3 (by omega), aqM_tr ha3 a7 (by omega), by omega, by omega, ?_⟩
    refine MX_bin (o := o) (MX_loc (fun z _ hz => cod_ag a7 z (by omega)) hm) (MX_loc (fun z _ hz => cod_ag k2 z hz) z7) hw0 hf1 hq2 hbo ?_
    show F7 152 (753 * t + 145 + 2 * w5) = o
    exact k3
end
