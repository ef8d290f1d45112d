-- texts, what is told, the tape: the whole relation
def clip (z : Int) : Int := if 1000000 < z then 1000000 else if z < -1000000 then -1000000 else z
abbrev bd (z : Int) : Prop := -1000000 ≤ z ∧ z ≤ 1000000
def cmpI (d l r : Int) : Bool := if d = 37 then decide (l < r) else if d = 48 then decide (l ≤ r) else if d = 38 then decide (r < l) else if d = 49 then decide (r ≤ l) else if d = 39 then decide (l = r) else decide (¬ l = r)
/-- what the class's deed d makes of two numbers -/
def cbin (d l r : Int) : Int := if d = 41 then clip (l + r) else if d = 42 then clip (l - r) else if d = 43 then clip (l * r) else if d = 44 then (if r = 0 then 0 else l.tdiv r) else if d = 27 then ((Int.gcd l r : Nat) : Int) else if d = 34 then (if l = 0 ∧ r = 0 then 0 else 1) else if d = 35 then (if l = 0 ∨ r = 0 then 0 else 1) else if cmpI d l r then 1 else 0
abbrev isBin (d : Int) : Prop := d = 27 ∨ (37 ≤ d ∧ d ≤ 44) ∨ d = 48 ∨ d = 49
abbrev nmok (s t : Int) : Prop := t = 11 ∨ t = 12 ∨ (s ≤ 1 ∧ 13 ≤ t ∧ t ≤ 18) ∨ (2 ≤ s ∧ 19 ≤ t ∧ t ≤ 24)
/-- one step of the class's reckoning -/
def CS (s0 : Int) (code nm lf : Fn) (i : Int) (st : List Int) (i1 : Int) (st1 : List Int) : Prop :=
  (0 ≤ code i ∧ code i ≤ 9999 ∧ i1 = i + 1 ∧ st1 = code i :: st)
  ∨ (∃ d, 11 ≤ d ∧ d ≤ 24 ∧ nmok s0 d ∧ code i = -1 - d ∧ i1 = i + 1 ∧ st1 = nm d :: st)
  ∨ (code i = -32 ∧ ∃ v s, st = v :: s ∧ (v = 0 ∨ v = 1) ∧ st1 = s ∧ i1 = (if v = 0 then code (i + 1) else i + 2) ∧ i + 2 ≤ code (i + 1) ∧ code (i + 1) ≤ 300)
  ∨ (code i = -33 ∧ st1 = st ∧ i1 = code (i + 1) ∧ i + 2 ≤ code (i + 1) ∧ code (i + 1) ≤ 300)
  ∨ (code i = -37 ∧ i1 = i + 1 ∧ ∃ v s, st = v :: s ∧ (v = 0 ∨ v = 1) ∧ st1 = (1 - v) :: s)
  ∨ (code i = -51 ∧ i1 = i + 1 ∧ ∃ v s, st = v :: s ∧ st1 = (-v) :: s)
  ∨ (code i = -30 ∧ i1 = i + 1 ∧ ∃ v s, st = v :: s ∧ st1 = lf v :: s)
  ∨ (∃ d r l s, code i = -1 - d ∧ (isBin d ∨ ((d = 34 ∨ d = 35) ∧ (l = 0 ∨ l = 1) ∧ (r = 0 ∨ r = 1))) ∧ i1 = i + 1 ∧ st = r :: l :: s ∧ st1 = cbin d l r :: s)
def CR (s0 : Int) (code nm lf : Fn) : Nat → Int → List Int → Int → List Int → Prop
  | 0, i, st, j, st' => i = j ∧ st = st'
  | n + 1, i, st, j, st' => i < j ∧ st.length ≤ 63 ∧ (∀ v ∈ st, bd v) ∧ ∃ i1 st1, CS s0 code nm lf i st i1 st1 ∧ i < i1 ∧ CR s0 code nm lf n i1 st1 j st'
abbrev LEnv : Type := Fn → Fn → Int
abbrev okE (nm lf : Fn) : Prop := (∀ k, bd (nm k)) ∧ (∀ k, 0 ≤ lf k ∧ lf k ≤ 12)
/-- the class's cells i .. j - 1 put f above the numbers that lie there, with d more places at most -/
def CC (s0 : Int) (code : Fn) (i j : Int) (f : LEnv) (d : Nat) : Prop := ∀ nm lf, okE nm lf → ∀ st : List Int, st.length + d ≤ 64 → (∀ v ∈ st, bd v) → ∃ n, CR s0 code nm lf n i st j (f nm lf :: st)
/-- the class's deed of the model's -/
def mo (o : Int) : Int := if o = 4 then 27 else if o = 6 then 41 else if o = 7 then 42 else if o = 8 then 43 else if o = 9 then 44 else if o = 10 then 37 else if o = 11 then 48 else if o = 12 then 38 else if o = 13 then 49 else if o = 14 then 39 else 40
/-- one step of the model's reckoning -/
def MS (s : Int) (T nm lf : Fn) (i : Int) (vs : List Int) (ts : List Bool) (vs1 : List Int) (ts1 : List Bool) : Prop :=
  (T (2 * i) = 0 ∧ 0 ≤ T (2 * i + 1) ∧ T (2 * i + 1) ≤ 9999 ∧ vs1 = T (2 * i + 1) :: vs ∧ ts1 = ts)
  ∨ (T (2 * i) = 1 ∧ 0 ≤ T (2 * i + 1) ∧ T (2 * i + 1) ≤ 13 ∧ nmok s (11 + T (2 * i + 1)) ∧ vs1 = nm (11 + T (2 * i + 1)) :: vs ∧ ts1 = ts)
  ∨ (T (2 * i) = 3 ∧ ∃ b a v t t', vs = b :: a :: v ∧ ts = t :: t' ∧ vs1 = (if t then a else b) :: v ∧ ts1 = t')
  ∨ (T (2 * i) = 5 ∧ ∃ a v, vs = a :: v ∧ vs1 = (-a) :: v ∧ ts1 = ts)
  ∨ (T (2 * i) = 2 ∧ ∃ a v, vs = a :: v ∧ vs1 = lf a :: v ∧ ts1 = ts)
  ∨ ((T (2 * i) = 4 ∨ (6 ≤ T (2 * i) ∧ T (2 * i) ≤ 9)) ∧ ∃ b a v, vs = b :: a :: v ∧ vs1 = cbin (mo (T (2 * i))) a b :: v ∧ ts1 = ts)
  ∨ ((10 ≤ T (2 * i) ∧ T (2 * i) ≤ 15) ∧ ∃ b a v, vs = b :: a :: v ∧ vs1 = v ∧ ts1 = cmpI (mo (T (2 * i))) a b :: ts)
  ∨ (T (2 * i) = 20 ∧ vs1 = vs ∧ ∃ t t', ts = t :: t' ∧ ts1 = (!t) :: t')
  ∨ (T (2 * i) = 21 ∧ vs1 = vs ∧ ∃ t2 t1 t', ts = t2 :: t1 :: t' ∧ ts1 = (t1 && t2) :: t')
  ∨ (T (2 * i) = 22 ∧ vs1 = vs ∧ ∃ t2 t1 t', ts = t2 :: t1 :: t' ∧ ts1 = (t1 || t2) :: t')
def MR (s : Int) (T nm lf : Fn) : Nat → Int → List Int → List Bool → Int → List Int → List Bool → Prop
  | 0, i, vs, ts, j, vs', ts' => i = j ∧ vs = vs' ∧ ts = ts'
  | n + 1, i, vs, ts, j, vs', ts' => i < j ∧ (vs.length : Int) ≤ i ∧ (ts.length : Int) ≤ i ∧ (∀ v ∈ vs, bd v) ∧ ∃ vs1 ts1, MS s T nm lf i vs ts vs1 ts1 ∧ MR s T nm lf n (i + 1) vs1 ts1 j vs' ts'
def MCo (s : Int) (T : Fn) (i j : Int) (f : LEnv) : Prop := ∀ nm lf, okE nm lf → ∀ (vs : List Int) (ts : List Bool), (vs.length : Int) ≤ i → (ts.length : Int) ≤ i → (∀ v ∈ vs, bd v) → ∃ n, MR s T nm lf n i vs ts j (f nm lf :: vs) ts
/-- how many numbers a deed has -/
def cnt (k : Int) : Int := if k = 4 then 2 else if k = 5 then 5 else if k = 6 then 2 else if k = 7 then 2 else 1
def LW (F : Nat → Fn) (t : Nat) (s k : Int) : Prop := ∃ f : LEnv, (∀ nm lf, okE nm lf → bd (f nm lf)) ∧ CC s (F (104 + 6 * t + 4)) (F (104 + 6 * t + 2) k) (F (104 + 6 * t + 3) k) f 50 ∧ MCo s (fun j => F 152 (753 * t + 145 + j)) (F 152 (753 * t + 1 + 6 * k + 1)) (F 152 (753 * t + 1 + 6 * k + 2)) f ∧ 0 ≤ F 152 (753 * t + 1 + 6 * k + 1) ∧ F 152 (753 * t + 1 + 6 * k + 2) ≤ 304
def TX (F : Nat → Fn) (t : Nat) : Prop :=
  (0 ≤ F (104 + 6 * t) 5 ∧ F (104 + 6 * t) 5 ≤ 24 ∧ F 152 (753 * t) = F (104 + 6 * t) 5)
  ∧ (∀ k, 0 ≤ k → k < F (104 + 6 * t) 5 → 0 ≤ F (104 + 6 * t + 1) k ∧ F (104 + 6 * t + 1) k ≤ 11 ∧ F 152 (753 * t + 1 + 6 * k) = F (104 + 6 * t + 1) k ∧ 0 ≤ F (104 + 6 * t + 2) k ∧ F (104 + 6 * t + 2) k ≤ F (104 + 6 * t + 3) k ∧ F (104 + 6 * t + 3) k ≤ 300)
  ∧ (∀ k, 0 ≤ k → k < F (104 + 6 * t) 5 → 4 ≤ F (104 + 6 * t + 1) k → ∀ j, 0 ≤ j → j < cnt (F (104 + 6 * t + 1) k) → F (104 + 6 * t + 2) k + j < F (104 + 6 * t + 3) k ∧ F (104 + 6 * t + 4) (F (104 + 6 * t + 2) k + j) = F 152 (753 * t + 1 + 6 * k + 1 + j) ∧ 0 ≤ F 152 (753 * t + 1 + 6 * k + 1 + j) ∧ F 152 (753 * t + 1 + 6 * k + 1 + j) ≤ 9999)
  ∧ (∀ s, 0 ≤ s → s ≤ 3 → (F (104 + 6 * t + 5) s = -1 ∧ ∀ k, 0 ≤ k → k < F (104 + 6 * t) 5 → ¬ F (104 + 6 * t + 1) k = s) ∨ (0 ≤ F (104 + 6 * t + 5) s ∧ F (104 + 6 * t + 5) s < F (104 + 6 * t) 5 ∧ F (104 + 6 * t + 1) (F (104 + 6 * t + 5) s) = s ∧ (∀ k, 0 ≤ k → k < F (104 + 6 * t + 5) s → ¬ F (104 + 6 * t + 1) k = s) ∧ LW F t s (F (104 + 6 * t + 5) s)))
def RT0 (F : Nat → Fn) (t : Nat) (a : Fn) : Prop := a 1 = F t 7 ∧ 0 ≤ F t 7 ∧ F t 7 ≤ 4 ∧ a 2 = F t 8 ∧ -1 ≤ F t 8 ∧ F t 8 < F t 7
def RT1 (F : Nat → Fn) (t : Nat) (a : Fn) : Prop := ∀ g, 0 ≤ g → g < 12 → F (t + 2) g = a (168 + g) ∧ 0 ≤ a (168 + g) ∧ a (168 + g) ≤ 9
def RT2 (F : Nat → Fn) (t : Nat) (a : Fn) : Prop := a 4 = F (t + 3) 1 ∧ 0 ≤ F (t + 3) 1 ∧ F (t + 3) 1 ≤ 8 ∧ ∀ i, 0 ≤ i → i < F (t + 3) 1 → F (t + 4) i = a (126 + i) ∧ 0 ≤ a (126 + i) ∧ a (126 + i) ≤ 127
def RT3 (F : Nat → Fn) (t : Nat) (a : Fn) : Prop := a 5 = F (t + 5) 1 ∧ 0 ≤ F (t + 5) 1 ∧ F (t + 5) 1 ≤ 6 ∧ ∀ i, 0 ≤ i → i < F (t + 5) 1 → F (t + 6) i = a (134 + i) ∧ 0 ≤ a (134 + i) ∧ a (134 + i) ≤ 9999
def RT4 (F : Nat → Fn) (t : Nat) (a : Fn) : Prop := a 6 = F (t + 7) 1 ∧ F (t + 9) 1 = F (t + 7) 1 ∧ 0 ≤ F (t + 7) 1 ∧ F (t + 7) 1 ≤ 6 ∧ ∀ i, 0 ≤ i → i < F (t + 7) 1 → F (t + 8) i = a (140 + 2 * i) ∧ F (t + 10) i = a (140 + 2 * i + 1) ∧ 1 ≤ a (140 + 2 * i) ∧ a (140 + 2 * i) ≤ 9 ∧ 0 ≤ a (140 + 2 * i + 1) ∧ a (140 + 2 * i + 1) ≤ 8
def RT5 (F : Nat → Fn) (t : Nat) (a : Fn) : Prop := a 7 = F (t + 11) 1 ∧ F (t + 13) 1 = F (t + 11) 1 ∧ 0 ≤ F (t + 11) 1 ∧ F (t + 11) 1 ≤ 8 ∧ ∀ i, 0 ≤ i → i < F (t + 11) 1 → F (t + 12) i = a (152 + 2 * i) ∧ F (t + 14) i = a (152 + 2 * i + 1) ∧ 0 ≤ a (152 + 2 * i) ∧ a (152 + 2 * i) ≤ 11 ∧ 0 ≤ a (152 + 2 * i + 1) ∧ a (152 + 2 * i + 1) ≤ 9
def RT (F : Nat → Fn) (t : Nat) (a : Fn) : Prop := RT0 F t a ∧ RT1 F t a ∧ RT2 F t a ∧ RT3 F t a ∧ RT4 F t a ∧ RT5 F t a
theorem RT0_cg {F F' : Nat → Fn} {t t' : Nat} {a b : Fn} (h1 : F' t' 7 = F t 7) (h2 : F' t' 8 = F t 8) (h3 : b 1 = a 1) (h4 : b 2 = a 2) (h : RT0 F t a) : RT0 F' t' b := by
  unfold RT0
  rw [h1, h2, h3, h4]
  exact h
theorem RT1_cg {F F' : Nat → Fn} {t t' : Nat} {a b : Fn} (h1 : ∀ g, 0 ≤ g → g < 12 → F' (t' + 2) g = F (t + 2) g) (h2 : ∀ k, 168 ≤ k → k < 180 → b k = a k) (h : RT1 F t a) : RT1 F' t' b := by
  intro g g0 g1
  rw [h1 g g0 g1, h2 _ (by omega) (by omega)]
  exact h g g0 g1
theorem RT2_cg {F F' : Nat → Fn} {t t' : Nat} {a b : Fn} (h0 : F' (t' + 3) 1 = F (t + 3) 1) (h1 : ∀ g, 0 ≤ g → g < 8 → F' (t' + 4) g = F (t + 4) g) (h2 : b 4 = a 4) (h3 : ∀ k, 126 ≤ k → k < 134 → b k = a k) (h : RT2 F t a) : RT2 F' t' b := by
  unfold RT2
  rw [h0, h2]
  refine ⟨h.1, h.2.1, h.2.2.1, ?_⟩
  intro i i0 i1
  have q := h.2.2.1
  rw [h1 i i0 (by omega), h3 _ (by omega) (by omega)]
  exact h.2.2.2 i i0 i1
theorem RT3_cg {F F' : Nat → Fn} {t t' : Nat} {a b : Fn} (h0 : F' (t' + 5) 1 = F (t + 5) 1) (h1 : ∀ g, 0 ≤ g → g < 6 → F' (t' + 6) g = F (t + 6) g) (h2 : b 5 = a 5) (h3 : ∀ k, 134 ≤ k → k < 140 → b k = a k) (h : RT3 F t a) : RT3 F' t' b := by
  unfold RT3
  rw [h0, h2]
  refine ⟨h.1, h.2.1, h.2.2.1, ?_⟩
  intro i i0 i1
  have q := h.2.2.1
  rw [h1 i i0 (by omega), h3 _ (by omega) (by omega)]
  exact h.2.2.2 i i0 i1
theorem RT4_cg {F F' : Nat → Fn} {t t' : Nat} {a b : Fn} (h0 : F' (t' + 7) 1 = F (t + 7) 1) (h00 : F' (t' + 9) 1 = F (t + 9) 1) (h1 : ∀ g, 0 ≤ g → g < 6 → F' (t' + 8) g = F (t + 8) g ∧ F' (t' + 10) g = F (t + 10) g) (h2 : b 6 = a 6) (h3 : ∀ k, 140 ≤ k → k < 152 → b k = a k) (h : RT4 F t a) : RT4 F' t' b := by
  unfold RT4
  rw [h0, h00, h2]
  refine ⟨h.1, h.2.1, h.2.2.1, h.2.2.2.1, ?_⟩
  intro i i0 i1
  have q := h.2.2.2.1
  rw [(h1 i i0 (by omega)).1, (h1 i i0 (by omega)).2, h3 (140 + 2 * i) (by omega) (by omega), h3 (140 + 2 * i + 1) (by omega) (by omega)]
  exact h.2.2.2.2 i i0 i1
theorem RT5_cg {F F' : Nat → Fn} {t t' : Nat} {a b : Fn} (h0 : F' (t' + 11) 1 = F (t + 11) 1) (h00 : F' (t' + 13) 1 = F (t + 13) 1) (h1 : ∀ g, 0 ≤ g → g < 8 → F' (t' + 12) g = F (t + 12) g ∧ F' (t' + 14) g = F (t + 14) g) (h2 : b 7 = a 7) (h3 : ∀ k, 152 ≤ k → k < 168 → b k = a k) (h : RT5 F t a) : RT5 F' t' b := by
  unfold RT5
  rw [h0, h00, h2]
  refine ⟨h.1, h.2.1, h.2.2.1, h.2.2.2.1, ?_⟩
  intro i i0 i1
  have q := h.2.2.2.1
  rw [(h1 i i0 (by omega)).1, (h1 i i0 (by omega)).2, h3 (152 + 2 * i) (by omega) (by omega), h3 (152 + 2 * i + 1) (by omega) (by omega)]
  exact h.2.2.2.2 i i0 i1
theorem RT_ob {F F' : Nat → Fn} {t : Nat} {a b : Fn} (h1 : ∀ j, j < 15 → F' (t + j) = F (t + j)) (ha : ∀ k, (1 ≤ k ∧ k < 8 ∧ ¬ k = 3) ∨ (126 ≤ k ∧ k < 180) → b k = a k) (h : RT F t a) : RT F' t b := by
  obtain ⟨r0, r1, r2, r3, r4, r5⟩ := h
  have e0 : F' t = F t := h1 0 (by omega)
  refine ⟨RT0_cg (by rw [e0]) (by rw [e0]) (ha _ (by omega)) (ha _ (by omega)) r0, RT1_cg ?_ ?_ r1, RT2_cg (by rw [h1 3 (by omega)]) ?_ (ha _ (by omega)) ?_ r2, RT3_cg (by rw [h1 5 (by omega)]) ?_ (ha _ (by omega)) ?_ r3, RT4_cg (by rw [h1 7 (by omega)]) (by rw [h1 9 (by omega)]) ?_ (ha _ (by omega)) ?_ r4, RT5_cg (by rw [h1 11 (by omega)]) (by rw [h1 13 (by omega)]) ?_ (ha _ (by omega)) ?_ r5⟩
  · intro g _ _; rw [h1 2 (by omega)]
  · intro k _ _; exact ha k (by omega)
  · intro g _ _; rw [h1 4 (by omega)]
  · intro k _ _; exact ha k (by omega)
  · intro g _ _; rw [h1 6 (by omega)]
  · intro k _ _; exact ha k (by omega)
  · intro g _ _; rw [h1 8 (by omega), h1 10 (by omega)]; exact ⟨rfl, rfl⟩
  · intro k _ _; exact ha k (by omega)
  · intro g _ _; rw [h1 12 (by omega), h1 14 (by omega)]; exact ⟨rfl, rfl⟩
  · intro k _ _; exact ha k (by omega)
def RD (F : Nat → Fn) : Prop :=
  F 149 4 = F 128 2 ∧ 0 ≤ F 128 2 ∧ F 128 2 ≤ 300 ∧ F 149 5 = F 128 3 ∧ F 149 6 = F 128 4 ∧ rg (F 128 3) ∧ rg (F 128 4) ∧ F 149 23 = 1 ∧ ∀ i, 0 ≤ i → i < F 128 2 → F 153 i = F 135 i ∧ 0 ≤ F 135 i ∧ F 135 i ≤ 255
def Rel (F : Nat → Fn) : Prop := RS F 1 3 (F 150) ∧ RS F 51 53 (F 151) ∧ RT F 36 (F 150) ∧ RT F 86 (F 151) ∧ RD F ∧ F 86 7 ≤ F 36 7 ∧ ∀ t : Nat, (t : Int) < F 36 7 → TX F t
-- what a change elsewhere leaves alone
theorem rowC_sA {F : Nat → Fn} {w s b : Nat} {f : Fn} {i : Int} (h1 : ¬ b = s) (h2 : ¬ b = w + 1) (h3 : b < s + 2 ∨ s + 33 ≤ b) : rowC (sA F b f) w s i = rowC F w s i := by
  unfold rowC
  rw [sA_ne _ _ (fun q => h1 q.symm), sA_ne _ _ (fun q => h2 q.symm)]
  by_cases e : i = F s 2
  · rw [if_pos e, if_pos e]
  · rw [if_neg e, if_neg e, sA_ne _ _ (by omega)]
theorem RS_sA {F : Nat → Fn} {w s b : Nat} {f : Fn} {a : Fn} (h1 : ¬ b = s) (h2 : ¬ b = w + 1) (h3 : b < s + 2 ∨ s + 33 ≤ b) (h : RS F w s a) : RS (sA F b f) w s a := by
  refine RS_cg (F := F) (w := w) (s := s) ?_ ?_ rfl ?_ (fun _ _ => rfl) h
  · rw [sA_ne _ _ (fun q => h1 q.symm)]
  · rw [sA_ne _ _ (fun q => h1 q.symm)]
  · intro i _ _ k _ _
    rw [rowC_sA h1 h2 h3]
theorem RT_sA {F : Nat → Fn} {t b : Nat} {f : Fn} {a : Fn} (h1 : b < t ∨ t + 15 ≤ b) (h : RT F t a) : RT (sA F b f) t a :=
  RT_ob (fun j hj => sA_ne _ _ (by omega)) (fun _ _ => rfl) h
theorem RD_sA {F : Nat → Fn} {b : Nat} {f : Fn} (h1 : ¬ b = 128 ∧ ¬ b = 135 ∧ ¬ b = 149 ∧ ¬ b = 153) (h : RD F) : RD (sA F b f) := by
  unfold RD
  simp (disch := omega) only [sA_ne]
  exact h
theorem TX_cg {F F' : Nat → Fn} {t : Nat} (ht : t < 4) (h1 : ∀ b, 104 ≤ b → b < 128 → F' b = F b) (h2 : F' 152 = F 152) (h : TX F t) : TX F' t := by
  have e : ∀ j, j < 6 → F' (104 + 6 * t + j) = F (104 + 6 * t + j) := fun j hj => h1 _ (by omega) (by omega)
  have e0 : F' (104 + 6 * t) = F (104 + 6 * t) := e 0 (by omega)
  unfold TX LW
  rw [e 1 (by omega), e 2 (by omega), e 3 (by omega), e 4 (by omega), e 5 (by omega), e0, h2]
  exact h
theorem TX_sA {F : Nat → Fn} {t b : Nat} {f : Fn} (ht : t < 4) (h1 : (b < 104 ∨ 128 ≤ b) ∧ ¬ b = 152) (h : TX F t) : TX (sA F b f) t :=
  TX_cg ht (fun c h2 h3 => sA_ne _ _ (by omega)) (sA_ne _ _ (by omega)) h
/-- a change of a scratch object -/
theorem Rel_sA {F : Nat → Fn} {b : Nat} {f : Fn} (hb : (101 ≤ b ∧ b < 104) ∨ (129 ≤ b ∧ b < 149 ∧ ¬ b = 135) ∨ 154 ≤ b) (h : Rel F) : Rel (sA F b f) := by
  obtain ⟨h1, h2, h3, h4, h5, h6, h7⟩ := h
  have e1 : sA F b f 150 = F 150 := sA_ne _ _ (by omega)
  have e2 : sA F b f 151 = F 151 := sA_ne _ _ (by omega)
  have e3 : sA F b f 36 = F 36 := sA_ne _ _ (by omega)
  have e4 : sA F b f 86 = F 86 := sA_ne _ _ (by omega)
  have h36 := h3.1
  unfold RT0 at h36
  unfold Rel
  rw [e1, e2, e3, e4]
  refine ⟨RS_sA (by omega) (by omega) (by omega) h1, RS_sA (by omega) (by omega) (by omega) h2, RT_sA (by omega) h3, RT_sA (by omega) h4, RD_sA (by omega) h5, h6, ?_⟩
  intro t ht
  exact TX_sA (by omega) (by omega) (h7 t ht)
/-- a change of the model's scratch fields -/
theorem Rel_149 {F : Nat → Fn} {f : Fn} (hf : f 4 = F 149 4 ∧ f 5 = F 149 5 ∧ f 6 = F 149 6 ∧ f 23 = F 149 23) (h : Rel F) : Rel (sA F 149 f) := by
  obtain ⟨h1, h2, h3, h4, h5, h6, h7⟩ := h
  have e1 : sA F 149 f 150 = F 150 := sA_ne _ _ (by omega)
  have e2 : sA F 149 f 151 = F 151 := sA_ne _ _ (by omega)
  have e3 : sA F 149 f 36 = F 36 := sA_ne _ _ (by omega)
  have e4 : sA F 149 f 86 = F 86 := sA_ne _ _ (by omega)
  have h36 := h3.1
  unfold RT0 at h36
  unfold Rel
  rw [e1, e2, e3, e4]
  refine ⟨RS_sA (by omega) (by omega) (by omega) h1, RS_sA (by omega) (by omega) (by omega) h2, RT_sA (by omega) h3, RT_sA (by omega) h4, ?_, h6, ?_⟩
  · unfold RD
    rw [sA_eq, hf.1, hf.2.1, hf.2.2.1, hf.2.2.2]
    simp (disch := omega) only [sA_ne]
    exact h5
  · intro t ht
    exact TX_sA (by omega) (by omega) (h7 t ht)
