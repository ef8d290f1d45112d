-- pieces of code put together, the class's and the model's
def bdE (f : LEnv) : Prop := ∀ nm lf, okE nm lf → bd (f nm lf)
def b01 (f : LEnv) : Prop := ∀ nm lf, okE nm lf → f nm lf = 0 ∨ f nm lf = 1
theorem b01_bd {f : LEnv} (h : b01 f) : bdE f := by
  intro nm lf hk
  rcases h nm lf hk with e | e <;> rw [e] <;> unfold bd <;> omega
theorem CR_le {s0 : Int} {code nm lf : Fn} : ∀ (n : Nat) (i : Int) (st : List Int) (j : Int) (st' : List Int), CR s0 code nm lf n i st j st' → i ≤ j := by
  intro n
  cases n with
  | zero => intro i st j st' h; rw [CR] at h; omega
  | succ n => intro i st j st' h; rw [CR] at h; omega
theorem CR_app {s0 : Int} {code nm lf : Fn} : ∀ (n : Nat) (i : Int) (st : List Int) (k : Int) (st1 : List Int), CR s0 code nm lf n i st k st1 → ∀ (m : Nat) (j : Int) (st2 : List Int), k ≤ j → CR s0 code nm lf m k st1 j st2 → CR s0 code nm lf (n + m) i st j st2 := by
  intro n
  induction n with
  | zero =>
    intro i st k st1 h m j st2 hk h2
    rw [CR] at h
    rw [h.1, h.2, Nat.zero_add]
    exact h2
  | succ n ih =>
    intro i st k st1 h m j st2 hk h2
    rw [CR] at h
    obtain ⟨h0, h1, h3, i1, st0, h4, h5, h6⟩ := h
    have e : n + 1 + m = (n + m) + 1 := by omega
    rw [e, CR]
    exact ⟨by omega, h1, h3, i1, st0, h4, h5, ih i1 st0 k st1 h6 m j st2 hk h2⟩
theorem CR_loc {s0 : Int} {c1 c2 nm lf : Fn} : ∀ (n : Nat) (i : Int) (st : List Int) (j : Int) (st' : List Int), (∀ z, i ≤ z → z < j → c2 z = c1 z) → CR s0 c1 nm lf n i st j st' → CR s0 c2 nm lf n i st j st' := by
  intro n
  induction n with
  | zero => intro i st j st' _ h; exact h
  | succ n ih =>
    intro i st j st' he h
    rw [CR] at h ⊢
    obtain ⟨h0, h1, h3, i1, st0, h4, h5, h6⟩ := h
    have l := CR_le n i1 st0 j st' h6
    have e0 := he i (Int.le_refl _) h0
    refine ⟨h0, h1, h3, i1, st0, ?_, h5, ih i1 st0 j st' (fun z z0 z1 => he z (by omega) z1) h6⟩
    unfold CS at h4 ⊢
    rw [e0]
    rcases h4 with h4 | h4 | h4 | h4 | h4
    · exact Or.inl h4
    · exact Or.inr (Or.inl h4)
    · obtain ⟨g1, v, s, g2, g3, g4, g5, g6, g7⟩ := h4
      have e1 : c2 (i + 1) = c1 (i + 1) := by
        refine he (i + 1) (by omega) ?_
        by_cases q : v = 0
        · rw [if_pos q] at g5; omega
        · rw [if_neg q] at g5; omega
      refine Or.inr (Or.inr (Or.inl ⟨g1, v, s, g2, g3, g4, ?_, ?_, ?_⟩))
      · rw [e1]; exact g5
      · rw [e1]; exact g6
      · rw [e1]; exact g7
    · obtain ⟨g1, g2, g3, g4, g5⟩ := h4
      have e1 : c2 (i + 1) = c1 (i + 1) := he (i + 1) (by omega) (by omega)
      refine Or.inr (Or.inr (Or.inr (Or.inl ⟨g1, g2, ?_, ?_, ?_⟩)))
      · rw [e1]; exact g3
      · rw [e1]; exact g4
      · rw [e1]; exact g5
    · exact Or.inr (Or.inr (Or.inr (Or.inr h4)))
theorem CC_loc {s0 : Int} {c1 c2 : Fn} {i j : Int} {f : LEnv} {d : Nat} (he : ∀ z, i ≤ z → z < j → c2 z = c1 z) (h : CC s0 c1 i j f d) : CC s0 c2 i j f d := by
  intro nm lf hk st hl hb
  obtain ⟨n, hn⟩ := h nm lf hk st hl hb
  exact ⟨n, CR_loc n i st j _ he hn⟩
theorem CC_le {s0 : Int} {c : Fn} {i j : Int} {f : LEnv} {d e : Nat} (h : CC s0 c i j f d) (hd : d ≤ e) : CC s0 c i j f e := fun nm lf hk st hl hb => h nm lf hk st (by omega) hb
theorem okE_0 : okE (fun _ => 0) (fun _ => 0) := ⟨fun _ => by show (-1000000 : Int) ≤ 0 ∧ (0 : Int) ≤ 1000000; omega, fun _ => by show (0 : Int) ≤ 0 ∧ (0 : Int) ≤ 12; omega⟩
theorem CC_lt {s0 : Int} {c : Fn} {i j : Int} {f : LEnv} {d : Nat} (h : CC s0 c i j f d) (hd : d ≤ 64) : i < j := by
  obtain ⟨n, hn⟩ := h _ _ okE_0 [] (by simpa using hd) (by simp)
  cases n with
  | zero => rw [CR] at hn; simp at hn
  | succ n => rw [CR] at hn; exact hn.1
theorem CC_num {s0 : Int} {c : Fn} {i v : Int} {d : Nat} (hc : c i = v) (v0 : 0 ≤ v) (v1 : v ≤ 9999) (hd : 1 ≤ d) : CC s0 c i (i + 1) (fun _ _ => v) d := by
  intro nm lf hk st hl hb
  refine ⟨1, ?_⟩
  rw [CR]
  refine ⟨by omega, by omega, hb, i + 1, v :: st, ?_, by omega, ?_⟩
  · unfold CS
    left
    rw [hc]
    exact ⟨v0, v1, rfl, rfl⟩
  · rw [CR]; exact ⟨rfl, rfl⟩
theorem CC_name {s0 : Int} {c : Fn} {i k : Int} {d : Nat} (hc : c i = -1 - k) (k0 : 11 ≤ k) (k1 : k ≤ 24) (hn : nmok s0 k) (hd : 1 ≤ d) : CC s0 c i (i + 1) (fun nm _ => nm k) d := by
  intro nm lf hk st hl hb
  refine ⟨1, ?_⟩
  rw [CR]
  refine ⟨by omega, by omega, hb, i + 1, nm k :: st, ?_, by omega, ?_⟩
  · unfold CS
    exact Or.inr (Or.inl ⟨k, k0, k1, hn, hc, rfl, rfl⟩)
  · rw [CR]; exact ⟨rfl, rfl⟩
/-- one more step behind a piece -/
theorem CC_step {s0 : Int} {c : Fn} {i j : Int} {f g : LEnv} {d : Nat} (h : CC s0 c i j f d) (hd : 2 ≤ d) (hf : bdE f) (hs : ∀ nm lf, okE nm lf → ∀ st, CS s0 c nm lf j (f nm lf :: st) (j + 1) (g nm lf :: st)) : CC s0 c i (j + 1) g d := by
  intro nm lf hk st hl hb
  obtain ⟨n, hn⟩ := h nm lf hk st hl hb
  refine ⟨n + 1, CR_app n i st j _ hn 1 (j + 1) _ (by omega) ?_⟩
  rw [CR]
  refine ⟨by omega, by simp; omega, ?_, j + 1, g nm lf :: st, hs nm lf hk st, by omega, ?_⟩
  · intro v hv
    rcases List.mem_cons.1 hv with e | e
    · rw [e]; exact hf nm lf hk
    · exact hb v e
  · rw [CR]; exact ⟨rfl, rfl⟩
theorem CC_bin {s0 : Int} {c : Fn} {i k j dd : Int} {f g : LEnv} {d1 d2 : Nat} (h1 : CC s0 c i k f d1) (h2 : CC s0 c k j g d2) (hd : 2 ≤ d2) (hle : d1 ≤ d2 + 1) (hkj : k ≤ j) (hc : c j = -1 - dd) (hf : bdE f) (hg : bdE g) (hb : isBin dd ∨ ((dd = 34 ∨ dd = 35) ∧ b01 f ∧ b01 g)) : CC s0 c i (j + 1) (fun nm lf => cbin dd (f nm lf) (g nm lf)) (d2 + 1) := by
  intro nm lf hk st hl hb'
  have bf := hf nm lf hk
  have bg := hg nm lf hk
  obtain ⟨n1, r1⟩ := h1 nm lf hk st (by omega) hb'
  have hb2 : ∀ v ∈ f nm lf :: st, bd v := by
    intro v hv
    rcases List.mem_cons.1 hv with e | e
    · rw [e]; exact bf
    · exact hb' v e
  obtain ⟨n2, r2⟩ := h2 nm lf hk (f nm lf :: st) (by simp; omega) hb2
  have a := CR_app n1 i st k _ r1 n2 j _ hkj r2
  refine ⟨n1 + n2 + 1, CR_app (n1 + n2) i st j _ a 1 (j + 1) _ (by omega) ?_⟩
  rw [CR]
  refine ⟨by omega, by simp; omega, ?_, j + 1, cbin dd (f nm lf) (g nm lf) :: st, ?_, by omega, ?_⟩
  · intro v hv
    rcases List.mem_cons.1 hv with e | e
    · rw [e]; exact bg
    · exact hb2 v e
  · unfold CS
    refine Or.inr (Or.inr (Or.inr (Or.inr (Or.inr (Or.inr (Or.inr ⟨dd, g nm lf, f nm lf, st, hc, ?_, rfl, rfl, rfl⟩))))))
    rcases hb with hb | hb
    · exact Or.inl hb
    · exact Or.inr ⟨hb.1, hb.2.1 nm lf hk, hb.2.2 nm lf hk⟩
  · rw [CR]; exact ⟨rfl, rfl⟩
theorem CC_if {s0 : Int} {c : Fn} {i a b e : Int} {q f g : LEnv} {d : Nat} (h1 : CC s0 c i a q d) (h2 : CC s0 c (a + 2) b f d) (h3 : CC s0 c (b + 2) e g d) (hd : 2 ≤ d) (hq : b01 q) (hf : bdE f) (c1 : c a = -32) (c2 : c (a + 1) = b + 2) (c3 : c b = -33) (c4 : c (b + 1) = e) (l1 : a + 2 ≤ b) (l2 : b + 2 ≤ e) (l3 : e ≤ 300) : CC s0 c i e (fun nm lf => if q nm lf = 0 then g nm lf else f nm lf) d := by
  intro nm lf hk st hl hb
  obtain ⟨n1, r1⟩ := h1 nm lf hk st hl hb
  obtain ⟨n2, r2⟩ := h2 nm lf hk st hl hb
  obtain ⟨n3, r3⟩ := h3 nm lf hk st hl hb
  have q01 := hq nm lf hk
  have hb1 : ∀ v ∈ q nm lf :: st, bd v := by
    intro v hv
    rcases List.mem_cons.1 hv with e | e
    · rw [e]; exact b01_bd hq nm lf hk
    · exact hb v e
  have hb2 : ∀ v ∈ f nm lf :: st, bd v := by
    intro v hv
    rcases List.mem_cons.1 hv with e | e
    · rw [e]; exact hf nm lf hk
    · exact hb v e
  by_cases z : q nm lf = 0
  · simp only [if_pos z]
    refine ⟨n1 + (n3 + 1), CR_app n1 i st a _ r1 (n3 + 1) e _ (by omega) ?_⟩
    rw [CR]
    refine ⟨by omega, by simp; omega, hb1, b + 2, st, ?_, by omega, r3⟩
    unfold CS
    refine Or.inr (Or.inr (Or.inl ⟨c1, q nm lf, st, rfl, q01, rfl, ?_, by omega, by omega⟩))
    rw [if_pos z, c2]
  · simp only [if_neg z]
    refine ⟨n1 + ((n2 + 1) + 1), CR_app n1 i st a _ r1 ((n2 + 1) + 1) e _ (by omega) ?_⟩
    rw [CR]
    refine ⟨by omega, by simp; omega, hb1, a + 2, st, ?_, by omega, ?_⟩
    · unfold CS
      refine Or.inr (Or.inr (Or.inl ⟨c1, q nm lf, st, rfl, q01, rfl, ?_, by omega, by omega⟩))
      rw [if_neg z]
    · refine CR_app n2 (a + 2) st b _ r2 1 e _ (by omega) ?_
      rw [CR]
      refine ⟨by omega, by simp; omega, hb2, e, f nm lf :: st, ?_, by omega, ?_⟩
      · unfold CS
        exact Or.inr (Or.inr (Or.inr (Or.inl ⟨c3, rfl, c4.symm, by omega, by omega⟩)))
      · rw [CR]; exact ⟨rfl, rfl⟩
theorem MR_le {s : Int} {T nm lf : Fn} : ∀ (n : Nat) (i : Int) (vs : List Int) (ts : List Bool) (j : Int) (vs' : List Int) (ts' : List Bool), MR s T nm lf n i vs ts j vs' ts' → i ≤ j := by
  intro n
  cases n with
  | zero => intro i vs ts j vs' ts' h; rw [MR] at h; omega
  | succ n => intro i vs ts j vs' ts' h; rw [MR] at h; omega
theorem MR_app {s : Int} {T nm lf : Fn} : ∀ (n : Nat) (i : Int) (vs : List Int) (ts : List Bool) (k : Int) (vs1 : List Int) (ts1 : List Bool), MR s T nm lf n i vs ts k vs1 ts1 → ∀ (m : Nat) (j : Int) (vs2 : List Int) (ts2 : List Bool), k ≤ j → MR s T nm lf m k vs1 ts1 j vs2 ts2 → MR s T nm lf (n + m) i vs ts j vs2 ts2 := by
  intro n
  induction n with
  | zero =>
    intro i vs ts k vs1 ts1 h m j vs2 ts2 hk h2
    rw [MR] at h
    rw [h.1, h.2.1, h.2.2, Nat.zero_add]
    exact h2
  | succ n ih =>
    intro i vs ts k vs1 ts1 h m j vs2 ts2 hk h2
    rw [MR] at h
    obtain ⟨h0, h1, h2', h3, a, b, h4, h5⟩ := h
    have e : n + 1 + m = (n + m) + 1 := by omega
    rw [e, MR]
    exact ⟨by omega, h1, h2', h3, a, b, h4, ih (i + 1) a b k vs1 ts1 h5 m j vs2 ts2 hk h2⟩
theorem MR_loc {s : Int} {T1 T2 nm lf : Fn} : ∀ (n : Nat) (i : Int) (vs : List Int) (ts : List Bool) (j : Int) (vs' : List Int) (ts' : List Bool), (∀ z, 2 * i ≤ z → z < 2 * j → T2 z = T1 z) → MR s T1 nm lf n i vs ts j vs' ts' → MR s T2 nm lf n i vs ts j vs' ts' := by
  intro n
  induction n with
  | zero => intro i vs ts j vs' ts' _ h; exact h
  | succ n ih =>
    intro i vs ts j vs' ts' he h
    rw [MR] at h ⊢
    obtain ⟨h0, h1, h2, h3, a, b, h4, h5⟩ := h
    refine ⟨h0, h1, h2, h3, a, b, ?_, ih (i + 1) a b j vs' ts' (fun z z0 z1 => he z (by omega) z1) h5⟩
    unfold MS at h4 ⊢
    rw [he (2 * i) (by omega) (by omega), he (2 * i + 1) (by omega) (by omega)]
    exact h4
def MB (s : Int) (T : Fn) (i j : Int) (f : LEnv) : Prop := ∀ nm lf, okE nm lf → ∀ (vs : List Int) (ts : List Bool), (vs.length : Int) ≤ i → (ts.length : Int) ≤ i → (∀ v ∈ vs, bd v) → ∃ n, MR s T nm lf n i vs ts j vs (decide (¬ f nm lf = 0) :: ts)
theorem MC_loc {s : Int} {T1 T2 : Fn} {i j : Int} {f : LEnv} (he : ∀ z, 2 * i ≤ z → z < 2 * j → T2 z = T1 z) (h : MCo s T1 i j f) : MCo s T2 i j f := by
  intro nm lf hk vs ts h1 h2 h3
  obtain ⟨n, hn⟩ := h nm lf hk vs ts h1 h2 h3
  exact ⟨n, MR_loc n i vs ts j _ _ he hn⟩
theorem MB_loc {s : Int} {T1 T2 : Fn} {i j : Int} {f : LEnv} (he : ∀ z, 2 * i ≤ z → z < 2 * j → T2 z = T1 z) (h : MB s T1 i j f) : MB s T2 i j f := by
  intro nm lf hk vs ts h1 h2 h3
  obtain ⟨n, hn⟩ := h nm lf hk vs ts h1 h2 h3
  exact ⟨n, MR_loc n i vs ts j _ _ he hn⟩
theorem MC_lt {s : Int} {T : Fn} {i j : Int} {f : LEnv} (h : MCo s T i j f) (h0 : 0 ≤ i) : i < j := by
  obtain ⟨n, hn⟩ := h _ _ okE_0 [] [] (by simpa using h0) (by simpa using h0) (by simp)
  cases n with
  | zero => rw [MR] at hn; simp at hn
  | succ n => rw [MR] at hn; exact hn.1
theorem MB_lt {s : Int} {T : Fn} {i j : Int} {f : LEnv} (h : MB s T i j f) (h0 : 0 ≤ i) : i < j := by
  obtain ⟨n, hn⟩ := h _ _ okE_0 [] [] (by simpa using h0) (by simpa using h0) (by simp)
  cases n with
  | zero => rw [MR] at hn; simp at hn
  | succ n => rw [MR] at hn; exact hn.1
theorem MR_1 {s : Int} {T nm lf : Fn} {i : Int} {vs vs1 : List Int} {ts ts1 : List Bool} (h1 : (vs.length : Int) ≤ i) (h2 : (ts.length : Int) ≤ i) (h3 : ∀ v ∈ vs, bd v) (h : MS s T nm lf i vs ts vs1 ts1) : MR s T nm lf 1 i vs ts (i + 1) vs1 ts1 := by
  rw [MR]
  exact ⟨by omega, h1, h2, h3, vs1, ts1, h, by rw [MR]; exact ⟨rfl, rfl, rfl⟩⟩
theorem MC_num {s : Int} {T : Fn} {i v : Int} (c0 : T (2 * i) = 0) (c1 : T (2 * i + 1) = v) (v0 : 0 ≤ v) (v1 : v ≤ 9999) : MCo s T i (i + 1) (fun _ _ => v) := by
  intro nm lf hk vs ts h1 h2 h3
  refine ⟨1, MR_1 h1 h2 h3 ?_⟩
  unfold MS
  left
  rw [c1]
  exact ⟨c0, v0, v1, rfl, rfl⟩
theorem MC_name {s : Int} {T : Fn} {i k : Int} (c0 : T (2 * i) = 1) (c1 : T (2 * i + 1) = k) (k0 : 0 ≤ k) (k1 : k ≤ 13) (hn : nmok s (11 + k)) : MCo s T i (i + 1) (fun nm _ => nm (11 + k)) := by
  intro nm lf hk vs ts h1 h2 h3
  refine ⟨1, MR_1 h1 h2 h3 ?_⟩
  unfold MS
  refine Or.inr (Or.inl ?_)
  rw [c1]
  exact ⟨c0, k0, k1, hn, rfl, rfl⟩
theorem bd_cons {v : Int} {vs : List Int} (h : bd v) (h3 : ∀ w ∈ vs, bd w) : ∀ w ∈ v :: vs, bd w := by
  intro w hw
  rcases List.mem_cons.1 hw with e | e
  · rw [e]; exact h
  · exact h3 w e
theorem MC_un {s : Int} {T : Fn} {i j : Int} {f g : LEnv} (h : MCo s T i j f) (h0 : 0 ≤ i) (hf : bdE f) (hs : (T (2 * j) = 5 ∧ g = fun nm lf => -(f nm lf)) ∨ (T (2 * j) = 2 ∧ g = fun nm lf => lf (f nm lf))) : MCo s T i (j + 1) g := by
  have lt := MC_lt h h0
  intro nm lf hk vs ts h1 h2 h3
  obtain ⟨n, hn⟩ := h nm lf hk vs ts h1 h2 h3
  refine ⟨n + 1, MR_app n i vs ts j _ _ hn 1 (j + 1) _ _ (by omega) (MR_1 (by simp; omega) (by omega) (bd_cons (hf nm lf hk) h3) ?_)⟩
  unfold MS
  rcases hs with ⟨a, b⟩ | ⟨a, b⟩
  · rw [b]
    exact Or.inr (Or.inr (Or.inr (Or.inl ⟨a, _, _, rfl, rfl, rfl⟩)))
  · rw [b]
    exact Or.inr (Or.inr (Or.inr (Or.inr (Or.inl ⟨a, _, _, rfl, rfl, rfl⟩))))
theorem MC_bin {s : Int} {T : Fn} {i k j o : Int} {f g : LEnv} (h1 : MCo s T i k f) (h2 : MCo s T k j g) (h0 : 0 ≤ i) (hf : bdE f) (hg : bdE g) (ho : o = 4 ∨ (6 ≤ o ∧ o ≤ 9)) (hT : T (2 * j) = o) : MCo s T i (j + 1) (fun nm lf => cbin (mo o) (f nm lf) (g nm lf)) := by
  have l1 := MC_lt h1 h0
  have l2 := MC_lt h2 (by omega)
  intro nm lf hk vs ts a1 a2 a3
  have b1 := bd_cons (hf nm lf hk) a3
  obtain ⟨n1, r1⟩ := h1 nm lf hk vs ts a1 a2 a3
  obtain ⟨n2, r2⟩ := h2 nm lf hk (f nm lf :: vs) ts (by simp; omega) (by omega) b1
  refine ⟨n1 + n2 + 1, MR_app (n1 + n2) i vs ts j _ _ (MR_app n1 i vs ts k _ _ r1 n2 j _ _ (by omega) r2) 1 (j + 1) _ _ (by omega) (MR_1 (by simp; omega) (by omega) (bd_cons (hg nm lf hk) b1) ?_)⟩
  unfold MS
  rw [hT]
  exact Or.inr (Or.inr (Or.inr (Or.inr (Or.inr (Or.inl ⟨ho, _, _, _, rfl, rfl, rfl⟩)))))
theorem cbin_cmp {dd l r : Int} (h : dd = 37 ∨ dd = 38 ∨ dd = 39 ∨ dd = 40 ∨ dd = 48 ∨ dd = 49) : cbin dd l r = if cmpI dd l r then 1 else 0 := by
  unfold cbin
  rw [if_neg (by omega), if_neg (by omega), if_neg (by omega), if_neg (by omega), if_neg (by omega), if_neg (by omega), if_neg (by omega)]
theorem MB_cmp {s : Int} {T : Fn} {i k j o : Int} {f g : LEnv} (h1 : MCo s T i k f) (h2 : MCo s T k j g) (h0 : 0 ≤ i) (hf : bdE f) (hg : bdE g) (ho : 10 ≤ o ∧ o ≤ 15) (hT : T (2 * j) = o) : MB s T i (j + 1) (fun nm lf => cbin (mo o) (f nm lf) (g nm lf)) := by
  have l1 := MC_lt h1 h0
  have l2 := MC_lt h2 (by omega)
  intro nm lf hk vs ts a1 a2 a3
  have b1 := bd_cons (hf nm lf hk) a3
  obtain ⟨n1, r1⟩ := h1 nm lf hk vs ts a1 a2 a3
  obtain ⟨n2, r2⟩ := h2 nm lf hk (f nm lf :: vs) ts (by simp; omega) (by omega) b1
  refine ⟨n1 + n2 + 1, MR_app (n1 + n2) i vs ts j _ _ (MR_app n1 i vs ts k _ _ r1 n2 j _ _ (by omega) r2) 1 (j + 1) _ _ (by omega) (MR_1 (by simp; omega) (by omega) (bd_cons (hg nm lf hk) b1) ?_)⟩
  have mc : mo o = 37 ∨ mo o = 38 ∨ mo o = 39 ∨ mo o = 40 ∨ mo o = 48 ∨ mo o = 49 := by
    unfold mo
    rw [if_neg (by omega), if_neg (by omega), if_neg (by omega), if_neg (by omega), if_neg (by omega)]
    repeat' split
    all_goals omega
  have e : decide (¬ cbin (mo o) (f nm lf) (g nm lf) = 0) = cmpI (mo o) (f nm lf) (g nm lf) := by
    rw [cbin_cmp mc]
    cases cmpI (mo o) (f nm lf) (g nm lf) <;> simp
  unfold MS
  rw [hT, e]
  exact Or.inr (Or.inr (Or.inr (Or.inr (Or.inr (Or.inr (Or.inl ⟨ho, _, _, _, rfl, rfl, rfl⟩))))))
theorem MB_not {s : Int} {T : Fn} {i j : Int} {f : LEnv} (h : MB s T i j f) (h0 : 0 ≤ i) (hf : b01 f) (hT : T (2 * j) = 20) : MB s T i (j + 1) (fun nm lf => 1 - f nm lf) := by
  have lt := MB_lt h h0
  intro nm lf hk vs ts h1 h2 h3
  obtain ⟨n, hn⟩ := h nm lf hk vs ts h1 h2 h3
  refine ⟨n + 1, MR_app n i vs ts j _ _ hn 1 (j + 1) _ _ (by omega) (MR_1 (by omega) (by simp; omega) h3 ?_)⟩
  have e : decide (¬ (1 - f nm lf) = 0) = !decide (¬ f nm lf = 0) := by
    rcases hf nm lf hk with e | e <;> rw [e] <;> rfl
  unfold MS
  rw [e]
  exact Or.inr (Or.inr (Or.inr (Or.inr (Or.inr (Or.inr (Or.inr (Or.inl ⟨hT, rfl, _, _, rfl, rfl⟩)))))))
theorem MB_two {s : Int} {T : Fn} {i k j : Int} {f g : LEnv} {dd : Int} (h1 : MB s T i k f) (h2 : MB s T k j g) (h0 : 0 ≤ i) (hT : (T (2 * j) = 21 ∧ dd = 35) ∨ (T (2 * j) = 22 ∧ dd = 34)) : MB s T i (j + 1) (fun nm lf => cbin dd (f nm lf) (g nm lf)) := by
  have l1 := MB_lt h1 h0
  have l2 := MB_lt h2 (by omega)
  intro nm lf hk vs ts a1 a2 a3
  obtain ⟨n1, r1⟩ := h1 nm lf hk vs ts a1 a2 a3
  obtain ⟨n2, r2⟩ := h2 nm lf hk vs (decide (¬ f nm lf = 0) :: ts) (by omega) (by simp; omega) a3
  refine ⟨n1 + n2 + 1, MR_app (n1 + n2) i vs ts j _ _ (MR_app n1 i vs ts k _ _ r1 n2 j _ _ (by omega) r2) 1 (j + 1) _ _ (by omega) (MR_1 (by omega) (by simp; omega) a3 ?_)⟩
  unfold MS
  rcases hT with ⟨hT, hd⟩ | ⟨hT, hd⟩
  · have e : decide (¬ cbin dd (f nm lf) (g nm lf) = 0) = (decide (¬ f nm lf = 0) && decide (¬ g nm lf = 0)) := by
      rw [hd]
      unfold cbin
      rw [if_neg (by omega), if_neg (by omega), if_neg (by omega), if_neg (by omega), if_neg (by omega), if_neg (by omega), if_pos rfl]
      by_cases z1 : f nm lf = 0 <;> by_cases z2 : g nm lf = 0 <;> simp [z1, z2]
    rw [e]
    exact Or.inr (Or.inr (Or.inr (Or.inr (Or.inr (Or.inr (Or.inr (Or.inr (Or.inl ⟨hT, rfl, _, _, _, rfl, rfl⟩))))))))
  · have e : decide (¬ cbin dd (f nm lf) (g nm lf) = 0) = (decide (¬ f nm lf = 0) || decide (¬ g nm lf = 0)) := by
      rw [hd]
      unfold cbin
      rw [if_neg (by omega), if_neg (by omega), if_neg (by omega), if_neg (by omega), if_neg (by omega), if_pos rfl]
      by_cases z1 : f nm lf = 0 <;> by_cases z2 : g nm lf = 0 <;> simp [z1, z2]
    rw [e]
    exact Or.inr (Or.inr (Or.inr (Or.inr (Or.inr (Or.inr (Or.inr (Or.inr (Or.inr ⟨hT, rfl, _, _, _, rfl, rfl⟩))))))))
theorem MC_sel {s : Int} {T : Fn} {i a b e : Int} {q f g : LEnv} (h1 : MB s T i a q) (h2 : MCo s T a b f) (h3 : MCo s T b e g) (h0 : 0 ≤ i) (hf : bdE f) (hg : bdE g) (hT : T (2 * e) = 3) : MCo s T i (e + 1) (fun nm lf => if q nm lf = 0 then g nm lf else f nm lf) := by
  have l1 := MB_lt h1 h0
  have l2 := MC_lt h2 (by omega)
  have l3 := MC_lt h3 (by omega)
  intro nm lf hk vs ts a1 a2 a3
  have b1 := bd_cons (hf nm lf hk) a3
  obtain ⟨n1, r1⟩ := h1 nm lf hk vs ts a1 a2 a3
  obtain ⟨n2, r2⟩ := h2 nm lf hk vs (decide (¬ q nm lf = 0) :: ts) (by omega) (by simp; omega) a3
  obtain ⟨n3, r3⟩ := h3 nm lf hk (f nm lf :: vs) (decide (¬ q nm lf = 0) :: ts) (by simp; omega) (by simp; omega) b1
  refine ⟨n1 + n2 + n3 + 1, MR_app (n1 + n2 + n3) i vs ts e _ _ (MR_app (n1 + n2) i vs ts b _ _ (MR_app n1 i vs ts a _ _ r1 n2 b _ _ (by omega) r2) n3 e _ _ (by omega) r3) 1 (e + 1) _ _ (by omega) (MR_1 (by simp; omega) (by simp; omega) (bd_cons (hg nm lf hk) b1) ?_)⟩
  unfold MS
  refine Or.inr (Or.inr (Or.inl ⟨hT, g nm lf, f nm lf, vs, decide (¬ q nm lf = 0), ts, rfl, rfl, ?_, rfl⟩))
  by_cases z : q nm lf = 0
  · simp [z]
  · simp [z]
