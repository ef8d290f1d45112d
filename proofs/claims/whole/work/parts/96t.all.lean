-- reading: every place and every depth
section
variable (x : m_X)
def EXW (T : Fn) (n t s p op : Int) : Prop := EX1 x T n t s p op ∧ EXO x T n t s p op ∧ EXP x T n t s p op ∧ EXS x T n t s p op ∧ EXA x T n t s p op ∧ EXB x T n t s p op ∧ EXE x T n t s p op
theorem EX_1 (hX : XOK x) {T : Fn} {n t s p op : Int} (hB : BY T n) (hn : 0 ≤ n ∧ n ≤ 300) (ht : 0 ≤ t ∧ t ≤ 3) (hs : 0 ≤ s ∧ s ≤ 3) (hop : 0 ≤ op ∧ op ≤ 8) (p0 : 0 ≤ p) (hpn : p ≤ n) (ih : ∀ p1 o1, p < p1 → p1 ≤ n → 0 ≤ o1 → o1 ≤ 8 → EXW x T n t s p1 o1) : EX1 x T n t s p op := by
  by_cases k51 : kd T n p = 51
  · exact O_num x hX hB hn ht hop p0 hpn k51
  by_cases kn : 11 ≤ kd T n p ∧ kd T n p ≤ 24
  · exact O_name x hX hB hn ht hs hop p0 hpn kn
  by_cases ko : kd T n p = 27 ∨ kd T n p = 29 ∨ kd T n p = 30 ∨ kd T n p = 42 ∨ kd T n p = 45
  · by_cases o8 : op = 8
    · exact O_8 x hX hB hn hs o8 ko
    · have h8 : 0 ≤ op ∧ op < 8 := by omega
      have hlt : p < n := kd_lt (T := T) (n := n) (p := p) (by omega)
      have nx := nxp_r (T := T) (n := n) (p := p) p0 hpn
      have nx1 : p < nxp T n p := by omega
      have nx2 : nxp T n p ≤ n := by omega
      have up := ih (nxp T n p) (op + 1) nx1 nx2 (by omega) (by omega)
      rcases ko with k | k | k | k | k
      · exact O_common x hX hB hn ht hs h8 p0 hpn k (fun p1 a b => (ih p1 (op + 1) a b (by omega) (by omega)).1)
      · exact O_un x hX hB hn ht hs h8 p0 hpn (Or.inr k) up.1
      · exact O_if x hX hB hn ht hs h8 p0 hpn k up.2.2.2.2.2.2 (fun p1 a b => (ih p1 (op + 1) a b (by omega) (by omega)).2.2.2.1)
      · exact O_un x hX hB hn ht hs h8 p0 hpn (Or.inl k) up.1
      · exact O_paren x hX hB hn ht hs h8 p0 hpn k up.2.2.2.1
  · exact O_bad x hX hB hn hs hop k51 kn ko
theorem EX_w (hX : XOK x) {T : Fn} {n t s : Int} (hB : BY T n) (hn : 0 ≤ n ∧ n ≤ 300) (ht : 0 ≤ t ∧ t ≤ 3) (hs : 0 ≤ s ∧ s ≤ 3) : ∀ (k : Nat) (p op : Int), 0 ≤ p → p ≤ n → n - p < k → 0 ≤ op → op ≤ 8 → EXW x T n t s p op := by
  intro k
  induction k with
  | zero => intro p op a b c; omega
  | succ k ih =>
    intro p op p0 hpn hk o0 o8
    have up : ∀ p1 o1, p < p1 → p1 ≤ n → 0 ≤ o1 → o1 ≤ 8 → EXW x T n t s p1 o1 := fun p1 o1 a b c d => ih p1 o1 (by omega) b (by omega) c d
    have hop : 0 ≤ op ∧ op ≤ 8 := ⟨o0, o8⟩
    have e1 := EX_1 x hX hB hn ht hs hop p0 hpn up
    have eo := EXO_of x hop e1
    have ep := PROD_of x hX hB hn ht hop p0 (fun p1 a b => by
      by_cases e : p = p1
      · rw [← e]; exact eo
      · exact (up p1 op (by omega) b o0 o8).2.1) hpn
    have es := SUM_of x hX hB hn ht hop p0 (fun p1 a b => by
      by_cases e : p = p1
      · rw [← e]; exact ep
      · exact (up p1 op (by omega) b o0 o8).2.2.1) hpn
    have ea := ASK_of x hX hB hn ht hs hop p0 (fun p1 a b => by
      by_cases e : p = p1
      · rw [← e]; exact es
      · exact (up p1 op (by omega) b o0 o8).2.2.2.1) (fun h p1 a b => (up p1 (op + 1) a b (by omega) (by omega)).2.2.2.2.1) hpn
    have eb := BOTH_of x hX hB hn ht hop p0 (fun p1 a b => by
      by_cases e : p = p1
      · rw [← e]; exact ea
      · exact (up p1 op (by omega) b o0 o8).2.2.2.2.1) hpn
    have ee := EITHER_of x hX hB hn ht hop p0 (fun p1 a b => by
      by_cases e : p = p1
      · rw [← e]; exact eb
      · exact (up p1 op (by omega) b o0 o8).2.2.2.2.2.1) hpn
    exact ⟨e1, eo, ep, es, ea, eb, ee⟩
theorem EX_sum (hX : XOK x) {T : Fn} {n t s p : Int} (hB : BY T n) (hn : 0 ≤ n ∧ n ≤ 300) (ht : 0 ≤ t ∧ t ≤ 3) (hs : 0 ≤ s ∧ s ≤ 3) (p0 : 0 ≤ p) (hpn : p ≤ n) : EXS x T n t s p 0 := (EX_w x hX hB hn ht hs (n - p + 1).toNat p 0 p0 hpn (by omega) (by omega) (by omega)).2.2.2.1
end
