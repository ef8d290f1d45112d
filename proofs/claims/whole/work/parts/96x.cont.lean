-- reading: what a text holds, on both sides
def TXG (k L W t : Int) (Kd St Sp Cd Lw X : Fn) : Prop :=
  (∀ j : Int, 0 ≤ j → j < k → (0 ≤ Kd j ∧ Kd j ≤ 11) ∧ X (753 * t + 1 + 6 * j) = Kd j ∧ 0 ≤ St j ∧ St j ≤ Sp j ∧ Sp j ≤ L)
  ∧ (∀ j : Int, 0 ≤ j → j < k → 4 ≤ Kd j → ∀ i : Int, 0 ≤ i → i < cnt (Kd j) → St j + i < Sp j ∧ Cd (St j + i) = X (753 * t + 1 + 6 * j + 1 + i) ∧ 0 ≤ X (753 * t + 1 + 6 * j + 1 + i) ∧ X (753 * t + 1 + 6 * j + 1 + i) ≤ 9999)
  ∧ (∀ s : Int, 0 ≤ s → s ≤ 3 → (Lw s = -1 ∧ ∀ j : Int, 0 ≤ j → j < k → ¬ Kd j = s) ∨ ((0 ≤ Lw s ∧ Lw s < k) ∧ Kd (Lw s) = s ∧ (∀ j : Int, 0 ≤ j → j < Lw s → ¬ Kd j = s) ∧ ∃ f : LEnv, bdE f ∧ CC s Cd (St (Lw s)) (Sp (Lw s)) f 50 ∧ MCo s (fun j => X (753 * t + 145 + j)) (X (753 * t + 1 + 6 * Lw s + 1)) (X (753 * t + 1 + 6 * Lw s + 2)) f ∧ 0 ≤ X (753 * t + 1 + 6 * Lw s + 1) ∧ X (753 * t + 1 + 6 * Lw s + 2) ≤ W))
theorem cnt_r {k : Int} : 1 ≤ cnt k ∧ cnt k ≤ 5 := by
  unfold cnt
  repeat' split
  all_goals omega
theorem TXG_ext {k L W t L2 W2 d : Int} {Kd St Sp Cd Lw X St2 Kd2 Sp2 Cd2 Lw2 X2 : Fn} (h : TXG k L W t Kd St Sp Cd Lw X) (hk : 0 ≤ k ∧ k < 24) (hd : 0 ≤ d ∧ d ≤ 11) (hL : 0 ≤ L ∧ L ≤ L2) (hW : W ≤ W2) (e1 : Kd2 = u Kd k d) (e2 : St2 = u St k L) (e3 : Sp2 = u Sp k L2) (e4 : ∀ i, i < L → Cd2 i = Cd i) (e5 : ∀ j, 753 * t + 1 ≤ j → j < 753 * t + 1 + 6 * k → X2 j = X j) (e6 : ∀ j, 753 * t + 145 ≤ j → j < 753 * t + 145 + 2 * W → X2 j = X j) (e7 : X2 (753 * t + 1 + 6 * k) = d) (hb : (4 ≤ d ∧ Lw2 = Lw ∧ ∀ i, 0 ≤ i → i < cnt d → L + i < L2 ∧ Cd2 (L + i) = X2 (753 * t + 1 + 6 * k + 1 + i) ∧ 0 ≤ X2 (753 * t + 1 + 6 * k + 1 + i) ∧ X2 (753 * t + 1 + 6 * k + 1 + i) ≤ 9999) ∨ (d ≤ 3 ∧ Lw d = -1 ∧ Lw2 = u Lw d k ∧ ∃ f : LEnv, bdE f ∧ CC d Cd2 L L2 f 50 ∧ MCo d (fun j => X2 (753 * t + 145 + j)) (X2 (753 * t + 1 + 6 * k + 1)) (X2 (753 * t + 1 + 6 * k + 2)) f ∧ 0 ≤ X2 (753 * t + 1 + 6 * k + 1) ∧ X2 (753 * t + 1 + 6 * k + 2) ≤ W2)) : TXG (k + 1) L2 W2 t Kd2 St2 Sp2 Cd2 Lw2 X2 := by
  obtain ⟨h1, h2, h3⟩ := h
  have old : ∀ j, j < k → Kd2 j = Kd j ∧ St2 j = St j ∧ Sp2 j = Sp j := by
    intro j hj
    rw [e1, e2, e3, u_ne _ _ (by omega), u_ne _ _ (by omega), u_ne _ _ (by omega)]
    exact ⟨rfl, rfl, rfl⟩
  have new : Kd2 k = d ∧ St2 k = L ∧ Sp2 k = L2 := by
    rw [e1, e2, e3, u_eq, u_eq, u_eq]
    exact ⟨rfl, rfl, rfl⟩
  obtain ⟨n1, n2, n3⟩ := new
  refine ⟨?_, ?_, ?_⟩
  · intro j j0 j1
    by_cases q : j = k
    · subst q
      rw [n1, n2, n3]
      exact ⟨hd, e7, by omega, by omega, by omega⟩
    · obtain ⟨o1, o2, o3⟩ := old j (by omega)
      have := h1 j j0 (by omega)
      rw [o1, o2, o3, e5 _ (by omega) (by omega)]
      exact ⟨this.1, this.2.1, this.2.2.1, this.2.2.2.1, by omega⟩
  · intro j j0 j1 j4 i i0 i1
    by_cases q : j = k
    · subst q
      rw [n1] at j4 i1
      rcases hb with ⟨_, _, hb⟩ | ⟨a, _⟩
      · rw [n2, n3]
        exact hb i i0 i1
      · omega
    · obtain ⟨o1, o2, o3⟩ := old j (by omega)
      rw [o1] at j4 i1
      have c5 := @cnt_r (Kd j)
      have b := h1 j j0 (by omega)
      have := h2 j j0 (by omega) j4 i i0 i1
      rw [o2, o3, e4 _ (by omega), e5 (753 * t + 1 + 6 * j + 1 + i) (by omega) (by omega)]
      exact this
  · intro s s0 s1
    -- a law of before
    have keep : (0 ≤ Lw s ∧ Lw s < k) → Kd (Lw s) = s → (∀ j, 0 ≤ j → j < Lw s → ¬ Kd j = s) → (∃ f : LEnv, bdE f ∧ CC s Cd (St (Lw s)) (Sp (Lw s)) f 50 ∧ MCo s (fun j => X (753 * t + 145 + j)) (X (753 * t + 1 + 6 * Lw s + 1)) (X (753 * t + 1 + 6 * Lw s + 2)) f ∧ 0 ≤ X (753 * t + 1 + 6 * Lw s + 1) ∧ X (753 * t + 1 + 6 * Lw s + 2) ≤ W) → Lw2 s = Lw s → (0 ≤ Lw2 s ∧ Lw2 s < k + 1) ∧ Kd2 (Lw2 s) = s ∧ (∀ j, 0 ≤ j → j < Lw2 s → ¬ Kd2 j = s) ∧ ∃ f : LEnv, bdE f ∧ CC s Cd2 (St2 (Lw2 s)) (Sp2 (Lw2 s)) f 50 ∧ MCo s (fun j => X2 (753 * t + 145 + j)) (X2 (753 * t + 1 + 6 * Lw2 s + 1)) (X2 (753 * t + 1 + 6 * Lw2 s + 2)) f ∧ 0 ≤ X2 (753 * t + 1 + 6 * Lw2 s + 1) ∧ X2 (753 * t + 1 + 6 * Lw2 s + 2) ≤ W2 := by
      intro a1 a2 a3 a4 a5
      obtain ⟨f, f1, f2, f3, f4, f5⟩ := a4
      obtain ⟨o1, o2, o3⟩ := old (Lw s) a1.2
      have b := h1 (Lw s) a1.1 a1.2
      have x1 : X2 (753 * t + 1 + 6 * Lw s + 1) = X (753 * t + 1 + 6 * Lw s + 1) := e5 _ (by omega) (by omega)
      have x2 : X2 (753 * t + 1 + 6 * Lw s + 2) = X (753 * t + 1 + 6 * Lw s + 2) := e5 _ (by omega) (by omega)
      rw [a5, o1, o2, o3, x1, x2]
      refine ⟨by omega, a2, ?_, f, f1, CC_loc (fun z _ hz => e4 z (by omega)) f2, MC_loc (fun z z0 z1 => ?_) f3, f4, by omega⟩
      · intro j j0 j1
        rw [(old j (by omega)).1]
        exact a3 j j0 j1
      · exact e6 _ (by omega) (by omega)
    rcases hb with ⟨d4, l2, hb⟩ | ⟨d3, l1, l2, f, f1, f2, f3, f4, f5⟩
    · rcases h3 s s0 s1 with ⟨a1, a2⟩ | ⟨a1, a2, a3, a4⟩
      · left
        refine ⟨by rw [l2]; exact a1, ?_⟩
        intro j j0 j1
        by_cases q : j = k
        · rw [q, n1]; omega
        · rw [(old j (by omega)).1]
          exact a2 j j0 (by omega)
      · right
        exact keep a1 a2 a3 a4 (by rw [l2])
    · by_cases q : s = d
      · right
        have lk : Lw2 s = k := by rw [l2, q, u_eq]
        rcases h3 s s0 s1 with ⟨a1, a2⟩ | ⟨a1, a2, a3, a4⟩
        · rw [lk, n1, n2, n3, q]
          refine ⟨by omega, rfl, ?_, f, f1, f2, f3, f4, f5⟩
          intro j j0 j1
          rw [(old j (by omega)).1, ← q]
          exact a2 j j0 (by omega)
        · rw [q] at a1
          omega
      · have lk : Lw2 s = Lw s := by rw [l2, u_ne _ _ q]
        rcases h3 s s0 s1 with ⟨a1, a2⟩ | ⟨a1, a2, a3, a4⟩
        · left
          refine ⟨by rw [lk]; exact a1, ?_⟩
          intro j j0 j1
          by_cases q2 : j = k
          · rw [q2, n1]; omega
          · rw [(old j (by omega)).1]
            exact a2 j j0 (by omega)
        · right
          exact keep a1 a2 a3 a4 lk
/-- the text of a slot -/
theorem TX_of {F : Nat → Fn} {t : Nat} {k L W : Int} {Kd St Sp Cd Lw : Fn} (h : TXG k L W (t : Int) Kd St Sp Cd Lw (F 152)) (hk : 0 ≤ k ∧ k ≤ 24) (hL : L ≤ 300) (hW : W ≤ 304) (e5 : F (104 + 6 * t) 5 = k) (e0 : F 152 (753 * (t : Int)) = k) (e1 : ∀ z, 0 ≤ z → z < 24 → F (104 + 6 * t + 1) z = Kd z ∧ F (104 + 6 * t + 2) z = St z ∧ F (104 + 6 * t + 3) z = Sp z) (e4 : ∀ z, 0 ≤ z → z < 300 → F (104 + 6 * t + 4) z = Cd z) (e6 : ∀ z, 0 ≤ z → z < 4 → F (104 + 6 * t + 5) z = Lw z) : TX F t := by
  obtain ⟨h1, h2, h3⟩ := h
  unfold TX LW
  rw [e5]
  refine ⟨⟨hk.1, hk.2, e0⟩, ?_, ?_, ?_⟩
  · intro j j0 j1
    obtain ⟨a1, a2, a3⟩ := e1 j j0 (by omega)
    have := h1 j j0 j1
    rw [a1, a2, a3]
    exact ⟨this.1.1, this.1.2, this.2.1, this.2.2.1, this.2.2.2.1, by omega⟩
  · intro j j0 j1 j4 i i0 i1
    obtain ⟨a1, a2, a3⟩ := e1 j j0 (by omega)
    rw [a1] at j4 i1
    have b := h1 j j0 j1
    have c := h2 j j0 j1 j4 i i0 i1
    rw [a2, a3, e4 _ (by omega) (by omega)]
    exact c
  · intro s s0 s1
    rw [e6 s s0 (by omega)]
    rcases h3 s s0 s1 with ⟨a1, a2⟩ | ⟨a1, a2, a3, f, f1, f2, f3, f4, f5⟩
    · left
      refine ⟨a1, ?_⟩
      intro j j0 j1
      rw [(e1 j j0 (by omega)).1]
      exact a2 j j0 j1
    · right
      obtain ⟨b1, b2, b3⟩ := e1 (Lw s) a1.1 (by omega)
      have b := h1 (Lw s) a1.1 a1.2
      rw [b1, b2, b3]
      refine ⟨a1.1, a1.2, a2, ?_, f, f1, CC_loc (fun z z0 z1 => e4 z (by omega) (by omega)) f2, f3, f4, by omega⟩
      intro j j0 j1
      rw [(e1 j j0 (by omega)).1]
      exact a3 j j0 j1
