theorem i_M_ring_0 : m_at k_M_ring 0 = some (.iconst 0, 1, 0) := m_at_of r_M_ring (by decide +kernel)
theorem i_M_ring_1 : m_at k_M_ring 1 = some (.istore_n 1, 1, 0) := m_at_of r_M_ring (by decide +kernel)
theorem i_M_ring_2 : m_at k_M_ring 2 = some (.iconst 3, 1, 0) := m_at_of r_M_ring (by decide +kernel)
theorem i_M_ring_3 : m_at k_M_ring 3 = some (.istore_n 2, 1, 0) := m_at_of r_M_ring (by decide +kernel)
theorem i_M_ring_4 : m_at k_M_ring 4 = some (.iload_n 2, 1, 0) := m_at_of r_M_ring (by decide +kernel)
theorem i_M_ring_5 : m_at k_M_ring 5 = some (.iconst 1, 1, 0) := m_at_of r_M_ring (by decide +kernel)
theorem i_M_ring_6 : m_at k_M_ring 6 = some (.aload_n 0, 1, 0) := m_at_of r_M_ring (by decide +kernel)
theorem i_M_ring_7 : m_at k_M_ring 7 = some (.getfield 7, 3, 0) := m_at_of r_M_ring (by decide +kernel)
theorem i_M_ring_10 : m_at k_M_ring 10 = some (.bipush 11, 2, 0) := m_at_of r_M_ring (by decide +kernel)
theorem i_M_ring_12 : m_at k_M_ring 12 = some (.iaload, 1, 0) := m_at_of r_M_ring (by decide +kernel)
theorem i_M_ring_13 : m_at k_M_ring 13 = some (.ishl, 1, 0) := m_at_of r_M_ring (by decide +kernel)
theorem i_M_ring_14 : m_at k_M_ring 14 = some (.if_icmp .ge (51), 3, 0) := m_at_of r_M_ring (by decide +kernel)
theorem i_M_ring_17 : m_at k_M_ring 17 = some (.iload_n 2, 1, 0) := m_at_of r_M_ring (by decide +kernel)
theorem i_M_ring_18 : m_at k_M_ring 18 = some (.invokestatic 444, 3, 128) := m_at_of r_M_ring (by decide +kernel)
theorem i_M_ring_21 : m_at k_M_ring 21 = some (.iconst 1, 1, 0) := m_at_of r_M_ring (by decide +kernel)
theorem i_M_ring_22 : m_at k_M_ring 22 = some (.if_icmp .le (37), 3, 0) := m_at_of r_M_ring (by decide +kernel)
theorem i_M_ring_25 : m_at k_M_ring 25 = some (.iload_n 2, 1, 0) := m_at_of r_M_ring (by decide +kernel)
theorem i_M_ring_26 : m_at k_M_ring 26 = some (.invokestatic 444, 3, 128) := m_at_of r_M_ring (by decide +kernel)
theorem i_M_ring_29 : m_at k_M_ring 29 = some (.bipush 8, 2, 0) := m_at_of r_M_ring (by decide +kernel)
theorem i_M_ring_31 : m_at k_M_ring 31 = some (.if_icmp .ge (28), 3, 0) := m_at_of r_M_ring (by decide +kernel)
theorem i_M_ring_34 : m_at k_M_ring 34 = some (.iload_n 1, 1, 0) := m_at_of r_M_ring (by decide +kernel)
theorem i_M_ring_35 : m_at k_M_ring 35 = some (.ifCond .eq (14), 3, 0) := m_at_of r_M_ring (by decide +kernel)
theorem i_M_ring_38 : m_at k_M_ring 38 = some (.iload_n 2, 1, 0) := m_at_of r_M_ring (by decide +kernel)
theorem i_M_ring_39 : m_at k_M_ring 39 = some (.invokestatic 444, 3, 128) := m_at_of r_M_ring (by decide +kernel)
theorem i_M_ring_42 : m_at k_M_ring 42 = some (.iload_n 1, 1, 0) := m_at_of r_M_ring (by decide +kernel)
theorem i_M_ring_43 : m_at k_M_ring 43 = some (.invokestatic 444, 3, 128) := m_at_of r_M_ring (by decide +kernel)
theorem i_M_ring_46 : m_at k_M_ring 46 = some (.if_icmp .ge (13), 3, 0) := m_at_of r_M_ring (by decide +kernel)
theorem i_M_ring_49 : m_at k_M_ring 49 = some (.aload_n 0, 1, 0) := m_at_of r_M_ring (by decide +kernel)
theorem i_M_ring_50 : m_at k_M_ring 50 = some (.iload_n 2, 1, 0) := m_at_of r_M_ring (by decide +kernel)
theorem i_M_ring_51 : m_at k_M_ring 51 = some (.invokevirtual 500, 3, 129) := m_at_of r_M_ring (by decide +kernel)
theorem i_M_ring_54 : m_at k_M_ring 54 = some (.ifCond .eq (5), 3, 0) := m_at_of r_M_ring (by decide +kernel)
theorem i_M_ring_57 : m_at k_M_ring 57 = some (.iload_n 2, 1, 0) := m_at_of r_M_ring (by decide +kernel)
theorem i_M_ring_58 : m_at k_M_ring 58 = some (.istore_n 1, 1, 0) := m_at_of r_M_ring (by decide +kernel)
theorem i_M_ring_59 : m_at k_M_ring 59 = some (.iinc 2 (1), 3, 0) := m_at_of r_M_ring (by decide +kernel)
theorem i_M_ring_62 : m_at k_M_ring 62 = some (.goto (-58), 3, 0) := m_at_of r_M_ring (by decide +kernel)
theorem i_M_ring_65 : m_at k_M_ring 65 = some (.iload_n 1, 1, 0) := m_at_of r_M_ring (by decide +kernel)
theorem i_M_ring_66 : m_at k_M_ring 66 = some (.ireturn, 1, 0) := m_at_of r_M_ring (by decide +kernel)
set_option maxRecDepth 20000 in
set_option maxHeartbeats 1000000 in
theorem E_M_ring (x : m_X) (s : m_H) (w : Nat) : m_M x k_M_ring [.ref w] s = if m_isO s w 11 = true then (m_D x 3 k_M_ring 4 [some (.ref w), some (.int 0), some (.int 3)] [] s) else none := by
  refine e_M1 (L0 := [some (.ref w), none, none]) rfl (by decide +kernel) rfl (q_M_ring _) rfl ?_
  refine e_iconst (v := 0) i_M_ring_0 (by decide) ?_
  refine e_istore_n (L' := [some (.ref w), some (.int 0), none]) i_M_ring_1 (of_decide_eq_true rfl) rfl ?_
  refine e_iconst (v := 3) i_M_ring_2 (by decide) ?_
  refine e_istore_n (L' := [some (.ref w), some (.int 0), some (.int 3)]) i_M_ring_3 (of_decide_eq_true rfl) rfl ?_
  exact rfl
set_option maxRecDepth 20000 in
set_option maxHeartbeats 1000000 in
theorem E_M_ring_4 (x : m_X) (ρ : Nat) (hρ : 3 ≤ ρ) (s : m_H) (w : Nat) (n1 : Int32) (n2 : Int32)  : m_D x ρ k_M_ring 4 [some (.ref w), some (.int n1), some (.int n2)] [] s = (m_fR s 11 0 w).bind fun v7 => (m_ia x s v7 11).bind fun v12 => if ((1 : Int32) <<< (v12 &&& (31 : Int32))) ≤ n2 then (some (some (.int n1), s)) else m_bI (m_M x k_M_bits [.int n2] s) fun v18 s18 => if v18 ≤ 1 then (m_D x ρ k_M_ring 4 [some (.ref w), some (.int n1), some (.int (n2 + (1 : Int32)))] [] s18) else m_bI (m_M x k_M_bits [.int n2] s18) fun v26 s26 => if 8 ≤ v26 then (m_D x ρ k_M_ring 4 [some (.ref w), some (.int n1), some (.int (n2 + (1 : Int32)))] [] s26) else if n1 = 0 then (m_bI (m_M x k_M_isRing [.ref w, .int n2] s26) fun v51 s51 => if v51 = 0 then (m_D x ρ k_M_ring 4 [some (.ref w), some (.int n1), some (.int (n2 + (1 : Int32)))] [] s51) else m_D x ρ k_M_ring 4 [some (.ref w), some (.int n2), some (.int (n2 + (1 : Int32)))] [] s51) else m_bI (m_M x k_M_bits [.int n2] s26) fun v39 s39 => m_bI (m_M x k_M_bits [.int n1] s39) fun v43 s43 => if v43 ≤ v39 then (m_D x ρ k_M_ring 4 [some (.ref w), some (.int n1), some (.int (n2 + (1 : Int32)))] [] s43) else m_bI (m_M x k_M_isRing [.ref w, .int n2] s43) fun v51 s51 => if v51 = 0 then (m_D x ρ k_M_ring 4 [some (.ref w), some (.int n1), some (.int (n2 + (1 : Int32)))] [] s51) else m_D x ρ k_M_ring 4 [some (.ref w), some (.int n2), some (.int (n2 + (1 : Int32)))] [] s51 := by
  refine e_iload_n i_M_ring_4 rfl ?_
  refine e_iconst (v := 1) i_M_ring_5 (by decide) ?_
  refine e_aload_n i_M_ring_6 rfl ?_
  refine e_getR i_M_ring_7 lf_0 (by decide) ft_11_0 (fun v7 => ?_)
  refine e_bipush (v := 11) i_M_ring_10 (by decide) ?_
  refine e_iald i_M_ring_12 (fun v12 => ?_)
  refine e_ishl i_M_ring_13 ?_
  refine e_icmpge (t := 65) i_M_ring_14 (by decide) ?_ ?_
  · refine e_iload_n i_M_ring_65 rfl ?_
    exact e_iretI i_M_ring_66 rfl
  · refine e_iload_n i_M_ring_17 rfl ?_
    refine e_callI (as := [.int n2]) (st' := []) i_M_ring_18 lm_128 (Or.inl ⟨rfl, rfl⟩) w_M_bits rfl rfl rfl (Nat.le_of_ble_eq_true rfl) (Nat.le_of_ble_eq_true rfl) (m_rlt (q_M_bits _) (Nat.lt_of_lt_of_le (by decide) hρ)) rfl (fun v18 s18 => ?_)
    refine e_iconst (v := 1) i_M_ring_21 (by decide) ?_
    refine e_icmple (t := 59) i_M_ring_22 (by decide) ?_ ?_
    · refine e_iinc (w := 1) (L' := [some (.ref w), some (.int n1), some (.int (n2 + (1 : Int32)))]) i_M_ring_59 rfl (of_decide_eq_true rfl) (by decide) rfl ?_
      refine e_goto (t := 4) i_M_ring_62 (by decide) ?_
      exact rfl
    · refine e_iload_n i_M_ring_25 rfl ?_
      refine e_callI (as := [.int n2]) (st' := []) i_M_ring_26 lm_128 (Or.inl ⟨rfl, rfl⟩) w_M_bits rfl rfl rfl (Nat.le_of_ble_eq_true rfl) (Nat.le_of_ble_eq_true rfl) (m_rlt (q_M_bits _) (Nat.lt_of_lt_of_le (by decide) hρ)) rfl (fun v26 s26 => ?_)
      refine e_bipush (v := 8) i_M_ring_29 (by decide) ?_
      refine e_icmpge (t := 59) i_M_ring_31 (by decide) ?_ ?_
      · refine e_iinc (w := 1) (L' := [some (.ref w), some (.int n1), some (.int (n2 + (1 : Int32)))]) i_M_ring_59 rfl (of_decide_eq_true rfl) (by decide) rfl ?_
        refine e_goto (t := 4) i_M_ring_62 (by decide) ?_
        exact rfl
      · refine e_iload_n i_M_ring_34 rfl ?_
        refine e_ifeq (t := 49) i_M_ring_35 (by decide) ?_ ?_
        · refine e_aload_n i_M_ring_49 rfl ?_
          refine e_iload_n i_M_ring_50 rfl ?_
          refine e_callI (as := [.ref w, .int n2]) (st' := []) i_M_ring_51 lm_129 (Or.inr (Or.inl ⟨rfl, rfl⟩)) w_M_isRing rfl rfl rfl (Nat.le_of_ble_eq_true rfl) (Nat.le_of_ble_eq_true rfl) (m_rlt (q_M_isRing _) (Nat.lt_of_lt_of_le (by decide) hρ)) rfl (fun v51 s51 => ?_)
          refine e_ifeq (t := 59) i_M_ring_54 (by decide) ?_ ?_
          · refine e_iinc (w := 1) (L' := [some (.ref w), some (.int n1), some (.int (n2 + (1 : Int32)))]) i_M_ring_59 rfl (of_decide_eq_true rfl) (by decide) rfl ?_
            refine e_goto (t := 4) i_M_ring_62 (by decide) ?_
            exact rfl
          · refine e_iload_n i_M_ring_57 rfl ?_
            refine e_istore_n (L' := [some (.ref w), some (.int n2), some (.int n2)]) i_M_ring_58 (of_decide_eq_true rfl) rfl ?_
            refine e_iinc (w := 1) (L' := [some (.ref w), some (.int n2), some (.int (n2 + (1 : Int32)))]) i_M_ring_59 rfl (of_decide_eq_true rfl) (by decide) rfl ?_
            refine e_goto (t := 4) i_M_ring_62 (by decide) ?_
            exact rfl
        · refine e_iload_n i_M_ring_38 rfl ?_
          refine e_callI (as := [.int n2]) (st' := []) i_M_ring_39 lm_128 (Or.inl ⟨rfl, rfl⟩) w_M_bits rfl rfl rfl (Nat.le_of_ble_eq_true rfl) (Nat.le_of_ble_eq_true rfl) (m_rlt (q_M_bits _) (Nat.lt_of_lt_of_le (by decide) hρ)) rfl (fun v39 s39 => ?_)
          refine e_iload_n i_M_ring_42 rfl ?_
          refine e_callI (as := [.int n1]) (st' := [.int v39]) i_M_ring_43 lm_128 (Or.inl ⟨rfl, rfl⟩) w_M_bits rfl rfl rfl (Nat.le_of_ble_eq_true rfl) (Nat.le_of_ble_eq_true rfl) (m_rlt (q_M_bits _) (Nat.lt_of_lt_of_le (by decide) hρ)) rfl (fun v43 s43 => ?_)
          refine e_icmpge (t := 59) i_M_ring_46 (by decide) ?_ ?_
          · refine e_iinc (w := 1) (L' := [some (.ref w), some (.int n1), some (.int (n2 + (1 : Int32)))]) i_M_ring_59 rfl (of_decide_eq_true rfl) (by decide) rfl ?_
            refine e_goto (t := 4) i_M_ring_62 (by decide) ?_
            exact rfl
          · refine e_aload_n i_M_ring_49 rfl ?_
            refine e_iload_n i_M_ring_50 rfl ?_
            refine e_callI (as := [.ref w, .int n2]) (st' := []) i_M_ring_51 lm_129 (Or.inr (Or.inl ⟨rfl, rfl⟩)) w_M_isRing rfl rfl rfl (Nat.le_of_ble_eq_true rfl) (Nat.le_of_ble_eq_true rfl) (m_rlt (q_M_isRing _) (Nat.lt_of_lt_of_le (by decide) hρ)) rfl (fun v51 s51 => ?_)
            refine e_ifeq (t := 59) i_M_ring_54 (by decide) ?_ ?_
            · refine e_iinc (w := 1) (L' := [some (.ref w), some (.int n1), some (.int (n2 + (1 : Int32)))]) i_M_ring_59 rfl (of_decide_eq_true rfl) (by decide) rfl ?_
              refine e_goto (t := 4) i_M_ring_62 (by decide) ?_
              exact rfl
            · refine e_iload_n i_M_ring_57 rfl ?_
              refine e_istore_n (L' := [some (.ref w), some (.int n2), some (.int n2)]) i_M_ring_58 (of_decide_eq_true rfl) rfl ?_
              refine e_iinc (w := 1) (L' := [some (.ref w), some (.int n2), some (.int (n2 + (1 : Int32)))]) i_M_ring_59 rfl (of_decide_eq_true rfl) (by decide) rfl ?_
              refine e_goto (t := 4) i_M_ring_62 (by decide) ?_
              exact rfl
theorem i_M_isRing_0 : m_at k_M_isRing 0 = some (.iconst 0, 1, 0) := m_at_of r_M_isRing (by decide +kernel)
theorem i_M_isRing_1 : m_at k_M_isRing 1 = some (.istore_n 2, 1, 0) := m_at_of r_M_isRing (by decide +kernel)
theorem i_M_isRing_2 : m_at k_M_isRing 2 = some (.iconst (-1), 1, 0) := m_at_of r_M_isRing (by decide +kernel)
theorem i_M_isRing_3 : m_at k_M_isRing 3 = some (.istore_n 3, 1, 0) := m_at_of r_M_isRing (by decide +kernel)
theorem i_M_isRing_4 : m_at k_M_isRing 4 = some (.aload_n 0, 1, 0) := m_at_of r_M_isRing (by decide +kernel)
theorem i_M_isRing_5 : m_at k_M_isRing 5 = some (.getfield 7, 3, 0) := m_at_of r_M_isRing (by decide +kernel)
theorem i_M_isRing_8 : m_at k_M_isRing 8 = some (.bipush 11, 2, 0) := m_at_of r_M_isRing (by decide +kernel)
theorem i_M_isRing_10 : m_at k_M_isRing 10 = some (.iaload, 1, 0) := m_at_of r_M_isRing (by decide +kernel)
theorem i_M_isRing_11 : m_at k_M_isRing 11 = some (.iconst 1, 1, 0) := m_at_of r_M_isRing (by decide +kernel)
theorem i_M_isRing_12 : m_at k_M_isRing 12 = some (.isub, 1, 0) := m_at_of r_M_isRing (by decide +kernel)
theorem i_M_isRing_13 : m_at k_M_isRing 13 = some (.istore 4, 2, 0) := m_at_of r_M_isRing (by decide +kernel)
theorem i_M_isRing_15 : m_at k_M_isRing 15 = some (.iload 4, 2, 0) := m_at_of r_M_isRing (by decide +kernel)
theorem i_M_isRing_17 : m_at k_M_isRing 17 = some (.ifCond .lt (63), 3, 0) := m_at_of r_M_isRing (by decide +kernel)
theorem i_M_isRing_20 : m_at k_M_isRing 20 = some (.iload_n 1, 1, 0) := m_at_of r_M_isRing (by decide +kernel)
theorem i_M_isRing_21 : m_at k_M_isRing 21 = some (.iload 4, 2, 0) := m_at_of r_M_isRing (by decide +kernel)
theorem i_M_isRing_23 : m_at k_M_isRing 23 = some (.invokestatic 264, 3, 130) := m_at_of r_M_isRing (by decide +kernel)
theorem i_M_isRing_26 : m_at k_M_isRing 26 = some (.ifCond .ne (6), 3, 0) := m_at_of r_M_isRing (by decide +kernel)
theorem i_M_isRing_29 : m_at k_M_isRing 29 = some (.goto (45), 3, 0) := m_at_of r_M_isRing (by decide +kernel)
theorem i_M_isRing_32 : m_at k_M_isRing 32 = some (.aload_n 0, 1, 0) := m_at_of r_M_isRing (by decide +kernel)
theorem i_M_isRing_33 : m_at k_M_isRing 33 = some (.iload 4, 2, 0) := m_at_of r_M_isRing (by decide +kernel)
theorem i_M_isRing_35 : m_at k_M_isRing 35 = some (.bipush 6, 2, 0) := m_at_of r_M_isRing (by decide +kernel)
theorem i_M_isRing_37 : m_at k_M_isRing 37 = some (.invokevirtual 85, 3, 106) := m_at_of r_M_isRing (by decide +kernel)
theorem i_M_isRing_40 : m_at k_M_isRing 40 = some (.ifCond .ne (17), 3, 0) := m_at_of r_M_isRing (by decide +kernel)
theorem i_M_isRing_43 : m_at k_M_isRing 43 = some (.iload_n 2, 1, 0) := m_at_of r_M_isRing (by decide +kernel)
theorem i_M_isRing_44 : m_at k_M_isRing 44 = some (.aload_n 0, 1, 0) := m_at_of r_M_isRing (by decide +kernel)
theorem i_M_isRing_45 : m_at k_M_isRing 45 = some (.iload 4, 2, 0) := m_at_of r_M_isRing (by decide +kernel)
theorem i_M_isRing_47 : m_at k_M_isRing 47 = some (.iconst 0, 1, 0) := m_at_of r_M_isRing (by decide +kernel)
theorem i_M_isRing_48 : m_at k_M_isRing 48 = some (.invokevirtual 85, 3, 106) := m_at_of r_M_isRing (by decide +kernel)
theorem i_M_isRing_51 : m_at k_M_isRing 51 = some (.invokestatic 264, 3, 130) := m_at_of r_M_isRing (by decide +kernel)
theorem i_M_isRing_54 : m_at k_M_isRing 54 = some (.ifCond .eq (5), 3, 0) := m_at_of r_M_isRing (by decide +kernel)
theorem i_M_isRing_57 : m_at k_M_isRing 57 = some (.iconst 0, 1, 0) := m_at_of r_M_isRing (by decide +kernel)
theorem i_M_isRing_58 : m_at k_M_isRing 58 = some (.ireturn, 1, 0) := m_at_of r_M_isRing (by decide +kernel)
theorem i_M_isRing_59 : m_at k_M_isRing 59 = some (.iload_n 2, 1, 0) := m_at_of r_M_isRing (by decide +kernel)
theorem i_M_isRing_60 : m_at k_M_isRing 60 = some (.iconst 1, 1, 0) := m_at_of r_M_isRing (by decide +kernel)
theorem i_M_isRing_61 : m_at k_M_isRing 61 = some (.aload_n 0, 1, 0) := m_at_of r_M_isRing (by decide +kernel)
theorem i_M_isRing_62 : m_at k_M_isRing 62 = some (.iload 4, 2, 0) := m_at_of r_M_isRing (by decide +kernel)
theorem i_M_isRing_64 : m_at k_M_isRing 64 = some (.iconst 0, 1, 0) := m_at_of r_M_isRing (by decide +kernel)
theorem i_M_isRing_65 : m_at k_M_isRing 65 = some (.invokevirtual 85, 3, 106) := m_at_of r_M_isRing (by decide +kernel)
theorem i_M_isRing_68 : m_at k_M_isRing 68 = some (.ishl, 1, 0) := m_at_of r_M_isRing (by decide +kernel)
theorem i_M_isRing_69 : m_at k_M_isRing 69 = some (.ior, 1, 0) := m_at_of r_M_isRing (by decide +kernel)
theorem i_M_isRing_70 : m_at k_M_isRing 70 = some (.istore_n 2, 1, 0) := m_at_of r_M_isRing (by decide +kernel)
theorem i_M_isRing_71 : m_at k_M_isRing 71 = some (.iload 4, 2, 0) := m_at_of r_M_isRing (by decide +kernel)
theorem i_M_isRing_73 : m_at k_M_isRing 73 = some (.istore_n 3, 1, 0) := m_at_of r_M_isRing (by decide +kernel)
theorem i_M_isRing_74 : m_at k_M_isRing 74 = some (.iinc 4 (-1), 3, 0) := m_at_of r_M_isRing (by decide +kernel)
theorem i_M_isRing_77 : m_at k_M_isRing 77 = some (.goto (-62), 3, 0) := m_at_of r_M_isRing (by decide +kernel)
theorem i_M_isRing_80 : m_at k_M_isRing 80 = some (.aload_n 0, 1, 0) := m_at_of r_M_isRing (by decide +kernel)
theorem i_M_isRing_81 : m_at k_M_isRing 81 = some (.iload_n 3, 1, 0) := m_at_of r_M_isRing (by decide +kernel)
theorem i_M_isRing_82 : m_at k_M_isRing 82 = some (.iconst 1, 1, 0) := m_at_of r_M_isRing (by decide +kernel)
theorem i_M_isRing_83 : m_at k_M_isRing 83 = some (.invokevirtual 85, 3, 106) := m_at_of r_M_isRing (by decide +kernel)
theorem i_M_isRing_86 : m_at k_M_isRing 86 = some (.istore 4, 2, 0) := m_at_of r_M_isRing (by decide +kernel)
theorem i_M_isRing_88 : m_at k_M_isRing 88 = some (.iconst 1, 1, 0) := m_at_of r_M_isRing (by decide +kernel)
theorem i_M_isRing_89 : m_at k_M_isRing 89 = some (.istore 5, 2, 0) := m_at_of r_M_isRing (by decide +kernel)
theorem i_M_isRing_91 : m_at k_M_isRing 91 = some (.iload 4, 2, 0) := m_at_of r_M_isRing (by decide +kernel)
theorem i_M_isRing_93 : m_at k_M_isRing 93 = some (.aload_n 0, 1, 0) := m_at_of r_M_isRing (by decide +kernel)
theorem i_M_isRing_94 : m_at k_M_isRing 94 = some (.iload_n 3, 1, 0) := m_at_of r_M_isRing (by decide +kernel)
theorem i_M_isRing_95 : m_at k_M_isRing 95 = some (.iconst 0, 1, 0) := m_at_of r_M_isRing (by decide +kernel)
theorem i_M_isRing_96 : m_at k_M_isRing 96 = some (.invokevirtual 85, 3, 106) := m_at_of r_M_isRing (by decide +kernel)
theorem i_M_isRing_99 : m_at k_M_isRing 99 = some (.if_icmp .eq (84), 3, 0) := m_at_of r_M_isRing (by decide +kernel)
theorem i_M_isRing_102 : m_at k_M_isRing 102 = some (.iconst (-1), 1, 0) := m_at_of r_M_isRing (by decide +kernel)
theorem i_M_isRing_103 : m_at k_M_isRing 103 = some (.istore 6, 2, 0) := m_at_of r_M_isRing (by decide +kernel)
theorem i_M_isRing_105 : m_at k_M_isRing 105 = some (.iconst 0, 1, 0) := m_at_of r_M_isRing (by decide +kernel)
theorem i_M_isRing_106 : m_at k_M_isRing 106 = some (.istore 7, 2, 0) := m_at_of r_M_isRing (by decide +kernel)
theorem i_M_isRing_108 : m_at k_M_isRing 108 = some (.iload 7, 2, 0) := m_at_of r_M_isRing (by decide +kernel)
theorem i_M_isRing_110 : m_at k_M_isRing 110 = some (.aload_n 0, 1, 0) := m_at_of r_M_isRing (by decide +kernel)
theorem i_M_isRing_111 : m_at k_M_isRing 111 = some (.getfield 7, 3, 0) := m_at_of r_M_isRing (by decide +kernel)
theorem i_M_isRing_114 : m_at k_M_isRing 114 = some (.bipush 11, 2, 0) := m_at_of r_M_isRing (by decide +kernel)
theorem i_M_isRing_116 : m_at k_M_isRing 116 = some (.iaload, 1, 0) := m_at_of r_M_isRing (by decide +kernel)
theorem i_M_isRing_117 : m_at k_M_isRing 117 = some (.if_icmp .ge (34), 3, 0) := m_at_of r_M_isRing (by decide +kernel)
theorem i_M_isRing_120 : m_at k_M_isRing 120 = some (.iload_n 1, 1, 0) := m_at_of r_M_isRing (by decide +kernel)
theorem i_M_isRing_121 : m_at k_M_isRing 121 = some (.iload 7, 2, 0) := m_at_of r_M_isRing (by decide +kernel)
theorem i_M_isRing_123 : m_at k_M_isRing 123 = some (.invokestatic 264, 3, 130) := m_at_of r_M_isRing (by decide +kernel)
theorem i_M_isRing_126 : m_at k_M_isRing 126 = some (.ifCond .eq (19), 3, 0) := m_at_of r_M_isRing (by decide +kernel)
theorem i_M_isRing_129 : m_at k_M_isRing 129 = some (.aload_n 0, 1, 0) := m_at_of r_M_isRing (by decide +kernel)
theorem i_M_isRing_130 : m_at k_M_isRing 130 = some (.iload 7, 2, 0) := m_at_of r_M_isRing (by decide +kernel)
theorem i_M_isRing_132 : m_at k_M_isRing 132 = some (.iconst 0, 1, 0) := m_at_of r_M_isRing (by decide +kernel)
theorem i_M_isRing_133 : m_at k_M_isRing 133 = some (.invokevirtual 85, 3, 106) := m_at_of r_M_isRing (by decide +kernel)
theorem i_M_isRing_136 : m_at k_M_isRing 136 = some (.iload 4, 2, 0) := m_at_of r_M_isRing (by decide +kernel)
theorem i_M_isRing_138 : m_at k_M_isRing 138 = some (.if_icmp .ne (7), 3, 0) := m_at_of r_M_isRing (by decide +kernel)
theorem i_M_isRing_141 : m_at k_M_isRing 141 = some (.iload 7, 2, 0) := m_at_of r_M_isRing (by decide +kernel)
theorem i_M_isRing_143 : m_at k_M_isRing 143 = some (.istore 6, 2, 0) := m_at_of r_M_isRing (by decide +kernel)
theorem i_M_isRing_145 : m_at k_M_isRing 145 = some (.iinc 7 (1), 3, 0) := m_at_of r_M_isRing (by decide +kernel)
theorem i_M_isRing_148 : m_at k_M_isRing 148 = some (.goto (-40), 3, 0) := m_at_of r_M_isRing (by decide +kernel)
theorem i_M_isRing_151 : m_at k_M_isRing 151 = some (.iload 6, 2, 0) := m_at_of r_M_isRing (by decide +kernel)
theorem i_M_isRing_153 : m_at k_M_isRing 153 = some (.iconst (-1), 1, 0) := m_at_of r_M_isRing (by decide +kernel)
theorem i_M_isRing_154 : m_at k_M_isRing 154 = some (.if_icmp .eq (12), 3, 0) := m_at_of r_M_isRing (by decide +kernel)
theorem i_M_isRing_157 : m_at k_M_isRing 157 = some (.iload 5, 2, 0) := m_at_of r_M_isRing (by decide +kernel)
theorem i_M_isRing_159 : m_at k_M_isRing 159 = some (.iload_n 1, 1, 0) := m_at_of r_M_isRing (by decide +kernel)
theorem i_M_isRing_160 : m_at k_M_isRing 160 = some (.invokestatic 444, 3, 128) := m_at_of r_M_isRing (by decide +kernel)
theorem i_M_isRing_163 : m_at k_M_isRing 163 = some (.if_icmp .ne (5), 3, 0) := m_at_of r_M_isRing (by decide +kernel)
theorem i_M_isRing_166 : m_at k_M_isRing 166 = some (.iconst 0, 1, 0) := m_at_of r_M_isRing (by decide +kernel)
theorem i_M_isRing_167 : m_at k_M_isRing 167 = some (.ireturn, 1, 0) := m_at_of r_M_isRing (by decide +kernel)
theorem i_M_isRing_168 : m_at k_M_isRing 168 = some (.aload_n 0, 1, 0) := m_at_of r_M_isRing (by decide +kernel)
theorem i_M_isRing_169 : m_at k_M_isRing 169 = some (.iload 6, 2, 0) := m_at_of r_M_isRing (by decide +kernel)
theorem i_M_isRing_171 : m_at k_M_isRing 171 = some (.iconst 1, 1, 0) := m_at_of r_M_isRing (by decide +kernel)
theorem i_M_isRing_172 : m_at k_M_isRing 172 = some (.invokevirtual 85, 3, 106) := m_at_of r_M_isRing (by decide +kernel)
theorem i_M_isRing_175 : m_at k_M_isRing 175 = some (.istore 4, 2, 0) := m_at_of r_M_isRing (by decide +kernel)
theorem i_M_isRing_177 : m_at k_M_isRing 177 = some (.iinc 5 (1), 3, 0) := m_at_of r_M_isRing (by decide +kernel)
theorem i_M_isRing_180 : m_at k_M_isRing 180 = some (.goto (-89), 3, 0) := m_at_of r_M_isRing (by decide +kernel)
theorem i_M_isRing_183 : m_at k_M_isRing 183 = some (.iload 5, 2, 0) := m_at_of r_M_isRing (by decide +kernel)
theorem i_M_isRing_185 : m_at k_M_isRing 185 = some (.iload_n 1, 1, 0) := m_at_of r_M_isRing (by decide +kernel)
theorem i_M_isRing_186 : m_at k_M_isRing 186 = some (.invokestatic 444, 3, 128) := m_at_of r_M_isRing (by decide +kernel)
theorem i_M_isRing_189 : m_at k_M_isRing 189 = some (.if_icmp .ne (7), 3, 0) := m_at_of r_M_isRing (by decide +kernel)
theorem i_M_isRing_192 : m_at k_M_isRing 192 = some (.iconst 1, 1, 0) := m_at_of r_M_isRing (by decide +kernel)
theorem i_M_isRing_193 : m_at k_M_isRing 193 = some (.goto (4), 3, 0) := m_at_of r_M_isRing (by decide +kernel)
theorem i_M_isRing_196 : m_at k_M_isRing 196 = some (.iconst 0, 1, 0) := m_at_of r_M_isRing (by decide +kernel)
theorem i_M_isRing_197 : m_at k_M_isRing 197 = some (.ireturn, 1, 0) := m_at_of r_M_isRing (by decide +kernel)
set_option maxRecDepth 20000 in
set_option maxHeartbeats 1000000 in
theorem E_M_isRing (x : m_X) (s : m_H) (w : Nat) (n1 : Int32) : m_M x k_M_isRing [.ref w, .int n1] s = if m_isO s w 11 = true then ((m_fR s 11 0 w).bind fun v5 => (m_ia x s v5 11).bind fun v10 => m_D x 2 k_M_isRing 15 [some (.ref w), some (.int n1), some (.int 0), some (.int (-1)), some (.int (v10 - (1 : Int32))), none, none, none] [] s) else none := by
  refine e_M1 (L0 := [some (.ref w), some (.int n1), none, none, none, none, none, none]) rfl (by decide +kernel) rfl (q_M_isRing _) rfl ?_
  refine e_iconst (v := 0) i_M_isRing_0 (by decide) ?_
  refine e_istore_n (L' := [some (.ref w), some (.int n1), some (.int 0), none, none, none, none, none]) i_M_isRing_1 (of_decide_eq_true rfl) rfl ?_
  refine e_iconst (v := (-1)) i_M_isRing_2 (by decide) ?_
  refine e_istore_n (L' := [some (.ref w), some (.int n1), some (.int 0), some (.int (-1)), none, none, none, none]) i_M_isRing_3 (of_decide_eq_true rfl) rfl ?_
  refine e_aload_n i_M_isRing_4 rfl ?_
  refine e_getR i_M_isRing_5 lf_0 (by decide) ft_11_0 (fun v5 => ?_)
  refine e_bipush (v := 11) i_M_isRing_8 (by decide) ?_
  refine e_iald i_M_isRing_10 (fun v10 => ?_)
  refine e_iconst (v := 1) i_M_isRing_11 (by decide) ?_
  refine e_isub i_M_isRing_12 ?_
  refine e_istore (L' := [some (.ref w), some (.int n1), some (.int 0), some (.int (-1)), some (.int (v10 - (1 : Int32))), none, none, none]) i_M_isRing_13 (of_decide_eq_true rfl) rfl ?_
  exact rfl
set_option maxRecDepth 20000 in
set_option maxHeartbeats 1000000 in
theorem E_M_isRing_15 (x : m_X) (ρ : Nat) (hρ : 2 ≤ ρ) (s : m_H) (w : Nat) (n1 : Int32) (n2 : Int32) (n3 : Int32) (n4 : Int32)  : m_D x ρ k_M_isRing 15 [some (.ref w), some (.int n1), some (.int n2), some (.int n3), some (.int n4), none, none, none] [] s = if n4 < 0 then (m_bI (m_M x k_M_get [.ref w, .int n3, .int 1] s) fun v83 s83 => m_D x ρ k_M_isRing 91 [some (.ref w), some (.int n1), some (.int n2), some (.int n3), some (.int v83), some (.int 1), none, none] [] s83) else m_bI (m_M x k_M_has [.int n1, .int n4] s) fun v23 s23 => if v23 = 0 then (m_D x ρ k_M_isRing 15 [some (.ref w), some (.int n1), some (.int n2), some (.int n3), some (.int (n4 + (-1 : Int32))), none, none, none] [] s23) else m_bI (m_M x k_M_get [.ref w, .int n4, .int 6] s23) fun v37 s37 => if v37 = 0 then (m_bI (m_M x k_M_get [.ref w, .int n4, .int 0] s37) fun v48 s48 => m_bI (m_M x k_M_has [.int n2, .int v48] s48) fun v51 s51 => if v51 = 0 then (m_bI (m_M x k_M_get [.ref w, .int n4, .int 0] s51) fun v65 s65 => m_D x ρ k_M_isRing 15 [some (.ref w), some (.int n1), some (.int (n2 ||| ((1 : Int32) <<< (v65 &&& (31 : Int32))))), some (.int n4), some (.int (n4 + (-1 : Int32))), none, none, none] [] s65) else some (some (.int 0), s51)) else some (some (.int 0), s37) := by
  refine e_iload i_M_isRing_15 rfl ?_
  refine e_iflt (t := 80) i_M_isRing_17 (by decide) ?_ ?_
  · refine e_aload_n i_M_isRing_80 rfl ?_
    refine e_iload_n i_M_isRing_81 rfl ?_
    refine e_iconst (v := 1) i_M_isRing_82 (by decide) ?_
    refine e_callI (as := [.ref w, .int n3, .int 1]) (st' := []) i_M_isRing_83 lm_106 (Or.inr (Or.inl ⟨rfl, rfl⟩)) w_M_get rfl rfl rfl (Nat.le_of_ble_eq_true rfl) (Nat.le_of_ble_eq_true rfl) (m_rlt (q_M_get _) (Nat.lt_of_lt_of_le (by decide) hρ)) rfl (fun v83 s83 => ?_)
    refine e_istore (L' := [some (.ref w), some (.int n1), some (.int n2), some (.int n3), some (.int v83), none, none, none]) i_M_isRing_86 (of_decide_eq_true rfl) rfl ?_
    refine e_iconst (v := 1) i_M_isRing_88 (by decide) ?_
    refine e_istore (L' := [some (.ref w), some (.int n1), some (.int n2), some (.int n3), some (.int v83), some (.int 1), none, none]) i_M_isRing_89 (of_decide_eq_true rfl) rfl ?_
    exact rfl
  · refine e_iload_n i_M_isRing_20 rfl ?_
    refine e_iload i_M_isRing_21 rfl ?_
    refine e_callI (as := [.int n1, .int n4]) (st' := []) i_M_isRing_23 lm_130 (Or.inl ⟨rfl, rfl⟩) w_M_has rfl rfl rfl (Nat.le_of_ble_eq_true rfl) (Nat.le_of_ble_eq_true rfl) (m_rlt (q_M_has _) (Nat.lt_of_lt_of_le (by decide) hρ)) rfl (fun v23 s23 => ?_)
    refine e_ifne (t := 32) i_M_isRing_26 (by decide) ?_ ?_
    · refine e_aload_n i_M_isRing_32 rfl ?_
      refine e_iload i_M_isRing_33 rfl ?_
      refine e_bipush (v := 6) i_M_isRing_35 (by decide) ?_
      refine e_callI (as := [.ref w, .int n4, .int 6]) (st' := []) i_M_isRing_37 lm_106 (Or.inr (Or.inl ⟨rfl, rfl⟩)) w_M_get rfl rfl rfl (Nat.le_of_ble_eq_true rfl) (Nat.le_of_ble_eq_true rfl) (m_rlt (q_M_get _) (Nat.lt_of_lt_of_le (by decide) hρ)) rfl (fun v37 s37 => ?_)
      refine e_ifne (t := 57) i_M_isRing_40 (by decide) ?_ ?_
      · refine e_iconst (v := 0) i_M_isRing_57 (by decide) ?_
        exact e_iretZ i_M_isRing_58 rfl (by decide)
      · refine e_iload_n i_M_isRing_43 rfl ?_
        refine e_aload_n i_M_isRing_44 rfl ?_
        refine e_iload i_M_isRing_45 rfl ?_
        refine e_iconst (v := 0) i_M_isRing_47 (by decide) ?_
        refine e_callI (as := [.ref w, .int n4, .int 0]) (st' := [.int n2]) i_M_isRing_48 lm_106 (Or.inr (Or.inl ⟨rfl, rfl⟩)) w_M_get rfl rfl rfl (Nat.le_of_ble_eq_true rfl) (Nat.le_of_ble_eq_true rfl) (m_rlt (q_M_get _) (Nat.lt_of_lt_of_le (by decide) hρ)) rfl (fun v48 s48 => ?_)
        refine e_callI (as := [.int n2, .int v48]) (st' := []) i_M_isRing_51 lm_130 (Or.inl ⟨rfl, rfl⟩) w_M_has rfl rfl rfl (Nat.le_of_ble_eq_true rfl) (Nat.le_of_ble_eq_true rfl) (m_rlt (q_M_has _) (Nat.lt_of_lt_of_le (by decide) hρ)) rfl (fun v51 s51 => ?_)
        refine e_ifeq (t := 59) i_M_isRing_54 (by decide) ?_ ?_
        · refine e_iload_n i_M_isRing_59 rfl ?_
          refine e_iconst (v := 1) i_M_isRing_60 (by decide) ?_
          refine e_aload_n i_M_isRing_61 rfl ?_
          refine e_iload i_M_isRing_62 rfl ?_
          refine e_iconst (v := 0) i_M_isRing_64 (by decide) ?_
          refine e_callI (as := [.ref w, .int n4, .int 0]) (st' := [.int 1, .int n2]) i_M_isRing_65 lm_106 (Or.inr (Or.inl ⟨rfl, rfl⟩)) w_M_get rfl rfl rfl (Nat.le_of_ble_eq_true rfl) (Nat.le_of_ble_eq_true rfl) (m_rlt (q_M_get _) (Nat.lt_of_lt_of_le (by decide) hρ)) rfl (fun v65 s65 => ?_)
          refine e_ishl i_M_isRing_68 ?_
          refine e_ior i_M_isRing_69 ?_
          refine e_istore_n (L' := [some (.ref w), some (.int n1), some (.int (n2 ||| ((1 : Int32) <<< (v65 &&& (31 : Int32))))), some (.int n3), some (.int n4), none, none, none]) i_M_isRing_70 (of_decide_eq_true rfl) rfl ?_
          refine e_iload i_M_isRing_71 rfl ?_
          refine e_istore_n (L' := [some (.ref w), some (.int n1), some (.int (n2 ||| ((1 : Int32) <<< (v65 &&& (31 : Int32))))), some (.int n4), some (.int n4), none, none, none]) i_M_isRing_73 (of_decide_eq_true rfl) rfl ?_
          refine e_iinc (w := (-1)) (L' := [some (.ref w), some (.int n1), some (.int (n2 ||| ((1 : Int32) <<< (v65 &&& (31 : Int32))))), some (.int n4), some (.int (n4 + (-1 : Int32))), none, none, none]) i_M_isRing_74 rfl (of_decide_eq_true rfl) (by decide) rfl ?_
          refine e_goto (t := 15) i_M_isRing_77 (by decide) ?_
          exact rfl
        · refine e_iconst (v := 0) i_M_isRing_57 (by decide) ?_
          exact e_iretZ i_M_isRing_58 rfl (by decide)
    · refine e_goto (t := 74) i_M_isRing_29 (by decide) ?_
      refine e_iinc (w := (-1)) (L' := [some (.ref w), some (.int n1), some (.int n2), some (.int n3), some (.int (n4 + (-1 : Int32))), none, none, none]) i_M_isRing_74 rfl (of_decide_eq_true rfl) (by decide) rfl ?_
      refine e_goto (t := 15) i_M_isRing_77 (by decide) ?_
      exact rfl
set_option maxRecDepth 20000 in
set_option maxHeartbeats 1000000 in
theorem E_M_isRing_91 (x : m_X) (ρ : Nat) (hρ : 2 ≤ ρ) (s : m_H) (w : Nat) (n1 : Int32) (n2 : Int32) (n3 : Int32) (n4 : Int32) (n5 : Int32) (d6 : Option Value) (d7 : Option Value) (hd6 : m_nl d6 = true) (hd7 : m_nl d7 = true) : m_D x ρ k_M_isRing 91 [some (.ref w), some (.int n1), some (.int n2), some (.int n3), some (.int n4), some (.int n5), d6, d7] [] s = m_bI (m_M x k_M_get [.ref w, .int n3, .int 0] s) fun v96 s96 => if n4 = v96 then (m_bI (m_M x k_M_bits [.int n1] s96) fun v186 s186 => if n5 = v186 then (some (some (.int 1), s186)) else some (some (.int 0), s186)) else m_D x ρ k_M_isRing 108 [some (.ref w), some (.int n1), some (.int n2), some (.int n3), some (.int n4), some (.int n5), some (.int (-1)), some (.int 0)] [] s96 := by
  refine e_iload i_M_isRing_91 rfl ?_
  refine e_aload_n i_M_isRing_93 rfl ?_
  refine e_iload_n i_M_isRing_94 rfl ?_
  refine e_iconst (v := 0) i_M_isRing_95 (by decide) ?_
  refine e_callI (as := [.ref w, .int n3, .int 0]) (st' := [.int n4]) i_M_isRing_96 lm_106 (Or.inr (Or.inl ⟨rfl, rfl⟩)) w_M_get rfl rfl rfl (Nat.le_of_ble_eq_true rfl) (Nat.le_of_ble_eq_true rfl) (m_rlt (q_M_get _) (Nat.lt_of_lt_of_le (by decide) hρ)) rfl (fun v96 s96 => ?_)
  refine e_icmpeq (t := 183) i_M_isRing_99 (by decide) ?_ ?_
  · refine e_iload i_M_isRing_183 rfl ?_
    refine e_iload_n i_M_isRing_185 rfl ?_
    refine e_callI (as := [.int n1]) (st' := [.int n5]) i_M_isRing_186 lm_128 (Or.inl ⟨rfl, rfl⟩) w_M_bits rfl rfl rfl (Nat.le_of_ble_eq_true rfl) (Nat.le_of_ble_eq_true rfl) (m_rlt (q_M_bits _) (Nat.lt_of_lt_of_le (by decide) hρ)) rfl (fun v186 s186 => ?_)
    refine e_icmpne (t := 196) i_M_isRing_189 (by decide) ?_ ?_
    · refine e_iconst (v := 0) i_M_isRing_196 (by decide) ?_
      exact e_iretZ i_M_isRing_197 rfl (by decide)
    · refine e_iconst (v := 1) i_M_isRing_192 (by decide) ?_
      refine e_goto (t := 197) i_M_isRing_193 (by decide) ?_
      exact e_iretZ i_M_isRing_197 rfl (by decide)
  · refine e_iconst (v := (-1)) i_M_isRing_102 (by decide) ?_
    refine e_istore (L' := [some (.ref w), some (.int n1), some (.int n2), some (.int n3), some (.int n4), some (.int n5), some (.int (-1)), d7]) i_M_isRing_103 (of_decide_eq_true rfl) rfl ?_
    refine e_iconst (v := 0) i_M_isRing_105 (by decide) ?_
    refine e_istore (L' := [some (.ref w), some (.int n1), some (.int n2), some (.int n3), some (.int n4), some (.int n5), some (.int (-1)), some (.int 0)]) i_M_isRing_106 (of_decide_eq_true rfl) rfl ?_
    exact rfl
set_option maxRecDepth 20000 in
set_option maxHeartbeats 1000000 in
theorem E_M_isRing_108 (x : m_X) (ρ : Nat) (hρ : 2 ≤ ρ) (s : m_H) (w : Nat) (n1 : Int32) (n2 : Int32) (n3 : Int32) (n4 : Int32) (n5 : Int32) (n6 : Int32) (n7 : Int32)  : m_D x ρ k_M_isRing 108 [some (.ref w), some (.int n1), some (.int n2), some (.int n3), some (.int n4), some (.int n5), some (.int n6), some (.int n7)] [] s = (m_fR s 11 0 w).bind fun v111 => (m_ia x s v111 11).bind fun v116 => if v116 ≤ n7 then (if n6 = (-1) then (some (some (.int 0), s)) else m_bI (m_M x k_M_bits [.int n1] s) fun v160 s160 => if n5 = v160 then (some (some (.int 0), s160)) else m_bI (m_M x k_M_get [.ref w, .int n6, .int 1] s160) fun v172 s172 => m_D x ρ k_M_isRing 91 [some (.ref w), some (.int n1), some (.int n2), some (.int n3), some (.int v172), some (.int (n5 + (1 : Int32))), some (.int n6), some (.int n7)] [] s172) else m_bI (m_M x k_M_has [.int n1, .int n7] s) fun v123 s123 => if v123 = 0 then (m_D x ρ k_M_isRing 108 [some (.ref w), some (.int n1), some (.int n2), some (.int n3), some (.int n4), some (.int n5), some (.int n6), some (.int (n7 + (1 : Int32)))] [] s123) else m_bI (m_M x k_M_get [.ref w, .int n7, .int 0] s123) fun v133 s133 => if v133 = n4 then (m_D x ρ k_M_isRing 108 [some (.ref w), some (.int n1), some (.int n2), some (.int n3), some (.int n4), some (.int n5), some (.int n7), some (.int (n7 + (1 : Int32)))] [] s133) else m_D x ρ k_M_isRing 108 [some (.ref w), some (.int n1), some (.int n2), some (.int n3), some (.int n4), some (.int n5), some (.int n6), some (.int (n7 + (1 : Int32)))] [] s133 := by
  refine e_iload i_M_isRing_108 rfl ?_
  refine e_aload_n i_M_isRing_110 rfl ?_
  refine e_getR i_M_isRing_111 lf_0 (by decide) ft_11_0 (fun v111 => ?_)
  refine e_bipush (v := 11) i_M_isRing_114 (by decide) ?_
  refine e_iald i_M_isRing_116 (fun v116 => ?_)
  refine e_icmpge (t := 151) i_M_isRing_117 (by decide) ?_ ?_
  · refine e_iload i_M_isRing_151 rfl ?_
    refine e_iconst (v := (-1)) i_M_isRing_153 (by decide) ?_
    refine e_icmpeq (t := 166) i_M_isRing_154 (by decide) ?_ ?_
    · refine e_iconst (v := 0) i_M_isRing_166 (by decide) ?_
      exact e_iretZ i_M_isRing_167 rfl (by decide)
    · refine e_iload i_M_isRing_157 rfl ?_
      refine e_iload_n i_M_isRing_159 rfl ?_
      refine e_callI (as := [.int n1]) (st' := [.int n5]) i_M_isRing_160 lm_128 (Or.inl ⟨rfl, rfl⟩) w_M_bits rfl rfl rfl (Nat.le_of_ble_eq_true rfl) (Nat.le_of_ble_eq_true rfl) (m_rlt (q_M_bits _) (Nat.lt_of_lt_of_le (by decide) hρ)) rfl (fun v160 s160 => ?_)
      refine e_icmpne (t := 168) i_M_isRing_163 (by decide) ?_ ?_
      · refine e_aload_n i_M_isRing_168 rfl ?_
        refine e_iload i_M_isRing_169 rfl ?_
        refine e_iconst (v := 1) i_M_isRing_171 (by decide) ?_
        refine e_callI (as := [.ref w, .int n6, .int 1]) (st' := []) i_M_isRing_172 lm_106 (Or.inr (Or.inl ⟨rfl, rfl⟩)) w_M_get rfl rfl rfl (Nat.le_of_ble_eq_true rfl) (Nat.le_of_ble_eq_true rfl) (m_rlt (q_M_get _) (Nat.lt_of_lt_of_le (by decide) hρ)) rfl (fun v172 s172 => ?_)
        refine e_istore (L' := [some (.ref w), some (.int n1), some (.int n2), some (.int n3), some (.int v172), some (.int n5), some (.int n6), some (.int n7)]) i_M_isRing_175 (of_decide_eq_true rfl) rfl ?_
        refine e_iinc (w := 1) (L' := [some (.ref w), some (.int n1), some (.int n2), some (.int n3), some (.int v172), some (.int (n5 + (1 : Int32))), some (.int n6), some (.int n7)]) i_M_isRing_177 rfl (of_decide_eq_true rfl) (by decide) rfl ?_
        refine e_goto (t := 91) i_M_isRing_180 (by decide) ?_
        exact rfl
      · refine e_iconst (v := 0) i_M_isRing_166 (by decide) ?_
        exact e_iretZ i_M_isRing_167 rfl (by decide)
  · refine e_iload_n i_M_isRing_120 rfl ?_
    refine e_iload i_M_isRing_121 rfl ?_
    refine e_callI (as := [.int n1, .int n7]) (st' := []) i_M_isRing_123 lm_130 (Or.inl ⟨rfl, rfl⟩) w_M_has rfl rfl rfl (Nat.le_of_ble_eq_true rfl) (Nat.le_of_ble_eq_true rfl) (m_rlt (q_M_has _) (Nat.lt_of_lt_of_le (by decide) hρ)) rfl (fun v123 s123 => ?_)
    refine e_ifeq (t := 145) i_M_isRing_126 (by decide) ?_ ?_
    · refine e_iinc (w := 1) (L' := [some (.ref w), some (.int n1), some (.int n2), some (.int n3), some (.int n4), some (.int n5), some (.int n6), some (.int (n7 + (1 : Int32)))]) i_M_isRing_145 rfl (of_decide_eq_true rfl) (by decide) rfl ?_
      refine e_goto (t := 108) i_M_isRing_148 (by decide) ?_
      exact rfl
    · refine e_aload_n i_M_isRing_129 rfl ?_
      refine e_iload i_M_isRing_130 rfl ?_
      refine e_iconst (v := 0) i_M_isRing_132 (by decide) ?_
      refine e_callI (as := [.ref w, .int n7, .int 0]) (st' := []) i_M_isRing_133 lm_106 (Or.inr (Or.inl ⟨rfl, rfl⟩)) w_M_get rfl rfl rfl (Nat.le_of_ble_eq_true rfl) (Nat.le_of_ble_eq_true rfl) (m_rlt (q_M_get _) (Nat.lt_of_lt_of_le (by decide) hρ)) rfl (fun v133 s133 => ?_)
      refine e_iload i_M_isRing_136 rfl ?_
      refine e_icmpne (t := 145) i_M_isRing_138 (by decide) ?_ ?_
      · refine e_iinc (w := 1) (L' := [some (.ref w), some (.int n1), some (.int n2), some (.int n3), some (.int n4), some (.int n5), some (.int n6), some (.int (n7 + (1 : Int32)))]) i_M_isRing_145 rfl (of_decide_eq_true rfl) (by decide) rfl ?_
        refine e_goto (t := 108) i_M_isRing_148 (by decide) ?_
        exact rfl
      · refine e_iload i_M_isRing_141 rfl ?_
        refine e_istore (L' := [some (.ref w), some (.int n1), some (.int n2), some (.int n3), some (.int n4), some (.int n5), some (.int n7), some (.int n7)]) i_M_isRing_143 (of_decide_eq_true rfl) rfl ?_
        refine e_iinc (w := 1) (L' := [some (.ref w), some (.int n1), some (.int n2), some (.int n3), some (.int n4), some (.int n5), some (.int n7), some (.int (n7 + (1 : Int32)))]) i_M_isRing_145 rfl (of_decide_eq_true rfl) (by decide) rfl ?_
        refine e_goto (t := 108) i_M_isRing_148 (by decide) ?_
        exact rfl
theorem i_M_frosts_0 : m_at k_M_frosts 0 = some (.iload_n 1, 1, 0) := m_at_of r_M_frosts (by decide +kernel)
theorem i_M_frosts_1 : m_at k_M_frosts 1 = some (.iconst 0, 1, 0) := m_at_of r_M_frosts (by decide +kernel)
theorem i_M_frosts_2 : m_at k_M_frosts 2 = some (.bipush 10, 2, 0) := m_at_of r_M_frosts (by decide +kernel)
theorem i_M_frosts_4 : m_at k_M_frosts 4 = some (.invokestatic 81, 3, 96) := m_at_of r_M_frosts (by decide +kernel)
theorem i_M_frosts_7 : m_at k_M_frosts 7 = some (.ifCond .eq (33), 3, 0) := m_at_of r_M_frosts (by decide +kernel)
theorem i_M_frosts_10 : m_at k_M_frosts 10 = some (.iload_n 2, 1, 0) := m_at_of r_M_frosts (by decide +kernel)
theorem i_M_frosts_11 : m_at k_M_frosts 11 = some (.iconst 0, 1, 0) := m_at_of r_M_frosts (by decide +kernel)
theorem i_M_frosts_12 : m_at k_M_frosts 12 = some (.bipush 10, 2, 0) := m_at_of r_M_frosts (by decide +kernel)
theorem i_M_frosts_14 : m_at k_M_frosts 14 = some (.invokestatic 81, 3, 96) := m_at_of r_M_frosts (by decide +kernel)
theorem i_M_frosts_17 : m_at k_M_frosts 17 = some (.ifCond .eq (23), 3, 0) := m_at_of r_M_frosts (by decide +kernel)
theorem i_M_frosts_20 : m_at k_M_frosts 20 = some (.iload_n 3, 1, 0) := m_at_of r_M_frosts (by decide +kernel)
theorem i_M_frosts_21 : m_at k_M_frosts 21 = some (.iconst 1, 1, 0) := m_at_of r_M_frosts (by decide +kernel)
theorem i_M_frosts_22 : m_at k_M_frosts 22 = some (.bipush 8, 2, 0) := m_at_of r_M_frosts (by decide +kernel)
theorem i_M_frosts_24 : m_at k_M_frosts 24 = some (.invokestatic 81, 3, 96) := m_at_of r_M_frosts (by decide +kernel)
theorem i_M_frosts_27 : m_at k_M_frosts 27 = some (.ifCond .eq (13), 3, 0) := m_at_of r_M_frosts (by decide +kernel)
theorem i_M_frosts_30 : m_at k_M_frosts 30 = some (.iload 4, 2, 0) := m_at_of r_M_frosts (by decide +kernel)
theorem i_M_frosts_32 : m_at k_M_frosts 32 = some (.iconst 0, 1, 0) := m_at_of r_M_frosts (by decide +kernel)
theorem i_M_frosts_33 : m_at k_M_frosts 33 = some (.iload_n 3, 1, 0) := m_at_of r_M_frosts (by decide +kernel)
theorem i_M_frosts_34 : m_at k_M_frosts 34 = some (.invokestatic 81, 3, 96) := m_at_of r_M_frosts (by decide +kernel)
theorem i_M_frosts_37 : m_at k_M_frosts 37 = some (.ifCond .ne (5), 3, 0) := m_at_of r_M_frosts (by decide +kernel)
theorem i_M_frosts_40 : m_at k_M_frosts 40 = some (.iconst (-1), 1, 0) := m_at_of r_M_frosts (by decide +kernel)
theorem i_M_frosts_41 : m_at k_M_frosts 41 = some (.ireturn, 1, 0) := m_at_of r_M_frosts (by decide +kernel)
theorem i_M_frosts_42 : m_at k_M_frosts 42 = some (.iconst 0, 1, 0) := m_at_of r_M_frosts (by decide +kernel)
theorem i_M_frosts_43 : m_at k_M_frosts 43 = some (.istore 6, 2, 0) := m_at_of r_M_frosts (by decide +kernel)
theorem i_M_frosts_45 : m_at k_M_frosts 45 = some (.iload 6, 2, 0) := m_at_of r_M_frosts (by decide +kernel)
theorem i_M_frosts_47 : m_at k_M_frosts 47 = some (.bipush 10, 2, 0) := m_at_of r_M_frosts (by decide +kernel)
theorem i_M_frosts_49 : m_at k_M_frosts 49 = some (.if_icmp .ge (34), 3, 0) := m_at_of r_M_frosts (by decide +kernel)
theorem i_M_frosts_52 : m_at k_M_frosts 52 = some (.aload_n 0, 1, 0) := m_at_of r_M_frosts (by decide +kernel)
theorem i_M_frosts_53 : m_at k_M_frosts 53 = some (.getfield 71, 3, 41) := m_at_of r_M_frosts (by decide +kernel)
theorem i_M_frosts_56 : m_at k_M_frosts 56 = some (.iload 6, 2, 0) := m_at_of r_M_frosts (by decide +kernel)
theorem i_M_frosts_58 : m_at k_M_frosts 58 = some (.iload 6, 2, 0) := m_at_of r_M_frosts (by decide +kernel)
theorem i_M_frosts_60 : m_at k_M_frosts 60 = some (.ifCond .ne (7), 3, 0) := m_at_of r_M_frosts (by decide +kernel)
theorem i_M_frosts_63 : m_at k_M_frosts 63 = some (.lconst 1, 1, 0) := m_at_of r_M_frosts (by decide +kernel)
theorem i_M_frosts_64 : m_at k_M_frosts 64 = some (.goto (4), 3, 0) := m_at_of r_M_frosts (by decide +kernel)
theorem i_M_frosts_67 : m_at k_M_frosts 67 = some (.lconst 0, 1, 0) := m_at_of r_M_frosts (by decide +kernel)
theorem i_M_frosts_68 : m_at k_M_frosts 68 = some (.lastore, 1, 0) := m_at_of r_M_frosts (by decide +kernel)
theorem i_M_frosts_69 : m_at k_M_frosts 69 = some (.aload_n 0, 1, 0) := m_at_of r_M_frosts (by decide +kernel)
theorem i_M_frosts_70 : m_at k_M_frosts 70 = some (.getfield 74, 3, 42) := m_at_of r_M_frosts (by decide +kernel)
theorem i_M_frosts_73 : m_at k_M_frosts 73 = some (.iload 6, 2, 0) := m_at_of r_M_frosts (by decide +kernel)
theorem i_M_frosts_75 : m_at k_M_frosts 75 = some (.lconst 0, 1, 0) := m_at_of r_M_frosts (by decide +kernel)
theorem i_M_frosts_76 : m_at k_M_frosts 76 = some (.lastore, 1, 0) := m_at_of r_M_frosts (by decide +kernel)
theorem i_M_frosts_77 : m_at k_M_frosts 77 = some (.iinc 6 (1), 3, 0) := m_at_of r_M_frosts (by decide +kernel)
theorem i_M_frosts_80 : m_at k_M_frosts 80 = some (.goto (-35), 3, 0) := m_at_of r_M_frosts (by decide +kernel)
theorem i_M_frosts_83 : m_at k_M_frosts 83 = some (.lconst 1, 1, 0) := m_at_of r_M_frosts (by decide +kernel)
theorem i_M_frosts_84 : m_at k_M_frosts 84 = some (.lstore 6, 2, 0) := m_at_of r_M_frosts (by decide +kernel)
theorem i_M_frosts_86 : m_at k_M_frosts 86 = some (.iconst 0, 1, 0) := m_at_of r_M_frosts (by decide +kernel)
theorem i_M_frosts_87 : m_at k_M_frosts 87 = some (.istore 8, 2, 0) := m_at_of r_M_frosts (by decide +kernel)
theorem i_M_frosts_89 : m_at k_M_frosts 89 = some (.iload 8, 2, 0) := m_at_of r_M_frosts (by decide +kernel)
theorem i_M_frosts_91 : m_at k_M_frosts 91 = some (.iload_n 3, 1, 0) := m_at_of r_M_frosts (by decide +kernel)
theorem i_M_frosts_92 : m_at k_M_frosts 92 = some (.if_icmp .ge (110), 3, 0) := m_at_of r_M_frosts (by decide +kernel)
theorem i_M_frosts_95 : m_at k_M_frosts 95 = some (.iload_n 3, 1, 0) := m_at_of r_M_frosts (by decide +kernel)
theorem i_M_frosts_96 : m_at k_M_frosts 96 = some (.istore 9, 2, 0) := m_at_of r_M_frosts (by decide +kernel)
theorem i_M_frosts_98 : m_at k_M_frosts 98 = some (.iload 9, 2, 0) := m_at_of r_M_frosts (by decide +kernel)
theorem i_M_frosts_100 : m_at k_M_frosts 100 = some (.ifCond .lt (88), 3, 0) := m_at_of r_M_frosts (by decide +kernel)
theorem i_M_frosts_103 : m_at k_M_frosts 103 = some (.iload 9, 2, 0) := m_at_of r_M_frosts (by decide +kernel)
theorem i_M_frosts_105 : m_at k_M_frosts 105 = some (.ifCond .ne (7), 3, 0) := m_at_of r_M_frosts (by decide +kernel)
theorem i_M_frosts_108 : m_at k_M_frosts 108 = some (.lconst 0, 1, 0) := m_at_of r_M_frosts (by decide +kernel)
theorem i_M_frosts_109 : m_at k_M_frosts 109 = some (.goto (28), 3, 0) := m_at_of r_M_frosts (by decide +kernel)
theorem i_M_frosts_112 : m_at k_M_frosts 112 = some (.aload_n 0, 1, 0) := m_at_of r_M_frosts (by decide +kernel)
theorem i_M_frosts_113 : m_at k_M_frosts 113 = some (.getfield 71, 3, 41) := m_at_of r_M_frosts (by decide +kernel)
theorem i_M_frosts_116 : m_at k_M_frosts 116 = some (.iload 9, 2, 0) := m_at_of r_M_frosts (by decide +kernel)
theorem i_M_frosts_118 : m_at k_M_frosts 118 = some (.iconst 1, 1, 0) := m_at_of r_M_frosts (by decide +kernel)
theorem i_M_frosts_119 : m_at k_M_frosts 119 = some (.isub, 1, 0) := m_at_of r_M_frosts (by decide +kernel)
theorem i_M_frosts_120 : m_at k_M_frosts 120 = some (.laload, 1, 0) := m_at_of r_M_frosts (by decide +kernel)
theorem i_M_frosts_121 : m_at k_M_frosts 121 = some (.iload_n 2, 1, 0) := m_at_of r_M_frosts (by decide +kernel)
theorem i_M_frosts_122 : m_at k_M_frosts 122 = some (.i2l, 1, 0) := m_at_of r_M_frosts (by decide +kernel)
theorem i_M_frosts_123 : m_at k_M_frosts 123 = some (.lmul, 1, 0) := m_at_of r_M_frosts (by decide +kernel)
theorem i_M_frosts_124 : m_at k_M_frosts 124 = some (.aload_n 0, 1, 0) := m_at_of r_M_frosts (by decide +kernel)
theorem i_M_frosts_125 : m_at k_M_frosts 125 = some (.getfield 74, 3, 42) := m_at_of r_M_frosts (by decide +kernel)
theorem i_M_frosts_128 : m_at k_M_frosts 128 = some (.iload 9, 2, 0) := m_at_of r_M_frosts (by decide +kernel)
theorem i_M_frosts_130 : m_at k_M_frosts 130 = some (.iconst 1, 1, 0) := m_at_of r_M_frosts (by decide +kernel)
theorem i_M_frosts_131 : m_at k_M_frosts 131 = some (.isub, 1, 0) := m_at_of r_M_frosts (by decide +kernel)
theorem i_M_frosts_132 : m_at k_M_frosts 132 = some (.laload, 1, 0) := m_at_of r_M_frosts (by decide +kernel)
theorem i_M_frosts_133 : m_at k_M_frosts 133 = some (.iload_n 1, 1, 0) := m_at_of r_M_frosts (by decide +kernel)
theorem i_M_frosts_134 : m_at k_M_frosts 134 = some (.i2l, 1, 0) := m_at_of r_M_frosts (by decide +kernel)
theorem i_M_frosts_135 : m_at k_M_frosts 135 = some (.lmul, 1, 0) := m_at_of r_M_frosts (by decide +kernel)
theorem i_M_frosts_136 : m_at k_M_frosts 136 = some (.ladd, 1, 0) := m_at_of r_M_frosts (by decide +kernel)
theorem i_M_frosts_137 : m_at k_M_frosts 137 = some (.lstore 10, 2, 0) := m_at_of r_M_frosts (by decide +kernel)
theorem i_M_frosts_139 : m_at k_M_frosts 139 = some (.aload_n 0, 1, 0) := m_at_of r_M_frosts (by decide +kernel)
theorem i_M_frosts_140 : m_at k_M_frosts 140 = some (.getfield 71, 3, 41) := m_at_of r_M_frosts (by decide +kernel)
theorem i_M_frosts_143 : m_at k_M_frosts 143 = some (.iload 9, 2, 0) := m_at_of r_M_frosts (by decide +kernel)
theorem i_M_frosts_145 : m_at k_M_frosts 145 = some (.aload_n 0, 1, 0) := m_at_of r_M_frosts (by decide +kernel)
theorem i_M_frosts_146 : m_at k_M_frosts 146 = some (.getfield 71, 3, 41) := m_at_of r_M_frosts (by decide +kernel)
theorem i_M_frosts_149 : m_at k_M_frosts 149 = some (.iload 9, 2, 0) := m_at_of r_M_frosts (by decide +kernel)
theorem i_M_frosts_151 : m_at k_M_frosts 151 = some (.laload, 1, 0) := m_at_of r_M_frosts (by decide +kernel)
theorem i_M_frosts_152 : m_at k_M_frosts 152 = some (.bipush 10, 2, 0) := m_at_of r_M_frosts (by decide +kernel)
theorem i_M_frosts_154 : m_at k_M_frosts 154 = some (.iload_n 2, 1, 0) := m_at_of r_M_frosts (by decide +kernel)
theorem i_M_frosts_155 : m_at k_M_frosts 155 = some (.isub, 1, 0) := m_at_of r_M_frosts (by decide +kernel)
theorem i_M_frosts_156 : m_at k_M_frosts 156 = some (.i2l, 1, 0) := m_at_of r_M_frosts (by decide +kernel)
theorem i_M_frosts_157 : m_at k_M_frosts 157 = some (.lmul, 1, 0) := m_at_of r_M_frosts (by decide +kernel)
theorem i_M_frosts_158 : m_at k_M_frosts 158 = some (.aload_n 0, 1, 0) := m_at_of r_M_frosts (by decide +kernel)
theorem i_M_frosts_159 : m_at k_M_frosts 159 = some (.getfield 74, 3, 42) := m_at_of r_M_frosts (by decide +kernel)
theorem i_M_frosts_162 : m_at k_M_frosts 162 = some (.iload 9, 2, 0) := m_at_of r_M_frosts (by decide +kernel)
theorem i_M_frosts_164 : m_at k_M_frosts 164 = some (.laload, 1, 0) := m_at_of r_M_frosts (by decide +kernel)
theorem i_M_frosts_165 : m_at k_M_frosts 165 = some (.bipush 10, 2, 0) := m_at_of r_M_frosts (by decide +kernel)
theorem i_M_frosts_167 : m_at k_M_frosts 167 = some (.iload_n 1, 1, 0) := m_at_of r_M_frosts (by decide +kernel)
theorem i_M_frosts_168 : m_at k_M_frosts 168 = some (.isub, 1, 0) := m_at_of r_M_frosts (by decide +kernel)
theorem i_M_frosts_169 : m_at k_M_frosts 169 = some (.i2l, 1, 0) := m_at_of r_M_frosts (by decide +kernel)
theorem i_M_frosts_170 : m_at k_M_frosts 170 = some (.lmul, 1, 0) := m_at_of r_M_frosts (by decide +kernel)
theorem i_M_frosts_171 : m_at k_M_frosts 171 = some (.ladd, 1, 0) := m_at_of r_M_frosts (by decide +kernel)
theorem i_M_frosts_172 : m_at k_M_frosts 172 = some (.lastore, 1, 0) := m_at_of r_M_frosts (by decide +kernel)
theorem i_M_frosts_173 : m_at k_M_frosts 173 = some (.aload_n 0, 1, 0) := m_at_of r_M_frosts (by decide +kernel)
theorem i_M_frosts_174 : m_at k_M_frosts 174 = some (.getfield 74, 3, 42) := m_at_of r_M_frosts (by decide +kernel)
theorem i_M_frosts_177 : m_at k_M_frosts 177 = some (.iload 9, 2, 0) := m_at_of r_M_frosts (by decide +kernel)
theorem i_M_frosts_179 : m_at k_M_frosts 179 = some (.lload 10, 2, 0) := m_at_of r_M_frosts (by decide +kernel)
theorem i_M_frosts_181 : m_at k_M_frosts 181 = some (.lastore, 1, 0) := m_at_of r_M_frosts (by decide +kernel)
theorem i_M_frosts_182 : m_at k_M_frosts 182 = some (.iinc 9 (-1), 3, 0) := m_at_of r_M_frosts (by decide +kernel)
theorem i_M_frosts_185 : m_at k_M_frosts 185 = some (.goto (-87), 3, 0) := m_at_of r_M_frosts (by decide +kernel)
theorem i_M_frosts_188 : m_at k_M_frosts 188 = some (.lload 6, 2, 0) := m_at_of r_M_frosts (by decide +kernel)
theorem i_M_frosts_190 : m_at k_M_frosts 190 = some (.ldc2_w 498, 3, 0) := m_at_of r_M_frosts (by decide +kernel)
theorem i_M_frosts_193 : m_at k_M_frosts 193 = some (.lmul, 1, 0) := m_at_of r_M_frosts (by decide +kernel)
theorem i_M_frosts_194 : m_at k_M_frosts 194 = some (.lstore 6, 2, 0) := m_at_of r_M_frosts (by decide +kernel)
theorem i_M_frosts_196 : m_at k_M_frosts 196 = some (.iinc 8 (1), 3, 0) := m_at_of r_M_frosts (by decide +kernel)
theorem i_M_frosts_199 : m_at k_M_frosts 199 = some (.goto (-110), 3, 0) := m_at_of r_M_frosts (by decide +kernel)
theorem i_M_frosts_202 : m_at k_M_frosts 202 = some (.aload_n 0, 1, 0) := m_at_of r_M_frosts (by decide +kernel)
theorem i_M_frosts_203 : m_at k_M_frosts 203 = some (.getfield 71, 3, 41) := m_at_of r_M_frosts (by decide +kernel)
theorem i_M_frosts_206 : m_at k_M_frosts 206 = some (.iload 4, 2, 0) := m_at_of r_M_frosts (by decide +kernel)
theorem i_M_frosts_208 : m_at k_M_frosts 208 = some (.laload, 1, 0) := m_at_of r_M_frosts (by decide +kernel)
theorem i_M_frosts_209 : m_at k_M_frosts 209 = some (.aload_n 0, 1, 0) := m_at_of r_M_frosts (by decide +kernel)
theorem i_M_frosts_210 : m_at k_M_frosts 210 = some (.getfield 74, 3, 42) := m_at_of r_M_frosts (by decide +kernel)
theorem i_M_frosts_213 : m_at k_M_frosts 213 = some (.iload 4, 2, 0) := m_at_of r_M_frosts (by decide +kernel)
theorem i_M_frosts_215 : m_at k_M_frosts 215 = some (.laload, 1, 0) := m_at_of r_M_frosts (by decide +kernel)
theorem i_M_frosts_216 : m_at k_M_frosts 216 = some (.ladd, 1, 0) := m_at_of r_M_frosts (by decide +kernel)
theorem i_M_frosts_217 : m_at k_M_frosts 217 = some (.lstore 8, 2, 0) := m_at_of r_M_frosts (by decide +kernel)
theorem i_M_frosts_219 : m_at k_M_frosts 219 = some (.iload 5, 2, 0) := m_at_of r_M_frosts (by decide +kernel)
theorem i_M_frosts_221 : m_at k_M_frosts 221 = some (.ifCond .eq (8), 3, 0) := m_at_of r_M_frosts (by decide +kernel)
theorem i_M_frosts_224 : m_at k_M_frosts 224 = some (.lload 6, 2, 0) := m_at_of r_M_frosts (by decide +kernel)
theorem i_M_frosts_226 : m_at k_M_frosts 226 = some (.goto (5), 3, 0) := m_at_of r_M_frosts (by decide +kernel)
theorem i_M_frosts_229 : m_at k_M_frosts 229 = some (.lload 8, 2, 0) := m_at_of r_M_frosts (by decide +kernel)
theorem i_M_frosts_231 : m_at k_M_frosts 231 = some (.lload 8, 2, 0) := m_at_of r_M_frosts (by decide +kernel)
theorem i_M_frosts_233 : m_at k_M_frosts 233 = some (.lload 6, 2, 0) := m_at_of r_M_frosts (by decide +kernel)
theorem i_M_frosts_235 : m_at k_M_frosts 235 = some (.invokestatic 291, 3, 136) := m_at_of r_M_frosts (by decide +kernel)
theorem i_M_frosts_238 : m_at k_M_frosts 238 = some (.ldiv, 1, 0) := m_at_of r_M_frosts (by decide +kernel)
theorem i_M_frosts_239 : m_at k_M_frosts 239 = some (.l2i, 1, 0) := m_at_of r_M_frosts (by decide +kernel)
theorem i_M_frosts_240 : m_at k_M_frosts 240 = some (.ireturn, 1, 0) := m_at_of r_M_frosts (by decide +kernel)
set_option maxRecDepth 20000 in
set_option maxHeartbeats 1000000 in
theorem E_M_frosts (x : m_X) (s : m_H) (w : Nat) (n1 : Int32) (n2 : Int32) (n3 : Int32) (n4 : Int32) (n5 : Int32) : m_M x k_M_frosts [.ref w, .int n1, .int n2, .int n3, .int n4, .int n5] s = if m_isO s w 11 = true then (m_bI (m_M x k_M_isIn [.int n1, .int 0, .int 10] s) fun v4 s4 => if v4 = 0 then (some (some (.int (-1)), s4)) else m_bI (m_M x k_M_isIn [.int n2, .int 0, .int 10] s4) fun v14 s14 => if v14 = 0 then (some (some (.int (-1)), s14)) else m_bI (m_M x k_M_isIn [.int n3, .int 1, .int 8] s14) fun v24 s24 => if v24 = 0 then (some (some (.int (-1)), s24)) else m_bI (m_M x k_M_isIn [.int n4, .int 0, .int n3] s24) fun v34 s34 => if v34 = 0 then (some (some (.int (-1)), s34)) else m_D x 2 k_M_frosts 45 [some (.ref w), some (.int n1), some (.int n2), some (.int n3), some (.int n4), some (.int n5), some (.int 0), none, none, none, none, none] [] s34) else none := by
  refine e_M1 (L0 := [some (.ref w), some (.int n1), some (.int n2), some (.int n3), some (.int n4), some (.int n5), none, none, none, none, none, none]) rfl (by decide +kernel) rfl (q_M_frosts _) rfl ?_
  refine e_iload_n i_M_frosts_0 rfl ?_
  refine e_iconst (v := 0) i_M_frosts_1 (by decide) ?_
  refine e_bipush (v := 10) i_M_frosts_2 (by decide) ?_
  refine e_callI (as := [.int n1, .int 0, .int 10]) (st' := []) i_M_frosts_4 lm_96 (Or.inl ⟨rfl, rfl⟩) w_M_isIn rfl rfl rfl (Nat.le_of_ble_eq_true rfl) (Nat.le_of_ble_eq_true rfl) (m_rlt (q_M_isIn _) (by decide)) rfl (fun v4 s4 => ?_)
  refine e_ifeq (t := 40) i_M_frosts_7 (by decide) ?_ ?_
  · refine e_iconst (v := (-1)) i_M_frosts_40 (by decide) ?_
    exact e_iretI i_M_frosts_41 rfl
  · refine e_iload_n i_M_frosts_10 rfl ?_
    refine e_iconst (v := 0) i_M_frosts_11 (by decide) ?_
    refine e_bipush (v := 10) i_M_frosts_12 (by decide) ?_
    refine e_callI (as := [.int n2, .int 0, .int 10]) (st' := []) i_M_frosts_14 lm_96 (Or.inl ⟨rfl, rfl⟩) w_M_isIn rfl rfl rfl (Nat.le_of_ble_eq_true rfl) (Nat.le_of_ble_eq_true rfl) (m_rlt (q_M_isIn _) (by decide)) rfl (fun v14 s14 => ?_)
    refine e_ifeq (t := 40) i_M_frosts_17 (by decide) ?_ ?_
    · refine e_iconst (v := (-1)) i_M_frosts_40 (by decide) ?_
      exact e_iretI i_M_frosts_41 rfl
    · refine e_iload_n i_M_frosts_20 rfl ?_
      refine e_iconst (v := 1) i_M_frosts_21 (by decide) ?_
      refine e_bipush (v := 8) i_M_frosts_22 (by decide) ?_
      refine e_callI (as := [.int n3, .int 1, .int 8]) (st' := []) i_M_frosts_24 lm_96 (Or.inl ⟨rfl, rfl⟩) w_M_isIn rfl rfl rfl (Nat.le_of_ble_eq_true rfl) (Nat.le_of_ble_eq_true rfl) (m_rlt (q_M_isIn _) (by decide)) rfl (fun v24 s24 => ?_)
      refine e_ifeq (t := 40) i_M_frosts_27 (by decide) ?_ ?_
      · refine e_iconst (v := (-1)) i_M_frosts_40 (by decide) ?_
        exact e_iretI i_M_frosts_41 rfl
      · refine e_iload i_M_frosts_30 rfl ?_
        refine e_iconst (v := 0) i_M_frosts_32 (by decide) ?_
        refine e_iload_n i_M_frosts_33 rfl ?_
        refine e_callI (as := [.int n4, .int 0, .int n3]) (st' := []) i_M_frosts_34 lm_96 (Or.inl ⟨rfl, rfl⟩) w_M_isIn rfl rfl rfl (Nat.le_of_ble_eq_true rfl) (Nat.le_of_ble_eq_true rfl) (m_rlt (q_M_isIn _) (by decide)) rfl (fun v34 s34 => ?_)
        refine e_ifne (t := 42) i_M_frosts_37 (by decide) ?_ ?_
        · refine e_iconst (v := 0) i_M_frosts_42 (by decide) ?_
          refine e_istore (L' := [some (.ref w), some (.int n1), some (.int n2), some (.int n3), some (.int n4), some (.int n5), some (.int 0), none, none, none, none, none]) i_M_frosts_43 (of_decide_eq_true rfl) rfl ?_
          exact rfl
        · refine e_iconst (v := (-1)) i_M_frosts_40 (by decide) ?_
          exact e_iretI i_M_frosts_41 rfl
set_option maxRecDepth 20000 in
set_option maxHeartbeats 1000000 in
theorem E_M_frosts_45 (x : m_X) (ρ : Nat) (hρ : 2 ≤ ρ) (s : m_H) (w : Nat) (n1 : Int32) (n2 : Int32) (n3 : Int32) (n4 : Int32) (n5 : Int32) (n6 : Int32)  : m_D x ρ k_M_frosts 45 [some (.ref w), some (.int n1), some (.int n2), some (.int n3), some (.int n4), some (.int n5), some (.int n6), none, none, none, none, none] [] s = if 10 ≤ n6 then (m_D x ρ k_M_frosts 89 [some (.ref w), some (.int n1), some (.int n2), some (.int n3), some (.int n4), some (.int n5), some (.long 1), none, some (.int 0), none, none, none] [] s) else (m_fR s 11 34 w).bind fun v53 => if n6 = 0 then ((m_lst s v53 n6 1).bind fun s68 => (m_fR s68 11 35 w).bind fun v70 => (m_lst s68 v70 n6 0).bind fun s76 => m_D x ρ k_M_frosts 45 [some (.ref w), some (.int n1), some (.int n2), some (.int n3), some (.int n4), some (.int n5), some (.int (n6 + (1 : Int32))), none, none, none, none, none] [] s76) else (m_lst s v53 n6 0).bind fun s68 => (m_fR s68 11 35 w).bind fun v70 => (m_lst s68 v70 n6 0).bind fun s76 => m_D x ρ k_M_frosts 45 [some (.ref w), some (.int n1), some (.int n2), some (.int n3), some (.int n4), some (.int n5), some (.int (n6 + (1 : Int32))), none, none, none, none, none] [] s76 := by
  refine e_iload i_M_frosts_45 rfl ?_
  refine e_bipush (v := 10) i_M_frosts_47 (by decide) ?_
  refine e_icmpge (t := 83) i_M_frosts_49 (by decide) ?_ ?_
  · refine e_lconst (v := 1) i_M_frosts_83 (by decide) ?_
    refine e_lstore (L' := [some (.ref w), some (.int n1), some (.int n2), some (.int n3), some (.int n4), some (.int n5), some (.long 1), none, none, none, none, none]) i_M_frosts_84 (of_decide_eq_true rfl) rfl ?_
    refine e_iconst (v := 0) i_M_frosts_86 (by decide) ?_
    refine e_istore (L' := [some (.ref w), some (.int n1), some (.int n2), some (.int n3), some (.int n4), some (.int n5), some (.long 1), none, some (.int 0), none, none, none]) i_M_frosts_87 (of_decide_eq_true rfl) rfl ?_
    exact rfl
  · refine e_aload_n i_M_frosts_52 rfl ?_
    refine e_getR i_M_frosts_53 lf_41 (by decide) ft_11_34 (fun v53 => ?_)
    refine e_iload i_M_frosts_56 rfl ?_
    refine e_iload i_M_frosts_58 rfl ?_
    refine e_ifne (t := 67) i_M_frosts_60 (by decide) ?_ ?_
    · refine e_lconst (v := 0) i_M_frosts_67 (by decide) ?_
      refine e_last i_M_frosts_68 (fun s68 => ?_)
      refine e_aload_n i_M_frosts_69 rfl ?_
      refine e_getR i_M_frosts_70 lf_42 (by decide) ft_11_35 (fun v70 => ?_)
      refine e_iload i_M_frosts_73 rfl ?_
      refine e_lconst (v := 0) i_M_frosts_75 (by decide) ?_
      refine e_last i_M_frosts_76 (fun s76 => ?_)
      refine e_iinc (w := 1) (L' := [some (.ref w), some (.int n1), some (.int n2), some (.int n3), some (.int n4), some (.int n5), some (.int (n6 + (1 : Int32))), none, none, none, none, none]) i_M_frosts_77 rfl (of_decide_eq_true rfl) (by decide) rfl ?_
      refine e_goto (t := 45) i_M_frosts_80 (by decide) ?_
      exact rfl
    · refine e_lconst (v := 1) i_M_frosts_63 (by decide) ?_
      refine e_goto (t := 68) i_M_frosts_64 (by decide) ?_
      refine e_last i_M_frosts_68 (fun s68 => ?_)
      refine e_aload_n i_M_frosts_69 rfl ?_
      refine e_getR i_M_frosts_70 lf_42 (by decide) ft_11_35 (fun v70 => ?_)
      refine e_iload i_M_frosts_73 rfl ?_
      refine e_lconst (v := 0) i_M_frosts_75 (by decide) ?_
      refine e_last i_M_frosts_76 (fun s76 => ?_)
      refine e_iinc (w := 1) (L' := [some (.ref w), some (.int n1), some (.int n2), some (.int n3), some (.int n4), some (.int n5), some (.int (n6 + (1 : Int32))), none, none, none, none, none]) i_M_frosts_77 rfl (of_decide_eq_true rfl) (by decide) rfl ?_
      refine e_goto (t := 45) i_M_frosts_80 (by decide) ?_
      exact rfl
set_option maxRecDepth 20000 in
set_option maxHeartbeats 1000000 in
theorem E_M_frosts_89 (x : m_X) (ρ : Nat) (hρ : 2 ≤ ρ) (s : m_H) (w : Nat) (n1 : Int32) (n2 : Int32) (n3 : Int32) (n4 : Int32) (n5 : Int32) (l6 : Int64) (n8 : Int32) (d9 : Option Value) (d10 : Option Value) (hd9 : m_nl d9 = true) (hd10 : m_nl d10 = true) : m_D x ρ k_M_frosts 89 [some (.ref w), some (.int n1), some (.int n2), some (.int n3), some (.int n4), some (.int n5), some (.long l6), none, some (.int n8), d9, d10, none] [] s = if n3 ≤ n8 then ((m_fR s 11 34 w).bind fun v203 => (m_la s v203 n4).bind fun v208 => (m_fR s 11 35 w).bind fun v210 => (m_la s v210 n4).bind fun v215 => if n5 = 0 then (m_bL (m_M x k_M_common [.long (v208 + v215), .long l6] s) fun v235 s235 => if v235 = 0 then none else some (some (.int ((v208 + v215) / v235).toInt32), s235)) else m_bL (m_M x k_M_common [.long (v208 + v215), .long l6] s) fun v235 s235 => if v235 = 0 then none else some (some (.int (l6 / v235).toInt32), s235)) else m_D x ρ k_M_frosts 98 [some (.ref w), some (.int n1), some (.int n2), some (.int n3), some (.int n4), some (.int n5), some (.long l6), none, some (.int n8), some (.int n3), d10, none] [] s := by
  refine e_iload i_M_frosts_89 rfl ?_
  refine e_iload_n i_M_frosts_91 rfl ?_
  refine e_icmpge (t := 202) i_M_frosts_92 (by decide) ?_ ?_
  · refine e_aload_n i_M_frosts_202 rfl ?_
    refine e_getR i_M_frosts_203 lf_41 (by decide) ft_11_34 (fun v203 => ?_)
    refine e_iload i_M_frosts_206 rfl ?_
    refine e_lald i_M_frosts_208 (fun v208 => ?_)
    refine e_aload_n i_M_frosts_209 rfl ?_
    refine e_getR i_M_frosts_210 lf_42 (by decide) ft_11_35 (fun v210 => ?_)
    refine e_iload i_M_frosts_213 rfl ?_
    refine e_lald i_M_frosts_215 (fun v215 => ?_)
    refine e_ladd i_M_frosts_216 ?_
    refine e_lstore (L' := [some (.ref w), some (.int n1), some (.int n2), some (.int n3), some (.int n4), some (.int n5), some (.long l6), none, some (.long (v208 + v215)), none, d10, none]) i_M_frosts_217 (of_decide_eq_true rfl) rfl ?_
    refine e_iload i_M_frosts_219 rfl ?_
    refine e_ifeq (t := 229) i_M_frosts_221 (by decide) ?_ ?_
    · refine e_lload i_M_frosts_229 rfl ?_
      refine e_lload i_M_frosts_231 rfl ?_
      refine e_lload i_M_frosts_233 rfl ?_
      refine e_callL (as := [.long (v208 + v215), .long l6]) (st' := [.long (v208 + v215)]) i_M_frosts_235 lm_136 (Or.inl ⟨rfl, rfl⟩) w_M_common rfl rfl rfl (Nat.le_of_ble_eq_true rfl) (Nat.le_of_ble_eq_true rfl) (m_rlt (q_M_common _) (Nat.lt_of_lt_of_le (by decide) hρ)) rfl (fun v235 s235 => ?_)
      refine e_ldiv i_M_frosts_238 ?_
      refine e_l2i i_M_frosts_239 ?_
      exact e_iretI i_M_frosts_240 rfl
    · refine e_lload i_M_frosts_224 rfl ?_
      refine e_goto (t := 231) i_M_frosts_226 (by decide) ?_
      refine e_lload i_M_frosts_231 rfl ?_
      refine e_lload i_M_frosts_233 rfl ?_
      refine e_callL (as := [.long (v208 + v215), .long l6]) (st' := [.long l6]) i_M_frosts_235 lm_136 (Or.inl ⟨rfl, rfl⟩) w_M_common rfl rfl rfl (Nat.le_of_ble_eq_true rfl) (Nat.le_of_ble_eq_true rfl) (m_rlt (q_M_common _) (Nat.lt_of_lt_of_le (by decide) hρ)) rfl (fun v235 s235 => ?_)
      refine e_ldiv i_M_frosts_238 ?_
      refine e_l2i i_M_frosts_239 ?_
      exact e_iretI i_M_frosts_240 rfl
  · refine e_iload_n i_M_frosts_95 rfl ?_
    refine e_istore (L' := [some (.ref w), some (.int n1), some (.int n2), some (.int n3), some (.int n4), some (.int n5), some (.long l6), none, some (.int n8), some (.int n3), d10, none]) i_M_frosts_96 (of_decide_eq_true rfl) rfl ?_
    exact rfl
set_option maxRecDepth 20000 in
set_option maxHeartbeats 1000000 in
theorem E_M_frosts_98 (x : m_X) (ρ : Nat) (hρ : 2 ≤ ρ) (s : m_H) (w : Nat) (n1 : Int32) (n2 : Int32) (n3 : Int32) (n4 : Int32) (n5 : Int32) (l6 : Int64) (n8 : Int32) (n9 : Int32) (d10 : Option Value) (hd10 : m_nl d10 = true) : m_D x ρ k_M_frosts 98 [some (.ref w), some (.int n1), some (.int n2), some (.int n3), some (.int n4), some (.int n5), some (.long l6), none, some (.int n8), some (.int n9), d10, none] [] s = if n9 < 0 then (m_D x ρ k_M_frosts 89 [some (.ref w), some (.int n1), some (.int n2), some (.int n3), some (.int n4), some (.int n5), some (.long (l6 * (10 : Int64))), none, some (.int (n8 + (1 : Int32))), some (.int n9), d10, none] [] s) else if n9 = 0 then (m_D x ρ k_M_frosts 137 [some (.ref w), some (.int n1), some (.int n2), some (.int n3), some (.int n4), some (.int n5), some (.long l6), none, some (.int n8), some (.int n9), d10, none] [.long 0] s) else (m_fR s 11 34 w).bind fun v113 => (m_la s v113 (n9 - (1 : Int32))).bind fun v120 => (m_fR s 11 35 w).bind fun v125 => (m_la s v125 (n9 - (1 : Int32))).bind fun v132 => m_D x ρ k_M_frosts 137 [some (.ref w), some (.int n1), some (.int n2), some (.int n3), some (.int n4), some (.int n5), some (.long l6), none, some (.int n8), some (.int n9), d10, none] [.long ((v120 * n2.toInt64) + (v132 * n1.toInt64))] s := by
  refine e_iload i_M_frosts_98 rfl ?_
  refine e_iflt (t := 188) i_M_frosts_100 (by decide) ?_ ?_
  · refine e_lload i_M_frosts_188 rfl ?_
    refine e_ldc2 (q := (1, 498, 10)) i_M_frosts_190 rfl ?_
    refine e_lmul i_M_frosts_193 ?_
    refine e_lstore (L' := [some (.ref w), some (.int n1), some (.int n2), some (.int n3), some (.int n4), some (.int n5), some (.long (l6 * (10 : Int64))), none, some (.int n8), some (.int n9), d10, none]) i_M_frosts_194 (of_decide_eq_true rfl) rfl ?_
    refine e_iinc (w := 1) (L' := [some (.ref w), some (.int n1), some (.int n2), some (.int n3), some (.int n4), some (.int n5), some (.long (l6 * (10 : Int64))), none, some (.int (n8 + (1 : Int32))), some (.int n9), d10, none]) i_M_frosts_196 rfl (of_decide_eq_true rfl) (by decide) rfl ?_
    refine e_goto (t := 89) i_M_frosts_199 (by decide) ?_
    exact rfl
  · refine e_iload i_M_frosts_103 rfl ?_
    refine e_ifne (t := 112) i_M_frosts_105 (by decide) ?_ ?_
    · refine e_aload_n i_M_frosts_112 rfl ?_
      refine e_getR i_M_frosts_113 lf_41 (by decide) ft_11_34 (fun v113 => ?_)
      refine e_iload i_M_frosts_116 rfl ?_
      refine e_iconst (v := 1) i_M_frosts_118 (by decide) ?_
      refine e_isub i_M_frosts_119 ?_
      refine e_lald i_M_frosts_120 (fun v120 => ?_)
      refine e_iload_n i_M_frosts_121 rfl ?_
      refine e_i2l i_M_frosts_122 ?_
      refine e_lmul i_M_frosts_123 ?_
      refine e_aload_n i_M_frosts_124 rfl ?_
      refine e_getR i_M_frosts_125 lf_42 (by decide) ft_11_35 (fun v125 => ?_)
      refine e_iload i_M_frosts_128 rfl ?_
      refine e_iconst (v := 1) i_M_frosts_130 (by decide) ?_
      refine e_isub i_M_frosts_131 ?_
      refine e_lald i_M_frosts_132 (fun v132 => ?_)
      refine e_iload_n i_M_frosts_133 rfl ?_
      refine e_i2l i_M_frosts_134 ?_
      refine e_lmul i_M_frosts_135 ?_
      refine e_ladd i_M_frosts_136 ?_
      exact rfl
    · refine e_lconst (v := 0) i_M_frosts_108 (by decide) ?_
      refine e_goto (t := 137) i_M_frosts_109 (by decide) ?_
      exact rfl
set_option maxRecDepth 20000 in
set_option maxHeartbeats 1000000 in
theorem E_M_frosts_137 (x : m_X) (ρ : Nat) (hρ : 2 ≤ ρ) (s : m_H) (w : Nat) (n1 : Int32) (n2 : Int32) (n3 : Int32) (n4 : Int32) (n5 : Int32) (l6 : Int64) (n8 : Int32) (n9 : Int32) (d10 : Option Value) (lt0 : Int64) (hd10 : m_nl d10 = true) : m_D x ρ k_M_frosts 137 [some (.ref w), some (.int n1), some (.int n2), some (.int n3), some (.int n4), some (.int n5), some (.long l6), none, some (.int n8), some (.int n9), d10, none] [.long lt0] s = (m_fR s 11 34 w).bind fun v140 => (m_fR s 11 34 w).bind fun v146 => (m_la s v146 n9).bind fun v151 => (m_fR s 11 35 w).bind fun v159 => (m_la s v159 n9).bind fun v164 => (m_lst s v140 n9 ((v151 * ((10 : Int32) - n2).toInt64) + (v164 * ((10 : Int32) - n1).toInt64))).bind fun s172 => (m_fR s172 11 35 w).bind fun v174 => (m_lst s172 v174 n9 lt0).bind fun s181 => m_D x ρ k_M_frosts 98 [some (.ref w), some (.int n1), some (.int n2), some (.int n3), some (.int n4), some (.int n5), some (.long l6), none, some (.int n8), some (.int (n9 + (-1 : Int32))), some (.long lt0), none] [] s181 := by
  refine e_lstore (L' := [some (.ref w), some (.int n1), some (.int n2), some (.int n3), some (.int n4), some (.int n5), some (.long l6), none, some (.int n8), some (.int n9), some (.long lt0), none]) i_M_frosts_137 (of_decide_eq_true rfl) rfl ?_
  refine e_aload_n i_M_frosts_139 rfl ?_
  refine e_getR i_M_frosts_140 lf_41 (by decide) ft_11_34 (fun v140 => ?_)
  refine e_iload i_M_frosts_143 rfl ?_
  refine e_aload_n i_M_frosts_145 rfl ?_
  refine e_getR i_M_frosts_146 lf_41 (by decide) ft_11_34 (fun v146 => ?_)
  refine e_iload i_M_frosts_149 rfl ?_
  refine e_lald i_M_frosts_151 (fun v151 => ?_)
  refine e_bipush (v := 10) i_M_frosts_152 (by decide) ?_
  refine e_iload_n i_M_frosts_154 rfl ?_
  refine e_isub i_M_frosts_155 ?_
  refine e_i2l i_M_frosts_156 ?_
  refine e_lmul i_M_frosts_157 ?_
  refine e_aload_n i_M_frosts_158 rfl ?_
  refine e_getR i_M_frosts_159 lf_42 (by decide) ft_11_35 (fun v159 => ?_)
  refine e_iload i_M_frosts_162 rfl ?_
  refine e_lald i_M_frosts_164 (fun v164 => ?_)
  refine e_bipush (v := 10) i_M_frosts_165 (by decide) ?_
  refine e_iload_n i_M_frosts_167 rfl ?_
  refine e_isub i_M_frosts_168 ?_
  refine e_i2l i_M_frosts_169 ?_
  refine e_lmul i_M_frosts_170 ?_
  refine e_ladd i_M_frosts_171 ?_
  refine e_last i_M_frosts_172 (fun s172 => ?_)
  refine e_aload_n i_M_frosts_173 rfl ?_
  refine e_getR i_M_frosts_174 lf_42 (by decide) ft_11_35 (fun v174 => ?_)
  refine e_iload i_M_frosts_177 rfl ?_
  refine e_lload i_M_frosts_179 rfl ?_
  refine e_last i_M_frosts_181 (fun s181 => ?_)
  refine e_iinc (w := (-1)) (L' := [some (.ref w), some (.int n1), some (.int n2), some (.int n3), some (.int n4), some (.int n5), some (.long l6), none, some (.int n8), some (.int (n9 + (-1 : Int32))), some (.long lt0), none]) i_M_frosts_182 rfl (of_decide_eq_true rfl) (by decide) rfl ?_
  refine e_goto (t := 98) i_M_frosts_185 (by decide) ?_
  exact rfl
theorem i_M_lives_0 : m_at k_M_lives 0 = some (.iload_n 1, 1, 0) := m_at_of r_M_lives (by decide +kernel)
theorem i_M_lives_1 : m_at k_M_lives 1 = some (.iconst (-1), 1, 0) := m_at_of r_M_lives (by decide +kernel)
theorem i_M_lives_2 : m_at k_M_lives 2 = some (.aload_n 0, 1, 0) := m_at_of r_M_lives (by decide +kernel)
theorem i_M_lives_3 : m_at k_M_lives 3 = some (.getfield 7, 3, 0) := m_at_of r_M_lives (by decide +kernel)
theorem i_M_lives_6 : m_at k_M_lives 6 = some (.bipush 6, 2, 0) := m_at_of r_M_lives (by decide +kernel)
theorem i_M_lives_8 : m_at k_M_lives 8 = some (.iaload, 1, 0) := m_at_of r_M_lives (by decide +kernel)
theorem i_M_lives_9 : m_at k_M_lives 9 = some (.iconst 1, 1, 0) := m_at_of r_M_lives (by decide +kernel)
theorem i_M_lives_10 : m_at k_M_lives 10 = some (.isub, 1, 0) := m_at_of r_M_lives (by decide +kernel)
theorem i_M_lives_11 : m_at k_M_lives 11 = some (.invokestatic 81, 3, 96) := m_at_of r_M_lives (by decide +kernel)
theorem i_M_lives_14 : m_at k_M_lives 14 = some (.ifCond .ne (6), 3, 0) := m_at_of r_M_lives (by decide +kernel)
theorem i_M_lives_17 : m_at k_M_lives 17 = some (.bipush (-2), 2, 0) := m_at_of r_M_lives (by decide +kernel)
theorem i_M_lives_19 : m_at k_M_lives 19 = some (.ireturn, 1, 0) := m_at_of r_M_lives (by decide +kernel)
theorem i_M_lives_20 : m_at k_M_lives 20 = some (.aload_n 0, 1, 0) := m_at_of r_M_lives (by decide +kernel)
theorem i_M_lives_21 : m_at k_M_lives 21 = some (.iconst (-1), 1, 0) := m_at_of r_M_lives (by decide +kernel)
theorem i_M_lives_22 : m_at k_M_lives 22 = some (.iconst (-1), 1, 0) := m_at_of r_M_lives (by decide +kernel)
theorem i_M_lives_23 : m_at k_M_lives 23 = some (.invokevirtual 495, 3, 139) := m_at_of r_M_lives (by decide +kernel)
theorem i_M_lives_26 : m_at k_M_lives 26 = some (.istore_n 2, 1, 0) := m_at_of r_M_lives (by decide +kernel)
theorem i_M_lives_27 : m_at k_M_lives 27 = some (.iload_n 1, 1, 0) := m_at_of r_M_lives (by decide +kernel)
theorem i_M_lives_28 : m_at k_M_lives 28 = some (.iconst (-1), 1, 0) := m_at_of r_M_lives (by decide +kernel)
theorem i_M_lives_29 : m_at k_M_lives 29 = some (.if_icmp .ne (5), 3, 0) := m_at_of r_M_lives (by decide +kernel)
theorem i_M_lives_32 : m_at k_M_lives 32 = some (.iload_n 2, 1, 0) := m_at_of r_M_lives (by decide +kernel)
theorem i_M_lives_33 : m_at k_M_lives 33 = some (.ireturn, 1, 0) := m_at_of r_M_lives (by decide +kernel)
theorem i_M_lives_34 : m_at k_M_lives 34 = some (.iconst 0, 1, 0) := m_at_of r_M_lives (by decide +kernel)
theorem i_M_lives_35 : m_at k_M_lives 35 = some (.istore_n 3, 1, 0) := m_at_of r_M_lives (by decide +kernel)
theorem i_M_lives_36 : m_at k_M_lives 36 = some (.iload_n 3, 1, 0) := m_at_of r_M_lives (by decide +kernel)
theorem i_M_lives_37 : m_at k_M_lives 37 = some (.aload_n 0, 1, 0) := m_at_of r_M_lives (by decide +kernel)
theorem i_M_lives_38 : m_at k_M_lives 38 = some (.getfield 7, 3, 0) := m_at_of r_M_lives (by decide +kernel)
theorem i_M_lives_41 : m_at k_M_lives 41 = some (.iconst 0, 1, 0) := m_at_of r_M_lives (by decide +kernel)
theorem i_M_lives_42 : m_at k_M_lives 42 = some (.iaload, 1, 0) := m_at_of r_M_lives (by decide +kernel)
theorem i_M_lives_43 : m_at k_M_lives 43 = some (.if_icmp .ge (25), 3, 0) := m_at_of r_M_lives (by decide +kernel)
theorem i_M_lives_46 : m_at k_M_lives 46 = some (.iload_n 2, 1, 0) := m_at_of r_M_lives (by decide +kernel)
theorem i_M_lives_47 : m_at k_M_lives 47 = some (.ifCond .le (21), 3, 0) := m_at_of r_M_lives (by decide +kernel)
theorem i_M_lives_50 : m_at k_M_lives 50 = some (.aload_n 0, 1, 0) := m_at_of r_M_lives (by decide +kernel)
theorem i_M_lives_51 : m_at k_M_lives 51 = some (.iload_n 1, 1, 0) := m_at_of r_M_lives (by decide +kernel)
theorem i_M_lives_52 : m_at k_M_lives 52 = some (.iload_n 3, 1, 0) := m_at_of r_M_lives (by decide +kernel)
theorem i_M_lives_53 : m_at k_M_lives 53 = some (.invokevirtual 495, 3, 139) := m_at_of r_M_lives (by decide +kernel)
theorem i_M_lives_56 : m_at k_M_lives 56 = some (.iload_n 2, 1, 0) := m_at_of r_M_lives (by decide +kernel)
theorem i_M_lives_57 : m_at k_M_lives 57 = some (.if_icmp .ne (5), 3, 0) := m_at_of r_M_lives (by decide +kernel)
theorem i_M_lives_60 : m_at k_M_lives 60 = some (.iload_n 3, 1, 0) := m_at_of r_M_lives (by decide +kernel)
theorem i_M_lives_61 : m_at k_M_lives 61 = some (.ireturn, 1, 0) := m_at_of r_M_lives (by decide +kernel)
theorem i_M_lives_62 : m_at k_M_lives 62 = some (.iinc 3 (1), 3, 0) := m_at_of r_M_lives (by decide +kernel)
theorem i_M_lives_65 : m_at k_M_lives 65 = some (.goto (-29), 3, 0) := m_at_of r_M_lives (by decide +kernel)
theorem i_M_lives_68 : m_at k_M_lives 68 = some (.iconst (-1), 1, 0) := m_at_of r_M_lives (by decide +kernel)
theorem i_M_lives_69 : m_at k_M_lives 69 = some (.ireturn, 1, 0) := m_at_of r_M_lives (by decide +kernel)
set_option maxRecDepth 20000 in
set_option maxHeartbeats 1000000 in
theorem E_M_lives (x : m_X) (s : m_H) (w : Nat) (n1 : Int32) : m_M x k_M_lives [.ref w, .int n1] s = if m_isO s w 11 = true then ((m_fR s 11 0 w).bind fun v3 => (m_ia x s v3 6).bind fun v8 => m_bI (m_M x k_M_isIn [.int n1, .int (-1), .int (v8 - (1 : Int32))] s) fun v11 s11 => if v11 = 0 then (some (some (.int (-2)), s11)) else m_bI (m_M x k_M_layWays [.ref w, .int (-1), .int (-1)] s11) fun v23 s23 => if n1 = (-1) then (some (some (.int v23), s23)) else m_D x 4 k_M_lives 36 [some (.ref w), some (.int n1), some (.int v23), some (.int 0)] [] s23) else none := by
  refine e_M1 (L0 := [some (.ref w), some (.int n1), none, none]) rfl (by decide +kernel) rfl (q_M_lives _) rfl ?_
  refine e_iload_n i_M_lives_0 rfl ?_
  refine e_iconst (v := (-1)) i_M_lives_1 (by decide) ?_
  refine e_aload_n i_M_lives_2 rfl ?_
  refine e_getR i_M_lives_3 lf_0 (by decide) ft_11_0 (fun v3 => ?_)
  refine e_bipush (v := 6) i_M_lives_6 (by decide) ?_
  refine e_iald i_M_lives_8 (fun v8 => ?_)
  refine e_iconst (v := 1) i_M_lives_9 (by decide) ?_
  refine e_isub i_M_lives_10 ?_
  refine e_callI (as := [.int n1, .int (-1), .int (v8 - (1 : Int32))]) (st' := []) i_M_lives_11 lm_96 (Or.inl ⟨rfl, rfl⟩) w_M_isIn rfl rfl rfl (Nat.le_of_ble_eq_true rfl) (Nat.le_of_ble_eq_true rfl) (m_rlt (q_M_isIn _) (by decide)) rfl (fun v11 s11 => ?_)
  refine e_ifne (t := 20) i_M_lives_14 (by decide) ?_ ?_
  · refine e_aload_n i_M_lives_20 rfl ?_
    refine e_iconst (v := (-1)) i_M_lives_21 (by decide) ?_
    refine e_iconst (v := (-1)) i_M_lives_22 (by decide) ?_
    refine e_callI (as := [.ref w, .int (-1), .int (-1)]) (st' := []) i_M_lives_23 lm_139 (Or.inr (Or.inl ⟨rfl, rfl⟩)) w_M_layWays rfl rfl rfl (Nat.le_of_ble_eq_true rfl) (Nat.le_of_ble_eq_true rfl) (m_rlt (q_M_layWays _) (by decide)) rfl (fun v23 s23 => ?_)
    refine e_istore_n (L' := [some (.ref w), some (.int n1), some (.int v23), none]) i_M_lives_26 (of_decide_eq_true rfl) rfl ?_
    refine e_iload_n i_M_lives_27 rfl ?_
    refine e_iconst (v := (-1)) i_M_lives_28 (by decide) ?_
    refine e_icmpne (t := 34) i_M_lives_29 (by decide) ?_ ?_
    · refine e_iconst (v := 0) i_M_lives_34 (by decide) ?_
      refine e_istore_n (L' := [some (.ref w), some (.int n1), some (.int v23), some (.int 0)]) i_M_lives_35 (of_decide_eq_true rfl) rfl ?_
      exact rfl
    · refine e_iload_n i_M_lives_32 rfl ?_
      exact e_iretI i_M_lives_33 rfl
  · refine e_bipush (v := (-2)) i_M_lives_17 (by decide) ?_
    exact e_iretI i_M_lives_19 rfl
set_option maxRecDepth 20000 in
set_option maxHeartbeats 1000000 in
theorem E_M_lives_36 (x : m_X) (ρ : Nat) (hρ : 4 ≤ ρ) (s : m_H) (w : Nat) (n1 : Int32) (n2 : Int32) (n3 : Int32)  : m_D x ρ k_M_lives 36 [some (.ref w), some (.int n1), some (.int n2), some (.int n3)] [] s = (m_fR s 11 0 w).bind fun v38 => (m_ia x s v38 0).bind fun v42 => if v42 ≤ n3 then (some (some (.int (-1)), s)) else if n2 ≤ 0 then (some (some (.int (-1)), s)) else m_bI (m_M x k_M_layWays [.ref w, .int n1, .int n3] s) fun v53 s53 => if v53 = n2 then (some (some (.int n3), s53)) else m_D x ρ k_M_lives 36 [some (.ref w), some (.int n1), some (.int n2), some (.int (n3 + (1 : Int32)))] [] s53 := by
  refine e_iload_n i_M_lives_36 rfl ?_
  refine e_aload_n i_M_lives_37 rfl ?_
  refine e_getR i_M_lives_38 lf_0 (by decide) ft_11_0 (fun v38 => ?_)
  refine e_iconst (v := 0) i_M_lives_41 (by decide) ?_
  refine e_iald i_M_lives_42 (fun v42 => ?_)
  refine e_icmpge (t := 68) i_M_lives_43 (by decide) ?_ ?_
  · refine e_iconst (v := (-1)) i_M_lives_68 (by decide) ?_
    exact e_iretI i_M_lives_69 rfl
  · refine e_iload_n i_M_lives_46 rfl ?_
    refine e_ifle (t := 68) i_M_lives_47 (by decide) ?_ ?_
    · refine e_iconst (v := (-1)) i_M_lives_68 (by decide) ?_
      exact e_iretI i_M_lives_69 rfl
    · refine e_aload_n i_M_lives_50 rfl ?_
      refine e_iload_n i_M_lives_51 rfl ?_
      refine e_iload_n i_M_lives_52 rfl ?_
      refine e_callI (as := [.ref w, .int n1, .int n3]) (st' := []) i_M_lives_53 lm_139 (Or.inr (Or.inl ⟨rfl, rfl⟩)) w_M_layWays rfl rfl rfl (Nat.le_of_ble_eq_true rfl) (Nat.le_of_ble_eq_true rfl) (m_rlt (q_M_layWays _) (Nat.lt_of_lt_of_le (by decide) hρ)) rfl (fun v53 s53 => ?_)
      refine e_iload_n i_M_lives_56 rfl ?_
      refine e_icmpne (t := 62) i_M_lives_57 (by decide) ?_ ?_
      · refine e_iinc (w := 1) (L' := [some (.ref w), some (.int n1), some (.int n2), some (.int (n3 + (1 : Int32)))]) i_M_lives_62 rfl (of_decide_eq_true rfl) (by decide) rfl ?_
        refine e_goto (t := 36) i_M_lives_65 (by decide) ?_
        exact rfl
      · refine e_iload_n i_M_lives_60 rfl ?_
        exact e_iretI i_M_lives_61 rfl
theorem i_M_layWays_0 : m_at k_M_layWays 0 = some (.iconst 1, 1, 0) := m_at_of r_M_layWays (by decide +kernel)
theorem i_M_layWays_1 : m_at k_M_layWays 1 = some (.aload_n 0, 1, 0) := m_at_of r_M_layWays (by decide +kernel)
theorem i_M_layWays_2 : m_at k_M_layWays 2 = some (.getfield 7, 3, 0) := m_at_of r_M_layWays (by decide +kernel)
theorem i_M_layWays_5 : m_at k_M_layWays 5 = some (.iconst 0, 1, 0) := m_at_of r_M_layWays (by decide +kernel)
theorem i_M_layWays_6 : m_at k_M_layWays 6 = some (.iaload, 1, 0) := m_at_of r_M_layWays (by decide +kernel)
theorem i_M_layWays_7 : m_at k_M_layWays 7 = some (.ishl, 1, 0) := m_at_of r_M_layWays (by decide +kernel)
theorem i_M_layWays_8 : m_at k_M_layWays 8 = some (.istore_n 3, 1, 0) := m_at_of r_M_layWays (by decide +kernel)
theorem i_M_layWays_9 : m_at k_M_layWays 9 = some (.iconst 0, 1, 0) := m_at_of r_M_layWays (by decide +kernel)
theorem i_M_layWays_10 : m_at k_M_layWays 10 = some (.istore 4, 2, 0) := m_at_of r_M_layWays (by decide +kernel)
theorem i_M_layWays_12 : m_at k_M_layWays 12 = some (.iload 4, 2, 0) := m_at_of r_M_layWays (by decide +kernel)
theorem i_M_layWays_14 : m_at k_M_layWays 14 = some (.iload_n 3, 1, 0) := m_at_of r_M_layWays (by decide +kernel)
theorem i_M_layWays_15 : m_at k_M_layWays 15 = some (.if_icmp .ge (26), 3, 0) := m_at_of r_M_layWays (by decide +kernel)
theorem i_M_layWays_18 : m_at k_M_layWays 18 = some (.aload_n 0, 1, 0) := m_at_of r_M_layWays (by decide +kernel)
theorem i_M_layWays_19 : m_at k_M_layWays 19 = some (.getfield 68, 3, 48) := m_at_of r_M_layWays (by decide +kernel)
theorem i_M_layWays_22 : m_at k_M_layWays 22 = some (.iload 4, 2, 0) := m_at_of r_M_layWays (by decide +kernel)
theorem i_M_layWays_24 : m_at k_M_layWays 24 = some (.iload 4, 2, 0) := m_at_of r_M_layWays (by decide +kernel)
theorem i_M_layWays_26 : m_at k_M_layWays 26 = some (.ifCond .ne (7), 3, 0) := m_at_of r_M_layWays (by decide +kernel)
theorem i_M_layWays_29 : m_at k_M_layWays 29 = some (.iconst 1, 1, 0) := m_at_of r_M_layWays (by decide +kernel)
theorem i_M_layWays_30 : m_at k_M_layWays 30 = some (.goto (4), 3, 0) := m_at_of r_M_layWays (by decide +kernel)
theorem i_M_layWays_33 : m_at k_M_layWays 33 = some (.iconst 0, 1, 0) := m_at_of r_M_layWays (by decide +kernel)
theorem i_M_layWays_34 : m_at k_M_layWays 34 = some (.iastore, 1, 0) := m_at_of r_M_layWays (by decide +kernel)
theorem i_M_layWays_35 : m_at k_M_layWays 35 = some (.iinc 4 (1), 3, 0) := m_at_of r_M_layWays (by decide +kernel)
theorem i_M_layWays_38 : m_at k_M_layWays 38 = some (.goto (-26), 3, 0) := m_at_of r_M_layWays (by decide +kernel)
theorem i_M_layWays_41 : m_at k_M_layWays 41 = some (.iconst 0, 1, 0) := m_at_of r_M_layWays (by decide +kernel)
theorem i_M_layWays_42 : m_at k_M_layWays 42 = some (.istore 4, 2, 0) := m_at_of r_M_layWays (by decide +kernel)
theorem i_M_layWays_44 : m_at k_M_layWays 44 = some (.iload 4, 2, 0) := m_at_of r_M_layWays (by decide +kernel)
theorem i_M_layWays_46 : m_at k_M_layWays 46 = some (.aload_n 0, 1, 0) := m_at_of r_M_layWays (by decide +kernel)
theorem i_M_layWays_47 : m_at k_M_layWays 47 = some (.getfield 7, 3, 0) := m_at_of r_M_layWays (by decide +kernel)
theorem i_M_layWays_50 : m_at k_M_layWays 50 = some (.bipush 6, 2, 0) := m_at_of r_M_layWays (by decide +kernel)
theorem i_M_layWays_52 : m_at k_M_layWays 52 = some (.iaload, 1, 0) := m_at_of r_M_layWays (by decide +kernel)
theorem i_M_layWays_53 : m_at k_M_layWays 53 = some (.if_icmp .ge (124), 3, 0) := m_at_of r_M_layWays (by decide +kernel)
theorem i_M_layWays_56 : m_at k_M_layWays 56 = some (.iconst 0, 1, 0) := m_at_of r_M_layWays (by decide +kernel)
theorem i_M_layWays_57 : m_at k_M_layWays 57 = some (.istore 5, 2, 0) := m_at_of r_M_layWays (by decide +kernel)
theorem i_M_layWays_59 : m_at k_M_layWays 59 = some (.iload 5, 2, 0) := m_at_of r_M_layWays (by decide +kernel)
theorem i_M_layWays_61 : m_at k_M_layWays 61 = some (.iload_n 3, 1, 0) := m_at_of r_M_layWays (by decide +kernel)
theorem i_M_layWays_62 : m_at k_M_layWays 62 = some (.if_icmp .ge (109), 3, 0) := m_at_of r_M_layWays (by decide +kernel)
theorem i_M_layWays_65 : m_at k_M_layWays 65 = some (.iconst 0, 1, 0) := m_at_of r_M_layWays (by decide +kernel)
theorem i_M_layWays_66 : m_at k_M_layWays 66 = some (.istore 6, 2, 0) := m_at_of r_M_layWays (by decide +kernel)
theorem i_M_layWays_68 : m_at k_M_layWays 68 = some (.iconst 0, 1, 0) := m_at_of r_M_layWays (by decide +kernel)
theorem i_M_layWays_69 : m_at k_M_layWays 69 = some (.istore 7, 2, 0) := m_at_of r_M_layWays (by decide +kernel)
theorem i_M_layWays_71 : m_at k_M_layWays 71 = some (.iload 7, 2, 0) := m_at_of r_M_layWays (by decide +kernel)
theorem i_M_layWays_73 : m_at k_M_layWays 73 = some (.aload_n 0, 1, 0) := m_at_of r_M_layWays (by decide +kernel)
theorem i_M_layWays_74 : m_at k_M_layWays 74 = some (.getfield 7, 3, 0) := m_at_of r_M_layWays (by decide +kernel)
theorem i_M_layWays_77 : m_at k_M_layWays 77 = some (.iconst 0, 1, 0) := m_at_of r_M_layWays (by decide +kernel)
theorem i_M_layWays_78 : m_at k_M_layWays 78 = some (.iaload, 1, 0) := m_at_of r_M_layWays (by decide +kernel)
theorem i_M_layWays_79 : m_at k_M_layWays 79 = some (.if_icmp .ge (68), 3, 0) := m_at_of r_M_layWays (by decide +kernel)
theorem i_M_layWays_82 : m_at k_M_layWays 82 = some (.iload 5, 2, 0) := m_at_of r_M_layWays (by decide +kernel)
theorem i_M_layWays_84 : m_at k_M_layWays 84 = some (.iload 7, 2, 0) := m_at_of r_M_layWays (by decide +kernel)
theorem i_M_layWays_86 : m_at k_M_layWays 86 = some (.invokestatic 264, 3, 130) := m_at_of r_M_layWays (by decide +kernel)
theorem i_M_layWays_89 : m_at k_M_layWays 89 = some (.ifCond .eq (52), 3, 0) := m_at_of r_M_layWays (by decide +kernel)
theorem i_M_layWays_92 : m_at k_M_layWays 92 = some (.aload_n 0, 1, 0) := m_at_of r_M_layWays (by decide +kernel)
theorem i_M_layWays_93 : m_at k_M_layWays 93 = some (.iload 4, 2, 0) := m_at_of r_M_layWays (by decide +kernel)
theorem i_M_layWays_95 : m_at k_M_layWays 95 = some (.iload 7, 2, 0) := m_at_of r_M_layWays (by decide +kernel)
theorem i_M_layWays_97 : m_at k_M_layWays 97 = some (.invokevirtual 492, 3, 140) := m_at_of r_M_layWays (by decide +kernel)
theorem i_M_layWays_100 : m_at k_M_layWays 100 = some (.ifCond .eq (41), 3, 0) := m_at_of r_M_layWays (by decide +kernel)
theorem i_M_layWays_103 : m_at k_M_layWays 103 = some (.iload 4, 2, 0) := m_at_of r_M_layWays (by decide +kernel)
theorem i_M_layWays_105 : m_at k_M_layWays 105 = some (.iload_n 1, 1, 0) := m_at_of r_M_layWays (by decide +kernel)
theorem i_M_layWays_106 : m_at k_M_layWays 106 = some (.if_icmp .ne (9), 3, 0) := m_at_of r_M_layWays (by decide +kernel)
theorem i_M_layWays_109 : m_at k_M_layWays 109 = some (.iload 7, 2, 0) := m_at_of r_M_layWays (by decide +kernel)
theorem i_M_layWays_111 : m_at k_M_layWays 111 = some (.iload_n 2, 1, 0) := m_at_of r_M_layWays (by decide +kernel)
theorem i_M_layWays_112 : m_at k_M_layWays 112 = some (.if_icmp .ne (29), 3, 0) := m_at_of r_M_layWays (by decide +kernel)
theorem i_M_layWays_115 : m_at k_M_layWays 115 = some (.iload 6, 2, 0) := m_at_of r_M_layWays (by decide +kernel)
theorem i_M_layWays_117 : m_at k_M_layWays 117 = some (.aload_n 0, 1, 0) := m_at_of r_M_layWays (by decide +kernel)
theorem i_M_layWays_118 : m_at k_M_layWays 118 = some (.getfield 68, 3, 48) := m_at_of r_M_layWays (by decide +kernel)
theorem i_M_layWays_121 : m_at k_M_layWays 121 = some (.sipush 128, 3, 0) := m_at_of r_M_layWays (by decide +kernel)
theorem i_M_layWays_124 : m_at k_M_layWays 124 = some (.iload 4, 2, 0) := m_at_of r_M_layWays (by decide +kernel)
theorem i_M_layWays_126 : m_at k_M_layWays 126 = some (.imul, 1, 0) := m_at_of r_M_layWays (by decide +kernel)
theorem i_M_layWays_127 : m_at k_M_layWays 127 = some (.iload 5, 2, 0) := m_at_of r_M_layWays (by decide +kernel)
theorem i_M_layWays_129 : m_at k_M_layWays 129 = some (.iconst 1, 1, 0) := m_at_of r_M_layWays (by decide +kernel)
theorem i_M_layWays_130 : m_at k_M_layWays 130 = some (.iload 7, 2, 0) := m_at_of r_M_layWays (by decide +kernel)
theorem i_M_layWays_132 : m_at k_M_layWays 132 = some (.ishl, 1, 0) := m_at_of r_M_layWays (by decide +kernel)
theorem i_M_layWays_133 : m_at k_M_layWays 133 = some (.iconst (-1), 1, 0) := m_at_of r_M_layWays (by decide +kernel)
theorem i_M_layWays_134 : m_at k_M_layWays 134 = some (.ixor, 1, 0) := m_at_of r_M_layWays (by decide +kernel)
theorem i_M_layWays_135 : m_at k_M_layWays 135 = some (.iand, 1, 0) := m_at_of r_M_layWays (by decide +kernel)
theorem i_M_layWays_136 : m_at k_M_layWays 136 = some (.iadd, 1, 0) := m_at_of r_M_layWays (by decide +kernel)
theorem i_M_layWays_137 : m_at k_M_layWays 137 = some (.iaload, 1, 0) := m_at_of r_M_layWays (by decide +kernel)
theorem i_M_layWays_138 : m_at k_M_layWays 138 = some (.iadd, 1, 0) := m_at_of r_M_layWays (by decide +kernel)
theorem i_M_layWays_139 : m_at k_M_layWays 139 = some (.istore 6, 2, 0) := m_at_of r_M_layWays (by decide +kernel)
theorem i_M_layWays_141 : m_at k_M_layWays 141 = some (.iinc 7 (1), 3, 0) := m_at_of r_M_layWays (by decide +kernel)
theorem i_M_layWays_144 : m_at k_M_layWays 144 = some (.goto (-73), 3, 0) := m_at_of r_M_layWays (by decide +kernel)
theorem i_M_layWays_147 : m_at k_M_layWays 147 = some (.aload_n 0, 1, 0) := m_at_of r_M_layWays (by decide +kernel)
theorem i_M_layWays_148 : m_at k_M_layWays 148 = some (.getfield 68, 3, 48) := m_at_of r_M_layWays (by decide +kernel)
theorem i_M_layWays_151 : m_at k_M_layWays 151 = some (.sipush 128, 3, 0) := m_at_of r_M_layWays (by decide +kernel)
theorem i_M_layWays_154 : m_at k_M_layWays 154 = some (.iload 4, 2, 0) := m_at_of r_M_layWays (by decide +kernel)
theorem i_M_layWays_156 : m_at k_M_layWays 156 = some (.iconst 1, 1, 0) := m_at_of r_M_layWays (by decide +kernel)
theorem i_M_layWays_157 : m_at k_M_layWays 157 = some (.iadd, 1, 0) := m_at_of r_M_layWays (by decide +kernel)
theorem i_M_layWays_158 : m_at k_M_layWays 158 = some (.imul, 1, 0) := m_at_of r_M_layWays (by decide +kernel)
theorem i_M_layWays_159 : m_at k_M_layWays 159 = some (.iload 5, 2, 0) := m_at_of r_M_layWays (by decide +kernel)
theorem i_M_layWays_161 : m_at k_M_layWays 161 = some (.iadd, 1, 0) := m_at_of r_M_layWays (by decide +kernel)
theorem i_M_layWays_162 : m_at k_M_layWays 162 = some (.iload 6, 2, 0) := m_at_of r_M_layWays (by decide +kernel)
theorem i_M_layWays_164 : m_at k_M_layWays 164 = some (.iastore, 1, 0) := m_at_of r_M_layWays (by decide +kernel)
theorem i_M_layWays_165 : m_at k_M_layWays 165 = some (.iinc 5 (1), 3, 0) := m_at_of r_M_layWays (by decide +kernel)
theorem i_M_layWays_168 : m_at k_M_layWays 168 = some (.goto (-109), 3, 0) := m_at_of r_M_layWays (by decide +kernel)
theorem i_M_layWays_171 : m_at k_M_layWays 171 = some (.iinc 4 (1), 3, 0) := m_at_of r_M_layWays (by decide +kernel)
theorem i_M_layWays_174 : m_at k_M_layWays 174 = some (.goto (-130), 3, 0) := m_at_of r_M_layWays (by decide +kernel)
theorem i_M_layWays_177 : m_at k_M_layWays 177 = some (.iconst 0, 1, 0) := m_at_of r_M_layWays (by decide +kernel)
theorem i_M_layWays_178 : m_at k_M_layWays 178 = some (.istore 4, 2, 0) := m_at_of r_M_layWays (by decide +kernel)
theorem i_M_layWays_180 : m_at k_M_layWays 180 = some (.iconst 0, 1, 0) := m_at_of r_M_layWays (by decide +kernel)
theorem i_M_layWays_181 : m_at k_M_layWays 181 = some (.istore 5, 2, 0) := m_at_of r_M_layWays (by decide +kernel)
theorem i_M_layWays_183 : m_at k_M_layWays 183 = some (.iload 5, 2, 0) := m_at_of r_M_layWays (by decide +kernel)
theorem i_M_layWays_185 : m_at k_M_layWays 185 = some (.iload_n 3, 1, 0) := m_at_of r_M_layWays (by decide +kernel)
theorem i_M_layWays_186 : m_at k_M_layWays 186 = some (.if_icmp .ge (33), 3, 0) := m_at_of r_M_layWays (by decide +kernel)
theorem i_M_layWays_189 : m_at k_M_layWays 189 = some (.iload 4, 2, 0) := m_at_of r_M_layWays (by decide +kernel)
theorem i_M_layWays_191 : m_at k_M_layWays 191 = some (.aload_n 0, 1, 0) := m_at_of r_M_layWays (by decide +kernel)
theorem i_M_layWays_192 : m_at k_M_layWays 192 = some (.getfield 68, 3, 48) := m_at_of r_M_layWays (by decide +kernel)
theorem i_M_layWays_195 : m_at k_M_layWays 195 = some (.sipush 128, 3, 0) := m_at_of r_M_layWays (by decide +kernel)
theorem i_M_layWays_198 : m_at k_M_layWays 198 = some (.aload_n 0, 1, 0) := m_at_of r_M_layWays (by decide +kernel)
theorem i_M_layWays_199 : m_at k_M_layWays 199 = some (.getfield 7, 3, 0) := m_at_of r_M_layWays (by decide +kernel)
theorem i_M_layWays_202 : m_at k_M_layWays 202 = some (.bipush 6, 2, 0) := m_at_of r_M_layWays (by decide +kernel)
theorem i_M_layWays_204 : m_at k_M_layWays 204 = some (.iaload, 1, 0) := m_at_of r_M_layWays (by decide +kernel)
theorem i_M_layWays_205 : m_at k_M_layWays 205 = some (.imul, 1, 0) := m_at_of r_M_layWays (by decide +kernel)
theorem i_M_layWays_206 : m_at k_M_layWays 206 = some (.iload 5, 2, 0) := m_at_of r_M_layWays (by decide +kernel)
theorem i_M_layWays_208 : m_at k_M_layWays 208 = some (.iadd, 1, 0) := m_at_of r_M_layWays (by decide +kernel)
theorem i_M_layWays_209 : m_at k_M_layWays 209 = some (.iaload, 1, 0) := m_at_of r_M_layWays (by decide +kernel)
theorem i_M_layWays_210 : m_at k_M_layWays 210 = some (.iadd, 1, 0) := m_at_of r_M_layWays (by decide +kernel)
theorem i_M_layWays_211 : m_at k_M_layWays 211 = some (.istore 4, 2, 0) := m_at_of r_M_layWays (by decide +kernel)
theorem i_M_layWays_213 : m_at k_M_layWays 213 = some (.iinc 5 (1), 3, 0) := m_at_of r_M_layWays (by decide +kernel)
theorem i_M_layWays_216 : m_at k_M_layWays 216 = some (.goto (-33), 3, 0) := m_at_of r_M_layWays (by decide +kernel)
theorem i_M_layWays_219 : m_at k_M_layWays 219 = some (.iload 4, 2, 0) := m_at_of r_M_layWays (by decide +kernel)
theorem i_M_layWays_221 : m_at k_M_layWays 221 = some (.ireturn, 1, 0) := m_at_of r_M_layWays (by decide +kernel)
set_option maxRecDepth 20000 in
set_option maxHeartbeats 1000000 in
theorem E_M_layWays (x : m_X) (s : m_H) (w : Nat) (n1 : Int32) (n2 : Int32) : m_M x k_M_layWays [.ref w, .int n1, .int n2] s = if m_isO s w 11 = true then ((m_fR s 11 0 w).bind fun v2 => (m_ia x s v2 0).bind fun v6 => m_D x 3 k_M_layWays 12 [some (.ref w), some (.int n1), some (.int n2), some (.int ((1 : Int32) <<< (v6 &&& (31 : Int32)))), some (.int 0), none, none, none] [] s) else none := by
  refine e_M1 (L0 := [some (.ref w), some (.int n1), some (.int n2), none, none, none, none, none]) rfl (by decide +kernel) rfl (q_M_layWays _) rfl ?_
  refine e_iconst (v := 1) i_M_layWays_0 (by decide) ?_
  refine e_aload_n i_M_layWays_1 rfl ?_
  refine e_getR i_M_layWays_2 lf_0 (by decide) ft_11_0 (fun v2 => ?_)
  refine e_iconst (v := 0) i_M_layWays_5 (by decide) ?_
  refine e_iald i_M_layWays_6 (fun v6 => ?_)
  refine e_ishl i_M_layWays_7 ?_
  refine e_istore_n (L' := [some (.ref w), some (.int n1), some (.int n2), some (.int ((1 : Int32) <<< (v6 &&& (31 : Int32)))), none, none, none, none]) i_M_layWays_8 (of_decide_eq_true rfl) rfl ?_
  refine e_iconst (v := 0) i_M_layWays_9 (by decide) ?_
  refine e_istore (L' := [some (.ref w), some (.int n1), some (.int n2), some (.int ((1 : Int32) <<< (v6 &&& (31 : Int32)))), some (.int 0), none, none, none]) i_M_layWays_10 (of_decide_eq_true rfl) rfl ?_
  exact rfl
set_option maxRecDepth 20000 in
set_option maxHeartbeats 1000000 in
theorem E_M_layWays_12 (x : m_X) (ρ : Nat) (hρ : 3 ≤ ρ) (s : m_H) (w : Nat) (n1 : Int32) (n2 : Int32) (n3 : Int32) (n4 : Int32)  : m_D x ρ k_M_layWays 12 [some (.ref w), some (.int n1), some (.int n2), some (.int n3), some (.int n4), none, none, none] [] s = if n3 ≤ n4 then (m_D x ρ k_M_layWays 44 [some (.ref w), some (.int n1), some (.int n2), some (.int n3), some (.int 0), none, none, none] [] s) else (m_fR s 11 33 w).bind fun v19 => if n4 = 0 then ((m_is s v19 n4 1).bind fun s34 => m_D x ρ k_M_layWays 12 [some (.ref w), some (.int n1), some (.int n2), some (.int n3), some (.int (n4 + (1 : Int32))), none, none, none] [] s34) else (m_is s v19 n4 0).bind fun s34 => m_D x ρ k_M_layWays 12 [some (.ref w), some (.int n1), some (.int n2), some (.int n3), some (.int (n4 + (1 : Int32))), none, none, none] [] s34 := by
  refine e_iload i_M_layWays_12 rfl ?_
  refine e_iload_n i_M_layWays_14 rfl ?_
  refine e_icmpge (t := 41) i_M_layWays_15 (by decide) ?_ ?_
  · refine e_iconst (v := 0) i_M_layWays_41 (by decide) ?_
    refine e_istore (L' := [some (.ref w), some (.int n1), some (.int n2), some (.int n3), some (.int 0), none, none, none]) i_M_layWays_42 (of_decide_eq_true rfl) rfl ?_
    exact rfl
  · refine e_aload_n i_M_layWays_18 rfl ?_
    refine e_getR i_M_layWays_19 lf_48 (by decide) ft_11_33 (fun v19 => ?_)
    refine e_iload i_M_layWays_22 rfl ?_
    refine e_iload i_M_layWays_24 rfl ?_
    refine e_ifne (t := 33) i_M_layWays_26 (by decide) ?_ ?_
    · refine e_iconst (v := 0) i_M_layWays_33 (by decide) ?_
      refine e_iast i_M_layWays_34 (fun s34 => ?_)
      refine e_iinc (w := 1) (L' := [some (.ref w), some (.int n1), some (.int n2), some (.int n3), some (.int (n4 + (1 : Int32))), none, none, none]) i_M_layWays_35 rfl (of_decide_eq_true rfl) (by decide) rfl ?_
      refine e_goto (t := 12) i_M_layWays_38 (by decide) ?_
      exact rfl
    · refine e_iconst (v := 1) i_M_layWays_29 (by decide) ?_
      refine e_goto (t := 34) i_M_layWays_30 (by decide) ?_
      refine e_iast i_M_layWays_34 (fun s34 => ?_)
      refine e_iinc (w := 1) (L' := [some (.ref w), some (.int n1), some (.int n2), some (.int n3), some (.int (n4 + (1 : Int32))), none, none, none]) i_M_layWays_35 rfl (of_decide_eq_true rfl) (by decide) rfl ?_
      refine e_goto (t := 12) i_M_layWays_38 (by decide) ?_
      exact rfl
set_option maxRecDepth 20000 in
set_option maxHeartbeats 1000000 in
theorem E_M_layWays_44 (x : m_X) (ρ : Nat) (hρ : 3 ≤ ρ) (s : m_H) (w : Nat) (n1 : Int32) (n2 : Int32) (n3 : Int32) (n4 : Int32) (d5 : Option Value) (d6 : Option Value) (d7 : Option Value) (hd5 : m_nl d5 = true) (hd6 : m_nl d6 = true) (hd7 : m_nl d7 = true) : m_D x ρ k_M_layWays 44 [some (.ref w), some (.int n1), some (.int n2), some (.int n3), some (.int n4), d5, d6, d7] [] s = (m_fR s 11 0 w).bind fun v47 => (m_ia x s v47 6).bind fun v52 => if v52 ≤ n4 then (m_D x ρ k_M_layWays 183 [some (.ref w), some (.int n1), some (.int n2), some (.int n3), some (.int 0), some (.int 0), d6, d7] [] s) else m_D x ρ k_M_layWays 59 [some (.ref w), some (.int n1), some (.int n2), some (.int n3), some (.int n4), some (.int 0), d6, d7] [] s := by
  refine e_iload i_M_layWays_44 rfl ?_
  refine e_aload_n i_M_layWays_46 rfl ?_
  refine e_getR i_M_layWays_47 lf_0 (by decide) ft_11_0 (fun v47 => ?_)
  refine e_bipush (v := 6) i_M_layWays_50 (by decide) ?_
  refine e_iald i_M_layWays_52 (fun v52 => ?_)
  refine e_icmpge (t := 177) i_M_layWays_53 (by decide) ?_ ?_
  · refine e_iconst (v := 0) i_M_layWays_177 (by decide) ?_
    refine e_istore (L' := [some (.ref w), some (.int n1), some (.int n2), some (.int n3), some (.int 0), d5, d6, d7]) i_M_layWays_178 (of_decide_eq_true rfl) rfl ?_
    refine e_iconst (v := 0) i_M_layWays_180 (by decide) ?_
    refine e_istore (L' := [some (.ref w), some (.int n1), some (.int n2), some (.int n3), some (.int 0), some (.int 0), d6, d7]) i_M_layWays_181 (of_decide_eq_true rfl) rfl ?_
    exact rfl
  · refine e_iconst (v := 0) i_M_layWays_56 (by decide) ?_
    refine e_istore (L' := [some (.ref w), some (.int n1), some (.int n2), some (.int n3), some (.int n4), some (.int 0), d6, d7]) i_M_layWays_57 (of_decide_eq_true rfl) rfl ?_
    exact rfl
set_option maxRecDepth 20000 in
set_option maxHeartbeats 1000000 in
theorem E_M_layWays_59 (x : m_X) (ρ : Nat) (hρ : 3 ≤ ρ) (s : m_H) (w : Nat) (n1 : Int32) (n2 : Int32) (n3 : Int32) (n4 : Int32) (n5 : Int32) (d6 : Option Value) (d7 : Option Value) (hd6 : m_nl d6 = true) (hd7 : m_nl d7 = true) : m_D x ρ k_M_layWays 59 [some (.ref w), some (.int n1), some (.int n2), some (.int n3), some (.int n4), some (.int n5), d6, d7] [] s = if n3 ≤ n5 then (m_D x ρ k_M_layWays 44 [some (.ref w), some (.int n1), some (.int n2), some (.int n3), some (.int (n4 + (1 : Int32))), some (.int n5), d6, d7] [] s) else m_D x ρ k_M_layWays 71 [some (.ref w), some (.int n1), some (.int n2), some (.int n3), some (.int n4), some (.int n5), some (.int 0), some (.int 0)] [] s := by
  refine e_iload i_M_layWays_59 rfl ?_
  refine e_iload_n i_M_layWays_61 rfl ?_
  refine e_icmpge (t := 171) i_M_layWays_62 (by decide) ?_ ?_
  · refine e_iinc (w := 1) (L' := [some (.ref w), some (.int n1), some (.int n2), some (.int n3), some (.int (n4 + (1 : Int32))), some (.int n5), d6, d7]) i_M_layWays_171 rfl (of_decide_eq_true rfl) (by decide) rfl ?_
    refine e_goto (t := 44) i_M_layWays_174 (by decide) ?_
    exact rfl
  · refine e_iconst (v := 0) i_M_layWays_65 (by decide) ?_
    refine e_istore (L' := [some (.ref w), some (.int n1), some (.int n2), some (.int n3), some (.int n4), some (.int n5), some (.int 0), d7]) i_M_layWays_66 (of_decide_eq_true rfl) rfl ?_
    refine e_iconst (v := 0) i_M_layWays_68 (by decide) ?_
    refine e_istore (L' := [some (.ref w), some (.int n1), some (.int n2), some (.int n3), some (.int n4), some (.int n5), some (.int 0), some (.int 0)]) i_M_layWays_69 (of_decide_eq_true rfl) rfl ?_
    exact rfl
set_option maxRecDepth 20000 in
set_option maxHeartbeats 1000000 in
theorem E_M_layWays_71 (x : m_X) (ρ : Nat) (hρ : 3 ≤ ρ) (s : m_H) (w : Nat) (n1 : Int32) (n2 : Int32) (n3 : Int32) (n4 : Int32) (n5 : Int32) (n6 : Int32) (n7 : Int32)  : m_D x ρ k_M_layWays 71 [some (.ref w), some (.int n1), some (.int n2), some (.int n3), some (.int n4), some (.int n5), some (.int n6), some (.int n7)] [] s = (m_fR s 11 0 w).bind fun v74 => (m_ia x s v74 0).bind fun v78 => if v78 ≤ n7 then ((m_fR s 11 33 w).bind fun v148 => (m_is s v148 (((128 : Int32) * (n4 + (1 : Int32))) + n5) n6).bind fun s164 => m_D x ρ k_M_layWays 59 [some (.ref w), some (.int n1), some (.int n2), some (.int n3), some (.int n4), some (.int (n5 + (1 : Int32))), some (.int n6), some (.int n7)] [] s164) else m_bI (m_M x k_M_has [.int n5, .int n7] s) fun v86 s86 => if v86 = 0 then (m_D x ρ k_M_layWays 71 [some (.ref w), some (.int n1), some (.int n2), some (.int n3), some (.int n4), some (.int n5), some (.int n6), some (.int (n7 + (1 : Int32)))] [] s86) else m_bI (m_M x k_M_isFitting [.ref w, .int n4, .int n7] s86) fun v97 s97 => if v97 = 0 then (m_D x ρ k_M_layWays 71 [some (.ref w), some (.int n1), some (.int n2), some (.int n3), some (.int n4), some (.int n5), some (.int n6), some (.int (n7 + (1 : Int32)))] [] s97) else if n4 = n1 then (if n7 = n2 then (m_D x ρ k_M_layWays 115 [some (.ref w), some (.int n1), some (.int n2), some (.int n3), some (.int n4), some (.int n5), some (.int n6), some (.int n7)] [] s97) else m_D x ρ k_M_layWays 71 [some (.ref w), some (.int n1), some (.int n2), some (.int n3), some (.int n4), some (.int n5), some (.int n6), some (.int (n7 + (1 : Int32)))] [] s97) else m_D x ρ k_M_layWays 115 [some (.ref w), some (.int n1), some (.int n2), some (.int n3), some (.int n4), some (.int n5), some (.int n6), some (.int n7)] [] s97 := by
  refine e_iload i_M_layWays_71 rfl ?_
  refine e_aload_n i_M_layWays_73 rfl ?_
  refine e_getR i_M_layWays_74 lf_0 (by decide) ft_11_0 (fun v74 => ?_)
  refine e_iconst (v := 0) i_M_layWays_77 (by decide) ?_
  refine e_iald i_M_layWays_78 (fun v78 => ?_)
  refine e_icmpge (t := 147) i_M_layWays_79 (by decide) ?_ ?_
  · refine e_aload_n i_M_layWays_147 rfl ?_
    refine e_getR i_M_layWays_148 lf_48 (by decide) ft_11_33 (fun v148 => ?_)
    refine e_sipush (v := 128) i_M_layWays_151 (by decide) ?_
    refine e_iload i_M_layWays_154 rfl ?_
    refine e_iconst (v := 1) i_M_layWays_156 (by decide) ?_
    refine e_iadd i_M_layWays_157 ?_
    refine e_imul i_M_layWays_158 ?_
    refine e_iload i_M_layWays_159 rfl ?_
    refine e_iadd i_M_layWays_161 ?_
    refine e_iload i_M_layWays_162 rfl ?_
    refine e_iast i_M_layWays_164 (fun s164 => ?_)
    refine e_iinc (w := 1) (L' := [some (.ref w), some (.int n1), some (.int n2), some (.int n3), some (.int n4), some (.int (n5 + (1 : Int32))), some (.int n6), some (.int n7)]) i_M_layWays_165 rfl (of_decide_eq_true rfl) (by decide) rfl ?_
    refine e_goto (t := 59) i_M_layWays_168 (by decide) ?_
    exact rfl
  · refine e_iload i_M_layWays_82 rfl ?_
    refine e_iload i_M_layWays_84 rfl ?_
    refine e_callI (as := [.int n5, .int n7]) (st' := []) i_M_layWays_86 lm_130 (Or.inl ⟨rfl, rfl⟩) w_M_has rfl rfl rfl (Nat.le_of_ble_eq_true rfl) (Nat.le_of_ble_eq_true rfl) (m_rlt (q_M_has _) (Nat.lt_of_lt_of_le (by decide) hρ)) rfl (fun v86 s86 => ?_)
    refine e_ifeq (t := 141) i_M_layWays_89 (by decide) ?_ ?_
    · refine e_iinc (w := 1) (L' := [some (.ref w), some (.int n1), some (.int n2), some (.int n3), some (.int n4), some (.int n5), some (.int n6), some (.int (n7 + (1 : Int32)))]) i_M_layWays_141 rfl (of_decide_eq_true rfl) (by decide) rfl ?_
      refine e_goto (t := 71) i_M_layWays_144 (by decide) ?_
      exact rfl
    · refine e_aload_n i_M_layWays_92 rfl ?_
      refine e_iload i_M_layWays_93 rfl ?_
      refine e_iload i_M_layWays_95 rfl ?_
      refine e_callI (as := [.ref w, .int n4, .int n7]) (st' := []) i_M_layWays_97 lm_140 (Or.inr (Or.inl ⟨rfl, rfl⟩)) w_M_isFitting rfl rfl rfl (Nat.le_of_ble_eq_true rfl) (Nat.le_of_ble_eq_true rfl) (m_rlt (q_M_isFitting _) (Nat.lt_of_lt_of_le (by decide) hρ)) rfl (fun v97 s97 => ?_)
      refine e_ifeq (t := 141) i_M_layWays_100 (by decide) ?_ ?_
      · refine e_iinc (w := 1) (L' := [some (.ref w), some (.int n1), some (.int n2), some (.int n3), some (.int n4), some (.int n5), some (.int n6), some (.int (n7 + (1 : Int32)))]) i_M_layWays_141 rfl (of_decide_eq_true rfl) (by decide) rfl ?_
        refine e_goto (t := 71) i_M_layWays_144 (by decide) ?_
        exact rfl
      · refine e_iload i_M_layWays_103 rfl ?_
        refine e_iload_n i_M_layWays_105 rfl ?_
        refine e_icmpne (t := 115) i_M_layWays_106 (by decide) ?_ ?_
        · exact rfl
        · refine e_iload i_M_layWays_109 rfl ?_
          refine e_iload_n i_M_layWays_111 rfl ?_
          refine e_icmpne (t := 141) i_M_layWays_112 (by decide) ?_ ?_
          · refine e_iinc (w := 1) (L' := [some (.ref w), some (.int n1), some (.int n2), some (.int n3), some (.int n4), some (.int n5), some (.int n6), some (.int (n7 + (1 : Int32)))]) i_M_layWays_141 rfl (of_decide_eq_true rfl) (by decide) rfl ?_
            refine e_goto (t := 71) i_M_layWays_144 (by decide) ?_
            exact rfl
          · exact rfl
set_option maxRecDepth 20000 in
set_option maxHeartbeats 1000000 in
theorem E_M_layWays_115 (x : m_X) (ρ : Nat) (hρ : 3 ≤ ρ) (s : m_H) (w : Nat) (n1 : Int32) (n2 : Int32) (n3 : Int32) (n4 : Int32) (n5 : Int32) (n6 : Int32) (n7 : Int32)  : m_D x ρ k_M_layWays 115 [some (.ref w), some (.int n1), some (.int n2), some (.int n3), some (.int n4), some (.int n5), some (.int n6), some (.int n7)] [] s = (m_fR s 11 33 w).bind fun v118 => (m_ia x s v118 (((128 : Int32) * n4) + (n5 &&& (((1 : Int32) <<< (n7 &&& (31 : Int32))) ^^^ (-1 : Int32))))).bind fun v137 => m_D x ρ k_M_layWays 71 [some (.ref w), some (.int n1), some (.int n2), some (.int n3), some (.int n4), some (.int n5), some (.int (n6 + v137)), some (.int (n7 + (1 : Int32)))] [] s := by
  refine e_iload i_M_layWays_115 rfl ?_
  refine e_aload_n i_M_layWays_117 rfl ?_
  refine e_getR i_M_layWays_118 lf_48 (by decide) ft_11_33 (fun v118 => ?_)
  refine e_sipush (v := 128) i_M_layWays_121 (by decide) ?_
  refine e_iload i_M_layWays_124 rfl ?_
  refine e_imul i_M_layWays_126 ?_
  refine e_iload i_M_layWays_127 rfl ?_
  refine e_iconst (v := 1) i_M_layWays_129 (by decide) ?_
  refine e_iload i_M_layWays_130 rfl ?_
  refine e_ishl i_M_layWays_132 ?_
  refine e_iconst (v := (-1)) i_M_layWays_133 (by decide) ?_
  refine e_ixor i_M_layWays_134 ?_
  refine e_iand i_M_layWays_135 ?_
  refine e_iadd i_M_layWays_136 ?_
  refine e_iald i_M_layWays_137 (fun v137 => ?_)
  refine e_iadd i_M_layWays_138 ?_
  refine e_istore (L' := [some (.ref w), some (.int n1), some (.int n2), some (.int n3), some (.int n4), some (.int n5), some (.int (n6 + v137)), some (.int n7)]) i_M_layWays_139 (of_decide_eq_true rfl) rfl ?_
  refine e_iinc (w := 1) (L' := [some (.ref w), some (.int n1), some (.int n2), some (.int n3), some (.int n4), some (.int n5), some (.int (n6 + v137)), some (.int (n7 + (1 : Int32)))]) i_M_layWays_141 rfl (of_decide_eq_true rfl) (by decide) rfl ?_
  refine e_goto (t := 71) i_M_layWays_144 (by decide) ?_
  exact rfl
set_option maxRecDepth 20000 in
set_option maxHeartbeats 1000000 in
theorem E_M_layWays_183 (x : m_X) (ρ : Nat) (hρ : 3 ≤ ρ) (s : m_H) (w : Nat) (n1 : Int32) (n2 : Int32) (n3 : Int32) (n4 : Int32) (n5 : Int32) (d6 : Option Value) (d7 : Option Value) (hd6 : m_nl d6 = true) (hd7 : m_nl d7 = true) : m_D x ρ k_M_layWays 183 [some (.ref w), some (.int n1), some (.int n2), some (.int n3), some (.int n4), some (.int n5), d6, d7] [] s = if n3 ≤ n5 then (some (some (.int n4), s)) else (m_fR s 11 33 w).bind fun v192 => (m_fR s 11 0 w).bind fun v199 => (m_ia x s v199 6).bind fun v204 => (m_ia x s v192 (((128 : Int32) * v204) + n5)).bind fun v209 => m_D x ρ k_M_layWays 183 [some (.ref w), some (.int n1), some (.int n2), some (.int n3), some (.int (n4 + v209)), some (.int (n5 + (1 : Int32))), d6, d7] [] s := by
  refine e_iload i_M_layWays_183 rfl ?_
  refine e_iload_n i_M_layWays_185 rfl ?_
  refine e_icmpge (t := 219) i_M_layWays_186 (by decide) ?_ ?_
  · refine e_iload i_M_layWays_219 rfl ?_
    exact e_iretI i_M_layWays_221 rfl
  · refine e_iload i_M_layWays_189 rfl ?_
    refine e_aload_n i_M_layWays_191 rfl ?_
    refine e_getR i_M_layWays_192 lf_48 (by decide) ft_11_33 (fun v192 => ?_)
    refine e_sipush (v := 128) i_M_layWays_195 (by decide) ?_
    refine e_aload_n i_M_layWays_198 rfl ?_
    refine e_getR i_M_layWays_199 lf_0 (by decide) ft_11_0 (fun v199 => ?_)
    refine e_bipush (v := 6) i_M_layWays_202 (by decide) ?_
    refine e_iald i_M_layWays_204 (fun v204 => ?_)
    refine e_imul i_M_layWays_205 ?_
    refine e_iload i_M_layWays_206 rfl ?_
    refine e_iadd i_M_layWays_208 ?_
    refine e_iald i_M_layWays_209 (fun v209 => ?_)
    refine e_iadd i_M_layWays_210 ?_
    refine e_istore (L' := [some (.ref w), some (.int n1), some (.int n2), some (.int n3), some (.int (n4 + v209)), some (.int n5), d6, d7]) i_M_layWays_211 (of_decide_eq_true rfl) rfl ?_
    refine e_iinc (w := 1) (L' := [some (.ref w), some (.int n1), some (.int n2), some (.int n3), some (.int (n4 + v209)), some (.int (n5 + (1 : Int32))), d6, d7]) i_M_layWays_213 rfl (of_decide_eq_true rfl) (by decide) rfl ?_
    refine e_goto (t := 183) i_M_layWays_216 (by decide) ?_
    exact rfl
theorem i_M_isFitting_0 : m_at k_M_isFitting 0 = some (.aload_n 0, 1, 0) := m_at_of r_M_isFitting (by decide +kernel)
theorem i_M_isFitting_1 : m_at k_M_isFitting 1 = some (.getfield 7, 3, 0) := m_at_of r_M_isFitting (by decide +kernel)
theorem i_M_isFitting_4 : m_at k_M_isFitting 4 = some (.bipush 112, 2, 0) := m_at_of r_M_isFitting (by decide +kernel)
theorem i_M_isFitting_6 : m_at k_M_isFitting 6 = some (.iload_n 2, 1, 0) := m_at_of r_M_isFitting (by decide +kernel)
theorem i_M_isFitting_7 : m_at k_M_isFitting 7 = some (.iadd, 1, 0) := m_at_of r_M_isFitting (by decide +kernel)
theorem i_M_isFitting_8 : m_at k_M_isFitting 8 = some (.iaload, 1, 0) := m_at_of r_M_isFitting (by decide +kernel)
theorem i_M_isFitting_9 : m_at k_M_isFitting 9 = some (.aload_n 0, 1, 0) := m_at_of r_M_isFitting (by decide +kernel)
theorem i_M_isFitting_10 : m_at k_M_isFitting 10 = some (.getfield 7, 3, 0) := m_at_of r_M_isFitting (by decide +kernel)
theorem i_M_isFitting_13 : m_at k_M_isFitting 13 = some (.sipush 140, 3, 0) := m_at_of r_M_isFitting (by decide +kernel)
theorem i_M_isFitting_16 : m_at k_M_isFitting 16 = some (.iconst 2, 1, 0) := m_at_of r_M_isFitting (by decide +kernel)
theorem i_M_isFitting_17 : m_at k_M_isFitting 17 = some (.iload_n 1, 1, 0) := m_at_of r_M_isFitting (by decide +kernel)
theorem i_M_isFitting_18 : m_at k_M_isFitting 18 = some (.imul, 1, 0) := m_at_of r_M_isFitting (by decide +kernel)
theorem i_M_isFitting_19 : m_at k_M_isFitting 19 = some (.iadd, 1, 0) := m_at_of r_M_isFitting (by decide +kernel)
theorem i_M_isFitting_20 : m_at k_M_isFitting 20 = some (.iaload, 1, 0) := m_at_of r_M_isFitting (by decide +kernel)
theorem i_M_isFitting_21 : m_at k_M_isFitting 21 = some (.isub, 1, 0) := m_at_of r_M_isFitting (by decide +kernel)
theorem i_M_isFitting_22 : m_at k_M_isFitting 22 = some (.invokestatic 93, 3, 141) := m_at_of r_M_isFitting (by decide +kernel)
theorem i_M_isFitting_25 : m_at k_M_isFitting 25 = some (.aload_n 0, 1, 0) := m_at_of r_M_isFitting (by decide +kernel)
theorem i_M_isFitting_26 : m_at k_M_isFitting 26 = some (.getfield 7, 3, 0) := m_at_of r_M_isFitting (by decide +kernel)
theorem i_M_isFitting_29 : m_at k_M_isFitting 29 = some (.sipush 140, 3, 0) := m_at_of r_M_isFitting (by decide +kernel)
theorem i_M_isFitting_32 : m_at k_M_isFitting 32 = some (.iconst 2, 1, 0) := m_at_of r_M_isFitting (by decide +kernel)
theorem i_M_isFitting_33 : m_at k_M_isFitting 33 = some (.iload_n 1, 1, 0) := m_at_of r_M_isFitting (by decide +kernel)
theorem i_M_isFitting_34 : m_at k_M_isFitting 34 = some (.imul, 1, 0) := m_at_of r_M_isFitting (by decide +kernel)
theorem i_M_isFitting_35 : m_at k_M_isFitting 35 = some (.iadd, 1, 0) := m_at_of r_M_isFitting (by decide +kernel)
theorem i_M_isFitting_36 : m_at k_M_isFitting 36 = some (.iconst 1, 1, 0) := m_at_of r_M_isFitting (by decide +kernel)
theorem i_M_isFitting_37 : m_at k_M_isFitting 37 = some (.iadd, 1, 0) := m_at_of r_M_isFitting (by decide +kernel)
theorem i_M_isFitting_38 : m_at k_M_isFitting 38 = some (.iaload, 1, 0) := m_at_of r_M_isFitting (by decide +kernel)
theorem i_M_isFitting_39 : m_at k_M_isFitting 39 = some (.if_icmp .gt (7), 3, 0) := m_at_of r_M_isFitting (by decide +kernel)
theorem i_M_isFitting_42 : m_at k_M_isFitting 42 = some (.iconst 1, 1, 0) := m_at_of r_M_isFitting (by decide +kernel)
theorem i_M_isFitting_43 : m_at k_M_isFitting 43 = some (.goto (4), 3, 0) := m_at_of r_M_isFitting (by decide +kernel)
theorem i_M_isFitting_46 : m_at k_M_isFitting 46 = some (.iconst 0, 1, 0) := m_at_of r_M_isFitting (by decide +kernel)
theorem i_M_isFitting_47 : m_at k_M_isFitting 47 = some (.ireturn, 1, 0) := m_at_of r_M_isFitting (by decide +kernel)
set_option maxRecDepth 20000 in
set_option maxHeartbeats 1000000 in
theorem E_M_isFitting (x : m_X) (s : m_H) (w : Nat) (n1 : Int32) (n2 : Int32) : m_M x k_M_isFitting [.ref w, .int n1, .int n2] s = if m_isO s w 11 = true then ((m_fR s 11 0 w).bind fun v1 => (m_ia x s v1 ((112 : Int32) + n2)).bind fun v8 => (m_fR s 11 0 w).bind fun v10 => (m_ia x s v10 ((140 : Int32) + ((2 : Int32) * n1))).bind fun v20 => m_bI (m_M x k_M_off [.int (v8 - v20)] s) fun v22 s22 => (m_fR s22 11 0 w).bind fun v26 => (m_ia x s22 v26 (((140 : Int32) + ((2 : Int32) * n1)) + (1 : Int32))).bind fun v38 => if v38 < v22 then (some (some (.int 0), s22)) else some (some (.int 1), s22)) else none := by
  refine e_M1 (L0 := [some (.ref w), some (.int n1), some (.int n2)]) rfl (by decide +kernel) rfl (q_M_isFitting _) rfl ?_
  refine e_aload_n i_M_isFitting_0 rfl ?_
  refine e_getR i_M_isFitting_1 lf_0 (by decide) ft_11_0 (fun v1 => ?_)
  refine e_bipush (v := 112) i_M_isFitting_4 (by decide) ?_
  refine e_iload_n i_M_isFitting_6 rfl ?_
  refine e_iadd i_M_isFitting_7 ?_
  refine e_iald i_M_isFitting_8 (fun v8 => ?_)
  refine e_aload_n i_M_isFitting_9 rfl ?_
  refine e_getR i_M_isFitting_10 lf_0 (by decide) ft_11_0 (fun v10 => ?_)
  refine e_sipush (v := 140) i_M_isFitting_13 (by decide) ?_
  refine e_iconst (v := 2) i_M_isFitting_16 (by decide) ?_
  refine e_iload_n i_M_isFitting_17 rfl ?_
  refine e_imul i_M_isFitting_18 ?_
  refine e_iadd i_M_isFitting_19 ?_
  refine e_iald i_M_isFitting_20 (fun v20 => ?_)
  refine e_isub i_M_isFitting_21 ?_
  refine e_callI (as := [.int (v8 - v20)]) (st' := []) i_M_isFitting_22 lm_141 (Or.inl ⟨rfl, rfl⟩) w_M_off rfl rfl rfl (Nat.le_of_ble_eq_true rfl) (Nat.le_of_ble_eq_true rfl) (m_rlt (q_M_off _) (by decide)) rfl (fun v22 s22 => ?_)
  refine e_aload_n i_M_isFitting_25 rfl ?_
  refine e_getR i_M_isFitting_26 lf_0 (by decide) ft_11_0 (fun v26 => ?_)
  refine e_sipush (v := 140) i_M_isFitting_29 (by decide) ?_
  refine e_iconst (v := 2) i_M_isFitting_32 (by decide) ?_
  refine e_iload_n i_M_isFitting_33 rfl ?_
  refine e_imul i_M_isFitting_34 ?_
  refine e_iadd i_M_isFitting_35 ?_
  refine e_iconst (v := 1) i_M_isFitting_36 (by decide) ?_
  refine e_iadd i_M_isFitting_37 ?_
  refine e_iald i_M_isFitting_38 (fun v38 => ?_)
  refine e_icmpgt (t := 46) i_M_isFitting_39 (by decide) ?_ ?_
  · refine e_iconst (v := 0) i_M_isFitting_46 (by decide) ?_
    exact e_iretZ i_M_isFitting_47 rfl (by decide)
  · refine e_iconst (v := 1) i_M_isFitting_42 (by decide) ?_
    refine e_goto (t := 47) i_M_isFitting_43 (by decide) ?_
    exact e_iretZ i_M_isFitting_47 rfl (by decide)
theorem i_M_chest_0 : m_at k_M_chest 0 = some (.iload_n 1, 1, 0) := m_at_of r_M_chest (by decide +kernel)
theorem i_M_chest_1 : m_at k_M_chest 1 = some (.iconst (-1), 1, 0) := m_at_of r_M_chest (by decide +kernel)
theorem i_M_chest_2 : m_at k_M_chest 2 = some (.if_icmp .ne (13), 3, 0) := m_at_of r_M_chest (by decide +kernel)
theorem i_M_chest_5 : m_at k_M_chest 5 = some (.aload_n 0, 1, 0) := m_at_of r_M_chest (by decide +kernel)
theorem i_M_chest_6 : m_at k_M_chest 6 = some (.getfield 7, 3, 0) := m_at_of r_M_chest (by decide +kernel)
theorem i_M_chest_9 : m_at k_M_chest 9 = some (.bipush 6, 2, 0) := m_at_of r_M_chest (by decide +kernel)
theorem i_M_chest_11 : m_at k_M_chest 11 = some (.iconst 0, 1, 0) := m_at_of r_M_chest (by decide +kernel)
theorem i_M_chest_12 : m_at k_M_chest 12 = some (.iastore, 1, 0) := m_at_of r_M_chest (by decide +kernel)
theorem i_M_chest_13 : m_at k_M_chest 13 = some (.iconst 0, 1, 0) := m_at_of r_M_chest (by decide +kernel)
theorem i_M_chest_14 : m_at k_M_chest 14 = some (.ireturn, 1, 0) := m_at_of r_M_chest (by decide +kernel)
theorem i_M_chest_15 : m_at k_M_chest 15 = some (.iload_n 1, 1, 0) := m_at_of r_M_chest (by decide +kernel)
theorem i_M_chest_16 : m_at k_M_chest 16 = some (.iconst 1, 1, 0) := m_at_of r_M_chest (by decide +kernel)
theorem i_M_chest_17 : m_at k_M_chest 17 = some (.bipush 9, 2, 0) := m_at_of r_M_chest (by decide +kernel)
theorem i_M_chest_19 : m_at k_M_chest 19 = some (.invokestatic 81, 3, 96) := m_at_of r_M_chest (by decide +kernel)
theorem i_M_chest_22 : m_at k_M_chest 22 = some (.ifCond .eq (25), 3, 0) := m_at_of r_M_chest (by decide +kernel)
theorem i_M_chest_25 : m_at k_M_chest 25 = some (.iload_n 2, 1, 0) := m_at_of r_M_chest (by decide +kernel)
theorem i_M_chest_26 : m_at k_M_chest 26 = some (.iconst 0, 1, 0) := m_at_of r_M_chest (by decide +kernel)
theorem i_M_chest_27 : m_at k_M_chest 27 = some (.bipush 8, 2, 0) := m_at_of r_M_chest (by decide +kernel)
theorem i_M_chest_29 : m_at k_M_chest 29 = some (.invokestatic 81, 3, 96) := m_at_of r_M_chest (by decide +kernel)
theorem i_M_chest_32 : m_at k_M_chest 32 = some (.ifCond .eq (15), 3, 0) := m_at_of r_M_chest (by decide +kernel)
theorem i_M_chest_35 : m_at k_M_chest 35 = some (.aload_n 0, 1, 0) := m_at_of r_M_chest (by decide +kernel)
theorem i_M_chest_36 : m_at k_M_chest 36 = some (.getfield 7, 3, 0) := m_at_of r_M_chest (by decide +kernel)
theorem i_M_chest_39 : m_at k_M_chest 39 = some (.bipush 6, 2, 0) := m_at_of r_M_chest (by decide +kernel)
theorem i_M_chest_41 : m_at k_M_chest 41 = some (.iaload, 1, 0) := m_at_of r_M_chest (by decide +kernel)
theorem i_M_chest_42 : m_at k_M_chest 42 = some (.bipush 6, 2, 0) := m_at_of r_M_chest (by decide +kernel)
theorem i_M_chest_44 : m_at k_M_chest 44 = some (.if_icmp .ne (6), 3, 0) := m_at_of r_M_chest (by decide +kernel)
theorem i_M_chest_47 : m_at k_M_chest 47 = some (.bipush (-2), 2, 0) := m_at_of r_M_chest (by decide +kernel)
theorem i_M_chest_49 : m_at k_M_chest 49 = some (.ireturn, 1, 0) := m_at_of r_M_chest (by decide +kernel)
theorem i_M_chest_50 : m_at k_M_chest 50 = some (.aload_n 0, 1, 0) := m_at_of r_M_chest (by decide +kernel)
theorem i_M_chest_51 : m_at k_M_chest 51 = some (.getfield 7, 3, 0) := m_at_of r_M_chest (by decide +kernel)
theorem i_M_chest_54 : m_at k_M_chest 54 = some (.sipush 140, 3, 0) := m_at_of r_M_chest (by decide +kernel)
theorem i_M_chest_57 : m_at k_M_chest 57 = some (.iconst 2, 1, 0) := m_at_of r_M_chest (by decide +kernel)
theorem i_M_chest_58 : m_at k_M_chest 58 = some (.aload_n 0, 1, 0) := m_at_of r_M_chest (by decide +kernel)
theorem i_M_chest_59 : m_at k_M_chest 59 = some (.getfield 7, 3, 0) := m_at_of r_M_chest (by decide +kernel)
theorem i_M_chest_62 : m_at k_M_chest 62 = some (.bipush 6, 2, 0) := m_at_of r_M_chest (by decide +kernel)
theorem i_M_chest_64 : m_at k_M_chest 64 = some (.iaload, 1, 0) := m_at_of r_M_chest (by decide +kernel)
theorem i_M_chest_65 : m_at k_M_chest 65 = some (.imul, 1, 0) := m_at_of r_M_chest (by decide +kernel)
theorem i_M_chest_66 : m_at k_M_chest 66 = some (.iadd, 1, 0) := m_at_of r_M_chest (by decide +kernel)
theorem i_M_chest_67 : m_at k_M_chest 67 = some (.iload_n 1, 1, 0) := m_at_of r_M_chest (by decide +kernel)
theorem i_M_chest_68 : m_at k_M_chest 68 = some (.iastore, 1, 0) := m_at_of r_M_chest (by decide +kernel)
theorem i_M_chest_69 : m_at k_M_chest 69 = some (.aload_n 0, 1, 0) := m_at_of r_M_chest (by decide +kernel)
theorem i_M_chest_70 : m_at k_M_chest 70 = some (.getfield 7, 3, 0) := m_at_of r_M_chest (by decide +kernel)
theorem i_M_chest_73 : m_at k_M_chest 73 = some (.sipush 140, 3, 0) := m_at_of r_M_chest (by decide +kernel)
theorem i_M_chest_76 : m_at k_M_chest 76 = some (.iconst 2, 1, 0) := m_at_of r_M_chest (by decide +kernel)
theorem i_M_chest_77 : m_at k_M_chest 77 = some (.aload_n 0, 1, 0) := m_at_of r_M_chest (by decide +kernel)
theorem i_M_chest_78 : m_at k_M_chest 78 = some (.getfield 7, 3, 0) := m_at_of r_M_chest (by decide +kernel)
theorem i_M_chest_81 : m_at k_M_chest 81 = some (.bipush 6, 2, 0) := m_at_of r_M_chest (by decide +kernel)
theorem i_M_chest_83 : m_at k_M_chest 83 = some (.iaload, 1, 0) := m_at_of r_M_chest (by decide +kernel)
theorem i_M_chest_84 : m_at k_M_chest 84 = some (.imul, 1, 0) := m_at_of r_M_chest (by decide +kernel)
theorem i_M_chest_85 : m_at k_M_chest 85 = some (.iadd, 1, 0) := m_at_of r_M_chest (by decide +kernel)
theorem i_M_chest_86 : m_at k_M_chest 86 = some (.iconst 1, 1, 0) := m_at_of r_M_chest (by decide +kernel)
theorem i_M_chest_87 : m_at k_M_chest 87 = some (.iadd, 1, 0) := m_at_of r_M_chest (by decide +kernel)
theorem i_M_chest_88 : m_at k_M_chest 88 = some (.iload_n 2, 1, 0) := m_at_of r_M_chest (by decide +kernel)
theorem i_M_chest_89 : m_at k_M_chest 89 = some (.iastore, 1, 0) := m_at_of r_M_chest (by decide +kernel)
theorem i_M_chest_90 : m_at k_M_chest 90 = some (.aload_n 0, 1, 0) := m_at_of r_M_chest (by decide +kernel)
theorem i_M_chest_91 : m_at k_M_chest 91 = some (.getfield 7, 3, 0) := m_at_of r_M_chest (by decide +kernel)
theorem i_M_chest_94 : m_at k_M_chest 94 = some (.bipush 6, 2, 0) := m_at_of r_M_chest (by decide +kernel)
theorem i_M_chest_96 : m_at k_M_chest 96 = some (.dup2, 1, 0) := m_at_of r_M_chest (by decide +kernel)
theorem i_M_chest_97 : m_at k_M_chest 97 = some (.iaload, 1, 0) := m_at_of r_M_chest (by decide +kernel)
theorem i_M_chest_98 : m_at k_M_chest 98 = some (.iconst 1, 1, 0) := m_at_of r_M_chest (by decide +kernel)
theorem i_M_chest_99 : m_at k_M_chest 99 = some (.iadd, 1, 0) := m_at_of r_M_chest (by decide +kernel)
theorem i_M_chest_100 : m_at k_M_chest 100 = some (.iastore, 1, 0) := m_at_of r_M_chest (by decide +kernel)
theorem i_M_chest_101 : m_at k_M_chest 101 = some (.aload_n 0, 1, 0) := m_at_of r_M_chest (by decide +kernel)
theorem i_M_chest_102 : m_at k_M_chest 102 = some (.getfield 7, 3, 0) := m_at_of r_M_chest (by decide +kernel)
theorem i_M_chest_105 : m_at k_M_chest 105 = some (.bipush 6, 2, 0) := m_at_of r_M_chest (by decide +kernel)
theorem i_M_chest_107 : m_at k_M_chest 107 = some (.iaload, 1, 0) := m_at_of r_M_chest (by decide +kernel)
theorem i_M_chest_108 : m_at k_M_chest 108 = some (.ireturn, 1, 0) := m_at_of r_M_chest (by decide +kernel)
set_option maxRecDepth 20000 in
set_option maxHeartbeats 1000000 in
theorem E_M_chest (x : m_X) (s : m_H) (w : Nat) (n1 : Int32) (n2 : Int32) : m_M x k_M_chest [.ref w, .int n1, .int n2] s = if m_isO s w 11 = true then (if n1 = (-1) then ((m_fR s 11 0 w).bind fun v6 => (m_is s v6 6 0).bind fun s12 => some (some (.int 0), s12)) else m_bI (m_M x k_M_isIn [.int n1, .int 1, .int 9] s) fun v19 s19 => if v19 = 0 then (some (some (.int (-2)), s19)) else m_bI (m_M x k_M_isIn [.int n2, .int 0, .int 8] s19) fun v29 s29 => if v29 = 0 then (some (some (.int (-2)), s29)) else (m_fR s29 11 0 w).bind fun v36 => (m_ia x s29 v36 6).bind fun v41 => if v41 = 6 then (some (some (.int (-2)), s29)) else (m_fR s29 11 0 w).bind fun v51 => (m_fR s29 11 0 w).bind fun v59 => (m_ia x s29 v59 6).bind fun v64 => (m_is s29 v51 ((140 : Int32) + ((2 : Int32) * v64)) n1).bind fun s68 => (m_fR s68 11 0 w).bind fun v70 => (m_fR s68 11 0 w).bind fun v78 => (m_ia x s68 v78 6).bind fun v83 => (m_is s68 v70 (((140 : Int32) + ((2 : Int32) * v83)) + (1 : Int32)) n2).bind fun s89 => (m_fR s89 11 0 w).bind fun v91 => (m_ia x s89 v91 6).bind fun v97 => (m_is s89 v91 6 (v97 + (1 : Int32))).bind fun s100 => (m_fR s100 11 0 w).bind fun v102 => (m_ia x s100 v102 6).bind fun v107 => some (some (.int v107), s100)) else none := by
  refine e_M1 (L0 := [some (.ref w), some (.int n1), some (.int n2)]) rfl (by decide +kernel) rfl (q_M_chest _) rfl ?_
  refine e_iload_n i_M_chest_0 rfl ?_
  refine e_iconst (v := (-1)) i_M_chest_1 (by decide) ?_
  refine e_icmpne (t := 15) i_M_chest_2 (by decide) ?_ ?_
  · refine e_iload_n i_M_chest_15 rfl ?_
    refine e_iconst (v := 1) i_M_chest_16 (by decide) ?_
    refine e_bipush (v := 9) i_M_chest_17 (by decide) ?_
    refine e_callI (as := [.int n1, .int 1, .int 9]) (st' := []) i_M_chest_19 lm_96 (Or.inl ⟨rfl, rfl⟩) w_M_isIn rfl rfl rfl (Nat.le_of_ble_eq_true rfl) (Nat.le_of_ble_eq_true rfl) (m_rlt (q_M_isIn _) (by decide)) rfl (fun v19 s19 => ?_)
    refine e_ifeq (t := 47) i_M_chest_22 (by decide) ?_ ?_
    · refine e_bipush (v := (-2)) i_M_chest_47 (by decide) ?_
      exact e_iretI i_M_chest_49 rfl
    · refine e_iload_n i_M_chest_25 rfl ?_
      refine e_iconst (v := 0) i_M_chest_26 (by decide) ?_
      refine e_bipush (v := 8) i_M_chest_27 (by decide) ?_
      refine e_callI (as := [.int n2, .int 0, .int 8]) (st' := []) i_M_chest_29 lm_96 (Or.inl ⟨rfl, rfl⟩) w_M_isIn rfl rfl rfl (Nat.le_of_ble_eq_true rfl) (Nat.le_of_ble_eq_true rfl) (m_rlt (q_M_isIn _) (by decide)) rfl (fun v29 s29 => ?_)
      refine e_ifeq (t := 47) i_M_chest_32 (by decide) ?_ ?_
      · refine e_bipush (v := (-2)) i_M_chest_47 (by decide) ?_
        exact e_iretI i_M_chest_49 rfl
      · refine e_aload_n i_M_chest_35 rfl ?_
        refine e_getR i_M_chest_36 lf_0 (by decide) ft_11_0 (fun v36 => ?_)
        refine e_bipush (v := 6) i_M_chest_39 (by decide) ?_
        refine e_iald i_M_chest_41 (fun v41 => ?_)
        refine e_bipush (v := 6) i_M_chest_42 (by decide) ?_
        refine e_icmpne (t := 50) i_M_chest_44 (by decide) ?_ ?_
        · refine e_aload_n i_M_chest_50 rfl ?_
          refine e_getR i_M_chest_51 lf_0 (by decide) ft_11_0 (fun v51 => ?_)
          refine e_sipush (v := 140) i_M_chest_54 (by decide) ?_
          refine e_iconst (v := 2) i_M_chest_57 (by decide) ?_
          refine e_aload_n i_M_chest_58 rfl ?_
          refine e_getR i_M_chest_59 lf_0 (by decide) ft_11_0 (fun v59 => ?_)
          refine e_bipush (v := 6) i_M_chest_62 (by decide) ?_
          refine e_iald i_M_chest_64 (fun v64 => ?_)
          refine e_imul i_M_chest_65 ?_
          refine e_iadd i_M_chest_66 ?_
          refine e_iload_n i_M_chest_67 rfl ?_
          refine e_iast i_M_chest_68 (fun s68 => ?_)
          refine e_aload_n i_M_chest_69 rfl ?_
          refine e_getR i_M_chest_70 lf_0 (by decide) ft_11_0 (fun v70 => ?_)
          refine e_sipush (v := 140) i_M_chest_73 (by decide) ?_
          refine e_iconst (v := 2) i_M_chest_76 (by decide) ?_
          refine e_aload_n i_M_chest_77 rfl ?_
          refine e_getR i_M_chest_78 lf_0 (by decide) ft_11_0 (fun v78 => ?_)
          refine e_bipush (v := 6) i_M_chest_81 (by decide) ?_
          refine e_iald i_M_chest_83 (fun v83 => ?_)
          refine e_imul i_M_chest_84 ?_
          refine e_iadd i_M_chest_85 ?_
          refine e_iconst (v := 1) i_M_chest_86 (by decide) ?_
          refine e_iadd i_M_chest_87 ?_
          refine e_iload_n i_M_chest_88 rfl ?_
          refine e_iast i_M_chest_89 (fun s89 => ?_)
          refine e_aload_n i_M_chest_90 rfl ?_
          refine e_getR i_M_chest_91 lf_0 (by decide) ft_11_0 (fun v91 => ?_)
          refine e_bipush (v := 6) i_M_chest_94 (by decide) ?_
          refine e_dup2 i_M_chest_96 ⟨rfl, rfl⟩ ?_
          refine e_iald i_M_chest_97 (fun v97 => ?_)
          refine e_iconst (v := 1) i_M_chest_98 (by decide) ?_
          refine e_iadd i_M_chest_99 ?_
          refine e_iast i_M_chest_100 (fun s100 => ?_)
          refine e_aload_n i_M_chest_101 rfl ?_
          refine e_getR i_M_chest_102 lf_0 (by decide) ft_11_0 (fun v102 => ?_)
          refine e_bipush (v := 6) i_M_chest_105 (by decide) ?_
          refine e_iald i_M_chest_107 (fun v107 => ?_)
          exact e_iretI i_M_chest_108 rfl
        · refine e_bipush (v := (-2)) i_M_chest_47 (by decide) ?_
          exact e_iretI i_M_chest_49 rfl
  · refine e_aload_n i_M_chest_5 rfl ?_
    refine e_getR i_M_chest_6 lf_0 (by decide) ft_11_0 (fun v6 => ?_)
    refine e_bipush (v := 6) i_M_chest_9 (by decide) ?_
    refine e_iconst (v := 0) i_M_chest_11 (by decide) ?_
    refine e_iast i_M_chest_12 (fun s12 => ?_)
    refine e_iconst (v := 0) i_M_chest_13 (by decide) ?_
    exact e_iretI i_M_chest_14 rfl
theorem i_M_auction_0 : m_at k_M_auction 0 = some (.aload_n 0, 1, 0) := m_at_of r_M_auction (by decide +kernel)
theorem i_M_auction_1 : m_at k_M_auction 1 = some (.iload_n 1, 1, 0) := m_at_of r_M_auction (by decide +kernel)
theorem i_M_auction_2 : m_at k_M_auction 2 = some (.invokevirtual 365, 3, 116) := m_at_of r_M_auction (by decide +kernel)
theorem i_M_auction_5 : m_at k_M_auction 5 = some (.ifCond .eq (14), 3, 0) := m_at_of r_M_auction (by decide +kernel)
theorem i_M_auction_8 : m_at k_M_auction 8 = some (.aload_n 0, 1, 0) := m_at_of r_M_auction (by decide +kernel)
theorem i_M_auction_9 : m_at k_M_auction 9 = some (.iload_n 1, 1, 0) := m_at_of r_M_auction (by decide +kernel)
theorem i_M_auction_10 : m_at k_M_auction 10 = some (.bipush 6, 2, 0) := m_at_of r_M_auction (by decide +kernel)
theorem i_M_auction_12 : m_at k_M_auction 12 = some (.invokevirtual 85, 3, 106) := m_at_of r_M_auction (by decide +kernel)
theorem i_M_auction_15 : m_at k_M_auction 15 = some (.iconst 2, 1, 0) := m_at_of r_M_auction (by decide +kernel)
theorem i_M_auction_16 : m_at k_M_auction 16 = some (.if_icmp .eq (5), 3, 0) := m_at_of r_M_auction (by decide +kernel)
theorem i_M_auction_19 : m_at k_M_auction 19 = some (.iconst (-1), 1, 0) := m_at_of r_M_auction (by decide +kernel)
theorem i_M_auction_20 : m_at k_M_auction 20 = some (.ireturn, 1, 0) := m_at_of r_M_auction (by decide +kernel)
theorem i_M_auction_21 : m_at k_M_auction 21 = some (.iconst (-1), 1, 0) := m_at_of r_M_auction (by decide +kernel)
theorem i_M_auction_22 : m_at k_M_auction 22 = some (.istore_n 3, 1, 0) := m_at_of r_M_auction (by decide +kernel)
theorem i_M_auction_23 : m_at k_M_auction 23 = some (.iconst 0, 1, 0) := m_at_of r_M_auction (by decide +kernel)
theorem i_M_auction_24 : m_at k_M_auction 24 = some (.istore 4, 2, 0) := m_at_of r_M_auction (by decide +kernel)
theorem i_M_auction_26 : m_at k_M_auction 26 = some (.iconst 0, 1, 0) := m_at_of r_M_auction (by decide +kernel)
theorem i_M_auction_27 : m_at k_M_auction 27 = some (.istore 5, 2, 0) := m_at_of r_M_auction (by decide +kernel)
theorem i_M_auction_29 : m_at k_M_auction 29 = some (.iload 5, 2, 0) := m_at_of r_M_auction (by decide +kernel)
theorem i_M_auction_31 : m_at k_M_auction 31 = some (.aload_n 0, 1, 0) := m_at_of r_M_auction (by decide +kernel)
theorem i_M_auction_32 : m_at k_M_auction 32 = some (.getfield 7, 3, 0) := m_at_of r_M_auction (by decide +kernel)
theorem i_M_auction_35 : m_at k_M_auction 35 = some (.iconst 0, 1, 0) := m_at_of r_M_auction (by decide +kernel)
theorem i_M_auction_36 : m_at k_M_auction 36 = some (.iaload, 1, 0) := m_at_of r_M_auction (by decide +kernel)
theorem i_M_auction_37 : m_at k_M_auction 37 = some (.if_icmp .ge (92), 3, 0) := m_at_of r_M_auction (by decide +kernel)
theorem i_M_auction_40 : m_at k_M_auction 40 = some (.aload_n 0, 1, 0) := m_at_of r_M_auction (by decide +kernel)
theorem i_M_auction_41 : m_at k_M_auction 41 = some (.getfield 7, 3, 0) := m_at_of r_M_auction (by decide +kernel)
theorem i_M_auction_44 : m_at k_M_auction 44 = some (.bipush 13, 2, 0) := m_at_of r_M_auction (by decide +kernel)
theorem i_M_auction_46 : m_at k_M_auction 46 = some (.iload 5, 2, 0) := m_at_of r_M_auction (by decide +kernel)
theorem i_M_auction_48 : m_at k_M_auction 48 = some (.iadd, 1, 0) := m_at_of r_M_auction (by decide +kernel)
theorem i_M_auction_49 : m_at k_M_auction 49 = some (.iaload, 1, 0) := m_at_of r_M_auction (by decide +kernel)
theorem i_M_auction_50 : m_at k_M_auction 50 = some (.ifCond .ne (6), 3, 0) := m_at_of r_M_auction (by decide +kernel)
theorem i_M_auction_53 : m_at k_M_auction 53 = some (.goto (70), 3, 0) := m_at_of r_M_auction (by decide +kernel)
theorem i_M_auction_56 : m_at k_M_auction 56 = some (.iload_n 3, 1, 0) := m_at_of r_M_auction (by decide +kernel)
theorem i_M_auction_57 : m_at k_M_auction 57 = some (.iconst (-1), 1, 0) := m_at_of r_M_auction (by decide +kernel)
theorem i_M_auction_58 : m_at k_M_auction 58 = some (.if_icmp .ne (9), 3, 0) := m_at_of r_M_auction (by decide +kernel)
theorem i_M_auction_61 : m_at k_M_auction 61 = some (.iload 5, 2, 0) := m_at_of r_M_auction (by decide +kernel)
theorem i_M_auction_63 : m_at k_M_auction 63 = some (.istore_n 3, 1, 0) := m_at_of r_M_auction (by decide +kernel)
theorem i_M_auction_64 : m_at k_M_auction 64 = some (.goto (59), 3, 0) := m_at_of r_M_auction (by decide +kernel)
theorem i_M_auction_67 : m_at k_M_auction 67 = some (.aload_n 0, 1, 0) := m_at_of r_M_auction (by decide +kernel)
theorem i_M_auction_68 : m_at k_M_auction 68 = some (.iload 5, 2, 0) := m_at_of r_M_auction (by decide +kernel)
theorem i_M_auction_70 : m_at k_M_auction 70 = some (.iload_n 1, 1, 0) := m_at_of r_M_auction (by decide +kernel)
theorem i_M_auction_71 : m_at k_M_auction 71 = some (.invokevirtual 489, 3, 149) := m_at_of r_M_auction (by decide +kernel)
theorem i_M_auction_74 : m_at k_M_auction 74 = some (.aload_n 0, 1, 0) := m_at_of r_M_auction (by decide +kernel)
theorem i_M_auction_75 : m_at k_M_auction 75 = some (.iload_n 3, 1, 0) := m_at_of r_M_auction (by decide +kernel)
theorem i_M_auction_76 : m_at k_M_auction 76 = some (.iload_n 1, 1, 0) := m_at_of r_M_auction (by decide +kernel)
theorem i_M_auction_77 : m_at k_M_auction 77 = some (.invokevirtual 489, 3, 149) := m_at_of r_M_auction (by decide +kernel)
theorem i_M_auction_80 : m_at k_M_auction 80 = some (.if_icmp .le (17), 3, 0) := m_at_of r_M_auction (by decide +kernel)
theorem i_M_auction_83 : m_at k_M_auction 83 = some (.aload_n 0, 1, 0) := m_at_of r_M_auction (by decide +kernel)
theorem i_M_auction_84 : m_at k_M_auction 84 = some (.iload_n 3, 1, 0) := m_at_of r_M_auction (by decide +kernel)
theorem i_M_auction_85 : m_at k_M_auction 85 = some (.iload_n 1, 1, 0) := m_at_of r_M_auction (by decide +kernel)
theorem i_M_auction_86 : m_at k_M_auction 86 = some (.invokevirtual 489, 3, 149) := m_at_of r_M_auction (by decide +kernel)
theorem i_M_auction_89 : m_at k_M_auction 89 = some (.istore 4, 2, 0) := m_at_of r_M_auction (by decide +kernel)
theorem i_M_auction_91 : m_at k_M_auction 91 = some (.iload 5, 2, 0) := m_at_of r_M_auction (by decide +kernel)
theorem i_M_auction_93 : m_at k_M_auction 93 = some (.istore_n 3, 1, 0) := m_at_of r_M_auction (by decide +kernel)
theorem i_M_auction_94 : m_at k_M_auction 94 = some (.goto (29), 3, 0) := m_at_of r_M_auction (by decide +kernel)
theorem i_M_auction_97 : m_at k_M_auction 97 = some (.aload_n 0, 1, 0) := m_at_of r_M_auction (by decide +kernel)
theorem i_M_auction_98 : m_at k_M_auction 98 = some (.iload 5, 2, 0) := m_at_of r_M_auction (by decide +kernel)
theorem i_M_auction_100 : m_at k_M_auction 100 = some (.iload_n 1, 1, 0) := m_at_of r_M_auction (by decide +kernel)
theorem i_M_auction_101 : m_at k_M_auction 101 = some (.invokevirtual 489, 3, 149) := m_at_of r_M_auction (by decide +kernel)
theorem i_M_auction_104 : m_at k_M_auction 104 = some (.iload 4, 2, 0) := m_at_of r_M_auction (by decide +kernel)
theorem i_M_auction_106 : m_at k_M_auction 106 = some (.if_icmp .le (13), 3, 0) := m_at_of r_M_auction (by decide +kernel)
theorem i_M_auction_109 : m_at k_M_auction 109 = some (.aload_n 0, 1, 0) := m_at_of r_M_auction (by decide +kernel)
theorem i_M_auction_110 : m_at k_M_auction 110 = some (.iload 5, 2, 0) := m_at_of r_M_auction (by decide +kernel)
theorem i_M_auction_112 : m_at k_M_auction 112 = some (.iload_n 1, 1, 0) := m_at_of r_M_auction (by decide +kernel)
theorem i_M_auction_113 : m_at k_M_auction 113 = some (.invokevirtual 489, 3, 149) := m_at_of r_M_auction (by decide +kernel)
theorem i_M_auction_116 : m_at k_M_auction 116 = some (.goto (5), 3, 0) := m_at_of r_M_auction (by decide +kernel)
theorem i_M_auction_119 : m_at k_M_auction 119 = some (.iload 4, 2, 0) := m_at_of r_M_auction (by decide +kernel)
theorem i_M_auction_121 : m_at k_M_auction 121 = some (.istore 4, 2, 0) := m_at_of r_M_auction (by decide +kernel)
theorem i_M_auction_123 : m_at k_M_auction 123 = some (.iinc 5 (1), 3, 0) := m_at_of r_M_auction (by decide +kernel)
theorem i_M_auction_126 : m_at k_M_auction 126 = some (.goto (-97), 3, 0) := m_at_of r_M_auction (by decide +kernel)
theorem i_M_auction_129 : m_at k_M_auction 129 = some (.iload_n 3, 1, 0) := m_at_of r_M_auction (by decide +kernel)
theorem i_M_auction_130 : m_at k_M_auction 130 = some (.iconst (-1), 1, 0) := m_at_of r_M_auction (by decide +kernel)
theorem i_M_auction_131 : m_at k_M_auction 131 = some (.if_icmp .eq (7), 3, 0) := m_at_of r_M_auction (by decide +kernel)
theorem i_M_auction_134 : m_at k_M_auction 134 = some (.iload_n 2, 1, 0) := m_at_of r_M_auction (by decide +kernel)
theorem i_M_auction_135 : m_at k_M_auction 135 = some (.ifCond .ne (7), 3, 0) := m_at_of r_M_auction (by decide +kernel)
theorem i_M_auction_138 : m_at k_M_auction 138 = some (.iload_n 3, 1, 0) := m_at_of r_M_auction (by decide +kernel)
theorem i_M_auction_139 : m_at k_M_auction 139 = some (.goto (5), 3, 0) := m_at_of r_M_auction (by decide +kernel)
theorem i_M_auction_142 : m_at k_M_auction 142 = some (.iload 4, 2, 0) := m_at_of r_M_auction (by decide +kernel)
theorem i_M_auction_144 : m_at k_M_auction 144 = some (.ireturn, 1, 0) := m_at_of r_M_auction (by decide +kernel)
set_option maxRecDepth 20000 in
set_option maxHeartbeats 1000000 in
theorem E_M_auction (x : m_X) (s : m_H) (w : Nat) (n1 : Int32) (n2 : Int32) : m_M x k_M_auction [.ref w, .int n1, .int n2] s = if m_isO s w 11 = true then (m_bI (m_M x k_M_isGlove [.ref w, .int n1] s) fun v2 s2 => if v2 = 0 then (some (some (.int (-1)), s2)) else m_bI (m_M x k_M_get [.ref w, .int n1, .int 6] s2) fun v12 s12 => if v12 = 2 then (m_D x 3 k_M_auction 29 [some (.ref w), some (.int n1), some (.int n2), some (.int (-1)), some (.int 0), some (.int 0)] [] s12) else some (some (.int (-1)), s12)) else none := by
  refine e_M1 (L0 := [some (.ref w), some (.int n1), some (.int n2), none, none, none]) rfl (by decide +kernel) rfl (q_M_auction _) rfl ?_
  refine e_aload_n i_M_auction_0 rfl ?_
  refine e_iload_n i_M_auction_1 rfl ?_
  refine e_callI (as := [.ref w, .int n1]) (st' := []) i_M_auction_2 lm_116 (Or.inr (Or.inl ⟨rfl, rfl⟩)) w_M_isGlove rfl rfl rfl (Nat.le_of_ble_eq_true rfl) (Nat.le_of_ble_eq_true rfl) (m_rlt (q_M_isGlove _) (by decide)) rfl (fun v2 s2 => ?_)
  refine e_ifeq (t := 19) i_M_auction_5 (by decide) ?_ ?_
  · refine e_iconst (v := (-1)) i_M_auction_19 (by decide) ?_
    exact e_iretI i_M_auction_20 rfl
  · refine e_aload_n i_M_auction_8 rfl ?_
    refine e_iload_n i_M_auction_9 rfl ?_
    refine e_bipush (v := 6) i_M_auction_10 (by decide) ?_
    refine e_callI (as := [.ref w, .int n1, .int 6]) (st' := []) i_M_auction_12 lm_106 (Or.inr (Or.inl ⟨rfl, rfl⟩)) w_M_get rfl rfl rfl (Nat.le_of_ble_eq_true rfl) (Nat.le_of_ble_eq_true rfl) (m_rlt (q_M_get _) (by decide)) rfl (fun v12 s12 => ?_)
    refine e_iconst (v := 2) i_M_auction_15 (by decide) ?_
    refine e_icmpeq (t := 21) i_M_auction_16 (by decide) ?_ ?_
    · refine e_iconst (v := (-1)) i_M_auction_21 (by decide) ?_
      refine e_istore_n (L' := [some (.ref w), some (.int n1), some (.int n2), some (.int (-1)), none, none]) i_M_auction_22 (of_decide_eq_true rfl) rfl ?_
      refine e_iconst (v := 0) i_M_auction_23 (by decide) ?_
      refine e_istore (L' := [some (.ref w), some (.int n1), some (.int n2), some (.int (-1)), some (.int 0), none]) i_M_auction_24 (of_decide_eq_true rfl) rfl ?_
      refine e_iconst (v := 0) i_M_auction_26 (by decide) ?_
      refine e_istore (L' := [some (.ref w), some (.int n1), some (.int n2), some (.int (-1)), some (.int 0), some (.int 0)]) i_M_auction_27 (of_decide_eq_true rfl) rfl ?_
      exact rfl
    · refine e_iconst (v := (-1)) i_M_auction_19 (by decide) ?_
      exact e_iretI i_M_auction_20 rfl
set_option maxRecDepth 20000 in
set_option maxHeartbeats 1000000 in
theorem E_M_auction_29 (x : m_X) (ρ : Nat) (hρ : 3 ≤ ρ) (s : m_H) (w : Nat) (n1 : Int32) (n2 : Int32) (n3 : Int32) (n4 : Int32) (n5 : Int32)  : m_D x ρ k_M_auction 29 [some (.ref w), some (.int n1), some (.int n2), some (.int n3), some (.int n4), some (.int n5)] [] s = (m_fR s 11 0 w).bind fun v32 => (m_ia x s v32 0).bind fun v36 => if v36 ≤ n5 then (if n3 = (-1) then (some (some (.int n3), s)) else if n2 = 0 then (some (some (.int n3), s)) else some (some (.int n4), s)) else (m_fR s 11 0 w).bind fun v41 => (m_ia x s v41 ((13 : Int32) + n5)).bind fun v49 => if v49 = 0 then (m_D x ρ k_M_auction 29 [some (.ref w), some (.int n1), some (.int n2), some (.int n3), some (.int n4), some (.int (n5 + (1 : Int32)))] [] s) else if n3 = (-1) then (m_D x ρ k_M_auction 29 [some (.ref w), some (.int n1), some (.int n2), some (.int n5), some (.int n4), some (.int (n5 + (1 : Int32)))] [] s) else m_bI (m_M x k_M_bidOf [.ref w, .int n5, .int n1] s) fun v71 s71 => m_bI (m_M x k_M_bidOf [.ref w, .int n3, .int n1] s71) fun v77 s77 => if v71 ≤ v77 then (m_bI (m_M x k_M_bidOf [.ref w, .int n5, .int n1] s77) fun v101 s101 => if v101 ≤ n4 then (m_D x ρ k_M_auction 29 [some (.ref w), some (.int n1), some (.int n2), some (.int n3), some (.int n4), some (.int (n5 + (1 : Int32)))] [] s101) else m_bI (m_M x k_M_bidOf [.ref w, .int n5, .int n1] s101) fun v113 s113 => m_D x ρ k_M_auction 29 [some (.ref w), some (.int n1), some (.int n2), some (.int n3), some (.int v113), some (.int (n5 + (1 : Int32)))] [] s113) else m_bI (m_M x k_M_bidOf [.ref w, .int n3, .int n1] s77) fun v86 s86 => m_D x ρ k_M_auction 29 [some (.ref w), some (.int n1), some (.int n2), some (.int n5), some (.int v86), some (.int (n5 + (1 : Int32)))] [] s86 := by
  refine e_iload i_M_auction_29 rfl ?_
  refine e_aload_n i_M_auction_31 rfl ?_
  refine e_getR i_M_auction_32 lf_0 (by decide) ft_11_0 (fun v32 => ?_)
  refine e_iconst (v := 0) i_M_auction_35 (by decide) ?_
  refine e_iald i_M_auction_36 (fun v36 => ?_)
  refine e_icmpge (t := 129) i_M_auction_37 (by decide) ?_ ?_
  · refine e_iload_n i_M_auction_129 rfl ?_
    refine e_iconst (v := (-1)) i_M_auction_130 (by decide) ?_
    refine e_icmpeq (t := 138) i_M_auction_131 (by decide) ?_ ?_
    · refine e_iload_n i_M_auction_138 rfl ?_
      refine e_goto (t := 144) i_M_auction_139 (by decide) ?_
      exact e_iretI i_M_auction_144 rfl
    · refine e_iload_n i_M_auction_134 rfl ?_
      refine e_ifne (t := 142) i_M_auction_135 (by decide) ?_ ?_
      · refine e_iload i_M_auction_142 rfl ?_
        exact e_iretI i_M_auction_144 rfl
      · refine e_iload_n i_M_auction_138 rfl ?_
        refine e_goto (t := 144) i_M_auction_139 (by decide) ?_
        exact e_iretI i_M_auction_144 rfl
  · refine e_aload_n i_M_auction_40 rfl ?_
    refine e_getR i_M_auction_41 lf_0 (by decide) ft_11_0 (fun v41 => ?_)
    refine e_bipush (v := 13) i_M_auction_44 (by decide) ?_
    refine e_iload i_M_auction_46 rfl ?_
    refine e_iadd i_M_auction_48 ?_
    refine e_iald i_M_auction_49 (fun v49 => ?_)
    refine e_ifne (t := 56) i_M_auction_50 (by decide) ?_ ?_
    · refine e_iload_n i_M_auction_56 rfl ?_
      refine e_iconst (v := (-1)) i_M_auction_57 (by decide) ?_
      refine e_icmpne (t := 67) i_M_auction_58 (by decide) ?_ ?_
      · refine e_aload_n i_M_auction_67 rfl ?_
        refine e_iload i_M_auction_68 rfl ?_
        refine e_iload_n i_M_auction_70 rfl ?_
        refine e_callI (as := [.ref w, .int n5, .int n1]) (st' := []) i_M_auction_71 lm_149 (Or.inr (Or.inl ⟨rfl, rfl⟩)) w_M_bidOf rfl rfl rfl (Nat.le_of_ble_eq_true rfl) (Nat.le_of_ble_eq_true rfl) (m_rlt (q_M_bidOf _) (Nat.lt_of_lt_of_le (by decide) hρ)) rfl (fun v71 s71 => ?_)
        refine e_aload_n i_M_auction_74 rfl ?_
        refine e_iload_n i_M_auction_75 rfl ?_
        refine e_iload_n i_M_auction_76 rfl ?_
        refine e_callI (as := [.ref w, .int n3, .int n1]) (st' := [.int v71]) i_M_auction_77 lm_149 (Or.inr (Or.inl ⟨rfl, rfl⟩)) w_M_bidOf rfl rfl rfl (Nat.le_of_ble_eq_true rfl) (Nat.le_of_ble_eq_true rfl) (m_rlt (q_M_bidOf _) (Nat.lt_of_lt_of_le (by decide) hρ)) rfl (fun v77 s77 => ?_)
        refine e_icmple (t := 97) i_M_auction_80 (by decide) ?_ ?_
        · refine e_aload_n i_M_auction_97 rfl ?_
          refine e_iload i_M_auction_98 rfl ?_
          refine e_iload_n i_M_auction_100 rfl ?_
          refine e_callI (as := [.ref w, .int n5, .int n1]) (st' := []) i_M_auction_101 lm_149 (Or.inr (Or.inl ⟨rfl, rfl⟩)) w_M_bidOf rfl rfl rfl (Nat.le_of_ble_eq_true rfl) (Nat.le_of_ble_eq_true rfl) (m_rlt (q_M_bidOf _) (Nat.lt_of_lt_of_le (by decide) hρ)) rfl (fun v101 s101 => ?_)
          refine e_iload i_M_auction_104 rfl ?_
          refine e_icmple (t := 119) i_M_auction_106 (by decide) ?_ ?_
          · refine e_iload i_M_auction_119 rfl ?_
            refine e_istore (L' := [some (.ref w), some (.int n1), some (.int n2), some (.int n3), some (.int n4), some (.int n5)]) i_M_auction_121 (of_decide_eq_true rfl) rfl ?_
            refine e_iinc (w := 1) (L' := [some (.ref w), some (.int n1), some (.int n2), some (.int n3), some (.int n4), some (.int (n5 + (1 : Int32)))]) i_M_auction_123 rfl (of_decide_eq_true rfl) (by decide) rfl ?_
            refine e_goto (t := 29) i_M_auction_126 (by decide) ?_
            exact rfl
          · refine e_aload_n i_M_auction_109 rfl ?_
            refine e_iload i_M_auction_110 rfl ?_
            refine e_iload_n i_M_auction_112 rfl ?_
            refine e_callI (as := [.ref w, .int n5, .int n1]) (st' := []) i_M_auction_113 lm_149 (Or.inr (Or.inl ⟨rfl, rfl⟩)) w_M_bidOf rfl rfl rfl (Nat.le_of_ble_eq_true rfl) (Nat.le_of_ble_eq_true rfl) (m_rlt (q_M_bidOf _) (Nat.lt_of_lt_of_le (by decide) hρ)) rfl (fun v113 s113 => ?_)
            refine e_goto (t := 121) i_M_auction_116 (by decide) ?_
            refine e_istore (L' := [some (.ref w), some (.int n1), some (.int n2), some (.int n3), some (.int v113), some (.int n5)]) i_M_auction_121 (of_decide_eq_true rfl) rfl ?_
            refine e_iinc (w := 1) (L' := [some (.ref w), some (.int n1), some (.int n2), some (.int n3), some (.int v113), some (.int (n5 + (1 : Int32)))]) i_M_auction_123 rfl (of_decide_eq_true rfl) (by decide) rfl ?_
            refine e_goto (t := 29) i_M_auction_126 (by decide) ?_
            exact rfl
        · refine e_aload_n i_M_auction_83 rfl ?_
          refine e_iload_n i_M_auction_84 rfl ?_
          refine e_iload_n i_M_auction_85 rfl ?_
          refine e_callI (as := [.ref w, .int n3, .int n1]) (st' := []) i_M_auction_86 lm_149 (Or.inr (Or.inl ⟨rfl, rfl⟩)) w_M_bidOf rfl rfl rfl (Nat.le_of_ble_eq_true rfl) (Nat.le_of_ble_eq_true rfl) (m_rlt (q_M_bidOf _) (Nat.lt_of_lt_of_le (by decide) hρ)) rfl (fun v86 s86 => ?_)
          refine e_istore (L' := [some (.ref w), some (.int n1), some (.int n2), some (.int n3), some (.int v86), some (.int n5)]) i_M_auction_89 (of_decide_eq_true rfl) rfl ?_
          refine e_iload i_M_auction_91 rfl ?_
          refine e_istore_n (L' := [some (.ref w), some (.int n1), some (.int n2), some (.int n5), some (.int v86), some (.int n5)]) i_M_auction_93 (of_decide_eq_true rfl) rfl ?_
          refine e_goto (t := 123) i_M_auction_94 (by decide) ?_
          refine e_iinc (w := 1) (L' := [some (.ref w), some (.int n1), some (.int n2), some (.int n5), some (.int v86), some (.int (n5 + (1 : Int32)))]) i_M_auction_123 rfl (of_decide_eq_true rfl) (by decide) rfl ?_
          refine e_goto (t := 29) i_M_auction_126 (by decide) ?_
          exact rfl
      · refine e_iload i_M_auction_61 rfl ?_
        refine e_istore_n (L' := [some (.ref w), some (.int n1), some (.int n2), some (.int n5), some (.int n4), some (.int n5)]) i_M_auction_63 (of_decide_eq_true rfl) rfl ?_
        refine e_goto (t := 123) i_M_auction_64 (by decide) ?_
        refine e_iinc (w := 1) (L' := [some (.ref w), some (.int n1), some (.int n2), some (.int n5), some (.int n4), some (.int (n5 + (1 : Int32)))]) i_M_auction_123 rfl (of_decide_eq_true rfl) (by decide) rfl ?_
        refine e_goto (t := 29) i_M_auction_126 (by decide) ?_
        exact rfl
    · refine e_goto (t := 123) i_M_auction_53 (by decide) ?_
      refine e_iinc (w := 1) (L' := [some (.ref w), some (.int n1), some (.int n2), some (.int n3), some (.int n4), some (.int (n5 + (1 : Int32)))]) i_M_auction_123 rfl (of_decide_eq_true rfl) (by decide) rfl ?_
      refine e_goto (t := 29) i_M_auction_126 (by decide) ?_
      exact rfl
theorem i_M_bidOf_0 : m_at k_M_bidOf 0 = some (.bipush 10, 2, 0) := m_at_of r_M_bidOf (by decide +kernel)
theorem i_M_bidOf_2 : m_at k_M_bidOf 2 = some (.aload_n 0, 1, 0) := m_at_of r_M_bidOf (by decide +kernel)
theorem i_M_bidOf_3 : m_at k_M_bidOf 3 = some (.iload_n 2, 1, 0) := m_at_of r_M_bidOf (by decide +kernel)
theorem i_M_bidOf_4 : m_at k_M_bidOf 4 = some (.iconst 4, 1, 0) := m_at_of r_M_bidOf (by decide +kernel)
theorem i_M_bidOf_5 : m_at k_M_bidOf 5 = some (.invokevirtual 85, 3, 106) := m_at_of r_M_bidOf (by decide +kernel)
theorem i_M_bidOf_8 : m_at k_M_bidOf 8 = some (.aload_n 0, 1, 0) := m_at_of r_M_bidOf (by decide +kernel)
theorem i_M_bidOf_9 : m_at k_M_bidOf 9 = some (.iload_n 2, 1, 0) := m_at_of r_M_bidOf (by decide +kernel)
theorem i_M_bidOf_10 : m_at k_M_bidOf 10 = some (.iconst 2, 1, 0) := m_at_of r_M_bidOf (by decide +kernel)
theorem i_M_bidOf_11 : m_at k_M_bidOf 11 = some (.invokevirtual 85, 3, 106) := m_at_of r_M_bidOf (by decide +kernel)
theorem i_M_bidOf_14 : m_at k_M_bidOf 14 = some (.iadd, 1, 0) := m_at_of r_M_bidOf (by decide +kernel)
theorem i_M_bidOf_15 : m_at k_M_bidOf 15 = some (.imul, 1, 0) := m_at_of r_M_bidOf (by decide +kernel)
theorem i_M_bidOf_16 : m_at k_M_bidOf 16 = some (.istore_n 3, 1, 0) := m_at_of r_M_bidOf (by decide +kernel)
theorem i_M_bidOf_17 : m_at k_M_bidOf 17 = some (.aload_n 0, 1, 0) := m_at_of r_M_bidOf (by decide +kernel)
theorem i_M_bidOf_18 : m_at k_M_bidOf 18 = some (.getfield 7, 3, 0) := m_at_of r_M_bidOf (by decide +kernel)
theorem i_M_bidOf_21 : m_at k_M_bidOf 21 = some (.bipush 13, 2, 0) := m_at_of r_M_bidOf (by decide +kernel)
theorem i_M_bidOf_23 : m_at k_M_bidOf 23 = some (.iload_n 1, 1, 0) := m_at_of r_M_bidOf (by decide +kernel)
theorem i_M_bidOf_24 : m_at k_M_bidOf 24 = some (.iadd, 1, 0) := m_at_of r_M_bidOf (by decide +kernel)
theorem i_M_bidOf_25 : m_at k_M_bidOf 25 = some (.iaload, 1, 0) := m_at_of r_M_bidOf (by decide +kernel)
theorem i_M_bidOf_26 : m_at k_M_bidOf 26 = some (.iload_n 3, 1, 0) := m_at_of r_M_bidOf (by decide +kernel)
theorem i_M_bidOf_27 : m_at k_M_bidOf 27 = some (.if_icmp .ge (15), 3, 0) := m_at_of r_M_bidOf (by decide +kernel)
theorem i_M_bidOf_30 : m_at k_M_bidOf 30 = some (.aload_n 0, 1, 0) := m_at_of r_M_bidOf (by decide +kernel)
theorem i_M_bidOf_31 : m_at k_M_bidOf 31 = some (.getfield 7, 3, 0) := m_at_of r_M_bidOf (by decide +kernel)
theorem i_M_bidOf_34 : m_at k_M_bidOf 34 = some (.bipush 13, 2, 0) := m_at_of r_M_bidOf (by decide +kernel)
theorem i_M_bidOf_36 : m_at k_M_bidOf 36 = some (.iload_n 1, 1, 0) := m_at_of r_M_bidOf (by decide +kernel)
theorem i_M_bidOf_37 : m_at k_M_bidOf 37 = some (.iadd, 1, 0) := m_at_of r_M_bidOf (by decide +kernel)
theorem i_M_bidOf_38 : m_at k_M_bidOf 38 = some (.iaload, 1, 0) := m_at_of r_M_bidOf (by decide +kernel)
theorem i_M_bidOf_39 : m_at k_M_bidOf 39 = some (.goto (4), 3, 0) := m_at_of r_M_bidOf (by decide +kernel)
theorem i_M_bidOf_42 : m_at k_M_bidOf 42 = some (.iload_n 3, 1, 0) := m_at_of r_M_bidOf (by decide +kernel)
theorem i_M_bidOf_43 : m_at k_M_bidOf 43 = some (.ireturn, 1, 0) := m_at_of r_M_bidOf (by decide +kernel)
set_option maxRecDepth 20000 in
set_option maxHeartbeats 1000000 in
theorem E_M_bidOf (x : m_X) (s : m_H) (w : Nat) (n1 : Int32) (n2 : Int32) : m_M x k_M_bidOf [.ref w, .int n1, .int n2] s = if m_isO s w 11 = true then (m_bI (m_M x k_M_get [.ref w, .int n2, .int 4] s) fun v5 s5 => m_bI (m_M x k_M_get [.ref w, .int n2, .int 2] s5) fun v11 s11 => (m_fR s11 11 0 w).bind fun v18 => (m_ia x s11 v18 ((13 : Int32) + n1)).bind fun v25 => if ((10 : Int32) * (v5 + v11)) ≤ v25 then (some (some (.int ((10 : Int32) * (v5 + v11))), s11)) else (m_fR s11 11 0 w).bind fun v31 => (m_ia x s11 v31 ((13 : Int32) + n1)).bind fun v38 => some (some (.int v38), s11)) else none := by
  refine e_M1 (L0 := [some (.ref w), some (.int n1), some (.int n2), none]) rfl (by decide +kernel) rfl (q_M_bidOf _) rfl ?_
  refine e_bipush (v := 10) i_M_bidOf_0 (by decide) ?_
  refine e_aload_n i_M_bidOf_2 rfl ?_
  refine e_iload_n i_M_bidOf_3 rfl ?_
  refine e_iconst (v := 4) i_M_bidOf_4 (by decide) ?_
  refine e_callI (as := [.ref w, .int n2, .int 4]) (st' := [.int 10]) i_M_bidOf_5 lm_106 (Or.inr (Or.inl ⟨rfl, rfl⟩)) w_M_get rfl rfl rfl (Nat.le_of_ble_eq_true rfl) (Nat.le_of_ble_eq_true rfl) (m_rlt (q_M_get _) (by decide)) rfl (fun v5 s5 => ?_)
  refine e_aload_n i_M_bidOf_8 rfl ?_
  refine e_iload_n i_M_bidOf_9 rfl ?_
  refine e_iconst (v := 2) i_M_bidOf_10 (by decide) ?_
  refine e_callI (as := [.ref w, .int n2, .int 2]) (st' := [.int v5, .int 10]) i_M_bidOf_11 lm_106 (Or.inr (Or.inl ⟨rfl, rfl⟩)) w_M_get rfl rfl rfl (Nat.le_of_ble_eq_true rfl) (Nat.le_of_ble_eq_true rfl) (m_rlt (q_M_get _) (by decide)) rfl (fun v11 s11 => ?_)
  refine e_iadd i_M_bidOf_14 ?_
  refine e_imul i_M_bidOf_15 ?_
  refine e_istore_n (L' := [some (.ref w), some (.int n1), some (.int n2), some (.int ((10 : Int32) * (v5 + v11)))]) i_M_bidOf_16 (of_decide_eq_true rfl) rfl ?_
  refine e_aload_n i_M_bidOf_17 rfl ?_
  refine e_getR i_M_bidOf_18 lf_0 (by decide) ft_11_0 (fun v18 => ?_)
  refine e_bipush (v := 13) i_M_bidOf_21 (by decide) ?_
  refine e_iload_n i_M_bidOf_23 rfl ?_
  refine e_iadd i_M_bidOf_24 ?_
  refine e_iald i_M_bidOf_25 (fun v25 => ?_)
  refine e_iload_n i_M_bidOf_26 rfl ?_
  refine e_icmpge (t := 42) i_M_bidOf_27 (by decide) ?_ ?_
  · refine e_iload_n i_M_bidOf_42 rfl ?_
    exact e_iretI i_M_bidOf_43 rfl
  · refine e_aload_n i_M_bidOf_30 rfl ?_
    refine e_getR i_M_bidOf_31 lf_0 (by decide) ft_11_0 (fun v31 => ?_)
    refine e_bipush (v := 13) i_M_bidOf_34 (by decide) ?_
    refine e_iload_n i_M_bidOf_36 rfl ?_
    refine e_iadd i_M_bidOf_37 ?_
    refine e_iald i_M_bidOf_38 (fun v38 => ?_)
    refine e_goto (t := 43) i_M_bidOf_39 (by decide) ?_
    exact e_iretI i_M_bidOf_43 rfl
theorem i_M_estate_0 : m_at k_M_estate 0 = some (.iload_n 1, 1, 0) := m_at_of r_M_estate (by decide +kernel)
theorem i_M_estate_1 : m_at k_M_estate 1 = some (.iconst 0, 1, 0) := m_at_of r_M_estate (by decide +kernel)
theorem i_M_estate_2 : m_at k_M_estate 2 = some (.sipush 9999, 3, 0) := m_at_of r_M_estate (by decide +kernel)
theorem i_M_estate_5 : m_at k_M_estate 5 = some (.invokestatic 81, 3, 96) := m_at_of r_M_estate (by decide +kernel)
theorem i_M_estate_8 : m_at k_M_estate 8 = some (.ifCond .eq (19), 3, 0) := m_at_of r_M_estate (by decide +kernel)
theorem i_M_estate_11 : m_at k_M_estate 11 = some (.iload_n 2, 1, 0) := m_at_of r_M_estate (by decide +kernel)
theorem i_M_estate_12 : m_at k_M_estate 12 = some (.iconst 0, 1, 0) := m_at_of r_M_estate (by decide +kernel)
theorem i_M_estate_13 : m_at k_M_estate 13 = some (.aload_n 0, 1, 0) := m_at_of r_M_estate (by decide +kernel)
theorem i_M_estate_14 : m_at k_M_estate 14 = some (.getfield 7, 3, 0) := m_at_of r_M_estate (by decide +kernel)
theorem i_M_estate_17 : m_at k_M_estate 17 = some (.iconst 5, 1, 0) := m_at_of r_M_estate (by decide +kernel)
theorem i_M_estate_18 : m_at k_M_estate 18 = some (.iaload, 1, 0) := m_at_of r_M_estate (by decide +kernel)
theorem i_M_estate_19 : m_at k_M_estate 19 = some (.iconst 1, 1, 0) := m_at_of r_M_estate (by decide +kernel)
theorem i_M_estate_20 : m_at k_M_estate 20 = some (.isub, 1, 0) := m_at_of r_M_estate (by decide +kernel)
theorem i_M_estate_21 : m_at k_M_estate 21 = some (.invokestatic 81, 3, 96) := m_at_of r_M_estate (by decide +kernel)
theorem i_M_estate_24 : m_at k_M_estate 24 = some (.ifCond .ne (5), 3, 0) := m_at_of r_M_estate (by decide +kernel)
theorem i_M_estate_27 : m_at k_M_estate 27 = some (.iconst (-1), 1, 0) := m_at_of r_M_estate (by decide +kernel)
theorem i_M_estate_28 : m_at k_M_estate 28 = some (.ireturn, 1, 0) := m_at_of r_M_estate (by decide +kernel)
theorem i_M_estate_29 : m_at k_M_estate 29 = some (.lconst 0, 1, 0) := m_at_of r_M_estate (by decide +kernel)
theorem i_M_estate_30 : m_at k_M_estate 30 = some (.lstore 4, 2, 0) := m_at_of r_M_estate (by decide +kernel)
theorem i_M_estate_32 : m_at k_M_estate 32 = some (.iconst 0, 1, 0) := m_at_of r_M_estate (by decide +kernel)
theorem i_M_estate_33 : m_at k_M_estate 33 = some (.istore 6, 2, 0) := m_at_of r_M_estate (by decide +kernel)
theorem i_M_estate_35 : m_at k_M_estate 35 = some (.iload 6, 2, 0) := m_at_of r_M_estate (by decide +kernel)
theorem i_M_estate_37 : m_at k_M_estate 37 = some (.aload_n 0, 1, 0) := m_at_of r_M_estate (by decide +kernel)
theorem i_M_estate_38 : m_at k_M_estate 38 = some (.getfield 7, 3, 0) := m_at_of r_M_estate (by decide +kernel)
theorem i_M_estate_41 : m_at k_M_estate 41 = some (.iconst 5, 1, 0) := m_at_of r_M_estate (by decide +kernel)
theorem i_M_estate_42 : m_at k_M_estate 42 = some (.iaload, 1, 0) := m_at_of r_M_estate (by decide +kernel)
theorem i_M_estate_43 : m_at k_M_estate 43 = some (.if_icmp .ge (26), 3, 0) := m_at_of r_M_estate (by decide +kernel)
theorem i_M_estate_46 : m_at k_M_estate 46 = some (.lload 4, 2, 0) := m_at_of r_M_estate (by decide +kernel)
theorem i_M_estate_48 : m_at k_M_estate 48 = some (.aload_n 0, 1, 0) := m_at_of r_M_estate (by decide +kernel)
theorem i_M_estate_49 : m_at k_M_estate 49 = some (.getfield 7, 3, 0) := m_at_of r_M_estate (by decide +kernel)
theorem i_M_estate_52 : m_at k_M_estate 52 = some (.sipush 134, 3, 0) := m_at_of r_M_estate (by decide +kernel)
theorem i_M_estate_55 : m_at k_M_estate 55 = some (.iload 6, 2, 0) := m_at_of r_M_estate (by decide +kernel)
theorem i_M_estate_57 : m_at k_M_estate 57 = some (.iadd, 1, 0) := m_at_of r_M_estate (by decide +kernel)
theorem i_M_estate_58 : m_at k_M_estate 58 = some (.iaload, 1, 0) := m_at_of r_M_estate (by decide +kernel)
theorem i_M_estate_59 : m_at k_M_estate 59 = some (.i2l, 1, 0) := m_at_of r_M_estate (by decide +kernel)
theorem i_M_estate_60 : m_at k_M_estate 60 = some (.ladd, 1, 0) := m_at_of r_M_estate (by decide +kernel)
theorem i_M_estate_61 : m_at k_M_estate 61 = some (.lstore 4, 2, 0) := m_at_of r_M_estate (by decide +kernel)
theorem i_M_estate_63 : m_at k_M_estate 63 = some (.iinc 6 (1), 3, 0) := m_at_of r_M_estate (by decide +kernel)
theorem i_M_estate_66 : m_at k_M_estate 66 = some (.goto (-31), 3, 0) := m_at_of r_M_estate (by decide +kernel)
theorem i_M_estate_69 : m_at k_M_estate 69 = some (.ldc2_w 483, 3, 1) := m_at_of r_M_estate (by decide +kernel)
theorem i_M_estate_72 : m_at k_M_estate 72 = some (.iload_n 1, 1, 0) := m_at_of r_M_estate (by decide +kernel)
theorem i_M_estate_73 : m_at k_M_estate 73 = some (.i2l, 1, 0) := m_at_of r_M_estate (by decide +kernel)
theorem i_M_estate_74 : m_at k_M_estate 74 = some (.lmul, 1, 0) := m_at_of r_M_estate (by decide +kernel)
theorem i_M_estate_75 : m_at k_M_estate 75 = some (.lload 4, 2, 0) := m_at_of r_M_estate (by decide +kernel)
theorem i_M_estate_77 : m_at k_M_estate 77 = some (.lcmp, 1, 0) := m_at_of r_M_estate (by decide +kernel)
theorem i_M_estate_78 : m_at k_M_estate 78 = some (.ifCond .gt (7), 3, 0) := m_at_of r_M_estate (by decide +kernel)
theorem i_M_estate_81 : m_at k_M_estate 81 = some (.iconst 1, 1, 0) := m_at_of r_M_estate (by decide +kernel)
theorem i_M_estate_82 : m_at k_M_estate 82 = some (.goto (4), 3, 0) := m_at_of r_M_estate (by decide +kernel)
theorem i_M_estate_85 : m_at k_M_estate 85 = some (.iconst 0, 1, 0) := m_at_of r_M_estate (by decide +kernel)
theorem i_M_estate_86 : m_at k_M_estate 86 = some (.istore 6, 2, 0) := m_at_of r_M_estate (by decide +kernel)
theorem i_M_estate_88 : m_at k_M_estate 88 = some (.lload 4, 2, 0) := m_at_of r_M_estate (by decide +kernel)
theorem i_M_estate_90 : m_at k_M_estate 90 = some (.iload_n 1, 1, 0) := m_at_of r_M_estate (by decide +kernel)
theorem i_M_estate_91 : m_at k_M_estate 91 = some (.i2l, 1, 0) := m_at_of r_M_estate (by decide +kernel)
theorem i_M_estate_92 : m_at k_M_estate 92 = some (.lcmp, 1, 0) := m_at_of r_M_estate (by decide +kernel)
theorem i_M_estate_93 : m_at k_M_estate 93 = some (.ifCond .le (11), 3, 0) := m_at_of r_M_estate (by decide +kernel)
theorem i_M_estate_96 : m_at k_M_estate 96 = some (.lload 4, 2, 0) := m_at_of r_M_estate (by decide +kernel)
theorem i_M_estate_98 : m_at k_M_estate 98 = some (.iload_n 1, 1, 0) := m_at_of r_M_estate (by decide +kernel)
theorem i_M_estate_99 : m_at k_M_estate 99 = some (.i2l, 1, 0) := m_at_of r_M_estate (by decide +kernel)
theorem i_M_estate_100 : m_at k_M_estate 100 = some (.lsub, 1, 0) := m_at_of r_M_estate (by decide +kernel)
theorem i_M_estate_101 : m_at k_M_estate 101 = some (.goto (4), 3, 0) := m_at_of r_M_estate (by decide +kernel)
theorem i_M_estate_104 : m_at k_M_estate 104 = some (.lconst 0, 1, 0) := m_at_of r_M_estate (by decide +kernel)
theorem i_M_estate_105 : m_at k_M_estate 105 = some (.lstore 7, 2, 0) := m_at_of r_M_estate (by decide +kernel)
theorem i_M_estate_107 : m_at k_M_estate 107 = some (.aload_n 0, 1, 0) := m_at_of r_M_estate (by decide +kernel)
theorem i_M_estate_108 : m_at k_M_estate 108 = some (.iload 6, 2, 0) := m_at_of r_M_estate (by decide +kernel)
theorem i_M_estate_110 : m_at k_M_estate 110 = some (.ifCond .eq (12), 3, 0) := m_at_of r_M_estate (by decide +kernel)
theorem i_M_estate_113 : m_at k_M_estate 113 = some (.ldc2_w 483, 3, 1) := m_at_of r_M_estate (by decide +kernel)
theorem i_M_estate_116 : m_at k_M_estate 116 = some (.iload_n 1, 1, 0) := m_at_of r_M_estate (by decide +kernel)
theorem i_M_estate_117 : m_at k_M_estate 117 = some (.i2l, 1, 0) := m_at_of r_M_estate (by decide +kernel)
theorem i_M_estate_118 : m_at k_M_estate 118 = some (.lmul, 1, 0) := m_at_of r_M_estate (by decide +kernel)
theorem i_M_estate_119 : m_at k_M_estate 119 = some (.goto (9), 3, 0) := m_at_of r_M_estate (by decide +kernel)
theorem i_M_estate_122 : m_at k_M_estate 122 = some (.ldc2_w 483, 3, 1) := m_at_of r_M_estate (by decide +kernel)
theorem i_M_estate_125 : m_at k_M_estate 125 = some (.lload 7, 2, 0) := m_at_of r_M_estate (by decide +kernel)
theorem i_M_estate_127 : m_at k_M_estate 127 = some (.lmul, 1, 0) := m_at_of r_M_estate (by decide +kernel)
theorem i_M_estate_128 : m_at k_M_estate 128 = some (.invokevirtual 485, 3, 155) := m_at_of r_M_estate (by decide +kernel)
theorem i_M_estate_131 : m_at k_M_estate 131 = some (.aload_n 0, 1, 0) := m_at_of r_M_estate (by decide +kernel)
theorem i_M_estate_132 : m_at k_M_estate 132 = some (.getfield 7, 3, 0) := m_at_of r_M_estate (by decide +kernel)
theorem i_M_estate_135 : m_at k_M_estate 135 = some (.sipush 134, 3, 0) := m_at_of r_M_estate (by decide +kernel)
theorem i_M_estate_138 : m_at k_M_estate 138 = some (.iload_n 2, 1, 0) := m_at_of r_M_estate (by decide +kernel)
theorem i_M_estate_139 : m_at k_M_estate 139 = some (.iadd, 1, 0) := m_at_of r_M_estate (by decide +kernel)
theorem i_M_estate_140 : m_at k_M_estate 140 = some (.iaload, 1, 0) := m_at_of r_M_estate (by decide +kernel)
theorem i_M_estate_141 : m_at k_M_estate 141 = some (.i2l, 1, 0) := m_at_of r_M_estate (by decide +kernel)
theorem i_M_estate_142 : m_at k_M_estate 142 = some (.lstore 9, 2, 0) := m_at_of r_M_estate (by decide +kernel)
theorem i_M_estate_144 : m_at k_M_estate 144 = some (.lload 9, 2, 0) := m_at_of r_M_estate (by decide +kernel)
theorem i_M_estate_146 : m_at k_M_estate 146 = some (.aload_n 0, 1, 0) := m_at_of r_M_estate (by decide +kernel)
theorem i_M_estate_147 : m_at k_M_estate 147 = some (.getfield 478, 3, 55) := m_at_of r_M_estate (by decide +kernel)
theorem i_M_estate_150 : m_at k_M_estate 150 = some (.lmul, 1, 0) := m_at_of r_M_estate (by decide +kernel)
theorem i_M_estate_151 : m_at k_M_estate 151 = some (.aload_n 0, 1, 0) := m_at_of r_M_estate (by decide +kernel)
theorem i_M_estate_152 : m_at k_M_estate 152 = some (.getfield 475, 3, 56) := m_at_of r_M_estate (by decide +kernel)
theorem i_M_estate_155 : m_at k_M_estate 155 = some (.lcmp, 1, 0) := m_at_of r_M_estate (by decide +kernel)
theorem i_M_estate_156 : m_at k_M_estate 156 = some (.ifCond .ge (13), 3, 0) := m_at_of r_M_estate (by decide +kernel)
theorem i_M_estate_159 : m_at k_M_estate 159 = some (.lload 9, 2, 0) := m_at_of r_M_estate (by decide +kernel)
theorem i_M_estate_161 : m_at k_M_estate 161 = some (.aload_n 0, 1, 0) := m_at_of r_M_estate (by decide +kernel)
theorem i_M_estate_162 : m_at k_M_estate 162 = some (.getfield 478, 3, 55) := m_at_of r_M_estate (by decide +kernel)
theorem i_M_estate_165 : m_at k_M_estate 165 = some (.lmul, 1, 0) := m_at_of r_M_estate (by decide +kernel)
theorem i_M_estate_166 : m_at k_M_estate 166 = some (.goto (7), 3, 0) := m_at_of r_M_estate (by decide +kernel)
theorem i_M_estate_169 : m_at k_M_estate 169 = some (.aload_n 0, 1, 0) := m_at_of r_M_estate (by decide +kernel)
theorem i_M_estate_170 : m_at k_M_estate 170 = some (.getfield 475, 3, 56) := m_at_of r_M_estate (by decide +kernel)
theorem i_M_estate_173 : m_at k_M_estate 173 = some (.lstore 11, 2, 0) := m_at_of r_M_estate (by decide +kernel)
theorem i_M_estate_175 : m_at k_M_estate 175 = some (.iload 6, 2, 0) := m_at_of r_M_estate (by decide +kernel)
theorem i_M_estate_177 : m_at k_M_estate 177 = some (.ifCond .eq (8), 3, 0) := m_at_of r_M_estate (by decide +kernel)
theorem i_M_estate_180 : m_at k_M_estate 180 = some (.lload 11, 2, 0) := m_at_of r_M_estate (by decide +kernel)
theorem i_M_estate_182 : m_at k_M_estate 182 = some (.goto (17), 3, 0) := m_at_of r_M_estate (by decide +kernel)
theorem i_M_estate_185 : m_at k_M_estate 185 = some (.ldc2_w 483, 3, 1) := m_at_of r_M_estate (by decide +kernel)
theorem i_M_estate_188 : m_at k_M_estate 188 = some (.lload 9, 2, 0) := m_at_of r_M_estate (by decide +kernel)
theorem i_M_estate_190 : m_at k_M_estate 190 = some (.lmul, 1, 0) := m_at_of r_M_estate (by decide +kernel)
theorem i_M_estate_191 : m_at k_M_estate 191 = some (.aload_n 0, 1, 0) := m_at_of r_M_estate (by decide +kernel)
theorem i_M_estate_192 : m_at k_M_estate 192 = some (.getfield 478, 3, 55) := m_at_of r_M_estate (by decide +kernel)
theorem i_M_estate_195 : m_at k_M_estate 195 = some (.lmul, 1, 0) := m_at_of r_M_estate (by decide +kernel)
theorem i_M_estate_196 : m_at k_M_estate 196 = some (.lload 11, 2, 0) := m_at_of r_M_estate (by decide +kernel)
theorem i_M_estate_198 : m_at k_M_estate 198 = some (.lsub, 1, 0) := m_at_of r_M_estate (by decide +kernel)
theorem i_M_estate_199 : m_at k_M_estate 199 = some (.lstore 13, 2, 0) := m_at_of r_M_estate (by decide +kernel)
theorem i_M_estate_201 : m_at k_M_estate 201 = some (.ldc2_w 483, 3, 1) := m_at_of r_M_estate (by decide +kernel)
theorem i_M_estate_204 : m_at k_M_estate 204 = some (.aload_n 0, 1, 0) := m_at_of r_M_estate (by decide +kernel)
theorem i_M_estate_205 : m_at k_M_estate 205 = some (.getfield 478, 3, 55) := m_at_of r_M_estate (by decide +kernel)
theorem i_M_estate_208 : m_at k_M_estate 208 = some (.lmul, 1, 0) := m_at_of r_M_estate (by decide +kernel)
theorem i_M_estate_209 : m_at k_M_estate 209 = some (.lstore 15, 2, 0) := m_at_of r_M_estate (by decide +kernel)
theorem i_M_estate_211 : m_at k_M_estate 211 = some (.iload_n 3, 1, 0) := m_at_of r_M_estate (by decide +kernel)
theorem i_M_estate_212 : m_at k_M_estate 212 = some (.ifCond .eq (8), 3, 0) := m_at_of r_M_estate (by decide +kernel)
theorem i_M_estate_215 : m_at k_M_estate 215 = some (.lload 15, 2, 0) := m_at_of r_M_estate (by decide +kernel)
theorem i_M_estate_217 : m_at k_M_estate 217 = some (.goto (5), 3, 0) := m_at_of r_M_estate (by decide +kernel)
theorem i_M_estate_220 : m_at k_M_estate 220 = some (.lload 13, 2, 0) := m_at_of r_M_estate (by decide +kernel)
theorem i_M_estate_222 : m_at k_M_estate 222 = some (.lload 13, 2, 0) := m_at_of r_M_estate (by decide +kernel)
theorem i_M_estate_224 : m_at k_M_estate 224 = some (.lload 15, 2, 0) := m_at_of r_M_estate (by decide +kernel)
theorem i_M_estate_226 : m_at k_M_estate 226 = some (.invokestatic 291, 3, 136) := m_at_of r_M_estate (by decide +kernel)
theorem i_M_estate_229 : m_at k_M_estate 229 = some (.ldiv, 1, 0) := m_at_of r_M_estate (by decide +kernel)
theorem i_M_estate_230 : m_at k_M_estate 230 = some (.l2i, 1, 0) := m_at_of r_M_estate (by decide +kernel)
theorem i_M_estate_231 : m_at k_M_estate 231 = some (.ireturn, 1, 0) := m_at_of r_M_estate (by decide +kernel)
set_option maxRecDepth 20000 in
set_option maxHeartbeats 1000000 in
theorem E_M_estate (x : m_X) (s : m_H) (w : Nat) (n1 : Int32) (n2 : Int32) (n3 : Int32) : m_M x k_M_estate [.ref w, .int n1, .int n2, .int n3] s = if m_isO s w 11 = true then (m_bI (m_M x k_M_isIn [.int n1, .int 0, .int 9999] s) fun v5 s5 => if v5 = 0 then (some (some (.int (-1)), s5)) else (m_fR s5 11 0 w).bind fun v14 => (m_ia x s5 v14 5).bind fun v18 => m_bI (m_M x k_M_isIn [.int n2, .int 0, .int (v18 - (1 : Int32))] s5) fun v21 s21 => if v21 = 0 then (some (some (.int (-1)), s21)) else m_D x 3 k_M_estate 35 [some (.ref w), some (.int n1), some (.int n2), some (.int n3), some (.long 0), none, some (.int 0), none, none, none, none, none, none, none, none, none, none] [] s21) else none := by
  refine e_M1 (L0 := [some (.ref w), some (.int n1), some (.int n2), some (.int n3), none, none, none, none, none, none, none, none, none, none, none, none, none]) rfl (by decide +kernel) rfl (q_M_estate _) rfl ?_
  refine e_iload_n i_M_estate_0 rfl ?_
  refine e_iconst (v := 0) i_M_estate_1 (by decide) ?_
  refine e_sipush (v := 9999) i_M_estate_2 (by decide) ?_
  refine e_callI (as := [.int n1, .int 0, .int 9999]) (st' := []) i_M_estate_5 lm_96 (Or.inl ⟨rfl, rfl⟩) w_M_isIn rfl rfl rfl (Nat.le_of_ble_eq_true rfl) (Nat.le_of_ble_eq_true rfl) (m_rlt (q_M_isIn _) (by decide)) rfl (fun v5 s5 => ?_)
  refine e_ifeq (t := 27) i_M_estate_8 (by decide) ?_ ?_
  · refine e_iconst (v := (-1)) i_M_estate_27 (by decide) ?_
    exact e_iretI i_M_estate_28 rfl
  · refine e_iload_n i_M_estate_11 rfl ?_
    refine e_iconst (v := 0) i_M_estate_12 (by decide) ?_
    refine e_aload_n i_M_estate_13 rfl ?_
    refine e_getR i_M_estate_14 lf_0 (by decide) ft_11_0 (fun v14 => ?_)
    refine e_iconst (v := 5) i_M_estate_17 (by decide) ?_
    refine e_iald i_M_estate_18 (fun v18 => ?_)
    refine e_iconst (v := 1) i_M_estate_19 (by decide) ?_
    refine e_isub i_M_estate_20 ?_
    refine e_callI (as := [.int n2, .int 0, .int (v18 - (1 : Int32))]) (st' := []) i_M_estate_21 lm_96 (Or.inl ⟨rfl, rfl⟩) w_M_isIn rfl rfl rfl (Nat.le_of_ble_eq_true rfl) (Nat.le_of_ble_eq_true rfl) (m_rlt (q_M_isIn _) (by decide)) rfl (fun v21 s21 => ?_)
    refine e_ifne (t := 29) i_M_estate_24 (by decide) ?_ ?_
    · refine e_lconst (v := 0) i_M_estate_29 (by decide) ?_
      refine e_lstore (L' := [some (.ref w), some (.int n1), some (.int n2), some (.int n3), some (.long 0), none, none, none, none, none, none, none, none, none, none, none, none]) i_M_estate_30 (of_decide_eq_true rfl) rfl ?_
      refine e_iconst (v := 0) i_M_estate_32 (by decide) ?_
      refine e_istore (L' := [some (.ref w), some (.int n1), some (.int n2), some (.int n3), some (.long 0), none, some (.int 0), none, none, none, none, none, none, none, none, none, none]) i_M_estate_33 (of_decide_eq_true rfl) rfl ?_
      exact rfl
    · refine e_iconst (v := (-1)) i_M_estate_27 (by decide) ?_
      exact e_iretI i_M_estate_28 rfl
set_option maxRecDepth 20000 in
set_option maxHeartbeats 1000000 in
theorem E_M_estate_35 (x : m_X) (ρ : Nat) (hρ : 3 ≤ ρ) (s : m_H) (w : Nat) (n1 : Int32) (n2 : Int32) (n3 : Int32) (l4 : Int64) (n6 : Int32)  : m_D x ρ k_M_estate 35 [some (.ref w), some (.int n1), some (.int n2), some (.int n3), some (.long l4), none, some (.int n6), none, none, none, none, none, none, none, none, none, none] [] s = (m_fR s 11 0 w).bind fun v38 => (m_ia x s v38 5).bind fun v42 => if v42 ≤ n6 then (if l4 < ((2 : Int64) * n1.toInt64) then (m_D x ρ k_M_estate 86 [some (.ref w), some (.int n1), some (.int n2), some (.int n3), some (.long l4), none, some (.int n6), none, none, none, none, none, none, none, none, none, none] [.int 0] s) else m_D x ρ k_M_estate 86 [some (.ref w), some (.int n1), some (.int n2), some (.int n3), some (.long l4), none, some (.int n6), none, none, none, none, none, none, none, none, none, none] [.int 1] s) else (m_fR s 11 0 w).bind fun v49 => (m_ia x s v49 ((134 : Int32) + n6)).bind fun v58 => m_D x ρ k_M_estate 35 [some (.ref w), some (.int n1), some (.int n2), some (.int n3), some (.long (l4 + v58.toInt64)), none, some (.int (n6 + (1 : Int32))), none, none, none, none, none, none, none, none, none, none] [] s := by
  refine e_iload i_M_estate_35 rfl ?_
  refine e_aload_n i_M_estate_37 rfl ?_
  refine e_getR i_M_estate_38 lf_0 (by decide) ft_11_0 (fun v38 => ?_)
  refine e_iconst (v := 5) i_M_estate_41 (by decide) ?_
  refine e_iald i_M_estate_42 (fun v42 => ?_)
  refine e_icmpge (t := 69) i_M_estate_43 (by decide) ?_ ?_
  · refine e_ldc2 (q := (1, 483, 2)) i_M_estate_69 rfl ?_
    refine e_iload_n i_M_estate_72 rfl ?_
    refine e_i2l i_M_estate_73 ?_
    refine e_lmul i_M_estate_74 ?_
    refine e_lload i_M_estate_75 rfl ?_
    refine e_lcmpgt (t := 85) i_M_estate_77 i_M_estate_78 (by decide) ?_ ?_
    · refine e_iconst (v := 0) i_M_estate_85 (by decide) ?_
      exact rfl
    · refine e_iconst (v := 1) i_M_estate_81 (by decide) ?_
      refine e_goto (t := 86) i_M_estate_82 (by decide) ?_
      exact rfl
  · refine e_lload i_M_estate_46 rfl ?_
    refine e_aload_n i_M_estate_48 rfl ?_
    refine e_getR i_M_estate_49 lf_0 (by decide) ft_11_0 (fun v49 => ?_)
    refine e_sipush (v := 134) i_M_estate_52 (by decide) ?_
    refine e_iload i_M_estate_55 rfl ?_
    refine e_iadd i_M_estate_57 ?_
    refine e_iald i_M_estate_58 (fun v58 => ?_)
    refine e_i2l i_M_estate_59 ?_
    refine e_ladd i_M_estate_60 ?_
    refine e_lstore (L' := [some (.ref w), some (.int n1), some (.int n2), some (.int n3), some (.long (l4 + v58.toInt64)), none, some (.int n6), none, none, none, none, none, none, none, none, none, none]) i_M_estate_61 (of_decide_eq_true rfl) rfl ?_
    refine e_iinc (w := 1) (L' := [some (.ref w), some (.int n1), some (.int n2), some (.int n3), some (.long (l4 + v58.toInt64)), none, some (.int (n6 + (1 : Int32))), none, none, none, none, none, none, none, none, none, none]) i_M_estate_63 rfl (of_decide_eq_true rfl) (by decide) rfl ?_
    refine e_goto (t := 35) i_M_estate_66 (by decide) ?_
    exact rfl
set_option maxRecDepth 20000 in
set_option maxHeartbeats 1000000 in
theorem E_M_estate_86 (x : m_X) (ρ : Nat) (hρ : 3 ≤ ρ) (s : m_H) (w : Nat) (n1 : Int32) (n2 : Int32) (n3 : Int32) (l4 : Int64) (n6 : Int32) (nt0 : Int32)  : m_D x ρ k_M_estate 86 [some (.ref w), some (.int n1), some (.int n2), some (.int n3), some (.long l4), none, some (.int n6), none, none, none, none, none, none, none, none, none, none] [.int nt0] s = if l4 ≤ n1.toInt64 then (if nt0 = 0 then (m_D x ρ k_M_estate 128 [some (.ref w), some (.int n1), some (.int n2), some (.int n3), some (.long l4), none, some (.int nt0), some (.long 0), none, none, none, none, none, none, none, none, none] [.long ((2 : Int64) * (0 : Int64)), .ref w] s) else m_D x ρ k_M_estate 128 [some (.ref w), some (.int n1), some (.int n2), some (.int n3), some (.long l4), none, some (.int nt0), some (.long 0), none, none, none, none, none, none, none, none, none] [.long ((2 : Int64) * n1.toInt64), .ref w] s) else if nt0 = 0 then (m_D x ρ k_M_estate 128 [some (.ref w), some (.int n1), some (.int n2), some (.int n3), some (.long l4), none, some (.int nt0), some (.long (l4 - n1.toInt64)), none, none, none, none, none, none, none, none, none] [.long ((2 : Int64) * (l4 - n1.toInt64)), .ref w] s) else m_D x ρ k_M_estate 128 [some (.ref w), some (.int n1), some (.int n2), some (.int n3), some (.long l4), none, some (.int nt0), some (.long (l4 - n1.toInt64)), none, none, none, none, none, none, none, none, none] [.long ((2 : Int64) * n1.toInt64), .ref w] s := by
  refine e_istore (L' := [some (.ref w), some (.int n1), some (.int n2), some (.int n3), some (.long l4), none, some (.int nt0), none, none, none, none, none, none, none, none, none, none]) i_M_estate_86 (of_decide_eq_true rfl) rfl ?_
  refine e_lload i_M_estate_88 rfl ?_
  refine e_iload_n i_M_estate_90 rfl ?_
  refine e_i2l i_M_estate_91 ?_
  refine e_lcmple (t := 104) i_M_estate_92 i_M_estate_93 (by decide) ?_ ?_
  · refine e_lconst (v := 0) i_M_estate_104 (by decide) ?_
    refine e_lstore (L' := [some (.ref w), some (.int n1), some (.int n2), some (.int n3), some (.long l4), none, some (.int nt0), some (.long 0), none, none, none, none, none, none, none, none, none]) i_M_estate_105 (of_decide_eq_true rfl) rfl ?_
    refine e_aload_n i_M_estate_107 rfl ?_
    refine e_iload i_M_estate_108 rfl ?_
    refine e_ifeq (t := 122) i_M_estate_110 (by decide) ?_ ?_
    · refine e_ldc2 (q := (1, 483, 2)) i_M_estate_122 rfl ?_
      refine e_lload i_M_estate_125 rfl ?_
      refine e_lmul i_M_estate_127 ?_
      exact rfl
    · refine e_ldc2 (q := (1, 483, 2)) i_M_estate_113 rfl ?_
      refine e_iload_n i_M_estate_116 rfl ?_
      refine e_i2l i_M_estate_117 ?_
      refine e_lmul i_M_estate_118 ?_
      refine e_goto (t := 128) i_M_estate_119 (by decide) ?_
      exact rfl
  · refine e_lload i_M_estate_96 rfl ?_
    refine e_iload_n i_M_estate_98 rfl ?_
    refine e_i2l i_M_estate_99 ?_
    refine e_lsub i_M_estate_100 ?_
    refine e_goto (t := 105) i_M_estate_101 (by decide) ?_
    refine e_lstore (L' := [some (.ref w), some (.int n1), some (.int n2), some (.int n3), some (.long l4), none, some (.int nt0), some (.long (l4 - n1.toInt64)), none, none, none, none, none, none, none, none, none]) i_M_estate_105 (of_decide_eq_true rfl) rfl ?_
    refine e_aload_n i_M_estate_107 rfl ?_
    refine e_iload i_M_estate_108 rfl ?_
    refine e_ifeq (t := 122) i_M_estate_110 (by decide) ?_ ?_
    · refine e_ldc2 (q := (1, 483, 2)) i_M_estate_122 rfl ?_
      refine e_lload i_M_estate_125 rfl ?_
      refine e_lmul i_M_estate_127 ?_
      exact rfl
    · refine e_ldc2 (q := (1, 483, 2)) i_M_estate_113 rfl ?_
      refine e_iload_n i_M_estate_116 rfl ?_
      refine e_i2l i_M_estate_117 ?_
      refine e_lmul i_M_estate_118 ?_
      refine e_goto (t := 128) i_M_estate_119 (by decide) ?_
      exact rfl
set_option maxRecDepth 20000 in
set_option maxHeartbeats 1000000 in
theorem E_M_estate_128 (x : m_X) (ρ : Nat) (hρ : 3 ≤ ρ) (s : m_H) (w : Nat) (n1 : Int32) (n2 : Int32) (n3 : Int32) (l4 : Int64) (n6 : Int32) (l7 : Int64) (lt0 : Int64)  : m_D x ρ k_M_estate 128 [some (.ref w), some (.int n1), some (.int n2), some (.int n3), some (.long l4), none, some (.int n6), some (.long l7), none, none, none, none, none, none, none, none, none] [.long lt0, .ref w] s = m_bV (m_M x k_M_partAlike [.ref w, .long lt0] s) fun s128 => (m_fR s128 11 0 w).bind fun v132 => (m_ia x s128 v132 ((134 : Int32) + n2)).bind fun v140 => (m_fL s128 11 32 w).bind fun v147 => (m_fL s128 11 31 w).bind fun v152 => if v152 ≤ (v140.toInt64 * v147) then ((m_fL s128 11 31 w).bind fun v170 => if n6 = 0 then ((m_fL s128 11 32 w).bind fun v192 => m_D x ρ k_M_estate 199 [some (.ref w), some (.int n1), some (.int n2), some (.int n3), some (.long l4), none, some (.int n6), some (.long l7), none, some (.long v140.toInt64), none, some (.long v170), none, none, none, none, none] [.long ((((2 : Int64) * v140.toInt64) * v192) - v170)] s128) else m_D x ρ k_M_estate 199 [some (.ref w), some (.int n1), some (.int n2), some (.int n3), some (.long l4), none, some (.int n6), some (.long l7), none, some (.long v140.toInt64), none, some (.long v170), none, none, none, none, none] [.long v170] s128) else (m_fL s128 11 32 w).bind fun v162 => if n6 = 0 then ((m_fL s128 11 32 w).bind fun v192 => m_D x ρ k_M_estate 199 [some (.ref w), some (.int n1), some (.int n2), some (.int n3), some (.long l4), none, some (.int n6), some (.long l7), none, some (.long v140.toInt64), none, some (.long (v140.toInt64 * v162)), none, none, none, none, none] [.long ((((2 : Int64) * v140.toInt64) * v192) - (v140.toInt64 * v162))] s128) else m_D x ρ k_M_estate 199 [some (.ref w), some (.int n1), some (.int n2), some (.int n3), some (.long l4), none, some (.int n6), some (.long l7), none, some (.long v140.toInt64), none, some (.long (v140.toInt64 * v162)), none, none, none, none, none] [.long (v140.toInt64 * v162)] s128 := by
  refine e_callV (as := [.ref w, .long lt0]) (st' := []) i_M_estate_128 lm_155 (Or.inr (Or.inl ⟨rfl, rfl⟩)) w_M_partAlike rfl rfl rfl (Nat.le_of_ble_eq_true rfl) (Nat.le_of_ble_eq_true rfl) (m_rlt (q_M_partAlike _) (Nat.lt_of_lt_of_le (by decide) hρ)) rfl (fun s128 => ?_)
  refine e_aload_n i_M_estate_131 rfl ?_
  refine e_getR i_M_estate_132 lf_0 (by decide) ft_11_0 (fun v132 => ?_)
  refine e_sipush (v := 134) i_M_estate_135 (by decide) ?_
  refine e_iload_n i_M_estate_138 rfl ?_
  refine e_iadd i_M_estate_139 ?_
  refine e_iald i_M_estate_140 (fun v140 => ?_)
  refine e_i2l i_M_estate_141 ?_
  refine e_lstore (L' := [some (.ref w), some (.int n1), some (.int n2), some (.int n3), some (.long l4), none, some (.int n6), some (.long l7), none, some (.long v140.toInt64), none, none, none, none, none, none, none]) i_M_estate_142 (of_decide_eq_true rfl) rfl ?_
  refine e_lload i_M_estate_144 rfl ?_
  refine e_aload_n i_M_estate_146 rfl ?_
  refine e_getL i_M_estate_147 lf_55 (by decide) ft_11_32 (fun v147 => ?_)
  refine e_lmul i_M_estate_150 ?_
  refine e_aload_n i_M_estate_151 rfl ?_
  refine e_getL i_M_estate_152 lf_56 (by decide) ft_11_31 (fun v152 => ?_)
  refine e_lcmpge (t := 169) i_M_estate_155 i_M_estate_156 (by decide) ?_ ?_
  · refine e_aload_n i_M_estate_169 rfl ?_
    refine e_getL i_M_estate_170 lf_56 (by decide) ft_11_31 (fun v170 => ?_)
    refine e_lstore (L' := [some (.ref w), some (.int n1), some (.int n2), some (.int n3), some (.long l4), none, some (.int n6), some (.long l7), none, some (.long v140.toInt64), none, some (.long v170), none, none, none, none, none]) i_M_estate_173 (of_decide_eq_true rfl) rfl ?_
    refine e_iload i_M_estate_175 rfl ?_
    refine e_ifeq (t := 185) i_M_estate_177 (by decide) ?_ ?_
    · refine e_ldc2 (q := (1, 483, 2)) i_M_estate_185 rfl ?_
      refine e_lload i_M_estate_188 rfl ?_
      refine e_lmul i_M_estate_190 ?_
      refine e_aload_n i_M_estate_191 rfl ?_
      refine e_getL i_M_estate_192 lf_55 (by decide) ft_11_32 (fun v192 => ?_)
      refine e_lmul i_M_estate_195 ?_
      refine e_lload i_M_estate_196 rfl ?_
      refine e_lsub i_M_estate_198 ?_
      exact rfl
    · refine e_lload i_M_estate_180 rfl ?_
      refine e_goto (t := 199) i_M_estate_182 (by decide) ?_
      exact rfl
  · refine e_lload i_M_estate_159 rfl ?_
    refine e_aload_n i_M_estate_161 rfl ?_
    refine e_getL i_M_estate_162 lf_55 (by decide) ft_11_32 (fun v162 => ?_)
    refine e_lmul i_M_estate_165 ?_
    refine e_goto (t := 173) i_M_estate_166 (by decide) ?_
    refine e_lstore (L' := [some (.ref w), some (.int n1), some (.int n2), some (.int n3), some (.long l4), none, some (.int n6), some (.long l7), none, some (.long v140.toInt64), none, some (.long (v140.toInt64 * v162)), none, none, none, none, none]) i_M_estate_173 (of_decide_eq_true rfl) rfl ?_
    refine e_iload i_M_estate_175 rfl ?_
    refine e_ifeq (t := 185) i_M_estate_177 (by decide) ?_ ?_
    · refine e_ldc2 (q := (1, 483, 2)) i_M_estate_185 rfl ?_
      refine e_lload i_M_estate_188 rfl ?_
      refine e_lmul i_M_estate_190 ?_
      refine e_aload_n i_M_estate_191 rfl ?_
      refine e_getL i_M_estate_192 lf_55 (by decide) ft_11_32 (fun v192 => ?_)
      refine e_lmul i_M_estate_195 ?_
      refine e_lload i_M_estate_196 rfl ?_
      refine e_lsub i_M_estate_198 ?_
      exact rfl
    · refine e_lload i_M_estate_180 rfl ?_
      refine e_goto (t := 199) i_M_estate_182 (by decide) ?_
      exact rfl
set_option maxRecDepth 20000 in
set_option maxHeartbeats 1000000 in
theorem E_M_estate_199 (x : m_X) (ρ : Nat) (hρ : 3 ≤ ρ) (s : m_H) (w : Nat) (n1 : Int32) (n2 : Int32) (n3 : Int32) (l4 : Int64) (n6 : Int32) (l7 : Int64) (l9 : Int64) (l11 : Int64) (lt0 : Int64)  : m_D x ρ k_M_estate 199 [some (.ref w), some (.int n1), some (.int n2), some (.int n3), some (.long l4), none, some (.int n6), some (.long l7), none, some (.long l9), none, some (.long l11), none, none, none, none, none] [.long lt0] s = (m_fL s 11 32 w).bind fun v205 => if n3 = 0 then (m_bL (m_M x k_M_common [.long lt0, .long ((2 : Int64) * v205)] s) fun v226 s226 => if v226 = 0 then none else some (some (.int (lt0 / v226).toInt32), s226)) else m_bL (m_M x k_M_common [.long lt0, .long ((2 : Int64) * v205)] s) fun v226 s226 => if v226 = 0 then none else some (some (.int (((2 : Int64) * v205) / v226).toInt32), s226) := by
  refine e_lstore (L' := [some (.ref w), some (.int n1), some (.int n2), some (.int n3), some (.long l4), none, some (.int n6), some (.long l7), none, some (.long l9), none, some (.long l11), none, some (.long lt0), none, none, none]) i_M_estate_199 (of_decide_eq_true rfl) rfl ?_
  refine e_ldc2 (q := (1, 483, 2)) i_M_estate_201 rfl ?_
  refine e_aload_n i_M_estate_204 rfl ?_
  refine e_getL i_M_estate_205 lf_55 (by decide) ft_11_32 (fun v205 => ?_)
  refine e_lmul i_M_estate_208 ?_
  refine e_lstore (L' := [some (.ref w), some (.int n1), some (.int n2), some (.int n3), some (.long l4), none, some (.int n6), some (.long l7), none, some (.long l9), none, some (.long l11), none, some (.long lt0), none, some (.long ((2 : Int64) * v205)), none]) i_M_estate_209 (of_decide_eq_true rfl) rfl ?_
  refine e_iload_n i_M_estate_211 rfl ?_
  refine e_ifeq (t := 220) i_M_estate_212 (by decide) ?_ ?_
  · refine e_lload i_M_estate_220 rfl ?_
    refine e_lload i_M_estate_222 rfl ?_
    refine e_lload i_M_estate_224 rfl ?_
    refine e_callL (as := [.long lt0, .long ((2 : Int64) * v205)]) (st' := [.long lt0]) i_M_estate_226 lm_136 (Or.inl ⟨rfl, rfl⟩) w_M_common rfl rfl rfl (Nat.le_of_ble_eq_true rfl) (Nat.le_of_ble_eq_true rfl) (m_rlt (q_M_common _) (Nat.lt_of_lt_of_le (by decide) hρ)) rfl (fun v226 s226 => ?_)
    refine e_ldiv i_M_estate_229 ?_
    refine e_l2i i_M_estate_230 ?_
    exact e_iretI i_M_estate_231 rfl
  · refine e_lload i_M_estate_215 rfl ?_
    refine e_goto (t := 222) i_M_estate_217 (by decide) ?_
    refine e_lload i_M_estate_222 rfl ?_
    refine e_lload i_M_estate_224 rfl ?_
    refine e_callL (as := [.long lt0, .long ((2 : Int64) * v205)]) (st' := [.long ((2 : Int64) * v205)]) i_M_estate_226 lm_136 (Or.inl ⟨rfl, rfl⟩) w_M_common rfl rfl rfl (Nat.le_of_ble_eq_true rfl) (Nat.le_of_ble_eq_true rfl) (m_rlt (q_M_common _) (Nat.lt_of_lt_of_le (by decide) hρ)) rfl (fun v226 s226 => ?_)
    refine e_ldiv i_M_estate_229 ?_
    refine e_l2i i_M_estate_230 ?_
    exact e_iretI i_M_estate_231 rfl
theorem i_M_partAlike_0 : m_at k_M_partAlike 0 = some (.lload_n 1, 1, 0) := m_at_of r_M_partAlike (by decide +kernel)
theorem i_M_partAlike_1 : m_at k_M_partAlike 1 = some (.lstore_n 3, 1, 0) := m_at_of r_M_partAlike (by decide +kernel)
theorem i_M_partAlike_2 : m_at k_M_partAlike 2 = some (.iconst 0, 1, 0) := m_at_of r_M_partAlike (by decide +kernel)
theorem i_M_partAlike_3 : m_at k_M_partAlike 3 = some (.istore 5, 2, 0) := m_at_of r_M_partAlike (by decide +kernel)
theorem i_M_partAlike_5 : m_at k_M_partAlike 5 = some (.aload_n 0, 1, 0) := m_at_of r_M_partAlike (by decide +kernel)
theorem i_M_partAlike_6 : m_at k_M_partAlike 6 = some (.lconst 0, 1, 0) := m_at_of r_M_partAlike (by decide +kernel)
theorem i_M_partAlike_7 : m_at k_M_partAlike 7 = some (.putfield 475, 3, 56) := m_at_of r_M_partAlike (by decide +kernel)
theorem i_M_partAlike_10 : m_at k_M_partAlike 10 = some (.aload_n 0, 1, 0) := m_at_of r_M_partAlike (by decide +kernel)
theorem i_M_partAlike_11 : m_at k_M_partAlike 11 = some (.lconst 1, 1, 0) := m_at_of r_M_partAlike (by decide +kernel)
theorem i_M_partAlike_12 : m_at k_M_partAlike 12 = some (.putfield 478, 3, 55) := m_at_of r_M_partAlike (by decide +kernel)
theorem i_M_partAlike_15 : m_at k_M_partAlike 15 = some (.iload 5, 2, 0) := m_at_of r_M_partAlike (by decide +kernel)
theorem i_M_partAlike_17 : m_at k_M_partAlike 17 = some (.iconst 1, 1, 0) := m_at_of r_M_partAlike (by decide +kernel)
theorem i_M_partAlike_18 : m_at k_M_partAlike 18 = some (.aload_n 0, 1, 0) := m_at_of r_M_partAlike (by decide +kernel)
theorem i_M_partAlike_19 : m_at k_M_partAlike 19 = some (.getfield 7, 3, 0) := m_at_of r_M_partAlike (by decide +kernel)
theorem i_M_partAlike_22 : m_at k_M_partAlike 22 = some (.iconst 5, 1, 0) := m_at_of r_M_partAlike (by decide +kernel)
theorem i_M_partAlike_23 : m_at k_M_partAlike 23 = some (.iaload, 1, 0) := m_at_of r_M_partAlike (by decide +kernel)
theorem i_M_partAlike_24 : m_at k_M_partAlike 24 = some (.ishl, 1, 0) := m_at_of r_M_partAlike (by decide +kernel)
theorem i_M_partAlike_25 : m_at k_M_partAlike 25 = some (.iconst 1, 1, 0) := m_at_of r_M_partAlike (by decide +kernel)
theorem i_M_partAlike_26 : m_at k_M_partAlike 26 = some (.isub, 1, 0) := m_at_of r_M_partAlike (by decide +kernel)
theorem i_M_partAlike_27 : m_at k_M_partAlike 27 = some (.if_icmp .eq (157), 3, 0) := m_at_of r_M_partAlike (by decide +kernel)
theorem i_M_partAlike_30 : m_at k_M_partAlike 30 = some (.aload_n 0, 1, 0) := m_at_of r_M_partAlike (by decide +kernel)
theorem i_M_partAlike_31 : m_at k_M_partAlike 31 = some (.getfield 7, 3, 0) := m_at_of r_M_partAlike (by decide +kernel)
theorem i_M_partAlike_34 : m_at k_M_partAlike 34 = some (.iconst 5, 1, 0) := m_at_of r_M_partAlike (by decide +kernel)
theorem i_M_partAlike_35 : m_at k_M_partAlike 35 = some (.iaload, 1, 0) := m_at_of r_M_partAlike (by decide +kernel)
theorem i_M_partAlike_36 : m_at k_M_partAlike 36 = some (.iload 5, 2, 0) := m_at_of r_M_partAlike (by decide +kernel)
theorem i_M_partAlike_38 : m_at k_M_partAlike 38 = some (.invokestatic 444, 3, 128) := m_at_of r_M_partAlike (by decide +kernel)
theorem i_M_partAlike_41 : m_at k_M_partAlike 41 = some (.isub, 1, 0) := m_at_of r_M_partAlike (by decide +kernel)
theorem i_M_partAlike_42 : m_at k_M_partAlike 42 = some (.istore 6, 2, 0) := m_at_of r_M_partAlike (by decide +kernel)
theorem i_M_partAlike_44 : m_at k_M_partAlike 44 = some (.aload_n 0, 1, 0) := m_at_of r_M_partAlike (by decide +kernel)
theorem i_M_partAlike_45 : m_at k_M_partAlike 45 = some (.lload_n 3, 1, 0) := m_at_of r_M_partAlike (by decide +kernel)
theorem i_M_partAlike_46 : m_at k_M_partAlike 46 = some (.putfield 475, 3, 56) := m_at_of r_M_partAlike (by decide +kernel)
theorem i_M_partAlike_49 : m_at k_M_partAlike 49 = some (.aload_n 0, 1, 0) := m_at_of r_M_partAlike (by decide +kernel)
theorem i_M_partAlike_50 : m_at k_M_partAlike 50 = some (.iload 6, 2, 0) := m_at_of r_M_partAlike (by decide +kernel)
theorem i_M_partAlike_52 : m_at k_M_partAlike 52 = some (.i2l, 1, 0) := m_at_of r_M_partAlike (by decide +kernel)
theorem i_M_partAlike_53 : m_at k_M_partAlike 53 = some (.putfield 478, 3, 55) := m_at_of r_M_partAlike (by decide +kernel)
theorem i_M_partAlike_56 : m_at k_M_partAlike 56 = some (.iconst 0, 1, 0) := m_at_of r_M_partAlike (by decide +kernel)
theorem i_M_partAlike_57 : m_at k_M_partAlike 57 = some (.istore 7, 2, 0) := m_at_of r_M_partAlike (by decide +kernel)
theorem i_M_partAlike_59 : m_at k_M_partAlike 59 = some (.iconst 0, 1, 0) := m_at_of r_M_partAlike (by decide +kernel)
theorem i_M_partAlike_60 : m_at k_M_partAlike 60 = some (.istore 8, 2, 0) := m_at_of r_M_partAlike (by decide +kernel)
theorem i_M_partAlike_62 : m_at k_M_partAlike 62 = some (.iload 8, 2, 0) := m_at_of r_M_partAlike (by decide +kernel)
theorem i_M_partAlike_64 : m_at k_M_partAlike 64 = some (.aload_n 0, 1, 0) := m_at_of r_M_partAlike (by decide +kernel)
theorem i_M_partAlike_65 : m_at k_M_partAlike 65 = some (.getfield 7, 3, 0) := m_at_of r_M_partAlike (by decide +kernel)
theorem i_M_partAlike_68 : m_at k_M_partAlike 68 = some (.iconst 5, 1, 0) := m_at_of r_M_partAlike (by decide +kernel)
theorem i_M_partAlike_69 : m_at k_M_partAlike 69 = some (.iaload, 1, 0) := m_at_of r_M_partAlike (by decide +kernel)
theorem i_M_partAlike_70 : m_at k_M_partAlike 70 = some (.if_icmp .ge (49), 3, 0) := m_at_of r_M_partAlike (by decide +kernel)
theorem i_M_partAlike_73 : m_at k_M_partAlike 73 = some (.iload 5, 2, 0) := m_at_of r_M_partAlike (by decide +kernel)
theorem i_M_partAlike_75 : m_at k_M_partAlike 75 = some (.iload 8, 2, 0) := m_at_of r_M_partAlike (by decide +kernel)
theorem i_M_partAlike_77 : m_at k_M_partAlike 77 = some (.invokestatic 264, 3, 130) := m_at_of r_M_partAlike (by decide +kernel)
theorem i_M_partAlike_80 : m_at k_M_partAlike 80 = some (.ifCond .ne (33), 3, 0) := m_at_of r_M_partAlike (by decide +kernel)
theorem i_M_partAlike_83 : m_at k_M_partAlike 83 = some (.aload_n 0, 1, 0) := m_at_of r_M_partAlike (by decide +kernel)
theorem i_M_partAlike_84 : m_at k_M_partAlike 84 = some (.getfield 7, 3, 0) := m_at_of r_M_partAlike (by decide +kernel)
theorem i_M_partAlike_87 : m_at k_M_partAlike 87 = some (.sipush 134, 3, 0) := m_at_of r_M_partAlike (by decide +kernel)
theorem i_M_partAlike_90 : m_at k_M_partAlike 90 = some (.iload 8, 2, 0) := m_at_of r_M_partAlike (by decide +kernel)
theorem i_M_partAlike_92 : m_at k_M_partAlike 92 = some (.iadd, 1, 0) := m_at_of r_M_partAlike (by decide +kernel)
theorem i_M_partAlike_93 : m_at k_M_partAlike 93 = some (.iaload, 1, 0) := m_at_of r_M_partAlike (by decide +kernel)
theorem i_M_partAlike_94 : m_at k_M_partAlike 94 = some (.i2l, 1, 0) := m_at_of r_M_partAlike (by decide +kernel)
theorem i_M_partAlike_95 : m_at k_M_partAlike 95 = some (.iload 6, 2, 0) := m_at_of r_M_partAlike (by decide +kernel)
theorem i_M_partAlike_97 : m_at k_M_partAlike 97 = some (.i2l, 1, 0) := m_at_of r_M_partAlike (by decide +kernel)
theorem i_M_partAlike_98 : m_at k_M_partAlike 98 = some (.lmul, 1, 0) := m_at_of r_M_partAlike (by decide +kernel)
theorem i_M_partAlike_99 : m_at k_M_partAlike 99 = some (.lload_n 3, 1, 0) := m_at_of r_M_partAlike (by decide +kernel)
theorem i_M_partAlike_100 : m_at k_M_partAlike 100 = some (.lcmp, 1, 0) := m_at_of r_M_partAlike (by decide +kernel)
theorem i_M_partAlike_101 : m_at k_M_partAlike 101 = some (.ifCond .gt (12), 3, 0) := m_at_of r_M_partAlike (by decide +kernel)
theorem i_M_partAlike_104 : m_at k_M_partAlike 104 = some (.iload 7, 2, 0) := m_at_of r_M_partAlike (by decide +kernel)
theorem i_M_partAlike_106 : m_at k_M_partAlike 106 = some (.iconst 1, 1, 0) := m_at_of r_M_partAlike (by decide +kernel)
theorem i_M_partAlike_107 : m_at k_M_partAlike 107 = some (.iload 8, 2, 0) := m_at_of r_M_partAlike (by decide +kernel)
theorem i_M_partAlike_109 : m_at k_M_partAlike 109 = some (.ishl, 1, 0) := m_at_of r_M_partAlike (by decide +kernel)
theorem i_M_partAlike_110 : m_at k_M_partAlike 110 = some (.ior, 1, 0) := m_at_of r_M_partAlike (by decide +kernel)
theorem i_M_partAlike_111 : m_at k_M_partAlike 111 = some (.istore 7, 2, 0) := m_at_of r_M_partAlike (by decide +kernel)
theorem i_M_partAlike_113 : m_at k_M_partAlike 113 = some (.iinc 8 (1), 3, 0) := m_at_of r_M_partAlike (by decide +kernel)
theorem i_M_partAlike_116 : m_at k_M_partAlike 116 = some (.goto (-54), 3, 0) := m_at_of r_M_partAlike (by decide +kernel)
theorem i_M_partAlike_119 : m_at k_M_partAlike 119 = some (.iload 7, 2, 0) := m_at_of r_M_partAlike (by decide +kernel)
theorem i_M_partAlike_121 : m_at k_M_partAlike 121 = some (.ifCond .ne (4), 3, 0) := m_at_of r_M_partAlike (by decide +kernel)
theorem i_M_partAlike_124 : m_at k_M_partAlike 124 = some (.return_, 1, 0) := m_at_of r_M_partAlike (by decide +kernel)
theorem i_M_partAlike_125 : m_at k_M_partAlike 125 = some (.iconst 0, 1, 0) := m_at_of r_M_partAlike (by decide +kernel)
theorem i_M_partAlike_126 : m_at k_M_partAlike 126 = some (.istore 8, 2, 0) := m_at_of r_M_partAlike (by decide +kernel)
theorem i_M_partAlike_128 : m_at k_M_partAlike 128 = some (.iload 8, 2, 0) := m_at_of r_M_partAlike (by decide +kernel)
theorem i_M_partAlike_130 : m_at k_M_partAlike 130 = some (.aload_n 0, 1, 0) := m_at_of r_M_partAlike (by decide +kernel)
theorem i_M_partAlike_131 : m_at k_M_partAlike 131 = some (.getfield 7, 3, 0) := m_at_of r_M_partAlike (by decide +kernel)
theorem i_M_partAlike_134 : m_at k_M_partAlike 134 = some (.iconst 5, 1, 0) := m_at_of r_M_partAlike (by decide +kernel)
theorem i_M_partAlike_135 : m_at k_M_partAlike 135 = some (.iaload, 1, 0) := m_at_of r_M_partAlike (by decide +kernel)
theorem i_M_partAlike_136 : m_at k_M_partAlike 136 = some (.if_icmp .ge (38), 3, 0) := m_at_of r_M_partAlike (by decide +kernel)
theorem i_M_partAlike_139 : m_at k_M_partAlike 139 = some (.lload_n 3, 1, 0) := m_at_of r_M_partAlike (by decide +kernel)
theorem i_M_partAlike_140 : m_at k_M_partAlike 140 = some (.iload 7, 2, 0) := m_at_of r_M_partAlike (by decide +kernel)
theorem i_M_partAlike_142 : m_at k_M_partAlike 142 = some (.iload 8, 2, 0) := m_at_of r_M_partAlike (by decide +kernel)
theorem i_M_partAlike_144 : m_at k_M_partAlike 144 = some (.invokestatic 264, 3, 130) := m_at_of r_M_partAlike (by decide +kernel)
theorem i_M_partAlike_147 : m_at k_M_partAlike 147 = some (.ifCond .eq (18), 3, 0) := m_at_of r_M_partAlike (by decide +kernel)
theorem i_M_partAlike_150 : m_at k_M_partAlike 150 = some (.aload_n 0, 1, 0) := m_at_of r_M_partAlike (by decide +kernel)
theorem i_M_partAlike_151 : m_at k_M_partAlike 151 = some (.getfield 7, 3, 0) := m_at_of r_M_partAlike (by decide +kernel)
theorem i_M_partAlike_154 : m_at k_M_partAlike 154 = some (.sipush 134, 3, 0) := m_at_of r_M_partAlike (by decide +kernel)
theorem i_M_partAlike_157 : m_at k_M_partAlike 157 = some (.iload 8, 2, 0) := m_at_of r_M_partAlike (by decide +kernel)
theorem i_M_partAlike_159 : m_at k_M_partAlike 159 = some (.iadd, 1, 0) := m_at_of r_M_partAlike (by decide +kernel)
theorem i_M_partAlike_160 : m_at k_M_partAlike 160 = some (.iaload, 1, 0) := m_at_of r_M_partAlike (by decide +kernel)
theorem i_M_partAlike_161 : m_at k_M_partAlike 161 = some (.i2l, 1, 0) := m_at_of r_M_partAlike (by decide +kernel)
theorem i_M_partAlike_162 : m_at k_M_partAlike 162 = some (.goto (4), 3, 0) := m_at_of r_M_partAlike (by decide +kernel)
theorem i_M_partAlike_165 : m_at k_M_partAlike 165 = some (.lconst 0, 1, 0) := m_at_of r_M_partAlike (by decide +kernel)
theorem i_M_partAlike_166 : m_at k_M_partAlike 166 = some (.lsub, 1, 0) := m_at_of r_M_partAlike (by decide +kernel)
theorem i_M_partAlike_167 : m_at k_M_partAlike 167 = some (.lstore_n 3, 1, 0) := m_at_of r_M_partAlike (by decide +kernel)
theorem i_M_partAlike_168 : m_at k_M_partAlike 168 = some (.iinc 8 (1), 3, 0) := m_at_of r_M_partAlike (by decide +kernel)
theorem i_M_partAlike_171 : m_at k_M_partAlike 171 = some (.goto (-43), 3, 0) := m_at_of r_M_partAlike (by decide +kernel)
theorem i_M_partAlike_174 : m_at k_M_partAlike 174 = some (.iload 5, 2, 0) := m_at_of r_M_partAlike (by decide +kernel)
theorem i_M_partAlike_176 : m_at k_M_partAlike 176 = some (.iload 7, 2, 0) := m_at_of r_M_partAlike (by decide +kernel)
theorem i_M_partAlike_178 : m_at k_M_partAlike 178 = some (.ior, 1, 0) := m_at_of r_M_partAlike (by decide +kernel)
theorem i_M_partAlike_179 : m_at k_M_partAlike 179 = some (.istore 5, 2, 0) := m_at_of r_M_partAlike (by decide +kernel)
theorem i_M_partAlike_181 : m_at k_M_partAlike 181 = some (.goto (-166), 3, 0) := m_at_of r_M_partAlike (by decide +kernel)
theorem i_M_partAlike_184 : m_at k_M_partAlike 184 = some (.aload_n 0, 1, 0) := m_at_of r_M_partAlike (by decide +kernel)
theorem i_M_partAlike_185 : m_at k_M_partAlike 185 = some (.ldc2_w 481, 3, 2) := m_at_of r_M_partAlike (by decide +kernel)
theorem i_M_partAlike_188 : m_at k_M_partAlike 188 = some (.putfield 475, 3, 56) := m_at_of r_M_partAlike (by decide +kernel)
theorem i_M_partAlike_191 : m_at k_M_partAlike 191 = some (.aload_n 0, 1, 0) := m_at_of r_M_partAlike (by decide +kernel)
theorem i_M_partAlike_192 : m_at k_M_partAlike 192 = some (.lconst 1, 1, 0) := m_at_of r_M_partAlike (by decide +kernel)
theorem i_M_partAlike_193 : m_at k_M_partAlike 193 = some (.putfield 478, 3, 55) := m_at_of r_M_partAlike (by decide +kernel)
theorem i_M_partAlike_196 : m_at k_M_partAlike 196 = some (.return_, 1, 0) := m_at_of r_M_partAlike (by decide +kernel)
set_option maxRecDepth 20000 in
set_option maxHeartbeats 1000000 in
theorem E_M_partAlike (x : m_X) (s : m_H) (w : Nat) (l1 : Int64) : m_M x k_M_partAlike [.ref w, .long l1] s = if m_isO s w 11 = true then ((m_pf s 11 31 w (.long 0)).bind fun s7 => (m_pf s7 11 32 w (.long 1)).bind fun s12 => m_D x 2 k_M_partAlike 15 [some (.ref w), some (.long l1), none, some (.long l1), none, some (.int 0), none, none, none] [] s12) else none := by
  refine e_M1 (L0 := [some (.ref w), some (.long l1), none, none, none, none, none, none, none]) rfl (by decide +kernel) rfl (q_M_partAlike _) rfl ?_
  refine e_lload_n i_M_partAlike_0 rfl ?_
  refine e_lstore_n (L' := [some (.ref w), some (.long l1), none, some (.long l1), none, none, none, none, none]) i_M_partAlike_1 (of_decide_eq_true rfl) rfl ?_
  refine e_iconst (v := 0) i_M_partAlike_2 (by decide) ?_
  refine e_istore (L' := [some (.ref w), some (.long l1), none, some (.long l1), none, some (.int 0), none, none, none]) i_M_partAlike_3 (of_decide_eq_true rfl) rfl ?_
  refine e_aload_n i_M_partAlike_5 rfl ?_
  refine e_lconst (v := 0) i_M_partAlike_6 (by decide) ?_
  refine e_putf i_M_partAlike_7 lf_56 ft_11_31 rfl (fun s7 => ?_)
  refine e_aload_n i_M_partAlike_10 rfl ?_
  refine e_lconst (v := 1) i_M_partAlike_11 (by decide) ?_
  refine e_putf i_M_partAlike_12 lf_55 ft_11_32 rfl (fun s12 => ?_)
  exact rfl
set_option maxRecDepth 20000 in
set_option maxHeartbeats 1000000 in
theorem E_M_partAlike_15 (x : m_X) (ρ : Nat) (hρ : 2 ≤ ρ) (s : m_H) (w : Nat) (l1 : Int64) (l3 : Int64) (n5 : Int32) (d6 : Option Value) (d7 : Option Value) (d8 : Option Value) (hd6 : m_nl d6 = true) (hd7 : m_nl d7 = true) (hd8 : m_nl d8 = true) : m_D x ρ k_M_partAlike 15 [some (.ref w), some (.long l1), none, some (.long l3), none, some (.int n5), d6, d7, d8] [] s = (m_fR s 11 0 w).bind fun v19 => (m_ia x s v19 5).bind fun v23 => if n5 = (((1 : Int32) <<< (v23 &&& (31 : Int32))) - (1 : Int32)) then ((m_pf s 11 31 w (.long 1000000000)).bind fun s188 => (m_pf s188 11 32 w (.long 1)).bind fun s193 => some (none, s193)) else (m_fR s 11 0 w).bind fun v31 => (m_ia x s v31 5).bind fun v35 => m_bI (m_M x k_M_bits [.int n5] s) fun v38 s38 => (m_pf s38 11 31 w (.long l3)).bind fun s46 => (m_pf s46 11 32 w (.long (v35 - v38).toInt64)).bind fun s53 => m_D x ρ k_M_partAlike 62 [some (.ref w), some (.long l1), none, some (.long l3), none, some (.int n5), some (.int (v35 - v38)), some (.int 0), some (.int 0)] [] s53 := by
  refine e_iload i_M_partAlike_15 rfl ?_
  refine e_iconst (v := 1) i_M_partAlike_17 (by decide) ?_
  refine e_aload_n i_M_partAlike_18 rfl ?_
  refine e_getR i_M_partAlike_19 lf_0 (by decide) ft_11_0 (fun v19 => ?_)
  refine e_iconst (v := 5) i_M_partAlike_22 (by decide) ?_
  refine e_iald i_M_partAlike_23 (fun v23 => ?_)
  refine e_ishl i_M_partAlike_24 ?_
  refine e_iconst (v := 1) i_M_partAlike_25 (by decide) ?_
  refine e_isub i_M_partAlike_26 ?_
  refine e_icmpeq (t := 184) i_M_partAlike_27 (by decide) ?_ ?_
  · refine e_aload_n i_M_partAlike_184 rfl ?_
    refine e_ldc2 (q := (1, 481, 1000000000)) i_M_partAlike_185 rfl ?_
    refine e_putf i_M_partAlike_188 lf_56 ft_11_31 rfl (fun s188 => ?_)
    refine e_aload_n i_M_partAlike_191 rfl ?_
    refine e_lconst (v := 1) i_M_partAlike_192 (by decide) ?_
    refine e_putf i_M_partAlike_193 lf_55 ft_11_32 rfl (fun s193 => ?_)
    exact e_vret i_M_partAlike_196 rfl
  · refine e_aload_n i_M_partAlike_30 rfl ?_
    refine e_getR i_M_partAlike_31 lf_0 (by decide) ft_11_0 (fun v31 => ?_)
    refine e_iconst (v := 5) i_M_partAlike_34 (by decide) ?_
    refine e_iald i_M_partAlike_35 (fun v35 => ?_)
    refine e_iload i_M_partAlike_36 rfl ?_
    refine e_callI (as := [.int n5]) (st' := [.int v35]) i_M_partAlike_38 lm_128 (Or.inl ⟨rfl, rfl⟩) w_M_bits rfl rfl rfl (Nat.le_of_ble_eq_true rfl) (Nat.le_of_ble_eq_true rfl) (m_rlt (q_M_bits _) (Nat.lt_of_lt_of_le (by decide) hρ)) rfl (fun v38 s38 => ?_)
    refine e_isub i_M_partAlike_41 ?_
    refine e_istore (L' := [some (.ref w), some (.long l1), none, some (.long l3), none, some (.int n5), some (.int (v35 - v38)), d7, d8]) i_M_partAlike_42 (of_decide_eq_true rfl) rfl ?_
    refine e_aload_n i_M_partAlike_44 rfl ?_
    refine e_lload_n i_M_partAlike_45 rfl ?_
    refine e_putf i_M_partAlike_46 lf_56 ft_11_31 rfl (fun s46 => ?_)
    refine e_aload_n i_M_partAlike_49 rfl ?_
    refine e_iload i_M_partAlike_50 rfl ?_
    refine e_i2l i_M_partAlike_52 ?_
    refine e_putf i_M_partAlike_53 lf_55 ft_11_32 rfl (fun s53 => ?_)
    refine e_iconst (v := 0) i_M_partAlike_56 (by decide) ?_
    refine e_istore (L' := [some (.ref w), some (.long l1), none, some (.long l3), none, some (.int n5), some (.int (v35 - v38)), some (.int 0), d8]) i_M_partAlike_57 (of_decide_eq_true rfl) rfl ?_
    refine e_iconst (v := 0) i_M_partAlike_59 (by decide) ?_
    refine e_istore (L' := [some (.ref w), some (.long l1), none, some (.long l3), none, some (.int n5), some (.int (v35 - v38)), some (.int 0), some (.int 0)]) i_M_partAlike_60 (of_decide_eq_true rfl) rfl ?_
    exact rfl
set_option maxRecDepth 20000 in
set_option maxHeartbeats 1000000 in
theorem E_M_partAlike_62 (x : m_X) (ρ : Nat) (hρ : 2 ≤ ρ) (s : m_H) (w : Nat) (l1 : Int64) (l3 : Int64) (n5 : Int32) (n6 : Int32) (n7 : Int32) (n8 : Int32)  : m_D x ρ k_M_partAlike 62 [some (.ref w), some (.long l1), none, some (.long l3), none, some (.int n5), some (.int n6), some (.int n7), some (.int n8)] [] s = (m_fR s 11 0 w).bind fun v65 => (m_ia x s v65 5).bind fun v69 => if v69 ≤ n8 then (if n7 = 0 then (some (none, s)) else m_D x ρ k_M_partAlike 128 [some (.ref w), some (.long l1), none, some (.long l3), none, some (.int n5), some (.int n6), some (.int n7), some (.int 0)] [] s) else m_bI (m_M x k_M_has [.int n5, .int n8] s) fun v77 s77 => if v77 = 0 then ((m_fR s77 11 0 w).bind fun v84 => (m_ia x s77 v84 ((134 : Int32) + n8)).bind fun v93 => if l3 < (v93.toInt64 * n6.toInt64) then (m_D x ρ k_M_partAlike 62 [some (.ref w), some (.long l1), none, some (.long l3), none, some (.int n5), some (.int n6), some (.int n7), some (.int (n8 + (1 : Int32)))] [] s77) else m_D x ρ k_M_partAlike 62 [some (.ref w), some (.long l1), none, some (.long l3), none, some (.int n5), some (.int n6), some (.int (n7 ||| ((1 : Int32) <<< (n8 &&& (31 : Int32))))), some (.int (n8 + (1 : Int32)))] [] s77) else m_D x ρ k_M_partAlike 62 [some (.ref w), some (.long l1), none, some (.long l3), none, some (.int n5), some (.int n6), some (.int n7), some (.int (n8 + (1 : Int32)))] [] s77 := by
  refine e_iload i_M_partAlike_62 rfl ?_
  refine e_aload_n i_M_partAlike_64 rfl ?_
  refine e_getR i_M_partAlike_65 lf_0 (by decide) ft_11_0 (fun v65 => ?_)
  refine e_iconst (v := 5) i_M_partAlike_68 (by decide) ?_
  refine e_iald i_M_partAlike_69 (fun v69 => ?_)
  refine e_icmpge (t := 119) i_M_partAlike_70 (by decide) ?_ ?_
  · refine e_iload i_M_partAlike_119 rfl ?_
    refine e_ifne (t := 125) i_M_partAlike_121 (by decide) ?_ ?_
    · refine e_iconst (v := 0) i_M_partAlike_125 (by decide) ?_
      refine e_istore (L' := [some (.ref w), some (.long l1), none, some (.long l3), none, some (.int n5), some (.int n6), some (.int n7), some (.int 0)]) i_M_partAlike_126 (of_decide_eq_true rfl) rfl ?_
      exact rfl
    · exact e_vret i_M_partAlike_124 rfl
  · refine e_iload i_M_partAlike_73 rfl ?_
    refine e_iload i_M_partAlike_75 rfl ?_
    refine e_callI (as := [.int n5, .int n8]) (st' := []) i_M_partAlike_77 lm_130 (Or.inl ⟨rfl, rfl⟩) w_M_has rfl rfl rfl (Nat.le_of_ble_eq_true rfl) (Nat.le_of_ble_eq_true rfl) (m_rlt (q_M_has _) (Nat.lt_of_lt_of_le (by decide) hρ)) rfl (fun v77 s77 => ?_)
    refine e_ifne (t := 113) i_M_partAlike_80 (by decide) ?_ ?_
    · refine e_iinc (w := 1) (L' := [some (.ref w), some (.long l1), none, some (.long l3), none, some (.int n5), some (.int n6), some (.int n7), some (.int (n8 + (1 : Int32)))]) i_M_partAlike_113 rfl (of_decide_eq_true rfl) (by decide) rfl ?_
      refine e_goto (t := 62) i_M_partAlike_116 (by decide) ?_
      exact rfl
    · refine e_aload_n i_M_partAlike_83 rfl ?_
      refine e_getR i_M_partAlike_84 lf_0 (by decide) ft_11_0 (fun v84 => ?_)
      refine e_sipush (v := 134) i_M_partAlike_87 (by decide) ?_
      refine e_iload i_M_partAlike_90 rfl ?_
      refine e_iadd i_M_partAlike_92 ?_
      refine e_iald i_M_partAlike_93 (fun v93 => ?_)
      refine e_i2l i_M_partAlike_94 ?_
      refine e_iload i_M_partAlike_95 rfl ?_
      refine e_i2l i_M_partAlike_97 ?_
      refine e_lmul i_M_partAlike_98 ?_
      refine e_lload_n i_M_partAlike_99 rfl ?_
      refine e_lcmpgt (t := 113) i_M_partAlike_100 i_M_partAlike_101 (by decide) ?_ ?_
      · refine e_iinc (w := 1) (L' := [some (.ref w), some (.long l1), none, some (.long l3), none, some (.int n5), some (.int n6), some (.int n7), some (.int (n8 + (1 : Int32)))]) i_M_partAlike_113 rfl (of_decide_eq_true rfl) (by decide) rfl ?_
        refine e_goto (t := 62) i_M_partAlike_116 (by decide) ?_
        exact rfl
      · refine e_iload i_M_partAlike_104 rfl ?_
        refine e_iconst (v := 1) i_M_partAlike_106 (by decide) ?_
        refine e_iload i_M_partAlike_107 rfl ?_
        refine e_ishl i_M_partAlike_109 ?_
        refine e_ior i_M_partAlike_110 ?_
        refine e_istore (L' := [some (.ref w), some (.long l1), none, some (.long l3), none, some (.int n5), some (.int n6), some (.int (n7 ||| ((1 : Int32) <<< (n8 &&& (31 : Int32))))), some (.int n8)]) i_M_partAlike_111 (of_decide_eq_true rfl) rfl ?_
        refine e_iinc (w := 1) (L' := [some (.ref w), some (.long l1), none, some (.long l3), none, some (.int n5), some (.int n6), some (.int (n7 ||| ((1 : Int32) <<< (n8 &&& (31 : Int32))))), some (.int (n8 + (1 : Int32)))]) i_M_partAlike_113 rfl (of_decide_eq_true rfl) (by decide) rfl ?_
        refine e_goto (t := 62) i_M_partAlike_116 (by decide) ?_
        exact rfl
set_option maxRecDepth 20000 in
set_option maxHeartbeats 1000000 in
theorem E_M_partAlike_128 (x : m_X) (ρ : Nat) (hρ : 2 ≤ ρ) (s : m_H) (w : Nat) (l1 : Int64) (l3 : Int64) (n5 : Int32) (n6 : Int32) (n7 : Int32) (n8 : Int32)  : m_D x ρ k_M_partAlike 128 [some (.ref w), some (.long l1), none, some (.long l3), none, some (.int n5), some (.int n6), some (.int n7), some (.int n8)] [] s = (m_fR s 11 0 w).bind fun v131 => (m_ia x s v131 5).bind fun v135 => if v135 ≤ n8 then (m_D x ρ k_M_partAlike 15 [some (.ref w), some (.long l1), none, some (.long l3), none, some (.int (n5 ||| n7)), some (.int n6), some (.int n7), some (.int n8)] [] s) else m_bI (m_M x k_M_has [.int n7, .int n8] s) fun v144 s144 => if v144 = 0 then (m_D x ρ k_M_partAlike 128 [some (.ref w), some (.long l1), none, some (.long (l3 - (0 : Int64))), none, some (.int n5), some (.int n6), some (.int n7), some (.int (n8 + (1 : Int32)))] [] s144) else (m_fR s144 11 0 w).bind fun v151 => (m_ia x s144 v151 ((134 : Int32) + n8)).bind fun v160 => m_D x ρ k_M_partAlike 128 [some (.ref w), some (.long l1), none, some (.long (l3 - v160.toInt64)), none, some (.int n5), some (.int n6), some (.int n7), some (.int (n8 + (1 : Int32)))] [] s144 := by
  refine e_iload i_M_partAlike_128 rfl ?_
  refine e_aload_n i_M_partAlike_130 rfl ?_
  refine e_getR i_M_partAlike_131 lf_0 (by decide) ft_11_0 (fun v131 => ?_)
  refine e_iconst (v := 5) i_M_partAlike_134 (by decide) ?_
  refine e_iald i_M_partAlike_135 (fun v135 => ?_)
  refine e_icmpge (t := 174) i_M_partAlike_136 (by decide) ?_ ?_
  · refine e_iload i_M_partAlike_174 rfl ?_
    refine e_iload i_M_partAlike_176 rfl ?_
    refine e_ior i_M_partAlike_178 ?_
    refine e_istore (L' := [some (.ref w), some (.long l1), none, some (.long l3), none, some (.int (n5 ||| n7)), some (.int n6), some (.int n7), some (.int n8)]) i_M_partAlike_179 (of_decide_eq_true rfl) rfl ?_
    refine e_goto (t := 15) i_M_partAlike_181 (by decide) ?_
    exact rfl
  · refine e_lload_n i_M_partAlike_139 rfl ?_
    refine e_iload i_M_partAlike_140 rfl ?_
    refine e_iload i_M_partAlike_142 rfl ?_
    refine e_callI (as := [.int n7, .int n8]) (st' := [.long l3]) i_M_partAlike_144 lm_130 (Or.inl ⟨rfl, rfl⟩) w_M_has rfl rfl rfl (Nat.le_of_ble_eq_true rfl) (Nat.le_of_ble_eq_true rfl) (m_rlt (q_M_has _) (Nat.lt_of_lt_of_le (by decide) hρ)) rfl (fun v144 s144 => ?_)
    refine e_ifeq (t := 165) i_M_partAlike_147 (by decide) ?_ ?_
    · refine e_lconst (v := 0) i_M_partAlike_165 (by decide) ?_
      refine e_lsub i_M_partAlike_166 ?_
      refine e_lstore_n (L' := [some (.ref w), some (.long l1), none, some (.long (l3 - (0 : Int64))), none, some (.int n5), some (.int n6), some (.int n7), some (.int n8)]) i_M_partAlike_167 (of_decide_eq_true rfl) rfl ?_
      refine e_iinc (w := 1) (L' := [some (.ref w), some (.long l1), none, some (.long (l3 - (0 : Int64))), none, some (.int n5), some (.int n6), some (.int n7), some (.int (n8 + (1 : Int32)))]) i_M_partAlike_168 rfl (of_decide_eq_true rfl) (by decide) rfl ?_
      refine e_goto (t := 128) i_M_partAlike_171 (by decide) ?_
      exact rfl
    · refine e_aload_n i_M_partAlike_150 rfl ?_
      refine e_getR i_M_partAlike_151 lf_0 (by decide) ft_11_0 (fun v151 => ?_)
      refine e_sipush (v := 134) i_M_partAlike_154 (by decide) ?_
      refine e_iload i_M_partAlike_157 rfl ?_
      refine e_iadd i_M_partAlike_159 ?_
      refine e_iald i_M_partAlike_160 (fun v160 => ?_)
      refine e_i2l i_M_partAlike_161 ?_
      refine e_goto (t := 166) i_M_partAlike_162 (by decide) ?_
      refine e_lsub i_M_partAlike_166 ?_
      refine e_lstore_n (L' := [some (.ref w), some (.long l1), none, some (.long (l3 - v160.toInt64)), none, some (.int n5), some (.int n6), some (.int n7), some (.int n8)]) i_M_partAlike_167 (of_decide_eq_true rfl) rfl ?_
      refine e_iinc (w := 1) (L' := [some (.ref w), some (.long l1), none, some (.long (l3 - v160.toInt64)), none, some (.int n5), some (.int n6), some (.int n7), some (.int (n8 + (1 : Int32)))]) i_M_partAlike_168 rfl (of_decide_eq_true rfl) (by decide) rfl ?_
      refine e_goto (t := 128) i_M_partAlike_171 (by decide) ?_
      exact rfl
theorem i_M_claim_0 : m_at k_M_claim 0 = some (.iload_n 1, 1, 0) := m_at_of r_M_claim (by decide +kernel)
theorem i_M_claim_1 : m_at k_M_claim 1 = some (.iconst (-1), 1, 0) := m_at_of r_M_claim (by decide +kernel)
theorem i_M_claim_2 : m_at k_M_claim 2 = some (.if_icmp .ne (12), 3, 0) := m_at_of r_M_claim (by decide +kernel)
theorem i_M_claim_5 : m_at k_M_claim 5 = some (.aload_n 0, 1, 0) := m_at_of r_M_claim (by decide +kernel)
theorem i_M_claim_6 : m_at k_M_claim 6 = some (.getfield 7, 3, 0) := m_at_of r_M_claim (by decide +kernel)
theorem i_M_claim_9 : m_at k_M_claim 9 = some (.iconst 5, 1, 0) := m_at_of r_M_claim (by decide +kernel)
theorem i_M_claim_10 : m_at k_M_claim 10 = some (.iconst 0, 1, 0) := m_at_of r_M_claim (by decide +kernel)
theorem i_M_claim_11 : m_at k_M_claim 11 = some (.iastore, 1, 0) := m_at_of r_M_claim (by decide +kernel)
theorem i_M_claim_12 : m_at k_M_claim 12 = some (.iconst 0, 1, 0) := m_at_of r_M_claim (by decide +kernel)
theorem i_M_claim_13 : m_at k_M_claim 13 = some (.ireturn, 1, 0) := m_at_of r_M_claim (by decide +kernel)
theorem i_M_claim_14 : m_at k_M_claim 14 = some (.iload_n 1, 1, 0) := m_at_of r_M_claim (by decide +kernel)
theorem i_M_claim_15 : m_at k_M_claim 15 = some (.iconst 0, 1, 0) := m_at_of r_M_claim (by decide +kernel)
theorem i_M_claim_16 : m_at k_M_claim 16 = some (.sipush 9999, 3, 0) := m_at_of r_M_claim (by decide +kernel)
theorem i_M_claim_19 : m_at k_M_claim 19 = some (.invokestatic 81, 3, 96) := m_at_of r_M_claim (by decide +kernel)
theorem i_M_claim_22 : m_at k_M_claim 22 = some (.ifCond .eq (14), 3, 0) := m_at_of r_M_claim (by decide +kernel)
theorem i_M_claim_25 : m_at k_M_claim 25 = some (.aload_n 0, 1, 0) := m_at_of r_M_claim (by decide +kernel)
theorem i_M_claim_26 : m_at k_M_claim 26 = some (.getfield 7, 3, 0) := m_at_of r_M_claim (by decide +kernel)
theorem i_M_claim_29 : m_at k_M_claim 29 = some (.iconst 5, 1, 0) := m_at_of r_M_claim (by decide +kernel)
theorem i_M_claim_30 : m_at k_M_claim 30 = some (.iaload, 1, 0) := m_at_of r_M_claim (by decide +kernel)
theorem i_M_claim_31 : m_at k_M_claim 31 = some (.bipush 6, 2, 0) := m_at_of r_M_claim (by decide +kernel)
theorem i_M_claim_33 : m_at k_M_claim 33 = some (.if_icmp .ne (6), 3, 0) := m_at_of r_M_claim (by decide +kernel)
theorem i_M_claim_36 : m_at k_M_claim 36 = some (.bipush (-2), 2, 0) := m_at_of r_M_claim (by decide +kernel)
theorem i_M_claim_38 : m_at k_M_claim 38 = some (.ireturn, 1, 0) := m_at_of r_M_claim (by decide +kernel)
theorem i_M_claim_39 : m_at k_M_claim 39 = some (.aload_n 0, 1, 0) := m_at_of r_M_claim (by decide +kernel)
theorem i_M_claim_40 : m_at k_M_claim 40 = some (.getfield 7, 3, 0) := m_at_of r_M_claim (by decide +kernel)
theorem i_M_claim_43 : m_at k_M_claim 43 = some (.sipush 134, 3, 0) := m_at_of r_M_claim (by decide +kernel)
theorem i_M_claim_46 : m_at k_M_claim 46 = some (.aload_n 0, 1, 0) := m_at_of r_M_claim (by decide +kernel)
theorem i_M_claim_47 : m_at k_M_claim 47 = some (.getfield 7, 3, 0) := m_at_of r_M_claim (by decide +kernel)
theorem i_M_claim_50 : m_at k_M_claim 50 = some (.iconst 5, 1, 0) := m_at_of r_M_claim (by decide +kernel)
theorem i_M_claim_51 : m_at k_M_claim 51 = some (.iaload, 1, 0) := m_at_of r_M_claim (by decide +kernel)
theorem i_M_claim_52 : m_at k_M_claim 52 = some (.iadd, 1, 0) := m_at_of r_M_claim (by decide +kernel)
theorem i_M_claim_53 : m_at k_M_claim 53 = some (.iload_n 1, 1, 0) := m_at_of r_M_claim (by decide +kernel)
theorem i_M_claim_54 : m_at k_M_claim 54 = some (.iastore, 1, 0) := m_at_of r_M_claim (by decide +kernel)
theorem i_M_claim_55 : m_at k_M_claim 55 = some (.aload_n 0, 1, 0) := m_at_of r_M_claim (by decide +kernel)
theorem i_M_claim_56 : m_at k_M_claim 56 = some (.getfield 7, 3, 0) := m_at_of r_M_claim (by decide +kernel)
theorem i_M_claim_59 : m_at k_M_claim 59 = some (.iconst 5, 1, 0) := m_at_of r_M_claim (by decide +kernel)
theorem i_M_claim_60 : m_at k_M_claim 60 = some (.dup2, 1, 0) := m_at_of r_M_claim (by decide +kernel)
theorem i_M_claim_61 : m_at k_M_claim 61 = some (.iaload, 1, 0) := m_at_of r_M_claim (by decide +kernel)
theorem i_M_claim_62 : m_at k_M_claim 62 = some (.iconst 1, 1, 0) := m_at_of r_M_claim (by decide +kernel)
theorem i_M_claim_63 : m_at k_M_claim 63 = some (.iadd, 1, 0) := m_at_of r_M_claim (by decide +kernel)
theorem i_M_claim_64 : m_at k_M_claim 64 = some (.iastore, 1, 0) := m_at_of r_M_claim (by decide +kernel)
theorem i_M_claim_65 : m_at k_M_claim 65 = some (.aload_n 0, 1, 0) := m_at_of r_M_claim (by decide +kernel)
theorem i_M_claim_66 : m_at k_M_claim 66 = some (.getfield 7, 3, 0) := m_at_of r_M_claim (by decide +kernel)
theorem i_M_claim_69 : m_at k_M_claim 69 = some (.iconst 5, 1, 0) := m_at_of r_M_claim (by decide +kernel)
theorem i_M_claim_70 : m_at k_M_claim 70 = some (.iaload, 1, 0) := m_at_of r_M_claim (by decide +kernel)
theorem i_M_claim_71 : m_at k_M_claim 71 = some (.ireturn, 1, 0) := m_at_of r_M_claim (by decide +kernel)
set_option maxRecDepth 20000 in
set_option maxHeartbeats 1000000 in
theorem E_M_claim (x : m_X) (s : m_H) (w : Nat) (n1 : Int32) : m_M x k_M_claim [.ref w, .int n1] s = if m_isO s w 11 = true then (if n1 = (-1) then ((m_fR s 11 0 w).bind fun v6 => (m_is s v6 5 0).bind fun s11 => some (some (.int 0), s11)) else m_bI (m_M x k_M_isIn [.int n1, .int 0, .int 9999] s) fun v19 s19 => if v19 = 0 then (some (some (.int (-2)), s19)) else (m_fR s19 11 0 w).bind fun v26 => (m_ia x s19 v26 5).bind fun v30 => if v30 = 6 then (some (some (.int (-2)), s19)) else (m_fR s19 11 0 w).bind fun v40 => (m_fR s19 11 0 w).bind fun v47 => (m_ia x s19 v47 5).bind fun v51 => (m_is s19 v40 ((134 : Int32) + v51) n1).bind fun s54 => (m_fR s54 11 0 w).bind fun v56 => (m_ia x s54 v56 5).bind fun v61 => (m_is s54 v56 5 (v61 + (1 : Int32))).bind fun s64 => (m_fR s64 11 0 w).bind fun v66 => (m_ia x s64 v66 5).bind fun v70 => some (some (.int v70), s64)) else none := by
  refine e_M1 (L0 := [some (.ref w), some (.int n1)]) rfl (by decide +kernel) rfl (q_M_claim _) rfl ?_
  refine e_iload_n i_M_claim_0 rfl ?_
  refine e_iconst (v := (-1)) i_M_claim_1 (by decide) ?_
  refine e_icmpne (t := 14) i_M_claim_2 (by decide) ?_ ?_
  · refine e_iload_n i_M_claim_14 rfl ?_
    refine e_iconst (v := 0) i_M_claim_15 (by decide) ?_
    refine e_sipush (v := 9999) i_M_claim_16 (by decide) ?_
    refine e_callI (as := [.int n1, .int 0, .int 9999]) (st' := []) i_M_claim_19 lm_96 (Or.inl ⟨rfl, rfl⟩) w_M_isIn rfl rfl rfl (Nat.le_of_ble_eq_true rfl) (Nat.le_of_ble_eq_true rfl) (m_rlt (q_M_isIn _) (by decide)) rfl (fun v19 s19 => ?_)
    refine e_ifeq (t := 36) i_M_claim_22 (by decide) ?_ ?_
    · refine e_bipush (v := (-2)) i_M_claim_36 (by decide) ?_
      exact e_iretI i_M_claim_38 rfl
    · refine e_aload_n i_M_claim_25 rfl ?_
      refine e_getR i_M_claim_26 lf_0 (by decide) ft_11_0 (fun v26 => ?_)
      refine e_iconst (v := 5) i_M_claim_29 (by decide) ?_
      refine e_iald i_M_claim_30 (fun v30 => ?_)
      refine e_bipush (v := 6) i_M_claim_31 (by decide) ?_
      refine e_icmpne (t := 39) i_M_claim_33 (by decide) ?_ ?_
      · refine e_aload_n i_M_claim_39 rfl ?_
        refine e_getR i_M_claim_40 lf_0 (by decide) ft_11_0 (fun v40 => ?_)
        refine e_sipush (v := 134) i_M_claim_43 (by decide) ?_
        refine e_aload_n i_M_claim_46 rfl ?_
        refine e_getR i_M_claim_47 lf_0 (by decide) ft_11_0 (fun v47 => ?_)
        refine e_iconst (v := 5) i_M_claim_50 (by decide) ?_
        refine e_iald i_M_claim_51 (fun v51 => ?_)
        refine e_iadd i_M_claim_52 ?_
        refine e_iload_n i_M_claim_53 rfl ?_
        refine e_iast i_M_claim_54 (fun s54 => ?_)
        refine e_aload_n i_M_claim_55 rfl ?_
        refine e_getR i_M_claim_56 lf_0 (by decide) ft_11_0 (fun v56 => ?_)
        refine e_iconst (v := 5) i_M_claim_59 (by decide) ?_
        refine e_dup2 i_M_claim_60 ⟨rfl, rfl⟩ ?_
        refine e_iald i_M_claim_61 (fun v61 => ?_)
        refine e_iconst (v := 1) i_M_claim_62 (by decide) ?_
        refine e_iadd i_M_claim_63 ?_
        refine e_iast i_M_claim_64 (fun s64 => ?_)
        refine e_aload_n i_M_claim_65 rfl ?_
        refine e_getR i_M_claim_66 lf_0 (by decide) ft_11_0 (fun v66 => ?_)
        refine e_iconst (v := 5) i_M_claim_69 (by decide) ?_
        refine e_iald i_M_claim_70 (fun v70 => ?_)
        exact e_iretI i_M_claim_71 rfl
      · refine e_bipush (v := (-2)) i_M_claim_36 (by decide) ?_
        exact e_iretI i_M_claim_38 rfl
  · refine e_aload_n i_M_claim_5 rfl ?_
    refine e_getR i_M_claim_6 lf_0 (by decide) ft_11_0 (fun v6 => ?_)
    refine e_iconst (v := 5) i_M_claim_9 (by decide) ?_
    refine e_iconst (v := 0) i_M_claim_10 (by decide) ?_
    refine e_iast i_M_claim_11 (fun s11 => ?_)
    refine e_iconst (v := 0) i_M_claim_12 (by decide) ?_
    exact e_iretI i_M_claim_13 rfl
theorem i_M_unrest_0 : m_at k_M_unrest 0 = some (.aload_n 0, 1, 0) := m_at_of r_M_unrest (by decide +kernel)
theorem i_M_unrest_1 : m_at k_M_unrest 1 = some (.iload_n 1, 1, 0) := m_at_of r_M_unrest (by decide +kernel)
theorem i_M_unrest_2 : m_at k_M_unrest 2 = some (.invokevirtual 463, 3, 161) := m_at_of r_M_unrest (by decide +kernel)
theorem i_M_unrest_5 : m_at k_M_unrest 5 = some (.ifCond .ne (5), 3, 0) := m_at_of r_M_unrest (by decide +kernel)
theorem i_M_unrest_8 : m_at k_M_unrest 8 = some (.iconst (-1), 1, 0) := m_at_of r_M_unrest (by decide +kernel)
theorem i_M_unrest_9 : m_at k_M_unrest 9 = some (.ireturn, 1, 0) := m_at_of r_M_unrest (by decide +kernel)
theorem i_M_unrest_10 : m_at k_M_unrest 10 = some (.iconst 0, 1, 0) := m_at_of r_M_unrest (by decide +kernel)
theorem i_M_unrest_11 : m_at k_M_unrest 11 = some (.istore 8, 2, 0) := m_at_of r_M_unrest (by decide +kernel)
theorem i_M_unrest_13 : m_at k_M_unrest 13 = some (.iload 8, 2, 0) := m_at_of r_M_unrest (by decide +kernel)
theorem i_M_unrest_15 : m_at k_M_unrest 15 = some (.bipush 7, 2, 0) := m_at_of r_M_unrest (by decide +kernel)
theorem i_M_unrest_17 : m_at k_M_unrest 17 = some (.if_icmp .ge (17), 3, 0) := m_at_of r_M_unrest (by decide +kernel)
theorem i_M_unrest_20 : m_at k_M_unrest 20 = some (.aload_n 0, 1, 0) := m_at_of r_M_unrest (by decide +kernel)
theorem i_M_unrest_21 : m_at k_M_unrest 21 = some (.getfield 62, 3, 59) := m_at_of r_M_unrest (by decide +kernel)
theorem i_M_unrest_24 : m_at k_M_unrest 24 = some (.iload 8, 2, 0) := m_at_of r_M_unrest (by decide +kernel)
theorem i_M_unrest_26 : m_at k_M_unrest 26 = some (.iconst (-1), 1, 0) := m_at_of r_M_unrest (by decide +kernel)
theorem i_M_unrest_27 : m_at k_M_unrest 27 = some (.iastore, 1, 0) := m_at_of r_M_unrest (by decide +kernel)
theorem i_M_unrest_28 : m_at k_M_unrest 28 = some (.iinc 8 (1), 3, 0) := m_at_of r_M_unrest (by decide +kernel)
theorem i_M_unrest_31 : m_at k_M_unrest 31 = some (.goto (-18), 3, 0) := m_at_of r_M_unrest (by decide +kernel)
theorem i_M_unrest_34 : m_at k_M_unrest 34 = some (.iconst 0, 1, 0) := m_at_of r_M_unrest (by decide +kernel)
theorem i_M_unrest_35 : m_at k_M_unrest 35 = some (.istore 8, 2, 0) := m_at_of r_M_unrest (by decide +kernel)
theorem i_M_unrest_37 : m_at k_M_unrest 37 = some (.iload 8, 2, 0) := m_at_of r_M_unrest (by decide +kernel)
theorem i_M_unrest_39 : m_at k_M_unrest 39 = some (.iload_n 1, 1, 0) := m_at_of r_M_unrest (by decide +kernel)
theorem i_M_unrest_40 : m_at k_M_unrest 40 = some (.if_icmp .ge (75), 3, 0) := m_at_of r_M_unrest (by decide +kernel)
theorem i_M_unrest_43 : m_at k_M_unrest 43 = some (.aload_n 0, 1, 0) := m_at_of r_M_unrest (by decide +kernel)
theorem i_M_unrest_44 : m_at k_M_unrest 44 = some (.iload_n 1, 1, 0) := m_at_of r_M_unrest (by decide +kernel)
theorem i_M_unrest_45 : m_at k_M_unrest 45 = some (.iload 8, 2, 0) := m_at_of r_M_unrest (by decide +kernel)
theorem i_M_unrest_47 : m_at k_M_unrest 47 = some (.iload 8, 2, 0) := m_at_of r_M_unrest (by decide +kernel)
theorem i_M_unrest_49 : m_at k_M_unrest 49 = some (.ifCond .ne (7), 3, 0) := m_at_of r_M_unrest (by decide +kernel)
theorem i_M_unrest_52 : m_at k_M_unrest 52 = some (.iload_n 2, 1, 0) := m_at_of r_M_unrest (by decide +kernel)
theorem i_M_unrest_53 : m_at k_M_unrest 53 = some (.goto (48), 3, 0) := m_at_of r_M_unrest (by decide +kernel)
theorem i_M_unrest_56 : m_at k_M_unrest 56 = some (.iload 8, 2, 0) := m_at_of r_M_unrest (by decide +kernel)
theorem i_M_unrest_58 : m_at k_M_unrest 58 = some (.iconst 1, 1, 0) := m_at_of r_M_unrest (by decide +kernel)
theorem i_M_unrest_59 : m_at k_M_unrest 59 = some (.if_icmp .ne (7), 3, 0) := m_at_of r_M_unrest (by decide +kernel)
theorem i_M_unrest_62 : m_at k_M_unrest 62 = some (.iload_n 3, 1, 0) := m_at_of r_M_unrest (by decide +kernel)
theorem i_M_unrest_63 : m_at k_M_unrest 63 = some (.goto (38), 3, 0) := m_at_of r_M_unrest (by decide +kernel)
theorem i_M_unrest_66 : m_at k_M_unrest 66 = some (.iload 8, 2, 0) := m_at_of r_M_unrest (by decide +kernel)
theorem i_M_unrest_68 : m_at k_M_unrest 68 = some (.iconst 2, 1, 0) := m_at_of r_M_unrest (by decide +kernel)
theorem i_M_unrest_69 : m_at k_M_unrest 69 = some (.if_icmp .ne (8), 3, 0) := m_at_of r_M_unrest (by decide +kernel)
theorem i_M_unrest_72 : m_at k_M_unrest 72 = some (.iload 4, 2, 0) := m_at_of r_M_unrest (by decide +kernel)
theorem i_M_unrest_74 : m_at k_M_unrest 74 = some (.goto (27), 3, 0) := m_at_of r_M_unrest (by decide +kernel)
theorem i_M_unrest_77 : m_at k_M_unrest 77 = some (.iload 8, 2, 0) := m_at_of r_M_unrest (by decide +kernel)
theorem i_M_unrest_79 : m_at k_M_unrest 79 = some (.iconst 3, 1, 0) := m_at_of r_M_unrest (by decide +kernel)
theorem i_M_unrest_80 : m_at k_M_unrest 80 = some (.if_icmp .ne (8), 3, 0) := m_at_of r_M_unrest (by decide +kernel)
theorem i_M_unrest_83 : m_at k_M_unrest 83 = some (.iload 5, 2, 0) := m_at_of r_M_unrest (by decide +kernel)
theorem i_M_unrest_85 : m_at k_M_unrest 85 = some (.goto (16), 3, 0) := m_at_of r_M_unrest (by decide +kernel)
theorem i_M_unrest_88 : m_at k_M_unrest 88 = some (.iload 8, 2, 0) := m_at_of r_M_unrest (by decide +kernel)
theorem i_M_unrest_90 : m_at k_M_unrest 90 = some (.iconst 4, 1, 0) := m_at_of r_M_unrest (by decide +kernel)
theorem i_M_unrest_91 : m_at k_M_unrest 91 = some (.if_icmp .ne (8), 3, 0) := m_at_of r_M_unrest (by decide +kernel)
theorem i_M_unrest_94 : m_at k_M_unrest 94 = some (.iload 6, 2, 0) := m_at_of r_M_unrest (by decide +kernel)
theorem i_M_unrest_96 : m_at k_M_unrest 96 = some (.goto (5), 3, 0) := m_at_of r_M_unrest (by decide +kernel)
theorem i_M_unrest_99 : m_at k_M_unrest 99 = some (.iload 7, 2, 0) := m_at_of r_M_unrest (by decide +kernel)
theorem i_M_unrest_101 : m_at k_M_unrest 101 = some (.invokevirtual 469, 3, 162) := m_at_of r_M_unrest (by decide +kernel)
theorem i_M_unrest_104 : m_at k_M_unrest 104 = some (.ifCond .ne (5), 3, 0) := m_at_of r_M_unrest (by decide +kernel)
theorem i_M_unrest_107 : m_at k_M_unrest 107 = some (.iconst (-1), 1, 0) := m_at_of r_M_unrest (by decide +kernel)
theorem i_M_unrest_108 : m_at k_M_unrest 108 = some (.ireturn, 1, 0) := m_at_of r_M_unrest (by decide +kernel)
theorem i_M_unrest_109 : m_at k_M_unrest 109 = some (.iinc 8 (1), 3, 0) := m_at_of r_M_unrest (by decide +kernel)
theorem i_M_unrest_112 : m_at k_M_unrest 112 = some (.goto (-75), 3, 0) := m_at_of r_M_unrest (by decide +kernel)
theorem i_M_unrest_115 : m_at k_M_unrest 115 = some (.iconst 0, 1, 0) := m_at_of r_M_unrest (by decide +kernel)
theorem i_M_unrest_116 : m_at k_M_unrest 116 = some (.istore 8, 2, 0) := m_at_of r_M_unrest (by decide +kernel)
theorem i_M_unrest_118 : m_at k_M_unrest 118 = some (.iconst 0, 1, 0) := m_at_of r_M_unrest (by decide +kernel)
theorem i_M_unrest_119 : m_at k_M_unrest 119 = some (.istore 9, 2, 0) := m_at_of r_M_unrest (by decide +kernel)
theorem i_M_unrest_121 : m_at k_M_unrest 121 = some (.iload 9, 2, 0) := m_at_of r_M_unrest (by decide +kernel)
theorem i_M_unrest_123 : m_at k_M_unrest 123 = some (.iload_n 1, 1, 0) := m_at_of r_M_unrest (by decide +kernel)
theorem i_M_unrest_124 : m_at k_M_unrest 124 = some (.if_icmp .ge (73), 3, 0) := m_at_of r_M_unrest (by decide +kernel)
theorem i_M_unrest_127 : m_at k_M_unrest 127 = some (.iload_n 1, 1, 0) := m_at_of r_M_unrest (by decide +kernel)
theorem i_M_unrest_128 : m_at k_M_unrest 128 = some (.istore 10, 2, 0) := m_at_of r_M_unrest (by decide +kernel)
theorem i_M_unrest_130 : m_at k_M_unrest 130 = some (.iload 10, 2, 0) := m_at_of r_M_unrest (by decide +kernel)
theorem i_M_unrest_132 : m_at k_M_unrest 132 = some (.aload_n 0, 1, 0) := m_at_of r_M_unrest (by decide +kernel)
theorem i_M_unrest_133 : m_at k_M_unrest 133 = some (.getfield 7, 3, 0) := m_at_of r_M_unrest (by decide +kernel)
theorem i_M_unrest_136 : m_at k_M_unrest 136 = some (.iconst 0, 1, 0) := m_at_of r_M_unrest (by decide +kernel)
theorem i_M_unrest_137 : m_at k_M_unrest 137 = some (.iaload, 1, 0) := m_at_of r_M_unrest (by decide +kernel)
theorem i_M_unrest_138 : m_at k_M_unrest 138 = some (.if_icmp .ge (53), 3, 0) := m_at_of r_M_unrest (by decide +kernel)
theorem i_M_unrest_141 : m_at k_M_unrest 141 = some (.iload 8, 2, 0) := m_at_of r_M_unrest (by decide +kernel)
theorem i_M_unrest_143 : m_at k_M_unrest 143 = some (.aload_n 0, 1, 0) := m_at_of r_M_unrest (by decide +kernel)
theorem i_M_unrest_144 : m_at k_M_unrest 144 = some (.getfield 62, 3, 59) := m_at_of r_M_unrest (by decide +kernel)
theorem i_M_unrest_147 : m_at k_M_unrest 147 = some (.iload 9, 2, 0) := m_at_of r_M_unrest (by decide +kernel)
theorem i_M_unrest_149 : m_at k_M_unrest 149 = some (.iaload, 1, 0) := m_at_of r_M_unrest (by decide +kernel)
theorem i_M_unrest_150 : m_at k_M_unrest 150 = some (.iload 10, 2, 0) := m_at_of r_M_unrest (by decide +kernel)
theorem i_M_unrest_152 : m_at k_M_unrest 152 = some (.if_icmp .eq (29), 3, 0) := m_at_of r_M_unrest (by decide +kernel)
theorem i_M_unrest_155 : m_at k_M_unrest 155 = some (.aload_n 0, 1, 0) := m_at_of r_M_unrest (by decide +kernel)
theorem i_M_unrest_156 : m_at k_M_unrest 156 = some (.iload 9, 2, 0) := m_at_of r_M_unrest (by decide +kernel)
theorem i_M_unrest_158 : m_at k_M_unrest 158 = some (.iload 10, 2, 0) := m_at_of r_M_unrest (by decide +kernel)
theorem i_M_unrest_160 : m_at k_M_unrest 160 = some (.invokevirtual 472, 3, 163) := m_at_of r_M_unrest (by decide +kernel)
theorem i_M_unrest_163 : m_at k_M_unrest 163 = some (.ifCond .eq (18), 3, 0) := m_at_of r_M_unrest (by decide +kernel)
theorem i_M_unrest_166 : m_at k_M_unrest 166 = some (.aload_n 0, 1, 0) := m_at_of r_M_unrest (by decide +kernel)
theorem i_M_unrest_167 : m_at k_M_unrest 167 = some (.iload 10, 2, 0) := m_at_of r_M_unrest (by decide +kernel)
theorem i_M_unrest_169 : m_at k_M_unrest 169 = some (.iload 9, 2, 0) := m_at_of r_M_unrest (by decide +kernel)
theorem i_M_unrest_171 : m_at k_M_unrest 171 = some (.invokevirtual 472, 3, 163) := m_at_of r_M_unrest (by decide +kernel)
theorem i_M_unrest_174 : m_at k_M_unrest 174 = some (.ifCond .eq (7), 3, 0) := m_at_of r_M_unrest (by decide +kernel)
theorem i_M_unrest_177 : m_at k_M_unrest 177 = some (.iconst 1, 1, 0) := m_at_of r_M_unrest (by decide +kernel)
theorem i_M_unrest_178 : m_at k_M_unrest 178 = some (.goto (4), 3, 0) := m_at_of r_M_unrest (by decide +kernel)
theorem i_M_unrest_181 : m_at k_M_unrest 181 = some (.iconst 0, 1, 0) := m_at_of r_M_unrest (by decide +kernel)
theorem i_M_unrest_182 : m_at k_M_unrest 182 = some (.iadd, 1, 0) := m_at_of r_M_unrest (by decide +kernel)
theorem i_M_unrest_183 : m_at k_M_unrest 183 = some (.istore 8, 2, 0) := m_at_of r_M_unrest (by decide +kernel)
theorem i_M_unrest_185 : m_at k_M_unrest 185 = some (.iinc 10 (1), 3, 0) := m_at_of r_M_unrest (by decide +kernel)
theorem i_M_unrest_188 : m_at k_M_unrest 188 = some (.goto (-58), 3, 0) := m_at_of r_M_unrest (by decide +kernel)
theorem i_M_unrest_191 : m_at k_M_unrest 191 = some (.iinc 9 (1), 3, 0) := m_at_of r_M_unrest (by decide +kernel)
theorem i_M_unrest_194 : m_at k_M_unrest 194 = some (.goto (-73), 3, 0) := m_at_of r_M_unrest (by decide +kernel)
theorem i_M_unrest_197 : m_at k_M_unrest 197 = some (.iload 8, 2, 0) := m_at_of r_M_unrest (by decide +kernel)
theorem i_M_unrest_199 : m_at k_M_unrest 199 = some (.ireturn, 1, 0) := m_at_of r_M_unrest (by decide +kernel)
set_option maxRecDepth 20000 in
set_option maxHeartbeats 1000000 in
theorem E_M_unrest (x : m_X) (s : m_H) (w : Nat) (n1 : Int32) (n2 : Int32) (n3 : Int32) (n4 : Int32) (n5 : Int32) (n6 : Int32) (n7 : Int32) : m_M x k_M_unrest [.ref w, .int n1, .int n2, .int n3, .int n4, .int n5, .int n6, .int n7] s = if m_isO s w 11 = true then (m_bI (m_M x k_M_canWed [.ref w, .int n1] s) fun v2 s2 => if v2 = 0 then (some (some (.int (-1)), s2)) else m_D x 5 k_M_unrest 13 [some (.ref w), some (.int n1), some (.int n2), some (.int n3), some (.int n4), some (.int n5), some (.int n6), some (.int n7), some (.int 0), none, none] [] s2) else none := by
  refine e_M1 (L0 := [some (.ref w), some (.int n1), some (.int n2), some (.int n3), some (.int n4), some (.int n5), some (.int n6), some (.int n7), none, none, none]) rfl (by decide +kernel) rfl (q_M_unrest _) rfl ?_
  refine e_aload_n i_M_unrest_0 rfl ?_
  refine e_iload_n i_M_unrest_1 rfl ?_
  refine e_callI (as := [.ref w, .int n1]) (st' := []) i_M_unrest_2 lm_161 (Or.inr (Or.inl ⟨rfl, rfl⟩)) w_M_canWed rfl rfl rfl (Nat.le_of_ble_eq_true rfl) (Nat.le_of_ble_eq_true rfl) (m_rlt (q_M_canWed _) (by decide)) rfl (fun v2 s2 => ?_)
  refine e_ifne (t := 10) i_M_unrest_5 (by decide) ?_ ?_
  · refine e_iconst (v := 0) i_M_unrest_10 (by decide) ?_
    refine e_istore (L' := [some (.ref w), some (.int n1), some (.int n2), some (.int n3), some (.int n4), some (.int n5), some (.int n6), some (.int n7), some (.int 0), none, none]) i_M_unrest_11 (of_decide_eq_true rfl) rfl ?_
    exact rfl
  · refine e_iconst (v := (-1)) i_M_unrest_8 (by decide) ?_
    exact e_iretI i_M_unrest_9 rfl
set_option maxRecDepth 20000 in
set_option maxHeartbeats 1000000 in
theorem E_M_unrest_13 (x : m_X) (ρ : Nat) (hρ : 5 ≤ ρ) (s : m_H) (w : Nat) (n1 : Int32) (n2 : Int32) (n3 : Int32) (n4 : Int32) (n5 : Int32) (n6 : Int32) (n7 : Int32) (n8 : Int32)  : m_D x ρ k_M_unrest 13 [some (.ref w), some (.int n1), some (.int n2), some (.int n3), some (.int n4), some (.int n5), some (.int n6), some (.int n7), some (.int n8), none, none] [] s = if 7 ≤ n8 then (m_D x ρ k_M_unrest 37 [some (.ref w), some (.int n1), some (.int n2), some (.int n3), some (.int n4), some (.int n5), some (.int n6), some (.int n7), some (.int 0), none, none] [] s) else (m_fR s 11 29 w).bind fun v21 => (m_is s v21 n8 (-1)).bind fun s27 => m_D x ρ k_M_unrest 13 [some (.ref w), some (.int n1), some (.int n2), some (.int n3), some (.int n4), some (.int n5), some (.int n6), some (.int n7), some (.int (n8 + (1 : Int32))), none, none] [] s27 := by
  refine e_iload i_M_unrest_13 rfl ?_
  refine e_bipush (v := 7) i_M_unrest_15 (by decide) ?_
  refine e_icmpge (t := 34) i_M_unrest_17 (by decide) ?_ ?_
  · refine e_iconst (v := 0) i_M_unrest_34 (by decide) ?_
    refine e_istore (L' := [some (.ref w), some (.int n1), some (.int n2), some (.int n3), some (.int n4), some (.int n5), some (.int n6), some (.int n7), some (.int 0), none, none]) i_M_unrest_35 (of_decide_eq_true rfl) rfl ?_
    exact rfl
  · refine e_aload_n i_M_unrest_20 rfl ?_
    refine e_getR i_M_unrest_21 lf_59 (by decide) ft_11_29 (fun v21 => ?_)
    refine e_iload i_M_unrest_24 rfl ?_
    refine e_iconst (v := (-1)) i_M_unrest_26 (by decide) ?_
    refine e_iast i_M_unrest_27 (fun s27 => ?_)
    refine e_iinc (w := 1) (L' := [some (.ref w), some (.int n1), some (.int n2), some (.int n3), some (.int n4), some (.int n5), some (.int n6), some (.int n7), some (.int (n8 + (1 : Int32))), none, none]) i_M_unrest_28 rfl (of_decide_eq_true rfl) (by decide) rfl ?_
    refine e_goto (t := 13) i_M_unrest_31 (by decide) ?_
    exact rfl
set_option maxRecDepth 20000 in
set_option maxHeartbeats 1000000 in
theorem E_M_unrest_37 (x : m_X) (ρ : Nat) (hρ : 5 ≤ ρ) (s : m_H) (w : Nat) (n1 : Int32) (n2 : Int32) (n3 : Int32) (n4 : Int32) (n5 : Int32) (n6 : Int32) (n7 : Int32) (n8 : Int32)  : m_D x ρ k_M_unrest 37 [some (.ref w), some (.int n1), some (.int n2), some (.int n3), some (.int n4), some (.int n5), some (.int n6), some (.int n7), some (.int n8), none, none] [] s = if n1 ≤ n8 then (m_D x ρ k_M_unrest 121 [some (.ref w), some (.int n1), some (.int n2), some (.int n3), some (.int n4), some (.int n5), some (.int n6), some (.int n7), some (.int 0), some (.int 0), none] [] s) else if n8 = 0 then (m_bI (m_M x k_M_isTaken [.ref w, .int n1, .int n8, .int n2] s) fun v101 s101 => if v101 = 0 then (some (some (.int (-1)), s101)) else m_D x ρ k_M_unrest 37 [some (.ref w), some (.int n1), some (.int n2), some (.int n3), some (.int n4), some (.int n5), some (.int n6), some (.int n7), some (.int (n8 + (1 : Int32))), none, none] [] s101) else if n8 = 1 then (m_bI (m_M x k_M_isTaken [.ref w, .int n1, .int n8, .int n3] s) fun v101 s101 => if v101 = 0 then (some (some (.int (-1)), s101)) else m_D x ρ k_M_unrest 37 [some (.ref w), some (.int n1), some (.int n2), some (.int n3), some (.int n4), some (.int n5), some (.int n6), some (.int n7), some (.int (n8 + (1 : Int32))), none, none] [] s101) else if n8 = 2 then (m_bI (m_M x k_M_isTaken [.ref w, .int n1, .int n8, .int n4] s) fun v101 s101 => if v101 = 0 then (some (some (.int (-1)), s101)) else m_D x ρ k_M_unrest 37 [some (.ref w), some (.int n1), some (.int n2), some (.int n3), some (.int n4), some (.int n5), some (.int n6), some (.int n7), some (.int (n8 + (1 : Int32))), none, none] [] s101) else if n8 = 3 then (m_bI (m_M x k_M_isTaken [.ref w, .int n1, .int n8, .int n5] s) fun v101 s101 => if v101 = 0 then (some (some (.int (-1)), s101)) else m_D x ρ k_M_unrest 37 [some (.ref w), some (.int n1), some (.int n2), some (.int n3), some (.int n4), some (.int n5), some (.int n6), some (.int n7), some (.int (n8 + (1 : Int32))), none, none] [] s101) else if n8 = 4 then (m_bI (m_M x k_M_isTaken [.ref w, .int n1, .int n8, .int n6] s) fun v101 s101 => if v101 = 0 then (some (some (.int (-1)), s101)) else m_D x ρ k_M_unrest 37 [some (.ref w), some (.int n1), some (.int n2), some (.int n3), some (.int n4), some (.int n5), some (.int n6), some (.int n7), some (.int (n8 + (1 : Int32))), none, none] [] s101) else m_bI (m_M x k_M_isTaken [.ref w, .int n1, .int n8, .int n7] s) fun v101 s101 => if v101 = 0 then (some (some (.int (-1)), s101)) else m_D x ρ k_M_unrest 37 [some (.ref w), some (.int n1), some (.int n2), some (.int n3), some (.int n4), some (.int n5), some (.int n6), some (.int n7), some (.int (n8 + (1 : Int32))), none, none] [] s101 := by
  refine e_iload i_M_unrest_37 rfl ?_
  refine e_iload_n i_M_unrest_39 rfl ?_
  refine e_icmpge (t := 115) i_M_unrest_40 (by decide) ?_ ?_
  · refine e_iconst (v := 0) i_M_unrest_115 (by decide) ?_
    refine e_istore (L' := [some (.ref w), some (.int n1), some (.int n2), some (.int n3), some (.int n4), some (.int n5), some (.int n6), some (.int n7), some (.int 0), none, none]) i_M_unrest_116 (of_decide_eq_true rfl) rfl ?_
    refine e_iconst (v := 0) i_M_unrest_118 (by decide) ?_
    refine e_istore (L' := [some (.ref w), some (.int n1), some (.int n2), some (.int n3), some (.int n4), some (.int n5), some (.int n6), some (.int n7), some (.int 0), some (.int 0), none]) i_M_unrest_119 (of_decide_eq_true rfl) rfl ?_
    exact rfl
  · refine e_aload_n i_M_unrest_43 rfl ?_
    refine e_iload_n i_M_unrest_44 rfl ?_
    refine e_iload i_M_unrest_45 rfl ?_
    refine e_iload i_M_unrest_47 rfl ?_
    refine e_ifne (t := 56) i_M_unrest_49 (by decide) ?_ ?_
    · refine e_iload i_M_unrest_56 rfl ?_
      refine e_iconst (v := 1) i_M_unrest_58 (by decide) ?_
      refine e_icmpne (t := 66) i_M_unrest_59 (by decide) ?_ ?_
      · refine e_iload i_M_unrest_66 rfl ?_
        refine e_iconst (v := 2) i_M_unrest_68 (by decide) ?_
        refine e_icmpne (t := 77) i_M_unrest_69 (by decide) ?_ ?_
        · refine e_iload i_M_unrest_77 rfl ?_
          refine e_iconst (v := 3) i_M_unrest_79 (by decide) ?_
          refine e_icmpne (t := 88) i_M_unrest_80 (by decide) ?_ ?_
          · refine e_iload i_M_unrest_88 rfl ?_
            refine e_iconst (v := 4) i_M_unrest_90 (by decide) ?_
            refine e_icmpne (t := 99) i_M_unrest_91 (by decide) ?_ ?_
            · refine e_iload i_M_unrest_99 rfl ?_
              refine e_callI (as := [.ref w, .int n1, .int n8, .int n7]) (st' := []) i_M_unrest_101 lm_162 (Or.inr (Or.inl ⟨rfl, rfl⟩)) w_M_isTaken rfl rfl rfl (Nat.le_of_ble_eq_true rfl) (Nat.le_of_ble_eq_true rfl) (m_rlt (q_M_isTaken _) (Nat.lt_of_lt_of_le (by decide) hρ)) rfl (fun v101 s101 => ?_)
              refine e_ifne (t := 109) i_M_unrest_104 (by decide) ?_ ?_
              · refine e_iinc (w := 1) (L' := [some (.ref w), some (.int n1), some (.int n2), some (.int n3), some (.int n4), some (.int n5), some (.int n6), some (.int n7), some (.int (n8 + (1 : Int32))), none, none]) i_M_unrest_109 rfl (of_decide_eq_true rfl) (by decide) rfl ?_
                refine e_goto (t := 37) i_M_unrest_112 (by decide) ?_
                exact rfl
              · refine e_iconst (v := (-1)) i_M_unrest_107 (by decide) ?_
                exact e_iretI i_M_unrest_108 rfl
            · refine e_iload i_M_unrest_94 rfl ?_
              refine e_goto (t := 101) i_M_unrest_96 (by decide) ?_
              refine e_callI (as := [.ref w, .int n1, .int n8, .int n6]) (st' := []) i_M_unrest_101 lm_162 (Or.inr (Or.inl ⟨rfl, rfl⟩)) w_M_isTaken rfl rfl rfl (Nat.le_of_ble_eq_true rfl) (Nat.le_of_ble_eq_true rfl) (m_rlt (q_M_isTaken _) (Nat.lt_of_lt_of_le (by decide) hρ)) rfl (fun v101 s101 => ?_)
              refine e_ifne (t := 109) i_M_unrest_104 (by decide) ?_ ?_
              · refine e_iinc (w := 1) (L' := [some (.ref w), some (.int n1), some (.int n2), some (.int n3), some (.int n4), some (.int n5), some (.int n6), some (.int n7), some (.int (n8 + (1 : Int32))), none, none]) i_M_unrest_109 rfl (of_decide_eq_true rfl) (by decide) rfl ?_
                refine e_goto (t := 37) i_M_unrest_112 (by decide) ?_
                exact rfl
              · refine e_iconst (v := (-1)) i_M_unrest_107 (by decide) ?_
                exact e_iretI i_M_unrest_108 rfl
          · refine e_iload i_M_unrest_83 rfl ?_
            refine e_goto (t := 101) i_M_unrest_85 (by decide) ?_
            refine e_callI (as := [.ref w, .int n1, .int n8, .int n5]) (st' := []) i_M_unrest_101 lm_162 (Or.inr (Or.inl ⟨rfl, rfl⟩)) w_M_isTaken rfl rfl rfl (Nat.le_of_ble_eq_true rfl) (Nat.le_of_ble_eq_true rfl) (m_rlt (q_M_isTaken _) (Nat.lt_of_lt_of_le (by decide) hρ)) rfl (fun v101 s101 => ?_)
            refine e_ifne (t := 109) i_M_unrest_104 (by decide) ?_ ?_
            · refine e_iinc (w := 1) (L' := [some (.ref w), some (.int n1), some (.int n2), some (.int n3), some (.int n4), some (.int n5), some (.int n6), some (.int n7), some (.int (n8 + (1 : Int32))), none, none]) i_M_unrest_109 rfl (of_decide_eq_true rfl) (by decide) rfl ?_
              refine e_goto (t := 37) i_M_unrest_112 (by decide) ?_
              exact rfl
            · refine e_iconst (v := (-1)) i_M_unrest_107 (by decide) ?_
              exact e_iretI i_M_unrest_108 rfl
        · refine e_iload i_M_unrest_72 rfl ?_
          refine e_goto (t := 101) i_M_unrest_74 (by decide) ?_
          refine e_callI (as := [.ref w, .int n1, .int n8, .int n4]) (st' := []) i_M_unrest_101 lm_162 (Or.inr (Or.inl ⟨rfl, rfl⟩)) w_M_isTaken rfl rfl rfl (Nat.le_of_ble_eq_true rfl) (Nat.le_of_ble_eq_true rfl) (m_rlt (q_M_isTaken _) (Nat.lt_of_lt_of_le (by decide) hρ)) rfl (fun v101 s101 => ?_)
          refine e_ifne (t := 109) i_M_unrest_104 (by decide) ?_ ?_
          · refine e_iinc (w := 1) (L' := [some (.ref w), some (.int n1), some (.int n2), some (.int n3), some (.int n4), some (.int n5), some (.int n6), some (.int n7), some (.int (n8 + (1 : Int32))), none, none]) i_M_unrest_109 rfl (of_decide_eq_true rfl) (by decide) rfl ?_
            refine e_goto (t := 37) i_M_unrest_112 (by decide) ?_
            exact rfl
          · refine e_iconst (v := (-1)) i_M_unrest_107 (by decide) ?_
            exact e_iretI i_M_unrest_108 rfl
      · refine e_iload_n i_M_unrest_62 rfl ?_
        refine e_goto (t := 101) i_M_unrest_63 (by decide) ?_
        refine e_callI (as := [.ref w, .int n1, .int n8, .int n3]) (st' := []) i_M_unrest_101 lm_162 (Or.inr (Or.inl ⟨rfl, rfl⟩)) w_M_isTaken rfl rfl rfl (Nat.le_of_ble_eq_true rfl) (Nat.le_of_ble_eq_true rfl) (m_rlt (q_M_isTaken _) (Nat.lt_of_lt_of_le (by decide) hρ)) rfl (fun v101 s101 => ?_)
        refine e_ifne (t := 109) i_M_unrest_104 (by decide) ?_ ?_
        · refine e_iinc (w := 1) (L' := [some (.ref w), some (.int n1), some (.int n2), some (.int n3), some (.int n4), some (.int n5), some (.int n6), some (.int n7), some (.int (n8 + (1 : Int32))), none, none]) i_M_unrest_109 rfl (of_decide_eq_true rfl) (by decide) rfl ?_
          refine e_goto (t := 37) i_M_unrest_112 (by decide) ?_
          exact rfl
        · refine e_iconst (v := (-1)) i_M_unrest_107 (by decide) ?_
          exact e_iretI i_M_unrest_108 rfl
    · refine e_iload_n i_M_unrest_52 rfl ?_
      refine e_goto (t := 101) i_M_unrest_53 (by decide) ?_
      refine e_callI (as := [.ref w, .int n1, .int n8, .int n2]) (st' := []) i_M_unrest_101 lm_162 (Or.inr (Or.inl ⟨rfl, rfl⟩)) w_M_isTaken rfl rfl rfl (Nat.le_of_ble_eq_true rfl) (Nat.le_of_ble_eq_true rfl) (m_rlt (q_M_isTaken _) (Nat.lt_of_lt_of_le (by decide) hρ)) rfl (fun v101 s101 => ?_)
      refine e_ifne (t := 109) i_M_unrest_104 (by decide) ?_ ?_
      · refine e_iinc (w := 1) (L' := [some (.ref w), some (.int n1), some (.int n2), some (.int n3), some (.int n4), some (.int n5), some (.int n6), some (.int n7), some (.int (n8 + (1 : Int32))), none, none]) i_M_unrest_109 rfl (of_decide_eq_true rfl) (by decide) rfl ?_
        refine e_goto (t := 37) i_M_unrest_112 (by decide) ?_
        exact rfl
      · refine e_iconst (v := (-1)) i_M_unrest_107 (by decide) ?_
        exact e_iretI i_M_unrest_108 rfl
set_option maxRecDepth 20000 in
set_option maxHeartbeats 1000000 in
theorem E_M_unrest_121 (x : m_X) (ρ : Nat) (hρ : 5 ≤ ρ) (s : m_H) (w : Nat) (n1 : Int32) (n2 : Int32) (n3 : Int32) (n4 : Int32) (n5 : Int32) (n6 : Int32) (n7 : Int32) (n8 : Int32) (n9 : Int32) (d10 : Option Value) (hd10 : m_nl d10 = true) : m_D x ρ k_M_unrest 121 [some (.ref w), some (.int n1), some (.int n2), some (.int n3), some (.int n4), some (.int n5), some (.int n6), some (.int n7), some (.int n8), some (.int n9), d10] [] s = if n1 ≤ n9 then (some (some (.int n8), s)) else m_D x ρ k_M_unrest 130 [some (.ref w), some (.int n1), some (.int n2), some (.int n3), some (.int n4), some (.int n5), some (.int n6), some (.int n7), some (.int n8), some (.int n9), some (.int n1)] [] s := by
  refine e_iload i_M_unrest_121 rfl ?_
  refine e_iload_n i_M_unrest_123 rfl ?_
  refine e_icmpge (t := 197) i_M_unrest_124 (by decide) ?_ ?_
  · refine e_iload i_M_unrest_197 rfl ?_
    exact e_iretI i_M_unrest_199 rfl
  · refine e_iload_n i_M_unrest_127 rfl ?_
    refine e_istore (L' := [some (.ref w), some (.int n1), some (.int n2), some (.int n3), some (.int n4), some (.int n5), some (.int n6), some (.int n7), some (.int n8), some (.int n9), some (.int n1)]) i_M_unrest_128 (of_decide_eq_true rfl) rfl ?_
    exact rfl
set_option maxRecDepth 20000 in
set_option maxHeartbeats 1000000 in
theorem E_M_unrest_130 (x : m_X) (ρ : Nat) (hρ : 5 ≤ ρ) (s : m_H) (w : Nat) (n1 : Int32) (n2 : Int32) (n3 : Int32) (n4 : Int32) (n5 : Int32) (n6 : Int32) (n7 : Int32) (n8 : Int32) (n9 : Int32) (n10 : Int32)  : m_D x ρ k_M_unrest 130 [some (.ref w), some (.int n1), some (.int n2), some (.int n3), some (.int n4), some (.int n5), some (.int n6), some (.int n7), some (.int n8), some (.int n9), some (.int n10)] [] s = (m_fR s 11 0 w).bind fun v133 => (m_ia x s v133 0).bind fun v137 => if v137 ≤ n10 then (m_D x ρ k_M_unrest 121 [some (.ref w), some (.int n1), some (.int n2), some (.int n3), some (.int n4), some (.int n5), some (.int n6), some (.int n7), some (.int n8), some (.int (n9 + (1 : Int32))), some (.int n10)] [] s) else (m_fR s 11 29 w).bind fun v144 => (m_ia x s v144 n9).bind fun v149 => if v149 = n10 then (m_D x ρ k_M_unrest 130 [some (.ref w), some (.int n1), some (.int n2), some (.int n3), some (.int n4), some (.int n5), some (.int n6), some (.int n7), some (.int (n8 + (0 : Int32))), some (.int n9), some (.int (n10 + (1 : Int32)))] [] s) else m_bI (m_M x k_M_wouldGo [.ref w, .int n9, .int n10] s) fun v160 s160 => if v160 = 0 then (m_D x ρ k_M_unrest 130 [some (.ref w), some (.int n1), some (.int n2), some (.int n3), some (.int n4), some (.int n5), some (.int n6), some (.int n7), some (.int (n8 + (0 : Int32))), some (.int n9), some (.int (n10 + (1 : Int32)))] [] s160) else m_bI (m_M x k_M_wouldGo [.ref w, .int n10, .int n9] s160) fun v171 s171 => if v171 = 0 then (m_D x ρ k_M_unrest 130 [some (.ref w), some (.int n1), some (.int n2), some (.int n3), some (.int n4), some (.int n5), some (.int n6), some (.int n7), some (.int (n8 + (0 : Int32))), some (.int n9), some (.int (n10 + (1 : Int32)))] [] s171) else m_D x ρ k_M_unrest 130 [some (.ref w), some (.int n1), some (.int n2), some (.int n3), some (.int n4), some (.int n5), some (.int n6), some (.int n7), some (.int (n8 + (1 : Int32))), some (.int n9), some (.int (n10 + (1 : Int32)))] [] s171 := by
  refine e_iload i_M_unrest_130 rfl ?_
  refine e_aload_n i_M_unrest_132 rfl ?_
  refine e_getR i_M_unrest_133 lf_0 (by decide) ft_11_0 (fun v133 => ?_)
  refine e_iconst (v := 0) i_M_unrest_136 (by decide) ?_
  refine e_iald i_M_unrest_137 (fun v137 => ?_)
  refine e_icmpge (t := 191) i_M_unrest_138 (by decide) ?_ ?_
  · refine e_iinc (w := 1) (L' := [some (.ref w), some (.int n1), some (.int n2), some (.int n3), some (.int n4), some (.int n5), some (.int n6), some (.int n7), some (.int n8), some (.int (n9 + (1 : Int32))), some (.int n10)]) i_M_unrest_191 rfl (of_decide_eq_true rfl) (by decide) rfl ?_
    refine e_goto (t := 121) i_M_unrest_194 (by decide) ?_
    exact rfl
  · refine e_iload i_M_unrest_141 rfl ?_
    refine e_aload_n i_M_unrest_143 rfl ?_
    refine e_getR i_M_unrest_144 lf_59 (by decide) ft_11_29 (fun v144 => ?_)
    refine e_iload i_M_unrest_147 rfl ?_
    refine e_iald i_M_unrest_149 (fun v149 => ?_)
    refine e_iload i_M_unrest_150 rfl ?_
    refine e_icmpeq (t := 181) i_M_unrest_152 (by decide) ?_ ?_
    · refine e_iconst (v := 0) i_M_unrest_181 (by decide) ?_
      refine e_iadd i_M_unrest_182 ?_
      refine e_istore (L' := [some (.ref w), some (.int n1), some (.int n2), some (.int n3), some (.int n4), some (.int n5), some (.int n6), some (.int n7), some (.int (n8 + (0 : Int32))), some (.int n9), some (.int n10)]) i_M_unrest_183 (of_decide_eq_true rfl) rfl ?_
      refine e_iinc (w := 1) (L' := [some (.ref w), some (.int n1), some (.int n2), some (.int n3), some (.int n4), some (.int n5), some (.int n6), some (.int n7), some (.int (n8 + (0 : Int32))), some (.int n9), some (.int (n10 + (1 : Int32)))]) i_M_unrest_185 rfl (of_decide_eq_true rfl) (by decide) rfl ?_
      refine e_goto (t := 130) i_M_unrest_188 (by decide) ?_
      exact rfl
    · refine e_aload_n i_M_unrest_155 rfl ?_
      refine e_iload i_M_unrest_156 rfl ?_
      refine e_iload i_M_unrest_158 rfl ?_
      refine e_callI (as := [.ref w, .int n9, .int n10]) (st' := [.int n8]) i_M_unrest_160 lm_163 (Or.inr (Or.inl ⟨rfl, rfl⟩)) w_M_wouldGo rfl rfl rfl (Nat.le_of_ble_eq_true rfl) (Nat.le_of_ble_eq_true rfl) (m_rlt (q_M_wouldGo _) (Nat.lt_of_lt_of_le (by decide) hρ)) rfl (fun v160 s160 => ?_)
      refine e_ifeq (t := 181) i_M_unrest_163 (by decide) ?_ ?_
      · refine e_iconst (v := 0) i_M_unrest_181 (by decide) ?_
        refine e_iadd i_M_unrest_182 ?_
        refine e_istore (L' := [some (.ref w), some (.int n1), some (.int n2), some (.int n3), some (.int n4), some (.int n5), some (.int n6), some (.int n7), some (.int (n8 + (0 : Int32))), some (.int n9), some (.int n10)]) i_M_unrest_183 (of_decide_eq_true rfl) rfl ?_
        refine e_iinc (w := 1) (L' := [some (.ref w), some (.int n1), some (.int n2), some (.int n3), some (.int n4), some (.int n5), some (.int n6), some (.int n7), some (.int (n8 + (0 : Int32))), some (.int n9), some (.int (n10 + (1 : Int32)))]) i_M_unrest_185 rfl (of_decide_eq_true rfl) (by decide) rfl ?_
        refine e_goto (t := 130) i_M_unrest_188 (by decide) ?_
        exact rfl
      · refine e_aload_n i_M_unrest_166 rfl ?_
        refine e_iload i_M_unrest_167 rfl ?_
        refine e_iload i_M_unrest_169 rfl ?_
        refine e_callI (as := [.ref w, .int n10, .int n9]) (st' := [.int n8]) i_M_unrest_171 lm_163 (Or.inr (Or.inl ⟨rfl, rfl⟩)) w_M_wouldGo rfl rfl rfl (Nat.le_of_ble_eq_true rfl) (Nat.le_of_ble_eq_true rfl) (m_rlt (q_M_wouldGo _) (Nat.lt_of_lt_of_le (by decide) hρ)) rfl (fun v171 s171 => ?_)
        refine e_ifeq (t := 181) i_M_unrest_174 (by decide) ?_ ?_
        · refine e_iconst (v := 0) i_M_unrest_181 (by decide) ?_
          refine e_iadd i_M_unrest_182 ?_
          refine e_istore (L' := [some (.ref w), some (.int n1), some (.int n2), some (.int n3), some (.int n4), some (.int n5), some (.int n6), some (.int n7), some (.int (n8 + (0 : Int32))), some (.int n9), some (.int n10)]) i_M_unrest_183 (of_decide_eq_true rfl) rfl ?_
          refine e_iinc (w := 1) (L' := [some (.ref w), some (.int n1), some (.int n2), some (.int n3), some (.int n4), some (.int n5), some (.int n6), some (.int n7), some (.int (n8 + (0 : Int32))), some (.int n9), some (.int (n10 + (1 : Int32)))]) i_M_unrest_185 rfl (of_decide_eq_true rfl) (by decide) rfl ?_
          refine e_goto (t := 130) i_M_unrest_188 (by decide) ?_
          exact rfl
        · refine e_iconst (v := 1) i_M_unrest_177 (by decide) ?_
          refine e_goto (t := 182) i_M_unrest_178 (by decide) ?_
          refine e_iadd i_M_unrest_182 ?_
          refine e_istore (L' := [some (.ref w), some (.int n1), some (.int n2), some (.int n3), some (.int n4), some (.int n5), some (.int n6), some (.int n7), some (.int (n8 + (1 : Int32))), some (.int n9), some (.int n10)]) i_M_unrest_183 (of_decide_eq_true rfl) rfl ?_
          refine e_iinc (w := 1) (L' := [some (.ref w), some (.int n1), some (.int n2), some (.int n3), some (.int n4), some (.int n5), some (.int n6), some (.int n7), some (.int (n8 + (1 : Int32))), some (.int n9), some (.int (n10 + (1 : Int32)))]) i_M_unrest_185 rfl (of_decide_eq_true rfl) (by decide) rfl ?_
          refine e_goto (t := 130) i_M_unrest_188 (by decide) ?_
          exact rfl
theorem i_M_wouldGo_0 : m_at k_M_wouldGo 0 = some (.aload_n 0, 1, 0) := m_at_of r_M_wouldGo (by decide +kernel)
theorem i_M_wouldGo_1 : m_at k_M_wouldGo 1 = some (.getfield 62, 3, 59) := m_at_of r_M_wouldGo (by decide +kernel)
theorem i_M_wouldGo_4 : m_at k_M_wouldGo 4 = some (.iload_n 1, 1, 0) := m_at_of r_M_wouldGo (by decide +kernel)
theorem i_M_wouldGo_5 : m_at k_M_wouldGo 5 = some (.iaload, 1, 0) := m_at_of r_M_wouldGo (by decide +kernel)
theorem i_M_wouldGo_6 : m_at k_M_wouldGo 6 = some (.iconst (-1), 1, 0) := m_at_of r_M_wouldGo (by decide +kernel)
theorem i_M_wouldGo_7 : m_at k_M_wouldGo 7 = some (.if_icmp .eq (18), 3, 0) := m_at_of r_M_wouldGo (by decide +kernel)
theorem i_M_wouldGo_10 : m_at k_M_wouldGo 10 = some (.aload_n 0, 1, 0) := m_at_of r_M_wouldGo (by decide +kernel)
theorem i_M_wouldGo_11 : m_at k_M_wouldGo 11 = some (.iload_n 1, 1, 0) := m_at_of r_M_wouldGo (by decide +kernel)
theorem i_M_wouldGo_12 : m_at k_M_wouldGo 12 = some (.iload_n 2, 1, 0) := m_at_of r_M_wouldGo (by decide +kernel)
theorem i_M_wouldGo_13 : m_at k_M_wouldGo 13 = some (.aload_n 0, 1, 0) := m_at_of r_M_wouldGo (by decide +kernel)
theorem i_M_wouldGo_14 : m_at k_M_wouldGo 14 = some (.getfield 62, 3, 59) := m_at_of r_M_wouldGo (by decide +kernel)
theorem i_M_wouldGo_17 : m_at k_M_wouldGo 17 = some (.iload_n 1, 1, 0) := m_at_of r_M_wouldGo (by decide +kernel)
theorem i_M_wouldGo_18 : m_at k_M_wouldGo 18 = some (.iaload, 1, 0) := m_at_of r_M_wouldGo (by decide +kernel)
theorem i_M_wouldGo_19 : m_at k_M_wouldGo 19 = some (.invokevirtual 454, 3, 164) := m_at_of r_M_wouldGo (by decide +kernel)
theorem i_M_wouldGo_22 : m_at k_M_wouldGo 22 = some (.ifCond .eq (7), 3, 0) := m_at_of r_M_wouldGo (by decide +kernel)
theorem i_M_wouldGo_25 : m_at k_M_wouldGo 25 = some (.iconst 1, 1, 0) := m_at_of r_M_wouldGo (by decide +kernel)
theorem i_M_wouldGo_26 : m_at k_M_wouldGo 26 = some (.goto (4), 3, 0) := m_at_of r_M_wouldGo (by decide +kernel)
theorem i_M_wouldGo_29 : m_at k_M_wouldGo 29 = some (.iconst 0, 1, 0) := m_at_of r_M_wouldGo (by decide +kernel)
theorem i_M_wouldGo_30 : m_at k_M_wouldGo 30 = some (.ireturn, 1, 0) := m_at_of r_M_wouldGo (by decide +kernel)
set_option maxRecDepth 20000 in
set_option maxHeartbeats 1000000 in
theorem E_M_wouldGo (x : m_X) (s : m_H) (w : Nat) (n1 : Int32) (n2 : Int32) : m_M x k_M_wouldGo [.ref w, .int n1, .int n2] s = if m_isO s w 11 = true then ((m_fR s 11 29 w).bind fun v1 => (m_ia x s v1 n1).bind fun v5 => if v5 = (-1) then (some (some (.int 1), s)) else (m_fR s 11 29 w).bind fun v14 => (m_ia x s v14 n1).bind fun v18 => m_bI (m_M x k_M_isRather [.ref w, .int n1, .int n2, .int v18] s) fun v19 s19 => if v19 = 0 then (some (some (.int 0), s19)) else some (some (.int 1), s19)) else none := by
  refine e_M1 (L0 := [some (.ref w), some (.int n1), some (.int n2)]) rfl (by decide +kernel) rfl (q_M_wouldGo _) rfl ?_
  refine e_aload_n i_M_wouldGo_0 rfl ?_
  refine e_getR i_M_wouldGo_1 lf_59 (by decide) ft_11_29 (fun v1 => ?_)
  refine e_iload_n i_M_wouldGo_4 rfl ?_
  refine e_iald i_M_wouldGo_5 (fun v5 => ?_)
  refine e_iconst (v := (-1)) i_M_wouldGo_6 (by decide) ?_
  refine e_icmpeq (t := 25) i_M_wouldGo_7 (by decide) ?_ ?_
  · refine e_iconst (v := 1) i_M_wouldGo_25 (by decide) ?_
    refine e_goto (t := 30) i_M_wouldGo_26 (by decide) ?_
    exact e_iretZ i_M_wouldGo_30 rfl (by decide)
  · refine e_aload_n i_M_wouldGo_10 rfl ?_
    refine e_iload_n i_M_wouldGo_11 rfl ?_
    refine e_iload_n i_M_wouldGo_12 rfl ?_
    refine e_aload_n i_M_wouldGo_13 rfl ?_
    refine e_getR i_M_wouldGo_14 lf_59 (by decide) ft_11_29 (fun v14 => ?_)
    refine e_iload_n i_M_wouldGo_17 rfl ?_
    refine e_iald i_M_wouldGo_18 (fun v18 => ?_)
    refine e_callI (as := [.ref w, .int n1, .int n2, .int v18]) (st' := []) i_M_wouldGo_19 lm_164 (Or.inr (Or.inl ⟨rfl, rfl⟩)) w_M_isRather rfl rfl rfl (Nat.le_of_ble_eq_true rfl) (Nat.le_of_ble_eq_true rfl) (m_rlt (q_M_isRather _) (by decide)) rfl (fun v19 s19 => ?_)
    refine e_ifeq (t := 29) i_M_wouldGo_22 (by decide) ?_ ?_
    · refine e_iconst (v := 0) i_M_wouldGo_29 (by decide) ?_
      exact e_iretZ i_M_wouldGo_30 rfl (by decide)
    · refine e_iconst (v := 1) i_M_wouldGo_25 (by decide) ?_
      refine e_goto (t := 30) i_M_wouldGo_26 (by decide) ?_
      exact e_iretZ i_M_wouldGo_30 rfl (by decide)
theorem i_M_isTaken_0 : m_at k_M_isTaken 0 = some (.iload_n 3, 1, 0) := m_at_of r_M_isTaken (by decide +kernel)
theorem i_M_isTaken_1 : m_at k_M_isTaken 1 = some (.iconst (-1), 1, 0) := m_at_of r_M_isTaken (by decide +kernel)
theorem i_M_isTaken_2 : m_at k_M_isTaken 2 = some (.if_icmp .eq (31), 3, 0) := m_at_of r_M_isTaken (by decide +kernel)
theorem i_M_isTaken_5 : m_at k_M_isTaken 5 = some (.iload_n 3, 1, 0) := m_at_of r_M_isTaken (by decide +kernel)
theorem i_M_isTaken_6 : m_at k_M_isTaken 6 = some (.iload_n 1, 1, 0) := m_at_of r_M_isTaken (by decide +kernel)
theorem i_M_isTaken_7 : m_at k_M_isTaken 7 = some (.aload_n 0, 1, 0) := m_at_of r_M_isTaken (by decide +kernel)
theorem i_M_isTaken_8 : m_at k_M_isTaken 8 = some (.getfield 7, 3, 0) := m_at_of r_M_isTaken (by decide +kernel)
theorem i_M_isTaken_11 : m_at k_M_isTaken 11 = some (.iconst 0, 1, 0) := m_at_of r_M_isTaken (by decide +kernel)
theorem i_M_isTaken_12 : m_at k_M_isTaken 12 = some (.iaload, 1, 0) := m_at_of r_M_isTaken (by decide +kernel)
theorem i_M_isTaken_13 : m_at k_M_isTaken 13 = some (.iconst 1, 1, 0) := m_at_of r_M_isTaken (by decide +kernel)
theorem i_M_isTaken_14 : m_at k_M_isTaken 14 = some (.isub, 1, 0) := m_at_of r_M_isTaken (by decide +kernel)
theorem i_M_isTaken_15 : m_at k_M_isTaken 15 = some (.invokestatic 81, 3, 96) := m_at_of r_M_isTaken (by decide +kernel)
theorem i_M_isTaken_18 : m_at k_M_isTaken 18 = some (.ifCond .eq (13), 3, 0) := m_at_of r_M_isTaken (by decide +kernel)
theorem i_M_isTaken_21 : m_at k_M_isTaken 21 = some (.aload_n 0, 1, 0) := m_at_of r_M_isTaken (by decide +kernel)
theorem i_M_isTaken_22 : m_at k_M_isTaken 22 = some (.getfield 62, 3, 59) := m_at_of r_M_isTaken (by decide +kernel)
theorem i_M_isTaken_25 : m_at k_M_isTaken 25 = some (.iload_n 3, 1, 0) := m_at_of r_M_isTaken (by decide +kernel)
theorem i_M_isTaken_26 : m_at k_M_isTaken 26 = some (.iaload, 1, 0) := m_at_of r_M_isTaken (by decide +kernel)
theorem i_M_isTaken_27 : m_at k_M_isTaken 27 = some (.iconst (-1), 1, 0) := m_at_of r_M_isTaken (by decide +kernel)
theorem i_M_isTaken_28 : m_at k_M_isTaken 28 = some (.if_icmp .eq (5), 3, 0) := m_at_of r_M_isTaken (by decide +kernel)
theorem i_M_isTaken_31 : m_at k_M_isTaken 31 = some (.iconst 0, 1, 0) := m_at_of r_M_isTaken (by decide +kernel)
theorem i_M_isTaken_32 : m_at k_M_isTaken 32 = some (.ireturn, 1, 0) := m_at_of r_M_isTaken (by decide +kernel)
theorem i_M_isTaken_33 : m_at k_M_isTaken 33 = some (.aload_n 0, 1, 0) := m_at_of r_M_isTaken (by decide +kernel)
theorem i_M_isTaken_34 : m_at k_M_isTaken 34 = some (.getfield 62, 3, 59) := m_at_of r_M_isTaken (by decide +kernel)
theorem i_M_isTaken_37 : m_at k_M_isTaken 37 = some (.iload_n 2, 1, 0) := m_at_of r_M_isTaken (by decide +kernel)
theorem i_M_isTaken_38 : m_at k_M_isTaken 38 = some (.iload_n 3, 1, 0) := m_at_of r_M_isTaken (by decide +kernel)
theorem i_M_isTaken_39 : m_at k_M_isTaken 39 = some (.iastore, 1, 0) := m_at_of r_M_isTaken (by decide +kernel)
theorem i_M_isTaken_40 : m_at k_M_isTaken 40 = some (.iload_n 3, 1, 0) := m_at_of r_M_isTaken (by decide +kernel)
theorem i_M_isTaken_41 : m_at k_M_isTaken 41 = some (.iconst (-1), 1, 0) := m_at_of r_M_isTaken (by decide +kernel)
theorem i_M_isTaken_42 : m_at k_M_isTaken 42 = some (.if_icmp .eq (10), 3, 0) := m_at_of r_M_isTaken (by decide +kernel)
theorem i_M_isTaken_45 : m_at k_M_isTaken 45 = some (.aload_n 0, 1, 0) := m_at_of r_M_isTaken (by decide +kernel)
theorem i_M_isTaken_46 : m_at k_M_isTaken 46 = some (.getfield 62, 3, 59) := m_at_of r_M_isTaken (by decide +kernel)
theorem i_M_isTaken_49 : m_at k_M_isTaken 49 = some (.iload_n 3, 1, 0) := m_at_of r_M_isTaken (by decide +kernel)
theorem i_M_isTaken_50 : m_at k_M_isTaken 50 = some (.iload_n 2, 1, 0) := m_at_of r_M_isTaken (by decide +kernel)
theorem i_M_isTaken_51 : m_at k_M_isTaken 51 = some (.iastore, 1, 0) := m_at_of r_M_isTaken (by decide +kernel)
theorem i_M_isTaken_52 : m_at k_M_isTaken 52 = some (.iconst 1, 1, 0) := m_at_of r_M_isTaken (by decide +kernel)
theorem i_M_isTaken_53 : m_at k_M_isTaken 53 = some (.ireturn, 1, 0) := m_at_of r_M_isTaken (by decide +kernel)
set_option maxRecDepth 20000 in
set_option maxHeartbeats 1000000 in
theorem E_M_isTaken (x : m_X) (s : m_H) (w : Nat) (n1 : Int32) (n2 : Int32) (n3 : Int32) : m_M x k_M_isTaken [.ref w, .int n1, .int n2, .int n3] s = if m_isO s w 11 = true then (if n3 = (-1) then (m_D x 2 k_M_isTaken 33 [some (.ref w), some (.int n1), some (.int n2), some (.int n3)] [] s) else (m_fR s 11 0 w).bind fun v8 => (m_ia x s v8 0).bind fun v12 => m_bI (m_M x k_M_isIn [.int n3, .int n1, .int (v12 - (1 : Int32))] s) fun v15 s15 => if v15 = 0 then (some (some (.int 0), s15)) else (m_fR s15 11 29 w).bind fun v22 => (m_ia x s15 v22 n3).bind fun v26 => if v26 = (-1) then (m_D x 2 k_M_isTaken 33 [some (.ref w), some (.int n1), some (.int n2), some (.int n3)] [] s15) else some (some (.int 0), s15)) else none := by
  refine e_M1 (L0 := [some (.ref w), some (.int n1), some (.int n2), some (.int n3)]) rfl (by decide +kernel) rfl (q_M_isTaken _) rfl ?_
  refine e_iload_n i_M_isTaken_0 rfl ?_
  refine e_iconst (v := (-1)) i_M_isTaken_1 (by decide) ?_
  refine e_icmpeq (t := 33) i_M_isTaken_2 (by decide) ?_ ?_
  · exact rfl
  · refine e_iload_n i_M_isTaken_5 rfl ?_
    refine e_iload_n i_M_isTaken_6 rfl ?_
    refine e_aload_n i_M_isTaken_7 rfl ?_
    refine e_getR i_M_isTaken_8 lf_0 (by decide) ft_11_0 (fun v8 => ?_)
    refine e_iconst (v := 0) i_M_isTaken_11 (by decide) ?_
    refine e_iald i_M_isTaken_12 (fun v12 => ?_)
    refine e_iconst (v := 1) i_M_isTaken_13 (by decide) ?_
    refine e_isub i_M_isTaken_14 ?_
    refine e_callI (as := [.int n3, .int n1, .int (v12 - (1 : Int32))]) (st' := []) i_M_isTaken_15 lm_96 (Or.inl ⟨rfl, rfl⟩) w_M_isIn rfl rfl rfl (Nat.le_of_ble_eq_true rfl) (Nat.le_of_ble_eq_true rfl) (m_rlt (q_M_isIn _) (by decide)) rfl (fun v15 s15 => ?_)
    refine e_ifeq (t := 31) i_M_isTaken_18 (by decide) ?_ ?_
    · refine e_iconst (v := 0) i_M_isTaken_31 (by decide) ?_
      exact e_iretZ i_M_isTaken_32 rfl (by decide)
    · refine e_aload_n i_M_isTaken_21 rfl ?_
      refine e_getR i_M_isTaken_22 lf_59 (by decide) ft_11_29 (fun v22 => ?_)
      refine e_iload_n i_M_isTaken_25 rfl ?_
      refine e_iald i_M_isTaken_26 (fun v26 => ?_)
      refine e_iconst (v := (-1)) i_M_isTaken_27 (by decide) ?_
      refine e_icmpeq (t := 33) i_M_isTaken_28 (by decide) ?_ ?_
      · exact rfl
      · refine e_iconst (v := 0) i_M_isTaken_31 (by decide) ?_
        exact e_iretZ i_M_isTaken_32 rfl (by decide)
set_option maxRecDepth 20000 in
set_option maxHeartbeats 1000000 in
theorem E_M_isTaken_33 (x : m_X) (ρ : Nat) (hρ : 2 ≤ ρ) (s : m_H) (w : Nat) (n1 : Int32) (n2 : Int32) (n3 : Int32)  : m_D x ρ k_M_isTaken 33 [some (.ref w), some (.int n1), some (.int n2), some (.int n3)] [] s = (m_fR s 11 29 w).bind fun v34 => (m_is s v34 n2 n3).bind fun s39 => if n3 = (-1) then (some (some (.int 1), s39)) else (m_fR s39 11 29 w).bind fun v46 => (m_is s39 v46 n3 n2).bind fun s51 => some (some (.int 1), s51) := by
  refine e_aload_n i_M_isTaken_33 rfl ?_
  refine e_getR i_M_isTaken_34 lf_59 (by decide) ft_11_29 (fun v34 => ?_)
  refine e_iload_n i_M_isTaken_37 rfl ?_
  refine e_iload_n i_M_isTaken_38 rfl ?_
  refine e_iast i_M_isTaken_39 (fun s39 => ?_)
  refine e_iload_n i_M_isTaken_40 rfl ?_
  refine e_iconst (v := (-1)) i_M_isTaken_41 (by decide) ?_
  refine e_icmpeq (t := 52) i_M_isTaken_42 (by decide) ?_ ?_
  · refine e_iconst (v := 1) i_M_isTaken_52 (by decide) ?_
    exact e_iretZ i_M_isTaken_53 rfl (by decide)
  · refine e_aload_n i_M_isTaken_45 rfl ?_
    refine e_getR i_M_isTaken_46 lf_59 (by decide) ft_11_29 (fun v46 => ?_)
    refine e_iload_n i_M_isTaken_49 rfl ?_
    refine e_iload_n i_M_isTaken_50 rfl ?_
    refine e_iast i_M_isTaken_51 (fun s51 => ?_)
    refine e_iconst (v := 1) i_M_isTaken_52 (by decide) ?_
    exact e_iretZ i_M_isTaken_53 rfl (by decide)
theorem i_M_weds_0 : m_at k_M_weds 0 = some (.aload_n 0, 1, 0) := m_at_of r_M_weds (by decide +kernel)
theorem i_M_weds_1 : m_at k_M_weds 1 = some (.iload_n 1, 1, 0) := m_at_of r_M_weds (by decide +kernel)
theorem i_M_weds_2 : m_at k_M_weds 2 = some (.invokevirtual 463, 3, 161) := m_at_of r_M_weds (by decide +kernel)
theorem i_M_weds_5 : m_at k_M_weds 5 = some (.ifCond .eq (11), 3, 0) := m_at_of r_M_weds (by decide +kernel)
theorem i_M_weds_8 : m_at k_M_weds 8 = some (.aload_n 0, 1, 0) := m_at_of r_M_weds (by decide +kernel)
theorem i_M_weds_9 : m_at k_M_weds 9 = some (.iload_n 2, 1, 0) := m_at_of r_M_weds (by decide +kernel)
theorem i_M_weds_10 : m_at k_M_weds 10 = some (.invokevirtual 352, 3, 110) := m_at_of r_M_weds (by decide +kernel)
theorem i_M_weds_13 : m_at k_M_weds 13 = some (.ifCond .ne (5), 3, 0) := m_at_of r_M_weds (by decide +kernel)
theorem i_M_weds_16 : m_at k_M_weds 16 = some (.iconst (-1), 1, 0) := m_at_of r_M_weds (by decide +kernel)
theorem i_M_weds_17 : m_at k_M_weds 17 = some (.ireturn, 1, 0) := m_at_of r_M_weds (by decide +kernel)
theorem i_M_weds_18 : m_at k_M_weds 18 = some (.aload_n 0, 1, 0) := m_at_of r_M_weds (by decide +kernel)
theorem i_M_weds_19 : m_at k_M_weds 19 = some (.iload_n 1, 1, 0) := m_at_of r_M_weds (by decide +kernel)
theorem i_M_weds_20 : m_at k_M_weds 20 = some (.invokevirtual 466, 3, 172) := m_at_of r_M_weds (by decide +kernel)
theorem i_M_weds_23 : m_at k_M_weds 23 = some (.aload_n 0, 1, 0) := m_at_of r_M_weds (by decide +kernel)
theorem i_M_weds_24 : m_at k_M_weds 24 = some (.getfield 62, 3, 59) := m_at_of r_M_weds (by decide +kernel)
theorem i_M_weds_27 : m_at k_M_weds 27 = some (.iload_n 2, 1, 0) := m_at_of r_M_weds (by decide +kernel)
theorem i_M_weds_28 : m_at k_M_weds 28 = some (.iaload, 1, 0) := m_at_of r_M_weds (by decide +kernel)
theorem i_M_weds_29 : m_at k_M_weds 29 = some (.ireturn, 1, 0) := m_at_of r_M_weds (by decide +kernel)
set_option maxRecDepth 20000 in
set_option maxHeartbeats 1000000 in
theorem E_M_weds (x : m_X) (s : m_H) (w : Nat) (n1 : Int32) (n2 : Int32) : m_M x k_M_weds [.ref w, .int n1, .int n2] s = if m_isO s w 11 = true then (m_bI (m_M x k_M_canWed [.ref w, .int n1] s) fun v2 s2 => if v2 = 0 then (some (some (.int (-1)), s2)) else m_bI (m_M x k_M_isOne [.ref w, .int n2] s2) fun v10 s10 => if v10 = 0 then (some (some (.int (-1)), s10)) else m_bV (m_M x k_M_wed [.ref w, .int n1] s10) fun s20 => (m_fR s20 11 29 w).bind fun v24 => (m_ia x s20 v24 n2).bind fun v28 => some (some (.int v28), s20)) else none := by
  refine e_M1 (L0 := [some (.ref w), some (.int n1), some (.int n2)]) rfl (by decide +kernel) rfl (q_M_weds _) rfl ?_
  refine e_aload_n i_M_weds_0 rfl ?_
  refine e_iload_n i_M_weds_1 rfl ?_
  refine e_callI (as := [.ref w, .int n1]) (st' := []) i_M_weds_2 lm_161 (Or.inr (Or.inl ⟨rfl, rfl⟩)) w_M_canWed rfl rfl rfl (Nat.le_of_ble_eq_true rfl) (Nat.le_of_ble_eq_true rfl) (m_rlt (q_M_canWed _) (by decide)) rfl (fun v2 s2 => ?_)
  refine e_ifeq (t := 16) i_M_weds_5 (by decide) ?_ ?_
  · refine e_iconst (v := (-1)) i_M_weds_16 (by decide) ?_
    exact e_iretI i_M_weds_17 rfl
  · refine e_aload_n i_M_weds_8 rfl ?_
    refine e_iload_n i_M_weds_9 rfl ?_
    refine e_callI (as := [.ref w, .int n2]) (st' := []) i_M_weds_10 lm_110 (Or.inr (Or.inl ⟨rfl, rfl⟩)) w_M_isOne rfl rfl rfl (Nat.le_of_ble_eq_true rfl) (Nat.le_of_ble_eq_true rfl) (m_rlt (q_M_isOne _) (by decide)) rfl (fun v10 s10 => ?_)
    refine e_ifne (t := 18) i_M_weds_13 (by decide) ?_ ?_
    · refine e_aload_n i_M_weds_18 rfl ?_
      refine e_iload_n i_M_weds_19 rfl ?_
      refine e_callV (as := [.ref w, .int n1]) (st' := []) i_M_weds_20 lm_172 (Or.inr (Or.inl ⟨rfl, rfl⟩)) w_M_wed rfl rfl rfl (Nat.le_of_ble_eq_true rfl) (Nat.le_of_ble_eq_true rfl) (m_rlt (q_M_wed _) (by decide)) rfl (fun s20 => ?_)
      refine e_aload_n i_M_weds_23 rfl ?_
      refine e_getR i_M_weds_24 lf_59 (by decide) ft_11_29 (fun v24 => ?_)
      refine e_iload_n i_M_weds_27 rfl ?_
      refine e_iald i_M_weds_28 (fun v28 => ?_)
      exact e_iretI i_M_weds_29 rfl
    · refine e_iconst (v := (-1)) i_M_weds_16 (by decide) ?_
      exact e_iretI i_M_weds_17 rfl
theorem i_M_wed_0 : m_at k_M_wed 0 = some (.iconst 0, 1, 0) := m_at_of r_M_wed (by decide +kernel)
theorem i_M_wed_1 : m_at k_M_wed 1 = some (.istore_n 2, 1, 0) := m_at_of r_M_wed (by decide +kernel)
theorem i_M_wed_2 : m_at k_M_wed 2 = some (.iload_n 2, 1, 0) := m_at_of r_M_wed (by decide +kernel)
theorem i_M_wed_3 : m_at k_M_wed 3 = some (.bipush 7, 2, 0) := m_at_of r_M_wed (by decide +kernel)
theorem i_M_wed_5 : m_at k_M_wed 5 = some (.if_icmp .ge (16), 3, 0) := m_at_of r_M_wed (by decide +kernel)
theorem i_M_wed_8 : m_at k_M_wed 8 = some (.aload_n 0, 1, 0) := m_at_of r_M_wed (by decide +kernel)
theorem i_M_wed_9 : m_at k_M_wed 9 = some (.getfield 62, 3, 59) := m_at_of r_M_wed (by decide +kernel)
theorem i_M_wed_12 : m_at k_M_wed 12 = some (.iload_n 2, 1, 0) := m_at_of r_M_wed (by decide +kernel)
theorem i_M_wed_13 : m_at k_M_wed 13 = some (.iconst (-1), 1, 0) := m_at_of r_M_wed (by decide +kernel)
theorem i_M_wed_14 : m_at k_M_wed 14 = some (.iastore, 1, 0) := m_at_of r_M_wed (by decide +kernel)
theorem i_M_wed_15 : m_at k_M_wed 15 = some (.iinc 2 (1), 3, 0) := m_at_of r_M_wed (by decide +kernel)
theorem i_M_wed_18 : m_at k_M_wed 18 = some (.goto (-16), 3, 0) := m_at_of r_M_wed (by decide +kernel)
theorem i_M_wed_21 : m_at k_M_wed 21 = some (.iconst 0, 1, 0) := m_at_of r_M_wed (by decide +kernel)
theorem i_M_wed_22 : m_at k_M_wed 22 = some (.istore_n 2, 1, 0) := m_at_of r_M_wed (by decide +kernel)
theorem i_M_wed_23 : m_at k_M_wed 23 = some (.iload_n 2, 1, 0) := m_at_of r_M_wed (by decide +kernel)
theorem i_M_wed_24 : m_at k_M_wed 24 = some (.iload_n 1, 1, 0) := m_at_of r_M_wed (by decide +kernel)
theorem i_M_wed_25 : m_at k_M_wed 25 = some (.if_icmp .ge (15), 3, 0) := m_at_of r_M_wed (by decide +kernel)
theorem i_M_wed_28 : m_at k_M_wed 28 = some (.aload_n 0, 1, 0) := m_at_of r_M_wed (by decide +kernel)
theorem i_M_wed_29 : m_at k_M_wed 29 = some (.iload_n 2, 1, 0) := m_at_of r_M_wed (by decide +kernel)
theorem i_M_wed_30 : m_at k_M_wed 30 = some (.iload_n 1, 1, 0) := m_at_of r_M_wed (by decide +kernel)
theorem i_M_wed_31 : m_at k_M_wed 31 = some (.invokevirtual 457, 3, 173) := m_at_of r_M_wed (by decide +kernel)
theorem i_M_wed_34 : m_at k_M_wed 34 = some (.iinc 2 (1), 3, 0) := m_at_of r_M_wed (by decide +kernel)
theorem i_M_wed_37 : m_at k_M_wed 37 = some (.goto (-14), 3, 0) := m_at_of r_M_wed (by decide +kernel)
theorem i_M_wed_40 : m_at k_M_wed 40 = some (.return_, 1, 0) := m_at_of r_M_wed (by decide +kernel)
set_option maxRecDepth 20000 in
set_option maxHeartbeats 1000000 in
theorem E_M_wed (x : m_X) (s : m_H) (w : Nat) (n1 : Int32) : m_M x k_M_wed [.ref w, .int n1] s = if m_isO s w 11 = true then (m_D x 6 k_M_wed 2 [some (.ref w), some (.int n1), some (.int 0)] [] s) else none := by
  refine e_M1 (L0 := [some (.ref w), some (.int n1), none]) rfl (by decide +kernel) rfl (q_M_wed _) rfl ?_
  refine e_iconst (v := 0) i_M_wed_0 (by decide) ?_
  refine e_istore_n (L' := [some (.ref w), some (.int n1), some (.int 0)]) i_M_wed_1 (of_decide_eq_true rfl) rfl ?_
  exact rfl
set_option maxRecDepth 20000 in
set_option maxHeartbeats 1000000 in
theorem E_M_wed_2 (x : m_X) (ρ : Nat) (hρ : 6 ≤ ρ) (s : m_H) (w : Nat) (n1 : Int32) (n2 : Int32)  : m_D x ρ k_M_wed 2 [some (.ref w), some (.int n1), some (.int n2)] [] s = if 7 ≤ n2 then (m_D x ρ k_M_wed 23 [some (.ref w), some (.int n1), some (.int 0)] [] s) else (m_fR s 11 29 w).bind fun v9 => (m_is s v9 n2 (-1)).bind fun s14 => m_D x ρ k_M_wed 2 [some (.ref w), some (.int n1), some (.int (n2 + (1 : Int32)))] [] s14 := by
  refine e_iload_n i_M_wed_2 rfl ?_
  refine e_bipush (v := 7) i_M_wed_3 (by decide) ?_
  refine e_icmpge (t := 21) i_M_wed_5 (by decide) ?_ ?_
  · refine e_iconst (v := 0) i_M_wed_21 (by decide) ?_
    refine e_istore_n (L' := [some (.ref w), some (.int n1), some (.int 0)]) i_M_wed_22 (of_decide_eq_true rfl) rfl ?_
    exact rfl
  · refine e_aload_n i_M_wed_8 rfl ?_
    refine e_getR i_M_wed_9 lf_59 (by decide) ft_11_29 (fun v9 => ?_)
    refine e_iload_n i_M_wed_12 rfl ?_
    refine e_iconst (v := (-1)) i_M_wed_13 (by decide) ?_
    refine e_iast i_M_wed_14 (fun s14 => ?_)
    refine e_iinc (w := 1) (L' := [some (.ref w), some (.int n1), some (.int (n2 + (1 : Int32)))]) i_M_wed_15 rfl (of_decide_eq_true rfl) (by decide) rfl ?_
    refine e_goto (t := 2) i_M_wed_18 (by decide) ?_
    exact rfl
set_option maxRecDepth 20000 in
set_option maxHeartbeats 1000000 in
theorem E_M_wed_23 (x : m_X) (ρ : Nat) (hρ : 6 ≤ ρ) (s : m_H) (w : Nat) (n1 : Int32) (n2 : Int32)  : m_D x ρ k_M_wed 23 [some (.ref w), some (.int n1), some (.int n2)] [] s = if n1 ≤ n2 then (some (none, s)) else m_bV (m_M x k_M_askOn [.ref w, .int n2, .int n1] s) fun s31 => m_D x ρ k_M_wed 23 [some (.ref w), some (.int n1), some (.int (n2 + (1 : Int32)))] [] s31 := by
  refine e_iload_n i_M_wed_23 rfl ?_
  refine e_iload_n i_M_wed_24 rfl ?_
  refine e_icmpge (t := 40) i_M_wed_25 (by decide) ?_ ?_
  · exact e_vret i_M_wed_40 rfl
  · refine e_aload_n i_M_wed_28 rfl ?_
    refine e_iload_n i_M_wed_29 rfl ?_
    refine e_iload_n i_M_wed_30 rfl ?_
    refine e_callV (as := [.ref w, .int n2, .int n1]) (st' := []) i_M_wed_31 lm_173 (Or.inr (Or.inl ⟨rfl, rfl⟩)) w_M_askOn rfl rfl rfl (Nat.le_of_ble_eq_true rfl) (Nat.le_of_ble_eq_true rfl) (m_rlt (q_M_askOn _) (Nat.lt_of_lt_of_le (by decide) hρ)) rfl (fun s31 => ?_)
    refine e_iinc (w := 1) (L' := [some (.ref w), some (.int n1), some (.int (n2 + (1 : Int32)))]) i_M_wed_34 rfl (of_decide_eq_true rfl) (by decide) rfl ?_
    refine e_goto (t := 23) i_M_wed_37 (by decide) ?_
    exact rfl
theorem i_M_askOn_0 : m_at k_M_askOn 0 = some (.iload_n 1, 1, 0) := m_at_of r_M_askOn (by decide +kernel)
theorem i_M_askOn_1 : m_at k_M_askOn 1 = some (.istore_n 3, 1, 0) := m_at_of r_M_askOn (by decide +kernel)
theorem i_M_askOn_2 : m_at k_M_askOn 2 = some (.aload_n 0, 1, 0) := m_at_of r_M_askOn (by decide +kernel)
theorem i_M_askOn_3 : m_at k_M_askOn 3 = some (.getfield 65, 3, 63) := m_at_of r_M_askOn (by decide +kernel)
theorem i_M_askOn_6 : m_at k_M_askOn 6 = some (.iload_n 3, 1, 0) := m_at_of r_M_askOn (by decide +kernel)
theorem i_M_askOn_7 : m_at k_M_askOn 7 = some (.iconst 0, 1, 0) := m_at_of r_M_askOn (by decide +kernel)
theorem i_M_askOn_8 : m_at k_M_askOn 8 = some (.iastore, 1, 0) := m_at_of r_M_askOn (by decide +kernel)
theorem i_M_askOn_9 : m_at k_M_askOn 9 = some (.iload_n 3, 1, 0) := m_at_of r_M_askOn (by decide +kernel)
theorem i_M_askOn_10 : m_at k_M_askOn 10 = some (.iconst (-1), 1, 0) := m_at_of r_M_askOn (by decide +kernel)
theorem i_M_askOn_11 : m_at k_M_askOn 11 = some (.if_icmp .eq (103), 3, 0) := m_at_of r_M_askOn (by decide +kernel)
theorem i_M_askOn_14 : m_at k_M_askOn 14 = some (.aload_n 0, 1, 0) := m_at_of r_M_askOn (by decide +kernel)
theorem i_M_askOn_15 : m_at k_M_askOn 15 = some (.iload_n 3, 1, 0) := m_at_of r_M_askOn (by decide +kernel)
theorem i_M_askOn_16 : m_at k_M_askOn 16 = some (.iload_n 2, 1, 0) := m_at_of r_M_askOn (by decide +kernel)
theorem i_M_askOn_17 : m_at k_M_askOn 17 = some (.aload_n 0, 1, 0) := m_at_of r_M_askOn (by decide +kernel)
theorem i_M_askOn_18 : m_at k_M_askOn 18 = some (.getfield 65, 3, 63) := m_at_of r_M_askOn (by decide +kernel)
theorem i_M_askOn_21 : m_at k_M_askOn 21 = some (.iload_n 3, 1, 0) := m_at_of r_M_askOn (by decide +kernel)
theorem i_M_askOn_22 : m_at k_M_askOn 22 = some (.iaload, 1, 0) := m_at_of r_M_askOn (by decide +kernel)
theorem i_M_askOn_23 : m_at k_M_askOn 23 = some (.invokevirtual 460, 3, 174) := m_at_of r_M_askOn (by decide +kernel)
theorem i_M_askOn_26 : m_at k_M_askOn 26 = some (.istore 4, 2, 0) := m_at_of r_M_askOn (by decide +kernel)
theorem i_M_askOn_28 : m_at k_M_askOn 28 = some (.iload 4, 2, 0) := m_at_of r_M_askOn (by decide +kernel)
theorem i_M_askOn_30 : m_at k_M_askOn 30 = some (.iconst (-1), 1, 0) := m_at_of r_M_askOn (by decide +kernel)
theorem i_M_askOn_31 : m_at k_M_askOn 31 = some (.if_icmp .ne (4), 3, 0) := m_at_of r_M_askOn (by decide +kernel)
theorem i_M_askOn_34 : m_at k_M_askOn 34 = some (.return_, 1, 0) := m_at_of r_M_askOn (by decide +kernel)
theorem i_M_askOn_35 : m_at k_M_askOn 35 = some (.aload_n 0, 1, 0) := m_at_of r_M_askOn (by decide +kernel)
theorem i_M_askOn_36 : m_at k_M_askOn 36 = some (.getfield 65, 3, 63) := m_at_of r_M_askOn (by decide +kernel)
theorem i_M_askOn_39 : m_at k_M_askOn 39 = some (.iload_n 3, 1, 0) := m_at_of r_M_askOn (by decide +kernel)
theorem i_M_askOn_40 : m_at k_M_askOn 40 = some (.dup2, 1, 0) := m_at_of r_M_askOn (by decide +kernel)
theorem i_M_askOn_41 : m_at k_M_askOn 41 = some (.iaload, 1, 0) := m_at_of r_M_askOn (by decide +kernel)
theorem i_M_askOn_42 : m_at k_M_askOn 42 = some (.iconst 1, 1, 0) := m_at_of r_M_askOn (by decide +kernel)
theorem i_M_askOn_43 : m_at k_M_askOn 43 = some (.iload 4, 2, 0) := m_at_of r_M_askOn (by decide +kernel)
theorem i_M_askOn_45 : m_at k_M_askOn 45 = some (.ishl, 1, 0) := m_at_of r_M_askOn (by decide +kernel)
theorem i_M_askOn_46 : m_at k_M_askOn 46 = some (.ior, 1, 0) := m_at_of r_M_askOn (by decide +kernel)
theorem i_M_askOn_47 : m_at k_M_askOn 47 = some (.iastore, 1, 0) := m_at_of r_M_askOn (by decide +kernel)
theorem i_M_askOn_48 : m_at k_M_askOn 48 = some (.aload_n 0, 1, 0) := m_at_of r_M_askOn (by decide +kernel)
theorem i_M_askOn_49 : m_at k_M_askOn 49 = some (.getfield 62, 3, 59) := m_at_of r_M_askOn (by decide +kernel)
theorem i_M_askOn_52 : m_at k_M_askOn 52 = some (.iload 4, 2, 0) := m_at_of r_M_askOn (by decide +kernel)
theorem i_M_askOn_54 : m_at k_M_askOn 54 = some (.iaload, 1, 0) := m_at_of r_M_askOn (by decide +kernel)
theorem i_M_askOn_55 : m_at k_M_askOn 55 = some (.istore 5, 2, 0) := m_at_of r_M_askOn (by decide +kernel)
theorem i_M_askOn_57 : m_at k_M_askOn 57 = some (.iload 5, 2, 0) := m_at_of r_M_askOn (by decide +kernel)
theorem i_M_askOn_59 : m_at k_M_askOn 59 = some (.iconst (-1), 1, 0) := m_at_of r_M_askOn (by decide +kernel)
theorem i_M_askOn_60 : m_at k_M_askOn 60 = some (.if_icmp .eq (18), 3, 0) := m_at_of r_M_askOn (by decide +kernel)
theorem i_M_askOn_63 : m_at k_M_askOn 63 = some (.aload_n 0, 1, 0) := m_at_of r_M_askOn (by decide +kernel)
theorem i_M_askOn_64 : m_at k_M_askOn 64 = some (.iload 4, 2, 0) := m_at_of r_M_askOn (by decide +kernel)
theorem i_M_askOn_66 : m_at k_M_askOn 66 = some (.iload_n 3, 1, 0) := m_at_of r_M_askOn (by decide +kernel)
theorem i_M_askOn_67 : m_at k_M_askOn 67 = some (.iload 5, 2, 0) := m_at_of r_M_askOn (by decide +kernel)
theorem i_M_askOn_69 : m_at k_M_askOn 69 = some (.invokevirtual 454, 3, 164) := m_at_of r_M_askOn (by decide +kernel)
theorem i_M_askOn_72 : m_at k_M_askOn 72 = some (.ifCond .ne (6), 3, 0) := m_at_of r_M_askOn (by decide +kernel)
theorem i_M_askOn_75 : m_at k_M_askOn 75 = some (.goto (-66), 3, 0) := m_at_of r_M_askOn (by decide +kernel)
theorem i_M_askOn_78 : m_at k_M_askOn 78 = some (.aload_n 0, 1, 0) := m_at_of r_M_askOn (by decide +kernel)
theorem i_M_askOn_79 : m_at k_M_askOn 79 = some (.getfield 62, 3, 59) := m_at_of r_M_askOn (by decide +kernel)
theorem i_M_askOn_82 : m_at k_M_askOn 82 = some (.iload 4, 2, 0) := m_at_of r_M_askOn (by decide +kernel)
theorem i_M_askOn_84 : m_at k_M_askOn 84 = some (.iload_n 3, 1, 0) := m_at_of r_M_askOn (by decide +kernel)
theorem i_M_askOn_85 : m_at k_M_askOn 85 = some (.iastore, 1, 0) := m_at_of r_M_askOn (by decide +kernel)
theorem i_M_askOn_86 : m_at k_M_askOn 86 = some (.aload_n 0, 1, 0) := m_at_of r_M_askOn (by decide +kernel)
theorem i_M_askOn_87 : m_at k_M_askOn 87 = some (.getfield 62, 3, 59) := m_at_of r_M_askOn (by decide +kernel)
theorem i_M_askOn_90 : m_at k_M_askOn 90 = some (.iload_n 3, 1, 0) := m_at_of r_M_askOn (by decide +kernel)
theorem i_M_askOn_91 : m_at k_M_askOn 91 = some (.iload 4, 2, 0) := m_at_of r_M_askOn (by decide +kernel)
theorem i_M_askOn_93 : m_at k_M_askOn 93 = some (.iastore, 1, 0) := m_at_of r_M_askOn (by decide +kernel)
theorem i_M_askOn_94 : m_at k_M_askOn 94 = some (.iload 5, 2, 0) := m_at_of r_M_askOn (by decide +kernel)
theorem i_M_askOn_96 : m_at k_M_askOn 96 = some (.iconst (-1), 1, 0) := m_at_of r_M_askOn (by decide +kernel)
theorem i_M_askOn_97 : m_at k_M_askOn 97 = some (.if_icmp .eq (11), 3, 0) := m_at_of r_M_askOn (by decide +kernel)
theorem i_M_askOn_100 : m_at k_M_askOn 100 = some (.aload_n 0, 1, 0) := m_at_of r_M_askOn (by decide +kernel)
theorem i_M_askOn_101 : m_at k_M_askOn 101 = some (.getfield 62, 3, 59) := m_at_of r_M_askOn (by decide +kernel)
theorem i_M_askOn_104 : m_at k_M_askOn 104 = some (.iload 5, 2, 0) := m_at_of r_M_askOn (by decide +kernel)
theorem i_M_askOn_106 : m_at k_M_askOn 106 = some (.iconst (-1), 1, 0) := m_at_of r_M_askOn (by decide +kernel)
theorem i_M_askOn_107 : m_at k_M_askOn 107 = some (.iastore, 1, 0) := m_at_of r_M_askOn (by decide +kernel)
theorem i_M_askOn_108 : m_at k_M_askOn 108 = some (.iload 5, 2, 0) := m_at_of r_M_askOn (by decide +kernel)
theorem i_M_askOn_110 : m_at k_M_askOn 110 = some (.istore_n 3, 1, 0) := m_at_of r_M_askOn (by decide +kernel)
theorem i_M_askOn_111 : m_at k_M_askOn 111 = some (.goto (-102), 3, 0) := m_at_of r_M_askOn (by decide +kernel)
theorem i_M_askOn_114 : m_at k_M_askOn 114 = some (.return_, 1, 0) := m_at_of r_M_askOn (by decide +kernel)
set_option maxRecDepth 20000 in
set_option maxHeartbeats 1000000 in
theorem E_M_askOn (x : m_X) (s : m_H) (w : Nat) (n1 : Int32) (n2 : Int32) : m_M x k_M_askOn [.ref w, .int n1, .int n2] s = if m_isO s w 11 = true then ((m_fR s 11 30 w).bind fun v3 => (m_is s v3 n1 0).bind fun s8 => m_D x 5 k_M_askOn 9 [some (.ref w), some (.int n1), some (.int n2), some (.int n1), none, none] [] s8) else none := by
  refine e_M1 (L0 := [some (.ref w), some (.int n1), some (.int n2), none, none, none]) rfl (by decide +kernel) rfl (q_M_askOn _) rfl ?_
  refine e_iload_n i_M_askOn_0 rfl ?_
  refine e_istore_n (L' := [some (.ref w), some (.int n1), some (.int n2), some (.int n1), none, none]) i_M_askOn_1 (of_decide_eq_true rfl) rfl ?_
  refine e_aload_n i_M_askOn_2 rfl ?_
  refine e_getR i_M_askOn_3 lf_63 (by decide) ft_11_30 (fun v3 => ?_)
  refine e_iload_n i_M_askOn_6 rfl ?_
  refine e_iconst (v := 0) i_M_askOn_7 (by decide) ?_
  refine e_iast i_M_askOn_8 (fun s8 => ?_)
  exact rfl
set_option maxRecDepth 20000 in
set_option maxHeartbeats 1000000 in
theorem E_M_askOn_9 (x : m_X) (ρ : Nat) (hρ : 5 ≤ ρ) (s : m_H) (w : Nat) (n1 : Int32) (n2 : Int32) (n3 : Int32) (d4 : Option Value) (d5 : Option Value) (hd4 : m_nl d4 = true) (hd5 : m_nl d5 = true) : m_D x ρ k_M_askOn 9 [some (.ref w), some (.int n1), some (.int n2), some (.int n3), d4, d5] [] s = if n3 = (-1) then (some (none, s)) else (m_fR s 11 30 w).bind fun v18 => (m_ia x s v18 n3).bind fun v22 => m_bI (m_M x k_M_nextOf [.ref w, .int n3, .int n2, .int v22] s) fun v23 s23 => if v23 = (-1) then (some (none, s23)) else (m_fR s23 11 30 w).bind fun v36 => (m_ia x s23 v36 n3).bind fun v41 => (m_is s23 v36 n3 (v41 ||| ((1 : Int32) <<< (v23 &&& (31 : Int32))))).bind fun s47 => (m_fR s47 11 29 w).bind fun v49 => (m_ia x s47 v49 v23).bind fun v54 => if v54 = (-1) then (m_D x ρ k_M_askOn 78 [some (.ref w), some (.int n1), some (.int n2), some (.int n3), some (.int v23), some (.int v54)] [] s47) else m_bI (m_M x k_M_isRather [.ref w, .int v23, .int n3, .int v54] s47) fun v69 s69 => if v69 = 0 then (m_D x ρ k_M_askOn 9 [some (.ref w), some (.int n1), some (.int n2), some (.int n3), some (.int v23), some (.int v54)] [] s69) else m_D x ρ k_M_askOn 78 [some (.ref w), some (.int n1), some (.int n2), some (.int n3), some (.int v23), some (.int v54)] [] s69 := by
  refine e_iload_n i_M_askOn_9 rfl ?_
  refine e_iconst (v := (-1)) i_M_askOn_10 (by decide) ?_
  refine e_icmpeq (t := 114) i_M_askOn_11 (by decide) ?_ ?_
  · exact e_vret i_M_askOn_114 rfl
  · refine e_aload_n i_M_askOn_14 rfl ?_
    refine e_iload_n i_M_askOn_15 rfl ?_
    refine e_iload_n i_M_askOn_16 rfl ?_
    refine e_aload_n i_M_askOn_17 rfl ?_
    refine e_getR i_M_askOn_18 lf_63 (by decide) ft_11_30 (fun v18 => ?_)
    refine e_iload_n i_M_askOn_21 rfl ?_
    refine e_iald i_M_askOn_22 (fun v22 => ?_)
    refine e_callI (as := [.ref w, .int n3, .int n2, .int v22]) (st' := []) i_M_askOn_23 lm_174 (Or.inr (Or.inl ⟨rfl, rfl⟩)) w_M_nextOf rfl rfl rfl (Nat.le_of_ble_eq_true rfl) (Nat.le_of_ble_eq_true rfl) (m_rlt (q_M_nextOf _) (Nat.lt_of_lt_of_le (by decide) hρ)) rfl (fun v23 s23 => ?_)
    refine e_istore (L' := [some (.ref w), some (.int n1), some (.int n2), some (.int n3), some (.int v23), d5]) i_M_askOn_26 (of_decide_eq_true rfl) rfl ?_
    refine e_iload i_M_askOn_28 rfl ?_
    refine e_iconst (v := (-1)) i_M_askOn_30 (by decide) ?_
    refine e_icmpne (t := 35) i_M_askOn_31 (by decide) ?_ ?_
    · refine e_aload_n i_M_askOn_35 rfl ?_
      refine e_getR i_M_askOn_36 lf_63 (by decide) ft_11_30 (fun v36 => ?_)
      refine e_iload_n i_M_askOn_39 rfl ?_
      refine e_dup2 i_M_askOn_40 ⟨rfl, rfl⟩ ?_
      refine e_iald i_M_askOn_41 (fun v41 => ?_)
      refine e_iconst (v := 1) i_M_askOn_42 (by decide) ?_
      refine e_iload i_M_askOn_43 rfl ?_
      refine e_ishl i_M_askOn_45 ?_
      refine e_ior i_M_askOn_46 ?_
      refine e_iast i_M_askOn_47 (fun s47 => ?_)
      refine e_aload_n i_M_askOn_48 rfl ?_
      refine e_getR i_M_askOn_49 lf_59 (by decide) ft_11_29 (fun v49 => ?_)
      refine e_iload i_M_askOn_52 rfl ?_
      refine e_iald i_M_askOn_54 (fun v54 => ?_)
      refine e_istore (L' := [some (.ref w), some (.int n1), some (.int n2), some (.int n3), some (.int v23), some (.int v54)]) i_M_askOn_55 (of_decide_eq_true rfl) rfl ?_
      refine e_iload i_M_askOn_57 rfl ?_
      refine e_iconst (v := (-1)) i_M_askOn_59 (by decide) ?_
      refine e_icmpeq (t := 78) i_M_askOn_60 (by decide) ?_ ?_
      · exact rfl
      · refine e_aload_n i_M_askOn_63 rfl ?_
        refine e_iload i_M_askOn_64 rfl ?_
        refine e_iload_n i_M_askOn_66 rfl ?_
        refine e_iload i_M_askOn_67 rfl ?_
        refine e_callI (as := [.ref w, .int v23, .int n3, .int v54]) (st' := []) i_M_askOn_69 lm_164 (Or.inr (Or.inl ⟨rfl, rfl⟩)) w_M_isRather rfl rfl rfl (Nat.le_of_ble_eq_true rfl) (Nat.le_of_ble_eq_true rfl) (m_rlt (q_M_isRather _) (Nat.lt_of_lt_of_le (by decide) hρ)) rfl (fun v69 s69 => ?_)
        refine e_ifne (t := 78) i_M_askOn_72 (by decide) ?_ ?_
        · exact rfl
        · refine e_goto (t := 9) i_M_askOn_75 (by decide) ?_
          exact rfl
    · exact e_vret i_M_askOn_34 rfl
set_option maxRecDepth 20000 in
set_option maxHeartbeats 1000000 in
theorem E_M_askOn_78 (x : m_X) (ρ : Nat) (hρ : 5 ≤ ρ) (s : m_H) (w : Nat) (n1 : Int32) (n2 : Int32) (n3 : Int32) (n4 : Int32) (n5 : Int32)  : m_D x ρ k_M_askOn 78 [some (.ref w), some (.int n1), some (.int n2), some (.int n3), some (.int n4), some (.int n5)] [] s = (m_fR s 11 29 w).bind fun v79 => (m_is s v79 n4 n3).bind fun s85 => (m_fR s85 11 29 w).bind fun v87 => (m_is s85 v87 n3 n4).bind fun s93 => if n5 = (-1) then (m_D x ρ k_M_askOn 9 [some (.ref w), some (.int n1), some (.int n2), some (.int n5), some (.int n4), some (.int n5)] [] s93) else (m_fR s93 11 29 w).bind fun v101 => (m_is s93 v101 n5 (-1)).bind fun s107 => m_D x ρ k_M_askOn 9 [some (.ref w), some (.int n1), some (.int n2), some (.int n5), some (.int n4), some (.int n5)] [] s107 := by
  refine e_aload_n i_M_askOn_78 rfl ?_
  refine e_getR i_M_askOn_79 lf_59 (by decide) ft_11_29 (fun v79 => ?_)
  refine e_iload i_M_askOn_82 rfl ?_
  refine e_iload_n i_M_askOn_84 rfl ?_
  refine e_iast i_M_askOn_85 (fun s85 => ?_)
  refine e_aload_n i_M_askOn_86 rfl ?_
  refine e_getR i_M_askOn_87 lf_59 (by decide) ft_11_29 (fun v87 => ?_)
  refine e_iload_n i_M_askOn_90 rfl ?_
  refine e_iload i_M_askOn_91 rfl ?_
  refine e_iast i_M_askOn_93 (fun s93 => ?_)
  refine e_iload i_M_askOn_94 rfl ?_
  refine e_iconst (v := (-1)) i_M_askOn_96 (by decide) ?_
  refine e_icmpeq (t := 108) i_M_askOn_97 (by decide) ?_ ?_
  · refine e_iload i_M_askOn_108 rfl ?_
    refine e_istore_n (L' := [some (.ref w), some (.int n1), some (.int n2), some (.int n5), some (.int n4), some (.int n5)]) i_M_askOn_110 (of_decide_eq_true rfl) rfl ?_
    refine e_goto (t := 9) i_M_askOn_111 (by decide) ?_
    exact rfl
  · refine e_aload_n i_M_askOn_100 rfl ?_
    refine e_getR i_M_askOn_101 lf_59 (by decide) ft_11_29 (fun v101 => ?_)
    refine e_iload i_M_askOn_104 rfl ?_
    refine e_iconst (v := (-1)) i_M_askOn_106 (by decide) ?_
    refine e_iast i_M_askOn_107 (fun s107 => ?_)
    refine e_iload i_M_askOn_108 rfl ?_
    refine e_istore_n (L' := [some (.ref w), some (.int n1), some (.int n2), some (.int n5), some (.int n4), some (.int n5)]) i_M_askOn_110 (of_decide_eq_true rfl) rfl ?_
    refine e_goto (t := 9) i_M_askOn_111 (by decide) ?_
    exact rfl
theorem i_M_nextOf_0 : m_at k_M_nextOf 0 = some (.iconst (-1), 1, 0) := m_at_of r_M_nextOf (by decide +kernel)
theorem i_M_nextOf_1 : m_at k_M_nextOf 1 = some (.istore 4, 2, 0) := m_at_of r_M_nextOf (by decide +kernel)
theorem i_M_nextOf_3 : m_at k_M_nextOf 3 = some (.iload_n 2, 1, 0) := m_at_of r_M_nextOf (by decide +kernel)
theorem i_M_nextOf_4 : m_at k_M_nextOf 4 = some (.istore 5, 2, 0) := m_at_of r_M_nextOf (by decide +kernel)
theorem i_M_nextOf_6 : m_at k_M_nextOf 6 = some (.iload 5, 2, 0) := m_at_of r_M_nextOf (by decide +kernel)
theorem i_M_nextOf_8 : m_at k_M_nextOf 8 = some (.aload_n 0, 1, 0) := m_at_of r_M_nextOf (by decide +kernel)
theorem i_M_nextOf_9 : m_at k_M_nextOf 9 = some (.getfield 7, 3, 0) := m_at_of r_M_nextOf (by decide +kernel)
theorem i_M_nextOf_12 : m_at k_M_nextOf 12 = some (.iconst 0, 1, 0) := m_at_of r_M_nextOf (by decide +kernel)
theorem i_M_nextOf_13 : m_at k_M_nextOf 13 = some (.iaload, 1, 0) := m_at_of r_M_nextOf (by decide +kernel)
theorem i_M_nextOf_14 : m_at k_M_nextOf 14 = some (.if_icmp .ge (40), 3, 0) := m_at_of r_M_nextOf (by decide +kernel)
theorem i_M_nextOf_17 : m_at k_M_nextOf 17 = some (.iload_n 3, 1, 0) := m_at_of r_M_nextOf (by decide +kernel)
theorem i_M_nextOf_18 : m_at k_M_nextOf 18 = some (.iload 5, 2, 0) := m_at_of r_M_nextOf (by decide +kernel)
theorem i_M_nextOf_20 : m_at k_M_nextOf 20 = some (.invokestatic 264, 3, 130) := m_at_of r_M_nextOf (by decide +kernel)
theorem i_M_nextOf_23 : m_at k_M_nextOf 23 = some (.ifCond .ne (25), 3, 0) := m_at_of r_M_nextOf (by decide +kernel)
theorem i_M_nextOf_26 : m_at k_M_nextOf 26 = some (.iload 4, 2, 0) := m_at_of r_M_nextOf (by decide +kernel)
theorem i_M_nextOf_28 : m_at k_M_nextOf 28 = some (.iconst (-1), 1, 0) := m_at_of r_M_nextOf (by decide +kernel)
theorem i_M_nextOf_29 : m_at k_M_nextOf 29 = some (.if_icmp .eq (15), 3, 0) := m_at_of r_M_nextOf (by decide +kernel)
theorem i_M_nextOf_32 : m_at k_M_nextOf 32 = some (.aload_n 0, 1, 0) := m_at_of r_M_nextOf (by decide +kernel)
theorem i_M_nextOf_33 : m_at k_M_nextOf 33 = some (.iload_n 1, 1, 0) := m_at_of r_M_nextOf (by decide +kernel)
theorem i_M_nextOf_34 : m_at k_M_nextOf 34 = some (.iload 5, 2, 0) := m_at_of r_M_nextOf (by decide +kernel)
theorem i_M_nextOf_36 : m_at k_M_nextOf 36 = some (.iload 4, 2, 0) := m_at_of r_M_nextOf (by decide +kernel)
theorem i_M_nextOf_38 : m_at k_M_nextOf 38 = some (.invokevirtual 454, 3, 164) := m_at_of r_M_nextOf (by decide +kernel)
theorem i_M_nextOf_41 : m_at k_M_nextOf 41 = some (.ifCond .eq (7), 3, 0) := m_at_of r_M_nextOf (by decide +kernel)
theorem i_M_nextOf_44 : m_at k_M_nextOf 44 = some (.iload 5, 2, 0) := m_at_of r_M_nextOf (by decide +kernel)
theorem i_M_nextOf_46 : m_at k_M_nextOf 46 = some (.istore 4, 2, 0) := m_at_of r_M_nextOf (by decide +kernel)
theorem i_M_nextOf_48 : m_at k_M_nextOf 48 = some (.iinc 5 (1), 3, 0) := m_at_of r_M_nextOf (by decide +kernel)
theorem i_M_nextOf_51 : m_at k_M_nextOf 51 = some (.goto (-45), 3, 0) := m_at_of r_M_nextOf (by decide +kernel)
theorem i_M_nextOf_54 : m_at k_M_nextOf 54 = some (.iload 4, 2, 0) := m_at_of r_M_nextOf (by decide +kernel)
theorem i_M_nextOf_56 : m_at k_M_nextOf 56 = some (.ireturn, 1, 0) := m_at_of r_M_nextOf (by decide +kernel)
set_option maxRecDepth 20000 in
set_option maxHeartbeats 1000000 in
theorem E_M_nextOf (x : m_X) (s : m_H) (w : Nat) (n1 : Int32) (n2 : Int32) (n3 : Int32) : m_M x k_M_nextOf [.ref w, .int n1, .int n2, .int n3] s = if m_isO s w 11 = true then (m_D x 4 k_M_nextOf 6 [some (.ref w), some (.int n1), some (.int n2), some (.int n3), some (.int (-1)), some (.int n2)] [] s) else none := by
  refine e_M1 (L0 := [some (.ref w), some (.int n1), some (.int n2), some (.int n3), none, none]) rfl (by decide +kernel) rfl (q_M_nextOf _) rfl ?_
  refine e_iconst (v := (-1)) i_M_nextOf_0 (by decide) ?_
  refine e_istore (L' := [some (.ref w), some (.int n1), some (.int n2), some (.int n3), some (.int (-1)), none]) i_M_nextOf_1 (of_decide_eq_true rfl) rfl ?_
  refine e_iload_n i_M_nextOf_3 rfl ?_
  refine e_istore (L' := [some (.ref w), some (.int n1), some (.int n2), some (.int n3), some (.int (-1)), some (.int n2)]) i_M_nextOf_4 (of_decide_eq_true rfl) rfl ?_
  exact rfl
set_option maxRecDepth 20000 in
set_option maxHeartbeats 1000000 in
theorem E_M_nextOf_6 (x : m_X) (ρ : Nat) (hρ : 4 ≤ ρ) (s : m_H) (w : Nat) (n1 : Int32) (n2 : Int32) (n3 : Int32) (n4 : Int32) (n5 : Int32)  : m_D x ρ k_M_nextOf 6 [some (.ref w), some (.int n1), some (.int n2), some (.int n3), some (.int n4), some (.int n5)] [] s = (m_fR s 11 0 w).bind fun v9 => (m_ia x s v9 0).bind fun v13 => if v13 ≤ n5 then (some (some (.int n4), s)) else m_bI (m_M x k_M_has [.int n3, .int n5] s) fun v20 s20 => if v20 = 0 then (if n4 = (-1) then (m_D x ρ k_M_nextOf 6 [some (.ref w), some (.int n1), some (.int n2), some (.int n3), some (.int n5), some (.int (n5 + (1 : Int32)))] [] s20) else m_bI (m_M x k_M_isRather [.ref w, .int n1, .int n5, .int n4] s20) fun v38 s38 => if v38 = 0 then (m_D x ρ k_M_nextOf 6 [some (.ref w), some (.int n1), some (.int n2), some (.int n3), some (.int n4), some (.int (n5 + (1 : Int32)))] [] s38) else m_D x ρ k_M_nextOf 6 [some (.ref w), some (.int n1), some (.int n2), some (.int n3), some (.int n5), some (.int (n5 + (1 : Int32)))] [] s38) else m_D x ρ k_M_nextOf 6 [some (.ref w), some (.int n1), some (.int n2), some (.int n3), some (.int n4), some (.int (n5 + (1 : Int32)))] [] s20 := by
  refine e_iload i_M_nextOf_6 rfl ?_
  refine e_aload_n i_M_nextOf_8 rfl ?_
  refine e_getR i_M_nextOf_9 lf_0 (by decide) ft_11_0 (fun v9 => ?_)
  refine e_iconst (v := 0) i_M_nextOf_12 (by decide) ?_
  refine e_iald i_M_nextOf_13 (fun v13 => ?_)
  refine e_icmpge (t := 54) i_M_nextOf_14 (by decide) ?_ ?_
  · refine e_iload i_M_nextOf_54 rfl ?_
    exact e_iretI i_M_nextOf_56 rfl
  · refine e_iload_n i_M_nextOf_17 rfl ?_
    refine e_iload i_M_nextOf_18 rfl ?_
    refine e_callI (as := [.int n3, .int n5]) (st' := []) i_M_nextOf_20 lm_130 (Or.inl ⟨rfl, rfl⟩) w_M_has rfl rfl rfl (Nat.le_of_ble_eq_true rfl) (Nat.le_of_ble_eq_true rfl) (m_rlt (q_M_has _) (Nat.lt_of_lt_of_le (by decide) hρ)) rfl (fun v20 s20 => ?_)
    refine e_ifne (t := 48) i_M_nextOf_23 (by decide) ?_ ?_
    · refine e_iinc (w := 1) (L' := [some (.ref w), some (.int n1), some (.int n2), some (.int n3), some (.int n4), some (.int (n5 + (1 : Int32)))]) i_M_nextOf_48 rfl (of_decide_eq_true rfl) (by decide) rfl ?_
      refine e_goto (t := 6) i_M_nextOf_51 (by decide) ?_
      exact rfl
    · refine e_iload i_M_nextOf_26 rfl ?_
      refine e_iconst (v := (-1)) i_M_nextOf_28 (by decide) ?_
      refine e_icmpeq (t := 44) i_M_nextOf_29 (by decide) ?_ ?_
      · refine e_iload i_M_nextOf_44 rfl ?_
        refine e_istore (L' := [some (.ref w), some (.int n1), some (.int n2), some (.int n3), some (.int n5), some (.int n5)]) i_M_nextOf_46 (of_decide_eq_true rfl) rfl ?_
        refine e_iinc (w := 1) (L' := [some (.ref w), some (.int n1), some (.int n2), some (.int n3), some (.int n5), some (.int (n5 + (1 : Int32)))]) i_M_nextOf_48 rfl (of_decide_eq_true rfl) (by decide) rfl ?_
        refine e_goto (t := 6) i_M_nextOf_51 (by decide) ?_
        exact rfl
      · refine e_aload_n i_M_nextOf_32 rfl ?_
        refine e_iload_n i_M_nextOf_33 rfl ?_
        refine e_iload i_M_nextOf_34 rfl ?_
        refine e_iload i_M_nextOf_36 rfl ?_
        refine e_callI (as := [.ref w, .int n1, .int n5, .int n4]) (st' := []) i_M_nextOf_38 lm_164 (Or.inr (Or.inl ⟨rfl, rfl⟩)) w_M_isRather rfl rfl rfl (Nat.le_of_ble_eq_true rfl) (Nat.le_of_ble_eq_true rfl) (m_rlt (q_M_isRather _) (Nat.lt_of_lt_of_le (by decide) hρ)) rfl (fun v38 s38 => ?_)
        refine e_ifeq (t := 48) i_M_nextOf_41 (by decide) ?_ ?_
        · refine e_iinc (w := 1) (L' := [some (.ref w), some (.int n1), some (.int n2), some (.int n3), some (.int n4), some (.int (n5 + (1 : Int32)))]) i_M_nextOf_48 rfl (of_decide_eq_true rfl) (by decide) rfl ?_
          refine e_goto (t := 6) i_M_nextOf_51 (by decide) ?_
          exact rfl
        · refine e_iload i_M_nextOf_44 rfl ?_
          refine e_istore (L' := [some (.ref w), some (.int n1), some (.int n2), some (.int n3), some (.int n5), some (.int n5)]) i_M_nextOf_46 (of_decide_eq_true rfl) rfl ?_
          refine e_iinc (w := 1) (L' := [some (.ref w), some (.int n1), some (.int n2), some (.int n3), some (.int n5), some (.int (n5 + (1 : Int32)))]) i_M_nextOf_48 rfl (of_decide_eq_true rfl) (by decide) rfl ?_
          refine e_goto (t := 6) i_M_nextOf_51 (by decide) ?_
          exact rfl
theorem i_M_isRather_0 : m_at k_M_isRather 0 = some (.aload_n 0, 1, 0) := m_at_of r_M_isRather (by decide +kernel)
theorem i_M_isRather_1 : m_at k_M_isRather 1 = some (.iload_n 1, 1, 0) := m_at_of r_M_isRather (by decide +kernel)
theorem i_M_isRather_2 : m_at k_M_isRather 2 = some (.iload_n 2, 1, 0) := m_at_of r_M_isRather (by decide +kernel)
theorem i_M_isRather_3 : m_at k_M_isRather 3 = some (.invokevirtual 451, 3, 175) := m_at_of r_M_isRather (by decide +kernel)
theorem i_M_isRather_6 : m_at k_M_isRather 6 = some (.aload_n 0, 1, 0) := m_at_of r_M_isRather (by decide +kernel)
theorem i_M_isRather_7 : m_at k_M_isRather 7 = some (.iload_n 1, 1, 0) := m_at_of r_M_isRather (by decide +kernel)
theorem i_M_isRather_8 : m_at k_M_isRather 8 = some (.iload_n 3, 1, 0) := m_at_of r_M_isRather (by decide +kernel)
theorem i_M_isRather_9 : m_at k_M_isRather 9 = some (.invokevirtual 451, 3, 175) := m_at_of r_M_isRather (by decide +kernel)
theorem i_M_isRather_12 : m_at k_M_isRather 12 = some (.isub, 1, 0) := m_at_of r_M_isRather (by decide +kernel)
theorem i_M_isRather_13 : m_at k_M_isRather 13 = some (.istore 4, 2, 0) := m_at_of r_M_isRather (by decide +kernel)
theorem i_M_isRather_15 : m_at k_M_isRather 15 = some (.iload 4, 2, 0) := m_at_of r_M_isRather (by decide +kernel)
theorem i_M_isRather_17 : m_at k_M_isRather 17 = some (.ifCond .lt (13), 3, 0) := m_at_of r_M_isRather (by decide +kernel)
theorem i_M_isRather_20 : m_at k_M_isRather 20 = some (.iload 4, 2, 0) := m_at_of r_M_isRather (by decide +kernel)
theorem i_M_isRather_22 : m_at k_M_isRather 22 = some (.ifCond .ne (12), 3, 0) := m_at_of r_M_isRather (by decide +kernel)
theorem i_M_isRather_25 : m_at k_M_isRather 25 = some (.iload_n 2, 1, 0) := m_at_of r_M_isRather (by decide +kernel)
theorem i_M_isRather_26 : m_at k_M_isRather 26 = some (.iload_n 3, 1, 0) := m_at_of r_M_isRather (by decide +kernel)
theorem i_M_isRather_27 : m_at k_M_isRather 27 = some (.if_icmp .ge (7), 3, 0) := m_at_of r_M_isRather (by decide +kernel)
theorem i_M_isRather_30 : m_at k_M_isRather 30 = some (.iconst 1, 1, 0) := m_at_of r_M_isRather (by decide +kernel)
theorem i_M_isRather_31 : m_at k_M_isRather 31 = some (.goto (4), 3, 0) := m_at_of r_M_isRather (by decide +kernel)
theorem i_M_isRather_34 : m_at k_M_isRather 34 = some (.iconst 0, 1, 0) := m_at_of r_M_isRather (by decide +kernel)
theorem i_M_isRather_35 : m_at k_M_isRather 35 = some (.ireturn, 1, 0) := m_at_of r_M_isRather (by decide +kernel)
set_option maxRecDepth 20000 in
set_option maxHeartbeats 1000000 in
theorem E_M_isRather (x : m_X) (s : m_H) (w : Nat) (n1 : Int32) (n2 : Int32) (n3 : Int32) : m_M x k_M_isRather [.ref w, .int n1, .int n2, .int n3] s = if m_isO s w 11 = true then (m_bI (m_M x k_M_apart [.ref w, .int n1, .int n2] s) fun v3 s3 => m_bI (m_M x k_M_apart [.ref w, .int n1, .int n3] s3) fun v9 s9 => if (v3 - v9) < 0 then (some (some (.int 1), s9)) else if (v3 - v9) = 0 then (if n3 ≤ n2 then (some (some (.int 0), s9)) else some (some (.int 1), s9)) else some (some (.int 0), s9)) else none := by
  refine e_M1 (L0 := [some (.ref w), some (.int n1), some (.int n2), some (.int n3), none]) rfl (by decide +kernel) rfl (q_M_isRather _) rfl ?_
  refine e_aload_n i_M_isRather_0 rfl ?_
  refine e_iload_n i_M_isRather_1 rfl ?_
  refine e_iload_n i_M_isRather_2 rfl ?_
  refine e_callI (as := [.ref w, .int n1, .int n2]) (st' := []) i_M_isRather_3 lm_175 (Or.inr (Or.inl ⟨rfl, rfl⟩)) w_M_apart rfl rfl rfl (Nat.le_of_ble_eq_true rfl) (Nat.le_of_ble_eq_true rfl) (m_rlt (q_M_apart _) (by decide)) rfl (fun v3 s3 => ?_)
  refine e_aload_n i_M_isRather_6 rfl ?_
  refine e_iload_n i_M_isRather_7 rfl ?_
  refine e_iload_n i_M_isRather_8 rfl ?_
  refine e_callI (as := [.ref w, .int n1, .int n3]) (st' := [.int v3]) i_M_isRather_9 lm_175 (Or.inr (Or.inl ⟨rfl, rfl⟩)) w_M_apart rfl rfl rfl (Nat.le_of_ble_eq_true rfl) (Nat.le_of_ble_eq_true rfl) (m_rlt (q_M_apart _) (by decide)) rfl (fun v9 s9 => ?_)
  refine e_isub i_M_isRather_12 ?_
  refine e_istore (L' := [some (.ref w), some (.int n1), some (.int n2), some (.int n3), some (.int (v3 - v9))]) i_M_isRather_13 (of_decide_eq_true rfl) rfl ?_
  refine e_iload i_M_isRather_15 rfl ?_
  refine e_iflt (t := 30) i_M_isRather_17 (by decide) ?_ ?_
  · refine e_iconst (v := 1) i_M_isRather_30 (by decide) ?_
    refine e_goto (t := 35) i_M_isRather_31 (by decide) ?_
    exact e_iretZ i_M_isRather_35 rfl (by decide)
  · refine e_iload i_M_isRather_20 rfl ?_
    refine e_ifne (t := 34) i_M_isRather_22 (by decide) ?_ ?_
    · refine e_iconst (v := 0) i_M_isRather_34 (by decide) ?_
      exact e_iretZ i_M_isRather_35 rfl (by decide)
    · refine e_iload_n i_M_isRather_25 rfl ?_
      refine e_iload_n i_M_isRather_26 rfl ?_
      refine e_icmpge (t := 34) i_M_isRather_27 (by decide) ?_ ?_
      · refine e_iconst (v := 0) i_M_isRather_34 (by decide) ?_
        exact e_iretZ i_M_isRather_35 rfl (by decide)
      · refine e_iconst (v := 1) i_M_isRather_30 (by decide) ?_
        refine e_goto (t := 35) i_M_isRather_31 (by decide) ?_
        exact e_iretZ i_M_isRather_35 rfl (by decide)
theorem i_M_apart_0 : m_at k_M_apart 0 = some (.aload_n 0, 1, 0) := m_at_of r_M_apart (by decide +kernel)
theorem i_M_apart_1 : m_at k_M_apart 1 = some (.getfield 7, 3, 0) := m_at_of r_M_apart (by decide +kernel)
theorem i_M_apart_4 : m_at k_M_apart 4 = some (.bipush 112, 2, 0) := m_at_of r_M_apart (by decide +kernel)
theorem i_M_apart_6 : m_at k_M_apart 6 = some (.iload_n 1, 1, 0) := m_at_of r_M_apart (by decide +kernel)
theorem i_M_apart_7 : m_at k_M_apart 7 = some (.iadd, 1, 0) := m_at_of r_M_apart (by decide +kernel)
theorem i_M_apart_8 : m_at k_M_apart 8 = some (.iaload, 1, 0) := m_at_of r_M_apart (by decide +kernel)
theorem i_M_apart_9 : m_at k_M_apart 9 = some (.aload_n 0, 1, 0) := m_at_of r_M_apart (by decide +kernel)
theorem i_M_apart_10 : m_at k_M_apart 10 = some (.getfield 7, 3, 0) := m_at_of r_M_apart (by decide +kernel)
theorem i_M_apart_13 : m_at k_M_apart 13 = some (.bipush 112, 2, 0) := m_at_of r_M_apart (by decide +kernel)
theorem i_M_apart_15 : m_at k_M_apart 15 = some (.iload_n 2, 1, 0) := m_at_of r_M_apart (by decide +kernel)
theorem i_M_apart_16 : m_at k_M_apart 16 = some (.iadd, 1, 0) := m_at_of r_M_apart (by decide +kernel)
theorem i_M_apart_17 : m_at k_M_apart 17 = some (.iaload, 1, 0) := m_at_of r_M_apart (by decide +kernel)
theorem i_M_apart_18 : m_at k_M_apart 18 = some (.isub, 1, 0) := m_at_of r_M_apart (by decide +kernel)
theorem i_M_apart_19 : m_at k_M_apart 19 = some (.invokestatic 93, 3, 141) := m_at_of r_M_apart (by decide +kernel)
theorem i_M_apart_22 : m_at k_M_apart 22 = some (.ireturn, 1, 0) := m_at_of r_M_apart (by decide +kernel)
set_option maxRecDepth 20000 in
set_option maxHeartbeats 1000000 in
theorem E_M_apart (x : m_X) (s : m_H) (w : Nat) (n1 : Int32) (n2 : Int32) : m_M x k_M_apart [.ref w, .int n1, .int n2] s = if m_isO s w 11 = true then ((m_fR s 11 0 w).bind fun v1 => (m_ia x s v1 ((112 : Int32) + n1)).bind fun v8 => (m_fR s 11 0 w).bind fun v10 => (m_ia x s v10 ((112 : Int32) + n2)).bind fun v17 => m_bI (m_M x k_M_off [.int (v8 - v17)] s) fun v19 s19 => some (some (.int v19), s19)) else none := by
  refine e_M1 (L0 := [some (.ref w), some (.int n1), some (.int n2)]) rfl (by decide +kernel) rfl (q_M_apart _) rfl ?_
  refine e_aload_n i_M_apart_0 rfl ?_
  refine e_getR i_M_apart_1 lf_0 (by decide) ft_11_0 (fun v1 => ?_)
  refine e_bipush (v := 112) i_M_apart_4 (by decide) ?_
  refine e_iload_n i_M_apart_6 rfl ?_
  refine e_iadd i_M_apart_7 ?_
  refine e_iald i_M_apart_8 (fun v8 => ?_)
  refine e_aload_n i_M_apart_9 rfl ?_
  refine e_getR i_M_apart_10 lf_0 (by decide) ft_11_0 (fun v10 => ?_)
  refine e_bipush (v := 112) i_M_apart_13 (by decide) ?_
  refine e_iload_n i_M_apart_15 rfl ?_
  refine e_iadd i_M_apart_16 ?_
  refine e_iald i_M_apart_17 (fun v17 => ?_)
  refine e_isub i_M_apart_18 ?_
  refine e_callI (as := [.int (v8 - v17)]) (st' := []) i_M_apart_19 lm_141 (Or.inl ⟨rfl, rfl⟩) w_M_off rfl rfl rfl (Nat.le_of_ble_eq_true rfl) (Nat.le_of_ble_eq_true rfl) (m_rlt (q_M_off _) (by decide)) rfl (fun v19 s19 => ?_)
  exact e_iretI i_M_apart_22 rfl
theorem i_M_canWed_0 : m_at k_M_canWed 0 = some (.iload_n 1, 1, 0) := m_at_of r_M_canWed (by decide +kernel)
theorem i_M_canWed_1 : m_at k_M_canWed 1 = some (.iconst 1, 1, 0) := m_at_of r_M_canWed (by decide +kernel)
theorem i_M_canWed_2 : m_at k_M_canWed 2 = some (.bipush 6, 2, 0) := m_at_of r_M_canWed (by decide +kernel)
theorem i_M_canWed_4 : m_at k_M_canWed 4 = some (.invokestatic 81, 3, 96) := m_at_of r_M_canWed (by decide +kernel)
theorem i_M_canWed_7 : m_at k_M_canWed 7 = some (.ifCond .eq (17), 3, 0) := m_at_of r_M_canWed (by decide +kernel)
theorem i_M_canWed_10 : m_at k_M_canWed 10 = some (.iload_n 1, 1, 0) := m_at_of r_M_canWed (by decide +kernel)
theorem i_M_canWed_11 : m_at k_M_canWed 11 = some (.aload_n 0, 1, 0) := m_at_of r_M_canWed (by decide +kernel)
theorem i_M_canWed_12 : m_at k_M_canWed 12 = some (.getfield 7, 3, 0) := m_at_of r_M_canWed (by decide +kernel)
theorem i_M_canWed_15 : m_at k_M_canWed 15 = some (.iconst 0, 1, 0) := m_at_of r_M_canWed (by decide +kernel)
theorem i_M_canWed_16 : m_at k_M_canWed 16 = some (.iaload, 1, 0) := m_at_of r_M_canWed (by decide +kernel)
theorem i_M_canWed_17 : m_at k_M_canWed 17 = some (.if_icmp .ge (7), 3, 0) := m_at_of r_M_canWed (by decide +kernel)
theorem i_M_canWed_20 : m_at k_M_canWed 20 = some (.iconst 1, 1, 0) := m_at_of r_M_canWed (by decide +kernel)
theorem i_M_canWed_21 : m_at k_M_canWed 21 = some (.goto (4), 3, 0) := m_at_of r_M_canWed (by decide +kernel)
theorem i_M_canWed_24 : m_at k_M_canWed 24 = some (.iconst 0, 1, 0) := m_at_of r_M_canWed (by decide +kernel)
theorem i_M_canWed_25 : m_at k_M_canWed 25 = some (.ireturn, 1, 0) := m_at_of r_M_canWed (by decide +kernel)
set_option maxRecDepth 20000 in
set_option maxHeartbeats 1000000 in
theorem E_M_canWed (x : m_X) (s : m_H) (w : Nat) (n1 : Int32) : m_M x k_M_canWed [.ref w, .int n1] s = if m_isO s w 11 = true then (m_bI (m_M x k_M_isIn [.int n1, .int 1, .int 6] s) fun v4 s4 => if v4 = 0 then (some (some (.int 0), s4)) else (m_fR s4 11 0 w).bind fun v12 => (m_ia x s4 v12 0).bind fun v16 => if v16 ≤ n1 then (some (some (.int 0), s4)) else some (some (.int 1), s4)) else none := by
  refine e_M1 (L0 := [some (.ref w), some (.int n1)]) rfl (by decide +kernel) rfl (q_M_canWed _) rfl ?_
  refine e_iload_n i_M_canWed_0 rfl ?_
  refine e_iconst (v := 1) i_M_canWed_1 (by decide) ?_
  refine e_bipush (v := 6) i_M_canWed_2 (by decide) ?_
  refine e_callI (as := [.int n1, .int 1, .int 6]) (st' := []) i_M_canWed_4 lm_96 (Or.inl ⟨rfl, rfl⟩) w_M_isIn rfl rfl rfl (Nat.le_of_ble_eq_true rfl) (Nat.le_of_ble_eq_true rfl) (m_rlt (q_M_isIn _) (by decide)) rfl (fun v4 s4 => ?_)
  refine e_ifeq (t := 24) i_M_canWed_7 (by decide) ?_ ?_
  · refine e_iconst (v := 0) i_M_canWed_24 (by decide) ?_
    exact e_iretZ i_M_canWed_25 rfl (by decide)
  · refine e_iload_n i_M_canWed_10 rfl ?_
    refine e_aload_n i_M_canWed_11 rfl ?_
    refine e_getR i_M_canWed_12 lf_0 (by decide) ft_11_0 (fun v12 => ?_)
    refine e_iconst (v := 0) i_M_canWed_15 (by decide) ?_
    refine e_iald i_M_canWed_16 (fun v16 => ?_)
    refine e_icmpge (t := 24) i_M_canWed_17 (by decide) ?_ ?_
    · refine e_iconst (v := 0) i_M_canWed_24 (by decide) ?_
      exact e_iretZ i_M_canWed_25 rfl (by decide)
    · refine e_iconst (v := 1) i_M_canWed_20 (by decide) ?_
      refine e_goto (t := 25) i_M_canWed_21 (by decide) ?_
      exact e_iretZ i_M_canWed_25 rfl (by decide)
theorem i_M_tries_0 : m_at k_M_tries 0 = some (.iload_n 1, 1, 0) := m_at_of r_M_tries (by decide +kernel)
theorem i_M_tries_1 : m_at k_M_tries 1 = some (.iconst 1, 1, 0) := m_at_of r_M_tries (by decide +kernel)
theorem i_M_tries_2 : m_at k_M_tries 2 = some (.iconst 1, 1, 0) := m_at_of r_M_tries (by decide +kernel)
theorem i_M_tries_3 : m_at k_M_tries 3 = some (.aload_n 0, 1, 0) := m_at_of r_M_tries (by decide +kernel)
theorem i_M_tries_4 : m_at k_M_tries 4 = some (.getfield 7, 3, 0) := m_at_of r_M_tries (by decide +kernel)
theorem i_M_tries_7 : m_at k_M_tries 7 = some (.iconst 0, 1, 0) := m_at_of r_M_tries (by decide +kernel)
theorem i_M_tries_8 : m_at k_M_tries 8 = some (.iaload, 1, 0) := m_at_of r_M_tries (by decide +kernel)
theorem i_M_tries_9 : m_at k_M_tries 9 = some (.ishl, 1, 0) := m_at_of r_M_tries (by decide +kernel)
theorem i_M_tries_10 : m_at k_M_tries 10 = some (.iconst 1, 1, 0) := m_at_of r_M_tries (by decide +kernel)
theorem i_M_tries_11 : m_at k_M_tries 11 = some (.isub, 1, 0) := m_at_of r_M_tries (by decide +kernel)
theorem i_M_tries_12 : m_at k_M_tries 12 = some (.invokestatic 81, 3, 96) := m_at_of r_M_tries (by decide +kernel)
theorem i_M_tries_15 : m_at k_M_tries 15 = some (.ifCond .ne (6), 3, 0) := m_at_of r_M_tries (by decide +kernel)
theorem i_M_tries_18 : m_at k_M_tries 18 = some (.bipush (-2), 2, 0) := m_at_of r_M_tries (by decide +kernel)
theorem i_M_tries_20 : m_at k_M_tries 20 = some (.ireturn, 1, 0) := m_at_of r_M_tries (by decide +kernel)
theorem i_M_tries_21 : m_at k_M_tries 21 = some (.aload_n 0, 1, 0) := m_at_of r_M_tries (by decide +kernel)
theorem i_M_tries_22 : m_at k_M_tries 22 = some (.iload_n 1, 1, 0) := m_at_of r_M_tries (by decide +kernel)
theorem i_M_tries_23 : m_at k_M_tries 23 = some (.invokevirtual 448, 3, 185) := m_at_of r_M_tries (by decide +kernel)
theorem i_M_tries_26 : m_at k_M_tries 26 = some (.aload_n 0, 1, 0) := m_at_of r_M_tries (by decide +kernel)
theorem i_M_tries_27 : m_at k_M_tries 27 = some (.getfield 56, 3, 65) := m_at_of r_M_tries (by decide +kernel)
theorem i_M_tries_30 : m_at k_M_tries 30 = some (.iload_n 1, 1, 0) := m_at_of r_M_tries (by decide +kernel)
theorem i_M_tries_31 : m_at k_M_tries 31 = some (.iaload, 1, 0) := m_at_of r_M_tries (by decide +kernel)
theorem i_M_tries_32 : m_at k_M_tries 32 = some (.ldc_w 447, 3, 0) := m_at_of r_M_tries (by decide +kernel)
theorem i_M_tries_35 : m_at k_M_tries 35 = some (.if_icmp .lt (8), 3, 0) := m_at_of r_M_tries (by decide +kernel)
theorem i_M_tries_38 : m_at k_M_tries 38 = some (.bipush (-2), 2, 0) := m_at_of r_M_tries (by decide +kernel)
theorem i_M_tries_40 : m_at k_M_tries 40 = some (.goto (22), 3, 0) := m_at_of r_M_tries (by decide +kernel)
theorem i_M_tries_43 : m_at k_M_tries 43 = some (.iload_n 2, 1, 0) := m_at_of r_M_tries (by decide +kernel)
theorem i_M_tries_44 : m_at k_M_tries 44 = some (.ifCond .eq (12), 3, 0) := m_at_of r_M_tries (by decide +kernel)
theorem i_M_tries_47 : m_at k_M_tries 47 = some (.aload_n 0, 1, 0) := m_at_of r_M_tries (by decide +kernel)
theorem i_M_tries_48 : m_at k_M_tries 48 = some (.getfield 59, 3, 66) := m_at_of r_M_tries (by decide +kernel)
theorem i_M_tries_51 : m_at k_M_tries 51 = some (.iload_n 1, 1, 0) := m_at_of r_M_tries (by decide +kernel)
theorem i_M_tries_52 : m_at k_M_tries 52 = some (.iaload, 1, 0) := m_at_of r_M_tries (by decide +kernel)
theorem i_M_tries_53 : m_at k_M_tries 53 = some (.goto (9), 3, 0) := m_at_of r_M_tries (by decide +kernel)
theorem i_M_tries_56 : m_at k_M_tries 56 = some (.aload_n 0, 1, 0) := m_at_of r_M_tries (by decide +kernel)
theorem i_M_tries_57 : m_at k_M_tries 57 = some (.getfield 56, 3, 65) := m_at_of r_M_tries (by decide +kernel)
theorem i_M_tries_60 : m_at k_M_tries 60 = some (.iload_n 1, 1, 0) := m_at_of r_M_tries (by decide +kernel)
theorem i_M_tries_61 : m_at k_M_tries 61 = some (.iaload, 1, 0) := m_at_of r_M_tries (by decide +kernel)
theorem i_M_tries_62 : m_at k_M_tries 62 = some (.ireturn, 1, 0) := m_at_of r_M_tries (by decide +kernel)
set_option maxRecDepth 20000 in
set_option maxHeartbeats 1000000 in
theorem E_M_tries (x : m_X) (s : m_H) (w : Nat) (n1 : Int32) (n2 : Int32) : m_M x k_M_tries [.ref w, .int n1, .int n2] s = if m_isO s w 11 = true then ((m_fR s 11 0 w).bind fun v4 => (m_ia x s v4 0).bind fun v8 => m_bI (m_M x k_M_isIn [.int n1, .int 1, .int (((1 : Int32) <<< (v8 &&& (31 : Int32))) - (1 : Int32))] s) fun v12 s12 => if v12 = 0 then (some (some (.int (-2)), s12)) else m_bV (m_M x k_M_layTries [.ref w, .int n1] s12) fun s23 => (m_fR s23 11 27 w).bind fun v27 => (m_ia x s23 v27 n1).bind fun v31 => if v31 < 1000000000 then (if n2 = 0 then ((m_fR s23 11 27 w).bind fun v57 => (m_ia x s23 v57 n1).bind fun v61 => some (some (.int v61), s23)) else (m_fR s23 11 28 w).bind fun v48 => (m_ia x s23 v48 n1).bind fun v52 => some (some (.int v52), s23)) else some (some (.int (-2)), s23)) else none := by
  refine e_M1 (L0 := [some (.ref w), some (.int n1), some (.int n2)]) rfl (by decide +kernel) rfl (q_M_tries _) rfl ?_
  refine e_iload_n i_M_tries_0 rfl ?_
  refine e_iconst (v := 1) i_M_tries_1 (by decide) ?_
  refine e_iconst (v := 1) i_M_tries_2 (by decide) ?_
  refine e_aload_n i_M_tries_3 rfl ?_
  refine e_getR i_M_tries_4 lf_0 (by decide) ft_11_0 (fun v4 => ?_)
  refine e_iconst (v := 0) i_M_tries_7 (by decide) ?_
  refine e_iald i_M_tries_8 (fun v8 => ?_)
  refine e_ishl i_M_tries_9 ?_
  refine e_iconst (v := 1) i_M_tries_10 (by decide) ?_
  refine e_isub i_M_tries_11 ?_
  refine e_callI (as := [.int n1, .int 1, .int (((1 : Int32) <<< (v8 &&& (31 : Int32))) - (1 : Int32))]) (st' := []) i_M_tries_12 lm_96 (Or.inl ⟨rfl, rfl⟩) w_M_isIn rfl rfl rfl (Nat.le_of_ble_eq_true rfl) (Nat.le_of_ble_eq_true rfl) (m_rlt (q_M_isIn _) (by decide)) rfl (fun v12 s12 => ?_)
  refine e_ifne (t := 21) i_M_tries_15 (by decide) ?_ ?_
  · refine e_aload_n i_M_tries_21 rfl ?_
    refine e_iload_n i_M_tries_22 rfl ?_
    refine e_callV (as := [.ref w, .int n1]) (st' := []) i_M_tries_23 lm_185 (Or.inr (Or.inl ⟨rfl, rfl⟩)) w_M_layTries rfl rfl rfl (Nat.le_of_ble_eq_true rfl) (Nat.le_of_ble_eq_true rfl) (m_rlt (q_M_layTries _) (by decide)) rfl (fun s23 => ?_)
    refine e_aload_n i_M_tries_26 rfl ?_
    refine e_getR i_M_tries_27 lf_65 (by decide) ft_11_27 (fun v27 => ?_)
    refine e_iload_n i_M_tries_30 rfl ?_
    refine e_iald i_M_tries_31 (fun v31 => ?_)
    refine e_ldcw (q := (1, 447, 1000000000)) i_M_tries_32 (by decide) rfl ?_
    refine e_icmplt (t := 43) i_M_tries_35 (by decide) ?_ ?_
    · refine e_iload_n i_M_tries_43 rfl ?_
      refine e_ifeq (t := 56) i_M_tries_44 (by decide) ?_ ?_
      · refine e_aload_n i_M_tries_56 rfl ?_
        refine e_getR i_M_tries_57 lf_65 (by decide) ft_11_27 (fun v57 => ?_)
        refine e_iload_n i_M_tries_60 rfl ?_
        refine e_iald i_M_tries_61 (fun v61 => ?_)
        exact e_iretI i_M_tries_62 rfl
      · refine e_aload_n i_M_tries_47 rfl ?_
        refine e_getR i_M_tries_48 lf_66 (by decide) ft_11_28 (fun v48 => ?_)
        refine e_iload_n i_M_tries_51 rfl ?_
        refine e_iald i_M_tries_52 (fun v52 => ?_)
        refine e_goto (t := 62) i_M_tries_53 (by decide) ?_
        exact e_iretI i_M_tries_62 rfl
    · refine e_bipush (v := (-2)) i_M_tries_38 (by decide) ?_
      refine e_goto (t := 62) i_M_tries_40 (by decide) ?_
      exact e_iretI i_M_tries_62 rfl
  · refine e_bipush (v := (-2)) i_M_tries_18 (by decide) ?_
    exact e_iretI i_M_tries_20 rfl
theorem i_M_layTries_0 : m_at k_M_layTries 0 = some (.iconst 1, 1, 0) := m_at_of r_M_layTries (by decide +kernel)
theorem i_M_layTries_1 : m_at k_M_layTries 1 = some (.istore_n 2, 1, 0) := m_at_of r_M_layTries (by decide +kernel)
theorem i_M_layTries_2 : m_at k_M_layTries 2 = some (.iload_n 2, 1, 0) := m_at_of r_M_layTries (by decide +kernel)
theorem i_M_layTries_3 : m_at k_M_layTries 3 = some (.iload_n 1, 1, 0) := m_at_of r_M_layTries (by decide +kernel)
theorem i_M_layTries_4 : m_at k_M_layTries 4 = some (.if_icmp .gt (178), 3, 0) := m_at_of r_M_layTries (by decide +kernel)
theorem i_M_layTries_7 : m_at k_M_layTries 7 = some (.iload_n 2, 1, 0) := m_at_of r_M_layTries (by decide +kernel)
theorem i_M_layTries_8 : m_at k_M_layTries 8 = some (.iload_n 1, 1, 0) := m_at_of r_M_layTries (by decide +kernel)
theorem i_M_layTries_9 : m_at k_M_layTries 9 = some (.iconst (-1), 1, 0) := m_at_of r_M_layTries (by decide +kernel)
theorem i_M_layTries_10 : m_at k_M_layTries 10 = some (.ixor, 1, 0) := m_at_of r_M_layTries (by decide +kernel)
theorem i_M_layTries_11 : m_at k_M_layTries 11 = some (.iand, 1, 0) := m_at_of r_M_layTries (by decide +kernel)
theorem i_M_layTries_12 : m_at k_M_layTries 12 = some (.ifCond .eq (6), 3, 0) := m_at_of r_M_layTries (by decide +kernel)
theorem i_M_layTries_15 : m_at k_M_layTries 15 = some (.goto (161), 3, 0) := m_at_of r_M_layTries (by decide +kernel)
theorem i_M_layTries_18 : m_at k_M_layTries 18 = some (.aload_n 0, 1, 0) := m_at_of r_M_layTries (by decide +kernel)
theorem i_M_layTries_19 : m_at k_M_layTries 19 = some (.getfield 56, 3, 65) := m_at_of r_M_layTries (by decide +kernel)
theorem i_M_layTries_22 : m_at k_M_layTries 22 = some (.iload_n 2, 1, 0) := m_at_of r_M_layTries (by decide +kernel)
theorem i_M_layTries_23 : m_at k_M_layTries 23 = some (.iload_n 2, 1, 0) := m_at_of r_M_layTries (by decide +kernel)
theorem i_M_layTries_24 : m_at k_M_layTries 24 = some (.invokestatic 444, 3, 128) := m_at_of r_M_layTries (by decide +kernel)
theorem i_M_layTries_27 : m_at k_M_layTries 27 = some (.iconst 1, 1, 0) := m_at_of r_M_layTries (by decide +kernel)
theorem i_M_layTries_28 : m_at k_M_layTries 28 = some (.if_icmp .ne (7), 3, 0) := m_at_of r_M_layTries (by decide +kernel)
theorem i_M_layTries_31 : m_at k_M_layTries 31 = some (.iconst 0, 1, 0) := m_at_of r_M_layTries (by decide +kernel)
theorem i_M_layTries_32 : m_at k_M_layTries 32 = some (.goto (6), 3, 0) := m_at_of r_M_layTries (by decide +kernel)
theorem i_M_layTries_35 : m_at k_M_layTries 35 = some (.ldc_w 447, 3, 0) := m_at_of r_M_layTries (by decide +kernel)
theorem i_M_layTries_38 : m_at k_M_layTries 38 = some (.iastore, 1, 0) := m_at_of r_M_layTries (by decide +kernel)
theorem i_M_layTries_39 : m_at k_M_layTries 39 = some (.aload_n 0, 1, 0) := m_at_of r_M_layTries (by decide +kernel)
theorem i_M_layTries_40 : m_at k_M_layTries 40 = some (.getfield 59, 3, 66) := m_at_of r_M_layTries (by decide +kernel)
theorem i_M_layTries_43 : m_at k_M_layTries 43 = some (.iload_n 2, 1, 0) := m_at_of r_M_layTries (by decide +kernel)
theorem i_M_layTries_44 : m_at k_M_layTries 44 = some (.iconst (-1), 1, 0) := m_at_of r_M_layTries (by decide +kernel)
theorem i_M_layTries_45 : m_at k_M_layTries 45 = some (.iastore, 1, 0) := m_at_of r_M_layTries (by decide +kernel)
theorem i_M_layTries_46 : m_at k_M_layTries 46 = some (.iconst 0, 1, 0) := m_at_of r_M_layTries (by decide +kernel)
theorem i_M_layTries_47 : m_at k_M_layTries 47 = some (.istore_n 3, 1, 0) := m_at_of r_M_layTries (by decide +kernel)
theorem i_M_layTries_48 : m_at k_M_layTries 48 = some (.iload_n 3, 1, 0) := m_at_of r_M_layTries (by decide +kernel)
theorem i_M_layTries_49 : m_at k_M_layTries 49 = some (.aload_n 0, 1, 0) := m_at_of r_M_layTries (by decide +kernel)
theorem i_M_layTries_50 : m_at k_M_layTries 50 = some (.getfield 7, 3, 0) := m_at_of r_M_layTries (by decide +kernel)
theorem i_M_layTries_53 : m_at k_M_layTries 53 = some (.iconst 4, 1, 0) := m_at_of r_M_layTries (by decide +kernel)
theorem i_M_layTries_54 : m_at k_M_layTries 54 = some (.iaload, 1, 0) := m_at_of r_M_layTries (by decide +kernel)
theorem i_M_layTries_55 : m_at k_M_layTries 55 = some (.if_icmp .ge (121), 3, 0) := m_at_of r_M_layTries (by decide +kernel)
theorem i_M_layTries_58 : m_at k_M_layTries 58 = some (.iload_n 2, 1, 0) := m_at_of r_M_layTries (by decide +kernel)
theorem i_M_layTries_59 : m_at k_M_layTries 59 = some (.aload_n 0, 1, 0) := m_at_of r_M_layTries (by decide +kernel)
theorem i_M_layTries_60 : m_at k_M_layTries 60 = some (.getfield 7, 3, 0) := m_at_of r_M_layTries (by decide +kernel)
theorem i_M_layTries_63 : m_at k_M_layTries 63 = some (.bipush 126, 2, 0) := m_at_of r_M_layTries (by decide +kernel)
theorem i_M_layTries_65 : m_at k_M_layTries 65 = some (.iload_n 3, 1, 0) := m_at_of r_M_layTries (by decide +kernel)
theorem i_M_layTries_66 : m_at k_M_layTries 66 = some (.iadd, 1, 0) := m_at_of r_M_layTries (by decide +kernel)
theorem i_M_layTries_67 : m_at k_M_layTries 67 = some (.iaload, 1, 0) := m_at_of r_M_layTries (by decide +kernel)
theorem i_M_layTries_68 : m_at k_M_layTries 68 = some (.iand, 1, 0) := m_at_of r_M_layTries (by decide +kernel)
theorem i_M_layTries_69 : m_at k_M_layTries 69 = some (.istore 4, 2, 0) := m_at_of r_M_layTries (by decide +kernel)
theorem i_M_layTries_71 : m_at k_M_layTries 71 = some (.iload 4, 2, 0) := m_at_of r_M_layTries (by decide +kernel)
theorem i_M_layTries_73 : m_at k_M_layTries 73 = some (.ifCond .eq (97), 3, 0) := m_at_of r_M_layTries (by decide +kernel)
theorem i_M_layTries_76 : m_at k_M_layTries 76 = some (.iload 4, 2, 0) := m_at_of r_M_layTries (by decide +kernel)
theorem i_M_layTries_78 : m_at k_M_layTries 78 = some (.iload_n 2, 1, 0) := m_at_of r_M_layTries (by decide +kernel)
theorem i_M_layTries_79 : m_at k_M_layTries 79 = some (.if_icmp .ne (6), 3, 0) := m_at_of r_M_layTries (by decide +kernel)
theorem i_M_layTries_82 : m_at k_M_layTries 82 = some (.goto (88), 3, 0) := m_at_of r_M_layTries (by decide +kernel)
theorem i_M_layTries_85 : m_at k_M_layTries 85 = some (.aload_n 0, 1, 0) := m_at_of r_M_layTries (by decide +kernel)
theorem i_M_layTries_86 : m_at k_M_layTries 86 = some (.getfield 56, 3, 65) := m_at_of r_M_layTries (by decide +kernel)
theorem i_M_layTries_89 : m_at k_M_layTries 89 = some (.iload 4, 2, 0) := m_at_of r_M_layTries (by decide +kernel)
theorem i_M_layTries_91 : m_at k_M_layTries 91 = some (.iaload, 1, 0) := m_at_of r_M_layTries (by decide +kernel)
theorem i_M_layTries_92 : m_at k_M_layTries 92 = some (.aload_n 0, 1, 0) := m_at_of r_M_layTries (by decide +kernel)
theorem i_M_layTries_93 : m_at k_M_layTries 93 = some (.getfield 56, 3, 65) := m_at_of r_M_layTries (by decide +kernel)
theorem i_M_layTries_96 : m_at k_M_layTries 96 = some (.iload_n 2, 1, 0) := m_at_of r_M_layTries (by decide +kernel)
theorem i_M_layTries_97 : m_at k_M_layTries 97 = some (.iload 4, 2, 0) := m_at_of r_M_layTries (by decide +kernel)
theorem i_M_layTries_99 : m_at k_M_layTries 99 = some (.iconst (-1), 1, 0) := m_at_of r_M_layTries (by decide +kernel)
theorem i_M_layTries_100 : m_at k_M_layTries 100 = some (.ixor, 1, 0) := m_at_of r_M_layTries (by decide +kernel)
theorem i_M_layTries_101 : m_at k_M_layTries 101 = some (.iand, 1, 0) := m_at_of r_M_layTries (by decide +kernel)
theorem i_M_layTries_102 : m_at k_M_layTries 102 = some (.iaload, 1, 0) := m_at_of r_M_layTries (by decide +kernel)
theorem i_M_layTries_103 : m_at k_M_layTries 103 = some (.if_icmp .le (13), 3, 0) := m_at_of r_M_layTries (by decide +kernel)
theorem i_M_layTries_106 : m_at k_M_layTries 106 = some (.aload_n 0, 1, 0) := m_at_of r_M_layTries (by decide +kernel)
theorem i_M_layTries_107 : m_at k_M_layTries 107 = some (.getfield 56, 3, 65) := m_at_of r_M_layTries (by decide +kernel)
theorem i_M_layTries_110 : m_at k_M_layTries 110 = some (.iload 4, 2, 0) := m_at_of r_M_layTries (by decide +kernel)
theorem i_M_layTries_112 : m_at k_M_layTries 112 = some (.iaload, 1, 0) := m_at_of r_M_layTries (by decide +kernel)
theorem i_M_layTries_113 : m_at k_M_layTries 113 = some (.goto (14), 3, 0) := m_at_of r_M_layTries (by decide +kernel)
theorem i_M_layTries_116 : m_at k_M_layTries 116 = some (.aload_n 0, 1, 0) := m_at_of r_M_layTries (by decide +kernel)
theorem i_M_layTries_117 : m_at k_M_layTries 117 = some (.getfield 56, 3, 65) := m_at_of r_M_layTries (by decide +kernel)
theorem i_M_layTries_120 : m_at k_M_layTries 120 = some (.iload_n 2, 1, 0) := m_at_of r_M_layTries (by decide +kernel)
theorem i_M_layTries_121 : m_at k_M_layTries 121 = some (.iload 4, 2, 0) := m_at_of r_M_layTries (by decide +kernel)
theorem i_M_layTries_123 : m_at k_M_layTries 123 = some (.iconst (-1), 1, 0) := m_at_of r_M_layTries (by decide +kernel)
theorem i_M_layTries_124 : m_at k_M_layTries 124 = some (.ixor, 1, 0) := m_at_of r_M_layTries (by decide +kernel)
theorem i_M_layTries_125 : m_at k_M_layTries 125 = some (.iand, 1, 0) := m_at_of r_M_layTries (by decide +kernel)
theorem i_M_layTries_126 : m_at k_M_layTries 126 = some (.iaload, 1, 0) := m_at_of r_M_layTries (by decide +kernel)
theorem i_M_layTries_127 : m_at k_M_layTries 127 = some (.istore 5, 2, 0) := m_at_of r_M_layTries (by decide +kernel)
theorem i_M_layTries_129 : m_at k_M_layTries 129 = some (.iload 5, 2, 0) := m_at_of r_M_layTries (by decide +kernel)
theorem i_M_layTries_131 : m_at k_M_layTries 131 = some (.ldc_w 447, 3, 0) := m_at_of r_M_layTries (by decide +kernel)
theorem i_M_layTries_134 : m_at k_M_layTries 134 = some (.if_icmp .ge (36), 3, 0) := m_at_of r_M_layTries (by decide +kernel)
theorem i_M_layTries_137 : m_at k_M_layTries 137 = some (.iload 5, 2, 0) := m_at_of r_M_layTries (by decide +kernel)
theorem i_M_layTries_139 : m_at k_M_layTries 139 = some (.iconst 1, 1, 0) := m_at_of r_M_layTries (by decide +kernel)
theorem i_M_layTries_140 : m_at k_M_layTries 140 = some (.iadd, 1, 0) := m_at_of r_M_layTries (by decide +kernel)
theorem i_M_layTries_141 : m_at k_M_layTries 141 = some (.aload_n 0, 1, 0) := m_at_of r_M_layTries (by decide +kernel)
theorem i_M_layTries_142 : m_at k_M_layTries 142 = some (.getfield 56, 3, 65) := m_at_of r_M_layTries (by decide +kernel)
theorem i_M_layTries_145 : m_at k_M_layTries 145 = some (.iload_n 2, 1, 0) := m_at_of r_M_layTries (by decide +kernel)
theorem i_M_layTries_146 : m_at k_M_layTries 146 = some (.iaload, 1, 0) := m_at_of r_M_layTries (by decide +kernel)
theorem i_M_layTries_147 : m_at k_M_layTries 147 = some (.if_icmp .lt (6), 3, 0) := m_at_of r_M_layTries (by decide +kernel)
theorem i_M_layTries_150 : m_at k_M_layTries 150 = some (.goto (20), 3, 0) := m_at_of r_M_layTries (by decide +kernel)
theorem i_M_layTries_153 : m_at k_M_layTries 153 = some (.aload_n 0, 1, 0) := m_at_of r_M_layTries (by decide +kernel)
theorem i_M_layTries_154 : m_at k_M_layTries 154 = some (.getfield 56, 3, 65) := m_at_of r_M_layTries (by decide +kernel)
theorem i_M_layTries_157 : m_at k_M_layTries 157 = some (.iload_n 2, 1, 0) := m_at_of r_M_layTries (by decide +kernel)
theorem i_M_layTries_158 : m_at k_M_layTries 158 = some (.iload 5, 2, 0) := m_at_of r_M_layTries (by decide +kernel)
theorem i_M_layTries_160 : m_at k_M_layTries 160 = some (.iconst 1, 1, 0) := m_at_of r_M_layTries (by decide +kernel)
theorem i_M_layTries_161 : m_at k_M_layTries 161 = some (.iadd, 1, 0) := m_at_of r_M_layTries (by decide +kernel)
theorem i_M_layTries_162 : m_at k_M_layTries 162 = some (.iastore, 1, 0) := m_at_of r_M_layTries (by decide +kernel)
theorem i_M_layTries_163 : m_at k_M_layTries 163 = some (.aload_n 0, 1, 0) := m_at_of r_M_layTries (by decide +kernel)
theorem i_M_layTries_164 : m_at k_M_layTries 164 = some (.getfield 59, 3, 66) := m_at_of r_M_layTries (by decide +kernel)
theorem i_M_layTries_167 : m_at k_M_layTries 167 = some (.iload_n 2, 1, 0) := m_at_of r_M_layTries (by decide +kernel)
theorem i_M_layTries_168 : m_at k_M_layTries 168 = some (.iload_n 3, 1, 0) := m_at_of r_M_layTries (by decide +kernel)
theorem i_M_layTries_169 : m_at k_M_layTries 169 = some (.iastore, 1, 0) := m_at_of r_M_layTries (by decide +kernel)
theorem i_M_layTries_170 : m_at k_M_layTries 170 = some (.iinc 3 (1), 3, 0) := m_at_of r_M_layTries (by decide +kernel)
theorem i_M_layTries_173 : m_at k_M_layTries 173 = some (.goto (-125), 3, 0) := m_at_of r_M_layTries (by decide +kernel)
theorem i_M_layTries_176 : m_at k_M_layTries 176 = some (.iinc 2 (1), 3, 0) := m_at_of r_M_layTries (by decide +kernel)
theorem i_M_layTries_179 : m_at k_M_layTries 179 = some (.goto (-177), 3, 0) := m_at_of r_M_layTries (by decide +kernel)
theorem i_M_layTries_182 : m_at k_M_layTries 182 = some (.return_, 1, 0) := m_at_of r_M_layTries (by decide +kernel)
set_option maxRecDepth 20000 in
set_option maxHeartbeats 1000000 in
theorem E_M_layTries (x : m_X) (s : m_H) (w : Nat) (n1 : Int32) : m_M x k_M_layTries [.ref w, .int n1] s = if m_isO s w 11 = true then (m_D x 2 k_M_layTries 2 [some (.ref w), some (.int n1), some (.int 1), none, none, none] [] s) else none := by
  refine e_M1 (L0 := [some (.ref w), some (.int n1), none, none, none, none]) rfl (by decide +kernel) rfl (q_M_layTries _) rfl ?_
  refine e_iconst (v := 1) i_M_layTries_0 (by decide) ?_
  refine e_istore_n (L' := [some (.ref w), some (.int n1), some (.int 1), none, none, none]) i_M_layTries_1 (of_decide_eq_true rfl) rfl ?_
  exact rfl
set_option maxRecDepth 20000 in
set_option maxHeartbeats 1000000 in
theorem E_M_layTries_2 (x : m_X) (ρ : Nat) (hρ : 2 ≤ ρ) (s : m_H) (w : Nat) (n1 : Int32) (n2 : Int32) (d3 : Option Value) (d4 : Option Value) (d5 : Option Value) (hd3 : m_nl d3 = true) (hd4 : m_nl d4 = true) (hd5 : m_nl d5 = true) : m_D x ρ k_M_layTries 2 [some (.ref w), some (.int n1), some (.int n2), d3, d4, d5] [] s = if n1 < n2 then (some (none, s)) else if (n2 &&& (n1 ^^^ (-1 : Int32))) = 0 then ((m_fR s 11 27 w).bind fun v19 => m_bI (m_M x k_M_bits [.int n2] s) fun v24 s24 => if v24 = 1 then ((m_is s24 v19 n2 0).bind fun s38 => (m_fR s38 11 28 w).bind fun v40 => (m_is s38 v40 n2 (-1)).bind fun s45 => m_D x ρ k_M_layTries 48 [some (.ref w), some (.int n1), some (.int n2), some (.int 0), d4, d5] [] s45) else (m_is s24 v19 n2 1000000000).bind fun s38 => (m_fR s38 11 28 w).bind fun v40 => (m_is s38 v40 n2 (-1)).bind fun s45 => m_D x ρ k_M_layTries 48 [some (.ref w), some (.int n1), some (.int n2), some (.int 0), d4, d5] [] s45) else m_D x ρ k_M_layTries 2 [some (.ref w), some (.int n1), some (.int (n2 + (1 : Int32))), d3, d4, d5] [] s := by
  refine e_iload_n i_M_layTries_2 rfl ?_
  refine e_iload_n i_M_layTries_3 rfl ?_
  refine e_icmpgt (t := 182) i_M_layTries_4 (by decide) ?_ ?_
  · exact e_vret i_M_layTries_182 rfl
  · refine e_iload_n i_M_layTries_7 rfl ?_
    refine e_iload_n i_M_layTries_8 rfl ?_
    refine e_iconst (v := (-1)) i_M_layTries_9 (by decide) ?_
    refine e_ixor i_M_layTries_10 ?_
    refine e_iand i_M_layTries_11 ?_
    refine e_ifeq (t := 18) i_M_layTries_12 (by decide) ?_ ?_
    · refine e_aload_n i_M_layTries_18 rfl ?_
      refine e_getR i_M_layTries_19 lf_65 (by decide) ft_11_27 (fun v19 => ?_)
      refine e_iload_n i_M_layTries_22 rfl ?_
      refine e_iload_n i_M_layTries_23 rfl ?_
      refine e_callI (as := [.int n2]) (st' := [.int n2, .ref v19]) i_M_layTries_24 lm_128 (Or.inl ⟨rfl, rfl⟩) w_M_bits rfl rfl rfl (Nat.le_of_ble_eq_true rfl) (Nat.le_of_ble_eq_true rfl) (m_rlt (q_M_bits _) (Nat.lt_of_lt_of_le (by decide) hρ)) rfl (fun v24 s24 => ?_)
      refine e_iconst (v := 1) i_M_layTries_27 (by decide) ?_
      refine e_icmpne (t := 35) i_M_layTries_28 (by decide) ?_ ?_
      · refine e_ldcw (q := (1, 447, 1000000000)) i_M_layTries_35 (by decide) rfl ?_
        refine e_iast i_M_layTries_38 (fun s38 => ?_)
        refine e_aload_n i_M_layTries_39 rfl ?_
        refine e_getR i_M_layTries_40 lf_66 (by decide) ft_11_28 (fun v40 => ?_)
        refine e_iload_n i_M_layTries_43 rfl ?_
        refine e_iconst (v := (-1)) i_M_layTries_44 (by decide) ?_
        refine e_iast i_M_layTries_45 (fun s45 => ?_)
        refine e_iconst (v := 0) i_M_layTries_46 (by decide) ?_
        refine e_istore_n (L' := [some (.ref w), some (.int n1), some (.int n2), some (.int 0), d4, d5]) i_M_layTries_47 (of_decide_eq_true rfl) rfl ?_
        exact rfl
      · refine e_iconst (v := 0) i_M_layTries_31 (by decide) ?_
        refine e_goto (t := 38) i_M_layTries_32 (by decide) ?_
        refine e_iast i_M_layTries_38 (fun s38 => ?_)
        refine e_aload_n i_M_layTries_39 rfl ?_
        refine e_getR i_M_layTries_40 lf_66 (by decide) ft_11_28 (fun v40 => ?_)
        refine e_iload_n i_M_layTries_43 rfl ?_
        refine e_iconst (v := (-1)) i_M_layTries_44 (by decide) ?_
        refine e_iast i_M_layTries_45 (fun s45 => ?_)
        refine e_iconst (v := 0) i_M_layTries_46 (by decide) ?_
        refine e_istore_n (L' := [some (.ref w), some (.int n1), some (.int n2), some (.int 0), d4, d5]) i_M_layTries_47 (of_decide_eq_true rfl) rfl ?_
        exact rfl
    · refine e_goto (t := 176) i_M_layTries_15 (by decide) ?_
      refine e_iinc (w := 1) (L' := [some (.ref w), some (.int n1), some (.int (n2 + (1 : Int32))), d3, d4, d5]) i_M_layTries_176 rfl (of_decide_eq_true rfl) (by decide) rfl ?_
      refine e_goto (t := 2) i_M_layTries_179 (by decide) ?_
      exact rfl
set_option maxRecDepth 20000 in
set_option maxHeartbeats 1000000 in
theorem E_M_layTries_48 (x : m_X) (ρ : Nat) (hρ : 2 ≤ ρ) (s : m_H) (w : Nat) (n1 : Int32) (n2 : Int32) (n3 : Int32) (d4 : Option Value) (d5 : Option Value) (hd4 : m_nl d4 = true) (hd5 : m_nl d5 = true) : m_D x ρ k_M_layTries 48 [some (.ref w), some (.int n1), some (.int n2), some (.int n3), d4, d5] [] s = (m_fR s 11 0 w).bind fun v50 => (m_ia x s v50 4).bind fun v54 => if v54 ≤ n3 then (m_D x ρ k_M_layTries 2 [some (.ref w), some (.int n1), some (.int (n2 + (1 : Int32))), some (.int n3), d4, d5] [] s) else (m_fR s 11 0 w).bind fun v60 => (m_ia x s v60 ((126 : Int32) + n3)).bind fun v67 => if (n2 &&& v67) = 0 then (m_D x ρ k_M_layTries 48 [some (.ref w), some (.int n1), some (.int n2), some (.int (n3 + (1 : Int32))), some (.int (n2 &&& v67)), d5] [] s) else if (n2 &&& v67) = n2 then (m_D x ρ k_M_layTries 48 [some (.ref w), some (.int n1), some (.int n2), some (.int (n3 + (1 : Int32))), some (.int (n2 &&& v67)), d5] [] s) else (m_fR s 11 27 w).bind fun v86 => (m_ia x s v86 (n2 &&& v67)).bind fun v91 => (m_fR s 11 27 w).bind fun v93 => (m_ia x s v93 (n2 &&& ((n2 &&& v67) ^^^ (-1 : Int32)))).bind fun v102 => if v91 ≤ v102 then ((m_fR s 11 27 w).bind fun v117 => (m_ia x s v117 (n2 &&& ((n2 &&& v67) ^^^ (-1 : Int32)))).bind fun v126 => m_D x ρ k_M_layTries 127 [some (.ref w), some (.int n1), some (.int n2), some (.int n3), some (.int (n2 &&& v67)), d5] [.int v126] s) else (m_fR s 11 27 w).bind fun v107 => (m_ia x s v107 (n2 &&& v67)).bind fun v112 => m_D x ρ k_M_layTries 127 [some (.ref w), some (.int n1), some (.int n2), some (.int n3), some (.int (n2 &&& v67)), d5] [.int v112] s := by
  refine e_iload_n i_M_layTries_48 rfl ?_
  refine e_aload_n i_M_layTries_49 rfl ?_
  refine e_getR i_M_layTries_50 lf_0 (by decide) ft_11_0 (fun v50 => ?_)
  refine e_iconst (v := 4) i_M_layTries_53 (by decide) ?_
  refine e_iald i_M_layTries_54 (fun v54 => ?_)
  refine e_icmpge (t := 176) i_M_layTries_55 (by decide) ?_ ?_
  · refine e_iinc (w := 1) (L' := [some (.ref w), some (.int n1), some (.int (n2 + (1 : Int32))), some (.int n3), d4, d5]) i_M_layTries_176 rfl (of_decide_eq_true rfl) (by decide) rfl ?_
    refine e_goto (t := 2) i_M_layTries_179 (by decide) ?_
    exact rfl
  · refine e_iload_n i_M_layTries_58 rfl ?_
    refine e_aload_n i_M_layTries_59 rfl ?_
    refine e_getR i_M_layTries_60 lf_0 (by decide) ft_11_0 (fun v60 => ?_)
    refine e_bipush (v := 126) i_M_layTries_63 (by decide) ?_
    refine e_iload_n i_M_layTries_65 rfl ?_
    refine e_iadd i_M_layTries_66 ?_
    refine e_iald i_M_layTries_67 (fun v67 => ?_)
    refine e_iand i_M_layTries_68 ?_
    refine e_istore (L' := [some (.ref w), some (.int n1), some (.int n2), some (.int n3), some (.int (n2 &&& v67)), d5]) i_M_layTries_69 (of_decide_eq_true rfl) rfl ?_
    refine e_iload i_M_layTries_71 rfl ?_
    refine e_ifeq (t := 170) i_M_layTries_73 (by decide) ?_ ?_
    · refine e_iinc (w := 1) (L' := [some (.ref w), some (.int n1), some (.int n2), some (.int (n3 + (1 : Int32))), some (.int (n2 &&& v67)), d5]) i_M_layTries_170 rfl (of_decide_eq_true rfl) (by decide) rfl ?_
      refine e_goto (t := 48) i_M_layTries_173 (by decide) ?_
      exact rfl
    · refine e_iload i_M_layTries_76 rfl ?_
      refine e_iload_n i_M_layTries_78 rfl ?_
      refine e_icmpne (t := 85) i_M_layTries_79 (by decide) ?_ ?_
      · refine e_aload_n i_M_layTries_85 rfl ?_
        refine e_getR i_M_layTries_86 lf_65 (by decide) ft_11_27 (fun v86 => ?_)
        refine e_iload i_M_layTries_89 rfl ?_
        refine e_iald i_M_layTries_91 (fun v91 => ?_)
        refine e_aload_n i_M_layTries_92 rfl ?_
        refine e_getR i_M_layTries_93 lf_65 (by decide) ft_11_27 (fun v93 => ?_)
        refine e_iload_n i_M_layTries_96 rfl ?_
        refine e_iload i_M_layTries_97 rfl ?_
        refine e_iconst (v := (-1)) i_M_layTries_99 (by decide) ?_
        refine e_ixor i_M_layTries_100 ?_
        refine e_iand i_M_layTries_101 ?_
        refine e_iald i_M_layTries_102 (fun v102 => ?_)
        refine e_icmple (t := 116) i_M_layTries_103 (by decide) ?_ ?_
        · refine e_aload_n i_M_layTries_116 rfl ?_
          refine e_getR i_M_layTries_117 lf_65 (by decide) ft_11_27 (fun v117 => ?_)
          refine e_iload_n i_M_layTries_120 rfl ?_
          refine e_iload i_M_layTries_121 rfl ?_
          refine e_iconst (v := (-1)) i_M_layTries_123 (by decide) ?_
          refine e_ixor i_M_layTries_124 ?_
          refine e_iand i_M_layTries_125 ?_
          refine e_iald i_M_layTries_126 (fun v126 => ?_)
          exact rfl
        · refine e_aload_n i_M_layTries_106 rfl ?_
          refine e_getR i_M_layTries_107 lf_65 (by decide) ft_11_27 (fun v107 => ?_)
          refine e_iload i_M_layTries_110 rfl ?_
          refine e_iald i_M_layTries_112 (fun v112 => ?_)
          refine e_goto (t := 127) i_M_layTries_113 (by decide) ?_
          exact rfl
      · refine e_goto (t := 170) i_M_layTries_82 (by decide) ?_
        refine e_iinc (w := 1) (L' := [some (.ref w), some (.int n1), some (.int n2), some (.int (n3 + (1 : Int32))), some (.int (n2 &&& v67)), d5]) i_M_layTries_170 rfl (of_decide_eq_true rfl) (by decide) rfl ?_
        refine e_goto (t := 48) i_M_layTries_173 (by decide) ?_
        exact rfl
set_option maxRecDepth 20000 in
set_option maxHeartbeats 1000000 in
theorem E_M_layTries_127 (x : m_X) (ρ : Nat) (hρ : 2 ≤ ρ) (s : m_H) (w : Nat) (n1 : Int32) (n2 : Int32) (n3 : Int32) (n4 : Int32) (d5 : Option Value) (nt0 : Int32) (hd5 : m_nl d5 = true) : m_D x ρ k_M_layTries 127 [some (.ref w), some (.int n1), some (.int n2), some (.int n3), some (.int n4), d5] [.int nt0] s = if 1000000000 ≤ nt0 then (m_D x ρ k_M_layTries 48 [some (.ref w), some (.int n1), some (.int n2), some (.int (n3 + (1 : Int32))), some (.int n4), some (.int nt0)] [] s) else (m_fR s 11 27 w).bind fun v142 => (m_ia x s v142 n2).bind fun v146 => if (nt0 + (1 : Int32)) < v146 then ((m_fR s 11 27 w).bind fun v154 => (m_is s v154 n2 (nt0 + (1 : Int32))).bind fun s162 => (m_fR s162 11 28 w).bind fun v164 => (m_is s162 v164 n2 n3).bind fun s169 => m_D x ρ k_M_layTries 48 [some (.ref w), some (.int n1), some (.int n2), some (.int (n3 + (1 : Int32))), some (.int n4), some (.int nt0)] [] s169) else m_D x ρ k_M_layTries 48 [some (.ref w), some (.int n1), some (.int n2), some (.int (n3 + (1 : Int32))), some (.int n4), some (.int nt0)] [] s := by
  refine e_istore (L' := [some (.ref w), some (.int n1), some (.int n2), some (.int n3), some (.int n4), some (.int nt0)]) i_M_layTries_127 (of_decide_eq_true rfl) rfl ?_
  refine e_iload i_M_layTries_129 rfl ?_
  refine e_ldcw (q := (1, 447, 1000000000)) i_M_layTries_131 (by decide) rfl ?_
  refine e_icmpge (t := 170) i_M_layTries_134 (by decide) ?_ ?_
  · refine e_iinc (w := 1) (L' := [some (.ref w), some (.int n1), some (.int n2), some (.int (n3 + (1 : Int32))), some (.int n4), some (.int nt0)]) i_M_layTries_170 rfl (of_decide_eq_true rfl) (by decide) rfl ?_
    refine e_goto (t := 48) i_M_layTries_173 (by decide) ?_
    exact rfl
  · refine e_iload i_M_layTries_137 rfl ?_
    refine e_iconst (v := 1) i_M_layTries_139 (by decide) ?_
    refine e_iadd i_M_layTries_140 ?_
    refine e_aload_n i_M_layTries_141 rfl ?_
    refine e_getR i_M_layTries_142 lf_65 (by decide) ft_11_27 (fun v142 => ?_)
    refine e_iload_n i_M_layTries_145 rfl ?_
    refine e_iald i_M_layTries_146 (fun v146 => ?_)
    refine e_icmplt (t := 153) i_M_layTries_147 (by decide) ?_ ?_
    · refine e_aload_n i_M_layTries_153 rfl ?_
      refine e_getR i_M_layTries_154 lf_65 (by decide) ft_11_27 (fun v154 => ?_)
      refine e_iload_n i_M_layTries_157 rfl ?_
      refine e_iload i_M_layTries_158 rfl ?_
      refine e_iconst (v := 1) i_M_layTries_160 (by decide) ?_
      refine e_iadd i_M_layTries_161 ?_
      refine e_iast i_M_layTries_162 (fun s162 => ?_)
      refine e_aload_n i_M_layTries_163 rfl ?_
      refine e_getR i_M_layTries_164 lf_66 (by decide) ft_11_28 (fun v164 => ?_)
      refine e_iload_n i_M_layTries_167 rfl ?_
      refine e_iload_n i_M_layTries_168 rfl ?_
      refine e_iast i_M_layTries_169 (fun s169 => ?_)
      refine e_iinc (w := 1) (L' := [some (.ref w), some (.int n1), some (.int n2), some (.int (n3 + (1 : Int32))), some (.int n4), some (.int nt0)]) i_M_layTries_170 rfl (of_decide_eq_true rfl) (by decide) rfl ?_
      refine e_goto (t := 48) i_M_layTries_173 (by decide) ?_
      exact rfl
    · refine e_goto (t := 170) i_M_layTries_150 (by decide) ?_
      refine e_iinc (w := 1) (L' := [some (.ref w), some (.int n1), some (.int n2), some (.int (n3 + (1 : Int32))), some (.int n4), some (.int nt0)]) i_M_layTries_170 rfl (of_decide_eq_true rfl) (by decide) rfl ?_
      refine e_goto (t := 48) i_M_layTries_173 (by decide) ?_
      exact rfl
theorem i_M_bits_0 : m_at k_M_bits 0 = some (.iconst 0, 1, 0) := m_at_of r_M_bits (by decide +kernel)
theorem i_M_bits_1 : m_at k_M_bits 1 = some (.istore_n 1, 1, 0) := m_at_of r_M_bits (by decide +kernel)
theorem i_M_bits_2 : m_at k_M_bits 2 = some (.iload_n 0, 1, 0) := m_at_of r_M_bits (by decide +kernel)
theorem i_M_bits_3 : m_at k_M_bits 3 = some (.istore_n 2, 1, 0) := m_at_of r_M_bits (by decide +kernel)
theorem i_M_bits_4 : m_at k_M_bits 4 = some (.iload_n 2, 1, 0) := m_at_of r_M_bits (by decide +kernel)
theorem i_M_bits_5 : m_at k_M_bits 5 = some (.ifCond .eq (15), 3, 0) := m_at_of r_M_bits (by decide +kernel)
theorem i_M_bits_8 : m_at k_M_bits 8 = some (.iinc 1 (1), 3, 0) := m_at_of r_M_bits (by decide +kernel)
theorem i_M_bits_11 : m_at k_M_bits 11 = some (.iload_n 2, 1, 0) := m_at_of r_M_bits (by decide +kernel)
theorem i_M_bits_12 : m_at k_M_bits 12 = some (.iload_n 2, 1, 0) := m_at_of r_M_bits (by decide +kernel)
theorem i_M_bits_13 : m_at k_M_bits 13 = some (.iconst 1, 1, 0) := m_at_of r_M_bits (by decide +kernel)
theorem i_M_bits_14 : m_at k_M_bits 14 = some (.isub, 1, 0) := m_at_of r_M_bits (by decide +kernel)
theorem i_M_bits_15 : m_at k_M_bits 15 = some (.iand, 1, 0) := m_at_of r_M_bits (by decide +kernel)
theorem i_M_bits_16 : m_at k_M_bits 16 = some (.istore_n 2, 1, 0) := m_at_of r_M_bits (by decide +kernel)
theorem i_M_bits_17 : m_at k_M_bits 17 = some (.goto (-13), 3, 0) := m_at_of r_M_bits (by decide +kernel)
theorem i_M_bits_20 : m_at k_M_bits 20 = some (.iload_n 1, 1, 0) := m_at_of r_M_bits (by decide +kernel)
theorem i_M_bits_21 : m_at k_M_bits 21 = some (.ireturn, 1, 0) := m_at_of r_M_bits (by decide +kernel)
set_option maxRecDepth 20000 in
set_option maxHeartbeats 1000000 in
theorem E_M_bits (x : m_X) (s : m_H) (n0 : Int32) : m_M x k_M_bits [.int n0] s = m_D x 1 k_M_bits 4 [some (.int n0), some (.int 0), some (.int n0)] [] s := by
  refine e_M0 (L0 := [some (.int n0), none, none]) rfl (q_M_bits _) rfl ?_
  refine e_iconst (v := 0) i_M_bits_0 (by decide) ?_
  refine e_istore_n (L' := [some (.int n0), some (.int 0), none]) i_M_bits_1 (of_decide_eq_true rfl) rfl ?_
  refine e_iload_n i_M_bits_2 rfl ?_
  refine e_istore_n (L' := [some (.int n0), some (.int 0), some (.int n0)]) i_M_bits_3 (of_decide_eq_true rfl) rfl ?_
  exact rfl
set_option maxRecDepth 20000 in
set_option maxHeartbeats 1000000 in
theorem E_M_bits_4 (x : m_X) (ρ : Nat) (hρ : 1 ≤ ρ) (s : m_H) (n0 : Int32) (n1 : Int32) (n2 : Int32)  : m_D x ρ k_M_bits 4 [some (.int n0), some (.int n1), some (.int n2)] [] s = if n2 = 0 then (some (some (.int n1), s)) else m_D x ρ k_M_bits 4 [some (.int n0), some (.int (n1 + (1 : Int32))), some (.int (n2 &&& (n2 - (1 : Int32))))] [] s := by
  refine e_iload_n i_M_bits_4 rfl ?_
  refine e_ifeq (t := 20) i_M_bits_5 (by decide) ?_ ?_
  · refine e_iload_n i_M_bits_20 rfl ?_
    exact e_iretI i_M_bits_21 rfl
  · refine e_iinc (w := 1) (L' := [some (.int n0), some (.int (n1 + (1 : Int32))), some (.int n2)]) i_M_bits_8 rfl (of_decide_eq_true rfl) (by decide) rfl ?_
    refine e_iload_n i_M_bits_11 rfl ?_
    refine e_iload_n i_M_bits_12 rfl ?_
    refine e_iconst (v := 1) i_M_bits_13 (by decide) ?_
    refine e_isub i_M_bits_14 ?_
    refine e_iand i_M_bits_15 ?_
    refine e_istore_n (L' := [some (.int n0), some (.int (n1 + (1 : Int32))), some (.int (n2 &&& (n2 - (1 : Int32))))]) i_M_bits_16 (of_decide_eq_true rfl) rfl ?_
    refine e_goto (t := 4) i_M_bits_17 (by decide) ?_
    exact rfl
theorem i_M_test_0 : m_at k_M_test 0 = some (.iload_n 1, 1, 0) := m_at_of r_M_test (by decide +kernel)
theorem i_M_test_1 : m_at k_M_test 1 = some (.iconst (-1), 1, 0) := m_at_of r_M_test (by decide +kernel)
theorem i_M_test_2 : m_at k_M_test 2 = some (.if_icmp .ne (12), 3, 0) := m_at_of r_M_test (by decide +kernel)
theorem i_M_test_5 : m_at k_M_test 5 = some (.aload_n 0, 1, 0) := m_at_of r_M_test (by decide +kernel)
theorem i_M_test_6 : m_at k_M_test 6 = some (.getfield 7, 3, 0) := m_at_of r_M_test (by decide +kernel)
theorem i_M_test_9 : m_at k_M_test 9 = some (.iconst 4, 1, 0) := m_at_of r_M_test (by decide +kernel)
theorem i_M_test_10 : m_at k_M_test 10 = some (.iconst 0, 1, 0) := m_at_of r_M_test (by decide +kernel)
theorem i_M_test_11 : m_at k_M_test 11 = some (.iastore, 1, 0) := m_at_of r_M_test (by decide +kernel)
theorem i_M_test_12 : m_at k_M_test 12 = some (.iconst 0, 1, 0) := m_at_of r_M_test (by decide +kernel)
theorem i_M_test_13 : m_at k_M_test 13 = some (.ireturn, 1, 0) := m_at_of r_M_test (by decide +kernel)
theorem i_M_test_14 : m_at k_M_test 14 = some (.iload_n 1, 1, 0) := m_at_of r_M_test (by decide +kernel)
theorem i_M_test_15 : m_at k_M_test 15 = some (.iconst 0, 1, 0) := m_at_of r_M_test (by decide +kernel)
theorem i_M_test_16 : m_at k_M_test 16 = some (.bipush 127, 2, 0) := m_at_of r_M_test (by decide +kernel)
theorem i_M_test_18 : m_at k_M_test 18 = some (.invokestatic 81, 3, 96) := m_at_of r_M_test (by decide +kernel)
theorem i_M_test_21 : m_at k_M_test 21 = some (.ifCond .eq (14), 3, 0) := m_at_of r_M_test (by decide +kernel)
theorem i_M_test_24 : m_at k_M_test 24 = some (.aload_n 0, 1, 0) := m_at_of r_M_test (by decide +kernel)
theorem i_M_test_25 : m_at k_M_test 25 = some (.getfield 7, 3, 0) := m_at_of r_M_test (by decide +kernel)
theorem i_M_test_28 : m_at k_M_test 28 = some (.iconst 4, 1, 0) := m_at_of r_M_test (by decide +kernel)
theorem i_M_test_29 : m_at k_M_test 29 = some (.iaload, 1, 0) := m_at_of r_M_test (by decide +kernel)
theorem i_M_test_30 : m_at k_M_test 30 = some (.bipush 8, 2, 0) := m_at_of r_M_test (by decide +kernel)
theorem i_M_test_32 : m_at k_M_test 32 = some (.if_icmp .ne (6), 3, 0) := m_at_of r_M_test (by decide +kernel)
theorem i_M_test_35 : m_at k_M_test 35 = some (.bipush (-2), 2, 0) := m_at_of r_M_test (by decide +kernel)
theorem i_M_test_37 : m_at k_M_test 37 = some (.ireturn, 1, 0) := m_at_of r_M_test (by decide +kernel)
theorem i_M_test_38 : m_at k_M_test 38 = some (.aload_n 0, 1, 0) := m_at_of r_M_test (by decide +kernel)
theorem i_M_test_39 : m_at k_M_test 39 = some (.getfield 7, 3, 0) := m_at_of r_M_test (by decide +kernel)
theorem i_M_test_42 : m_at k_M_test 42 = some (.bipush 126, 2, 0) := m_at_of r_M_test (by decide +kernel)
theorem i_M_test_44 : m_at k_M_test 44 = some (.aload_n 0, 1, 0) := m_at_of r_M_test (by decide +kernel)
theorem i_M_test_45 : m_at k_M_test 45 = some (.getfield 7, 3, 0) := m_at_of r_M_test (by decide +kernel)
theorem i_M_test_48 : m_at k_M_test 48 = some (.iconst 4, 1, 0) := m_at_of r_M_test (by decide +kernel)
theorem i_M_test_49 : m_at k_M_test 49 = some (.iaload, 1, 0) := m_at_of r_M_test (by decide +kernel)
theorem i_M_test_50 : m_at k_M_test 50 = some (.iadd, 1, 0) := m_at_of r_M_test (by decide +kernel)
theorem i_M_test_51 : m_at k_M_test 51 = some (.iload_n 1, 1, 0) := m_at_of r_M_test (by decide +kernel)
theorem i_M_test_52 : m_at k_M_test 52 = some (.iastore, 1, 0) := m_at_of r_M_test (by decide +kernel)
theorem i_M_test_53 : m_at k_M_test 53 = some (.aload_n 0, 1, 0) := m_at_of r_M_test (by decide +kernel)
theorem i_M_test_54 : m_at k_M_test 54 = some (.getfield 7, 3, 0) := m_at_of r_M_test (by decide +kernel)
theorem i_M_test_57 : m_at k_M_test 57 = some (.iconst 4, 1, 0) := m_at_of r_M_test (by decide +kernel)
theorem i_M_test_58 : m_at k_M_test 58 = some (.dup2, 1, 0) := m_at_of r_M_test (by decide +kernel)
theorem i_M_test_59 : m_at k_M_test 59 = some (.iaload, 1, 0) := m_at_of r_M_test (by decide +kernel)
theorem i_M_test_60 : m_at k_M_test 60 = some (.iconst 1, 1, 0) := m_at_of r_M_test (by decide +kernel)
theorem i_M_test_61 : m_at k_M_test 61 = some (.iadd, 1, 0) := m_at_of r_M_test (by decide +kernel)
theorem i_M_test_62 : m_at k_M_test 62 = some (.iastore, 1, 0) := m_at_of r_M_test (by decide +kernel)
theorem i_M_test_63 : m_at k_M_test 63 = some (.aload_n 0, 1, 0) := m_at_of r_M_test (by decide +kernel)
theorem i_M_test_64 : m_at k_M_test 64 = some (.getfield 7, 3, 0) := m_at_of r_M_test (by decide +kernel)
theorem i_M_test_67 : m_at k_M_test 67 = some (.iconst 4, 1, 0) := m_at_of r_M_test (by decide +kernel)
theorem i_M_test_68 : m_at k_M_test 68 = some (.iaload, 1, 0) := m_at_of r_M_test (by decide +kernel)
theorem i_M_test_69 : m_at k_M_test 69 = some (.ireturn, 1, 0) := m_at_of r_M_test (by decide +kernel)
set_option maxRecDepth 20000 in
set_option maxHeartbeats 1000000 in
theorem E_M_test (x : m_X) (s : m_H) (w : Nat) (n1 : Int32) : m_M x k_M_test [.ref w, .int n1] s = if m_isO s w 11 = true then (if n1 = (-1) then ((m_fR s 11 0 w).bind fun v6 => (m_is s v6 4 0).bind fun s11 => some (some (.int 0), s11)) else m_bI (m_M x k_M_isIn [.int n1, .int 0, .int 127] s) fun v18 s18 => if v18 = 0 then (some (some (.int (-2)), s18)) else (m_fR s18 11 0 w).bind fun v25 => (m_ia x s18 v25 4).bind fun v29 => if v29 = 8 then (some (some (.int (-2)), s18)) else (m_fR s18 11 0 w).bind fun v39 => (m_fR s18 11 0 w).bind fun v45 => (m_ia x s18 v45 4).bind fun v49 => (m_is s18 v39 ((126 : Int32) + v49) n1).bind fun s52 => (m_fR s52 11 0 w).bind fun v54 => (m_ia x s52 v54 4).bind fun v59 => (m_is s52 v54 4 (v59 + (1 : Int32))).bind fun s62 => (m_fR s62 11 0 w).bind fun v64 => (m_ia x s62 v64 4).bind fun v68 => some (some (.int v68), s62)) else none := by
  refine e_M1 (L0 := [some (.ref w), some (.int n1)]) rfl (by decide +kernel) rfl (q_M_test _) rfl ?_
  refine e_iload_n i_M_test_0 rfl ?_
  refine e_iconst (v := (-1)) i_M_test_1 (by decide) ?_
  refine e_icmpne (t := 14) i_M_test_2 (by decide) ?_ ?_
  · refine e_iload_n i_M_test_14 rfl ?_
    refine e_iconst (v := 0) i_M_test_15 (by decide) ?_
    refine e_bipush (v := 127) i_M_test_16 (by decide) ?_
    refine e_callI (as := [.int n1, .int 0, .int 127]) (st' := []) i_M_test_18 lm_96 (Or.inl ⟨rfl, rfl⟩) w_M_isIn rfl rfl rfl (Nat.le_of_ble_eq_true rfl) (Nat.le_of_ble_eq_true rfl) (m_rlt (q_M_isIn _) (by decide)) rfl (fun v18 s18 => ?_)
    refine e_ifeq (t := 35) i_M_test_21 (by decide) ?_ ?_
    · refine e_bipush (v := (-2)) i_M_test_35 (by decide) ?_
      exact e_iretI i_M_test_37 rfl
    · refine e_aload_n i_M_test_24 rfl ?_
      refine e_getR i_M_test_25 lf_0 (by decide) ft_11_0 (fun v25 => ?_)
      refine e_iconst (v := 4) i_M_test_28 (by decide) ?_
      refine e_iald i_M_test_29 (fun v29 => ?_)
      refine e_bipush (v := 8) i_M_test_30 (by decide) ?_
      refine e_icmpne (t := 38) i_M_test_32 (by decide) ?_ ?_
      · refine e_aload_n i_M_test_38 rfl ?_
        refine e_getR i_M_test_39 lf_0 (by decide) ft_11_0 (fun v39 => ?_)
        refine e_bipush (v := 126) i_M_test_42 (by decide) ?_
        refine e_aload_n i_M_test_44 rfl ?_
        refine e_getR i_M_test_45 lf_0 (by decide) ft_11_0 (fun v45 => ?_)
        refine e_iconst (v := 4) i_M_test_48 (by decide) ?_
        refine e_iald i_M_test_49 (fun v49 => ?_)
        refine e_iadd i_M_test_50 ?_
        refine e_iload_n i_M_test_51 rfl ?_
        refine e_iast i_M_test_52 (fun s52 => ?_)
        refine e_aload_n i_M_test_53 rfl ?_
        refine e_getR i_M_test_54 lf_0 (by decide) ft_11_0 (fun v54 => ?_)
        refine e_iconst (v := 4) i_M_test_57 (by decide) ?_
        refine e_dup2 i_M_test_58 ⟨rfl, rfl⟩ ?_
        refine e_iald i_M_test_59 (fun v59 => ?_)
        refine e_iconst (v := 1) i_M_test_60 (by decide) ?_
        refine e_iadd i_M_test_61 ?_
        refine e_iast i_M_test_62 (fun s62 => ?_)
        refine e_aload_n i_M_test_63 rfl ?_
        refine e_getR i_M_test_64 lf_0 (by decide) ft_11_0 (fun v64 => ?_)
        refine e_iconst (v := 4) i_M_test_67 (by decide) ?_
        refine e_iald i_M_test_68 (fun v68 => ?_)
        exact e_iretI i_M_test_69 rfl
      · refine e_bipush (v := (-2)) i_M_test_35 (by decide) ?_
        exact e_iretI i_M_test_37 rfl
  · refine e_aload_n i_M_test_5 rfl ?_
    refine e_getR i_M_test_6 lf_0 (by decide) ft_11_0 (fun v6 => ?_)
    refine e_iconst (v := 4) i_M_test_9 (by decide) ?_
    refine e_iconst (v := 0) i_M_test_10 (by decide) ?_
    refine e_iast i_M_test_11 (fun s11 => ?_)
    refine e_iconst (v := 0) i_M_test_12 (by decide) ?_
    exact e_iretI i_M_test_13 rfl
