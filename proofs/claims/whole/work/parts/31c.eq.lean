theorem i_M_whose_0 : m_at k_M_whose 0 = some (.iload_n 1, 1, 0) := m_at_of r_M_whose (by decide +kernel)
theorem i_M_whose_1 : m_at k_M_whose 1 = some (.iconst 1, 1, 0) := m_at_of r_M_whose (by decide +kernel)
theorem i_M_whose_2 : m_at k_M_whose 2 = some (.bipush 9, 2, 0) := m_at_of r_M_whose (by decide +kernel)
theorem i_M_whose_4 : m_at k_M_whose 4 = some (.invokestatic 81, 3, 96) := m_at_of r_M_whose (by decide +kernel)
theorem i_M_whose_7 : m_at k_M_whose 7 = some (.ifCond .eq (13), 3, 0) := m_at_of r_M_whose (by decide +kernel)
theorem i_M_whose_10 : m_at k_M_whose 10 = some (.iload_n 2, 1, 0) := m_at_of r_M_whose (by decide +kernel)
theorem i_M_whose_11 : m_at k_M_whose 11 = some (.iconst 0, 1, 0) := m_at_of r_M_whose (by decide +kernel)
theorem i_M_whose_12 : m_at k_M_whose 12 = some (.bipush 8, 2, 0) := m_at_of r_M_whose (by decide +kernel)
theorem i_M_whose_14 : m_at k_M_whose 14 = some (.invokestatic 81, 3, 96) := m_at_of r_M_whose (by decide +kernel)
theorem i_M_whose_17 : m_at k_M_whose 17 = some (.ifCond .ne (5), 3, 0) := m_at_of r_M_whose (by decide +kernel)
theorem i_M_whose_20 : m_at k_M_whose 20 = some (.iconst (-1), 1, 0) := m_at_of r_M_whose (by decide +kernel)
theorem i_M_whose_21 : m_at k_M_whose 21 = some (.ireturn, 1, 0) := m_at_of r_M_whose (by decide +kernel)
theorem i_M_whose_22 : m_at k_M_whose 22 = some (.iconst 0, 1, 0) := m_at_of r_M_whose (by decide +kernel)
theorem i_M_whose_23 : m_at k_M_whose 23 = some (.istore_n 3, 1, 0) := m_at_of r_M_whose (by decide +kernel)
theorem i_M_whose_24 : m_at k_M_whose 24 = some (.iconst 0, 1, 0) := m_at_of r_M_whose (by decide +kernel)
theorem i_M_whose_25 : m_at k_M_whose 25 = some (.istore 4, 2, 0) := m_at_of r_M_whose (by decide +kernel)
theorem i_M_whose_27 : m_at k_M_whose 27 = some (.iload 4, 2, 0) := m_at_of r_M_whose (by decide +kernel)
theorem i_M_whose_29 : m_at k_M_whose 29 = some (.aload_n 0, 1, 0) := m_at_of r_M_whose (by decide +kernel)
theorem i_M_whose_30 : m_at k_M_whose 30 = some (.getfield 7, 3, 0) := m_at_of r_M_whose (by decide +kernel)
theorem i_M_whose_33 : m_at k_M_whose 33 = some (.iconst 0, 1, 0) := m_at_of r_M_whose (by decide +kernel)
theorem i_M_whose_34 : m_at k_M_whose 34 = some (.iaload, 1, 0) := m_at_of r_M_whose (by decide +kernel)
theorem i_M_whose_35 : m_at k_M_whose 35 = some (.if_icmp .ge (39), 3, 0) := m_at_of r_M_whose (by decide +kernel)
theorem i_M_whose_38 : m_at k_M_whose 38 = some (.iload_n 3, 1, 0) := m_at_of r_M_whose (by decide +kernel)
theorem i_M_whose_39 : m_at k_M_whose 39 = some (.aload_n 0, 1, 0) := m_at_of r_M_whose (by decide +kernel)
theorem i_M_whose_40 : m_at k_M_whose 40 = some (.getfield 7, 3, 0) := m_at_of r_M_whose (by decide +kernel)
theorem i_M_whose_43 : m_at k_M_whose 43 = some (.bipush 112, 2, 0) := m_at_of r_M_whose (by decide +kernel)
theorem i_M_whose_45 : m_at k_M_whose 45 = some (.iload 4, 2, 0) := m_at_of r_M_whose (by decide +kernel)
theorem i_M_whose_47 : m_at k_M_whose 47 = some (.iadd, 1, 0) := m_at_of r_M_whose (by decide +kernel)
theorem i_M_whose_48 : m_at k_M_whose 48 = some (.iaload, 1, 0) := m_at_of r_M_whose (by decide +kernel)
theorem i_M_whose_49 : m_at k_M_whose 49 = some (.iload_n 1, 1, 0) := m_at_of r_M_whose (by decide +kernel)
theorem i_M_whose_50 : m_at k_M_whose 50 = some (.isub, 1, 0) := m_at_of r_M_whose (by decide +kernel)
theorem i_M_whose_51 : m_at k_M_whose 51 = some (.invokestatic 93, 3, 141) := m_at_of r_M_whose (by decide +kernel)
theorem i_M_whose_54 : m_at k_M_whose 54 = some (.iload_n 2, 1, 0) := m_at_of r_M_whose (by decide +kernel)
theorem i_M_whose_55 : m_at k_M_whose 55 = some (.if_icmp .gt (10), 3, 0) := m_at_of r_M_whose (by decide +kernel)
theorem i_M_whose_58 : m_at k_M_whose 58 = some (.iconst 1, 1, 0) := m_at_of r_M_whose (by decide +kernel)
theorem i_M_whose_59 : m_at k_M_whose 59 = some (.iload 4, 2, 0) := m_at_of r_M_whose (by decide +kernel)
theorem i_M_whose_61 : m_at k_M_whose 61 = some (.ishl, 1, 0) := m_at_of r_M_whose (by decide +kernel)
theorem i_M_whose_62 : m_at k_M_whose 62 = some (.goto (4), 3, 0) := m_at_of r_M_whose (by decide +kernel)
theorem i_M_whose_65 : m_at k_M_whose 65 = some (.iconst 0, 1, 0) := m_at_of r_M_whose (by decide +kernel)
theorem i_M_whose_66 : m_at k_M_whose 66 = some (.ior, 1, 0) := m_at_of r_M_whose (by decide +kernel)
theorem i_M_whose_67 : m_at k_M_whose 67 = some (.istore_n 3, 1, 0) := m_at_of r_M_whose (by decide +kernel)
theorem i_M_whose_68 : m_at k_M_whose 68 = some (.iinc 4 (1), 3, 0) := m_at_of r_M_whose (by decide +kernel)
theorem i_M_whose_71 : m_at k_M_whose 71 = some (.goto (-44), 3, 0) := m_at_of r_M_whose (by decide +kernel)
theorem i_M_whose_74 : m_at k_M_whose 74 = some (.iload_n 3, 1, 0) := m_at_of r_M_whose (by decide +kernel)
theorem i_M_whose_75 : m_at k_M_whose 75 = some (.ireturn, 1, 0) := m_at_of r_M_whose (by decide +kernel)
set_option maxRecDepth 20000 in
set_option maxHeartbeats 1000000 in
theorem E_M_whose (x : m_X) (s : m_H) (w : Nat) (n1 : Int32) (n2 : Int32) : m_M x k_M_whose [.ref w, .int n1, .int n2] s = if m_isO s w 11 = true then (m_bI (m_M x k_M_isIn [.int n1, .int 1, .int 9] s) fun v4 s4 => if v4 = 0 then (some (some (.int (-1)), s4)) else m_bI (m_M x k_M_isIn [.int n2, .int 0, .int 8] s4) fun v14 s14 => if v14 = 0 then (some (some (.int (-1)), s14)) else m_D x 2 k_M_whose 27 [some (.ref w), some (.int n1), some (.int n2), some (.int 0), some (.int 0)] [] s14) else none := by
  refine e_M1 (L0 := [some (.ref w), some (.int n1), some (.int n2), none, none]) rfl (by decide +kernel) rfl (q_M_whose _) rfl ?_
  refine e_iload_n i_M_whose_0 rfl ?_
  refine e_iconst (v := 1) i_M_whose_1 (by decide) ?_
  refine e_bipush (v := 9) i_M_whose_2 (by decide) ?_
  refine e_callI (as := [.int n1, .int 1, .int 9]) (st' := []) i_M_whose_4 lm_96 (Or.inl ⟨rfl, rfl⟩) w_M_isIn rfl rfl rfl (Nat.le_of_ble_eq_true rfl) (Nat.le_of_ble_eq_true rfl) (m_rlt (q_M_isIn _) (by decide)) rfl (fun v4 s4 => ?_)
  refine e_ifeq (t := 20) i_M_whose_7 (by decide) ?_ ?_
  · refine e_iconst (v := (-1)) i_M_whose_20 (by decide) ?_
    exact e_iretI i_M_whose_21 rfl
  · refine e_iload_n i_M_whose_10 rfl ?_
    refine e_iconst (v := 0) i_M_whose_11 (by decide) ?_
    refine e_bipush (v := 8) i_M_whose_12 (by decide) ?_
    refine e_callI (as := [.int n2, .int 0, .int 8]) (st' := []) i_M_whose_14 lm_96 (Or.inl ⟨rfl, rfl⟩) w_M_isIn rfl rfl rfl (Nat.le_of_ble_eq_true rfl) (Nat.le_of_ble_eq_true rfl) (m_rlt (q_M_isIn _) (by decide)) rfl (fun v14 s14 => ?_)
    refine e_ifne (t := 22) i_M_whose_17 (by decide) ?_ ?_
    · refine e_iconst (v := 0) i_M_whose_22 (by decide) ?_
      refine e_istore_n (L' := [some (.ref w), some (.int n1), some (.int n2), some (.int 0), none]) i_M_whose_23 (of_decide_eq_true rfl) rfl ?_
      refine e_iconst (v := 0) i_M_whose_24 (by decide) ?_
      refine e_istore (L' := [some (.ref w), some (.int n1), some (.int n2), some (.int 0), some (.int 0)]) i_M_whose_25 (of_decide_eq_true rfl) rfl ?_
      exact rfl
    · refine e_iconst (v := (-1)) i_M_whose_20 (by decide) ?_
      exact e_iretI i_M_whose_21 rfl
set_option maxRecDepth 20000 in
set_option maxHeartbeats 1000000 in
theorem E_M_whose_27 (x : m_X) (ρ : Nat) (hρ : 2 ≤ ρ) (s : m_H) (w : Nat) (n1 : Int32) (n2 : Int32) (n3 : Int32) (n4 : Int32)  : m_D x ρ k_M_whose 27 [some (.ref w), some (.int n1), some (.int n2), some (.int n3), some (.int n4)] [] s = (m_fR s 11 0 w).bind fun v30 => (m_ia x s v30 0).bind fun v34 => if v34 ≤ n4 then (some (some (.int n3), s)) else (m_fR s 11 0 w).bind fun v40 => (m_ia x s v40 ((112 : Int32) + n4)).bind fun v48 => m_bI (m_M x k_M_off [.int (v48 - n1)] s) fun v51 s51 => if n2 < v51 then (m_D x ρ k_M_whose 27 [some (.ref w), some (.int n1), some (.int n2), some (.int (n3 ||| (0 : Int32))), some (.int (n4 + (1 : Int32)))] [] s51) else m_D x ρ k_M_whose 27 [some (.ref w), some (.int n1), some (.int n2), some (.int (n3 ||| ((1 : Int32) <<< (n4 &&& (31 : Int32))))), some (.int (n4 + (1 : Int32)))] [] s51 := by
  refine e_iload i_M_whose_27 rfl ?_
  refine e_aload_n i_M_whose_29 rfl ?_
  refine e_getR i_M_whose_30 lf_0 (by decide) ft_11_0 (fun v30 => ?_)
  refine e_iconst (v := 0) i_M_whose_33 (by decide) ?_
  refine e_iald i_M_whose_34 (fun v34 => ?_)
  refine e_icmpge (t := 74) i_M_whose_35 (by decide) ?_ ?_
  · refine e_iload_n i_M_whose_74 rfl ?_
    exact e_iretI i_M_whose_75 rfl
  · refine e_iload_n i_M_whose_38 rfl ?_
    refine e_aload_n i_M_whose_39 rfl ?_
    refine e_getR i_M_whose_40 lf_0 (by decide) ft_11_0 (fun v40 => ?_)
    refine e_bipush (v := 112) i_M_whose_43 (by decide) ?_
    refine e_iload i_M_whose_45 rfl ?_
    refine e_iadd i_M_whose_47 ?_
    refine e_iald i_M_whose_48 (fun v48 => ?_)
    refine e_iload_n i_M_whose_49 rfl ?_
    refine e_isub i_M_whose_50 ?_
    refine e_callI (as := [.int (v48 - n1)]) (st' := [.int n3]) i_M_whose_51 lm_141 (Or.inl ⟨rfl, rfl⟩) w_M_off rfl rfl rfl (Nat.le_of_ble_eq_true rfl) (Nat.le_of_ble_eq_true rfl) (m_rlt (q_M_off _) (Nat.lt_of_lt_of_le (by decide) hρ)) rfl (fun v51 s51 => ?_)
    refine e_iload_n i_M_whose_54 rfl ?_
    refine e_icmpgt (t := 65) i_M_whose_55 (by decide) ?_ ?_
    · refine e_iconst (v := 0) i_M_whose_65 (by decide) ?_
      refine e_ior i_M_whose_66 ?_
      refine e_istore_n (L' := [some (.ref w), some (.int n1), some (.int n2), some (.int (n3 ||| (0 : Int32))), some (.int n4)]) i_M_whose_67 (of_decide_eq_true rfl) rfl ?_
      refine e_iinc (w := 1) (L' := [some (.ref w), some (.int n1), some (.int n2), some (.int (n3 ||| (0 : Int32))), some (.int (n4 + (1 : Int32)))]) i_M_whose_68 rfl (of_decide_eq_true rfl) (by decide) rfl ?_
      refine e_goto (t := 27) i_M_whose_71 (by decide) ?_
      exact rfl
    · refine e_iconst (v := 1) i_M_whose_58 (by decide) ?_
      refine e_iload i_M_whose_59 rfl ?_
      refine e_ishl i_M_whose_61 ?_
      refine e_goto (t := 66) i_M_whose_62 (by decide) ?_
      refine e_ior i_M_whose_66 ?_
      refine e_istore_n (L' := [some (.ref w), some (.int n1), some (.int n2), some (.int (n3 ||| ((1 : Int32) <<< (n4 &&& (31 : Int32))))), some (.int n4)]) i_M_whose_67 (of_decide_eq_true rfl) rfl ?_
      refine e_iinc (w := 1) (L' := [some (.ref w), some (.int n1), some (.int n2), some (.int (n3 ||| ((1 : Int32) <<< (n4 &&& (31 : Int32))))), some (.int (n4 + (1 : Int32)))]) i_M_whose_68 rfl (of_decide_eq_true rfl) (by decide) rfl ?_
      refine e_goto (t := 27) i_M_whose_71 (by decide) ?_
      exact rfl
theorem i_M_off_0 : m_at k_M_off 0 = some (.iload_n 0, 1, 0) := m_at_of r_M_off (by decide +kernel)
theorem i_M_off_1 : m_at k_M_off 1 = some (.ifCond .ge (8), 3, 0) := m_at_of r_M_off (by decide +kernel)
theorem i_M_off_4 : m_at k_M_off 4 = some (.iload_n 0, 1, 0) := m_at_of r_M_off (by decide +kernel)
theorem i_M_off_5 : m_at k_M_off 5 = some (.ineg, 1, 0) := m_at_of r_M_off (by decide +kernel)
theorem i_M_off_6 : m_at k_M_off 6 = some (.goto (4), 3, 0) := m_at_of r_M_off (by decide +kernel)
theorem i_M_off_9 : m_at k_M_off 9 = some (.iload_n 0, 1, 0) := m_at_of r_M_off (by decide +kernel)
theorem i_M_off_10 : m_at k_M_off 10 = some (.ireturn, 1, 0) := m_at_of r_M_off (by decide +kernel)
set_option maxRecDepth 20000 in
set_option maxHeartbeats 1000000 in
theorem E_M_off (x : m_X) (s : m_H) (n0 : Int32) : m_M x k_M_off [.int n0] s = if 0 ≤ n0 then (some (some (.int n0), s)) else some (some (.int (-n0)), s) := by
  refine e_M0 (L0 := [some (.int n0)]) rfl (q_M_off _) rfl ?_
  refine e_iload_n i_M_off_0 rfl ?_
  refine e_ifge (t := 9) i_M_off_1 (by decide) ?_ ?_
  · refine e_iload_n i_M_off_9 rfl ?_
    exact e_iretI i_M_off_10 rfl
  · refine e_iload_n i_M_off_4 rfl ?_
    refine e_ineg i_M_off_5 ?_
    refine e_goto (t := 10) i_M_off_6 (by decide) ?_
    exact e_iretI i_M_off_10 rfl
theorem i_M_order_0 : m_at k_M_order 0 = some (.aload_n 0, 1, 0) := m_at_of r_M_order (by decide +kernel)
theorem i_M_order_1 : m_at k_M_order 1 = some (.iload_n 1, 1, 0) := m_at_of r_M_order (by decide +kernel)
theorem i_M_order_2 : m_at k_M_order 2 = some (.invokevirtual 352, 3, 110) := m_at_of r_M_order (by decide +kernel)
theorem i_M_order_5 : m_at k_M_order 5 = some (.ifCond .ne (6), 3, 0) := m_at_of r_M_order (by decide +kernel)
theorem i_M_order_8 : m_at k_M_order 8 = some (.bipush (-2), 2, 0) := m_at_of r_M_order (by decide +kernel)
theorem i_M_order_10 : m_at k_M_order 10 = some (.ireturn, 1, 0) := m_at_of r_M_order (by decide +kernel)
theorem i_M_order_11 : m_at k_M_order 11 = some (.aload_n 0, 1, 0) := m_at_of r_M_order (by decide +kernel)
theorem i_M_order_12 : m_at k_M_order 12 = some (.iload_n 1, 1, 0) := m_at_of r_M_order (by decide +kernel)
theorem i_M_order_13 : m_at k_M_order 13 = some (.invokevirtual 441, 3, 193) := m_at_of r_M_order (by decide +kernel)
theorem i_M_order_16 : m_at k_M_order 16 = some (.istore_n 3, 1, 0) := m_at_of r_M_order (by decide +kernel)
theorem i_M_order_17 : m_at k_M_order 17 = some (.iload_n 2, 1, 0) := m_at_of r_M_order (by decide +kernel)
theorem i_M_order_18 : m_at k_M_order 18 = some (.iconst (-1), 1, 0) := m_at_of r_M_order (by decide +kernel)
theorem i_M_order_19 : m_at k_M_order 19 = some (.if_icmp .eq (26), 3, 0) := m_at_of r_M_order (by decide +kernel)
theorem i_M_order_22 : m_at k_M_order 22 = some (.iload_n 2, 1, 0) := m_at_of r_M_order (by decide +kernel)
theorem i_M_order_23 : m_at k_M_order 23 = some (.iconst 0, 1, 0) := m_at_of r_M_order (by decide +kernel)
theorem i_M_order_24 : m_at k_M_order 24 = some (.iload_n 3, 1, 0) := m_at_of r_M_order (by decide +kernel)
theorem i_M_order_25 : m_at k_M_order 25 = some (.iconst 1, 1, 0) := m_at_of r_M_order (by decide +kernel)
theorem i_M_order_26 : m_at k_M_order 26 = some (.isub, 1, 0) := m_at_of r_M_order (by decide +kernel)
theorem i_M_order_27 : m_at k_M_order 27 = some (.invokestatic 81, 3, 96) := m_at_of r_M_order (by decide +kernel)
theorem i_M_order_30 : m_at k_M_order 30 = some (.ifCond .eq (12), 3, 0) := m_at_of r_M_order (by decide +kernel)
theorem i_M_order_33 : m_at k_M_order 33 = some (.aload_n 0, 1, 0) := m_at_of r_M_order (by decide +kernel)
theorem i_M_order_34 : m_at k_M_order 34 = some (.getfield 53, 3, 70) := m_at_of r_M_order (by decide +kernel)
theorem i_M_order_37 : m_at k_M_order 37 = some (.iload_n 2, 1, 0) := m_at_of r_M_order (by decide +kernel)
theorem i_M_order_38 : m_at k_M_order 38 = some (.iaload, 1, 0) := m_at_of r_M_order (by decide +kernel)
theorem i_M_order_39 : m_at k_M_order 39 = some (.goto (5), 3, 0) := m_at_of r_M_order (by decide +kernel)
theorem i_M_order_42 : m_at k_M_order 42 = some (.bipush (-2), 2, 0) := m_at_of r_M_order (by decide +kernel)
theorem i_M_order_44 : m_at k_M_order 44 = some (.ireturn, 1, 0) := m_at_of r_M_order (by decide +kernel)
theorem i_M_order_45 : m_at k_M_order 45 = some (.iconst 0, 1, 0) := m_at_of r_M_order (by decide +kernel)
theorem i_M_order_46 : m_at k_M_order 46 = some (.istore 4, 2, 0) := m_at_of r_M_order (by decide +kernel)
theorem i_M_order_48 : m_at k_M_order 48 = some (.iconst 0, 1, 0) := m_at_of r_M_order (by decide +kernel)
theorem i_M_order_49 : m_at k_M_order 49 = some (.istore 5, 2, 0) := m_at_of r_M_order (by decide +kernel)
theorem i_M_order_51 : m_at k_M_order 51 = some (.iconst 0, 1, 0) := m_at_of r_M_order (by decide +kernel)
theorem i_M_order_52 : m_at k_M_order 52 = some (.istore 6, 2, 0) := m_at_of r_M_order (by decide +kernel)
theorem i_M_order_54 : m_at k_M_order 54 = some (.iload 6, 2, 0) := m_at_of r_M_order (by decide +kernel)
theorem i_M_order_56 : m_at k_M_order 56 = some (.iload_n 3, 1, 0) := m_at_of r_M_order (by decide +kernel)
theorem i_M_order_57 : m_at k_M_order 57 = some (.if_icmp .ge (50), 3, 0) := m_at_of r_M_order (by decide +kernel)
theorem i_M_order_60 : m_at k_M_order 60 = some (.iload 5, 2, 0) := m_at_of r_M_order (by decide +kernel)
theorem i_M_order_62 : m_at k_M_order 62 = some (.aload_n 0, 1, 0) := m_at_of r_M_order (by decide +kernel)
theorem i_M_order_63 : m_at k_M_order 63 = some (.aload_n 0, 1, 0) := m_at_of r_M_order (by decide +kernel)
theorem i_M_order_64 : m_at k_M_order 64 = some (.getfield 53, 3, 70) := m_at_of r_M_order (by decide +kernel)
theorem i_M_order_67 : m_at k_M_order 67 = some (.iload 6, 2, 0) := m_at_of r_M_order (by decide +kernel)
theorem i_M_order_69 : m_at k_M_order 69 = some (.iaload, 1, 0) := m_at_of r_M_order (by decide +kernel)
theorem i_M_order_70 : m_at k_M_order 70 = some (.iconst 2, 1, 0) := m_at_of r_M_order (by decide +kernel)
theorem i_M_order_71 : m_at k_M_order 71 = some (.invokevirtual 85, 3, 106) := m_at_of r_M_order (by decide +kernel)
theorem i_M_order_74 : m_at k_M_order 74 = some (.iadd, 1, 0) := m_at_of r_M_order (by decide +kernel)
theorem i_M_order_75 : m_at k_M_order 75 = some (.istore 5, 2, 0) := m_at_of r_M_order (by decide +kernel)
theorem i_M_order_77 : m_at k_M_order 77 = some (.iload 4, 2, 0) := m_at_of r_M_order (by decide +kernel)
theorem i_M_order_79 : m_at k_M_order 79 = some (.aload_n 0, 1, 0) := m_at_of r_M_order (by decide +kernel)
theorem i_M_order_80 : m_at k_M_order 80 = some (.getfield 7, 3, 0) := m_at_of r_M_order (by decide +kernel)
theorem i_M_order_83 : m_at k_M_order 83 = some (.sipush 168, 3, 0) := m_at_of r_M_order (by decide +kernel)
theorem i_M_order_86 : m_at k_M_order 86 = some (.aload_n 0, 1, 0) := m_at_of r_M_order (by decide +kernel)
theorem i_M_order_87 : m_at k_M_order 87 = some (.getfield 53, 3, 70) := m_at_of r_M_order (by decide +kernel)
theorem i_M_order_90 : m_at k_M_order 90 = some (.iload 6, 2, 0) := m_at_of r_M_order (by decide +kernel)
theorem i_M_order_92 : m_at k_M_order 92 = some (.iaload, 1, 0) := m_at_of r_M_order (by decide +kernel)
theorem i_M_order_93 : m_at k_M_order 93 = some (.iadd, 1, 0) := m_at_of r_M_order (by decide +kernel)
theorem i_M_order_94 : m_at k_M_order 94 = some (.iaload, 1, 0) := m_at_of r_M_order (by decide +kernel)
theorem i_M_order_95 : m_at k_M_order 95 = some (.iload 5, 2, 0) := m_at_of r_M_order (by decide +kernel)
theorem i_M_order_97 : m_at k_M_order 97 = some (.imul, 1, 0) := m_at_of r_M_order (by decide +kernel)
theorem i_M_order_98 : m_at k_M_order 98 = some (.iadd, 1, 0) := m_at_of r_M_order (by decide +kernel)
theorem i_M_order_99 : m_at k_M_order 99 = some (.istore 4, 2, 0) := m_at_of r_M_order (by decide +kernel)
theorem i_M_order_101 : m_at k_M_order 101 = some (.iinc 6 (1), 3, 0) := m_at_of r_M_order (by decide +kernel)
theorem i_M_order_104 : m_at k_M_order 104 = some (.goto (-50), 3, 0) := m_at_of r_M_order (by decide +kernel)
theorem i_M_order_107 : m_at k_M_order 107 = some (.iload 4, 2, 0) := m_at_of r_M_order (by decide +kernel)
theorem i_M_order_109 : m_at k_M_order 109 = some (.ireturn, 1, 0) := m_at_of r_M_order (by decide +kernel)
set_option maxRecDepth 20000 in
set_option maxHeartbeats 1000000 in
theorem E_M_order (x : m_X) (s : m_H) (w : Nat) (n1 : Int32) (n2 : Int32) : m_M x k_M_order [.ref w, .int n1, .int n2] s = if m_isO s w 11 = true then (m_bI (m_M x k_M_isOne [.ref w, .int n1] s) fun v2 s2 => if v2 = 0 then (some (some (.int (-2)), s2)) else m_bI (m_M x k_M_layDuties [.ref w, .int n1] s2) fun v13 s13 => if n2 = (-1) then (m_D x 4 k_M_order 54 [some (.ref w), some (.int n1), some (.int n2), some (.int v13), some (.int 0), some (.int 0), some (.int 0)] [] s13) else m_bI (m_M x k_M_isIn [.int n2, .int 0, .int (v13 - (1 : Int32))] s13) fun v27 s27 => if v27 = 0 then (some (some (.int (-2)), s27)) else (m_fR s27 11 26 w).bind fun v34 => (m_ia x s27 v34 n2).bind fun v38 => some (some (.int v38), s27)) else none := by
  refine e_M1 (L0 := [some (.ref w), some (.int n1), some (.int n2), none, none, none, none]) rfl (by decide +kernel) rfl (q_M_order _) rfl ?_
  refine e_aload_n i_M_order_0 rfl ?_
  refine e_iload_n i_M_order_1 rfl ?_
  refine e_callI (as := [.ref w, .int n1]) (st' := []) i_M_order_2 lm_110 (Or.inr (Or.inl ⟨rfl, rfl⟩)) w_M_isOne rfl rfl rfl (Nat.le_of_ble_eq_true rfl) (Nat.le_of_ble_eq_true rfl) (m_rlt (q_M_isOne _) (by decide)) rfl (fun v2 s2 => ?_)
  refine e_ifne (t := 11) i_M_order_5 (by decide) ?_ ?_
  · refine e_aload_n i_M_order_11 rfl ?_
    refine e_iload_n i_M_order_12 rfl ?_
    refine e_callI (as := [.ref w, .int n1]) (st' := []) i_M_order_13 lm_193 (Or.inr (Or.inl ⟨rfl, rfl⟩)) w_M_layDuties rfl rfl rfl (Nat.le_of_ble_eq_true rfl) (Nat.le_of_ble_eq_true rfl) (m_rlt (q_M_layDuties _) (by decide)) rfl (fun v13 s13 => ?_)
    refine e_istore_n (L' := [some (.ref w), some (.int n1), some (.int n2), some (.int v13), none, none, none]) i_M_order_16 (of_decide_eq_true rfl) rfl ?_
    refine e_iload_n i_M_order_17 rfl ?_
    refine e_iconst (v := (-1)) i_M_order_18 (by decide) ?_
    refine e_icmpeq (t := 45) i_M_order_19 (by decide) ?_ ?_
    · refine e_iconst (v := 0) i_M_order_45 (by decide) ?_
      refine e_istore (L' := [some (.ref w), some (.int n1), some (.int n2), some (.int v13), some (.int 0), none, none]) i_M_order_46 (of_decide_eq_true rfl) rfl ?_
      refine e_iconst (v := 0) i_M_order_48 (by decide) ?_
      refine e_istore (L' := [some (.ref w), some (.int n1), some (.int n2), some (.int v13), some (.int 0), some (.int 0), none]) i_M_order_49 (of_decide_eq_true rfl) rfl ?_
      refine e_iconst (v := 0) i_M_order_51 (by decide) ?_
      refine e_istore (L' := [some (.ref w), some (.int n1), some (.int n2), some (.int v13), some (.int 0), some (.int 0), some (.int 0)]) i_M_order_52 (of_decide_eq_true rfl) rfl ?_
      exact rfl
    · refine e_iload_n i_M_order_22 rfl ?_
      refine e_iconst (v := 0) i_M_order_23 (by decide) ?_
      refine e_iload_n i_M_order_24 rfl ?_
      refine e_iconst (v := 1) i_M_order_25 (by decide) ?_
      refine e_isub i_M_order_26 ?_
      refine e_callI (as := [.int n2, .int 0, .int (v13 - (1 : Int32))]) (st' := []) i_M_order_27 lm_96 (Or.inl ⟨rfl, rfl⟩) w_M_isIn rfl rfl rfl (Nat.le_of_ble_eq_true rfl) (Nat.le_of_ble_eq_true rfl) (m_rlt (q_M_isIn _) (by decide)) rfl (fun v27 s27 => ?_)
      refine e_ifeq (t := 42) i_M_order_30 (by decide) ?_ ?_
      · refine e_bipush (v := (-2)) i_M_order_42 (by decide) ?_
        exact e_iretI i_M_order_44 rfl
      · refine e_aload_n i_M_order_33 rfl ?_
        refine e_getR i_M_order_34 lf_70 (by decide) ft_11_26 (fun v34 => ?_)
        refine e_iload_n i_M_order_37 rfl ?_
        refine e_iald i_M_order_38 (fun v38 => ?_)
        refine e_goto (t := 44) i_M_order_39 (by decide) ?_
        exact e_iretI i_M_order_44 rfl
  · refine e_bipush (v := (-2)) i_M_order_8 (by decide) ?_
    exact e_iretI i_M_order_10 rfl
set_option maxRecDepth 20000 in
set_option maxHeartbeats 1000000 in
theorem E_M_order_54 (x : m_X) (ρ : Nat) (hρ : 4 ≤ ρ) (s : m_H) (w : Nat) (n1 : Int32) (n2 : Int32) (n3 : Int32) (n4 : Int32) (n5 : Int32) (n6 : Int32)  : m_D x ρ k_M_order 54 [some (.ref w), some (.int n1), some (.int n2), some (.int n3), some (.int n4), some (.int n5), some (.int n6)] [] s = if n3 ≤ n6 then (some (some (.int n4), s)) else (m_fR s 11 26 w).bind fun v64 => (m_ia x s v64 n6).bind fun v69 => m_bI (m_M x k_M_get [.ref w, .int v69, .int 2] s) fun v71 s71 => (m_fR s71 11 0 w).bind fun v80 => (m_fR s71 11 26 w).bind fun v87 => (m_ia x s71 v87 n6).bind fun v92 => (m_ia x s71 v80 ((168 : Int32) + v92)).bind fun v94 => m_D x ρ k_M_order 54 [some (.ref w), some (.int n1), some (.int n2), some (.int n3), some (.int (n4 + (v94 * (n5 + v71)))), some (.int (n5 + v71)), some (.int (n6 + (1 : Int32)))] [] s71 := by
  refine e_iload i_M_order_54 rfl ?_
  refine e_iload_n i_M_order_56 rfl ?_
  refine e_icmpge (t := 107) i_M_order_57 (by decide) ?_ ?_
  · refine e_iload i_M_order_107 rfl ?_
    exact e_iretI i_M_order_109 rfl
  · refine e_iload i_M_order_60 rfl ?_
    refine e_aload_n i_M_order_62 rfl ?_
    refine e_aload_n i_M_order_63 rfl ?_
    refine e_getR i_M_order_64 lf_70 (by decide) ft_11_26 (fun v64 => ?_)
    refine e_iload i_M_order_67 rfl ?_
    refine e_iald i_M_order_69 (fun v69 => ?_)
    refine e_iconst (v := 2) i_M_order_70 (by decide) ?_
    refine e_callI (as := [.ref w, .int v69, .int 2]) (st' := [.int n5]) i_M_order_71 lm_106 (Or.inr (Or.inl ⟨rfl, rfl⟩)) w_M_get rfl rfl rfl (Nat.le_of_ble_eq_true rfl) (Nat.le_of_ble_eq_true rfl) (m_rlt (q_M_get _) (Nat.lt_of_lt_of_le (by decide) hρ)) rfl (fun v71 s71 => ?_)
    refine e_iadd i_M_order_74 ?_
    refine e_istore (L' := [some (.ref w), some (.int n1), some (.int n2), some (.int n3), some (.int n4), some (.int (n5 + v71)), some (.int n6)]) i_M_order_75 (of_decide_eq_true rfl) rfl ?_
    refine e_iload i_M_order_77 rfl ?_
    refine e_aload_n i_M_order_79 rfl ?_
    refine e_getR i_M_order_80 lf_0 (by decide) ft_11_0 (fun v80 => ?_)
    refine e_sipush (v := 168) i_M_order_83 (by decide) ?_
    refine e_aload_n i_M_order_86 rfl ?_
    refine e_getR i_M_order_87 lf_70 (by decide) ft_11_26 (fun v87 => ?_)
    refine e_iload i_M_order_90 rfl ?_
    refine e_iald i_M_order_92 (fun v92 => ?_)
    refine e_iadd i_M_order_93 ?_
    refine e_iald i_M_order_94 (fun v94 => ?_)
    refine e_iload i_M_order_95 rfl ?_
    refine e_imul i_M_order_97 ?_
    refine e_iadd i_M_order_98 ?_
    refine e_istore (L' := [some (.ref w), some (.int n1), some (.int n2), some (.int n3), some (.int (n4 + (v94 * (n5 + v71)))), some (.int (n5 + v71)), some (.int n6)]) i_M_order_99 (of_decide_eq_true rfl) rfl ?_
    refine e_iinc (w := 1) (L' := [some (.ref w), some (.int n1), some (.int n2), some (.int n3), some (.int (n4 + (v94 * (n5 + v71)))), some (.int (n5 + v71)), some (.int (n6 + (1 : Int32)))]) i_M_order_101 rfl (of_decide_eq_true rfl) (by decide) rfl ?_
    refine e_goto (t := 54) i_M_order_104 (by decide) ?_
    exact rfl
theorem i_M_layDuties_0 : m_at k_M_layDuties 0 = some (.iconst 0, 1, 0) := m_at_of r_M_layDuties (by decide +kernel)
theorem i_M_layDuties_1 : m_at k_M_layDuties 1 = some (.istore_n 2, 1, 0) := m_at_of r_M_layDuties (by decide +kernel)
theorem i_M_layDuties_2 : m_at k_M_layDuties 2 = some (.iconst 0, 1, 0) := m_at_of r_M_layDuties (by decide +kernel)
theorem i_M_layDuties_3 : m_at k_M_layDuties 3 = some (.istore_n 3, 1, 0) := m_at_of r_M_layDuties (by decide +kernel)
theorem i_M_layDuties_4 : m_at k_M_layDuties 4 = some (.iload_n 3, 1, 0) := m_at_of r_M_layDuties (by decide +kernel)
theorem i_M_layDuties_5 : m_at k_M_layDuties 5 = some (.aload_n 0, 1, 0) := m_at_of r_M_layDuties (by decide +kernel)
theorem i_M_layDuties_6 : m_at k_M_layDuties 6 = some (.getfield 7, 3, 0) := m_at_of r_M_layDuties (by decide +kernel)
theorem i_M_layDuties_9 : m_at k_M_layDuties 9 = some (.bipush 11, 2, 0) := m_at_of r_M_layDuties (by decide +kernel)
theorem i_M_layDuties_11 : m_at k_M_layDuties 11 = some (.iaload, 1, 0) := m_at_of r_M_layDuties (by decide +kernel)
theorem i_M_layDuties_12 : m_at k_M_layDuties 12 = some (.if_icmp .ge (88), 3, 0) := m_at_of r_M_layDuties (by decide +kernel)
theorem i_M_layDuties_15 : m_at k_M_layDuties 15 = some (.aload_n 0, 1, 0) := m_at_of r_M_layDuties (by decide +kernel)
theorem i_M_layDuties_16 : m_at k_M_layDuties 16 = some (.iload_n 3, 1, 0) := m_at_of r_M_layDuties (by decide +kernel)
theorem i_M_layDuties_17 : m_at k_M_layDuties 17 = some (.iconst 0, 1, 0) := m_at_of r_M_layDuties (by decide +kernel)
theorem i_M_layDuties_18 : m_at k_M_layDuties 18 = some (.invokevirtual 85, 3, 106) := m_at_of r_M_layDuties (by decide +kernel)
theorem i_M_layDuties_21 : m_at k_M_layDuties 21 = some (.iload_n 1, 1, 0) := m_at_of r_M_layDuties (by decide +kernel)
theorem i_M_layDuties_22 : m_at k_M_layDuties 22 = some (.if_icmp .ne (72), 3, 0) := m_at_of r_M_layDuties (by decide +kernel)
theorem i_M_layDuties_25 : m_at k_M_layDuties 25 = some (.aload_n 0, 1, 0) := m_at_of r_M_layDuties (by decide +kernel)
theorem i_M_layDuties_26 : m_at k_M_layDuties 26 = some (.iload_n 3, 1, 0) := m_at_of r_M_layDuties (by decide +kernel)
theorem i_M_layDuties_27 : m_at k_M_layDuties 27 = some (.invokevirtual 89, 3, 105) := m_at_of r_M_layDuties (by decide +kernel)
theorem i_M_layDuties_30 : m_at k_M_layDuties 30 = some (.ifCond .ne (6), 3, 0) := m_at_of r_M_layDuties (by decide +kernel)
theorem i_M_layDuties_33 : m_at k_M_layDuties 33 = some (.goto (61), 3, 0) := m_at_of r_M_layDuties (by decide +kernel)
theorem i_M_layDuties_36 : m_at k_M_layDuties 36 = some (.iload_n 2, 1, 0) := m_at_of r_M_layDuties (by decide +kernel)
theorem i_M_layDuties_37 : m_at k_M_layDuties 37 = some (.istore 4, 2, 0) := m_at_of r_M_layDuties (by decide +kernel)
theorem i_M_layDuties_39 : m_at k_M_layDuties 39 = some (.iload 4, 2, 0) := m_at_of r_M_layDuties (by decide +kernel)
theorem i_M_layDuties_41 : m_at k_M_layDuties 41 = some (.ifCond .le (42), 3, 0) := m_at_of r_M_layDuties (by decide +kernel)
theorem i_M_layDuties_44 : m_at k_M_layDuties 44 = some (.aload_n 0, 1, 0) := m_at_of r_M_layDuties (by decide +kernel)
theorem i_M_layDuties_45 : m_at k_M_layDuties 45 = some (.iload_n 3, 1, 0) := m_at_of r_M_layDuties (by decide +kernel)
theorem i_M_layDuties_46 : m_at k_M_layDuties 46 = some (.aload_n 0, 1, 0) := m_at_of r_M_layDuties (by decide +kernel)
theorem i_M_layDuties_47 : m_at k_M_layDuties 47 = some (.getfield 53, 3, 70) := m_at_of r_M_layDuties (by decide +kernel)
theorem i_M_layDuties_50 : m_at k_M_layDuties 50 = some (.iload 4, 2, 0) := m_at_of r_M_layDuties (by decide +kernel)
theorem i_M_layDuties_52 : m_at k_M_layDuties 52 = some (.iconst 1, 1, 0) := m_at_of r_M_layDuties (by decide +kernel)
theorem i_M_layDuties_53 : m_at k_M_layDuties 53 = some (.isub, 1, 0) := m_at_of r_M_layDuties (by decide +kernel)
theorem i_M_layDuties_54 : m_at k_M_layDuties 54 = some (.iaload, 1, 0) := m_at_of r_M_layDuties (by decide +kernel)
theorem i_M_layDuties_55 : m_at k_M_layDuties 55 = some (.invokevirtual 438, 3, 194) := m_at_of r_M_layDuties (by decide +kernel)
theorem i_M_layDuties_58 : m_at k_M_layDuties 58 = some (.ifCond .eq (25), 3, 0) := m_at_of r_M_layDuties (by decide +kernel)
theorem i_M_layDuties_61 : m_at k_M_layDuties 61 = some (.aload_n 0, 1, 0) := m_at_of r_M_layDuties (by decide +kernel)
theorem i_M_layDuties_62 : m_at k_M_layDuties 62 = some (.getfield 53, 3, 70) := m_at_of r_M_layDuties (by decide +kernel)
theorem i_M_layDuties_65 : m_at k_M_layDuties 65 = some (.iload 4, 2, 0) := m_at_of r_M_layDuties (by decide +kernel)
theorem i_M_layDuties_67 : m_at k_M_layDuties 67 = some (.aload_n 0, 1, 0) := m_at_of r_M_layDuties (by decide +kernel)
theorem i_M_layDuties_68 : m_at k_M_layDuties 68 = some (.getfield 53, 3, 70) := m_at_of r_M_layDuties (by decide +kernel)
theorem i_M_layDuties_71 : m_at k_M_layDuties 71 = some (.iload 4, 2, 0) := m_at_of r_M_layDuties (by decide +kernel)
theorem i_M_layDuties_73 : m_at k_M_layDuties 73 = some (.iconst 1, 1, 0) := m_at_of r_M_layDuties (by decide +kernel)
theorem i_M_layDuties_74 : m_at k_M_layDuties 74 = some (.isub, 1, 0) := m_at_of r_M_layDuties (by decide +kernel)
theorem i_M_layDuties_75 : m_at k_M_layDuties 75 = some (.iaload, 1, 0) := m_at_of r_M_layDuties (by decide +kernel)
theorem i_M_layDuties_76 : m_at k_M_layDuties 76 = some (.iastore, 1, 0) := m_at_of r_M_layDuties (by decide +kernel)
theorem i_M_layDuties_77 : m_at k_M_layDuties 77 = some (.iinc 4 (-1), 3, 0) := m_at_of r_M_layDuties (by decide +kernel)
theorem i_M_layDuties_80 : m_at k_M_layDuties 80 = some (.goto (-41), 3, 0) := m_at_of r_M_layDuties (by decide +kernel)
theorem i_M_layDuties_83 : m_at k_M_layDuties 83 = some (.aload_n 0, 1, 0) := m_at_of r_M_layDuties (by decide +kernel)
theorem i_M_layDuties_84 : m_at k_M_layDuties 84 = some (.getfield 53, 3, 70) := m_at_of r_M_layDuties (by decide +kernel)
theorem i_M_layDuties_87 : m_at k_M_layDuties 87 = some (.iload 4, 2, 0) := m_at_of r_M_layDuties (by decide +kernel)
theorem i_M_layDuties_89 : m_at k_M_layDuties 89 = some (.iload_n 3, 1, 0) := m_at_of r_M_layDuties (by decide +kernel)
theorem i_M_layDuties_90 : m_at k_M_layDuties 90 = some (.iastore, 1, 0) := m_at_of r_M_layDuties (by decide +kernel)
theorem i_M_layDuties_91 : m_at k_M_layDuties 91 = some (.iinc 2 (1), 3, 0) := m_at_of r_M_layDuties (by decide +kernel)
theorem i_M_layDuties_94 : m_at k_M_layDuties 94 = some (.iinc 3 (1), 3, 0) := m_at_of r_M_layDuties (by decide +kernel)
theorem i_M_layDuties_97 : m_at k_M_layDuties 97 = some (.goto (-93), 3, 0) := m_at_of r_M_layDuties (by decide +kernel)
theorem i_M_layDuties_100 : m_at k_M_layDuties 100 = some (.iload_n 2, 1, 0) := m_at_of r_M_layDuties (by decide +kernel)
theorem i_M_layDuties_101 : m_at k_M_layDuties 101 = some (.ireturn, 1, 0) := m_at_of r_M_layDuties (by decide +kernel)
set_option maxRecDepth 20000 in
set_option maxHeartbeats 1000000 in
theorem E_M_layDuties (x : m_X) (s : m_H) (w : Nat) (n1 : Int32) : m_M x k_M_layDuties [.ref w, .int n1] s = if m_isO s w 11 = true then (m_D x 3 k_M_layDuties 4 [some (.ref w), some (.int n1), some (.int 0), some (.int 0), none] [] s) else none := by
  refine e_M1 (L0 := [some (.ref w), some (.int n1), none, none, none]) rfl (by decide +kernel) rfl (q_M_layDuties _) rfl ?_
  refine e_iconst (v := 0) i_M_layDuties_0 (by decide) ?_
  refine e_istore_n (L' := [some (.ref w), some (.int n1), some (.int 0), none, none]) i_M_layDuties_1 (of_decide_eq_true rfl) rfl ?_
  refine e_iconst (v := 0) i_M_layDuties_2 (by decide) ?_
  refine e_istore_n (L' := [some (.ref w), some (.int n1), some (.int 0), some (.int 0), none]) i_M_layDuties_3 (of_decide_eq_true rfl) rfl ?_
  exact rfl
set_option maxRecDepth 20000 in
set_option maxHeartbeats 1000000 in
theorem E_M_layDuties_4 (x : m_X) (ρ : Nat) (hρ : 3 ≤ ρ) (s : m_H) (w : Nat) (n1 : Int32) (n2 : Int32) (n3 : Int32) (d4 : Option Value) (hd4 : m_nl d4 = true) : m_D x ρ k_M_layDuties 4 [some (.ref w), some (.int n1), some (.int n2), some (.int n3), d4] [] s = (m_fR s 11 0 w).bind fun v6 => (m_ia x s v6 11).bind fun v11 => if v11 ≤ n3 then (some (some (.int n2), s)) else m_bI (m_M x k_M_get [.ref w, .int n3, .int 0] s) fun v18 s18 => if v18 = n1 then (m_bI (m_M x k_M_isOpen [.ref w, .int n3] s18) fun v27 s27 => if v27 = 0 then (m_D x ρ k_M_layDuties 4 [some (.ref w), some (.int n1), some (.int n2), some (.int (n3 + (1 : Int32))), d4] [] s27) else m_D x ρ k_M_layDuties 39 [some (.ref w), some (.int n1), some (.int n2), some (.int n3), some (.int n2)] [] s27) else m_D x ρ k_M_layDuties 4 [some (.ref w), some (.int n1), some (.int n2), some (.int (n3 + (1 : Int32))), d4] [] s18 := by
  refine e_iload_n i_M_layDuties_4 rfl ?_
  refine e_aload_n i_M_layDuties_5 rfl ?_
  refine e_getR i_M_layDuties_6 lf_0 (by decide) ft_11_0 (fun v6 => ?_)
  refine e_bipush (v := 11) i_M_layDuties_9 (by decide) ?_
  refine e_iald i_M_layDuties_11 (fun v11 => ?_)
  refine e_icmpge (t := 100) i_M_layDuties_12 (by decide) ?_ ?_
  · refine e_iload_n i_M_layDuties_100 rfl ?_
    exact e_iretI i_M_layDuties_101 rfl
  · refine e_aload_n i_M_layDuties_15 rfl ?_
    refine e_iload_n i_M_layDuties_16 rfl ?_
    refine e_iconst (v := 0) i_M_layDuties_17 (by decide) ?_
    refine e_callI (as := [.ref w, .int n3, .int 0]) (st' := []) i_M_layDuties_18 lm_106 (Or.inr (Or.inl ⟨rfl, rfl⟩)) w_M_get rfl rfl rfl (Nat.le_of_ble_eq_true rfl) (Nat.le_of_ble_eq_true rfl) (m_rlt (q_M_get _) (Nat.lt_of_lt_of_le (by decide) hρ)) rfl (fun v18 s18 => ?_)
    refine e_iload_n i_M_layDuties_21 rfl ?_
    refine e_icmpne (t := 94) i_M_layDuties_22 (by decide) ?_ ?_
    · refine e_iinc (w := 1) (L' := [some (.ref w), some (.int n1), some (.int n2), some (.int (n3 + (1 : Int32))), d4]) i_M_layDuties_94 rfl (of_decide_eq_true rfl) (by decide) rfl ?_
      refine e_goto (t := 4) i_M_layDuties_97 (by decide) ?_
      exact rfl
    · refine e_aload_n i_M_layDuties_25 rfl ?_
      refine e_iload_n i_M_layDuties_26 rfl ?_
      refine e_callI (as := [.ref w, .int n3]) (st' := []) i_M_layDuties_27 lm_105 (Or.inr (Or.inl ⟨rfl, rfl⟩)) w_M_isOpen rfl rfl rfl (Nat.le_of_ble_eq_true rfl) (Nat.le_of_ble_eq_true rfl) (m_rlt (q_M_isOpen _) (Nat.lt_of_lt_of_le (by decide) hρ)) rfl (fun v27 s27 => ?_)
      refine e_ifne (t := 36) i_M_layDuties_30 (by decide) ?_ ?_
      · refine e_iload_n i_M_layDuties_36 rfl ?_
        refine e_istore (L' := [some (.ref w), some (.int n1), some (.int n2), some (.int n3), some (.int n2)]) i_M_layDuties_37 (of_decide_eq_true rfl) rfl ?_
        exact rfl
      · refine e_goto (t := 94) i_M_layDuties_33 (by decide) ?_
        refine e_iinc (w := 1) (L' := [some (.ref w), some (.int n1), some (.int n2), some (.int (n3 + (1 : Int32))), d4]) i_M_layDuties_94 rfl (of_decide_eq_true rfl) (by decide) rfl ?_
        refine e_goto (t := 4) i_M_layDuties_97 (by decide) ?_
        exact rfl
set_option maxRecDepth 20000 in
set_option maxHeartbeats 1000000 in
theorem E_M_layDuties_39 (x : m_X) (ρ : Nat) (hρ : 3 ≤ ρ) (s : m_H) (w : Nat) (n1 : Int32) (n2 : Int32) (n3 : Int32) (n4 : Int32)  : m_D x ρ k_M_layDuties 39 [some (.ref w), some (.int n1), some (.int n2), some (.int n3), some (.int n4)] [] s = if n4 ≤ 0 then ((m_fR s 11 26 w).bind fun v84 => (m_is s v84 n4 n3).bind fun s90 => m_D x ρ k_M_layDuties 4 [some (.ref w), some (.int n1), some (.int (n2 + (1 : Int32))), some (.int (n3 + (1 : Int32))), some (.int n4)] [] s90) else (m_fR s 11 26 w).bind fun v47 => (m_ia x s v47 (n4 - (1 : Int32))).bind fun v54 => m_bI (m_M x k_M_isSooner [.ref w, .int n3, .int v54] s) fun v55 s55 => if v55 = 0 then ((m_fR s55 11 26 w).bind fun v84 => (m_is s55 v84 n4 n3).bind fun s90 => m_D x ρ k_M_layDuties 4 [some (.ref w), some (.int n1), some (.int (n2 + (1 : Int32))), some (.int (n3 + (1 : Int32))), some (.int n4)] [] s90) else (m_fR s55 11 26 w).bind fun v62 => (m_fR s55 11 26 w).bind fun v68 => (m_ia x s55 v68 (n4 - (1 : Int32))).bind fun v75 => (m_is s55 v62 n4 v75).bind fun s76 => m_D x ρ k_M_layDuties 39 [some (.ref w), some (.int n1), some (.int n2), some (.int n3), some (.int (n4 + (-1 : Int32)))] [] s76 := by
  refine e_iload i_M_layDuties_39 rfl ?_
  refine e_ifle (t := 83) i_M_layDuties_41 (by decide) ?_ ?_
  · refine e_aload_n i_M_layDuties_83 rfl ?_
    refine e_getR i_M_layDuties_84 lf_70 (by decide) ft_11_26 (fun v84 => ?_)
    refine e_iload i_M_layDuties_87 rfl ?_
    refine e_iload_n i_M_layDuties_89 rfl ?_
    refine e_iast i_M_layDuties_90 (fun s90 => ?_)
    refine e_iinc (w := 1) (L' := [some (.ref w), some (.int n1), some (.int (n2 + (1 : Int32))), some (.int n3), some (.int n4)]) i_M_layDuties_91 rfl (of_decide_eq_true rfl) (by decide) rfl ?_
    refine e_iinc (w := 1) (L' := [some (.ref w), some (.int n1), some (.int (n2 + (1 : Int32))), some (.int (n3 + (1 : Int32))), some (.int n4)]) i_M_layDuties_94 rfl (of_decide_eq_true rfl) (by decide) rfl ?_
    refine e_goto (t := 4) i_M_layDuties_97 (by decide) ?_
    exact rfl
  · refine e_aload_n i_M_layDuties_44 rfl ?_
    refine e_iload_n i_M_layDuties_45 rfl ?_
    refine e_aload_n i_M_layDuties_46 rfl ?_
    refine e_getR i_M_layDuties_47 lf_70 (by decide) ft_11_26 (fun v47 => ?_)
    refine e_iload i_M_layDuties_50 rfl ?_
    refine e_iconst (v := 1) i_M_layDuties_52 (by decide) ?_
    refine e_isub i_M_layDuties_53 ?_
    refine e_iald i_M_layDuties_54 (fun v54 => ?_)
    refine e_callI (as := [.ref w, .int n3, .int v54]) (st' := []) i_M_layDuties_55 lm_194 (Or.inr (Or.inl ⟨rfl, rfl⟩)) w_M_isSooner rfl rfl rfl (Nat.le_of_ble_eq_true rfl) (Nat.le_of_ble_eq_true rfl) (m_rlt (q_M_isSooner _) (Nat.lt_of_lt_of_le (by decide) hρ)) rfl (fun v55 s55 => ?_)
    refine e_ifeq (t := 83) i_M_layDuties_58 (by decide) ?_ ?_
    · refine e_aload_n i_M_layDuties_83 rfl ?_
      refine e_getR i_M_layDuties_84 lf_70 (by decide) ft_11_26 (fun v84 => ?_)
      refine e_iload i_M_layDuties_87 rfl ?_
      refine e_iload_n i_M_layDuties_89 rfl ?_
      refine e_iast i_M_layDuties_90 (fun s90 => ?_)
      refine e_iinc (w := 1) (L' := [some (.ref w), some (.int n1), some (.int (n2 + (1 : Int32))), some (.int n3), some (.int n4)]) i_M_layDuties_91 rfl (of_decide_eq_true rfl) (by decide) rfl ?_
      refine e_iinc (w := 1) (L' := [some (.ref w), some (.int n1), some (.int (n2 + (1 : Int32))), some (.int (n3 + (1 : Int32))), some (.int n4)]) i_M_layDuties_94 rfl (of_decide_eq_true rfl) (by decide) rfl ?_
      refine e_goto (t := 4) i_M_layDuties_97 (by decide) ?_
      exact rfl
    · refine e_aload_n i_M_layDuties_61 rfl ?_
      refine e_getR i_M_layDuties_62 lf_70 (by decide) ft_11_26 (fun v62 => ?_)
      refine e_iload i_M_layDuties_65 rfl ?_
      refine e_aload_n i_M_layDuties_67 rfl ?_
      refine e_getR i_M_layDuties_68 lf_70 (by decide) ft_11_26 (fun v68 => ?_)
      refine e_iload i_M_layDuties_71 rfl ?_
      refine e_iconst (v := 1) i_M_layDuties_73 (by decide) ?_
      refine e_isub i_M_layDuties_74 ?_
      refine e_iald i_M_layDuties_75 (fun v75 => ?_)
      refine e_iast i_M_layDuties_76 (fun s76 => ?_)
      refine e_iinc (w := (-1)) (L' := [some (.ref w), some (.int n1), some (.int n2), some (.int n3), some (.int (n4 + (-1 : Int32)))]) i_M_layDuties_77 rfl (of_decide_eq_true rfl) (by decide) rfl ?_
      refine e_goto (t := 39) i_M_layDuties_80 (by decide) ?_
      exact rfl
theorem i_M_isSooner_0 : m_at k_M_isSooner 0 = some (.aload_n 0, 1, 0) := m_at_of r_M_isSooner (by decide +kernel)
theorem i_M_isSooner_1 : m_at k_M_isSooner 1 = some (.getfield 7, 3, 0) := m_at_of r_M_isSooner (by decide +kernel)
theorem i_M_isSooner_4 : m_at k_M_isSooner 4 = some (.sipush 168, 3, 0) := m_at_of r_M_isSooner (by decide +kernel)
theorem i_M_isSooner_7 : m_at k_M_isSooner 7 = some (.iload_n 1, 1, 0) := m_at_of r_M_isSooner (by decide +kernel)
theorem i_M_isSooner_8 : m_at k_M_isSooner 8 = some (.iadd, 1, 0) := m_at_of r_M_isSooner (by decide +kernel)
theorem i_M_isSooner_9 : m_at k_M_isSooner 9 = some (.iaload, 1, 0) := m_at_of r_M_isSooner (by decide +kernel)
theorem i_M_isSooner_10 : m_at k_M_isSooner 10 = some (.aload_n 0, 1, 0) := m_at_of r_M_isSooner (by decide +kernel)
theorem i_M_isSooner_11 : m_at k_M_isSooner 11 = some (.iload_n 2, 1, 0) := m_at_of r_M_isSooner (by decide +kernel)
theorem i_M_isSooner_12 : m_at k_M_isSooner 12 = some (.iconst 2, 1, 0) := m_at_of r_M_isSooner (by decide +kernel)
theorem i_M_isSooner_13 : m_at k_M_isSooner 13 = some (.invokevirtual 85, 3, 106) := m_at_of r_M_isSooner (by decide +kernel)
theorem i_M_isSooner_16 : m_at k_M_isSooner 16 = some (.imul, 1, 0) := m_at_of r_M_isSooner (by decide +kernel)
theorem i_M_isSooner_17 : m_at k_M_isSooner 17 = some (.aload_n 0, 1, 0) := m_at_of r_M_isSooner (by decide +kernel)
theorem i_M_isSooner_18 : m_at k_M_isSooner 18 = some (.getfield 7, 3, 0) := m_at_of r_M_isSooner (by decide +kernel)
theorem i_M_isSooner_21 : m_at k_M_isSooner 21 = some (.sipush 168, 3, 0) := m_at_of r_M_isSooner (by decide +kernel)
theorem i_M_isSooner_24 : m_at k_M_isSooner 24 = some (.iload_n 2, 1, 0) := m_at_of r_M_isSooner (by decide +kernel)
theorem i_M_isSooner_25 : m_at k_M_isSooner 25 = some (.iadd, 1, 0) := m_at_of r_M_isSooner (by decide +kernel)
theorem i_M_isSooner_26 : m_at k_M_isSooner 26 = some (.iaload, 1, 0) := m_at_of r_M_isSooner (by decide +kernel)
theorem i_M_isSooner_27 : m_at k_M_isSooner 27 = some (.aload_n 0, 1, 0) := m_at_of r_M_isSooner (by decide +kernel)
theorem i_M_isSooner_28 : m_at k_M_isSooner 28 = some (.iload_n 1, 1, 0) := m_at_of r_M_isSooner (by decide +kernel)
theorem i_M_isSooner_29 : m_at k_M_isSooner 29 = some (.iconst 2, 1, 0) := m_at_of r_M_isSooner (by decide +kernel)
theorem i_M_isSooner_30 : m_at k_M_isSooner 30 = some (.invokevirtual 85, 3, 106) := m_at_of r_M_isSooner (by decide +kernel)
theorem i_M_isSooner_33 : m_at k_M_isSooner 33 = some (.imul, 1, 0) := m_at_of r_M_isSooner (by decide +kernel)
theorem i_M_isSooner_34 : m_at k_M_isSooner 34 = some (.isub, 1, 0) := m_at_of r_M_isSooner (by decide +kernel)
theorem i_M_isSooner_35 : m_at k_M_isSooner 35 = some (.istore_n 3, 1, 0) := m_at_of r_M_isSooner (by decide +kernel)
theorem i_M_isSooner_36 : m_at k_M_isSooner 36 = some (.iload_n 3, 1, 0) := m_at_of r_M_isSooner (by decide +kernel)
theorem i_M_isSooner_37 : m_at k_M_isSooner 37 = some (.ifCond .gt (12), 3, 0) := m_at_of r_M_isSooner (by decide +kernel)
theorem i_M_isSooner_40 : m_at k_M_isSooner 40 = some (.iload_n 3, 1, 0) := m_at_of r_M_isSooner (by decide +kernel)
theorem i_M_isSooner_41 : m_at k_M_isSooner 41 = some (.ifCond .ne (12), 3, 0) := m_at_of r_M_isSooner (by decide +kernel)
theorem i_M_isSooner_44 : m_at k_M_isSooner 44 = some (.iload_n 1, 1, 0) := m_at_of r_M_isSooner (by decide +kernel)
theorem i_M_isSooner_45 : m_at k_M_isSooner 45 = some (.iload_n 2, 1, 0) := m_at_of r_M_isSooner (by decide +kernel)
theorem i_M_isSooner_46 : m_at k_M_isSooner 46 = some (.if_icmp .ge (7), 3, 0) := m_at_of r_M_isSooner (by decide +kernel)
theorem i_M_isSooner_49 : m_at k_M_isSooner 49 = some (.iconst 1, 1, 0) := m_at_of r_M_isSooner (by decide +kernel)
theorem i_M_isSooner_50 : m_at k_M_isSooner 50 = some (.goto (4), 3, 0) := m_at_of r_M_isSooner (by decide +kernel)
theorem i_M_isSooner_53 : m_at k_M_isSooner 53 = some (.iconst 0, 1, 0) := m_at_of r_M_isSooner (by decide +kernel)
theorem i_M_isSooner_54 : m_at k_M_isSooner 54 = some (.ireturn, 1, 0) := m_at_of r_M_isSooner (by decide +kernel)
set_option maxRecDepth 20000 in
set_option maxHeartbeats 1000000 in
theorem E_M_isSooner (x : m_X) (s : m_H) (w : Nat) (n1 : Int32) (n2 : Int32) : m_M x k_M_isSooner [.ref w, .int n1, .int n2] s = if m_isO s w 11 = true then ((m_fR s 11 0 w).bind fun v1 => (m_ia x s v1 ((168 : Int32) + n1)).bind fun v9 => m_bI (m_M x k_M_get [.ref w, .int n2, .int 2] s) fun v13 s13 => (m_fR s13 11 0 w).bind fun v18 => (m_ia x s13 v18 ((168 : Int32) + n2)).bind fun v26 => m_bI (m_M x k_M_get [.ref w, .int n1, .int 2] s13) fun v30 s30 => if 0 < ((v9 * v13) - (v26 * v30)) then (some (some (.int 1), s30)) else if ((v9 * v13) - (v26 * v30)) = 0 then (if n2 ≤ n1 then (some (some (.int 0), s30)) else some (some (.int 1), s30)) else some (some (.int 0), s30)) else none := by
  refine e_M1 (L0 := [some (.ref w), some (.int n1), some (.int n2), none]) rfl (by decide +kernel) rfl (q_M_isSooner _) rfl ?_
  refine e_aload_n i_M_isSooner_0 rfl ?_
  refine e_getR i_M_isSooner_1 lf_0 (by decide) ft_11_0 (fun v1 => ?_)
  refine e_sipush (v := 168) i_M_isSooner_4 (by decide) ?_
  refine e_iload_n i_M_isSooner_7 rfl ?_
  refine e_iadd i_M_isSooner_8 ?_
  refine e_iald i_M_isSooner_9 (fun v9 => ?_)
  refine e_aload_n i_M_isSooner_10 rfl ?_
  refine e_iload_n i_M_isSooner_11 rfl ?_
  refine e_iconst (v := 2) i_M_isSooner_12 (by decide) ?_
  refine e_callI (as := [.ref w, .int n2, .int 2]) (st' := [.int v9]) i_M_isSooner_13 lm_106 (Or.inr (Or.inl ⟨rfl, rfl⟩)) w_M_get rfl rfl rfl (Nat.le_of_ble_eq_true rfl) (Nat.le_of_ble_eq_true rfl) (m_rlt (q_M_get _) (by decide)) rfl (fun v13 s13 => ?_)
  refine e_imul i_M_isSooner_16 ?_
  refine e_aload_n i_M_isSooner_17 rfl ?_
  refine e_getR i_M_isSooner_18 lf_0 (by decide) ft_11_0 (fun v18 => ?_)
  refine e_sipush (v := 168) i_M_isSooner_21 (by decide) ?_
  refine e_iload_n i_M_isSooner_24 rfl ?_
  refine e_iadd i_M_isSooner_25 ?_
  refine e_iald i_M_isSooner_26 (fun v26 => ?_)
  refine e_aload_n i_M_isSooner_27 rfl ?_
  refine e_iload_n i_M_isSooner_28 rfl ?_
  refine e_iconst (v := 2) i_M_isSooner_29 (by decide) ?_
  refine e_callI (as := [.ref w, .int n1, .int 2]) (st' := [.int v26, .int (v9 * v13)]) i_M_isSooner_30 lm_106 (Or.inr (Or.inl ⟨rfl, rfl⟩)) w_M_get rfl rfl rfl (Nat.le_of_ble_eq_true rfl) (Nat.le_of_ble_eq_true rfl) (m_rlt (q_M_get _) (by decide)) rfl (fun v30 s30 => ?_)
  refine e_imul i_M_isSooner_33 ?_
  refine e_isub i_M_isSooner_34 ?_
  refine e_istore_n (L' := [some (.ref w), some (.int n1), some (.int n2), some (.int ((v9 * v13) - (v26 * v30)))]) i_M_isSooner_35 (of_decide_eq_true rfl) rfl ?_
  refine e_iload_n i_M_isSooner_36 rfl ?_
  refine e_ifgt (t := 49) i_M_isSooner_37 (by decide) ?_ ?_
  · refine e_iconst (v := 1) i_M_isSooner_49 (by decide) ?_
    refine e_goto (t := 54) i_M_isSooner_50 (by decide) ?_
    exact e_iretZ i_M_isSooner_54 rfl (by decide)
  · refine e_iload_n i_M_isSooner_40 rfl ?_
    refine e_ifne (t := 53) i_M_isSooner_41 (by decide) ?_ ?_
    · refine e_iconst (v := 0) i_M_isSooner_53 (by decide) ?_
      exact e_iretZ i_M_isSooner_54 rfl (by decide)
    · refine e_iload_n i_M_isSooner_44 rfl ?_
      refine e_iload_n i_M_isSooner_45 rfl ?_
      refine e_icmpge (t := 53) i_M_isSooner_46 (by decide) ?_ ?_
      · refine e_iconst (v := 0) i_M_isSooner_53 (by decide) ?_
        exact e_iretZ i_M_isSooner_54 rfl (by decide)
      · refine e_iconst (v := 1) i_M_isSooner_49 (by decide) ?_
        refine e_goto (t := 54) i_M_isSooner_50 (by decide) ?_
        exact e_iretZ i_M_isSooner_54 rfl (by decide)
theorem i_M_price_0 : m_at k_M_price 0 = some (.iload_n 1, 1, 0) := m_at_of r_M_price (by decide +kernel)
theorem i_M_price_1 : m_at k_M_price 1 = some (.iconst 0, 1, 0) := m_at_of r_M_price (by decide +kernel)
theorem i_M_price_2 : m_at k_M_price 2 = some (.bipush 11, 2, 0) := m_at_of r_M_price (by decide +kernel)
theorem i_M_price_4 : m_at k_M_price 4 = some (.invokestatic 81, 3, 96) := m_at_of r_M_price (by decide +kernel)
theorem i_M_price_7 : m_at k_M_price 7 = some (.ifCond .eq (13), 3, 0) := m_at_of r_M_price (by decide +kernel)
theorem i_M_price_10 : m_at k_M_price 10 = some (.iload_n 2, 1, 0) := m_at_of r_M_price (by decide +kernel)
theorem i_M_price_11 : m_at k_M_price 11 = some (.iconst 0, 1, 0) := m_at_of r_M_price (by decide +kernel)
theorem i_M_price_12 : m_at k_M_price 12 = some (.bipush 9, 2, 0) := m_at_of r_M_price (by decide +kernel)
theorem i_M_price_14 : m_at k_M_price 14 = some (.invokestatic 81, 3, 96) := m_at_of r_M_price (by decide +kernel)
theorem i_M_price_17 : m_at k_M_price 17 = some (.ifCond .ne (5), 3, 0) := m_at_of r_M_price (by decide +kernel)
theorem i_M_price_20 : m_at k_M_price 20 = some (.iconst 0, 1, 0) := m_at_of r_M_price (by decide +kernel)
theorem i_M_price_21 : m_at k_M_price 21 = some (.ireturn, 1, 0) := m_at_of r_M_price (by decide +kernel)
theorem i_M_price_22 : m_at k_M_price 22 = some (.aload_n 0, 1, 0) := m_at_of r_M_price (by decide +kernel)
theorem i_M_price_23 : m_at k_M_price 23 = some (.getfield 7, 3, 0) := m_at_of r_M_price (by decide +kernel)
theorem i_M_price_26 : m_at k_M_price 26 = some (.sipush 168, 3, 0) := m_at_of r_M_price (by decide +kernel)
theorem i_M_price_29 : m_at k_M_price 29 = some (.iload_n 1, 1, 0) := m_at_of r_M_price (by decide +kernel)
theorem i_M_price_30 : m_at k_M_price 30 = some (.iadd, 1, 0) := m_at_of r_M_price (by decide +kernel)
theorem i_M_price_31 : m_at k_M_price 31 = some (.iload_n 2, 1, 0) := m_at_of r_M_price (by decide +kernel)
theorem i_M_price_32 : m_at k_M_price 32 = some (.iastore, 1, 0) := m_at_of r_M_price (by decide +kernel)
theorem i_M_price_33 : m_at k_M_price 33 = some (.iconst 1, 1, 0) := m_at_of r_M_price (by decide +kernel)
theorem i_M_price_34 : m_at k_M_price 34 = some (.ireturn, 1, 0) := m_at_of r_M_price (by decide +kernel)
set_option maxRecDepth 20000 in
set_option maxHeartbeats 1000000 in
theorem E_M_price (x : m_X) (s : m_H) (w : Nat) (n1 : Int32) (n2 : Int32) : m_M x k_M_price [.ref w, .int n1, .int n2] s = if m_isO s w 11 = true then (m_bI (m_M x k_M_isIn [.int n1, .int 0, .int 11] s) fun v4 s4 => if v4 = 0 then (some (some (.int 0), s4)) else m_bI (m_M x k_M_isIn [.int n2, .int 0, .int 9] s4) fun v14 s14 => if v14 = 0 then (some (some (.int 0), s14)) else (m_fR s14 11 0 w).bind fun v23 => (m_is s14 v23 ((168 : Int32) + n1) n2).bind fun s32 => some (some (.int 1), s32)) else none := by
  refine e_M1 (L0 := [some (.ref w), some (.int n1), some (.int n2)]) rfl (by decide +kernel) rfl (q_M_price _) rfl ?_
  refine e_iload_n i_M_price_0 rfl ?_
  refine e_iconst (v := 0) i_M_price_1 (by decide) ?_
  refine e_bipush (v := 11) i_M_price_2 (by decide) ?_
  refine e_callI (as := [.int n1, .int 0, .int 11]) (st' := []) i_M_price_4 lm_96 (Or.inl ⟨rfl, rfl⟩) w_M_isIn rfl rfl rfl (Nat.le_of_ble_eq_true rfl) (Nat.le_of_ble_eq_true rfl) (m_rlt (q_M_isIn _) (by decide)) rfl (fun v4 s4 => ?_)
  refine e_ifeq (t := 20) i_M_price_7 (by decide) ?_ ?_
  · refine e_iconst (v := 0) i_M_price_20 (by decide) ?_
    exact e_iretZ i_M_price_21 rfl (by decide)
  · refine e_iload_n i_M_price_10 rfl ?_
    refine e_iconst (v := 0) i_M_price_11 (by decide) ?_
    refine e_bipush (v := 9) i_M_price_12 (by decide) ?_
    refine e_callI (as := [.int n2, .int 0, .int 9]) (st' := []) i_M_price_14 lm_96 (Or.inl ⟨rfl, rfl⟩) w_M_isIn rfl rfl rfl (Nat.le_of_ble_eq_true rfl) (Nat.le_of_ble_eq_true rfl) (m_rlt (q_M_isIn _) (by decide)) rfl (fun v14 s14 => ?_)
    refine e_ifne (t := 22) i_M_price_17 (by decide) ?_ ?_
    · refine e_aload_n i_M_price_22 rfl ?_
      refine e_getR i_M_price_23 lf_0 (by decide) ft_11_0 (fun v23 => ?_)
      refine e_sipush (v := 168) i_M_price_26 (by decide) ?_
      refine e_iload_n i_M_price_29 rfl ?_
      refine e_iadd i_M_price_30 ?_
      refine e_iload_n i_M_price_31 rfl ?_
      refine e_iast i_M_price_32 (fun s32 => ?_)
      refine e_iconst (v := 1) i_M_price_33 (by decide) ?_
      exact e_iretZ i_M_price_34 rfl (by decide)
    · refine e_iconst (v := 0) i_M_price_20 (by decide) ?_
      exact e_iretZ i_M_price_21 rfl (by decide)
theorem i_M_free_0 : m_at k_M_free 0 = some (.iconst 0, 1, 0) := m_at_of r_M_free (by decide +kernel)
theorem i_M_free_1 : m_at k_M_free 1 = some (.istore_n 1, 1, 0) := m_at_of r_M_free (by decide +kernel)
theorem i_M_free_2 : m_at k_M_free 2 = some (.iconst 0, 1, 0) := m_at_of r_M_free (by decide +kernel)
theorem i_M_free_3 : m_at k_M_free 3 = some (.istore_n 2, 1, 0) := m_at_of r_M_free (by decide +kernel)
theorem i_M_free_4 : m_at k_M_free 4 = some (.iload_n 2, 1, 0) := m_at_of r_M_free (by decide +kernel)
theorem i_M_free_5 : m_at k_M_free 5 = some (.aload_n 0, 1, 0) := m_at_of r_M_free (by decide +kernel)
theorem i_M_free_6 : m_at k_M_free 6 = some (.getfield 7, 3, 0) := m_at_of r_M_free (by decide +kernel)
theorem i_M_free_9 : m_at k_M_free 9 = some (.iconst 0, 1, 0) := m_at_of r_M_free (by decide +kernel)
theorem i_M_free_10 : m_at k_M_free 10 = some (.iaload, 1, 0) := m_at_of r_M_free (by decide +kernel)
theorem i_M_free_11 : m_at k_M_free 11 = some (.if_icmp .ge (27), 3, 0) := m_at_of r_M_free (by decide +kernel)
theorem i_M_free_14 : m_at k_M_free 14 = some (.iload_n 1, 1, 0) := m_at_of r_M_free (by decide +kernel)
theorem i_M_free_15 : m_at k_M_free 15 = some (.aload_n 0, 1, 0) := m_at_of r_M_free (by decide +kernel)
theorem i_M_free_16 : m_at k_M_free 16 = some (.iload_n 2, 1, 0) := m_at_of r_M_free (by decide +kernel)
theorem i_M_free_17 : m_at k_M_free 17 = some (.invokevirtual 314, 3, 205) := m_at_of r_M_free (by decide +kernel)
theorem i_M_free_20 : m_at k_M_free 20 = some (.ifCond .ne (9), 3, 0) := m_at_of r_M_free (by decide +kernel)
theorem i_M_free_23 : m_at k_M_free 23 = some (.iconst 1, 1, 0) := m_at_of r_M_free (by decide +kernel)
theorem i_M_free_24 : m_at k_M_free 24 = some (.iload_n 2, 1, 0) := m_at_of r_M_free (by decide +kernel)
theorem i_M_free_25 : m_at k_M_free 25 = some (.ishl, 1, 0) := m_at_of r_M_free (by decide +kernel)
theorem i_M_free_26 : m_at k_M_free 26 = some (.goto (4), 3, 0) := m_at_of r_M_free (by decide +kernel)
theorem i_M_free_29 : m_at k_M_free 29 = some (.iconst 0, 1, 0) := m_at_of r_M_free (by decide +kernel)
theorem i_M_free_30 : m_at k_M_free 30 = some (.ior, 1, 0) := m_at_of r_M_free (by decide +kernel)
theorem i_M_free_31 : m_at k_M_free 31 = some (.istore_n 1, 1, 0) := m_at_of r_M_free (by decide +kernel)
theorem i_M_free_32 : m_at k_M_free 32 = some (.iinc 2 (1), 3, 0) := m_at_of r_M_free (by decide +kernel)
theorem i_M_free_35 : m_at k_M_free 35 = some (.goto (-31), 3, 0) := m_at_of r_M_free (by decide +kernel)
theorem i_M_free_38 : m_at k_M_free 38 = some (.iload_n 1, 1, 0) := m_at_of r_M_free (by decide +kernel)
theorem i_M_free_39 : m_at k_M_free 39 = some (.ireturn, 1, 0) := m_at_of r_M_free (by decide +kernel)
set_option maxRecDepth 20000 in
set_option maxHeartbeats 1000000 in
theorem E_M_free (x : m_X) (s : m_H) (w : Nat) : m_M x k_M_free [.ref w] s = if m_isO s w 11 = true then (m_D x 4 k_M_free 4 [some (.ref w), some (.int 0), some (.int 0)] [] s) else none := by
  refine e_M1 (L0 := [some (.ref w), none, none]) rfl (by decide +kernel) rfl (q_M_free _) rfl ?_
  refine e_iconst (v := 0) i_M_free_0 (by decide) ?_
  refine e_istore_n (L' := [some (.ref w), some (.int 0), none]) i_M_free_1 (of_decide_eq_true rfl) rfl ?_
  refine e_iconst (v := 0) i_M_free_2 (by decide) ?_
  refine e_istore_n (L' := [some (.ref w), some (.int 0), some (.int 0)]) i_M_free_3 (of_decide_eq_true rfl) rfl ?_
  exact rfl
set_option maxRecDepth 20000 in
set_option maxHeartbeats 1000000 in
theorem E_M_free_4 (x : m_X) (ρ : Nat) (hρ : 4 ≤ ρ) (s : m_H) (w : Nat) (n1 : Int32) (n2 : Int32)  : m_D x ρ k_M_free 4 [some (.ref w), some (.int n1), some (.int n2)] [] s = (m_fR s 11 0 w).bind fun v6 => (m_ia x s v6 0).bind fun v10 => if v10 ≤ n2 then (some (some (.int n1), s)) else m_bI (m_M x k_M_rightsOf [.ref w, .int n2] s) fun v17 s17 => if v17 = 0 then (m_D x ρ k_M_free 4 [some (.ref w), some (.int (n1 ||| ((1 : Int32) <<< (n2 &&& (31 : Int32))))), some (.int (n2 + (1 : Int32)))] [] s17) else m_D x ρ k_M_free 4 [some (.ref w), some (.int (n1 ||| (0 : Int32))), some (.int (n2 + (1 : Int32)))] [] s17 := by
  refine e_iload_n i_M_free_4 rfl ?_
  refine e_aload_n i_M_free_5 rfl ?_
  refine e_getR i_M_free_6 lf_0 (by decide) ft_11_0 (fun v6 => ?_)
  refine e_iconst (v := 0) i_M_free_9 (by decide) ?_
  refine e_iald i_M_free_10 (fun v10 => ?_)
  refine e_icmpge (t := 38) i_M_free_11 (by decide) ?_ ?_
  · refine e_iload_n i_M_free_38 rfl ?_
    exact e_iretI i_M_free_39 rfl
  · refine e_iload_n i_M_free_14 rfl ?_
    refine e_aload_n i_M_free_15 rfl ?_
    refine e_iload_n i_M_free_16 rfl ?_
    refine e_callI (as := [.ref w, .int n2]) (st' := [.int n1]) i_M_free_17 lm_205 (Or.inr (Or.inl ⟨rfl, rfl⟩)) w_M_rightsOf rfl rfl rfl (Nat.le_of_ble_eq_true rfl) (Nat.le_of_ble_eq_true rfl) (m_rlt (q_M_rightsOf _) (Nat.lt_of_lt_of_le (by decide) hρ)) rfl (fun v17 s17 => ?_)
    refine e_ifne (t := 29) i_M_free_20 (by decide) ?_ ?_
    · refine e_iconst (v := 0) i_M_free_29 (by decide) ?_
      refine e_ior i_M_free_30 ?_
      refine e_istore_n (L' := [some (.ref w), some (.int (n1 ||| (0 : Int32))), some (.int n2)]) i_M_free_31 (of_decide_eq_true rfl) rfl ?_
      refine e_iinc (w := 1) (L' := [some (.ref w), some (.int (n1 ||| (0 : Int32))), some (.int (n2 + (1 : Int32)))]) i_M_free_32 rfl (of_decide_eq_true rfl) (by decide) rfl ?_
      refine e_goto (t := 4) i_M_free_35 (by decide) ?_
      exact rfl
    · refine e_iconst (v := 1) i_M_free_23 (by decide) ?_
      refine e_iload_n i_M_free_24 rfl ?_
      refine e_ishl i_M_free_25 ?_
      refine e_goto (t := 30) i_M_free_26 (by decide) ?_
      refine e_ior i_M_free_30 ?_
      refine e_istore_n (L' := [some (.ref w), some (.int (n1 ||| ((1 : Int32) <<< (n2 &&& (31 : Int32))))), some (.int n2)]) i_M_free_31 (of_decide_eq_true rfl) rfl ?_
      refine e_iinc (w := 1) (L' := [some (.ref w), some (.int (n1 ||| ((1 : Int32) <<< (n2 &&& (31 : Int32))))), some (.int (n2 + (1 : Int32)))]) i_M_free_32 rfl (of_decide_eq_true rfl) (by decide) rfl ?_
      refine e_goto (t := 4) i_M_free_35 (by decide) ?_
      exact rfl
theorem i_M_firstFine_0 : m_at k_M_firstFine 0 = some (.aload_n 0, 1, 0) := m_at_of r_M_firstFine (by decide +kernel)
theorem i_M_firstFine_1 : m_at k_M_firstFine 1 = some (.iload_n 1, 1, 0) := m_at_of r_M_firstFine (by decide +kernel)
theorem i_M_firstFine_2 : m_at k_M_firstFine 2 = some (.invokevirtual 352, 3, 110) := m_at_of r_M_firstFine (by decide +kernel)
theorem i_M_firstFine_5 : m_at k_M_firstFine 5 = some (.ifCond .ne (5), 3, 0) := m_at_of r_M_firstFine (by decide +kernel)
theorem i_M_firstFine_8 : m_at k_M_firstFine 8 = some (.iconst (-1), 1, 0) := m_at_of r_M_firstFine (by decide +kernel)
theorem i_M_firstFine_9 : m_at k_M_firstFine 9 = some (.ireturn, 1, 0) := m_at_of r_M_firstFine (by decide +kernel)
theorem i_M_firstFine_10 : m_at k_M_firstFine 10 = some (.aload_n 0, 1, 0) := m_at_of r_M_firstFine (by decide +kernel)
theorem i_M_firstFine_11 : m_at k_M_firstFine 11 = some (.invokevirtual 432, 3, 207) := m_at_of r_M_firstFine (by decide +kernel)
theorem i_M_firstFine_14 : m_at k_M_firstFine 14 = some (.iconst (-1), 1, 0) := m_at_of r_M_firstFine (by decide +kernel)
theorem i_M_firstFine_15 : m_at k_M_firstFine 15 = some (.istore_n 2, 1, 0) := m_at_of r_M_firstFine (by decide +kernel)
theorem i_M_firstFine_16 : m_at k_M_firstFine 16 = some (.iconst 1, 1, 0) := m_at_of r_M_firstFine (by decide +kernel)
theorem i_M_firstFine_17 : m_at k_M_firstFine 17 = some (.istore_n 3, 1, 0) := m_at_of r_M_firstFine (by decide +kernel)
theorem i_M_firstFine_18 : m_at k_M_firstFine 18 = some (.iload_n 3, 1, 0) := m_at_of r_M_firstFine (by decide +kernel)
theorem i_M_firstFine_19 : m_at k_M_firstFine 19 = some (.bipush 60, 2, 0) := m_at_of r_M_firstFine (by decide +kernel)
theorem i_M_firstFine_21 : m_at k_M_firstFine 21 = some (.if_icmp .gt (42), 3, 0) := m_at_of r_M_firstFine (by decide +kernel)
theorem i_M_firstFine_24 : m_at k_M_firstFine 24 = some (.iload_n 2, 1, 0) := m_at_of r_M_firstFine (by decide +kernel)
theorem i_M_firstFine_25 : m_at k_M_firstFine 25 = some (.iconst (-1), 1, 0) := m_at_of r_M_firstFine (by decide +kernel)
theorem i_M_firstFine_26 : m_at k_M_firstFine 26 = some (.if_icmp .ne (37), 3, 0) := m_at_of r_M_firstFine (by decide +kernel)
theorem i_M_firstFine_29 : m_at k_M_firstFine 29 = some (.aload_n 0, 1, 0) := m_at_of r_M_firstFine (by decide +kernel)
theorem i_M_firstFine_30 : m_at k_M_firstFine 30 = some (.getfield 7, 3, 0) := m_at_of r_M_firstFine (by decide +kernel)
theorem i_M_firstFine_33 : m_at k_M_firstFine 33 = some (.bipush 8, 2, 0) := m_at_of r_M_firstFine (by decide +kernel)
theorem i_M_firstFine_35 : m_at k_M_firstFine 35 = some (.iaload, 1, 0) := m_at_of r_M_firstFine (by decide +kernel)
theorem i_M_firstFine_36 : m_at k_M_firstFine 36 = some (.sipush 9999, 3, 0) := m_at_of r_M_firstFine (by decide +kernel)
theorem i_M_firstFine_39 : m_at k_M_firstFine 39 = some (.if_icmp .ge (24), 3, 0) := m_at_of r_M_firstFine (by decide +kernel)
theorem i_M_firstFine_42 : m_at k_M_firstFine 42 = some (.aload_n 0, 1, 0) := m_at_of r_M_firstFine (by decide +kernel)
theorem i_M_firstFine_43 : m_at k_M_firstFine 43 = some (.invokevirtual 389, 3, 208) := m_at_of r_M_firstFine (by decide +kernel)
theorem i_M_firstFine_46 : m_at k_M_firstFine 46 = some (.aload_n 0, 1, 0) := m_at_of r_M_firstFine (by decide +kernel)
theorem i_M_firstFine_47 : m_at k_M_firstFine 47 = some (.getfield 47, 3, 75) := m_at_of r_M_firstFine (by decide +kernel)
theorem i_M_firstFine_50 : m_at k_M_firstFine 50 = some (.iload_n 1, 1, 0) := m_at_of r_M_firstFine (by decide +kernel)
theorem i_M_firstFine_51 : m_at k_M_firstFine 51 = some (.iaload, 1, 0) := m_at_of r_M_firstFine (by decide +kernel)
theorem i_M_firstFine_52 : m_at k_M_firstFine 52 = some (.ifCond .le (5), 3, 0) := m_at_of r_M_firstFine (by decide +kernel)
theorem i_M_firstFine_55 : m_at k_M_firstFine 55 = some (.iload_n 3, 1, 0) := m_at_of r_M_firstFine (by decide +kernel)
theorem i_M_firstFine_56 : m_at k_M_firstFine 56 = some (.istore_n 2, 1, 0) := m_at_of r_M_firstFine (by decide +kernel)
theorem i_M_firstFine_57 : m_at k_M_firstFine 57 = some (.iinc 3 (1), 3, 0) := m_at_of r_M_firstFine (by decide +kernel)
theorem i_M_firstFine_60 : m_at k_M_firstFine 60 = some (.goto (-42), 3, 0) := m_at_of r_M_firstFine (by decide +kernel)
theorem i_M_firstFine_63 : m_at k_M_firstFine 63 = some (.aload_n 0, 1, 0) := m_at_of r_M_firstFine (by decide +kernel)
theorem i_M_firstFine_64 : m_at k_M_firstFine 64 = some (.invokevirtual 435, 3, 209) := m_at_of r_M_firstFine (by decide +kernel)
theorem i_M_firstFine_67 : m_at k_M_firstFine 67 = some (.iload_n 2, 1, 0) := m_at_of r_M_firstFine (by decide +kernel)
theorem i_M_firstFine_68 : m_at k_M_firstFine 68 = some (.ireturn, 1, 0) := m_at_of r_M_firstFine (by decide +kernel)
set_option maxRecDepth 20000 in
set_option maxHeartbeats 1000000 in
theorem E_M_firstFine (x : m_X) (s : m_H) (w : Nat) (n1 : Int32) : m_M x k_M_firstFine [.ref w, .int n1] s = if m_isO s w 11 = true then (m_bI (m_M x k_M_isOne [.ref w, .int n1] s) fun v2 s2 => if v2 = 0 then (some (some (.int (-1)), s2)) else m_bV (m_M x k_M_setAside [.ref w] s2) fun s11 => m_D x 9 k_M_firstFine 18 [some (.ref w), some (.int n1), some (.int (-1)), some (.int 1)] [] s11) else none := by
  refine e_M1 (L0 := [some (.ref w), some (.int n1), none, none]) rfl (by decide +kernel) rfl (q_M_firstFine _) rfl ?_
  refine e_aload_n i_M_firstFine_0 rfl ?_
  refine e_iload_n i_M_firstFine_1 rfl ?_
  refine e_callI (as := [.ref w, .int n1]) (st' := []) i_M_firstFine_2 lm_110 (Or.inr (Or.inl ⟨rfl, rfl⟩)) w_M_isOne rfl rfl rfl (Nat.le_of_ble_eq_true rfl) (Nat.le_of_ble_eq_true rfl) (m_rlt (q_M_isOne _) (by decide)) rfl (fun v2 s2 => ?_)
  refine e_ifne (t := 10) i_M_firstFine_5 (by decide) ?_ ?_
  · refine e_aload_n i_M_firstFine_10 rfl ?_
    refine e_callV (as := [.ref w]) (st' := []) i_M_firstFine_11 lm_207 (Or.inr (Or.inl ⟨rfl, rfl⟩)) w_M_setAside rfl rfl rfl (Nat.le_of_ble_eq_true rfl) (Nat.le_of_ble_eq_true rfl) (m_rlt (q_M_setAside _) (by decide)) rfl (fun s11 => ?_)
    refine e_iconst (v := (-1)) i_M_firstFine_14 (by decide) ?_
    refine e_istore_n (L' := [some (.ref w), some (.int n1), some (.int (-1)), none]) i_M_firstFine_15 (of_decide_eq_true rfl) rfl ?_
    refine e_iconst (v := 1) i_M_firstFine_16 (by decide) ?_
    refine e_istore_n (L' := [some (.ref w), some (.int n1), some (.int (-1)), some (.int 1)]) i_M_firstFine_17 (of_decide_eq_true rfl) rfl ?_
    exact rfl
  · refine e_iconst (v := (-1)) i_M_firstFine_8 (by decide) ?_
    exact e_iretI i_M_firstFine_9 rfl
set_option maxRecDepth 20000 in
set_option maxHeartbeats 1000000 in
theorem E_M_firstFine_18 (x : m_X) (ρ : Nat) (hρ : 9 ≤ ρ) (s : m_H) (w : Nat) (n1 : Int32) (n2 : Int32) (n3 : Int32)  : m_D x ρ k_M_firstFine 18 [some (.ref w), some (.int n1), some (.int n2), some (.int n3)] [] s = if 60 < n3 then (m_bV (m_M x k_M_putBack [.ref w] s) fun s64 => some (some (.int n2), s64)) else if n2 = (-1) then ((m_fR s 11 0 w).bind fun v30 => (m_ia x s v30 8).bind fun v35 => if 9999 ≤ v35 then (m_bV (m_M x k_M_putBack [.ref w] s) fun s64 => some (some (.int n2), s64)) else m_bV (m_M x k_M_goOn [.ref w] s) fun s43 => (m_fR s43 11 24 w).bind fun v47 => (m_ia x s43 v47 n1).bind fun v51 => if v51 ≤ 0 then (m_D x ρ k_M_firstFine 18 [some (.ref w), some (.int n1), some (.int n2), some (.int (n3 + (1 : Int32)))] [] s43) else m_D x ρ k_M_firstFine 18 [some (.ref w), some (.int n1), some (.int n3), some (.int (n3 + (1 : Int32)))] [] s43) else m_bV (m_M x k_M_putBack [.ref w] s) fun s64 => some (some (.int n2), s64) := by
  refine e_iload_n i_M_firstFine_18 rfl ?_
  refine e_bipush (v := 60) i_M_firstFine_19 (by decide) ?_
  refine e_icmpgt (t := 63) i_M_firstFine_21 (by decide) ?_ ?_
  · refine e_aload_n i_M_firstFine_63 rfl ?_
    refine e_callV (as := [.ref w]) (st' := []) i_M_firstFine_64 lm_209 (Or.inr (Or.inl ⟨rfl, rfl⟩)) w_M_putBack rfl rfl rfl (Nat.le_of_ble_eq_true rfl) (Nat.le_of_ble_eq_true rfl) (m_rlt (q_M_putBack _) (Nat.lt_of_lt_of_le (by decide) hρ)) rfl (fun s64 => ?_)
    refine e_iload_n i_M_firstFine_67 rfl ?_
    exact e_iretI i_M_firstFine_68 rfl
  · refine e_iload_n i_M_firstFine_24 rfl ?_
    refine e_iconst (v := (-1)) i_M_firstFine_25 (by decide) ?_
    refine e_icmpne (t := 63) i_M_firstFine_26 (by decide) ?_ ?_
    · refine e_aload_n i_M_firstFine_63 rfl ?_
      refine e_callV (as := [.ref w]) (st' := []) i_M_firstFine_64 lm_209 (Or.inr (Or.inl ⟨rfl, rfl⟩)) w_M_putBack rfl rfl rfl (Nat.le_of_ble_eq_true rfl) (Nat.le_of_ble_eq_true rfl) (m_rlt (q_M_putBack _) (Nat.lt_of_lt_of_le (by decide) hρ)) rfl (fun s64 => ?_)
      refine e_iload_n i_M_firstFine_67 rfl ?_
      exact e_iretI i_M_firstFine_68 rfl
    · refine e_aload_n i_M_firstFine_29 rfl ?_
      refine e_getR i_M_firstFine_30 lf_0 (by decide) ft_11_0 (fun v30 => ?_)
      refine e_bipush (v := 8) i_M_firstFine_33 (by decide) ?_
      refine e_iald i_M_firstFine_35 (fun v35 => ?_)
      refine e_sipush (v := 9999) i_M_firstFine_36 (by decide) ?_
      refine e_icmpge (t := 63) i_M_firstFine_39 (by decide) ?_ ?_
      · refine e_aload_n i_M_firstFine_63 rfl ?_
        refine e_callV (as := [.ref w]) (st' := []) i_M_firstFine_64 lm_209 (Or.inr (Or.inl ⟨rfl, rfl⟩)) w_M_putBack rfl rfl rfl (Nat.le_of_ble_eq_true rfl) (Nat.le_of_ble_eq_true rfl) (m_rlt (q_M_putBack _) (Nat.lt_of_lt_of_le (by decide) hρ)) rfl (fun s64 => ?_)
        refine e_iload_n i_M_firstFine_67 rfl ?_
        exact e_iretI i_M_firstFine_68 rfl
      · refine e_aload_n i_M_firstFine_42 rfl ?_
        refine e_callV (as := [.ref w]) (st' := []) i_M_firstFine_43 lm_208 (Or.inr (Or.inl ⟨rfl, rfl⟩)) w_M_goOn rfl rfl rfl (Nat.le_of_ble_eq_true rfl) (Nat.le_of_ble_eq_true rfl) (m_rlt (q_M_goOn _) (Nat.lt_of_lt_of_le (by decide) hρ)) rfl (fun s43 => ?_)
        refine e_aload_n i_M_firstFine_46 rfl ?_
        refine e_getR i_M_firstFine_47 lf_75 (by decide) ft_11_24 (fun v47 => ?_)
        refine e_iload_n i_M_firstFine_50 rfl ?_
        refine e_iald i_M_firstFine_51 (fun v51 => ?_)
        refine e_ifle (t := 57) i_M_firstFine_52 (by decide) ?_ ?_
        · refine e_iinc (w := 1) (L' := [some (.ref w), some (.int n1), some (.int n2), some (.int (n3 + (1 : Int32)))]) i_M_firstFine_57 rfl (of_decide_eq_true rfl) (by decide) rfl ?_
          refine e_goto (t := 18) i_M_firstFine_60 (by decide) ?_
          exact rfl
        · refine e_iload_n i_M_firstFine_55 rfl ?_
          refine e_istore_n (L' := [some (.ref w), some (.int n1), some (.int n3), some (.int n3)]) i_M_firstFine_56 (of_decide_eq_true rfl) rfl ?_
          refine e_iinc (w := 1) (L' := [some (.ref w), some (.int n1), some (.int n3), some (.int (n3 + (1 : Int32)))]) i_M_firstFine_57 rfl (of_decide_eq_true rfl) (by decide) rfl ?_
          refine e_goto (t := 18) i_M_firstFine_60 (by decide) ?_
          exact rfl
theorem i_M_foretold_0 : m_at k_M_foretold 0 = some (.iload_n 1, 1, 0) := m_at_of r_M_foretold (by decide +kernel)
theorem i_M_foretold_1 : m_at k_M_foretold 1 = some (.iconst 1, 1, 0) := m_at_of r_M_foretold (by decide +kernel)
theorem i_M_foretold_2 : m_at k_M_foretold 2 = some (.bipush 60, 2, 0) := m_at_of r_M_foretold (by decide +kernel)
theorem i_M_foretold_4 : m_at k_M_foretold 4 = some (.invokestatic 81, 3, 96) := m_at_of r_M_foretold (by decide +kernel)
theorem i_M_foretold_7 : m_at k_M_foretold 7 = some (.ifCond .eq (24), 3, 0) := m_at_of r_M_foretold (by decide +kernel)
theorem i_M_foretold_10 : m_at k_M_foretold 10 = some (.iload_n 3, 1, 0) := m_at_of r_M_foretold (by decide +kernel)
theorem i_M_foretold_11 : m_at k_M_foretold 11 = some (.iconst 0, 1, 0) := m_at_of r_M_foretold (by decide +kernel)
theorem i_M_foretold_12 : m_at k_M_foretold 12 = some (.iconst 2, 1, 0) := m_at_of r_M_foretold (by decide +kernel)
theorem i_M_foretold_13 : m_at k_M_foretold 13 = some (.invokestatic 81, 3, 96) := m_at_of r_M_foretold (by decide +kernel)
theorem i_M_foretold_16 : m_at k_M_foretold 16 = some (.ifCond .eq (15), 3, 0) := m_at_of r_M_foretold (by decide +kernel)
theorem i_M_foretold_19 : m_at k_M_foretold 19 = some (.iload_n 3, 1, 0) := m_at_of r_M_foretold (by decide +kernel)
theorem i_M_foretold_20 : m_at k_M_foretold 20 = some (.ifCond .le (13), 3, 0) := m_at_of r_M_foretold (by decide +kernel)
theorem i_M_foretold_23 : m_at k_M_foretold 23 = some (.aload_n 0, 1, 0) := m_at_of r_M_foretold (by decide +kernel)
theorem i_M_foretold_24 : m_at k_M_foretold 24 = some (.iload_n 2, 1, 0) := m_at_of r_M_foretold (by decide +kernel)
theorem i_M_foretold_25 : m_at k_M_foretold 25 = some (.invokevirtual 352, 3, 110) := m_at_of r_M_foretold (by decide +kernel)
theorem i_M_foretold_28 : m_at k_M_foretold 28 = some (.ifCond .ne (5), 3, 0) := m_at_of r_M_foretold (by decide +kernel)
theorem i_M_foretold_31 : m_at k_M_foretold 31 = some (.iconst (-1), 1, 0) := m_at_of r_M_foretold (by decide +kernel)
theorem i_M_foretold_32 : m_at k_M_foretold 32 = some (.ireturn, 1, 0) := m_at_of r_M_foretold (by decide +kernel)
theorem i_M_foretold_33 : m_at k_M_foretold 33 = some (.aload_n 0, 1, 0) := m_at_of r_M_foretold (by decide +kernel)
theorem i_M_foretold_34 : m_at k_M_foretold 34 = some (.invokevirtual 432, 3, 207) := m_at_of r_M_foretold (by decide +kernel)
theorem i_M_foretold_37 : m_at k_M_foretold 37 = some (.iconst 0, 1, 0) := m_at_of r_M_foretold (by decide +kernel)
theorem i_M_foretold_38 : m_at k_M_foretold 38 = some (.istore 4, 2, 0) := m_at_of r_M_foretold (by decide +kernel)
theorem i_M_foretold_40 : m_at k_M_foretold 40 = some (.iload 4, 2, 0) := m_at_of r_M_foretold (by decide +kernel)
theorem i_M_foretold_42 : m_at k_M_foretold 42 = some (.iload_n 1, 1, 0) := m_at_of r_M_foretold (by decide +kernel)
theorem i_M_foretold_43 : m_at k_M_foretold 43 = some (.if_icmp .ge (26), 3, 0) := m_at_of r_M_foretold (by decide +kernel)
theorem i_M_foretold_46 : m_at k_M_foretold 46 = some (.aload_n 0, 1, 0) := m_at_of r_M_foretold (by decide +kernel)
theorem i_M_foretold_47 : m_at k_M_foretold 47 = some (.getfield 7, 3, 0) := m_at_of r_M_foretold (by decide +kernel)
theorem i_M_foretold_50 : m_at k_M_foretold 50 = some (.bipush 8, 2, 0) := m_at_of r_M_foretold (by decide +kernel)
theorem i_M_foretold_52 : m_at k_M_foretold 52 = some (.iaload, 1, 0) := m_at_of r_M_foretold (by decide +kernel)
theorem i_M_foretold_53 : m_at k_M_foretold 53 = some (.sipush 9999, 3, 0) := m_at_of r_M_foretold (by decide +kernel)
theorem i_M_foretold_56 : m_at k_M_foretold 56 = some (.if_icmp .ge (7), 3, 0) := m_at_of r_M_foretold (by decide +kernel)
theorem i_M_foretold_59 : m_at k_M_foretold 59 = some (.aload_n 0, 1, 0) := m_at_of r_M_foretold (by decide +kernel)
theorem i_M_foretold_60 : m_at k_M_foretold 60 = some (.invokevirtual 389, 3, 208) := m_at_of r_M_foretold (by decide +kernel)
theorem i_M_foretold_63 : m_at k_M_foretold 63 = some (.iinc 4 (1), 3, 0) := m_at_of r_M_foretold (by decide +kernel)
theorem i_M_foretold_66 : m_at k_M_foretold 66 = some (.goto (-26), 3, 0) := m_at_of r_M_foretold (by decide +kernel)
theorem i_M_foretold_69 : m_at k_M_foretold 69 = some (.iload_n 3, 1, 0) := m_at_of r_M_foretold (by decide +kernel)
theorem i_M_foretold_70 : m_at k_M_foretold 70 = some (.ifCond .ne (13), 3, 0) := m_at_of r_M_foretold (by decide +kernel)
theorem i_M_foretold_73 : m_at k_M_foretold 73 = some (.aload_n 0, 1, 0) := m_at_of r_M_foretold (by decide +kernel)
theorem i_M_foretold_74 : m_at k_M_foretold 74 = some (.getfield 7, 3, 0) := m_at_of r_M_foretold (by decide +kernel)
theorem i_M_foretold_77 : m_at k_M_foretold 77 = some (.bipush 9, 2, 0) := m_at_of r_M_foretold (by decide +kernel)
theorem i_M_foretold_79 : m_at k_M_foretold 79 = some (.iaload, 1, 0) := m_at_of r_M_foretold (by decide +kernel)
theorem i_M_foretold_80 : m_at k_M_foretold 80 = some (.goto (29), 3, 0) := m_at_of r_M_foretold (by decide +kernel)
theorem i_M_foretold_83 : m_at k_M_foretold 83 = some (.iload_n 3, 1, 0) := m_at_of r_M_foretold (by decide +kernel)
theorem i_M_foretold_84 : m_at k_M_foretold 84 = some (.iconst 1, 1, 0) := m_at_of r_M_foretold (by decide +kernel)
theorem i_M_foretold_85 : m_at k_M_foretold 85 = some (.if_icmp .ne (15), 3, 0) := m_at_of r_M_foretold (by decide +kernel)
theorem i_M_foretold_88 : m_at k_M_foretold 88 = some (.aload_n 0, 1, 0) := m_at_of r_M_foretold (by decide +kernel)
theorem i_M_foretold_89 : m_at k_M_foretold 89 = some (.getfield 7, 3, 0) := m_at_of r_M_foretold (by decide +kernel)
theorem i_M_foretold_92 : m_at k_M_foretold 92 = some (.bipush 20, 2, 0) := m_at_of r_M_foretold (by decide +kernel)
theorem i_M_foretold_94 : m_at k_M_foretold 94 = some (.iload_n 2, 1, 0) := m_at_of r_M_foretold (by decide +kernel)
theorem i_M_foretold_95 : m_at k_M_foretold 95 = some (.iadd, 1, 0) := m_at_of r_M_foretold (by decide +kernel)
theorem i_M_foretold_96 : m_at k_M_foretold 96 = some (.iaload, 1, 0) := m_at_of r_M_foretold (by decide +kernel)
theorem i_M_foretold_97 : m_at k_M_foretold 97 = some (.goto (12), 3, 0) := m_at_of r_M_foretold (by decide +kernel)
theorem i_M_foretold_100 : m_at k_M_foretold 100 = some (.aload_n 0, 1, 0) := m_at_of r_M_foretold (by decide +kernel)
theorem i_M_foretold_101 : m_at k_M_foretold 101 = some (.getfield 7, 3, 0) := m_at_of r_M_foretold (by decide +kernel)
theorem i_M_foretold_104 : m_at k_M_foretold 104 = some (.bipush 13, 2, 0) := m_at_of r_M_foretold (by decide +kernel)
theorem i_M_foretold_106 : m_at k_M_foretold 106 = some (.iload_n 2, 1, 0) := m_at_of r_M_foretold (by decide +kernel)
theorem i_M_foretold_107 : m_at k_M_foretold 107 = some (.iadd, 1, 0) := m_at_of r_M_foretold (by decide +kernel)
theorem i_M_foretold_108 : m_at k_M_foretold 108 = some (.iaload, 1, 0) := m_at_of r_M_foretold (by decide +kernel)
theorem i_M_foretold_109 : m_at k_M_foretold 109 = some (.istore 4, 2, 0) := m_at_of r_M_foretold (by decide +kernel)
theorem i_M_foretold_111 : m_at k_M_foretold 111 = some (.aload_n 0, 1, 0) := m_at_of r_M_foretold (by decide +kernel)
theorem i_M_foretold_112 : m_at k_M_foretold 112 = some (.invokevirtual 435, 3, 209) := m_at_of r_M_foretold (by decide +kernel)
theorem i_M_foretold_115 : m_at k_M_foretold 115 = some (.iload 4, 2, 0) := m_at_of r_M_foretold (by decide +kernel)
theorem i_M_foretold_117 : m_at k_M_foretold 117 = some (.ireturn, 1, 0) := m_at_of r_M_foretold (by decide +kernel)
set_option maxRecDepth 20000 in
set_option maxHeartbeats 1000000 in
theorem E_M_foretold (x : m_X) (s : m_H) (w : Nat) (n1 : Int32) (n2 : Int32) (n3 : Int32) : m_M x k_M_foretold [.ref w, .int n1, .int n2, .int n3] s = if m_isO s w 11 = true then (m_bI (m_M x k_M_isIn [.int n1, .int 1, .int 60] s) fun v4 s4 => if v4 = 0 then (some (some (.int (-1)), s4)) else m_bI (m_M x k_M_isIn [.int n3, .int 0, .int 2] s4) fun v13 s13 => if v13 = 0 then (some (some (.int (-1)), s13)) else if n3 ≤ 0 then (m_bV (m_M x k_M_setAside [.ref w] s13) fun s34 => m_D x 9 k_M_foretold 40 [some (.ref w), some (.int n1), some (.int n2), some (.int n3), some (.int 0)] [] s34) else m_bI (m_M x k_M_isOne [.ref w, .int n2] s13) fun v25 s25 => if v25 = 0 then (some (some (.int (-1)), s25)) else m_bV (m_M x k_M_setAside [.ref w] s25) fun s34 => m_D x 9 k_M_foretold 40 [some (.ref w), some (.int n1), some (.int n2), some (.int n3), some (.int 0)] [] s34) else none := by
  refine e_M1 (L0 := [some (.ref w), some (.int n1), some (.int n2), some (.int n3), none]) rfl (by decide +kernel) rfl (q_M_foretold _) rfl ?_
  refine e_iload_n i_M_foretold_0 rfl ?_
  refine e_iconst (v := 1) i_M_foretold_1 (by decide) ?_
  refine e_bipush (v := 60) i_M_foretold_2 (by decide) ?_
  refine e_callI (as := [.int n1, .int 1, .int 60]) (st' := []) i_M_foretold_4 lm_96 (Or.inl ⟨rfl, rfl⟩) w_M_isIn rfl rfl rfl (Nat.le_of_ble_eq_true rfl) (Nat.le_of_ble_eq_true rfl) (m_rlt (q_M_isIn _) (by decide)) rfl (fun v4 s4 => ?_)
  refine e_ifeq (t := 31) i_M_foretold_7 (by decide) ?_ ?_
  · refine e_iconst (v := (-1)) i_M_foretold_31 (by decide) ?_
    exact e_iretI i_M_foretold_32 rfl
  · refine e_iload_n i_M_foretold_10 rfl ?_
    refine e_iconst (v := 0) i_M_foretold_11 (by decide) ?_
    refine e_iconst (v := 2) i_M_foretold_12 (by decide) ?_
    refine e_callI (as := [.int n3, .int 0, .int 2]) (st' := []) i_M_foretold_13 lm_96 (Or.inl ⟨rfl, rfl⟩) w_M_isIn rfl rfl rfl (Nat.le_of_ble_eq_true rfl) (Nat.le_of_ble_eq_true rfl) (m_rlt (q_M_isIn _) (by decide)) rfl (fun v13 s13 => ?_)
    refine e_ifeq (t := 31) i_M_foretold_16 (by decide) ?_ ?_
    · refine e_iconst (v := (-1)) i_M_foretold_31 (by decide) ?_
      exact e_iretI i_M_foretold_32 rfl
    · refine e_iload_n i_M_foretold_19 rfl ?_
      refine e_ifle (t := 33) i_M_foretold_20 (by decide) ?_ ?_
      · refine e_aload_n i_M_foretold_33 rfl ?_
        refine e_callV (as := [.ref w]) (st' := []) i_M_foretold_34 lm_207 (Or.inr (Or.inl ⟨rfl, rfl⟩)) w_M_setAside rfl rfl rfl (Nat.le_of_ble_eq_true rfl) (Nat.le_of_ble_eq_true rfl) (m_rlt (q_M_setAside _) (by decide)) rfl (fun s34 => ?_)
        refine e_iconst (v := 0) i_M_foretold_37 (by decide) ?_
        refine e_istore (L' := [some (.ref w), some (.int n1), some (.int n2), some (.int n3), some (.int 0)]) i_M_foretold_38 (of_decide_eq_true rfl) rfl ?_
        exact rfl
      · refine e_aload_n i_M_foretold_23 rfl ?_
        refine e_iload_n i_M_foretold_24 rfl ?_
        refine e_callI (as := [.ref w, .int n2]) (st' := []) i_M_foretold_25 lm_110 (Or.inr (Or.inl ⟨rfl, rfl⟩)) w_M_isOne rfl rfl rfl (Nat.le_of_ble_eq_true rfl) (Nat.le_of_ble_eq_true rfl) (m_rlt (q_M_isOne _) (by decide)) rfl (fun v25 s25 => ?_)
        refine e_ifne (t := 33) i_M_foretold_28 (by decide) ?_ ?_
        · refine e_aload_n i_M_foretold_33 rfl ?_
          refine e_callV (as := [.ref w]) (st' := []) i_M_foretold_34 lm_207 (Or.inr (Or.inl ⟨rfl, rfl⟩)) w_M_setAside rfl rfl rfl (Nat.le_of_ble_eq_true rfl) (Nat.le_of_ble_eq_true rfl) (m_rlt (q_M_setAside _) (by decide)) rfl (fun s34 => ?_)
          refine e_iconst (v := 0) i_M_foretold_37 (by decide) ?_
          refine e_istore (L' := [some (.ref w), some (.int n1), some (.int n2), some (.int n3), some (.int 0)]) i_M_foretold_38 (of_decide_eq_true rfl) rfl ?_
          exact rfl
        · refine e_iconst (v := (-1)) i_M_foretold_31 (by decide) ?_
          exact e_iretI i_M_foretold_32 rfl
set_option maxRecDepth 20000 in
set_option maxHeartbeats 1000000 in
theorem E_M_foretold_40 (x : m_X) (ρ : Nat) (hρ : 9 ≤ ρ) (s : m_H) (w : Nat) (n1 : Int32) (n2 : Int32) (n3 : Int32) (n4 : Int32)  : m_D x ρ k_M_foretold 40 [some (.ref w), some (.int n1), some (.int n2), some (.int n3), some (.int n4)] [] s = if n1 ≤ n4 then (if n3 = 0 then ((m_fR s 11 0 w).bind fun v74 => (m_ia x s v74 9).bind fun v79 => m_bV (m_M x k_M_putBack [.ref w] s) fun s112 => some (some (.int v79), s112)) else if n3 = 1 then ((m_fR s 11 0 w).bind fun v89 => (m_ia x s v89 ((20 : Int32) + n2)).bind fun v96 => m_bV (m_M x k_M_putBack [.ref w] s) fun s112 => some (some (.int v96), s112)) else (m_fR s 11 0 w).bind fun v101 => (m_ia x s v101 ((13 : Int32) + n2)).bind fun v108 => m_bV (m_M x k_M_putBack [.ref w] s) fun s112 => some (some (.int v108), s112)) else (m_fR s 11 0 w).bind fun v47 => (m_ia x s v47 8).bind fun v52 => if 9999 ≤ v52 then (m_D x ρ k_M_foretold 40 [some (.ref w), some (.int n1), some (.int n2), some (.int n3), some (.int (n4 + (1 : Int32)))] [] s) else m_bV (m_M x k_M_goOn [.ref w] s) fun s60 => m_D x ρ k_M_foretold 40 [some (.ref w), some (.int n1), some (.int n2), some (.int n3), some (.int (n4 + (1 : Int32)))] [] s60 := by
  refine e_iload i_M_foretold_40 rfl ?_
  refine e_iload_n i_M_foretold_42 rfl ?_
  refine e_icmpge (t := 69) i_M_foretold_43 (by decide) ?_ ?_
  · refine e_iload_n i_M_foretold_69 rfl ?_
    refine e_ifne (t := 83) i_M_foretold_70 (by decide) ?_ ?_
    · refine e_iload_n i_M_foretold_83 rfl ?_
      refine e_iconst (v := 1) i_M_foretold_84 (by decide) ?_
      refine e_icmpne (t := 100) i_M_foretold_85 (by decide) ?_ ?_
      · refine e_aload_n i_M_foretold_100 rfl ?_
        refine e_getR i_M_foretold_101 lf_0 (by decide) ft_11_0 (fun v101 => ?_)
        refine e_bipush (v := 13) i_M_foretold_104 (by decide) ?_
        refine e_iload_n i_M_foretold_106 rfl ?_
        refine e_iadd i_M_foretold_107 ?_
        refine e_iald i_M_foretold_108 (fun v108 => ?_)
        refine e_istore (L' := [some (.ref w), some (.int n1), some (.int n2), some (.int n3), some (.int v108)]) i_M_foretold_109 (of_decide_eq_true rfl) rfl ?_
        refine e_aload_n i_M_foretold_111 rfl ?_
        refine e_callV (as := [.ref w]) (st' := []) i_M_foretold_112 lm_209 (Or.inr (Or.inl ⟨rfl, rfl⟩)) w_M_putBack rfl rfl rfl (Nat.le_of_ble_eq_true rfl) (Nat.le_of_ble_eq_true rfl) (m_rlt (q_M_putBack _) (Nat.lt_of_lt_of_le (by decide) hρ)) rfl (fun s112 => ?_)
        refine e_iload i_M_foretold_115 rfl ?_
        exact e_iretI i_M_foretold_117 rfl
      · refine e_aload_n i_M_foretold_88 rfl ?_
        refine e_getR i_M_foretold_89 lf_0 (by decide) ft_11_0 (fun v89 => ?_)
        refine e_bipush (v := 20) i_M_foretold_92 (by decide) ?_
        refine e_iload_n i_M_foretold_94 rfl ?_
        refine e_iadd i_M_foretold_95 ?_
        refine e_iald i_M_foretold_96 (fun v96 => ?_)
        refine e_goto (t := 109) i_M_foretold_97 (by decide) ?_
        refine e_istore (L' := [some (.ref w), some (.int n1), some (.int n2), some (.int n3), some (.int v96)]) i_M_foretold_109 (of_decide_eq_true rfl) rfl ?_
        refine e_aload_n i_M_foretold_111 rfl ?_
        refine e_callV (as := [.ref w]) (st' := []) i_M_foretold_112 lm_209 (Or.inr (Or.inl ⟨rfl, rfl⟩)) w_M_putBack rfl rfl rfl (Nat.le_of_ble_eq_true rfl) (Nat.le_of_ble_eq_true rfl) (m_rlt (q_M_putBack _) (Nat.lt_of_lt_of_le (by decide) hρ)) rfl (fun s112 => ?_)
        refine e_iload i_M_foretold_115 rfl ?_
        exact e_iretI i_M_foretold_117 rfl
    · refine e_aload_n i_M_foretold_73 rfl ?_
      refine e_getR i_M_foretold_74 lf_0 (by decide) ft_11_0 (fun v74 => ?_)
      refine e_bipush (v := 9) i_M_foretold_77 (by decide) ?_
      refine e_iald i_M_foretold_79 (fun v79 => ?_)
      refine e_goto (t := 109) i_M_foretold_80 (by decide) ?_
      refine e_istore (L' := [some (.ref w), some (.int n1), some (.int n2), some (.int n3), some (.int v79)]) i_M_foretold_109 (of_decide_eq_true rfl) rfl ?_
      refine e_aload_n i_M_foretold_111 rfl ?_
      refine e_callV (as := [.ref w]) (st' := []) i_M_foretold_112 lm_209 (Or.inr (Or.inl ⟨rfl, rfl⟩)) w_M_putBack rfl rfl rfl (Nat.le_of_ble_eq_true rfl) (Nat.le_of_ble_eq_true rfl) (m_rlt (q_M_putBack _) (Nat.lt_of_lt_of_le (by decide) hρ)) rfl (fun s112 => ?_)
      refine e_iload i_M_foretold_115 rfl ?_
      exact e_iretI i_M_foretold_117 rfl
  · refine e_aload_n i_M_foretold_46 rfl ?_
    refine e_getR i_M_foretold_47 lf_0 (by decide) ft_11_0 (fun v47 => ?_)
    refine e_bipush (v := 8) i_M_foretold_50 (by decide) ?_
    refine e_iald i_M_foretold_52 (fun v52 => ?_)
    refine e_sipush (v := 9999) i_M_foretold_53 (by decide) ?_
    refine e_icmpge (t := 63) i_M_foretold_56 (by decide) ?_ ?_
    · refine e_iinc (w := 1) (L' := [some (.ref w), some (.int n1), some (.int n2), some (.int n3), some (.int (n4 + (1 : Int32)))]) i_M_foretold_63 rfl (of_decide_eq_true rfl) (by decide) rfl ?_
      refine e_goto (t := 40) i_M_foretold_66 (by decide) ?_
      exact rfl
    · refine e_aload_n i_M_foretold_59 rfl ?_
      refine e_callV (as := [.ref w]) (st' := []) i_M_foretold_60 lm_208 (Or.inr (Or.inl ⟨rfl, rfl⟩)) w_M_goOn rfl rfl rfl (Nat.le_of_ble_eq_true rfl) (Nat.le_of_ble_eq_true rfl) (m_rlt (q_M_goOn _) (Nat.lt_of_lt_of_le (by decide) hρ)) rfl (fun s60 => ?_)
      refine e_iinc (w := 1) (L' := [some (.ref w), some (.int n1), some (.int n2), some (.int n3), some (.int (n4 + (1 : Int32)))]) i_M_foretold_63 rfl (of_decide_eq_true rfl) (by decide) rfl ?_
      refine e_goto (t := 40) i_M_foretold_66 (by decide) ?_
      exact rfl
theorem i_M_putBack_0 : m_at k_M_putBack 0 = some (.bipush 8, 2, 0) := m_at_of r_M_putBack (by decide +kernel)
theorem i_M_putBack_2 : m_at k_M_putBack 2 = some (.istore_n 1, 1, 0) := m_at_of r_M_putBack (by decide +kernel)
theorem i_M_putBack_3 : m_at k_M_putBack 3 = some (.iload_n 1, 1, 0) := m_at_of r_M_putBack (by decide +kernel)
theorem i_M_putBack_4 : m_at k_M_putBack 4 = some (.bipush 112, 2, 0) := m_at_of r_M_putBack (by decide +kernel)
theorem i_M_putBack_6 : m_at k_M_putBack 6 = some (.if_icmp .ge (21), 3, 0) := m_at_of r_M_putBack (by decide +kernel)
theorem i_M_putBack_9 : m_at k_M_putBack 9 = some (.aload_n 0, 1, 0) := m_at_of r_M_putBack (by decide +kernel)
theorem i_M_putBack_10 : m_at k_M_putBack 10 = some (.getfield 7, 3, 0) := m_at_of r_M_putBack (by decide +kernel)
theorem i_M_putBack_13 : m_at k_M_putBack 13 = some (.iload_n 1, 1, 0) := m_at_of r_M_putBack (by decide +kernel)
theorem i_M_putBack_14 : m_at k_M_putBack 14 = some (.aload_n 0, 1, 0) := m_at_of r_M_putBack (by decide +kernel)
theorem i_M_putBack_15 : m_at k_M_putBack 15 = some (.getfield 50, 3, 77) := m_at_of r_M_putBack (by decide +kernel)
theorem i_M_putBack_18 : m_at k_M_putBack 18 = some (.iload_n 1, 1, 0) := m_at_of r_M_putBack (by decide +kernel)
theorem i_M_putBack_19 : m_at k_M_putBack 19 = some (.iaload, 1, 0) := m_at_of r_M_putBack (by decide +kernel)
theorem i_M_putBack_20 : m_at k_M_putBack 20 = some (.iastore, 1, 0) := m_at_of r_M_putBack (by decide +kernel)
theorem i_M_putBack_21 : m_at k_M_putBack 21 = some (.iinc 1 (1), 3, 0) := m_at_of r_M_putBack (by decide +kernel)
theorem i_M_putBack_24 : m_at k_M_putBack 24 = some (.goto (-21), 3, 0) := m_at_of r_M_putBack (by decide +kernel)
theorem i_M_putBack_27 : m_at k_M_putBack 27 = some (.aload_n 0, 1, 0) := m_at_of r_M_putBack (by decide +kernel)
theorem i_M_putBack_28 : m_at k_M_putBack 28 = some (.iconst 1, 1, 0) := m_at_of r_M_putBack (by decide +kernel)
theorem i_M_putBack_29 : m_at k_M_putBack 29 = some (.putfield 43, 3, 78) := m_at_of r_M_putBack (by decide +kernel)
theorem i_M_putBack_32 : m_at k_M_putBack 32 = some (.return_, 1, 0) := m_at_of r_M_putBack (by decide +kernel)
set_option maxRecDepth 20000 in
set_option maxHeartbeats 1000000 in
theorem E_M_putBack (x : m_X) (s : m_H) (w : Nat) : m_M x k_M_putBack [.ref w] s = if m_isO s w 11 = true then (m_D x 1 k_M_putBack 3 [some (.ref w), some (.int 8)] [] s) else none := by
  refine e_M1 (L0 := [some (.ref w), none]) rfl (by decide +kernel) rfl (q_M_putBack _) rfl ?_
  refine e_bipush (v := 8) i_M_putBack_0 (by decide) ?_
  refine e_istore_n (L' := [some (.ref w), some (.int 8)]) i_M_putBack_2 (of_decide_eq_true rfl) rfl ?_
  exact rfl
set_option maxRecDepth 20000 in
set_option maxHeartbeats 1000000 in
theorem E_M_putBack_3 (x : m_X) (ρ : Nat) (hρ : 1 ≤ ρ) (s : m_H) (w : Nat) (n1 : Int32)  : m_D x ρ k_M_putBack 3 [some (.ref w), some (.int n1)] [] s = if 112 ≤ n1 then ((m_pf s 11 23 w (.int 1)).bind fun s29 => some (none, s29)) else (m_fR s 11 0 w).bind fun v10 => (m_fR s 11 25 w).bind fun v15 => (m_ia x s v15 n1).bind fun v19 => (m_is s v10 n1 v19).bind fun s20 => m_D x ρ k_M_putBack 3 [some (.ref w), some (.int (n1 + (1 : Int32)))] [] s20 := by
  refine e_iload_n i_M_putBack_3 rfl ?_
  refine e_bipush (v := 112) i_M_putBack_4 (by decide) ?_
  refine e_icmpge (t := 27) i_M_putBack_6 (by decide) ?_ ?_
  · refine e_aload_n i_M_putBack_27 rfl ?_
    refine e_iconst (v := 1) i_M_putBack_28 (by decide) ?_
    refine e_putf i_M_putBack_29 lf_78 ft_11_23 (by decide) (fun s29 => ?_)
    exact e_vret i_M_putBack_32 rfl
  · refine e_aload_n i_M_putBack_9 rfl ?_
    refine e_getR i_M_putBack_10 lf_0 (by decide) ft_11_0 (fun v10 => ?_)
    refine e_iload_n i_M_putBack_13 rfl ?_
    refine e_aload_n i_M_putBack_14 rfl ?_
    refine e_getR i_M_putBack_15 lf_77 (by decide) ft_11_25 (fun v15 => ?_)
    refine e_iload_n i_M_putBack_18 rfl ?_
    refine e_iald i_M_putBack_19 (fun v19 => ?_)
    refine e_iast i_M_putBack_20 (fun s20 => ?_)
    refine e_iinc (w := 1) (L' := [some (.ref w), some (.int (n1 + (1 : Int32)))]) i_M_putBack_21 rfl (of_decide_eq_true rfl) (by decide) rfl ?_
    refine e_goto (t := 3) i_M_putBack_24 (by decide) ?_
    exact rfl
theorem i_M_setAside_0 : m_at k_M_setAside 0 = some (.bipush 8, 2, 0) := m_at_of r_M_setAside (by decide +kernel)
theorem i_M_setAside_2 : m_at k_M_setAside 2 = some (.istore_n 1, 1, 0) := m_at_of r_M_setAside (by decide +kernel)
theorem i_M_setAside_3 : m_at k_M_setAside 3 = some (.iload_n 1, 1, 0) := m_at_of r_M_setAside (by decide +kernel)
theorem i_M_setAside_4 : m_at k_M_setAside 4 = some (.bipush 112, 2, 0) := m_at_of r_M_setAside (by decide +kernel)
theorem i_M_setAside_6 : m_at k_M_setAside 6 = some (.if_icmp .ge (21), 3, 0) := m_at_of r_M_setAside (by decide +kernel)
theorem i_M_setAside_9 : m_at k_M_setAside 9 = some (.aload_n 0, 1, 0) := m_at_of r_M_setAside (by decide +kernel)
theorem i_M_setAside_10 : m_at k_M_setAside 10 = some (.getfield 50, 3, 77) := m_at_of r_M_setAside (by decide +kernel)
theorem i_M_setAside_13 : m_at k_M_setAside 13 = some (.iload_n 1, 1, 0) := m_at_of r_M_setAside (by decide +kernel)
theorem i_M_setAside_14 : m_at k_M_setAside 14 = some (.aload_n 0, 1, 0) := m_at_of r_M_setAside (by decide +kernel)
theorem i_M_setAside_15 : m_at k_M_setAside 15 = some (.getfield 7, 3, 0) := m_at_of r_M_setAside (by decide +kernel)
theorem i_M_setAside_18 : m_at k_M_setAside 18 = some (.iload_n 1, 1, 0) := m_at_of r_M_setAside (by decide +kernel)
theorem i_M_setAside_19 : m_at k_M_setAside 19 = some (.iaload, 1, 0) := m_at_of r_M_setAside (by decide +kernel)
theorem i_M_setAside_20 : m_at k_M_setAside 20 = some (.iastore, 1, 0) := m_at_of r_M_setAside (by decide +kernel)
theorem i_M_setAside_21 : m_at k_M_setAside 21 = some (.iinc 1 (1), 3, 0) := m_at_of r_M_setAside (by decide +kernel)
theorem i_M_setAside_24 : m_at k_M_setAside 24 = some (.goto (-21), 3, 0) := m_at_of r_M_setAside (by decide +kernel)
theorem i_M_setAside_27 : m_at k_M_setAside 27 = some (.aload_n 0, 1, 0) := m_at_of r_M_setAside (by decide +kernel)
theorem i_M_setAside_28 : m_at k_M_setAside 28 = some (.iconst 0, 1, 0) := m_at_of r_M_setAside (by decide +kernel)
theorem i_M_setAside_29 : m_at k_M_setAside 29 = some (.putfield 43, 3, 78) := m_at_of r_M_setAside (by decide +kernel)
theorem i_M_setAside_32 : m_at k_M_setAside 32 = some (.return_, 1, 0) := m_at_of r_M_setAside (by decide +kernel)
set_option maxRecDepth 20000 in
set_option maxHeartbeats 1000000 in
theorem E_M_setAside (x : m_X) (s : m_H) (w : Nat) : m_M x k_M_setAside [.ref w] s = if m_isO s w 11 = true then (m_D x 1 k_M_setAside 3 [some (.ref w), some (.int 8)] [] s) else none := by
  refine e_M1 (L0 := [some (.ref w), none]) rfl (by decide +kernel) rfl (q_M_setAside _) rfl ?_
  refine e_bipush (v := 8) i_M_setAside_0 (by decide) ?_
  refine e_istore_n (L' := [some (.ref w), some (.int 8)]) i_M_setAside_2 (of_decide_eq_true rfl) rfl ?_
  exact rfl
set_option maxRecDepth 20000 in
set_option maxHeartbeats 1000000 in
theorem E_M_setAside_3 (x : m_X) (ρ : Nat) (hρ : 1 ≤ ρ) (s : m_H) (w : Nat) (n1 : Int32)  : m_D x ρ k_M_setAside 3 [some (.ref w), some (.int n1)] [] s = if 112 ≤ n1 then ((m_pf s 11 23 w (.int 0)).bind fun s29 => some (none, s29)) else (m_fR s 11 25 w).bind fun v10 => (m_fR s 11 0 w).bind fun v15 => (m_ia x s v15 n1).bind fun v19 => (m_is s v10 n1 v19).bind fun s20 => m_D x ρ k_M_setAside 3 [some (.ref w), some (.int (n1 + (1 : Int32)))] [] s20 := by
  refine e_iload_n i_M_setAside_3 rfl ?_
  refine e_bipush (v := 112) i_M_setAside_4 (by decide) ?_
  refine e_icmpge (t := 27) i_M_setAside_6 (by decide) ?_ ?_
  · refine e_aload_n i_M_setAside_27 rfl ?_
    refine e_iconst (v := 0) i_M_setAside_28 (by decide) ?_
    refine e_putf i_M_setAside_29 lf_78 ft_11_23 (by decide) (fun s29 => ?_)
    exact e_vret i_M_setAside_32 rfl
  · refine e_aload_n i_M_setAside_9 rfl ?_
    refine e_getR i_M_setAside_10 lf_77 (by decide) ft_11_25 (fun v10 => ?_)
    refine e_iload_n i_M_setAside_13 rfl ?_
    refine e_aload_n i_M_setAside_14 rfl ?_
    refine e_getR i_M_setAside_15 lf_0 (by decide) ft_11_0 (fun v15 => ?_)
    refine e_iload_n i_M_setAside_18 rfl ?_
    refine e_iald i_M_setAside_19 (fun v19 => ?_)
    refine e_iast i_M_setAside_20 (fun s20 => ?_)
    refine e_iinc (w := 1) (L' := [some (.ref w), some (.int (n1 + (1 : Int32)))]) i_M_setAside_21 rfl (of_decide_eq_true rfl) (by decide) rfl ?_
    refine e_goto (t := 3) i_M_setAside_24 (by decide) ?_
    exact rfl
theorem i_M_book_0 : m_at k_M_book 0 = some (.iload_n 1, 1, 0) := m_at_of r_M_book (by decide +kernel)
theorem i_M_book_1 : m_at k_M_book 1 = some (.iconst (-1), 1, 0) := m_at_of r_M_book (by decide +kernel)
theorem i_M_book_2 : m_at k_M_book 2 = some (.if_icmp .ne (8), 3, 0) := m_at_of r_M_book (by decide +kernel)
theorem i_M_book_5 : m_at k_M_book 5 = some (.aload_n 0, 1, 0) := m_at_of r_M_book (by decide +kernel)
theorem i_M_book_6 : m_at k_M_book 6 = some (.invokevirtual 426, 3, 111) := m_at_of r_M_book (by decide +kernel)
theorem i_M_book_9 : m_at k_M_book 9 = some (.ireturn, 1, 0) := m_at_of r_M_book (by decide +kernel)
theorem i_M_book_10 : m_at k_M_book 10 = some (.iload_n 1, 1, 0) := m_at_of r_M_book (by decide +kernel)
theorem i_M_book_11 : m_at k_M_book 11 = some (.iconst 0, 1, 0) := m_at_of r_M_book (by decide +kernel)
theorem i_M_book_12 : m_at k_M_book 12 = some (.aload_n 0, 1, 0) := m_at_of r_M_book (by decide +kernel)
theorem i_M_book_13 : m_at k_M_book 13 = some (.invokevirtual 426, 3, 111) := m_at_of r_M_book (by decide +kernel)
theorem i_M_book_16 : m_at k_M_book 16 = some (.iconst 1, 1, 0) := m_at_of r_M_book (by decide +kernel)
theorem i_M_book_17 : m_at k_M_book 17 = some (.isub, 1, 0) := m_at_of r_M_book (by decide +kernel)
theorem i_M_book_18 : m_at k_M_book 18 = some (.invokestatic 81, 3, 96) := m_at_of r_M_book (by decide +kernel)
theorem i_M_book_21 : m_at k_M_book 21 = some (.ifCond .eq (21), 3, 0) := m_at_of r_M_book (by decide +kernel)
theorem i_M_book_24 : m_at k_M_book 24 = some (.iload_n 2, 1, 0) := m_at_of r_M_book (by decide +kernel)
theorem i_M_book_25 : m_at k_M_book 25 = some (.iconst 0, 1, 0) := m_at_of r_M_book (by decide +kernel)
theorem i_M_book_26 : m_at k_M_book 26 = some (.iconst 2, 1, 0) := m_at_of r_M_book (by decide +kernel)
theorem i_M_book_27 : m_at k_M_book 27 = some (.invokestatic 81, 3, 96) := m_at_of r_M_book (by decide +kernel)
theorem i_M_book_30 : m_at k_M_book 30 = some (.ifCond .eq (12), 3, 0) := m_at_of r_M_book (by decide +kernel)
theorem i_M_book_33 : m_at k_M_book 33 = some (.aload_n 0, 1, 0) := m_at_of r_M_book (by decide +kernel)
theorem i_M_book_34 : m_at k_M_book 34 = some (.iload_n 1, 1, 0) := m_at_of r_M_book (by decide +kernel)
theorem i_M_book_35 : m_at k_M_book 35 = some (.iload_n 2, 1, 0) := m_at_of r_M_book (by decide +kernel)
theorem i_M_book_36 : m_at k_M_book 36 = some (.invokevirtual 429, 3, 112) := m_at_of r_M_book (by decide +kernel)
theorem i_M_book_39 : m_at k_M_book 39 = some (.goto (5), 3, 0) := m_at_of r_M_book (by decide +kernel)
theorem i_M_book_42 : m_at k_M_book 42 = some (.bipush (-2), 2, 0) := m_at_of r_M_book (by decide +kernel)
theorem i_M_book_44 : m_at k_M_book 44 = some (.ireturn, 1, 0) := m_at_of r_M_book (by decide +kernel)
set_option maxRecDepth 20000 in
set_option maxHeartbeats 1000000 in
theorem E_M_book (x : m_X) (s : m_H) (w : Nat) (n1 : Int32) (n2 : Int32) : m_M x k_M_book [.ref w, .int n1, .int n2] s = if m_isO s w 11 = true then (if n1 = (-1) then (m_bI (m_M x k_M_shown [.ref w] s) fun v6 s6 => some (some (.int v6), s6)) else m_bI (m_M x k_M_shown [.ref w] s) fun v13 s13 => m_bI (m_M x k_M_isIn [.int n1, .int 0, .int (v13 - (1 : Int32))] s13) fun v18 s18 => if v18 = 0 then (some (some (.int (-2)), s18)) else m_bI (m_M x k_M_isIn [.int n2, .int 0, .int 2] s18) fun v27 s27 => if v27 = 0 then (some (some (.int (-2)), s27)) else m_bI (m_M x k_M_entry [.ref w, .int n1, .int n2] s27) fun v36 s36 => some (some (.int v36), s36)) else none := by
  refine e_M1 (L0 := [some (.ref w), some (.int n1), some (.int n2)]) rfl (by decide +kernel) rfl (q_M_book _) rfl ?_
  refine e_iload_n i_M_book_0 rfl ?_
  refine e_iconst (v := (-1)) i_M_book_1 (by decide) ?_
  refine e_icmpne (t := 10) i_M_book_2 (by decide) ?_ ?_
  · refine e_iload_n i_M_book_10 rfl ?_
    refine e_iconst (v := 0) i_M_book_11 (by decide) ?_
    refine e_aload_n i_M_book_12 rfl ?_
    refine e_callI (as := [.ref w]) (st' := [.int 0, .int n1]) i_M_book_13 lm_111 (Or.inr (Or.inl ⟨rfl, rfl⟩)) w_M_shown rfl rfl rfl (Nat.le_of_ble_eq_true rfl) (Nat.le_of_ble_eq_true rfl) (m_rlt (q_M_shown _) (by decide)) rfl (fun v13 s13 => ?_)
    refine e_iconst (v := 1) i_M_book_16 (by decide) ?_
    refine e_isub i_M_book_17 ?_
    refine e_callI (as := [.int n1, .int 0, .int (v13 - (1 : Int32))]) (st' := []) i_M_book_18 lm_96 (Or.inl ⟨rfl, rfl⟩) w_M_isIn rfl rfl rfl (Nat.le_of_ble_eq_true rfl) (Nat.le_of_ble_eq_true rfl) (m_rlt (q_M_isIn _) (by decide)) rfl (fun v18 s18 => ?_)
    refine e_ifeq (t := 42) i_M_book_21 (by decide) ?_ ?_
    · refine e_bipush (v := (-2)) i_M_book_42 (by decide) ?_
      exact e_iretI i_M_book_44 rfl
    · refine e_iload_n i_M_book_24 rfl ?_
      refine e_iconst (v := 0) i_M_book_25 (by decide) ?_
      refine e_iconst (v := 2) i_M_book_26 (by decide) ?_
      refine e_callI (as := [.int n2, .int 0, .int 2]) (st' := []) i_M_book_27 lm_96 (Or.inl ⟨rfl, rfl⟩) w_M_isIn rfl rfl rfl (Nat.le_of_ble_eq_true rfl) (Nat.le_of_ble_eq_true rfl) (m_rlt (q_M_isIn _) (by decide)) rfl (fun v27 s27 => ?_)
      refine e_ifeq (t := 42) i_M_book_30 (by decide) ?_ ?_
      · refine e_bipush (v := (-2)) i_M_book_42 (by decide) ?_
        exact e_iretI i_M_book_44 rfl
      · refine e_aload_n i_M_book_33 rfl ?_
        refine e_iload_n i_M_book_34 rfl ?_
        refine e_iload_n i_M_book_35 rfl ?_
        refine e_callI (as := [.ref w, .int n1, .int n2]) (st' := []) i_M_book_36 lm_112 (Or.inr (Or.inl ⟨rfl, rfl⟩)) w_M_entry rfl rfl rfl (Nat.le_of_ble_eq_true rfl) (Nat.le_of_ble_eq_true rfl) (m_rlt (q_M_entry _) (by decide)) rfl (fun v36 s36 => ?_)
        refine e_goto (t := 44) i_M_book_39 (by decide) ?_
        exact e_iretI i_M_book_44 rfl
  · refine e_aload_n i_M_book_5 rfl ?_
    refine e_callI (as := [.ref w]) (st' := []) i_M_book_6 lm_111 (Or.inr (Or.inl ⟨rfl, rfl⟩)) w_M_shown rfl rfl rfl (Nat.le_of_ble_eq_true rfl) (Nat.le_of_ble_eq_true rfl) (m_rlt (q_M_shown _) (by decide)) rfl (fun v6 s6 => ?_)
    exact e_iretI i_M_book_9 rfl
theorem i_M_entry_0 : m_at k_M_entry 0 = some (.aload_n 0, 1, 0) := m_at_of r_M_entry (by decide +kernel)
theorem i_M_entry_1 : m_at k_M_entry 1 = some (.getfield 7, 3, 0) := m_at_of r_M_entry (by decide +kernel)
theorem i_M_entry_4 : m_at k_M_entry 4 = some (.sipush 3300, 3, 0) := m_at_of r_M_entry (by decide +kernel)
theorem i_M_entry_7 : m_at k_M_entry 7 = some (.aload_n 0, 1, 0) := m_at_of r_M_entry (by decide +kernel)
theorem i_M_entry_8 : m_at k_M_entry 8 = some (.getfield 7, 3, 0) := m_at_of r_M_entry (by decide +kernel)
theorem i_M_entry_11 : m_at k_M_entry 11 = some (.bipush 12, 2, 0) := m_at_of r_M_entry (by decide +kernel)
theorem i_M_entry_13 : m_at k_M_entry 13 = some (.iaload, 1, 0) := m_at_of r_M_entry (by decide +kernel)
theorem i_M_entry_14 : m_at k_M_entry 14 = some (.aload_n 0, 1, 0) := m_at_of r_M_entry (by decide +kernel)
theorem i_M_entry_15 : m_at k_M_entry 15 = some (.invokevirtual 426, 3, 111) := m_at_of r_M_entry (by decide +kernel)
theorem i_M_entry_18 : m_at k_M_entry 18 = some (.isub, 1, 0) := m_at_of r_M_entry (by decide +kernel)
theorem i_M_entry_19 : m_at k_M_entry 19 = some (.iload_n 1, 1, 0) := m_at_of r_M_entry (by decide +kernel)
theorem i_M_entry_20 : m_at k_M_entry 20 = some (.iadd, 1, 0) := m_at_of r_M_entry (by decide +kernel)
theorem i_M_entry_21 : m_at k_M_entry 21 = some (.sipush 8430, 3, 0) := m_at_of r_M_entry (by decide +kernel)
theorem i_M_entry_24 : m_at k_M_entry 24 = some (.irem, 1, 0) := m_at_of r_M_entry (by decide +kernel)
theorem i_M_entry_25 : m_at k_M_entry 25 = some (.iadd, 1, 0) := m_at_of r_M_entry (by decide +kernel)
theorem i_M_entry_26 : m_at k_M_entry 26 = some (.iaload, 1, 0) := m_at_of r_M_entry (by decide +kernel)
theorem i_M_entry_27 : m_at k_M_entry 27 = some (.istore_n 3, 1, 0) := m_at_of r_M_entry (by decide +kernel)
theorem i_M_entry_28 : m_at k_M_entry 28 = some (.iload_n 2, 1, 0) := m_at_of r_M_entry (by decide +kernel)
theorem i_M_entry_29 : m_at k_M_entry 29 = some (.ifCond .ne (11), 3, 0) := m_at_of r_M_entry (by decide +kernel)
theorem i_M_entry_32 : m_at k_M_entry 32 = some (.iload_n 3, 1, 0) := m_at_of r_M_entry (by decide +kernel)
theorem i_M_entry_33 : m_at k_M_entry 33 = some (.sipush 800, 3, 0) := m_at_of r_M_entry (by decide +kernel)
theorem i_M_entry_36 : m_at k_M_entry 36 = some (.idiv, 1, 0) := m_at_of r_M_entry (by decide +kernel)
theorem i_M_entry_37 : m_at k_M_entry 37 = some (.goto (22), 3, 0) := m_at_of r_M_entry (by decide +kernel)
theorem i_M_entry_40 : m_at k_M_entry 40 = some (.iload_n 2, 1, 0) := m_at_of r_M_entry (by decide +kernel)
theorem i_M_entry_41 : m_at k_M_entry 41 = some (.iconst 1, 1, 0) := m_at_of r_M_entry (by decide +kernel)
theorem i_M_entry_42 : m_at k_M_entry 42 = some (.if_icmp .ne (13), 3, 0) := m_at_of r_M_entry (by decide +kernel)
theorem i_M_entry_45 : m_at k_M_entry 45 = some (.iload_n 3, 1, 0) := m_at_of r_M_entry (by decide +kernel)
theorem i_M_entry_46 : m_at k_M_entry 46 = some (.bipush 100, 2, 0) := m_at_of r_M_entry (by decide +kernel)
theorem i_M_entry_48 : m_at k_M_entry 48 = some (.idiv, 1, 0) := m_at_of r_M_entry (by decide +kernel)
theorem i_M_entry_49 : m_at k_M_entry 49 = some (.bipush 8, 2, 0) := m_at_of r_M_entry (by decide +kernel)
theorem i_M_entry_51 : m_at k_M_entry 51 = some (.irem, 1, 0) := m_at_of r_M_entry (by decide +kernel)
theorem i_M_entry_52 : m_at k_M_entry 52 = some (.goto (7), 3, 0) := m_at_of r_M_entry (by decide +kernel)
theorem i_M_entry_55 : m_at k_M_entry 55 = some (.iload_n 3, 1, 0) := m_at_of r_M_entry (by decide +kernel)
theorem i_M_entry_56 : m_at k_M_entry 56 = some (.bipush 100, 2, 0) := m_at_of r_M_entry (by decide +kernel)
theorem i_M_entry_58 : m_at k_M_entry 58 = some (.irem, 1, 0) := m_at_of r_M_entry (by decide +kernel)
theorem i_M_entry_59 : m_at k_M_entry 59 = some (.ireturn, 1, 0) := m_at_of r_M_entry (by decide +kernel)
set_option maxRecDepth 20000 in
set_option maxHeartbeats 1000000 in
theorem E_M_entry (x : m_X) (s : m_H) (w : Nat) (n1 : Int32) (n2 : Int32) : m_M x k_M_entry [.ref w, .int n1, .int n2] s = if m_isO s w 11 = true then ((m_fR s 11 0 w).bind fun v1 => (m_fR s 11 0 w).bind fun v8 => (m_ia x s v8 12).bind fun v13 => m_bI (m_M x k_M_shown [.ref w] s) fun v15 s15 => (m_ia x s15 v1 ((3300 : Int32) + (((v13 - v15) + n1) - ((v13 - v15) + n1) / (8430 : Int32) * (8430 : Int32)))).bind fun v26 => if n2 = 0 then (some (some (.int (v26 / (800 : Int32))), s15)) else if n2 = 1 then (some (some (.int ((v26 / (100 : Int32)) - (v26 / (100 : Int32)) / (8 : Int32) * (8 : Int32))), s15)) else some (some (.int (v26 - v26 / (100 : Int32) * (100 : Int32))), s15)) else none := by
  refine e_M1 (L0 := [some (.ref w), some (.int n1), some (.int n2), none]) rfl (by decide +kernel) rfl (q_M_entry _) rfl ?_
  refine e_aload_n i_M_entry_0 rfl ?_
  refine e_getR i_M_entry_1 lf_0 (by decide) ft_11_0 (fun v1 => ?_)
  refine e_sipush (v := 3300) i_M_entry_4 (by decide) ?_
  refine e_aload_n i_M_entry_7 rfl ?_
  refine e_getR i_M_entry_8 lf_0 (by decide) ft_11_0 (fun v8 => ?_)
  refine e_bipush (v := 12) i_M_entry_11 (by decide) ?_
  refine e_iald i_M_entry_13 (fun v13 => ?_)
  refine e_aload_n i_M_entry_14 rfl ?_
  refine e_callI (as := [.ref w]) (st' := [.int v13, .int 3300, .ref v1]) i_M_entry_15 lm_111 (Or.inr (Or.inl ⟨rfl, rfl⟩)) w_M_shown rfl rfl rfl (Nat.le_of_ble_eq_true rfl) (Nat.le_of_ble_eq_true rfl) (m_rlt (q_M_shown _) (by decide)) rfl (fun v15 s15 => ?_)
  refine e_isub i_M_entry_18 ?_
  refine e_iload_n i_M_entry_19 rfl ?_
  refine e_iadd i_M_entry_20 ?_
  refine e_sipush (v := 8430) i_M_entry_21 (by decide) ?_
  refine e_iremc i_M_entry_24 (by decide) ?_
  refine e_iadd i_M_entry_25 ?_
  refine e_iald i_M_entry_26 (fun v26 => ?_)
  refine e_istore_n (L' := [some (.ref w), some (.int n1), some (.int n2), some (.int v26)]) i_M_entry_27 (of_decide_eq_true rfl) rfl ?_
  refine e_iload_n i_M_entry_28 rfl ?_
  refine e_ifne (t := 40) i_M_entry_29 (by decide) ?_ ?_
  · refine e_iload_n i_M_entry_40 rfl ?_
    refine e_iconst (v := 1) i_M_entry_41 (by decide) ?_
    refine e_icmpne (t := 55) i_M_entry_42 (by decide) ?_ ?_
    · refine e_iload_n i_M_entry_55 rfl ?_
      refine e_bipush (v := 100) i_M_entry_56 (by decide) ?_
      refine e_iremc i_M_entry_58 (by decide) ?_
      exact e_iretI i_M_entry_59 rfl
    · refine e_iload_n i_M_entry_45 rfl ?_
      refine e_bipush (v := 100) i_M_entry_46 (by decide) ?_
      refine e_idivc i_M_entry_48 (by decide) ?_
      refine e_bipush (v := 8) i_M_entry_49 (by decide) ?_
      refine e_iremc i_M_entry_51 (by decide) ?_
      refine e_goto (t := 59) i_M_entry_52 (by decide) ?_
      exact e_iretI i_M_entry_59 rfl
  · refine e_iload_n i_M_entry_32 rfl ?_
    refine e_sipush (v := 800) i_M_entry_33 (by decide) ?_
    refine e_idivc i_M_entry_36 (by decide) ?_
    refine e_goto (t := 59) i_M_entry_37 (by decide) ?_
    exact e_iretI i_M_entry_59 rfl
theorem i_M_shown_0 : m_at k_M_shown 0 = some (.aload_n 0, 1, 0) := m_at_of r_M_shown (by decide +kernel)
theorem i_M_shown_1 : m_at k_M_shown 1 = some (.getfield 7, 3, 0) := m_at_of r_M_shown (by decide +kernel)
theorem i_M_shown_4 : m_at k_M_shown 4 = some (.bipush 12, 2, 0) := m_at_of r_M_shown (by decide +kernel)
theorem i_M_shown_6 : m_at k_M_shown 6 = some (.iaload, 1, 0) := m_at_of r_M_shown (by decide +kernel)
theorem i_M_shown_7 : m_at k_M_shown 7 = some (.bipush 30, 2, 0) := m_at_of r_M_shown (by decide +kernel)
theorem i_M_shown_9 : m_at k_M_shown 9 = some (.if_icmp .ge (13), 3, 0) := m_at_of r_M_shown (by decide +kernel)
theorem i_M_shown_12 : m_at k_M_shown 12 = some (.aload_n 0, 1, 0) := m_at_of r_M_shown (by decide +kernel)
theorem i_M_shown_13 : m_at k_M_shown 13 = some (.getfield 7, 3, 0) := m_at_of r_M_shown (by decide +kernel)
theorem i_M_shown_16 : m_at k_M_shown 16 = some (.bipush 12, 2, 0) := m_at_of r_M_shown (by decide +kernel)
theorem i_M_shown_18 : m_at k_M_shown 18 = some (.iaload, 1, 0) := m_at_of r_M_shown (by decide +kernel)
theorem i_M_shown_19 : m_at k_M_shown 19 = some (.goto (5), 3, 0) := m_at_of r_M_shown (by decide +kernel)
theorem i_M_shown_22 : m_at k_M_shown 22 = some (.bipush 30, 2, 0) := m_at_of r_M_shown (by decide +kernel)
theorem i_M_shown_24 : m_at k_M_shown 24 = some (.ireturn, 1, 0) := m_at_of r_M_shown (by decide +kernel)
set_option maxRecDepth 20000 in
set_option maxHeartbeats 1000000 in
theorem E_M_shown (x : m_X) (s : m_H) (w : Nat) : m_M x k_M_shown [.ref w] s = if m_isO s w 11 = true then ((m_fR s 11 0 w).bind fun v1 => (m_ia x s v1 12).bind fun v6 => if 30 ≤ v6 then (some (some (.int 30), s)) else (m_fR s 11 0 w).bind fun v13 => (m_ia x s v13 12).bind fun v18 => some (some (.int v18), s)) else none := by
  refine e_M1 (L0 := [some (.ref w)]) rfl (by decide +kernel) rfl (q_M_shown _) rfl ?_
  refine e_aload_n i_M_shown_0 rfl ?_
  refine e_getR i_M_shown_1 lf_0 (by decide) ft_11_0 (fun v1 => ?_)
  refine e_bipush (v := 12) i_M_shown_4 (by decide) ?_
  refine e_iald i_M_shown_6 (fun v6 => ?_)
  refine e_bipush (v := 30) i_M_shown_7 (by decide) ?_
  refine e_icmpge (t := 22) i_M_shown_9 (by decide) ?_ ?_
  · refine e_bipush (v := 30) i_M_shown_22 (by decide) ?_
    exact e_iretI i_M_shown_24 rfl
  · refine e_aload_n i_M_shown_12 rfl ?_
    refine e_getR i_M_shown_13 lf_0 (by decide) ft_11_0 (fun v13 => ?_)
    refine e_bipush (v := 12) i_M_shown_16 (by decide) ?_
    refine e_iald i_M_shown_18 (fun v18 => ?_)
    refine e_goto (t := 24) i_M_shown_19 (by decide) ?_
    exact e_iretI i_M_shown_24 rfl
theorem i_M_is_0 : m_at k_M_is 0 = some (.iload_n 1, 1, 0) := m_at_of r_M_is (by decide +kernel)
theorem i_M_is_1 : m_at k_M_is 1 = some (.iconst 0, 1, 0) := m_at_of r_M_is (by decide +kernel)
theorem i_M_is_2 : m_at k_M_is 2 = some (.iconst 3, 1, 0) := m_at_of r_M_is (by decide +kernel)
theorem i_M_is_3 : m_at k_M_is 3 = some (.invokestatic 81, 3, 96) := m_at_of r_M_is (by decide +kernel)
theorem i_M_is_6 : m_at k_M_is 6 = some (.ifCond .eq (15), 3, 0) := m_at_of r_M_is (by decide +kernel)
theorem i_M_is_9 : m_at k_M_is 9 = some (.aload_n 0, 1, 0) := m_at_of r_M_is (by decide +kernel)
theorem i_M_is_10 : m_at k_M_is 10 = some (.getfield 7, 3, 0) := m_at_of r_M_is (by decide +kernel)
theorem i_M_is_13 : m_at k_M_is 13 = some (.bipush 8, 2, 0) := m_at_of r_M_is (by decide +kernel)
theorem i_M_is_15 : m_at k_M_is 15 = some (.iload_n 1, 1, 0) := m_at_of r_M_is (by decide +kernel)
theorem i_M_is_16 : m_at k_M_is 16 = some (.iadd, 1, 0) := m_at_of r_M_is (by decide +kernel)
theorem i_M_is_17 : m_at k_M_is 17 = some (.iaload, 1, 0) := m_at_of r_M_is (by decide +kernel)
theorem i_M_is_18 : m_at k_M_is 18 = some (.goto (5), 3, 0) := m_at_of r_M_is (by decide +kernel)
theorem i_M_is_21 : m_at k_M_is 21 = some (.bipush (-2), 2, 0) := m_at_of r_M_is (by decide +kernel)
theorem i_M_is_23 : m_at k_M_is 23 = some (.ireturn, 1, 0) := m_at_of r_M_is (by decide +kernel)
set_option maxRecDepth 20000 in
set_option maxHeartbeats 1000000 in
theorem E_M_is (x : m_X) (s : m_H) (w : Nat) (n1 : Int32) : m_M x k_M_is [.ref w, .int n1] s = if m_isO s w 11 = true then (m_bI (m_M x k_M_isIn [.int n1, .int 0, .int 3] s) fun v3 s3 => if v3 = 0 then (some (some (.int (-2)), s3)) else (m_fR s3 11 0 w).bind fun v10 => (m_ia x s3 v10 ((8 : Int32) + n1)).bind fun v17 => some (some (.int v17), s3)) else none := by
  refine e_M1 (L0 := [some (.ref w), some (.int n1)]) rfl (by decide +kernel) rfl (q_M_is _) rfl ?_
  refine e_iload_n i_M_is_0 rfl ?_
  refine e_iconst (v := 0) i_M_is_1 (by decide) ?_
  refine e_iconst (v := 3) i_M_is_2 (by decide) ?_
  refine e_callI (as := [.int n1, .int 0, .int 3]) (st' := []) i_M_is_3 lm_96 (Or.inl ⟨rfl, rfl⟩) w_M_isIn rfl rfl rfl (Nat.le_of_ble_eq_true rfl) (Nat.le_of_ble_eq_true rfl) (m_rlt (q_M_isIn _) (by decide)) rfl (fun v3 s3 => ?_)
  refine e_ifeq (t := 21) i_M_is_6 (by decide) ?_ ?_
  · refine e_bipush (v := (-2)) i_M_is_21 (by decide) ?_
    exact e_iretI i_M_is_23 rfl
  · refine e_aload_n i_M_is_9 rfl ?_
    refine e_getR i_M_is_10 lf_0 (by decide) ft_11_0 (fun v10 => ?_)
    refine e_bipush (v := 8) i_M_is_13 (by decide) ?_
    refine e_iload_n i_M_is_15 rfl ?_
    refine e_iadd i_M_is_16 ?_
    refine e_iald i_M_is_17 (fun v17 => ?_)
    refine e_goto (t := 23) i_M_is_18 (by decide) ?_
    exact e_iretI i_M_is_23 rfl
theorem i_M_ofGlove_0 : m_at k_M_ofGlove 0 = some (.aload_n 0, 1, 0) := m_at_of r_M_ofGlove (by decide +kernel)
theorem i_M_ofGlove_1 : m_at k_M_ofGlove 1 = some (.iload_n 1, 1, 0) := m_at_of r_M_ofGlove (by decide +kernel)
theorem i_M_ofGlove_2 : m_at k_M_ofGlove 2 = some (.invokevirtual 365, 3, 116) := m_at_of r_M_ofGlove (by decide +kernel)
theorem i_M_ofGlove_5 : m_at k_M_ofGlove 5 = some (.ifCond .eq (13), 3, 0) := m_at_of r_M_ofGlove (by decide +kernel)
theorem i_M_ofGlove_8 : m_at k_M_ofGlove 8 = some (.iload_n 2, 1, 0) := m_at_of r_M_ofGlove (by decide +kernel)
theorem i_M_ofGlove_9 : m_at k_M_ofGlove 9 = some (.iconst 0, 1, 0) := m_at_of r_M_ofGlove (by decide +kernel)
theorem i_M_ofGlove_10 : m_at k_M_ofGlove 10 = some (.bipush 8, 2, 0) := m_at_of r_M_ofGlove (by decide +kernel)
theorem i_M_ofGlove_12 : m_at k_M_ofGlove 12 = some (.invokestatic 81, 3, 96) := m_at_of r_M_ofGlove (by decide +kernel)
theorem i_M_ofGlove_15 : m_at k_M_ofGlove 15 = some (.ifCond .ne (5), 3, 0) := m_at_of r_M_ofGlove (by decide +kernel)
theorem i_M_ofGlove_18 : m_at k_M_ofGlove 18 = some (.iconst (-1), 1, 0) := m_at_of r_M_ofGlove (by decide +kernel)
theorem i_M_ofGlove_19 : m_at k_M_ofGlove 19 = some (.ireturn, 1, 0) := m_at_of r_M_ofGlove (by decide +kernel)
theorem i_M_ofGlove_20 : m_at k_M_ofGlove 20 = some (.iload_n 2, 1, 0) := m_at_of r_M_ofGlove (by decide +kernel)
theorem i_M_ofGlove_21 : m_at k_M_ofGlove 21 = some (.bipush 7, 2, 0) := m_at_of r_M_ofGlove (by decide +kernel)
theorem i_M_ofGlove_23 : m_at k_M_ofGlove 23 = some (.if_icmp .ge (12), 3, 0) := m_at_of r_M_ofGlove (by decide +kernel)
theorem i_M_ofGlove_26 : m_at k_M_ofGlove 26 = some (.aload_n 0, 1, 0) := m_at_of r_M_ofGlove (by decide +kernel)
theorem i_M_ofGlove_27 : m_at k_M_ofGlove 27 = some (.iload_n 1, 1, 0) := m_at_of r_M_ofGlove (by decide +kernel)
theorem i_M_ofGlove_28 : m_at k_M_ofGlove 28 = some (.iload_n 2, 1, 0) := m_at_of r_M_ofGlove (by decide +kernel)
theorem i_M_ofGlove_29 : m_at k_M_ofGlove 29 = some (.invokevirtual 85, 3, 106) := m_at_of r_M_ofGlove (by decide +kernel)
theorem i_M_ofGlove_32 : m_at k_M_ofGlove 32 = some (.goto (28), 3, 0) := m_at_of r_M_ofGlove (by decide +kernel)
theorem i_M_ofGlove_35 : m_at k_M_ofGlove 35 = some (.iload_n 2, 1, 0) := m_at_of r_M_ofGlove (by decide +kernel)
theorem i_M_ofGlove_36 : m_at k_M_ofGlove 36 = some (.bipush 7, 2, 0) := m_at_of r_M_ofGlove (by decide +kernel)
theorem i_M_ofGlove_38 : m_at k_M_ofGlove 38 = some (.if_icmp .ne (17), 3, 0) := m_at_of r_M_ofGlove (by decide +kernel)
theorem i_M_ofGlove_41 : m_at k_M_ofGlove 41 = some (.aload_n 0, 1, 0) := m_at_of r_M_ofGlove (by decide +kernel)
theorem i_M_ofGlove_42 : m_at k_M_ofGlove 42 = some (.aload_n 0, 1, 0) := m_at_of r_M_ofGlove (by decide +kernel)
theorem i_M_ofGlove_43 : m_at k_M_ofGlove 43 = some (.getfield 7, 3, 0) := m_at_of r_M_ofGlove (by decide +kernel)
theorem i_M_ofGlove_46 : m_at k_M_ofGlove 46 = some (.iconst 2, 1, 0) := m_at_of r_M_ofGlove (by decide +kernel)
theorem i_M_ofGlove_47 : m_at k_M_ofGlove 47 = some (.iaload, 1, 0) := m_at_of r_M_ofGlove (by decide +kernel)
theorem i_M_ofGlove_48 : m_at k_M_ofGlove 48 = some (.iload_n 1, 1, 0) := m_at_of r_M_ofGlove (by decide +kernel)
theorem i_M_ofGlove_49 : m_at k_M_ofGlove 49 = some (.invokevirtual 342, 3, 117) := m_at_of r_M_ofGlove (by decide +kernel)
theorem i_M_ofGlove_52 : m_at k_M_ofGlove 52 = some (.goto (8), 3, 0) := m_at_of r_M_ofGlove (by decide +kernel)
theorem i_M_ofGlove_55 : m_at k_M_ofGlove 55 = some (.aload_n 0, 1, 0) := m_at_of r_M_ofGlove (by decide +kernel)
theorem i_M_ofGlove_56 : m_at k_M_ofGlove 56 = some (.iload_n 1, 1, 0) := m_at_of r_M_ofGlove (by decide +kernel)
theorem i_M_ofGlove_57 : m_at k_M_ofGlove 57 = some (.invokevirtual 377, 3, 216) := m_at_of r_M_ofGlove (by decide +kernel)
theorem i_M_ofGlove_60 : m_at k_M_ofGlove 60 = some (.ireturn, 1, 0) := m_at_of r_M_ofGlove (by decide +kernel)
set_option maxRecDepth 20000 in
set_option maxHeartbeats 1000000 in
theorem E_M_ofGlove (x : m_X) (s : m_H) (w : Nat) (n1 : Int32) (n2 : Int32) : m_M x k_M_ofGlove [.ref w, .int n1, .int n2] s = if m_isO s w 11 = true then (m_bI (m_M x k_M_isGlove [.ref w, .int n1] s) fun v2 s2 => if v2 = 0 then (some (some (.int (-1)), s2)) else m_bI (m_M x k_M_isIn [.int n2, .int 0, .int 8] s2) fun v12 s12 => if v12 = 0 then (some (some (.int (-1)), s12)) else if 7 ≤ n2 then (if n2 = 7 then ((m_fR s12 11 0 w).bind fun v43 => (m_ia x s12 v43 2).bind fun v47 => m_bI (m_M x k_M_growsOf [.ref w, .int v47, .int n1] s12) fun v49 s49 => some (some (.int v49), s49)) else m_bI (m_M x k_M_pawnOf [.ref w, .int n1] s12) fun v57 s57 => some (some (.int v57), s57)) else m_bI (m_M x k_M_get [.ref w, .int n1, .int n2] s12) fun v29 s29 => some (some (.int v29), s29)) else none := by
  refine e_M1 (L0 := [some (.ref w), some (.int n1), some (.int n2)]) rfl (by decide +kernel) rfl (q_M_ofGlove _) rfl ?_
  refine e_aload_n i_M_ofGlove_0 rfl ?_
  refine e_iload_n i_M_ofGlove_1 rfl ?_
  refine e_callI (as := [.ref w, .int n1]) (st' := []) i_M_ofGlove_2 lm_116 (Or.inr (Or.inl ⟨rfl, rfl⟩)) w_M_isGlove rfl rfl rfl (Nat.le_of_ble_eq_true rfl) (Nat.le_of_ble_eq_true rfl) (m_rlt (q_M_isGlove _) (by decide)) rfl (fun v2 s2 => ?_)
  refine e_ifeq (t := 18) i_M_ofGlove_5 (by decide) ?_ ?_
  · refine e_iconst (v := (-1)) i_M_ofGlove_18 (by decide) ?_
    exact e_iretI i_M_ofGlove_19 rfl
  · refine e_iload_n i_M_ofGlove_8 rfl ?_
    refine e_iconst (v := 0) i_M_ofGlove_9 (by decide) ?_
    refine e_bipush (v := 8) i_M_ofGlove_10 (by decide) ?_
    refine e_callI (as := [.int n2, .int 0, .int 8]) (st' := []) i_M_ofGlove_12 lm_96 (Or.inl ⟨rfl, rfl⟩) w_M_isIn rfl rfl rfl (Nat.le_of_ble_eq_true rfl) (Nat.le_of_ble_eq_true rfl) (m_rlt (q_M_isIn _) (by decide)) rfl (fun v12 s12 => ?_)
    refine e_ifne (t := 20) i_M_ofGlove_15 (by decide) ?_ ?_
    · refine e_iload_n i_M_ofGlove_20 rfl ?_
      refine e_bipush (v := 7) i_M_ofGlove_21 (by decide) ?_
      refine e_icmpge (t := 35) i_M_ofGlove_23 (by decide) ?_ ?_
      · refine e_iload_n i_M_ofGlove_35 rfl ?_
        refine e_bipush (v := 7) i_M_ofGlove_36 (by decide) ?_
        refine e_icmpne (t := 55) i_M_ofGlove_38 (by decide) ?_ ?_
        · refine e_aload_n i_M_ofGlove_55 rfl ?_
          refine e_iload_n i_M_ofGlove_56 rfl ?_
          refine e_callI (as := [.ref w, .int n1]) (st' := []) i_M_ofGlove_57 lm_216 (Or.inr (Or.inl ⟨rfl, rfl⟩)) w_M_pawnOf rfl rfl rfl (Nat.le_of_ble_eq_true rfl) (Nat.le_of_ble_eq_true rfl) (m_rlt (q_M_pawnOf _) (by decide)) rfl (fun v57 s57 => ?_)
          exact e_iretI i_M_ofGlove_60 rfl
        · refine e_aload_n i_M_ofGlove_41 rfl ?_
          refine e_aload_n i_M_ofGlove_42 rfl ?_
          refine e_getR i_M_ofGlove_43 lf_0 (by decide) ft_11_0 (fun v43 => ?_)
          refine e_iconst (v := 2) i_M_ofGlove_46 (by decide) ?_
          refine e_iald i_M_ofGlove_47 (fun v47 => ?_)
          refine e_iload_n i_M_ofGlove_48 rfl ?_
          refine e_callI (as := [.ref w, .int v47, .int n1]) (st' := []) i_M_ofGlove_49 lm_117 (Or.inr (Or.inl ⟨rfl, rfl⟩)) w_M_growsOf rfl rfl rfl (Nat.le_of_ble_eq_true rfl) (Nat.le_of_ble_eq_true rfl) (m_rlt (q_M_growsOf _) (by decide)) rfl (fun v49 s49 => ?_)
          refine e_goto (t := 60) i_M_ofGlove_52 (by decide) ?_
          exact e_iretI i_M_ofGlove_60 rfl
      · refine e_aload_n i_M_ofGlove_26 rfl ?_
        refine e_iload_n i_M_ofGlove_27 rfl ?_
        refine e_iload_n i_M_ofGlove_28 rfl ?_
        refine e_callI (as := [.ref w, .int n1, .int n2]) (st' := []) i_M_ofGlove_29 lm_106 (Or.inr (Or.inl ⟨rfl, rfl⟩)) w_M_get rfl rfl rfl (Nat.le_of_ble_eq_true rfl) (Nat.le_of_ble_eq_true rfl) (m_rlt (q_M_get _) (by decide)) rfl (fun v29 s29 => ?_)
        refine e_goto (t := 60) i_M_ofGlove_32 (by decide) ?_
        exact e_iretI i_M_ofGlove_60 rfl
    · refine e_iconst (v := (-1)) i_M_ofGlove_18 (by decide) ?_
      exact e_iretI i_M_ofGlove_19 rfl
theorem i_M_of_0 : m_at k_M_of 0 = some (.aload_n 0, 1, 0) := m_at_of r_M_of (by decide +kernel)
theorem i_M_of_1 : m_at k_M_of 1 = some (.iload_n 1, 1, 0) := m_at_of r_M_of (by decide +kernel)
theorem i_M_of_2 : m_at k_M_of 2 = some (.invokevirtual 352, 3, 110) := m_at_of r_M_of (by decide +kernel)
theorem i_M_of_5 : m_at k_M_of 5 = some (.ifCond .ne (7), 3, 0) := m_at_of r_M_of (by decide +kernel)
theorem i_M_of_8 : m_at k_M_of 8 = some (.ldc_w 422, 3, 4) := m_at_of r_M_of (by decide +kernel)
theorem i_M_of_11 : m_at k_M_of 11 = some (.ireturn, 1, 0) := m_at_of r_M_of (by decide +kernel)
theorem i_M_of_12 : m_at k_M_of 12 = some (.iload_n 2, 1, 0) := m_at_of r_M_of (by decide +kernel)
theorem i_M_of_13 : m_at k_M_of 13 = some (.tableswitch (107) (0) (7) #[47, 57, 67, 77, 83, 89, 95, 101], 47, 0) := m_at_of r_M_of (by decide +kernel)
theorem i_M_of_60 : m_at k_M_of 60 = some (.aload_n 0, 1, 0) := m_at_of r_M_of (by decide +kernel)
theorem i_M_of_61 : m_at k_M_of 61 = some (.getfield 7, 3, 0) := m_at_of r_M_of (by decide +kernel)
theorem i_M_of_64 : m_at k_M_of 64 = some (.bipush 112, 2, 0) := m_at_of r_M_of (by decide +kernel)
theorem i_M_of_66 : m_at k_M_of 66 = some (.iload_n 1, 1, 0) := m_at_of r_M_of (by decide +kernel)
theorem i_M_of_67 : m_at k_M_of 67 = some (.iadd, 1, 0) := m_at_of r_M_of (by decide +kernel)
theorem i_M_of_68 : m_at k_M_of 68 = some (.iaload, 1, 0) := m_at_of r_M_of (by decide +kernel)
theorem i_M_of_69 : m_at k_M_of 69 = some (.ireturn, 1, 0) := m_at_of r_M_of (by decide +kernel)
theorem i_M_of_70 : m_at k_M_of 70 = some (.aload_n 0, 1, 0) := m_at_of r_M_of (by decide +kernel)
theorem i_M_of_71 : m_at k_M_of 71 = some (.getfield 7, 3, 0) := m_at_of r_M_of (by decide +kernel)
theorem i_M_of_74 : m_at k_M_of 74 = some (.bipush 13, 2, 0) := m_at_of r_M_of (by decide +kernel)
theorem i_M_of_76 : m_at k_M_of 76 = some (.iload_n 1, 1, 0) := m_at_of r_M_of (by decide +kernel)
theorem i_M_of_77 : m_at k_M_of 77 = some (.iadd, 1, 0) := m_at_of r_M_of (by decide +kernel)
theorem i_M_of_78 : m_at k_M_of 78 = some (.iaload, 1, 0) := m_at_of r_M_of (by decide +kernel)
theorem i_M_of_79 : m_at k_M_of 79 = some (.ireturn, 1, 0) := m_at_of r_M_of (by decide +kernel)
theorem i_M_of_80 : m_at k_M_of 80 = some (.aload_n 0, 1, 0) := m_at_of r_M_of (by decide +kernel)
theorem i_M_of_81 : m_at k_M_of 81 = some (.getfield 7, 3, 0) := m_at_of r_M_of (by decide +kernel)
theorem i_M_of_84 : m_at k_M_of 84 = some (.bipush 20, 2, 0) := m_at_of r_M_of (by decide +kernel)
theorem i_M_of_86 : m_at k_M_of 86 = some (.iload_n 1, 1, 0) := m_at_of r_M_of (by decide +kernel)
theorem i_M_of_87 : m_at k_M_of 87 = some (.iadd, 1, 0) := m_at_of r_M_of (by decide +kernel)
theorem i_M_of_88 : m_at k_M_of 88 = some (.iaload, 1, 0) := m_at_of r_M_of (by decide +kernel)
theorem i_M_of_89 : m_at k_M_of 89 = some (.ireturn, 1, 0) := m_at_of r_M_of (by decide +kernel)
theorem i_M_of_90 : m_at k_M_of 90 = some (.aload_n 0, 1, 0) := m_at_of r_M_of (by decide +kernel)
theorem i_M_of_91 : m_at k_M_of 91 = some (.iload_n 1, 1, 0) := m_at_of r_M_of (by decide +kernel)
theorem i_M_of_92 : m_at k_M_of 92 = some (.invokevirtual 314, 3, 205) := m_at_of r_M_of (by decide +kernel)
theorem i_M_of_95 : m_at k_M_of 95 = some (.ireturn, 1, 0) := m_at_of r_M_of (by decide +kernel)
theorem i_M_of_96 : m_at k_M_of 96 = some (.aload_n 0, 1, 0) := m_at_of r_M_of (by decide +kernel)
theorem i_M_of_97 : m_at k_M_of 97 = some (.iload_n 1, 1, 0) := m_at_of r_M_of (by decide +kernel)
theorem i_M_of_98 : m_at k_M_of 98 = some (.invokevirtual 285, 3, 217) := m_at_of r_M_of (by decide +kernel)
theorem i_M_of_101 : m_at k_M_of 101 = some (.ireturn, 1, 0) := m_at_of r_M_of (by decide +kernel)
theorem i_M_of_102 : m_at k_M_of 102 = some (.aload_n 0, 1, 0) := m_at_of r_M_of (by decide +kernel)
theorem i_M_of_103 : m_at k_M_of 103 = some (.iload_n 1, 1, 0) := m_at_of r_M_of (by decide +kernel)
theorem i_M_of_104 : m_at k_M_of 104 = some (.invokevirtual 333, 3, 218) := m_at_of r_M_of (by decide +kernel)
theorem i_M_of_107 : m_at k_M_of 107 = some (.ireturn, 1, 0) := m_at_of r_M_of (by decide +kernel)
theorem i_M_of_108 : m_at k_M_of 108 = some (.aload_n 0, 1, 0) := m_at_of r_M_of (by decide +kernel)
theorem i_M_of_109 : m_at k_M_of 109 = some (.iload_n 1, 1, 0) := m_at_of r_M_of (by decide +kernel)
theorem i_M_of_110 : m_at k_M_of 110 = some (.invokevirtual 336, 3, 219) := m_at_of r_M_of (by decide +kernel)
theorem i_M_of_113 : m_at k_M_of 113 = some (.ireturn, 1, 0) := m_at_of r_M_of (by decide +kernel)
theorem i_M_of_114 : m_at k_M_of 114 = some (.aload_n 0, 1, 0) := m_at_of r_M_of (by decide +kernel)
theorem i_M_of_115 : m_at k_M_of 115 = some (.iload_n 1, 1, 0) := m_at_of r_M_of (by decide +kernel)
theorem i_M_of_116 : m_at k_M_of 116 = some (.invokevirtual 423, 3, 220) := m_at_of r_M_of (by decide +kernel)
theorem i_M_of_119 : m_at k_M_of 119 = some (.ireturn, 1, 0) := m_at_of r_M_of (by decide +kernel)
theorem i_M_of_120 : m_at k_M_of 120 = some (.ldc_w 422, 3, 4) := m_at_of r_M_of (by decide +kernel)
theorem i_M_of_123 : m_at k_M_of 123 = some (.ireturn, 1, 0) := m_at_of r_M_of (by decide +kernel)
set_option maxRecDepth 20000 in
set_option maxHeartbeats 1000000 in
theorem E_M_of (x : m_X) (s : m_H) (w : Nat) (n1 : Int32) (n2 : Int32) : m_M x k_M_of [.ref w, .int n1, .int n2] s = if m_isO s w 11 = true then (m_bI (m_M x k_M_isOne [.ref w, .int n1] s) fun v2 s2 => if v2 = 0 then (some (some (.int (-100000)), s2)) else if n2 = 0 then ((m_fR s2 11 0 w).bind fun v61 => (m_ia x s2 v61 ((112 : Int32) + n1)).bind fun v68 => some (some (.int v68), s2)) else if n2 = 1 then ((m_fR s2 11 0 w).bind fun v71 => (m_ia x s2 v71 ((13 : Int32) + n1)).bind fun v78 => some (some (.int v78), s2)) else if n2 = 2 then ((m_fR s2 11 0 w).bind fun v81 => (m_ia x s2 v81 ((20 : Int32) + n1)).bind fun v88 => some (some (.int v88), s2)) else if n2 = 3 then (m_bI (m_M x k_M_rightsOf [.ref w, .int n1] s2) fun v92 s92 => some (some (.int v92), s92)) else if n2 = 4 then (m_bI (m_M x k_M_leftsOf [.ref w, .int n1] s2) fun v98 s98 => some (some (.int v98), s98)) else if n2 = 5 then (m_bI (m_M x k_M_chillOf [.ref w, .int n1] s2) fun v104 s104 => some (some (.int v104), s104)) else if n2 = 6 then (m_bI (m_M x k_M_fineOf [.ref w, .int n1] s2) fun v110 s110 => some (some (.int v110), s110)) else if n2 = 7 then (m_bI (m_M x k_M_sumOf [.ref w, .int n1] s2) fun v116 s116 => some (some (.int v116), s116)) else some (some (.int (-100000)), s2)) else none := by
  refine e_M1 (L0 := [some (.ref w), some (.int n1), some (.int n2)]) rfl (by decide +kernel) rfl (q_M_of _) rfl ?_
  refine e_aload_n i_M_of_0 rfl ?_
  refine e_iload_n i_M_of_1 rfl ?_
  refine e_callI (as := [.ref w, .int n1]) (st' := []) i_M_of_2 lm_110 (Or.inr (Or.inl ⟨rfl, rfl⟩)) w_M_isOne rfl rfl rfl (Nat.le_of_ble_eq_true rfl) (Nat.le_of_ble_eq_true rfl) (m_rlt (q_M_isOne _) (by decide)) rfl (fun v2 s2 => ?_)
  refine e_ifne (t := 12) i_M_of_5 (by decide) ?_ ?_
  · refine e_iload_n i_M_of_12 rfl ?_
    refine e_tsw (cs := [(0, 60), (1, 70), (2, 80), (3, 90), (4, 96), (5, 102), (6, 108), (7, 114)]) (td := 120) i_M_of_13 (by decide +kernel) ?_
    refine m_sw_c ?_ ?_
    · refine e_aload_n i_M_of_60 rfl ?_
      refine e_getR i_M_of_61 lf_0 (by decide) ft_11_0 (fun v61 => ?_)
      refine e_bipush (v := 112) i_M_of_64 (by decide) ?_
      refine e_iload_n i_M_of_66 rfl ?_
      refine e_iadd i_M_of_67 ?_
      refine e_iald i_M_of_68 (fun v68 => ?_)
      exact e_iretI i_M_of_69 rfl
    refine m_sw_c ?_ ?_
    · refine e_aload_n i_M_of_70 rfl ?_
      refine e_getR i_M_of_71 lf_0 (by decide) ft_11_0 (fun v71 => ?_)
      refine e_bipush (v := 13) i_M_of_74 (by decide) ?_
      refine e_iload_n i_M_of_76 rfl ?_
      refine e_iadd i_M_of_77 ?_
      refine e_iald i_M_of_78 (fun v78 => ?_)
      exact e_iretI i_M_of_79 rfl
    refine m_sw_c ?_ ?_
    · refine e_aload_n i_M_of_80 rfl ?_
      refine e_getR i_M_of_81 lf_0 (by decide) ft_11_0 (fun v81 => ?_)
      refine e_bipush (v := 20) i_M_of_84 (by decide) ?_
      refine e_iload_n i_M_of_86 rfl ?_
      refine e_iadd i_M_of_87 ?_
      refine e_iald i_M_of_88 (fun v88 => ?_)
      exact e_iretI i_M_of_89 rfl
    refine m_sw_c ?_ ?_
    · refine e_aload_n i_M_of_90 rfl ?_
      refine e_iload_n i_M_of_91 rfl ?_
      refine e_callI (as := [.ref w, .int n1]) (st' := []) i_M_of_92 lm_205 (Or.inr (Or.inl ⟨rfl, rfl⟩)) w_M_rightsOf rfl rfl rfl (Nat.le_of_ble_eq_true rfl) (Nat.le_of_ble_eq_true rfl) (m_rlt (q_M_rightsOf _) (by decide)) rfl (fun v92 s92 => ?_)
      exact e_iretI i_M_of_95 rfl
    refine m_sw_c ?_ ?_
    · refine e_aload_n i_M_of_96 rfl ?_
      refine e_iload_n i_M_of_97 rfl ?_
      refine e_callI (as := [.ref w, .int n1]) (st' := []) i_M_of_98 lm_217 (Or.inr (Or.inl ⟨rfl, rfl⟩)) w_M_leftsOf rfl rfl rfl (Nat.le_of_ble_eq_true rfl) (Nat.le_of_ble_eq_true rfl) (m_rlt (q_M_leftsOf _) (by decide)) rfl (fun v98 s98 => ?_)
      exact e_iretI i_M_of_101 rfl
    refine m_sw_c ?_ ?_
    · refine e_aload_n i_M_of_102 rfl ?_
      refine e_iload_n i_M_of_103 rfl ?_
      refine e_callI (as := [.ref w, .int n1]) (st' := []) i_M_of_104 lm_218 (Or.inr (Or.inl ⟨rfl, rfl⟩)) w_M_chillOf rfl rfl rfl (Nat.le_of_ble_eq_true rfl) (Nat.le_of_ble_eq_true rfl) (m_rlt (q_M_chillOf _) (by decide)) rfl (fun v104 s104 => ?_)
      exact e_iretI i_M_of_107 rfl
    refine m_sw_c ?_ ?_
    · refine e_aload_n i_M_of_108 rfl ?_
      refine e_iload_n i_M_of_109 rfl ?_
      refine e_callI (as := [.ref w, .int n1]) (st' := []) i_M_of_110 lm_219 (Or.inr (Or.inl ⟨rfl, rfl⟩)) w_M_fineOf rfl rfl rfl (Nat.le_of_ble_eq_true rfl) (Nat.le_of_ble_eq_true rfl) (m_rlt (q_M_fineOf _) (by decide)) rfl (fun v110 s110 => ?_)
      exact e_iretI i_M_of_113 rfl
    refine m_sw_c ?_ ?_
    · refine e_aload_n i_M_of_114 rfl ?_
      refine e_iload_n i_M_of_115 rfl ?_
      refine e_callI (as := [.ref w, .int n1]) (st' := []) i_M_of_116 lm_220 (Or.inr (Or.inl ⟨rfl, rfl⟩)) w_M_sumOf rfl rfl rfl (Nat.le_of_ble_eq_true rfl) (Nat.le_of_ble_eq_true rfl) (m_rlt (q_M_sumOf _) (by decide)) rfl (fun v116 s116 => ?_)
      exact e_iretI i_M_of_119 rfl
    refine m_sw_n ?_
    refine e_ldcw (q := (1, 422, (-100000))) i_M_of_120 (by decide) rfl ?_
    exact e_iretI i_M_of_123 rfl
  · refine e_ldcw (q := (1, 422, (-100000))) i_M_of_8 (by decide) rfl ?_
    exact e_iretI i_M_of_11 rfl
theorem i_M_sumOf_0 : m_at k_M_sumOf 0 = some (.iconst 0, 1, 0) := m_at_of r_M_sumOf (by decide +kernel)
theorem i_M_sumOf_1 : m_at k_M_sumOf 1 = some (.istore_n 2, 1, 0) := m_at_of r_M_sumOf (by decide +kernel)
theorem i_M_sumOf_2 : m_at k_M_sumOf 2 = some (.iconst 0, 1, 0) := m_at_of r_M_sumOf (by decide +kernel)
theorem i_M_sumOf_3 : m_at k_M_sumOf 3 = some (.istore_n 3, 1, 0) := m_at_of r_M_sumOf (by decide +kernel)
theorem i_M_sumOf_4 : m_at k_M_sumOf 4 = some (.iload_n 3, 1, 0) := m_at_of r_M_sumOf (by decide +kernel)
theorem i_M_sumOf_5 : m_at k_M_sumOf 5 = some (.aload_n 0, 1, 0) := m_at_of r_M_sumOf (by decide +kernel)
theorem i_M_sumOf_6 : m_at k_M_sumOf 6 = some (.getfield 7, 3, 0) := m_at_of r_M_sumOf (by decide +kernel)
theorem i_M_sumOf_9 : m_at k_M_sumOf 9 = some (.bipush 11, 2, 0) := m_at_of r_M_sumOf (by decide +kernel)
theorem i_M_sumOf_11 : m_at k_M_sumOf 11 = some (.iaload, 1, 0) := m_at_of r_M_sumOf (by decide +kernel)
theorem i_M_sumOf_12 : m_at k_M_sumOf 12 = some (.if_icmp .ge (66), 3, 0) := m_at_of r_M_sumOf (by decide +kernel)
theorem i_M_sumOf_15 : m_at k_M_sumOf 15 = some (.aload_n 0, 1, 0) := m_at_of r_M_sumOf (by decide +kernel)
theorem i_M_sumOf_16 : m_at k_M_sumOf 16 = some (.iload_n 3, 1, 0) := m_at_of r_M_sumOf (by decide +kernel)
theorem i_M_sumOf_17 : m_at k_M_sumOf 17 = some (.invokevirtual 89, 3, 105) := m_at_of r_M_sumOf (by decide +kernel)
theorem i_M_sumOf_20 : m_at k_M_sumOf 20 = some (.ifCond .ne (6), 3, 0) := m_at_of r_M_sumOf (by decide +kernel)
theorem i_M_sumOf_23 : m_at k_M_sumOf 23 = some (.goto (49), 3, 0) := m_at_of r_M_sumOf (by decide +kernel)
theorem i_M_sumOf_26 : m_at k_M_sumOf 26 = some (.iload_n 2, 1, 0) := m_at_of r_M_sumOf (by decide +kernel)
theorem i_M_sumOf_27 : m_at k_M_sumOf 27 = some (.aload_n 0, 1, 0) := m_at_of r_M_sumOf (by decide +kernel)
theorem i_M_sumOf_28 : m_at k_M_sumOf 28 = some (.iload_n 3, 1, 0) := m_at_of r_M_sumOf (by decide +kernel)
theorem i_M_sumOf_29 : m_at k_M_sumOf 29 = some (.iconst 1, 1, 0) := m_at_of r_M_sumOf (by decide +kernel)
theorem i_M_sumOf_30 : m_at k_M_sumOf 30 = some (.invokevirtual 85, 3, 106) := m_at_of r_M_sumOf (by decide +kernel)
theorem i_M_sumOf_33 : m_at k_M_sumOf 33 = some (.iload_n 1, 1, 0) := m_at_of r_M_sumOf (by decide +kernel)
theorem i_M_sumOf_34 : m_at k_M_sumOf 34 = some (.if_icmp .ne (12), 3, 0) := m_at_of r_M_sumOf (by decide +kernel)
theorem i_M_sumOf_37 : m_at k_M_sumOf 37 = some (.aload_n 0, 1, 0) := m_at_of r_M_sumOf (by decide +kernel)
theorem i_M_sumOf_38 : m_at k_M_sumOf 38 = some (.iload_n 3, 1, 0) := m_at_of r_M_sumOf (by decide +kernel)
theorem i_M_sumOf_39 : m_at k_M_sumOf 39 = some (.iconst 2, 1, 0) := m_at_of r_M_sumOf (by decide +kernel)
theorem i_M_sumOf_40 : m_at k_M_sumOf 40 = some (.invokevirtual 85, 3, 106) := m_at_of r_M_sumOf (by decide +kernel)
theorem i_M_sumOf_43 : m_at k_M_sumOf 43 = some (.goto (4), 3, 0) := m_at_of r_M_sumOf (by decide +kernel)
theorem i_M_sumOf_46 : m_at k_M_sumOf 46 = some (.iconst 0, 1, 0) := m_at_of r_M_sumOf (by decide +kernel)
theorem i_M_sumOf_47 : m_at k_M_sumOf 47 = some (.iadd, 1, 0) := m_at_of r_M_sumOf (by decide +kernel)
theorem i_M_sumOf_48 : m_at k_M_sumOf 48 = some (.istore_n 2, 1, 0) := m_at_of r_M_sumOf (by decide +kernel)
theorem i_M_sumOf_49 : m_at k_M_sumOf 49 = some (.iload_n 2, 1, 0) := m_at_of r_M_sumOf (by decide +kernel)
theorem i_M_sumOf_50 : m_at k_M_sumOf 50 = some (.aload_n 0, 1, 0) := m_at_of r_M_sumOf (by decide +kernel)
theorem i_M_sumOf_51 : m_at k_M_sumOf 51 = some (.iload_n 3, 1, 0) := m_at_of r_M_sumOf (by decide +kernel)
theorem i_M_sumOf_52 : m_at k_M_sumOf 52 = some (.iconst 0, 1, 0) := m_at_of r_M_sumOf (by decide +kernel)
theorem i_M_sumOf_53 : m_at k_M_sumOf 53 = some (.invokevirtual 85, 3, 106) := m_at_of r_M_sumOf (by decide +kernel)
theorem i_M_sumOf_56 : m_at k_M_sumOf 56 = some (.iload_n 1, 1, 0) := m_at_of r_M_sumOf (by decide +kernel)
theorem i_M_sumOf_57 : m_at k_M_sumOf 57 = some (.if_icmp .ne (12), 3, 0) := m_at_of r_M_sumOf (by decide +kernel)
theorem i_M_sumOf_60 : m_at k_M_sumOf 60 = some (.aload_n 0, 1, 0) := m_at_of r_M_sumOf (by decide +kernel)
theorem i_M_sumOf_61 : m_at k_M_sumOf 61 = some (.iload_n 3, 1, 0) := m_at_of r_M_sumOf (by decide +kernel)
theorem i_M_sumOf_62 : m_at k_M_sumOf 62 = some (.iconst 2, 1, 0) := m_at_of r_M_sumOf (by decide +kernel)
theorem i_M_sumOf_63 : m_at k_M_sumOf 63 = some (.invokevirtual 85, 3, 106) := m_at_of r_M_sumOf (by decide +kernel)
theorem i_M_sumOf_66 : m_at k_M_sumOf 66 = some (.goto (4), 3, 0) := m_at_of r_M_sumOf (by decide +kernel)
theorem i_M_sumOf_69 : m_at k_M_sumOf 69 = some (.iconst 0, 1, 0) := m_at_of r_M_sumOf (by decide +kernel)
theorem i_M_sumOf_70 : m_at k_M_sumOf 70 = some (.isub, 1, 0) := m_at_of r_M_sumOf (by decide +kernel)
theorem i_M_sumOf_71 : m_at k_M_sumOf 71 = some (.istore_n 2, 1, 0) := m_at_of r_M_sumOf (by decide +kernel)
theorem i_M_sumOf_72 : m_at k_M_sumOf 72 = some (.iinc 3 (1), 3, 0) := m_at_of r_M_sumOf (by decide +kernel)
theorem i_M_sumOf_75 : m_at k_M_sumOf 75 = some (.goto (-71), 3, 0) := m_at_of r_M_sumOf (by decide +kernel)
theorem i_M_sumOf_78 : m_at k_M_sumOf 78 = some (.iload_n 2, 1, 0) := m_at_of r_M_sumOf (by decide +kernel)
theorem i_M_sumOf_79 : m_at k_M_sumOf 79 = some (.ireturn, 1, 0) := m_at_of r_M_sumOf (by decide +kernel)
set_option maxRecDepth 20000 in
set_option maxHeartbeats 1000000 in
theorem E_M_sumOf (x : m_X) (s : m_H) (w : Nat) (n1 : Int32) : m_M x k_M_sumOf [.ref w, .int n1] s = if m_isO s w 11 = true then (m_D x 3 k_M_sumOf 4 [some (.ref w), some (.int n1), some (.int 0), some (.int 0)] [] s) else none := by
  refine e_M1 (L0 := [some (.ref w), some (.int n1), none, none]) rfl (by decide +kernel) rfl (q_M_sumOf _) rfl ?_
  refine e_iconst (v := 0) i_M_sumOf_0 (by decide) ?_
  refine e_istore_n (L' := [some (.ref w), some (.int n1), some (.int 0), none]) i_M_sumOf_1 (of_decide_eq_true rfl) rfl ?_
  refine e_iconst (v := 0) i_M_sumOf_2 (by decide) ?_
  refine e_istore_n (L' := [some (.ref w), some (.int n1), some (.int 0), some (.int 0)]) i_M_sumOf_3 (of_decide_eq_true rfl) rfl ?_
  exact rfl
set_option maxRecDepth 20000 in
set_option maxHeartbeats 1000000 in
theorem E_M_sumOf_4 (x : m_X) (ρ : Nat) (hρ : 3 ≤ ρ) (s : m_H) (w : Nat) (n1 : Int32) (n2 : Int32) (n3 : Int32)  : m_D x ρ k_M_sumOf 4 [some (.ref w), some (.int n1), some (.int n2), some (.int n3)] [] s = (m_fR s 11 0 w).bind fun v6 => (m_ia x s v6 11).bind fun v11 => if v11 ≤ n3 then (some (some (.int n2), s)) else m_bI (m_M x k_M_isOpen [.ref w, .int n3] s) fun v17 s17 => if v17 = 0 then (m_D x ρ k_M_sumOf 4 [some (.ref w), some (.int n1), some (.int n2), some (.int (n3 + (1 : Int32)))] [] s17) else m_bI (m_M x k_M_get [.ref w, .int n3, .int 1] s17) fun v30 s30 => if v30 = n1 then (m_bI (m_M x k_M_get [.ref w, .int n3, .int 2] s30) fun v40 s40 => m_D x ρ k_M_sumOf 47 [some (.ref w), some (.int n1), some (.int n2), some (.int n3)] [.int v40, .int n2] s40) else m_D x ρ k_M_sumOf 47 [some (.ref w), some (.int n1), some (.int n2), some (.int n3)] [.int 0, .int n2] s30 := by
  refine e_iload_n i_M_sumOf_4 rfl ?_
  refine e_aload_n i_M_sumOf_5 rfl ?_
  refine e_getR i_M_sumOf_6 lf_0 (by decide) ft_11_0 (fun v6 => ?_)
  refine e_bipush (v := 11) i_M_sumOf_9 (by decide) ?_
  refine e_iald i_M_sumOf_11 (fun v11 => ?_)
  refine e_icmpge (t := 78) i_M_sumOf_12 (by decide) ?_ ?_
  · refine e_iload_n i_M_sumOf_78 rfl ?_
    exact e_iretI i_M_sumOf_79 rfl
  · refine e_aload_n i_M_sumOf_15 rfl ?_
    refine e_iload_n i_M_sumOf_16 rfl ?_
    refine e_callI (as := [.ref w, .int n3]) (st' := []) i_M_sumOf_17 lm_105 (Or.inr (Or.inl ⟨rfl, rfl⟩)) w_M_isOpen rfl rfl rfl (Nat.le_of_ble_eq_true rfl) (Nat.le_of_ble_eq_true rfl) (m_rlt (q_M_isOpen _) (Nat.lt_of_lt_of_le (by decide) hρ)) rfl (fun v17 s17 => ?_)
    refine e_ifne (t := 26) i_M_sumOf_20 (by decide) ?_ ?_
    · refine e_iload_n i_M_sumOf_26 rfl ?_
      refine e_aload_n i_M_sumOf_27 rfl ?_
      refine e_iload_n i_M_sumOf_28 rfl ?_
      refine e_iconst (v := 1) i_M_sumOf_29 (by decide) ?_
      refine e_callI (as := [.ref w, .int n3, .int 1]) (st' := [.int n2]) i_M_sumOf_30 lm_106 (Or.inr (Or.inl ⟨rfl, rfl⟩)) w_M_get rfl rfl rfl (Nat.le_of_ble_eq_true rfl) (Nat.le_of_ble_eq_true rfl) (m_rlt (q_M_get _) (Nat.lt_of_lt_of_le (by decide) hρ)) rfl (fun v30 s30 => ?_)
      refine e_iload_n i_M_sumOf_33 rfl ?_
      refine e_icmpne (t := 46) i_M_sumOf_34 (by decide) ?_ ?_
      · refine e_iconst (v := 0) i_M_sumOf_46 (by decide) ?_
        exact rfl
      · refine e_aload_n i_M_sumOf_37 rfl ?_
        refine e_iload_n i_M_sumOf_38 rfl ?_
        refine e_iconst (v := 2) i_M_sumOf_39 (by decide) ?_
        refine e_callI (as := [.ref w, .int n3, .int 2]) (st' := [.int n2]) i_M_sumOf_40 lm_106 (Or.inr (Or.inl ⟨rfl, rfl⟩)) w_M_get rfl rfl rfl (Nat.le_of_ble_eq_true rfl) (Nat.le_of_ble_eq_true rfl) (m_rlt (q_M_get _) (Nat.lt_of_lt_of_le (by decide) hρ)) rfl (fun v40 s40 => ?_)
        refine e_goto (t := 47) i_M_sumOf_43 (by decide) ?_
        exact rfl
    · refine e_goto (t := 72) i_M_sumOf_23 (by decide) ?_
      refine e_iinc (w := 1) (L' := [some (.ref w), some (.int n1), some (.int n2), some (.int (n3 + (1 : Int32)))]) i_M_sumOf_72 rfl (of_decide_eq_true rfl) (by decide) rfl ?_
      refine e_goto (t := 4) i_M_sumOf_75 (by decide) ?_
      exact rfl
set_option maxRecDepth 20000 in
set_option maxHeartbeats 1000000 in
theorem E_M_sumOf_47 (x : m_X) (ρ : Nat) (hρ : 3 ≤ ρ) (s : m_H) (w : Nat) (n1 : Int32) (n2 : Int32) (n3 : Int32) (nt0 : Int32) (nt1 : Int32)  : m_D x ρ k_M_sumOf 47 [some (.ref w), some (.int n1), some (.int n2), some (.int n3)] [.int nt0, .int nt1] s = m_bI (m_M x k_M_get [.ref w, .int n3, .int 0] s) fun v53 s53 => if v53 = n1 then (m_bI (m_M x k_M_get [.ref w, .int n3, .int 2] s53) fun v63 s63 => m_D x ρ k_M_sumOf 4 [some (.ref w), some (.int n1), some (.int ((nt1 + nt0) - v63)), some (.int (n3 + (1 : Int32)))] [] s63) else m_D x ρ k_M_sumOf 4 [some (.ref w), some (.int n1), some (.int ((nt1 + nt0) - (0 : Int32))), some (.int (n3 + (1 : Int32)))] [] s53 := by
  refine e_iadd i_M_sumOf_47 ?_
  refine e_istore_n (L' := [some (.ref w), some (.int n1), some (.int (nt1 + nt0)), some (.int n3)]) i_M_sumOf_48 (of_decide_eq_true rfl) rfl ?_
  refine e_iload_n i_M_sumOf_49 rfl ?_
  refine e_aload_n i_M_sumOf_50 rfl ?_
  refine e_iload_n i_M_sumOf_51 rfl ?_
  refine e_iconst (v := 0) i_M_sumOf_52 (by decide) ?_
  refine e_callI (as := [.ref w, .int n3, .int 0]) (st' := [.int (nt1 + nt0)]) i_M_sumOf_53 lm_106 (Or.inr (Or.inl ⟨rfl, rfl⟩)) w_M_get rfl rfl rfl (Nat.le_of_ble_eq_true rfl) (Nat.le_of_ble_eq_true rfl) (m_rlt (q_M_get _) (Nat.lt_of_lt_of_le (by decide) hρ)) rfl (fun v53 s53 => ?_)
  refine e_iload_n i_M_sumOf_56 rfl ?_
  refine e_icmpne (t := 69) i_M_sumOf_57 (by decide) ?_ ?_
  · refine e_iconst (v := 0) i_M_sumOf_69 (by decide) ?_
    refine e_isub i_M_sumOf_70 ?_
    refine e_istore_n (L' := [some (.ref w), some (.int n1), some (.int ((nt1 + nt0) - (0 : Int32))), some (.int n3)]) i_M_sumOf_71 (of_decide_eq_true rfl) rfl ?_
    refine e_iinc (w := 1) (L' := [some (.ref w), some (.int n1), some (.int ((nt1 + nt0) - (0 : Int32))), some (.int (n3 + (1 : Int32)))]) i_M_sumOf_72 rfl (of_decide_eq_true rfl) (by decide) rfl ?_
    refine e_goto (t := 4) i_M_sumOf_75 (by decide) ?_
    exact rfl
  · refine e_aload_n i_M_sumOf_60 rfl ?_
    refine e_iload_n i_M_sumOf_61 rfl ?_
    refine e_iconst (v := 2) i_M_sumOf_62 (by decide) ?_
    refine e_callI (as := [.ref w, .int n3, .int 2]) (st' := [.int (nt1 + nt0)]) i_M_sumOf_63 lm_106 (Or.inr (Or.inl ⟨rfl, rfl⟩)) w_M_get rfl rfl rfl (Nat.le_of_ble_eq_true rfl) (Nat.le_of_ble_eq_true rfl) (m_rlt (q_M_get _) (Nat.lt_of_lt_of_le (by decide) hρ)) rfl (fun v63 s63 => ?_)
    refine e_goto (t := 70) i_M_sumOf_66 (by decide) ?_
    refine e_isub i_M_sumOf_70 ?_
    refine e_istore_n (L' := [some (.ref w), some (.int n1), some (.int ((nt1 + nt0) - v63)), some (.int n3)]) i_M_sumOf_71 (of_decide_eq_true rfl) rfl ?_
    refine e_iinc (w := 1) (L' := [some (.ref w), some (.int n1), some (.int ((nt1 + nt0) - v63)), some (.int (n3 + (1 : Int32)))]) i_M_sumOf_72 rfl (of_decide_eq_true rfl) (by decide) rfl ?_
    refine e_goto (t := 4) i_M_sumOf_75 (by decide) ?_
    exact rfl
theorem i_M_undo_0 : m_at k_M_undo 0 = some (.aload_n 0, 1, 0) := m_at_of r_M_undo (by decide +kernel)
theorem i_M_undo_1 : m_at k_M_undo 1 = some (.getfield 7, 3, 0) := m_at_of r_M_undo (by decide +kernel)
theorem i_M_undo_4 : m_at k_M_undo 4 = some (.iconst 3, 1, 0) := m_at_of r_M_undo (by decide +kernel)
theorem i_M_undo_5 : m_at k_M_undo 5 = some (.iaload, 1, 0) := m_at_of r_M_undo (by decide +kernel)
theorem i_M_undo_6 : m_at k_M_undo 6 = some (.ifCond .ne (5), 3, 0) := m_at_of r_M_undo (by decide +kernel)
theorem i_M_undo_9 : m_at k_M_undo 9 = some (.iconst (-1), 1, 0) := m_at_of r_M_undo (by decide +kernel)
theorem i_M_undo_10 : m_at k_M_undo 10 = some (.ireturn, 1, 0) := m_at_of r_M_undo (by decide +kernel)
theorem i_M_undo_11 : m_at k_M_undo 11 = some (.aload_n 0, 1, 0) := m_at_of r_M_undo (by decide +kernel)
theorem i_M_undo_12 : m_at k_M_undo 12 = some (.getfield 7, 3, 0) := m_at_of r_M_undo (by decide +kernel)
theorem i_M_undo_15 : m_at k_M_undo 15 = some (.iconst 3, 1, 0) := m_at_of r_M_undo (by decide +kernel)
theorem i_M_undo_16 : m_at k_M_undo 16 = some (.dup2, 1, 0) := m_at_of r_M_undo (by decide +kernel)
theorem i_M_undo_17 : m_at k_M_undo 17 = some (.iaload, 1, 0) := m_at_of r_M_undo (by decide +kernel)
theorem i_M_undo_18 : m_at k_M_undo 18 = some (.iconst 1, 1, 0) := m_at_of r_M_undo (by decide +kernel)
theorem i_M_undo_19 : m_at k_M_undo 19 = some (.isub, 1, 0) := m_at_of r_M_undo (by decide +kernel)
theorem i_M_undo_20 : m_at k_M_undo 20 = some (.iastore, 1, 0) := m_at_of r_M_undo (by decide +kernel)
theorem i_M_undo_21 : m_at k_M_undo 21 = some (.sipush 180, 3, 0) := m_at_of r_M_undo (by decide +kernel)
theorem i_M_undo_24 : m_at k_M_undo 24 = some (.bipush 104, 2, 0) := m_at_of r_M_undo (by decide +kernel)
theorem i_M_undo_26 : m_at k_M_undo 26 = some (.aload_n 0, 1, 0) := m_at_of r_M_undo (by decide +kernel)
theorem i_M_undo_27 : m_at k_M_undo 27 = some (.getfield 7, 3, 0) := m_at_of r_M_undo (by decide +kernel)
theorem i_M_undo_30 : m_at k_M_undo 30 = some (.iconst 3, 1, 0) := m_at_of r_M_undo (by decide +kernel)
theorem i_M_undo_31 : m_at k_M_undo 31 = some (.iaload, 1, 0) := m_at_of r_M_undo (by decide +kernel)
theorem i_M_undo_32 : m_at k_M_undo 32 = some (.imul, 1, 0) := m_at_of r_M_undo (by decide +kernel)
theorem i_M_undo_33 : m_at k_M_undo 33 = some (.iadd, 1, 0) := m_at_of r_M_undo (by decide +kernel)
theorem i_M_undo_34 : m_at k_M_undo 34 = some (.istore_n 1, 1, 0) := m_at_of r_M_undo (by decide +kernel)
theorem i_M_undo_35 : m_at k_M_undo 35 = some (.iconst 1, 1, 0) := m_at_of r_M_undo (by decide +kernel)
theorem i_M_undo_36 : m_at k_M_undo 36 = some (.istore_n 2, 1, 0) := m_at_of r_M_undo (by decide +kernel)
theorem i_M_undo_37 : m_at k_M_undo 37 = some (.iload_n 2, 1, 0) := m_at_of r_M_undo (by decide +kernel)
theorem i_M_undo_38 : m_at k_M_undo 38 = some (.bipush 104, 2, 0) := m_at_of r_M_undo (by decide +kernel)
theorem i_M_undo_40 : m_at k_M_undo 40 = some (.if_icmp .ge (28), 3, 0) := m_at_of r_M_undo (by decide +kernel)
theorem i_M_undo_43 : m_at k_M_undo 43 = some (.aload_n 0, 1, 0) := m_at_of r_M_undo (by decide +kernel)
theorem i_M_undo_44 : m_at k_M_undo 44 = some (.getfield 7, 3, 0) := m_at_of r_M_undo (by decide +kernel)
theorem i_M_undo_47 : m_at k_M_undo 47 = some (.bipush 8, 2, 0) := m_at_of r_M_undo (by decide +kernel)
theorem i_M_undo_49 : m_at k_M_undo 49 = some (.iload_n 2, 1, 0) := m_at_of r_M_undo (by decide +kernel)
theorem i_M_undo_50 : m_at k_M_undo 50 = some (.iadd, 1, 0) := m_at_of r_M_undo (by decide +kernel)
theorem i_M_undo_51 : m_at k_M_undo 51 = some (.iconst 1, 1, 0) := m_at_of r_M_undo (by decide +kernel)
theorem i_M_undo_52 : m_at k_M_undo 52 = some (.isub, 1, 0) := m_at_of r_M_undo (by decide +kernel)
theorem i_M_undo_53 : m_at k_M_undo 53 = some (.aload_n 0, 1, 0) := m_at_of r_M_undo (by decide +kernel)
theorem i_M_undo_54 : m_at k_M_undo 54 = some (.getfield 7, 3, 0) := m_at_of r_M_undo (by decide +kernel)
theorem i_M_undo_57 : m_at k_M_undo 57 = some (.iload_n 1, 1, 0) := m_at_of r_M_undo (by decide +kernel)
theorem i_M_undo_58 : m_at k_M_undo 58 = some (.iload_n 2, 1, 0) := m_at_of r_M_undo (by decide +kernel)
theorem i_M_undo_59 : m_at k_M_undo 59 = some (.iadd, 1, 0) := m_at_of r_M_undo (by decide +kernel)
theorem i_M_undo_60 : m_at k_M_undo 60 = some (.iaload, 1, 0) := m_at_of r_M_undo (by decide +kernel)
theorem i_M_undo_61 : m_at k_M_undo 61 = some (.iastore, 1, 0) := m_at_of r_M_undo (by decide +kernel)
theorem i_M_undo_62 : m_at k_M_undo 62 = some (.iinc 2 (1), 3, 0) := m_at_of r_M_undo (by decide +kernel)
theorem i_M_undo_65 : m_at k_M_undo 65 = some (.goto (-28), 3, 0) := m_at_of r_M_undo (by decide +kernel)
theorem i_M_undo_68 : m_at k_M_undo 68 = some (.aload_n 0, 1, 0) := m_at_of r_M_undo (by decide +kernel)
theorem i_M_undo_69 : m_at k_M_undo 69 = some (.getfield 7, 3, 0) := m_at_of r_M_undo (by decide +kernel)
theorem i_M_undo_72 : m_at k_M_undo 72 = some (.iload_n 1, 1, 0) := m_at_of r_M_undo (by decide +kernel)
theorem i_M_undo_73 : m_at k_M_undo 73 = some (.iaload, 1, 0) := m_at_of r_M_undo (by decide +kernel)
theorem i_M_undo_74 : m_at k_M_undo 74 = some (.istore_n 2, 1, 0) := m_at_of r_M_undo (by decide +kernel)
theorem i_M_undo_75 : m_at k_M_undo 75 = some (.iload_n 2, 1, 0) := m_at_of r_M_undo (by decide +kernel)
theorem i_M_undo_76 : m_at k_M_undo 76 = some (.aload_n 0, 1, 0) := m_at_of r_M_undo (by decide +kernel)
theorem i_M_undo_77 : m_at k_M_undo 77 = some (.getfield 7, 3, 0) := m_at_of r_M_undo (by decide +kernel)
theorem i_M_undo_80 : m_at k_M_undo 80 = some (.iconst 0, 1, 0) := m_at_of r_M_undo (by decide +kernel)
theorem i_M_undo_81 : m_at k_M_undo 81 = some (.iaload, 1, 0) := m_at_of r_M_undo (by decide +kernel)
theorem i_M_undo_82 : m_at k_M_undo 82 = some (.if_icmp .ge (37), 3, 0) := m_at_of r_M_undo (by decide +kernel)
theorem i_M_undo_85 : m_at k_M_undo 85 = some (.aload_n 0, 1, 0) := m_at_of r_M_undo (by decide +kernel)
theorem i_M_undo_86 : m_at k_M_undo 86 = some (.getfield 7, 3, 0) := m_at_of r_M_undo (by decide +kernel)
theorem i_M_undo_89 : m_at k_M_undo 89 = some (.bipush 13, 2, 0) := m_at_of r_M_undo (by decide +kernel)
theorem i_M_undo_91 : m_at k_M_undo 91 = some (.iload_n 2, 1, 0) := m_at_of r_M_undo (by decide +kernel)
theorem i_M_undo_92 : m_at k_M_undo 92 = some (.iadd, 1, 0) := m_at_of r_M_undo (by decide +kernel)
theorem i_M_undo_93 : m_at k_M_undo 93 = some (.aload_n 0, 1, 0) := m_at_of r_M_undo (by decide +kernel)
theorem i_M_undo_94 : m_at k_M_undo 94 = some (.getfield 7, 3, 0) := m_at_of r_M_undo (by decide +kernel)
theorem i_M_undo_97 : m_at k_M_undo 97 = some (.bipush 119, 2, 0) := m_at_of r_M_undo (by decide +kernel)
theorem i_M_undo_99 : m_at k_M_undo 99 = some (.iload_n 2, 1, 0) := m_at_of r_M_undo (by decide +kernel)
theorem i_M_undo_100 : m_at k_M_undo 100 = some (.iadd, 1, 0) := m_at_of r_M_undo (by decide +kernel)
theorem i_M_undo_101 : m_at k_M_undo 101 = some (.iaload, 1, 0) := m_at_of r_M_undo (by decide +kernel)
theorem i_M_undo_102 : m_at k_M_undo 102 = some (.iastore, 1, 0) := m_at_of r_M_undo (by decide +kernel)
theorem i_M_undo_103 : m_at k_M_undo 103 = some (.aload_n 0, 1, 0) := m_at_of r_M_undo (by decide +kernel)
theorem i_M_undo_104 : m_at k_M_undo 104 = some (.getfield 7, 3, 0) := m_at_of r_M_undo (by decide +kernel)
theorem i_M_undo_107 : m_at k_M_undo 107 = some (.bipush 20, 2, 0) := m_at_of r_M_undo (by decide +kernel)
theorem i_M_undo_109 : m_at k_M_undo 109 = some (.iload_n 2, 1, 0) := m_at_of r_M_undo (by decide +kernel)
theorem i_M_undo_110 : m_at k_M_undo 110 = some (.iadd, 1, 0) := m_at_of r_M_undo (by decide +kernel)
theorem i_M_undo_111 : m_at k_M_undo 111 = some (.iconst 0, 1, 0) := m_at_of r_M_undo (by decide +kernel)
theorem i_M_undo_112 : m_at k_M_undo 112 = some (.iastore, 1, 0) := m_at_of r_M_undo (by decide +kernel)
theorem i_M_undo_113 : m_at k_M_undo 113 = some (.iinc 2 (1), 3, 0) := m_at_of r_M_undo (by decide +kernel)
theorem i_M_undo_116 : m_at k_M_undo 116 = some (.goto (-41), 3, 0) := m_at_of r_M_undo (by decide +kernel)
theorem i_M_undo_119 : m_at k_M_undo 119 = some (.aload_n 0, 1, 0) := m_at_of r_M_undo (by decide +kernel)
theorem i_M_undo_120 : m_at k_M_undo 120 = some (.getfield 7, 3, 0) := m_at_of r_M_undo (by decide +kernel)
theorem i_M_undo_123 : m_at k_M_undo 123 = some (.iconst 3, 1, 0) := m_at_of r_M_undo (by decide +kernel)
theorem i_M_undo_124 : m_at k_M_undo 124 = some (.iaload, 1, 0) := m_at_of r_M_undo (by decide +kernel)
theorem i_M_undo_125 : m_at k_M_undo 125 = some (.ireturn, 1, 0) := m_at_of r_M_undo (by decide +kernel)
set_option maxRecDepth 20000 in
set_option maxHeartbeats 1000000 in
theorem E_M_undo (x : m_X) (s : m_H) (w : Nat) : m_M x k_M_undo [.ref w] s = if m_isO s w 11 = true then ((m_fR s 11 0 w).bind fun v1 => (m_ia x s v1 3).bind fun v5 => if v5 = 0 then (some (some (.int (-1)), s)) else (m_fR s 11 0 w).bind fun v12 => (m_ia x s v12 3).bind fun v17 => (m_is s v12 3 (v17 - (1 : Int32))).bind fun s20 => (m_fR s20 11 0 w).bind fun v27 => (m_ia x s20 v27 3).bind fun v31 => m_D x 1 k_M_undo 37 [some (.ref w), some (.int ((180 : Int32) + ((104 : Int32) * v31))), some (.int 1)] [] s20) else none := by
  refine e_M1 (L0 := [some (.ref w), none, none]) rfl (by decide +kernel) rfl (q_M_undo _) rfl ?_
  refine e_aload_n i_M_undo_0 rfl ?_
  refine e_getR i_M_undo_1 lf_0 (by decide) ft_11_0 (fun v1 => ?_)
  refine e_iconst (v := 3) i_M_undo_4 (by decide) ?_
  refine e_iald i_M_undo_5 (fun v5 => ?_)
  refine e_ifne (t := 11) i_M_undo_6 (by decide) ?_ ?_
  · refine e_aload_n i_M_undo_11 rfl ?_
    refine e_getR i_M_undo_12 lf_0 (by decide) ft_11_0 (fun v12 => ?_)
    refine e_iconst (v := 3) i_M_undo_15 (by decide) ?_
    refine e_dup2 i_M_undo_16 ⟨rfl, rfl⟩ ?_
    refine e_iald i_M_undo_17 (fun v17 => ?_)
    refine e_iconst (v := 1) i_M_undo_18 (by decide) ?_
    refine e_isub i_M_undo_19 ?_
    refine e_iast i_M_undo_20 (fun s20 => ?_)
    refine e_sipush (v := 180) i_M_undo_21 (by decide) ?_
    refine e_bipush (v := 104) i_M_undo_24 (by decide) ?_
    refine e_aload_n i_M_undo_26 rfl ?_
    refine e_getR i_M_undo_27 lf_0 (by decide) ft_11_0 (fun v27 => ?_)
    refine e_iconst (v := 3) i_M_undo_30 (by decide) ?_
    refine e_iald i_M_undo_31 (fun v31 => ?_)
    refine e_imul i_M_undo_32 ?_
    refine e_iadd i_M_undo_33 ?_
    refine e_istore_n (L' := [some (.ref w), some (.int ((180 : Int32) + ((104 : Int32) * v31))), none]) i_M_undo_34 (of_decide_eq_true rfl) rfl ?_
    refine e_iconst (v := 1) i_M_undo_35 (by decide) ?_
    refine e_istore_n (L' := [some (.ref w), some (.int ((180 : Int32) + ((104 : Int32) * v31))), some (.int 1)]) i_M_undo_36 (of_decide_eq_true rfl) rfl ?_
    exact rfl
  · refine e_iconst (v := (-1)) i_M_undo_9 (by decide) ?_
    exact e_iretI i_M_undo_10 rfl
set_option maxRecDepth 20000 in
set_option maxHeartbeats 1000000 in
theorem E_M_undo_37 (x : m_X) (ρ : Nat) (hρ : 1 ≤ ρ) (s : m_H) (w : Nat) (n1 : Int32) (n2 : Int32)  : m_D x ρ k_M_undo 37 [some (.ref w), some (.int n1), some (.int n2)] [] s = if 104 ≤ n2 then ((m_fR s 11 0 w).bind fun v69 => (m_ia x s v69 n1).bind fun v73 => m_D x ρ k_M_undo 75 [some (.ref w), some (.int n1), some (.int v73)] [] s) else (m_fR s 11 0 w).bind fun v44 => (m_fR s 11 0 w).bind fun v54 => (m_ia x s v54 (n1 + n2)).bind fun v60 => (m_is s v44 (((8 : Int32) + n2) - (1 : Int32)) v60).bind fun s61 => m_D x ρ k_M_undo 37 [some (.ref w), some (.int n1), some (.int (n2 + (1 : Int32)))] [] s61 := by
  refine e_iload_n i_M_undo_37 rfl ?_
  refine e_bipush (v := 104) i_M_undo_38 (by decide) ?_
  refine e_icmpge (t := 68) i_M_undo_40 (by decide) ?_ ?_
  · refine e_aload_n i_M_undo_68 rfl ?_
    refine e_getR i_M_undo_69 lf_0 (by decide) ft_11_0 (fun v69 => ?_)
    refine e_iload_n i_M_undo_72 rfl ?_
    refine e_iald i_M_undo_73 (fun v73 => ?_)
    refine e_istore_n (L' := [some (.ref w), some (.int n1), some (.int v73)]) i_M_undo_74 (of_decide_eq_true rfl) rfl ?_
    exact rfl
  · refine e_aload_n i_M_undo_43 rfl ?_
    refine e_getR i_M_undo_44 lf_0 (by decide) ft_11_0 (fun v44 => ?_)
    refine e_bipush (v := 8) i_M_undo_47 (by decide) ?_
    refine e_iload_n i_M_undo_49 rfl ?_
    refine e_iadd i_M_undo_50 ?_
    refine e_iconst (v := 1) i_M_undo_51 (by decide) ?_
    refine e_isub i_M_undo_52 ?_
    refine e_aload_n i_M_undo_53 rfl ?_
    refine e_getR i_M_undo_54 lf_0 (by decide) ft_11_0 (fun v54 => ?_)
    refine e_iload_n i_M_undo_57 rfl ?_
    refine e_iload_n i_M_undo_58 rfl ?_
    refine e_iadd i_M_undo_59 ?_
    refine e_iald i_M_undo_60 (fun v60 => ?_)
    refine e_iast i_M_undo_61 (fun s61 => ?_)
    refine e_iinc (w := 1) (L' := [some (.ref w), some (.int n1), some (.int (n2 + (1 : Int32)))]) i_M_undo_62 rfl (of_decide_eq_true rfl) (by decide) rfl ?_
    refine e_goto (t := 37) i_M_undo_65 (by decide) ?_
    exact rfl
set_option maxRecDepth 20000 in
set_option maxHeartbeats 1000000 in
theorem E_M_undo_75 (x : m_X) (ρ : Nat) (hρ : 1 ≤ ρ) (s : m_H) (w : Nat) (n1 : Int32) (n2 : Int32)  : m_D x ρ k_M_undo 75 [some (.ref w), some (.int n1), some (.int n2)] [] s = (m_fR s 11 0 w).bind fun v77 => (m_ia x s v77 0).bind fun v81 => if v81 ≤ n2 then ((m_fR s 11 0 w).bind fun v120 => (m_ia x s v120 3).bind fun v124 => some (some (.int v124), s)) else (m_fR s 11 0 w).bind fun v86 => (m_fR s 11 0 w).bind fun v94 => (m_ia x s v94 ((119 : Int32) + n2)).bind fun v101 => (m_is s v86 ((13 : Int32) + n2) v101).bind fun s102 => (m_fR s102 11 0 w).bind fun v104 => (m_is s102 v104 ((20 : Int32) + n2) 0).bind fun s112 => m_D x ρ k_M_undo 75 [some (.ref w), some (.int n1), some (.int (n2 + (1 : Int32)))] [] s112 := by
  refine e_iload_n i_M_undo_75 rfl ?_
  refine e_aload_n i_M_undo_76 rfl ?_
  refine e_getR i_M_undo_77 lf_0 (by decide) ft_11_0 (fun v77 => ?_)
  refine e_iconst (v := 0) i_M_undo_80 (by decide) ?_
  refine e_iald i_M_undo_81 (fun v81 => ?_)
  refine e_icmpge (t := 119) i_M_undo_82 (by decide) ?_ ?_
  · refine e_aload_n i_M_undo_119 rfl ?_
    refine e_getR i_M_undo_120 lf_0 (by decide) ft_11_0 (fun v120 => ?_)
    refine e_iconst (v := 3) i_M_undo_123 (by decide) ?_
    refine e_iald i_M_undo_124 (fun v124 => ?_)
    exact e_iretI i_M_undo_125 rfl
  · refine e_aload_n i_M_undo_85 rfl ?_
    refine e_getR i_M_undo_86 lf_0 (by decide) ft_11_0 (fun v86 => ?_)
    refine e_bipush (v := 13) i_M_undo_89 (by decide) ?_
    refine e_iload_n i_M_undo_91 rfl ?_
    refine e_iadd i_M_undo_92 ?_
    refine e_aload_n i_M_undo_93 rfl ?_
    refine e_getR i_M_undo_94 lf_0 (by decide) ft_11_0 (fun v94 => ?_)
    refine e_bipush (v := 119) i_M_undo_97 (by decide) ?_
    refine e_iload_n i_M_undo_99 rfl ?_
    refine e_iadd i_M_undo_100 ?_
    refine e_iald i_M_undo_101 (fun v101 => ?_)
    refine e_iast i_M_undo_102 (fun s102 => ?_)
    refine e_aload_n i_M_undo_103 rfl ?_
    refine e_getR i_M_undo_104 lf_0 (by decide) ft_11_0 (fun v104 => ?_)
    refine e_bipush (v := 20) i_M_undo_107 (by decide) ?_
    refine e_iload_n i_M_undo_109 rfl ?_
    refine e_iadd i_M_undo_110 ?_
    refine e_iconst (v := 0) i_M_undo_111 (by decide) ?_
    refine e_iast i_M_undo_112 (fun s112 => ?_)
    refine e_iinc (w := 1) (L' := [some (.ref w), some (.int n1), some (.int (n2 + (1 : Int32)))]) i_M_undo_113 rfl (of_decide_eq_true rfl) (by decide) rfl ?_
    refine e_goto (t := 75) i_M_undo_116 (by decide) ?_
    exact rfl
theorem i_M_winters_0 : m_at k_M_winters 0 = some (.iload_n 1, 1, 0) := m_at_of r_M_winters (by decide +kernel)
theorem i_M_winters_1 : m_at k_M_winters 1 = some (.iconst 0, 1, 0) := m_at_of r_M_winters (by decide +kernel)
theorem i_M_winters_2 : m_at k_M_winters 2 = some (.sipush 9999, 3, 0) := m_at_of r_M_winters (by decide +kernel)
theorem i_M_winters_5 : m_at k_M_winters 5 = some (.invokestatic 81, 3, 96) := m_at_of r_M_winters (by decide +kernel)
theorem i_M_winters_8 : m_at k_M_winters 8 = some (.ifCond .eq (22), 3, 0) := m_at_of r_M_winters (by decide +kernel)
theorem i_M_winters_11 : m_at k_M_winters 11 = some (.iload_n 2, 1, 0) := m_at_of r_M_winters (by decide +kernel)
theorem i_M_winters_12 : m_at k_M_winters 12 = some (.iconst 1, 1, 0) := m_at_of r_M_winters (by decide +kernel)
theorem i_M_winters_13 : m_at k_M_winters 13 = some (.bipush 40, 2, 0) := m_at_of r_M_winters (by decide +kernel)
theorem i_M_winters_15 : m_at k_M_winters 15 = some (.invokestatic 81, 3, 96) := m_at_of r_M_winters (by decide +kernel)
theorem i_M_winters_18 : m_at k_M_winters 18 = some (.ifCond .eq (12), 3, 0) := m_at_of r_M_winters (by decide +kernel)
theorem i_M_winters_21 : m_at k_M_winters 21 = some (.aload_n 0, 1, 0) := m_at_of r_M_winters (by decide +kernel)
theorem i_M_winters_22 : m_at k_M_winters 22 = some (.getfield 7, 3, 0) := m_at_of r_M_winters (by decide +kernel)
theorem i_M_winters_25 : m_at k_M_winters 25 = some (.iconst 0, 1, 0) := m_at_of r_M_winters (by decide +kernel)
theorem i_M_winters_26 : m_at k_M_winters 26 = some (.iaload, 1, 0) := m_at_of r_M_winters (by decide +kernel)
theorem i_M_winters_27 : m_at k_M_winters 27 = some (.ifCond .ne (5), 3, 0) := m_at_of r_M_winters (by decide +kernel)
theorem i_M_winters_30 : m_at k_M_winters 30 = some (.iconst (-1), 1, 0) := m_at_of r_M_winters (by decide +kernel)
theorem i_M_winters_31 : m_at k_M_winters 31 = some (.ireturn, 1, 0) := m_at_of r_M_winters (by decide +kernel)
theorem i_M_winters_32 : m_at k_M_winters 32 = some (.aload_n 0, 1, 0) := m_at_of r_M_winters (by decide +kernel)
theorem i_M_winters_33 : m_at k_M_winters 33 = some (.invokevirtual 358, 3, 226) := m_at_of r_M_winters (by decide +kernel)
theorem i_M_winters_36 : m_at k_M_winters 36 = some (.aload_n 0, 1, 0) := m_at_of r_M_winters (by decide +kernel)
theorem i_M_winters_37 : m_at k_M_winters 37 = some (.getfield 7, 3, 0) := m_at_of r_M_winters (by decide +kernel)
theorem i_M_winters_40 : m_at k_M_winters 40 = some (.bipush 10, 2, 0) := m_at_of r_M_winters (by decide +kernel)
theorem i_M_winters_42 : m_at k_M_winters 42 = some (.iload_n 1, 1, 0) := m_at_of r_M_winters (by decide +kernel)
theorem i_M_winters_43 : m_at k_M_winters 43 = some (.iconst 2, 1, 0) := m_at_of r_M_winters (by decide +kernel)
theorem i_M_winters_44 : m_at k_M_winters 44 = some (.imul, 1, 0) := m_at_of r_M_winters (by decide +kernel)
theorem i_M_winters_45 : m_at k_M_winters 45 = some (.sipush 139, 3, 0) := m_at_of r_M_winters (by decide +kernel)
theorem i_M_winters_48 : m_at k_M_winters 48 = some (.iadd, 1, 0) := m_at_of r_M_winters (by decide +kernel)
theorem i_M_winters_49 : m_at k_M_winters 49 = some (.iastore, 1, 0) := m_at_of r_M_winters (by decide +kernel)
theorem i_M_winters_50 : m_at k_M_winters 50 = some (.iconst 0, 1, 0) := m_at_of r_M_winters (by decide +kernel)
theorem i_M_winters_51 : m_at k_M_winters 51 = some (.istore_n 3, 1, 0) := m_at_of r_M_winters (by decide +kernel)
theorem i_M_winters_52 : m_at k_M_winters 52 = some (.iload_n 3, 1, 0) := m_at_of r_M_winters (by decide +kernel)
theorem i_M_winters_53 : m_at k_M_winters 53 = some (.iload_n 2, 1, 0) := m_at_of r_M_winters (by decide +kernel)
theorem i_M_winters_54 : m_at k_M_winters 54 = some (.if_icmp .ge (28), 3, 0) := m_at_of r_M_winters (by decide +kernel)
theorem i_M_winters_57 : m_at k_M_winters 57 = some (.aload_n 0, 1, 0) := m_at_of r_M_winters (by decide +kernel)
theorem i_M_winters_58 : m_at k_M_winters 58 = some (.getfield 7, 3, 0) := m_at_of r_M_winters (by decide +kernel)
theorem i_M_winters_61 : m_at k_M_winters 61 = some (.bipush 10, 2, 0) := m_at_of r_M_winters (by decide +kernel)
theorem i_M_winters_63 : m_at k_M_winters 63 = some (.iaload, 1, 0) := m_at_of r_M_winters (by decide +kernel)
theorem i_M_winters_64 : m_at k_M_winters 64 = some (.istore 4, 2, 0) := m_at_of r_M_winters (by decide +kernel)
theorem i_M_winters_66 : m_at k_M_winters 66 = some (.aload_n 0, 1, 0) := m_at_of r_M_winters (by decide +kernel)
theorem i_M_winters_67 : m_at k_M_winters 67 = some (.invokevirtual 349, 3, 227) := m_at_of r_M_winters (by decide +kernel)
theorem i_M_winters_70 : m_at k_M_winters 70 = some (.aload_n 0, 1, 0) := m_at_of r_M_winters (by decide +kernel)
theorem i_M_winters_71 : m_at k_M_winters 71 = some (.iload 4, 2, 0) := m_at_of r_M_winters (by decide +kernel)
theorem i_M_winters_73 : m_at k_M_winters 73 = some (.invokevirtual 419, 3, 228) := m_at_of r_M_winters (by decide +kernel)
theorem i_M_winters_76 : m_at k_M_winters 76 = some (.iinc 3 (1), 3, 0) := m_at_of r_M_winters (by decide +kernel)
theorem i_M_winters_79 : m_at k_M_winters 79 = some (.goto (-27), 3, 0) := m_at_of r_M_winters (by decide +kernel)
theorem i_M_winters_82 : m_at k_M_winters 82 = some (.aload_n 0, 1, 0) := m_at_of r_M_winters (by decide +kernel)
theorem i_M_winters_83 : m_at k_M_winters 83 = some (.getfield 7, 3, 0) := m_at_of r_M_winters (by decide +kernel)
theorem i_M_winters_86 : m_at k_M_winters 86 = some (.bipush 8, 2, 0) := m_at_of r_M_winters (by decide +kernel)
theorem i_M_winters_88 : m_at k_M_winters 88 = some (.iaload, 1, 0) := m_at_of r_M_winters (by decide +kernel)
theorem i_M_winters_89 : m_at k_M_winters 89 = some (.ireturn, 1, 0) := m_at_of r_M_winters (by decide +kernel)
set_option maxRecDepth 20000 in
set_option maxHeartbeats 1000000 in
theorem E_M_winters (x : m_X) (s : m_H) (w : Nat) (n1 : Int32) (n2 : Int32) : m_M x k_M_winters [.ref w, .int n1, .int n2] s = if m_isO s w 11 = true then (m_bI (m_M x k_M_isIn [.int n1, .int 0, .int 9999] s) fun v5 s5 => if v5 = 0 then (some (some (.int (-1)), s5)) else m_bI (m_M x k_M_isIn [.int n2, .int 1, .int 40] s5) fun v15 s15 => if v15 = 0 then (some (some (.int (-1)), s15)) else (m_fR s15 11 0 w).bind fun v22 => (m_ia x s15 v22 0).bind fun v26 => if v26 = 0 then (some (some (.int (-1)), s15)) else m_bV (m_M x k_M_keep [.ref w] s15) fun s33 => (m_fR s33 11 0 w).bind fun v37 => (m_is s33 v37 10 ((n1 * (2 : Int32)) + (139 : Int32))).bind fun s49 => m_D x 10 k_M_winters 52 [some (.ref w), some (.int n1), some (.int n2), some (.int 0), none] [] s49) else none := by
  refine e_M1 (L0 := [some (.ref w), some (.int n1), some (.int n2), none, none]) rfl (by decide +kernel) rfl (q_M_winters _) rfl ?_
  refine e_iload_n i_M_winters_0 rfl ?_
  refine e_iconst (v := 0) i_M_winters_1 (by decide) ?_
  refine e_sipush (v := 9999) i_M_winters_2 (by decide) ?_
  refine e_callI (as := [.int n1, .int 0, .int 9999]) (st' := []) i_M_winters_5 lm_96 (Or.inl ⟨rfl, rfl⟩) w_M_isIn rfl rfl rfl (Nat.le_of_ble_eq_true rfl) (Nat.le_of_ble_eq_true rfl) (m_rlt (q_M_isIn _) (by decide)) rfl (fun v5 s5 => ?_)
  refine e_ifeq (t := 30) i_M_winters_8 (by decide) ?_ ?_
  · refine e_iconst (v := (-1)) i_M_winters_30 (by decide) ?_
    exact e_iretI i_M_winters_31 rfl
  · refine e_iload_n i_M_winters_11 rfl ?_
    refine e_iconst (v := 1) i_M_winters_12 (by decide) ?_
    refine e_bipush (v := 40) i_M_winters_13 (by decide) ?_
    refine e_callI (as := [.int n2, .int 1, .int 40]) (st' := []) i_M_winters_15 lm_96 (Or.inl ⟨rfl, rfl⟩) w_M_isIn rfl rfl rfl (Nat.le_of_ble_eq_true rfl) (Nat.le_of_ble_eq_true rfl) (m_rlt (q_M_isIn _) (by decide)) rfl (fun v15 s15 => ?_)
    refine e_ifeq (t := 30) i_M_winters_18 (by decide) ?_ ?_
    · refine e_iconst (v := (-1)) i_M_winters_30 (by decide) ?_
      exact e_iretI i_M_winters_31 rfl
    · refine e_aload_n i_M_winters_21 rfl ?_
      refine e_getR i_M_winters_22 lf_0 (by decide) ft_11_0 (fun v22 => ?_)
      refine e_iconst (v := 0) i_M_winters_25 (by decide) ?_
      refine e_iald i_M_winters_26 (fun v26 => ?_)
      refine e_ifne (t := 32) i_M_winters_27 (by decide) ?_ ?_
      · refine e_aload_n i_M_winters_32 rfl ?_
        refine e_callV (as := [.ref w]) (st' := []) i_M_winters_33 lm_226 (Or.inr (Or.inl ⟨rfl, rfl⟩)) w_M_keep rfl rfl rfl (Nat.le_of_ble_eq_true rfl) (Nat.le_of_ble_eq_true rfl) (m_rlt (q_M_keep _) (by decide)) rfl (fun s33 => ?_)
        refine e_aload_n i_M_winters_36 rfl ?_
        refine e_getR i_M_winters_37 lf_0 (by decide) ft_11_0 (fun v37 => ?_)
        refine e_bipush (v := 10) i_M_winters_40 (by decide) ?_
        refine e_iload_n i_M_winters_42 rfl ?_
        refine e_iconst (v := 2) i_M_winters_43 (by decide) ?_
        refine e_imul i_M_winters_44 ?_
        refine e_sipush (v := 139) i_M_winters_45 (by decide) ?_
        refine e_iadd i_M_winters_48 ?_
        refine e_iast i_M_winters_49 (fun s49 => ?_)
        refine e_iconst (v := 0) i_M_winters_50 (by decide) ?_
        refine e_istore_n (L' := [some (.ref w), some (.int n1), some (.int n2), some (.int 0), none]) i_M_winters_51 (of_decide_eq_true rfl) rfl ?_
        exact rfl
      · refine e_iconst (v := (-1)) i_M_winters_30 (by decide) ?_
        exact e_iretI i_M_winters_31 rfl
set_option maxRecDepth 20000 in
set_option maxHeartbeats 1000000 in
theorem E_M_winters_52 (x : m_X) (ρ : Nat) (hρ : 10 ≤ ρ) (s : m_H) (w : Nat) (n1 : Int32) (n2 : Int32) (n3 : Int32) (d4 : Option Value) (hd4 : m_nl d4 = true) : m_D x ρ k_M_winters 52 [some (.ref w), some (.int n1), some (.int n2), some (.int n3), d4] [] s = if n2 ≤ n3 then ((m_fR s 11 0 w).bind fun v83 => (m_ia x s v83 8).bind fun v88 => some (some (.int v88), s)) else (m_fR s 11 0 w).bind fun v58 => (m_ia x s v58 10).bind fun v63 => m_bV (m_M x k_M_anew [.ref w] s) fun s67 => m_bV (m_M x k_M_happens [.ref w, .int v63] s67) fun s73 => m_D x ρ k_M_winters 52 [some (.ref w), some (.int n1), some (.int n2), some (.int (n3 + (1 : Int32))), some (.int v63)] [] s73 := by
  refine e_iload_n i_M_winters_52 rfl ?_
  refine e_iload_n i_M_winters_53 rfl ?_
  refine e_icmpge (t := 82) i_M_winters_54 (by decide) ?_ ?_
  · refine e_aload_n i_M_winters_82 rfl ?_
    refine e_getR i_M_winters_83 lf_0 (by decide) ft_11_0 (fun v83 => ?_)
    refine e_bipush (v := 8) i_M_winters_86 (by decide) ?_
    refine e_iald i_M_winters_88 (fun v88 => ?_)
    exact e_iretI i_M_winters_89 rfl
  · refine e_aload_n i_M_winters_57 rfl ?_
    refine e_getR i_M_winters_58 lf_0 (by decide) ft_11_0 (fun v58 => ?_)
    refine e_bipush (v := 10) i_M_winters_61 (by decide) ?_
    refine e_iald i_M_winters_63 (fun v63 => ?_)
    refine e_istore (L' := [some (.ref w), some (.int n1), some (.int n2), some (.int n3), some (.int v63)]) i_M_winters_64 (of_decide_eq_true rfl) rfl ?_
    refine e_aload_n i_M_winters_66 rfl ?_
    refine e_callV (as := [.ref w]) (st' := []) i_M_winters_67 lm_227 (Or.inr (Or.inl ⟨rfl, rfl⟩)) w_M_anew rfl rfl rfl (Nat.le_of_ble_eq_true rfl) (Nat.le_of_ble_eq_true rfl) (m_rlt (q_M_anew _) (Nat.lt_of_lt_of_le (by decide) hρ)) rfl (fun s67 => ?_)
    refine e_aload_n i_M_winters_70 rfl ?_
    refine e_iload i_M_winters_71 rfl ?_
    refine e_callV (as := [.ref w, .int v63]) (st' := []) i_M_winters_73 lm_228 (Or.inr (Or.inl ⟨rfl, rfl⟩)) w_M_happens rfl rfl rfl (Nat.le_of_ble_eq_true rfl) (Nat.le_of_ble_eq_true rfl) (m_rlt (q_M_happens _) (Nat.lt_of_lt_of_le (by decide) hρ)) rfl (fun s73 => ?_)
    refine e_iinc (w := 1) (L' := [some (.ref w), some (.int n1), some (.int n2), some (.int (n3 + (1 : Int32))), some (.int v63)]) i_M_winters_76 rfl (of_decide_eq_true rfl) (by decide) rfl ?_
    refine e_goto (t := 52) i_M_winters_79 (by decide) ?_
    exact rfl
theorem i_M_happens_0 : m_at k_M_happens 0 = some (.iload_n 1, 1, 0) := m_at_of r_M_happens (by decide +kernel)
theorem i_M_happens_1 : m_at k_M_happens 1 = some (.aload_n 0, 1, 0) := m_at_of r_M_happens (by decide +kernel)
theorem i_M_happens_2 : m_at k_M_happens 2 = some (.getfield 7, 3, 0) := m_at_of r_M_happens (by decide +kernel)
theorem i_M_happens_5 : m_at k_M_happens 5 = some (.iconst 0, 1, 0) := m_at_of r_M_happens (by decide +kernel)
theorem i_M_happens_6 : m_at k_M_happens 6 = some (.iaload, 1, 0) := m_at_of r_M_happens (by decide +kernel)
theorem i_M_happens_7 : m_at k_M_happens 7 = some (.irem, 1, 0) := m_at_of r_M_happens (by decide +kernel)
theorem i_M_happens_8 : m_at k_M_happens 8 = some (.istore_n 2, 1, 0) := m_at_of r_M_happens (by decide +kernel)
theorem i_M_happens_9 : m_at k_M_happens 9 = some (.aload_n 0, 1, 0) := m_at_of r_M_happens (by decide +kernel)
theorem i_M_happens_10 : m_at k_M_happens 10 = some (.getfield 7, 3, 0) := m_at_of r_M_happens (by decide +kernel)
theorem i_M_happens_13 : m_at k_M_happens 13 = some (.bipush 11, 2, 0) := m_at_of r_M_happens (by decide +kernel)
theorem i_M_happens_15 : m_at k_M_happens 15 = some (.iaload, 1, 0) := m_at_of r_M_happens (by decide +kernel)
theorem i_M_happens_16 : m_at k_M_happens 16 = some (.ifCond .ne (7), 3, 0) := m_at_of r_M_happens (by decide +kernel)
theorem i_M_happens_19 : m_at k_M_happens 19 = some (.iconst (-1), 1, 0) := m_at_of r_M_happens (by decide +kernel)
theorem i_M_happens_20 : m_at k_M_happens 20 = some (.goto (12), 3, 0) := m_at_of r_M_happens (by decide +kernel)
theorem i_M_happens_23 : m_at k_M_happens 23 = some (.iload_n 1, 1, 0) := m_at_of r_M_happens (by decide +kernel)
theorem i_M_happens_24 : m_at k_M_happens 24 = some (.aload_n 0, 1, 0) := m_at_of r_M_happens (by decide +kernel)
theorem i_M_happens_25 : m_at k_M_happens 25 = some (.getfield 7, 3, 0) := m_at_of r_M_happens (by decide +kernel)
theorem i_M_happens_28 : m_at k_M_happens 28 = some (.bipush 11, 2, 0) := m_at_of r_M_happens (by decide +kernel)
theorem i_M_happens_30 : m_at k_M_happens 30 = some (.iaload, 1, 0) := m_at_of r_M_happens (by decide +kernel)
theorem i_M_happens_31 : m_at k_M_happens 31 = some (.irem, 1, 0) := m_at_of r_M_happens (by decide +kernel)
theorem i_M_happens_32 : m_at k_M_happens 32 = some (.istore_n 3, 1, 0) := m_at_of r_M_happens (by decide +kernel)
theorem i_M_happens_33 : m_at k_M_happens 33 = some (.iload_n 1, 1, 0) := m_at_of r_M_happens (by decide +kernel)
theorem i_M_happens_34 : m_at k_M_happens 34 = some (.bipush 7, 2, 0) := m_at_of r_M_happens (by decide +kernel)
theorem i_M_happens_36 : m_at k_M_happens 36 = some (.irem, 1, 0) := m_at_of r_M_happens (by decide +kernel)
theorem i_M_happens_37 : m_at k_M_happens 37 = some (.tableswitch (208) (0) (4) #[35, 87, 114, 156, 186], 35, 0) := m_at_of r_M_happens (by decide +kernel)
theorem i_M_happens_72 : m_at k_M_happens 72 = some (.aload_n 0, 1, 0) := m_at_of r_M_happens (by decide +kernel)
theorem i_M_happens_73 : m_at k_M_happens 73 = some (.iload_n 2, 1, 0) := m_at_of r_M_happens (by decide +kernel)
theorem i_M_happens_74 : m_at k_M_happens 74 = some (.iload_n 1, 1, 0) := m_at_of r_M_happens (by decide +kernel)
theorem i_M_happens_75 : m_at k_M_happens 75 = some (.bipush 7, 2, 0) := m_at_of r_M_happens (by decide +kernel)
theorem i_M_happens_77 : m_at k_M_happens 77 = some (.idiv, 1, 0) := m_at_of r_M_happens (by decide +kernel)
theorem i_M_happens_78 : m_at k_M_happens 78 = some (.aload_n 0, 1, 0) := m_at_of r_M_happens (by decide +kernel)
theorem i_M_happens_79 : m_at k_M_happens 79 = some (.getfield 7, 3, 0) := m_at_of r_M_happens (by decide +kernel)
theorem i_M_happens_82 : m_at k_M_happens 82 = some (.iconst 0, 1, 0) := m_at_of r_M_happens (by decide +kernel)
theorem i_M_happens_83 : m_at k_M_happens 83 = some (.iaload, 1, 0) := m_at_of r_M_happens (by decide +kernel)
theorem i_M_happens_84 : m_at k_M_happens 84 = some (.irem, 1, 0) := m_at_of r_M_happens (by decide +kernel)
theorem i_M_happens_85 : m_at k_M_happens 85 = some (.invokevirtual 355, 3, 229) := m_at_of r_M_happens (by decide +kernel)
theorem i_M_happens_88 : m_at k_M_happens 88 = some (.ifCond .eq (174), 3, 0) := m_at_of r_M_happens (by decide +kernel)
theorem i_M_happens_91 : m_at k_M_happens 91 = some (.aload_n 0, 1, 0) := m_at_of r_M_happens (by decide +kernel)
theorem i_M_happens_92 : m_at k_M_happens 92 = some (.iload_n 2, 1, 0) := m_at_of r_M_happens (by decide +kernel)
theorem i_M_happens_93 : m_at k_M_happens 93 = some (.iload_n 1, 1, 0) := m_at_of r_M_happens (by decide +kernel)
theorem i_M_happens_94 : m_at k_M_happens 94 = some (.bipush 7, 2, 0) := m_at_of r_M_happens (by decide +kernel)
theorem i_M_happens_96 : m_at k_M_happens 96 = some (.idiv, 1, 0) := m_at_of r_M_happens (by decide +kernel)
theorem i_M_happens_97 : m_at k_M_happens 97 = some (.aload_n 0, 1, 0) := m_at_of r_M_happens (by decide +kernel)
theorem i_M_happens_98 : m_at k_M_happens 98 = some (.getfield 7, 3, 0) := m_at_of r_M_happens (by decide +kernel)
theorem i_M_happens_101 : m_at k_M_happens 101 = some (.iconst 0, 1, 0) := m_at_of r_M_happens (by decide +kernel)
theorem i_M_happens_102 : m_at k_M_happens 102 = some (.iaload, 1, 0) := m_at_of r_M_happens (by decide +kernel)
theorem i_M_happens_103 : m_at k_M_happens 103 = some (.irem, 1, 0) := m_at_of r_M_happens (by decide +kernel)
theorem i_M_happens_104 : m_at k_M_happens 104 = some (.iconst 1, 1, 0) := m_at_of r_M_happens (by decide +kernel)
theorem i_M_happens_105 : m_at k_M_happens 105 = some (.iload_n 1, 1, 0) := m_at_of r_M_happens (by decide +kernel)
theorem i_M_happens_106 : m_at k_M_happens 106 = some (.bipush 20, 2, 0) := m_at_of r_M_happens (by decide +kernel)
theorem i_M_happens_108 : m_at k_M_happens 108 = some (.irem, 1, 0) := m_at_of r_M_happens (by decide +kernel)
theorem i_M_happens_109 : m_at k_M_happens 109 = some (.iadd, 1, 0) := m_at_of r_M_happens (by decide +kernel)
theorem i_M_happens_110 : m_at k_M_happens 110 = some (.iload_n 1, 1, 0) := m_at_of r_M_happens (by decide +kernel)
theorem i_M_happens_111 : m_at k_M_happens 111 = some (.iconst 3, 1, 0) := m_at_of r_M_happens (by decide +kernel)
theorem i_M_happens_112 : m_at k_M_happens 112 = some (.irem, 1, 0) := m_at_of r_M_happens (by decide +kernel)
theorem i_M_happens_113 : m_at k_M_happens 113 = some (.iload_n 1, 1, 0) := m_at_of r_M_happens (by decide +kernel)
theorem i_M_happens_114 : m_at k_M_happens 114 = some (.bipush 10, 2, 0) := m_at_of r_M_happens (by decide +kernel)
theorem i_M_happens_116 : m_at k_M_happens 116 = some (.irem, 1, 0) := m_at_of r_M_happens (by decide +kernel)
theorem i_M_happens_117 : m_at k_M_happens 117 = some (.invokevirtual 361, 3, 230) := m_at_of r_M_happens (by decide +kernel)
theorem i_M_happens_120 : m_at k_M_happens 120 = some (.pop, 1, 0) := m_at_of r_M_happens (by decide +kernel)
theorem i_M_happens_121 : m_at k_M_happens 121 = some (.goto (141), 3, 0) := m_at_of r_M_happens (by decide +kernel)
theorem i_M_happens_124 : m_at k_M_happens 124 = some (.iload_n 3, 1, 0) := m_at_of r_M_happens (by decide +kernel)
theorem i_M_happens_125 : m_at k_M_happens 125 = some (.iconst (-1), 1, 0) := m_at_of r_M_happens (by decide +kernel)
theorem i_M_happens_126 : m_at k_M_happens 126 = some (.if_icmp .eq (136), 3, 0) := m_at_of r_M_happens (by decide +kernel)
theorem i_M_happens_129 : m_at k_M_happens 129 = some (.aload_n 0, 1, 0) := m_at_of r_M_happens (by decide +kernel)
theorem i_M_happens_130 : m_at k_M_happens 130 = some (.iload_n 3, 1, 0) := m_at_of r_M_happens (by decide +kernel)
theorem i_M_happens_131 : m_at k_M_happens 131 = some (.invokevirtual 89, 3, 105) := m_at_of r_M_happens (by decide +kernel)
theorem i_M_happens_134 : m_at k_M_happens 134 = some (.ifCond .eq (128), 3, 0) := m_at_of r_M_happens (by decide +kernel)
theorem i_M_happens_137 : m_at k_M_happens 137 = some (.aload_n 0, 1, 0) := m_at_of r_M_happens (by decide +kernel)
theorem i_M_happens_138 : m_at k_M_happens 138 = some (.iload_n 3, 1, 0) := m_at_of r_M_happens (by decide +kernel)
theorem i_M_happens_139 : m_at k_M_happens 139 = some (.iconst 1, 1, 0) := m_at_of r_M_happens (by decide +kernel)
theorem i_M_happens_140 : m_at k_M_happens 140 = some (.iload_n 1, 1, 0) := m_at_of r_M_happens (by decide +kernel)
theorem i_M_happens_141 : m_at k_M_happens 141 = some (.bipush 9, 2, 0) := m_at_of r_M_happens (by decide +kernel)
theorem i_M_happens_143 : m_at k_M_happens 143 = some (.irem, 1, 0) := m_at_of r_M_happens (by decide +kernel)
theorem i_M_happens_144 : m_at k_M_happens 144 = some (.iadd, 1, 0) := m_at_of r_M_happens (by decide +kernel)
theorem i_M_happens_145 : m_at k_M_happens 145 = some (.invokevirtual 368, 3, 231) := m_at_of r_M_happens (by decide +kernel)
theorem i_M_happens_148 : m_at k_M_happens 148 = some (.goto (114), 3, 0) := m_at_of r_M_happens (by decide +kernel)
theorem i_M_happens_151 : m_at k_M_happens 151 = some (.iload_n 3, 1, 0) := m_at_of r_M_happens (by decide +kernel)
theorem i_M_happens_152 : m_at k_M_happens 152 = some (.iconst (-1), 1, 0) := m_at_of r_M_happens (by decide +kernel)
theorem i_M_happens_153 : m_at k_M_happens 153 = some (.if_icmp .eq (109), 3, 0) := m_at_of r_M_happens (by decide +kernel)
theorem i_M_happens_156 : m_at k_M_happens 156 = some (.aload_n 0, 1, 0) := m_at_of r_M_happens (by decide +kernel)
theorem i_M_happens_157 : m_at k_M_happens 157 = some (.iload_n 3, 1, 0) := m_at_of r_M_happens (by decide +kernel)
theorem i_M_happens_158 : m_at k_M_happens 158 = some (.iload_n 1, 1, 0) := m_at_of r_M_happens (by decide +kernel)
theorem i_M_happens_159 : m_at k_M_happens 159 = some (.iconst 5, 1, 0) := m_at_of r_M_happens (by decide +kernel)
theorem i_M_happens_160 : m_at k_M_happens 160 = some (.idiv, 1, 0) := m_at_of r_M_happens (by decide +kernel)
theorem i_M_happens_161 : m_at k_M_happens 161 = some (.aload_n 0, 1, 0) := m_at_of r_M_happens (by decide +kernel)
theorem i_M_happens_162 : m_at k_M_happens 162 = some (.getfield 7, 3, 0) := m_at_of r_M_happens (by decide +kernel)
theorem i_M_happens_165 : m_at k_M_happens 165 = some (.iconst 0, 1, 0) := m_at_of r_M_happens (by decide +kernel)
theorem i_M_happens_166 : m_at k_M_happens 166 = some (.iaload, 1, 0) := m_at_of r_M_happens (by decide +kernel)
theorem i_M_happens_167 : m_at k_M_happens 167 = some (.irem, 1, 0) := m_at_of r_M_happens (by decide +kernel)
theorem i_M_happens_168 : m_at k_M_happens 168 = some (.invokevirtual 374, 3, 232) := m_at_of r_M_happens (by decide +kernel)
theorem i_M_happens_171 : m_at k_M_happens 171 = some (.ifCond .eq (91), 3, 0) := m_at_of r_M_happens (by decide +kernel)
theorem i_M_happens_174 : m_at k_M_happens 174 = some (.aload_n 0, 1, 0) := m_at_of r_M_happens (by decide +kernel)
theorem i_M_happens_175 : m_at k_M_happens 175 = some (.iload_n 3, 1, 0) := m_at_of r_M_happens (by decide +kernel)
theorem i_M_happens_176 : m_at k_M_happens 176 = some (.iconst 1, 1, 0) := m_at_of r_M_happens (by decide +kernel)
theorem i_M_happens_177 : m_at k_M_happens 177 = some (.iload_n 1, 1, 0) := m_at_of r_M_happens (by decide +kernel)
theorem i_M_happens_178 : m_at k_M_happens 178 = some (.iconst 5, 1, 0) := m_at_of r_M_happens (by decide +kernel)
theorem i_M_happens_179 : m_at k_M_happens 179 = some (.idiv, 1, 0) := m_at_of r_M_happens (by decide +kernel)
theorem i_M_happens_180 : m_at k_M_happens 180 = some (.aload_n 0, 1, 0) := m_at_of r_M_happens (by decide +kernel)
theorem i_M_happens_181 : m_at k_M_happens 181 = some (.getfield 7, 3, 0) := m_at_of r_M_happens (by decide +kernel)
theorem i_M_happens_184 : m_at k_M_happens 184 = some (.iconst 0, 1, 0) := m_at_of r_M_happens (by decide +kernel)
theorem i_M_happens_185 : m_at k_M_happens 185 = some (.iaload, 1, 0) := m_at_of r_M_happens (by decide +kernel)
theorem i_M_happens_186 : m_at k_M_happens 186 = some (.irem, 1, 0) := m_at_of r_M_happens (by decide +kernel)
theorem i_M_happens_187 : m_at k_M_happens 187 = some (.invokevirtual 345, 3, 233) := m_at_of r_M_happens (by decide +kernel)
theorem i_M_happens_190 : m_at k_M_happens 190 = some (.goto (72), 3, 0) := m_at_of r_M_happens (by decide +kernel)
theorem i_M_happens_193 : m_at k_M_happens 193 = some (.iload_n 3, 1, 0) := m_at_of r_M_happens (by decide +kernel)
theorem i_M_happens_194 : m_at k_M_happens 194 = some (.iconst (-1), 1, 0) := m_at_of r_M_happens (by decide +kernel)
theorem i_M_happens_195 : m_at k_M_happens 195 = some (.if_icmp .eq (67), 3, 0) := m_at_of r_M_happens (by decide +kernel)
theorem i_M_happens_198 : m_at k_M_happens 198 = some (.iload_n 1, 1, 0) := m_at_of r_M_happens (by decide +kernel)
theorem i_M_happens_199 : m_at k_M_happens 199 = some (.iconst 3, 1, 0) := m_at_of r_M_happens (by decide +kernel)
theorem i_M_happens_200 : m_at k_M_happens 200 = some (.irem, 1, 0) := m_at_of r_M_happens (by decide +kernel)
theorem i_M_happens_201 : m_at k_M_happens 201 = some (.ifCond .ne (61), 3, 0) := m_at_of r_M_happens (by decide +kernel)
theorem i_M_happens_204 : m_at k_M_happens 204 = some (.aload_n 0, 1, 0) := m_at_of r_M_happens (by decide +kernel)
theorem i_M_happens_205 : m_at k_M_happens 205 = some (.iload_n 3, 1, 0) := m_at_of r_M_happens (by decide +kernel)
theorem i_M_happens_206 : m_at k_M_happens 206 = some (.invokevirtual 371, 3, 234) := m_at_of r_M_happens (by decide +kernel)
theorem i_M_happens_209 : m_at k_M_happens 209 = some (.ifCond .eq (53), 3, 0) := m_at_of r_M_happens (by decide +kernel)
theorem i_M_happens_212 : m_at k_M_happens 212 = some (.aload_n 0, 1, 0) := m_at_of r_M_happens (by decide +kernel)
theorem i_M_happens_213 : m_at k_M_happens 213 = some (.iload_n 3, 1, 0) := m_at_of r_M_happens (by decide +kernel)
theorem i_M_happens_214 : m_at k_M_happens 214 = some (.bipush 6, 2, 0) := m_at_of r_M_happens (by decide +kernel)
theorem i_M_happens_216 : m_at k_M_happens 216 = some (.iconst 2, 1, 0) := m_at_of r_M_happens (by decide +kernel)
theorem i_M_happens_217 : m_at k_M_happens 217 = some (.invokevirtual 345, 3, 233) := m_at_of r_M_happens (by decide +kernel)
theorem i_M_happens_220 : m_at k_M_happens 220 = some (.goto (42), 3, 0) := m_at_of r_M_happens (by decide +kernel)
theorem i_M_happens_223 : m_at k_M_happens 223 = some (.iload_n 3, 1, 0) := m_at_of r_M_happens (by decide +kernel)
theorem i_M_happens_224 : m_at k_M_happens 224 = some (.iconst (-1), 1, 0) := m_at_of r_M_happens (by decide +kernel)
theorem i_M_happens_225 : m_at k_M_happens 225 = some (.if_icmp .eq (37), 3, 0) := m_at_of r_M_happens (by decide +kernel)
theorem i_M_happens_228 : m_at k_M_happens 228 = some (.aload_n 0, 1, 0) := m_at_of r_M_happens (by decide +kernel)
theorem i_M_happens_229 : m_at k_M_happens 229 = some (.iload_n 3, 1, 0) := m_at_of r_M_happens (by decide +kernel)
theorem i_M_happens_230 : m_at k_M_happens 230 = some (.invokevirtual 383, 3, 235) := m_at_of r_M_happens (by decide +kernel)
theorem i_M_happens_233 : m_at k_M_happens 233 = some (.ifCond .eq (29), 3, 0) := m_at_of r_M_happens (by decide +kernel)
theorem i_M_happens_236 : m_at k_M_happens 236 = some (.aload_n 0, 1, 0) := m_at_of r_M_happens (by decide +kernel)
theorem i_M_happens_237 : m_at k_M_happens 237 = some (.iload_n 3, 1, 0) := m_at_of r_M_happens (by decide +kernel)
theorem i_M_happens_238 : m_at k_M_happens 238 = some (.invokevirtual 386, 3, 236) := m_at_of r_M_happens (by decide +kernel)
theorem i_M_happens_241 : m_at k_M_happens 241 = some (.pop, 1, 0) := m_at_of r_M_happens (by decide +kernel)
theorem i_M_happens_242 : m_at k_M_happens 242 = some (.goto (20), 3, 0) := m_at_of r_M_happens (by decide +kernel)
theorem i_M_happens_245 : m_at k_M_happens 245 = some (.aload_n 0, 1, 0) := m_at_of r_M_happens (by decide +kernel)
theorem i_M_happens_246 : m_at k_M_happens 246 = some (.getfield 7, 3, 0) := m_at_of r_M_happens (by decide +kernel)
theorem i_M_happens_249 : m_at k_M_happens 249 = some (.bipush 8, 2, 0) := m_at_of r_M_happens (by decide +kernel)
theorem i_M_happens_251 : m_at k_M_happens 251 = some (.iaload, 1, 0) := m_at_of r_M_happens (by decide +kernel)
theorem i_M_happens_252 : m_at k_M_happens 252 = some (.sipush 9999, 3, 0) := m_at_of r_M_happens (by decide +kernel)
theorem i_M_happens_255 : m_at k_M_happens 255 = some (.if_icmp .ge (7), 3, 0) := m_at_of r_M_happens (by decide +kernel)
theorem i_M_happens_258 : m_at k_M_happens 258 = some (.aload_n 0, 1, 0) := m_at_of r_M_happens (by decide +kernel)
theorem i_M_happens_259 : m_at k_M_happens 259 = some (.invokevirtual 389, 3, 208) := m_at_of r_M_happens (by decide +kernel)
theorem i_M_happens_262 : m_at k_M_happens 262 = some (.return_, 1, 0) := m_at_of r_M_happens (by decide +kernel)
set_option maxRecDepth 20000 in
set_option maxHeartbeats 1000000 in
theorem E_M_happens (x : m_X) (s : m_H) (w : Nat) (n1 : Int32) : m_M x k_M_happens [.ref w, .int n1] s = if m_isO s w 11 = true then ((m_fR s 11 0 w).bind fun v2 => (m_ia x s v2 0).bind fun v6 => if v6 = 0 then none else (m_fR s 11 0 w).bind fun v10 => (m_ia x s v10 11).bind fun v15 => if v15 = 0 then (m_D x 9 k_M_happens 32 [some (.ref w), some (.int n1), some (.int (n1 - n1 / v6 * v6)), none] [.int (-1)] s) else (m_fR s 11 0 w).bind fun v25 => (m_ia x s v25 11).bind fun v30 => if v30 = 0 then none else m_D x 9 k_M_happens 32 [some (.ref w), some (.int n1), some (.int (n1 - n1 / v6 * v6)), none] [.int (n1 - n1 / v30 * v30)] s) else none := by
  refine e_M1 (L0 := [some (.ref w), some (.int n1), none, none]) rfl (by decide +kernel) rfl (q_M_happens _) rfl ?_
  refine e_iload_n i_M_happens_0 rfl ?_
  refine e_aload_n i_M_happens_1 rfl ?_
  refine e_getR i_M_happens_2 lf_0 (by decide) ft_11_0 (fun v2 => ?_)
  refine e_iconst (v := 0) i_M_happens_5 (by decide) ?_
  refine e_iald i_M_happens_6 (fun v6 => ?_)
  refine e_irem i_M_happens_7 ?_
  refine e_istore_n (L' := [some (.ref w), some (.int n1), some (.int (n1 - n1 / v6 * v6)), none]) i_M_happens_8 (of_decide_eq_true rfl) rfl ?_
  refine e_aload_n i_M_happens_9 rfl ?_
  refine e_getR i_M_happens_10 lf_0 (by decide) ft_11_0 (fun v10 => ?_)
  refine e_bipush (v := 11) i_M_happens_13 (by decide) ?_
  refine e_iald i_M_happens_15 (fun v15 => ?_)
  refine e_ifne (t := 23) i_M_happens_16 (by decide) ?_ ?_
  · refine e_iload_n i_M_happens_23 rfl ?_
    refine e_aload_n i_M_happens_24 rfl ?_
    refine e_getR i_M_happens_25 lf_0 (by decide) ft_11_0 (fun v25 => ?_)
    refine e_bipush (v := 11) i_M_happens_28 (by decide) ?_
    refine e_iald i_M_happens_30 (fun v30 => ?_)
    refine e_irem i_M_happens_31 ?_
    exact rfl
  · refine e_iconst (v := (-1)) i_M_happens_19 (by decide) ?_
    refine e_goto (t := 32) i_M_happens_20 (by decide) ?_
    exact rfl
set_option maxRecDepth 20000 in
set_option maxHeartbeats 1000000 in
theorem E_M_happens_32 (x : m_X) (ρ : Nat) (hρ : 9 ≤ ρ) (s : m_H) (w : Nat) (n1 : Int32) (n2 : Int32) (nt0 : Int32)  : m_D x ρ k_M_happens 32 [some (.ref w), some (.int n1), some (.int n2), none] [.int nt0] s = if (n1 - n1 / (7 : Int32) * (7 : Int32)) = 0 then ((m_fR s 11 0 w).bind fun v79 => (m_ia x s v79 0).bind fun v83 => if v83 = 0 then none else m_bI (m_M x k_M_canBargain [.ref w, .int n2, .int ((n1 / (7 : Int32)) - (n1 / (7 : Int32)) / v83 * v83)] s) fun v85 s85 => if v85 = 0 then (some (none, s85)) else (m_fR s85 11 0 w).bind fun v98 => (m_ia x s85 v98 0).bind fun v102 => if v102 = 0 then none else m_bI (m_M x k_M_bargainNow [.ref w, .int n2, .int ((n1 / (7 : Int32)) - (n1 / (7 : Int32)) / v102 * v102), .int ((1 : Int32) + (n1 - n1 / (20 : Int32) * (20 : Int32))), .int (n1 - n1 / (3 : Int32) * (3 : Int32)), .int (n1 - n1 / (10 : Int32) * (10 : Int32))] s85) fun v117 s117 => some (none, s117)) else if (n1 - n1 / (7 : Int32) * (7 : Int32)) = 1 then (if nt0 = (-1) then (some (none, s)) else m_bI (m_M x k_M_isOpen [.ref w, .int nt0] s) fun v131 s131 => if v131 = 0 then (some (none, s131)) else m_bV (m_M x k_M_workNow [.ref w, .int nt0, .int ((1 : Int32) + (n1 - n1 / (9 : Int32) * (9 : Int32)))] s131) fun s145 => some (none, s145)) else if (n1 - n1 / (7 : Int32) * (7 : Int32)) = 2 then (if nt0 = (-1) then (some (none, s)) else (m_fR s 11 0 w).bind fun v162 => (m_ia x s v162 0).bind fun v166 => if v166 = 0 then none else m_bI (m_M x k_M_canPass [.ref w, .int nt0, .int ((n1 / (5 : Int32)) - (n1 / (5 : Int32)) / v166 * v166)] s) fun v168 s168 => if v168 = 0 then (some (none, s168)) else (m_fR s168 11 0 w).bind fun v181 => (m_ia x s168 v181 0).bind fun v185 => if v185 = 0 then none else m_bV (m_M x k_M_put [.ref w, .int nt0, .int 1, .int ((n1 / (5 : Int32)) - (n1 / (5 : Int32)) / v185 * v185)] s168) fun s187 => some (none, s187)) else if (n1 - n1 / (7 : Int32) * (7 : Int32)) = 3 then (if nt0 = (-1) then (some (none, s)) else if (n1 - n1 / (3 : Int32) * (3 : Int32)) = 0 then (m_bI (m_M x k_M_isOwed [.ref w, .int nt0] s) fun v206 s206 => if v206 = 0 then (some (none, s206)) else m_bV (m_M x k_M_put [.ref w, .int nt0, .int 6, .int 2] s206) fun s217 => some (none, s217)) else some (none, s)) else if (n1 - n1 / (7 : Int32) * (7 : Int32)) = 4 then (if nt0 = (-1) then (some (none, s)) else m_bI (m_M x k_M_canPledge [.ref w, .int nt0] s) fun v230 s230 => if v230 = 0 then (some (none, s230)) else m_bI (m_M x k_M_pledgeNow [.ref w, .int nt0] s230) fun v238 s238 => some (none, s238)) else (m_fR s 11 0 w).bind fun v246 => (m_ia x s v246 8).bind fun v251 => if 9999 ≤ v251 then (some (none, s)) else m_bV (m_M x k_M_goOn [.ref w] s) fun s259 => some (none, s259) := by
  refine e_istore_n (L' := [some (.ref w), some (.int n1), some (.int n2), some (.int nt0)]) i_M_happens_32 (of_decide_eq_true rfl) rfl ?_
  refine e_iload_n i_M_happens_33 rfl ?_
  refine e_bipush (v := 7) i_M_happens_34 (by decide) ?_
  refine e_iremc i_M_happens_36 (by decide) ?_
  refine e_tsw (cs := [(0, 72), (1, 124), (2, 151), (3, 193), (4, 223)]) (td := 245) i_M_happens_37 (by decide +kernel) ?_
  refine m_sw_c ?_ ?_
  · refine e_aload_n i_M_happens_72 rfl ?_
    refine e_iload_n i_M_happens_73 rfl ?_
    refine e_iload_n i_M_happens_74 rfl ?_
    refine e_bipush (v := 7) i_M_happens_75 (by decide) ?_
    refine e_idivc i_M_happens_77 (by decide) ?_
    refine e_aload_n i_M_happens_78 rfl ?_
    refine e_getR i_M_happens_79 lf_0 (by decide) ft_11_0 (fun v79 => ?_)
    refine e_iconst (v := 0) i_M_happens_82 (by decide) ?_
    refine e_iald i_M_happens_83 (fun v83 => ?_)
    refine e_irem i_M_happens_84 ?_
    refine e_callI (as := [.ref w, .int n2, .int ((n1 / (7 : Int32)) - (n1 / (7 : Int32)) / v83 * v83)]) (st' := []) i_M_happens_85 lm_229 (Or.inr (Or.inl ⟨rfl, rfl⟩)) w_M_canBargain rfl rfl rfl (Nat.le_of_ble_eq_true rfl) (Nat.le_of_ble_eq_true rfl) (m_rlt (q_M_canBargain _) (Nat.lt_of_lt_of_le (by decide) hρ)) rfl (fun v85 s85 => ?_)
    refine e_ifeq (t := 262) i_M_happens_88 (by decide) ?_ ?_
    · exact e_vret i_M_happens_262 rfl
    · refine e_aload_n i_M_happens_91 rfl ?_
      refine e_iload_n i_M_happens_92 rfl ?_
      refine e_iload_n i_M_happens_93 rfl ?_
      refine e_bipush (v := 7) i_M_happens_94 (by decide) ?_
      refine e_idivc i_M_happens_96 (by decide) ?_
      refine e_aload_n i_M_happens_97 rfl ?_
      refine e_getR i_M_happens_98 lf_0 (by decide) ft_11_0 (fun v98 => ?_)
      refine e_iconst (v := 0) i_M_happens_101 (by decide) ?_
      refine e_iald i_M_happens_102 (fun v102 => ?_)
      refine e_irem i_M_happens_103 ?_
      refine e_iconst (v := 1) i_M_happens_104 (by decide) ?_
      refine e_iload_n i_M_happens_105 rfl ?_
      refine e_bipush (v := 20) i_M_happens_106 (by decide) ?_
      refine e_iremc i_M_happens_108 (by decide) ?_
      refine e_iadd i_M_happens_109 ?_
      refine e_iload_n i_M_happens_110 rfl ?_
      refine e_iconst (v := 3) i_M_happens_111 (by decide) ?_
      refine e_iremc i_M_happens_112 (by decide) ?_
      refine e_iload_n i_M_happens_113 rfl ?_
      refine e_bipush (v := 10) i_M_happens_114 (by decide) ?_
      refine e_iremc i_M_happens_116 (by decide) ?_
      refine e_callI (as := [.ref w, .int n2, .int ((n1 / (7 : Int32)) - (n1 / (7 : Int32)) / v102 * v102), .int ((1 : Int32) + (n1 - n1 / (20 : Int32) * (20 : Int32))), .int (n1 - n1 / (3 : Int32) * (3 : Int32)), .int (n1 - n1 / (10 : Int32) * (10 : Int32))]) (st' := []) i_M_happens_117 lm_230 (Or.inr (Or.inl ⟨rfl, rfl⟩)) w_M_bargainNow rfl rfl rfl (Nat.le_of_ble_eq_true rfl) (Nat.le_of_ble_eq_true rfl) (m_rlt (q_M_bargainNow _) (Nat.lt_of_lt_of_le (by decide) hρ)) rfl (fun v117 s117 => ?_)
      refine e_pop i_M_happens_120 rfl ?_
      refine e_goto (t := 262) i_M_happens_121 (by decide) ?_
      exact e_vret i_M_happens_262 rfl
  refine m_sw_c ?_ ?_
  · refine e_iload_n i_M_happens_124 rfl ?_
    refine e_iconst (v := (-1)) i_M_happens_125 (by decide) ?_
    refine e_icmpeq (t := 262) i_M_happens_126 (by decide) ?_ ?_
    · exact e_vret i_M_happens_262 rfl
    · refine e_aload_n i_M_happens_129 rfl ?_
      refine e_iload_n i_M_happens_130 rfl ?_
      refine e_callI (as := [.ref w, .int nt0]) (st' := []) i_M_happens_131 lm_105 (Or.inr (Or.inl ⟨rfl, rfl⟩)) w_M_isOpen rfl rfl rfl (Nat.le_of_ble_eq_true rfl) (Nat.le_of_ble_eq_true rfl) (m_rlt (q_M_isOpen _) (Nat.lt_of_lt_of_le (by decide) hρ)) rfl (fun v131 s131 => ?_)
      refine e_ifeq (t := 262) i_M_happens_134 (by decide) ?_ ?_
      · exact e_vret i_M_happens_262 rfl
      · refine e_aload_n i_M_happens_137 rfl ?_
        refine e_iload_n i_M_happens_138 rfl ?_
        refine e_iconst (v := 1) i_M_happens_139 (by decide) ?_
        refine e_iload_n i_M_happens_140 rfl ?_
        refine e_bipush (v := 9) i_M_happens_141 (by decide) ?_
        refine e_iremc i_M_happens_143 (by decide) ?_
        refine e_iadd i_M_happens_144 ?_
        refine e_callV (as := [.ref w, .int nt0, .int ((1 : Int32) + (n1 - n1 / (9 : Int32) * (9 : Int32)))]) (st' := []) i_M_happens_145 lm_231 (Or.inr (Or.inl ⟨rfl, rfl⟩)) w_M_workNow rfl rfl rfl (Nat.le_of_ble_eq_true rfl) (Nat.le_of_ble_eq_true rfl) (m_rlt (q_M_workNow _) (Nat.lt_of_lt_of_le (by decide) hρ)) rfl (fun s145 => ?_)
        refine e_goto (t := 262) i_M_happens_148 (by decide) ?_
        exact e_vret i_M_happens_262 rfl
  refine m_sw_c ?_ ?_
  · refine e_iload_n i_M_happens_151 rfl ?_
    refine e_iconst (v := (-1)) i_M_happens_152 (by decide) ?_
    refine e_icmpeq (t := 262) i_M_happens_153 (by decide) ?_ ?_
    · exact e_vret i_M_happens_262 rfl
    · refine e_aload_n i_M_happens_156 rfl ?_
      refine e_iload_n i_M_happens_157 rfl ?_
      refine e_iload_n i_M_happens_158 rfl ?_
      refine e_iconst (v := 5) i_M_happens_159 (by decide) ?_
      refine e_idivc i_M_happens_160 (by decide) ?_
      refine e_aload_n i_M_happens_161 rfl ?_
      refine e_getR i_M_happens_162 lf_0 (by decide) ft_11_0 (fun v162 => ?_)
      refine e_iconst (v := 0) i_M_happens_165 (by decide) ?_
      refine e_iald i_M_happens_166 (fun v166 => ?_)
      refine e_irem i_M_happens_167 ?_
      refine e_callI (as := [.ref w, .int nt0, .int ((n1 / (5 : Int32)) - (n1 / (5 : Int32)) / v166 * v166)]) (st' := []) i_M_happens_168 lm_232 (Or.inr (Or.inl ⟨rfl, rfl⟩)) w_M_canPass rfl rfl rfl (Nat.le_of_ble_eq_true rfl) (Nat.le_of_ble_eq_true rfl) (m_rlt (q_M_canPass _) (Nat.lt_of_lt_of_le (by decide) hρ)) rfl (fun v168 s168 => ?_)
      refine e_ifeq (t := 262) i_M_happens_171 (by decide) ?_ ?_
      · exact e_vret i_M_happens_262 rfl
      · refine e_aload_n i_M_happens_174 rfl ?_
        refine e_iload_n i_M_happens_175 rfl ?_
        refine e_iconst (v := 1) i_M_happens_176 (by decide) ?_
        refine e_iload_n i_M_happens_177 rfl ?_
        refine e_iconst (v := 5) i_M_happens_178 (by decide) ?_
        refine e_idivc i_M_happens_179 (by decide) ?_
        refine e_aload_n i_M_happens_180 rfl ?_
        refine e_getR i_M_happens_181 lf_0 (by decide) ft_11_0 (fun v181 => ?_)
        refine e_iconst (v := 0) i_M_happens_184 (by decide) ?_
        refine e_iald i_M_happens_185 (fun v185 => ?_)
        refine e_irem i_M_happens_186 ?_
        refine e_callV (as := [.ref w, .int nt0, .int 1, .int ((n1 / (5 : Int32)) - (n1 / (5 : Int32)) / v185 * v185)]) (st' := []) i_M_happens_187 lm_233 (Or.inr (Or.inl ⟨rfl, rfl⟩)) w_M_put rfl rfl rfl (Nat.le_of_ble_eq_true rfl) (Nat.le_of_ble_eq_true rfl) (m_rlt (q_M_put _) (Nat.lt_of_lt_of_le (by decide) hρ)) rfl (fun s187 => ?_)
        refine e_goto (t := 262) i_M_happens_190 (by decide) ?_
        exact e_vret i_M_happens_262 rfl
  refine m_sw_c ?_ ?_
  · refine e_iload_n i_M_happens_193 rfl ?_
    refine e_iconst (v := (-1)) i_M_happens_194 (by decide) ?_
    refine e_icmpeq (t := 262) i_M_happens_195 (by decide) ?_ ?_
    · exact e_vret i_M_happens_262 rfl
    · refine e_iload_n i_M_happens_198 rfl ?_
      refine e_iconst (v := 3) i_M_happens_199 (by decide) ?_
      refine e_iremc i_M_happens_200 (by decide) ?_
      refine e_ifne (t := 262) i_M_happens_201 (by decide) ?_ ?_
      · exact e_vret i_M_happens_262 rfl
      · refine e_aload_n i_M_happens_204 rfl ?_
        refine e_iload_n i_M_happens_205 rfl ?_
        refine e_callI (as := [.ref w, .int nt0]) (st' := []) i_M_happens_206 lm_234 (Or.inr (Or.inl ⟨rfl, rfl⟩)) w_M_isOwed rfl rfl rfl (Nat.le_of_ble_eq_true rfl) (Nat.le_of_ble_eq_true rfl) (m_rlt (q_M_isOwed _) (Nat.lt_of_lt_of_le (by decide) hρ)) rfl (fun v206 s206 => ?_)
        refine e_ifeq (t := 262) i_M_happens_209 (by decide) ?_ ?_
        · exact e_vret i_M_happens_262 rfl
        · refine e_aload_n i_M_happens_212 rfl ?_
          refine e_iload_n i_M_happens_213 rfl ?_
          refine e_bipush (v := 6) i_M_happens_214 (by decide) ?_
          refine e_iconst (v := 2) i_M_happens_216 (by decide) ?_
          refine e_callV (as := [.ref w, .int nt0, .int 6, .int 2]) (st' := []) i_M_happens_217 lm_233 (Or.inr (Or.inl ⟨rfl, rfl⟩)) w_M_put rfl rfl rfl (Nat.le_of_ble_eq_true rfl) (Nat.le_of_ble_eq_true rfl) (m_rlt (q_M_put _) (Nat.lt_of_lt_of_le (by decide) hρ)) rfl (fun s217 => ?_)
          refine e_goto (t := 262) i_M_happens_220 (by decide) ?_
          exact e_vret i_M_happens_262 rfl
  refine m_sw_c ?_ ?_
  · refine e_iload_n i_M_happens_223 rfl ?_
    refine e_iconst (v := (-1)) i_M_happens_224 (by decide) ?_
    refine e_icmpeq (t := 262) i_M_happens_225 (by decide) ?_ ?_
    · exact e_vret i_M_happens_262 rfl
    · refine e_aload_n i_M_happens_228 rfl ?_
      refine e_iload_n i_M_happens_229 rfl ?_
      refine e_callI (as := [.ref w, .int nt0]) (st' := []) i_M_happens_230 lm_235 (Or.inr (Or.inl ⟨rfl, rfl⟩)) w_M_canPledge rfl rfl rfl (Nat.le_of_ble_eq_true rfl) (Nat.le_of_ble_eq_true rfl) (m_rlt (q_M_canPledge _) (Nat.lt_of_lt_of_le (by decide) hρ)) rfl (fun v230 s230 => ?_)
      refine e_ifeq (t := 262) i_M_happens_233 (by decide) ?_ ?_
      · exact e_vret i_M_happens_262 rfl
      · refine e_aload_n i_M_happens_236 rfl ?_
        refine e_iload_n i_M_happens_237 rfl ?_
        refine e_callI (as := [.ref w, .int nt0]) (st' := []) i_M_happens_238 lm_236 (Or.inr (Or.inl ⟨rfl, rfl⟩)) w_M_pledgeNow rfl rfl rfl (Nat.le_of_ble_eq_true rfl) (Nat.le_of_ble_eq_true rfl) (m_rlt (q_M_pledgeNow _) (Nat.lt_of_lt_of_le (by decide) hρ)) rfl (fun v238 s238 => ?_)
        refine e_pop i_M_happens_241 rfl ?_
        refine e_goto (t := 262) i_M_happens_242 (by decide) ?_
        exact e_vret i_M_happens_262 rfl
  refine m_sw_n ?_
  refine e_aload_n i_M_happens_245 rfl ?_
  refine e_getR i_M_happens_246 lf_0 (by decide) ft_11_0 (fun v246 => ?_)
  refine e_bipush (v := 8) i_M_happens_249 (by decide) ?_
  refine e_iald i_M_happens_251 (fun v251 => ?_)
  refine e_sipush (v := 9999) i_M_happens_252 (by decide) ?_
  refine e_icmpge (t := 262) i_M_happens_255 (by decide) ?_ ?_
  · exact e_vret i_M_happens_262 rfl
  · refine e_aload_n i_M_happens_258 rfl ?_
    refine e_callV (as := [.ref w]) (st' := []) i_M_happens_259 lm_208 (Or.inr (Or.inl ⟨rfl, rfl⟩)) w_M_goOn rfl rfl rfl (Nat.le_of_ble_eq_true rfl) (Nat.le_of_ble_eq_true rfl) (m_rlt (q_M_goOn _) (Nat.lt_of_lt_of_le (by decide) hρ)) rfl (fun s259 => ?_)
    exact e_vret i_M_happens_262 rfl
theorem i_M_played_0 : m_at k_M_played 0 = some (.iload_n 1, 1, 0) := m_at_of r_M_played (by decide +kernel)
theorem i_M_played_1 : m_at k_M_played 1 = some (.iconst 0, 1, 0) := m_at_of r_M_played (by decide +kernel)
theorem i_M_played_2 : m_at k_M_played 2 = some (.aload_n 0, 1, 0) := m_at_of r_M_played (by decide +kernel)
theorem i_M_played_3 : m_at k_M_played 3 = some (.getfield 7, 3, 0) := m_at_of r_M_played (by decide +kernel)
theorem i_M_played_6 : m_at k_M_played 6 = some (.iconst 1, 1, 0) := m_at_of r_M_played (by decide +kernel)
theorem i_M_played_7 : m_at k_M_played 7 = some (.iaload, 1, 0) := m_at_of r_M_played (by decide +kernel)
theorem i_M_played_8 : m_at k_M_played 8 = some (.iconst 1, 1, 0) := m_at_of r_M_played (by decide +kernel)
theorem i_M_played_9 : m_at k_M_played 9 = some (.isub, 1, 0) := m_at_of r_M_played (by decide +kernel)
theorem i_M_played_10 : m_at k_M_played 10 = some (.invokestatic 81, 3, 96) := m_at_of r_M_played (by decide +kernel)
theorem i_M_played_13 : m_at k_M_played 13 = some (.ifCond .ne (6), 3, 0) := m_at_of r_M_played (by decide +kernel)
theorem i_M_played_16 : m_at k_M_played 16 = some (.bipush (-2), 2, 0) := m_at_of r_M_played (by decide +kernel)
theorem i_M_played_18 : m_at k_M_played 18 = some (.ireturn, 1, 0) := m_at_of r_M_played (by decide +kernel)
theorem i_M_played_19 : m_at k_M_played 19 = some (.iconst 0, 1, 0) := m_at_of r_M_played (by decide +kernel)
theorem i_M_played_20 : m_at k_M_played 20 = some (.istore_n 2, 1, 0) := m_at_of r_M_played (by decide +kernel)
theorem i_M_played_21 : m_at k_M_played 21 = some (.iload_n 2, 1, 0) := m_at_of r_M_played (by decide +kernel)
theorem i_M_played_22 : m_at k_M_played 22 = some (.aload_n 0, 1, 0) := m_at_of r_M_played (by decide +kernel)
theorem i_M_played_23 : m_at k_M_played 23 = some (.getfield 16, 3, 79) := m_at_of r_M_played (by decide +kernel)
theorem i_M_played_26 : m_at k_M_played 26 = some (.sipush 753, 3, 0) := m_at_of r_M_played (by decide +kernel)
theorem i_M_played_29 : m_at k_M_played 29 = some (.iload_n 1, 1, 0) := m_at_of r_M_played (by decide +kernel)
theorem i_M_played_30 : m_at k_M_played 30 = some (.imul, 1, 0) := m_at_of r_M_played (by decide +kernel)
theorem i_M_played_31 : m_at k_M_played 31 = some (.iaload, 1, 0) := m_at_of r_M_played (by decide +kernel)
theorem i_M_played_32 : m_at k_M_played 32 = some (.if_icmp .ge (30), 3, 0) := m_at_of r_M_played (by decide +kernel)
theorem i_M_played_35 : m_at k_M_played 35 = some (.aload_n 0, 1, 0) := m_at_of r_M_played (by decide +kernel)
theorem i_M_played_36 : m_at k_M_played 36 = some (.sipush 753, 3, 0) := m_at_of r_M_played (by decide +kernel)
theorem i_M_played_39 : m_at k_M_played 39 = some (.iload_n 1, 1, 0) := m_at_of r_M_played (by decide +kernel)
theorem i_M_played_40 : m_at k_M_played 40 = some (.imul, 1, 0) := m_at_of r_M_played (by decide +kernel)
theorem i_M_played_41 : m_at k_M_played 41 = some (.iconst 1, 1, 0) := m_at_of r_M_played (by decide +kernel)
theorem i_M_played_42 : m_at k_M_played 42 = some (.iadd, 1, 0) := m_at_of r_M_played (by decide +kernel)
theorem i_M_played_43 : m_at k_M_played 43 = some (.bipush 6, 2, 0) := m_at_of r_M_played (by decide +kernel)
theorem i_M_played_45 : m_at k_M_played 45 = some (.iload_n 2, 1, 0) := m_at_of r_M_played (by decide +kernel)
theorem i_M_played_46 : m_at k_M_played 46 = some (.imul, 1, 0) := m_at_of r_M_played (by decide +kernel)
theorem i_M_played_47 : m_at k_M_played 47 = some (.iadd, 1, 0) := m_at_of r_M_played (by decide +kernel)
theorem i_M_played_48 : m_at k_M_played 48 = some (.invokevirtual 416, 3, 248) := m_at_of r_M_played (by decide +kernel)
theorem i_M_played_51 : m_at k_M_played 51 = some (.ifCond .ne (5), 3, 0) := m_at_of r_M_played (by decide +kernel)
theorem i_M_played_54 : m_at k_M_played 54 = some (.iload_n 2, 1, 0) := m_at_of r_M_played (by decide +kernel)
theorem i_M_played_55 : m_at k_M_played 55 = some (.ireturn, 1, 0) := m_at_of r_M_played (by decide +kernel)
theorem i_M_played_56 : m_at k_M_played 56 = some (.iinc 2 (1), 3, 0) := m_at_of r_M_played (by decide +kernel)
theorem i_M_played_59 : m_at k_M_played 59 = some (.goto (-38), 3, 0) := m_at_of r_M_played (by decide +kernel)
theorem i_M_played_62 : m_at k_M_played 62 = some (.iconst (-1), 1, 0) := m_at_of r_M_played (by decide +kernel)
theorem i_M_played_63 : m_at k_M_played 63 = some (.ireturn, 1, 0) := m_at_of r_M_played (by decide +kernel)
set_option maxRecDepth 20000 in
set_option maxHeartbeats 1000000 in
theorem E_M_played (x : m_X) (s : m_H) (w : Nat) (n1 : Int32) : m_M x k_M_played [.ref w, .int n1] s = if m_isO s w 11 = true then ((m_fR s 11 0 w).bind fun v3 => (m_ia x s v3 1).bind fun v7 => m_bI (m_M x k_M_isIn [.int n1, .int 0, .int (v7 - (1 : Int32))] s) fun v10 s10 => if v10 = 0 then (some (some (.int (-2)), s10)) else m_D x 11 k_M_played 21 [some (.ref w), some (.int n1), some (.int 0)] [] s10) else none := by
  refine e_M1 (L0 := [some (.ref w), some (.int n1), none]) rfl (by decide +kernel) rfl (q_M_played _) rfl ?_
  refine e_iload_n i_M_played_0 rfl ?_
  refine e_iconst (v := 0) i_M_played_1 (by decide) ?_
  refine e_aload_n i_M_played_2 rfl ?_
  refine e_getR i_M_played_3 lf_0 (by decide) ft_11_0 (fun v3 => ?_)
  refine e_iconst (v := 1) i_M_played_6 (by decide) ?_
  refine e_iald i_M_played_7 (fun v7 => ?_)
  refine e_iconst (v := 1) i_M_played_8 (by decide) ?_
  refine e_isub i_M_played_9 ?_
  refine e_callI (as := [.int n1, .int 0, .int (v7 - (1 : Int32))]) (st' := []) i_M_played_10 lm_96 (Or.inl ⟨rfl, rfl⟩) w_M_isIn rfl rfl rfl (Nat.le_of_ble_eq_true rfl) (Nat.le_of_ble_eq_true rfl) (m_rlt (q_M_isIn _) (by decide)) rfl (fun v10 s10 => ?_)
  refine e_ifne (t := 19) i_M_played_13 (by decide) ?_ ?_
  · refine e_iconst (v := 0) i_M_played_19 (by decide) ?_
    refine e_istore_n (L' := [some (.ref w), some (.int n1), some (.int 0)]) i_M_played_20 (of_decide_eq_true rfl) rfl ?_
    exact rfl
  · refine e_bipush (v := (-2)) i_M_played_16 (by decide) ?_
    exact e_iretI i_M_played_18 rfl
set_option maxRecDepth 20000 in
set_option maxHeartbeats 1000000 in
theorem E_M_played_21 (x : m_X) (ρ : Nat) (hρ : 11 ≤ ρ) (s : m_H) (w : Nat) (n1 : Int32) (n2 : Int32)  : m_D x ρ k_M_played 21 [some (.ref w), some (.int n1), some (.int n2)] [] s = (m_fR s 11 2 w).bind fun v23 => (m_ia x s v23 ((753 : Int32) * n1)).bind fun v31 => if v31 ≤ n2 then (some (some (.int (-1)), s)) else m_bI (m_M x k_M_isPlayed [.ref w, .int ((((753 : Int32) * n1) + (1 : Int32)) + ((6 : Int32) * n2))] s) fun v48 s48 => if v48 = 0 then (some (some (.int n2), s48)) else m_D x ρ k_M_played 21 [some (.ref w), some (.int n1), some (.int (n2 + (1 : Int32)))] [] s48 := by
  refine e_iload_n i_M_played_21 rfl ?_
  refine e_aload_n i_M_played_22 rfl ?_
  refine e_getR i_M_played_23 lf_79 (by decide) ft_11_2 (fun v23 => ?_)
  refine e_sipush (v := 753) i_M_played_26 (by decide) ?_
  refine e_iload_n i_M_played_29 rfl ?_
  refine e_imul i_M_played_30 ?_
  refine e_iald i_M_played_31 (fun v31 => ?_)
  refine e_icmpge (t := 62) i_M_played_32 (by decide) ?_ ?_
  · refine e_iconst (v := (-1)) i_M_played_62 (by decide) ?_
    exact e_iretI i_M_played_63 rfl
  · refine e_aload_n i_M_played_35 rfl ?_
    refine e_sipush (v := 753) i_M_played_36 (by decide) ?_
    refine e_iload_n i_M_played_39 rfl ?_
    refine e_imul i_M_played_40 ?_
    refine e_iconst (v := 1) i_M_played_41 (by decide) ?_
    refine e_iadd i_M_played_42 ?_
    refine e_bipush (v := 6) i_M_played_43 (by decide) ?_
    refine e_iload_n i_M_played_45 rfl ?_
    refine e_imul i_M_played_46 ?_
    refine e_iadd i_M_played_47 ?_
    refine e_callI (as := [.ref w, .int ((((753 : Int32) * n1) + (1 : Int32)) + ((6 : Int32) * n2))]) (st' := []) i_M_played_48 lm_248 (Or.inr (Or.inl ⟨rfl, rfl⟩)) w_M_isPlayed rfl rfl rfl (Nat.le_of_ble_eq_true rfl) (Nat.le_of_ble_eq_true rfl) (m_rlt (q_M_isPlayed _) (Nat.lt_of_lt_of_le (by decide) hρ)) rfl (fun v48 s48 => ?_)
    refine e_ifne (t := 56) i_M_played_51 (by decide) ?_ ?_
    · refine e_iinc (w := 1) (L' := [some (.ref w), some (.int n1), some (.int (n2 + (1 : Int32)))]) i_M_played_56 rfl (of_decide_eq_true rfl) (by decide) rfl ?_
      refine e_goto (t := 21) i_M_played_59 (by decide) ?_
      exact rfl
    · refine e_iload_n i_M_played_54 rfl ?_
      exact e_iretI i_M_played_55 rfl
theorem i_M_isPlayed_0 : m_at k_M_isPlayed 0 = some (.aload_n 0, 1, 0) := m_at_of r_M_isPlayed (by decide +kernel)
theorem i_M_isPlayed_1 : m_at k_M_isPlayed 1 = some (.getfield 16, 3, 79) := m_at_of r_M_isPlayed (by decide +kernel)
theorem i_M_isPlayed_4 : m_at k_M_isPlayed 4 = some (.iload_n 1, 1, 0) := m_at_of r_M_isPlayed (by decide +kernel)
theorem i_M_isPlayed_5 : m_at k_M_isPlayed 5 = some (.iconst 1, 1, 0) := m_at_of r_M_isPlayed (by decide +kernel)
theorem i_M_isPlayed_6 : m_at k_M_isPlayed 6 = some (.iadd, 1, 0) := m_at_of r_M_isPlayed (by decide +kernel)
theorem i_M_isPlayed_7 : m_at k_M_isPlayed 7 = some (.iaload, 1, 0) := m_at_of r_M_isPlayed (by decide +kernel)
theorem i_M_isPlayed_8 : m_at k_M_isPlayed 8 = some (.istore_n 2, 1, 0) := m_at_of r_M_isPlayed (by decide +kernel)
theorem i_M_isPlayed_9 : m_at k_M_isPlayed 9 = some (.aload_n 0, 1, 0) := m_at_of r_M_isPlayed (by decide +kernel)
theorem i_M_isPlayed_10 : m_at k_M_isPlayed 10 = some (.getfield 16, 3, 79) := m_at_of r_M_isPlayed (by decide +kernel)
theorem i_M_isPlayed_13 : m_at k_M_isPlayed 13 = some (.iload_n 1, 1, 0) := m_at_of r_M_isPlayed (by decide +kernel)
theorem i_M_isPlayed_14 : m_at k_M_isPlayed 14 = some (.iconst 2, 1, 0) := m_at_of r_M_isPlayed (by decide +kernel)
theorem i_M_isPlayed_15 : m_at k_M_isPlayed 15 = some (.iadd, 1, 0) := m_at_of r_M_isPlayed (by decide +kernel)
theorem i_M_isPlayed_16 : m_at k_M_isPlayed 16 = some (.iaload, 1, 0) := m_at_of r_M_isPlayed (by decide +kernel)
theorem i_M_isPlayed_17 : m_at k_M_isPlayed 17 = some (.istore_n 3, 1, 0) := m_at_of r_M_isPlayed (by decide +kernel)
theorem i_M_isPlayed_18 : m_at k_M_isPlayed 18 = some (.aload_n 0, 1, 0) := m_at_of r_M_isPlayed (by decide +kernel)
theorem i_M_isPlayed_19 : m_at k_M_isPlayed 19 = some (.getfield 16, 3, 79) := m_at_of r_M_isPlayed (by decide +kernel)
theorem i_M_isPlayed_22 : m_at k_M_isPlayed 22 = some (.iload_n 1, 1, 0) := m_at_of r_M_isPlayed (by decide +kernel)
theorem i_M_isPlayed_23 : m_at k_M_isPlayed 23 = some (.iaload, 1, 0) := m_at_of r_M_isPlayed (by decide +kernel)
theorem i_M_isPlayed_24 : m_at k_M_isPlayed 24 = some (.tableswitch (164) (4) (11) #[48, 63, 102, 117, 124, 130, 144, 158], 48, 0) := m_at_of r_M_isPlayed (by decide +kernel)
theorem i_M_isPlayed_72 : m_at k_M_isPlayed 72 = some (.aload_n 0, 1, 0) := m_at_of r_M_isPlayed (by decide +kernel)
theorem i_M_isPlayed_73 : m_at k_M_isPlayed 73 = some (.iload_n 2, 1, 0) := m_at_of r_M_isPlayed (by decide +kernel)
theorem i_M_isPlayed_74 : m_at k_M_isPlayed 74 = some (.iload_n 3, 1, 0) := m_at_of r_M_isPlayed (by decide +kernel)
theorem i_M_isPlayed_75 : m_at k_M_isPlayed 75 = some (.invokevirtual 395, 3, 249) := m_at_of r_M_isPlayed (by decide +kernel)
theorem i_M_isPlayed_78 : m_at k_M_isPlayed 78 = some (.ifCond .lt (7), 3, 0) := m_at_of r_M_isPlayed (by decide +kernel)
theorem i_M_isPlayed_81 : m_at k_M_isPlayed 81 = some (.iconst 1, 1, 0) := m_at_of r_M_isPlayed (by decide +kernel)
theorem i_M_isPlayed_82 : m_at k_M_isPlayed 82 = some (.goto (4), 3, 0) := m_at_of r_M_isPlayed (by decide +kernel)
theorem i_M_isPlayed_85 : m_at k_M_isPlayed 85 = some (.iconst 0, 1, 0) := m_at_of r_M_isPlayed (by decide +kernel)
theorem i_M_isPlayed_86 : m_at k_M_isPlayed 86 = some (.ireturn, 1, 0) := m_at_of r_M_isPlayed (by decide +kernel)
theorem i_M_isPlayed_87 : m_at k_M_isPlayed 87 = some (.aload_n 0, 1, 0) := m_at_of r_M_isPlayed (by decide +kernel)
theorem i_M_isPlayed_88 : m_at k_M_isPlayed 88 = some (.iload_n 2, 1, 0) := m_at_of r_M_isPlayed (by decide +kernel)
theorem i_M_isPlayed_89 : m_at k_M_isPlayed 89 = some (.iload_n 3, 1, 0) := m_at_of r_M_isPlayed (by decide +kernel)
theorem i_M_isPlayed_90 : m_at k_M_isPlayed 90 = some (.aload_n 0, 1, 0) := m_at_of r_M_isPlayed (by decide +kernel)
theorem i_M_isPlayed_91 : m_at k_M_isPlayed 91 = some (.getfield 16, 3, 79) := m_at_of r_M_isPlayed (by decide +kernel)
theorem i_M_isPlayed_94 : m_at k_M_isPlayed 94 = some (.iload_n 1, 1, 0) := m_at_of r_M_isPlayed (by decide +kernel)
theorem i_M_isPlayed_95 : m_at k_M_isPlayed 95 = some (.iconst 3, 1, 0) := m_at_of r_M_isPlayed (by decide +kernel)
theorem i_M_isPlayed_96 : m_at k_M_isPlayed 96 = some (.iadd, 1, 0) := m_at_of r_M_isPlayed (by decide +kernel)
theorem i_M_isPlayed_97 : m_at k_M_isPlayed 97 = some (.iaload, 1, 0) := m_at_of r_M_isPlayed (by decide +kernel)
theorem i_M_isPlayed_98 : m_at k_M_isPlayed 98 = some (.aload_n 0, 1, 0) := m_at_of r_M_isPlayed (by decide +kernel)
theorem i_M_isPlayed_99 : m_at k_M_isPlayed 99 = some (.getfield 16, 3, 79) := m_at_of r_M_isPlayed (by decide +kernel)
theorem i_M_isPlayed_102 : m_at k_M_isPlayed 102 = some (.iload_n 1, 1, 0) := m_at_of r_M_isPlayed (by decide +kernel)
theorem i_M_isPlayed_103 : m_at k_M_isPlayed 103 = some (.iconst 4, 1, 0) := m_at_of r_M_isPlayed (by decide +kernel)
theorem i_M_isPlayed_104 : m_at k_M_isPlayed 104 = some (.iadd, 1, 0) := m_at_of r_M_isPlayed (by decide +kernel)
theorem i_M_isPlayed_105 : m_at k_M_isPlayed 105 = some (.iaload, 1, 0) := m_at_of r_M_isPlayed (by decide +kernel)
theorem i_M_isPlayed_106 : m_at k_M_isPlayed 106 = some (.aload_n 0, 1, 0) := m_at_of r_M_isPlayed (by decide +kernel)
theorem i_M_isPlayed_107 : m_at k_M_isPlayed 107 = some (.getfield 16, 3, 79) := m_at_of r_M_isPlayed (by decide +kernel)
theorem i_M_isPlayed_110 : m_at k_M_isPlayed 110 = some (.iload_n 1, 1, 0) := m_at_of r_M_isPlayed (by decide +kernel)
theorem i_M_isPlayed_111 : m_at k_M_isPlayed 111 = some (.iconst 5, 1, 0) := m_at_of r_M_isPlayed (by decide +kernel)
theorem i_M_isPlayed_112 : m_at k_M_isPlayed 112 = some (.iadd, 1, 0) := m_at_of r_M_isPlayed (by decide +kernel)
theorem i_M_isPlayed_113 : m_at k_M_isPlayed 113 = some (.iaload, 1, 0) := m_at_of r_M_isPlayed (by decide +kernel)
theorem i_M_isPlayed_114 : m_at k_M_isPlayed 114 = some (.invokevirtual 398, 3, 250) := m_at_of r_M_isPlayed (by decide +kernel)
theorem i_M_isPlayed_117 : m_at k_M_isPlayed 117 = some (.ifCond .lt (7), 3, 0) := m_at_of r_M_isPlayed (by decide +kernel)
theorem i_M_isPlayed_120 : m_at k_M_isPlayed 120 = some (.iconst 1, 1, 0) := m_at_of r_M_isPlayed (by decide +kernel)
theorem i_M_isPlayed_121 : m_at k_M_isPlayed 121 = some (.goto (4), 3, 0) := m_at_of r_M_isPlayed (by decide +kernel)
theorem i_M_isPlayed_124 : m_at k_M_isPlayed 124 = some (.iconst 0, 1, 0) := m_at_of r_M_isPlayed (by decide +kernel)
theorem i_M_isPlayed_125 : m_at k_M_isPlayed 125 = some (.ireturn, 1, 0) := m_at_of r_M_isPlayed (by decide +kernel)
theorem i_M_isPlayed_126 : m_at k_M_isPlayed 126 = some (.aload_n 0, 1, 0) := m_at_of r_M_isPlayed (by decide +kernel)
theorem i_M_isPlayed_127 : m_at k_M_isPlayed 127 = some (.iload_n 2, 1, 0) := m_at_of r_M_isPlayed (by decide +kernel)
theorem i_M_isPlayed_128 : m_at k_M_isPlayed 128 = some (.iload_n 3, 1, 0) := m_at_of r_M_isPlayed (by decide +kernel)
theorem i_M_isPlayed_129 : m_at k_M_isPlayed 129 = some (.invokevirtual 401, 3, 251) := m_at_of r_M_isPlayed (by decide +kernel)
theorem i_M_isPlayed_132 : m_at k_M_isPlayed 132 = some (.ifCond .lt (7), 3, 0) := m_at_of r_M_isPlayed (by decide +kernel)
theorem i_M_isPlayed_135 : m_at k_M_isPlayed 135 = some (.iconst 1, 1, 0) := m_at_of r_M_isPlayed (by decide +kernel)
theorem i_M_isPlayed_136 : m_at k_M_isPlayed 136 = some (.goto (4), 3, 0) := m_at_of r_M_isPlayed (by decide +kernel)
theorem i_M_isPlayed_139 : m_at k_M_isPlayed 139 = some (.iconst 0, 1, 0) := m_at_of r_M_isPlayed (by decide +kernel)
theorem i_M_isPlayed_140 : m_at k_M_isPlayed 140 = some (.ireturn, 1, 0) := m_at_of r_M_isPlayed (by decide +kernel)
theorem i_M_isPlayed_141 : m_at k_M_isPlayed 141 = some (.aload_n 0, 1, 0) := m_at_of r_M_isPlayed (by decide +kernel)
theorem i_M_isPlayed_142 : m_at k_M_isPlayed 142 = some (.iload_n 2, 1, 0) := m_at_of r_M_isPlayed (by decide +kernel)
theorem i_M_isPlayed_143 : m_at k_M_isPlayed 143 = some (.iload_n 3, 1, 0) := m_at_of r_M_isPlayed (by decide +kernel)
theorem i_M_isPlayed_144 : m_at k_M_isPlayed 144 = some (.invokevirtual 404, 3, 252) := m_at_of r_M_isPlayed (by decide +kernel)
theorem i_M_isPlayed_147 : m_at k_M_isPlayed 147 = some (.ireturn, 1, 0) := m_at_of r_M_isPlayed (by decide +kernel)
theorem i_M_isPlayed_148 : m_at k_M_isPlayed 148 = some (.aload_n 0, 1, 0) := m_at_of r_M_isPlayed (by decide +kernel)
theorem i_M_isPlayed_149 : m_at k_M_isPlayed 149 = some (.iload_n 2, 1, 0) := m_at_of r_M_isPlayed (by decide +kernel)
theorem i_M_isPlayed_150 : m_at k_M_isPlayed 150 = some (.invokevirtual 407, 3, 253) := m_at_of r_M_isPlayed (by decide +kernel)
theorem i_M_isPlayed_153 : m_at k_M_isPlayed 153 = some (.ireturn, 1, 0) := m_at_of r_M_isPlayed (by decide +kernel)
theorem i_M_isPlayed_154 : m_at k_M_isPlayed 154 = some (.aload_n 0, 1, 0) := m_at_of r_M_isPlayed (by decide +kernel)
theorem i_M_isPlayed_155 : m_at k_M_isPlayed 155 = some (.iload_n 2, 1, 0) := m_at_of r_M_isPlayed (by decide +kernel)
theorem i_M_isPlayed_156 : m_at k_M_isPlayed 156 = some (.invokevirtual 410, 3, 254) := m_at_of r_M_isPlayed (by decide +kernel)
theorem i_M_isPlayed_159 : m_at k_M_isPlayed 159 = some (.ifCond .lt (7), 3, 0) := m_at_of r_M_isPlayed (by decide +kernel)
theorem i_M_isPlayed_162 : m_at k_M_isPlayed 162 = some (.iconst 1, 1, 0) := m_at_of r_M_isPlayed (by decide +kernel)
theorem i_M_isPlayed_163 : m_at k_M_isPlayed 163 = some (.goto (4), 3, 0) := m_at_of r_M_isPlayed (by decide +kernel)
theorem i_M_isPlayed_166 : m_at k_M_isPlayed 166 = some (.iconst 0, 1, 0) := m_at_of r_M_isPlayed (by decide +kernel)
theorem i_M_isPlayed_167 : m_at k_M_isPlayed 167 = some (.ireturn, 1, 0) := m_at_of r_M_isPlayed (by decide +kernel)
theorem i_M_isPlayed_168 : m_at k_M_isPlayed 168 = some (.aload_n 0, 1, 0) := m_at_of r_M_isPlayed (by decide +kernel)
theorem i_M_isPlayed_169 : m_at k_M_isPlayed 169 = some (.iload_n 2, 1, 0) := m_at_of r_M_isPlayed (by decide +kernel)
theorem i_M_isPlayed_170 : m_at k_M_isPlayed 170 = some (.invokevirtual 413, 3, 255) := m_at_of r_M_isPlayed (by decide +kernel)
theorem i_M_isPlayed_173 : m_at k_M_isPlayed 173 = some (.ifCond .lt (7), 3, 0) := m_at_of r_M_isPlayed (by decide +kernel)
theorem i_M_isPlayed_176 : m_at k_M_isPlayed 176 = some (.iconst 1, 1, 0) := m_at_of r_M_isPlayed (by decide +kernel)
theorem i_M_isPlayed_177 : m_at k_M_isPlayed 177 = some (.goto (4), 3, 0) := m_at_of r_M_isPlayed (by decide +kernel)
theorem i_M_isPlayed_180 : m_at k_M_isPlayed 180 = some (.iconst 0, 1, 0) := m_at_of r_M_isPlayed (by decide +kernel)
theorem i_M_isPlayed_181 : m_at k_M_isPlayed 181 = some (.ireturn, 1, 0) := m_at_of r_M_isPlayed (by decide +kernel)
theorem i_M_isPlayed_182 : m_at k_M_isPlayed 182 = some (.aload_n 0, 1, 0) := m_at_of r_M_isPlayed (by decide +kernel)
theorem i_M_isPlayed_183 : m_at k_M_isPlayed 183 = some (.iload_n 2, 1, 0) := m_at_of r_M_isPlayed (by decide +kernel)
theorem i_M_isPlayed_184 : m_at k_M_isPlayed 184 = some (.invokevirtual 392, 3, 256) := m_at_of r_M_isPlayed (by decide +kernel)
theorem i_M_isPlayed_187 : m_at k_M_isPlayed 187 = some (.ireturn, 1, 0) := m_at_of r_M_isPlayed (by decide +kernel)
theorem i_M_isPlayed_188 : m_at k_M_isPlayed 188 = some (.iconst 1, 1, 0) := m_at_of r_M_isPlayed (by decide +kernel)
theorem i_M_isPlayed_189 : m_at k_M_isPlayed 189 = some (.ireturn, 1, 0) := m_at_of r_M_isPlayed (by decide +kernel)
set_option maxRecDepth 20000 in
set_option maxHeartbeats 1000000 in
theorem E_M_isPlayed (x : m_X) (s : m_H) (w : Nat) (n1 : Int32) : m_M x k_M_isPlayed [.ref w, .int n1] s = if m_isO s w 11 = true then ((m_fR s 11 2 w).bind fun v1 => (m_ia x s v1 (n1 + (1 : Int32))).bind fun v7 => (m_fR s 11 2 w).bind fun v10 => (m_ia x s v10 (n1 + (2 : Int32))).bind fun v16 => (m_fR s 11 2 w).bind fun v19 => (m_ia x s v19 n1).bind fun v23 => if v23 = 4 then (m_bI (m_M x k_M_one [.ref w, .int v7, .int v16] s) fun v75 s75 => if v75 < 0 then (some (some (.int 0), s75)) else some (some (.int 1), s75)) else if v23 = 5 then ((m_fR s 11 2 w).bind fun v91 => (m_ia x s v91 (n1 + (3 : Int32))).bind fun v97 => (m_fR s 11 2 w).bind fun v99 => (m_ia x s v99 (n1 + (4 : Int32))).bind fun v105 => (m_fR s 11 2 w).bind fun v107 => (m_ia x s v107 (n1 + (5 : Int32))).bind fun v113 => m_bI (m_M x k_M_bargain [.ref w, .int v7, .int v16, .int v97, .int v105, .int v113] s) fun v114 s114 => if v114 < 0 then (some (some (.int 0), s114)) else some (some (.int 1), s114)) else if v23 = 6 then (m_bI (m_M x k_M_work [.ref w, .int v7, .int v16] s) fun v129 s129 => if v129 < 0 then (some (some (.int 0), s129)) else some (some (.int 1), s129)) else if v23 = 7 then (m_bI (m_M x k_M_pass [.ref w, .int v7, .int v16] s) fun v144 s144 => if m_rk (some .boolean) (some (.int v144)) = true then some (some (.int v144), s144) else none) else if v23 = 8 then (m_bI (m_M x k_M_lose [.ref w, .int v7] s) fun v150 s150 => if m_rk (some .boolean) (some (.int v150)) = true then some (some (.int v150), s150) else none) else if v23 = 9 then (m_bI (m_M x k_M_pledge [.ref w, .int v7] s) fun v156 s156 => if v156 < 0 then (some (some (.int 0), s156)) else some (some (.int 1), s156)) else if v23 = 10 then (m_bI (m_M x k_M_redeem [.ref w, .int v7] s) fun v170 s170 => if v170 < 0 then (some (some (.int 0), s170)) else some (some (.int 1), s170)) else if v23 = 11 then (m_bI (m_M x k_M_arePassed [.ref w, .int v7] s) fun v184 s184 => if m_rk (some .boolean) (some (.int v184)) = true then some (some (.int v184), s184) else none) else some (some (.int 1), s)) else none := by
  refine e_M1 (L0 := [some (.ref w), some (.int n1), none, none]) rfl (by decide +kernel) rfl (q_M_isPlayed _) rfl ?_
  refine e_aload_n i_M_isPlayed_0 rfl ?_
  refine e_getR i_M_isPlayed_1 lf_79 (by decide) ft_11_2 (fun v1 => ?_)
  refine e_iload_n i_M_isPlayed_4 rfl ?_
  refine e_iconst (v := 1) i_M_isPlayed_5 (by decide) ?_
  refine e_iadd i_M_isPlayed_6 ?_
  refine e_iald i_M_isPlayed_7 (fun v7 => ?_)
  refine e_istore_n (L' := [some (.ref w), some (.int n1), some (.int v7), none]) i_M_isPlayed_8 (of_decide_eq_true rfl) rfl ?_
  refine e_aload_n i_M_isPlayed_9 rfl ?_
  refine e_getR i_M_isPlayed_10 lf_79 (by decide) ft_11_2 (fun v10 => ?_)
  refine e_iload_n i_M_isPlayed_13 rfl ?_
  refine e_iconst (v := 2) i_M_isPlayed_14 (by decide) ?_
  refine e_iadd i_M_isPlayed_15 ?_
  refine e_iald i_M_isPlayed_16 (fun v16 => ?_)
  refine e_istore_n (L' := [some (.ref w), some (.int n1), some (.int v7), some (.int v16)]) i_M_isPlayed_17 (of_decide_eq_true rfl) rfl ?_
  refine e_aload_n i_M_isPlayed_18 rfl ?_
  refine e_getR i_M_isPlayed_19 lf_79 (by decide) ft_11_2 (fun v19 => ?_)
  refine e_iload_n i_M_isPlayed_22 rfl ?_
  refine e_iald i_M_isPlayed_23 (fun v23 => ?_)
  refine e_tsw (cs := [(4, 72), (5, 87), (6, 126), (7, 141), (8, 148), (9, 154), (10, 168), (11, 182)]) (td := 188) i_M_isPlayed_24 (by decide +kernel) ?_
  refine m_sw_c ?_ ?_
  · refine e_aload_n i_M_isPlayed_72 rfl ?_
    refine e_iload_n i_M_isPlayed_73 rfl ?_
    refine e_iload_n i_M_isPlayed_74 rfl ?_
    refine e_callI (as := [.ref w, .int v7, .int v16]) (st' := []) i_M_isPlayed_75 lm_249 (Or.inr (Or.inl ⟨rfl, rfl⟩)) w_M_one rfl rfl rfl (Nat.le_of_ble_eq_true rfl) (Nat.le_of_ble_eq_true rfl) (m_rlt (q_M_one _) (by decide)) rfl (fun v75 s75 => ?_)
    refine e_iflt (t := 85) i_M_isPlayed_78 (by decide) ?_ ?_
    · refine e_iconst (v := 0) i_M_isPlayed_85 (by decide) ?_
      exact e_iretZ i_M_isPlayed_86 rfl (by decide)
    · refine e_iconst (v := 1) i_M_isPlayed_81 (by decide) ?_
      refine e_goto (t := 86) i_M_isPlayed_82 (by decide) ?_
      exact e_iretZ i_M_isPlayed_86 rfl (by decide)
  refine m_sw_c ?_ ?_
  · refine e_aload_n i_M_isPlayed_87 rfl ?_
    refine e_iload_n i_M_isPlayed_88 rfl ?_
    refine e_iload_n i_M_isPlayed_89 rfl ?_
    refine e_aload_n i_M_isPlayed_90 rfl ?_
    refine e_getR i_M_isPlayed_91 lf_79 (by decide) ft_11_2 (fun v91 => ?_)
    refine e_iload_n i_M_isPlayed_94 rfl ?_
    refine e_iconst (v := 3) i_M_isPlayed_95 (by decide) ?_
    refine e_iadd i_M_isPlayed_96 ?_
    refine e_iald i_M_isPlayed_97 (fun v97 => ?_)
    refine e_aload_n i_M_isPlayed_98 rfl ?_
    refine e_getR i_M_isPlayed_99 lf_79 (by decide) ft_11_2 (fun v99 => ?_)
    refine e_iload_n i_M_isPlayed_102 rfl ?_
    refine e_iconst (v := 4) i_M_isPlayed_103 (by decide) ?_
    refine e_iadd i_M_isPlayed_104 ?_
    refine e_iald i_M_isPlayed_105 (fun v105 => ?_)
    refine e_aload_n i_M_isPlayed_106 rfl ?_
    refine e_getR i_M_isPlayed_107 lf_79 (by decide) ft_11_2 (fun v107 => ?_)
    refine e_iload_n i_M_isPlayed_110 rfl ?_
    refine e_iconst (v := 5) i_M_isPlayed_111 (by decide) ?_
    refine e_iadd i_M_isPlayed_112 ?_
    refine e_iald i_M_isPlayed_113 (fun v113 => ?_)
    refine e_callI (as := [.ref w, .int v7, .int v16, .int v97, .int v105, .int v113]) (st' := []) i_M_isPlayed_114 lm_250 (Or.inr (Or.inl ⟨rfl, rfl⟩)) w_M_bargain rfl rfl rfl (Nat.le_of_ble_eq_true rfl) (Nat.le_of_ble_eq_true rfl) (m_rlt (q_M_bargain _) (by decide)) rfl (fun v114 s114 => ?_)
    refine e_iflt (t := 124) i_M_isPlayed_117 (by decide) ?_ ?_
    · refine e_iconst (v := 0) i_M_isPlayed_124 (by decide) ?_
      exact e_iretZ i_M_isPlayed_125 rfl (by decide)
    · refine e_iconst (v := 1) i_M_isPlayed_120 (by decide) ?_
      refine e_goto (t := 125) i_M_isPlayed_121 (by decide) ?_
      exact e_iretZ i_M_isPlayed_125 rfl (by decide)
  refine m_sw_c ?_ ?_
  · refine e_aload_n i_M_isPlayed_126 rfl ?_
    refine e_iload_n i_M_isPlayed_127 rfl ?_
    refine e_iload_n i_M_isPlayed_128 rfl ?_
    refine e_callI (as := [.ref w, .int v7, .int v16]) (st' := []) i_M_isPlayed_129 lm_251 (Or.inr (Or.inl ⟨rfl, rfl⟩)) w_M_work rfl rfl rfl (Nat.le_of_ble_eq_true rfl) (Nat.le_of_ble_eq_true rfl) (m_rlt (q_M_work _) (by decide)) rfl (fun v129 s129 => ?_)
    refine e_iflt (t := 139) i_M_isPlayed_132 (by decide) ?_ ?_
    · refine e_iconst (v := 0) i_M_isPlayed_139 (by decide) ?_
      exact e_iretZ i_M_isPlayed_140 rfl (by decide)
    · refine e_iconst (v := 1) i_M_isPlayed_135 (by decide) ?_
      refine e_goto (t := 140) i_M_isPlayed_136 (by decide) ?_
      exact e_iretZ i_M_isPlayed_140 rfl (by decide)
  refine m_sw_c ?_ ?_
  · refine e_aload_n i_M_isPlayed_141 rfl ?_
    refine e_iload_n i_M_isPlayed_142 rfl ?_
    refine e_iload_n i_M_isPlayed_143 rfl ?_
    refine e_callI (as := [.ref w, .int v7, .int v16]) (st' := []) i_M_isPlayed_144 lm_252 (Or.inr (Or.inl ⟨rfl, rfl⟩)) w_M_pass rfl rfl rfl (Nat.le_of_ble_eq_true rfl) (Nat.le_of_ble_eq_true rfl) (m_rlt (q_M_pass _) (by decide)) rfl (fun v144 s144 => ?_)
    exact e_iretG i_M_isPlayed_147 rfl
  refine m_sw_c ?_ ?_
  · refine e_aload_n i_M_isPlayed_148 rfl ?_
    refine e_iload_n i_M_isPlayed_149 rfl ?_
    refine e_callI (as := [.ref w, .int v7]) (st' := []) i_M_isPlayed_150 lm_253 (Or.inr (Or.inl ⟨rfl, rfl⟩)) w_M_lose rfl rfl rfl (Nat.le_of_ble_eq_true rfl) (Nat.le_of_ble_eq_true rfl) (m_rlt (q_M_lose _) (by decide)) rfl (fun v150 s150 => ?_)
    exact e_iretG i_M_isPlayed_153 rfl
  refine m_sw_c ?_ ?_
  · refine e_aload_n i_M_isPlayed_154 rfl ?_
    refine e_iload_n i_M_isPlayed_155 rfl ?_
    refine e_callI (as := [.ref w, .int v7]) (st' := []) i_M_isPlayed_156 lm_254 (Or.inr (Or.inl ⟨rfl, rfl⟩)) w_M_pledge rfl rfl rfl (Nat.le_of_ble_eq_true rfl) (Nat.le_of_ble_eq_true rfl) (m_rlt (q_M_pledge _) (by decide)) rfl (fun v156 s156 => ?_)
    refine e_iflt (t := 166) i_M_isPlayed_159 (by decide) ?_ ?_
    · refine e_iconst (v := 0) i_M_isPlayed_166 (by decide) ?_
      exact e_iretZ i_M_isPlayed_167 rfl (by decide)
    · refine e_iconst (v := 1) i_M_isPlayed_162 (by decide) ?_
      refine e_goto (t := 167) i_M_isPlayed_163 (by decide) ?_
      exact e_iretZ i_M_isPlayed_167 rfl (by decide)
  refine m_sw_c ?_ ?_
  · refine e_aload_n i_M_isPlayed_168 rfl ?_
    refine e_iload_n i_M_isPlayed_169 rfl ?_
    refine e_callI (as := [.ref w, .int v7]) (st' := []) i_M_isPlayed_170 lm_255 (Or.inr (Or.inl ⟨rfl, rfl⟩)) w_M_redeem rfl rfl rfl (Nat.le_of_ble_eq_true rfl) (Nat.le_of_ble_eq_true rfl) (m_rlt (q_M_redeem _) (by decide)) rfl (fun v170 s170 => ?_)
    refine e_iflt (t := 180) i_M_isPlayed_173 (by decide) ?_ ?_
    · refine e_iconst (v := 0) i_M_isPlayed_180 (by decide) ?_
      exact e_iretZ i_M_isPlayed_181 rfl (by decide)
    · refine e_iconst (v := 1) i_M_isPlayed_176 (by decide) ?_
      refine e_goto (t := 181) i_M_isPlayed_177 (by decide) ?_
      exact e_iretZ i_M_isPlayed_181 rfl (by decide)
  refine m_sw_c ?_ ?_
  · refine e_aload_n i_M_isPlayed_182 rfl ?_
    refine e_iload_n i_M_isPlayed_183 rfl ?_
    refine e_callI (as := [.ref w, .int v7]) (st' := []) i_M_isPlayed_184 lm_256 (Or.inr (Or.inl ⟨rfl, rfl⟩)) w_M_arePassed rfl rfl rfl (Nat.le_of_ble_eq_true rfl) (Nat.le_of_ble_eq_true rfl) (m_rlt (q_M_arePassed _) (by decide)) rfl (fun v184 s184 => ?_)
    exact e_iretG i_M_isPlayed_187 rfl
  refine m_sw_n ?_
  refine e_iconst (v := 1) i_M_isPlayed_188 (by decide) ?_
  exact e_iretZ i_M_isPlayed_189 rfl (by decide)
theorem i_M_day_0 : m_at k_M_day 0 = some (.iload_n 1, 1, 0) := m_at_of r_M_day (by decide +kernel)
theorem i_M_day_1 : m_at k_M_day 1 = some (.iconst 1, 1, 0) := m_at_of r_M_day (by decide +kernel)
theorem i_M_day_2 : m_at k_M_day 2 = some (.bipush 60, 2, 0) := m_at_of r_M_day (by decide +kernel)
theorem i_M_day_4 : m_at k_M_day 4 = some (.invokestatic 81, 3, 96) := m_at_of r_M_day (by decide +kernel)
theorem i_M_day_7 : m_at k_M_day 7 = some (.ifCond .eq (36), 3, 0) := m_at_of r_M_day (by decide +kernel)
theorem i_M_day_10 : m_at k_M_day 10 = some (.aload_n 0, 1, 0) := m_at_of r_M_day (by decide +kernel)
theorem i_M_day_11 : m_at k_M_day 11 = some (.getfield 7, 3, 0) := m_at_of r_M_day (by decide +kernel)
theorem i_M_day_14 : m_at k_M_day 14 = some (.bipush 8, 2, 0) := m_at_of r_M_day (by decide +kernel)
theorem i_M_day_16 : m_at k_M_day 16 = some (.iaload, 1, 0) := m_at_of r_M_day (by decide +kernel)
theorem i_M_day_17 : m_at k_M_day 17 = some (.iload_n 1, 1, 0) := m_at_of r_M_day (by decide +kernel)
theorem i_M_day_18 : m_at k_M_day 18 = some (.iadd, 1, 0) := m_at_of r_M_day (by decide +kernel)
theorem i_M_day_19 : m_at k_M_day 19 = some (.sipush 9999, 3, 0) := m_at_of r_M_day (by decide +kernel)
theorem i_M_day_22 : m_at k_M_day 22 = some (.if_icmp .gt (21), 3, 0) := m_at_of r_M_day (by decide +kernel)
theorem i_M_day_25 : m_at k_M_day 25 = some (.aload_n 0, 1, 0) := m_at_of r_M_day (by decide +kernel)
theorem i_M_day_26 : m_at k_M_day 26 = some (.iload_n 1, 1, 0) := m_at_of r_M_day (by decide +kernel)
theorem i_M_day_27 : m_at k_M_day 27 = some (.invokevirtual 392, 3, 256) := m_at_of r_M_day (by decide +kernel)
theorem i_M_day_30 : m_at k_M_day 30 = some (.ifCond .eq (13), 3, 0) := m_at_of r_M_day (by decide +kernel)
theorem i_M_day_33 : m_at k_M_day 33 = some (.aload_n 0, 1, 0) := m_at_of r_M_day (by decide +kernel)
theorem i_M_day_34 : m_at k_M_day 34 = some (.getfield 7, 3, 0) := m_at_of r_M_day (by decide +kernel)
theorem i_M_day_37 : m_at k_M_day 37 = some (.bipush 9, 2, 0) := m_at_of r_M_day (by decide +kernel)
theorem i_M_day_39 : m_at k_M_day 39 = some (.iaload, 1, 0) := m_at_of r_M_day (by decide +kernel)
theorem i_M_day_40 : m_at k_M_day 40 = some (.goto (4), 3, 0) := m_at_of r_M_day (by decide +kernel)
theorem i_M_day_43 : m_at k_M_day 43 = some (.iconst (-1), 1, 0) := m_at_of r_M_day (by decide +kernel)
theorem i_M_day_44 : m_at k_M_day 44 = some (.ireturn, 1, 0) := m_at_of r_M_day (by decide +kernel)
set_option maxRecDepth 20000 in
set_option maxHeartbeats 1000000 in
theorem E_M_day (x : m_X) (s : m_H) (w : Nat) (n1 : Int32) : m_M x k_M_day [.ref w, .int n1] s = if m_isO s w 11 = true then (m_bI (m_M x k_M_isIn [.int n1, .int 1, .int 60] s) fun v4 s4 => if v4 = 0 then (some (some (.int (-1)), s4)) else (m_fR s4 11 0 w).bind fun v11 => (m_ia x s4 v11 8).bind fun v16 => if 9999 < (v16 + n1) then (some (some (.int (-1)), s4)) else m_bI (m_M x k_M_arePassed [.ref w, .int n1] s4) fun v27 s27 => if v27 = 0 then (some (some (.int (-1)), s27)) else (m_fR s27 11 0 w).bind fun v34 => (m_ia x s27 v34 9).bind fun v39 => some (some (.int v39), s27)) else none := by
  refine e_M1 (L0 := [some (.ref w), some (.int n1)]) rfl (by decide +kernel) rfl (q_M_day _) rfl ?_
  refine e_iload_n i_M_day_0 rfl ?_
  refine e_iconst (v := 1) i_M_day_1 (by decide) ?_
  refine e_bipush (v := 60) i_M_day_2 (by decide) ?_
  refine e_callI (as := [.int n1, .int 1, .int 60]) (st' := []) i_M_day_4 lm_96 (Or.inl ⟨rfl, rfl⟩) w_M_isIn rfl rfl rfl (Nat.le_of_ble_eq_true rfl) (Nat.le_of_ble_eq_true rfl) (m_rlt (q_M_isIn _) (by decide)) rfl (fun v4 s4 => ?_)
  refine e_ifeq (t := 43) i_M_day_7 (by decide) ?_ ?_
  · refine e_iconst (v := (-1)) i_M_day_43 (by decide) ?_
    exact e_iretI i_M_day_44 rfl
  · refine e_aload_n i_M_day_10 rfl ?_
    refine e_getR i_M_day_11 lf_0 (by decide) ft_11_0 (fun v11 => ?_)
    refine e_bipush (v := 8) i_M_day_14 (by decide) ?_
    refine e_iald i_M_day_16 (fun v16 => ?_)
    refine e_iload_n i_M_day_17 rfl ?_
    refine e_iadd i_M_day_18 ?_
    refine e_sipush (v := 9999) i_M_day_19 (by decide) ?_
    refine e_icmpgt (t := 43) i_M_day_22 (by decide) ?_ ?_
    · refine e_iconst (v := (-1)) i_M_day_43 (by decide) ?_
      exact e_iretI i_M_day_44 rfl
    · refine e_aload_n i_M_day_25 rfl ?_
      refine e_iload_n i_M_day_26 rfl ?_
      refine e_callI (as := [.ref w, .int n1]) (st' := []) i_M_day_27 lm_256 (Or.inr (Or.inl ⟨rfl, rfl⟩)) w_M_arePassed rfl rfl rfl (Nat.le_of_ble_eq_true rfl) (Nat.le_of_ble_eq_true rfl) (m_rlt (q_M_arePassed _) (by decide)) rfl (fun v27 s27 => ?_)
      refine e_ifeq (t := 43) i_M_day_30 (by decide) ?_ ?_
      · refine e_iconst (v := (-1)) i_M_day_43 (by decide) ?_
        exact e_iretI i_M_day_44 rfl
      · refine e_aload_n i_M_day_33 rfl ?_
        refine e_getR i_M_day_34 lf_0 (by decide) ft_11_0 (fun v34 => ?_)
        refine e_bipush (v := 9) i_M_day_37 (by decide) ?_
        refine e_iald i_M_day_39 (fun v39 => ?_)
        refine e_goto (t := 44) i_M_day_40 (by decide) ?_
        exact e_iretI i_M_day_44 rfl
theorem i_M_arePassed_0 : m_at k_M_arePassed 0 = some (.iconst 0, 1, 0) := m_at_of r_M_arePassed (by decide +kernel)
theorem i_M_arePassed_1 : m_at k_M_arePassed 1 = some (.istore_n 2, 1, 0) := m_at_of r_M_arePassed (by decide +kernel)
theorem i_M_arePassed_2 : m_at k_M_arePassed 2 = some (.iload_n 2, 1, 0) := m_at_of r_M_arePassed (by decide +kernel)
theorem i_M_arePassed_3 : m_at k_M_arePassed 3 = some (.iload_n 1, 1, 0) := m_at_of r_M_arePassed (by decide +kernel)
theorem i_M_arePassed_4 : m_at k_M_arePassed 4 = some (.if_icmp .ge (32), 3, 0) := m_at_of r_M_arePassed (by decide +kernel)
theorem i_M_arePassed_7 : m_at k_M_arePassed 7 = some (.aload_n 0, 1, 0) := m_at_of r_M_arePassed (by decide +kernel)
theorem i_M_arePassed_8 : m_at k_M_arePassed 8 = some (.getfield 7, 3, 0) := m_at_of r_M_arePassed (by decide +kernel)
theorem i_M_arePassed_11 : m_at k_M_arePassed 11 = some (.bipush 8, 2, 0) := m_at_of r_M_arePassed (by decide +kernel)
theorem i_M_arePassed_13 : m_at k_M_arePassed 13 = some (.iaload, 1, 0) := m_at_of r_M_arePassed (by decide +kernel)
theorem i_M_arePassed_14 : m_at k_M_arePassed 14 = some (.sipush 9999, 3, 0) := m_at_of r_M_arePassed (by decide +kernel)
theorem i_M_arePassed_17 : m_at k_M_arePassed 17 = some (.if_icmp .ne (5), 3, 0) := m_at_of r_M_arePassed (by decide +kernel)
theorem i_M_arePassed_20 : m_at k_M_arePassed 20 = some (.iconst 0, 1, 0) := m_at_of r_M_arePassed (by decide +kernel)
theorem i_M_arePassed_21 : m_at k_M_arePassed 21 = some (.ireturn, 1, 0) := m_at_of r_M_arePassed (by decide +kernel)
theorem i_M_arePassed_22 : m_at k_M_arePassed 22 = some (.aload_n 0, 1, 0) := m_at_of r_M_arePassed (by decide +kernel)
theorem i_M_arePassed_23 : m_at k_M_arePassed 23 = some (.invokevirtual 358, 3, 226) := m_at_of r_M_arePassed (by decide +kernel)
theorem i_M_arePassed_26 : m_at k_M_arePassed 26 = some (.aload_n 0, 1, 0) := m_at_of r_M_arePassed (by decide +kernel)
theorem i_M_arePassed_27 : m_at k_M_arePassed 27 = some (.invokevirtual 389, 3, 208) := m_at_of r_M_arePassed (by decide +kernel)
theorem i_M_arePassed_30 : m_at k_M_arePassed 30 = some (.iinc 2 (1), 3, 0) := m_at_of r_M_arePassed (by decide +kernel)
theorem i_M_arePassed_33 : m_at k_M_arePassed 33 = some (.goto (-31), 3, 0) := m_at_of r_M_arePassed (by decide +kernel)
theorem i_M_arePassed_36 : m_at k_M_arePassed 36 = some (.iconst 1, 1, 0) := m_at_of r_M_arePassed (by decide +kernel)
theorem i_M_arePassed_37 : m_at k_M_arePassed 37 = some (.ireturn, 1, 0) := m_at_of r_M_arePassed (by decide +kernel)
set_option maxRecDepth 20000 in
set_option maxHeartbeats 1000000 in
theorem E_M_arePassed (x : m_X) (s : m_H) (w : Nat) (n1 : Int32) : m_M x k_M_arePassed [.ref w, .int n1] s = if m_isO s w 11 = true then (m_D x 9 k_M_arePassed 2 [some (.ref w), some (.int n1), some (.int 0)] [] s) else none := by
  refine e_M1 (L0 := [some (.ref w), some (.int n1), none]) rfl (by decide +kernel) rfl (q_M_arePassed _) rfl ?_
  refine e_iconst (v := 0) i_M_arePassed_0 (by decide) ?_
  refine e_istore_n (L' := [some (.ref w), some (.int n1), some (.int 0)]) i_M_arePassed_1 (of_decide_eq_true rfl) rfl ?_
  exact rfl
set_option maxRecDepth 20000 in
set_option maxHeartbeats 1000000 in
theorem E_M_arePassed_2 (x : m_X) (ρ : Nat) (hρ : 9 ≤ ρ) (s : m_H) (w : Nat) (n1 : Int32) (n2 : Int32)  : m_D x ρ k_M_arePassed 2 [some (.ref w), some (.int n1), some (.int n2)] [] s = if n1 ≤ n2 then (some (some (.int 1), s)) else (m_fR s 11 0 w).bind fun v8 => (m_ia x s v8 8).bind fun v13 => if v13 = 9999 then (some (some (.int 0), s)) else m_bV (m_M x k_M_keep [.ref w] s) fun s23 => m_bV (m_M x k_M_goOn [.ref w] s23) fun s27 => m_D x ρ k_M_arePassed 2 [some (.ref w), some (.int n1), some (.int (n2 + (1 : Int32)))] [] s27 := by
  refine e_iload_n i_M_arePassed_2 rfl ?_
  refine e_iload_n i_M_arePassed_3 rfl ?_
  refine e_icmpge (t := 36) i_M_arePassed_4 (by decide) ?_ ?_
  · refine e_iconst (v := 1) i_M_arePassed_36 (by decide) ?_
    exact e_iretZ i_M_arePassed_37 rfl (by decide)
  · refine e_aload_n i_M_arePassed_7 rfl ?_
    refine e_getR i_M_arePassed_8 lf_0 (by decide) ft_11_0 (fun v8 => ?_)
    refine e_bipush (v := 8) i_M_arePassed_11 (by decide) ?_
    refine e_iald i_M_arePassed_13 (fun v13 => ?_)
    refine e_sipush (v := 9999) i_M_arePassed_14 (by decide) ?_
    refine e_icmpne (t := 22) i_M_arePassed_17 (by decide) ?_ ?_
    · refine e_aload_n i_M_arePassed_22 rfl ?_
      refine e_callV (as := [.ref w]) (st' := []) i_M_arePassed_23 lm_226 (Or.inr (Or.inl ⟨rfl, rfl⟩)) w_M_keep rfl rfl rfl (Nat.le_of_ble_eq_true rfl) (Nat.le_of_ble_eq_true rfl) (m_rlt (q_M_keep _) (Nat.lt_of_lt_of_le (by decide) hρ)) rfl (fun s23 => ?_)
      refine e_aload_n i_M_arePassed_26 rfl ?_
      refine e_callV (as := [.ref w]) (st' := []) i_M_arePassed_27 lm_208 (Or.inr (Or.inl ⟨rfl, rfl⟩)) w_M_goOn rfl rfl rfl (Nat.le_of_ble_eq_true rfl) (Nat.le_of_ble_eq_true rfl) (m_rlt (q_M_goOn _) (Nat.lt_of_lt_of_le (by decide) hρ)) rfl (fun s27 => ?_)
      refine e_iinc (w := 1) (L' := [some (.ref w), some (.int n1), some (.int (n2 + (1 : Int32)))]) i_M_arePassed_30 rfl (of_decide_eq_true rfl) (by decide) rfl ?_
      refine e_goto (t := 2) i_M_arePassed_33 (by decide) ?_
      exact rfl
    · refine e_iconst (v := 0) i_M_arePassed_20 (by decide) ?_
      exact e_iretZ i_M_arePassed_21 rfl (by decide)
theorem i_M_goOn_0 : m_at k_M_goOn 0 = some (.iconst 0, 1, 0) := m_at_of r_M_goOn (by decide +kernel)
theorem i_M_goOn_1 : m_at k_M_goOn 1 = some (.istore_n 1, 1, 0) := m_at_of r_M_goOn (by decide +kernel)
theorem i_M_goOn_2 : m_at k_M_goOn 2 = some (.iload_n 1, 1, 0) := m_at_of r_M_goOn (by decide +kernel)
theorem i_M_goOn_3 : m_at k_M_goOn 3 = some (.aload_n 0, 1, 0) := m_at_of r_M_goOn (by decide +kernel)
theorem i_M_goOn_4 : m_at k_M_goOn 4 = some (.getfield 7, 3, 0) := m_at_of r_M_goOn (by decide +kernel)
theorem i_M_goOn_7 : m_at k_M_goOn 7 = some (.iconst 0, 1, 0) := m_at_of r_M_goOn (by decide +kernel)
theorem i_M_goOn_8 : m_at k_M_goOn 8 = some (.iaload, 1, 0) := m_at_of r_M_goOn (by decide +kernel)
theorem i_M_goOn_9 : m_at k_M_goOn 9 = some (.if_icmp .ge (14), 3, 0) := m_at_of r_M_goOn (by decide +kernel)
theorem i_M_goOn_12 : m_at k_M_goOn 12 = some (.aload_n 0, 1, 0) := m_at_of r_M_goOn (by decide +kernel)
theorem i_M_goOn_13 : m_at k_M_goOn 13 = some (.iload_n 1, 1, 0) := m_at_of r_M_goOn (by decide +kernel)
theorem i_M_goOn_14 : m_at k_M_goOn 14 = some (.invokevirtual 339, 3, 272) := m_at_of r_M_goOn (by decide +kernel)
theorem i_M_goOn_17 : m_at k_M_goOn 17 = some (.iinc 1 (1), 3, 0) := m_at_of r_M_goOn (by decide +kernel)
theorem i_M_goOn_20 : m_at k_M_goOn 20 = some (.goto (-18), 3, 0) := m_at_of r_M_goOn (by decide +kernel)
theorem i_M_goOn_23 : m_at k_M_goOn 23 = some (.iconst 0, 1, 0) := m_at_of r_M_goOn (by decide +kernel)
theorem i_M_goOn_24 : m_at k_M_goOn 24 = some (.istore_n 1, 1, 0) := m_at_of r_M_goOn (by decide +kernel)
theorem i_M_goOn_25 : m_at k_M_goOn 25 = some (.iload_n 1, 1, 0) := m_at_of r_M_goOn (by decide +kernel)
theorem i_M_goOn_26 : m_at k_M_goOn 26 = some (.aload_n 0, 1, 0) := m_at_of r_M_goOn (by decide +kernel)
theorem i_M_goOn_27 : m_at k_M_goOn 27 = some (.getfield 7, 3, 0) := m_at_of r_M_goOn (by decide +kernel)
theorem i_M_goOn_30 : m_at k_M_goOn 30 = some (.bipush 11, 2, 0) := m_at_of r_M_goOn (by decide +kernel)
theorem i_M_goOn_32 : m_at k_M_goOn 32 = some (.iaload, 1, 0) := m_at_of r_M_goOn (by decide +kernel)
theorem i_M_goOn_33 : m_at k_M_goOn 33 = some (.if_icmp .ge (63), 3, 0) := m_at_of r_M_goOn (by decide +kernel)
theorem i_M_goOn_36 : m_at k_M_goOn 36 = some (.aload_n 0, 1, 0) := m_at_of r_M_goOn (by decide +kernel)
theorem i_M_goOn_37 : m_at k_M_goOn 37 = some (.getfield 7, 3, 0) := m_at_of r_M_goOn (by decide +kernel)
theorem i_M_goOn_40 : m_at k_M_goOn 40 = some (.bipush 8, 2, 0) := m_at_of r_M_goOn (by decide +kernel)
theorem i_M_goOn_42 : m_at k_M_goOn 42 = some (.iaload, 1, 0) := m_at_of r_M_goOn (by decide +kernel)
theorem i_M_goOn_43 : m_at k_M_goOn 43 = some (.bipush 7, 2, 0) := m_at_of r_M_goOn (by decide +kernel)
theorem i_M_goOn_45 : m_at k_M_goOn 45 = some (.irem, 1, 0) := m_at_of r_M_goOn (by decide +kernel)
theorem i_M_goOn_46 : m_at k_M_goOn 46 = some (.bipush 6, 2, 0) := m_at_of r_M_goOn (by decide +kernel)
theorem i_M_goOn_48 : m_at k_M_goOn 48 = some (.if_icmp .ne (48), 3, 0) := m_at_of r_M_goOn (by decide +kernel)
theorem i_M_goOn_51 : m_at k_M_goOn 51 = some (.aload_n 0, 1, 0) := m_at_of r_M_goOn (by decide +kernel)
theorem i_M_goOn_52 : m_at k_M_goOn 52 = some (.iload_n 1, 1, 0) := m_at_of r_M_goOn (by decide +kernel)
theorem i_M_goOn_53 : m_at k_M_goOn 53 = some (.invokevirtual 89, 3, 105) := m_at_of r_M_goOn (by decide +kernel)
theorem i_M_goOn_56 : m_at k_M_goOn 56 = some (.ifCond .eq (34), 3, 0) := m_at_of r_M_goOn (by decide +kernel)
theorem i_M_goOn_59 : m_at k_M_goOn 59 = some (.aload_n 0, 1, 0) := m_at_of r_M_goOn (by decide +kernel)
theorem i_M_goOn_60 : m_at k_M_goOn 60 = some (.iload_n 1, 1, 0) := m_at_of r_M_goOn (by decide +kernel)
theorem i_M_goOn_61 : m_at k_M_goOn 61 = some (.iconst 2, 1, 0) := m_at_of r_M_goOn (by decide +kernel)
theorem i_M_goOn_62 : m_at k_M_goOn 62 = some (.aload_n 0, 1, 0) := m_at_of r_M_goOn (by decide +kernel)
theorem i_M_goOn_63 : m_at k_M_goOn 63 = some (.iload_n 1, 1, 0) := m_at_of r_M_goOn (by decide +kernel)
theorem i_M_goOn_64 : m_at k_M_goOn 64 = some (.iconst 2, 1, 0) := m_at_of r_M_goOn (by decide +kernel)
theorem i_M_goOn_65 : m_at k_M_goOn 65 = some (.invokevirtual 85, 3, 106) := m_at_of r_M_goOn (by decide +kernel)
theorem i_M_goOn_68 : m_at k_M_goOn 68 = some (.aload_n 0, 1, 0) := m_at_of r_M_goOn (by decide +kernel)
theorem i_M_goOn_69 : m_at k_M_goOn 69 = some (.aload_n 0, 1, 0) := m_at_of r_M_goOn (by decide +kernel)
theorem i_M_goOn_70 : m_at k_M_goOn 70 = some (.getfield 7, 3, 0) := m_at_of r_M_goOn (by decide +kernel)
theorem i_M_goOn_73 : m_at k_M_goOn 73 = some (.iconst 2, 1, 0) := m_at_of r_M_goOn (by decide +kernel)
theorem i_M_goOn_74 : m_at k_M_goOn 74 = some (.iaload, 1, 0) := m_at_of r_M_goOn (by decide +kernel)
theorem i_M_goOn_75 : m_at k_M_goOn 75 = some (.iload_n 1, 1, 0) := m_at_of r_M_goOn (by decide +kernel)
theorem i_M_goOn_76 : m_at k_M_goOn 76 = some (.invokevirtual 342, 3, 117) := m_at_of r_M_goOn (by decide +kernel)
theorem i_M_goOn_79 : m_at k_M_goOn 79 = some (.iadd, 1, 0) := m_at_of r_M_goOn (by decide +kernel)
theorem i_M_goOn_80 : m_at k_M_goOn 80 = some (.i2l, 1, 0) := m_at_of r_M_goOn (by decide +kernel)
theorem i_M_goOn_81 : m_at k_M_goOn 81 = some (.iconst 0, 1, 0) := m_at_of r_M_goOn (by decide +kernel)
theorem i_M_goOn_82 : m_at k_M_goOn 82 = some (.bipush 99, 2, 0) := m_at_of r_M_goOn (by decide +kernel)
theorem i_M_goOn_84 : m_at k_M_goOn 84 = some (.invokestatic 310, 3, 273) := m_at_of r_M_goOn (by decide +kernel)
theorem i_M_goOn_87 : m_at k_M_goOn 87 = some (.invokevirtual 345, 3, 233) := m_at_of r_M_goOn (by decide +kernel)
theorem i_M_goOn_90 : m_at k_M_goOn 90 = some (.iinc 1 (1), 3, 0) := m_at_of r_M_goOn (by decide +kernel)
theorem i_M_goOn_93 : m_at k_M_goOn 93 = some (.goto (-68), 3, 0) := m_at_of r_M_goOn (by decide +kernel)
theorem i_M_goOn_96 : m_at k_M_goOn 96 = some (.aload_n 0, 1, 0) := m_at_of r_M_goOn (by decide +kernel)
theorem i_M_goOn_97 : m_at k_M_goOn 97 = some (.getfield 7, 3, 0) := m_at_of r_M_goOn (by decide +kernel)
theorem i_M_goOn_100 : m_at k_M_goOn 100 = some (.bipush 8, 2, 0) := m_at_of r_M_goOn (by decide +kernel)
theorem i_M_goOn_102 : m_at k_M_goOn 102 = some (.dup2, 1, 0) := m_at_of r_M_goOn (by decide +kernel)
theorem i_M_goOn_103 : m_at k_M_goOn 103 = some (.iaload, 1, 0) := m_at_of r_M_goOn (by decide +kernel)
theorem i_M_goOn_104 : m_at k_M_goOn 104 = some (.iconst 1, 1, 0) := m_at_of r_M_goOn (by decide +kernel)
theorem i_M_goOn_105 : m_at k_M_goOn 105 = some (.iadd, 1, 0) := m_at_of r_M_goOn (by decide +kernel)
theorem i_M_goOn_106 : m_at k_M_goOn 106 = some (.iastore, 1, 0) := m_at_of r_M_goOn (by decide +kernel)
theorem i_M_goOn_107 : m_at k_M_goOn 107 = some (.aload_n 0, 1, 0) := m_at_of r_M_goOn (by decide +kernel)
theorem i_M_goOn_108 : m_at k_M_goOn 108 = some (.getfield 7, 3, 0) := m_at_of r_M_goOn (by decide +kernel)
theorem i_M_goOn_111 : m_at k_M_goOn 111 = some (.bipush 9, 2, 0) := m_at_of r_M_goOn (by decide +kernel)
theorem i_M_goOn_113 : m_at k_M_goOn 113 = some (.aload_n 0, 1, 0) := m_at_of r_M_goOn (by decide +kernel)
theorem i_M_goOn_114 : m_at k_M_goOn 114 = some (.getfield 7, 3, 0) := m_at_of r_M_goOn (by decide +kernel)
theorem i_M_goOn_117 : m_at k_M_goOn 117 = some (.bipush 10, 2, 0) := m_at_of r_M_goOn (by decide +kernel)
theorem i_M_goOn_119 : m_at k_M_goOn 119 = some (.iaload, 1, 0) := m_at_of r_M_goOn (by decide +kernel)
theorem i_M_goOn_120 : m_at k_M_goOn 120 = some (.bipush 10, 2, 0) := m_at_of r_M_goOn (by decide +kernel)
theorem i_M_goOn_122 : m_at k_M_goOn 122 = some (.irem, 1, 0) := m_at_of r_M_goOn (by decide +kernel)
theorem i_M_goOn_123 : m_at k_M_goOn 123 = some (.iastore, 1, 0) := m_at_of r_M_goOn (by decide +kernel)
theorem i_M_goOn_124 : m_at k_M_goOn 124 = some (.aload_n 0, 1, 0) := m_at_of r_M_goOn (by decide +kernel)
theorem i_M_goOn_125 : m_at k_M_goOn 125 = some (.invokevirtual 349, 3, 227) := m_at_of r_M_goOn (by decide +kernel)
theorem i_M_goOn_128 : m_at k_M_goOn 128 = some (.return_, 1, 0) := m_at_of r_M_goOn (by decide +kernel)
set_option maxRecDepth 20000 in
set_option maxHeartbeats 1000000 in
theorem E_M_goOn (x : m_X) (s : m_H) (w : Nat) : m_M x k_M_goOn [.ref w] s = if m_isO s w 11 = true then (m_D x 8 k_M_goOn 2 [some (.ref w), some (.int 0)] [] s) else none := by
  refine e_M1 (L0 := [some (.ref w), none]) rfl (by decide +kernel) rfl (q_M_goOn _) rfl ?_
  refine e_iconst (v := 0) i_M_goOn_0 (by decide) ?_
  refine e_istore_n (L' := [some (.ref w), some (.int 0)]) i_M_goOn_1 (of_decide_eq_true rfl) rfl ?_
  exact rfl
set_option maxRecDepth 20000 in
set_option maxHeartbeats 1000000 in
theorem E_M_goOn_2 (x : m_X) (ρ : Nat) (hρ : 8 ≤ ρ) (s : m_H) (w : Nat) (n1 : Int32)  : m_D x ρ k_M_goOn 2 [some (.ref w), some (.int n1)] [] s = (m_fR s 11 0 w).bind fun v4 => (m_ia x s v4 0).bind fun v8 => if v8 ≤ n1 then (m_D x ρ k_M_goOn 25 [some (.ref w), some (.int 0)] [] s) else m_bV (m_M x k_M_live [.ref w, .int n1] s) fun s14 => m_D x ρ k_M_goOn 2 [some (.ref w), some (.int (n1 + (1 : Int32)))] [] s14 := by
  refine e_iload_n i_M_goOn_2 rfl ?_
  refine e_aload_n i_M_goOn_3 rfl ?_
  refine e_getR i_M_goOn_4 lf_0 (by decide) ft_11_0 (fun v4 => ?_)
  refine e_iconst (v := 0) i_M_goOn_7 (by decide) ?_
  refine e_iald i_M_goOn_8 (fun v8 => ?_)
  refine e_icmpge (t := 23) i_M_goOn_9 (by decide) ?_ ?_
  · refine e_iconst (v := 0) i_M_goOn_23 (by decide) ?_
    refine e_istore_n (L' := [some (.ref w), some (.int 0)]) i_M_goOn_24 (of_decide_eq_true rfl) rfl ?_
    exact rfl
  · refine e_aload_n i_M_goOn_12 rfl ?_
    refine e_iload_n i_M_goOn_13 rfl ?_
    refine e_callV (as := [.ref w, .int n1]) (st' := []) i_M_goOn_14 lm_272 (Or.inr (Or.inl ⟨rfl, rfl⟩)) w_M_live rfl rfl rfl (Nat.le_of_ble_eq_true rfl) (Nat.le_of_ble_eq_true rfl) (m_rlt (q_M_live _) (Nat.lt_of_lt_of_le (by decide) hρ)) rfl (fun s14 => ?_)
    refine e_iinc (w := 1) (L' := [some (.ref w), some (.int (n1 + (1 : Int32)))]) i_M_goOn_17 rfl (of_decide_eq_true rfl) (by decide) rfl ?_
    refine e_goto (t := 2) i_M_goOn_20 (by decide) ?_
    exact rfl
set_option maxRecDepth 20000 in
set_option maxHeartbeats 1000000 in
theorem E_M_goOn_25 (x : m_X) (ρ : Nat) (hρ : 8 ≤ ρ) (s : m_H) (w : Nat) (n1 : Int32)  : m_D x ρ k_M_goOn 25 [some (.ref w), some (.int n1)] [] s = (m_fR s 11 0 w).bind fun v27 => (m_ia x s v27 11).bind fun v32 => if v32 ≤ n1 then (m_D x ρ k_M_goOn 96 [some (.ref w), some (.int n1)] [] s) else (m_fR s 11 0 w).bind fun v37 => (m_ia x s v37 8).bind fun v42 => if (v42 - v42 / (7 : Int32) * (7 : Int32)) = 6 then (m_bI (m_M x k_M_isOpen [.ref w, .int n1] s) fun v53 s53 => if v53 = 0 then (m_D x ρ k_M_goOn 25 [some (.ref w), some (.int (n1 + (1 : Int32)))] [] s53) else m_bI (m_M x k_M_get [.ref w, .int n1, .int 2] s53) fun v65 s65 => (m_fR s65 11 0 w).bind fun v70 => (m_ia x s65 v70 2).bind fun v74 => m_bI (m_M x k_M_growsOf [.ref w, .int v74, .int n1] s65) fun v76 s76 => m_bI (m_M x k_M_cut [.long (v65 + v76).toInt64, .int 0, .int 99] s76) fun v84 s84 => m_bV (m_M x k_M_put [.ref w, .int n1, .int 2, .int v84] s84) fun s87 => m_D x ρ k_M_goOn 25 [some (.ref w), some (.int (n1 + (1 : Int32)))] [] s87) else m_D x ρ k_M_goOn 96 [some (.ref w), some (.int n1)] [] s := by
  refine e_iload_n i_M_goOn_25 rfl ?_
  refine e_aload_n i_M_goOn_26 rfl ?_
  refine e_getR i_M_goOn_27 lf_0 (by decide) ft_11_0 (fun v27 => ?_)
  refine e_bipush (v := 11) i_M_goOn_30 (by decide) ?_
  refine e_iald i_M_goOn_32 (fun v32 => ?_)
  refine e_icmpge (t := 96) i_M_goOn_33 (by decide) ?_ ?_
  · exact rfl
  · refine e_aload_n i_M_goOn_36 rfl ?_
    refine e_getR i_M_goOn_37 lf_0 (by decide) ft_11_0 (fun v37 => ?_)
    refine e_bipush (v := 8) i_M_goOn_40 (by decide) ?_
    refine e_iald i_M_goOn_42 (fun v42 => ?_)
    refine e_bipush (v := 7) i_M_goOn_43 (by decide) ?_
    refine e_iremc i_M_goOn_45 (by decide) ?_
    refine e_bipush (v := 6) i_M_goOn_46 (by decide) ?_
    refine e_icmpne (t := 96) i_M_goOn_48 (by decide) ?_ ?_
    · exact rfl
    · refine e_aload_n i_M_goOn_51 rfl ?_
      refine e_iload_n i_M_goOn_52 rfl ?_
      refine e_callI (as := [.ref w, .int n1]) (st' := []) i_M_goOn_53 lm_105 (Or.inr (Or.inl ⟨rfl, rfl⟩)) w_M_isOpen rfl rfl rfl (Nat.le_of_ble_eq_true rfl) (Nat.le_of_ble_eq_true rfl) (m_rlt (q_M_isOpen _) (Nat.lt_of_lt_of_le (by decide) hρ)) rfl (fun v53 s53 => ?_)
      refine e_ifeq (t := 90) i_M_goOn_56 (by decide) ?_ ?_
      · refine e_iinc (w := 1) (L' := [some (.ref w), some (.int (n1 + (1 : Int32)))]) i_M_goOn_90 rfl (of_decide_eq_true rfl) (by decide) rfl ?_
        refine e_goto (t := 25) i_M_goOn_93 (by decide) ?_
        exact rfl
      · refine e_aload_n i_M_goOn_59 rfl ?_
        refine e_iload_n i_M_goOn_60 rfl ?_
        refine e_iconst (v := 2) i_M_goOn_61 (by decide) ?_
        refine e_aload_n i_M_goOn_62 rfl ?_
        refine e_iload_n i_M_goOn_63 rfl ?_
        refine e_iconst (v := 2) i_M_goOn_64 (by decide) ?_
        refine e_callI (as := [.ref w, .int n1, .int 2]) (st' := [.int 2, .int n1, .ref w]) i_M_goOn_65 lm_106 (Or.inr (Or.inl ⟨rfl, rfl⟩)) w_M_get rfl rfl rfl (Nat.le_of_ble_eq_true rfl) (Nat.le_of_ble_eq_true rfl) (m_rlt (q_M_get _) (Nat.lt_of_lt_of_le (by decide) hρ)) rfl (fun v65 s65 => ?_)
        refine e_aload_n i_M_goOn_68 rfl ?_
        refine e_aload_n i_M_goOn_69 rfl ?_
        refine e_getR i_M_goOn_70 lf_0 (by decide) ft_11_0 (fun v70 => ?_)
        refine e_iconst (v := 2) i_M_goOn_73 (by decide) ?_
        refine e_iald i_M_goOn_74 (fun v74 => ?_)
        refine e_iload_n i_M_goOn_75 rfl ?_
        refine e_callI (as := [.ref w, .int v74, .int n1]) (st' := [.int v65, .int 2, .int n1, .ref w]) i_M_goOn_76 lm_117 (Or.inr (Or.inl ⟨rfl, rfl⟩)) w_M_growsOf rfl rfl rfl (Nat.le_of_ble_eq_true rfl) (Nat.le_of_ble_eq_true rfl) (m_rlt (q_M_growsOf _) (Nat.lt_of_lt_of_le (by decide) hρ)) rfl (fun v76 s76 => ?_)
        refine e_iadd i_M_goOn_79 ?_
        refine e_i2l i_M_goOn_80 ?_
        refine e_iconst (v := 0) i_M_goOn_81 (by decide) ?_
        refine e_bipush (v := 99) i_M_goOn_82 (by decide) ?_
        refine e_callI (as := [.long (v65 + v76).toInt64, .int 0, .int 99]) (st' := [.int 2, .int n1, .ref w]) i_M_goOn_84 lm_273 (Or.inl ⟨rfl, rfl⟩) w_M_cut rfl rfl rfl (Nat.le_of_ble_eq_true rfl) (Nat.le_of_ble_eq_true rfl) (m_rlt (q_M_cut _) (Nat.lt_of_lt_of_le (by decide) hρ)) rfl (fun v84 s84 => ?_)
        refine e_callV (as := [.ref w, .int n1, .int 2, .int v84]) (st' := []) i_M_goOn_87 lm_233 (Or.inr (Or.inl ⟨rfl, rfl⟩)) w_M_put rfl rfl rfl (Nat.le_of_ble_eq_true rfl) (Nat.le_of_ble_eq_true rfl) (m_rlt (q_M_put _) (Nat.lt_of_lt_of_le (by decide) hρ)) rfl (fun s87 => ?_)
        refine e_iinc (w := 1) (L' := [some (.ref w), some (.int (n1 + (1 : Int32)))]) i_M_goOn_90 rfl (of_decide_eq_true rfl) (by decide) rfl ?_
        refine e_goto (t := 25) i_M_goOn_93 (by decide) ?_
        exact rfl
set_option maxRecDepth 20000 in
set_option maxHeartbeats 1000000 in
theorem E_M_goOn_96 (x : m_X) (ρ : Nat) (hρ : 8 ≤ ρ) (s : m_H) (w : Nat) (n1 : Int32)  : m_D x ρ k_M_goOn 96 [some (.ref w), some (.int n1)] [] s = (m_fR s 11 0 w).bind fun v97 => (m_ia x s v97 8).bind fun v103 => (m_is s v97 8 (v103 + (1 : Int32))).bind fun s106 => (m_fR s106 11 0 w).bind fun v108 => (m_fR s106 11 0 w).bind fun v114 => (m_ia x s106 v114 10).bind fun v119 => (m_is s106 v108 9 (v119 - v119 / (10 : Int32) * (10 : Int32))).bind fun s123 => m_bV (m_M x k_M_anew [.ref w] s123) fun s125 => some (none, s125) := by
  refine e_aload_n i_M_goOn_96 rfl ?_
  refine e_getR i_M_goOn_97 lf_0 (by decide) ft_11_0 (fun v97 => ?_)
  refine e_bipush (v := 8) i_M_goOn_100 (by decide) ?_
  refine e_dup2 i_M_goOn_102 ⟨rfl, rfl⟩ ?_
  refine e_iald i_M_goOn_103 (fun v103 => ?_)
  refine e_iconst (v := 1) i_M_goOn_104 (by decide) ?_
  refine e_iadd i_M_goOn_105 ?_
  refine e_iast i_M_goOn_106 (fun s106 => ?_)
  refine e_aload_n i_M_goOn_107 rfl ?_
  refine e_getR i_M_goOn_108 lf_0 (by decide) ft_11_0 (fun v108 => ?_)
  refine e_bipush (v := 9) i_M_goOn_111 (by decide) ?_
  refine e_aload_n i_M_goOn_113 rfl ?_
  refine e_getR i_M_goOn_114 lf_0 (by decide) ft_11_0 (fun v114 => ?_)
  refine e_bipush (v := 10) i_M_goOn_117 (by decide) ?_
  refine e_iald i_M_goOn_119 (fun v119 => ?_)
  refine e_bipush (v := 10) i_M_goOn_120 (by decide) ?_
  refine e_iremc i_M_goOn_122 (by decide) ?_
  refine e_iast i_M_goOn_123 (fun s123 => ?_)
  refine e_aload_n i_M_goOn_124 rfl ?_
  refine e_callV (as := [.ref w]) (st' := []) i_M_goOn_125 lm_227 (Or.inr (Or.inl ⟨rfl, rfl⟩)) w_M_anew rfl rfl rfl (Nat.le_of_ble_eq_true rfl) (Nat.le_of_ble_eq_true rfl) (m_rlt (q_M_anew _) (Nat.lt_of_lt_of_le (by decide) hρ)) rfl (fun s125 => ?_)
  exact e_vret i_M_goOn_128 rfl
theorem i_M_anew_0 : m_at k_M_anew 0 = some (.aload_n 0, 1, 0) := m_at_of r_M_anew (by decide +kernel)
theorem i_M_anew_1 : m_at k_M_anew 1 = some (.getfield 7, 3, 0) := m_at_of r_M_anew (by decide +kernel)
theorem i_M_anew_4 : m_at k_M_anew 4 = some (.bipush 10, 2, 0) := m_at_of r_M_anew (by decide +kernel)
theorem i_M_anew_6 : m_at k_M_anew 6 = some (.aload_n 0, 1, 0) := m_at_of r_M_anew (by decide +kernel)
theorem i_M_anew_7 : m_at k_M_anew 7 = some (.getfield 7, 3, 0) := m_at_of r_M_anew (by decide +kernel)
theorem i_M_anew_10 : m_at k_M_anew 10 = some (.bipush 10, 2, 0) := m_at_of r_M_anew (by decide +kernel)
theorem i_M_anew_12 : m_at k_M_anew 12 = some (.iaload, 1, 0) := m_at_of r_M_anew (by decide +kernel)
theorem i_M_anew_13 : m_at k_M_anew 13 = some (.i2l, 1, 0) := m_at_of r_M_anew (by decide +kernel)
theorem i_M_anew_14 : m_at k_M_anew 14 = some (.ldc2_w 327, 3, 3) := m_at_of r_M_anew (by decide +kernel)
theorem i_M_anew_17 : m_at k_M_anew 17 = some (.lmul, 1, 0) := m_at_of r_M_anew (by decide +kernel)
theorem i_M_anew_18 : m_at k_M_anew 18 = some (.ldc2_w 329, 3, 4) := m_at_of r_M_anew (by decide +kernel)
theorem i_M_anew_21 : m_at k_M_anew 21 = some (.ladd, 1, 0) := m_at_of r_M_anew (by decide +kernel)
theorem i_M_anew_22 : m_at k_M_anew 22 = some (.ldc2_w 331, 3, 5) := m_at_of r_M_anew (by decide +kernel)
theorem i_M_anew_25 : m_at k_M_anew 25 = some (.lrem, 1, 0) := m_at_of r_M_anew (by decide +kernel)
theorem i_M_anew_26 : m_at k_M_anew 26 = some (.l2i, 1, 0) := m_at_of r_M_anew (by decide +kernel)
theorem i_M_anew_27 : m_at k_M_anew 27 = some (.iastore, 1, 0) := m_at_of r_M_anew (by decide +kernel)
theorem i_M_anew_28 : m_at k_M_anew 28 = some (.return_, 1, 0) := m_at_of r_M_anew (by decide +kernel)
set_option maxRecDepth 20000 in
set_option maxHeartbeats 1000000 in
theorem E_M_anew (x : m_X) (s : m_H) (w : Nat) : m_M x k_M_anew [.ref w] s = if m_isO s w 11 = true then ((m_fR s 11 0 w).bind fun v1 => (m_fR s 11 0 w).bind fun v7 => (m_ia x s v7 10).bind fun v12 => (m_is s v1 10 (((v12.toInt64 * (373 : Int64)) + (251 : Int64)) - ((v12.toInt64 * (373 : Int64)) + (251 : Int64)) / (30467 : Int64) * (30467 : Int64)).toInt32).bind fun s27 => some (none, s27)) else none := by
  refine e_M1 (L0 := [some (.ref w)]) rfl (by decide +kernel) rfl (q_M_anew _) rfl ?_
  refine e_aload_n i_M_anew_0 rfl ?_
  refine e_getR i_M_anew_1 lf_0 (by decide) ft_11_0 (fun v1 => ?_)
  refine e_bipush (v := 10) i_M_anew_4 (by decide) ?_
  refine e_aload_n i_M_anew_6 rfl ?_
  refine e_getR i_M_anew_7 lf_0 (by decide) ft_11_0 (fun v7 => ?_)
  refine e_bipush (v := 10) i_M_anew_10 (by decide) ?_
  refine e_iald i_M_anew_12 (fun v12 => ?_)
  refine e_i2l i_M_anew_13 ?_
  refine e_ldc2 (q := (1, 327, 373)) i_M_anew_14 rfl ?_
  refine e_lmul i_M_anew_17 ?_
  refine e_ldc2 (q := (1, 329, 251)) i_M_anew_18 rfl ?_
  refine e_ladd i_M_anew_21 ?_
  refine e_ldc2 (q := (1, 331, 30467)) i_M_anew_22 rfl ?_
  refine e_lremc i_M_anew_25 (by decide) ?_
  refine e_l2i i_M_anew_26 ?_
  refine e_iast i_M_anew_27 (fun s27 => ?_)
  exact e_vret i_M_anew_28 rfl
theorem i_M_growsOf_0 : m_at k_M_growsOf 0 = some (.aload_n 0, 1, 0) := m_at_of r_M_growsOf (by decide +kernel)
theorem i_M_growsOf_1 : m_at k_M_growsOf 1 = some (.iload_n 2, 1, 0) := m_at_of r_M_growsOf (by decide +kernel)
theorem i_M_growsOf_2 : m_at k_M_growsOf 2 = some (.invokevirtual 324, 3, 274) := m_at_of r_M_growsOf (by decide +kernel)
theorem i_M_growsOf_5 : m_at k_M_growsOf 5 = some (.aload_n 0, 1, 0) := m_at_of r_M_growsOf (by decide +kernel)
theorem i_M_growsOf_6 : m_at k_M_growsOf 6 = some (.iload_n 1, 1, 0) := m_at_of r_M_growsOf (by decide +kernel)
theorem i_M_growsOf_7 : m_at k_M_growsOf 7 = some (.iconst 2, 1, 0) := m_at_of r_M_growsOf (by decide +kernel)
theorem i_M_growsOf_8 : m_at k_M_growsOf 8 = some (.iconst 1, 1, 0) := m_at_of r_M_growsOf (by decide +kernel)
theorem i_M_growsOf_9 : m_at k_M_growsOf 9 = some (.bipush 9, 2, 0) := m_at_of r_M_growsOf (by decide +kernel)
theorem i_M_growsOf_11 : m_at k_M_growsOf 11 = some (.invokevirtual 320, 3, 275) := m_at_of r_M_growsOf (by decide +kernel)
theorem i_M_growsOf_14 : m_at k_M_growsOf 14 = some (.ireturn, 1, 0) := m_at_of r_M_growsOf (by decide +kernel)
set_option maxRecDepth 20000 in
set_option maxHeartbeats 1000000 in
theorem E_M_growsOf (x : m_X) (s : m_H) (w : Nat) (n1 : Int32) (n2 : Int32) : m_M x k_M_growsOf [.ref w, .int n1, .int n2] s = if m_isO s w 11 = true then (m_bV (m_M x k_M_nameGlove [.ref w, .int n2] s) fun s2 => m_bI (m_M x k_M_says [.ref w, .int n1, .int 2, .int 1, .int 9] s2) fun v11 s11 => some (some (.int v11), s11)) else none := by
  refine e_M1 (L0 := [some (.ref w), some (.int n1), some (.int n2)]) rfl (by decide +kernel) rfl (q_M_growsOf _) rfl ?_
  refine e_aload_n i_M_growsOf_0 rfl ?_
  refine e_iload_n i_M_growsOf_1 rfl ?_
  refine e_callV (as := [.ref w, .int n2]) (st' := []) i_M_growsOf_2 lm_274 (Or.inr (Or.inl ⟨rfl, rfl⟩)) w_M_nameGlove rfl rfl rfl (Nat.le_of_ble_eq_true rfl) (Nat.le_of_ble_eq_true rfl) (m_rlt (q_M_nameGlove _) (by decide)) rfl (fun s2 => ?_)
  refine e_aload_n i_M_growsOf_5 rfl ?_
  refine e_iload_n i_M_growsOf_6 rfl ?_
  refine e_iconst (v := 2) i_M_growsOf_7 (by decide) ?_
  refine e_iconst (v := 1) i_M_growsOf_8 (by decide) ?_
  refine e_bipush (v := 9) i_M_growsOf_9 (by decide) ?_
  refine e_callI (as := [.ref w, .int n1, .int 2, .int 1, .int 9]) (st' := []) i_M_growsOf_11 lm_275 (Or.inr (Or.inl ⟨rfl, rfl⟩)) w_M_says rfl rfl rfl (Nat.le_of_ble_eq_true rfl) (Nat.le_of_ble_eq_true rfl) (m_rlt (q_M_says _) (by decide)) rfl (fun v11 s11 => ?_)
  exact e_iretI i_M_growsOf_14 rfl
theorem i_M_live_0 : m_at k_M_live 0 = some (.aload_n 0, 1, 0) := m_at_of r_M_live (by decide +kernel)
theorem i_M_live_1 : m_at k_M_live 1 = some (.getfield 7, 3, 0) := m_at_of r_M_live (by decide +kernel)
theorem i_M_live_4 : m_at k_M_live 4 = some (.bipush 20, 2, 0) := m_at_of r_M_live (by decide +kernel)
theorem i_M_live_6 : m_at k_M_live 6 = some (.iload_n 1, 1, 0) := m_at_of r_M_live (by decide +kernel)
theorem i_M_live_7 : m_at k_M_live 7 = some (.iadd, 1, 0) := m_at_of r_M_live (by decide +kernel)
theorem i_M_live_8 : m_at k_M_live 8 = some (.aload_n 0, 1, 0) := m_at_of r_M_live (by decide +kernel)
theorem i_M_live_9 : m_at k_M_live 9 = some (.getfield 7, 3, 0) := m_at_of r_M_live (by decide +kernel)
theorem i_M_live_12 : m_at k_M_live 12 = some (.bipush 20, 2, 0) := m_at_of r_M_live (by decide +kernel)
theorem i_M_live_14 : m_at k_M_live 14 = some (.iload_n 1, 1, 0) := m_at_of r_M_live (by decide +kernel)
theorem i_M_live_15 : m_at k_M_live 15 = some (.iadd, 1, 0) := m_at_of r_M_live (by decide +kernel)
theorem i_M_live_16 : m_at k_M_live 16 = some (.iaload, 1, 0) := m_at_of r_M_live (by decide +kernel)
theorem i_M_live_17 : m_at k_M_live 17 = some (.aload_n 0, 1, 0) := m_at_of r_M_live (by decide +kernel)
theorem i_M_live_18 : m_at k_M_live 18 = some (.iload_n 1, 1, 0) := m_at_of r_M_live (by decide +kernel)
theorem i_M_live_19 : m_at k_M_live 19 = some (.invokevirtual 333, 3, 218) := m_at_of r_M_live (by decide +kernel)
theorem i_M_live_22 : m_at k_M_live 22 = some (.iadd, 1, 0) := m_at_of r_M_live (by decide +kernel)
theorem i_M_live_23 : m_at k_M_live 23 = some (.i2l, 1, 0) := m_at_of r_M_live (by decide +kernel)
theorem i_M_live_24 : m_at k_M_live 24 = some (.iconst 0, 1, 0) := m_at_of r_M_live (by decide +kernel)
theorem i_M_live_25 : m_at k_M_live 25 = some (.sipush 9999, 3, 0) := m_at_of r_M_live (by decide +kernel)
theorem i_M_live_28 : m_at k_M_live 28 = some (.invokestatic 310, 3, 273) := m_at_of r_M_live (by decide +kernel)
theorem i_M_live_31 : m_at k_M_live 31 = some (.iastore, 1, 0) := m_at_of r_M_live (by decide +kernel)
theorem i_M_live_32 : m_at k_M_live 32 = some (.aload_n 0, 1, 0) := m_at_of r_M_live (by decide +kernel)
theorem i_M_live_33 : m_at k_M_live 33 = some (.getfield 47, 3, 75) := m_at_of r_M_live (by decide +kernel)
theorem i_M_live_36 : m_at k_M_live 36 = some (.iload_n 1, 1, 0) := m_at_of r_M_live (by decide +kernel)
theorem i_M_live_37 : m_at k_M_live 37 = some (.iconst 0, 1, 0) := m_at_of r_M_live (by decide +kernel)
theorem i_M_live_38 : m_at k_M_live 38 = some (.iastore, 1, 0) := m_at_of r_M_live (by decide +kernel)
theorem i_M_live_39 : m_at k_M_live 39 = some (.aload_n 0, 1, 0) := m_at_of r_M_live (by decide +kernel)
theorem i_M_live_40 : m_at k_M_live 40 = some (.iload_n 1, 1, 0) := m_at_of r_M_live (by decide +kernel)
theorem i_M_live_41 : m_at k_M_live 41 = some (.invokevirtual 314, 3, 205) := m_at_of r_M_live (by decide +kernel)
theorem i_M_live_44 : m_at k_M_live 44 = some (.ifCond .eq (15), 3, 0) := m_at_of r_M_live (by decide +kernel)
theorem i_M_live_47 : m_at k_M_live 47 = some (.aload_n 0, 1, 0) := m_at_of r_M_live (by decide +kernel)
theorem i_M_live_48 : m_at k_M_live 48 = some (.getfield 7, 3, 0) := m_at_of r_M_live (by decide +kernel)
theorem i_M_live_51 : m_at k_M_live 51 = some (.bipush 13, 2, 0) := m_at_of r_M_live (by decide +kernel)
theorem i_M_live_53 : m_at k_M_live 53 = some (.iload_n 1, 1, 0) := m_at_of r_M_live (by decide +kernel)
theorem i_M_live_54 : m_at k_M_live 54 = some (.iadd, 1, 0) := m_at_of r_M_live (by decide +kernel)
theorem i_M_live_55 : m_at k_M_live 55 = some (.iaload, 1, 0) := m_at_of r_M_live (by decide +kernel)
theorem i_M_live_56 : m_at k_M_live 56 = some (.ifCond .ne (4), 3, 0) := m_at_of r_M_live (by decide +kernel)
theorem i_M_live_59 : m_at k_M_live 59 = some (.return_, 1, 0) := m_at_of r_M_live (by decide +kernel)
theorem i_M_live_60 : m_at k_M_live 60 = some (.aload_n 0, 1, 0) := m_at_of r_M_live (by decide +kernel)
theorem i_M_live_61 : m_at k_M_live 61 = some (.getfield 47, 3, 75) := m_at_of r_M_live (by decide +kernel)
theorem i_M_live_64 : m_at k_M_live 64 = some (.iload_n 1, 1, 0) := m_at_of r_M_live (by decide +kernel)
theorem i_M_live_65 : m_at k_M_live 65 = some (.aload_n 0, 1, 0) := m_at_of r_M_live (by decide +kernel)
theorem i_M_live_66 : m_at k_M_live 66 = some (.iload_n 1, 1, 0) := m_at_of r_M_live (by decide +kernel)
theorem i_M_live_67 : m_at k_M_live 67 = some (.invokevirtual 336, 3, 219) := m_at_of r_M_live (by decide +kernel)
theorem i_M_live_70 : m_at k_M_live 70 = some (.i2l, 1, 0) := m_at_of r_M_live (by decide +kernel)
theorem i_M_live_71 : m_at k_M_live 71 = some (.iconst 0, 1, 0) := m_at_of r_M_live (by decide +kernel)
theorem i_M_live_72 : m_at k_M_live 72 = some (.aload_n 0, 1, 0) := m_at_of r_M_live (by decide +kernel)
theorem i_M_live_73 : m_at k_M_live 73 = some (.getfield 7, 3, 0) := m_at_of r_M_live (by decide +kernel)
theorem i_M_live_76 : m_at k_M_live 76 = some (.bipush 13, 2, 0) := m_at_of r_M_live (by decide +kernel)
theorem i_M_live_78 : m_at k_M_live 78 = some (.iload_n 1, 1, 0) := m_at_of r_M_live (by decide +kernel)
theorem i_M_live_79 : m_at k_M_live 79 = some (.iadd, 1, 0) := m_at_of r_M_live (by decide +kernel)
theorem i_M_live_80 : m_at k_M_live 80 = some (.iaload, 1, 0) := m_at_of r_M_live (by decide +kernel)
theorem i_M_live_81 : m_at k_M_live 81 = some (.invokestatic 310, 3, 273) := m_at_of r_M_live (by decide +kernel)
theorem i_M_live_84 : m_at k_M_live 84 = some (.iastore, 1, 0) := m_at_of r_M_live (by decide +kernel)
theorem i_M_live_85 : m_at k_M_live 85 = some (.aload_n 0, 1, 0) := m_at_of r_M_live (by decide +kernel)
theorem i_M_live_86 : m_at k_M_live 86 = some (.getfield 7, 3, 0) := m_at_of r_M_live (by decide +kernel)
theorem i_M_live_89 : m_at k_M_live 89 = some (.bipush 13, 2, 0) := m_at_of r_M_live (by decide +kernel)
theorem i_M_live_91 : m_at k_M_live 91 = some (.iload_n 1, 1, 0) := m_at_of r_M_live (by decide +kernel)
theorem i_M_live_92 : m_at k_M_live 92 = some (.iadd, 1, 0) := m_at_of r_M_live (by decide +kernel)
theorem i_M_live_93 : m_at k_M_live 93 = some (.dup2, 1, 0) := m_at_of r_M_live (by decide +kernel)
theorem i_M_live_94 : m_at k_M_live 94 = some (.iaload, 1, 0) := m_at_of r_M_live (by decide +kernel)
theorem i_M_live_95 : m_at k_M_live 95 = some (.aload_n 0, 1, 0) := m_at_of r_M_live (by decide +kernel)
theorem i_M_live_96 : m_at k_M_live 96 = some (.getfield 47, 3, 75) := m_at_of r_M_live (by decide +kernel)
theorem i_M_live_99 : m_at k_M_live 99 = some (.iload_n 1, 1, 0) := m_at_of r_M_live (by decide +kernel)
theorem i_M_live_100 : m_at k_M_live 100 = some (.iaload, 1, 0) := m_at_of r_M_live (by decide +kernel)
theorem i_M_live_101 : m_at k_M_live 101 = some (.isub, 1, 0) := m_at_of r_M_live (by decide +kernel)
theorem i_M_live_102 : m_at k_M_live 102 = some (.iastore, 1, 0) := m_at_of r_M_live (by decide +kernel)
theorem i_M_live_103 : m_at k_M_live 103 = some (.aload_n 0, 1, 0) := m_at_of r_M_live (by decide +kernel)
theorem i_M_live_104 : m_at k_M_live 104 = some (.getfield 47, 3, 75) := m_at_of r_M_live (by decide +kernel)
theorem i_M_live_107 : m_at k_M_live 107 = some (.iload_n 1, 1, 0) := m_at_of r_M_live (by decide +kernel)
theorem i_M_live_108 : m_at k_M_live 108 = some (.iaload, 1, 0) := m_at_of r_M_live (by decide +kernel)
theorem i_M_live_109 : m_at k_M_live 109 = some (.ifCond .eq (10), 3, 0) := m_at_of r_M_live (by decide +kernel)
theorem i_M_live_112 : m_at k_M_live 112 = some (.aload_n 0, 1, 0) := m_at_of r_M_live (by decide +kernel)
theorem i_M_live_113 : m_at k_M_live 113 = some (.getfield 43, 3, 78) := m_at_of r_M_live (by decide +kernel)
theorem i_M_live_116 : m_at k_M_live 116 = some (.ifCond .ne (4), 3, 0) := m_at_of r_M_live (by decide +kernel)
theorem i_M_live_119 : m_at k_M_live 119 = some (.return_, 1, 0) := m_at_of r_M_live (by decide +kernel)
theorem i_M_live_120 : m_at k_M_live 120 = some (.aload_n 0, 1, 0) := m_at_of r_M_live (by decide +kernel)
theorem i_M_live_121 : m_at k_M_live 121 = some (.getfield 7, 3, 0) := m_at_of r_M_live (by decide +kernel)
theorem i_M_live_124 : m_at k_M_live 124 = some (.sipush 3300, 3, 0) := m_at_of r_M_live (by decide +kernel)
theorem i_M_live_127 : m_at k_M_live 127 = some (.aload_n 0, 1, 0) := m_at_of r_M_live (by decide +kernel)
theorem i_M_live_128 : m_at k_M_live 128 = some (.getfield 7, 3, 0) := m_at_of r_M_live (by decide +kernel)
theorem i_M_live_131 : m_at k_M_live 131 = some (.bipush 12, 2, 0) := m_at_of r_M_live (by decide +kernel)
theorem i_M_live_133 : m_at k_M_live 133 = some (.iaload, 1, 0) := m_at_of r_M_live (by decide +kernel)
theorem i_M_live_134 : m_at k_M_live 134 = some (.sipush 8430, 3, 0) := m_at_of r_M_live (by decide +kernel)
theorem i_M_live_137 : m_at k_M_live 137 = some (.irem, 1, 0) := m_at_of r_M_live (by decide +kernel)
theorem i_M_live_138 : m_at k_M_live 138 = some (.iadd, 1, 0) := m_at_of r_M_live (by decide +kernel)
theorem i_M_live_139 : m_at k_M_live 139 = some (.aload_n 0, 1, 0) := m_at_of r_M_live (by decide +kernel)
theorem i_M_live_140 : m_at k_M_live 140 = some (.getfield 7, 3, 0) := m_at_of r_M_live (by decide +kernel)
theorem i_M_live_143 : m_at k_M_live 143 = some (.bipush 8, 2, 0) := m_at_of r_M_live (by decide +kernel)
theorem i_M_live_145 : m_at k_M_live 145 = some (.iaload, 1, 0) := m_at_of r_M_live (by decide +kernel)
theorem i_M_live_146 : m_at k_M_live 146 = some (.bipush 8, 2, 0) := m_at_of r_M_live (by decide +kernel)
theorem i_M_live_148 : m_at k_M_live 148 = some (.imul, 1, 0) := m_at_of r_M_live (by decide +kernel)
theorem i_M_live_149 : m_at k_M_live 149 = some (.iload_n 1, 1, 0) := m_at_of r_M_live (by decide +kernel)
theorem i_M_live_150 : m_at k_M_live 150 = some (.iadd, 1, 0) := m_at_of r_M_live (by decide +kernel)
theorem i_M_live_151 : m_at k_M_live 151 = some (.bipush 100, 2, 0) := m_at_of r_M_live (by decide +kernel)
theorem i_M_live_153 : m_at k_M_live 153 = some (.imul, 1, 0) := m_at_of r_M_live (by decide +kernel)
theorem i_M_live_154 : m_at k_M_live 154 = some (.aload_n 0, 1, 0) := m_at_of r_M_live (by decide +kernel)
theorem i_M_live_155 : m_at k_M_live 155 = some (.getfield 47, 3, 75) := m_at_of r_M_live (by decide +kernel)
theorem i_M_live_158 : m_at k_M_live 158 = some (.iload_n 1, 1, 0) := m_at_of r_M_live (by decide +kernel)
theorem i_M_live_159 : m_at k_M_live 159 = some (.iaload, 1, 0) := m_at_of r_M_live (by decide +kernel)
theorem i_M_live_160 : m_at k_M_live 160 = some (.iadd, 1, 0) := m_at_of r_M_live (by decide +kernel)
theorem i_M_live_161 : m_at k_M_live 161 = some (.iastore, 1, 0) := m_at_of r_M_live (by decide +kernel)
theorem i_M_live_162 : m_at k_M_live 162 = some (.aload_n 0, 1, 0) := m_at_of r_M_live (by decide +kernel)
theorem i_M_live_163 : m_at k_M_live 163 = some (.getfield 7, 3, 0) := m_at_of r_M_live (by decide +kernel)
theorem i_M_live_166 : m_at k_M_live 166 = some (.bipush 12, 2, 0) := m_at_of r_M_live (by decide +kernel)
theorem i_M_live_168 : m_at k_M_live 168 = some (.dup2, 1, 0) := m_at_of r_M_live (by decide +kernel)
theorem i_M_live_169 : m_at k_M_live 169 = some (.iaload, 1, 0) := m_at_of r_M_live (by decide +kernel)
theorem i_M_live_170 : m_at k_M_live 170 = some (.iconst 1, 1, 0) := m_at_of r_M_live (by decide +kernel)
theorem i_M_live_171 : m_at k_M_live 171 = some (.iadd, 1, 0) := m_at_of r_M_live (by decide +kernel)
theorem i_M_live_172 : m_at k_M_live 172 = some (.iastore, 1, 0) := m_at_of r_M_live (by decide +kernel)
theorem i_M_live_173 : m_at k_M_live 173 = some (.return_, 1, 0) := m_at_of r_M_live (by decide +kernel)
set_option maxRecDepth 20000 in
set_option maxHeartbeats 1000000 in
theorem E_M_live (x : m_X) (s : m_H) (w : Nat) (n1 : Int32) : m_M x k_M_live [.ref w, .int n1] s = if m_isO s w 11 = true then ((m_fR s 11 0 w).bind fun v1 => (m_fR s 11 0 w).bind fun v9 => (m_ia x s v9 ((20 : Int32) + n1)).bind fun v16 => m_bI (m_M x k_M_chillOf [.ref w, .int n1] s) fun v19 s19 => m_bI (m_M x k_M_cut [.long (v16 + v19).toInt64, .int 0, .int 9999] s19) fun v28 s28 => (m_is s28 v1 ((20 : Int32) + n1) v28).bind fun s31 => (m_fR s31 11 24 w).bind fun v33 => (m_is s31 v33 n1 0).bind fun s38 => m_bI (m_M x k_M_rightsOf [.ref w, .int n1] s38) fun v41 s41 => if v41 = 0 then (some (none, s41)) else (m_fR s41 11 0 w).bind fun v48 => (m_ia x s41 v48 ((13 : Int32) + n1)).bind fun v55 => if v55 = 0 then (some (none, s41)) else (m_fR s41 11 24 w).bind fun v61 => m_bI (m_M x k_M_fineOf [.ref w, .int n1] s41) fun v67 s67 => (m_fR s67 11 0 w).bind fun v73 => (m_ia x s67 v73 ((13 : Int32) + n1)).bind fun v80 => m_bI (m_M x k_M_cut [.long v67.toInt64, .int 0, .int v80] s67) fun v81 s81 => (m_is s81 v61 n1 v81).bind fun s84 => (m_fR s84 11 0 w).bind fun v86 => (m_ia x s84 v86 ((13 : Int32) + n1)).bind fun v94 => (m_fR s84 11 24 w).bind fun v96 => (m_ia x s84 v96 n1).bind fun v100 => (m_is s84 v86 ((13 : Int32) + n1) (v94 - v100)).bind fun s102 => (m_fR s102 11 24 w).bind fun v104 => (m_ia x s102 v104 n1).bind fun v108 => if v108 = 0 then (some (none, s102)) else (m_fI s102 11 23 w).bind fun v113 => if v113 = 0 then (some (none, s102)) else (m_fR s102 11 0 w).bind fun v121 => (m_fR s102 11 0 w).bind fun v128 => (m_ia x s102 v128 12).bind fun v133 => (m_fR s102 11 0 w).bind fun v140 => (m_ia x s102 v140 8).bind fun v145 => (m_fR s102 11 24 w).bind fun v155 => (m_ia x s102 v155 n1).bind fun v159 => (m_is s102 v121 ((3300 : Int32) + (v133 - v133 / (8430 : Int32) * (8430 : Int32))) ((((v145 * (8 : Int32)) + n1) * (100 : Int32)) + v159)).bind fun s161 => (m_fR s161 11 0 w).bind fun v163 => (m_ia x s161 v163 12).bind fun v169 => (m_is s161 v163 12 (v169 + (1 : Int32))).bind fun s172 => some (none, s172)) else none := by
  refine e_M1 (L0 := [some (.ref w), some (.int n1)]) rfl (by decide +kernel) rfl (q_M_live _) rfl ?_
  refine e_aload_n i_M_live_0 rfl ?_
  refine e_getR i_M_live_1 lf_0 (by decide) ft_11_0 (fun v1 => ?_)
  refine e_bipush (v := 20) i_M_live_4 (by decide) ?_
  refine e_iload_n i_M_live_6 rfl ?_
  refine e_iadd i_M_live_7 ?_
  refine e_aload_n i_M_live_8 rfl ?_
  refine e_getR i_M_live_9 lf_0 (by decide) ft_11_0 (fun v9 => ?_)
  refine e_bipush (v := 20) i_M_live_12 (by decide) ?_
  refine e_iload_n i_M_live_14 rfl ?_
  refine e_iadd i_M_live_15 ?_
  refine e_iald i_M_live_16 (fun v16 => ?_)
  refine e_aload_n i_M_live_17 rfl ?_
  refine e_iload_n i_M_live_18 rfl ?_
  refine e_callI (as := [.ref w, .int n1]) (st' := [.int v16, .int ((20 : Int32) + n1), .ref v1]) i_M_live_19 lm_218 (Or.inr (Or.inl ⟨rfl, rfl⟩)) w_M_chillOf rfl rfl rfl (Nat.le_of_ble_eq_true rfl) (Nat.le_of_ble_eq_true rfl) (m_rlt (q_M_chillOf _) (by decide)) rfl (fun v19 s19 => ?_)
  refine e_iadd i_M_live_22 ?_
  refine e_i2l i_M_live_23 ?_
  refine e_iconst (v := 0) i_M_live_24 (by decide) ?_
  refine e_sipush (v := 9999) i_M_live_25 (by decide) ?_
  refine e_callI (as := [.long (v16 + v19).toInt64, .int 0, .int 9999]) (st' := [.int ((20 : Int32) + n1), .ref v1]) i_M_live_28 lm_273 (Or.inl ⟨rfl, rfl⟩) w_M_cut rfl rfl rfl (Nat.le_of_ble_eq_true rfl) (Nat.le_of_ble_eq_true rfl) (m_rlt (q_M_cut _) (by decide)) rfl (fun v28 s28 => ?_)
  refine e_iast i_M_live_31 (fun s31 => ?_)
  refine e_aload_n i_M_live_32 rfl ?_
  refine e_getR i_M_live_33 lf_75 (by decide) ft_11_24 (fun v33 => ?_)
  refine e_iload_n i_M_live_36 rfl ?_
  refine e_iconst (v := 0) i_M_live_37 (by decide) ?_
  refine e_iast i_M_live_38 (fun s38 => ?_)
  refine e_aload_n i_M_live_39 rfl ?_
  refine e_iload_n i_M_live_40 rfl ?_
  refine e_callI (as := [.ref w, .int n1]) (st' := []) i_M_live_41 lm_205 (Or.inr (Or.inl ⟨rfl, rfl⟩)) w_M_rightsOf rfl rfl rfl (Nat.le_of_ble_eq_true rfl) (Nat.le_of_ble_eq_true rfl) (m_rlt (q_M_rightsOf _) (by decide)) rfl (fun v41 s41 => ?_)
  refine e_ifeq (t := 59) i_M_live_44 (by decide) ?_ ?_
  · exact e_vret i_M_live_59 rfl
  · refine e_aload_n i_M_live_47 rfl ?_
    refine e_getR i_M_live_48 lf_0 (by decide) ft_11_0 (fun v48 => ?_)
    refine e_bipush (v := 13) i_M_live_51 (by decide) ?_
    refine e_iload_n i_M_live_53 rfl ?_
    refine e_iadd i_M_live_54 ?_
    refine e_iald i_M_live_55 (fun v55 => ?_)
    refine e_ifne (t := 60) i_M_live_56 (by decide) ?_ ?_
    · refine e_aload_n i_M_live_60 rfl ?_
      refine e_getR i_M_live_61 lf_75 (by decide) ft_11_24 (fun v61 => ?_)
      refine e_iload_n i_M_live_64 rfl ?_
      refine e_aload_n i_M_live_65 rfl ?_
      refine e_iload_n i_M_live_66 rfl ?_
      refine e_callI (as := [.ref w, .int n1]) (st' := [.int n1, .ref v61]) i_M_live_67 lm_219 (Or.inr (Or.inl ⟨rfl, rfl⟩)) w_M_fineOf rfl rfl rfl (Nat.le_of_ble_eq_true rfl) (Nat.le_of_ble_eq_true rfl) (m_rlt (q_M_fineOf _) (by decide)) rfl (fun v67 s67 => ?_)
      refine e_i2l i_M_live_70 ?_
      refine e_iconst (v := 0) i_M_live_71 (by decide) ?_
      refine e_aload_n i_M_live_72 rfl ?_
      refine e_getR i_M_live_73 lf_0 (by decide) ft_11_0 (fun v73 => ?_)
      refine e_bipush (v := 13) i_M_live_76 (by decide) ?_
      refine e_iload_n i_M_live_78 rfl ?_
      refine e_iadd i_M_live_79 ?_
      refine e_iald i_M_live_80 (fun v80 => ?_)
      refine e_callI (as := [.long v67.toInt64, .int 0, .int v80]) (st' := [.int n1, .ref v61]) i_M_live_81 lm_273 (Or.inl ⟨rfl, rfl⟩) w_M_cut rfl rfl rfl (Nat.le_of_ble_eq_true rfl) (Nat.le_of_ble_eq_true rfl) (m_rlt (q_M_cut _) (by decide)) rfl (fun v81 s81 => ?_)
      refine e_iast i_M_live_84 (fun s84 => ?_)
      refine e_aload_n i_M_live_85 rfl ?_
      refine e_getR i_M_live_86 lf_0 (by decide) ft_11_0 (fun v86 => ?_)
      refine e_bipush (v := 13) i_M_live_89 (by decide) ?_
      refine e_iload_n i_M_live_91 rfl ?_
      refine e_iadd i_M_live_92 ?_
      refine e_dup2 i_M_live_93 ⟨rfl, rfl⟩ ?_
      refine e_iald i_M_live_94 (fun v94 => ?_)
      refine e_aload_n i_M_live_95 rfl ?_
      refine e_getR i_M_live_96 lf_75 (by decide) ft_11_24 (fun v96 => ?_)
      refine e_iload_n i_M_live_99 rfl ?_
      refine e_iald i_M_live_100 (fun v100 => ?_)
      refine e_isub i_M_live_101 ?_
      refine e_iast i_M_live_102 (fun s102 => ?_)
      refine e_aload_n i_M_live_103 rfl ?_
      refine e_getR i_M_live_104 lf_75 (by decide) ft_11_24 (fun v104 => ?_)
      refine e_iload_n i_M_live_107 rfl ?_
      refine e_iald i_M_live_108 (fun v108 => ?_)
      refine e_ifeq (t := 119) i_M_live_109 (by decide) ?_ ?_
      · exact e_vret i_M_live_119 rfl
      · refine e_aload_n i_M_live_112 rfl ?_
        refine e_getI i_M_live_113 lf_78 (by decide) (Or.inr ft_11_23) (fun v113 => ?_)
        refine e_ifne (t := 120) i_M_live_116 (by decide) ?_ ?_
        · refine e_aload_n i_M_live_120 rfl ?_
          refine e_getR i_M_live_121 lf_0 (by decide) ft_11_0 (fun v121 => ?_)
          refine e_sipush (v := 3300) i_M_live_124 (by decide) ?_
          refine e_aload_n i_M_live_127 rfl ?_
          refine e_getR i_M_live_128 lf_0 (by decide) ft_11_0 (fun v128 => ?_)
          refine e_bipush (v := 12) i_M_live_131 (by decide) ?_
          refine e_iald i_M_live_133 (fun v133 => ?_)
          refine e_sipush (v := 8430) i_M_live_134 (by decide) ?_
          refine e_iremc i_M_live_137 (by decide) ?_
          refine e_iadd i_M_live_138 ?_
          refine e_aload_n i_M_live_139 rfl ?_
          refine e_getR i_M_live_140 lf_0 (by decide) ft_11_0 (fun v140 => ?_)
          refine e_bipush (v := 8) i_M_live_143 (by decide) ?_
          refine e_iald i_M_live_145 (fun v145 => ?_)
          refine e_bipush (v := 8) i_M_live_146 (by decide) ?_
          refine e_imul i_M_live_148 ?_
          refine e_iload_n i_M_live_149 rfl ?_
          refine e_iadd i_M_live_150 ?_
          refine e_bipush (v := 100) i_M_live_151 (by decide) ?_
          refine e_imul i_M_live_153 ?_
          refine e_aload_n i_M_live_154 rfl ?_
          refine e_getR i_M_live_155 lf_75 (by decide) ft_11_24 (fun v155 => ?_)
          refine e_iload_n i_M_live_158 rfl ?_
          refine e_iald i_M_live_159 (fun v159 => ?_)
          refine e_iadd i_M_live_160 ?_
          refine e_iast i_M_live_161 (fun s161 => ?_)
          refine e_aload_n i_M_live_162 rfl ?_
          refine e_getR i_M_live_163 lf_0 (by decide) ft_11_0 (fun v163 => ?_)
          refine e_bipush (v := 12) i_M_live_166 (by decide) ?_
          refine e_dup2 i_M_live_168 ⟨rfl, rfl⟩ ?_
          refine e_iald i_M_live_169 (fun v169 => ?_)
          refine e_iconst (v := 1) i_M_live_170 (by decide) ?_
          refine e_iadd i_M_live_171 ?_
          refine e_iast i_M_live_172 (fun s172 => ?_)
          exact e_vret i_M_live_173 rfl
        · exact e_vret i_M_live_119 rfl
    · exact e_vret i_M_live_59 rfl
theorem i_M_fineOf_0 : m_at k_M_fineOf 0 = some (.aload_n 0, 1, 0) := m_at_of r_M_fineOf (by decide +kernel)
theorem i_M_fineOf_1 : m_at k_M_fineOf 1 = some (.iload_n 1, 1, 0) := m_at_of r_M_fineOf (by decide +kernel)
theorem i_M_fineOf_2 : m_at k_M_fineOf 2 = some (.invokevirtual 317, 3, 276) := m_at_of r_M_fineOf (by decide +kernel)
theorem i_M_fineOf_5 : m_at k_M_fineOf 5 = some (.aload_n 0, 1, 0) := m_at_of r_M_fineOf (by decide +kernel)
theorem i_M_fineOf_6 : m_at k_M_fineOf 6 = some (.aload_n 0, 1, 0) := m_at_of r_M_fineOf (by decide +kernel)
theorem i_M_fineOf_7 : m_at k_M_fineOf 7 = some (.getfield 7, 3, 0) := m_at_of r_M_fineOf (by decide +kernel)
theorem i_M_fineOf_10 : m_at k_M_fineOf 10 = some (.iconst 2, 1, 0) := m_at_of r_M_fineOf (by decide +kernel)
theorem i_M_fineOf_11 : m_at k_M_fineOf 11 = some (.iaload, 1, 0) := m_at_of r_M_fineOf (by decide +kernel)
theorem i_M_fineOf_12 : m_at k_M_fineOf 12 = some (.iconst 1, 1, 0) := m_at_of r_M_fineOf (by decide +kernel)
theorem i_M_fineOf_13 : m_at k_M_fineOf 13 = some (.aload_n 0, 1, 0) := m_at_of r_M_fineOf (by decide +kernel)
theorem i_M_fineOf_14 : m_at k_M_fineOf 14 = some (.getfield 32, 3, 82) := m_at_of r_M_fineOf (by decide +kernel)
theorem i_M_fineOf_17 : m_at k_M_fineOf 17 = some (.bipush 6, 2, 0) := m_at_of r_M_fineOf (by decide +kernel)
theorem i_M_fineOf_19 : m_at k_M_fineOf 19 = some (.iaload, 1, 0) := m_at_of r_M_fineOf (by decide +kernel)
theorem i_M_fineOf_20 : m_at k_M_fineOf 20 = some (.bipush 99, 2, 0) := m_at_of r_M_fineOf (by decide +kernel)
theorem i_M_fineOf_22 : m_at k_M_fineOf 22 = some (.invokevirtual 320, 3, 275) := m_at_of r_M_fineOf (by decide +kernel)
theorem i_M_fineOf_25 : m_at k_M_fineOf 25 = some (.ireturn, 1, 0) := m_at_of r_M_fineOf (by decide +kernel)
set_option maxRecDepth 20000 in
set_option maxHeartbeats 1000000 in
theorem E_M_fineOf (x : m_X) (s : m_H) (w : Nat) (n1 : Int32) : m_M x k_M_fineOf [.ref w, .int n1] s = if m_isO s w 11 = true then (m_bV (m_M x k_M_nameOne [.ref w, .int n1] s) fun s2 => (m_fR s2 11 0 w).bind fun v7 => (m_ia x s2 v7 2).bind fun v11 => (m_fR s2 11 20 w).bind fun v14 => (m_ia x s2 v14 6).bind fun v19 => m_bI (m_M x k_M_says [.ref w, .int v11, .int 1, .int v19, .int 99] s2) fun v22 s22 => some (some (.int v22), s22)) else none := by
  refine e_M1 (L0 := [some (.ref w), some (.int n1)]) rfl (by decide +kernel) rfl (q_M_fineOf _) rfl ?_
  refine e_aload_n i_M_fineOf_0 rfl ?_
  refine e_iload_n i_M_fineOf_1 rfl ?_
  refine e_callV (as := [.ref w, .int n1]) (st' := []) i_M_fineOf_2 lm_276 (Or.inr (Or.inl ⟨rfl, rfl⟩)) w_M_nameOne rfl rfl rfl (Nat.le_of_ble_eq_true rfl) (Nat.le_of_ble_eq_true rfl) (m_rlt (q_M_nameOne _) (by decide)) rfl (fun s2 => ?_)
  refine e_aload_n i_M_fineOf_5 rfl ?_
  refine e_aload_n i_M_fineOf_6 rfl ?_
  refine e_getR i_M_fineOf_7 lf_0 (by decide) ft_11_0 (fun v7 => ?_)
  refine e_iconst (v := 2) i_M_fineOf_10 (by decide) ?_
  refine e_iald i_M_fineOf_11 (fun v11 => ?_)
  refine e_iconst (v := 1) i_M_fineOf_12 (by decide) ?_
  refine e_aload_n i_M_fineOf_13 rfl ?_
  refine e_getR i_M_fineOf_14 lf_82 (by decide) ft_11_20 (fun v14 => ?_)
  refine e_bipush (v := 6) i_M_fineOf_17 (by decide) ?_
  refine e_iald i_M_fineOf_19 (fun v19 => ?_)
  refine e_bipush (v := 99) i_M_fineOf_20 (by decide) ?_
  refine e_callI (as := [.ref w, .int v11, .int 1, .int v19, .int 99]) (st' := []) i_M_fineOf_22 lm_275 (Or.inr (Or.inl ⟨rfl, rfl⟩)) w_M_says rfl rfl rfl (Nat.le_of_ble_eq_true rfl) (Nat.le_of_ble_eq_true rfl) (m_rlt (q_M_says _) (by decide)) rfl (fun v22 s22 => ?_)
  exact e_iretI i_M_fineOf_25 rfl
theorem i_M_chillOf_0 : m_at k_M_chillOf 0 = some (.aload_n 0, 1, 0) := m_at_of r_M_chillOf (by decide +kernel)
theorem i_M_chillOf_1 : m_at k_M_chillOf 1 = some (.iload_n 1, 1, 0) := m_at_of r_M_chillOf (by decide +kernel)
theorem i_M_chillOf_2 : m_at k_M_chillOf 2 = some (.invokevirtual 317, 3, 276) := m_at_of r_M_chillOf (by decide +kernel)
theorem i_M_chillOf_5 : m_at k_M_chillOf 5 = some (.aload_n 0, 1, 0) := m_at_of r_M_chillOf (by decide +kernel)
theorem i_M_chillOf_6 : m_at k_M_chillOf 6 = some (.aload_n 0, 1, 0) := m_at_of r_M_chillOf (by decide +kernel)
theorem i_M_chillOf_7 : m_at k_M_chillOf 7 = some (.getfield 7, 3, 0) := m_at_of r_M_chillOf (by decide +kernel)
theorem i_M_chillOf_10 : m_at k_M_chillOf 10 = some (.iconst 2, 1, 0) := m_at_of r_M_chillOf (by decide +kernel)
theorem i_M_chillOf_11 : m_at k_M_chillOf 11 = some (.iaload, 1, 0) := m_at_of r_M_chillOf (by decide +kernel)
theorem i_M_chillOf_12 : m_at k_M_chillOf 12 = some (.iconst 0, 1, 0) := m_at_of r_M_chillOf (by decide +kernel)
theorem i_M_chillOf_13 : m_at k_M_chillOf 13 = some (.aload_n 0, 1, 0) := m_at_of r_M_chillOf (by decide +kernel)
theorem i_M_chillOf_14 : m_at k_M_chillOf 14 = some (.getfield 7, 3, 0) := m_at_of r_M_chillOf (by decide +kernel)
theorem i_M_chillOf_17 : m_at k_M_chillOf 17 = some (.bipush 9, 2, 0) := m_at_of r_M_chillOf (by decide +kernel)
theorem i_M_chillOf_19 : m_at k_M_chillOf 19 = some (.iaload, 1, 0) := m_at_of r_M_chillOf (by decide +kernel)
theorem i_M_chillOf_20 : m_at k_M_chillOf 20 = some (.aload_n 0, 1, 0) := m_at_of r_M_chillOf (by decide +kernel)
theorem i_M_chillOf_21 : m_at k_M_chillOf 21 = some (.getfield 32, 3, 82) := m_at_of r_M_chillOf (by decide +kernel)
theorem i_M_chillOf_24 : m_at k_M_chillOf 24 = some (.bipush 7, 2, 0) := m_at_of r_M_chillOf (by decide +kernel)
theorem i_M_chillOf_26 : m_at k_M_chillOf 26 = some (.iaload, 1, 0) := m_at_of r_M_chillOf (by decide +kernel)
theorem i_M_chillOf_27 : m_at k_M_chillOf 27 = some (.imul, 1, 0) := m_at_of r_M_chillOf (by decide +kernel)
theorem i_M_chillOf_28 : m_at k_M_chillOf 28 = some (.bipush 99, 2, 0) := m_at_of r_M_chillOf (by decide +kernel)
theorem i_M_chillOf_30 : m_at k_M_chillOf 30 = some (.invokevirtual 320, 3, 275) := m_at_of r_M_chillOf (by decide +kernel)
theorem i_M_chillOf_33 : m_at k_M_chillOf 33 = some (.ireturn, 1, 0) := m_at_of r_M_chillOf (by decide +kernel)
set_option maxRecDepth 20000 in
set_option maxHeartbeats 1000000 in
theorem E_M_chillOf (x : m_X) (s : m_H) (w : Nat) (n1 : Int32) : m_M x k_M_chillOf [.ref w, .int n1] s = if m_isO s w 11 = true then (m_bV (m_M x k_M_nameOne [.ref w, .int n1] s) fun s2 => (m_fR s2 11 0 w).bind fun v7 => (m_ia x s2 v7 2).bind fun v11 => (m_fR s2 11 0 w).bind fun v14 => (m_ia x s2 v14 9).bind fun v19 => (m_fR s2 11 20 w).bind fun v21 => (m_ia x s2 v21 7).bind fun v26 => m_bI (m_M x k_M_says [.ref w, .int v11, .int 0, .int (v19 * v26), .int 99] s2) fun v30 s30 => some (some (.int v30), s30)) else none := by
  refine e_M1 (L0 := [some (.ref w), some (.int n1)]) rfl (by decide +kernel) rfl (q_M_chillOf _) rfl ?_
  refine e_aload_n i_M_chillOf_0 rfl ?_
  refine e_iload_n i_M_chillOf_1 rfl ?_
  refine e_callV (as := [.ref w, .int n1]) (st' := []) i_M_chillOf_2 lm_276 (Or.inr (Or.inl ⟨rfl, rfl⟩)) w_M_nameOne rfl rfl rfl (Nat.le_of_ble_eq_true rfl) (Nat.le_of_ble_eq_true rfl) (m_rlt (q_M_nameOne _) (by decide)) rfl (fun s2 => ?_)
  refine e_aload_n i_M_chillOf_5 rfl ?_
  refine e_aload_n i_M_chillOf_6 rfl ?_
  refine e_getR i_M_chillOf_7 lf_0 (by decide) ft_11_0 (fun v7 => ?_)
  refine e_iconst (v := 2) i_M_chillOf_10 (by decide) ?_
  refine e_iald i_M_chillOf_11 (fun v11 => ?_)
  refine e_iconst (v := 0) i_M_chillOf_12 (by decide) ?_
  refine e_aload_n i_M_chillOf_13 rfl ?_
  refine e_getR i_M_chillOf_14 lf_0 (by decide) ft_11_0 (fun v14 => ?_)
  refine e_bipush (v := 9) i_M_chillOf_17 (by decide) ?_
  refine e_iald i_M_chillOf_19 (fun v19 => ?_)
  refine e_aload_n i_M_chillOf_20 rfl ?_
  refine e_getR i_M_chillOf_21 lf_82 (by decide) ft_11_20 (fun v21 => ?_)
  refine e_bipush (v := 7) i_M_chillOf_24 (by decide) ?_
  refine e_iald i_M_chillOf_26 (fun v26 => ?_)
  refine e_imul i_M_chillOf_27 ?_
  refine e_bipush (v := 99) i_M_chillOf_28 (by decide) ?_
  refine e_callI (as := [.ref w, .int v11, .int 0, .int (v19 * v26), .int 99]) (st' := []) i_M_chillOf_30 lm_275 (Or.inr (Or.inl ⟨rfl, rfl⟩)) w_M_says rfl rfl rfl (Nat.le_of_ble_eq_true rfl) (Nat.le_of_ble_eq_true rfl) (m_rlt (q_M_says _) (by decide)) rfl (fun v30 s30 => ?_)
  exact e_iretI i_M_chillOf_33 rfl
theorem i_M_nameOne_0 : m_at k_M_nameOne 0 = some (.aload_n 0, 1, 0) := m_at_of r_M_nameOne (by decide +kernel)
theorem i_M_nameOne_1 : m_at k_M_nameOne 1 = some (.getfield 32, 3, 82) := m_at_of r_M_nameOne (by decide +kernel)
theorem i_M_nameOne_4 : m_at k_M_nameOne 4 = some (.iconst 0, 1, 0) := m_at_of r_M_nameOne (by decide +kernel)
theorem i_M_nameOne_5 : m_at k_M_nameOne 5 = some (.aload_n 0, 1, 0) := m_at_of r_M_nameOne (by decide +kernel)
theorem i_M_nameOne_6 : m_at k_M_nameOne 6 = some (.getfield 7, 3, 0) := m_at_of r_M_nameOne (by decide +kernel)
theorem i_M_nameOne_9 : m_at k_M_nameOne 9 = some (.bipush 8, 2, 0) := m_at_of r_M_nameOne (by decide +kernel)
theorem i_M_nameOne_11 : m_at k_M_nameOne 11 = some (.iaload, 1, 0) := m_at_of r_M_nameOne (by decide +kernel)
theorem i_M_nameOne_12 : m_at k_M_nameOne 12 = some (.iastore, 1, 0) := m_at_of r_M_nameOne (by decide +kernel)
theorem i_M_nameOne_13 : m_at k_M_nameOne 13 = some (.aload_n 0, 1, 0) := m_at_of r_M_nameOne (by decide +kernel)
theorem i_M_nameOne_14 : m_at k_M_nameOne 14 = some (.getfield 32, 3, 82) := m_at_of r_M_nameOne (by decide +kernel)
theorem i_M_nameOne_17 : m_at k_M_nameOne 17 = some (.iconst 1, 1, 0) := m_at_of r_M_nameOne (by decide +kernel)
theorem i_M_nameOne_18 : m_at k_M_nameOne 18 = some (.aload_n 0, 1, 0) := m_at_of r_M_nameOne (by decide +kernel)
theorem i_M_nameOne_19 : m_at k_M_nameOne 19 = some (.getfield 7, 3, 0) := m_at_of r_M_nameOne (by decide +kernel)
theorem i_M_nameOne_22 : m_at k_M_nameOne 22 = some (.bipush 9, 2, 0) := m_at_of r_M_nameOne (by decide +kernel)
theorem i_M_nameOne_24 : m_at k_M_nameOne 24 = some (.iaload, 1, 0) := m_at_of r_M_nameOne (by decide +kernel)
theorem i_M_nameOne_25 : m_at k_M_nameOne 25 = some (.iastore, 1, 0) := m_at_of r_M_nameOne (by decide +kernel)
theorem i_M_nameOne_26 : m_at k_M_nameOne 26 = some (.aload_n 0, 1, 0) := m_at_of r_M_nameOne (by decide +kernel)
theorem i_M_nameOne_27 : m_at k_M_nameOne 27 = some (.getfield 32, 3, 82) := m_at_of r_M_nameOne (by decide +kernel)
theorem i_M_nameOne_30 : m_at k_M_nameOne 30 = some (.iconst 2, 1, 0) := m_at_of r_M_nameOne (by decide +kernel)
theorem i_M_nameOne_31 : m_at k_M_nameOne 31 = some (.iload_n 1, 1, 0) := m_at_of r_M_nameOne (by decide +kernel)
theorem i_M_nameOne_32 : m_at k_M_nameOne 32 = some (.iastore, 1, 0) := m_at_of r_M_nameOne (by decide +kernel)
theorem i_M_nameOne_33 : m_at k_M_nameOne 33 = some (.aload_n 0, 1, 0) := m_at_of r_M_nameOne (by decide +kernel)
theorem i_M_nameOne_34 : m_at k_M_nameOne 34 = some (.getfield 32, 3, 82) := m_at_of r_M_nameOne (by decide +kernel)
theorem i_M_nameOne_37 : m_at k_M_nameOne 37 = some (.iconst 3, 1, 0) := m_at_of r_M_nameOne (by decide +kernel)
theorem i_M_nameOne_38 : m_at k_M_nameOne 38 = some (.aload_n 0, 1, 0) := m_at_of r_M_nameOne (by decide +kernel)
theorem i_M_nameOne_39 : m_at k_M_nameOne 39 = some (.getfield 7, 3, 0) := m_at_of r_M_nameOne (by decide +kernel)
theorem i_M_nameOne_42 : m_at k_M_nameOne 42 = some (.bipush 112, 2, 0) := m_at_of r_M_nameOne (by decide +kernel)
theorem i_M_nameOne_44 : m_at k_M_nameOne 44 = some (.iload_n 1, 1, 0) := m_at_of r_M_nameOne (by decide +kernel)
theorem i_M_nameOne_45 : m_at k_M_nameOne 45 = some (.iadd, 1, 0) := m_at_of r_M_nameOne (by decide +kernel)
theorem i_M_nameOne_46 : m_at k_M_nameOne 46 = some (.iaload, 1, 0) := m_at_of r_M_nameOne (by decide +kernel)
theorem i_M_nameOne_47 : m_at k_M_nameOne 47 = some (.iastore, 1, 0) := m_at_of r_M_nameOne (by decide +kernel)
theorem i_M_nameOne_48 : m_at k_M_nameOne 48 = some (.aload_n 0, 1, 0) := m_at_of r_M_nameOne (by decide +kernel)
theorem i_M_nameOne_49 : m_at k_M_nameOne 49 = some (.getfield 32, 3, 82) := m_at_of r_M_nameOne (by decide +kernel)
theorem i_M_nameOne_52 : m_at k_M_nameOne 52 = some (.iconst 4, 1, 0) := m_at_of r_M_nameOne (by decide +kernel)
theorem i_M_nameOne_53 : m_at k_M_nameOne 53 = some (.aload_n 0, 1, 0) := m_at_of r_M_nameOne (by decide +kernel)
theorem i_M_nameOne_54 : m_at k_M_nameOne 54 = some (.getfield 7, 3, 0) := m_at_of r_M_nameOne (by decide +kernel)
theorem i_M_nameOne_57 : m_at k_M_nameOne 57 = some (.bipush 13, 2, 0) := m_at_of r_M_nameOne (by decide +kernel)
theorem i_M_nameOne_59 : m_at k_M_nameOne 59 = some (.iload_n 1, 1, 0) := m_at_of r_M_nameOne (by decide +kernel)
theorem i_M_nameOne_60 : m_at k_M_nameOne 60 = some (.iadd, 1, 0) := m_at_of r_M_nameOne (by decide +kernel)
theorem i_M_nameOne_61 : m_at k_M_nameOne 61 = some (.iaload, 1, 0) := m_at_of r_M_nameOne (by decide +kernel)
theorem i_M_nameOne_62 : m_at k_M_nameOne 62 = some (.iastore, 1, 0) := m_at_of r_M_nameOne (by decide +kernel)
theorem i_M_nameOne_63 : m_at k_M_nameOne 63 = some (.aload_n 0, 1, 0) := m_at_of r_M_nameOne (by decide +kernel)
theorem i_M_nameOne_64 : m_at k_M_nameOne 64 = some (.getfield 32, 3, 82) := m_at_of r_M_nameOne (by decide +kernel)
theorem i_M_nameOne_67 : m_at k_M_nameOne 67 = some (.iconst 5, 1, 0) := m_at_of r_M_nameOne (by decide +kernel)
theorem i_M_nameOne_68 : m_at k_M_nameOne 68 = some (.aload_n 0, 1, 0) := m_at_of r_M_nameOne (by decide +kernel)
theorem i_M_nameOne_69 : m_at k_M_nameOne 69 = some (.getfield 7, 3, 0) := m_at_of r_M_nameOne (by decide +kernel)
theorem i_M_nameOne_72 : m_at k_M_nameOne 72 = some (.bipush 20, 2, 0) := m_at_of r_M_nameOne (by decide +kernel)
theorem i_M_nameOne_74 : m_at k_M_nameOne 74 = some (.iload_n 1, 1, 0) := m_at_of r_M_nameOne (by decide +kernel)
theorem i_M_nameOne_75 : m_at k_M_nameOne 75 = some (.iadd, 1, 0) := m_at_of r_M_nameOne (by decide +kernel)
theorem i_M_nameOne_76 : m_at k_M_nameOne 76 = some (.iaload, 1, 0) := m_at_of r_M_nameOne (by decide +kernel)
theorem i_M_nameOne_77 : m_at k_M_nameOne 77 = some (.iastore, 1, 0) := m_at_of r_M_nameOne (by decide +kernel)
theorem i_M_nameOne_78 : m_at k_M_nameOne 78 = some (.aload_n 0, 1, 0) := m_at_of r_M_nameOne (by decide +kernel)
theorem i_M_nameOne_79 : m_at k_M_nameOne 79 = some (.getfield 32, 3, 82) := m_at_of r_M_nameOne (by decide +kernel)
theorem i_M_nameOne_82 : m_at k_M_nameOne 82 = some (.bipush 6, 2, 0) := m_at_of r_M_nameOne (by decide +kernel)
theorem i_M_nameOne_84 : m_at k_M_nameOne 84 = some (.aload_n 0, 1, 0) := m_at_of r_M_nameOne (by decide +kernel)
theorem i_M_nameOne_85 : m_at k_M_nameOne 85 = some (.iload_n 1, 1, 0) := m_at_of r_M_nameOne (by decide +kernel)
theorem i_M_nameOne_86 : m_at k_M_nameOne 86 = some (.invokevirtual 314, 3, 205) := m_at_of r_M_nameOne (by decide +kernel)
theorem i_M_nameOne_89 : m_at k_M_nameOne 89 = some (.iastore, 1, 0) := m_at_of r_M_nameOne (by decide +kernel)
theorem i_M_nameOne_90 : m_at k_M_nameOne 90 = some (.aload_n 0, 1, 0) := m_at_of r_M_nameOne (by decide +kernel)
theorem i_M_nameOne_91 : m_at k_M_nameOne 91 = some (.getfield 32, 3, 82) := m_at_of r_M_nameOne (by decide +kernel)
theorem i_M_nameOne_94 : m_at k_M_nameOne 94 = some (.bipush 7, 2, 0) := m_at_of r_M_nameOne (by decide +kernel)
theorem i_M_nameOne_96 : m_at k_M_nameOne 96 = some (.iconst 2, 1, 0) := m_at_of r_M_nameOne (by decide +kernel)
theorem i_M_nameOne_97 : m_at k_M_nameOne 97 = some (.aload_n 0, 1, 0) := m_at_of r_M_nameOne (by decide +kernel)
theorem i_M_nameOne_98 : m_at k_M_nameOne 98 = some (.iload_n 1, 1, 0) := m_at_of r_M_nameOne (by decide +kernel)
theorem i_M_nameOne_99 : m_at k_M_nameOne 99 = some (.invokevirtual 285, 3, 217) := m_at_of r_M_nameOne (by decide +kernel)
theorem i_M_nameOne_102 : m_at k_M_nameOne 102 = some (.isub, 1, 0) := m_at_of r_M_nameOne (by decide +kernel)
theorem i_M_nameOne_103 : m_at k_M_nameOne 103 = some (.aload_n 0, 1, 0) := m_at_of r_M_nameOne (by decide +kernel)
theorem i_M_nameOne_104 : m_at k_M_nameOne 104 = some (.getfield 32, 3, 82) := m_at_of r_M_nameOne (by decide +kernel)
theorem i_M_nameOne_107 : m_at k_M_nameOne 107 = some (.bipush 6, 2, 0) := m_at_of r_M_nameOne (by decide +kernel)
theorem i_M_nameOne_109 : m_at k_M_nameOne 109 = some (.iaload, 1, 0) := m_at_of r_M_nameOne (by decide +kernel)
theorem i_M_nameOne_110 : m_at k_M_nameOne 110 = some (.isub, 1, 0) := m_at_of r_M_nameOne (by decide +kernel)
theorem i_M_nameOne_111 : m_at k_M_nameOne 111 = some (.i2l, 1, 0) := m_at_of r_M_nameOne (by decide +kernel)
theorem i_M_nameOne_112 : m_at k_M_nameOne 112 = some (.iconst 0, 1, 0) := m_at_of r_M_nameOne (by decide +kernel)
theorem i_M_nameOne_113 : m_at k_M_nameOne 113 = some (.iconst 2, 1, 0) := m_at_of r_M_nameOne (by decide +kernel)
theorem i_M_nameOne_114 : m_at k_M_nameOne 114 = some (.invokestatic 310, 3, 273) := m_at_of r_M_nameOne (by decide +kernel)
theorem i_M_nameOne_117 : m_at k_M_nameOne 117 = some (.iastore, 1, 0) := m_at_of r_M_nameOne (by decide +kernel)
theorem i_M_nameOne_118 : m_at k_M_nameOne 118 = some (.return_, 1, 0) := m_at_of r_M_nameOne (by decide +kernel)
set_option maxRecDepth 20000 in
set_option maxHeartbeats 1000000 in
theorem E_M_nameOne (x : m_X) (s : m_H) (w : Nat) (n1 : Int32) : m_M x k_M_nameOne [.ref w, .int n1] s = if m_isO s w 11 = true then ((m_fR s 11 20 w).bind fun v1 => (m_fR s 11 0 w).bind fun v6 => (m_ia x s v6 8).bind fun v11 => (m_is s v1 0 v11).bind fun s12 => (m_fR s12 11 20 w).bind fun v14 => (m_fR s12 11 0 w).bind fun v19 => (m_ia x s12 v19 9).bind fun v24 => (m_is s12 v14 1 v24).bind fun s25 => (m_fR s25 11 20 w).bind fun v27 => (m_is s25 v27 2 n1).bind fun s32 => (m_fR s32 11 20 w).bind fun v34 => (m_fR s32 11 0 w).bind fun v39 => (m_ia x s32 v39 ((112 : Int32) + n1)).bind fun v46 => (m_is s32 v34 3 v46).bind fun s47 => (m_fR s47 11 20 w).bind fun v49 => (m_fR s47 11 0 w).bind fun v54 => (m_ia x s47 v54 ((13 : Int32) + n1)).bind fun v61 => (m_is s47 v49 4 v61).bind fun s62 => (m_fR s62 11 20 w).bind fun v64 => (m_fR s62 11 0 w).bind fun v69 => (m_ia x s62 v69 ((20 : Int32) + n1)).bind fun v76 => (m_is s62 v64 5 v76).bind fun s77 => (m_fR s77 11 20 w).bind fun v79 => m_bI (m_M x k_M_rightsOf [.ref w, .int n1] s77) fun v86 s86 => (m_is s86 v79 6 v86).bind fun s89 => (m_fR s89 11 20 w).bind fun v91 => m_bI (m_M x k_M_leftsOf [.ref w, .int n1] s89) fun v99 s99 => (m_fR s99 11 20 w).bind fun v104 => (m_ia x s99 v104 6).bind fun v109 => m_bI (m_M x k_M_cut [.long (((2 : Int32) - v99) - v109).toInt64, .int 0, .int 2] s99) fun v114 s114 => (m_is s114 v91 7 v114).bind fun s117 => some (none, s117)) else none := by
  refine e_M1 (L0 := [some (.ref w), some (.int n1)]) rfl (by decide +kernel) rfl (q_M_nameOne _) rfl ?_
  refine e_aload_n i_M_nameOne_0 rfl ?_
  refine e_getR i_M_nameOne_1 lf_82 (by decide) ft_11_20 (fun v1 => ?_)
  refine e_iconst (v := 0) i_M_nameOne_4 (by decide) ?_
  refine e_aload_n i_M_nameOne_5 rfl ?_
  refine e_getR i_M_nameOne_6 lf_0 (by decide) ft_11_0 (fun v6 => ?_)
  refine e_bipush (v := 8) i_M_nameOne_9 (by decide) ?_
  refine e_iald i_M_nameOne_11 (fun v11 => ?_)
  refine e_iast i_M_nameOne_12 (fun s12 => ?_)
  refine e_aload_n i_M_nameOne_13 rfl ?_
  refine e_getR i_M_nameOne_14 lf_82 (by decide) ft_11_20 (fun v14 => ?_)
  refine e_iconst (v := 1) i_M_nameOne_17 (by decide) ?_
  refine e_aload_n i_M_nameOne_18 rfl ?_
  refine e_getR i_M_nameOne_19 lf_0 (by decide) ft_11_0 (fun v19 => ?_)
  refine e_bipush (v := 9) i_M_nameOne_22 (by decide) ?_
  refine e_iald i_M_nameOne_24 (fun v24 => ?_)
  refine e_iast i_M_nameOne_25 (fun s25 => ?_)
  refine e_aload_n i_M_nameOne_26 rfl ?_
  refine e_getR i_M_nameOne_27 lf_82 (by decide) ft_11_20 (fun v27 => ?_)
  refine e_iconst (v := 2) i_M_nameOne_30 (by decide) ?_
  refine e_iload_n i_M_nameOne_31 rfl ?_
  refine e_iast i_M_nameOne_32 (fun s32 => ?_)
  refine e_aload_n i_M_nameOne_33 rfl ?_
  refine e_getR i_M_nameOne_34 lf_82 (by decide) ft_11_20 (fun v34 => ?_)
  refine e_iconst (v := 3) i_M_nameOne_37 (by decide) ?_
  refine e_aload_n i_M_nameOne_38 rfl ?_
  refine e_getR i_M_nameOne_39 lf_0 (by decide) ft_11_0 (fun v39 => ?_)
  refine e_bipush (v := 112) i_M_nameOne_42 (by decide) ?_
  refine e_iload_n i_M_nameOne_44 rfl ?_
  refine e_iadd i_M_nameOne_45 ?_
  refine e_iald i_M_nameOne_46 (fun v46 => ?_)
  refine e_iast i_M_nameOne_47 (fun s47 => ?_)
  refine e_aload_n i_M_nameOne_48 rfl ?_
  refine e_getR i_M_nameOne_49 lf_82 (by decide) ft_11_20 (fun v49 => ?_)
  refine e_iconst (v := 4) i_M_nameOne_52 (by decide) ?_
  refine e_aload_n i_M_nameOne_53 rfl ?_
  refine e_getR i_M_nameOne_54 lf_0 (by decide) ft_11_0 (fun v54 => ?_)
  refine e_bipush (v := 13) i_M_nameOne_57 (by decide) ?_
  refine e_iload_n i_M_nameOne_59 rfl ?_
  refine e_iadd i_M_nameOne_60 ?_
  refine e_iald i_M_nameOne_61 (fun v61 => ?_)
  refine e_iast i_M_nameOne_62 (fun s62 => ?_)
  refine e_aload_n i_M_nameOne_63 rfl ?_
  refine e_getR i_M_nameOne_64 lf_82 (by decide) ft_11_20 (fun v64 => ?_)
  refine e_iconst (v := 5) i_M_nameOne_67 (by decide) ?_
  refine e_aload_n i_M_nameOne_68 rfl ?_
  refine e_getR i_M_nameOne_69 lf_0 (by decide) ft_11_0 (fun v69 => ?_)
  refine e_bipush (v := 20) i_M_nameOne_72 (by decide) ?_
  refine e_iload_n i_M_nameOne_74 rfl ?_
  refine e_iadd i_M_nameOne_75 ?_
  refine e_iald i_M_nameOne_76 (fun v76 => ?_)
  refine e_iast i_M_nameOne_77 (fun s77 => ?_)
  refine e_aload_n i_M_nameOne_78 rfl ?_
  refine e_getR i_M_nameOne_79 lf_82 (by decide) ft_11_20 (fun v79 => ?_)
  refine e_bipush (v := 6) i_M_nameOne_82 (by decide) ?_
  refine e_aload_n i_M_nameOne_84 rfl ?_
  refine e_iload_n i_M_nameOne_85 rfl ?_
  refine e_callI (as := [.ref w, .int n1]) (st' := [.int 6, .ref v79]) i_M_nameOne_86 lm_205 (Or.inr (Or.inl ⟨rfl, rfl⟩)) w_M_rightsOf rfl rfl rfl (Nat.le_of_ble_eq_true rfl) (Nat.le_of_ble_eq_true rfl) (m_rlt (q_M_rightsOf _) (by decide)) rfl (fun v86 s86 => ?_)
  refine e_iast i_M_nameOne_89 (fun s89 => ?_)
  refine e_aload_n i_M_nameOne_90 rfl ?_
  refine e_getR i_M_nameOne_91 lf_82 (by decide) ft_11_20 (fun v91 => ?_)
  refine e_bipush (v := 7) i_M_nameOne_94 (by decide) ?_
  refine e_iconst (v := 2) i_M_nameOne_96 (by decide) ?_
  refine e_aload_n i_M_nameOne_97 rfl ?_
  refine e_iload_n i_M_nameOne_98 rfl ?_
  refine e_callI (as := [.ref w, .int n1]) (st' := [.int 2, .int 7, .ref v91]) i_M_nameOne_99 lm_217 (Or.inr (Or.inl ⟨rfl, rfl⟩)) w_M_leftsOf rfl rfl rfl (Nat.le_of_ble_eq_true rfl) (Nat.le_of_ble_eq_true rfl) (m_rlt (q_M_leftsOf _) (by decide)) rfl (fun v99 s99 => ?_)
  refine e_isub i_M_nameOne_102 ?_
  refine e_aload_n i_M_nameOne_103 rfl ?_
  refine e_getR i_M_nameOne_104 lf_82 (by decide) ft_11_20 (fun v104 => ?_)
  refine e_bipush (v := 6) i_M_nameOne_107 (by decide) ?_
  refine e_iald i_M_nameOne_109 (fun v109 => ?_)
  refine e_isub i_M_nameOne_110 ?_
  refine e_i2l i_M_nameOne_111 ?_
  refine e_iconst (v := 0) i_M_nameOne_112 (by decide) ?_
  refine e_iconst (v := 2) i_M_nameOne_113 (by decide) ?_
  refine e_callI (as := [.long (((2 : Int32) - v99) - v109).toInt64, .int 0, .int 2]) (st' := [.int 7, .ref v91]) i_M_nameOne_114 lm_273 (Or.inl ⟨rfl, rfl⟩) w_M_cut rfl rfl rfl (Nat.le_of_ble_eq_true rfl) (Nat.le_of_ble_eq_true rfl) (m_rlt (q_M_cut _) (by decide)) rfl (fun v114 s114 => ?_)
  refine e_iast i_M_nameOne_117 (fun s117 => ?_)
  exact e_vret i_M_nameOne_118 rfl
theorem i_M_rightsOf_0 : m_at k_M_rightsOf 0 = some (.iconst 0, 1, 0) := m_at_of r_M_rightsOf (by decide +kernel)
theorem i_M_rightsOf_1 : m_at k_M_rightsOf 1 = some (.istore_n 2, 1, 0) := m_at_of r_M_rightsOf (by decide +kernel)
theorem i_M_rightsOf_2 : m_at k_M_rightsOf 2 = some (.iconst 0, 1, 0) := m_at_of r_M_rightsOf (by decide +kernel)
theorem i_M_rightsOf_3 : m_at k_M_rightsOf 3 = some (.istore_n 3, 1, 0) := m_at_of r_M_rightsOf (by decide +kernel)
theorem i_M_rightsOf_4 : m_at k_M_rightsOf 4 = some (.iload_n 3, 1, 0) := m_at_of r_M_rightsOf (by decide +kernel)
theorem i_M_rightsOf_5 : m_at k_M_rightsOf 5 = some (.aload_n 0, 1, 0) := m_at_of r_M_rightsOf (by decide +kernel)
theorem i_M_rightsOf_6 : m_at k_M_rightsOf 6 = some (.getfield 7, 3, 0) := m_at_of r_M_rightsOf (by decide +kernel)
theorem i_M_rightsOf_9 : m_at k_M_rightsOf 9 = some (.bipush 11, 2, 0) := m_at_of r_M_rightsOf (by decide +kernel)
theorem i_M_rightsOf_11 : m_at k_M_rightsOf 11 = some (.iaload, 1, 0) := m_at_of r_M_rightsOf (by decide +kernel)
theorem i_M_rightsOf_12 : m_at k_M_rightsOf 12 = some (.if_icmp .ge (35), 3, 0) := m_at_of r_M_rightsOf (by decide +kernel)
theorem i_M_rightsOf_15 : m_at k_M_rightsOf 15 = some (.iload_n 2, 1, 0) := m_at_of r_M_rightsOf (by decide +kernel)
theorem i_M_rightsOf_16 : m_at k_M_rightsOf 16 = some (.aload_n 0, 1, 0) := m_at_of r_M_rightsOf (by decide +kernel)
theorem i_M_rightsOf_17 : m_at k_M_rightsOf 17 = some (.iload_n 3, 1, 0) := m_at_of r_M_rightsOf (by decide +kernel)
theorem i_M_rightsOf_18 : m_at k_M_rightsOf 18 = some (.iconst 0, 1, 0) := m_at_of r_M_rightsOf (by decide +kernel)
theorem i_M_rightsOf_19 : m_at k_M_rightsOf 19 = some (.invokevirtual 85, 3, 106) := m_at_of r_M_rightsOf (by decide +kernel)
theorem i_M_rightsOf_22 : m_at k_M_rightsOf 22 = some (.iload_n 1, 1, 0) := m_at_of r_M_rightsOf (by decide +kernel)
theorem i_M_rightsOf_23 : m_at k_M_rightsOf 23 = some (.if_icmp .ne (15), 3, 0) := m_at_of r_M_rightsOf (by decide +kernel)
theorem i_M_rightsOf_26 : m_at k_M_rightsOf 26 = some (.aload_n 0, 1, 0) := m_at_of r_M_rightsOf (by decide +kernel)
theorem i_M_rightsOf_27 : m_at k_M_rightsOf 27 = some (.iload_n 3, 1, 0) := m_at_of r_M_rightsOf (by decide +kernel)
theorem i_M_rightsOf_28 : m_at k_M_rightsOf 28 = some (.invokevirtual 89, 3, 105) := m_at_of r_M_rightsOf (by decide +kernel)
theorem i_M_rightsOf_31 : m_at k_M_rightsOf 31 = some (.ifCond .eq (7), 3, 0) := m_at_of r_M_rightsOf (by decide +kernel)
theorem i_M_rightsOf_34 : m_at k_M_rightsOf 34 = some (.iconst 1, 1, 0) := m_at_of r_M_rightsOf (by decide +kernel)
theorem i_M_rightsOf_35 : m_at k_M_rightsOf 35 = some (.goto (4), 3, 0) := m_at_of r_M_rightsOf (by decide +kernel)
theorem i_M_rightsOf_38 : m_at k_M_rightsOf 38 = some (.iconst 0, 1, 0) := m_at_of r_M_rightsOf (by decide +kernel)
theorem i_M_rightsOf_39 : m_at k_M_rightsOf 39 = some (.iadd, 1, 0) := m_at_of r_M_rightsOf (by decide +kernel)
theorem i_M_rightsOf_40 : m_at k_M_rightsOf 40 = some (.istore_n 2, 1, 0) := m_at_of r_M_rightsOf (by decide +kernel)
theorem i_M_rightsOf_41 : m_at k_M_rightsOf 41 = some (.iinc 3 (1), 3, 0) := m_at_of r_M_rightsOf (by decide +kernel)
theorem i_M_rightsOf_44 : m_at k_M_rightsOf 44 = some (.goto (-40), 3, 0) := m_at_of r_M_rightsOf (by decide +kernel)
theorem i_M_rightsOf_47 : m_at k_M_rightsOf 47 = some (.iload_n 2, 1, 0) := m_at_of r_M_rightsOf (by decide +kernel)
theorem i_M_rightsOf_48 : m_at k_M_rightsOf 48 = some (.ireturn, 1, 0) := m_at_of r_M_rightsOf (by decide +kernel)
set_option maxRecDepth 20000 in
set_option maxHeartbeats 1000000 in
theorem E_M_rightsOf (x : m_X) (s : m_H) (w : Nat) (n1 : Int32) : m_M x k_M_rightsOf [.ref w, .int n1] s = if m_isO s w 11 = true then (m_D x 3 k_M_rightsOf 4 [some (.ref w), some (.int n1), some (.int 0), some (.int 0)] [] s) else none := by
  refine e_M1 (L0 := [some (.ref w), some (.int n1), none, none]) rfl (by decide +kernel) rfl (q_M_rightsOf _) rfl ?_
  refine e_iconst (v := 0) i_M_rightsOf_0 (by decide) ?_
  refine e_istore_n (L' := [some (.ref w), some (.int n1), some (.int 0), none]) i_M_rightsOf_1 (of_decide_eq_true rfl) rfl ?_
  refine e_iconst (v := 0) i_M_rightsOf_2 (by decide) ?_
  refine e_istore_n (L' := [some (.ref w), some (.int n1), some (.int 0), some (.int 0)]) i_M_rightsOf_3 (of_decide_eq_true rfl) rfl ?_
  exact rfl
set_option maxRecDepth 20000 in
set_option maxHeartbeats 1000000 in
theorem E_M_rightsOf_4 (x : m_X) (ρ : Nat) (hρ : 3 ≤ ρ) (s : m_H) (w : Nat) (n1 : Int32) (n2 : Int32) (n3 : Int32)  : m_D x ρ k_M_rightsOf 4 [some (.ref w), some (.int n1), some (.int n2), some (.int n3)] [] s = (m_fR s 11 0 w).bind fun v6 => (m_ia x s v6 11).bind fun v11 => if v11 ≤ n3 then (some (some (.int n2), s)) else m_bI (m_M x k_M_get [.ref w, .int n3, .int 0] s) fun v19 s19 => if v19 = n1 then (m_bI (m_M x k_M_isOpen [.ref w, .int n3] s19) fun v28 s28 => if v28 = 0 then (m_D x ρ k_M_rightsOf 4 [some (.ref w), some (.int n1), some (.int (n2 + (0 : Int32))), some (.int (n3 + (1 : Int32)))] [] s28) else m_D x ρ k_M_rightsOf 4 [some (.ref w), some (.int n1), some (.int (n2 + (1 : Int32))), some (.int (n3 + (1 : Int32)))] [] s28) else m_D x ρ k_M_rightsOf 4 [some (.ref w), some (.int n1), some (.int (n2 + (0 : Int32))), some (.int (n3 + (1 : Int32)))] [] s19 := by
  refine e_iload_n i_M_rightsOf_4 rfl ?_
  refine e_aload_n i_M_rightsOf_5 rfl ?_
  refine e_getR i_M_rightsOf_6 lf_0 (by decide) ft_11_0 (fun v6 => ?_)
  refine e_bipush (v := 11) i_M_rightsOf_9 (by decide) ?_
  refine e_iald i_M_rightsOf_11 (fun v11 => ?_)
  refine e_icmpge (t := 47) i_M_rightsOf_12 (by decide) ?_ ?_
  · refine e_iload_n i_M_rightsOf_47 rfl ?_
    exact e_iretI i_M_rightsOf_48 rfl
  · refine e_iload_n i_M_rightsOf_15 rfl ?_
    refine e_aload_n i_M_rightsOf_16 rfl ?_
    refine e_iload_n i_M_rightsOf_17 rfl ?_
    refine e_iconst (v := 0) i_M_rightsOf_18 (by decide) ?_
    refine e_callI (as := [.ref w, .int n3, .int 0]) (st' := [.int n2]) i_M_rightsOf_19 lm_106 (Or.inr (Or.inl ⟨rfl, rfl⟩)) w_M_get rfl rfl rfl (Nat.le_of_ble_eq_true rfl) (Nat.le_of_ble_eq_true rfl) (m_rlt (q_M_get _) (Nat.lt_of_lt_of_le (by decide) hρ)) rfl (fun v19 s19 => ?_)
    refine e_iload_n i_M_rightsOf_22 rfl ?_
    refine e_icmpne (t := 38) i_M_rightsOf_23 (by decide) ?_ ?_
    · refine e_iconst (v := 0) i_M_rightsOf_38 (by decide) ?_
      refine e_iadd i_M_rightsOf_39 ?_
      refine e_istore_n (L' := [some (.ref w), some (.int n1), some (.int (n2 + (0 : Int32))), some (.int n3)]) i_M_rightsOf_40 (of_decide_eq_true rfl) rfl ?_
      refine e_iinc (w := 1) (L' := [some (.ref w), some (.int n1), some (.int (n2 + (0 : Int32))), some (.int (n3 + (1 : Int32)))]) i_M_rightsOf_41 rfl (of_decide_eq_true rfl) (by decide) rfl ?_
      refine e_goto (t := 4) i_M_rightsOf_44 (by decide) ?_
      exact rfl
    · refine e_aload_n i_M_rightsOf_26 rfl ?_
      refine e_iload_n i_M_rightsOf_27 rfl ?_
      refine e_callI (as := [.ref w, .int n3]) (st' := [.int n2]) i_M_rightsOf_28 lm_105 (Or.inr (Or.inl ⟨rfl, rfl⟩)) w_M_isOpen rfl rfl rfl (Nat.le_of_ble_eq_true rfl) (Nat.le_of_ble_eq_true rfl) (m_rlt (q_M_isOpen _) (Nat.lt_of_lt_of_le (by decide) hρ)) rfl (fun v28 s28 => ?_)
      refine e_ifeq (t := 38) i_M_rightsOf_31 (by decide) ?_ ?_
      · refine e_iconst (v := 0) i_M_rightsOf_38 (by decide) ?_
        refine e_iadd i_M_rightsOf_39 ?_
        refine e_istore_n (L' := [some (.ref w), some (.int n1), some (.int (n2 + (0 : Int32))), some (.int n3)]) i_M_rightsOf_40 (of_decide_eq_true rfl) rfl ?_
        refine e_iinc (w := 1) (L' := [some (.ref w), some (.int n1), some (.int (n2 + (0 : Int32))), some (.int (n3 + (1 : Int32)))]) i_M_rightsOf_41 rfl (of_decide_eq_true rfl) (by decide) rfl ?_
        refine e_goto (t := 4) i_M_rightsOf_44 (by decide) ?_
        exact rfl
      · refine e_iconst (v := 1) i_M_rightsOf_34 (by decide) ?_
        refine e_goto (t := 39) i_M_rightsOf_35 (by decide) ?_
        refine e_iadd i_M_rightsOf_39 ?_
        refine e_istore_n (L' := [some (.ref w), some (.int n1), some (.int (n2 + (1 : Int32))), some (.int n3)]) i_M_rightsOf_40 (of_decide_eq_true rfl) rfl ?_
        refine e_iinc (w := 1) (L' := [some (.ref w), some (.int n1), some (.int (n2 + (1 : Int32))), some (.int (n3 + (1 : Int32)))]) i_M_rightsOf_41 rfl (of_decide_eq_true rfl) (by decide) rfl ?_
        refine e_goto (t := 4) i_M_rightsOf_44 (by decide) ?_
        exact rfl
theorem i_M_redeem_0 : m_at k_M_redeem 0 = some (.aload_n 0, 1, 0) := m_at_of r_M_redeem (by decide +kernel)
theorem i_M_redeem_1 : m_at k_M_redeem 1 = some (.iload_n 1, 1, 0) := m_at_of r_M_redeem (by decide +kernel)
theorem i_M_redeem_2 : m_at k_M_redeem 2 = some (.invokevirtual 365, 3, 116) := m_at_of r_M_redeem (by decide +kernel)
theorem i_M_redeem_5 : m_at k_M_redeem 5 = some (.ifCond .eq (36), 3, 0) := m_at_of r_M_redeem (by decide +kernel)
theorem i_M_redeem_8 : m_at k_M_redeem 8 = some (.aload_n 0, 1, 0) := m_at_of r_M_redeem (by decide +kernel)
theorem i_M_redeem_9 : m_at k_M_redeem 9 = some (.iload_n 1, 1, 0) := m_at_of r_M_redeem (by decide +kernel)
theorem i_M_redeem_10 : m_at k_M_redeem 10 = some (.bipush 6, 2, 0) := m_at_of r_M_redeem (by decide +kernel)
theorem i_M_redeem_12 : m_at k_M_redeem 12 = some (.invokevirtual 85, 3, 106) := m_at_of r_M_redeem (by decide +kernel)
theorem i_M_redeem_15 : m_at k_M_redeem 15 = some (.iconst 3, 1, 0) := m_at_of r_M_redeem (by decide +kernel)
theorem i_M_redeem_16 : m_at k_M_redeem 16 = some (.if_icmp .ne (25), 3, 0) := m_at_of r_M_redeem (by decide +kernel)
theorem i_M_redeem_19 : m_at k_M_redeem 19 = some (.aload_n 0, 1, 0) := m_at_of r_M_redeem (by decide +kernel)
theorem i_M_redeem_20 : m_at k_M_redeem 20 = some (.getfield 7, 3, 0) := m_at_of r_M_redeem (by decide +kernel)
theorem i_M_redeem_23 : m_at k_M_redeem 23 = some (.bipush 13, 2, 0) := m_at_of r_M_redeem (by decide +kernel)
theorem i_M_redeem_25 : m_at k_M_redeem 25 = some (.aload_n 0, 1, 0) := m_at_of r_M_redeem (by decide +kernel)
theorem i_M_redeem_26 : m_at k_M_redeem 26 = some (.iload_n 1, 1, 0) := m_at_of r_M_redeem (by decide +kernel)
theorem i_M_redeem_27 : m_at k_M_redeem 27 = some (.iconst 1, 1, 0) := m_at_of r_M_redeem (by decide +kernel)
theorem i_M_redeem_28 : m_at k_M_redeem 28 = some (.invokevirtual 85, 3, 106) := m_at_of r_M_redeem (by decide +kernel)
theorem i_M_redeem_31 : m_at k_M_redeem 31 = some (.iadd, 1, 0) := m_at_of r_M_redeem (by decide +kernel)
theorem i_M_redeem_32 : m_at k_M_redeem 32 = some (.iaload, 1, 0) := m_at_of r_M_redeem (by decide +kernel)
theorem i_M_redeem_33 : m_at k_M_redeem 33 = some (.aload_n 0, 1, 0) := m_at_of r_M_redeem (by decide +kernel)
theorem i_M_redeem_34 : m_at k_M_redeem 34 = some (.iload_n 1, 1, 0) := m_at_of r_M_redeem (by decide +kernel)
theorem i_M_redeem_35 : m_at k_M_redeem 35 = some (.invokevirtual 377, 3, 216) := m_at_of r_M_redeem (by decide +kernel)
theorem i_M_redeem_38 : m_at k_M_redeem 38 = some (.if_icmp .ge (5), 3, 0) := m_at_of r_M_redeem (by decide +kernel)
theorem i_M_redeem_41 : m_at k_M_redeem 41 = some (.iconst (-1), 1, 0) := m_at_of r_M_redeem (by decide +kernel)
theorem i_M_redeem_42 : m_at k_M_redeem 42 = some (.ireturn, 1, 0) := m_at_of r_M_redeem (by decide +kernel)
theorem i_M_redeem_43 : m_at k_M_redeem 43 = some (.aload_n 0, 1, 0) := m_at_of r_M_redeem (by decide +kernel)
theorem i_M_redeem_44 : m_at k_M_redeem 44 = some (.invokevirtual 358, 3, 226) := m_at_of r_M_redeem (by decide +kernel)
theorem i_M_redeem_47 : m_at k_M_redeem 47 = some (.aload_n 0, 1, 0) := m_at_of r_M_redeem (by decide +kernel)
theorem i_M_redeem_48 : m_at k_M_redeem 48 = some (.iload_n 1, 1, 0) := m_at_of r_M_redeem (by decide +kernel)
theorem i_M_redeem_49 : m_at k_M_redeem 49 = some (.invokevirtual 377, 3, 216) := m_at_of r_M_redeem (by decide +kernel)
theorem i_M_redeem_52 : m_at k_M_redeem 52 = some (.istore_n 2, 1, 0) := m_at_of r_M_redeem (by decide +kernel)
theorem i_M_redeem_53 : m_at k_M_redeem 53 = some (.aload_n 0, 1, 0) := m_at_of r_M_redeem (by decide +kernel)
theorem i_M_redeem_54 : m_at k_M_redeem 54 = some (.aload_n 0, 1, 0) := m_at_of r_M_redeem (by decide +kernel)
theorem i_M_redeem_55 : m_at k_M_redeem 55 = some (.iload_n 1, 1, 0) := m_at_of r_M_redeem (by decide +kernel)
theorem i_M_redeem_56 : m_at k_M_redeem 56 = some (.iconst 1, 1, 0) := m_at_of r_M_redeem (by decide +kernel)
theorem i_M_redeem_57 : m_at k_M_redeem 57 = some (.invokevirtual 85, 3, 106) := m_at_of r_M_redeem (by decide +kernel)
theorem i_M_redeem_60 : m_at k_M_redeem 60 = some (.iload_n 2, 1, 0) := m_at_of r_M_redeem (by decide +kernel)
theorem i_M_redeem_61 : m_at k_M_redeem 61 = some (.ineg, 1, 0) := m_at_of r_M_redeem (by decide +kernel)
theorem i_M_redeem_62 : m_at k_M_redeem 62 = some (.invokevirtual 380, 3, 287) := m_at_of r_M_redeem (by decide +kernel)
theorem i_M_redeem_65 : m_at k_M_redeem 65 = some (.aload_n 0, 1, 0) := m_at_of r_M_redeem (by decide +kernel)
theorem i_M_redeem_66 : m_at k_M_redeem 66 = some (.iload_n 1, 1, 0) := m_at_of r_M_redeem (by decide +kernel)
theorem i_M_redeem_67 : m_at k_M_redeem 67 = some (.bipush 6, 2, 0) := m_at_of r_M_redeem (by decide +kernel)
theorem i_M_redeem_69 : m_at k_M_redeem 69 = some (.iconst 0, 1, 0) := m_at_of r_M_redeem (by decide +kernel)
theorem i_M_redeem_70 : m_at k_M_redeem 70 = some (.invokevirtual 345, 3, 233) := m_at_of r_M_redeem (by decide +kernel)
theorem i_M_redeem_73 : m_at k_M_redeem 73 = some (.iload_n 2, 1, 0) := m_at_of r_M_redeem (by decide +kernel)
theorem i_M_redeem_74 : m_at k_M_redeem 74 = some (.ireturn, 1, 0) := m_at_of r_M_redeem (by decide +kernel)
set_option maxRecDepth 20000 in
set_option maxHeartbeats 1000000 in
theorem E_M_redeem (x : m_X) (s : m_H) (w : Nat) (n1 : Int32) : m_M x k_M_redeem [.ref w, .int n1] s = if m_isO s w 11 = true then (m_bI (m_M x k_M_isGlove [.ref w, .int n1] s) fun v2 s2 => if v2 = 0 then (some (some (.int (-1)), s2)) else m_bI (m_M x k_M_get [.ref w, .int n1, .int 6] s2) fun v12 s12 => if v12 = 3 then ((m_fR s12 11 0 w).bind fun v20 => m_bI (m_M x k_M_get [.ref w, .int n1, .int 1] s12) fun v28 s28 => (m_ia x s28 v20 ((13 : Int32) + v28)).bind fun v32 => m_bI (m_M x k_M_pawnOf [.ref w, .int n1] s28) fun v35 s35 => if v35 ≤ v32 then (m_bV (m_M x k_M_keep [.ref w] s35) fun s44 => m_bI (m_M x k_M_pawnOf [.ref w, .int n1] s44) fun v49 s49 => m_bI (m_M x k_M_get [.ref w, .int n1, .int 1] s49) fun v57 s57 => m_bV (m_M x k_M_gain [.ref w, .int v57, .int (-v49)] s57) fun s62 => m_bV (m_M x k_M_put [.ref w, .int n1, .int 6, .int 0] s62) fun s70 => some (some (.int v49), s70)) else some (some (.int (-1)), s35)) else some (some (.int (-1)), s12)) else none := by
  refine e_M1 (L0 := [some (.ref w), some (.int n1), none]) rfl (by decide +kernel) rfl (q_M_redeem _) rfl ?_
  refine e_aload_n i_M_redeem_0 rfl ?_
  refine e_iload_n i_M_redeem_1 rfl ?_
  refine e_callI (as := [.ref w, .int n1]) (st' := []) i_M_redeem_2 lm_116 (Or.inr (Or.inl ⟨rfl, rfl⟩)) w_M_isGlove rfl rfl rfl (Nat.le_of_ble_eq_true rfl) (Nat.le_of_ble_eq_true rfl) (m_rlt (q_M_isGlove _) (by decide)) rfl (fun v2 s2 => ?_)
  refine e_ifeq (t := 41) i_M_redeem_5 (by decide) ?_ ?_
  · refine e_iconst (v := (-1)) i_M_redeem_41 (by decide) ?_
    exact e_iretI i_M_redeem_42 rfl
  · refine e_aload_n i_M_redeem_8 rfl ?_
    refine e_iload_n i_M_redeem_9 rfl ?_
    refine e_bipush (v := 6) i_M_redeem_10 (by decide) ?_
    refine e_callI (as := [.ref w, .int n1, .int 6]) (st' := []) i_M_redeem_12 lm_106 (Or.inr (Or.inl ⟨rfl, rfl⟩)) w_M_get rfl rfl rfl (Nat.le_of_ble_eq_true rfl) (Nat.le_of_ble_eq_true rfl) (m_rlt (q_M_get _) (by decide)) rfl (fun v12 s12 => ?_)
    refine e_iconst (v := 3) i_M_redeem_15 (by decide) ?_
    refine e_icmpne (t := 41) i_M_redeem_16 (by decide) ?_ ?_
    · refine e_iconst (v := (-1)) i_M_redeem_41 (by decide) ?_
      exact e_iretI i_M_redeem_42 rfl
    · refine e_aload_n i_M_redeem_19 rfl ?_
      refine e_getR i_M_redeem_20 lf_0 (by decide) ft_11_0 (fun v20 => ?_)
      refine e_bipush (v := 13) i_M_redeem_23 (by decide) ?_
      refine e_aload_n i_M_redeem_25 rfl ?_
      refine e_iload_n i_M_redeem_26 rfl ?_
      refine e_iconst (v := 1) i_M_redeem_27 (by decide) ?_
      refine e_callI (as := [.ref w, .int n1, .int 1]) (st' := [.int 13, .ref v20]) i_M_redeem_28 lm_106 (Or.inr (Or.inl ⟨rfl, rfl⟩)) w_M_get rfl rfl rfl (Nat.le_of_ble_eq_true rfl) (Nat.le_of_ble_eq_true rfl) (m_rlt (q_M_get _) (by decide)) rfl (fun v28 s28 => ?_)
      refine e_iadd i_M_redeem_31 ?_
      refine e_iald i_M_redeem_32 (fun v32 => ?_)
      refine e_aload_n i_M_redeem_33 rfl ?_
      refine e_iload_n i_M_redeem_34 rfl ?_
      refine e_callI (as := [.ref w, .int n1]) (st' := [.int v32]) i_M_redeem_35 lm_216 (Or.inr (Or.inl ⟨rfl, rfl⟩)) w_M_pawnOf rfl rfl rfl (Nat.le_of_ble_eq_true rfl) (Nat.le_of_ble_eq_true rfl) (m_rlt (q_M_pawnOf _) (by decide)) rfl (fun v35 s35 => ?_)
      refine e_icmpge (t := 43) i_M_redeem_38 (by decide) ?_ ?_
      · refine e_aload_n i_M_redeem_43 rfl ?_
        refine e_callV (as := [.ref w]) (st' := []) i_M_redeem_44 lm_226 (Or.inr (Or.inl ⟨rfl, rfl⟩)) w_M_keep rfl rfl rfl (Nat.le_of_ble_eq_true rfl) (Nat.le_of_ble_eq_true rfl) (m_rlt (q_M_keep _) (by decide)) rfl (fun s44 => ?_)
        refine e_aload_n i_M_redeem_47 rfl ?_
        refine e_iload_n i_M_redeem_48 rfl ?_
        refine e_callI (as := [.ref w, .int n1]) (st' := []) i_M_redeem_49 lm_216 (Or.inr (Or.inl ⟨rfl, rfl⟩)) w_M_pawnOf rfl rfl rfl (Nat.le_of_ble_eq_true rfl) (Nat.le_of_ble_eq_true rfl) (m_rlt (q_M_pawnOf _) (by decide)) rfl (fun v49 s49 => ?_)
        refine e_istore_n (L' := [some (.ref w), some (.int n1), some (.int v49)]) i_M_redeem_52 (of_decide_eq_true rfl) rfl ?_
        refine e_aload_n i_M_redeem_53 rfl ?_
        refine e_aload_n i_M_redeem_54 rfl ?_
        refine e_iload_n i_M_redeem_55 rfl ?_
        refine e_iconst (v := 1) i_M_redeem_56 (by decide) ?_
        refine e_callI (as := [.ref w, .int n1, .int 1]) (st' := [.ref w]) i_M_redeem_57 lm_106 (Or.inr (Or.inl ⟨rfl, rfl⟩)) w_M_get rfl rfl rfl (Nat.le_of_ble_eq_true rfl) (Nat.le_of_ble_eq_true rfl) (m_rlt (q_M_get _) (by decide)) rfl (fun v57 s57 => ?_)
        refine e_iload_n i_M_redeem_60 rfl ?_
        refine e_ineg i_M_redeem_61 ?_
        refine e_callV (as := [.ref w, .int v57, .int (-v49)]) (st' := []) i_M_redeem_62 lm_287 (Or.inr (Or.inl ⟨rfl, rfl⟩)) w_M_gain rfl rfl rfl (Nat.le_of_ble_eq_true rfl) (Nat.le_of_ble_eq_true rfl) (m_rlt (q_M_gain _) (by decide)) rfl (fun s62 => ?_)
        refine e_aload_n i_M_redeem_65 rfl ?_
        refine e_iload_n i_M_redeem_66 rfl ?_
        refine e_bipush (v := 6) i_M_redeem_67 (by decide) ?_
        refine e_iconst (v := 0) i_M_redeem_69 (by decide) ?_
        refine e_callV (as := [.ref w, .int n1, .int 6, .int 0]) (st' := []) i_M_redeem_70 lm_233 (Or.inr (Or.inl ⟨rfl, rfl⟩)) w_M_put rfl rfl rfl (Nat.le_of_ble_eq_true rfl) (Nat.le_of_ble_eq_true rfl) (m_rlt (q_M_put _) (by decide)) rfl (fun s70 => ?_)
        refine e_iload_n i_M_redeem_73 rfl ?_
        exact e_iretI i_M_redeem_74 rfl
      · refine e_iconst (v := (-1)) i_M_redeem_41 (by decide) ?_
        exact e_iretI i_M_redeem_42 rfl
theorem i_M_pledge_0 : m_at k_M_pledge 0 = some (.aload_n 0, 1, 0) := m_at_of r_M_pledge (by decide +kernel)
theorem i_M_pledge_1 : m_at k_M_pledge 1 = some (.iload_n 1, 1, 0) := m_at_of r_M_pledge (by decide +kernel)
theorem i_M_pledge_2 : m_at k_M_pledge 2 = some (.invokevirtual 383, 3, 235) := m_at_of r_M_pledge (by decide +kernel)
theorem i_M_pledge_5 : m_at k_M_pledge 5 = some (.ifCond .ne (5), 3, 0) := m_at_of r_M_pledge (by decide +kernel)
theorem i_M_pledge_8 : m_at k_M_pledge 8 = some (.iconst (-1), 1, 0) := m_at_of r_M_pledge (by decide +kernel)
theorem i_M_pledge_9 : m_at k_M_pledge 9 = some (.ireturn, 1, 0) := m_at_of r_M_pledge (by decide +kernel)
theorem i_M_pledge_10 : m_at k_M_pledge 10 = some (.aload_n 0, 1, 0) := m_at_of r_M_pledge (by decide +kernel)
theorem i_M_pledge_11 : m_at k_M_pledge 11 = some (.invokevirtual 358, 3, 226) := m_at_of r_M_pledge (by decide +kernel)
theorem i_M_pledge_14 : m_at k_M_pledge 14 = some (.aload_n 0, 1, 0) := m_at_of r_M_pledge (by decide +kernel)
theorem i_M_pledge_15 : m_at k_M_pledge 15 = some (.iload_n 1, 1, 0) := m_at_of r_M_pledge (by decide +kernel)
theorem i_M_pledge_16 : m_at k_M_pledge 16 = some (.invokevirtual 386, 3, 236) := m_at_of r_M_pledge (by decide +kernel)
theorem i_M_pledge_19 : m_at k_M_pledge 19 = some (.ireturn, 1, 0) := m_at_of r_M_pledge (by decide +kernel)
set_option maxRecDepth 20000 in
set_option maxHeartbeats 1000000 in
theorem E_M_pledge (x : m_X) (s : m_H) (w : Nat) (n1 : Int32) : m_M x k_M_pledge [.ref w, .int n1] s = if m_isO s w 11 = true then (m_bI (m_M x k_M_canPledge [.ref w, .int n1] s) fun v2 s2 => if v2 = 0 then (some (some (.int (-1)), s2)) else m_bV (m_M x k_M_keep [.ref w] s2) fun s11 => m_bI (m_M x k_M_pledgeNow [.ref w, .int n1] s11) fun v16 s16 => some (some (.int v16), s16)) else none := by
  refine e_M1 (L0 := [some (.ref w), some (.int n1)]) rfl (by decide +kernel) rfl (q_M_pledge _) rfl ?_
  refine e_aload_n i_M_pledge_0 rfl ?_
  refine e_iload_n i_M_pledge_1 rfl ?_
  refine e_callI (as := [.ref w, .int n1]) (st' := []) i_M_pledge_2 lm_235 (Or.inr (Or.inl ⟨rfl, rfl⟩)) w_M_canPledge rfl rfl rfl (Nat.le_of_ble_eq_true rfl) (Nat.le_of_ble_eq_true rfl) (m_rlt (q_M_canPledge _) (by decide)) rfl (fun v2 s2 => ?_)
  refine e_ifne (t := 10) i_M_pledge_5 (by decide) ?_ ?_
  · refine e_aload_n i_M_pledge_10 rfl ?_
    refine e_callV (as := [.ref w]) (st' := []) i_M_pledge_11 lm_226 (Or.inr (Or.inl ⟨rfl, rfl⟩)) w_M_keep rfl rfl rfl (Nat.le_of_ble_eq_true rfl) (Nat.le_of_ble_eq_true rfl) (m_rlt (q_M_keep _) (by decide)) rfl (fun s11 => ?_)
    refine e_aload_n i_M_pledge_14 rfl ?_
    refine e_iload_n i_M_pledge_15 rfl ?_
    refine e_callI (as := [.ref w, .int n1]) (st' := []) i_M_pledge_16 lm_236 (Or.inr (Or.inl ⟨rfl, rfl⟩)) w_M_pledgeNow rfl rfl rfl (Nat.le_of_ble_eq_true rfl) (Nat.le_of_ble_eq_true rfl) (m_rlt (q_M_pledgeNow _) (by decide)) rfl (fun v16 s16 => ?_)
    exact e_iretI i_M_pledge_19 rfl
  · refine e_iconst (v := (-1)) i_M_pledge_8 (by decide) ?_
    exact e_iretI i_M_pledge_9 rfl
