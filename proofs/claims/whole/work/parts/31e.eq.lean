theorem i_M_isAskAhead_0 : m_at k_M_isAskAhead 0 = some (.aload_n 0, 1, 0) := m_at_of r_M_isAskAhead (by decide +kernel)
theorem i_M_isAskAhead_1 : m_at k_M_isAskAhead 1 = some (.invokevirtual 188, 3, 349) := m_at_of r_M_isAskAhead (by decide +kernel)
theorem i_M_isAskAhead_4 : m_at k_M_isAskAhead 4 = some (.ifCond .eq (45), 3, 0) := m_at_of r_M_isAskAhead (by decide +kernel)
theorem i_M_isAskAhead_7 : m_at k_M_isAskAhead 7 = some (.aload_n 0, 1, 0) := m_at_of r_M_isAskAhead (by decide +kernel)
theorem i_M_isAskAhead_8 : m_at k_M_isAskAhead 8 = some (.getfield 29, 3, 109) := m_at_of r_M_isAskAhead (by decide +kernel)
theorem i_M_isAskAhead_11 : m_at k_M_isAskAhead 11 = some (.aload_n 0, 1, 0) := m_at_of r_M_isAskAhead (by decide +kernel)
theorem i_M_isAskAhead_12 : m_at k_M_isAskAhead 12 = some (.getfield 168, 3, 105) := m_at_of r_M_isAskAhead (by decide +kernel)
theorem i_M_isAskAhead_15 : m_at k_M_isAskAhead 15 = some (.iconst 1, 1, 0) := m_at_of r_M_isAskAhead (by decide +kernel)
theorem i_M_isAskAhead_16 : m_at k_M_isAskAhead 16 = some (.isub, 1, 0) := m_at_of r_M_isAskAhead (by decide +kernel)
theorem i_M_isAskAhead_17 : m_at k_M_isAskAhead 17 = some (.iaload, 1, 0) := m_at_of r_M_isAskAhead (by decide +kernel)
theorem i_M_isAskAhead_18 : m_at k_M_isAskAhead 18 = some (.bipush 40, 2, 0) := m_at_of r_M_isAskAhead (by decide +kernel)
theorem i_M_isAskAhead_20 : m_at k_M_isAskAhead 20 = some (.if_icmp .ge (25), 3, 0) := m_at_of r_M_isAskAhead (by decide +kernel)
theorem i_M_isAskAhead_23 : m_at k_M_isAskAhead 23 = some (.aload_n 0, 1, 0) := m_at_of r_M_isAskAhead (by decide +kernel)
theorem i_M_isAskAhead_24 : m_at k_M_isAskAhead 24 = some (.getfield 29, 3, 109) := m_at_of r_M_isAskAhead (by decide +kernel)
theorem i_M_isAskAhead_27 : m_at k_M_isAskAhead 27 = some (.aload_n 0, 1, 0) := m_at_of r_M_isAskAhead (by decide +kernel)
theorem i_M_isAskAhead_28 : m_at k_M_isAskAhead 28 = some (.getfield 168, 3, 105) := m_at_of r_M_isAskAhead (by decide +kernel)
theorem i_M_isAskAhead_31 : m_at k_M_isAskAhead 31 = some (.iconst 1, 1, 0) := m_at_of r_M_isAskAhead (by decide +kernel)
theorem i_M_isAskAhead_32 : m_at k_M_isAskAhead 32 = some (.isub, 1, 0) := m_at_of r_M_isAskAhead (by decide +kernel)
theorem i_M_isAskAhead_33 : m_at k_M_isAskAhead 33 = some (.iaload, 1, 0) := m_at_of r_M_isAskAhead (by decide +kernel)
theorem i_M_isAskAhead_34 : m_at k_M_isAskAhead 34 = some (.invokestatic 171, 3, 350) := m_at_of r_M_isAskAhead (by decide +kernel)
theorem i_M_isAskAhead_37 : m_at k_M_isAskAhead 37 = some (.iconst 1, 1, 0) := m_at_of r_M_isAskAhead (by decide +kernel)
theorem i_M_isAskAhead_38 : m_at k_M_isAskAhead 38 = some (.iconst 3, 1, 0) := m_at_of r_M_isAskAhead (by decide +kernel)
theorem i_M_isAskAhead_39 : m_at k_M_isAskAhead 39 = some (.invokestatic 81, 3, 96) := m_at_of r_M_isAskAhead (by decide +kernel)
theorem i_M_isAskAhead_42 : m_at k_M_isAskAhead 42 = some (.ifCond .eq (7), 3, 0) := m_at_of r_M_isAskAhead (by decide +kernel)
theorem i_M_isAskAhead_45 : m_at k_M_isAskAhead 45 = some (.iconst 1, 1, 0) := m_at_of r_M_isAskAhead (by decide +kernel)
theorem i_M_isAskAhead_46 : m_at k_M_isAskAhead 46 = some (.goto (4), 3, 0) := m_at_of r_M_isAskAhead (by decide +kernel)
theorem i_M_isAskAhead_49 : m_at k_M_isAskAhead 49 = some (.iconst 0, 1, 0) := m_at_of r_M_isAskAhead (by decide +kernel)
theorem i_M_isAskAhead_50 : m_at k_M_isAskAhead 50 = some (.ireturn, 1, 0) := m_at_of r_M_isAskAhead (by decide +kernel)
set_option maxRecDepth 20000 in
set_option maxHeartbeats 1000000 in
theorem E_M_isAskAhead (x : m_X) (s : m_H) (w : Nat) : m_M x k_M_isAskAhead [.ref w] s = if m_isO s w 11 = true then (m_bI (m_M x k_M_isAskHere [.ref w] s) fun v1 s1 => if v1 = 0 then (some (some (.int 0), s1)) else (m_fR s1 11 15 w).bind fun v8 => (m_fI s1 11 16 w).bind fun v12 => (m_ia x s1 v8 (v12 - (1 : Int32))).bind fun v17 => if 40 ≤ v17 then (some (some (.int 1), s1)) else (m_fR s1 11 15 w).bind fun v24 => (m_fI s1 11 16 w).bind fun v28 => (m_ia x s1 v24 (v28 - (1 : Int32))).bind fun v33 => m_bI (m_M x k_M_rank [.int v33] s1) fun v34 s34 => m_bI (m_M x k_M_isIn [.int v34, .int 1, .int 3] s34) fun v39 s39 => if v39 = 0 then (some (some (.int 0), s39)) else some (some (.int 1), s39)) else none := by
  refine e_M1 (L0 := [some (.ref w)]) rfl (by decide +kernel) rfl (q_M_isAskAhead _) rfl ?_
  refine e_aload_n i_M_isAskAhead_0 rfl ?_
  refine e_callI (as := [.ref w]) (st' := []) i_M_isAskAhead_1 lm_349 (Or.inr (Or.inl ⟨rfl, rfl⟩)) w_M_isAskHere rfl rfl rfl (Nat.le_of_ble_eq_true rfl) (Nat.le_of_ble_eq_true rfl) (m_rlt (q_M_isAskHere _) (by decide)) rfl (fun v1 s1 => ?_)
  refine e_ifeq (t := 49) i_M_isAskAhead_4 (by decide) ?_ ?_
  · refine e_iconst (v := 0) i_M_isAskAhead_49 (by decide) ?_
    exact e_iretZ i_M_isAskAhead_50 rfl (by decide)
  · refine e_aload_n i_M_isAskAhead_7 rfl ?_
    refine e_getR i_M_isAskAhead_8 lf_109 (by decide) ft_11_15 (fun v8 => ?_)
    refine e_aload_n i_M_isAskAhead_11 rfl ?_
    refine e_getI i_M_isAskAhead_12 lf_105 (by decide) (Or.inl ft_11_16) (fun v12 => ?_)
    refine e_iconst (v := 1) i_M_isAskAhead_15 (by decide) ?_
    refine e_isub i_M_isAskAhead_16 ?_
    refine e_iald i_M_isAskAhead_17 (fun v17 => ?_)
    refine e_bipush (v := 40) i_M_isAskAhead_18 (by decide) ?_
    refine e_icmpge (t := 45) i_M_isAskAhead_20 (by decide) ?_ ?_
    · refine e_iconst (v := 1) i_M_isAskAhead_45 (by decide) ?_
      refine e_goto (t := 50) i_M_isAskAhead_46 (by decide) ?_
      exact e_iretZ i_M_isAskAhead_50 rfl (by decide)
    · refine e_aload_n i_M_isAskAhead_23 rfl ?_
      refine e_getR i_M_isAskAhead_24 lf_109 (by decide) ft_11_15 (fun v24 => ?_)
      refine e_aload_n i_M_isAskAhead_27 rfl ?_
      refine e_getI i_M_isAskAhead_28 lf_105 (by decide) (Or.inl ft_11_16) (fun v28 => ?_)
      refine e_iconst (v := 1) i_M_isAskAhead_31 (by decide) ?_
      refine e_isub i_M_isAskAhead_32 ?_
      refine e_iald i_M_isAskAhead_33 (fun v33 => ?_)
      refine e_callI (as := [.int v33]) (st' := []) i_M_isAskAhead_34 lm_350 (Or.inl ⟨rfl, rfl⟩) w_M_rank rfl rfl rfl (Nat.le_of_ble_eq_true rfl) (Nat.le_of_ble_eq_true rfl) (m_rlt (q_M_rank _) (by decide)) rfl (fun v34 s34 => ?_)
      refine e_iconst (v := 1) i_M_isAskAhead_37 (by decide) ?_
      refine e_iconst (v := 3) i_M_isAskAhead_38 (by decide) ?_
      refine e_callI (as := [.int v34, .int 1, .int 3]) (st' := []) i_M_isAskAhead_39 lm_96 (Or.inl ⟨rfl, rfl⟩) w_M_isIn rfl rfl rfl (Nat.le_of_ble_eq_true rfl) (Nat.le_of_ble_eq_true rfl) (m_rlt (q_M_isIn _) (by decide)) rfl (fun v39 s39 => ?_)
      refine e_ifeq (t := 49) i_M_isAskAhead_42 (by decide) ?_ ?_
      · refine e_iconst (v := 0) i_M_isAskAhead_49 (by decide) ?_
        exact e_iretZ i_M_isAskAhead_50 rfl (by decide)
      · refine e_iconst (v := 1) i_M_isAskAhead_45 (by decide) ?_
        refine e_goto (t := 50) i_M_isAskAhead_46 (by decide) ?_
        exact e_iretZ i_M_isAskAhead_50 rfl (by decide)
theorem i_M_opened_0 : m_at k_M_opened 0 = some (.aload_n 0, 1, 0) := m_at_of r_M_opened (by decide +kernel)
theorem i_M_opened_1 : m_at k_M_opened 1 = some (.getfield 178, 3, 106) := m_at_of r_M_opened (by decide +kernel)
theorem i_M_opened_4 : m_at k_M_opened 4 = some (.bipush 8, 2, 0) := m_at_of r_M_opened (by decide +kernel)
theorem i_M_opened_6 : m_at k_M_opened 6 = some (.if_icmp .ne (5), 3, 0) := m_at_of r_M_opened (by decide +kernel)
theorem i_M_opened_9 : m_at k_M_opened 9 = some (.iconst 3, 1, 0) := m_at_of r_M_opened (by decide +kernel)
theorem i_M_opened_10 : m_at k_M_opened 10 = some (.ireturn, 1, 0) := m_at_of r_M_opened (by decide +kernel)
theorem i_M_opened_11 : m_at k_M_opened 11 = some (.aload_n 0, 1, 0) := m_at_of r_M_opened (by decide +kernel)
theorem i_M_opened_12 : m_at k_M_opened 12 = some (.dup, 1, 0) := m_at_of r_M_opened (by decide +kernel)
theorem i_M_opened_13 : m_at k_M_opened 13 = some (.getfield 178, 3, 106) := m_at_of r_M_opened (by decide +kernel)
theorem i_M_opened_16 : m_at k_M_opened 16 = some (.iconst 1, 1, 0) := m_at_of r_M_opened (by decide +kernel)
theorem i_M_opened_17 : m_at k_M_opened 17 = some (.iadd, 1, 0) := m_at_of r_M_opened (by decide +kernel)
theorem i_M_opened_18 : m_at k_M_opened 18 = some (.putfield 178, 3, 106) := m_at_of r_M_opened (by decide +kernel)
theorem i_M_opened_21 : m_at k_M_opened 21 = some (.aload_n 0, 1, 0) := m_at_of r_M_opened (by decide +kernel)
theorem i_M_opened_22 : m_at k_M_opened 22 = some (.getfield 29, 3, 109) := m_at_of r_M_opened (by decide +kernel)
theorem i_M_opened_25 : m_at k_M_opened 25 = some (.aload_n 0, 1, 0) := m_at_of r_M_opened (by decide +kernel)
theorem i_M_opened_26 : m_at k_M_opened 26 = some (.getfield 168, 3, 105) := m_at_of r_M_opened (by decide +kernel)
theorem i_M_opened_29 : m_at k_M_opened 29 = some (.iload_n 1, 1, 0) := m_at_of r_M_opened (by decide +kernel)
theorem i_M_opened_30 : m_at k_M_opened 30 = some (.iastore, 1, 0) := m_at_of r_M_opened (by decide +kernel)
theorem i_M_opened_31 : m_at k_M_opened 31 = some (.aload_n 0, 1, 0) := m_at_of r_M_opened (by decide +kernel)
theorem i_M_opened_32 : m_at k_M_opened 32 = some (.dup, 1, 0) := m_at_of r_M_opened (by decide +kernel)
theorem i_M_opened_33 : m_at k_M_opened 33 = some (.getfield 168, 3, 105) := m_at_of r_M_opened (by decide +kernel)
theorem i_M_opened_36 : m_at k_M_opened 36 = some (.iconst 1, 1, 0) := m_at_of r_M_opened (by decide +kernel)
theorem i_M_opened_37 : m_at k_M_opened 37 = some (.iadd, 1, 0) := m_at_of r_M_opened (by decide +kernel)
theorem i_M_opened_38 : m_at k_M_opened 38 = some (.putfield 168, 3, 105) := m_at_of r_M_opened (by decide +kernel)
theorem i_M_opened_41 : m_at k_M_opened 41 = some (.aload_n 0, 1, 0) := m_at_of r_M_opened (by decide +kernel)
theorem i_M_opened_42 : m_at k_M_opened 42 = some (.invokevirtual 191, 3, 325) := m_at_of r_M_opened (by decide +kernel)
theorem i_M_opened_45 : m_at k_M_opened 45 = some (.iconst 0, 1, 0) := m_at_of r_M_opened (by decide +kernel)
theorem i_M_opened_46 : m_at k_M_opened 46 = some (.ireturn, 1, 0) := m_at_of r_M_opened (by decide +kernel)
set_option maxRecDepth 20000 in
set_option maxHeartbeats 1000000 in
theorem E_M_opened (x : m_X) (s : m_H) (w : Nat) (n1 : Int32) : m_M x k_M_opened [.ref w, .int n1] s = if m_isO s w 11 = true then ((m_fI s 11 17 w).bind fun v1 => if v1 = 8 then (some (some (.int 3), s)) else (m_fI s 11 17 w).bind fun v13 => (m_pf s 11 17 w (.int (v13 + (1 : Int32)))).bind fun s18 => (m_fR s18 11 15 w).bind fun v22 => (m_fI s18 11 16 w).bind fun v26 => (m_is s18 v22 v26 n1).bind fun s30 => (m_fI s30 11 16 w).bind fun v33 => (m_pf s30 11 16 w (.int (v33 + (1 : Int32)))).bind fun s38 => m_bV (m_M x k_M_nextToken [.ref w] s38) fun s42 => some (some (.int 0), s42)) else none := by
  refine e_M1 (L0 := [some (.ref w), some (.int n1)]) rfl (by decide +kernel) rfl (q_M_opened _) rfl ?_
  refine e_aload_n i_M_opened_0 rfl ?_
  refine e_getI i_M_opened_1 lf_106 (by decide) (Or.inl ft_11_17) (fun v1 => ?_)
  refine e_bipush (v := 8) i_M_opened_4 (by decide) ?_
  refine e_icmpne (t := 11) i_M_opened_6 (by decide) ?_ ?_
  · refine e_aload_n i_M_opened_11 rfl ?_
    refine e_dup i_M_opened_12 rfl ?_
    refine e_getI i_M_opened_13 lf_106 (by decide) (Or.inl ft_11_17) (fun v13 => ?_)
    refine e_iconst (v := 1) i_M_opened_16 (by decide) ?_
    refine e_iadd i_M_opened_17 ?_
    refine e_putf i_M_opened_18 lf_106 ft_11_17 rfl (fun s18 => ?_)
    refine e_aload_n i_M_opened_21 rfl ?_
    refine e_getR i_M_opened_22 lf_109 (by decide) ft_11_15 (fun v22 => ?_)
    refine e_aload_n i_M_opened_25 rfl ?_
    refine e_getI i_M_opened_26 lf_105 (by decide) (Or.inl ft_11_16) (fun v26 => ?_)
    refine e_iload_n i_M_opened_29 rfl ?_
    refine e_iast i_M_opened_30 (fun s30 => ?_)
    refine e_aload_n i_M_opened_31 rfl ?_
    refine e_dup i_M_opened_32 rfl ?_
    refine e_getI i_M_opened_33 lf_105 (by decide) (Or.inl ft_11_16) (fun v33 => ?_)
    refine e_iconst (v := 1) i_M_opened_36 (by decide) ?_
    refine e_iadd i_M_opened_37 ?_
    refine e_putf i_M_opened_38 lf_105 ft_11_16 rfl (fun s38 => ?_)
    refine e_aload_n i_M_opened_41 rfl ?_
    refine e_callV (as := [.ref w]) (st' := []) i_M_opened_42 lm_325 (Or.inr (Or.inl ⟨rfl, rfl⟩)) w_M_nextToken rfl rfl rfl (Nat.le_of_ble_eq_true rfl) (Nat.le_of_ble_eq_true rfl) (m_rlt (q_M_nextToken _) (by decide)) rfl (fun s42 => ?_)
    refine e_iconst (v := 0) i_M_opened_45 (by decide) ?_
    exact e_iretI i_M_opened_46 rfl
  · refine e_iconst (v := 3) i_M_opened_9 (by decide) ?_
    exact e_iretI i_M_opened_10 rfl
theorem i_M_isOf_0 : m_at k_M_isOf 0 = some (.iload_n 1, 1, 0) := m_at_of r_M_isOf (by decide +kernel)
theorem i_M_isOf_1 : m_at k_M_isOf 1 = some (.iconst 2, 1, 0) := m_at_of r_M_isOf (by decide +kernel)
theorem i_M_isOf_2 : m_at k_M_isOf 2 = some (.if_icmp .lt (30), 3, 0) := m_at_of r_M_isOf (by decide +kernel)
theorem i_M_isOf_5 : m_at k_M_isOf 5 = some (.iload_n 1, 1, 0) := m_at_of r_M_isOf (by decide +kernel)
theorem i_M_isOf_6 : m_at k_M_isOf 6 = some (.bipush 8, 2, 0) := m_at_of r_M_isOf (by decide +kernel)
theorem i_M_isOf_8 : m_at k_M_isOf 8 = some (.if_icmp .ge (7), 3, 0) := m_at_of r_M_isOf (by decide +kernel)
theorem i_M_isOf_11 : m_at k_M_isOf 11 = some (.iconst 1, 1, 0) := m_at_of r_M_isOf (by decide +kernel)
theorem i_M_isOf_12 : m_at k_M_isOf 12 = some (.goto (4), 3, 0) := m_at_of r_M_isOf (by decide +kernel)
theorem i_M_isOf_15 : m_at k_M_isOf 15 = some (.iconst 0, 1, 0) := m_at_of r_M_isOf (by decide +kernel)
theorem i_M_isOf_16 : m_at k_M_isOf 16 = some (.aload_n 0, 1, 0) := m_at_of r_M_isOf (by decide +kernel)
theorem i_M_isOf_17 : m_at k_M_isOf 17 = some (.getfield 165, 3, 104) := m_at_of r_M_isOf (by decide +kernel)
theorem i_M_isOf_20 : m_at k_M_isOf 20 = some (.iconst 1, 1, 0) := m_at_of r_M_isOf (by decide +kernel)
theorem i_M_isOf_21 : m_at k_M_isOf 21 = some (.if_icmp .gt (7), 3, 0) := m_at_of r_M_isOf (by decide +kernel)
theorem i_M_isOf_24 : m_at k_M_isOf 24 = some (.iconst 1, 1, 0) := m_at_of r_M_isOf (by decide +kernel)
theorem i_M_isOf_25 : m_at k_M_isOf 25 = some (.goto (4), 3, 0) := m_at_of r_M_isOf (by decide +kernel)
theorem i_M_isOf_28 : m_at k_M_isOf 28 = some (.iconst 0, 1, 0) := m_at_of r_M_isOf (by decide +kernel)
theorem i_M_isOf_29 : m_at k_M_isOf 29 = some (.if_icmp .ne (7), 3, 0) := m_at_of r_M_isOf (by decide +kernel)
theorem i_M_isOf_32 : m_at k_M_isOf 32 = some (.iconst 1, 1, 0) := m_at_of r_M_isOf (by decide +kernel)
theorem i_M_isOf_33 : m_at k_M_isOf 33 = some (.goto (4), 3, 0) := m_at_of r_M_isOf (by decide +kernel)
theorem i_M_isOf_36 : m_at k_M_isOf 36 = some (.iconst 0, 1, 0) := m_at_of r_M_isOf (by decide +kernel)
theorem i_M_isOf_37 : m_at k_M_isOf 37 = some (.ireturn, 1, 0) := m_at_of r_M_isOf (by decide +kernel)
set_option maxRecDepth 20000 in
set_option maxHeartbeats 1000000 in
theorem E_M_isOf (x : m_X) (s : m_H) (w : Nat) (n1 : Int32) : m_M x k_M_isOf [.ref w, .int n1] s = if m_isO s w 11 = true then (if n1 < 2 then (some (some (.int 1), s)) else if 8 ≤ n1 then (m_D x 1 k_M_isOf 16 [some (.ref w), some (.int n1)] [.int 0] s) else m_D x 1 k_M_isOf 16 [some (.ref w), some (.int n1)] [.int 1] s) else none := by
  refine e_M1 (L0 := [some (.ref w), some (.int n1)]) rfl (by decide +kernel) rfl (q_M_isOf _) rfl ?_
  refine e_iload_n i_M_isOf_0 rfl ?_
  refine e_iconst (v := 2) i_M_isOf_1 (by decide) ?_
  refine e_icmplt (t := 32) i_M_isOf_2 (by decide) ?_ ?_
  · refine e_iconst (v := 1) i_M_isOf_32 (by decide) ?_
    refine e_goto (t := 37) i_M_isOf_33 (by decide) ?_
    exact e_iretZ i_M_isOf_37 rfl (by decide)
  · refine e_iload_n i_M_isOf_5 rfl ?_
    refine e_bipush (v := 8) i_M_isOf_6 (by decide) ?_
    refine e_icmpge (t := 15) i_M_isOf_8 (by decide) ?_ ?_
    · refine e_iconst (v := 0) i_M_isOf_15 (by decide) ?_
      exact rfl
    · refine e_iconst (v := 1) i_M_isOf_11 (by decide) ?_
      refine e_goto (t := 16) i_M_isOf_12 (by decide) ?_
      exact rfl
set_option maxRecDepth 20000 in
set_option maxHeartbeats 1000000 in
theorem E_M_isOf_16 (x : m_X) (ρ : Nat) (hρ : 1 ≤ ρ) (s : m_H) (w : Nat) (n1 : Int32) (nt0 : Int32)  : m_D x ρ k_M_isOf 16 [some (.ref w), some (.int n1)] [.int nt0] s = (m_fI s 11 14 w).bind fun v17 => if 1 < v17 then (if nt0 = 0 then (some (some (.int 1), s)) else some (some (.int 0), s)) else if nt0 = 1 then (some (some (.int 1), s)) else some (some (.int 0), s) := by
  refine e_aload_n i_M_isOf_16 rfl ?_
  refine e_getI i_M_isOf_17 lf_104 (by decide) (Or.inl ft_11_14) (fun v17 => ?_)
  refine e_iconst (v := 1) i_M_isOf_20 (by decide) ?_
  refine e_icmpgt (t := 28) i_M_isOf_21 (by decide) ?_ ?_
  · refine e_iconst (v := 0) i_M_isOf_28 (by decide) ?_
    refine e_icmpne (t := 36) i_M_isOf_29 (by decide) ?_ ?_
    · refine e_iconst (v := 0) i_M_isOf_36 (by decide) ?_
      exact e_iretZ i_M_isOf_37 rfl (by decide)
    · refine e_iconst (v := 1) i_M_isOf_32 (by decide) ?_
      refine e_goto (t := 37) i_M_isOf_33 (by decide) ?_
      exact e_iretZ i_M_isOf_37 rfl (by decide)
  · refine e_iconst (v := 1) i_M_isOf_24 (by decide) ?_
    refine e_goto (t := 29) i_M_isOf_25 (by decide) ?_
    refine e_icmpne (t := 36) i_M_isOf_29 (by decide) ?_ ?_
    · refine e_iconst (v := 0) i_M_isOf_36 (by decide) ?_
      exact e_iretZ i_M_isOf_37 rfl (by decide)
    · refine e_iconst (v := 1) i_M_isOf_32 (by decide) ?_
      refine e_goto (t := 37) i_M_isOf_33 (by decide) ?_
      exact e_iretZ i_M_isOf_37 rfl (by decide)
theorem i_M_nameOf_0 : m_at k_M_nameOf 0 = some (.aload_n 0, 1, 0) := m_at_of r_M_nameOf (by decide +kernel)
theorem i_M_nameOf_1 : m_at k_M_nameOf 1 = some (.getfield 113, 3, 103) := m_at_of r_M_nameOf (by decide +kernel)
theorem i_M_nameOf_4 : m_at k_M_nameOf 4 = some (.iconst 2, 1, 0) := m_at_of r_M_nameOf (by decide +kernel)
theorem i_M_nameOf_5 : m_at k_M_nameOf 5 = some (.if_icmp .eq (5), 3, 0) := m_at_of r_M_nameOf (by decide +kernel)
theorem i_M_nameOf_8 : m_at k_M_nameOf 8 = some (.iconst (-1), 1, 0) := m_at_of r_M_nameOf (by decide +kernel)
theorem i_M_nameOf_9 : m_at k_M_nameOf 9 = some (.ireturn, 1, 0) := m_at_of r_M_nameOf (by decide +kernel)
theorem i_M_nameOf_10 : m_at k_M_nameOf 10 = some (.aload_n 0, 1, 0) := m_at_of r_M_nameOf (by decide +kernel)
theorem i_M_nameOf_11 : m_at k_M_nameOf 11 = some (.getfield 126, 3, 110) := m_at_of r_M_nameOf (by decide +kernel)
theorem i_M_nameOf_14 : m_at k_M_nameOf 14 = some (.bipush 100, 2, 0) := m_at_of r_M_nameOf (by decide +kernel)
theorem i_M_nameOf_16 : m_at k_M_nameOf 16 = some (.bipush 97, 2, 0) := m_at_of r_M_nameOf (by decide +kernel)
theorem i_M_nameOf_18 : m_at k_M_nameOf 18 = some (.bipush 121, 2, 0) := m_at_of r_M_nameOf (by decide +kernel)
theorem i_M_nameOf_20 : m_at k_M_nameOf 20 = some (.invokestatic 139, 3, 347) := m_at_of r_M_nameOf (by decide +kernel)
theorem i_M_nameOf_23 : m_at k_M_nameOf 23 = some (.lcmp, 1, 0) := m_at_of r_M_nameOf (by decide +kernel)
theorem i_M_nameOf_24 : m_at k_M_nameOf 24 = some (.ifCond .ne (5), 3, 0) := m_at_of r_M_nameOf (by decide +kernel)
theorem i_M_nameOf_27 : m_at k_M_nameOf 27 = some (.iconst 0, 1, 0) := m_at_of r_M_nameOf (by decide +kernel)
theorem i_M_nameOf_28 : m_at k_M_nameOf 28 = some (.ireturn, 1, 0) := m_at_of r_M_nameOf (by decide +kernel)
theorem i_M_nameOf_29 : m_at k_M_nameOf 29 = some (.aload_n 0, 1, 0) := m_at_of r_M_nameOf (by decide +kernel)
theorem i_M_nameOf_30 : m_at k_M_nameOf 30 = some (.getfield 126, 3, 110) := m_at_of r_M_nameOf (by decide +kernel)
theorem i_M_nameOf_33 : m_at k_M_nameOf 33 = some (.bipush 102, 2, 0) := m_at_of r_M_nameOf (by decide +kernel)
theorem i_M_nameOf_35 : m_at k_M_nameOf 35 = some (.bipush 114, 2, 0) := m_at_of r_M_nameOf (by decide +kernel)
theorem i_M_nameOf_37 : m_at k_M_nameOf 37 = some (.bipush 111, 2, 0) := m_at_of r_M_nameOf (by decide +kernel)
theorem i_M_nameOf_39 : m_at k_M_nameOf 39 = some (.bipush 115, 2, 0) := m_at_of r_M_nameOf (by decide +kernel)
theorem i_M_nameOf_41 : m_at k_M_nameOf 41 = some (.bipush 116, 2, 0) := m_at_of r_M_nameOf (by decide +kernel)
theorem i_M_nameOf_43 : m_at k_M_nameOf 43 = some (.invokestatic 147, 3, 329) := m_at_of r_M_nameOf (by decide +kernel)
theorem i_M_nameOf_46 : m_at k_M_nameOf 46 = some (.lcmp, 1, 0) := m_at_of r_M_nameOf (by decide +kernel)
theorem i_M_nameOf_47 : m_at k_M_nameOf 47 = some (.ifCond .ne (5), 3, 0) := m_at_of r_M_nameOf (by decide +kernel)
theorem i_M_nameOf_50 : m_at k_M_nameOf 50 = some (.iconst 1, 1, 0) := m_at_of r_M_nameOf (by decide +kernel)
theorem i_M_nameOf_51 : m_at k_M_nameOf 51 = some (.ireturn, 1, 0) := m_at_of r_M_nameOf (by decide +kernel)
theorem i_M_nameOf_52 : m_at k_M_nameOf 52 = some (.aload_n 0, 1, 0) := m_at_of r_M_nameOf (by decide +kernel)
theorem i_M_nameOf_53 : m_at k_M_nameOf 53 = some (.getfield 126, 3, 110) := m_at_of r_M_nameOf (by decide +kernel)
theorem i_M_nameOf_56 : m_at k_M_nameOf 56 = some (.bipush 119, 2, 0) := m_at_of r_M_nameOf (by decide +kernel)
theorem i_M_nameOf_58 : m_at k_M_nameOf 58 = some (.bipush 104, 2, 0) := m_at_of r_M_nameOf (by decide +kernel)
theorem i_M_nameOf_60 : m_at k_M_nameOf 60 = some (.bipush 111, 2, 0) := m_at_of r_M_nameOf (by decide +kernel)
theorem i_M_nameOf_62 : m_at k_M_nameOf 62 = some (.invokestatic 139, 3, 347) := m_at_of r_M_nameOf (by decide +kernel)
theorem i_M_nameOf_65 : m_at k_M_nameOf 65 = some (.lcmp, 1, 0) := m_at_of r_M_nameOf (by decide +kernel)
theorem i_M_nameOf_66 : m_at k_M_nameOf 66 = some (.ifCond .ne (5), 3, 0) := m_at_of r_M_nameOf (by decide +kernel)
theorem i_M_nameOf_69 : m_at k_M_nameOf 69 = some (.iconst 2, 1, 0) := m_at_of r_M_nameOf (by decide +kernel)
theorem i_M_nameOf_70 : m_at k_M_nameOf 70 = some (.ireturn, 1, 0) := m_at_of r_M_nameOf (by decide +kernel)
theorem i_M_nameOf_71 : m_at k_M_nameOf 71 = some (.aload_n 0, 1, 0) := m_at_of r_M_nameOf (by decide +kernel)
theorem i_M_nameOf_72 : m_at k_M_nameOf 72 = some (.getfield 126, 3, 110) := m_at_of r_M_nameOf (by decide +kernel)
theorem i_M_nameOf_75 : m_at k_M_nameOf 75 = some (.bipush 104, 2, 0) := m_at_of r_M_nameOf (by decide +kernel)
theorem i_M_nameOf_77 : m_at k_M_nameOf 77 = some (.bipush 97, 2, 0) := m_at_of r_M_nameOf (by decide +kernel)
theorem i_M_nameOf_79 : m_at k_M_nameOf 79 = some (.bipush 110, 2, 0) := m_at_of r_M_nameOf (by decide +kernel)
theorem i_M_nameOf_81 : m_at k_M_nameOf 81 = some (.bipush 100, 2, 0) := m_at_of r_M_nameOf (by decide +kernel)
theorem i_M_nameOf_83 : m_at k_M_nameOf 83 = some (.invokestatic 143, 3, 351) := m_at_of r_M_nameOf (by decide +kernel)
theorem i_M_nameOf_86 : m_at k_M_nameOf 86 = some (.lcmp, 1, 0) := m_at_of r_M_nameOf (by decide +kernel)
theorem i_M_nameOf_87 : m_at k_M_nameOf 87 = some (.ifCond .ne (5), 3, 0) := m_at_of r_M_nameOf (by decide +kernel)
theorem i_M_nameOf_90 : m_at k_M_nameOf 90 = some (.iconst 3, 1, 0) := m_at_of r_M_nameOf (by decide +kernel)
theorem i_M_nameOf_91 : m_at k_M_nameOf 91 = some (.ireturn, 1, 0) := m_at_of r_M_nameOf (by decide +kernel)
theorem i_M_nameOf_92 : m_at k_M_nameOf 92 = some (.aload_n 0, 1, 0) := m_at_of r_M_nameOf (by decide +kernel)
theorem i_M_nameOf_93 : m_at k_M_nameOf 93 = some (.getfield 126, 3, 110) := m_at_of r_M_nameOf (by decide +kernel)
theorem i_M_nameOf_96 : m_at k_M_nameOf 96 = some (.bipush 99, 2, 0) := m_at_of r_M_nameOf (by decide +kernel)
theorem i_M_nameOf_98 : m_at k_M_nameOf 98 = some (.bipush 111, 2, 0) := m_at_of r_M_nameOf (by decide +kernel)
theorem i_M_nameOf_100 : m_at k_M_nameOf 100 = some (.bipush 105, 2, 0) := m_at_of r_M_nameOf (by decide +kernel)
theorem i_M_nameOf_102 : m_at k_M_nameOf 102 = some (.bipush 110, 2, 0) := m_at_of r_M_nameOf (by decide +kernel)
theorem i_M_nameOf_104 : m_at k_M_nameOf 104 = some (.bipush 115, 2, 0) := m_at_of r_M_nameOf (by decide +kernel)
theorem i_M_nameOf_106 : m_at k_M_nameOf 106 = some (.invokestatic 147, 3, 329) := m_at_of r_M_nameOf (by decide +kernel)
theorem i_M_nameOf_109 : m_at k_M_nameOf 109 = some (.lcmp, 1, 0) := m_at_of r_M_nameOf (by decide +kernel)
theorem i_M_nameOf_110 : m_at k_M_nameOf 110 = some (.ifCond .ne (5), 3, 0) := m_at_of r_M_nameOf (by decide +kernel)
theorem i_M_nameOf_113 : m_at k_M_nameOf 113 = some (.iconst 4, 1, 0) := m_at_of r_M_nameOf (by decide +kernel)
theorem i_M_nameOf_114 : m_at k_M_nameOf 114 = some (.ireturn, 1, 0) := m_at_of r_M_nameOf (by decide +kernel)
theorem i_M_nameOf_115 : m_at k_M_nameOf 115 = some (.aload_n 0, 1, 0) := m_at_of r_M_nameOf (by decide +kernel)
theorem i_M_nameOf_116 : m_at k_M_nameOf 116 = some (.getfield 126, 3, 110) := m_at_of r_M_nameOf (by decide +kernel)
theorem i_M_nameOf_119 : m_at k_M_nameOf 119 = some (.bipush 99, 2, 0) := m_at_of r_M_nameOf (by decide +kernel)
theorem i_M_nameOf_121 : m_at k_M_nameOf 121 = some (.bipush 111, 2, 0) := m_at_of r_M_nameOf (by decide +kernel)
theorem i_M_nameOf_123 : m_at k_M_nameOf 123 = some (.bipush 108, 2, 0) := m_at_of r_M_nameOf (by decide +kernel)
theorem i_M_nameOf_125 : m_at k_M_nameOf 125 = some (.bipush 100, 2, 0) := m_at_of r_M_nameOf (by decide +kernel)
theorem i_M_nameOf_127 : m_at k_M_nameOf 127 = some (.invokestatic 143, 3, 351) := m_at_of r_M_nameOf (by decide +kernel)
theorem i_M_nameOf_130 : m_at k_M_nameOf 130 = some (.lcmp, 1, 0) := m_at_of r_M_nameOf (by decide +kernel)
theorem i_M_nameOf_131 : m_at k_M_nameOf 131 = some (.ifCond .ne (5), 3, 0) := m_at_of r_M_nameOf (by decide +kernel)
theorem i_M_nameOf_134 : m_at k_M_nameOf 134 = some (.iconst 5, 1, 0) := m_at_of r_M_nameOf (by decide +kernel)
theorem i_M_nameOf_135 : m_at k_M_nameOf 135 = some (.ireturn, 1, 0) := m_at_of r_M_nameOf (by decide +kernel)
theorem i_M_nameOf_136 : m_at k_M_nameOf 136 = some (.aload_n 0, 1, 0) := m_at_of r_M_nameOf (by decide +kernel)
theorem i_M_nameOf_137 : m_at k_M_nameOf 137 = some (.getfield 126, 3, 110) := m_at_of r_M_nameOf (by decide +kernel)
theorem i_M_nameOf_140 : m_at k_M_nameOf 140 = some (.bipush 114, 2, 0) := m_at_of r_M_nameOf (by decide +kernel)
theorem i_M_nameOf_142 : m_at k_M_nameOf 142 = some (.bipush 105, 2, 0) := m_at_of r_M_nameOf (by decide +kernel)
theorem i_M_nameOf_144 : m_at k_M_nameOf 144 = some (.bipush 103, 2, 0) := m_at_of r_M_nameOf (by decide +kernel)
theorem i_M_nameOf_146 : m_at k_M_nameOf 146 = some (.bipush 104, 2, 0) := m_at_of r_M_nameOf (by decide +kernel)
theorem i_M_nameOf_148 : m_at k_M_nameOf 148 = some (.bipush 116, 2, 0) := m_at_of r_M_nameOf (by decide +kernel)
theorem i_M_nameOf_150 : m_at k_M_nameOf 150 = some (.bipush 115, 2, 0) := m_at_of r_M_nameOf (by decide +kernel)
theorem i_M_nameOf_152 : m_at k_M_nameOf 152 = some (.invokestatic 157, 3, 345) := m_at_of r_M_nameOf (by decide +kernel)
theorem i_M_nameOf_155 : m_at k_M_nameOf 155 = some (.lcmp, 1, 0) := m_at_of r_M_nameOf (by decide +kernel)
theorem i_M_nameOf_156 : m_at k_M_nameOf 156 = some (.ifCond .ne (6), 3, 0) := m_at_of r_M_nameOf (by decide +kernel)
theorem i_M_nameOf_159 : m_at k_M_nameOf 159 = some (.bipush 6, 2, 0) := m_at_of r_M_nameOf (by decide +kernel)
theorem i_M_nameOf_161 : m_at k_M_nameOf 161 = some (.ireturn, 1, 0) := m_at_of r_M_nameOf (by decide +kernel)
theorem i_M_nameOf_162 : m_at k_M_nameOf 162 = some (.aload_n 0, 1, 0) := m_at_of r_M_nameOf (by decide +kernel)
theorem i_M_nameOf_163 : m_at k_M_nameOf 163 = some (.getfield 126, 3, 110) := m_at_of r_M_nameOf (by decide +kernel)
theorem i_M_nameOf_166 : m_at k_M_nameOf 166 = some (.bipush 98, 2, 0) := m_at_of r_M_nameOf (by decide +kernel)
theorem i_M_nameOf_168 : m_at k_M_nameOf 168 = some (.bipush 97, 2, 0) := m_at_of r_M_nameOf (by decide +kernel)
theorem i_M_nameOf_170 : m_at k_M_nameOf 170 = some (.bipush 114, 2, 0) := m_at_of r_M_nameOf (by decide +kernel)
theorem i_M_nameOf_172 : m_at k_M_nameOf 172 = some (.bipush 101, 2, 0) := m_at_of r_M_nameOf (by decide +kernel)
theorem i_M_nameOf_174 : m_at k_M_nameOf 174 = some (.invokestatic 143, 3, 351) := m_at_of r_M_nameOf (by decide +kernel)
theorem i_M_nameOf_177 : m_at k_M_nameOf 177 = some (.lcmp, 1, 0) := m_at_of r_M_nameOf (by decide +kernel)
theorem i_M_nameOf_178 : m_at k_M_nameOf 178 = some (.ifCond .ne (6), 3, 0) := m_at_of r_M_nameOf (by decide +kernel)
theorem i_M_nameOf_181 : m_at k_M_nameOf 181 = some (.bipush 7, 2, 0) := m_at_of r_M_nameOf (by decide +kernel)
theorem i_M_nameOf_183 : m_at k_M_nameOf 183 = some (.ireturn, 1, 0) := m_at_of r_M_nameOf (by decide +kernel)
theorem i_M_nameOf_184 : m_at k_M_nameOf 184 = some (.aload_n 0, 1, 0) := m_at_of r_M_nameOf (by decide +kernel)
theorem i_M_nameOf_185 : m_at k_M_nameOf 185 = some (.getfield 126, 3, 110) := m_at_of r_M_nameOf (by decide +kernel)
theorem i_M_nameOf_188 : m_at k_M_nameOf 188 = some (.bipush 119, 2, 0) := m_at_of r_M_nameOf (by decide +kernel)
theorem i_M_nameOf_190 : m_at k_M_nameOf 190 = some (.bipush 111, 2, 0) := m_at_of r_M_nameOf (by decide +kernel)
theorem i_M_nameOf_192 : m_at k_M_nameOf 192 = some (.bipush 114, 2, 0) := m_at_of r_M_nameOf (by decide +kernel)
theorem i_M_nameOf_194 : m_at k_M_nameOf 194 = some (.bipush 107, 2, 0) := m_at_of r_M_nameOf (by decide +kernel)
theorem i_M_nameOf_196 : m_at k_M_nameOf 196 = some (.invokestatic 143, 3, 351) := m_at_of r_M_nameOf (by decide +kernel)
theorem i_M_nameOf_199 : m_at k_M_nameOf 199 = some (.lcmp, 1, 0) := m_at_of r_M_nameOf (by decide +kernel)
theorem i_M_nameOf_200 : m_at k_M_nameOf 200 = some (.ifCond .ne (6), 3, 0) := m_at_of r_M_nameOf (by decide +kernel)
theorem i_M_nameOf_203 : m_at k_M_nameOf 203 = some (.bipush 8, 2, 0) := m_at_of r_M_nameOf (by decide +kernel)
theorem i_M_nameOf_205 : m_at k_M_nameOf 205 = some (.ireturn, 1, 0) := m_at_of r_M_nameOf (by decide +kernel)
theorem i_M_nameOf_206 : m_at k_M_nameOf 206 = some (.aload_n 0, 1, 0) := m_at_of r_M_nameOf (by decide +kernel)
theorem i_M_nameOf_207 : m_at k_M_nameOf 207 = some (.invokevirtual 161, 3, 352) := m_at_of r_M_nameOf (by decide +kernel)
theorem i_M_nameOf_210 : m_at k_M_nameOf 210 = some (.ifCond .eq (6), 3, 0) := m_at_of r_M_nameOf (by decide +kernel)
theorem i_M_nameOf_213 : m_at k_M_nameOf 213 = some (.bipush 9, 2, 0) := m_at_of r_M_nameOf (by decide +kernel)
theorem i_M_nameOf_215 : m_at k_M_nameOf 215 = some (.ireturn, 1, 0) := m_at_of r_M_nameOf (by decide +kernel)
theorem i_M_nameOf_216 : m_at k_M_nameOf 216 = some (.aload_n 0, 1, 0) := m_at_of r_M_nameOf (by decide +kernel)
theorem i_M_nameOf_217 : m_at k_M_nameOf 217 = some (.getfield 126, 3, 110) := m_at_of r_M_nameOf (by decide +kernel)
theorem i_M_nameOf_220 : m_at k_M_nameOf 220 = some (.bipush 115, 2, 0) := m_at_of r_M_nameOf (by decide +kernel)
theorem i_M_nameOf_222 : m_at k_M_nameOf 222 = some (.bipush 105, 2, 0) := m_at_of r_M_nameOf (by decide +kernel)
theorem i_M_nameOf_224 : m_at k_M_nameOf 224 = some (.bipush 122, 2, 0) := m_at_of r_M_nameOf (by decide +kernel)
theorem i_M_nameOf_226 : m_at k_M_nameOf 226 = some (.bipush 101, 2, 0) := m_at_of r_M_nameOf (by decide +kernel)
theorem i_M_nameOf_228 : m_at k_M_nameOf 228 = some (.invokestatic 143, 3, 351) := m_at_of r_M_nameOf (by decide +kernel)
theorem i_M_nameOf_231 : m_at k_M_nameOf 231 = some (.lcmp, 1, 0) := m_at_of r_M_nameOf (by decide +kernel)
theorem i_M_nameOf_232 : m_at k_M_nameOf 232 = some (.ifCond .ne (6), 3, 0) := m_at_of r_M_nameOf (by decide +kernel)
theorem i_M_nameOf_235 : m_at k_M_nameOf 235 = some (.bipush 10, 2, 0) := m_at_of r_M_nameOf (by decide +kernel)
theorem i_M_nameOf_237 : m_at k_M_nameOf 237 = some (.ireturn, 1, 0) := m_at_of r_M_nameOf (by decide +kernel)
theorem i_M_nameOf_238 : m_at k_M_nameOf 238 = some (.aload_n 0, 1, 0) := m_at_of r_M_nameOf (by decide +kernel)
theorem i_M_nameOf_239 : m_at k_M_nameOf 239 = some (.getfield 126, 3, 110) := m_at_of r_M_nameOf (by decide +kernel)
theorem i_M_nameOf_242 : m_at k_M_nameOf 242 = some (.bipush 109, 2, 0) := m_at_of r_M_nameOf (by decide +kernel)
theorem i_M_nameOf_244 : m_at k_M_nameOf 244 = some (.bipush 97, 2, 0) := m_at_of r_M_nameOf (by decide +kernel)
theorem i_M_nameOf_246 : m_at k_M_nameOf 246 = some (.bipush 114, 2, 0) := m_at_of r_M_nameOf (by decide +kernel)
theorem i_M_nameOf_248 : m_at k_M_nameOf 248 = some (.bipush 107, 2, 0) := m_at_of r_M_nameOf (by decide +kernel)
theorem i_M_nameOf_250 : m_at k_M_nameOf 250 = some (.invokestatic 143, 3, 351) := m_at_of r_M_nameOf (by decide +kernel)
theorem i_M_nameOf_253 : m_at k_M_nameOf 253 = some (.lcmp, 1, 0) := m_at_of r_M_nameOf (by decide +kernel)
theorem i_M_nameOf_254 : m_at k_M_nameOf 254 = some (.ifCond .ne (6), 3, 0) := m_at_of r_M_nameOf (by decide +kernel)
theorem i_M_nameOf_257 : m_at k_M_nameOf 257 = some (.bipush 11, 2, 0) := m_at_of r_M_nameOf (by decide +kernel)
theorem i_M_nameOf_259 : m_at k_M_nameOf 259 = some (.ireturn, 1, 0) := m_at_of r_M_nameOf (by decide +kernel)
theorem i_M_nameOf_260 : m_at k_M_nameOf 260 = some (.aload_n 0, 1, 0) := m_at_of r_M_nameOf (by decide +kernel)
theorem i_M_nameOf_261 : m_at k_M_nameOf 261 = some (.getfield 126, 3, 110) := m_at_of r_M_nameOf (by decide +kernel)
theorem i_M_nameOf_264 : m_at k_M_nameOf 264 = some (.bipush 102, 2, 0) := m_at_of r_M_nameOf (by decide +kernel)
theorem i_M_nameOf_266 : m_at k_M_nameOf 266 = some (.bipush 114, 2, 0) := m_at_of r_M_nameOf (by decide +kernel)
theorem i_M_nameOf_268 : m_at k_M_nameOf 268 = some (.bipush 111, 2, 0) := m_at_of r_M_nameOf (by decide +kernel)
theorem i_M_nameOf_270 : m_at k_M_nameOf 270 = some (.bipush 109, 2, 0) := m_at_of r_M_nameOf (by decide +kernel)
theorem i_M_nameOf_272 : m_at k_M_nameOf 272 = some (.invokestatic 143, 3, 351) := m_at_of r_M_nameOf (by decide +kernel)
theorem i_M_nameOf_275 : m_at k_M_nameOf 275 = some (.lcmp, 1, 0) := m_at_of r_M_nameOf (by decide +kernel)
theorem i_M_nameOf_276 : m_at k_M_nameOf 276 = some (.ifCond .ne (8), 3, 0) := m_at_of r_M_nameOf (by decide +kernel)
theorem i_M_nameOf_279 : m_at k_M_nameOf 279 = some (.bipush 12, 2, 0) := m_at_of r_M_nameOf (by decide +kernel)
theorem i_M_nameOf_281 : m_at k_M_nameOf 281 = some (.goto (24), 3, 0) := m_at_of r_M_nameOf (by decide +kernel)
theorem i_M_nameOf_284 : m_at k_M_nameOf 284 = some (.aload_n 0, 1, 0) := m_at_of r_M_nameOf (by decide +kernel)
theorem i_M_nameOf_285 : m_at k_M_nameOf 285 = some (.getfield 126, 3, 110) := m_at_of r_M_nameOf (by decide +kernel)
theorem i_M_nameOf_288 : m_at k_M_nameOf 288 = some (.bipush 98, 2, 0) := m_at_of r_M_nameOf (by decide +kernel)
theorem i_M_nameOf_290 : m_at k_M_nameOf 290 = some (.bipush 121, 2, 0) := m_at_of r_M_nameOf (by decide +kernel)
theorem i_M_nameOf_292 : m_at k_M_nameOf 292 = some (.invokestatic 135, 3, 332) := m_at_of r_M_nameOf (by decide +kernel)
theorem i_M_nameOf_295 : m_at k_M_nameOf 295 = some (.lcmp, 1, 0) := m_at_of r_M_nameOf (by decide +kernel)
theorem i_M_nameOf_296 : m_at k_M_nameOf 296 = some (.ifCond .ne (8), 3, 0) := m_at_of r_M_nameOf (by decide +kernel)
theorem i_M_nameOf_299 : m_at k_M_nameOf 299 = some (.bipush 13, 2, 0) := m_at_of r_M_nameOf (by decide +kernel)
theorem i_M_nameOf_301 : m_at k_M_nameOf 301 = some (.goto (4), 3, 0) := m_at_of r_M_nameOf (by decide +kernel)
theorem i_M_nameOf_304 : m_at k_M_nameOf 304 = some (.iconst (-1), 1, 0) := m_at_of r_M_nameOf (by decide +kernel)
theorem i_M_nameOf_305 : m_at k_M_nameOf 305 = some (.ireturn, 1, 0) := m_at_of r_M_nameOf (by decide +kernel)
set_option maxRecDepth 20000 in
set_option maxHeartbeats 1000000 in
theorem E_M_nameOf (x : m_X) (s : m_H) (w : Nat) : m_M x k_M_nameOf [.ref w] s = if m_isO s w 11 = true then ((m_fI s 11 9 w).bind fun v1 => if v1 = 2 then ((m_fL s 11 11 w).bind fun v11 => m_bL (m_M x k_M_w3 [.int 100, .int 97, .int 121] s) fun v20 s20 => if v11 = v20 then (some (some (.int 0), s20)) else (m_fL s20 11 11 w).bind fun v30 => m_bL (m_M x k_M_w5 [.int 102, .int 114, .int 111, .int 115, .int 116] s20) fun v43 s43 => if v30 = v43 then (some (some (.int 1), s43)) else (m_fL s43 11 11 w).bind fun v53 => m_bL (m_M x k_M_w3 [.int 119, .int 104, .int 111] s43) fun v62 s62 => if v53 = v62 then (some (some (.int 2), s62)) else (m_fL s62 11 11 w).bind fun v72 => m_bL (m_M x k_M_w4 [.int 104, .int 97, .int 110, .int 100] s62) fun v83 s83 => if v72 = v83 then (some (some (.int 3), s83)) else (m_fL s83 11 11 w).bind fun v93 => m_bL (m_M x k_M_w5 [.int 99, .int 111, .int 105, .int 110, .int 115] s83) fun v106 s106 => if v93 = v106 then (some (some (.int 4), s106)) else (m_fL s106 11 11 w).bind fun v116 => m_bL (m_M x k_M_w4 [.int 99, .int 111, .int 108, .int 100] s106) fun v127 s127 => if v116 = v127 then (some (some (.int 5), s127)) else (m_fL s127 11 11 w).bind fun v137 => m_bL (m_M x k_M_w6 [.int 114, .int 105, .int 103, .int 104, .int 116, .int 115] s127) fun v152 s152 => if v137 = v152 then (some (some (.int 6), s152)) else (m_fL s152 11 11 w).bind fun v163 => m_bL (m_M x k_M_w4 [.int 98, .int 97, .int 114, .int 101] s152) fun v174 s174 => if v163 = v174 then (some (some (.int 7), s174)) else (m_fL s174 11 11 w).bind fun v185 => m_bL (m_M x k_M_w4 [.int 119, .int 111, .int 114, .int 107] s174) fun v196 s196 => if v185 = v196 then (some (some (.int 8), s196)) else m_bI (m_M x k_M_isLeather [.ref w] s196) fun v207 s207 => if v207 = 0 then ((m_fL s207 11 11 w).bind fun v217 => m_bL (m_M x k_M_w4 [.int 115, .int 105, .int 122, .int 101] s207) fun v228 s228 => if v217 = v228 then (some (some (.int 10), s228)) else (m_fL s228 11 11 w).bind fun v239 => m_bL (m_M x k_M_w4 [.int 109, .int 97, .int 114, .int 107] s228) fun v250 s250 => if v239 = v250 then (some (some (.int 11), s250)) else (m_fL s250 11 11 w).bind fun v261 => m_bL (m_M x k_M_w4 [.int 102, .int 114, .int 111, .int 109] s250) fun v272 s272 => if v261 = v272 then (some (some (.int 12), s272)) else (m_fL s272 11 11 w).bind fun v285 => m_bL (m_M x k_M_w2 [.int 98, .int 121] s272) fun v292 s292 => if v285 = v292 then (some (some (.int 13), s292)) else some (some (.int (-1)), s292)) else some (some (.int 9), s207)) else some (some (.int (-1)), s)) else none := by
  refine e_M1 (L0 := [some (.ref w)]) rfl (by decide +kernel) rfl (q_M_nameOf _) rfl ?_
  refine e_aload_n i_M_nameOf_0 rfl ?_
  refine e_getI i_M_nameOf_1 lf_103 (by decide) (Or.inl ft_11_9) (fun v1 => ?_)
  refine e_iconst (v := 2) i_M_nameOf_4 (by decide) ?_
  refine e_icmpeq (t := 10) i_M_nameOf_5 (by decide) ?_ ?_
  · refine e_aload_n i_M_nameOf_10 rfl ?_
    refine e_getL i_M_nameOf_11 lf_110 (by decide) ft_11_11 (fun v11 => ?_)
    refine e_bipush (v := 100) i_M_nameOf_14 (by decide) ?_
    refine e_bipush (v := 97) i_M_nameOf_16 (by decide) ?_
    refine e_bipush (v := 121) i_M_nameOf_18 (by decide) ?_
    refine e_callL (as := [.int 100, .int 97, .int 121]) (st' := [.long v11]) i_M_nameOf_20 lm_347 (Or.inl ⟨rfl, rfl⟩) w_M_w3 rfl rfl rfl (Nat.le_of_ble_eq_true rfl) (Nat.le_of_ble_eq_true rfl) (m_rlt (q_M_w3 _) (by decide)) rfl (fun v20 s20 => ?_)
    refine e_lcmpne (t := 29) i_M_nameOf_23 i_M_nameOf_24 (by decide) ?_ ?_
    · refine e_aload_n i_M_nameOf_29 rfl ?_
      refine e_getL i_M_nameOf_30 lf_110 (by decide) ft_11_11 (fun v30 => ?_)
      refine e_bipush (v := 102) i_M_nameOf_33 (by decide) ?_
      refine e_bipush (v := 114) i_M_nameOf_35 (by decide) ?_
      refine e_bipush (v := 111) i_M_nameOf_37 (by decide) ?_
      refine e_bipush (v := 115) i_M_nameOf_39 (by decide) ?_
      refine e_bipush (v := 116) i_M_nameOf_41 (by decide) ?_
      refine e_callL (as := [.int 102, .int 114, .int 111, .int 115, .int 116]) (st' := [.long v30]) i_M_nameOf_43 lm_329 (Or.inl ⟨rfl, rfl⟩) w_M_w5 rfl rfl rfl (Nat.le_of_ble_eq_true rfl) (Nat.le_of_ble_eq_true rfl) (m_rlt (q_M_w5 _) (by decide)) rfl (fun v43 s43 => ?_)
      refine e_lcmpne (t := 52) i_M_nameOf_46 i_M_nameOf_47 (by decide) ?_ ?_
      · refine e_aload_n i_M_nameOf_52 rfl ?_
        refine e_getL i_M_nameOf_53 lf_110 (by decide) ft_11_11 (fun v53 => ?_)
        refine e_bipush (v := 119) i_M_nameOf_56 (by decide) ?_
        refine e_bipush (v := 104) i_M_nameOf_58 (by decide) ?_
        refine e_bipush (v := 111) i_M_nameOf_60 (by decide) ?_
        refine e_callL (as := [.int 119, .int 104, .int 111]) (st' := [.long v53]) i_M_nameOf_62 lm_347 (Or.inl ⟨rfl, rfl⟩) w_M_w3 rfl rfl rfl (Nat.le_of_ble_eq_true rfl) (Nat.le_of_ble_eq_true rfl) (m_rlt (q_M_w3 _) (by decide)) rfl (fun v62 s62 => ?_)
        refine e_lcmpne (t := 71) i_M_nameOf_65 i_M_nameOf_66 (by decide) ?_ ?_
        · refine e_aload_n i_M_nameOf_71 rfl ?_
          refine e_getL i_M_nameOf_72 lf_110 (by decide) ft_11_11 (fun v72 => ?_)
          refine e_bipush (v := 104) i_M_nameOf_75 (by decide) ?_
          refine e_bipush (v := 97) i_M_nameOf_77 (by decide) ?_
          refine e_bipush (v := 110) i_M_nameOf_79 (by decide) ?_
          refine e_bipush (v := 100) i_M_nameOf_81 (by decide) ?_
          refine e_callL (as := [.int 104, .int 97, .int 110, .int 100]) (st' := [.long v72]) i_M_nameOf_83 lm_351 (Or.inl ⟨rfl, rfl⟩) w_M_w4 rfl rfl rfl (Nat.le_of_ble_eq_true rfl) (Nat.le_of_ble_eq_true rfl) (m_rlt (q_M_w4 _) (by decide)) rfl (fun v83 s83 => ?_)
          refine e_lcmpne (t := 92) i_M_nameOf_86 i_M_nameOf_87 (by decide) ?_ ?_
          · refine e_aload_n i_M_nameOf_92 rfl ?_
            refine e_getL i_M_nameOf_93 lf_110 (by decide) ft_11_11 (fun v93 => ?_)
            refine e_bipush (v := 99) i_M_nameOf_96 (by decide) ?_
            refine e_bipush (v := 111) i_M_nameOf_98 (by decide) ?_
            refine e_bipush (v := 105) i_M_nameOf_100 (by decide) ?_
            refine e_bipush (v := 110) i_M_nameOf_102 (by decide) ?_
            refine e_bipush (v := 115) i_M_nameOf_104 (by decide) ?_
            refine e_callL (as := [.int 99, .int 111, .int 105, .int 110, .int 115]) (st' := [.long v93]) i_M_nameOf_106 lm_329 (Or.inl ⟨rfl, rfl⟩) w_M_w5 rfl rfl rfl (Nat.le_of_ble_eq_true rfl) (Nat.le_of_ble_eq_true rfl) (m_rlt (q_M_w5 _) (by decide)) rfl (fun v106 s106 => ?_)
            refine e_lcmpne (t := 115) i_M_nameOf_109 i_M_nameOf_110 (by decide) ?_ ?_
            · refine e_aload_n i_M_nameOf_115 rfl ?_
              refine e_getL i_M_nameOf_116 lf_110 (by decide) ft_11_11 (fun v116 => ?_)
              refine e_bipush (v := 99) i_M_nameOf_119 (by decide) ?_
              refine e_bipush (v := 111) i_M_nameOf_121 (by decide) ?_
              refine e_bipush (v := 108) i_M_nameOf_123 (by decide) ?_
              refine e_bipush (v := 100) i_M_nameOf_125 (by decide) ?_
              refine e_callL (as := [.int 99, .int 111, .int 108, .int 100]) (st' := [.long v116]) i_M_nameOf_127 lm_351 (Or.inl ⟨rfl, rfl⟩) w_M_w4 rfl rfl rfl (Nat.le_of_ble_eq_true rfl) (Nat.le_of_ble_eq_true rfl) (m_rlt (q_M_w4 _) (by decide)) rfl (fun v127 s127 => ?_)
              refine e_lcmpne (t := 136) i_M_nameOf_130 i_M_nameOf_131 (by decide) ?_ ?_
              · refine e_aload_n i_M_nameOf_136 rfl ?_
                refine e_getL i_M_nameOf_137 lf_110 (by decide) ft_11_11 (fun v137 => ?_)
                refine e_bipush (v := 114) i_M_nameOf_140 (by decide) ?_
                refine e_bipush (v := 105) i_M_nameOf_142 (by decide) ?_
                refine e_bipush (v := 103) i_M_nameOf_144 (by decide) ?_
                refine e_bipush (v := 104) i_M_nameOf_146 (by decide) ?_
                refine e_bipush (v := 116) i_M_nameOf_148 (by decide) ?_
                refine e_bipush (v := 115) i_M_nameOf_150 (by decide) ?_
                refine e_callL (as := [.int 114, .int 105, .int 103, .int 104, .int 116, .int 115]) (st' := [.long v137]) i_M_nameOf_152 lm_345 (Or.inl ⟨rfl, rfl⟩) w_M_w6 rfl rfl rfl (Nat.le_of_ble_eq_true rfl) (Nat.le_of_ble_eq_true rfl) (m_rlt (q_M_w6 _) (by decide)) rfl (fun v152 s152 => ?_)
                refine e_lcmpne (t := 162) i_M_nameOf_155 i_M_nameOf_156 (by decide) ?_ ?_
                · refine e_aload_n i_M_nameOf_162 rfl ?_
                  refine e_getL i_M_nameOf_163 lf_110 (by decide) ft_11_11 (fun v163 => ?_)
                  refine e_bipush (v := 98) i_M_nameOf_166 (by decide) ?_
                  refine e_bipush (v := 97) i_M_nameOf_168 (by decide) ?_
                  refine e_bipush (v := 114) i_M_nameOf_170 (by decide) ?_
                  refine e_bipush (v := 101) i_M_nameOf_172 (by decide) ?_
                  refine e_callL (as := [.int 98, .int 97, .int 114, .int 101]) (st' := [.long v163]) i_M_nameOf_174 lm_351 (Or.inl ⟨rfl, rfl⟩) w_M_w4 rfl rfl rfl (Nat.le_of_ble_eq_true rfl) (Nat.le_of_ble_eq_true rfl) (m_rlt (q_M_w4 _) (by decide)) rfl (fun v174 s174 => ?_)
                  refine e_lcmpne (t := 184) i_M_nameOf_177 i_M_nameOf_178 (by decide) ?_ ?_
                  · refine e_aload_n i_M_nameOf_184 rfl ?_
                    refine e_getL i_M_nameOf_185 lf_110 (by decide) ft_11_11 (fun v185 => ?_)
                    refine e_bipush (v := 119) i_M_nameOf_188 (by decide) ?_
                    refine e_bipush (v := 111) i_M_nameOf_190 (by decide) ?_
                    refine e_bipush (v := 114) i_M_nameOf_192 (by decide) ?_
                    refine e_bipush (v := 107) i_M_nameOf_194 (by decide) ?_
                    refine e_callL (as := [.int 119, .int 111, .int 114, .int 107]) (st' := [.long v185]) i_M_nameOf_196 lm_351 (Or.inl ⟨rfl, rfl⟩) w_M_w4 rfl rfl rfl (Nat.le_of_ble_eq_true rfl) (Nat.le_of_ble_eq_true rfl) (m_rlt (q_M_w4 _) (by decide)) rfl (fun v196 s196 => ?_)
                    refine e_lcmpne (t := 206) i_M_nameOf_199 i_M_nameOf_200 (by decide) ?_ ?_
                    · refine e_aload_n i_M_nameOf_206 rfl ?_
                      refine e_callI (as := [.ref w]) (st' := []) i_M_nameOf_207 lm_352 (Or.inr (Or.inl ⟨rfl, rfl⟩)) w_M_isLeather rfl rfl rfl (Nat.le_of_ble_eq_true rfl) (Nat.le_of_ble_eq_true rfl) (m_rlt (q_M_isLeather _) (by decide)) rfl (fun v207 s207 => ?_)
                      refine e_ifeq (t := 216) i_M_nameOf_210 (by decide) ?_ ?_
                      · refine e_aload_n i_M_nameOf_216 rfl ?_
                        refine e_getL i_M_nameOf_217 lf_110 (by decide) ft_11_11 (fun v217 => ?_)
                        refine e_bipush (v := 115) i_M_nameOf_220 (by decide) ?_
                        refine e_bipush (v := 105) i_M_nameOf_222 (by decide) ?_
                        refine e_bipush (v := 122) i_M_nameOf_224 (by decide) ?_
                        refine e_bipush (v := 101) i_M_nameOf_226 (by decide) ?_
                        refine e_callL (as := [.int 115, .int 105, .int 122, .int 101]) (st' := [.long v217]) i_M_nameOf_228 lm_351 (Or.inl ⟨rfl, rfl⟩) w_M_w4 rfl rfl rfl (Nat.le_of_ble_eq_true rfl) (Nat.le_of_ble_eq_true rfl) (m_rlt (q_M_w4 _) (by decide)) rfl (fun v228 s228 => ?_)
                        refine e_lcmpne (t := 238) i_M_nameOf_231 i_M_nameOf_232 (by decide) ?_ ?_
                        · refine e_aload_n i_M_nameOf_238 rfl ?_
                          refine e_getL i_M_nameOf_239 lf_110 (by decide) ft_11_11 (fun v239 => ?_)
                          refine e_bipush (v := 109) i_M_nameOf_242 (by decide) ?_
                          refine e_bipush (v := 97) i_M_nameOf_244 (by decide) ?_
                          refine e_bipush (v := 114) i_M_nameOf_246 (by decide) ?_
                          refine e_bipush (v := 107) i_M_nameOf_248 (by decide) ?_
                          refine e_callL (as := [.int 109, .int 97, .int 114, .int 107]) (st' := [.long v239]) i_M_nameOf_250 lm_351 (Or.inl ⟨rfl, rfl⟩) w_M_w4 rfl rfl rfl (Nat.le_of_ble_eq_true rfl) (Nat.le_of_ble_eq_true rfl) (m_rlt (q_M_w4 _) (by decide)) rfl (fun v250 s250 => ?_)
                          refine e_lcmpne (t := 260) i_M_nameOf_253 i_M_nameOf_254 (by decide) ?_ ?_
                          · refine e_aload_n i_M_nameOf_260 rfl ?_
                            refine e_getL i_M_nameOf_261 lf_110 (by decide) ft_11_11 (fun v261 => ?_)
                            refine e_bipush (v := 102) i_M_nameOf_264 (by decide) ?_
                            refine e_bipush (v := 114) i_M_nameOf_266 (by decide) ?_
                            refine e_bipush (v := 111) i_M_nameOf_268 (by decide) ?_
                            refine e_bipush (v := 109) i_M_nameOf_270 (by decide) ?_
                            refine e_callL (as := [.int 102, .int 114, .int 111, .int 109]) (st' := [.long v261]) i_M_nameOf_272 lm_351 (Or.inl ⟨rfl, rfl⟩) w_M_w4 rfl rfl rfl (Nat.le_of_ble_eq_true rfl) (Nat.le_of_ble_eq_true rfl) (m_rlt (q_M_w4 _) (by decide)) rfl (fun v272 s272 => ?_)
                            refine e_lcmpne (t := 284) i_M_nameOf_275 i_M_nameOf_276 (by decide) ?_ ?_
                            · refine e_aload_n i_M_nameOf_284 rfl ?_
                              refine e_getL i_M_nameOf_285 lf_110 (by decide) ft_11_11 (fun v285 => ?_)
                              refine e_bipush (v := 98) i_M_nameOf_288 (by decide) ?_
                              refine e_bipush (v := 121) i_M_nameOf_290 (by decide) ?_
                              refine e_callL (as := [.int 98, .int 121]) (st' := [.long v285]) i_M_nameOf_292 lm_332 (Or.inl ⟨rfl, rfl⟩) w_M_w2 rfl rfl rfl (Nat.le_of_ble_eq_true rfl) (Nat.le_of_ble_eq_true rfl) (m_rlt (q_M_w2 _) (by decide)) rfl (fun v292 s292 => ?_)
                              refine e_lcmpne (t := 304) i_M_nameOf_295 i_M_nameOf_296 (by decide) ?_ ?_
                              · refine e_iconst (v := (-1)) i_M_nameOf_304 (by decide) ?_
                                exact e_iretI i_M_nameOf_305 rfl
                              · refine e_bipush (v := 13) i_M_nameOf_299 (by decide) ?_
                                refine e_goto (t := 305) i_M_nameOf_301 (by decide) ?_
                                exact e_iretI i_M_nameOf_305 rfl
                            · refine e_bipush (v := 12) i_M_nameOf_279 (by decide) ?_
                              refine e_goto (t := 305) i_M_nameOf_281 (by decide) ?_
                              exact e_iretI i_M_nameOf_305 rfl
                          · refine e_bipush (v := 11) i_M_nameOf_257 (by decide) ?_
                            exact e_iretI i_M_nameOf_259 rfl
                        · refine e_bipush (v := 10) i_M_nameOf_235 (by decide) ?_
                          exact e_iretI i_M_nameOf_237 rfl
                      · refine e_bipush (v := 9) i_M_nameOf_213 (by decide) ?_
                        exact e_iretI i_M_nameOf_215 rfl
                    · refine e_bipush (v := 8) i_M_nameOf_203 (by decide) ?_
                      exact e_iretI i_M_nameOf_205 rfl
                  · refine e_bipush (v := 7) i_M_nameOf_181 (by decide) ?_
                    exact e_iretI i_M_nameOf_183 rfl
                · refine e_bipush (v := 6) i_M_nameOf_159 (by decide) ?_
                  exact e_iretI i_M_nameOf_161 rfl
              · refine e_iconst (v := 5) i_M_nameOf_134 (by decide) ?_
                exact e_iretI i_M_nameOf_135 rfl
            · refine e_iconst (v := 4) i_M_nameOf_113 (by decide) ?_
              exact e_iretI i_M_nameOf_114 rfl
          · refine e_iconst (v := 3) i_M_nameOf_90 (by decide) ?_
            exact e_iretI i_M_nameOf_91 rfl
        · refine e_iconst (v := 2) i_M_nameOf_69 (by decide) ?_
          exact e_iretI i_M_nameOf_70 rfl
      · refine e_iconst (v := 1) i_M_nameOf_50 (by decide) ?_
        exact e_iretI i_M_nameOf_51 rfl
    · refine e_iconst (v := 0) i_M_nameOf_27 (by decide) ?_
      exact e_iretI i_M_nameOf_28 rfl
  · refine e_iconst (v := (-1)) i_M_nameOf_8 (by decide) ?_
    exact e_iretI i_M_nameOf_9 rfl
theorem i_M_behindOne_0 : m_at k_M_behindOne 0 = some (.aload_n 0, 1, 0) := m_at_of r_M_behindOne (by decide +kernel)
theorem i_M_behindOne_1 : m_at k_M_behindOne 1 = some (.invokevirtual 225, 3, 353) := m_at_of r_M_behindOne (by decide +kernel)
theorem i_M_behindOne_4 : m_at k_M_behindOne 4 = some (.istore_n 1, 1, 0) := m_at_of r_M_behindOne (by decide +kernel)
theorem i_M_behindOne_5 : m_at k_M_behindOne 5 = some (.iload_n 1, 1, 0) := m_at_of r_M_behindOne (by decide +kernel)
theorem i_M_behindOne_6 : m_at k_M_behindOne 6 = some (.ifCond .lt (54), 3, 0) := m_at_of r_M_behindOne (by decide +kernel)
theorem i_M_behindOne_9 : m_at k_M_behindOne 9 = some (.aload_n 0, 1, 0) := m_at_of r_M_behindOne (by decide +kernel)
theorem i_M_behindOne_10 : m_at k_M_behindOne 10 = some (.iload_n 1, 1, 0) := m_at_of r_M_behindOne (by decide +kernel)
theorem i_M_behindOne_11 : m_at k_M_behindOne 11 = some (.invokestatic 171, 3, 350) := m_at_of r_M_behindOne (by decide +kernel)
theorem i_M_behindOne_14 : m_at k_M_behindOne 14 = some (.iconst 4, 1, 0) := m_at_of r_M_behindOne (by decide +kernel)
theorem i_M_behindOne_15 : m_at k_M_behindOne 15 = some (.if_icmp .ne (7), 3, 0) := m_at_of r_M_behindOne (by decide +kernel)
theorem i_M_behindOne_18 : m_at k_M_behindOne 18 = some (.iconst 5, 1, 0) := m_at_of r_M_behindOne (by decide +kernel)
theorem i_M_behindOne_19 : m_at k_M_behindOne 19 = some (.goto (7), 3, 0) := m_at_of r_M_behindOne (by decide +kernel)
theorem i_M_behindOne_22 : m_at k_M_behindOne 22 = some (.iload_n 1, 1, 0) := m_at_of r_M_behindOne (by decide +kernel)
theorem i_M_behindOne_23 : m_at k_M_behindOne 23 = some (.invokestatic 171, 3, 350) := m_at_of r_M_behindOne (by decide +kernel)
theorem i_M_behindOne_26 : m_at k_M_behindOne 26 = some (.invokevirtual 213, 3, 339) := m_at_of r_M_behindOne (by decide +kernel)
theorem i_M_behindOne_29 : m_at k_M_behindOne 29 = some (.aload_n 0, 1, 0) := m_at_of r_M_behindOne (by decide +kernel)
theorem i_M_behindOne_30 : m_at k_M_behindOne 30 = some (.getfield 29, 3, 109) := m_at_of r_M_behindOne (by decide +kernel)
theorem i_M_behindOne_33 : m_at k_M_behindOne 33 = some (.aload_n 0, 1, 0) := m_at_of r_M_behindOne (by decide +kernel)
theorem i_M_behindOne_34 : m_at k_M_behindOne 34 = some (.getfield 168, 3, 105) := m_at_of r_M_behindOne (by decide +kernel)
theorem i_M_behindOne_37 : m_at k_M_behindOne 37 = some (.iload_n 1, 1, 0) := m_at_of r_M_behindOne (by decide +kernel)
theorem i_M_behindOne_38 : m_at k_M_behindOne 38 = some (.iastore, 1, 0) := m_at_of r_M_behindOne (by decide +kernel)
theorem i_M_behindOne_39 : m_at k_M_behindOne 39 = some (.aload_n 0, 1, 0) := m_at_of r_M_behindOne (by decide +kernel)
theorem i_M_behindOne_40 : m_at k_M_behindOne 40 = some (.dup, 1, 0) := m_at_of r_M_behindOne (by decide +kernel)
theorem i_M_behindOne_41 : m_at k_M_behindOne 41 = some (.getfield 168, 3, 105) := m_at_of r_M_behindOne (by decide +kernel)
theorem i_M_behindOne_44 : m_at k_M_behindOne 44 = some (.iconst 1, 1, 0) := m_at_of r_M_behindOne (by decide +kernel)
theorem i_M_behindOne_45 : m_at k_M_behindOne 45 = some (.iadd, 1, 0) := m_at_of r_M_behindOne (by decide +kernel)
theorem i_M_behindOne_46 : m_at k_M_behindOne 46 = some (.putfield 168, 3, 105) := m_at_of r_M_behindOne (by decide +kernel)
theorem i_M_behindOne_49 : m_at k_M_behindOne 49 = some (.aload_n 0, 1, 0) := m_at_of r_M_behindOne (by decide +kernel)
theorem i_M_behindOne_50 : m_at k_M_behindOne 50 = some (.iconst 0, 1, 0) := m_at_of r_M_behindOne (by decide +kernel)
theorem i_M_behindOne_51 : m_at k_M_behindOne 51 = some (.putfield 216, 3, 107) := m_at_of r_M_behindOne (by decide +kernel)
theorem i_M_behindOne_54 : m_at k_M_behindOne 54 = some (.aload_n 0, 1, 0) := m_at_of r_M_behindOne (by decide +kernel)
theorem i_M_behindOne_55 : m_at k_M_behindOne 55 = some (.invokevirtual 191, 3, 325) := m_at_of r_M_behindOne (by decide +kernel)
theorem i_M_behindOne_58 : m_at k_M_behindOne 58 = some (.iconst 0, 1, 0) := m_at_of r_M_behindOne (by decide +kernel)
theorem i_M_behindOne_59 : m_at k_M_behindOne 59 = some (.ireturn, 1, 0) := m_at_of r_M_behindOne (by decide +kernel)
theorem i_M_behindOne_60 : m_at k_M_behindOne 60 = some (.aload_n 0, 1, 0) := m_at_of r_M_behindOne (by decide +kernel)
theorem i_M_behindOne_61 : m_at k_M_behindOne 61 = some (.invokevirtual 185, 3, 338) := m_at_of r_M_behindOne (by decide +kernel)
theorem i_M_behindOne_64 : m_at k_M_behindOne 64 = some (.istore_n 2, 1, 0) := m_at_of r_M_behindOne (by decide +kernel)
theorem i_M_behindOne_65 : m_at k_M_behindOne 65 = some (.aload_n 0, 1, 0) := m_at_of r_M_behindOne (by decide +kernel)
theorem i_M_behindOne_66 : m_at k_M_behindOne 66 = some (.iload_n 2, 1, 0) := m_at_of r_M_behindOne (by decide +kernel)
theorem i_M_behindOne_67 : m_at k_M_behindOne 67 = some (.invokevirtual 228, 3, 354) := m_at_of r_M_behindOne (by decide +kernel)
theorem i_M_behindOne_70 : m_at k_M_behindOne 70 = some (.istore_n 3, 1, 0) := m_at_of r_M_behindOne (by decide +kernel)
theorem i_M_behindOne_71 : m_at k_M_behindOne 71 = some (.iload_n 3, 1, 0) := m_at_of r_M_behindOne (by decide +kernel)
theorem i_M_behindOne_72 : m_at k_M_behindOne 72 = some (.ifCond .ge (5), 3, 0) := m_at_of r_M_behindOne (by decide +kernel)
theorem i_M_behindOne_75 : m_at k_M_behindOne 75 = some (.iconst (-1), 1, 0) := m_at_of r_M_behindOne (by decide +kernel)
theorem i_M_behindOne_76 : m_at k_M_behindOne 76 = some (.ireturn, 1, 0) := m_at_of r_M_behindOne (by decide +kernel)
theorem i_M_behindOne_77 : m_at k_M_behindOne 77 = some (.aload_n 0, 1, 0) := m_at_of r_M_behindOne (by decide +kernel)
theorem i_M_behindOne_78 : m_at k_M_behindOne 78 = some (.iconst 1, 1, 0) := m_at_of r_M_behindOne (by decide +kernel)
theorem i_M_behindOne_79 : m_at k_M_behindOne 79 = some (.invokevirtual 213, 3, 339) := m_at_of r_M_behindOne (by decide +kernel)
theorem i_M_behindOne_82 : m_at k_M_behindOne 82 = some (.aload_n 0, 1, 0) := m_at_of r_M_behindOne (by decide +kernel)
theorem i_M_behindOne_83 : m_at k_M_behindOne 83 = some (.invokevirtual 191, 3, 325) := m_at_of r_M_behindOne (by decide +kernel)
theorem i_M_behindOne_86 : m_at k_M_behindOne 86 = some (.iload_n 3, 1, 0) := m_at_of r_M_behindOne (by decide +kernel)
theorem i_M_behindOne_87 : m_at k_M_behindOne 87 = some (.ifCond .ne (40), 3, 0) := m_at_of r_M_behindOne (by decide +kernel)
theorem i_M_behindOne_90 : m_at k_M_behindOne 90 = some (.aload_n 0, 1, 0) := m_at_of r_M_behindOne (by decide +kernel)
theorem i_M_behindOne_91 : m_at k_M_behindOne 91 = some (.dup, 1, 0) := m_at_of r_M_behindOne (by decide +kernel)
theorem i_M_behindOne_92 : m_at k_M_behindOne 92 = some (.getfield 178, 3, 106) := m_at_of r_M_behindOne (by decide +kernel)
theorem i_M_behindOne_95 : m_at k_M_behindOne 95 = some (.iconst 1, 1, 0) := m_at_of r_M_behindOne (by decide +kernel)
theorem i_M_behindOne_96 : m_at k_M_behindOne 96 = some (.isub, 1, 0) := m_at_of r_M_behindOne (by decide +kernel)
theorem i_M_behindOne_97 : m_at k_M_behindOne 97 = some (.putfield 178, 3, 106) := m_at_of r_M_behindOne (by decide +kernel)
theorem i_M_behindOne_100 : m_at k_M_behindOne 100 = some (.aload_n 0, 1, 0) := m_at_of r_M_behindOne (by decide +kernel)
theorem i_M_behindOne_101 : m_at k_M_behindOne 101 = some (.dup, 1, 0) := m_at_of r_M_behindOne (by decide +kernel)
theorem i_M_behindOne_102 : m_at k_M_behindOne 102 = some (.getfield 168, 3, 105) := m_at_of r_M_behindOne (by decide +kernel)
theorem i_M_behindOne_105 : m_at k_M_behindOne 105 = some (.iconst 1, 1, 0) := m_at_of r_M_behindOne (by decide +kernel)
theorem i_M_behindOne_106 : m_at k_M_behindOne 106 = some (.isub, 1, 0) := m_at_of r_M_behindOne (by decide +kernel)
theorem i_M_behindOne_107 : m_at k_M_behindOne 107 = some (.putfield 168, 3, 105) := m_at_of r_M_behindOne (by decide +kernel)
theorem i_M_behindOne_110 : m_at k_M_behindOne 110 = some (.iload_n 2, 1, 0) := m_at_of r_M_behindOne (by decide +kernel)
theorem i_M_behindOne_111 : m_at k_M_behindOne 111 = some (.bipush 44, 2, 0) := m_at_of r_M_behindOne (by decide +kernel)
theorem i_M_behindOne_113 : m_at k_M_behindOne 113 = some (.if_icmp .ne (9), 3, 0) := m_at_of r_M_behindOne (by decide +kernel)
theorem i_M_behindOne_116 : m_at k_M_behindOne 116 = some (.aload_n 0, 1, 0) := m_at_of r_M_behindOne (by decide +kernel)
theorem i_M_behindOne_117 : m_at k_M_behindOne 117 = some (.iconst 3, 1, 0) := m_at_of r_M_behindOne (by decide +kernel)
theorem i_M_behindOne_118 : m_at k_M_behindOne 118 = some (.iconst 0, 1, 0) := m_at_of r_M_behindOne (by decide +kernel)
theorem i_M_behindOne_119 : m_at k_M_behindOne 119 = some (.invokevirtual 174, 3, 342) := m_at_of r_M_behindOne (by decide +kernel)
theorem i_M_behindOne_122 : m_at k_M_behindOne 122 = some (.aload_n 0, 1, 0) := m_at_of r_M_behindOne (by decide +kernel)
theorem i_M_behindOne_123 : m_at k_M_behindOne 123 = some (.invokevirtual 200, 3, 343) := m_at_of r_M_behindOne (by decide +kernel)
theorem i_M_behindOne_126 : m_at k_M_behindOne 126 = some (.ireturn, 1, 0) := m_at_of r_M_behindOne (by decide +kernel)
theorem i_M_behindOne_127 : m_at k_M_behindOne 127 = some (.aload_n 0, 1, 0) := m_at_of r_M_behindOne (by decide +kernel)
theorem i_M_behindOne_128 : m_at k_M_behindOne 128 = some (.getfield 29, 3, 109) := m_at_of r_M_behindOne (by decide +kernel)
theorem i_M_behindOne_131 : m_at k_M_behindOne 131 = some (.aload_n 0, 1, 0) := m_at_of r_M_behindOne (by decide +kernel)
theorem i_M_behindOne_132 : m_at k_M_behindOne 132 = some (.invokevirtual 181, 3, 355) := m_at_of r_M_behindOne (by decide +kernel)
theorem i_M_behindOne_135 : m_at k_M_behindOne 135 = some (.iload_n 3, 1, 0) := m_at_of r_M_behindOne (by decide +kernel)
theorem i_M_behindOne_136 : m_at k_M_behindOne 136 = some (.iastore, 1, 0) := m_at_of r_M_behindOne (by decide +kernel)
theorem i_M_behindOne_137 : m_at k_M_behindOne 137 = some (.aload_n 0, 1, 0) := m_at_of r_M_behindOne (by decide +kernel)
theorem i_M_behindOne_138 : m_at k_M_behindOne 138 = some (.iconst 0, 1, 0) := m_at_of r_M_behindOne (by decide +kernel)
theorem i_M_behindOne_139 : m_at k_M_behindOne 139 = some (.putfield 216, 3, 107) := m_at_of r_M_behindOne (by decide +kernel)
theorem i_M_behindOne_142 : m_at k_M_behindOne 142 = some (.iconst 0, 1, 0) := m_at_of r_M_behindOne (by decide +kernel)
theorem i_M_behindOne_143 : m_at k_M_behindOne 143 = some (.ireturn, 1, 0) := m_at_of r_M_behindOne (by decide +kernel)
set_option maxRecDepth 20000 in
set_option maxHeartbeats 1000000 in
theorem E_M_behindOne (x : m_X) (s : m_H) (w : Nat) : m_M x k_M_behindOne [.ref w] s = if m_isO s w 11 = true then (m_bI (m_M x k_M_betweenOf [.ref w] s) fun v1 s1 => if v1 < 0 then (m_bI (m_M x k_M_openNow [.ref w] s1) fun v61 s61 => m_bI (m_M x k_M_partOf [.ref w, .int v61] s61) fun v67 s67 => if 0 ≤ v67 then (m_bV (m_M x k_M_settle [.ref w, .int 1] s67) fun s79 => m_bV (m_M x k_M_nextToken [.ref w] s79) fun s83 => if v67 = 0 then ((m_fI s83 11 17 w).bind fun v92 => (m_pf s83 11 17 w (.int (v92 - (1 : Int32)))).bind fun s97 => (m_fI s97 11 16 w).bind fun v102 => (m_pf s97 11 16 w (.int (v102 - (1 : Int32)))).bind fun s107 => if v61 = 44 then (m_bV (m_M x k_M_emit [.ref w, .int 3, .int 0] s107) fun s119 => m_bI (m_M x k_M_endOne [.ref w] s119) fun v123 s123 => some (some (.int v123), s123)) else m_bI (m_M x k_M_endOne [.ref w] s107) fun v123 s123 => some (some (.int v123), s123)) else (m_fR s83 11 15 w).bind fun v128 => m_bI (m_M x k_M_openAt [.ref w] s83) fun v132 s132 => (m_is s132 v128 v132 v67).bind fun s136 => (m_pf s136 11 18 w (.int 0)).bind fun s139 => some (some (.int 0), s139)) else some (some (.int (-1)), s67)) else m_bI (m_M x k_M_rank [.int v1] s1) fun v11 s11 => if v11 = 4 then (m_D x 5 k_M_behindOne 26 [some (.ref w), some (.int v1), none, none] [.int 5, .ref w] s11) else m_bI (m_M x k_M_rank [.int v1] s11) fun v23 s23 => m_D x 5 k_M_behindOne 26 [some (.ref w), some (.int v1), none, none] [.int v23, .ref w] s23) else none := by
  refine e_M1 (L0 := [some (.ref w), none, none, none]) rfl (by decide +kernel) rfl (q_M_behindOne _) rfl ?_
  refine e_aload_n i_M_behindOne_0 rfl ?_
  refine e_callI (as := [.ref w]) (st' := []) i_M_behindOne_1 lm_353 (Or.inr (Or.inl ⟨rfl, rfl⟩)) w_M_betweenOf rfl rfl rfl (Nat.le_of_ble_eq_true rfl) (Nat.le_of_ble_eq_true rfl) (m_rlt (q_M_betweenOf _) (by decide)) rfl (fun v1 s1 => ?_)
  refine e_istore_n (L' := [some (.ref w), some (.int v1), none, none]) i_M_behindOne_4 (of_decide_eq_true rfl) rfl ?_
  refine e_iload_n i_M_behindOne_5 rfl ?_
  refine e_iflt (t := 60) i_M_behindOne_6 (by decide) ?_ ?_
  · refine e_aload_n i_M_behindOne_60 rfl ?_
    refine e_callI (as := [.ref w]) (st' := []) i_M_behindOne_61 lm_338 (Or.inr (Or.inl ⟨rfl, rfl⟩)) w_M_openNow rfl rfl rfl (Nat.le_of_ble_eq_true rfl) (Nat.le_of_ble_eq_true rfl) (m_rlt (q_M_openNow _) (by decide)) rfl (fun v61 s61 => ?_)
    refine e_istore_n (L' := [some (.ref w), some (.int v1), some (.int v61), none]) i_M_behindOne_64 (of_decide_eq_true rfl) rfl ?_
    refine e_aload_n i_M_behindOne_65 rfl ?_
    refine e_iload_n i_M_behindOne_66 rfl ?_
    refine e_callI (as := [.ref w, .int v61]) (st' := []) i_M_behindOne_67 lm_354 (Or.inr (Or.inl ⟨rfl, rfl⟩)) w_M_partOf rfl rfl rfl (Nat.le_of_ble_eq_true rfl) (Nat.le_of_ble_eq_true rfl) (m_rlt (q_M_partOf _) (by decide)) rfl (fun v67 s67 => ?_)
    refine e_istore_n (L' := [some (.ref w), some (.int v1), some (.int v61), some (.int v67)]) i_M_behindOne_70 (of_decide_eq_true rfl) rfl ?_
    refine e_iload_n i_M_behindOne_71 rfl ?_
    refine e_ifge (t := 77) i_M_behindOne_72 (by decide) ?_ ?_
    · refine e_aload_n i_M_behindOne_77 rfl ?_
      refine e_iconst (v := 1) i_M_behindOne_78 (by decide) ?_
      refine e_callV (as := [.ref w, .int 1]) (st' := []) i_M_behindOne_79 lm_339 (Or.inr (Or.inl ⟨rfl, rfl⟩)) w_M_settle rfl rfl rfl (Nat.le_of_ble_eq_true rfl) (Nat.le_of_ble_eq_true rfl) (m_rlt (q_M_settle _) (by decide)) rfl (fun s79 => ?_)
      refine e_aload_n i_M_behindOne_82 rfl ?_
      refine e_callV (as := [.ref w]) (st' := []) i_M_behindOne_83 lm_325 (Or.inr (Or.inl ⟨rfl, rfl⟩)) w_M_nextToken rfl rfl rfl (Nat.le_of_ble_eq_true rfl) (Nat.le_of_ble_eq_true rfl) (m_rlt (q_M_nextToken _) (by decide)) rfl (fun s83 => ?_)
      refine e_iload_n i_M_behindOne_86 rfl ?_
      refine e_ifne (t := 127) i_M_behindOne_87 (by decide) ?_ ?_
      · refine e_aload_n i_M_behindOne_127 rfl ?_
        refine e_getR i_M_behindOne_128 lf_109 (by decide) ft_11_15 (fun v128 => ?_)
        refine e_aload_n i_M_behindOne_131 rfl ?_
        refine e_callI (as := [.ref w]) (st' := [.ref v128]) i_M_behindOne_132 lm_355 (Or.inr (Or.inl ⟨rfl, rfl⟩)) w_M_openAt rfl rfl rfl (Nat.le_of_ble_eq_true rfl) (Nat.le_of_ble_eq_true rfl) (m_rlt (q_M_openAt _) (by decide)) rfl (fun v132 s132 => ?_)
        refine e_iload_n i_M_behindOne_135 rfl ?_
        refine e_iast i_M_behindOne_136 (fun s136 => ?_)
        refine e_aload_n i_M_behindOne_137 rfl ?_
        refine e_iconst (v := 0) i_M_behindOne_138 (by decide) ?_
        refine e_putf i_M_behindOne_139 lf_107 ft_11_18 (by decide) (fun s139 => ?_)
        refine e_iconst (v := 0) i_M_behindOne_142 (by decide) ?_
        exact e_iretI i_M_behindOne_143 rfl
      · refine e_aload_n i_M_behindOne_90 rfl ?_
        refine e_dup i_M_behindOne_91 rfl ?_
        refine e_getI i_M_behindOne_92 lf_106 (by decide) (Or.inl ft_11_17) (fun v92 => ?_)
        refine e_iconst (v := 1) i_M_behindOne_95 (by decide) ?_
        refine e_isub i_M_behindOne_96 ?_
        refine e_putf i_M_behindOne_97 lf_106 ft_11_17 rfl (fun s97 => ?_)
        refine e_aload_n i_M_behindOne_100 rfl ?_
        refine e_dup i_M_behindOne_101 rfl ?_
        refine e_getI i_M_behindOne_102 lf_105 (by decide) (Or.inl ft_11_16) (fun v102 => ?_)
        refine e_iconst (v := 1) i_M_behindOne_105 (by decide) ?_
        refine e_isub i_M_behindOne_106 ?_
        refine e_putf i_M_behindOne_107 lf_105 ft_11_16 rfl (fun s107 => ?_)
        refine e_iload_n i_M_behindOne_110 rfl ?_
        refine e_bipush (v := 44) i_M_behindOne_111 (by decide) ?_
        refine e_icmpne (t := 122) i_M_behindOne_113 (by decide) ?_ ?_
        · refine e_aload_n i_M_behindOne_122 rfl ?_
          refine e_callI (as := [.ref w]) (st' := []) i_M_behindOne_123 lm_343 (Or.inr (Or.inl ⟨rfl, rfl⟩)) w_M_endOne rfl rfl rfl (Nat.le_of_ble_eq_true rfl) (Nat.le_of_ble_eq_true rfl) (m_rlt (q_M_endOne _) (by decide)) rfl (fun v123 s123 => ?_)
          exact e_iretI i_M_behindOne_126 rfl
        · refine e_aload_n i_M_behindOne_116 rfl ?_
          refine e_iconst (v := 3) i_M_behindOne_117 (by decide) ?_
          refine e_iconst (v := 0) i_M_behindOne_118 (by decide) ?_
          refine e_callV (as := [.ref w, .int 3, .int 0]) (st' := []) i_M_behindOne_119 lm_342 (Or.inr (Or.inl ⟨rfl, rfl⟩)) w_M_emit rfl rfl rfl (Nat.le_of_ble_eq_true rfl) (Nat.le_of_ble_eq_true rfl) (m_rlt (q_M_emit _) (by decide)) rfl (fun s119 => ?_)
          refine e_aload_n i_M_behindOne_122 rfl ?_
          refine e_callI (as := [.ref w]) (st' := []) i_M_behindOne_123 lm_343 (Or.inr (Or.inl ⟨rfl, rfl⟩)) w_M_endOne rfl rfl rfl (Nat.le_of_ble_eq_true rfl) (Nat.le_of_ble_eq_true rfl) (m_rlt (q_M_endOne _) (by decide)) rfl (fun v123 s123 => ?_)
          exact e_iretI i_M_behindOne_126 rfl
    · refine e_iconst (v := (-1)) i_M_behindOne_75 (by decide) ?_
      exact e_iretI i_M_behindOne_76 rfl
  · refine e_aload_n i_M_behindOne_9 rfl ?_
    refine e_iload_n i_M_behindOne_10 rfl ?_
    refine e_callI (as := [.int v1]) (st' := [.ref w]) i_M_behindOne_11 lm_350 (Or.inl ⟨rfl, rfl⟩) w_M_rank rfl rfl rfl (Nat.le_of_ble_eq_true rfl) (Nat.le_of_ble_eq_true rfl) (m_rlt (q_M_rank _) (by decide)) rfl (fun v11 s11 => ?_)
    refine e_iconst (v := 4) i_M_behindOne_14 (by decide) ?_
    refine e_icmpne (t := 22) i_M_behindOne_15 (by decide) ?_ ?_
    · refine e_iload_n i_M_behindOne_22 rfl ?_
      refine e_callI (as := [.int v1]) (st' := [.ref w]) i_M_behindOne_23 lm_350 (Or.inl ⟨rfl, rfl⟩) w_M_rank rfl rfl rfl (Nat.le_of_ble_eq_true rfl) (Nat.le_of_ble_eq_true rfl) (m_rlt (q_M_rank _) (by decide)) rfl (fun v23 s23 => ?_)
      exact rfl
    · refine e_iconst (v := 5) i_M_behindOne_18 (by decide) ?_
      refine e_goto (t := 26) i_M_behindOne_19 (by decide) ?_
      exact rfl
set_option maxRecDepth 20000 in
set_option maxHeartbeats 1000000 in
theorem E_M_behindOne_26 (x : m_X) (ρ : Nat) (hρ : 5 ≤ ρ) (s : m_H) (w : Nat) (n1 : Int32) (nt0 : Int32)  : m_D x ρ k_M_behindOne 26 [some (.ref w), some (.int n1), none, none] [.int nt0, .ref w] s = m_bV (m_M x k_M_settle [.ref w, .int nt0] s) fun s26 => (m_fR s26 11 15 w).bind fun v30 => (m_fI s26 11 16 w).bind fun v34 => (m_is s26 v30 v34 n1).bind fun s38 => (m_fI s38 11 16 w).bind fun v41 => (m_pf s38 11 16 w (.int (v41 + (1 : Int32)))).bind fun s46 => (m_pf s46 11 18 w (.int 0)).bind fun s51 => m_bV (m_M x k_M_nextToken [.ref w] s51) fun s55 => some (some (.int 0), s55) := by
  refine e_callV (as := [.ref w, .int nt0]) (st' := []) i_M_behindOne_26 lm_339 (Or.inr (Or.inl ⟨rfl, rfl⟩)) w_M_settle rfl rfl rfl (Nat.le_of_ble_eq_true rfl) (Nat.le_of_ble_eq_true rfl) (m_rlt (q_M_settle _) (Nat.lt_of_lt_of_le (by decide) hρ)) rfl (fun s26 => ?_)
  refine e_aload_n i_M_behindOne_29 rfl ?_
  refine e_getR i_M_behindOne_30 lf_109 (by decide) ft_11_15 (fun v30 => ?_)
  refine e_aload_n i_M_behindOne_33 rfl ?_
  refine e_getI i_M_behindOne_34 lf_105 (by decide) (Or.inl ft_11_16) (fun v34 => ?_)
  refine e_iload_n i_M_behindOne_37 rfl ?_
  refine e_iast i_M_behindOne_38 (fun s38 => ?_)
  refine e_aload_n i_M_behindOne_39 rfl ?_
  refine e_dup i_M_behindOne_40 rfl ?_
  refine e_getI i_M_behindOne_41 lf_105 (by decide) (Or.inl ft_11_16) (fun v41 => ?_)
  refine e_iconst (v := 1) i_M_behindOne_44 (by decide) ?_
  refine e_iadd i_M_behindOne_45 ?_
  refine e_putf i_M_behindOne_46 lf_105 ft_11_16 rfl (fun s46 => ?_)
  refine e_aload_n i_M_behindOne_49 rfl ?_
  refine e_iconst (v := 0) i_M_behindOne_50 (by decide) ?_
  refine e_putf i_M_behindOne_51 lf_107 ft_11_18 (by decide) (fun s51 => ?_)
  refine e_aload_n i_M_behindOne_54 rfl ?_
  refine e_callV (as := [.ref w]) (st' := []) i_M_behindOne_55 lm_325 (Or.inr (Or.inl ⟨rfl, rfl⟩)) w_M_nextToken rfl rfl rfl (Nat.le_of_ble_eq_true rfl) (Nat.le_of_ble_eq_true rfl) (m_rlt (q_M_nextToken _) (Nat.lt_of_lt_of_le (by decide) hρ)) rfl (fun s55 => ?_)
  refine e_iconst (v := 0) i_M_behindOne_58 (by decide) ?_
  exact e_iretI i_M_behindOne_59 rfl
theorem i_M_endOne_0 : m_at k_M_endOne 0 = some (.aload_n 0, 1, 0) := m_at_of r_M_endOne (by decide +kernel)
theorem i_M_endOne_1 : m_at k_M_endOne 1 = some (.bipush 7, 2, 0) := m_at_of r_M_endOne (by decide +kernel)
theorem i_M_endOne_3 : m_at k_M_endOne 3 = some (.invokevirtual 213, 3, 339) := m_at_of r_M_endOne (by decide +kernel)
theorem i_M_endOne_6 : m_at k_M_endOne 6 = some (.aload_n 0, 1, 0) := m_at_of r_M_endOne (by decide +kernel)
theorem i_M_endOne_7 : m_at k_M_endOne 7 = some (.iconst 1, 1, 0) := m_at_of r_M_endOne (by decide +kernel)
theorem i_M_endOne_8 : m_at k_M_endOne 8 = some (.putfield 216, 3, 107) := m_at_of r_M_endOne (by decide +kernel)
theorem i_M_endOne_11 : m_at k_M_endOne 11 = some (.aload_n 0, 1, 0) := m_at_of r_M_endOne (by decide +kernel)
theorem i_M_endOne_12 : m_at k_M_endOne 12 = some (.getfield 168, 3, 105) := m_at_of r_M_endOne (by decide +kernel)
theorem i_M_endOne_15 : m_at k_M_endOne 15 = some (.ifCond .eq (19), 3, 0) := m_at_of r_M_endOne (by decide +kernel)
theorem i_M_endOne_18 : m_at k_M_endOne 18 = some (.aload_n 0, 1, 0) := m_at_of r_M_endOne (by decide +kernel)
theorem i_M_endOne_19 : m_at k_M_endOne 19 = some (.getfield 29, 3, 109) := m_at_of r_M_endOne (by decide +kernel)
theorem i_M_endOne_22 : m_at k_M_endOne 22 = some (.aload_n 0, 1, 0) := m_at_of r_M_endOne (by decide +kernel)
theorem i_M_endOne_23 : m_at k_M_endOne 23 = some (.getfield 168, 3, 105) := m_at_of r_M_endOne (by decide +kernel)
theorem i_M_endOne_26 : m_at k_M_endOne 26 = some (.iconst 1, 1, 0) := m_at_of r_M_endOne (by decide +kernel)
theorem i_M_endOne_27 : m_at k_M_endOne 27 = some (.isub, 1, 0) := m_at_of r_M_endOne (by decide +kernel)
theorem i_M_endOne_28 : m_at k_M_endOne 28 = some (.iaload, 1, 0) := m_at_of r_M_endOne (by decide +kernel)
theorem i_M_endOne_29 : m_at k_M_endOne 29 = some (.bipush 41, 2, 0) := m_at_of r_M_endOne (by decide +kernel)
theorem i_M_endOne_31 : m_at k_M_endOne 31 = some (.if_icmp .eq (5), 3, 0) := m_at_of r_M_endOne (by decide +kernel)
theorem i_M_endOne_34 : m_at k_M_endOne 34 = some (.iconst 0, 1, 0) := m_at_of r_M_endOne (by decide +kernel)
theorem i_M_endOne_35 : m_at k_M_endOne 35 = some (.ireturn, 1, 0) := m_at_of r_M_endOne (by decide +kernel)
theorem i_M_endOne_36 : m_at k_M_endOne 36 = some (.aload_n 0, 1, 0) := m_at_of r_M_endOne (by decide +kernel)
theorem i_M_endOne_37 : m_at k_M_endOne 37 = some (.bipush 119, 2, 0) := m_at_of r_M_endOne (by decide +kernel)
theorem i_M_endOne_39 : m_at k_M_endOne 39 = some (.bipush 105, 2, 0) := m_at_of r_M_endOne (by decide +kernel)
theorem i_M_endOne_41 : m_at k_M_endOne 41 = some (.bipush 116, 2, 0) := m_at_of r_M_endOne (by decide +kernel)
theorem i_M_endOne_43 : m_at k_M_endOne 43 = some (.bipush 104, 2, 0) := m_at_of r_M_endOne (by decide +kernel)
theorem i_M_endOne_45 : m_at k_M_endOne 45 = some (.invokestatic 143, 3, 351) := m_at_of r_M_endOne (by decide +kernel)
theorem i_M_endOne_48 : m_at k_M_endOne 48 = some (.invokevirtual 206, 3, 346) := m_at_of r_M_endOne (by decide +kernel)
theorem i_M_endOne_51 : m_at k_M_endOne 51 = some (.ifCond .ne (5), 3, 0) := m_at_of r_M_endOne (by decide +kernel)
theorem i_M_endOne_54 : m_at k_M_endOne 54 = some (.iconst 1, 1, 0) := m_at_of r_M_endOne (by decide +kernel)
theorem i_M_endOne_55 : m_at k_M_endOne 55 = some (.ireturn, 1, 0) := m_at_of r_M_endOne (by decide +kernel)
theorem i_M_endOne_56 : m_at k_M_endOne 56 = some (.aload_n 0, 1, 0) := m_at_of r_M_endOne (by decide +kernel)
theorem i_M_endOne_57 : m_at k_M_endOne 57 = some (.invokevirtual 191, 3, 325) := m_at_of r_M_endOne (by decide +kernel)
theorem i_M_endOne_60 : m_at k_M_endOne 60 = some (.aload_n 0, 1, 0) := m_at_of r_M_endOne (by decide +kernel)
theorem i_M_endOne_61 : m_at k_M_endOne 61 = some (.getfield 29, 3, 109) := m_at_of r_M_endOne (by decide +kernel)
theorem i_M_endOne_64 : m_at k_M_endOne 64 = some (.aload_n 0, 1, 0) := m_at_of r_M_endOne (by decide +kernel)
theorem i_M_endOne_65 : m_at k_M_endOne 65 = some (.getfield 168, 3, 105) := m_at_of r_M_endOne (by decide +kernel)
theorem i_M_endOne_68 : m_at k_M_endOne 68 = some (.iconst 1, 1, 0) := m_at_of r_M_endOne (by decide +kernel)
theorem i_M_endOne_69 : m_at k_M_endOne 69 = some (.isub, 1, 0) := m_at_of r_M_endOne (by decide +kernel)
theorem i_M_endOne_70 : m_at k_M_endOne 70 = some (.iconst 4, 1, 0) := m_at_of r_M_endOne (by decide +kernel)
theorem i_M_endOne_71 : m_at k_M_endOne 71 = some (.iastore, 1, 0) := m_at_of r_M_endOne (by decide +kernel)
theorem i_M_endOne_72 : m_at k_M_endOne 72 = some (.aload_n 0, 1, 0) := m_at_of r_M_endOne (by decide +kernel)
theorem i_M_endOne_73 : m_at k_M_endOne 73 = some (.iconst 0, 1, 0) := m_at_of r_M_endOne (by decide +kernel)
theorem i_M_endOne_74 : m_at k_M_endOne 74 = some (.putfield 216, 3, 107) := m_at_of r_M_endOne (by decide +kernel)
theorem i_M_endOne_77 : m_at k_M_endOne 77 = some (.iconst 0, 1, 0) := m_at_of r_M_endOne (by decide +kernel)
theorem i_M_endOne_78 : m_at k_M_endOne 78 = some (.ireturn, 1, 0) := m_at_of r_M_endOne (by decide +kernel)
set_option maxRecDepth 20000 in
set_option maxHeartbeats 1000000 in
theorem E_M_endOne (x : m_X) (s : m_H) (w : Nat) : m_M x k_M_endOne [.ref w] s = if m_isO s w 11 = true then (m_bV (m_M x k_M_settle [.ref w, .int 7] s) fun s3 => (m_pf s3 11 18 w (.int 1)).bind fun s8 => (m_fI s8 11 16 w).bind fun v12 => if v12 = 0 then (some (some (.int 0), s8)) else (m_fR s8 11 15 w).bind fun v19 => (m_fI s8 11 16 w).bind fun v23 => (m_ia x s8 v19 (v23 - (1 : Int32))).bind fun v28 => if v28 = 41 then (m_bL (m_M x k_M_w4 [.int 119, .int 105, .int 116, .int 104] s8) fun v45 s45 => m_bI (m_M x k_M_isWord [.ref w, .long v45] s45) fun v48 s48 => if v48 = 0 then (some (some (.int 1), s48)) else m_bV (m_M x k_M_nextToken [.ref w] s48) fun s57 => (m_fR s57 11 15 w).bind fun v61 => (m_fI s57 11 16 w).bind fun v65 => (m_is s57 v61 (v65 - (1 : Int32)) 4).bind fun s71 => (m_pf s71 11 18 w (.int 0)).bind fun s74 => some (some (.int 0), s74)) else some (some (.int 0), s8)) else none := by
  refine e_M1 (L0 := [some (.ref w)]) rfl (by decide +kernel) rfl (q_M_endOne _) rfl ?_
  refine e_aload_n i_M_endOne_0 rfl ?_
  refine e_bipush (v := 7) i_M_endOne_1 (by decide) ?_
  refine e_callV (as := [.ref w, .int 7]) (st' := []) i_M_endOne_3 lm_339 (Or.inr (Or.inl ⟨rfl, rfl⟩)) w_M_settle rfl rfl rfl (Nat.le_of_ble_eq_true rfl) (Nat.le_of_ble_eq_true rfl) (m_rlt (q_M_settle _) (by decide)) rfl (fun s3 => ?_)
  refine e_aload_n i_M_endOne_6 rfl ?_
  refine e_iconst (v := 1) i_M_endOne_7 (by decide) ?_
  refine e_putf i_M_endOne_8 lf_107 ft_11_18 (by decide) (fun s8 => ?_)
  refine e_aload_n i_M_endOne_11 rfl ?_
  refine e_getI i_M_endOne_12 lf_105 (by decide) (Or.inl ft_11_16) (fun v12 => ?_)
  refine e_ifeq (t := 34) i_M_endOne_15 (by decide) ?_ ?_
  · refine e_iconst (v := 0) i_M_endOne_34 (by decide) ?_
    exact e_iretI i_M_endOne_35 rfl
  · refine e_aload_n i_M_endOne_18 rfl ?_
    refine e_getR i_M_endOne_19 lf_109 (by decide) ft_11_15 (fun v19 => ?_)
    refine e_aload_n i_M_endOne_22 rfl ?_
    refine e_getI i_M_endOne_23 lf_105 (by decide) (Or.inl ft_11_16) (fun v23 => ?_)
    refine e_iconst (v := 1) i_M_endOne_26 (by decide) ?_
    refine e_isub i_M_endOne_27 ?_
    refine e_iald i_M_endOne_28 (fun v28 => ?_)
    refine e_bipush (v := 41) i_M_endOne_29 (by decide) ?_
    refine e_icmpeq (t := 36) i_M_endOne_31 (by decide) ?_ ?_
    · refine e_aload_n i_M_endOne_36 rfl ?_
      refine e_bipush (v := 119) i_M_endOne_37 (by decide) ?_
      refine e_bipush (v := 105) i_M_endOne_39 (by decide) ?_
      refine e_bipush (v := 116) i_M_endOne_41 (by decide) ?_
      refine e_bipush (v := 104) i_M_endOne_43 (by decide) ?_
      refine e_callL (as := [.int 119, .int 105, .int 116, .int 104]) (st' := [.ref w]) i_M_endOne_45 lm_351 (Or.inl ⟨rfl, rfl⟩) w_M_w4 rfl rfl rfl (Nat.le_of_ble_eq_true rfl) (Nat.le_of_ble_eq_true rfl) (m_rlt (q_M_w4 _) (by decide)) rfl (fun v45 s45 => ?_)
      refine e_callI (as := [.ref w, .long v45]) (st' := []) i_M_endOne_48 lm_346 (Or.inr (Or.inl ⟨rfl, rfl⟩)) w_M_isWord rfl rfl rfl (Nat.le_of_ble_eq_true rfl) (Nat.le_of_ble_eq_true rfl) (m_rlt (q_M_isWord _) (by decide)) rfl (fun v48 s48 => ?_)
      refine e_ifne (t := 56) i_M_endOne_51 (by decide) ?_ ?_
      · refine e_aload_n i_M_endOne_56 rfl ?_
        refine e_callV (as := [.ref w]) (st' := []) i_M_endOne_57 lm_325 (Or.inr (Or.inl ⟨rfl, rfl⟩)) w_M_nextToken rfl rfl rfl (Nat.le_of_ble_eq_true rfl) (Nat.le_of_ble_eq_true rfl) (m_rlt (q_M_nextToken _) (by decide)) rfl (fun s57 => ?_)
        refine e_aload_n i_M_endOne_60 rfl ?_
        refine e_getR i_M_endOne_61 lf_109 (by decide) ft_11_15 (fun v61 => ?_)
        refine e_aload_n i_M_endOne_64 rfl ?_
        refine e_getI i_M_endOne_65 lf_105 (by decide) (Or.inl ft_11_16) (fun v65 => ?_)
        refine e_iconst (v := 1) i_M_endOne_68 (by decide) ?_
        refine e_isub i_M_endOne_69 ?_
        refine e_iconst (v := 4) i_M_endOne_70 (by decide) ?_
        refine e_iast i_M_endOne_71 (fun s71 => ?_)
        refine e_aload_n i_M_endOne_72 rfl ?_
        refine e_iconst (v := 0) i_M_endOne_73 (by decide) ?_
        refine e_putf i_M_endOne_74 lf_107 ft_11_18 (by decide) (fun s74 => ?_)
        refine e_iconst (v := 0) i_M_endOne_77 (by decide) ?_
        exact e_iretI i_M_endOne_78 rfl
      · refine e_iconst (v := 1) i_M_endOne_54 (by decide) ?_
        exact e_iretI i_M_endOne_55 rfl
    · refine e_iconst (v := 0) i_M_endOne_34 (by decide) ?_
      exact e_iretI i_M_endOne_35 rfl
theorem i_M_partOf_0 : m_at k_M_partOf 0 = some (.iload_n 1, 1, 0) := m_at_of r_M_partOf (by decide +kernel)
theorem i_M_partOf_1 : m_at k_M_partOf 1 = some (.tableswitch (129) (40) (44) #[35, 129, 50, 82, 107], 35, 0) := m_at_of r_M_partOf (by decide +kernel)
theorem i_M_partOf_36 : m_at k_M_partOf 36 = some (.aload_n 0, 1, 0) := m_at_of r_M_partOf (by decide +kernel)
theorem i_M_partOf_37 : m_at k_M_partOf 37 = some (.getfield 113, 3, 103) := m_at_of r_M_partOf (by decide +kernel)
theorem i_M_partOf_40 : m_at k_M_partOf 40 = some (.bipush 41, 2, 0) := m_at_of r_M_partOf (by decide +kernel)
theorem i_M_partOf_42 : m_at k_M_partOf 42 = some (.if_icmp .ne (7), 3, 0) := m_at_of r_M_partOf (by decide +kernel)
theorem i_M_partOf_45 : m_at k_M_partOf 45 = some (.iconst 0, 1, 0) := m_at_of r_M_partOf (by decide +kernel)
theorem i_M_partOf_46 : m_at k_M_partOf 46 = some (.goto (4), 3, 0) := m_at_of r_M_partOf (by decide +kernel)
theorem i_M_partOf_49 : m_at k_M_partOf 49 = some (.iconst (-1), 1, 0) := m_at_of r_M_partOf (by decide +kernel)
theorem i_M_partOf_50 : m_at k_M_partOf 50 = some (.ireturn, 1, 0) := m_at_of r_M_partOf (by decide +kernel)
theorem i_M_partOf_51 : m_at k_M_partOf 51 = some (.aload_n 0, 1, 0) := m_at_of r_M_partOf (by decide +kernel)
theorem i_M_partOf_52 : m_at k_M_partOf 52 = some (.bipush 116, 2, 0) := m_at_of r_M_partOf (by decide +kernel)
theorem i_M_partOf_54 : m_at k_M_partOf 54 = some (.bipush 104, 2, 0) := m_at_of r_M_partOf (by decide +kernel)
theorem i_M_partOf_56 : m_at k_M_partOf 56 = some (.bipush 101, 2, 0) := m_at_of r_M_partOf (by decide +kernel)
theorem i_M_partOf_58 : m_at k_M_partOf 58 = some (.bipush 110, 2, 0) := m_at_of r_M_partOf (by decide +kernel)
theorem i_M_partOf_60 : m_at k_M_partOf 60 = some (.invokestatic 143, 3, 351) := m_at_of r_M_partOf (by decide +kernel)
theorem i_M_partOf_63 : m_at k_M_partOf 63 = some (.invokevirtual 206, 3, 346) := m_at_of r_M_partOf (by decide +kernel)
theorem i_M_partOf_66 : m_at k_M_partOf 66 = some (.ifCond .eq (15), 3, 0) := m_at_of r_M_partOf (by decide +kernel)
theorem i_M_partOf_69 : m_at k_M_partOf 69 = some (.aload_n 0, 1, 0) := m_at_of r_M_partOf (by decide +kernel)
theorem i_M_partOf_70 : m_at k_M_partOf 70 = some (.invokevirtual 219, 3, 356) := m_at_of r_M_partOf (by decide +kernel)
theorem i_M_partOf_73 : m_at k_M_partOf 73 = some (.ifCond .eq (8), 3, 0) := m_at_of r_M_partOf (by decide +kernel)
theorem i_M_partOf_76 : m_at k_M_partOf 76 = some (.bipush 43, 2, 0) := m_at_of r_M_partOf (by decide +kernel)
theorem i_M_partOf_78 : m_at k_M_partOf 78 = some (.goto (4), 3, 0) := m_at_of r_M_partOf (by decide +kernel)
theorem i_M_partOf_81 : m_at k_M_partOf 81 = some (.iconst (-1), 1, 0) := m_at_of r_M_partOf (by decide +kernel)
theorem i_M_partOf_82 : m_at k_M_partOf 82 = some (.ireturn, 1, 0) := m_at_of r_M_partOf (by decide +kernel)
theorem i_M_partOf_83 : m_at k_M_partOf 83 = some (.aload_n 0, 1, 0) := m_at_of r_M_partOf (by decide +kernel)
theorem i_M_partOf_84 : m_at k_M_partOf 84 = some (.bipush 101, 2, 0) := m_at_of r_M_partOf (by decide +kernel)
theorem i_M_partOf_86 : m_at k_M_partOf 86 = some (.bipush 108, 2, 0) := m_at_of r_M_partOf (by decide +kernel)
theorem i_M_partOf_88 : m_at k_M_partOf 88 = some (.bipush 115, 2, 0) := m_at_of r_M_partOf (by decide +kernel)
theorem i_M_partOf_90 : m_at k_M_partOf 90 = some (.bipush 101, 2, 0) := m_at_of r_M_partOf (by decide +kernel)
theorem i_M_partOf_92 : m_at k_M_partOf 92 = some (.invokestatic 143, 3, 351) := m_at_of r_M_partOf (by decide +kernel)
theorem i_M_partOf_95 : m_at k_M_partOf 95 = some (.invokevirtual 206, 3, 346) := m_at_of r_M_partOf (by decide +kernel)
theorem i_M_partOf_98 : m_at k_M_partOf 98 = some (.ifCond .eq (8), 3, 0) := m_at_of r_M_partOf (by decide +kernel)
theorem i_M_partOf_101 : m_at k_M_partOf 101 = some (.bipush 44, 2, 0) := m_at_of r_M_partOf (by decide +kernel)
theorem i_M_partOf_103 : m_at k_M_partOf 103 = some (.goto (4), 3, 0) := m_at_of r_M_partOf (by decide +kernel)
theorem i_M_partOf_106 : m_at k_M_partOf 106 = some (.iconst (-1), 1, 0) := m_at_of r_M_partOf (by decide +kernel)
theorem i_M_partOf_107 : m_at k_M_partOf 107 = some (.ireturn, 1, 0) := m_at_of r_M_partOf (by decide +kernel)
theorem i_M_partOf_108 : m_at k_M_partOf 108 = some (.aload_n 0, 1, 0) := m_at_of r_M_partOf (by decide +kernel)
theorem i_M_partOf_109 : m_at k_M_partOf 109 = some (.bipush 101, 2, 0) := m_at_of r_M_partOf (by decide +kernel)
theorem i_M_partOf_111 : m_at k_M_partOf 111 = some (.bipush 110, 2, 0) := m_at_of r_M_partOf (by decide +kernel)
theorem i_M_partOf_113 : m_at k_M_partOf 113 = some (.bipush 100, 2, 0) := m_at_of r_M_partOf (by decide +kernel)
theorem i_M_partOf_115 : m_at k_M_partOf 115 = some (.invokestatic 139, 3, 347) := m_at_of r_M_partOf (by decide +kernel)
theorem i_M_partOf_118 : m_at k_M_partOf 118 = some (.invokevirtual 206, 3, 346) := m_at_of r_M_partOf (by decide +kernel)
theorem i_M_partOf_121 : m_at k_M_partOf 121 = some (.ifCond .eq (7), 3, 0) := m_at_of r_M_partOf (by decide +kernel)
theorem i_M_partOf_124 : m_at k_M_partOf 124 = some (.iconst 0, 1, 0) := m_at_of r_M_partOf (by decide +kernel)
theorem i_M_partOf_125 : m_at k_M_partOf 125 = some (.goto (4), 3, 0) := m_at_of r_M_partOf (by decide +kernel)
theorem i_M_partOf_128 : m_at k_M_partOf 128 = some (.iconst (-1), 1, 0) := m_at_of r_M_partOf (by decide +kernel)
theorem i_M_partOf_129 : m_at k_M_partOf 129 = some (.ireturn, 1, 0) := m_at_of r_M_partOf (by decide +kernel)
theorem i_M_partOf_130 : m_at k_M_partOf 130 = some (.iconst (-1), 1, 0) := m_at_of r_M_partOf (by decide +kernel)
theorem i_M_partOf_131 : m_at k_M_partOf 131 = some (.ireturn, 1, 0) := m_at_of r_M_partOf (by decide +kernel)
set_option maxRecDepth 20000 in
set_option maxHeartbeats 1000000 in
theorem E_M_partOf (x : m_X) (s : m_H) (w : Nat) (n1 : Int32) : m_M x k_M_partOf [.ref w, .int n1] s = if m_isO s w 11 = true then (if n1 = 40 then ((m_fI s 11 9 w).bind fun v37 => if v37 = 41 then (some (some (.int 0), s)) else some (some (.int (-1)), s)) else if n1 = 41 then (some (some (.int (-1)), s)) else if n1 = 42 then (m_bL (m_M x k_M_w4 [.int 116, .int 104, .int 101, .int 110] s) fun v60 s60 => m_bI (m_M x k_M_isWord [.ref w, .long v60] s60) fun v63 s63 => if v63 = 0 then (some (some (.int (-1)), s63)) else m_bI (m_M x k_M_isCompared [.ref w] s63) fun v70 s70 => if v70 = 0 then (some (some (.int (-1)), s70)) else some (some (.int 43), s70)) else if n1 = 43 then (m_bL (m_M x k_M_w4 [.int 101, .int 108, .int 115, .int 101] s) fun v92 s92 => m_bI (m_M x k_M_isWord [.ref w, .long v92] s92) fun v95 s95 => if v95 = 0 then (some (some (.int (-1)), s95)) else some (some (.int 44), s95)) else if n1 = 44 then (m_bL (m_M x k_M_w3 [.int 101, .int 110, .int 100] s) fun v115 s115 => m_bI (m_M x k_M_isWord [.ref w, .long v115] s115) fun v118 s118 => if v118 = 0 then (some (some (.int (-1)), s118)) else some (some (.int 0), s118)) else some (some (.int (-1)), s)) else none := by
  refine e_M1 (L0 := [some (.ref w), some (.int n1)]) rfl (by decide +kernel) rfl (q_M_partOf _) rfl ?_
  refine e_iload_n i_M_partOf_0 rfl ?_
  refine e_tsw (cs := [(40, 36), (41, 130), (42, 51), (43, 83), (44, 108)]) (td := 130) i_M_partOf_1 (by decide +kernel) ?_
  refine m_sw_c ?_ ?_
  · refine e_aload_n i_M_partOf_36 rfl ?_
    refine e_getI i_M_partOf_37 lf_103 (by decide) (Or.inl ft_11_9) (fun v37 => ?_)
    refine e_bipush (v := 41) i_M_partOf_40 (by decide) ?_
    refine e_icmpne (t := 49) i_M_partOf_42 (by decide) ?_ ?_
    · refine e_iconst (v := (-1)) i_M_partOf_49 (by decide) ?_
      exact e_iretI i_M_partOf_50 rfl
    · refine e_iconst (v := 0) i_M_partOf_45 (by decide) ?_
      refine e_goto (t := 50) i_M_partOf_46 (by decide) ?_
      exact e_iretI i_M_partOf_50 rfl
  refine m_sw_c ?_ ?_
  · refine e_iconst (v := (-1)) i_M_partOf_130 (by decide) ?_
    exact e_iretI i_M_partOf_131 rfl
  refine m_sw_c ?_ ?_
  · refine e_aload_n i_M_partOf_51 rfl ?_
    refine e_bipush (v := 116) i_M_partOf_52 (by decide) ?_
    refine e_bipush (v := 104) i_M_partOf_54 (by decide) ?_
    refine e_bipush (v := 101) i_M_partOf_56 (by decide) ?_
    refine e_bipush (v := 110) i_M_partOf_58 (by decide) ?_
    refine e_callL (as := [.int 116, .int 104, .int 101, .int 110]) (st' := [.ref w]) i_M_partOf_60 lm_351 (Or.inl ⟨rfl, rfl⟩) w_M_w4 rfl rfl rfl (Nat.le_of_ble_eq_true rfl) (Nat.le_of_ble_eq_true rfl) (m_rlt (q_M_w4 _) (by decide)) rfl (fun v60 s60 => ?_)
    refine e_callI (as := [.ref w, .long v60]) (st' := []) i_M_partOf_63 lm_346 (Or.inr (Or.inl ⟨rfl, rfl⟩)) w_M_isWord rfl rfl rfl (Nat.le_of_ble_eq_true rfl) (Nat.le_of_ble_eq_true rfl) (m_rlt (q_M_isWord _) (by decide)) rfl (fun v63 s63 => ?_)
    refine e_ifeq (t := 81) i_M_partOf_66 (by decide) ?_ ?_
    · refine e_iconst (v := (-1)) i_M_partOf_81 (by decide) ?_
      exact e_iretI i_M_partOf_82 rfl
    · refine e_aload_n i_M_partOf_69 rfl ?_
      refine e_callI (as := [.ref w]) (st' := []) i_M_partOf_70 lm_356 (Or.inr (Or.inl ⟨rfl, rfl⟩)) w_M_isCompared rfl rfl rfl (Nat.le_of_ble_eq_true rfl) (Nat.le_of_ble_eq_true rfl) (m_rlt (q_M_isCompared _) (by decide)) rfl (fun v70 s70 => ?_)
      refine e_ifeq (t := 81) i_M_partOf_73 (by decide) ?_ ?_
      · refine e_iconst (v := (-1)) i_M_partOf_81 (by decide) ?_
        exact e_iretI i_M_partOf_82 rfl
      · refine e_bipush (v := 43) i_M_partOf_76 (by decide) ?_
        refine e_goto (t := 82) i_M_partOf_78 (by decide) ?_
        exact e_iretI i_M_partOf_82 rfl
  refine m_sw_c ?_ ?_
  · refine e_aload_n i_M_partOf_83 rfl ?_
    refine e_bipush (v := 101) i_M_partOf_84 (by decide) ?_
    refine e_bipush (v := 108) i_M_partOf_86 (by decide) ?_
    refine e_bipush (v := 115) i_M_partOf_88 (by decide) ?_
    refine e_bipush (v := 101) i_M_partOf_90 (by decide) ?_
    refine e_callL (as := [.int 101, .int 108, .int 115, .int 101]) (st' := [.ref w]) i_M_partOf_92 lm_351 (Or.inl ⟨rfl, rfl⟩) w_M_w4 rfl rfl rfl (Nat.le_of_ble_eq_true rfl) (Nat.le_of_ble_eq_true rfl) (m_rlt (q_M_w4 _) (by decide)) rfl (fun v92 s92 => ?_)
    refine e_callI (as := [.ref w, .long v92]) (st' := []) i_M_partOf_95 lm_346 (Or.inr (Or.inl ⟨rfl, rfl⟩)) w_M_isWord rfl rfl rfl (Nat.le_of_ble_eq_true rfl) (Nat.le_of_ble_eq_true rfl) (m_rlt (q_M_isWord _) (by decide)) rfl (fun v95 s95 => ?_)
    refine e_ifeq (t := 106) i_M_partOf_98 (by decide) ?_ ?_
    · refine e_iconst (v := (-1)) i_M_partOf_106 (by decide) ?_
      exact e_iretI i_M_partOf_107 rfl
    · refine e_bipush (v := 44) i_M_partOf_101 (by decide) ?_
      refine e_goto (t := 107) i_M_partOf_103 (by decide) ?_
      exact e_iretI i_M_partOf_107 rfl
  refine m_sw_c ?_ ?_
  · refine e_aload_n i_M_partOf_108 rfl ?_
    refine e_bipush (v := 101) i_M_partOf_109 (by decide) ?_
    refine e_bipush (v := 110) i_M_partOf_111 (by decide) ?_
    refine e_bipush (v := 100) i_M_partOf_113 (by decide) ?_
    refine e_callL (as := [.int 101, .int 110, .int 100]) (st' := [.ref w]) i_M_partOf_115 lm_347 (Or.inl ⟨rfl, rfl⟩) w_M_w3 rfl rfl rfl (Nat.le_of_ble_eq_true rfl) (Nat.le_of_ble_eq_true rfl) (m_rlt (q_M_w3 _) (by decide)) rfl (fun v115 s115 => ?_)
    refine e_callI (as := [.ref w, .long v115]) (st' := []) i_M_partOf_118 lm_346 (Or.inr (Or.inl ⟨rfl, rfl⟩)) w_M_isWord rfl rfl rfl (Nat.le_of_ble_eq_true rfl) (Nat.le_of_ble_eq_true rfl) (m_rlt (q_M_isWord _) (by decide)) rfl (fun v118 s118 => ?_)
    refine e_ifeq (t := 128) i_M_partOf_121 (by decide) ?_ ?_
    · refine e_iconst (v := (-1)) i_M_partOf_128 (by decide) ?_
      exact e_iretI i_M_partOf_129 rfl
    · refine e_iconst (v := 0) i_M_partOf_124 (by decide) ?_
      refine e_goto (t := 129) i_M_partOf_125 (by decide) ?_
      exact e_iretI i_M_partOf_129 rfl
  refine m_sw_n ?_
  refine e_iconst (v := (-1)) i_M_partOf_130 (by decide) ?_
  exact e_iretI i_M_partOf_131 rfl
theorem i_M_settle_0 : m_at k_M_settle 0 = some (.aload_n 0, 1, 0) := m_at_of r_M_settle (by decide +kernel)
theorem i_M_settle_1 : m_at k_M_settle 1 = some (.getfield 168, 3, 105) := m_at_of r_M_settle (by decide +kernel)
theorem i_M_settle_4 : m_at k_M_settle 4 = some (.ifCond .le (89), 3, 0) := m_at_of r_M_settle (by decide +kernel)
theorem i_M_settle_7 : m_at k_M_settle 7 = some (.aload_n 0, 1, 0) := m_at_of r_M_settle (by decide +kernel)
theorem i_M_settle_8 : m_at k_M_settle 8 = some (.getfield 29, 3, 109) := m_at_of r_M_settle (by decide +kernel)
theorem i_M_settle_11 : m_at k_M_settle 11 = some (.aload_n 0, 1, 0) := m_at_of r_M_settle (by decide +kernel)
theorem i_M_settle_12 : m_at k_M_settle 12 = some (.getfield 168, 3, 105) := m_at_of r_M_settle (by decide +kernel)
theorem i_M_settle_15 : m_at k_M_settle 15 = some (.iconst 1, 1, 0) := m_at_of r_M_settle (by decide +kernel)
theorem i_M_settle_16 : m_at k_M_settle 16 = some (.isub, 1, 0) := m_at_of r_M_settle (by decide +kernel)
theorem i_M_settle_17 : m_at k_M_settle 17 = some (.iaload, 1, 0) := m_at_of r_M_settle (by decide +kernel)
theorem i_M_settle_18 : m_at k_M_settle 18 = some (.invokestatic 171, 3, 350) := m_at_of r_M_settle (by decide +kernel)
theorem i_M_settle_21 : m_at k_M_settle 21 = some (.iload_n 1, 1, 0) := m_at_of r_M_settle (by decide +kernel)
theorem i_M_settle_22 : m_at k_M_settle 22 = some (.if_icmp .lt (71), 3, 0) := m_at_of r_M_settle (by decide +kernel)
theorem i_M_settle_25 : m_at k_M_settle 25 = some (.aload_n 0, 1, 0) := m_at_of r_M_settle (by decide +kernel)
theorem i_M_settle_26 : m_at k_M_settle 26 = some (.dup, 1, 0) := m_at_of r_M_settle (by decide +kernel)
theorem i_M_settle_27 : m_at k_M_settle 27 = some (.getfield 168, 3, 105) := m_at_of r_M_settle (by decide +kernel)
theorem i_M_settle_30 : m_at k_M_settle 30 = some (.iconst 1, 1, 0) := m_at_of r_M_settle (by decide +kernel)
theorem i_M_settle_31 : m_at k_M_settle 31 = some (.isub, 1, 0) := m_at_of r_M_settle (by decide +kernel)
theorem i_M_settle_32 : m_at k_M_settle 32 = some (.putfield 168, 3, 105) := m_at_of r_M_settle (by decide +kernel)
theorem i_M_settle_35 : m_at k_M_settle 35 = some (.aload_n 0, 1, 0) := m_at_of r_M_settle (by decide +kernel)
theorem i_M_settle_36 : m_at k_M_settle 36 = some (.aload_n 0, 1, 0) := m_at_of r_M_settle (by decide +kernel)
theorem i_M_settle_37 : m_at k_M_settle 37 = some (.getfield 29, 3, 109) := m_at_of r_M_settle (by decide +kernel)
theorem i_M_settle_40 : m_at k_M_settle 40 = some (.aload_n 0, 1, 0) := m_at_of r_M_settle (by decide +kernel)
theorem i_M_settle_41 : m_at k_M_settle 41 = some (.getfield 168, 3, 105) := m_at_of r_M_settle (by decide +kernel)
theorem i_M_settle_44 : m_at k_M_settle 44 = some (.iaload, 1, 0) := m_at_of r_M_settle (by decide +kernel)
theorem i_M_settle_45 : m_at k_M_settle 45 = some (.iconst 0, 1, 0) := m_at_of r_M_settle (by decide +kernel)
theorem i_M_settle_46 : m_at k_M_settle 46 = some (.invokevirtual 174, 3, 342) := m_at_of r_M_settle (by decide +kernel)
theorem i_M_settle_49 : m_at k_M_settle 49 = some (.aload_n 0, 1, 0) := m_at_of r_M_settle (by decide +kernel)
theorem i_M_settle_50 : m_at k_M_settle 50 = some (.getfield 29, 3, 109) := m_at_of r_M_settle (by decide +kernel)
theorem i_M_settle_53 : m_at k_M_settle 53 = some (.aload_n 0, 1, 0) := m_at_of r_M_settle (by decide +kernel)
theorem i_M_settle_54 : m_at k_M_settle 54 = some (.getfield 168, 3, 105) := m_at_of r_M_settle (by decide +kernel)
theorem i_M_settle_57 : m_at k_M_settle 57 = some (.iaload, 1, 0) := m_at_of r_M_settle (by decide +kernel)
theorem i_M_settle_58 : m_at k_M_settle 58 = some (.invokestatic 171, 3, 350) := m_at_of r_M_settle (by decide +kernel)
theorem i_M_settle_61 : m_at k_M_settle 61 = some (.bipush 7, 2, 0) := m_at_of r_M_settle (by decide +kernel)
theorem i_M_settle_63 : m_at k_M_settle 63 = some (.if_icmp .eq (17), 3, 0) := m_at_of r_M_settle (by decide +kernel)
theorem i_M_settle_66 : m_at k_M_settle 66 = some (.aload_n 0, 1, 0) := m_at_of r_M_settle (by decide +kernel)
theorem i_M_settle_67 : m_at k_M_settle 67 = some (.getfield 29, 3, 109) := m_at_of r_M_settle (by decide +kernel)
theorem i_M_settle_70 : m_at k_M_settle 70 = some (.aload_n 0, 1, 0) := m_at_of r_M_settle (by decide +kernel)
theorem i_M_settle_71 : m_at k_M_settle 71 = some (.getfield 168, 3, 105) := m_at_of r_M_settle (by decide +kernel)
theorem i_M_settle_74 : m_at k_M_settle 74 = some (.iaload, 1, 0) := m_at_of r_M_settle (by decide +kernel)
theorem i_M_settle_75 : m_at k_M_settle 75 = some (.bipush 20, 2, 0) := m_at_of r_M_settle (by decide +kernel)
theorem i_M_settle_77 : m_at k_M_settle 77 = some (.if_icmp .ne (-77), 3, 0) := m_at_of r_M_settle (by decide +kernel)
theorem i_M_settle_80 : m_at k_M_settle 80 = some (.aload_n 0, 1, 0) := m_at_of r_M_settle (by decide +kernel)
theorem i_M_settle_81 : m_at k_M_settle 81 = some (.dup, 1, 0) := m_at_of r_M_settle (by decide +kernel)
theorem i_M_settle_82 : m_at k_M_settle 82 = some (.getfield 178, 3, 106) := m_at_of r_M_settle (by decide +kernel)
theorem i_M_settle_85 : m_at k_M_settle 85 = some (.iconst 1, 1, 0) := m_at_of r_M_settle (by decide +kernel)
theorem i_M_settle_86 : m_at k_M_settle 86 = some (.isub, 1, 0) := m_at_of r_M_settle (by decide +kernel)
theorem i_M_settle_87 : m_at k_M_settle 87 = some (.putfield 178, 3, 106) := m_at_of r_M_settle (by decide +kernel)
theorem i_M_settle_90 : m_at k_M_settle 90 = some (.goto (-90), 3, 0) := m_at_of r_M_settle (by decide +kernel)
theorem i_M_settle_93 : m_at k_M_settle 93 = some (.return_, 1, 0) := m_at_of r_M_settle (by decide +kernel)
set_option maxRecDepth 20000 in
set_option maxHeartbeats 1000000 in
theorem E_M_settle (x : m_X) (s : m_H) (w : Nat) (n1 : Int32) : m_M x k_M_settle [.ref w, .int n1] s = if m_isO s w 11 = true then ((m_fI s 11 16 w).bind fun v1 => if v1 ≤ 0 then (some (none, s)) else (m_fR s 11 15 w).bind fun v8 => (m_fI s 11 16 w).bind fun v12 => (m_ia x s v8 (v12 - (1 : Int32))).bind fun v17 => m_bI (m_M x k_M_rank [.int v17] s) fun v18 s18 => if v18 < n1 then (some (none, s18)) else (m_fI s18 11 16 w).bind fun v27 => (m_pf s18 11 16 w (.int (v27 - (1 : Int32)))).bind fun s32 => (m_fR s32 11 15 w).bind fun v37 => (m_fI s32 11 16 w).bind fun v41 => (m_ia x s32 v37 v41).bind fun v44 => m_bV (m_M x k_M_emit [.ref w, .int v44, .int 0] s32) fun s46 => (m_fR s46 11 15 w).bind fun v50 => (m_fI s46 11 16 w).bind fun v54 => (m_ia x s46 v50 v54).bind fun v57 => m_bI (m_M x k_M_rank [.int v57] s46) fun v58 s58 => if v58 = 7 then ((m_fI s58 11 17 w).bind fun v82 => (m_pf s58 11 17 w (.int (v82 - (1 : Int32)))).bind fun s87 => m_D x 2 k_M_settle 0 [some (.ref w), some (.int n1)] [] s87) else (m_fR s58 11 15 w).bind fun v67 => (m_fI s58 11 16 w).bind fun v71 => (m_ia x s58 v67 v71).bind fun v74 => if v74 = 20 then ((m_fI s58 11 17 w).bind fun v82 => (m_pf s58 11 17 w (.int (v82 - (1 : Int32)))).bind fun s87 => m_D x 2 k_M_settle 0 [some (.ref w), some (.int n1)] [] s87) else m_D x 2 k_M_settle 0 [some (.ref w), some (.int n1)] [] s58) else none := by
  refine e_M1 (L0 := [some (.ref w), some (.int n1)]) rfl (by decide +kernel) rfl (q_M_settle _) rfl ?_
  refine e_aload_n i_M_settle_0 rfl ?_
  refine e_getI i_M_settle_1 lf_105 (by decide) (Or.inl ft_11_16) (fun v1 => ?_)
  refine e_ifle (t := 93) i_M_settle_4 (by decide) ?_ ?_
  · exact e_vret i_M_settle_93 rfl
  · refine e_aload_n i_M_settle_7 rfl ?_
    refine e_getR i_M_settle_8 lf_109 (by decide) ft_11_15 (fun v8 => ?_)
    refine e_aload_n i_M_settle_11 rfl ?_
    refine e_getI i_M_settle_12 lf_105 (by decide) (Or.inl ft_11_16) (fun v12 => ?_)
    refine e_iconst (v := 1) i_M_settle_15 (by decide) ?_
    refine e_isub i_M_settle_16 ?_
    refine e_iald i_M_settle_17 (fun v17 => ?_)
    refine e_callI (as := [.int v17]) (st' := []) i_M_settle_18 lm_350 (Or.inl ⟨rfl, rfl⟩) w_M_rank rfl rfl rfl (Nat.le_of_ble_eq_true rfl) (Nat.le_of_ble_eq_true rfl) (m_rlt (q_M_rank _) (by decide)) rfl (fun v18 s18 => ?_)
    refine e_iload_n i_M_settle_21 rfl ?_
    refine e_icmplt (t := 93) i_M_settle_22 (by decide) ?_ ?_
    · exact e_vret i_M_settle_93 rfl
    · refine e_aload_n i_M_settle_25 rfl ?_
      refine e_dup i_M_settle_26 rfl ?_
      refine e_getI i_M_settle_27 lf_105 (by decide) (Or.inl ft_11_16) (fun v27 => ?_)
      refine e_iconst (v := 1) i_M_settle_30 (by decide) ?_
      refine e_isub i_M_settle_31 ?_
      refine e_putf i_M_settle_32 lf_105 ft_11_16 rfl (fun s32 => ?_)
      refine e_aload_n i_M_settle_35 rfl ?_
      refine e_aload_n i_M_settle_36 rfl ?_
      refine e_getR i_M_settle_37 lf_109 (by decide) ft_11_15 (fun v37 => ?_)
      refine e_aload_n i_M_settle_40 rfl ?_
      refine e_getI i_M_settle_41 lf_105 (by decide) (Or.inl ft_11_16) (fun v41 => ?_)
      refine e_iald i_M_settle_44 (fun v44 => ?_)
      refine e_iconst (v := 0) i_M_settle_45 (by decide) ?_
      refine e_callV (as := [.ref w, .int v44, .int 0]) (st' := []) i_M_settle_46 lm_342 (Or.inr (Or.inl ⟨rfl, rfl⟩)) w_M_emit rfl rfl rfl (Nat.le_of_ble_eq_true rfl) (Nat.le_of_ble_eq_true rfl) (m_rlt (q_M_emit _) (by decide)) rfl (fun s46 => ?_)
      refine e_aload_n i_M_settle_49 rfl ?_
      refine e_getR i_M_settle_50 lf_109 (by decide) ft_11_15 (fun v50 => ?_)
      refine e_aload_n i_M_settle_53 rfl ?_
      refine e_getI i_M_settle_54 lf_105 (by decide) (Or.inl ft_11_16) (fun v54 => ?_)
      refine e_iald i_M_settle_57 (fun v57 => ?_)
      refine e_callI (as := [.int v57]) (st' := []) i_M_settle_58 lm_350 (Or.inl ⟨rfl, rfl⟩) w_M_rank rfl rfl rfl (Nat.le_of_ble_eq_true rfl) (Nat.le_of_ble_eq_true rfl) (m_rlt (q_M_rank _) (by decide)) rfl (fun v58 s58 => ?_)
      refine e_bipush (v := 7) i_M_settle_61 (by decide) ?_
      refine e_icmpeq (t := 80) i_M_settle_63 (by decide) ?_ ?_
      · refine e_aload_n i_M_settle_80 rfl ?_
        refine e_dup i_M_settle_81 rfl ?_
        refine e_getI i_M_settle_82 lf_106 (by decide) (Or.inl ft_11_17) (fun v82 => ?_)
        refine e_iconst (v := 1) i_M_settle_85 (by decide) ?_
        refine e_isub i_M_settle_86 ?_
        refine e_putf i_M_settle_87 lf_106 ft_11_17 rfl (fun s87 => ?_)
        refine e_goto (t := 0) i_M_settle_90 (by decide) ?_
        exact rfl
      · refine e_aload_n i_M_settle_66 rfl ?_
        refine e_getR i_M_settle_67 lf_109 (by decide) ft_11_15 (fun v67 => ?_)
        refine e_aload_n i_M_settle_70 rfl ?_
        refine e_getI i_M_settle_71 lf_105 (by decide) (Or.inl ft_11_16) (fun v71 => ?_)
        refine e_iald i_M_settle_74 (fun v74 => ?_)
        refine e_bipush (v := 20) i_M_settle_75 (by decide) ?_
        refine e_icmpne (t := 0) i_M_settle_77 (by decide) ?_ ?_
        · exact rfl
        · refine e_aload_n i_M_settle_80 rfl ?_
          refine e_dup i_M_settle_81 rfl ?_
          refine e_getI i_M_settle_82 lf_106 (by decide) (Or.inl ft_11_17) (fun v82 => ?_)
          refine e_iconst (v := 1) i_M_settle_85 (by decide) ?_
          refine e_isub i_M_settle_86 ?_
          refine e_putf i_M_settle_87 lf_106 ft_11_17 rfl (fun s87 => ?_)
          refine e_goto (t := 0) i_M_settle_90 (by decide) ?_
          exact rfl
set_option maxRecDepth 20000 in
set_option maxHeartbeats 1000000 in
theorem E_M_settle_0 (x : m_X) (ρ : Nat) (hρ : 2 ≤ ρ) (s : m_H) (w : Nat) (n1 : Int32)  : m_D x ρ k_M_settle 0 [some (.ref w), some (.int n1)] [] s = (m_fI s 11 16 w).bind fun v1 => if v1 ≤ 0 then (some (none, s)) else (m_fR s 11 15 w).bind fun v8 => (m_fI s 11 16 w).bind fun v12 => (m_ia x s v8 (v12 - (1 : Int32))).bind fun v17 => m_bI (m_M x k_M_rank [.int v17] s) fun v18 s18 => if v18 < n1 then (some (none, s18)) else (m_fI s18 11 16 w).bind fun v27 => (m_pf s18 11 16 w (.int (v27 - (1 : Int32)))).bind fun s32 => (m_fR s32 11 15 w).bind fun v37 => (m_fI s32 11 16 w).bind fun v41 => (m_ia x s32 v37 v41).bind fun v44 => m_bV (m_M x k_M_emit [.ref w, .int v44, .int 0] s32) fun s46 => (m_fR s46 11 15 w).bind fun v50 => (m_fI s46 11 16 w).bind fun v54 => (m_ia x s46 v50 v54).bind fun v57 => m_bI (m_M x k_M_rank [.int v57] s46) fun v58 s58 => if v58 = 7 then ((m_fI s58 11 17 w).bind fun v82 => (m_pf s58 11 17 w (.int (v82 - (1 : Int32)))).bind fun s87 => m_D x ρ k_M_settle 0 [some (.ref w), some (.int n1)] [] s87) else (m_fR s58 11 15 w).bind fun v67 => (m_fI s58 11 16 w).bind fun v71 => (m_ia x s58 v67 v71).bind fun v74 => if v74 = 20 then ((m_fI s58 11 17 w).bind fun v82 => (m_pf s58 11 17 w (.int (v82 - (1 : Int32)))).bind fun s87 => m_D x ρ k_M_settle 0 [some (.ref w), some (.int n1)] [] s87) else m_D x ρ k_M_settle 0 [some (.ref w), some (.int n1)] [] s58 := by
  refine e_aload_n i_M_settle_0 rfl ?_
  refine e_getI i_M_settle_1 lf_105 (by decide) (Or.inl ft_11_16) (fun v1 => ?_)
  refine e_ifle (t := 93) i_M_settle_4 (by decide) ?_ ?_
  · exact e_vret i_M_settle_93 rfl
  · refine e_aload_n i_M_settle_7 rfl ?_
    refine e_getR i_M_settle_8 lf_109 (by decide) ft_11_15 (fun v8 => ?_)
    refine e_aload_n i_M_settle_11 rfl ?_
    refine e_getI i_M_settle_12 lf_105 (by decide) (Or.inl ft_11_16) (fun v12 => ?_)
    refine e_iconst (v := 1) i_M_settle_15 (by decide) ?_
    refine e_isub i_M_settle_16 ?_
    refine e_iald i_M_settle_17 (fun v17 => ?_)
    refine e_callI (as := [.int v17]) (st' := []) i_M_settle_18 lm_350 (Or.inl ⟨rfl, rfl⟩) w_M_rank rfl rfl rfl (Nat.le_of_ble_eq_true rfl) (Nat.le_of_ble_eq_true rfl) (m_rlt (q_M_rank _) (Nat.lt_of_lt_of_le (by decide) hρ)) rfl (fun v18 s18 => ?_)
    refine e_iload_n i_M_settle_21 rfl ?_
    refine e_icmplt (t := 93) i_M_settle_22 (by decide) ?_ ?_
    · exact e_vret i_M_settle_93 rfl
    · refine e_aload_n i_M_settle_25 rfl ?_
      refine e_dup i_M_settle_26 rfl ?_
      refine e_getI i_M_settle_27 lf_105 (by decide) (Or.inl ft_11_16) (fun v27 => ?_)
      refine e_iconst (v := 1) i_M_settle_30 (by decide) ?_
      refine e_isub i_M_settle_31 ?_
      refine e_putf i_M_settle_32 lf_105 ft_11_16 rfl (fun s32 => ?_)
      refine e_aload_n i_M_settle_35 rfl ?_
      refine e_aload_n i_M_settle_36 rfl ?_
      refine e_getR i_M_settle_37 lf_109 (by decide) ft_11_15 (fun v37 => ?_)
      refine e_aload_n i_M_settle_40 rfl ?_
      refine e_getI i_M_settle_41 lf_105 (by decide) (Or.inl ft_11_16) (fun v41 => ?_)
      refine e_iald i_M_settle_44 (fun v44 => ?_)
      refine e_iconst (v := 0) i_M_settle_45 (by decide) ?_
      refine e_callV (as := [.ref w, .int v44, .int 0]) (st' := []) i_M_settle_46 lm_342 (Or.inr (Or.inl ⟨rfl, rfl⟩)) w_M_emit rfl rfl rfl (Nat.le_of_ble_eq_true rfl) (Nat.le_of_ble_eq_true rfl) (m_rlt (q_M_emit _) (Nat.lt_of_lt_of_le (by decide) hρ)) rfl (fun s46 => ?_)
      refine e_aload_n i_M_settle_49 rfl ?_
      refine e_getR i_M_settle_50 lf_109 (by decide) ft_11_15 (fun v50 => ?_)
      refine e_aload_n i_M_settle_53 rfl ?_
      refine e_getI i_M_settle_54 lf_105 (by decide) (Or.inl ft_11_16) (fun v54 => ?_)
      refine e_iald i_M_settle_57 (fun v57 => ?_)
      refine e_callI (as := [.int v57]) (st' := []) i_M_settle_58 lm_350 (Or.inl ⟨rfl, rfl⟩) w_M_rank rfl rfl rfl (Nat.le_of_ble_eq_true rfl) (Nat.le_of_ble_eq_true rfl) (m_rlt (q_M_rank _) (Nat.lt_of_lt_of_le (by decide) hρ)) rfl (fun v58 s58 => ?_)
      refine e_bipush (v := 7) i_M_settle_61 (by decide) ?_
      refine e_icmpeq (t := 80) i_M_settle_63 (by decide) ?_ ?_
      · refine e_aload_n i_M_settle_80 rfl ?_
        refine e_dup i_M_settle_81 rfl ?_
        refine e_getI i_M_settle_82 lf_106 (by decide) (Or.inl ft_11_17) (fun v82 => ?_)
        refine e_iconst (v := 1) i_M_settle_85 (by decide) ?_
        refine e_isub i_M_settle_86 ?_
        refine e_putf i_M_settle_87 lf_106 ft_11_17 rfl (fun s87 => ?_)
        refine e_goto (t := 0) i_M_settle_90 (by decide) ?_
        exact rfl
      · refine e_aload_n i_M_settle_66 rfl ?_
        refine e_getR i_M_settle_67 lf_109 (by decide) ft_11_15 (fun v67 => ?_)
        refine e_aload_n i_M_settle_70 rfl ?_
        refine e_getI i_M_settle_71 lf_105 (by decide) (Or.inl ft_11_16) (fun v71 => ?_)
        refine e_iald i_M_settle_74 (fun v74 => ?_)
        refine e_bipush (v := 20) i_M_settle_75 (by decide) ?_
        refine e_icmpne (t := 0) i_M_settle_77 (by decide) ?_ ?_
        · exact rfl
        · refine e_aload_n i_M_settle_80 rfl ?_
          refine e_dup i_M_settle_81 rfl ?_
          refine e_getI i_M_settle_82 lf_106 (by decide) (Or.inl ft_11_17) (fun v82 => ?_)
          refine e_iconst (v := 1) i_M_settle_85 (by decide) ?_
          refine e_isub i_M_settle_86 ?_
          refine e_putf i_M_settle_87 lf_106 ft_11_17 rfl (fun s87 => ?_)
          refine e_goto (t := 0) i_M_settle_90 (by decide) ?_
          exact rfl
theorem i_M_emit_0 : m_at k_M_emit 0 = some (.aload_n 0, 1, 0) := m_at_of r_M_emit (by decide +kernel)
theorem i_M_emit_1 : m_at k_M_emit 1 = some (.getfield 16, 3, 79) := m_at_of r_M_emit (by decide +kernel)
theorem i_M_emit_4 : m_at k_M_emit 4 = some (.aload_n 0, 1, 0) := m_at_of r_M_emit (by decide +kernel)
theorem i_M_emit_5 : m_at k_M_emit 5 = some (.getfield 151, 3, 99) := m_at_of r_M_emit (by decide +kernel)
theorem i_M_emit_8 : m_at k_M_emit 8 = some (.sipush 145, 3, 0) := m_at_of r_M_emit (by decide +kernel)
theorem i_M_emit_11 : m_at k_M_emit 11 = some (.iadd, 1, 0) := m_at_of r_M_emit (by decide +kernel)
theorem i_M_emit_12 : m_at k_M_emit 12 = some (.iconst 2, 1, 0) := m_at_of r_M_emit (by decide +kernel)
theorem i_M_emit_13 : m_at k_M_emit 13 = some (.aload_n 0, 1, 0) := m_at_of r_M_emit (by decide +kernel)
theorem i_M_emit_14 : m_at k_M_emit 14 = some (.getfield 154, 3, 100) := m_at_of r_M_emit (by decide +kernel)
theorem i_M_emit_17 : m_at k_M_emit 17 = some (.imul, 1, 0) := m_at_of r_M_emit (by decide +kernel)
theorem i_M_emit_18 : m_at k_M_emit 18 = some (.iadd, 1, 0) := m_at_of r_M_emit (by decide +kernel)
theorem i_M_emit_19 : m_at k_M_emit 19 = some (.iload_n 1, 1, 0) := m_at_of r_M_emit (by decide +kernel)
theorem i_M_emit_20 : m_at k_M_emit 20 = some (.iastore, 1, 0) := m_at_of r_M_emit (by decide +kernel)
theorem i_M_emit_21 : m_at k_M_emit 21 = some (.aload_n 0, 1, 0) := m_at_of r_M_emit (by decide +kernel)
theorem i_M_emit_22 : m_at k_M_emit 22 = some (.getfield 16, 3, 79) := m_at_of r_M_emit (by decide +kernel)
theorem i_M_emit_25 : m_at k_M_emit 25 = some (.aload_n 0, 1, 0) := m_at_of r_M_emit (by decide +kernel)
theorem i_M_emit_26 : m_at k_M_emit 26 = some (.getfield 151, 3, 99) := m_at_of r_M_emit (by decide +kernel)
theorem i_M_emit_29 : m_at k_M_emit 29 = some (.sipush 145, 3, 0) := m_at_of r_M_emit (by decide +kernel)
theorem i_M_emit_32 : m_at k_M_emit 32 = some (.iadd, 1, 0) := m_at_of r_M_emit (by decide +kernel)
theorem i_M_emit_33 : m_at k_M_emit 33 = some (.iconst 2, 1, 0) := m_at_of r_M_emit (by decide +kernel)
theorem i_M_emit_34 : m_at k_M_emit 34 = some (.aload_n 0, 1, 0) := m_at_of r_M_emit (by decide +kernel)
theorem i_M_emit_35 : m_at k_M_emit 35 = some (.getfield 154, 3, 100) := m_at_of r_M_emit (by decide +kernel)
theorem i_M_emit_38 : m_at k_M_emit 38 = some (.imul, 1, 0) := m_at_of r_M_emit (by decide +kernel)
theorem i_M_emit_39 : m_at k_M_emit 39 = some (.iadd, 1, 0) := m_at_of r_M_emit (by decide +kernel)
theorem i_M_emit_40 : m_at k_M_emit 40 = some (.iconst 1, 1, 0) := m_at_of r_M_emit (by decide +kernel)
theorem i_M_emit_41 : m_at k_M_emit 41 = some (.iadd, 1, 0) := m_at_of r_M_emit (by decide +kernel)
theorem i_M_emit_42 : m_at k_M_emit 42 = some (.iload_n 2, 1, 0) := m_at_of r_M_emit (by decide +kernel)
theorem i_M_emit_43 : m_at k_M_emit 43 = some (.iastore, 1, 0) := m_at_of r_M_emit (by decide +kernel)
theorem i_M_emit_44 : m_at k_M_emit 44 = some (.aload_n 0, 1, 0) := m_at_of r_M_emit (by decide +kernel)
theorem i_M_emit_45 : m_at k_M_emit 45 = some (.dup, 1, 0) := m_at_of r_M_emit (by decide +kernel)
theorem i_M_emit_46 : m_at k_M_emit 46 = some (.getfield 154, 3, 100) := m_at_of r_M_emit (by decide +kernel)
theorem i_M_emit_49 : m_at k_M_emit 49 = some (.iconst 1, 1, 0) := m_at_of r_M_emit (by decide +kernel)
theorem i_M_emit_50 : m_at k_M_emit 50 = some (.iadd, 1, 0) := m_at_of r_M_emit (by decide +kernel)
theorem i_M_emit_51 : m_at k_M_emit 51 = some (.putfield 154, 3, 100) := m_at_of r_M_emit (by decide +kernel)
theorem i_M_emit_54 : m_at k_M_emit 54 = some (.return_, 1, 0) := m_at_of r_M_emit (by decide +kernel)
set_option maxRecDepth 20000 in
set_option maxHeartbeats 1000000 in
theorem E_M_emit (x : m_X) (s : m_H) (w : Nat) (n1 : Int32) (n2 : Int32) : m_M x k_M_emit [.ref w, .int n1, .int n2] s = if m_isO s w 11 = true then ((m_fR s 11 2 w).bind fun v1 => (m_fI s 11 12 w).bind fun v5 => (m_fI s 11 13 w).bind fun v14 => (m_is s v1 ((v5 + (145 : Int32)) + ((2 : Int32) * v14)) n1).bind fun s20 => (m_fR s20 11 2 w).bind fun v22 => (m_fI s20 11 12 w).bind fun v26 => (m_fI s20 11 13 w).bind fun v35 => (m_is s20 v22 (((v26 + (145 : Int32)) + ((2 : Int32) * v35)) + (1 : Int32)) n2).bind fun s43 => (m_fI s43 11 13 w).bind fun v46 => (m_pf s43 11 13 w (.int (v46 + (1 : Int32)))).bind fun s51 => some (none, s51)) else none := by
  refine e_M1 (L0 := [some (.ref w), some (.int n1), some (.int n2)]) rfl (by decide +kernel) rfl (q_M_emit _) rfl ?_
  refine e_aload_n i_M_emit_0 rfl ?_
  refine e_getR i_M_emit_1 lf_79 (by decide) ft_11_2 (fun v1 => ?_)
  refine e_aload_n i_M_emit_4 rfl ?_
  refine e_getI i_M_emit_5 lf_99 (by decide) (Or.inl ft_11_12) (fun v5 => ?_)
  refine e_sipush (v := 145) i_M_emit_8 (by decide) ?_
  refine e_iadd i_M_emit_11 ?_
  refine e_iconst (v := 2) i_M_emit_12 (by decide) ?_
  refine e_aload_n i_M_emit_13 rfl ?_
  refine e_getI i_M_emit_14 lf_100 (by decide) (Or.inl ft_11_13) (fun v14 => ?_)
  refine e_imul i_M_emit_17 ?_
  refine e_iadd i_M_emit_18 ?_
  refine e_iload_n i_M_emit_19 rfl ?_
  refine e_iast i_M_emit_20 (fun s20 => ?_)
  refine e_aload_n i_M_emit_21 rfl ?_
  refine e_getR i_M_emit_22 lf_79 (by decide) ft_11_2 (fun v22 => ?_)
  refine e_aload_n i_M_emit_25 rfl ?_
  refine e_getI i_M_emit_26 lf_99 (by decide) (Or.inl ft_11_12) (fun v26 => ?_)
  refine e_sipush (v := 145) i_M_emit_29 (by decide) ?_
  refine e_iadd i_M_emit_32 ?_
  refine e_iconst (v := 2) i_M_emit_33 (by decide) ?_
  refine e_aload_n i_M_emit_34 rfl ?_
  refine e_getI i_M_emit_35 lf_100 (by decide) (Or.inl ft_11_13) (fun v35 => ?_)
  refine e_imul i_M_emit_38 ?_
  refine e_iadd i_M_emit_39 ?_
  refine e_iconst (v := 1) i_M_emit_40 (by decide) ?_
  refine e_iadd i_M_emit_41 ?_
  refine e_iload_n i_M_emit_42 rfl ?_
  refine e_iast i_M_emit_43 (fun s43 => ?_)
  refine e_aload_n i_M_emit_44 rfl ?_
  refine e_dup i_M_emit_45 rfl ?_
  refine e_getI i_M_emit_46 lf_100 (by decide) (Or.inl ft_11_13) (fun v46 => ?_)
  refine e_iconst (v := 1) i_M_emit_49 (by decide) ?_
  refine e_iadd i_M_emit_50 ?_
  refine e_putf i_M_emit_51 lf_100 ft_11_13 rfl (fun s51 => ?_)
  exact e_vret i_M_emit_54 rfl
theorem i_M_betweenOf_0 : m_at k_M_betweenOf 0 = some (.aload_n 0, 1, 0) := m_at_of r_M_betweenOf (by decide +kernel)
theorem i_M_betweenOf_1 : m_at k_M_betweenOf 1 = some (.getfield 113, 3, 103) := m_at_of r_M_betweenOf (by decide +kernel)
theorem i_M_betweenOf_4 : m_at k_M_betweenOf 4 = some (.bipush 43, 2, 0) := m_at_of r_M_betweenOf (by decide +kernel)
theorem i_M_betweenOf_6 : m_at k_M_betweenOf 6 = some (.if_icmp .ne (6), 3, 0) := m_at_of r_M_betweenOf (by decide +kernel)
theorem i_M_betweenOf_9 : m_at k_M_betweenOf 9 = some (.bipush 6, 2, 0) := m_at_of r_M_betweenOf (by decide +kernel)
theorem i_M_betweenOf_11 : m_at k_M_betweenOf 11 = some (.ireturn, 1, 0) := m_at_of r_M_betweenOf (by decide +kernel)
theorem i_M_betweenOf_12 : m_at k_M_betweenOf 12 = some (.aload_n 0, 1, 0) := m_at_of r_M_betweenOf (by decide +kernel)
theorem i_M_betweenOf_13 : m_at k_M_betweenOf 13 = some (.getfield 113, 3, 103) := m_at_of r_M_betweenOf (by decide +kernel)
theorem i_M_betweenOf_16 : m_at k_M_betweenOf 16 = some (.bipush 45, 2, 0) := m_at_of r_M_betweenOf (by decide +kernel)
theorem i_M_betweenOf_18 : m_at k_M_betweenOf 18 = some (.if_icmp .ne (6), 3, 0) := m_at_of r_M_betweenOf (by decide +kernel)
theorem i_M_betweenOf_21 : m_at k_M_betweenOf 21 = some (.bipush 7, 2, 0) := m_at_of r_M_betweenOf (by decide +kernel)
theorem i_M_betweenOf_23 : m_at k_M_betweenOf 23 = some (.ireturn, 1, 0) := m_at_of r_M_betweenOf (by decide +kernel)
theorem i_M_betweenOf_24 : m_at k_M_betweenOf 24 = some (.aload_n 0, 1, 0) := m_at_of r_M_betweenOf (by decide +kernel)
theorem i_M_betweenOf_25 : m_at k_M_betweenOf 25 = some (.getfield 113, 3, 103) := m_at_of r_M_betweenOf (by decide +kernel)
theorem i_M_betweenOf_28 : m_at k_M_betweenOf 28 = some (.bipush 42, 2, 0) := m_at_of r_M_betweenOf (by decide +kernel)
theorem i_M_betweenOf_30 : m_at k_M_betweenOf 30 = some (.if_icmp .ne (6), 3, 0) := m_at_of r_M_betweenOf (by decide +kernel)
theorem i_M_betweenOf_33 : m_at k_M_betweenOf 33 = some (.bipush 8, 2, 0) := m_at_of r_M_betweenOf (by decide +kernel)
theorem i_M_betweenOf_35 : m_at k_M_betweenOf 35 = some (.ireturn, 1, 0) := m_at_of r_M_betweenOf (by decide +kernel)
theorem i_M_betweenOf_36 : m_at k_M_betweenOf 36 = some (.aload_n 0, 1, 0) := m_at_of r_M_betweenOf (by decide +kernel)
theorem i_M_betweenOf_37 : m_at k_M_betweenOf 37 = some (.getfield 113, 3, 103) := m_at_of r_M_betweenOf (by decide +kernel)
theorem i_M_betweenOf_40 : m_at k_M_betweenOf 40 = some (.bipush 47, 2, 0) := m_at_of r_M_betweenOf (by decide +kernel)
theorem i_M_betweenOf_42 : m_at k_M_betweenOf 42 = some (.if_icmp .ne (6), 3, 0) := m_at_of r_M_betweenOf (by decide +kernel)
theorem i_M_betweenOf_45 : m_at k_M_betweenOf 45 = some (.bipush 9, 2, 0) := m_at_of r_M_betweenOf (by decide +kernel)
theorem i_M_betweenOf_47 : m_at k_M_betweenOf 47 = some (.ireturn, 1, 0) := m_at_of r_M_betweenOf (by decide +kernel)
theorem i_M_betweenOf_48 : m_at k_M_betweenOf 48 = some (.aload_n 0, 1, 0) := m_at_of r_M_betweenOf (by decide +kernel)
theorem i_M_betweenOf_49 : m_at k_M_betweenOf 49 = some (.invokevirtual 188, 3, 349) := m_at_of r_M_betweenOf (by decide +kernel)
theorem i_M_betweenOf_52 : m_at k_M_betweenOf 52 = some (.ifCond .ne (5), 3, 0) := m_at_of r_M_betweenOf (by decide +kernel)
theorem i_M_betweenOf_55 : m_at k_M_betweenOf 55 = some (.iconst (-1), 1, 0) := m_at_of r_M_betweenOf (by decide +kernel)
theorem i_M_betweenOf_56 : m_at k_M_betweenOf 56 = some (.ireturn, 1, 0) := m_at_of r_M_betweenOf (by decide +kernel)
theorem i_M_betweenOf_57 : m_at k_M_betweenOf 57 = some (.aload_n 0, 1, 0) := m_at_of r_M_betweenOf (by decide +kernel)
theorem i_M_betweenOf_58 : m_at k_M_betweenOf 58 = some (.invokevirtual 219, 3, 356) := m_at_of r_M_betweenOf (by decide +kernel)
theorem i_M_betweenOf_61 : m_at k_M_betweenOf 61 = some (.ifCond .ne (8), 3, 0) := m_at_of r_M_betweenOf (by decide +kernel)
theorem i_M_betweenOf_64 : m_at k_M_betweenOf 64 = some (.aload_n 0, 1, 0) := m_at_of r_M_betweenOf (by decide +kernel)
theorem i_M_betweenOf_65 : m_at k_M_betweenOf 65 = some (.invokevirtual 222, 3, 357) := m_at_of r_M_betweenOf (by decide +kernel)
theorem i_M_betweenOf_68 : m_at k_M_betweenOf 68 = some (.ireturn, 1, 0) := m_at_of r_M_betweenOf (by decide +kernel)
theorem i_M_betweenOf_69 : m_at k_M_betweenOf 69 = some (.aload_n 0, 1, 0) := m_at_of r_M_betweenOf (by decide +kernel)
theorem i_M_betweenOf_70 : m_at k_M_betweenOf 70 = some (.bipush 97, 2, 0) := m_at_of r_M_betweenOf (by decide +kernel)
theorem i_M_betweenOf_72 : m_at k_M_betweenOf 72 = some (.bipush 110, 2, 0) := m_at_of r_M_betweenOf (by decide +kernel)
theorem i_M_betweenOf_74 : m_at k_M_betweenOf 74 = some (.bipush 100, 2, 0) := m_at_of r_M_betweenOf (by decide +kernel)
theorem i_M_betweenOf_76 : m_at k_M_betweenOf 76 = some (.invokestatic 139, 3, 347) := m_at_of r_M_betweenOf (by decide +kernel)
theorem i_M_betweenOf_79 : m_at k_M_betweenOf 79 = some (.invokevirtual 206, 3, 346) := m_at_of r_M_betweenOf (by decide +kernel)
theorem i_M_betweenOf_82 : m_at k_M_betweenOf 82 = some (.ifCond .eq (8), 3, 0) := m_at_of r_M_betweenOf (by decide +kernel)
theorem i_M_betweenOf_85 : m_at k_M_betweenOf 85 = some (.bipush 21, 2, 0) := m_at_of r_M_betweenOf (by decide +kernel)
theorem i_M_betweenOf_87 : m_at k_M_betweenOf 87 = some (.goto (23), 3, 0) := m_at_of r_M_betweenOf (by decide +kernel)
theorem i_M_betweenOf_90 : m_at k_M_betweenOf 90 = some (.aload_n 0, 1, 0) := m_at_of r_M_betweenOf (by decide +kernel)
theorem i_M_betweenOf_91 : m_at k_M_betweenOf 91 = some (.bipush 111, 2, 0) := m_at_of r_M_betweenOf (by decide +kernel)
theorem i_M_betweenOf_93 : m_at k_M_betweenOf 93 = some (.bipush 114, 2, 0) := m_at_of r_M_betweenOf (by decide +kernel)
theorem i_M_betweenOf_95 : m_at k_M_betweenOf 95 = some (.invokestatic 135, 3, 332) := m_at_of r_M_betweenOf (by decide +kernel)
theorem i_M_betweenOf_98 : m_at k_M_betweenOf 98 = some (.invokevirtual 206, 3, 346) := m_at_of r_M_betweenOf (by decide +kernel)
theorem i_M_betweenOf_101 : m_at k_M_betweenOf 101 = some (.ifCond .eq (8), 3, 0) := m_at_of r_M_betweenOf (by decide +kernel)
theorem i_M_betweenOf_104 : m_at k_M_betweenOf 104 = some (.bipush 22, 2, 0) := m_at_of r_M_betweenOf (by decide +kernel)
theorem i_M_betweenOf_106 : m_at k_M_betweenOf 106 = some (.goto (4), 3, 0) := m_at_of r_M_betweenOf (by decide +kernel)
theorem i_M_betweenOf_109 : m_at k_M_betweenOf 109 = some (.iconst (-1), 1, 0) := m_at_of r_M_betweenOf (by decide +kernel)
theorem i_M_betweenOf_110 : m_at k_M_betweenOf 110 = some (.ireturn, 1, 0) := m_at_of r_M_betweenOf (by decide +kernel)
set_option maxRecDepth 20000 in
set_option maxHeartbeats 1000000 in
theorem E_M_betweenOf (x : m_X) (s : m_H) (w : Nat) : m_M x k_M_betweenOf [.ref w] s = if m_isO s w 11 = true then ((m_fI s 11 9 w).bind fun v1 => if v1 = 43 then (some (some (.int 6), s)) else (m_fI s 11 9 w).bind fun v13 => if v13 = 45 then (some (some (.int 7), s)) else (m_fI s 11 9 w).bind fun v25 => if v25 = 42 then (some (some (.int 8), s)) else (m_fI s 11 9 w).bind fun v37 => if v37 = 47 then (some (some (.int 9), s)) else m_bI (m_M x k_M_isAskHere [.ref w] s) fun v49 s49 => if v49 = 0 then (some (some (.int (-1)), s49)) else m_bI (m_M x k_M_isCompared [.ref w] s49) fun v58 s58 => if v58 = 0 then (m_bI (m_M x k_M_compareOf [.ref w] s58) fun v65 s65 => some (some (.int v65), s65)) else m_bL (m_M x k_M_w3 [.int 97, .int 110, .int 100] s58) fun v76 s76 => m_bI (m_M x k_M_isWord [.ref w, .long v76] s76) fun v79 s79 => if v79 = 0 then (m_bL (m_M x k_M_w2 [.int 111, .int 114] s79) fun v95 s95 => m_bI (m_M x k_M_isWord [.ref w, .long v95] s95) fun v98 s98 => if v98 = 0 then (some (some (.int (-1)), s98)) else some (some (.int 22), s98)) else some (some (.int 21), s79)) else none := by
  refine e_M1 (L0 := [some (.ref w)]) rfl (by decide +kernel) rfl (q_M_betweenOf _) rfl ?_
  refine e_aload_n i_M_betweenOf_0 rfl ?_
  refine e_getI i_M_betweenOf_1 lf_103 (by decide) (Or.inl ft_11_9) (fun v1 => ?_)
  refine e_bipush (v := 43) i_M_betweenOf_4 (by decide) ?_
  refine e_icmpne (t := 12) i_M_betweenOf_6 (by decide) ?_ ?_
  · refine e_aload_n i_M_betweenOf_12 rfl ?_
    refine e_getI i_M_betweenOf_13 lf_103 (by decide) (Or.inl ft_11_9) (fun v13 => ?_)
    refine e_bipush (v := 45) i_M_betweenOf_16 (by decide) ?_
    refine e_icmpne (t := 24) i_M_betweenOf_18 (by decide) ?_ ?_
    · refine e_aload_n i_M_betweenOf_24 rfl ?_
      refine e_getI i_M_betweenOf_25 lf_103 (by decide) (Or.inl ft_11_9) (fun v25 => ?_)
      refine e_bipush (v := 42) i_M_betweenOf_28 (by decide) ?_
      refine e_icmpne (t := 36) i_M_betweenOf_30 (by decide) ?_ ?_
      · refine e_aload_n i_M_betweenOf_36 rfl ?_
        refine e_getI i_M_betweenOf_37 lf_103 (by decide) (Or.inl ft_11_9) (fun v37 => ?_)
        refine e_bipush (v := 47) i_M_betweenOf_40 (by decide) ?_
        refine e_icmpne (t := 48) i_M_betweenOf_42 (by decide) ?_ ?_
        · refine e_aload_n i_M_betweenOf_48 rfl ?_
          refine e_callI (as := [.ref w]) (st' := []) i_M_betweenOf_49 lm_349 (Or.inr (Or.inl ⟨rfl, rfl⟩)) w_M_isAskHere rfl rfl rfl (Nat.le_of_ble_eq_true rfl) (Nat.le_of_ble_eq_true rfl) (m_rlt (q_M_isAskHere _) (by decide)) rfl (fun v49 s49 => ?_)
          refine e_ifne (t := 57) i_M_betweenOf_52 (by decide) ?_ ?_
          · refine e_aload_n i_M_betweenOf_57 rfl ?_
            refine e_callI (as := [.ref w]) (st' := []) i_M_betweenOf_58 lm_356 (Or.inr (Or.inl ⟨rfl, rfl⟩)) w_M_isCompared rfl rfl rfl (Nat.le_of_ble_eq_true rfl) (Nat.le_of_ble_eq_true rfl) (m_rlt (q_M_isCompared _) (by decide)) rfl (fun v58 s58 => ?_)
            refine e_ifne (t := 69) i_M_betweenOf_61 (by decide) ?_ ?_
            · refine e_aload_n i_M_betweenOf_69 rfl ?_
              refine e_bipush (v := 97) i_M_betweenOf_70 (by decide) ?_
              refine e_bipush (v := 110) i_M_betweenOf_72 (by decide) ?_
              refine e_bipush (v := 100) i_M_betweenOf_74 (by decide) ?_
              refine e_callL (as := [.int 97, .int 110, .int 100]) (st' := [.ref w]) i_M_betweenOf_76 lm_347 (Or.inl ⟨rfl, rfl⟩) w_M_w3 rfl rfl rfl (Nat.le_of_ble_eq_true rfl) (Nat.le_of_ble_eq_true rfl) (m_rlt (q_M_w3 _) (by decide)) rfl (fun v76 s76 => ?_)
              refine e_callI (as := [.ref w, .long v76]) (st' := []) i_M_betweenOf_79 lm_346 (Or.inr (Or.inl ⟨rfl, rfl⟩)) w_M_isWord rfl rfl rfl (Nat.le_of_ble_eq_true rfl) (Nat.le_of_ble_eq_true rfl) (m_rlt (q_M_isWord _) (by decide)) rfl (fun v79 s79 => ?_)
              refine e_ifeq (t := 90) i_M_betweenOf_82 (by decide) ?_ ?_
              · refine e_aload_n i_M_betweenOf_90 rfl ?_
                refine e_bipush (v := 111) i_M_betweenOf_91 (by decide) ?_
                refine e_bipush (v := 114) i_M_betweenOf_93 (by decide) ?_
                refine e_callL (as := [.int 111, .int 114]) (st' := [.ref w]) i_M_betweenOf_95 lm_332 (Or.inl ⟨rfl, rfl⟩) w_M_w2 rfl rfl rfl (Nat.le_of_ble_eq_true rfl) (Nat.le_of_ble_eq_true rfl) (m_rlt (q_M_w2 _) (by decide)) rfl (fun v95 s95 => ?_)
                refine e_callI (as := [.ref w, .long v95]) (st' := []) i_M_betweenOf_98 lm_346 (Or.inr (Or.inl ⟨rfl, rfl⟩)) w_M_isWord rfl rfl rfl (Nat.le_of_ble_eq_true rfl) (Nat.le_of_ble_eq_true rfl) (m_rlt (q_M_isWord _) (by decide)) rfl (fun v98 s98 => ?_)
                refine e_ifeq (t := 109) i_M_betweenOf_101 (by decide) ?_ ?_
                · refine e_iconst (v := (-1)) i_M_betweenOf_109 (by decide) ?_
                  exact e_iretI i_M_betweenOf_110 rfl
                · refine e_bipush (v := 22) i_M_betweenOf_104 (by decide) ?_
                  refine e_goto (t := 110) i_M_betweenOf_106 (by decide) ?_
                  exact e_iretI i_M_betweenOf_110 rfl
              · refine e_bipush (v := 21) i_M_betweenOf_85 (by decide) ?_
                refine e_goto (t := 110) i_M_betweenOf_87 (by decide) ?_
                exact e_iretI i_M_betweenOf_110 rfl
            · refine e_aload_n i_M_betweenOf_64 rfl ?_
              refine e_callI (as := [.ref w]) (st' := []) i_M_betweenOf_65 lm_357 (Or.inr (Or.inl ⟨rfl, rfl⟩)) w_M_compareOf rfl rfl rfl (Nat.le_of_ble_eq_true rfl) (Nat.le_of_ble_eq_true rfl) (m_rlt (q_M_compareOf _) (by decide)) rfl (fun v65 s65 => ?_)
              exact e_iretI i_M_betweenOf_68 rfl
          · refine e_iconst (v := (-1)) i_M_betweenOf_55 (by decide) ?_
            exact e_iretI i_M_betweenOf_56 rfl
        · refine e_bipush (v := 9) i_M_betweenOf_45 (by decide) ?_
          exact e_iretI i_M_betweenOf_47 rfl
      · refine e_bipush (v := 8) i_M_betweenOf_33 (by decide) ?_
        exact e_iretI i_M_betweenOf_35 rfl
    · refine e_bipush (v := 7) i_M_betweenOf_21 (by decide) ?_
      exact e_iretI i_M_betweenOf_23 rfl
  · refine e_bipush (v := 6) i_M_betweenOf_9 (by decide) ?_
    exact e_iretI i_M_betweenOf_11 rfl
theorem i_M_compareOf_0 : m_at k_M_compareOf 0 = some (.aload_n 0, 1, 0) := m_at_of r_M_compareOf (by decide +kernel)
theorem i_M_compareOf_1 : m_at k_M_compareOf 1 = some (.getfield 113, 3, 103) := m_at_of r_M_compareOf (by decide +kernel)
theorem i_M_compareOf_4 : m_at k_M_compareOf 4 = some (.bipush 60, 2, 0) := m_at_of r_M_compareOf (by decide +kernel)
theorem i_M_compareOf_6 : m_at k_M_compareOf 6 = some (.if_icmp .ne (8), 3, 0) := m_at_of r_M_compareOf (by decide +kernel)
theorem i_M_compareOf_9 : m_at k_M_compareOf 9 = some (.bipush 10, 2, 0) := m_at_of r_M_compareOf (by decide +kernel)
theorem i_M_compareOf_11 : m_at k_M_compareOf 11 = some (.goto (72), 3, 0) := m_at_of r_M_compareOf (by decide +kernel)
theorem i_M_compareOf_14 : m_at k_M_compareOf 14 = some (.aload_n 0, 1, 0) := m_at_of r_M_compareOf (by decide +kernel)
theorem i_M_compareOf_15 : m_at k_M_compareOf 15 = some (.getfield 113, 3, 103) := m_at_of r_M_compareOf (by decide +kernel)
theorem i_M_compareOf_18 : m_at k_M_compareOf 18 = some (.iconst 4, 1, 0) := m_at_of r_M_compareOf (by decide +kernel)
theorem i_M_compareOf_19 : m_at k_M_compareOf 19 = some (.if_icmp .ne (8), 3, 0) := m_at_of r_M_compareOf (by decide +kernel)
theorem i_M_compareOf_22 : m_at k_M_compareOf 22 = some (.bipush 11, 2, 0) := m_at_of r_M_compareOf (by decide +kernel)
theorem i_M_compareOf_24 : m_at k_M_compareOf 24 = some (.goto (59), 3, 0) := m_at_of r_M_compareOf (by decide +kernel)
theorem i_M_compareOf_27 : m_at k_M_compareOf 27 = some (.aload_n 0, 1, 0) := m_at_of r_M_compareOf (by decide +kernel)
theorem i_M_compareOf_28 : m_at k_M_compareOf 28 = some (.getfield 113, 3, 103) := m_at_of r_M_compareOf (by decide +kernel)
theorem i_M_compareOf_31 : m_at k_M_compareOf 31 = some (.bipush 62, 2, 0) := m_at_of r_M_compareOf (by decide +kernel)
theorem i_M_compareOf_33 : m_at k_M_compareOf 33 = some (.if_icmp .ne (8), 3, 0) := m_at_of r_M_compareOf (by decide +kernel)
theorem i_M_compareOf_36 : m_at k_M_compareOf 36 = some (.bipush 12, 2, 0) := m_at_of r_M_compareOf (by decide +kernel)
theorem i_M_compareOf_38 : m_at k_M_compareOf 38 = some (.goto (45), 3, 0) := m_at_of r_M_compareOf (by decide +kernel)
theorem i_M_compareOf_41 : m_at k_M_compareOf 41 = some (.aload_n 0, 1, 0) := m_at_of r_M_compareOf (by decide +kernel)
theorem i_M_compareOf_42 : m_at k_M_compareOf 42 = some (.getfield 113, 3, 103) := m_at_of r_M_compareOf (by decide +kernel)
theorem i_M_compareOf_45 : m_at k_M_compareOf 45 = some (.iconst 5, 1, 0) := m_at_of r_M_compareOf (by decide +kernel)
theorem i_M_compareOf_46 : m_at k_M_compareOf 46 = some (.if_icmp .ne (8), 3, 0) := m_at_of r_M_compareOf (by decide +kernel)
theorem i_M_compareOf_49 : m_at k_M_compareOf 49 = some (.bipush 13, 2, 0) := m_at_of r_M_compareOf (by decide +kernel)
theorem i_M_compareOf_51 : m_at k_M_compareOf 51 = some (.goto (32), 3, 0) := m_at_of r_M_compareOf (by decide +kernel)
theorem i_M_compareOf_54 : m_at k_M_compareOf 54 = some (.aload_n 0, 1, 0) := m_at_of r_M_compareOf (by decide +kernel)
theorem i_M_compareOf_55 : m_at k_M_compareOf 55 = some (.getfield 113, 3, 103) := m_at_of r_M_compareOf (by decide +kernel)
theorem i_M_compareOf_58 : m_at k_M_compareOf 58 = some (.bipush 61, 2, 0) := m_at_of r_M_compareOf (by decide +kernel)
theorem i_M_compareOf_60 : m_at k_M_compareOf 60 = some (.if_icmp .ne (8), 3, 0) := m_at_of r_M_compareOf (by decide +kernel)
theorem i_M_compareOf_63 : m_at k_M_compareOf 63 = some (.bipush 14, 2, 0) := m_at_of r_M_compareOf (by decide +kernel)
theorem i_M_compareOf_65 : m_at k_M_compareOf 65 = some (.goto (18), 3, 0) := m_at_of r_M_compareOf (by decide +kernel)
theorem i_M_compareOf_68 : m_at k_M_compareOf 68 = some (.aload_n 0, 1, 0) := m_at_of r_M_compareOf (by decide +kernel)
theorem i_M_compareOf_69 : m_at k_M_compareOf 69 = some (.getfield 113, 3, 103) := m_at_of r_M_compareOf (by decide +kernel)
theorem i_M_compareOf_72 : m_at k_M_compareOf 72 = some (.bipush 35, 2, 0) := m_at_of r_M_compareOf (by decide +kernel)
theorem i_M_compareOf_74 : m_at k_M_compareOf 74 = some (.if_icmp .ne (8), 3, 0) := m_at_of r_M_compareOf (by decide +kernel)
theorem i_M_compareOf_77 : m_at k_M_compareOf 77 = some (.bipush 15, 2, 0) := m_at_of r_M_compareOf (by decide +kernel)
theorem i_M_compareOf_79 : m_at k_M_compareOf 79 = some (.goto (4), 3, 0) := m_at_of r_M_compareOf (by decide +kernel)
theorem i_M_compareOf_82 : m_at k_M_compareOf 82 = some (.iconst (-1), 1, 0) := m_at_of r_M_compareOf (by decide +kernel)
theorem i_M_compareOf_83 : m_at k_M_compareOf 83 = some (.ireturn, 1, 0) := m_at_of r_M_compareOf (by decide +kernel)
set_option maxRecDepth 20000 in
set_option maxHeartbeats 1000000 in
theorem E_M_compareOf (x : m_X) (s : m_H) (w : Nat) : m_M x k_M_compareOf [.ref w] s = if m_isO s w 11 = true then ((m_fI s 11 9 w).bind fun v1 => if v1 = 60 then (some (some (.int 10), s)) else (m_fI s 11 9 w).bind fun v15 => if v15 = 4 then (some (some (.int 11), s)) else (m_fI s 11 9 w).bind fun v28 => if v28 = 62 then (some (some (.int 12), s)) else (m_fI s 11 9 w).bind fun v42 => if v42 = 5 then (some (some (.int 13), s)) else (m_fI s 11 9 w).bind fun v55 => if v55 = 61 then (some (some (.int 14), s)) else (m_fI s 11 9 w).bind fun v69 => if v69 = 35 then (some (some (.int 15), s)) else some (some (.int (-1)), s)) else none := by
  refine e_M1 (L0 := [some (.ref w)]) rfl (by decide +kernel) rfl (q_M_compareOf _) rfl ?_
  refine e_aload_n i_M_compareOf_0 rfl ?_
  refine e_getI i_M_compareOf_1 lf_103 (by decide) (Or.inl ft_11_9) (fun v1 => ?_)
  refine e_bipush (v := 60) i_M_compareOf_4 (by decide) ?_
  refine e_icmpne (t := 14) i_M_compareOf_6 (by decide) ?_ ?_
  · refine e_aload_n i_M_compareOf_14 rfl ?_
    refine e_getI i_M_compareOf_15 lf_103 (by decide) (Or.inl ft_11_9) (fun v15 => ?_)
    refine e_iconst (v := 4) i_M_compareOf_18 (by decide) ?_
    refine e_icmpne (t := 27) i_M_compareOf_19 (by decide) ?_ ?_
    · refine e_aload_n i_M_compareOf_27 rfl ?_
      refine e_getI i_M_compareOf_28 lf_103 (by decide) (Or.inl ft_11_9) (fun v28 => ?_)
      refine e_bipush (v := 62) i_M_compareOf_31 (by decide) ?_
      refine e_icmpne (t := 41) i_M_compareOf_33 (by decide) ?_ ?_
      · refine e_aload_n i_M_compareOf_41 rfl ?_
        refine e_getI i_M_compareOf_42 lf_103 (by decide) (Or.inl ft_11_9) (fun v42 => ?_)
        refine e_iconst (v := 5) i_M_compareOf_45 (by decide) ?_
        refine e_icmpne (t := 54) i_M_compareOf_46 (by decide) ?_ ?_
        · refine e_aload_n i_M_compareOf_54 rfl ?_
          refine e_getI i_M_compareOf_55 lf_103 (by decide) (Or.inl ft_11_9) (fun v55 => ?_)
          refine e_bipush (v := 61) i_M_compareOf_58 (by decide) ?_
          refine e_icmpne (t := 68) i_M_compareOf_60 (by decide) ?_ ?_
          · refine e_aload_n i_M_compareOf_68 rfl ?_
            refine e_getI i_M_compareOf_69 lf_103 (by decide) (Or.inl ft_11_9) (fun v69 => ?_)
            refine e_bipush (v := 35) i_M_compareOf_72 (by decide) ?_
            refine e_icmpne (t := 82) i_M_compareOf_74 (by decide) ?_ ?_
            · refine e_iconst (v := (-1)) i_M_compareOf_82 (by decide) ?_
              exact e_iretI i_M_compareOf_83 rfl
            · refine e_bipush (v := 15) i_M_compareOf_77 (by decide) ?_
              refine e_goto (t := 83) i_M_compareOf_79 (by decide) ?_
              exact e_iretI i_M_compareOf_83 rfl
          · refine e_bipush (v := 14) i_M_compareOf_63 (by decide) ?_
            refine e_goto (t := 83) i_M_compareOf_65 (by decide) ?_
            exact e_iretI i_M_compareOf_83 rfl
        · refine e_bipush (v := 13) i_M_compareOf_49 (by decide) ?_
          refine e_goto (t := 83) i_M_compareOf_51 (by decide) ?_
          exact e_iretI i_M_compareOf_83 rfl
      · refine e_bipush (v := 12) i_M_compareOf_36 (by decide) ?_
        refine e_goto (t := 83) i_M_compareOf_38 (by decide) ?_
        exact e_iretI i_M_compareOf_83 rfl
    · refine e_bipush (v := 11) i_M_compareOf_22 (by decide) ?_
      refine e_goto (t := 83) i_M_compareOf_24 (by decide) ?_
      exact e_iretI i_M_compareOf_83 rfl
  · refine e_bipush (v := 10) i_M_compareOf_9 (by decide) ?_
    refine e_goto (t := 83) i_M_compareOf_11 (by decide) ?_
    exact e_iretI i_M_compareOf_83 rfl
theorem i_M_isCompared_0 : m_at k_M_isCompared 0 = some (.aload_n 0, 1, 0) := m_at_of r_M_isCompared (by decide +kernel)
theorem i_M_isCompared_1 : m_at k_M_isCompared 1 = some (.getfield 168, 3, 105) := m_at_of r_M_isCompared (by decide +kernel)
theorem i_M_isCompared_4 : m_at k_M_isCompared 4 = some (.iconst 1, 1, 0) := m_at_of r_M_isCompared (by decide +kernel)
theorem i_M_isCompared_5 : m_at k_M_isCompared 5 = some (.isub, 1, 0) := m_at_of r_M_isCompared (by decide +kernel)
theorem i_M_isCompared_6 : m_at k_M_isCompared 6 = some (.istore_n 1, 1, 0) := m_at_of r_M_isCompared (by decide +kernel)
theorem i_M_isCompared_7 : m_at k_M_isCompared 7 = some (.iload_n 1, 1, 0) := m_at_of r_M_isCompared (by decide +kernel)
theorem i_M_isCompared_8 : m_at k_M_isCompared 8 = some (.ifCond .lt (22), 3, 0) := m_at_of r_M_isCompared (by decide +kernel)
theorem i_M_isCompared_11 : m_at k_M_isCompared 11 = some (.aload_n 0, 1, 0) := m_at_of r_M_isCompared (by decide +kernel)
theorem i_M_isCompared_12 : m_at k_M_isCompared 12 = some (.getfield 29, 3, 109) := m_at_of r_M_isCompared (by decide +kernel)
theorem i_M_isCompared_15 : m_at k_M_isCompared 15 = some (.iload_n 1, 1, 0) := m_at_of r_M_isCompared (by decide +kernel)
theorem i_M_isCompared_16 : m_at k_M_isCompared 16 = some (.iaload, 1, 0) := m_at_of r_M_isCompared (by decide +kernel)
theorem i_M_isCompared_17 : m_at k_M_isCompared 17 = some (.invokestatic 171, 3, 350) := m_at_of r_M_isCompared (by decide +kernel)
theorem i_M_isCompared_20 : m_at k_M_isCompared 20 = some (.iconst 4, 1, 0) := m_at_of r_M_isCompared (by decide +kernel)
theorem i_M_isCompared_21 : m_at k_M_isCompared 21 = some (.if_icmp .le (9), 3, 0) := m_at_of r_M_isCompared (by decide +kernel)
theorem i_M_isCompared_24 : m_at k_M_isCompared 24 = some (.iinc 1 (-1), 3, 0) := m_at_of r_M_isCompared (by decide +kernel)
theorem i_M_isCompared_27 : m_at k_M_isCompared 27 = some (.goto (-20), 3, 0) := m_at_of r_M_isCompared (by decide +kernel)
theorem i_M_isCompared_30 : m_at k_M_isCompared 30 = some (.iload_n 1, 1, 0) := m_at_of r_M_isCompared (by decide +kernel)
theorem i_M_isCompared_31 : m_at k_M_isCompared 31 = some (.ifCond .lt (20), 3, 0) := m_at_of r_M_isCompared (by decide +kernel)
theorem i_M_isCompared_34 : m_at k_M_isCompared 34 = some (.aload_n 0, 1, 0) := m_at_of r_M_isCompared (by decide +kernel)
theorem i_M_isCompared_35 : m_at k_M_isCompared 35 = some (.getfield 29, 3, 109) := m_at_of r_M_isCompared (by decide +kernel)
theorem i_M_isCompared_38 : m_at k_M_isCompared 38 = some (.iload_n 1, 1, 0) := m_at_of r_M_isCompared (by decide +kernel)
theorem i_M_isCompared_39 : m_at k_M_isCompared 39 = some (.iaload, 1, 0) := m_at_of r_M_isCompared (by decide +kernel)
theorem i_M_isCompared_40 : m_at k_M_isCompared 40 = some (.invokestatic 171, 3, 350) := m_at_of r_M_isCompared (by decide +kernel)
theorem i_M_isCompared_43 : m_at k_M_isCompared 43 = some (.iconst 4, 1, 0) := m_at_of r_M_isCompared (by decide +kernel)
theorem i_M_isCompared_44 : m_at k_M_isCompared 44 = some (.if_icmp .ne (7), 3, 0) := m_at_of r_M_isCompared (by decide +kernel)
theorem i_M_isCompared_47 : m_at k_M_isCompared 47 = some (.iconst 1, 1, 0) := m_at_of r_M_isCompared (by decide +kernel)
theorem i_M_isCompared_48 : m_at k_M_isCompared 48 = some (.goto (4), 3, 0) := m_at_of r_M_isCompared (by decide +kernel)
theorem i_M_isCompared_51 : m_at k_M_isCompared 51 = some (.iconst 0, 1, 0) := m_at_of r_M_isCompared (by decide +kernel)
theorem i_M_isCompared_52 : m_at k_M_isCompared 52 = some (.ireturn, 1, 0) := m_at_of r_M_isCompared (by decide +kernel)
set_option maxRecDepth 20000 in
set_option maxHeartbeats 1000000 in
theorem E_M_isCompared (x : m_X) (s : m_H) (w : Nat) : m_M x k_M_isCompared [.ref w] s = if m_isO s w 11 = true then ((m_fI s 11 16 w).bind fun v1 => m_D x 2 k_M_isCompared 7 [some (.ref w), some (.int (v1 - (1 : Int32)))] [] s) else none := by
  refine e_M1 (L0 := [some (.ref w), none]) rfl (by decide +kernel) rfl (q_M_isCompared _) rfl ?_
  refine e_aload_n i_M_isCompared_0 rfl ?_
  refine e_getI i_M_isCompared_1 lf_105 (by decide) (Or.inl ft_11_16) (fun v1 => ?_)
  refine e_iconst (v := 1) i_M_isCompared_4 (by decide) ?_
  refine e_isub i_M_isCompared_5 ?_
  refine e_istore_n (L' := [some (.ref w), some (.int (v1 - (1 : Int32)))]) i_M_isCompared_6 (of_decide_eq_true rfl) rfl ?_
  exact rfl
set_option maxRecDepth 20000 in
set_option maxHeartbeats 1000000 in
theorem E_M_isCompared_7 (x : m_X) (ρ : Nat) (hρ : 2 ≤ ρ) (s : m_H) (w : Nat) (n1 : Int32)  : m_D x ρ k_M_isCompared 7 [some (.ref w), some (.int n1)] [] s = if n1 < 0 then (if n1 < 0 then (some (some (.int 0), s)) else (m_fR s 11 15 w).bind fun v35 => (m_ia x s v35 n1).bind fun v39 => m_bI (m_M x k_M_rank [.int v39] s) fun v40 s40 => if v40 = 4 then (some (some (.int 1), s40)) else some (some (.int 0), s40)) else (m_fR s 11 15 w).bind fun v12 => (m_ia x s v12 n1).bind fun v16 => m_bI (m_M x k_M_rank [.int v16] s) fun v17 s17 => if v17 ≤ 4 then (if n1 < 0 then (some (some (.int 0), s17)) else (m_fR s17 11 15 w).bind fun v35 => (m_ia x s17 v35 n1).bind fun v39 => m_bI (m_M x k_M_rank [.int v39] s17) fun v40 s40 => if v40 = 4 then (some (some (.int 1), s40)) else some (some (.int 0), s40)) else m_D x ρ k_M_isCompared 7 [some (.ref w), some (.int (n1 + (-1 : Int32)))] [] s17 := by
  refine e_iload_n i_M_isCompared_7 rfl ?_
  refine e_iflt (t := 30) i_M_isCompared_8 (by decide) ?_ ?_
  · refine e_iload_n i_M_isCompared_30 rfl ?_
    refine e_iflt (t := 51) i_M_isCompared_31 (by decide) ?_ ?_
    · refine e_iconst (v := 0) i_M_isCompared_51 (by decide) ?_
      exact e_iretZ i_M_isCompared_52 rfl (by decide)
    · refine e_aload_n i_M_isCompared_34 rfl ?_
      refine e_getR i_M_isCompared_35 lf_109 (by decide) ft_11_15 (fun v35 => ?_)
      refine e_iload_n i_M_isCompared_38 rfl ?_
      refine e_iald i_M_isCompared_39 (fun v39 => ?_)
      refine e_callI (as := [.int v39]) (st' := []) i_M_isCompared_40 lm_350 (Or.inl ⟨rfl, rfl⟩) w_M_rank rfl rfl rfl (Nat.le_of_ble_eq_true rfl) (Nat.le_of_ble_eq_true rfl) (m_rlt (q_M_rank _) (Nat.lt_of_lt_of_le (by decide) hρ)) rfl (fun v40 s40 => ?_)
      refine e_iconst (v := 4) i_M_isCompared_43 (by decide) ?_
      refine e_icmpne (t := 51) i_M_isCompared_44 (by decide) ?_ ?_
      · refine e_iconst (v := 0) i_M_isCompared_51 (by decide) ?_
        exact e_iretZ i_M_isCompared_52 rfl (by decide)
      · refine e_iconst (v := 1) i_M_isCompared_47 (by decide) ?_
        refine e_goto (t := 52) i_M_isCompared_48 (by decide) ?_
        exact e_iretZ i_M_isCompared_52 rfl (by decide)
  · refine e_aload_n i_M_isCompared_11 rfl ?_
    refine e_getR i_M_isCompared_12 lf_109 (by decide) ft_11_15 (fun v12 => ?_)
    refine e_iload_n i_M_isCompared_15 rfl ?_
    refine e_iald i_M_isCompared_16 (fun v16 => ?_)
    refine e_callI (as := [.int v16]) (st' := []) i_M_isCompared_17 lm_350 (Or.inl ⟨rfl, rfl⟩) w_M_rank rfl rfl rfl (Nat.le_of_ble_eq_true rfl) (Nat.le_of_ble_eq_true rfl) (m_rlt (q_M_rank _) (Nat.lt_of_lt_of_le (by decide) hρ)) rfl (fun v17 s17 => ?_)
    refine e_iconst (v := 4) i_M_isCompared_20 (by decide) ?_
    refine e_icmple (t := 30) i_M_isCompared_21 (by decide) ?_ ?_
    · refine e_iload_n i_M_isCompared_30 rfl ?_
      refine e_iflt (t := 51) i_M_isCompared_31 (by decide) ?_ ?_
      · refine e_iconst (v := 0) i_M_isCompared_51 (by decide) ?_
        exact e_iretZ i_M_isCompared_52 rfl (by decide)
      · refine e_aload_n i_M_isCompared_34 rfl ?_
        refine e_getR i_M_isCompared_35 lf_109 (by decide) ft_11_15 (fun v35 => ?_)
        refine e_iload_n i_M_isCompared_38 rfl ?_
        refine e_iald i_M_isCompared_39 (fun v39 => ?_)
        refine e_callI (as := [.int v39]) (st' := []) i_M_isCompared_40 lm_350 (Or.inl ⟨rfl, rfl⟩) w_M_rank rfl rfl rfl (Nat.le_of_ble_eq_true rfl) (Nat.le_of_ble_eq_true rfl) (m_rlt (q_M_rank _) (Nat.lt_of_lt_of_le (by decide) hρ)) rfl (fun v40 s40 => ?_)
        refine e_iconst (v := 4) i_M_isCompared_43 (by decide) ?_
        refine e_icmpne (t := 51) i_M_isCompared_44 (by decide) ?_ ?_
        · refine e_iconst (v := 0) i_M_isCompared_51 (by decide) ?_
          exact e_iretZ i_M_isCompared_52 rfl (by decide)
        · refine e_iconst (v := 1) i_M_isCompared_47 (by decide) ?_
          refine e_goto (t := 52) i_M_isCompared_48 (by decide) ?_
          exact e_iretZ i_M_isCompared_52 rfl (by decide)
    · refine e_iinc (w := (-1)) (L' := [some (.ref w), some (.int (n1 + (-1 : Int32)))]) i_M_isCompared_24 rfl (of_decide_eq_true rfl) (by decide) rfl ?_
      refine e_goto (t := 7) i_M_isCompared_27 (by decide) ?_
      exact rfl
theorem i_M_rank_0 : m_at k_M_rank 0 = some (.iload_n 0, 1, 0) := m_at_of r_M_rank (by decide +kernel)
theorem i_M_rank_1 : m_at k_M_rank 1 = some (.bipush 40, 2, 0) := m_at_of r_M_rank (by decide +kernel)
theorem i_M_rank_3 : m_at k_M_rank 3 = some (.if_icmp .lt (7), 3, 0) := m_at_of r_M_rank (by decide +kernel)
theorem i_M_rank_6 : m_at k_M_rank 6 = some (.iconst 0, 1, 0) := m_at_of r_M_rank (by decide +kernel)
theorem i_M_rank_7 : m_at k_M_rank 7 = some (.goto (75), 3, 0) := m_at_of r_M_rank (by decide +kernel)
theorem i_M_rank_10 : m_at k_M_rank 10 = some (.iload_n 0, 1, 0) := m_at_of r_M_rank (by decide +kernel)
theorem i_M_rank_11 : m_at k_M_rank 11 = some (.bipush 22, 2, 0) := m_at_of r_M_rank (by decide +kernel)
theorem i_M_rank_13 : m_at k_M_rank 13 = some (.if_icmp .ne (7), 3, 0) := m_at_of r_M_rank (by decide +kernel)
theorem i_M_rank_16 : m_at k_M_rank 16 = some (.iconst 1, 1, 0) := m_at_of r_M_rank (by decide +kernel)
theorem i_M_rank_17 : m_at k_M_rank 17 = some (.goto (65), 3, 0) := m_at_of r_M_rank (by decide +kernel)
theorem i_M_rank_20 : m_at k_M_rank 20 = some (.iload_n 0, 1, 0) := m_at_of r_M_rank (by decide +kernel)
theorem i_M_rank_21 : m_at k_M_rank 21 = some (.bipush 21, 2, 0) := m_at_of r_M_rank (by decide +kernel)
theorem i_M_rank_23 : m_at k_M_rank 23 = some (.if_icmp .ne (7), 3, 0) := m_at_of r_M_rank (by decide +kernel)
theorem i_M_rank_26 : m_at k_M_rank 26 = some (.iconst 2, 1, 0) := m_at_of r_M_rank (by decide +kernel)
theorem i_M_rank_27 : m_at k_M_rank 27 = some (.goto (55), 3, 0) := m_at_of r_M_rank (by decide +kernel)
theorem i_M_rank_30 : m_at k_M_rank 30 = some (.iload_n 0, 1, 0) := m_at_of r_M_rank (by decide +kernel)
theorem i_M_rank_31 : m_at k_M_rank 31 = some (.bipush 20, 2, 0) := m_at_of r_M_rank (by decide +kernel)
theorem i_M_rank_33 : m_at k_M_rank 33 = some (.if_icmp .ne (7), 3, 0) := m_at_of r_M_rank (by decide +kernel)
theorem i_M_rank_36 : m_at k_M_rank 36 = some (.iconst 3, 1, 0) := m_at_of r_M_rank (by decide +kernel)
theorem i_M_rank_37 : m_at k_M_rank 37 = some (.goto (45), 3, 0) := m_at_of r_M_rank (by decide +kernel)
theorem i_M_rank_40 : m_at k_M_rank 40 = some (.iload_n 0, 1, 0) := m_at_of r_M_rank (by decide +kernel)
theorem i_M_rank_41 : m_at k_M_rank 41 = some (.bipush 10, 2, 0) := m_at_of r_M_rank (by decide +kernel)
theorem i_M_rank_43 : m_at k_M_rank 43 = some (.if_icmp .lt (7), 3, 0) := m_at_of r_M_rank (by decide +kernel)
theorem i_M_rank_46 : m_at k_M_rank 46 = some (.iconst 4, 1, 0) := m_at_of r_M_rank (by decide +kernel)
theorem i_M_rank_47 : m_at k_M_rank 47 = some (.goto (35), 3, 0) := m_at_of r_M_rank (by decide +kernel)
theorem i_M_rank_50 : m_at k_M_rank 50 = some (.iload_n 0, 1, 0) := m_at_of r_M_rank (by decide +kernel)
theorem i_M_rank_51 : m_at k_M_rank 51 = some (.iconst 5, 1, 0) := m_at_of r_M_rank (by decide +kernel)
theorem i_M_rank_52 : m_at k_M_rank 52 = some (.if_icmp .eq (13), 3, 0) := m_at_of r_M_rank (by decide +kernel)
theorem i_M_rank_55 : m_at k_M_rank 55 = some (.iload_n 0, 1, 0) := m_at_of r_M_rank (by decide +kernel)
theorem i_M_rank_56 : m_at k_M_rank 56 = some (.iconst 2, 1, 0) := m_at_of r_M_rank (by decide +kernel)
theorem i_M_rank_57 : m_at k_M_rank 57 = some (.if_icmp .eq (8), 3, 0) := m_at_of r_M_rank (by decide +kernel)
theorem i_M_rank_60 : m_at k_M_rank 60 = some (.iload_n 0, 1, 0) := m_at_of r_M_rank (by decide +kernel)
theorem i_M_rank_61 : m_at k_M_rank 61 = some (.iconst 4, 1, 0) := m_at_of r_M_rank (by decide +kernel)
theorem i_M_rank_62 : m_at k_M_rank 62 = some (.if_icmp .ne (8), 3, 0) := m_at_of r_M_rank (by decide +kernel)
theorem i_M_rank_65 : m_at k_M_rank 65 = some (.bipush 7, 2, 0) := m_at_of r_M_rank (by decide +kernel)
theorem i_M_rank_67 : m_at k_M_rank 67 = some (.goto (15), 3, 0) := m_at_of r_M_rank (by decide +kernel)
theorem i_M_rank_70 : m_at k_M_rank 70 = some (.iload_n 0, 1, 0) := m_at_of r_M_rank (by decide +kernel)
theorem i_M_rank_71 : m_at k_M_rank 71 = some (.bipush 8, 2, 0) := m_at_of r_M_rank (by decide +kernel)
theorem i_M_rank_73 : m_at k_M_rank 73 = some (.if_icmp .lt (8), 3, 0) := m_at_of r_M_rank (by decide +kernel)
theorem i_M_rank_76 : m_at k_M_rank 76 = some (.bipush 6, 2, 0) := m_at_of r_M_rank (by decide +kernel)
theorem i_M_rank_78 : m_at k_M_rank 78 = some (.goto (4), 3, 0) := m_at_of r_M_rank (by decide +kernel)
theorem i_M_rank_81 : m_at k_M_rank 81 = some (.iconst 5, 1, 0) := m_at_of r_M_rank (by decide +kernel)
theorem i_M_rank_82 : m_at k_M_rank 82 = some (.ireturn, 1, 0) := m_at_of r_M_rank (by decide +kernel)
set_option maxRecDepth 20000 in
set_option maxHeartbeats 1000000 in
theorem E_M_rank (x : m_X) (s : m_H) (n0 : Int32) : m_M x k_M_rank [.int n0] s = if n0 < 40 then (if n0 = 22 then (some (some (.int 1), s)) else if n0 = 21 then (some (some (.int 2), s)) else if n0 = 20 then (some (some (.int 3), s)) else if n0 < 10 then (if n0 = 5 then (some (some (.int 7), s)) else if n0 = 2 then (some (some (.int 7), s)) else if n0 = 4 then (some (some (.int 7), s)) else if n0 < 8 then (some (some (.int 5), s)) else some (some (.int 6), s)) else some (some (.int 4), s)) else some (some (.int 0), s) := by
  refine e_M0 (L0 := [some (.int n0)]) rfl (q_M_rank _) rfl ?_
  refine e_iload_n i_M_rank_0 rfl ?_
  refine e_bipush (v := 40) i_M_rank_1 (by decide) ?_
  refine e_icmplt (t := 10) i_M_rank_3 (by decide) ?_ ?_
  · refine e_iload_n i_M_rank_10 rfl ?_
    refine e_bipush (v := 22) i_M_rank_11 (by decide) ?_
    refine e_icmpne (t := 20) i_M_rank_13 (by decide) ?_ ?_
    · refine e_iload_n i_M_rank_20 rfl ?_
      refine e_bipush (v := 21) i_M_rank_21 (by decide) ?_
      refine e_icmpne (t := 30) i_M_rank_23 (by decide) ?_ ?_
      · refine e_iload_n i_M_rank_30 rfl ?_
        refine e_bipush (v := 20) i_M_rank_31 (by decide) ?_
        refine e_icmpne (t := 40) i_M_rank_33 (by decide) ?_ ?_
        · refine e_iload_n i_M_rank_40 rfl ?_
          refine e_bipush (v := 10) i_M_rank_41 (by decide) ?_
          refine e_icmplt (t := 50) i_M_rank_43 (by decide) ?_ ?_
          · refine e_iload_n i_M_rank_50 rfl ?_
            refine e_iconst (v := 5) i_M_rank_51 (by decide) ?_
            refine e_icmpeq (t := 65) i_M_rank_52 (by decide) ?_ ?_
            · refine e_bipush (v := 7) i_M_rank_65 (by decide) ?_
              refine e_goto (t := 82) i_M_rank_67 (by decide) ?_
              exact e_iretI i_M_rank_82 rfl
            · refine e_iload_n i_M_rank_55 rfl ?_
              refine e_iconst (v := 2) i_M_rank_56 (by decide) ?_
              refine e_icmpeq (t := 65) i_M_rank_57 (by decide) ?_ ?_
              · refine e_bipush (v := 7) i_M_rank_65 (by decide) ?_
                refine e_goto (t := 82) i_M_rank_67 (by decide) ?_
                exact e_iretI i_M_rank_82 rfl
              · refine e_iload_n i_M_rank_60 rfl ?_
                refine e_iconst (v := 4) i_M_rank_61 (by decide) ?_
                refine e_icmpne (t := 70) i_M_rank_62 (by decide) ?_ ?_
                · refine e_iload_n i_M_rank_70 rfl ?_
                  refine e_bipush (v := 8) i_M_rank_71 (by decide) ?_
                  refine e_icmplt (t := 81) i_M_rank_73 (by decide) ?_ ?_
                  · refine e_iconst (v := 5) i_M_rank_81 (by decide) ?_
                    exact e_iretI i_M_rank_82 rfl
                  · refine e_bipush (v := 6) i_M_rank_76 (by decide) ?_
                    refine e_goto (t := 82) i_M_rank_78 (by decide) ?_
                    exact e_iretI i_M_rank_82 rfl
                · refine e_bipush (v := 7) i_M_rank_65 (by decide) ?_
                  refine e_goto (t := 82) i_M_rank_67 (by decide) ?_
                  exact e_iretI i_M_rank_82 rfl
          · refine e_iconst (v := 4) i_M_rank_46 (by decide) ?_
            refine e_goto (t := 82) i_M_rank_47 (by decide) ?_
            exact e_iretI i_M_rank_82 rfl
        · refine e_iconst (v := 3) i_M_rank_36 (by decide) ?_
          refine e_goto (t := 82) i_M_rank_37 (by decide) ?_
          exact e_iretI i_M_rank_82 rfl
      · refine e_iconst (v := 2) i_M_rank_26 (by decide) ?_
        refine e_goto (t := 82) i_M_rank_27 (by decide) ?_
        exact e_iretI i_M_rank_82 rfl
    · refine e_iconst (v := 1) i_M_rank_16 (by decide) ?_
      refine e_goto (t := 82) i_M_rank_17 (by decide) ?_
      exact e_iretI i_M_rank_82 rfl
  · refine e_iconst (v := 0) i_M_rank_6 (by decide) ?_
    refine e_goto (t := 82) i_M_rank_7 (by decide) ?_
    exact e_iretI i_M_rank_82 rfl
theorem i_M_isAskHere_0 : m_at k_M_isAskHere 0 = some (.aload_n 0, 1, 0) := m_at_of r_M_isAskHere (by decide +kernel)
theorem i_M_isAskHere_1 : m_at k_M_isAskHere 1 = some (.invokevirtual 185, 3, 338) := m_at_of r_M_isAskHere (by decide +kernel)
theorem i_M_isAskHere_4 : m_at k_M_isAskHere 4 = some (.bipush 42, 2, 0) := m_at_of r_M_isAskHere (by decide +kernel)
theorem i_M_isAskHere_6 : m_at k_M_isAskHere 6 = some (.if_icmp .ne (7), 3, 0) := m_at_of r_M_isAskHere (by decide +kernel)
theorem i_M_isAskHere_9 : m_at k_M_isAskHere 9 = some (.iconst 1, 1, 0) := m_at_of r_M_isAskHere (by decide +kernel)
theorem i_M_isAskHere_10 : m_at k_M_isAskHere 10 = some (.goto (4), 3, 0) := m_at_of r_M_isAskHere (by decide +kernel)
theorem i_M_isAskHere_13 : m_at k_M_isAskHere 13 = some (.iconst 0, 1, 0) := m_at_of r_M_isAskHere (by decide +kernel)
theorem i_M_isAskHere_14 : m_at k_M_isAskHere 14 = some (.ireturn, 1, 0) := m_at_of r_M_isAskHere (by decide +kernel)
set_option maxRecDepth 20000 in
set_option maxHeartbeats 1000000 in
theorem E_M_isAskHere (x : m_X) (s : m_H) (w : Nat) : m_M x k_M_isAskHere [.ref w] s = if m_isO s w 11 = true then (m_bI (m_M x k_M_openNow [.ref w] s) fun v1 s1 => if v1 = 42 then (some (some (.int 1), s1)) else some (some (.int 0), s1)) else none := by
  refine e_M1 (L0 := [some (.ref w)]) rfl (by decide +kernel) rfl (q_M_isAskHere _) rfl ?_
  refine e_aload_n i_M_isAskHere_0 rfl ?_
  refine e_callI (as := [.ref w]) (st' := []) i_M_isAskHere_1 lm_338 (Or.inr (Or.inl ⟨rfl, rfl⟩)) w_M_openNow rfl rfl rfl (Nat.le_of_ble_eq_true rfl) (Nat.le_of_ble_eq_true rfl) (m_rlt (q_M_openNow _) (by decide)) rfl (fun v1 s1 => ?_)
  refine e_bipush (v := 42) i_M_isAskHere_4 (by decide) ?_
  refine e_icmpne (t := 13) i_M_isAskHere_6 (by decide) ?_ ?_
  · refine e_iconst (v := 0) i_M_isAskHere_13 (by decide) ?_
    exact e_iretZ i_M_isAskHere_14 rfl (by decide)
  · refine e_iconst (v := 1) i_M_isAskHere_9 (by decide) ?_
    refine e_goto (t := 14) i_M_isAskHere_10 (by decide) ?_
    exact e_iretZ i_M_isAskHere_14 rfl (by decide)
theorem i_M_openNow_0 : m_at k_M_openNow 0 = some (.aload_n 0, 1, 0) := m_at_of r_M_openNow (by decide +kernel)
theorem i_M_openNow_1 : m_at k_M_openNow 1 = some (.invokevirtual 181, 3, 355) := m_at_of r_M_openNow (by decide +kernel)
theorem i_M_openNow_4 : m_at k_M_openNow 4 = some (.ifCond .ge (7), 3, 0) := m_at_of r_M_openNow (by decide +kernel)
theorem i_M_openNow_7 : m_at k_M_openNow 7 = some (.iconst (-1), 1, 0) := m_at_of r_M_openNow (by decide +kernel)
theorem i_M_openNow_8 : m_at k_M_openNow 8 = some (.goto (12), 3, 0) := m_at_of r_M_openNow (by decide +kernel)
theorem i_M_openNow_11 : m_at k_M_openNow 11 = some (.aload_n 0, 1, 0) := m_at_of r_M_openNow (by decide +kernel)
theorem i_M_openNow_12 : m_at k_M_openNow 12 = some (.getfield 29, 3, 109) := m_at_of r_M_openNow (by decide +kernel)
theorem i_M_openNow_15 : m_at k_M_openNow 15 = some (.aload_n 0, 1, 0) := m_at_of r_M_openNow (by decide +kernel)
theorem i_M_openNow_16 : m_at k_M_openNow 16 = some (.invokevirtual 181, 3, 355) := m_at_of r_M_openNow (by decide +kernel)
theorem i_M_openNow_19 : m_at k_M_openNow 19 = some (.iaload, 1, 0) := m_at_of r_M_openNow (by decide +kernel)
theorem i_M_openNow_20 : m_at k_M_openNow 20 = some (.ireturn, 1, 0) := m_at_of r_M_openNow (by decide +kernel)
set_option maxRecDepth 20000 in
set_option maxHeartbeats 1000000 in
theorem E_M_openNow (x : m_X) (s : m_H) (w : Nat) : m_M x k_M_openNow [.ref w] s = if m_isO s w 11 = true then (m_bI (m_M x k_M_openAt [.ref w] s) fun v1 s1 => if 0 ≤ v1 then ((m_fR s1 11 15 w).bind fun v12 => m_bI (m_M x k_M_openAt [.ref w] s1) fun v16 s16 => (m_ia x s16 v12 v16).bind fun v19 => some (some (.int v19), s16)) else some (some (.int (-1)), s1)) else none := by
  refine e_M1 (L0 := [some (.ref w)]) rfl (by decide +kernel) rfl (q_M_openNow _) rfl ?_
  refine e_aload_n i_M_openNow_0 rfl ?_
  refine e_callI (as := [.ref w]) (st' := []) i_M_openNow_1 lm_355 (Or.inr (Or.inl ⟨rfl, rfl⟩)) w_M_openAt rfl rfl rfl (Nat.le_of_ble_eq_true rfl) (Nat.le_of_ble_eq_true rfl) (m_rlt (q_M_openAt _) (by decide)) rfl (fun v1 s1 => ?_)
  refine e_ifge (t := 11) i_M_openNow_4 (by decide) ?_ ?_
  · refine e_aload_n i_M_openNow_11 rfl ?_
    refine e_getR i_M_openNow_12 lf_109 (by decide) ft_11_15 (fun v12 => ?_)
    refine e_aload_n i_M_openNow_15 rfl ?_
    refine e_callI (as := [.ref w]) (st' := [.ref v12]) i_M_openNow_16 lm_355 (Or.inr (Or.inl ⟨rfl, rfl⟩)) w_M_openAt rfl rfl rfl (Nat.le_of_ble_eq_true rfl) (Nat.le_of_ble_eq_true rfl) (m_rlt (q_M_openAt _) (by decide)) rfl (fun v16 s16 => ?_)
    refine e_iald i_M_openNow_19 (fun v19 => ?_)
    exact e_iretI i_M_openNow_20 rfl
  · refine e_iconst (v := (-1)) i_M_openNow_7 (by decide) ?_
    refine e_goto (t := 20) i_M_openNow_8 (by decide) ?_
    exact e_iretI i_M_openNow_20 rfl
theorem i_M_openAt_0 : m_at k_M_openAt 0 = some (.aload_n 0, 1, 0) := m_at_of r_M_openAt (by decide +kernel)
theorem i_M_openAt_1 : m_at k_M_openAt 1 = some (.getfield 168, 3, 105) := m_at_of r_M_openAt (by decide +kernel)
theorem i_M_openAt_4 : m_at k_M_openAt 4 = some (.iconst 1, 1, 0) := m_at_of r_M_openAt (by decide +kernel)
theorem i_M_openAt_5 : m_at k_M_openAt 5 = some (.isub, 1, 0) := m_at_of r_M_openAt (by decide +kernel)
theorem i_M_openAt_6 : m_at k_M_openAt 6 = some (.istore_n 1, 1, 0) := m_at_of r_M_openAt (by decide +kernel)
theorem i_M_openAt_7 : m_at k_M_openAt 7 = some (.iload_n 1, 1, 0) := m_at_of r_M_openAt (by decide +kernel)
theorem i_M_openAt_8 : m_at k_M_openAt 8 = some (.ifCond .lt (20), 3, 0) := m_at_of r_M_openAt (by decide +kernel)
theorem i_M_openAt_11 : m_at k_M_openAt 11 = some (.aload_n 0, 1, 0) := m_at_of r_M_openAt (by decide +kernel)
theorem i_M_openAt_12 : m_at k_M_openAt 12 = some (.getfield 29, 3, 109) := m_at_of r_M_openAt (by decide +kernel)
theorem i_M_openAt_15 : m_at k_M_openAt 15 = some (.iload_n 1, 1, 0) := m_at_of r_M_openAt (by decide +kernel)
theorem i_M_openAt_16 : m_at k_M_openAt 16 = some (.iaload, 1, 0) := m_at_of r_M_openAt (by decide +kernel)
theorem i_M_openAt_17 : m_at k_M_openAt 17 = some (.bipush 40, 2, 0) := m_at_of r_M_openAt (by decide +kernel)
theorem i_M_openAt_19 : m_at k_M_openAt 19 = some (.if_icmp .ge (9), 3, 0) := m_at_of r_M_openAt (by decide +kernel)
theorem i_M_openAt_22 : m_at k_M_openAt 22 = some (.iinc 1 (-1), 3, 0) := m_at_of r_M_openAt (by decide +kernel)
theorem i_M_openAt_25 : m_at k_M_openAt 25 = some (.goto (-18), 3, 0) := m_at_of r_M_openAt (by decide +kernel)
theorem i_M_openAt_28 : m_at k_M_openAt 28 = some (.iload_n 1, 1, 0) := m_at_of r_M_openAt (by decide +kernel)
theorem i_M_openAt_29 : m_at k_M_openAt 29 = some (.ireturn, 1, 0) := m_at_of r_M_openAt (by decide +kernel)
set_option maxRecDepth 20000 in
set_option maxHeartbeats 1000000 in
theorem E_M_openAt (x : m_X) (s : m_H) (w : Nat) : m_M x k_M_openAt [.ref w] s = if m_isO s w 11 = true then ((m_fI s 11 16 w).bind fun v1 => m_D x 1 k_M_openAt 7 [some (.ref w), some (.int (v1 - (1 : Int32)))] [] s) else none := by
  refine e_M1 (L0 := [some (.ref w), none]) rfl (by decide +kernel) rfl (q_M_openAt _) rfl ?_
  refine e_aload_n i_M_openAt_0 rfl ?_
  refine e_getI i_M_openAt_1 lf_105 (by decide) (Or.inl ft_11_16) (fun v1 => ?_)
  refine e_iconst (v := 1) i_M_openAt_4 (by decide) ?_
  refine e_isub i_M_openAt_5 ?_
  refine e_istore_n (L' := [some (.ref w), some (.int (v1 - (1 : Int32)))]) i_M_openAt_6 (of_decide_eq_true rfl) rfl ?_
  exact rfl
set_option maxRecDepth 20000 in
set_option maxHeartbeats 1000000 in
theorem E_M_openAt_7 (x : m_X) (ρ : Nat) (hρ : 1 ≤ ρ) (s : m_H) (w : Nat) (n1 : Int32)  : m_D x ρ k_M_openAt 7 [some (.ref w), some (.int n1)] [] s = if n1 < 0 then (some (some (.int n1), s)) else (m_fR s 11 15 w).bind fun v12 => (m_ia x s v12 n1).bind fun v16 => if 40 ≤ v16 then (some (some (.int n1), s)) else m_D x ρ k_M_openAt 7 [some (.ref w), some (.int (n1 + (-1 : Int32)))] [] s := by
  refine e_iload_n i_M_openAt_7 rfl ?_
  refine e_iflt (t := 28) i_M_openAt_8 (by decide) ?_ ?_
  · refine e_iload_n i_M_openAt_28 rfl ?_
    exact e_iretI i_M_openAt_29 rfl
  · refine e_aload_n i_M_openAt_11 rfl ?_
    refine e_getR i_M_openAt_12 lf_109 (by decide) ft_11_15 (fun v12 => ?_)
    refine e_iload_n i_M_openAt_15 rfl ?_
    refine e_iald i_M_openAt_16 (fun v16 => ?_)
    refine e_bipush (v := 40) i_M_openAt_17 (by decide) ?_
    refine e_icmpge (t := 28) i_M_openAt_19 (by decide) ?_ ?_
    · refine e_iload_n i_M_openAt_28 rfl ?_
      exact e_iretI i_M_openAt_29 rfl
    · refine e_iinc (w := (-1)) (L' := [some (.ref w), some (.int (n1 + (-1 : Int32)))]) i_M_openAt_22 rfl (of_decide_eq_true rfl) (by decide) rfl ?_
      refine e_goto (t := 7) i_M_openAt_25 (by decide) ?_
      exact rfl
theorem i_M_oweClause_0 : m_at k_M_oweClause 0 = some (.aload_n 0, 1, 0) := m_at_of r_M_oweClause (by decide +kernel)
theorem i_M_oweClause_1 : m_at k_M_oweClause 1 = some (.iload_n 1, 1, 0) := m_at_of r_M_oweClause (by decide +kernel)
theorem i_M_oweClause_2 : m_at k_M_oweClause 2 = some (.iconst 1, 1, 0) := m_at_of r_M_oweClause (by decide +kernel)
theorem i_M_oweClause_3 : m_at k_M_oweClause 3 = some (.iadd, 1, 0) := m_at_of r_M_oweClause (by decide +kernel)
theorem i_M_oweClause_4 : m_at k_M_oweClause 4 = some (.iconst 0, 1, 0) := m_at_of r_M_oweClause (by decide +kernel)
theorem i_M_oweClause_5 : m_at k_M_oweClause 5 = some (.bipush 6, 2, 0) := m_at_of r_M_oweClause (by decide +kernel)
theorem i_M_oweClause_7 : m_at k_M_oweClause 7 = some (.invokevirtual 237, 3, 333) := m_at_of r_M_oweClause (by decide +kernel)
theorem i_M_oweClause_10 : m_at k_M_oweClause 10 = some (.istore_n 2, 1, 0) := m_at_of r_M_oweClause (by decide +kernel)
theorem i_M_oweClause_11 : m_at k_M_oweClause 11 = some (.iload_n 2, 1, 0) := m_at_of r_M_oweClause (by decide +kernel)
theorem i_M_oweClause_12 : m_at k_M_oweClause 12 = some (.ifCond .ne (21), 3, 0) := m_at_of r_M_oweClause (by decide +kernel)
theorem i_M_oweClause_15 : m_at k_M_oweClause 15 = some (.aload_n 0, 1, 0) := m_at_of r_M_oweClause (by decide +kernel)
theorem i_M_oweClause_16 : m_at k_M_oweClause 16 = some (.bipush 116, 2, 0) := m_at_of r_M_oweClause (by decide +kernel)
theorem i_M_oweClause_18 : m_at k_M_oweClause 18 = some (.bipush 111, 2, 0) := m_at_of r_M_oweClause (by decide +kernel)
theorem i_M_oweClause_20 : m_at k_M_oweClause 20 = some (.invokestatic 135, 3, 332) := m_at_of r_M_oweClause (by decide +kernel)
theorem i_M_oweClause_23 : m_at k_M_oweClause 23 = some (.iload_n 1, 1, 0) := m_at_of r_M_oweClause (by decide +kernel)
theorem i_M_oweClause_24 : m_at k_M_oweClause 24 = some (.iconst 2, 1, 0) := m_at_of r_M_oweClause (by decide +kernel)
theorem i_M_oweClause_25 : m_at k_M_oweClause 25 = some (.iadd, 1, 0) := m_at_of r_M_oweClause (by decide +kernel)
theorem i_M_oweClause_26 : m_at k_M_oweClause 26 = some (.iconst 0, 1, 0) := m_at_of r_M_oweClause (by decide +kernel)
theorem i_M_oweClause_27 : m_at k_M_oweClause 27 = some (.bipush 6, 2, 0) := m_at_of r_M_oweClause (by decide +kernel)
theorem i_M_oweClause_29 : m_at k_M_oweClause 29 = some (.invokevirtual 244, 3, 358) := m_at_of r_M_oweClause (by decide +kernel)
theorem i_M_oweClause_32 : m_at k_M_oweClause 32 = some (.istore_n 2, 1, 0) := m_at_of r_M_oweClause (by decide +kernel)
theorem i_M_oweClause_33 : m_at k_M_oweClause 33 = some (.iload_n 2, 1, 0) := m_at_of r_M_oweClause (by decide +kernel)
theorem i_M_oweClause_34 : m_at k_M_oweClause 34 = some (.ifCond .ne (25), 3, 0) := m_at_of r_M_oweClause (by decide +kernel)
theorem i_M_oweClause_37 : m_at k_M_oweClause 37 = some (.aload_n 0, 1, 0) := m_at_of r_M_oweClause (by decide +kernel)
theorem i_M_oweClause_38 : m_at k_M_oweClause 38 = some (.bipush 119, 2, 0) := m_at_of r_M_oweClause (by decide +kernel)
theorem i_M_oweClause_40 : m_at k_M_oweClause 40 = some (.bipush 111, 2, 0) := m_at_of r_M_oweClause (by decide +kernel)
theorem i_M_oweClause_42 : m_at k_M_oweClause 42 = some (.bipush 114, 2, 0) := m_at_of r_M_oweClause (by decide +kernel)
theorem i_M_oweClause_44 : m_at k_M_oweClause 44 = some (.bipush 107, 2, 0) := m_at_of r_M_oweClause (by decide +kernel)
theorem i_M_oweClause_46 : m_at k_M_oweClause 46 = some (.invokestatic 143, 3, 351) := m_at_of r_M_oweClause (by decide +kernel)
theorem i_M_oweClause_49 : m_at k_M_oweClause 49 = some (.iload_n 1, 1, 0) := m_at_of r_M_oweClause (by decide +kernel)
theorem i_M_oweClause_50 : m_at k_M_oweClause 50 = some (.iconst 3, 1, 0) := m_at_of r_M_oweClause (by decide +kernel)
theorem i_M_oweClause_51 : m_at k_M_oweClause 51 = some (.iadd, 1, 0) := m_at_of r_M_oweClause (by decide +kernel)
theorem i_M_oweClause_52 : m_at k_M_oweClause 52 = some (.iconst 1, 1, 0) := m_at_of r_M_oweClause (by decide +kernel)
theorem i_M_oweClause_53 : m_at k_M_oweClause 53 = some (.bipush 99, 2, 0) := m_at_of r_M_oweClause (by decide +kernel)
theorem i_M_oweClause_55 : m_at k_M_oweClause 55 = some (.invokevirtual 244, 3, 358) := m_at_of r_M_oweClause (by decide +kernel)
theorem i_M_oweClause_58 : m_at k_M_oweClause 58 = some (.istore_n 2, 1, 0) := m_at_of r_M_oweClause (by decide +kernel)
theorem i_M_oweClause_59 : m_at k_M_oweClause 59 = some (.iload_n 2, 1, 0) := m_at_of r_M_oweClause (by decide +kernel)
theorem i_M_oweClause_60 : m_at k_M_oweClause 60 = some (.ifCond .eq (5), 3, 0) := m_at_of r_M_oweClause (by decide +kernel)
theorem i_M_oweClause_63 : m_at k_M_oweClause 63 = some (.iload_n 2, 1, 0) := m_at_of r_M_oweClause (by decide +kernel)
theorem i_M_oweClause_64 : m_at k_M_oweClause 64 = some (.ireturn, 1, 0) := m_at_of r_M_oweClause (by decide +kernel)
theorem i_M_oweClause_65 : m_at k_M_oweClause 65 = some (.aload_n 0, 1, 0) := m_at_of r_M_oweClause (by decide +kernel)
theorem i_M_oweClause_66 : m_at k_M_oweClause 66 = some (.invokevirtual 161, 3, 352) := m_at_of r_M_oweClause (by decide +kernel)
theorem i_M_oweClause_69 : m_at k_M_oweClause 69 = some (.ifCond .ne (5), 3, 0) := m_at_of r_M_oweClause (by decide +kernel)
theorem i_M_oweClause_72 : m_at k_M_oweClause 72 = some (.iconst 1, 1, 0) := m_at_of r_M_oweClause (by decide +kernel)
theorem i_M_oweClause_73 : m_at k_M_oweClause 73 = some (.ireturn, 1, 0) := m_at_of r_M_oweClause (by decide +kernel)
theorem i_M_oweClause_74 : m_at k_M_oweClause 74 = some (.aload_n 0, 1, 0) := m_at_of r_M_oweClause (by decide +kernel)
theorem i_M_oweClause_75 : m_at k_M_oweClause 75 = some (.invokevirtual 191, 3, 325) := m_at_of r_M_oweClause (by decide +kernel)
theorem i_M_oweClause_78 : m_at k_M_oweClause 78 = some (.aload_n 0, 1, 0) := m_at_of r_M_oweClause (by decide +kernel)
theorem i_M_oweClause_79 : m_at k_M_oweClause 79 = some (.iload_n 1, 1, 0) := m_at_of r_M_oweClause (by decide +kernel)
theorem i_M_oweClause_80 : m_at k_M_oweClause 80 = some (.iconst 4, 1, 0) := m_at_of r_M_oweClause (by decide +kernel)
theorem i_M_oweClause_81 : m_at k_M_oweClause 81 = some (.iadd, 1, 0) := m_at_of r_M_oweClause (by decide +kernel)
theorem i_M_oweClause_82 : m_at k_M_oweClause 82 = some (.iconst 0, 1, 0) := m_at_of r_M_oweClause (by decide +kernel)
theorem i_M_oweClause_83 : m_at k_M_oweClause 83 = some (.iconst 2, 1, 0) := m_at_of r_M_oweClause (by decide +kernel)
theorem i_M_oweClause_84 : m_at k_M_oweClause 84 = some (.invokevirtual 237, 3, 333) := m_at_of r_M_oweClause (by decide +kernel)
theorem i_M_oweClause_87 : m_at k_M_oweClause 87 = some (.istore_n 2, 1, 0) := m_at_of r_M_oweClause (by decide +kernel)
theorem i_M_oweClause_88 : m_at k_M_oweClause 88 = some (.iload_n 2, 1, 0) := m_at_of r_M_oweClause (by decide +kernel)
theorem i_M_oweClause_89 : m_at k_M_oweClause 89 = some (.ifCond .eq (7), 3, 0) := m_at_of r_M_oweClause (by decide +kernel)
theorem i_M_oweClause_92 : m_at k_M_oweClause 92 = some (.iload_n 2, 1, 0) := m_at_of r_M_oweClause (by decide +kernel)
theorem i_M_oweClause_93 : m_at k_M_oweClause 93 = some (.goto (24), 3, 0) := m_at_of r_M_oweClause (by decide +kernel)
theorem i_M_oweClause_96 : m_at k_M_oweClause 96 = some (.aload_n 0, 1, 0) := m_at_of r_M_oweClause (by decide +kernel)
theorem i_M_oweClause_97 : m_at k_M_oweClause 97 = some (.bipush 109, 2, 0) := m_at_of r_M_oweClause (by decide +kernel)
theorem i_M_oweClause_99 : m_at k_M_oweClause 99 = some (.bipush 97, 2, 0) := m_at_of r_M_oweClause (by decide +kernel)
theorem i_M_oweClause_101 : m_at k_M_oweClause 101 = some (.bipush 114, 2, 0) := m_at_of r_M_oweClause (by decide +kernel)
theorem i_M_oweClause_103 : m_at k_M_oweClause 103 = some (.bipush 107, 2, 0) := m_at_of r_M_oweClause (by decide +kernel)
theorem i_M_oweClause_105 : m_at k_M_oweClause 105 = some (.invokestatic 143, 3, 351) := m_at_of r_M_oweClause (by decide +kernel)
theorem i_M_oweClause_108 : m_at k_M_oweClause 108 = some (.iload_n 1, 1, 0) := m_at_of r_M_oweClause (by decide +kernel)
theorem i_M_oweClause_109 : m_at k_M_oweClause 109 = some (.iconst 5, 1, 0) := m_at_of r_M_oweClause (by decide +kernel)
theorem i_M_oweClause_110 : m_at k_M_oweClause 110 = some (.iadd, 1, 0) := m_at_of r_M_oweClause (by decide +kernel)
theorem i_M_oweClause_111 : m_at k_M_oweClause 111 = some (.iconst 0, 1, 0) := m_at_of r_M_oweClause (by decide +kernel)
theorem i_M_oweClause_112 : m_at k_M_oweClause 112 = some (.bipush 9, 2, 0) := m_at_of r_M_oweClause (by decide +kernel)
theorem i_M_oweClause_114 : m_at k_M_oweClause 114 = some (.invokevirtual 244, 3, 358) := m_at_of r_M_oweClause (by decide +kernel)
theorem i_M_oweClause_117 : m_at k_M_oweClause 117 = some (.ireturn, 1, 0) := m_at_of r_M_oweClause (by decide +kernel)
set_option maxRecDepth 20000 in
set_option maxHeartbeats 1000000 in
theorem E_M_oweClause (x : m_X) (s : m_H) (w : Nat) (n1 : Int32) : m_M x k_M_oweClause [.ref w, .int n1] s = if m_isO s w 11 = true then (m_bI (m_M x k_M_figure [.ref w, .int (n1 + (1 : Int32)), .int 0, .int 6] s) fun v7 s7 => if v7 = 0 then (m_bL (m_M x k_M_w2 [.int 116, .int 111] s7) fun v20 s20 => m_bI (m_M x k_M_worded [.ref w, .long v20, .int (n1 + (2 : Int32)), .int 0, .int 6] s20) fun v29 s29 => m_D x 5 k_M_oweClause 33 [some (.ref w), some (.int n1), some (.int v29)] [] s29) else m_D x 5 k_M_oweClause 33 [some (.ref w), some (.int n1), some (.int v7)] [] s7) else none := by
  refine e_M1 (L0 := [some (.ref w), some (.int n1), none]) rfl (by decide +kernel) rfl (q_M_oweClause _) rfl ?_
  refine e_aload_n i_M_oweClause_0 rfl ?_
  refine e_iload_n i_M_oweClause_1 rfl ?_
  refine e_iconst (v := 1) i_M_oweClause_2 (by decide) ?_
  refine e_iadd i_M_oweClause_3 ?_
  refine e_iconst (v := 0) i_M_oweClause_4 (by decide) ?_
  refine e_bipush (v := 6) i_M_oweClause_5 (by decide) ?_
  refine e_callI (as := [.ref w, .int (n1 + (1 : Int32)), .int 0, .int 6]) (st' := []) i_M_oweClause_7 lm_333 (Or.inr (Or.inl ⟨rfl, rfl⟩)) w_M_figure rfl rfl rfl (Nat.le_of_ble_eq_true rfl) (Nat.le_of_ble_eq_true rfl) (m_rlt (q_M_figure _) (by decide)) rfl (fun v7 s7 => ?_)
  refine e_istore_n (L' := [some (.ref w), some (.int n1), some (.int v7)]) i_M_oweClause_10 (of_decide_eq_true rfl) rfl ?_
  refine e_iload_n i_M_oweClause_11 rfl ?_
  refine e_ifne (t := 33) i_M_oweClause_12 (by decide) ?_ ?_
  · exact rfl
  · refine e_aload_n i_M_oweClause_15 rfl ?_
    refine e_bipush (v := 116) i_M_oweClause_16 (by decide) ?_
    refine e_bipush (v := 111) i_M_oweClause_18 (by decide) ?_
    refine e_callL (as := [.int 116, .int 111]) (st' := [.ref w]) i_M_oweClause_20 lm_332 (Or.inl ⟨rfl, rfl⟩) w_M_w2 rfl rfl rfl (Nat.le_of_ble_eq_true rfl) (Nat.le_of_ble_eq_true rfl) (m_rlt (q_M_w2 _) (by decide)) rfl (fun v20 s20 => ?_)
    refine e_iload_n i_M_oweClause_23 rfl ?_
    refine e_iconst (v := 2) i_M_oweClause_24 (by decide) ?_
    refine e_iadd i_M_oweClause_25 ?_
    refine e_iconst (v := 0) i_M_oweClause_26 (by decide) ?_
    refine e_bipush (v := 6) i_M_oweClause_27 (by decide) ?_
    refine e_callI (as := [.ref w, .long v20, .int (n1 + (2 : Int32)), .int 0, .int 6]) (st' := []) i_M_oweClause_29 lm_358 (Or.inr (Or.inl ⟨rfl, rfl⟩)) w_M_worded rfl rfl rfl (Nat.le_of_ble_eq_true rfl) (Nat.le_of_ble_eq_true rfl) (m_rlt (q_M_worded _) (by decide)) rfl (fun v29 s29 => ?_)
    refine e_istore_n (L' := [some (.ref w), some (.int n1), some (.int v29)]) i_M_oweClause_32 (of_decide_eq_true rfl) rfl ?_
    exact rfl
set_option maxRecDepth 20000 in
set_option maxHeartbeats 1000000 in
theorem E_M_oweClause_33 (x : m_X) (ρ : Nat) (hρ : 5 ≤ ρ) (s : m_H) (w : Nat) (n1 : Int32) (n2 : Int32)  : m_D x ρ k_M_oweClause 33 [some (.ref w), some (.int n1), some (.int n2)] [] s = if n2 = 0 then (m_bL (m_M x k_M_w4 [.int 119, .int 111, .int 114, .int 107] s) fun v46 s46 => m_bI (m_M x k_M_worded [.ref w, .long v46, .int (n1 + (3 : Int32)), .int 1, .int 99] s46) fun v55 s55 => m_D x ρ k_M_oweClause 59 [some (.ref w), some (.int n1), some (.int v55)] [] s55) else m_D x ρ k_M_oweClause 59 [some (.ref w), some (.int n1), some (.int n2)] [] s := by
  refine e_iload_n i_M_oweClause_33 rfl ?_
  refine e_ifne (t := 59) i_M_oweClause_34 (by decide) ?_ ?_
  · exact rfl
  · refine e_aload_n i_M_oweClause_37 rfl ?_
    refine e_bipush (v := 119) i_M_oweClause_38 (by decide) ?_
    refine e_bipush (v := 111) i_M_oweClause_40 (by decide) ?_
    refine e_bipush (v := 114) i_M_oweClause_42 (by decide) ?_
    refine e_bipush (v := 107) i_M_oweClause_44 (by decide) ?_
    refine e_callL (as := [.int 119, .int 111, .int 114, .int 107]) (st' := [.ref w]) i_M_oweClause_46 lm_351 (Or.inl ⟨rfl, rfl⟩) w_M_w4 rfl rfl rfl (Nat.le_of_ble_eq_true rfl) (Nat.le_of_ble_eq_true rfl) (m_rlt (q_M_w4 _) (Nat.lt_of_lt_of_le (by decide) hρ)) rfl (fun v46 s46 => ?_)
    refine e_iload_n i_M_oweClause_49 rfl ?_
    refine e_iconst (v := 3) i_M_oweClause_50 (by decide) ?_
    refine e_iadd i_M_oweClause_51 ?_
    refine e_iconst (v := 1) i_M_oweClause_52 (by decide) ?_
    refine e_bipush (v := 99) i_M_oweClause_53 (by decide) ?_
    refine e_callI (as := [.ref w, .long v46, .int (n1 + (3 : Int32)), .int 1, .int 99]) (st' := []) i_M_oweClause_55 lm_358 (Or.inr (Or.inl ⟨rfl, rfl⟩)) w_M_worded rfl rfl rfl (Nat.le_of_ble_eq_true rfl) (Nat.le_of_ble_eq_true rfl) (m_rlt (q_M_worded _) (Nat.lt_of_lt_of_le (by decide) hρ)) rfl (fun v55 s55 => ?_)
    refine e_istore_n (L' := [some (.ref w), some (.int n1), some (.int v55)]) i_M_oweClause_58 (of_decide_eq_true rfl) rfl ?_
    exact rfl
set_option maxRecDepth 20000 in
set_option maxHeartbeats 1000000 in
theorem E_M_oweClause_59 (x : m_X) (ρ : Nat) (hρ : 5 ≤ ρ) (s : m_H) (w : Nat) (n1 : Int32) (n2 : Int32)  : m_D x ρ k_M_oweClause 59 [some (.ref w), some (.int n1), some (.int n2)] [] s = if n2 = 0 then (m_bI (m_M x k_M_isLeather [.ref w] s) fun v66 s66 => if v66 = 0 then (some (some (.int 1), s66)) else m_bV (m_M x k_M_nextToken [.ref w] s66) fun s75 => m_bI (m_M x k_M_figure [.ref w, .int (n1 + (4 : Int32)), .int 0, .int 2] s75) fun v84 s84 => if v84 = 0 then (m_bL (m_M x k_M_w4 [.int 109, .int 97, .int 114, .int 107] s84) fun v105 s105 => m_bI (m_M x k_M_worded [.ref w, .long v105, .int (n1 + (5 : Int32)), .int 0, .int 9] s105) fun v114 s114 => some (some (.int v114), s114)) else some (some (.int v84), s84)) else some (some (.int n2), s) := by
  refine e_iload_n i_M_oweClause_59 rfl ?_
  refine e_ifeq (t := 65) i_M_oweClause_60 (by decide) ?_ ?_
  · refine e_aload_n i_M_oweClause_65 rfl ?_
    refine e_callI (as := [.ref w]) (st' := []) i_M_oweClause_66 lm_352 (Or.inr (Or.inl ⟨rfl, rfl⟩)) w_M_isLeather rfl rfl rfl (Nat.le_of_ble_eq_true rfl) (Nat.le_of_ble_eq_true rfl) (m_rlt (q_M_isLeather _) (Nat.lt_of_lt_of_le (by decide) hρ)) rfl (fun v66 s66 => ?_)
    refine e_ifne (t := 74) i_M_oweClause_69 (by decide) ?_ ?_
    · refine e_aload_n i_M_oweClause_74 rfl ?_
      refine e_callV (as := [.ref w]) (st' := []) i_M_oweClause_75 lm_325 (Or.inr (Or.inl ⟨rfl, rfl⟩)) w_M_nextToken rfl rfl rfl (Nat.le_of_ble_eq_true rfl) (Nat.le_of_ble_eq_true rfl) (m_rlt (q_M_nextToken _) (Nat.lt_of_lt_of_le (by decide) hρ)) rfl (fun s75 => ?_)
      refine e_aload_n i_M_oweClause_78 rfl ?_
      refine e_iload_n i_M_oweClause_79 rfl ?_
      refine e_iconst (v := 4) i_M_oweClause_80 (by decide) ?_
      refine e_iadd i_M_oweClause_81 ?_
      refine e_iconst (v := 0) i_M_oweClause_82 (by decide) ?_
      refine e_iconst (v := 2) i_M_oweClause_83 (by decide) ?_
      refine e_callI (as := [.ref w, .int (n1 + (4 : Int32)), .int 0, .int 2]) (st' := []) i_M_oweClause_84 lm_333 (Or.inr (Or.inl ⟨rfl, rfl⟩)) w_M_figure rfl rfl rfl (Nat.le_of_ble_eq_true rfl) (Nat.le_of_ble_eq_true rfl) (m_rlt (q_M_figure _) (Nat.lt_of_lt_of_le (by decide) hρ)) rfl (fun v84 s84 => ?_)
      refine e_istore_n (L' := [some (.ref w), some (.int n1), some (.int v84)]) i_M_oweClause_87 (of_decide_eq_true rfl) rfl ?_
      refine e_iload_n i_M_oweClause_88 rfl ?_
      refine e_ifeq (t := 96) i_M_oweClause_89 (by decide) ?_ ?_
      · refine e_aload_n i_M_oweClause_96 rfl ?_
        refine e_bipush (v := 109) i_M_oweClause_97 (by decide) ?_
        refine e_bipush (v := 97) i_M_oweClause_99 (by decide) ?_
        refine e_bipush (v := 114) i_M_oweClause_101 (by decide) ?_
        refine e_bipush (v := 107) i_M_oweClause_103 (by decide) ?_
        refine e_callL (as := [.int 109, .int 97, .int 114, .int 107]) (st' := [.ref w]) i_M_oweClause_105 lm_351 (Or.inl ⟨rfl, rfl⟩) w_M_w4 rfl rfl rfl (Nat.le_of_ble_eq_true rfl) (Nat.le_of_ble_eq_true rfl) (m_rlt (q_M_w4 _) (Nat.lt_of_lt_of_le (by decide) hρ)) rfl (fun v105 s105 => ?_)
        refine e_iload_n i_M_oweClause_108 rfl ?_
        refine e_iconst (v := 5) i_M_oweClause_109 (by decide) ?_
        refine e_iadd i_M_oweClause_110 ?_
        refine e_iconst (v := 0) i_M_oweClause_111 (by decide) ?_
        refine e_bipush (v := 9) i_M_oweClause_112 (by decide) ?_
        refine e_callI (as := [.ref w, .long v105, .int (n1 + (5 : Int32)), .int 0, .int 9]) (st' := []) i_M_oweClause_114 lm_358 (Or.inr (Or.inl ⟨rfl, rfl⟩)) w_M_worded rfl rfl rfl (Nat.le_of_ble_eq_true rfl) (Nat.le_of_ble_eq_true rfl) (m_rlt (q_M_worded _) (Nat.lt_of_lt_of_le (by decide) hρ)) rfl (fun v114 s114 => ?_)
        exact e_iretI i_M_oweClause_117 rfl
      · refine e_iload_n i_M_oweClause_92 rfl ?_
        refine e_goto (t := 117) i_M_oweClause_93 (by decide) ?_
        exact e_iretI i_M_oweClause_117 rfl
    · refine e_iconst (v := 1) i_M_oweClause_72 (by decide) ?_
      exact e_iretI i_M_oweClause_73 rfl
  · refine e_iload_n i_M_oweClause_63 rfl ?_
    exact e_iretI i_M_oweClause_64 rfl
theorem i_M_isLeather_0 : m_at k_M_isLeather 0 = some (.aload_n 0, 1, 0) := m_at_of r_M_isLeather (by decide +kernel)
theorem i_M_isLeather_1 : m_at k_M_isLeather 1 = some (.getfield 113, 3, 103) := m_at_of r_M_isLeather (by decide +kernel)
theorem i_M_isLeather_4 : m_at k_M_isLeather 4 = some (.iconst 2, 1, 0) := m_at_of r_M_isLeather (by decide +kernel)
theorem i_M_isLeather_5 : m_at k_M_isLeather 5 = some (.if_icmp .ne (124), 3, 0) := m_at_of r_M_isLeather (by decide +kernel)
theorem i_M_isLeather_8 : m_at k_M_isLeather 8 = some (.aload_n 0, 1, 0) := m_at_of r_M_isLeather (by decide +kernel)
theorem i_M_isLeather_9 : m_at k_M_isLeather 9 = some (.getfield 104, 3, 102) := m_at_of r_M_isLeather (by decide +kernel)
theorem i_M_isLeather_12 : m_at k_M_isLeather 12 = some (.aload_n 0, 1, 0) := m_at_of r_M_isLeather (by decide +kernel)
theorem i_M_isLeather_13 : m_at k_M_isLeather 13 = some (.getfield 110, 3, 98) := m_at_of r_M_isLeather (by decide +kernel)
theorem i_M_isLeather_16 : m_at k_M_isLeather 16 = some (.isub, 1, 0) := m_at_of r_M_isLeather (by decide +kernel)
theorem i_M_isLeather_17 : m_at k_M_isLeather 17 = some (.bipush 7, 2, 0) := m_at_of r_M_isLeather (by decide +kernel)
theorem i_M_isLeather_19 : m_at k_M_isLeather 19 = some (.if_icmp .ne (110), 3, 0) := m_at_of r_M_isLeather (by decide +kernel)
theorem i_M_isLeather_22 : m_at k_M_isLeather 22 = some (.aload_n 0, 1, 0) := m_at_of r_M_isLeather (by decide +kernel)
theorem i_M_isLeather_23 : m_at k_M_isLeather 23 = some (.aload_n 0, 1, 0) := m_at_of r_M_isLeather (by decide +kernel)
theorem i_M_isLeather_24 : m_at k_M_isLeather 24 = some (.getfield 110, 3, 98) := m_at_of r_M_isLeather (by decide +kernel)
theorem i_M_isLeather_27 : m_at k_M_isLeather 27 = some (.invokevirtual 107, 3, 359) := m_at_of r_M_isLeather (by decide +kernel)
theorem i_M_isLeather_30 : m_at k_M_isLeather 30 = some (.aload_n 0, 1, 0) := m_at_of r_M_isLeather (by decide +kernel)
theorem i_M_isLeather_31 : m_at k_M_isLeather 31 = some (.aload_n 0, 1, 0) := m_at_of r_M_isLeather (by decide +kernel)
theorem i_M_isLeather_32 : m_at k_M_isLeather 32 = some (.getfield 110, 3, 98) := m_at_of r_M_isLeather (by decide +kernel)
theorem i_M_isLeather_35 : m_at k_M_isLeather 35 = some (.iconst 1, 1, 0) := m_at_of r_M_isLeather (by decide +kernel)
theorem i_M_isLeather_36 : m_at k_M_isLeather 36 = some (.iadd, 1, 0) := m_at_of r_M_isLeather (by decide +kernel)
theorem i_M_isLeather_37 : m_at k_M_isLeather 37 = some (.invokevirtual 107, 3, 359) := m_at_of r_M_isLeather (by decide +kernel)
theorem i_M_isLeather_40 : m_at k_M_isLeather 40 = some (.aload_n 0, 1, 0) := m_at_of r_M_isLeather (by decide +kernel)
theorem i_M_isLeather_41 : m_at k_M_isLeather 41 = some (.aload_n 0, 1, 0) := m_at_of r_M_isLeather (by decide +kernel)
theorem i_M_isLeather_42 : m_at k_M_isLeather 42 = some (.getfield 110, 3, 98) := m_at_of r_M_isLeather (by decide +kernel)
theorem i_M_isLeather_45 : m_at k_M_isLeather 45 = some (.iconst 2, 1, 0) := m_at_of r_M_isLeather (by decide +kernel)
theorem i_M_isLeather_46 : m_at k_M_isLeather 46 = some (.iadd, 1, 0) := m_at_of r_M_isLeather (by decide +kernel)
theorem i_M_isLeather_47 : m_at k_M_isLeather 47 = some (.invokevirtual 107, 3, 359) := m_at_of r_M_isLeather (by decide +kernel)
theorem i_M_isLeather_50 : m_at k_M_isLeather 50 = some (.aload_n 0, 1, 0) := m_at_of r_M_isLeather (by decide +kernel)
theorem i_M_isLeather_51 : m_at k_M_isLeather 51 = some (.aload_n 0, 1, 0) := m_at_of r_M_isLeather (by decide +kernel)
theorem i_M_isLeather_52 : m_at k_M_isLeather 52 = some (.getfield 110, 3, 98) := m_at_of r_M_isLeather (by decide +kernel)
theorem i_M_isLeather_55 : m_at k_M_isLeather 55 = some (.iconst 3, 1, 0) := m_at_of r_M_isLeather (by decide +kernel)
theorem i_M_isLeather_56 : m_at k_M_isLeather 56 = some (.iadd, 1, 0) := m_at_of r_M_isLeather (by decide +kernel)
theorem i_M_isLeather_57 : m_at k_M_isLeather 57 = some (.invokevirtual 107, 3, 359) := m_at_of r_M_isLeather (by decide +kernel)
theorem i_M_isLeather_60 : m_at k_M_isLeather 60 = some (.invokestatic 143, 3, 351) := m_at_of r_M_isLeather (by decide +kernel)
theorem i_M_isLeather_63 : m_at k_M_isLeather 63 = some (.bipush 108, 2, 0) := m_at_of r_M_isLeather (by decide +kernel)
theorem i_M_isLeather_65 : m_at k_M_isLeather 65 = some (.bipush 101, 2, 0) := m_at_of r_M_isLeather (by decide +kernel)
theorem i_M_isLeather_67 : m_at k_M_isLeather 67 = some (.bipush 97, 2, 0) := m_at_of r_M_isLeather (by decide +kernel)
theorem i_M_isLeather_69 : m_at k_M_isLeather 69 = some (.bipush 116, 2, 0) := m_at_of r_M_isLeather (by decide +kernel)
theorem i_M_isLeather_71 : m_at k_M_isLeather 71 = some (.invokestatic 143, 3, 351) := m_at_of r_M_isLeather (by decide +kernel)
theorem i_M_isLeather_74 : m_at k_M_isLeather 74 = some (.lcmp, 1, 0) := m_at_of r_M_isLeather (by decide +kernel)
theorem i_M_isLeather_75 : m_at k_M_isLeather 75 = some (.ifCond .ne (54), 3, 0) := m_at_of r_M_isLeather (by decide +kernel)
theorem i_M_isLeather_78 : m_at k_M_isLeather 78 = some (.aload_n 0, 1, 0) := m_at_of r_M_isLeather (by decide +kernel)
theorem i_M_isLeather_79 : m_at k_M_isLeather 79 = some (.aload_n 0, 1, 0) := m_at_of r_M_isLeather (by decide +kernel)
theorem i_M_isLeather_80 : m_at k_M_isLeather 80 = some (.getfield 110, 3, 98) := m_at_of r_M_isLeather (by decide +kernel)
theorem i_M_isLeather_83 : m_at k_M_isLeather 83 = some (.iconst 4, 1, 0) := m_at_of r_M_isLeather (by decide +kernel)
theorem i_M_isLeather_84 : m_at k_M_isLeather 84 = some (.iadd, 1, 0) := m_at_of r_M_isLeather (by decide +kernel)
theorem i_M_isLeather_85 : m_at k_M_isLeather 85 = some (.invokevirtual 107, 3, 359) := m_at_of r_M_isLeather (by decide +kernel)
theorem i_M_isLeather_88 : m_at k_M_isLeather 88 = some (.aload_n 0, 1, 0) := m_at_of r_M_isLeather (by decide +kernel)
theorem i_M_isLeather_89 : m_at k_M_isLeather 89 = some (.aload_n 0, 1, 0) := m_at_of r_M_isLeather (by decide +kernel)
theorem i_M_isLeather_90 : m_at k_M_isLeather 90 = some (.getfield 110, 3, 98) := m_at_of r_M_isLeather (by decide +kernel)
theorem i_M_isLeather_93 : m_at k_M_isLeather 93 = some (.iconst 5, 1, 0) := m_at_of r_M_isLeather (by decide +kernel)
theorem i_M_isLeather_94 : m_at k_M_isLeather 94 = some (.iadd, 1, 0) := m_at_of r_M_isLeather (by decide +kernel)
theorem i_M_isLeather_95 : m_at k_M_isLeather 95 = some (.invokevirtual 107, 3, 359) := m_at_of r_M_isLeather (by decide +kernel)
theorem i_M_isLeather_98 : m_at k_M_isLeather 98 = some (.aload_n 0, 1, 0) := m_at_of r_M_isLeather (by decide +kernel)
theorem i_M_isLeather_99 : m_at k_M_isLeather 99 = some (.aload_n 0, 1, 0) := m_at_of r_M_isLeather (by decide +kernel)
theorem i_M_isLeather_100 : m_at k_M_isLeather 100 = some (.getfield 110, 3, 98) := m_at_of r_M_isLeather (by decide +kernel)
theorem i_M_isLeather_103 : m_at k_M_isLeather 103 = some (.bipush 6, 2, 0) := m_at_of r_M_isLeather (by decide +kernel)
theorem i_M_isLeather_105 : m_at k_M_isLeather 105 = some (.iadd, 1, 0) := m_at_of r_M_isLeather (by decide +kernel)
theorem i_M_isLeather_106 : m_at k_M_isLeather 106 = some (.invokevirtual 107, 3, 359) := m_at_of r_M_isLeather (by decide +kernel)
theorem i_M_isLeather_109 : m_at k_M_isLeather 109 = some (.invokestatic 139, 3, 347) := m_at_of r_M_isLeather (by decide +kernel)
theorem i_M_isLeather_112 : m_at k_M_isLeather 112 = some (.bipush 104, 2, 0) := m_at_of r_M_isLeather (by decide +kernel)
theorem i_M_isLeather_114 : m_at k_M_isLeather 114 = some (.bipush 101, 2, 0) := m_at_of r_M_isLeather (by decide +kernel)
theorem i_M_isLeather_116 : m_at k_M_isLeather 116 = some (.bipush 114, 2, 0) := m_at_of r_M_isLeather (by decide +kernel)
theorem i_M_isLeather_118 : m_at k_M_isLeather 118 = some (.invokestatic 139, 3, 347) := m_at_of r_M_isLeather (by decide +kernel)
theorem i_M_isLeather_121 : m_at k_M_isLeather 121 = some (.lcmp, 1, 0) := m_at_of r_M_isLeather (by decide +kernel)
theorem i_M_isLeather_122 : m_at k_M_isLeather 122 = some (.ifCond .ne (7), 3, 0) := m_at_of r_M_isLeather (by decide +kernel)
theorem i_M_isLeather_125 : m_at k_M_isLeather 125 = some (.iconst 1, 1, 0) := m_at_of r_M_isLeather (by decide +kernel)
theorem i_M_isLeather_126 : m_at k_M_isLeather 126 = some (.goto (4), 3, 0) := m_at_of r_M_isLeather (by decide +kernel)
theorem i_M_isLeather_129 : m_at k_M_isLeather 129 = some (.iconst 0, 1, 0) := m_at_of r_M_isLeather (by decide +kernel)
theorem i_M_isLeather_130 : m_at k_M_isLeather 130 = some (.ireturn, 1, 0) := m_at_of r_M_isLeather (by decide +kernel)
set_option maxRecDepth 20000 in
set_option maxHeartbeats 1000000 in
theorem E_M_isLeather (x : m_X) (s : m_H) (w : Nat) : m_M x k_M_isLeather [.ref w] s = if m_isO s w 11 = true then ((m_fI s 11 9 w).bind fun v1 => if v1 = 2 then ((m_fI s 11 7 w).bind fun v9 => (m_fI s 11 8 w).bind fun v13 => if (v9 - v13) = 7 then ((m_fI s 11 8 w).bind fun v24 => m_bI (m_M x k_M_byteAt [.ref w, .int v24] s) fun v27 s27 => (m_fI s27 11 8 w).bind fun v32 => m_bI (m_M x k_M_byteAt [.ref w, .int (v32 + (1 : Int32))] s27) fun v37 s37 => (m_fI s37 11 8 w).bind fun v42 => m_bI (m_M x k_M_byteAt [.ref w, .int (v42 + (2 : Int32))] s37) fun v47 s47 => (m_fI s47 11 8 w).bind fun v52 => m_bI (m_M x k_M_byteAt [.ref w, .int (v52 + (3 : Int32))] s47) fun v57 s57 => m_bL (m_M x k_M_w4 [.int v27, .int v37, .int v47, .int v57] s57) fun v60 s60 => m_bL (m_M x k_M_w4 [.int 108, .int 101, .int 97, .int 116] s60) fun v71 s71 => if v60 = v71 then ((m_fI s71 11 8 w).bind fun v80 => m_bI (m_M x k_M_byteAt [.ref w, .int (v80 + (4 : Int32))] s71) fun v85 s85 => (m_fI s85 11 8 w).bind fun v90 => m_bI (m_M x k_M_byteAt [.ref w, .int (v90 + (5 : Int32))] s85) fun v95 s95 => (m_fI s95 11 8 w).bind fun v100 => m_bI (m_M x k_M_byteAt [.ref w, .int (v100 + (6 : Int32))] s95) fun v106 s106 => m_bL (m_M x k_M_w3 [.int v85, .int v95, .int v106] s106) fun v109 s109 => m_bL (m_M x k_M_w3 [.int 104, .int 101, .int 114] s109) fun v118 s118 => if v109 = v118 then (some (some (.int 1), s118)) else some (some (.int 0), s118)) else some (some (.int 0), s71)) else some (some (.int 0), s)) else some (some (.int 0), s)) else none := by
  refine e_M1 (L0 := [some (.ref w)]) rfl (by decide +kernel) rfl (q_M_isLeather _) rfl ?_
  refine e_aload_n i_M_isLeather_0 rfl ?_
  refine e_getI i_M_isLeather_1 lf_103 (by decide) (Or.inl ft_11_9) (fun v1 => ?_)
  refine e_iconst (v := 2) i_M_isLeather_4 (by decide) ?_
  refine e_icmpne (t := 129) i_M_isLeather_5 (by decide) ?_ ?_
  · refine e_iconst (v := 0) i_M_isLeather_129 (by decide) ?_
    exact e_iretZ i_M_isLeather_130 rfl (by decide)
  · refine e_aload_n i_M_isLeather_8 rfl ?_
    refine e_getI i_M_isLeather_9 lf_102 (by decide) (Or.inl ft_11_7) (fun v9 => ?_)
    refine e_aload_n i_M_isLeather_12 rfl ?_
    refine e_getI i_M_isLeather_13 lf_98 (by decide) (Or.inl ft_11_8) (fun v13 => ?_)
    refine e_isub i_M_isLeather_16 ?_
    refine e_bipush (v := 7) i_M_isLeather_17 (by decide) ?_
    refine e_icmpne (t := 129) i_M_isLeather_19 (by decide) ?_ ?_
    · refine e_iconst (v := 0) i_M_isLeather_129 (by decide) ?_
      exact e_iretZ i_M_isLeather_130 rfl (by decide)
    · refine e_aload_n i_M_isLeather_22 rfl ?_
      refine e_aload_n i_M_isLeather_23 rfl ?_
      refine e_getI i_M_isLeather_24 lf_98 (by decide) (Or.inl ft_11_8) (fun v24 => ?_)
      refine e_callI (as := [.ref w, .int v24]) (st' := []) i_M_isLeather_27 lm_359 (Or.inr (Or.inl ⟨rfl, rfl⟩)) w_M_byteAt rfl rfl rfl (Nat.le_of_ble_eq_true rfl) (Nat.le_of_ble_eq_true rfl) (m_rlt (q_M_byteAt _) (by decide)) rfl (fun v27 s27 => ?_)
      refine e_aload_n i_M_isLeather_30 rfl ?_
      refine e_aload_n i_M_isLeather_31 rfl ?_
      refine e_getI i_M_isLeather_32 lf_98 (by decide) (Or.inl ft_11_8) (fun v32 => ?_)
      refine e_iconst (v := 1) i_M_isLeather_35 (by decide) ?_
      refine e_iadd i_M_isLeather_36 ?_
      refine e_callI (as := [.ref w, .int (v32 + (1 : Int32))]) (st' := [.int v27]) i_M_isLeather_37 lm_359 (Or.inr (Or.inl ⟨rfl, rfl⟩)) w_M_byteAt rfl rfl rfl (Nat.le_of_ble_eq_true rfl) (Nat.le_of_ble_eq_true rfl) (m_rlt (q_M_byteAt _) (by decide)) rfl (fun v37 s37 => ?_)
      refine e_aload_n i_M_isLeather_40 rfl ?_
      refine e_aload_n i_M_isLeather_41 rfl ?_
      refine e_getI i_M_isLeather_42 lf_98 (by decide) (Or.inl ft_11_8) (fun v42 => ?_)
      refine e_iconst (v := 2) i_M_isLeather_45 (by decide) ?_
      refine e_iadd i_M_isLeather_46 ?_
      refine e_callI (as := [.ref w, .int (v42 + (2 : Int32))]) (st' := [.int v37, .int v27]) i_M_isLeather_47 lm_359 (Or.inr (Or.inl ⟨rfl, rfl⟩)) w_M_byteAt rfl rfl rfl (Nat.le_of_ble_eq_true rfl) (Nat.le_of_ble_eq_true rfl) (m_rlt (q_M_byteAt _) (by decide)) rfl (fun v47 s47 => ?_)
      refine e_aload_n i_M_isLeather_50 rfl ?_
      refine e_aload_n i_M_isLeather_51 rfl ?_
      refine e_getI i_M_isLeather_52 lf_98 (by decide) (Or.inl ft_11_8) (fun v52 => ?_)
      refine e_iconst (v := 3) i_M_isLeather_55 (by decide) ?_
      refine e_iadd i_M_isLeather_56 ?_
      refine e_callI (as := [.ref w, .int (v52 + (3 : Int32))]) (st' := [.int v47, .int v37, .int v27]) i_M_isLeather_57 lm_359 (Or.inr (Or.inl ⟨rfl, rfl⟩)) w_M_byteAt rfl rfl rfl (Nat.le_of_ble_eq_true rfl) (Nat.le_of_ble_eq_true rfl) (m_rlt (q_M_byteAt _) (by decide)) rfl (fun v57 s57 => ?_)
      refine e_callL (as := [.int v27, .int v37, .int v47, .int v57]) (st' := []) i_M_isLeather_60 lm_351 (Or.inl ⟨rfl, rfl⟩) w_M_w4 rfl rfl rfl (Nat.le_of_ble_eq_true rfl) (Nat.le_of_ble_eq_true rfl) (m_rlt (q_M_w4 _) (by decide)) rfl (fun v60 s60 => ?_)
      refine e_bipush (v := 108) i_M_isLeather_63 (by decide) ?_
      refine e_bipush (v := 101) i_M_isLeather_65 (by decide) ?_
      refine e_bipush (v := 97) i_M_isLeather_67 (by decide) ?_
      refine e_bipush (v := 116) i_M_isLeather_69 (by decide) ?_
      refine e_callL (as := [.int 108, .int 101, .int 97, .int 116]) (st' := [.long v60]) i_M_isLeather_71 lm_351 (Or.inl ⟨rfl, rfl⟩) w_M_w4 rfl rfl rfl (Nat.le_of_ble_eq_true rfl) (Nat.le_of_ble_eq_true rfl) (m_rlt (q_M_w4 _) (by decide)) rfl (fun v71 s71 => ?_)
      refine e_lcmpne (t := 129) i_M_isLeather_74 i_M_isLeather_75 (by decide) ?_ ?_
      · refine e_iconst (v := 0) i_M_isLeather_129 (by decide) ?_
        exact e_iretZ i_M_isLeather_130 rfl (by decide)
      · refine e_aload_n i_M_isLeather_78 rfl ?_
        refine e_aload_n i_M_isLeather_79 rfl ?_
        refine e_getI i_M_isLeather_80 lf_98 (by decide) (Or.inl ft_11_8) (fun v80 => ?_)
        refine e_iconst (v := 4) i_M_isLeather_83 (by decide) ?_
        refine e_iadd i_M_isLeather_84 ?_
        refine e_callI (as := [.ref w, .int (v80 + (4 : Int32))]) (st' := []) i_M_isLeather_85 lm_359 (Or.inr (Or.inl ⟨rfl, rfl⟩)) w_M_byteAt rfl rfl rfl (Nat.le_of_ble_eq_true rfl) (Nat.le_of_ble_eq_true rfl) (m_rlt (q_M_byteAt _) (by decide)) rfl (fun v85 s85 => ?_)
        refine e_aload_n i_M_isLeather_88 rfl ?_
        refine e_aload_n i_M_isLeather_89 rfl ?_
        refine e_getI i_M_isLeather_90 lf_98 (by decide) (Or.inl ft_11_8) (fun v90 => ?_)
        refine e_iconst (v := 5) i_M_isLeather_93 (by decide) ?_
        refine e_iadd i_M_isLeather_94 ?_
        refine e_callI (as := [.ref w, .int (v90 + (5 : Int32))]) (st' := [.int v85]) i_M_isLeather_95 lm_359 (Or.inr (Or.inl ⟨rfl, rfl⟩)) w_M_byteAt rfl rfl rfl (Nat.le_of_ble_eq_true rfl) (Nat.le_of_ble_eq_true rfl) (m_rlt (q_M_byteAt _) (by decide)) rfl (fun v95 s95 => ?_)
        refine e_aload_n i_M_isLeather_98 rfl ?_
        refine e_aload_n i_M_isLeather_99 rfl ?_
        refine e_getI i_M_isLeather_100 lf_98 (by decide) (Or.inl ft_11_8) (fun v100 => ?_)
        refine e_bipush (v := 6) i_M_isLeather_103 (by decide) ?_
        refine e_iadd i_M_isLeather_105 ?_
        refine e_callI (as := [.ref w, .int (v100 + (6 : Int32))]) (st' := [.int v95, .int v85]) i_M_isLeather_106 lm_359 (Or.inr (Or.inl ⟨rfl, rfl⟩)) w_M_byteAt rfl rfl rfl (Nat.le_of_ble_eq_true rfl) (Nat.le_of_ble_eq_true rfl) (m_rlt (q_M_byteAt _) (by decide)) rfl (fun v106 s106 => ?_)
        refine e_callL (as := [.int v85, .int v95, .int v106]) (st' := []) i_M_isLeather_109 lm_347 (Or.inl ⟨rfl, rfl⟩) w_M_w3 rfl rfl rfl (Nat.le_of_ble_eq_true rfl) (Nat.le_of_ble_eq_true rfl) (m_rlt (q_M_w3 _) (by decide)) rfl (fun v109 s109 => ?_)
        refine e_bipush (v := 104) i_M_isLeather_112 (by decide) ?_
        refine e_bipush (v := 101) i_M_isLeather_114 (by decide) ?_
        refine e_bipush (v := 114) i_M_isLeather_116 (by decide) ?_
        refine e_callL (as := [.int 104, .int 101, .int 114]) (st' := [.long v109]) i_M_isLeather_118 lm_347 (Or.inl ⟨rfl, rfl⟩) w_M_w3 rfl rfl rfl (Nat.le_of_ble_eq_true rfl) (Nat.le_of_ble_eq_true rfl) (m_rlt (q_M_w3 _) (by decide)) rfl (fun v118 s118 => ?_)
        refine e_lcmpne (t := 129) i_M_isLeather_121 i_M_isLeather_122 (by decide) ?_ ?_
        · refine e_iconst (v := 0) i_M_isLeather_129 (by decide) ?_
          exact e_iretZ i_M_isLeather_130 rfl (by decide)
        · refine e_iconst (v := 1) i_M_isLeather_125 (by decide) ?_
          refine e_goto (t := 130) i_M_isLeather_126 (by decide) ?_
          exact e_iretZ i_M_isLeather_130 rfl (by decide)
theorem i_M_pair_0 : m_at k_M_pair 0 = some (.aload_n 0, 1, 0) := m_at_of r_M_pair (by decide +kernel)
theorem i_M_pair_1 : m_at k_M_pair 1 = some (.iload_n 1, 1, 0) := m_at_of r_M_pair (by decide +kernel)
theorem i_M_pair_2 : m_at k_M_pair 2 = some (.iconst 1, 1, 0) := m_at_of r_M_pair (by decide +kernel)
theorem i_M_pair_3 : m_at k_M_pair 3 = some (.iadd, 1, 0) := m_at_of r_M_pair (by decide +kernel)
theorem i_M_pair_4 : m_at k_M_pair 4 = some (.iload_n 2, 1, 0) := m_at_of r_M_pair (by decide +kernel)
theorem i_M_pair_5 : m_at k_M_pair 5 = some (.iload_n 3, 1, 0) := m_at_of r_M_pair (by decide +kernel)
theorem i_M_pair_6 : m_at k_M_pair 6 = some (.invokevirtual 237, 3, 333) := m_at_of r_M_pair (by decide +kernel)
theorem i_M_pair_9 : m_at k_M_pair 9 = some (.istore 8, 2, 0) := m_at_of r_M_pair (by decide +kernel)
theorem i_M_pair_11 : m_at k_M_pair 11 = some (.iload 8, 2, 0) := m_at_of r_M_pair (by decide +kernel)
theorem i_M_pair_13 : m_at k_M_pair 13 = some (.ifCond .eq (8), 3, 0) := m_at_of r_M_pair (by decide +kernel)
theorem i_M_pair_16 : m_at k_M_pair 16 = some (.iload 8, 2, 0) := m_at_of r_M_pair (by decide +kernel)
theorem i_M_pair_18 : m_at k_M_pair 18 = some (.goto (16), 3, 0) := m_at_of r_M_pair (by decide +kernel)
theorem i_M_pair_21 : m_at k_M_pair 21 = some (.aload_n 0, 1, 0) := m_at_of r_M_pair (by decide +kernel)
theorem i_M_pair_22 : m_at k_M_pair 22 = some (.lload 4, 2, 0) := m_at_of r_M_pair (by decide +kernel)
theorem i_M_pair_24 : m_at k_M_pair 24 = some (.iload_n 1, 1, 0) := m_at_of r_M_pair (by decide +kernel)
theorem i_M_pair_25 : m_at k_M_pair 25 = some (.iconst 2, 1, 0) := m_at_of r_M_pair (by decide +kernel)
theorem i_M_pair_26 : m_at k_M_pair 26 = some (.iadd, 1, 0) := m_at_of r_M_pair (by decide +kernel)
theorem i_M_pair_27 : m_at k_M_pair 27 = some (.iload 6, 2, 0) := m_at_of r_M_pair (by decide +kernel)
theorem i_M_pair_29 : m_at k_M_pair 29 = some (.iload 7, 2, 0) := m_at_of r_M_pair (by decide +kernel)
theorem i_M_pair_31 : m_at k_M_pair 31 = some (.invokevirtual 244, 3, 358) := m_at_of r_M_pair (by decide +kernel)
theorem i_M_pair_34 : m_at k_M_pair 34 = some (.ireturn, 1, 0) := m_at_of r_M_pair (by decide +kernel)
set_option maxRecDepth 20000 in
set_option maxHeartbeats 1000000 in
theorem E_M_pair (x : m_X) (s : m_H) (w : Nat) (n1 : Int32) (n2 : Int32) (n3 : Int32) (l4 : Int64) (n6 : Int32) (n7 : Int32) : m_M x k_M_pair [.ref w, .int n1, .int n2, .int n3, .long l4, .int n6, .int n7] s = if m_isO s w 11 = true then (m_bI (m_M x k_M_figure [.ref w, .int (n1 + (1 : Int32)), .int n2, .int n3] s) fun v6 s6 => if v6 = 0 then (m_bI (m_M x k_M_worded [.ref w, .long l4, .int (n1 + (2 : Int32)), .int n6, .int n7] s6) fun v31 s31 => some (some (.int v31), s31)) else some (some (.int v6), s6)) else none := by
  refine e_M1 (L0 := [some (.ref w), some (.int n1), some (.int n2), some (.int n3), some (.long l4), none, some (.int n6), some (.int n7), none]) rfl (by decide +kernel) rfl (q_M_pair _) rfl ?_
  refine e_aload_n i_M_pair_0 rfl ?_
  refine e_iload_n i_M_pair_1 rfl ?_
  refine e_iconst (v := 1) i_M_pair_2 (by decide) ?_
  refine e_iadd i_M_pair_3 ?_
  refine e_iload_n i_M_pair_4 rfl ?_
  refine e_iload_n i_M_pair_5 rfl ?_
  refine e_callI (as := [.ref w, .int (n1 + (1 : Int32)), .int n2, .int n3]) (st' := []) i_M_pair_6 lm_333 (Or.inr (Or.inl ⟨rfl, rfl⟩)) w_M_figure rfl rfl rfl (Nat.le_of_ble_eq_true rfl) (Nat.le_of_ble_eq_true rfl) (m_rlt (q_M_figure _) (by decide)) rfl (fun v6 s6 => ?_)
  refine e_istore (L' := [some (.ref w), some (.int n1), some (.int n2), some (.int n3), some (.long l4), none, some (.int n6), some (.int n7), some (.int v6)]) i_M_pair_9 (of_decide_eq_true rfl) rfl ?_
  refine e_iload i_M_pair_11 rfl ?_
  refine e_ifeq (t := 21) i_M_pair_13 (by decide) ?_ ?_
  · refine e_aload_n i_M_pair_21 rfl ?_
    refine e_lload i_M_pair_22 rfl ?_
    refine e_iload_n i_M_pair_24 rfl ?_
    refine e_iconst (v := 2) i_M_pair_25 (by decide) ?_
    refine e_iadd i_M_pair_26 ?_
    refine e_iload i_M_pair_27 rfl ?_
    refine e_iload i_M_pair_29 rfl ?_
    refine e_callI (as := [.ref w, .long l4, .int (n1 + (2 : Int32)), .int n6, .int n7]) (st' := []) i_M_pair_31 lm_358 (Or.inr (Or.inl ⟨rfl, rfl⟩)) w_M_worded rfl rfl rfl (Nat.le_of_ble_eq_true rfl) (Nat.le_of_ble_eq_true rfl) (m_rlt (q_M_worded _) (by decide)) rfl (fun v31 s31 => ?_)
    exact e_iretI i_M_pair_34 rfl
  · refine e_iload i_M_pair_16 rfl ?_
    refine e_goto (t := 34) i_M_pair_18 (by decide) ?_
    exact e_iretI i_M_pair_34 rfl
theorem i_M_worded_0 : m_at k_M_worded 0 = some (.aload_n 0, 1, 0) := m_at_of r_M_worded (by decide +kernel)
theorem i_M_worded_1 : m_at k_M_worded 1 = some (.lload_n 1, 1, 0) := m_at_of r_M_worded (by decide +kernel)
theorem i_M_worded_2 : m_at k_M_worded 2 = some (.invokevirtual 206, 3, 346) := m_at_of r_M_worded (by decide +kernel)
theorem i_M_worded_5 : m_at k_M_worded 5 = some (.ifCond .ne (5), 3, 0) := m_at_of r_M_worded (by decide +kernel)
theorem i_M_worded_8 : m_at k_M_worded 8 = some (.iconst 1, 1, 0) := m_at_of r_M_worded (by decide +kernel)
theorem i_M_worded_9 : m_at k_M_worded 9 = some (.ireturn, 1, 0) := m_at_of r_M_worded (by decide +kernel)
theorem i_M_worded_10 : m_at k_M_worded 10 = some (.aload_n 0, 1, 0) := m_at_of r_M_worded (by decide +kernel)
theorem i_M_worded_11 : m_at k_M_worded 11 = some (.invokevirtual 191, 3, 325) := m_at_of r_M_worded (by decide +kernel)
theorem i_M_worded_14 : m_at k_M_worded 14 = some (.aload_n 0, 1, 0) := m_at_of r_M_worded (by decide +kernel)
theorem i_M_worded_15 : m_at k_M_worded 15 = some (.iload_n 3, 1, 0) := m_at_of r_M_worded (by decide +kernel)
theorem i_M_worded_16 : m_at k_M_worded 16 = some (.iload 4, 2, 0) := m_at_of r_M_worded (by decide +kernel)
theorem i_M_worded_18 : m_at k_M_worded 18 = some (.iload 5, 2, 0) := m_at_of r_M_worded (by decide +kernel)
theorem i_M_worded_20 : m_at k_M_worded 20 = some (.invokevirtual 237, 3, 333) := m_at_of r_M_worded (by decide +kernel)
theorem i_M_worded_23 : m_at k_M_worded 23 = some (.ireturn, 1, 0) := m_at_of r_M_worded (by decide +kernel)
set_option maxRecDepth 20000 in
set_option maxHeartbeats 1000000 in
theorem E_M_worded (x : m_X) (s : m_H) (w : Nat) (l1 : Int64) (n3 : Int32) (n4 : Int32) (n5 : Int32) : m_M x k_M_worded [.ref w, .long l1, .int n3, .int n4, .int n5] s = if m_isO s w 11 = true then (m_bI (m_M x k_M_isWord [.ref w, .long l1] s) fun v2 s2 => if v2 = 0 then (some (some (.int 1), s2)) else m_bV (m_M x k_M_nextToken [.ref w] s2) fun s11 => m_bI (m_M x k_M_figure [.ref w, .int n3, .int n4, .int n5] s11) fun v20 s20 => some (some (.int v20), s20)) else none := by
  refine e_M1 (L0 := [some (.ref w), some (.long l1), none, some (.int n3), some (.int n4), some (.int n5)]) rfl (by decide +kernel) rfl (q_M_worded _) rfl ?_
  refine e_aload_n i_M_worded_0 rfl ?_
  refine e_lload_n i_M_worded_1 rfl ?_
  refine e_callI (as := [.ref w, .long l1]) (st' := []) i_M_worded_2 lm_346 (Or.inr (Or.inl ⟨rfl, rfl⟩)) w_M_isWord rfl rfl rfl (Nat.le_of_ble_eq_true rfl) (Nat.le_of_ble_eq_true rfl) (m_rlt (q_M_isWord _) (by decide)) rfl (fun v2 s2 => ?_)
  refine e_ifne (t := 10) i_M_worded_5 (by decide) ?_ ?_
  · refine e_aload_n i_M_worded_10 rfl ?_
    refine e_callV (as := [.ref w]) (st' := []) i_M_worded_11 lm_325 (Or.inr (Or.inl ⟨rfl, rfl⟩)) w_M_nextToken rfl rfl rfl (Nat.le_of_ble_eq_true rfl) (Nat.le_of_ble_eq_true rfl) (m_rlt (q_M_nextToken _) (by decide)) rfl (fun s11 => ?_)
    refine e_aload_n i_M_worded_14 rfl ?_
    refine e_iload_n i_M_worded_15 rfl ?_
    refine e_iload i_M_worded_16 rfl ?_
    refine e_iload i_M_worded_18 rfl ?_
    refine e_callI (as := [.ref w, .int n3, .int n4, .int n5]) (st' := []) i_M_worded_20 lm_333 (Or.inr (Or.inl ⟨rfl, rfl⟩)) w_M_figure rfl rfl rfl (Nat.le_of_ble_eq_true rfl) (Nat.le_of_ble_eq_true rfl) (m_rlt (q_M_figure _) (by decide)) rfl (fun v20 s20 => ?_)
    exact e_iretI i_M_worded_23 rfl
  · refine e_iconst (v := 1) i_M_worded_8 (by decide) ?_
    exact e_iretI i_M_worded_9 rfl
theorem i_M_figure_0 : m_at k_M_figure 0 = some (.aload_n 0, 1, 0) := m_at_of r_M_figure (by decide +kernel)
theorem i_M_figure_1 : m_at k_M_figure 1 = some (.getfield 113, 3, 103) := m_at_of r_M_figure (by decide +kernel)
theorem i_M_figure_4 : m_at k_M_figure 4 = some (.iconst 1, 1, 0) := m_at_of r_M_figure (by decide +kernel)
theorem i_M_figure_5 : m_at k_M_figure 5 = some (.if_icmp .eq (5), 3, 0) := m_at_of r_M_figure (by decide +kernel)
theorem i_M_figure_8 : m_at k_M_figure 8 = some (.iconst 1, 1, 0) := m_at_of r_M_figure (by decide +kernel)
theorem i_M_figure_9 : m_at k_M_figure 9 = some (.ireturn, 1, 0) := m_at_of r_M_figure (by decide +kernel)
theorem i_M_figure_10 : m_at k_M_figure 10 = some (.aload_n 0, 1, 0) := m_at_of r_M_figure (by decide +kernel)
theorem i_M_figure_11 : m_at k_M_figure 11 = some (.getfield 119, 3, 108) := m_at_of r_M_figure (by decide +kernel)
theorem i_M_figure_14 : m_at k_M_figure 14 = some (.iload_n 2, 1, 0) := m_at_of r_M_figure (by decide +kernel)
theorem i_M_figure_15 : m_at k_M_figure 15 = some (.iload_n 3, 1, 0) := m_at_of r_M_figure (by decide +kernel)
theorem i_M_figure_16 : m_at k_M_figure 16 = some (.invokestatic 81, 3, 96) := m_at_of r_M_figure (by decide +kernel)
theorem i_M_figure_19 : m_at k_M_figure 19 = some (.ifCond .ne (5), 3, 0) := m_at_of r_M_figure (by decide +kernel)
theorem i_M_figure_22 : m_at k_M_figure 22 = some (.iconst 2, 1, 0) := m_at_of r_M_figure (by decide +kernel)
theorem i_M_figure_23 : m_at k_M_figure 23 = some (.ireturn, 1, 0) := m_at_of r_M_figure (by decide +kernel)
theorem i_M_figure_24 : m_at k_M_figure 24 = some (.aload_n 0, 1, 0) := m_at_of r_M_figure (by decide +kernel)
theorem i_M_figure_25 : m_at k_M_figure 25 = some (.getfield 16, 3, 79) := m_at_of r_M_figure (by decide +kernel)
theorem i_M_figure_28 : m_at k_M_figure 28 = some (.iload_n 1, 1, 0) := m_at_of r_M_figure (by decide +kernel)
theorem i_M_figure_29 : m_at k_M_figure 29 = some (.aload_n 0, 1, 0) := m_at_of r_M_figure (by decide +kernel)
theorem i_M_figure_30 : m_at k_M_figure 30 = some (.getfield 119, 3, 108) := m_at_of r_M_figure (by decide +kernel)
theorem i_M_figure_33 : m_at k_M_figure 33 = some (.iastore, 1, 0) := m_at_of r_M_figure (by decide +kernel)
theorem i_M_figure_34 : m_at k_M_figure 34 = some (.aload_n 0, 1, 0) := m_at_of r_M_figure (by decide +kernel)
theorem i_M_figure_35 : m_at k_M_figure 35 = some (.invokevirtual 191, 3, 325) := m_at_of r_M_figure (by decide +kernel)
theorem i_M_figure_38 : m_at k_M_figure 38 = some (.iconst 0, 1, 0) := m_at_of r_M_figure (by decide +kernel)
theorem i_M_figure_39 : m_at k_M_figure 39 = some (.ireturn, 1, 0) := m_at_of r_M_figure (by decide +kernel)
set_option maxRecDepth 20000 in
set_option maxHeartbeats 1000000 in
theorem E_M_figure (x : m_X) (s : m_H) (w : Nat) (n1 : Int32) (n2 : Int32) (n3 : Int32) : m_M x k_M_figure [.ref w, .int n1, .int n2, .int n3] s = if m_isO s w 11 = true then ((m_fI s 11 9 w).bind fun v1 => if v1 = 1 then ((m_fI s 11 10 w).bind fun v11 => m_bI (m_M x k_M_isIn [.int v11, .int n2, .int n3] s) fun v16 s16 => if v16 = 0 then (some (some (.int 2), s16)) else (m_fR s16 11 2 w).bind fun v25 => (m_fI s16 11 10 w).bind fun v30 => (m_is s16 v25 n1 v30).bind fun s33 => m_bV (m_M x k_M_nextToken [.ref w] s33) fun s35 => some (some (.int 0), s35)) else some (some (.int 1), s)) else none := by
  refine e_M1 (L0 := [some (.ref w), some (.int n1), some (.int n2), some (.int n3)]) rfl (by decide +kernel) rfl (q_M_figure _) rfl ?_
  refine e_aload_n i_M_figure_0 rfl ?_
  refine e_getI i_M_figure_1 lf_103 (by decide) (Or.inl ft_11_9) (fun v1 => ?_)
  refine e_iconst (v := 1) i_M_figure_4 (by decide) ?_
  refine e_icmpeq (t := 10) i_M_figure_5 (by decide) ?_ ?_
  · refine e_aload_n i_M_figure_10 rfl ?_
    refine e_getI i_M_figure_11 lf_108 (by decide) (Or.inl ft_11_10) (fun v11 => ?_)
    refine e_iload_n i_M_figure_14 rfl ?_
    refine e_iload_n i_M_figure_15 rfl ?_
    refine e_callI (as := [.int v11, .int n2, .int n3]) (st' := []) i_M_figure_16 lm_96 (Or.inl ⟨rfl, rfl⟩) w_M_isIn rfl rfl rfl (Nat.le_of_ble_eq_true rfl) (Nat.le_of_ble_eq_true rfl) (m_rlt (q_M_isIn _) (by decide)) rfl (fun v16 s16 => ?_)
    refine e_ifne (t := 24) i_M_figure_19 (by decide) ?_ ?_
    · refine e_aload_n i_M_figure_24 rfl ?_
      refine e_getR i_M_figure_25 lf_79 (by decide) ft_11_2 (fun v25 => ?_)
      refine e_iload_n i_M_figure_28 rfl ?_
      refine e_aload_n i_M_figure_29 rfl ?_
      refine e_getI i_M_figure_30 lf_108 (by decide) (Or.inl ft_11_10) (fun v30 => ?_)
      refine e_iast i_M_figure_33 (fun s33 => ?_)
      refine e_aload_n i_M_figure_34 rfl ?_
      refine e_callV (as := [.ref w]) (st' := []) i_M_figure_35 lm_325 (Or.inr (Or.inl ⟨rfl, rfl⟩)) w_M_nextToken rfl rfl rfl (Nat.le_of_ble_eq_true rfl) (Nat.le_of_ble_eq_true rfl) (m_rlt (q_M_nextToken _) (by decide)) rfl (fun s35 => ?_)
      refine e_iconst (v := 0) i_M_figure_38 (by decide) ?_
      exact e_iretI i_M_figure_39 rfl
    · refine e_iconst (v := 2) i_M_figure_22 (by decide) ?_
      exact e_iretI i_M_figure_23 rfl
  · refine e_iconst (v := 1) i_M_figure_8 (by decide) ?_
    exact e_iretI i_M_figure_9 rfl
theorem i_M_has_0 : m_at k_M_has 0 = some (.iload_n 0, 1, 0) := m_at_of r_M_has (by decide +kernel)
theorem i_M_has_1 : m_at k_M_has 1 = some (.iload_n 1, 1, 0) := m_at_of r_M_has (by decide +kernel)
theorem i_M_has_2 : m_at k_M_has 2 = some (.ishr, 1, 0) := m_at_of r_M_has (by decide +kernel)
theorem i_M_has_3 : m_at k_M_has 3 = some (.iconst 1, 1, 0) := m_at_of r_M_has (by decide +kernel)
theorem i_M_has_4 : m_at k_M_has 4 = some (.iand, 1, 0) := m_at_of r_M_has (by decide +kernel)
theorem i_M_has_5 : m_at k_M_has 5 = some (.iconst 1, 1, 0) := m_at_of r_M_has (by decide +kernel)
theorem i_M_has_6 : m_at k_M_has 6 = some (.if_icmp .ne (7), 3, 0) := m_at_of r_M_has (by decide +kernel)
theorem i_M_has_9 : m_at k_M_has 9 = some (.iconst 1, 1, 0) := m_at_of r_M_has (by decide +kernel)
theorem i_M_has_10 : m_at k_M_has 10 = some (.goto (4), 3, 0) := m_at_of r_M_has (by decide +kernel)
theorem i_M_has_13 : m_at k_M_has 13 = some (.iconst 0, 1, 0) := m_at_of r_M_has (by decide +kernel)
theorem i_M_has_14 : m_at k_M_has 14 = some (.ireturn, 1, 0) := m_at_of r_M_has (by decide +kernel)
set_option maxRecDepth 20000 in
set_option maxHeartbeats 1000000 in
theorem E_M_has (x : m_X) (s : m_H) (n0 : Int32) (n1 : Int32) : m_M x k_M_has [.int n0, .int n1] s = if ((n0 >>> (n1 &&& (31 : Int32))) &&& (1 : Int32)) = 1 then (some (some (.int 1), s)) else some (some (.int 0), s) := by
  refine e_M0 (L0 := [some (.int n0), some (.int n1)]) rfl (q_M_has _) rfl ?_
  refine e_iload_n i_M_has_0 rfl ?_
  refine e_iload_n i_M_has_1 rfl ?_
  refine e_ishr i_M_has_2 ?_
  refine e_iconst (v := 1) i_M_has_3 (by decide) ?_
  refine e_iand i_M_has_4 ?_
  refine e_iconst (v := 1) i_M_has_5 (by decide) ?_
  refine e_icmpne (t := 13) i_M_has_6 (by decide) ?_ ?_
  · refine e_iconst (v := 0) i_M_has_13 (by decide) ?_
    exact e_iretZ i_M_has_14 rfl (by decide)
  · refine e_iconst (v := 1) i_M_has_9 (by decide) ?_
    refine e_goto (t := 14) i_M_has_10 (by decide) ?_
    exact e_iretZ i_M_has_14 rfl (by decide)
theorem i_M_sortOf_0 : m_at k_M_sortOf 0 = some (.aload_n 0, 1, 0) := m_at_of r_M_sortOf (by decide +kernel)
theorem i_M_sortOf_1 : m_at k_M_sortOf 1 = some (.bipush 99, 2, 0) := m_at_of r_M_sortOf (by decide +kernel)
theorem i_M_sortOf_3 : m_at k_M_sortOf 3 = some (.bipush 104, 2, 0) := m_at_of r_M_sortOf (by decide +kernel)
theorem i_M_sortOf_5 : m_at k_M_sortOf 5 = some (.bipush 105, 2, 0) := m_at_of r_M_sortOf (by decide +kernel)
theorem i_M_sortOf_7 : m_at k_M_sortOf 7 = some (.bipush 108, 2, 0) := m_at_of r_M_sortOf (by decide +kernel)
theorem i_M_sortOf_9 : m_at k_M_sortOf 9 = some (.bipush 108, 2, 0) := m_at_of r_M_sortOf (by decide +kernel)
theorem i_M_sortOf_11 : m_at k_M_sortOf 11 = some (.invokestatic 147, 3, 329) := m_at_of r_M_sortOf (by decide +kernel)
theorem i_M_sortOf_14 : m_at k_M_sortOf 14 = some (.invokevirtual 206, 3, 346) := m_at_of r_M_sortOf (by decide +kernel)
theorem i_M_sortOf_17 : m_at k_M_sortOf 17 = some (.ifCond .eq (5), 3, 0) := m_at_of r_M_sortOf (by decide +kernel)
theorem i_M_sortOf_20 : m_at k_M_sortOf 20 = some (.iconst 0, 1, 0) := m_at_of r_M_sortOf (by decide +kernel)
theorem i_M_sortOf_21 : m_at k_M_sortOf 21 = some (.ireturn, 1, 0) := m_at_of r_M_sortOf (by decide +kernel)
theorem i_M_sortOf_22 : m_at k_M_sortOf 22 = some (.aload_n 0, 1, 0) := m_at_of r_M_sortOf (by decide +kernel)
theorem i_M_sortOf_23 : m_at k_M_sortOf 23 = some (.bipush 102, 2, 0) := m_at_of r_M_sortOf (by decide +kernel)
theorem i_M_sortOf_25 : m_at k_M_sortOf 25 = some (.bipush 105, 2, 0) := m_at_of r_M_sortOf (by decide +kernel)
theorem i_M_sortOf_27 : m_at k_M_sortOf 27 = some (.bipush 110, 2, 0) := m_at_of r_M_sortOf (by decide +kernel)
theorem i_M_sortOf_29 : m_at k_M_sortOf 29 = some (.bipush 101, 2, 0) := m_at_of r_M_sortOf (by decide +kernel)
theorem i_M_sortOf_31 : m_at k_M_sortOf 31 = some (.invokestatic 143, 3, 351) := m_at_of r_M_sortOf (by decide +kernel)
theorem i_M_sortOf_34 : m_at k_M_sortOf 34 = some (.invokevirtual 206, 3, 346) := m_at_of r_M_sortOf (by decide +kernel)
theorem i_M_sortOf_37 : m_at k_M_sortOf 37 = some (.ifCond .eq (5), 3, 0) := m_at_of r_M_sortOf (by decide +kernel)
theorem i_M_sortOf_40 : m_at k_M_sortOf 40 = some (.iconst 1, 1, 0) := m_at_of r_M_sortOf (by decide +kernel)
theorem i_M_sortOf_41 : m_at k_M_sortOf 41 = some (.ireturn, 1, 0) := m_at_of r_M_sortOf (by decide +kernel)
theorem i_M_sortOf_42 : m_at k_M_sortOf 42 = some (.aload_n 0, 1, 0) := m_at_of r_M_sortOf (by decide +kernel)
theorem i_M_sortOf_43 : m_at k_M_sortOf 43 = some (.bipush 103, 2, 0) := m_at_of r_M_sortOf (by decide +kernel)
theorem i_M_sortOf_45 : m_at k_M_sortOf 45 = some (.bipush 114, 2, 0) := m_at_of r_M_sortOf (by decide +kernel)
theorem i_M_sortOf_47 : m_at k_M_sortOf 47 = some (.bipush 111, 2, 0) := m_at_of r_M_sortOf (by decide +kernel)
theorem i_M_sortOf_49 : m_at k_M_sortOf 49 = some (.bipush 119, 2, 0) := m_at_of r_M_sortOf (by decide +kernel)
theorem i_M_sortOf_51 : m_at k_M_sortOf 51 = some (.bipush 115, 2, 0) := m_at_of r_M_sortOf (by decide +kernel)
theorem i_M_sortOf_53 : m_at k_M_sortOf 53 = some (.invokestatic 147, 3, 329) := m_at_of r_M_sortOf (by decide +kernel)
theorem i_M_sortOf_56 : m_at k_M_sortOf 56 = some (.invokevirtual 206, 3, 346) := m_at_of r_M_sortOf (by decide +kernel)
theorem i_M_sortOf_59 : m_at k_M_sortOf 59 = some (.ifCond .eq (5), 3, 0) := m_at_of r_M_sortOf (by decide +kernel)
theorem i_M_sortOf_62 : m_at k_M_sortOf 62 = some (.iconst 2, 1, 0) := m_at_of r_M_sortOf (by decide +kernel)
theorem i_M_sortOf_63 : m_at k_M_sortOf 63 = some (.ireturn, 1, 0) := m_at_of r_M_sortOf (by decide +kernel)
theorem i_M_sortOf_64 : m_at k_M_sortOf 64 = some (.aload_n 0, 1, 0) := m_at_of r_M_sortOf (by decide +kernel)
theorem i_M_sortOf_65 : m_at k_M_sortOf 65 = some (.bipush 112, 2, 0) := m_at_of r_M_sortOf (by decide +kernel)
theorem i_M_sortOf_67 : m_at k_M_sortOf 67 = some (.bipush 97, 2, 0) := m_at_of r_M_sortOf (by decide +kernel)
theorem i_M_sortOf_69 : m_at k_M_sortOf 69 = some (.bipush 119, 2, 0) := m_at_of r_M_sortOf (by decide +kernel)
theorem i_M_sortOf_71 : m_at k_M_sortOf 71 = some (.bipush 110, 2, 0) := m_at_of r_M_sortOf (by decide +kernel)
theorem i_M_sortOf_73 : m_at k_M_sortOf 73 = some (.invokestatic 143, 3, 351) := m_at_of r_M_sortOf (by decide +kernel)
theorem i_M_sortOf_76 : m_at k_M_sortOf 76 = some (.invokevirtual 206, 3, 346) := m_at_of r_M_sortOf (by decide +kernel)
theorem i_M_sortOf_79 : m_at k_M_sortOf 79 = some (.ifCond .eq (5), 3, 0) := m_at_of r_M_sortOf (by decide +kernel)
theorem i_M_sortOf_82 : m_at k_M_sortOf 82 = some (.iconst 3, 1, 0) := m_at_of r_M_sortOf (by decide +kernel)
theorem i_M_sortOf_83 : m_at k_M_sortOf 83 = some (.ireturn, 1, 0) := m_at_of r_M_sortOf (by decide +kernel)
theorem i_M_sortOf_84 : m_at k_M_sortOf 84 = some (.aload_n 0, 1, 0) := m_at_of r_M_sortOf (by decide +kernel)
theorem i_M_sortOf_85 : m_at k_M_sortOf 85 = some (.bipush 111, 2, 0) := m_at_of r_M_sortOf (by decide +kernel)
theorem i_M_sortOf_87 : m_at k_M_sortOf 87 = some (.bipush 110, 2, 0) := m_at_of r_M_sortOf (by decide +kernel)
theorem i_M_sortOf_89 : m_at k_M_sortOf 89 = some (.bipush 101, 2, 0) := m_at_of r_M_sortOf (by decide +kernel)
theorem i_M_sortOf_91 : m_at k_M_sortOf 91 = some (.invokestatic 139, 3, 347) := m_at_of r_M_sortOf (by decide +kernel)
theorem i_M_sortOf_94 : m_at k_M_sortOf 94 = some (.invokevirtual 206, 3, 346) := m_at_of r_M_sortOf (by decide +kernel)
theorem i_M_sortOf_97 : m_at k_M_sortOf 97 = some (.ifCond .eq (5), 3, 0) := m_at_of r_M_sortOf (by decide +kernel)
theorem i_M_sortOf_100 : m_at k_M_sortOf 100 = some (.iconst 4, 1, 0) := m_at_of r_M_sortOf (by decide +kernel)
theorem i_M_sortOf_101 : m_at k_M_sortOf 101 = some (.ireturn, 1, 0) := m_at_of r_M_sortOf (by decide +kernel)
theorem i_M_sortOf_102 : m_at k_M_sortOf 102 = some (.aload_n 0, 1, 0) := m_at_of r_M_sortOf (by decide +kernel)
theorem i_M_sortOf_103 : m_at k_M_sortOf 103 = some (.bipush 111, 2, 0) := m_at_of r_M_sortOf (by decide +kernel)
theorem i_M_sortOf_105 : m_at k_M_sortOf 105 = some (.bipush 119, 2, 0) := m_at_of r_M_sortOf (by decide +kernel)
theorem i_M_sortOf_107 : m_at k_M_sortOf 107 = some (.bipush 101, 2, 0) := m_at_of r_M_sortOf (by decide +kernel)
theorem i_M_sortOf_109 : m_at k_M_sortOf 109 = some (.invokestatic 139, 3, 347) := m_at_of r_M_sortOf (by decide +kernel)
theorem i_M_sortOf_112 : m_at k_M_sortOf 112 = some (.invokevirtual 206, 3, 346) := m_at_of r_M_sortOf (by decide +kernel)
theorem i_M_sortOf_115 : m_at k_M_sortOf 115 = some (.ifCond .eq (5), 3, 0) := m_at_of r_M_sortOf (by decide +kernel)
theorem i_M_sortOf_118 : m_at k_M_sortOf 118 = some (.iconst 5, 1, 0) := m_at_of r_M_sortOf (by decide +kernel)
theorem i_M_sortOf_119 : m_at k_M_sortOf 119 = some (.ireturn, 1, 0) := m_at_of r_M_sortOf (by decide +kernel)
theorem i_M_sortOf_120 : m_at k_M_sortOf 120 = some (.aload_n 0, 1, 0) := m_at_of r_M_sortOf (by decide +kernel)
theorem i_M_sortOf_121 : m_at k_M_sortOf 121 = some (.bipush 100, 2, 0) := m_at_of r_M_sortOf (by decide +kernel)
theorem i_M_sortOf_123 : m_at k_M_sortOf 123 = some (.bipush 111, 2, 0) := m_at_of r_M_sortOf (by decide +kernel)
theorem i_M_sortOf_125 : m_at k_M_sortOf 125 = some (.invokestatic 135, 3, 332) := m_at_of r_M_sortOf (by decide +kernel)
theorem i_M_sortOf_128 : m_at k_M_sortOf 128 = some (.invokevirtual 206, 3, 346) := m_at_of r_M_sortOf (by decide +kernel)
theorem i_M_sortOf_131 : m_at k_M_sortOf 131 = some (.ifCond .eq (6), 3, 0) := m_at_of r_M_sortOf (by decide +kernel)
theorem i_M_sortOf_134 : m_at k_M_sortOf 134 = some (.bipush 6, 2, 0) := m_at_of r_M_sortOf (by decide +kernel)
theorem i_M_sortOf_136 : m_at k_M_sortOf 136 = some (.ireturn, 1, 0) := m_at_of r_M_sortOf (by decide +kernel)
theorem i_M_sortOf_137 : m_at k_M_sortOf 137 = some (.aload_n 0, 1, 0) := m_at_of r_M_sortOf (by decide +kernel)
theorem i_M_sortOf_138 : m_at k_M_sortOf 138 = some (.bipush 112, 2, 0) := m_at_of r_M_sortOf (by decide +kernel)
theorem i_M_sortOf_140 : m_at k_M_sortOf 140 = some (.bipush 97, 2, 0) := m_at_of r_M_sortOf (by decide +kernel)
theorem i_M_sortOf_142 : m_at k_M_sortOf 142 = some (.bipush 115, 2, 0) := m_at_of r_M_sortOf (by decide +kernel)
theorem i_M_sortOf_144 : m_at k_M_sortOf 144 = some (.bipush 115, 2, 0) := m_at_of r_M_sortOf (by decide +kernel)
theorem i_M_sortOf_146 : m_at k_M_sortOf 146 = some (.invokestatic 143, 3, 351) := m_at_of r_M_sortOf (by decide +kernel)
theorem i_M_sortOf_149 : m_at k_M_sortOf 149 = some (.invokevirtual 206, 3, 346) := m_at_of r_M_sortOf (by decide +kernel)
theorem i_M_sortOf_152 : m_at k_M_sortOf 152 = some (.ifCond .eq (6), 3, 0) := m_at_of r_M_sortOf (by decide +kernel)
theorem i_M_sortOf_155 : m_at k_M_sortOf 155 = some (.bipush 7, 2, 0) := m_at_of r_M_sortOf (by decide +kernel)
theorem i_M_sortOf_157 : m_at k_M_sortOf 157 = some (.ireturn, 1, 0) := m_at_of r_M_sortOf (by decide +kernel)
theorem i_M_sortOf_158 : m_at k_M_sortOf 158 = some (.aload_n 0, 1, 0) := m_at_of r_M_sortOf (by decide +kernel)
theorem i_M_sortOf_159 : m_at k_M_sortOf 159 = some (.bipush 108, 2, 0) := m_at_of r_M_sortOf (by decide +kernel)
theorem i_M_sortOf_161 : m_at k_M_sortOf 161 = some (.bipush 111, 2, 0) := m_at_of r_M_sortOf (by decide +kernel)
theorem i_M_sortOf_163 : m_at k_M_sortOf 163 = some (.bipush 115, 2, 0) := m_at_of r_M_sortOf (by decide +kernel)
theorem i_M_sortOf_165 : m_at k_M_sortOf 165 = some (.bipush 101, 2, 0) := m_at_of r_M_sortOf (by decide +kernel)
theorem i_M_sortOf_167 : m_at k_M_sortOf 167 = some (.invokestatic 143, 3, 351) := m_at_of r_M_sortOf (by decide +kernel)
theorem i_M_sortOf_170 : m_at k_M_sortOf 170 = some (.invokevirtual 206, 3, 346) := m_at_of r_M_sortOf (by decide +kernel)
theorem i_M_sortOf_173 : m_at k_M_sortOf 173 = some (.ifCond .eq (6), 3, 0) := m_at_of r_M_sortOf (by decide +kernel)
theorem i_M_sortOf_176 : m_at k_M_sortOf 176 = some (.bipush 8, 2, 0) := m_at_of r_M_sortOf (by decide +kernel)
theorem i_M_sortOf_178 : m_at k_M_sortOf 178 = some (.ireturn, 1, 0) := m_at_of r_M_sortOf (by decide +kernel)
theorem i_M_sortOf_179 : m_at k_M_sortOf 179 = some (.aload_n 0, 1, 0) := m_at_of r_M_sortOf (by decide +kernel)
theorem i_M_sortOf_180 : m_at k_M_sortOf 180 = some (.bipush 112, 2, 0) := m_at_of r_M_sortOf (by decide +kernel)
theorem i_M_sortOf_182 : m_at k_M_sortOf 182 = some (.bipush 108, 2, 0) := m_at_of r_M_sortOf (by decide +kernel)
theorem i_M_sortOf_184 : m_at k_M_sortOf 184 = some (.bipush 101, 2, 0) := m_at_of r_M_sortOf (by decide +kernel)
theorem i_M_sortOf_186 : m_at k_M_sortOf 186 = some (.bipush 100, 2, 0) := m_at_of r_M_sortOf (by decide +kernel)
theorem i_M_sortOf_188 : m_at k_M_sortOf 188 = some (.bipush 103, 2, 0) := m_at_of r_M_sortOf (by decide +kernel)
theorem i_M_sortOf_190 : m_at k_M_sortOf 190 = some (.bipush 101, 2, 0) := m_at_of r_M_sortOf (by decide +kernel)
theorem i_M_sortOf_192 : m_at k_M_sortOf 192 = some (.invokestatic 157, 3, 345) := m_at_of r_M_sortOf (by decide +kernel)
theorem i_M_sortOf_195 : m_at k_M_sortOf 195 = some (.invokevirtual 206, 3, 346) := m_at_of r_M_sortOf (by decide +kernel)
theorem i_M_sortOf_198 : m_at k_M_sortOf 198 = some (.ifCond .eq (6), 3, 0) := m_at_of r_M_sortOf (by decide +kernel)
theorem i_M_sortOf_201 : m_at k_M_sortOf 201 = some (.bipush 9, 2, 0) := m_at_of r_M_sortOf (by decide +kernel)
theorem i_M_sortOf_203 : m_at k_M_sortOf 203 = some (.ireturn, 1, 0) := m_at_of r_M_sortOf (by decide +kernel)
theorem i_M_sortOf_204 : m_at k_M_sortOf 204 = some (.aload_n 0, 1, 0) := m_at_of r_M_sortOf (by decide +kernel)
theorem i_M_sortOf_205 : m_at k_M_sortOf 205 = some (.bipush 114, 2, 0) := m_at_of r_M_sortOf (by decide +kernel)
theorem i_M_sortOf_207 : m_at k_M_sortOf 207 = some (.bipush 101, 2, 0) := m_at_of r_M_sortOf (by decide +kernel)
theorem i_M_sortOf_209 : m_at k_M_sortOf 209 = some (.bipush 100, 2, 0) := m_at_of r_M_sortOf (by decide +kernel)
theorem i_M_sortOf_211 : m_at k_M_sortOf 211 = some (.bipush 101, 2, 0) := m_at_of r_M_sortOf (by decide +kernel)
theorem i_M_sortOf_213 : m_at k_M_sortOf 213 = some (.bipush 101, 2, 0) := m_at_of r_M_sortOf (by decide +kernel)
theorem i_M_sortOf_215 : m_at k_M_sortOf 215 = some (.bipush 109, 2, 0) := m_at_of r_M_sortOf (by decide +kernel)
theorem i_M_sortOf_217 : m_at k_M_sortOf 217 = some (.invokestatic 157, 3, 345) := m_at_of r_M_sortOf (by decide +kernel)
theorem i_M_sortOf_220 : m_at k_M_sortOf 220 = some (.invokevirtual 206, 3, 346) := m_at_of r_M_sortOf (by decide +kernel)
theorem i_M_sortOf_223 : m_at k_M_sortOf 223 = some (.ifCond .eq (8), 3, 0) := m_at_of r_M_sortOf (by decide +kernel)
theorem i_M_sortOf_226 : m_at k_M_sortOf 226 = some (.bipush 10, 2, 0) := m_at_of r_M_sortOf (by decide +kernel)
theorem i_M_sortOf_228 : m_at k_M_sortOf 228 = some (.goto (25), 3, 0) := m_at_of r_M_sortOf (by decide +kernel)
theorem i_M_sortOf_231 : m_at k_M_sortOf 231 = some (.aload_n 0, 1, 0) := m_at_of r_M_sortOf (by decide +kernel)
theorem i_M_sortOf_232 : m_at k_M_sortOf 232 = some (.bipush 100, 2, 0) := m_at_of r_M_sortOf (by decide +kernel)
theorem i_M_sortOf_234 : m_at k_M_sortOf 234 = some (.bipush 97, 2, 0) := m_at_of r_M_sortOf (by decide +kernel)
theorem i_M_sortOf_236 : m_at k_M_sortOf 236 = some (.bipush 121, 2, 0) := m_at_of r_M_sortOf (by decide +kernel)
theorem i_M_sortOf_238 : m_at k_M_sortOf 238 = some (.invokestatic 139, 3, 347) := m_at_of r_M_sortOf (by decide +kernel)
theorem i_M_sortOf_241 : m_at k_M_sortOf 241 = some (.invokevirtual 206, 3, 346) := m_at_of r_M_sortOf (by decide +kernel)
theorem i_M_sortOf_244 : m_at k_M_sortOf 244 = some (.ifCond .eq (8), 3, 0) := m_at_of r_M_sortOf (by decide +kernel)
theorem i_M_sortOf_247 : m_at k_M_sortOf 247 = some (.bipush 11, 2, 0) := m_at_of r_M_sortOf (by decide +kernel)
theorem i_M_sortOf_249 : m_at k_M_sortOf 249 = some (.goto (4), 3, 0) := m_at_of r_M_sortOf (by decide +kernel)
theorem i_M_sortOf_252 : m_at k_M_sortOf 252 = some (.iconst (-1), 1, 0) := m_at_of r_M_sortOf (by decide +kernel)
theorem i_M_sortOf_253 : m_at k_M_sortOf 253 = some (.ireturn, 1, 0) := m_at_of r_M_sortOf (by decide +kernel)
set_option maxRecDepth 20000 in
set_option maxHeartbeats 1000000 in
theorem E_M_sortOf (x : m_X) (s : m_H) (w : Nat) : m_M x k_M_sortOf [.ref w] s = if m_isO s w 11 = true then (m_bL (m_M x k_M_w5 [.int 99, .int 104, .int 105, .int 108, .int 108] s) fun v11 s11 => m_bI (m_M x k_M_isWord [.ref w, .long v11] s11) fun v14 s14 => if v14 = 0 then (m_bL (m_M x k_M_w4 [.int 102, .int 105, .int 110, .int 101] s14) fun v31 s31 => m_bI (m_M x k_M_isWord [.ref w, .long v31] s31) fun v34 s34 => if v34 = 0 then (m_bL (m_M x k_M_w5 [.int 103, .int 114, .int 111, .int 119, .int 115] s34) fun v53 s53 => m_bI (m_M x k_M_isWord [.ref w, .long v53] s53) fun v56 s56 => if v56 = 0 then (m_bL (m_M x k_M_w4 [.int 112, .int 97, .int 119, .int 110] s56) fun v73 s73 => m_bI (m_M x k_M_isWord [.ref w, .long v73] s73) fun v76 s76 => if v76 = 0 then (m_bL (m_M x k_M_w3 [.int 111, .int 110, .int 101] s76) fun v91 s91 => m_bI (m_M x k_M_isWord [.ref w, .long v91] s91) fun v94 s94 => if v94 = 0 then (m_bL (m_M x k_M_w3 [.int 111, .int 119, .int 101] s94) fun v109 s109 => m_bI (m_M x k_M_isWord [.ref w, .long v109] s109) fun v112 s112 => if v112 = 0 then (m_bL (m_M x k_M_w2 [.int 100, .int 111] s112) fun v125 s125 => m_bI (m_M x k_M_isWord [.ref w, .long v125] s125) fun v128 s128 => if v128 = 0 then (m_bL (m_M x k_M_w4 [.int 112, .int 97, .int 115, .int 115] s128) fun v146 s146 => m_bI (m_M x k_M_isWord [.ref w, .long v146] s146) fun v149 s149 => if v149 = 0 then (m_bL (m_M x k_M_w4 [.int 108, .int 111, .int 115, .int 101] s149) fun v167 s167 => m_bI (m_M x k_M_isWord [.ref w, .long v167] s167) fun v170 s170 => if v170 = 0 then (m_bL (m_M x k_M_w6 [.int 112, .int 108, .int 101, .int 100, .int 103, .int 101] s170) fun v192 s192 => m_bI (m_M x k_M_isWord [.ref w, .long v192] s192) fun v195 s195 => if v195 = 0 then (m_bL (m_M x k_M_w6 [.int 114, .int 101, .int 100, .int 101, .int 101, .int 109] s195) fun v217 s217 => m_bI (m_M x k_M_isWord [.ref w, .long v217] s217) fun v220 s220 => if v220 = 0 then (m_bL (m_M x k_M_w3 [.int 100, .int 97, .int 121] s220) fun v238 s238 => m_bI (m_M x k_M_isWord [.ref w, .long v238] s238) fun v241 s241 => if v241 = 0 then (some (some (.int (-1)), s241)) else some (some (.int 11), s241)) else some (some (.int 10), s220)) else some (some (.int 9), s195)) else some (some (.int 8), s170)) else some (some (.int 7), s149)) else some (some (.int 6), s128)) else some (some (.int 5), s112)) else some (some (.int 4), s94)) else some (some (.int 3), s76)) else some (some (.int 2), s56)) else some (some (.int 1), s34)) else some (some (.int 0), s14)) else none := by
  refine e_M1 (L0 := [some (.ref w)]) rfl (by decide +kernel) rfl (q_M_sortOf _) rfl ?_
  refine e_aload_n i_M_sortOf_0 rfl ?_
  refine e_bipush (v := 99) i_M_sortOf_1 (by decide) ?_
  refine e_bipush (v := 104) i_M_sortOf_3 (by decide) ?_
  refine e_bipush (v := 105) i_M_sortOf_5 (by decide) ?_
  refine e_bipush (v := 108) i_M_sortOf_7 (by decide) ?_
  refine e_bipush (v := 108) i_M_sortOf_9 (by decide) ?_
  refine e_callL (as := [.int 99, .int 104, .int 105, .int 108, .int 108]) (st' := [.ref w]) i_M_sortOf_11 lm_329 (Or.inl ⟨rfl, rfl⟩) w_M_w5 rfl rfl rfl (Nat.le_of_ble_eq_true rfl) (Nat.le_of_ble_eq_true rfl) (m_rlt (q_M_w5 _) (by decide)) rfl (fun v11 s11 => ?_)
  refine e_callI (as := [.ref w, .long v11]) (st' := []) i_M_sortOf_14 lm_346 (Or.inr (Or.inl ⟨rfl, rfl⟩)) w_M_isWord rfl rfl rfl (Nat.le_of_ble_eq_true rfl) (Nat.le_of_ble_eq_true rfl) (m_rlt (q_M_isWord _) (by decide)) rfl (fun v14 s14 => ?_)
  refine e_ifeq (t := 22) i_M_sortOf_17 (by decide) ?_ ?_
  · refine e_aload_n i_M_sortOf_22 rfl ?_
    refine e_bipush (v := 102) i_M_sortOf_23 (by decide) ?_
    refine e_bipush (v := 105) i_M_sortOf_25 (by decide) ?_
    refine e_bipush (v := 110) i_M_sortOf_27 (by decide) ?_
    refine e_bipush (v := 101) i_M_sortOf_29 (by decide) ?_
    refine e_callL (as := [.int 102, .int 105, .int 110, .int 101]) (st' := [.ref w]) i_M_sortOf_31 lm_351 (Or.inl ⟨rfl, rfl⟩) w_M_w4 rfl rfl rfl (Nat.le_of_ble_eq_true rfl) (Nat.le_of_ble_eq_true rfl) (m_rlt (q_M_w4 _) (by decide)) rfl (fun v31 s31 => ?_)
    refine e_callI (as := [.ref w, .long v31]) (st' := []) i_M_sortOf_34 lm_346 (Or.inr (Or.inl ⟨rfl, rfl⟩)) w_M_isWord rfl rfl rfl (Nat.le_of_ble_eq_true rfl) (Nat.le_of_ble_eq_true rfl) (m_rlt (q_M_isWord _) (by decide)) rfl (fun v34 s34 => ?_)
    refine e_ifeq (t := 42) i_M_sortOf_37 (by decide) ?_ ?_
    · refine e_aload_n i_M_sortOf_42 rfl ?_
      refine e_bipush (v := 103) i_M_sortOf_43 (by decide) ?_
      refine e_bipush (v := 114) i_M_sortOf_45 (by decide) ?_
      refine e_bipush (v := 111) i_M_sortOf_47 (by decide) ?_
      refine e_bipush (v := 119) i_M_sortOf_49 (by decide) ?_
      refine e_bipush (v := 115) i_M_sortOf_51 (by decide) ?_
      refine e_callL (as := [.int 103, .int 114, .int 111, .int 119, .int 115]) (st' := [.ref w]) i_M_sortOf_53 lm_329 (Or.inl ⟨rfl, rfl⟩) w_M_w5 rfl rfl rfl (Nat.le_of_ble_eq_true rfl) (Nat.le_of_ble_eq_true rfl) (m_rlt (q_M_w5 _) (by decide)) rfl (fun v53 s53 => ?_)
      refine e_callI (as := [.ref w, .long v53]) (st' := []) i_M_sortOf_56 lm_346 (Or.inr (Or.inl ⟨rfl, rfl⟩)) w_M_isWord rfl rfl rfl (Nat.le_of_ble_eq_true rfl) (Nat.le_of_ble_eq_true rfl) (m_rlt (q_M_isWord _) (by decide)) rfl (fun v56 s56 => ?_)
      refine e_ifeq (t := 64) i_M_sortOf_59 (by decide) ?_ ?_
      · refine e_aload_n i_M_sortOf_64 rfl ?_
        refine e_bipush (v := 112) i_M_sortOf_65 (by decide) ?_
        refine e_bipush (v := 97) i_M_sortOf_67 (by decide) ?_
        refine e_bipush (v := 119) i_M_sortOf_69 (by decide) ?_
        refine e_bipush (v := 110) i_M_sortOf_71 (by decide) ?_
        refine e_callL (as := [.int 112, .int 97, .int 119, .int 110]) (st' := [.ref w]) i_M_sortOf_73 lm_351 (Or.inl ⟨rfl, rfl⟩) w_M_w4 rfl rfl rfl (Nat.le_of_ble_eq_true rfl) (Nat.le_of_ble_eq_true rfl) (m_rlt (q_M_w4 _) (by decide)) rfl (fun v73 s73 => ?_)
        refine e_callI (as := [.ref w, .long v73]) (st' := []) i_M_sortOf_76 lm_346 (Or.inr (Or.inl ⟨rfl, rfl⟩)) w_M_isWord rfl rfl rfl (Nat.le_of_ble_eq_true rfl) (Nat.le_of_ble_eq_true rfl) (m_rlt (q_M_isWord _) (by decide)) rfl (fun v76 s76 => ?_)
        refine e_ifeq (t := 84) i_M_sortOf_79 (by decide) ?_ ?_
        · refine e_aload_n i_M_sortOf_84 rfl ?_
          refine e_bipush (v := 111) i_M_sortOf_85 (by decide) ?_
          refine e_bipush (v := 110) i_M_sortOf_87 (by decide) ?_
          refine e_bipush (v := 101) i_M_sortOf_89 (by decide) ?_
          refine e_callL (as := [.int 111, .int 110, .int 101]) (st' := [.ref w]) i_M_sortOf_91 lm_347 (Or.inl ⟨rfl, rfl⟩) w_M_w3 rfl rfl rfl (Nat.le_of_ble_eq_true rfl) (Nat.le_of_ble_eq_true rfl) (m_rlt (q_M_w3 _) (by decide)) rfl (fun v91 s91 => ?_)
          refine e_callI (as := [.ref w, .long v91]) (st' := []) i_M_sortOf_94 lm_346 (Or.inr (Or.inl ⟨rfl, rfl⟩)) w_M_isWord rfl rfl rfl (Nat.le_of_ble_eq_true rfl) (Nat.le_of_ble_eq_true rfl) (m_rlt (q_M_isWord _) (by decide)) rfl (fun v94 s94 => ?_)
          refine e_ifeq (t := 102) i_M_sortOf_97 (by decide) ?_ ?_
          · refine e_aload_n i_M_sortOf_102 rfl ?_
            refine e_bipush (v := 111) i_M_sortOf_103 (by decide) ?_
            refine e_bipush (v := 119) i_M_sortOf_105 (by decide) ?_
            refine e_bipush (v := 101) i_M_sortOf_107 (by decide) ?_
            refine e_callL (as := [.int 111, .int 119, .int 101]) (st' := [.ref w]) i_M_sortOf_109 lm_347 (Or.inl ⟨rfl, rfl⟩) w_M_w3 rfl rfl rfl (Nat.le_of_ble_eq_true rfl) (Nat.le_of_ble_eq_true rfl) (m_rlt (q_M_w3 _) (by decide)) rfl (fun v109 s109 => ?_)
            refine e_callI (as := [.ref w, .long v109]) (st' := []) i_M_sortOf_112 lm_346 (Or.inr (Or.inl ⟨rfl, rfl⟩)) w_M_isWord rfl rfl rfl (Nat.le_of_ble_eq_true rfl) (Nat.le_of_ble_eq_true rfl) (m_rlt (q_M_isWord _) (by decide)) rfl (fun v112 s112 => ?_)
            refine e_ifeq (t := 120) i_M_sortOf_115 (by decide) ?_ ?_
            · refine e_aload_n i_M_sortOf_120 rfl ?_
              refine e_bipush (v := 100) i_M_sortOf_121 (by decide) ?_
              refine e_bipush (v := 111) i_M_sortOf_123 (by decide) ?_
              refine e_callL (as := [.int 100, .int 111]) (st' := [.ref w]) i_M_sortOf_125 lm_332 (Or.inl ⟨rfl, rfl⟩) w_M_w2 rfl rfl rfl (Nat.le_of_ble_eq_true rfl) (Nat.le_of_ble_eq_true rfl) (m_rlt (q_M_w2 _) (by decide)) rfl (fun v125 s125 => ?_)
              refine e_callI (as := [.ref w, .long v125]) (st' := []) i_M_sortOf_128 lm_346 (Or.inr (Or.inl ⟨rfl, rfl⟩)) w_M_isWord rfl rfl rfl (Nat.le_of_ble_eq_true rfl) (Nat.le_of_ble_eq_true rfl) (m_rlt (q_M_isWord _) (by decide)) rfl (fun v128 s128 => ?_)
              refine e_ifeq (t := 137) i_M_sortOf_131 (by decide) ?_ ?_
              · refine e_aload_n i_M_sortOf_137 rfl ?_
                refine e_bipush (v := 112) i_M_sortOf_138 (by decide) ?_
                refine e_bipush (v := 97) i_M_sortOf_140 (by decide) ?_
                refine e_bipush (v := 115) i_M_sortOf_142 (by decide) ?_
                refine e_bipush (v := 115) i_M_sortOf_144 (by decide) ?_
                refine e_callL (as := [.int 112, .int 97, .int 115, .int 115]) (st' := [.ref w]) i_M_sortOf_146 lm_351 (Or.inl ⟨rfl, rfl⟩) w_M_w4 rfl rfl rfl (Nat.le_of_ble_eq_true rfl) (Nat.le_of_ble_eq_true rfl) (m_rlt (q_M_w4 _) (by decide)) rfl (fun v146 s146 => ?_)
                refine e_callI (as := [.ref w, .long v146]) (st' := []) i_M_sortOf_149 lm_346 (Or.inr (Or.inl ⟨rfl, rfl⟩)) w_M_isWord rfl rfl rfl (Nat.le_of_ble_eq_true rfl) (Nat.le_of_ble_eq_true rfl) (m_rlt (q_M_isWord _) (by decide)) rfl (fun v149 s149 => ?_)
                refine e_ifeq (t := 158) i_M_sortOf_152 (by decide) ?_ ?_
                · refine e_aload_n i_M_sortOf_158 rfl ?_
                  refine e_bipush (v := 108) i_M_sortOf_159 (by decide) ?_
                  refine e_bipush (v := 111) i_M_sortOf_161 (by decide) ?_
                  refine e_bipush (v := 115) i_M_sortOf_163 (by decide) ?_
                  refine e_bipush (v := 101) i_M_sortOf_165 (by decide) ?_
                  refine e_callL (as := [.int 108, .int 111, .int 115, .int 101]) (st' := [.ref w]) i_M_sortOf_167 lm_351 (Or.inl ⟨rfl, rfl⟩) w_M_w4 rfl rfl rfl (Nat.le_of_ble_eq_true rfl) (Nat.le_of_ble_eq_true rfl) (m_rlt (q_M_w4 _) (by decide)) rfl (fun v167 s167 => ?_)
                  refine e_callI (as := [.ref w, .long v167]) (st' := []) i_M_sortOf_170 lm_346 (Or.inr (Or.inl ⟨rfl, rfl⟩)) w_M_isWord rfl rfl rfl (Nat.le_of_ble_eq_true rfl) (Nat.le_of_ble_eq_true rfl) (m_rlt (q_M_isWord _) (by decide)) rfl (fun v170 s170 => ?_)
                  refine e_ifeq (t := 179) i_M_sortOf_173 (by decide) ?_ ?_
                  · refine e_aload_n i_M_sortOf_179 rfl ?_
                    refine e_bipush (v := 112) i_M_sortOf_180 (by decide) ?_
                    refine e_bipush (v := 108) i_M_sortOf_182 (by decide) ?_
                    refine e_bipush (v := 101) i_M_sortOf_184 (by decide) ?_
                    refine e_bipush (v := 100) i_M_sortOf_186 (by decide) ?_
                    refine e_bipush (v := 103) i_M_sortOf_188 (by decide) ?_
                    refine e_bipush (v := 101) i_M_sortOf_190 (by decide) ?_
                    refine e_callL (as := [.int 112, .int 108, .int 101, .int 100, .int 103, .int 101]) (st' := [.ref w]) i_M_sortOf_192 lm_345 (Or.inl ⟨rfl, rfl⟩) w_M_w6 rfl rfl rfl (Nat.le_of_ble_eq_true rfl) (Nat.le_of_ble_eq_true rfl) (m_rlt (q_M_w6 _) (by decide)) rfl (fun v192 s192 => ?_)
                    refine e_callI (as := [.ref w, .long v192]) (st' := []) i_M_sortOf_195 lm_346 (Or.inr (Or.inl ⟨rfl, rfl⟩)) w_M_isWord rfl rfl rfl (Nat.le_of_ble_eq_true rfl) (Nat.le_of_ble_eq_true rfl) (m_rlt (q_M_isWord _) (by decide)) rfl (fun v195 s195 => ?_)
                    refine e_ifeq (t := 204) i_M_sortOf_198 (by decide) ?_ ?_
                    · refine e_aload_n i_M_sortOf_204 rfl ?_
                      refine e_bipush (v := 114) i_M_sortOf_205 (by decide) ?_
                      refine e_bipush (v := 101) i_M_sortOf_207 (by decide) ?_
                      refine e_bipush (v := 100) i_M_sortOf_209 (by decide) ?_
                      refine e_bipush (v := 101) i_M_sortOf_211 (by decide) ?_
                      refine e_bipush (v := 101) i_M_sortOf_213 (by decide) ?_
                      refine e_bipush (v := 109) i_M_sortOf_215 (by decide) ?_
                      refine e_callL (as := [.int 114, .int 101, .int 100, .int 101, .int 101, .int 109]) (st' := [.ref w]) i_M_sortOf_217 lm_345 (Or.inl ⟨rfl, rfl⟩) w_M_w6 rfl rfl rfl (Nat.le_of_ble_eq_true rfl) (Nat.le_of_ble_eq_true rfl) (m_rlt (q_M_w6 _) (by decide)) rfl (fun v217 s217 => ?_)
                      refine e_callI (as := [.ref w, .long v217]) (st' := []) i_M_sortOf_220 lm_346 (Or.inr (Or.inl ⟨rfl, rfl⟩)) w_M_isWord rfl rfl rfl (Nat.le_of_ble_eq_true rfl) (Nat.le_of_ble_eq_true rfl) (m_rlt (q_M_isWord _) (by decide)) rfl (fun v220 s220 => ?_)
                      refine e_ifeq (t := 231) i_M_sortOf_223 (by decide) ?_ ?_
                      · refine e_aload_n i_M_sortOf_231 rfl ?_
                        refine e_bipush (v := 100) i_M_sortOf_232 (by decide) ?_
                        refine e_bipush (v := 97) i_M_sortOf_234 (by decide) ?_
                        refine e_bipush (v := 121) i_M_sortOf_236 (by decide) ?_
                        refine e_callL (as := [.int 100, .int 97, .int 121]) (st' := [.ref w]) i_M_sortOf_238 lm_347 (Or.inl ⟨rfl, rfl⟩) w_M_w3 rfl rfl rfl (Nat.le_of_ble_eq_true rfl) (Nat.le_of_ble_eq_true rfl) (m_rlt (q_M_w3 _) (by decide)) rfl (fun v238 s238 => ?_)
                        refine e_callI (as := [.ref w, .long v238]) (st' := []) i_M_sortOf_241 lm_346 (Or.inr (Or.inl ⟨rfl, rfl⟩)) w_M_isWord rfl rfl rfl (Nat.le_of_ble_eq_true rfl) (Nat.le_of_ble_eq_true rfl) (m_rlt (q_M_isWord _) (by decide)) rfl (fun v241 s241 => ?_)
                        refine e_ifeq (t := 252) i_M_sortOf_244 (by decide) ?_ ?_
                        · refine e_iconst (v := (-1)) i_M_sortOf_252 (by decide) ?_
                          exact e_iretI i_M_sortOf_253 rfl
                        · refine e_bipush (v := 11) i_M_sortOf_247 (by decide) ?_
                          refine e_goto (t := 253) i_M_sortOf_249 (by decide) ?_
                          exact e_iretI i_M_sortOf_253 rfl
                      · refine e_bipush (v := 10) i_M_sortOf_226 (by decide) ?_
                        refine e_goto (t := 253) i_M_sortOf_228 (by decide) ?_
                        exact e_iretI i_M_sortOf_253 rfl
                    · refine e_bipush (v := 9) i_M_sortOf_201 (by decide) ?_
                      exact e_iretI i_M_sortOf_203 rfl
                  · refine e_bipush (v := 8) i_M_sortOf_176 (by decide) ?_
                    exact e_iretI i_M_sortOf_178 rfl
                · refine e_bipush (v := 7) i_M_sortOf_155 (by decide) ?_
                  exact e_iretI i_M_sortOf_157 rfl
              · refine e_bipush (v := 6) i_M_sortOf_134 (by decide) ?_
                exact e_iretI i_M_sortOf_136 rfl
            · refine e_iconst (v := 5) i_M_sortOf_118 (by decide) ?_
              exact e_iretI i_M_sortOf_119 rfl
          · refine e_iconst (v := 4) i_M_sortOf_100 (by decide) ?_
            exact e_iretI i_M_sortOf_101 rfl
        · refine e_iconst (v := 3) i_M_sortOf_82 (by decide) ?_
          exact e_iretI i_M_sortOf_83 rfl
      · refine e_iconst (v := 2) i_M_sortOf_62 (by decide) ?_
        exact e_iretI i_M_sortOf_63 rfl
    · refine e_iconst (v := 1) i_M_sortOf_40 (by decide) ?_
      exact e_iretI i_M_sortOf_41 rfl
  · refine e_iconst (v := 0) i_M_sortOf_20 (by decide) ?_
    exact e_iretI i_M_sortOf_21 rfl
theorem i_M_w6_0 : m_at k_M_w6 0 = some (.iload_n 0, 1, 0) := m_at_of r_M_w6 (by decide +kernel)
theorem i_M_w6_1 : m_at k_M_w6 1 = some (.iload_n 1, 1, 0) := m_at_of r_M_w6 (by decide +kernel)
theorem i_M_w6_2 : m_at k_M_w6 2 = some (.iload_n 2, 1, 0) := m_at_of r_M_w6 (by decide +kernel)
theorem i_M_w6_3 : m_at k_M_w6 3 = some (.iload_n 3, 1, 0) := m_at_of r_M_w6 (by decide +kernel)
theorem i_M_w6_4 : m_at k_M_w6 4 = some (.iload 4, 2, 0) := m_at_of r_M_w6 (by decide +kernel)
theorem i_M_w6_6 : m_at k_M_w6 6 = some (.invokestatic 147, 3, 329) := m_at_of r_M_w6 (by decide +kernel)
theorem i_M_w6_9 : m_at k_M_w6 9 = some (.bipush 8, 2, 0) := m_at_of r_M_w6 (by decide +kernel)
theorem i_M_w6_11 : m_at k_M_w6 11 = some (.lshl, 1, 0) := m_at_of r_M_w6 (by decide +kernel)
theorem i_M_w6_12 : m_at k_M_w6 12 = some (.iload 5, 2, 0) := m_at_of r_M_w6 (by decide +kernel)
theorem i_M_w6_14 : m_at k_M_w6 14 = some (.i2l, 1, 0) := m_at_of r_M_w6 (by decide +kernel)
theorem i_M_w6_15 : m_at k_M_w6 15 = some (.lor, 1, 0) := m_at_of r_M_w6 (by decide +kernel)
theorem i_M_w6_16 : m_at k_M_w6 16 = some (.lreturn, 1, 0) := m_at_of r_M_w6 (by decide +kernel)
set_option maxRecDepth 20000 in
set_option maxHeartbeats 1000000 in
theorem E_M_w6 (x : m_X) (s : m_H) (n0 : Int32) (n1 : Int32) (n2 : Int32) (n3 : Int32) (n4 : Int32) (n5 : Int32) : m_M x k_M_w6 [.int n0, .int n1, .int n2, .int n3, .int n4, .int n5] s = m_bL (m_M x k_M_w5 [.int n0, .int n1, .int n2, .int n3, .int n4] s) fun v6 s6 => some (some (.long ((v6 <<< ((8 : Int32).toInt64 &&& (63 : Int64))) ||| n5.toInt64)), s6) := by
  refine e_M0 (L0 := [some (.int n0), some (.int n1), some (.int n2), some (.int n3), some (.int n4), some (.int n5)]) rfl (q_M_w6 _) rfl ?_
  refine e_iload_n i_M_w6_0 rfl ?_
  refine e_iload_n i_M_w6_1 rfl ?_
  refine e_iload_n i_M_w6_2 rfl ?_
  refine e_iload_n i_M_w6_3 rfl ?_
  refine e_iload i_M_w6_4 rfl ?_
  refine e_callL (as := [.int n0, .int n1, .int n2, .int n3, .int n4]) (st' := []) i_M_w6_6 lm_329 (Or.inl ⟨rfl, rfl⟩) w_M_w5 rfl rfl rfl (Nat.le_of_ble_eq_true rfl) (Nat.le_of_ble_eq_true rfl) (m_rlt (q_M_w5 _) (by decide)) rfl (fun v6 s6 => ?_)
  refine e_bipush (v := 8) i_M_w6_9 (by decide) ?_
  refine e_lshl i_M_w6_11 ?_
  refine e_iload i_M_w6_12 rfl ?_
  refine e_i2l i_M_w6_14 ?_
  refine e_lor i_M_w6_15 ?_
  exact e_lret i_M_w6_16 rfl
theorem i_M_isWord_0 : m_at k_M_isWord 0 = some (.aload_n 0, 1, 0) := m_at_of r_M_isWord (by decide +kernel)
theorem i_M_isWord_1 : m_at k_M_isWord 1 = some (.getfield 113, 3, 103) := m_at_of r_M_isWord (by decide +kernel)
theorem i_M_isWord_4 : m_at k_M_isWord 4 = some (.iconst 2, 1, 0) := m_at_of r_M_isWord (by decide +kernel)
theorem i_M_isWord_5 : m_at k_M_isWord 5 = some (.if_icmp .ne (16), 3, 0) := m_at_of r_M_isWord (by decide +kernel)
theorem i_M_isWord_8 : m_at k_M_isWord 8 = some (.aload_n 0, 1, 0) := m_at_of r_M_isWord (by decide +kernel)
theorem i_M_isWord_9 : m_at k_M_isWord 9 = some (.getfield 126, 3, 110) := m_at_of r_M_isWord (by decide +kernel)
theorem i_M_isWord_12 : m_at k_M_isWord 12 = some (.lload_n 1, 1, 0) := m_at_of r_M_isWord (by decide +kernel)
theorem i_M_isWord_13 : m_at k_M_isWord 13 = some (.lcmp, 1, 0) := m_at_of r_M_isWord (by decide +kernel)
theorem i_M_isWord_14 : m_at k_M_isWord 14 = some (.ifCond .ne (7), 3, 0) := m_at_of r_M_isWord (by decide +kernel)
theorem i_M_isWord_17 : m_at k_M_isWord 17 = some (.iconst 1, 1, 0) := m_at_of r_M_isWord (by decide +kernel)
theorem i_M_isWord_18 : m_at k_M_isWord 18 = some (.goto (4), 3, 0) := m_at_of r_M_isWord (by decide +kernel)
theorem i_M_isWord_21 : m_at k_M_isWord 21 = some (.iconst 0, 1, 0) := m_at_of r_M_isWord (by decide +kernel)
theorem i_M_isWord_22 : m_at k_M_isWord 22 = some (.ireturn, 1, 0) := m_at_of r_M_isWord (by decide +kernel)
set_option maxRecDepth 20000 in
set_option maxHeartbeats 1000000 in
theorem E_M_isWord (x : m_X) (s : m_H) (w : Nat) (l1 : Int64) : m_M x k_M_isWord [.ref w, .long l1] s = if m_isO s w 11 = true then ((m_fI s 11 9 w).bind fun v1 => if v1 = 2 then ((m_fL s 11 11 w).bind fun v9 => if v9 = l1 then (some (some (.int 1), s)) else some (some (.int 0), s)) else some (some (.int 0), s)) else none := by
  refine e_M1 (L0 := [some (.ref w), some (.long l1), none]) rfl (by decide +kernel) rfl (q_M_isWord _) rfl ?_
  refine e_aload_n i_M_isWord_0 rfl ?_
  refine e_getI i_M_isWord_1 lf_103 (by decide) (Or.inl ft_11_9) (fun v1 => ?_)
  refine e_iconst (v := 2) i_M_isWord_4 (by decide) ?_
  refine e_icmpne (t := 21) i_M_isWord_5 (by decide) ?_ ?_
  · refine e_iconst (v := 0) i_M_isWord_21 (by decide) ?_
    exact e_iretZ i_M_isWord_22 rfl (by decide)
  · refine e_aload_n i_M_isWord_8 rfl ?_
    refine e_getL i_M_isWord_9 lf_110 (by decide) ft_11_11 (fun v9 => ?_)
    refine e_lload_n i_M_isWord_12 rfl ?_
    refine e_lcmpne (t := 21) i_M_isWord_13 i_M_isWord_14 (by decide) ?_ ?_
    · refine e_iconst (v := 0) i_M_isWord_21 (by decide) ?_
      exact e_iretZ i_M_isWord_22 rfl (by decide)
    · refine e_iconst (v := 1) i_M_isWord_17 (by decide) ?_
      refine e_goto (t := 22) i_M_isWord_18 (by decide) ?_
      exact e_iretZ i_M_isWord_22 rfl (by decide)
theorem i_M_w5_0 : m_at k_M_w5 0 = some (.iload_n 0, 1, 0) := m_at_of r_M_w5 (by decide +kernel)
theorem i_M_w5_1 : m_at k_M_w5 1 = some (.iload_n 1, 1, 0) := m_at_of r_M_w5 (by decide +kernel)
theorem i_M_w5_2 : m_at k_M_w5 2 = some (.iload_n 2, 1, 0) := m_at_of r_M_w5 (by decide +kernel)
theorem i_M_w5_3 : m_at k_M_w5 3 = some (.iload_n 3, 1, 0) := m_at_of r_M_w5 (by decide +kernel)
theorem i_M_w5_4 : m_at k_M_w5 4 = some (.invokestatic 143, 3, 351) := m_at_of r_M_w5 (by decide +kernel)
theorem i_M_w5_7 : m_at k_M_w5 7 = some (.bipush 8, 2, 0) := m_at_of r_M_w5 (by decide +kernel)
theorem i_M_w5_9 : m_at k_M_w5 9 = some (.lshl, 1, 0) := m_at_of r_M_w5 (by decide +kernel)
theorem i_M_w5_10 : m_at k_M_w5 10 = some (.iload 4, 2, 0) := m_at_of r_M_w5 (by decide +kernel)
theorem i_M_w5_12 : m_at k_M_w5 12 = some (.i2l, 1, 0) := m_at_of r_M_w5 (by decide +kernel)
theorem i_M_w5_13 : m_at k_M_w5 13 = some (.lor, 1, 0) := m_at_of r_M_w5 (by decide +kernel)
theorem i_M_w5_14 : m_at k_M_w5 14 = some (.lreturn, 1, 0) := m_at_of r_M_w5 (by decide +kernel)
set_option maxRecDepth 20000 in
set_option maxHeartbeats 1000000 in
theorem E_M_w5 (x : m_X) (s : m_H) (n0 : Int32) (n1 : Int32) (n2 : Int32) (n3 : Int32) (n4 : Int32) : m_M x k_M_w5 [.int n0, .int n1, .int n2, .int n3, .int n4] s = m_bL (m_M x k_M_w4 [.int n0, .int n1, .int n2, .int n3] s) fun v4 s4 => some (some (.long ((v4 <<< ((8 : Int32).toInt64 &&& (63 : Int64))) ||| n4.toInt64)), s4) := by
  refine e_M0 (L0 := [some (.int n0), some (.int n1), some (.int n2), some (.int n3), some (.int n4)]) rfl (q_M_w5 _) rfl ?_
  refine e_iload_n i_M_w5_0 rfl ?_
  refine e_iload_n i_M_w5_1 rfl ?_
  refine e_iload_n i_M_w5_2 rfl ?_
  refine e_iload_n i_M_w5_3 rfl ?_
  refine e_callL (as := [.int n0, .int n1, .int n2, .int n3]) (st' := []) i_M_w5_4 lm_351 (Or.inl ⟨rfl, rfl⟩) w_M_w4 rfl rfl rfl (Nat.le_of_ble_eq_true rfl) (Nat.le_of_ble_eq_true rfl) (m_rlt (q_M_w4 _) (by decide)) rfl (fun v4 s4 => ?_)
  refine e_bipush (v := 8) i_M_w5_7 (by decide) ?_
  refine e_lshl i_M_w5_9 ?_
  refine e_iload i_M_w5_10 rfl ?_
  refine e_i2l i_M_w5_12 ?_
  refine e_lor i_M_w5_13 ?_
  exact e_lret i_M_w5_14 rfl
theorem i_M_w4_0 : m_at k_M_w4 0 = some (.iload_n 0, 1, 0) := m_at_of r_M_w4 (by decide +kernel)
theorem i_M_w4_1 : m_at k_M_w4 1 = some (.iload_n 1, 1, 0) := m_at_of r_M_w4 (by decide +kernel)
theorem i_M_w4_2 : m_at k_M_w4 2 = some (.iload_n 2, 1, 0) := m_at_of r_M_w4 (by decide +kernel)
theorem i_M_w4_3 : m_at k_M_w4 3 = some (.invokestatic 139, 3, 347) := m_at_of r_M_w4 (by decide +kernel)
theorem i_M_w4_6 : m_at k_M_w4 6 = some (.bipush 8, 2, 0) := m_at_of r_M_w4 (by decide +kernel)
theorem i_M_w4_8 : m_at k_M_w4 8 = some (.lshl, 1, 0) := m_at_of r_M_w4 (by decide +kernel)
theorem i_M_w4_9 : m_at k_M_w4 9 = some (.iload_n 3, 1, 0) := m_at_of r_M_w4 (by decide +kernel)
theorem i_M_w4_10 : m_at k_M_w4 10 = some (.i2l, 1, 0) := m_at_of r_M_w4 (by decide +kernel)
theorem i_M_w4_11 : m_at k_M_w4 11 = some (.lor, 1, 0) := m_at_of r_M_w4 (by decide +kernel)
theorem i_M_w4_12 : m_at k_M_w4 12 = some (.lreturn, 1, 0) := m_at_of r_M_w4 (by decide +kernel)
set_option maxRecDepth 20000 in
set_option maxHeartbeats 1000000 in
theorem E_M_w4 (x : m_X) (s : m_H) (n0 : Int32) (n1 : Int32) (n2 : Int32) (n3 : Int32) : m_M x k_M_w4 [.int n0, .int n1, .int n2, .int n3] s = m_bL (m_M x k_M_w3 [.int n0, .int n1, .int n2] s) fun v3 s3 => some (some (.long ((v3 <<< ((8 : Int32).toInt64 &&& (63 : Int64))) ||| n3.toInt64)), s3) := by
  refine e_M0 (L0 := [some (.int n0), some (.int n1), some (.int n2), some (.int n3)]) rfl (q_M_w4 _) rfl ?_
  refine e_iload_n i_M_w4_0 rfl ?_
  refine e_iload_n i_M_w4_1 rfl ?_
  refine e_iload_n i_M_w4_2 rfl ?_
  refine e_callL (as := [.int n0, .int n1, .int n2]) (st' := []) i_M_w4_3 lm_347 (Or.inl ⟨rfl, rfl⟩) w_M_w3 rfl rfl rfl (Nat.le_of_ble_eq_true rfl) (Nat.le_of_ble_eq_true rfl) (m_rlt (q_M_w3 _) (by decide)) rfl (fun v3 s3 => ?_)
  refine e_bipush (v := 8) i_M_w4_6 (by decide) ?_
  refine e_lshl i_M_w4_8 ?_
  refine e_iload_n i_M_w4_9 rfl ?_
  refine e_i2l i_M_w4_10 ?_
  refine e_lor i_M_w4_11 ?_
  exact e_lret i_M_w4_12 rfl
theorem i_M_w3_0 : m_at k_M_w3 0 = some (.iload_n 0, 1, 0) := m_at_of r_M_w3 (by decide +kernel)
theorem i_M_w3_1 : m_at k_M_w3 1 = some (.iload_n 1, 1, 0) := m_at_of r_M_w3 (by decide +kernel)
theorem i_M_w3_2 : m_at k_M_w3 2 = some (.invokestatic 135, 3, 332) := m_at_of r_M_w3 (by decide +kernel)
theorem i_M_w3_5 : m_at k_M_w3 5 = some (.bipush 8, 2, 0) := m_at_of r_M_w3 (by decide +kernel)
theorem i_M_w3_7 : m_at k_M_w3 7 = some (.lshl, 1, 0) := m_at_of r_M_w3 (by decide +kernel)
theorem i_M_w3_8 : m_at k_M_w3 8 = some (.iload_n 2, 1, 0) := m_at_of r_M_w3 (by decide +kernel)
theorem i_M_w3_9 : m_at k_M_w3 9 = some (.i2l, 1, 0) := m_at_of r_M_w3 (by decide +kernel)
theorem i_M_w3_10 : m_at k_M_w3 10 = some (.lor, 1, 0) := m_at_of r_M_w3 (by decide +kernel)
theorem i_M_w3_11 : m_at k_M_w3 11 = some (.lreturn, 1, 0) := m_at_of r_M_w3 (by decide +kernel)
set_option maxRecDepth 20000 in
set_option maxHeartbeats 1000000 in
theorem E_M_w3 (x : m_X) (s : m_H) (n0 : Int32) (n1 : Int32) (n2 : Int32) : m_M x k_M_w3 [.int n0, .int n1, .int n2] s = m_bL (m_M x k_M_w2 [.int n0, .int n1] s) fun v2 s2 => some (some (.long ((v2 <<< ((8 : Int32).toInt64 &&& (63 : Int64))) ||| n2.toInt64)), s2) := by
  refine e_M0 (L0 := [some (.int n0), some (.int n1), some (.int n2)]) rfl (q_M_w3 _) rfl ?_
  refine e_iload_n i_M_w3_0 rfl ?_
  refine e_iload_n i_M_w3_1 rfl ?_
  refine e_callL (as := [.int n0, .int n1]) (st' := []) i_M_w3_2 lm_332 (Or.inl ⟨rfl, rfl⟩) w_M_w2 rfl rfl rfl (Nat.le_of_ble_eq_true rfl) (Nat.le_of_ble_eq_true rfl) (m_rlt (q_M_w2 _) (by decide)) rfl (fun v2 s2 => ?_)
  refine e_bipush (v := 8) i_M_w3_5 (by decide) ?_
  refine e_lshl i_M_w3_7 ?_
  refine e_iload_n i_M_w3_8 rfl ?_
  refine e_i2l i_M_w3_9 ?_
  refine e_lor i_M_w3_10 ?_
  exact e_lret i_M_w3_11 rfl
theorem i_M_w2_0 : m_at k_M_w2 0 = some (.iload_n 0, 1, 0) := m_at_of r_M_w2 (by decide +kernel)
theorem i_M_w2_1 : m_at k_M_w2 1 = some (.i2l, 1, 0) := m_at_of r_M_w2 (by decide +kernel)
theorem i_M_w2_2 : m_at k_M_w2 2 = some (.bipush 8, 2, 0) := m_at_of r_M_w2 (by decide +kernel)
theorem i_M_w2_4 : m_at k_M_w2 4 = some (.lshl, 1, 0) := m_at_of r_M_w2 (by decide +kernel)
theorem i_M_w2_5 : m_at k_M_w2 5 = some (.iload_n 1, 1, 0) := m_at_of r_M_w2 (by decide +kernel)
theorem i_M_w2_6 : m_at k_M_w2 6 = some (.i2l, 1, 0) := m_at_of r_M_w2 (by decide +kernel)
theorem i_M_w2_7 : m_at k_M_w2 7 = some (.lor, 1, 0) := m_at_of r_M_w2 (by decide +kernel)
theorem i_M_w2_8 : m_at k_M_w2 8 = some (.lreturn, 1, 0) := m_at_of r_M_w2 (by decide +kernel)
set_option maxRecDepth 20000 in
set_option maxHeartbeats 1000000 in
theorem E_M_w2 (x : m_X) (s : m_H) (n0 : Int32) (n1 : Int32) : m_M x k_M_w2 [.int n0, .int n1] s = some (some (.long ((n0.toInt64 <<< ((8 : Int32).toInt64 &&& (63 : Int64))) ||| n1.toInt64)), s) := by
  refine e_M0 (L0 := [some (.int n0), some (.int n1)]) rfl (q_M_w2 _) rfl ?_
  refine e_iload_n i_M_w2_0 rfl ?_
  refine e_i2l i_M_w2_1 ?_
  refine e_bipush (v := 8) i_M_w2_2 (by decide) ?_
  refine e_lshl i_M_w2_4 ?_
  refine e_iload_n i_M_w2_5 rfl ?_
  refine e_i2l i_M_w2_6 ?_
  refine e_lor i_M_w2_7 ?_
  exact e_lret i_M_w2_8 rfl
theorem i_M_nextToken_0 : m_at k_M_nextToken 0 = some (.aload_n 0, 1, 0) := m_at_of r_M_nextToken (by decide +kernel)
theorem i_M_nextToken_1 : m_at k_M_nextToken 1 = some (.aload_n 0, 1, 0) := m_at_of r_M_nextToken (by decide +kernel)
theorem i_M_nextToken_2 : m_at k_M_nextToken 2 = some (.getfield 104, 3, 102) := m_at_of r_M_nextToken (by decide +kernel)
theorem i_M_nextToken_5 : m_at k_M_nextToken 5 = some (.invokevirtual 107, 3, 359) := m_at_of r_M_nextToken (by decide +kernel)
theorem i_M_nextToken_8 : m_at k_M_nextToken 8 = some (.bipush 32, 2, 0) := m_at_of r_M_nextToken (by decide +kernel)
theorem i_M_nextToken_10 : m_at k_M_nextToken 10 = some (.if_icmp .eq (16), 3, 0) := m_at_of r_M_nextToken (by decide +kernel)
theorem i_M_nextToken_13 : m_at k_M_nextToken 13 = some (.aload_n 0, 1, 0) := m_at_of r_M_nextToken (by decide +kernel)
theorem i_M_nextToken_14 : m_at k_M_nextToken 14 = some (.aload_n 0, 1, 0) := m_at_of r_M_nextToken (by decide +kernel)
theorem i_M_nextToken_15 : m_at k_M_nextToken 15 = some (.getfield 104, 3, 102) := m_at_of r_M_nextToken (by decide +kernel)
theorem i_M_nextToken_18 : m_at k_M_nextToken 18 = some (.invokevirtual 107, 3, 359) := m_at_of r_M_nextToken (by decide +kernel)
theorem i_M_nextToken_21 : m_at k_M_nextToken 21 = some (.bipush 10, 2, 0) := m_at_of r_M_nextToken (by decide +kernel)
theorem i_M_nextToken_23 : m_at k_M_nextToken 23 = some (.if_icmp .ne (16), 3, 0) := m_at_of r_M_nextToken (by decide +kernel)
theorem i_M_nextToken_26 : m_at k_M_nextToken 26 = some (.aload_n 0, 1, 0) := m_at_of r_M_nextToken (by decide +kernel)
theorem i_M_nextToken_27 : m_at k_M_nextToken 27 = some (.dup, 1, 0) := m_at_of r_M_nextToken (by decide +kernel)
theorem i_M_nextToken_28 : m_at k_M_nextToken 28 = some (.getfield 104, 3, 102) := m_at_of r_M_nextToken (by decide +kernel)
theorem i_M_nextToken_31 : m_at k_M_nextToken 31 = some (.iconst 1, 1, 0) := m_at_of r_M_nextToken (by decide +kernel)
theorem i_M_nextToken_32 : m_at k_M_nextToken 32 = some (.iadd, 1, 0) := m_at_of r_M_nextToken (by decide +kernel)
theorem i_M_nextToken_33 : m_at k_M_nextToken 33 = some (.putfield 104, 3, 102) := m_at_of r_M_nextToken (by decide +kernel)
theorem i_M_nextToken_36 : m_at k_M_nextToken 36 = some (.goto (-36), 3, 0) := m_at_of r_M_nextToken (by decide +kernel)
theorem i_M_nextToken_39 : m_at k_M_nextToken 39 = some (.aload_n 0, 1, 0) := m_at_of r_M_nextToken (by decide +kernel)
theorem i_M_nextToken_40 : m_at k_M_nextToken 40 = some (.aload_n 0, 1, 0) := m_at_of r_M_nextToken (by decide +kernel)
theorem i_M_nextToken_41 : m_at k_M_nextToken 41 = some (.getfield 104, 3, 102) := m_at_of r_M_nextToken (by decide +kernel)
theorem i_M_nextToken_44 : m_at k_M_nextToken 44 = some (.putfield 110, 3, 98) := m_at_of r_M_nextToken (by decide +kernel)
theorem i_M_nextToken_47 : m_at k_M_nextToken 47 = some (.aload_n 0, 1, 0) := m_at_of r_M_nextToken (by decide +kernel)
theorem i_M_nextToken_48 : m_at k_M_nextToken 48 = some (.aload_n 0, 1, 0) := m_at_of r_M_nextToken (by decide +kernel)
theorem i_M_nextToken_49 : m_at k_M_nextToken 49 = some (.getfield 104, 3, 102) := m_at_of r_M_nextToken (by decide +kernel)
theorem i_M_nextToken_52 : m_at k_M_nextToken 52 = some (.invokevirtual 107, 3, 359) := m_at_of r_M_nextToken (by decide +kernel)
theorem i_M_nextToken_55 : m_at k_M_nextToken 55 = some (.istore_n 1, 1, 0) := m_at_of r_M_nextToken (by decide +kernel)
theorem i_M_nextToken_56 : m_at k_M_nextToken 56 = some (.iload_n 1, 1, 0) := m_at_of r_M_nextToken (by decide +kernel)
theorem i_M_nextToken_57 : m_at k_M_nextToken 57 = some (.ifCond .ge (11), 3, 0) := m_at_of r_M_nextToken (by decide +kernel)
theorem i_M_nextToken_60 : m_at k_M_nextToken 60 = some (.aload_n 0, 1, 0) := m_at_of r_M_nextToken (by decide +kernel)
theorem i_M_nextToken_61 : m_at k_M_nextToken 61 = some (.iconst 0, 1, 0) := m_at_of r_M_nextToken (by decide +kernel)
theorem i_M_nextToken_62 : m_at k_M_nextToken 62 = some (.putfield 113, 3, 103) := m_at_of r_M_nextToken (by decide +kernel)
theorem i_M_nextToken_65 : m_at k_M_nextToken 65 = some (.goto (245), 3, 0) := m_at_of r_M_nextToken (by decide +kernel)
theorem i_M_nextToken_68 : m_at k_M_nextToken 68 = some (.iload_n 1, 1, 0) := m_at_of r_M_nextToken (by decide +kernel)
theorem i_M_nextToken_69 : m_at k_M_nextToken 69 = some (.invokestatic 116, 3, 360) := m_at_of r_M_nextToken (by decide +kernel)
theorem i_M_nextToken_72 : m_at k_M_nextToken 72 = some (.ifCond .eq (79), 3, 0) := m_at_of r_M_nextToken (by decide +kernel)
theorem i_M_nextToken_75 : m_at k_M_nextToken 75 = some (.aload_n 0, 1, 0) := m_at_of r_M_nextToken (by decide +kernel)
theorem i_M_nextToken_76 : m_at k_M_nextToken 76 = some (.iconst 1, 1, 0) := m_at_of r_M_nextToken (by decide +kernel)
theorem i_M_nextToken_77 : m_at k_M_nextToken 77 = some (.putfield 113, 3, 103) := m_at_of r_M_nextToken (by decide +kernel)
theorem i_M_nextToken_80 : m_at k_M_nextToken 80 = some (.aload_n 0, 1, 0) := m_at_of r_M_nextToken (by decide +kernel)
theorem i_M_nextToken_81 : m_at k_M_nextToken 81 = some (.iconst 0, 1, 0) := m_at_of r_M_nextToken (by decide +kernel)
theorem i_M_nextToken_82 : m_at k_M_nextToken 82 = some (.putfield 119, 3, 108) := m_at_of r_M_nextToken (by decide +kernel)
theorem i_M_nextToken_85 : m_at k_M_nextToken 85 = some (.aload_n 0, 1, 0) := m_at_of r_M_nextToken (by decide +kernel)
theorem i_M_nextToken_86 : m_at k_M_nextToken 86 = some (.aload_n 0, 1, 0) := m_at_of r_M_nextToken (by decide +kernel)
theorem i_M_nextToken_87 : m_at k_M_nextToken 87 = some (.getfield 104, 3, 102) := m_at_of r_M_nextToken (by decide +kernel)
theorem i_M_nextToken_90 : m_at k_M_nextToken 90 = some (.invokevirtual 107, 3, 359) := m_at_of r_M_nextToken (by decide +kernel)
theorem i_M_nextToken_93 : m_at k_M_nextToken 93 = some (.invokestatic 116, 3, 360) := m_at_of r_M_nextToken (by decide +kernel)
theorem i_M_nextToken_96 : m_at k_M_nextToken 96 = some (.ifCond .eq (214), 3, 0) := m_at_of r_M_nextToken (by decide +kernel)
theorem i_M_nextToken_99 : m_at k_M_nextToken 99 = some (.aload_n 0, 1, 0) := m_at_of r_M_nextToken (by decide +kernel)
theorem i_M_nextToken_100 : m_at k_M_nextToken 100 = some (.aload_n 0, 1, 0) := m_at_of r_M_nextToken (by decide +kernel)
theorem i_M_nextToken_101 : m_at k_M_nextToken 101 = some (.getfield 119, 3, 108) := m_at_of r_M_nextToken (by decide +kernel)
theorem i_M_nextToken_104 : m_at k_M_nextToken 104 = some (.ldc 122, 2, 6) := m_at_of r_M_nextToken (by decide +kernel)
theorem i_M_nextToken_106 : m_at k_M_nextToken 106 = some (.if_icmp .le (10), 3, 0) := m_at_of r_M_nextToken (by decide +kernel)
theorem i_M_nextToken_109 : m_at k_M_nextToken 109 = some (.aload_n 0, 1, 0) := m_at_of r_M_nextToken (by decide +kernel)
theorem i_M_nextToken_110 : m_at k_M_nextToken 110 = some (.getfield 119, 3, 108) := m_at_of r_M_nextToken (by decide +kernel)
theorem i_M_nextToken_113 : m_at k_M_nextToken 113 = some (.goto (22), 3, 0) := m_at_of r_M_nextToken (by decide +kernel)
theorem i_M_nextToken_116 : m_at k_M_nextToken 116 = some (.bipush 10, 2, 0) := m_at_of r_M_nextToken (by decide +kernel)
theorem i_M_nextToken_118 : m_at k_M_nextToken 118 = some (.aload_n 0, 1, 0) := m_at_of r_M_nextToken (by decide +kernel)
theorem i_M_nextToken_119 : m_at k_M_nextToken 119 = some (.getfield 119, 3, 108) := m_at_of r_M_nextToken (by decide +kernel)
theorem i_M_nextToken_122 : m_at k_M_nextToken 122 = some (.imul, 1, 0) := m_at_of r_M_nextToken (by decide +kernel)
theorem i_M_nextToken_123 : m_at k_M_nextToken 123 = some (.aload_n 0, 1, 0) := m_at_of r_M_nextToken (by decide +kernel)
theorem i_M_nextToken_124 : m_at k_M_nextToken 124 = some (.aload_n 0, 1, 0) := m_at_of r_M_nextToken (by decide +kernel)
theorem i_M_nextToken_125 : m_at k_M_nextToken 125 = some (.getfield 104, 3, 102) := m_at_of r_M_nextToken (by decide +kernel)
theorem i_M_nextToken_128 : m_at k_M_nextToken 128 = some (.invokevirtual 107, 3, 359) := m_at_of r_M_nextToken (by decide +kernel)
theorem i_M_nextToken_131 : m_at k_M_nextToken 131 = some (.iadd, 1, 0) := m_at_of r_M_nextToken (by decide +kernel)
theorem i_M_nextToken_132 : m_at k_M_nextToken 132 = some (.bipush 48, 2, 0) := m_at_of r_M_nextToken (by decide +kernel)
theorem i_M_nextToken_134 : m_at k_M_nextToken 134 = some (.isub, 1, 0) := m_at_of r_M_nextToken (by decide +kernel)
theorem i_M_nextToken_135 : m_at k_M_nextToken 135 = some (.putfield 119, 3, 108) := m_at_of r_M_nextToken (by decide +kernel)
theorem i_M_nextToken_138 : m_at k_M_nextToken 138 = some (.aload_n 0, 1, 0) := m_at_of r_M_nextToken (by decide +kernel)
theorem i_M_nextToken_139 : m_at k_M_nextToken 139 = some (.dup, 1, 0) := m_at_of r_M_nextToken (by decide +kernel)
theorem i_M_nextToken_140 : m_at k_M_nextToken 140 = some (.getfield 104, 3, 102) := m_at_of r_M_nextToken (by decide +kernel)
theorem i_M_nextToken_143 : m_at k_M_nextToken 143 = some (.iconst 1, 1, 0) := m_at_of r_M_nextToken (by decide +kernel)
theorem i_M_nextToken_144 : m_at k_M_nextToken 144 = some (.iadd, 1, 0) := m_at_of r_M_nextToken (by decide +kernel)
theorem i_M_nextToken_145 : m_at k_M_nextToken 145 = some (.putfield 104, 3, 102) := m_at_of r_M_nextToken (by decide +kernel)
theorem i_M_nextToken_148 : m_at k_M_nextToken 148 = some (.goto (-63), 3, 0) := m_at_of r_M_nextToken (by decide +kernel)
theorem i_M_nextToken_151 : m_at k_M_nextToken 151 = some (.iload_n 1, 1, 0) := m_at_of r_M_nextToken (by decide +kernel)
theorem i_M_nextToken_152 : m_at k_M_nextToken 152 = some (.invokestatic 123, 3, 361) := m_at_of r_M_nextToken (by decide +kernel)
theorem i_M_nextToken_155 : m_at k_M_nextToken 155 = some (.ifCond .eq (79), 3, 0) := m_at_of r_M_nextToken (by decide +kernel)
theorem i_M_nextToken_158 : m_at k_M_nextToken 158 = some (.aload_n 0, 1, 0) := m_at_of r_M_nextToken (by decide +kernel)
theorem i_M_nextToken_159 : m_at k_M_nextToken 159 = some (.iconst 2, 1, 0) := m_at_of r_M_nextToken (by decide +kernel)
theorem i_M_nextToken_160 : m_at k_M_nextToken 160 = some (.putfield 113, 3, 103) := m_at_of r_M_nextToken (by decide +kernel)
theorem i_M_nextToken_163 : m_at k_M_nextToken 163 = some (.aload_n 0, 1, 0) := m_at_of r_M_nextToken (by decide +kernel)
theorem i_M_nextToken_164 : m_at k_M_nextToken 164 = some (.lconst 0, 1, 0) := m_at_of r_M_nextToken (by decide +kernel)
theorem i_M_nextToken_165 : m_at k_M_nextToken 165 = some (.putfield 126, 3, 110) := m_at_of r_M_nextToken (by decide +kernel)
theorem i_M_nextToken_168 : m_at k_M_nextToken 168 = some (.aload_n 0, 1, 0) := m_at_of r_M_nextToken (by decide +kernel)
theorem i_M_nextToken_169 : m_at k_M_nextToken 169 = some (.aload_n 0, 1, 0) := m_at_of r_M_nextToken (by decide +kernel)
theorem i_M_nextToken_170 : m_at k_M_nextToken 170 = some (.getfield 104, 3, 102) := m_at_of r_M_nextToken (by decide +kernel)
theorem i_M_nextToken_173 : m_at k_M_nextToken 173 = some (.invokevirtual 107, 3, 359) := m_at_of r_M_nextToken (by decide +kernel)
theorem i_M_nextToken_176 : m_at k_M_nextToken 176 = some (.invokestatic 123, 3, 361) := m_at_of r_M_nextToken (by decide +kernel)
theorem i_M_nextToken_179 : m_at k_M_nextToken 179 = some (.ifCond .eq (131), 3, 0) := m_at_of r_M_nextToken (by decide +kernel)
theorem i_M_nextToken_182 : m_at k_M_nextToken 182 = some (.aload_n 0, 1, 0) := m_at_of r_M_nextToken (by decide +kernel)
theorem i_M_nextToken_183 : m_at k_M_nextToken 183 = some (.aload_n 0, 1, 0) := m_at_of r_M_nextToken (by decide +kernel)
theorem i_M_nextToken_184 : m_at k_M_nextToken 184 = some (.getfield 126, 3, 110) := m_at_of r_M_nextToken (by decide +kernel)
theorem i_M_nextToken_187 : m_at k_M_nextToken 187 = some (.bipush 48, 2, 0) := m_at_of r_M_nextToken (by decide +kernel)
theorem i_M_nextToken_189 : m_at k_M_nextToken 189 = some (.lshr, 1, 0) := m_at_of r_M_nextToken (by decide +kernel)
theorem i_M_nextToken_190 : m_at k_M_nextToken 190 = some (.lconst 0, 1, 0) := m_at_of r_M_nextToken (by decide +kernel)
theorem i_M_nextToken_191 : m_at k_M_nextToken 191 = some (.lcmp, 1, 0) := m_at_of r_M_nextToken (by decide +kernel)
theorem i_M_nextToken_192 : m_at k_M_nextToken 192 = some (.ifCond .eq (9), 3, 0) := m_at_of r_M_nextToken (by decide +kernel)
theorem i_M_nextToken_195 : m_at k_M_nextToken 195 = some (.ldc2_w 130, 3, 10) := m_at_of r_M_nextToken (by decide +kernel)
theorem i_M_nextToken_198 : m_at k_M_nextToken 198 = some (.goto (20), 3, 0) := m_at_of r_M_nextToken (by decide +kernel)
theorem i_M_nextToken_201 : m_at k_M_nextToken 201 = some (.aload_n 0, 1, 0) := m_at_of r_M_nextToken (by decide +kernel)
theorem i_M_nextToken_202 : m_at k_M_nextToken 202 = some (.getfield 126, 3, 110) := m_at_of r_M_nextToken (by decide +kernel)
theorem i_M_nextToken_205 : m_at k_M_nextToken 205 = some (.bipush 8, 2, 0) := m_at_of r_M_nextToken (by decide +kernel)
theorem i_M_nextToken_207 : m_at k_M_nextToken 207 = some (.lshl, 1, 0) := m_at_of r_M_nextToken (by decide +kernel)
theorem i_M_nextToken_208 : m_at k_M_nextToken 208 = some (.aload_n 0, 1, 0) := m_at_of r_M_nextToken (by decide +kernel)
theorem i_M_nextToken_209 : m_at k_M_nextToken 209 = some (.aload_n 0, 1, 0) := m_at_of r_M_nextToken (by decide +kernel)
theorem i_M_nextToken_210 : m_at k_M_nextToken 210 = some (.getfield 104, 3, 102) := m_at_of r_M_nextToken (by decide +kernel)
theorem i_M_nextToken_213 : m_at k_M_nextToken 213 = some (.invokevirtual 107, 3, 359) := m_at_of r_M_nextToken (by decide +kernel)
theorem i_M_nextToken_216 : m_at k_M_nextToken 216 = some (.i2l, 1, 0) := m_at_of r_M_nextToken (by decide +kernel)
theorem i_M_nextToken_217 : m_at k_M_nextToken 217 = some (.lor, 1, 0) := m_at_of r_M_nextToken (by decide +kernel)
theorem i_M_nextToken_218 : m_at k_M_nextToken 218 = some (.putfield 126, 3, 110) := m_at_of r_M_nextToken (by decide +kernel)
theorem i_M_nextToken_221 : m_at k_M_nextToken 221 = some (.aload_n 0, 1, 0) := m_at_of r_M_nextToken (by decide +kernel)
theorem i_M_nextToken_222 : m_at k_M_nextToken 222 = some (.dup, 1, 0) := m_at_of r_M_nextToken (by decide +kernel)
theorem i_M_nextToken_223 : m_at k_M_nextToken 223 = some (.getfield 104, 3, 102) := m_at_of r_M_nextToken (by decide +kernel)
theorem i_M_nextToken_226 : m_at k_M_nextToken 226 = some (.iconst 1, 1, 0) := m_at_of r_M_nextToken (by decide +kernel)
theorem i_M_nextToken_227 : m_at k_M_nextToken 227 = some (.iadd, 1, 0) := m_at_of r_M_nextToken (by decide +kernel)
theorem i_M_nextToken_228 : m_at k_M_nextToken 228 = some (.putfield 104, 3, 102) := m_at_of r_M_nextToken (by decide +kernel)
theorem i_M_nextToken_231 : m_at k_M_nextToken 231 = some (.goto (-63), 3, 0) := m_at_of r_M_nextToken (by decide +kernel)
theorem i_M_nextToken_234 : m_at k_M_nextToken 234 = some (.aload_n 0, 1, 0) := m_at_of r_M_nextToken (by decide +kernel)
theorem i_M_nextToken_235 : m_at k_M_nextToken 235 = some (.iload_n 1, 1, 0) := m_at_of r_M_nextToken (by decide +kernel)
theorem i_M_nextToken_236 : m_at k_M_nextToken 236 = some (.invokestatic 132, 3, 362) := m_at_of r_M_nextToken (by decide +kernel)
theorem i_M_nextToken_239 : m_at k_M_nextToken 239 = some (.ifCond .eq (7), 3, 0) := m_at_of r_M_nextToken (by decide +kernel)
theorem i_M_nextToken_242 : m_at k_M_nextToken 242 = some (.iload_n 1, 1, 0) := m_at_of r_M_nextToken (by decide +kernel)
theorem i_M_nextToken_243 : m_at k_M_nextToken 243 = some (.goto (4), 3, 0) := m_at_of r_M_nextToken (by decide +kernel)
theorem i_M_nextToken_246 : m_at k_M_nextToken 246 = some (.iconst 3, 1, 0) := m_at_of r_M_nextToken (by decide +kernel)
theorem i_M_nextToken_247 : m_at k_M_nextToken 247 = some (.putfield 113, 3, 103) := m_at_of r_M_nextToken (by decide +kernel)
theorem i_M_nextToken_250 : m_at k_M_nextToken 250 = some (.aload_n 0, 1, 0) := m_at_of r_M_nextToken (by decide +kernel)
theorem i_M_nextToken_251 : m_at k_M_nextToken 251 = some (.dup, 1, 0) := m_at_of r_M_nextToken (by decide +kernel)
theorem i_M_nextToken_252 : m_at k_M_nextToken 252 = some (.getfield 104, 3, 102) := m_at_of r_M_nextToken (by decide +kernel)
theorem i_M_nextToken_255 : m_at k_M_nextToken 255 = some (.iconst 1, 1, 0) := m_at_of r_M_nextToken (by decide +kernel)
theorem i_M_nextToken_256 : m_at k_M_nextToken 256 = some (.iadd, 1, 0) := m_at_of r_M_nextToken (by decide +kernel)
theorem i_M_nextToken_257 : m_at k_M_nextToken 257 = some (.putfield 104, 3, 102) := m_at_of r_M_nextToken (by decide +kernel)
theorem i_M_nextToken_260 : m_at k_M_nextToken 260 = some (.iload_n 1, 1, 0) := m_at_of r_M_nextToken (by decide +kernel)
theorem i_M_nextToken_261 : m_at k_M_nextToken 261 = some (.bipush 60, 2, 0) := m_at_of r_M_nextToken (by decide +kernel)
theorem i_M_nextToken_263 : m_at k_M_nextToken 263 = some (.if_icmp .eq (9), 3, 0) := m_at_of r_M_nextToken (by decide +kernel)
theorem i_M_nextToken_266 : m_at k_M_nextToken 266 = some (.iload_n 1, 1, 0) := m_at_of r_M_nextToken (by decide +kernel)
theorem i_M_nextToken_267 : m_at k_M_nextToken 267 = some (.bipush 62, 2, 0) := m_at_of r_M_nextToken (by decide +kernel)
theorem i_M_nextToken_269 : m_at k_M_nextToken 269 = some (.if_icmp .ne (41), 3, 0) := m_at_of r_M_nextToken (by decide +kernel)
theorem i_M_nextToken_272 : m_at k_M_nextToken 272 = some (.aload_n 0, 1, 0) := m_at_of r_M_nextToken (by decide +kernel)
theorem i_M_nextToken_273 : m_at k_M_nextToken 273 = some (.aload_n 0, 1, 0) := m_at_of r_M_nextToken (by decide +kernel)
theorem i_M_nextToken_274 : m_at k_M_nextToken 274 = some (.getfield 104, 3, 102) := m_at_of r_M_nextToken (by decide +kernel)
theorem i_M_nextToken_277 : m_at k_M_nextToken 277 = some (.invokevirtual 107, 3, 359) := m_at_of r_M_nextToken (by decide +kernel)
theorem i_M_nextToken_280 : m_at k_M_nextToken 280 = some (.bipush 61, 2, 0) := m_at_of r_M_nextToken (by decide +kernel)
theorem i_M_nextToken_282 : m_at k_M_nextToken 282 = some (.if_icmp .ne (28), 3, 0) := m_at_of r_M_nextToken (by decide +kernel)
theorem i_M_nextToken_285 : m_at k_M_nextToken 285 = some (.aload_n 0, 1, 0) := m_at_of r_M_nextToken (by decide +kernel)
theorem i_M_nextToken_286 : m_at k_M_nextToken 286 = some (.iload_n 1, 1, 0) := m_at_of r_M_nextToken (by decide +kernel)
theorem i_M_nextToken_287 : m_at k_M_nextToken 287 = some (.bipush 60, 2, 0) := m_at_of r_M_nextToken (by decide +kernel)
theorem i_M_nextToken_289 : m_at k_M_nextToken 289 = some (.if_icmp .ne (7), 3, 0) := m_at_of r_M_nextToken (by decide +kernel)
theorem i_M_nextToken_292 : m_at k_M_nextToken 292 = some (.iconst 4, 1, 0) := m_at_of r_M_nextToken (by decide +kernel)
theorem i_M_nextToken_293 : m_at k_M_nextToken 293 = some (.goto (4), 3, 0) := m_at_of r_M_nextToken (by decide +kernel)
theorem i_M_nextToken_296 : m_at k_M_nextToken 296 = some (.iconst 5, 1, 0) := m_at_of r_M_nextToken (by decide +kernel)
theorem i_M_nextToken_297 : m_at k_M_nextToken 297 = some (.putfield 113, 3, 103) := m_at_of r_M_nextToken (by decide +kernel)
theorem i_M_nextToken_300 : m_at k_M_nextToken 300 = some (.aload_n 0, 1, 0) := m_at_of r_M_nextToken (by decide +kernel)
theorem i_M_nextToken_301 : m_at k_M_nextToken 301 = some (.dup, 1, 0) := m_at_of r_M_nextToken (by decide +kernel)
theorem i_M_nextToken_302 : m_at k_M_nextToken 302 = some (.getfield 104, 3, 102) := m_at_of r_M_nextToken (by decide +kernel)
theorem i_M_nextToken_305 : m_at k_M_nextToken 305 = some (.iconst 1, 1, 0) := m_at_of r_M_nextToken (by decide +kernel)
theorem i_M_nextToken_306 : m_at k_M_nextToken 306 = some (.iadd, 1, 0) := m_at_of r_M_nextToken (by decide +kernel)
theorem i_M_nextToken_307 : m_at k_M_nextToken 307 = some (.putfield 104, 3, 102) := m_at_of r_M_nextToken (by decide +kernel)
theorem i_M_nextToken_310 : m_at k_M_nextToken 310 = some (.return_, 1, 0) := m_at_of r_M_nextToken (by decide +kernel)
set_option maxRecDepth 20000 in
set_option maxHeartbeats 1000000 in
theorem E_M_nextToken (x : m_X) (s : m_H) (w : Nat) : m_M x k_M_nextToken [.ref w] s = if m_isO s w 11 = true then ((m_fI s 11 7 w).bind fun v2 => m_bI (m_M x k_M_byteAt [.ref w, .int v2] s) fun v5 s5 => if v5 = 32 then ((m_fI s5 11 7 w).bind fun v28 => (m_pf s5 11 7 w (.int (v28 + (1 : Int32)))).bind fun s33 => m_D x 2 k_M_nextToken 0 [some (.ref w), none] [] s33) else (m_fI s5 11 7 w).bind fun v15 => m_bI (m_M x k_M_byteAt [.ref w, .int v15] s5) fun v18 s18 => if v18 = 10 then ((m_fI s18 11 7 w).bind fun v28 => (m_pf s18 11 7 w (.int (v28 + (1 : Int32)))).bind fun s33 => m_D x 2 k_M_nextToken 0 [some (.ref w), none] [] s33) else (m_fI s18 11 7 w).bind fun v41 => (m_pf s18 11 8 w (.int v41)).bind fun s44 => (m_fI s44 11 7 w).bind fun v49 => m_bI (m_M x k_M_byteAt [.ref w, .int v49] s44) fun v52 s52 => if 0 ≤ v52 then (m_bI (m_M x k_M_isFigure [.int v52] s52) fun v69 s69 => if v69 = 0 then (m_bI (m_M x k_M_isLetterByte [.int v52] s69) fun v152 s152 => if v152 = 0 then (m_bI (m_M x k_M_isSign [.int v52] s152) fun v236 s236 => if v236 = 0 then ((m_pf s236 11 9 w (.int 3)).bind fun s247 => (m_fI s247 11 7 w).bind fun v252 => (m_pf s247 11 7 w (.int (v252 + (1 : Int32)))).bind fun s257 => if v52 = 60 then (m_D x 2 k_M_nextToken 272 [some (.ref w), some (.int v52)] [] s257) else if v52 = 62 then (m_D x 2 k_M_nextToken 272 [some (.ref w), some (.int v52)] [] s257) else some (none, s257)) else (m_pf s236 11 9 w (.int v52)).bind fun s247 => (m_fI s247 11 7 w).bind fun v252 => (m_pf s247 11 7 w (.int (v252 + (1 : Int32)))).bind fun s257 => if v52 = 60 then (m_D x 2 k_M_nextToken 272 [some (.ref w), some (.int v52)] [] s257) else if v52 = 62 then (m_D x 2 k_M_nextToken 272 [some (.ref w), some (.int v52)] [] s257) else some (none, s257)) else (m_pf s152 11 9 w (.int 2)).bind fun s160 => (m_pf s160 11 11 w (.long 0)).bind fun s165 => m_D x 2 k_M_nextToken 168 [some (.ref w), some (.int v52)] [] s165) else (m_pf s69 11 9 w (.int 1)).bind fun s77 => (m_pf s77 11 10 w (.int 0)).bind fun s82 => m_D x 2 k_M_nextToken 85 [some (.ref w), some (.int v52)] [] s82) else (m_pf s52 11 9 w (.int 0)).bind fun s62 => some (none, s62)) else none := by
  refine e_M1 (L0 := [some (.ref w), none]) rfl (by decide +kernel) rfl (q_M_nextToken _) rfl ?_
  refine e_aload_n i_M_nextToken_0 rfl ?_
  refine e_aload_n i_M_nextToken_1 rfl ?_
  refine e_getI i_M_nextToken_2 lf_102 (by decide) (Or.inl ft_11_7) (fun v2 => ?_)
  refine e_callI (as := [.ref w, .int v2]) (st' := []) i_M_nextToken_5 lm_359 (Or.inr (Or.inl ⟨rfl, rfl⟩)) w_M_byteAt rfl rfl rfl (Nat.le_of_ble_eq_true rfl) (Nat.le_of_ble_eq_true rfl) (m_rlt (q_M_byteAt _) (by decide)) rfl (fun v5 s5 => ?_)
  refine e_bipush (v := 32) i_M_nextToken_8 (by decide) ?_
  refine e_icmpeq (t := 26) i_M_nextToken_10 (by decide) ?_ ?_
  · refine e_aload_n i_M_nextToken_26 rfl ?_
    refine e_dup i_M_nextToken_27 rfl ?_
    refine e_getI i_M_nextToken_28 lf_102 (by decide) (Or.inl ft_11_7) (fun v28 => ?_)
    refine e_iconst (v := 1) i_M_nextToken_31 (by decide) ?_
    refine e_iadd i_M_nextToken_32 ?_
    refine e_putf i_M_nextToken_33 lf_102 ft_11_7 rfl (fun s33 => ?_)
    refine e_goto (t := 0) i_M_nextToken_36 (by decide) ?_
    exact rfl
  · refine e_aload_n i_M_nextToken_13 rfl ?_
    refine e_aload_n i_M_nextToken_14 rfl ?_
    refine e_getI i_M_nextToken_15 lf_102 (by decide) (Or.inl ft_11_7) (fun v15 => ?_)
    refine e_callI (as := [.ref w, .int v15]) (st' := []) i_M_nextToken_18 lm_359 (Or.inr (Or.inl ⟨rfl, rfl⟩)) w_M_byteAt rfl rfl rfl (Nat.le_of_ble_eq_true rfl) (Nat.le_of_ble_eq_true rfl) (m_rlt (q_M_byteAt _) (by decide)) rfl (fun v18 s18 => ?_)
    refine e_bipush (v := 10) i_M_nextToken_21 (by decide) ?_
    refine e_icmpne (t := 39) i_M_nextToken_23 (by decide) ?_ ?_
    · refine e_aload_n i_M_nextToken_39 rfl ?_
      refine e_aload_n i_M_nextToken_40 rfl ?_
      refine e_getI i_M_nextToken_41 lf_102 (by decide) (Or.inl ft_11_7) (fun v41 => ?_)
      refine e_putf i_M_nextToken_44 lf_98 ft_11_8 rfl (fun s44 => ?_)
      refine e_aload_n i_M_nextToken_47 rfl ?_
      refine e_aload_n i_M_nextToken_48 rfl ?_
      refine e_getI i_M_nextToken_49 lf_102 (by decide) (Or.inl ft_11_7) (fun v49 => ?_)
      refine e_callI (as := [.ref w, .int v49]) (st' := []) i_M_nextToken_52 lm_359 (Or.inr (Or.inl ⟨rfl, rfl⟩)) w_M_byteAt rfl rfl rfl (Nat.le_of_ble_eq_true rfl) (Nat.le_of_ble_eq_true rfl) (m_rlt (q_M_byteAt _) (by decide)) rfl (fun v52 s52 => ?_)
      refine e_istore_n (L' := [some (.ref w), some (.int v52)]) i_M_nextToken_55 (of_decide_eq_true rfl) rfl ?_
      refine e_iload_n i_M_nextToken_56 rfl ?_
      refine e_ifge (t := 68) i_M_nextToken_57 (by decide) ?_ ?_
      · refine e_iload_n i_M_nextToken_68 rfl ?_
        refine e_callI (as := [.int v52]) (st' := []) i_M_nextToken_69 lm_360 (Or.inl ⟨rfl, rfl⟩) w_M_isFigure rfl rfl rfl (Nat.le_of_ble_eq_true rfl) (Nat.le_of_ble_eq_true rfl) (m_rlt (q_M_isFigure _) (by decide)) rfl (fun v69 s69 => ?_)
        refine e_ifeq (t := 151) i_M_nextToken_72 (by decide) ?_ ?_
        · refine e_iload_n i_M_nextToken_151 rfl ?_
          refine e_callI (as := [.int v52]) (st' := []) i_M_nextToken_152 lm_361 (Or.inl ⟨rfl, rfl⟩) w_M_isLetterByte rfl rfl rfl (Nat.le_of_ble_eq_true rfl) (Nat.le_of_ble_eq_true rfl) (m_rlt (q_M_isLetterByte _) (by decide)) rfl (fun v152 s152 => ?_)
          refine e_ifeq (t := 234) i_M_nextToken_155 (by decide) ?_ ?_
          · refine e_aload_n i_M_nextToken_234 rfl ?_
            refine e_iload_n i_M_nextToken_235 rfl ?_
            refine e_callI (as := [.int v52]) (st' := [.ref w]) i_M_nextToken_236 lm_362 (Or.inl ⟨rfl, rfl⟩) w_M_isSign rfl rfl rfl (Nat.le_of_ble_eq_true rfl) (Nat.le_of_ble_eq_true rfl) (m_rlt (q_M_isSign _) (by decide)) rfl (fun v236 s236 => ?_)
            refine e_ifeq (t := 246) i_M_nextToken_239 (by decide) ?_ ?_
            · refine e_iconst (v := 3) i_M_nextToken_246 (by decide) ?_
              refine e_putf i_M_nextToken_247 lf_103 ft_11_9 rfl (fun s247 => ?_)
              refine e_aload_n i_M_nextToken_250 rfl ?_
              refine e_dup i_M_nextToken_251 rfl ?_
              refine e_getI i_M_nextToken_252 lf_102 (by decide) (Or.inl ft_11_7) (fun v252 => ?_)
              refine e_iconst (v := 1) i_M_nextToken_255 (by decide) ?_
              refine e_iadd i_M_nextToken_256 ?_
              refine e_putf i_M_nextToken_257 lf_102 ft_11_7 rfl (fun s257 => ?_)
              refine e_iload_n i_M_nextToken_260 rfl ?_
              refine e_bipush (v := 60) i_M_nextToken_261 (by decide) ?_
              refine e_icmpeq (t := 272) i_M_nextToken_263 (by decide) ?_ ?_
              · exact rfl
              · refine e_iload_n i_M_nextToken_266 rfl ?_
                refine e_bipush (v := 62) i_M_nextToken_267 (by decide) ?_
                refine e_icmpne (t := 310) i_M_nextToken_269 (by decide) ?_ ?_
                · exact e_vret i_M_nextToken_310 rfl
                · exact rfl
            · refine e_iload_n i_M_nextToken_242 rfl ?_
              refine e_goto (t := 247) i_M_nextToken_243 (by decide) ?_
              refine e_putf i_M_nextToken_247 lf_103 ft_11_9 rfl (fun s247 => ?_)
              refine e_aload_n i_M_nextToken_250 rfl ?_
              refine e_dup i_M_nextToken_251 rfl ?_
              refine e_getI i_M_nextToken_252 lf_102 (by decide) (Or.inl ft_11_7) (fun v252 => ?_)
              refine e_iconst (v := 1) i_M_nextToken_255 (by decide) ?_
              refine e_iadd i_M_nextToken_256 ?_
              refine e_putf i_M_nextToken_257 lf_102 ft_11_7 rfl (fun s257 => ?_)
              refine e_iload_n i_M_nextToken_260 rfl ?_
              refine e_bipush (v := 60) i_M_nextToken_261 (by decide) ?_
              refine e_icmpeq (t := 272) i_M_nextToken_263 (by decide) ?_ ?_
              · exact rfl
              · refine e_iload_n i_M_nextToken_266 rfl ?_
                refine e_bipush (v := 62) i_M_nextToken_267 (by decide) ?_
                refine e_icmpne (t := 310) i_M_nextToken_269 (by decide) ?_ ?_
                · exact e_vret i_M_nextToken_310 rfl
                · exact rfl
          · refine e_aload_n i_M_nextToken_158 rfl ?_
            refine e_iconst (v := 2) i_M_nextToken_159 (by decide) ?_
            refine e_putf i_M_nextToken_160 lf_103 ft_11_9 rfl (fun s160 => ?_)
            refine e_aload_n i_M_nextToken_163 rfl ?_
            refine e_lconst (v := 0) i_M_nextToken_164 (by decide) ?_
            refine e_putf i_M_nextToken_165 lf_110 ft_11_11 rfl (fun s165 => ?_)
            exact rfl
        · refine e_aload_n i_M_nextToken_75 rfl ?_
          refine e_iconst (v := 1) i_M_nextToken_76 (by decide) ?_
          refine e_putf i_M_nextToken_77 lf_103 ft_11_9 rfl (fun s77 => ?_)
          refine e_aload_n i_M_nextToken_80 rfl ?_
          refine e_iconst (v := 0) i_M_nextToken_81 (by decide) ?_
          refine e_putf i_M_nextToken_82 lf_108 ft_11_10 rfl (fun s82 => ?_)
          exact rfl
      · refine e_aload_n i_M_nextToken_60 rfl ?_
        refine e_iconst (v := 0) i_M_nextToken_61 (by decide) ?_
        refine e_putf i_M_nextToken_62 lf_103 ft_11_9 rfl (fun s62 => ?_)
        refine e_goto (t := 310) i_M_nextToken_65 (by decide) ?_
        exact e_vret i_M_nextToken_310 rfl
    · refine e_aload_n i_M_nextToken_26 rfl ?_
      refine e_dup i_M_nextToken_27 rfl ?_
      refine e_getI i_M_nextToken_28 lf_102 (by decide) (Or.inl ft_11_7) (fun v28 => ?_)
      refine e_iconst (v := 1) i_M_nextToken_31 (by decide) ?_
      refine e_iadd i_M_nextToken_32 ?_
      refine e_putf i_M_nextToken_33 lf_102 ft_11_7 rfl (fun s33 => ?_)
      refine e_goto (t := 0) i_M_nextToken_36 (by decide) ?_
      exact rfl
set_option maxRecDepth 20000 in
set_option maxHeartbeats 1000000 in
theorem E_M_nextToken_0 (x : m_X) (ρ : Nat) (hρ : 2 ≤ ρ) (s : m_H) (w : Nat)  : m_D x ρ k_M_nextToken 0 [some (.ref w), none] [] s = (m_fI s 11 7 w).bind fun v2 => m_bI (m_M x k_M_byteAt [.ref w, .int v2] s) fun v5 s5 => if v5 = 32 then ((m_fI s5 11 7 w).bind fun v28 => (m_pf s5 11 7 w (.int (v28 + (1 : Int32)))).bind fun s33 => m_D x ρ k_M_nextToken 0 [some (.ref w), none] [] s33) else (m_fI s5 11 7 w).bind fun v15 => m_bI (m_M x k_M_byteAt [.ref w, .int v15] s5) fun v18 s18 => if v18 = 10 then ((m_fI s18 11 7 w).bind fun v28 => (m_pf s18 11 7 w (.int (v28 + (1 : Int32)))).bind fun s33 => m_D x ρ k_M_nextToken 0 [some (.ref w), none] [] s33) else (m_fI s18 11 7 w).bind fun v41 => (m_pf s18 11 8 w (.int v41)).bind fun s44 => (m_fI s44 11 7 w).bind fun v49 => m_bI (m_M x k_M_byteAt [.ref w, .int v49] s44) fun v52 s52 => if 0 ≤ v52 then (m_bI (m_M x k_M_isFigure [.int v52] s52) fun v69 s69 => if v69 = 0 then (m_bI (m_M x k_M_isLetterByte [.int v52] s69) fun v152 s152 => if v152 = 0 then (m_bI (m_M x k_M_isSign [.int v52] s152) fun v236 s236 => if v236 = 0 then ((m_pf s236 11 9 w (.int 3)).bind fun s247 => (m_fI s247 11 7 w).bind fun v252 => (m_pf s247 11 7 w (.int (v252 + (1 : Int32)))).bind fun s257 => if v52 = 60 then (m_D x ρ k_M_nextToken 272 [some (.ref w), some (.int v52)] [] s257) else if v52 = 62 then (m_D x ρ k_M_nextToken 272 [some (.ref w), some (.int v52)] [] s257) else some (none, s257)) else (m_pf s236 11 9 w (.int v52)).bind fun s247 => (m_fI s247 11 7 w).bind fun v252 => (m_pf s247 11 7 w (.int (v252 + (1 : Int32)))).bind fun s257 => if v52 = 60 then (m_D x ρ k_M_nextToken 272 [some (.ref w), some (.int v52)] [] s257) else if v52 = 62 then (m_D x ρ k_M_nextToken 272 [some (.ref w), some (.int v52)] [] s257) else some (none, s257)) else (m_pf s152 11 9 w (.int 2)).bind fun s160 => (m_pf s160 11 11 w (.long 0)).bind fun s165 => m_D x ρ k_M_nextToken 168 [some (.ref w), some (.int v52)] [] s165) else (m_pf s69 11 9 w (.int 1)).bind fun s77 => (m_pf s77 11 10 w (.int 0)).bind fun s82 => m_D x ρ k_M_nextToken 85 [some (.ref w), some (.int v52)] [] s82) else (m_pf s52 11 9 w (.int 0)).bind fun s62 => some (none, s62) := by
  refine e_aload_n i_M_nextToken_0 rfl ?_
  refine e_aload_n i_M_nextToken_1 rfl ?_
  refine e_getI i_M_nextToken_2 lf_102 (by decide) (Or.inl ft_11_7) (fun v2 => ?_)
  refine e_callI (as := [.ref w, .int v2]) (st' := []) i_M_nextToken_5 lm_359 (Or.inr (Or.inl ⟨rfl, rfl⟩)) w_M_byteAt rfl rfl rfl (Nat.le_of_ble_eq_true rfl) (Nat.le_of_ble_eq_true rfl) (m_rlt (q_M_byteAt _) (Nat.lt_of_lt_of_le (by decide) hρ)) rfl (fun v5 s5 => ?_)
  refine e_bipush (v := 32) i_M_nextToken_8 (by decide) ?_
  refine e_icmpeq (t := 26) i_M_nextToken_10 (by decide) ?_ ?_
  · refine e_aload_n i_M_nextToken_26 rfl ?_
    refine e_dup i_M_nextToken_27 rfl ?_
    refine e_getI i_M_nextToken_28 lf_102 (by decide) (Or.inl ft_11_7) (fun v28 => ?_)
    refine e_iconst (v := 1) i_M_nextToken_31 (by decide) ?_
    refine e_iadd i_M_nextToken_32 ?_
    refine e_putf i_M_nextToken_33 lf_102 ft_11_7 rfl (fun s33 => ?_)
    refine e_goto (t := 0) i_M_nextToken_36 (by decide) ?_
    exact rfl
  · refine e_aload_n i_M_nextToken_13 rfl ?_
    refine e_aload_n i_M_nextToken_14 rfl ?_
    refine e_getI i_M_nextToken_15 lf_102 (by decide) (Or.inl ft_11_7) (fun v15 => ?_)
    refine e_callI (as := [.ref w, .int v15]) (st' := []) i_M_nextToken_18 lm_359 (Or.inr (Or.inl ⟨rfl, rfl⟩)) w_M_byteAt rfl rfl rfl (Nat.le_of_ble_eq_true rfl) (Nat.le_of_ble_eq_true rfl) (m_rlt (q_M_byteAt _) (Nat.lt_of_lt_of_le (by decide) hρ)) rfl (fun v18 s18 => ?_)
    refine e_bipush (v := 10) i_M_nextToken_21 (by decide) ?_
    refine e_icmpne (t := 39) i_M_nextToken_23 (by decide) ?_ ?_
    · refine e_aload_n i_M_nextToken_39 rfl ?_
      refine e_aload_n i_M_nextToken_40 rfl ?_
      refine e_getI i_M_nextToken_41 lf_102 (by decide) (Or.inl ft_11_7) (fun v41 => ?_)
      refine e_putf i_M_nextToken_44 lf_98 ft_11_8 rfl (fun s44 => ?_)
      refine e_aload_n i_M_nextToken_47 rfl ?_
      refine e_aload_n i_M_nextToken_48 rfl ?_
      refine e_getI i_M_nextToken_49 lf_102 (by decide) (Or.inl ft_11_7) (fun v49 => ?_)
      refine e_callI (as := [.ref w, .int v49]) (st' := []) i_M_nextToken_52 lm_359 (Or.inr (Or.inl ⟨rfl, rfl⟩)) w_M_byteAt rfl rfl rfl (Nat.le_of_ble_eq_true rfl) (Nat.le_of_ble_eq_true rfl) (m_rlt (q_M_byteAt _) (Nat.lt_of_lt_of_le (by decide) hρ)) rfl (fun v52 s52 => ?_)
      refine e_istore_n (L' := [some (.ref w), some (.int v52)]) i_M_nextToken_55 (of_decide_eq_true rfl) rfl ?_
      refine e_iload_n i_M_nextToken_56 rfl ?_
      refine e_ifge (t := 68) i_M_nextToken_57 (by decide) ?_ ?_
      · refine e_iload_n i_M_nextToken_68 rfl ?_
        refine e_callI (as := [.int v52]) (st' := []) i_M_nextToken_69 lm_360 (Or.inl ⟨rfl, rfl⟩) w_M_isFigure rfl rfl rfl (Nat.le_of_ble_eq_true rfl) (Nat.le_of_ble_eq_true rfl) (m_rlt (q_M_isFigure _) (Nat.lt_of_lt_of_le (by decide) hρ)) rfl (fun v69 s69 => ?_)
        refine e_ifeq (t := 151) i_M_nextToken_72 (by decide) ?_ ?_
        · refine e_iload_n i_M_nextToken_151 rfl ?_
          refine e_callI (as := [.int v52]) (st' := []) i_M_nextToken_152 lm_361 (Or.inl ⟨rfl, rfl⟩) w_M_isLetterByte rfl rfl rfl (Nat.le_of_ble_eq_true rfl) (Nat.le_of_ble_eq_true rfl) (m_rlt (q_M_isLetterByte _) (Nat.lt_of_lt_of_le (by decide) hρ)) rfl (fun v152 s152 => ?_)
          refine e_ifeq (t := 234) i_M_nextToken_155 (by decide) ?_ ?_
          · refine e_aload_n i_M_nextToken_234 rfl ?_
            refine e_iload_n i_M_nextToken_235 rfl ?_
            refine e_callI (as := [.int v52]) (st' := [.ref w]) i_M_nextToken_236 lm_362 (Or.inl ⟨rfl, rfl⟩) w_M_isSign rfl rfl rfl (Nat.le_of_ble_eq_true rfl) (Nat.le_of_ble_eq_true rfl) (m_rlt (q_M_isSign _) (Nat.lt_of_lt_of_le (by decide) hρ)) rfl (fun v236 s236 => ?_)
            refine e_ifeq (t := 246) i_M_nextToken_239 (by decide) ?_ ?_
            · refine e_iconst (v := 3) i_M_nextToken_246 (by decide) ?_
              refine e_putf i_M_nextToken_247 lf_103 ft_11_9 rfl (fun s247 => ?_)
              refine e_aload_n i_M_nextToken_250 rfl ?_
              refine e_dup i_M_nextToken_251 rfl ?_
              refine e_getI i_M_nextToken_252 lf_102 (by decide) (Or.inl ft_11_7) (fun v252 => ?_)
              refine e_iconst (v := 1) i_M_nextToken_255 (by decide) ?_
              refine e_iadd i_M_nextToken_256 ?_
              refine e_putf i_M_nextToken_257 lf_102 ft_11_7 rfl (fun s257 => ?_)
              refine e_iload_n i_M_nextToken_260 rfl ?_
              refine e_bipush (v := 60) i_M_nextToken_261 (by decide) ?_
              refine e_icmpeq (t := 272) i_M_nextToken_263 (by decide) ?_ ?_
              · exact rfl
              · refine e_iload_n i_M_nextToken_266 rfl ?_
                refine e_bipush (v := 62) i_M_nextToken_267 (by decide) ?_
                refine e_icmpne (t := 310) i_M_nextToken_269 (by decide) ?_ ?_
                · exact e_vret i_M_nextToken_310 rfl
                · exact rfl
            · refine e_iload_n i_M_nextToken_242 rfl ?_
              refine e_goto (t := 247) i_M_nextToken_243 (by decide) ?_
              refine e_putf i_M_nextToken_247 lf_103 ft_11_9 rfl (fun s247 => ?_)
              refine e_aload_n i_M_nextToken_250 rfl ?_
              refine e_dup i_M_nextToken_251 rfl ?_
              refine e_getI i_M_nextToken_252 lf_102 (by decide) (Or.inl ft_11_7) (fun v252 => ?_)
              refine e_iconst (v := 1) i_M_nextToken_255 (by decide) ?_
              refine e_iadd i_M_nextToken_256 ?_
              refine e_putf i_M_nextToken_257 lf_102 ft_11_7 rfl (fun s257 => ?_)
              refine e_iload_n i_M_nextToken_260 rfl ?_
              refine e_bipush (v := 60) i_M_nextToken_261 (by decide) ?_
              refine e_icmpeq (t := 272) i_M_nextToken_263 (by decide) ?_ ?_
              · exact rfl
              · refine e_iload_n i_M_nextToken_266 rfl ?_
                refine e_bipush (v := 62) i_M_nextToken_267 (by decide) ?_
                refine e_icmpne (t := 310) i_M_nextToken_269 (by decide) ?_ ?_
                · exact e_vret i_M_nextToken_310 rfl
                · exact rfl
          · refine e_aload_n i_M_nextToken_158 rfl ?_
            refine e_iconst (v := 2) i_M_nextToken_159 (by decide) ?_
            refine e_putf i_M_nextToken_160 lf_103 ft_11_9 rfl (fun s160 => ?_)
            refine e_aload_n i_M_nextToken_163 rfl ?_
            refine e_lconst (v := 0) i_M_nextToken_164 (by decide) ?_
            refine e_putf i_M_nextToken_165 lf_110 ft_11_11 rfl (fun s165 => ?_)
            exact rfl
        · refine e_aload_n i_M_nextToken_75 rfl ?_
          refine e_iconst (v := 1) i_M_nextToken_76 (by decide) ?_
          refine e_putf i_M_nextToken_77 lf_103 ft_11_9 rfl (fun s77 => ?_)
          refine e_aload_n i_M_nextToken_80 rfl ?_
          refine e_iconst (v := 0) i_M_nextToken_81 (by decide) ?_
          refine e_putf i_M_nextToken_82 lf_108 ft_11_10 rfl (fun s82 => ?_)
          exact rfl
      · refine e_aload_n i_M_nextToken_60 rfl ?_
        refine e_iconst (v := 0) i_M_nextToken_61 (by decide) ?_
        refine e_putf i_M_nextToken_62 lf_103 ft_11_9 rfl (fun s62 => ?_)
        refine e_goto (t := 310) i_M_nextToken_65 (by decide) ?_
        exact e_vret i_M_nextToken_310 rfl
    · refine e_aload_n i_M_nextToken_26 rfl ?_
      refine e_dup i_M_nextToken_27 rfl ?_
      refine e_getI i_M_nextToken_28 lf_102 (by decide) (Or.inl ft_11_7) (fun v28 => ?_)
      refine e_iconst (v := 1) i_M_nextToken_31 (by decide) ?_
      refine e_iadd i_M_nextToken_32 ?_
      refine e_putf i_M_nextToken_33 lf_102 ft_11_7 rfl (fun s33 => ?_)
      refine e_goto (t := 0) i_M_nextToken_36 (by decide) ?_
      exact rfl
set_option maxRecDepth 20000 in
set_option maxHeartbeats 1000000 in
theorem E_M_nextToken_85 (x : m_X) (ρ : Nat) (hρ : 2 ≤ ρ) (s : m_H) (w : Nat) (n1 : Int32)  : m_D x ρ k_M_nextToken 85 [some (.ref w), some (.int n1)] [] s = (m_fI s 11 7 w).bind fun v87 => m_bI (m_M x k_M_byteAt [.ref w, .int v87] s) fun v90 s90 => m_bI (m_M x k_M_isFigure [.int v90] s90) fun v93 s93 => if v93 = 0 then (some (none, s93)) else (m_fI s93 11 10 w).bind fun v101 => if v101 ≤ 99999 then ((m_fI s93 11 10 w).bind fun v119 => (m_fI s93 11 7 w).bind fun v125 => m_bI (m_M x k_M_byteAt [.ref w, .int v125] s93) fun v128 s128 => (m_pf s128 11 10 w (.int ((((10 : Int32) * v119) + v128) - (48 : Int32)))).bind fun s135 => (m_fI s135 11 7 w).bind fun v140 => (m_pf s135 11 7 w (.int (v140 + (1 : Int32)))).bind fun s145 => m_D x ρ k_M_nextToken 85 [some (.ref w), some (.int n1)] [] s145) else (m_fI s93 11 10 w).bind fun v110 => (m_pf s93 11 10 w (.int v110)).bind fun s135 => (m_fI s135 11 7 w).bind fun v140 => (m_pf s135 11 7 w (.int (v140 + (1 : Int32)))).bind fun s145 => m_D x ρ k_M_nextToken 85 [some (.ref w), some (.int n1)] [] s145 := by
  refine e_aload_n i_M_nextToken_85 rfl ?_
  refine e_aload_n i_M_nextToken_86 rfl ?_
  refine e_getI i_M_nextToken_87 lf_102 (by decide) (Or.inl ft_11_7) (fun v87 => ?_)
  refine e_callI (as := [.ref w, .int v87]) (st' := []) i_M_nextToken_90 lm_359 (Or.inr (Or.inl ⟨rfl, rfl⟩)) w_M_byteAt rfl rfl rfl (Nat.le_of_ble_eq_true rfl) (Nat.le_of_ble_eq_true rfl) (m_rlt (q_M_byteAt _) (Nat.lt_of_lt_of_le (by decide) hρ)) rfl (fun v90 s90 => ?_)
  refine e_callI (as := [.int v90]) (st' := []) i_M_nextToken_93 lm_360 (Or.inl ⟨rfl, rfl⟩) w_M_isFigure rfl rfl rfl (Nat.le_of_ble_eq_true rfl) (Nat.le_of_ble_eq_true rfl) (m_rlt (q_M_isFigure _) (Nat.lt_of_lt_of_le (by decide) hρ)) rfl (fun v93 s93 => ?_)
  refine e_ifeq (t := 310) i_M_nextToken_96 (by decide) ?_ ?_
  · exact e_vret i_M_nextToken_310 rfl
  · refine e_aload_n i_M_nextToken_99 rfl ?_
    refine e_aload_n i_M_nextToken_100 rfl ?_
    refine e_getI i_M_nextToken_101 lf_108 (by decide) (Or.inl ft_11_10) (fun v101 => ?_)
    refine e_ldc (q := (1, 122, 99999)) i_M_nextToken_104 (by decide) rfl ?_
    refine e_icmple (t := 116) i_M_nextToken_106 (by decide) ?_ ?_
    · refine e_bipush (v := 10) i_M_nextToken_116 (by decide) ?_
      refine e_aload_n i_M_nextToken_118 rfl ?_
      refine e_getI i_M_nextToken_119 lf_108 (by decide) (Or.inl ft_11_10) (fun v119 => ?_)
      refine e_imul i_M_nextToken_122 ?_
      refine e_aload_n i_M_nextToken_123 rfl ?_
      refine e_aload_n i_M_nextToken_124 rfl ?_
      refine e_getI i_M_nextToken_125 lf_102 (by decide) (Or.inl ft_11_7) (fun v125 => ?_)
      refine e_callI (as := [.ref w, .int v125]) (st' := [.int ((10 : Int32) * v119), .ref w]) i_M_nextToken_128 lm_359 (Or.inr (Or.inl ⟨rfl, rfl⟩)) w_M_byteAt rfl rfl rfl (Nat.le_of_ble_eq_true rfl) (Nat.le_of_ble_eq_true rfl) (m_rlt (q_M_byteAt _) (Nat.lt_of_lt_of_le (by decide) hρ)) rfl (fun v128 s128 => ?_)
      refine e_iadd i_M_nextToken_131 ?_
      refine e_bipush (v := 48) i_M_nextToken_132 (by decide) ?_
      refine e_isub i_M_nextToken_134 ?_
      refine e_putf i_M_nextToken_135 lf_108 ft_11_10 rfl (fun s135 => ?_)
      refine e_aload_n i_M_nextToken_138 rfl ?_
      refine e_dup i_M_nextToken_139 rfl ?_
      refine e_getI i_M_nextToken_140 lf_102 (by decide) (Or.inl ft_11_7) (fun v140 => ?_)
      refine e_iconst (v := 1) i_M_nextToken_143 (by decide) ?_
      refine e_iadd i_M_nextToken_144 ?_
      refine e_putf i_M_nextToken_145 lf_102 ft_11_7 rfl (fun s145 => ?_)
      refine e_goto (t := 85) i_M_nextToken_148 (by decide) ?_
      exact rfl
    · refine e_aload_n i_M_nextToken_109 rfl ?_
      refine e_getI i_M_nextToken_110 lf_108 (by decide) (Or.inl ft_11_10) (fun v110 => ?_)
      refine e_goto (t := 135) i_M_nextToken_113 (by decide) ?_
      refine e_putf i_M_nextToken_135 lf_108 ft_11_10 rfl (fun s135 => ?_)
      refine e_aload_n i_M_nextToken_138 rfl ?_
      refine e_dup i_M_nextToken_139 rfl ?_
      refine e_getI i_M_nextToken_140 lf_102 (by decide) (Or.inl ft_11_7) (fun v140 => ?_)
      refine e_iconst (v := 1) i_M_nextToken_143 (by decide) ?_
      refine e_iadd i_M_nextToken_144 ?_
      refine e_putf i_M_nextToken_145 lf_102 ft_11_7 rfl (fun s145 => ?_)
      refine e_goto (t := 85) i_M_nextToken_148 (by decide) ?_
      exact rfl
set_option maxRecDepth 20000 in
set_option maxHeartbeats 1000000 in
theorem E_M_nextToken_168 (x : m_X) (ρ : Nat) (hρ : 2 ≤ ρ) (s : m_H) (w : Nat) (n1 : Int32)  : m_D x ρ k_M_nextToken 168 [some (.ref w), some (.int n1)] [] s = (m_fI s 11 7 w).bind fun v170 => m_bI (m_M x k_M_byteAt [.ref w, .int v170] s) fun v173 s173 => m_bI (m_M x k_M_isLetterByte [.int v173] s173) fun v176 s176 => if v176 = 0 then (some (none, s176)) else (m_fL s176 11 11 w).bind fun v184 => if (v184 >>> ((48 : Int32).toInt64 &&& (63 : Int64))) = 0 then ((m_fL s176 11 11 w).bind fun v202 => (m_fI s176 11 7 w).bind fun v210 => m_bI (m_M x k_M_byteAt [.ref w, .int v210] s176) fun v213 s213 => (m_pf s213 11 11 w (.long ((v202 <<< ((8 : Int32).toInt64 &&& (63 : Int64))) ||| v213.toInt64))).bind fun s218 => (m_fI s218 11 7 w).bind fun v223 => (m_pf s218 11 7 w (.int (v223 + (1 : Int32)))).bind fun s228 => m_D x ρ k_M_nextToken 168 [some (.ref w), some (.int n1)] [] s228) else (m_pf s176 11 11 w (.long 1152921504606846976)).bind fun s218 => (m_fI s218 11 7 w).bind fun v223 => (m_pf s218 11 7 w (.int (v223 + (1 : Int32)))).bind fun s228 => m_D x ρ k_M_nextToken 168 [some (.ref w), some (.int n1)] [] s228 := by
  refine e_aload_n i_M_nextToken_168 rfl ?_
  refine e_aload_n i_M_nextToken_169 rfl ?_
  refine e_getI i_M_nextToken_170 lf_102 (by decide) (Or.inl ft_11_7) (fun v170 => ?_)
  refine e_callI (as := [.ref w, .int v170]) (st' := []) i_M_nextToken_173 lm_359 (Or.inr (Or.inl ⟨rfl, rfl⟩)) w_M_byteAt rfl rfl rfl (Nat.le_of_ble_eq_true rfl) (Nat.le_of_ble_eq_true rfl) (m_rlt (q_M_byteAt _) (Nat.lt_of_lt_of_le (by decide) hρ)) rfl (fun v173 s173 => ?_)
  refine e_callI (as := [.int v173]) (st' := []) i_M_nextToken_176 lm_361 (Or.inl ⟨rfl, rfl⟩) w_M_isLetterByte rfl rfl rfl (Nat.le_of_ble_eq_true rfl) (Nat.le_of_ble_eq_true rfl) (m_rlt (q_M_isLetterByte _) (Nat.lt_of_lt_of_le (by decide) hρ)) rfl (fun v176 s176 => ?_)
  refine e_ifeq (t := 310) i_M_nextToken_179 (by decide) ?_ ?_
  · exact e_vret i_M_nextToken_310 rfl
  · refine e_aload_n i_M_nextToken_182 rfl ?_
    refine e_aload_n i_M_nextToken_183 rfl ?_
    refine e_getL i_M_nextToken_184 lf_110 (by decide) ft_11_11 (fun v184 => ?_)
    refine e_bipush (v := 48) i_M_nextToken_187 (by decide) ?_
    refine e_lshr i_M_nextToken_189 ?_
    refine e_lconst (v := 0) i_M_nextToken_190 (by decide) ?_
    refine e_lcmpeq (t := 201) i_M_nextToken_191 i_M_nextToken_192 (by decide) ?_ ?_
    · refine e_aload_n i_M_nextToken_201 rfl ?_
      refine e_getL i_M_nextToken_202 lf_110 (by decide) ft_11_11 (fun v202 => ?_)
      refine e_bipush (v := 8) i_M_nextToken_205 (by decide) ?_
      refine e_lshl i_M_nextToken_207 ?_
      refine e_aload_n i_M_nextToken_208 rfl ?_
      refine e_aload_n i_M_nextToken_209 rfl ?_
      refine e_getI i_M_nextToken_210 lf_102 (by decide) (Or.inl ft_11_7) (fun v210 => ?_)
      refine e_callI (as := [.ref w, .int v210]) (st' := [.long (v202 <<< ((8 : Int32).toInt64 &&& (63 : Int64))), .ref w]) i_M_nextToken_213 lm_359 (Or.inr (Or.inl ⟨rfl, rfl⟩)) w_M_byteAt rfl rfl rfl (Nat.le_of_ble_eq_true rfl) (Nat.le_of_ble_eq_true rfl) (m_rlt (q_M_byteAt _) (Nat.lt_of_lt_of_le (by decide) hρ)) rfl (fun v213 s213 => ?_)
      refine e_i2l i_M_nextToken_216 ?_
      refine e_lor i_M_nextToken_217 ?_
      refine e_putf i_M_nextToken_218 lf_110 ft_11_11 rfl (fun s218 => ?_)
      refine e_aload_n i_M_nextToken_221 rfl ?_
      refine e_dup i_M_nextToken_222 rfl ?_
      refine e_getI i_M_nextToken_223 lf_102 (by decide) (Or.inl ft_11_7) (fun v223 => ?_)
      refine e_iconst (v := 1) i_M_nextToken_226 (by decide) ?_
      refine e_iadd i_M_nextToken_227 ?_
      refine e_putf i_M_nextToken_228 lf_102 ft_11_7 rfl (fun s228 => ?_)
      refine e_goto (t := 168) i_M_nextToken_231 (by decide) ?_
      exact rfl
    · refine e_ldc2 (q := (1, 130, 1152921504606846976)) i_M_nextToken_195 rfl ?_
      refine e_goto (t := 218) i_M_nextToken_198 (by decide) ?_
      refine e_putf i_M_nextToken_218 lf_110 ft_11_11 rfl (fun s218 => ?_)
      refine e_aload_n i_M_nextToken_221 rfl ?_
      refine e_dup i_M_nextToken_222 rfl ?_
      refine e_getI i_M_nextToken_223 lf_102 (by decide) (Or.inl ft_11_7) (fun v223 => ?_)
      refine e_iconst (v := 1) i_M_nextToken_226 (by decide) ?_
      refine e_iadd i_M_nextToken_227 ?_
      refine e_putf i_M_nextToken_228 lf_102 ft_11_7 rfl (fun s228 => ?_)
      refine e_goto (t := 168) i_M_nextToken_231 (by decide) ?_
      exact rfl
set_option maxRecDepth 20000 in
set_option maxHeartbeats 1000000 in
theorem E_M_nextToken_272 (x : m_X) (ρ : Nat) (hρ : 2 ≤ ρ) (s : m_H) (w : Nat) (n1 : Int32)  : m_D x ρ k_M_nextToken 272 [some (.ref w), some (.int n1)] [] s = (m_fI s 11 7 w).bind fun v274 => m_bI (m_M x k_M_byteAt [.ref w, .int v274] s) fun v277 s277 => if v277 = 61 then (if n1 = 60 then ((m_pf s277 11 9 w (.int 4)).bind fun s297 => (m_fI s297 11 7 w).bind fun v302 => (m_pf s297 11 7 w (.int (v302 + (1 : Int32)))).bind fun s307 => some (none, s307)) else (m_pf s277 11 9 w (.int 5)).bind fun s297 => (m_fI s297 11 7 w).bind fun v302 => (m_pf s297 11 7 w (.int (v302 + (1 : Int32)))).bind fun s307 => some (none, s307)) else some (none, s277) := by
  refine e_aload_n i_M_nextToken_272 rfl ?_
  refine e_aload_n i_M_nextToken_273 rfl ?_
  refine e_getI i_M_nextToken_274 lf_102 (by decide) (Or.inl ft_11_7) (fun v274 => ?_)
  refine e_callI (as := [.ref w, .int v274]) (st' := []) i_M_nextToken_277 lm_359 (Or.inr (Or.inl ⟨rfl, rfl⟩)) w_M_byteAt rfl rfl rfl (Nat.le_of_ble_eq_true rfl) (Nat.le_of_ble_eq_true rfl) (m_rlt (q_M_byteAt _) (Nat.lt_of_lt_of_le (by decide) hρ)) rfl (fun v277 s277 => ?_)
  refine e_bipush (v := 61) i_M_nextToken_280 (by decide) ?_
  refine e_icmpne (t := 310) i_M_nextToken_282 (by decide) ?_ ?_
  · exact e_vret i_M_nextToken_310 rfl
  · refine e_aload_n i_M_nextToken_285 rfl ?_
    refine e_iload_n i_M_nextToken_286 rfl ?_
    refine e_bipush (v := 60) i_M_nextToken_287 (by decide) ?_
    refine e_icmpne (t := 296) i_M_nextToken_289 (by decide) ?_ ?_
    · refine e_iconst (v := 5) i_M_nextToken_296 (by decide) ?_
      refine e_putf i_M_nextToken_297 lf_103 ft_11_9 rfl (fun s297 => ?_)
      refine e_aload_n i_M_nextToken_300 rfl ?_
      refine e_dup i_M_nextToken_301 rfl ?_
      refine e_getI i_M_nextToken_302 lf_102 (by decide) (Or.inl ft_11_7) (fun v302 => ?_)
      refine e_iconst (v := 1) i_M_nextToken_305 (by decide) ?_
      refine e_iadd i_M_nextToken_306 ?_
      refine e_putf i_M_nextToken_307 lf_102 ft_11_7 rfl (fun s307 => ?_)
      exact e_vret i_M_nextToken_310 rfl
    · refine e_iconst (v := 4) i_M_nextToken_292 (by decide) ?_
      refine e_goto (t := 297) i_M_nextToken_293 (by decide) ?_
      refine e_putf i_M_nextToken_297 lf_103 ft_11_9 rfl (fun s297 => ?_)
      refine e_aload_n i_M_nextToken_300 rfl ?_
      refine e_dup i_M_nextToken_301 rfl ?_
      refine e_getI i_M_nextToken_302 lf_102 (by decide) (Or.inl ft_11_7) (fun v302 => ?_)
      refine e_iconst (v := 1) i_M_nextToken_305 (by decide) ?_
      refine e_iadd i_M_nextToken_306 ?_
      refine e_putf i_M_nextToken_307 lf_102 ft_11_7 rfl (fun s307 => ?_)
      exact e_vret i_M_nextToken_310 rfl
theorem i_M_isSign_0 : m_at k_M_isSign 0 = some (.iload_n 0, 1, 0) := m_at_of r_M_isSign (by decide +kernel)
theorem i_M_isSign_1 : m_at k_M_isSign 1 = some (.tableswitch (129) (35) (62) #[127, 129, 129, 129, 129, 127, 127, 127, 127, 129, 127, 129, 127, 129, 129, 129, 129, 129, 129, 129, 129, 129, 129, 127, 127, 127, 127, 127], 127, 0) := m_at_of r_M_isSign (by decide +kernel)
theorem i_M_isSign_128 : m_at k_M_isSign 128 = some (.iconst 1, 1, 0) := m_at_of r_M_isSign (by decide +kernel)
theorem i_M_isSign_129 : m_at k_M_isSign 129 = some (.ireturn, 1, 0) := m_at_of r_M_isSign (by decide +kernel)
theorem i_M_isSign_130 : m_at k_M_isSign 130 = some (.iconst 0, 1, 0) := m_at_of r_M_isSign (by decide +kernel)
theorem i_M_isSign_131 : m_at k_M_isSign 131 = some (.ireturn, 1, 0) := m_at_of r_M_isSign (by decide +kernel)
set_option maxRecDepth 20000 in
set_option maxHeartbeats 1000000 in
theorem E_M_isSign (x : m_X) (s : m_H) (n0 : Int32) : m_M x k_M_isSign [.int n0] s = if n0 = 35 then (some (some (.int 1), s)) else if n0 = 36 then (some (some (.int 0), s)) else if n0 = 37 then (some (some (.int 0), s)) else if n0 = 38 then (some (some (.int 0), s)) else if n0 = 39 then (some (some (.int 0), s)) else if n0 = 40 then (some (some (.int 1), s)) else if n0 = 41 then (some (some (.int 1), s)) else if n0 = 42 then (some (some (.int 1), s)) else if n0 = 43 then (some (some (.int 1), s)) else if n0 = 44 then (some (some (.int 0), s)) else if n0 = 45 then (some (some (.int 1), s)) else if n0 = 46 then (some (some (.int 0), s)) else if n0 = 47 then (some (some (.int 1), s)) else if n0 = 48 then (some (some (.int 0), s)) else if n0 = 49 then (some (some (.int 0), s)) else if n0 = 50 then (some (some (.int 0), s)) else if n0 = 51 then (some (some (.int 0), s)) else if n0 = 52 then (some (some (.int 0), s)) else if n0 = 53 then (some (some (.int 0), s)) else if n0 = 54 then (some (some (.int 0), s)) else if n0 = 55 then (some (some (.int 0), s)) else if n0 = 56 then (some (some (.int 0), s)) else if n0 = 57 then (some (some (.int 0), s)) else if n0 = 58 then (some (some (.int 1), s)) else if n0 = 59 then (some (some (.int 1), s)) else if n0 = 60 then (some (some (.int 1), s)) else if n0 = 61 then (some (some (.int 1), s)) else if n0 = 62 then (some (some (.int 1), s)) else some (some (.int 0), s) := by
  refine e_M0 (L0 := [some (.int n0)]) rfl (q_M_isSign _) rfl ?_
  refine e_iload_n i_M_isSign_0 rfl ?_
  refine e_tsw (cs := [(35, 128), (36, 130), (37, 130), (38, 130), (39, 130), (40, 128), (41, 128), (42, 128), (43, 128), (44, 130), (45, 128), (46, 130), (47, 128), (48, 130), (49, 130), (50, 130), (51, 130), (52, 130), (53, 130), (54, 130), (55, 130), (56, 130), (57, 130), (58, 128), (59, 128), (60, 128), (61, 128), (62, 128)]) (td := 130) i_M_isSign_1 (by decide +kernel) ?_
  refine m_sw_c ?_ ?_
  · refine e_iconst (v := 1) i_M_isSign_128 (by decide) ?_
    exact e_iretZ i_M_isSign_129 rfl (by decide)
  refine m_sw_c ?_ ?_
  · refine e_iconst (v := 0) i_M_isSign_130 (by decide) ?_
    exact e_iretZ i_M_isSign_131 rfl (by decide)
  refine m_sw_c ?_ ?_
  · refine e_iconst (v := 0) i_M_isSign_130 (by decide) ?_
    exact e_iretZ i_M_isSign_131 rfl (by decide)
  refine m_sw_c ?_ ?_
  · refine e_iconst (v := 0) i_M_isSign_130 (by decide) ?_
    exact e_iretZ i_M_isSign_131 rfl (by decide)
  refine m_sw_c ?_ ?_
  · refine e_iconst (v := 0) i_M_isSign_130 (by decide) ?_
    exact e_iretZ i_M_isSign_131 rfl (by decide)
  refine m_sw_c ?_ ?_
  · refine e_iconst (v := 1) i_M_isSign_128 (by decide) ?_
    exact e_iretZ i_M_isSign_129 rfl (by decide)
  refine m_sw_c ?_ ?_
  · refine e_iconst (v := 1) i_M_isSign_128 (by decide) ?_
    exact e_iretZ i_M_isSign_129 rfl (by decide)
  refine m_sw_c ?_ ?_
  · refine e_iconst (v := 1) i_M_isSign_128 (by decide) ?_
    exact e_iretZ i_M_isSign_129 rfl (by decide)
  refine m_sw_c ?_ ?_
  · refine e_iconst (v := 1) i_M_isSign_128 (by decide) ?_
    exact e_iretZ i_M_isSign_129 rfl (by decide)
  refine m_sw_c ?_ ?_
  · refine e_iconst (v := 0) i_M_isSign_130 (by decide) ?_
    exact e_iretZ i_M_isSign_131 rfl (by decide)
  refine m_sw_c ?_ ?_
  · refine e_iconst (v := 1) i_M_isSign_128 (by decide) ?_
    exact e_iretZ i_M_isSign_129 rfl (by decide)
  refine m_sw_c ?_ ?_
  · refine e_iconst (v := 0) i_M_isSign_130 (by decide) ?_
    exact e_iretZ i_M_isSign_131 rfl (by decide)
  refine m_sw_c ?_ ?_
  · refine e_iconst (v := 1) i_M_isSign_128 (by decide) ?_
    exact e_iretZ i_M_isSign_129 rfl (by decide)
  refine m_sw_c ?_ ?_
  · refine e_iconst (v := 0) i_M_isSign_130 (by decide) ?_
    exact e_iretZ i_M_isSign_131 rfl (by decide)
  refine m_sw_c ?_ ?_
  · refine e_iconst (v := 0) i_M_isSign_130 (by decide) ?_
    exact e_iretZ i_M_isSign_131 rfl (by decide)
  refine m_sw_c ?_ ?_
  · refine e_iconst (v := 0) i_M_isSign_130 (by decide) ?_
    exact e_iretZ i_M_isSign_131 rfl (by decide)
  refine m_sw_c ?_ ?_
  · refine e_iconst (v := 0) i_M_isSign_130 (by decide) ?_
    exact e_iretZ i_M_isSign_131 rfl (by decide)
  refine m_sw_c ?_ ?_
  · refine e_iconst (v := 0) i_M_isSign_130 (by decide) ?_
    exact e_iretZ i_M_isSign_131 rfl (by decide)
  refine m_sw_c ?_ ?_
  · refine e_iconst (v := 0) i_M_isSign_130 (by decide) ?_
    exact e_iretZ i_M_isSign_131 rfl (by decide)
  refine m_sw_c ?_ ?_
  · refine e_iconst (v := 0) i_M_isSign_130 (by decide) ?_
    exact e_iretZ i_M_isSign_131 rfl (by decide)
  refine m_sw_c ?_ ?_
  · refine e_iconst (v := 0) i_M_isSign_130 (by decide) ?_
    exact e_iretZ i_M_isSign_131 rfl (by decide)
  refine m_sw_c ?_ ?_
  · refine e_iconst (v := 0) i_M_isSign_130 (by decide) ?_
    exact e_iretZ i_M_isSign_131 rfl (by decide)
  refine m_sw_c ?_ ?_
  · refine e_iconst (v := 0) i_M_isSign_130 (by decide) ?_
    exact e_iretZ i_M_isSign_131 rfl (by decide)
  refine m_sw_c ?_ ?_
  · refine e_iconst (v := 1) i_M_isSign_128 (by decide) ?_
    exact e_iretZ i_M_isSign_129 rfl (by decide)
  refine m_sw_c ?_ ?_
  · refine e_iconst (v := 1) i_M_isSign_128 (by decide) ?_
    exact e_iretZ i_M_isSign_129 rfl (by decide)
  refine m_sw_c ?_ ?_
  · refine e_iconst (v := 1) i_M_isSign_128 (by decide) ?_
    exact e_iretZ i_M_isSign_129 rfl (by decide)
  refine m_sw_c ?_ ?_
  · refine e_iconst (v := 1) i_M_isSign_128 (by decide) ?_
    exact e_iretZ i_M_isSign_129 rfl (by decide)
  refine m_sw_c ?_ ?_
  · refine e_iconst (v := 1) i_M_isSign_128 (by decide) ?_
    exact e_iretZ i_M_isSign_129 rfl (by decide)
  refine m_sw_n ?_
  refine e_iconst (v := 0) i_M_isSign_130 (by decide) ?_
  exact e_iretZ i_M_isSign_131 rfl (by decide)
theorem i_M_isLetterByte_0 : m_at k_M_isLetterByte 0 = some (.iload_n 0, 1, 0) := m_at_of r_M_isLetterByte (by decide +kernel)
theorem i_M_isLetterByte_1 : m_at k_M_isLetterByte 1 = some (.bipush 97, 2, 0) := m_at_of r_M_isLetterByte (by decide +kernel)
theorem i_M_isLetterByte_3 : m_at k_M_isLetterByte 3 = some (.if_icmp .lt (9), 3, 0) := m_at_of r_M_isLetterByte (by decide +kernel)
theorem i_M_isLetterByte_6 : m_at k_M_isLetterByte 6 = some (.iload_n 0, 1, 0) := m_at_of r_M_isLetterByte (by decide +kernel)
theorem i_M_isLetterByte_7 : m_at k_M_isLetterByte 7 = some (.bipush 122, 2, 0) := m_at_of r_M_isLetterByte (by decide +kernel)
theorem i_M_isLetterByte_9 : m_at k_M_isLetterByte 9 = some (.if_icmp .le (15), 3, 0) := m_at_of r_M_isLetterByte (by decide +kernel)
theorem i_M_isLetterByte_12 : m_at k_M_isLetterByte 12 = some (.iload_n 0, 1, 0) := m_at_of r_M_isLetterByte (by decide +kernel)
theorem i_M_isLetterByte_13 : m_at k_M_isLetterByte 13 = some (.bipush 65, 2, 0) := m_at_of r_M_isLetterByte (by decide +kernel)
theorem i_M_isLetterByte_15 : m_at k_M_isLetterByte 15 = some (.if_icmp .lt (13), 3, 0) := m_at_of r_M_isLetterByte (by decide +kernel)
theorem i_M_isLetterByte_18 : m_at k_M_isLetterByte 18 = some (.iload_n 0, 1, 0) := m_at_of r_M_isLetterByte (by decide +kernel)
theorem i_M_isLetterByte_19 : m_at k_M_isLetterByte 19 = some (.bipush 90, 2, 0) := m_at_of r_M_isLetterByte (by decide +kernel)
theorem i_M_isLetterByte_21 : m_at k_M_isLetterByte 21 = some (.if_icmp .gt (7), 3, 0) := m_at_of r_M_isLetterByte (by decide +kernel)
theorem i_M_isLetterByte_24 : m_at k_M_isLetterByte 24 = some (.iconst 1, 1, 0) := m_at_of r_M_isLetterByte (by decide +kernel)
theorem i_M_isLetterByte_25 : m_at k_M_isLetterByte 25 = some (.goto (4), 3, 0) := m_at_of r_M_isLetterByte (by decide +kernel)
theorem i_M_isLetterByte_28 : m_at k_M_isLetterByte 28 = some (.iconst 0, 1, 0) := m_at_of r_M_isLetterByte (by decide +kernel)
theorem i_M_isLetterByte_29 : m_at k_M_isLetterByte 29 = some (.ireturn, 1, 0) := m_at_of r_M_isLetterByte (by decide +kernel)
set_option maxRecDepth 20000 in
set_option maxHeartbeats 1000000 in
theorem E_M_isLetterByte (x : m_X) (s : m_H) (n0 : Int32) : m_M x k_M_isLetterByte [.int n0] s = if n0 < 97 then (if n0 < 65 then (some (some (.int 0), s)) else if 90 < n0 then (some (some (.int 0), s)) else some (some (.int 1), s)) else if n0 ≤ 122 then (some (some (.int 1), s)) else if n0 < 65 then (some (some (.int 0), s)) else if 90 < n0 then (some (some (.int 0), s)) else some (some (.int 1), s) := by
  refine e_M0 (L0 := [some (.int n0)]) rfl (q_M_isLetterByte _) rfl ?_
  refine e_iload_n i_M_isLetterByte_0 rfl ?_
  refine e_bipush (v := 97) i_M_isLetterByte_1 (by decide) ?_
  refine e_icmplt (t := 12) i_M_isLetterByte_3 (by decide) ?_ ?_
  · refine e_iload_n i_M_isLetterByte_12 rfl ?_
    refine e_bipush (v := 65) i_M_isLetterByte_13 (by decide) ?_
    refine e_icmplt (t := 28) i_M_isLetterByte_15 (by decide) ?_ ?_
    · refine e_iconst (v := 0) i_M_isLetterByte_28 (by decide) ?_
      exact e_iretZ i_M_isLetterByte_29 rfl (by decide)
    · refine e_iload_n i_M_isLetterByte_18 rfl ?_
      refine e_bipush (v := 90) i_M_isLetterByte_19 (by decide) ?_
      refine e_icmpgt (t := 28) i_M_isLetterByte_21 (by decide) ?_ ?_
      · refine e_iconst (v := 0) i_M_isLetterByte_28 (by decide) ?_
        exact e_iretZ i_M_isLetterByte_29 rfl (by decide)
      · refine e_iconst (v := 1) i_M_isLetterByte_24 (by decide) ?_
        refine e_goto (t := 29) i_M_isLetterByte_25 (by decide) ?_
        exact e_iretZ i_M_isLetterByte_29 rfl (by decide)
  · refine e_iload_n i_M_isLetterByte_6 rfl ?_
    refine e_bipush (v := 122) i_M_isLetterByte_7 (by decide) ?_
    refine e_icmple (t := 24) i_M_isLetterByte_9 (by decide) ?_ ?_
    · refine e_iconst (v := 1) i_M_isLetterByte_24 (by decide) ?_
      refine e_goto (t := 29) i_M_isLetterByte_25 (by decide) ?_
      exact e_iretZ i_M_isLetterByte_29 rfl (by decide)
    · refine e_iload_n i_M_isLetterByte_12 rfl ?_
      refine e_bipush (v := 65) i_M_isLetterByte_13 (by decide) ?_
      refine e_icmplt (t := 28) i_M_isLetterByte_15 (by decide) ?_ ?_
      · refine e_iconst (v := 0) i_M_isLetterByte_28 (by decide) ?_
        exact e_iretZ i_M_isLetterByte_29 rfl (by decide)
      · refine e_iload_n i_M_isLetterByte_18 rfl ?_
        refine e_bipush (v := 90) i_M_isLetterByte_19 (by decide) ?_
        refine e_icmpgt (t := 28) i_M_isLetterByte_21 (by decide) ?_ ?_
        · refine e_iconst (v := 0) i_M_isLetterByte_28 (by decide) ?_
          exact e_iretZ i_M_isLetterByte_29 rfl (by decide)
        · refine e_iconst (v := 1) i_M_isLetterByte_24 (by decide) ?_
          refine e_goto (t := 29) i_M_isLetterByte_25 (by decide) ?_
          exact e_iretZ i_M_isLetterByte_29 rfl (by decide)
theorem i_M_isFigure_0 : m_at k_M_isFigure 0 = some (.iload_n 0, 1, 0) := m_at_of r_M_isFigure (by decide +kernel)
theorem i_M_isFigure_1 : m_at k_M_isFigure 1 = some (.bipush 48, 2, 0) := m_at_of r_M_isFigure (by decide +kernel)
theorem i_M_isFigure_3 : m_at k_M_isFigure 3 = some (.if_icmp .lt (13), 3, 0) := m_at_of r_M_isFigure (by decide +kernel)
theorem i_M_isFigure_6 : m_at k_M_isFigure 6 = some (.iload_n 0, 1, 0) := m_at_of r_M_isFigure (by decide +kernel)
theorem i_M_isFigure_7 : m_at k_M_isFigure 7 = some (.bipush 57, 2, 0) := m_at_of r_M_isFigure (by decide +kernel)
theorem i_M_isFigure_9 : m_at k_M_isFigure 9 = some (.if_icmp .gt (7), 3, 0) := m_at_of r_M_isFigure (by decide +kernel)
theorem i_M_isFigure_12 : m_at k_M_isFigure 12 = some (.iconst 1, 1, 0) := m_at_of r_M_isFigure (by decide +kernel)
theorem i_M_isFigure_13 : m_at k_M_isFigure 13 = some (.goto (4), 3, 0) := m_at_of r_M_isFigure (by decide +kernel)
theorem i_M_isFigure_16 : m_at k_M_isFigure 16 = some (.iconst 0, 1, 0) := m_at_of r_M_isFigure (by decide +kernel)
theorem i_M_isFigure_17 : m_at k_M_isFigure 17 = some (.ireturn, 1, 0) := m_at_of r_M_isFigure (by decide +kernel)
set_option maxRecDepth 20000 in
set_option maxHeartbeats 1000000 in
theorem E_M_isFigure (x : m_X) (s : m_H) (n0 : Int32) : m_M x k_M_isFigure [.int n0] s = if n0 < 48 then (some (some (.int 0), s)) else if 57 < n0 then (some (some (.int 0), s)) else some (some (.int 1), s) := by
  refine e_M0 (L0 := [some (.int n0)]) rfl (q_M_isFigure _) rfl ?_
  refine e_iload_n i_M_isFigure_0 rfl ?_
  refine e_bipush (v := 48) i_M_isFigure_1 (by decide) ?_
  refine e_icmplt (t := 16) i_M_isFigure_3 (by decide) ?_ ?_
  · refine e_iconst (v := 0) i_M_isFigure_16 (by decide) ?_
    exact e_iretZ i_M_isFigure_17 rfl (by decide)
  · refine e_iload_n i_M_isFigure_6 rfl ?_
    refine e_bipush (v := 57) i_M_isFigure_7 (by decide) ?_
    refine e_icmpgt (t := 16) i_M_isFigure_9 (by decide) ?_ ?_
    · refine e_iconst (v := 0) i_M_isFigure_16 (by decide) ?_
      exact e_iretZ i_M_isFigure_17 rfl (by decide)
    · refine e_iconst (v := 1) i_M_isFigure_12 (by decide) ?_
      refine e_goto (t := 17) i_M_isFigure_13 (by decide) ?_
      exact e_iretZ i_M_isFigure_17 rfl (by decide)
theorem i_M_byteAt_0 : m_at k_M_byteAt 0 = some (.iload_n 1, 1, 0) := m_at_of r_M_byteAt (by decide +kernel)
theorem i_M_byteAt_1 : m_at k_M_byteAt 1 = some (.aload_n 0, 1, 0) := m_at_of r_M_byteAt (by decide +kernel)
theorem i_M_byteAt_2 : m_at k_M_byteAt 2 = some (.getfield 97, 3, 1) := m_at_of r_M_byteAt (by decide +kernel)
theorem i_M_byteAt_5 : m_at k_M_byteAt 5 = some (.if_icmp .ge (12), 3, 0) := m_at_of r_M_byteAt (by decide +kernel)
theorem i_M_byteAt_8 : m_at k_M_byteAt 8 = some (.aload_n 0, 1, 0) := m_at_of r_M_byteAt (by decide +kernel)
theorem i_M_byteAt_9 : m_at k_M_byteAt 9 = some (.getfield 19, 3, 111) := m_at_of r_M_byteAt (by decide +kernel)
theorem i_M_byteAt_12 : m_at k_M_byteAt 12 = some (.iload_n 1, 1, 0) := m_at_of r_M_byteAt (by decide +kernel)
theorem i_M_byteAt_13 : m_at k_M_byteAt 13 = some (.iaload, 1, 0) := m_at_of r_M_byteAt (by decide +kernel)
theorem i_M_byteAt_14 : m_at k_M_byteAt 14 = some (.goto (4), 3, 0) := m_at_of r_M_byteAt (by decide +kernel)
theorem i_M_byteAt_17 : m_at k_M_byteAt 17 = some (.iconst (-1), 1, 0) := m_at_of r_M_byteAt (by decide +kernel)
theorem i_M_byteAt_18 : m_at k_M_byteAt 18 = some (.ireturn, 1, 0) := m_at_of r_M_byteAt (by decide +kernel)
set_option maxRecDepth 20000 in
set_option maxHeartbeats 1000000 in
theorem E_M_byteAt (x : m_X) (s : m_H) (w : Nat) (n1 : Int32) : m_M x k_M_byteAt [.ref w, .int n1] s = if m_isO s w 11 = true then ((m_fI s 11 4 w).bind fun v2 => if v2 ≤ n1 then (some (some (.int (-1)), s)) else (m_fR s 11 3 w).bind fun v9 => (m_ia x s v9 n1).bind fun v13 => some (some (.int v13), s)) else none := by
  refine e_M1 (L0 := [some (.ref w), some (.int n1)]) rfl (by decide +kernel) rfl (q_M_byteAt _) rfl ?_
  refine e_iload_n i_M_byteAt_0 rfl ?_
  refine e_aload_n i_M_byteAt_1 rfl ?_
  refine e_getI i_M_byteAt_2 lf_1 (by decide) (Or.inl ft_11_4) (fun v2 => ?_)
  refine e_icmpge (t := 17) i_M_byteAt_5 (by decide) ?_ ?_
  · refine e_iconst (v := (-1)) i_M_byteAt_17 (by decide) ?_
    exact e_iretI i_M_byteAt_18 rfl
  · refine e_aload_n i_M_byteAt_8 rfl ?_
    refine e_getR i_M_byteAt_9 lf_111 (by decide) ft_11_3 (fun v9 => ?_)
    refine e_iload_n i_M_byteAt_12 rfl ?_
    refine e_iald i_M_byteAt_13 (fun v13 => ?_)
    refine e_goto (t := 18) i_M_byteAt_14 (by decide) ?_
    exact e_iretI i_M_byteAt_18 rfl
theorem i_M_end_0 : m_at k_M_end 0 = some (.iload_n 1, 1, 0) := m_at_of r_M_end (by decide +kernel)
theorem i_M_end_1 : m_at k_M_end 1 = some (.iconst 0, 1, 0) := m_at_of r_M_end (by decide +kernel)
theorem i_M_end_2 : m_at k_M_end 2 = some (.aload_n 0, 1, 0) := m_at_of r_M_end (by decide +kernel)
theorem i_M_end_3 : m_at k_M_end 3 = some (.getfield 97, 3, 1) := m_at_of r_M_end (by decide +kernel)
theorem i_M_end_6 : m_at k_M_end 6 = some (.invokestatic 81, 3, 96) := m_at_of r_M_end (by decide +kernel)
theorem i_M_end_9 : m_at k_M_end 9 = some (.ifCond .ne (5), 3, 0) := m_at_of r_M_end (by decide +kernel)
theorem i_M_end_12 : m_at k_M_end 12 = some (.iconst (-1), 1, 0) := m_at_of r_M_end (by decide +kernel)
theorem i_M_end_13 : m_at k_M_end 13 = some (.ireturn, 1, 0) := m_at_of r_M_end (by decide +kernel)
theorem i_M_end_14 : m_at k_M_end 14 = some (.aload_n 0, 1, 0) := m_at_of r_M_end (by decide +kernel)
theorem i_M_end_15 : m_at k_M_end 15 = some (.iload_n 1, 1, 0) := m_at_of r_M_end (by decide +kernel)
theorem i_M_end_16 : m_at k_M_end 16 = some (.putfield 97, 3, 1) := m_at_of r_M_end (by decide +kernel)
theorem i_M_end_19 : m_at k_M_end 19 = some (.iload_n 1, 1, 0) := m_at_of r_M_end (by decide +kernel)
theorem i_M_end_20 : m_at k_M_end 20 = some (.ireturn, 1, 0) := m_at_of r_M_end (by decide +kernel)
set_option maxRecDepth 20000 in
set_option maxHeartbeats 1000000 in
theorem E_M_end (x : m_X) (s : m_H) (w : Nat) (n1 : Int32) : m_M x k_M_end [.ref w, .int n1] s = if m_isO s w 11 = true then ((m_fI s 11 4 w).bind fun v3 => m_bI (m_M x k_M_isIn [.int n1, .int 0, .int v3] s) fun v6 s6 => if v6 = 0 then (some (some (.int (-1)), s6)) else (m_pf s6 11 4 w (.int n1)).bind fun s16 => some (some (.int n1), s16)) else none := by
  refine e_M1 (L0 := [some (.ref w), some (.int n1)]) rfl (by decide +kernel) rfl (q_M_end _) rfl ?_
  refine e_iload_n i_M_end_0 rfl ?_
  refine e_iconst (v := 0) i_M_end_1 (by decide) ?_
  refine e_aload_n i_M_end_2 rfl ?_
  refine e_getI i_M_end_3 lf_1 (by decide) (Or.inl ft_11_4) (fun v3 => ?_)
  refine e_callI (as := [.int n1, .int 0, .int v3]) (st' := []) i_M_end_6 lm_96 (Or.inl ⟨rfl, rfl⟩) w_M_isIn rfl rfl rfl (Nat.le_of_ble_eq_true rfl) (Nat.le_of_ble_eq_true rfl) (m_rlt (q_M_isIn _) (by decide)) rfl (fun v6 s6 => ?_)
  refine e_ifne (t := 14) i_M_end_9 (by decide) ?_ ?_
  · refine e_aload_n i_M_end_14 rfl ?_
    refine e_iload_n i_M_end_15 rfl ?_
    refine e_putf i_M_end_16 lf_1 ft_11_4 rfl (fun s16 => ?_)
    refine e_iload_n i_M_end_19 rfl ?_
    exact e_iretI i_M_end_20 rfl
  · refine e_iconst (v := (-1)) i_M_end_12 (by decide) ?_
    exact e_iretI i_M_end_13 rfl
theorem i_M_feed_0 : m_at k_M_feed 0 = some (.aload_n 0, 1, 0) := m_at_of r_M_feed (by decide +kernel)
theorem i_M_feed_1 : m_at k_M_feed 1 = some (.getfield 97, 3, 1) := m_at_of r_M_feed (by decide +kernel)
theorem i_M_feed_4 : m_at k_M_feed 4 = some (.bipush 20, 2, 0) := m_at_of r_M_feed (by decide +kernel)
theorem i_M_feed_6 : m_at k_M_feed 6 = some (.iadd, 1, 0) := m_at_of r_M_feed (by decide +kernel)
theorem i_M_feed_7 : m_at k_M_feed 7 = some (.sipush 300, 3, 0) := m_at_of r_M_feed (by decide +kernel)
theorem i_M_feed_10 : m_at k_M_feed 10 = some (.if_icmp .le (5), 3, 0) := m_at_of r_M_feed (by decide +kernel)
theorem i_M_feed_13 : m_at k_M_feed 13 = some (.iconst (-1), 1, 0) := m_at_of r_M_feed (by decide +kernel)
theorem i_M_feed_14 : m_at k_M_feed 14 = some (.ireturn, 1, 0) := m_at_of r_M_feed (by decide +kernel)
theorem i_M_feed_15 : m_at k_M_feed 15 = some (.aload_n 0, 1, 0) := m_at_of r_M_feed (by decide +kernel)
theorem i_M_feed_16 : m_at k_M_feed 16 = some (.iload_n 1, 1, 0) := m_at_of r_M_feed (by decide +kernel)
theorem i_M_feed_17 : m_at k_M_feed 17 = some (.invokevirtual 100, 3, 423) := m_at_of r_M_feed (by decide +kernel)
theorem i_M_feed_20 : m_at k_M_feed 20 = some (.aload_n 0, 1, 0) := m_at_of r_M_feed (by decide +kernel)
theorem i_M_feed_21 : m_at k_M_feed 21 = some (.iload_n 2, 1, 0) := m_at_of r_M_feed (by decide +kernel)
theorem i_M_feed_22 : m_at k_M_feed 22 = some (.invokevirtual 100, 3, 423) := m_at_of r_M_feed (by decide +kernel)
theorem i_M_feed_25 : m_at k_M_feed 25 = some (.aload_n 0, 1, 0) := m_at_of r_M_feed (by decide +kernel)
theorem i_M_feed_26 : m_at k_M_feed 26 = some (.iload_n 3, 1, 0) := m_at_of r_M_feed (by decide +kernel)
theorem i_M_feed_27 : m_at k_M_feed 27 = some (.invokevirtual 100, 3, 423) := m_at_of r_M_feed (by decide +kernel)
theorem i_M_feed_30 : m_at k_M_feed 30 = some (.aload_n 0, 1, 0) := m_at_of r_M_feed (by decide +kernel)
theorem i_M_feed_31 : m_at k_M_feed 31 = some (.iload 4, 2, 0) := m_at_of r_M_feed (by decide +kernel)
theorem i_M_feed_33 : m_at k_M_feed 33 = some (.invokevirtual 100, 3, 423) := m_at_of r_M_feed (by decide +kernel)
theorem i_M_feed_36 : m_at k_M_feed 36 = some (.aload_n 0, 1, 0) := m_at_of r_M_feed (by decide +kernel)
theorem i_M_feed_37 : m_at k_M_feed 37 = some (.iload 5, 2, 0) := m_at_of r_M_feed (by decide +kernel)
theorem i_M_feed_39 : m_at k_M_feed 39 = some (.invokevirtual 100, 3, 423) := m_at_of r_M_feed (by decide +kernel)
theorem i_M_feed_42 : m_at k_M_feed 42 = some (.aload_n 0, 1, 0) := m_at_of r_M_feed (by decide +kernel)
theorem i_M_feed_43 : m_at k_M_feed 43 = some (.getfield 97, 3, 1) := m_at_of r_M_feed (by decide +kernel)
theorem i_M_feed_46 : m_at k_M_feed 46 = some (.ireturn, 1, 0) := m_at_of r_M_feed (by decide +kernel)
set_option maxRecDepth 20000 in
set_option maxHeartbeats 1000000 in
theorem E_M_feed (x : m_X) (s : m_H) (w : Nat) (n1 : Int32) (n2 : Int32) (n3 : Int32) (n4 : Int32) (n5 : Int32) : m_M x k_M_feed [.ref w, .int n1, .int n2, .int n3, .int n4, .int n5] s = if m_isO s w 11 = true then ((m_fI s 11 4 w).bind fun v1 => if (v1 + (20 : Int32)) ≤ 300 then (m_bV (m_M x k_M_four [.ref w, .int n1] s) fun s17 => m_bV (m_M x k_M_four [.ref w, .int n2] s17) fun s22 => m_bV (m_M x k_M_four [.ref w, .int n3] s22) fun s27 => m_bV (m_M x k_M_four [.ref w, .int n4] s27) fun s33 => m_bV (m_M x k_M_four [.ref w, .int n5] s33) fun s39 => (m_fI s39 11 4 w).bind fun v43 => some (some (.int v43), s39)) else some (some (.int (-1)), s)) else none := by
  refine e_M1 (L0 := [some (.ref w), some (.int n1), some (.int n2), some (.int n3), some (.int n4), some (.int n5)]) rfl (by decide +kernel) rfl (q_M_feed _) rfl ?_
  refine e_aload_n i_M_feed_0 rfl ?_
  refine e_getI i_M_feed_1 lf_1 (by decide) (Or.inl ft_11_4) (fun v1 => ?_)
  refine e_bipush (v := 20) i_M_feed_4 (by decide) ?_
  refine e_iadd i_M_feed_6 ?_
  refine e_sipush (v := 300) i_M_feed_7 (by decide) ?_
  refine e_icmple (t := 15) i_M_feed_10 (by decide) ?_ ?_
  · refine e_aload_n i_M_feed_15 rfl ?_
    refine e_iload_n i_M_feed_16 rfl ?_
    refine e_callV (as := [.ref w, .int n1]) (st' := []) i_M_feed_17 lm_423 (Or.inr (Or.inl ⟨rfl, rfl⟩)) w_M_four rfl rfl rfl (Nat.le_of_ble_eq_true rfl) (Nat.le_of_ble_eq_true rfl) (m_rlt (q_M_four _) (by decide)) rfl (fun s17 => ?_)
    refine e_aload_n i_M_feed_20 rfl ?_
    refine e_iload_n i_M_feed_21 rfl ?_
    refine e_callV (as := [.ref w, .int n2]) (st' := []) i_M_feed_22 lm_423 (Or.inr (Or.inl ⟨rfl, rfl⟩)) w_M_four rfl rfl rfl (Nat.le_of_ble_eq_true rfl) (Nat.le_of_ble_eq_true rfl) (m_rlt (q_M_four _) (by decide)) rfl (fun s22 => ?_)
    refine e_aload_n i_M_feed_25 rfl ?_
    refine e_iload_n i_M_feed_26 rfl ?_
    refine e_callV (as := [.ref w, .int n3]) (st' := []) i_M_feed_27 lm_423 (Or.inr (Or.inl ⟨rfl, rfl⟩)) w_M_four rfl rfl rfl (Nat.le_of_ble_eq_true rfl) (Nat.le_of_ble_eq_true rfl) (m_rlt (q_M_four _) (by decide)) rfl (fun s27 => ?_)
    refine e_aload_n i_M_feed_30 rfl ?_
    refine e_iload i_M_feed_31 rfl ?_
    refine e_callV (as := [.ref w, .int n4]) (st' := []) i_M_feed_33 lm_423 (Or.inr (Or.inl ⟨rfl, rfl⟩)) w_M_four rfl rfl rfl (Nat.le_of_ble_eq_true rfl) (Nat.le_of_ble_eq_true rfl) (m_rlt (q_M_four _) (by decide)) rfl (fun s33 => ?_)
    refine e_aload_n i_M_feed_36 rfl ?_
    refine e_iload i_M_feed_37 rfl ?_
    refine e_callV (as := [.ref w, .int n5]) (st' := []) i_M_feed_39 lm_423 (Or.inr (Or.inl ⟨rfl, rfl⟩)) w_M_four rfl rfl rfl (Nat.le_of_ble_eq_true rfl) (Nat.le_of_ble_eq_true rfl) (m_rlt (q_M_four _) (by decide)) rfl (fun s39 => ?_)
    refine e_aload_n i_M_feed_42 rfl ?_
    refine e_getI i_M_feed_43 lf_1 (by decide) (Or.inl ft_11_4) (fun v43 => ?_)
    exact e_iretI i_M_feed_46 rfl
  · refine e_iconst (v := (-1)) i_M_feed_13 (by decide) ?_
    exact e_iretI i_M_feed_14 rfl
theorem i_M_four_0 : m_at k_M_four 0 = some (.bipush 24, 2, 0) := m_at_of r_M_four (by decide +kernel)
theorem i_M_four_2 : m_at k_M_four 2 = some (.istore_n 2, 1, 0) := m_at_of r_M_four (by decide +kernel)
theorem i_M_four_3 : m_at k_M_four 3 = some (.iload_n 2, 1, 0) := m_at_of r_M_four (by decide +kernel)
theorem i_M_four_4 : m_at k_M_four 4 = some (.ifCond .lt (35), 3, 0) := m_at_of r_M_four (by decide +kernel)
theorem i_M_four_7 : m_at k_M_four 7 = some (.aload_n 0, 1, 0) := m_at_of r_M_four (by decide +kernel)
theorem i_M_four_8 : m_at k_M_four 8 = some (.getfield 19, 3, 111) := m_at_of r_M_four (by decide +kernel)
theorem i_M_four_11 : m_at k_M_four 11 = some (.aload_n 0, 1, 0) := m_at_of r_M_four (by decide +kernel)
theorem i_M_four_12 : m_at k_M_four 12 = some (.getfield 97, 3, 1) := m_at_of r_M_four (by decide +kernel)
theorem i_M_four_15 : m_at k_M_four 15 = some (.iload_n 1, 1, 0) := m_at_of r_M_four (by decide +kernel)
theorem i_M_four_16 : m_at k_M_four 16 = some (.iload_n 2, 1, 0) := m_at_of r_M_four (by decide +kernel)
theorem i_M_four_17 : m_at k_M_four 17 = some (.ishr, 1, 0) := m_at_of r_M_four (by decide +kernel)
theorem i_M_four_18 : m_at k_M_four 18 = some (.sipush 255, 3, 0) := m_at_of r_M_four (by decide +kernel)
theorem i_M_four_21 : m_at k_M_four 21 = some (.iand, 1, 0) := m_at_of r_M_four (by decide +kernel)
theorem i_M_four_22 : m_at k_M_four 22 = some (.iastore, 1, 0) := m_at_of r_M_four (by decide +kernel)
theorem i_M_four_23 : m_at k_M_four 23 = some (.aload_n 0, 1, 0) := m_at_of r_M_four (by decide +kernel)
theorem i_M_four_24 : m_at k_M_four 24 = some (.dup, 1, 0) := m_at_of r_M_four (by decide +kernel)
theorem i_M_four_25 : m_at k_M_four 25 = some (.getfield 97, 3, 1) := m_at_of r_M_four (by decide +kernel)
theorem i_M_four_28 : m_at k_M_four 28 = some (.iconst 1, 1, 0) := m_at_of r_M_four (by decide +kernel)
theorem i_M_four_29 : m_at k_M_four 29 = some (.iadd, 1, 0) := m_at_of r_M_four (by decide +kernel)
theorem i_M_four_30 : m_at k_M_four 30 = some (.putfield 97, 3, 1) := m_at_of r_M_four (by decide +kernel)
theorem i_M_four_33 : m_at k_M_four 33 = some (.iinc 2 (-8), 3, 0) := m_at_of r_M_four (by decide +kernel)
theorem i_M_four_36 : m_at k_M_four 36 = some (.goto (-33), 3, 0) := m_at_of r_M_four (by decide +kernel)
theorem i_M_four_39 : m_at k_M_four 39 = some (.return_, 1, 0) := m_at_of r_M_four (by decide +kernel)
set_option maxRecDepth 20000 in
set_option maxHeartbeats 1000000 in
theorem E_M_four (x : m_X) (s : m_H) (w : Nat) (n1 : Int32) : m_M x k_M_four [.ref w, .int n1] s = if m_isO s w 11 = true then (m_D x 1 k_M_four 3 [some (.ref w), some (.int n1), some (.int 24)] [] s) else none := by
  refine e_M1 (L0 := [some (.ref w), some (.int n1), none]) rfl (by decide +kernel) rfl (q_M_four _) rfl ?_
  refine e_bipush (v := 24) i_M_four_0 (by decide) ?_
  refine e_istore_n (L' := [some (.ref w), some (.int n1), some (.int 24)]) i_M_four_2 (of_decide_eq_true rfl) rfl ?_
  exact rfl
set_option maxRecDepth 20000 in
set_option maxHeartbeats 1000000 in
theorem E_M_four_3 (x : m_X) (ρ : Nat) (hρ : 1 ≤ ρ) (s : m_H) (w : Nat) (n1 : Int32) (n2 : Int32)  : m_D x ρ k_M_four 3 [some (.ref w), some (.int n1), some (.int n2)] [] s = if n2 < 0 then (some (none, s)) else (m_fR s 11 3 w).bind fun v8 => (m_fI s 11 4 w).bind fun v12 => (m_is s v8 v12 ((n1 >>> (n2 &&& (31 : Int32))) &&& (255 : Int32))).bind fun s22 => (m_fI s22 11 4 w).bind fun v25 => (m_pf s22 11 4 w (.int (v25 + (1 : Int32)))).bind fun s30 => m_D x ρ k_M_four 3 [some (.ref w), some (.int n1), some (.int (n2 + (-8 : Int32)))] [] s30 := by
  refine e_iload_n i_M_four_3 rfl ?_
  refine e_iflt (t := 39) i_M_four_4 (by decide) ?_ ?_
  · exact e_vret i_M_four_39 rfl
  · refine e_aload_n i_M_four_7 rfl ?_
    refine e_getR i_M_four_8 lf_111 (by decide) ft_11_3 (fun v8 => ?_)
    refine e_aload_n i_M_four_11 rfl ?_
    refine e_getI i_M_four_12 lf_1 (by decide) (Or.inl ft_11_4) (fun v12 => ?_)
    refine e_iload_n i_M_four_15 rfl ?_
    refine e_iload_n i_M_four_16 rfl ?_
    refine e_ishr i_M_four_17 ?_
    refine e_sipush (v := 255) i_M_four_18 (by decide) ?_
    refine e_iand i_M_four_21 ?_
    refine e_iast i_M_four_22 (fun s22 => ?_)
    refine e_aload_n i_M_four_23 rfl ?_
    refine e_dup i_M_four_24 rfl ?_
    refine e_getI i_M_four_25 lf_1 (by decide) (Or.inl ft_11_4) (fun v25 => ?_)
    refine e_iconst (v := 1) i_M_four_28 (by decide) ?_
    refine e_iadd i_M_four_29 ?_
    refine e_putf i_M_four_30 lf_1 ft_11_4 rfl (fun s30 => ?_)
    refine e_iinc (w := (-8)) (L' := [some (.ref w), some (.int n1), some (.int (n2 + (-8 : Int32)))]) i_M_four_33 rfl (of_decide_eq_true rfl) (by decide) rfl ?_
    refine e_goto (t := 3) i_M_four_36 (by decide) ?_
    exact rfl
theorem i_M_one_0 : m_at k_M_one 0 = some (.iload_n 1, 1, 0) := m_at_of r_M_one (by decide +kernel)
theorem i_M_one_1 : m_at k_M_one 1 = some (.iconst 1, 1, 0) := m_at_of r_M_one (by decide +kernel)
theorem i_M_one_2 : m_at k_M_one 2 = some (.bipush 9, 2, 0) := m_at_of r_M_one (by decide +kernel)
theorem i_M_one_4 : m_at k_M_one 4 = some (.invokestatic 81, 3, 96) := m_at_of r_M_one (by decide +kernel)
theorem i_M_one_7 : m_at k_M_one 7 = some (.ifCond .eq (25), 3, 0) := m_at_of r_M_one (by decide +kernel)
theorem i_M_one_10 : m_at k_M_one 10 = some (.iload_n 2, 1, 0) := m_at_of r_M_one (by decide +kernel)
theorem i_M_one_11 : m_at k_M_one 11 = some (.iconst 0, 1, 0) := m_at_of r_M_one (by decide +kernel)
theorem i_M_one_12 : m_at k_M_one 12 = some (.sipush 9999, 3, 0) := m_at_of r_M_one (by decide +kernel)
theorem i_M_one_15 : m_at k_M_one 15 = some (.invokestatic 81, 3, 96) := m_at_of r_M_one (by decide +kernel)
theorem i_M_one_18 : m_at k_M_one 18 = some (.ifCond .eq (14), 3, 0) := m_at_of r_M_one (by decide +kernel)
theorem i_M_one_21 : m_at k_M_one 21 = some (.aload_n 0, 1, 0) := m_at_of r_M_one (by decide +kernel)
theorem i_M_one_22 : m_at k_M_one 22 = some (.getfield 7, 3, 0) := m_at_of r_M_one (by decide +kernel)
theorem i_M_one_25 : m_at k_M_one 25 = some (.iconst 0, 1, 0) := m_at_of r_M_one (by decide +kernel)
theorem i_M_one_26 : m_at k_M_one 26 = some (.iaload, 1, 0) := m_at_of r_M_one (by decide +kernel)
theorem i_M_one_27 : m_at k_M_one 27 = some (.bipush 7, 2, 0) := m_at_of r_M_one (by decide +kernel)
theorem i_M_one_29 : m_at k_M_one 29 = some (.if_icmp .ne (5), 3, 0) := m_at_of r_M_one (by decide +kernel)
theorem i_M_one_32 : m_at k_M_one 32 = some (.iconst (-1), 1, 0) := m_at_of r_M_one (by decide +kernel)
theorem i_M_one_33 : m_at k_M_one 33 = some (.ireturn, 1, 0) := m_at_of r_M_one (by decide +kernel)
theorem i_M_one_34 : m_at k_M_one 34 = some (.aload_n 0, 1, 0) := m_at_of r_M_one (by decide +kernel)
theorem i_M_one_35 : m_at k_M_one 35 = some (.getfield 7, 3, 0) := m_at_of r_M_one (by decide +kernel)
theorem i_M_one_38 : m_at k_M_one 38 = some (.iconst 0, 1, 0) := m_at_of r_M_one (by decide +kernel)
theorem i_M_one_39 : m_at k_M_one 39 = some (.iaload, 1, 0) := m_at_of r_M_one (by decide +kernel)
theorem i_M_one_40 : m_at k_M_one 40 = some (.istore_n 3, 1, 0) := m_at_of r_M_one (by decide +kernel)
theorem i_M_one_41 : m_at k_M_one 41 = some (.aload_n 0, 1, 0) := m_at_of r_M_one (by decide +kernel)
theorem i_M_one_42 : m_at k_M_one 42 = some (.getfield 7, 3, 0) := m_at_of r_M_one (by decide +kernel)
theorem i_M_one_45 : m_at k_M_one 45 = some (.bipush 112, 2, 0) := m_at_of r_M_one (by decide +kernel)
theorem i_M_one_47 : m_at k_M_one 47 = some (.iload_n 3, 1, 0) := m_at_of r_M_one (by decide +kernel)
theorem i_M_one_48 : m_at k_M_one 48 = some (.iadd, 1, 0) := m_at_of r_M_one (by decide +kernel)
theorem i_M_one_49 : m_at k_M_one 49 = some (.iload_n 1, 1, 0) := m_at_of r_M_one (by decide +kernel)
theorem i_M_one_50 : m_at k_M_one 50 = some (.iastore, 1, 0) := m_at_of r_M_one (by decide +kernel)
theorem i_M_one_51 : m_at k_M_one 51 = some (.aload_n 0, 1, 0) := m_at_of r_M_one (by decide +kernel)
theorem i_M_one_52 : m_at k_M_one 52 = some (.getfield 7, 3, 0) := m_at_of r_M_one (by decide +kernel)
theorem i_M_one_55 : m_at k_M_one 55 = some (.bipush 119, 2, 0) := m_at_of r_M_one (by decide +kernel)
theorem i_M_one_57 : m_at k_M_one 57 = some (.iload_n 3, 1, 0) := m_at_of r_M_one (by decide +kernel)
theorem i_M_one_58 : m_at k_M_one 58 = some (.iadd, 1, 0) := m_at_of r_M_one (by decide +kernel)
theorem i_M_one_59 : m_at k_M_one 59 = some (.iload_n 2, 1, 0) := m_at_of r_M_one (by decide +kernel)
theorem i_M_one_60 : m_at k_M_one 60 = some (.iastore, 1, 0) := m_at_of r_M_one (by decide +kernel)
theorem i_M_one_61 : m_at k_M_one 61 = some (.aload_n 0, 1, 0) := m_at_of r_M_one (by decide +kernel)
theorem i_M_one_62 : m_at k_M_one 62 = some (.getfield 7, 3, 0) := m_at_of r_M_one (by decide +kernel)
theorem i_M_one_65 : m_at k_M_one 65 = some (.bipush 13, 2, 0) := m_at_of r_M_one (by decide +kernel)
theorem i_M_one_67 : m_at k_M_one 67 = some (.iload_n 3, 1, 0) := m_at_of r_M_one (by decide +kernel)
theorem i_M_one_68 : m_at k_M_one 68 = some (.iadd, 1, 0) := m_at_of r_M_one (by decide +kernel)
theorem i_M_one_69 : m_at k_M_one 69 = some (.iload_n 2, 1, 0) := m_at_of r_M_one (by decide +kernel)
theorem i_M_one_70 : m_at k_M_one 70 = some (.iastore, 1, 0) := m_at_of r_M_one (by decide +kernel)
theorem i_M_one_71 : m_at k_M_one 71 = some (.aload_n 0, 1, 0) := m_at_of r_M_one (by decide +kernel)
theorem i_M_one_72 : m_at k_M_one 72 = some (.getfield 7, 3, 0) := m_at_of r_M_one (by decide +kernel)
theorem i_M_one_75 : m_at k_M_one 75 = some (.bipush 20, 2, 0) := m_at_of r_M_one (by decide +kernel)
theorem i_M_one_77 : m_at k_M_one 77 = some (.iload_n 3, 1, 0) := m_at_of r_M_one (by decide +kernel)
theorem i_M_one_78 : m_at k_M_one 78 = some (.iadd, 1, 0) := m_at_of r_M_one (by decide +kernel)
theorem i_M_one_79 : m_at k_M_one 79 = some (.iconst 0, 1, 0) := m_at_of r_M_one (by decide +kernel)
theorem i_M_one_80 : m_at k_M_one 80 = some (.iastore, 1, 0) := m_at_of r_M_one (by decide +kernel)
theorem i_M_one_81 : m_at k_M_one 81 = some (.aload_n 0, 1, 0) := m_at_of r_M_one (by decide +kernel)
theorem i_M_one_82 : m_at k_M_one 82 = some (.getfield 7, 3, 0) := m_at_of r_M_one (by decide +kernel)
theorem i_M_one_85 : m_at k_M_one 85 = some (.iconst 0, 1, 0) := m_at_of r_M_one (by decide +kernel)
theorem i_M_one_86 : m_at k_M_one 86 = some (.dup2, 1, 0) := m_at_of r_M_one (by decide +kernel)
theorem i_M_one_87 : m_at k_M_one 87 = some (.iaload, 1, 0) := m_at_of r_M_one (by decide +kernel)
theorem i_M_one_88 : m_at k_M_one 88 = some (.iconst 1, 1, 0) := m_at_of r_M_one (by decide +kernel)
theorem i_M_one_89 : m_at k_M_one 89 = some (.iadd, 1, 0) := m_at_of r_M_one (by decide +kernel)
theorem i_M_one_90 : m_at k_M_one 90 = some (.iastore, 1, 0) := m_at_of r_M_one (by decide +kernel)
theorem i_M_one_91 : m_at k_M_one 91 = some (.iload_n 3, 1, 0) := m_at_of r_M_one (by decide +kernel)
theorem i_M_one_92 : m_at k_M_one 92 = some (.ireturn, 1, 0) := m_at_of r_M_one (by decide +kernel)
set_option maxRecDepth 20000 in
set_option maxHeartbeats 1000000 in
theorem E_M_one (x : m_X) (s : m_H) (w : Nat) (n1 : Int32) (n2 : Int32) : m_M x k_M_one [.ref w, .int n1, .int n2] s = if m_isO s w 11 = true then (m_bI (m_M x k_M_isIn [.int n1, .int 1, .int 9] s) fun v4 s4 => if v4 = 0 then (some (some (.int (-1)), s4)) else m_bI (m_M x k_M_isIn [.int n2, .int 0, .int 9999] s4) fun v15 s15 => if v15 = 0 then (some (some (.int (-1)), s15)) else (m_fR s15 11 0 w).bind fun v22 => (m_ia x s15 v22 0).bind fun v26 => if v26 = 7 then (some (some (.int (-1)), s15)) else (m_fR s15 11 0 w).bind fun v35 => (m_ia x s15 v35 0).bind fun v39 => (m_fR s15 11 0 w).bind fun v42 => (m_is s15 v42 ((112 : Int32) + v39) n1).bind fun s50 => (m_fR s50 11 0 w).bind fun v52 => (m_is s50 v52 ((119 : Int32) + v39) n2).bind fun s60 => (m_fR s60 11 0 w).bind fun v62 => (m_is s60 v62 ((13 : Int32) + v39) n2).bind fun s70 => (m_fR s70 11 0 w).bind fun v72 => (m_is s70 v72 ((20 : Int32) + v39) 0).bind fun s80 => (m_fR s80 11 0 w).bind fun v82 => (m_ia x s80 v82 0).bind fun v87 => (m_is s80 v82 0 (v87 + (1 : Int32))).bind fun s90 => some (some (.int v39), s90)) else none := by
  refine e_M1 (L0 := [some (.ref w), some (.int n1), some (.int n2), none]) rfl (by decide +kernel) rfl (q_M_one _) rfl ?_
  refine e_iload_n i_M_one_0 rfl ?_
  refine e_iconst (v := 1) i_M_one_1 (by decide) ?_
  refine e_bipush (v := 9) i_M_one_2 (by decide) ?_
  refine e_callI (as := [.int n1, .int 1, .int 9]) (st' := []) i_M_one_4 lm_96 (Or.inl ⟨rfl, rfl⟩) w_M_isIn rfl rfl rfl (Nat.le_of_ble_eq_true rfl) (Nat.le_of_ble_eq_true rfl) (m_rlt (q_M_isIn _) (by decide)) rfl (fun v4 s4 => ?_)
  refine e_ifeq (t := 32) i_M_one_7 (by decide) ?_ ?_
  · refine e_iconst (v := (-1)) i_M_one_32 (by decide) ?_
    exact e_iretI i_M_one_33 rfl
  · refine e_iload_n i_M_one_10 rfl ?_
    refine e_iconst (v := 0) i_M_one_11 (by decide) ?_
    refine e_sipush (v := 9999) i_M_one_12 (by decide) ?_
    refine e_callI (as := [.int n2, .int 0, .int 9999]) (st' := []) i_M_one_15 lm_96 (Or.inl ⟨rfl, rfl⟩) w_M_isIn rfl rfl rfl (Nat.le_of_ble_eq_true rfl) (Nat.le_of_ble_eq_true rfl) (m_rlt (q_M_isIn _) (by decide)) rfl (fun v15 s15 => ?_)
    refine e_ifeq (t := 32) i_M_one_18 (by decide) ?_ ?_
    · refine e_iconst (v := (-1)) i_M_one_32 (by decide) ?_
      exact e_iretI i_M_one_33 rfl
    · refine e_aload_n i_M_one_21 rfl ?_
      refine e_getR i_M_one_22 lf_0 (by decide) ft_11_0 (fun v22 => ?_)
      refine e_iconst (v := 0) i_M_one_25 (by decide) ?_
      refine e_iald i_M_one_26 (fun v26 => ?_)
      refine e_bipush (v := 7) i_M_one_27 (by decide) ?_
      refine e_icmpne (t := 34) i_M_one_29 (by decide) ?_ ?_
      · refine e_aload_n i_M_one_34 rfl ?_
        refine e_getR i_M_one_35 lf_0 (by decide) ft_11_0 (fun v35 => ?_)
        refine e_iconst (v := 0) i_M_one_38 (by decide) ?_
        refine e_iald i_M_one_39 (fun v39 => ?_)
        refine e_istore_n (L' := [some (.ref w), some (.int n1), some (.int n2), some (.int v39)]) i_M_one_40 (of_decide_eq_true rfl) rfl ?_
        refine e_aload_n i_M_one_41 rfl ?_
        refine e_getR i_M_one_42 lf_0 (by decide) ft_11_0 (fun v42 => ?_)
        refine e_bipush (v := 112) i_M_one_45 (by decide) ?_
        refine e_iload_n i_M_one_47 rfl ?_
        refine e_iadd i_M_one_48 ?_
        refine e_iload_n i_M_one_49 rfl ?_
        refine e_iast i_M_one_50 (fun s50 => ?_)
        refine e_aload_n i_M_one_51 rfl ?_
        refine e_getR i_M_one_52 lf_0 (by decide) ft_11_0 (fun v52 => ?_)
        refine e_bipush (v := 119) i_M_one_55 (by decide) ?_
        refine e_iload_n i_M_one_57 rfl ?_
        refine e_iadd i_M_one_58 ?_
        refine e_iload_n i_M_one_59 rfl ?_
        refine e_iast i_M_one_60 (fun s60 => ?_)
        refine e_aload_n i_M_one_61 rfl ?_
        refine e_getR i_M_one_62 lf_0 (by decide) ft_11_0 (fun v62 => ?_)
        refine e_bipush (v := 13) i_M_one_65 (by decide) ?_
        refine e_iload_n i_M_one_67 rfl ?_
        refine e_iadd i_M_one_68 ?_
        refine e_iload_n i_M_one_69 rfl ?_
        refine e_iast i_M_one_70 (fun s70 => ?_)
        refine e_aload_n i_M_one_71 rfl ?_
        refine e_getR i_M_one_72 lf_0 (by decide) ft_11_0 (fun v72 => ?_)
        refine e_bipush (v := 20) i_M_one_75 (by decide) ?_
        refine e_iload_n i_M_one_77 rfl ?_
        refine e_iadd i_M_one_78 ?_
        refine e_iconst (v := 0) i_M_one_79 (by decide) ?_
        refine e_iast i_M_one_80 (fun s80 => ?_)
        refine e_aload_n i_M_one_81 rfl ?_
        refine e_getR i_M_one_82 lf_0 (by decide) ft_11_0 (fun v82 => ?_)
        refine e_iconst (v := 0) i_M_one_85 (by decide) ?_
        refine e_dup2 i_M_one_86 ⟨rfl, rfl⟩ ?_
        refine e_iald i_M_one_87 (fun v87 => ?_)
        refine e_iconst (v := 1) i_M_one_88 (by decide) ?_
        refine e_iadd i_M_one_89 ?_
        refine e_iast i_M_one_90 (fun s90 => ?_)
        refine e_iload_n i_M_one_91 rfl ?_
        exact e_iretI i_M_one_92 rfl
      · refine e_iconst (v := (-1)) i_M_one_32 (by decide) ?_
        exact e_iretI i_M_one_33 rfl
theorem i_M_isIn_0 : m_at k_M_isIn 0 = some (.iload_n 0, 1, 0) := m_at_of r_M_isIn (by decide +kernel)
theorem i_M_isIn_1 : m_at k_M_isIn 1 = some (.iload_n 1, 1, 0) := m_at_of r_M_isIn (by decide +kernel)
theorem i_M_isIn_2 : m_at k_M_isIn 2 = some (.if_icmp .lt (12), 3, 0) := m_at_of r_M_isIn (by decide +kernel)
theorem i_M_isIn_5 : m_at k_M_isIn 5 = some (.iload_n 0, 1, 0) := m_at_of r_M_isIn (by decide +kernel)
theorem i_M_isIn_6 : m_at k_M_isIn 6 = some (.iload_n 2, 1, 0) := m_at_of r_M_isIn (by decide +kernel)
theorem i_M_isIn_7 : m_at k_M_isIn 7 = some (.if_icmp .gt (7), 3, 0) := m_at_of r_M_isIn (by decide +kernel)
theorem i_M_isIn_10 : m_at k_M_isIn 10 = some (.iconst 1, 1, 0) := m_at_of r_M_isIn (by decide +kernel)
theorem i_M_isIn_11 : m_at k_M_isIn 11 = some (.goto (4), 3, 0) := m_at_of r_M_isIn (by decide +kernel)
theorem i_M_isIn_14 : m_at k_M_isIn 14 = some (.iconst 0, 1, 0) := m_at_of r_M_isIn (by decide +kernel)
theorem i_M_isIn_15 : m_at k_M_isIn 15 = some (.ireturn, 1, 0) := m_at_of r_M_isIn (by decide +kernel)
set_option maxRecDepth 20000 in
set_option maxHeartbeats 1000000 in
theorem E_M_isIn (x : m_X) (s : m_H) (n0 : Int32) (n1 : Int32) (n2 : Int32) : m_M x k_M_isIn [.int n0, .int n1, .int n2] s = if n0 < n1 then (some (some (.int 0), s)) else if n2 < n0 then (some (some (.int 0), s)) else some (some (.int 1), s) := by
  refine e_M0 (L0 := [some (.int n0), some (.int n1), some (.int n2)]) rfl (q_M_isIn _) rfl ?_
  refine e_iload_n i_M_isIn_0 rfl ?_
  refine e_iload_n i_M_isIn_1 rfl ?_
  refine e_icmplt (t := 14) i_M_isIn_2 (by decide) ?_ ?_
  · refine e_iconst (v := 0) i_M_isIn_14 (by decide) ?_
    exact e_iretZ i_M_isIn_15 rfl (by decide)
  · refine e_iload_n i_M_isIn_5 rfl ?_
    refine e_iload_n i_M_isIn_6 rfl ?_
    refine e_icmpgt (t := 14) i_M_isIn_7 (by decide) ?_ ?_
    · refine e_iconst (v := 0) i_M_isIn_14 (by decide) ?_
      exact e_iretZ i_M_isIn_15 rfl (by decide)
    · refine e_iconst (v := 1) i_M_isIn_10 (by decide) ?_
      refine e_goto (t := 15) i_M_isIn_11 (by decide) ?_
      exact e_iretZ i_M_isIn_15 rfl (by decide)
