theorem i_M_pledgeNow_0 : m_at k_M_pledgeNow 0 = some (.aload_n 0, 1, 0) := m_at_of r_M_pledgeNow (by decide +kernel)
theorem i_M_pledgeNow_1 : m_at k_M_pledgeNow 1 = some (.iload_n 1, 1, 0) := m_at_of r_M_pledgeNow (by decide +kernel)
theorem i_M_pledgeNow_2 : m_at k_M_pledgeNow 2 = some (.invokevirtual 377, 3, 216) := m_at_of r_M_pledgeNow (by decide +kernel)
theorem i_M_pledgeNow_5 : m_at k_M_pledgeNow 5 = some (.istore_n 2, 1, 0) := m_at_of r_M_pledgeNow (by decide +kernel)
theorem i_M_pledgeNow_6 : m_at k_M_pledgeNow 6 = some (.aload_n 0, 1, 0) := m_at_of r_M_pledgeNow (by decide +kernel)
theorem i_M_pledgeNow_7 : m_at k_M_pledgeNow 7 = some (.aload_n 0, 1, 0) := m_at_of r_M_pledgeNow (by decide +kernel)
theorem i_M_pledgeNow_8 : m_at k_M_pledgeNow 8 = some (.iload_n 1, 1, 0) := m_at_of r_M_pledgeNow (by decide +kernel)
theorem i_M_pledgeNow_9 : m_at k_M_pledgeNow 9 = some (.iconst 1, 1, 0) := m_at_of r_M_pledgeNow (by decide +kernel)
theorem i_M_pledgeNow_10 : m_at k_M_pledgeNow 10 = some (.invokevirtual 85, 3, 106) := m_at_of r_M_pledgeNow (by decide +kernel)
theorem i_M_pledgeNow_13 : m_at k_M_pledgeNow 13 = some (.iload_n 2, 1, 0) := m_at_of r_M_pledgeNow (by decide +kernel)
theorem i_M_pledgeNow_14 : m_at k_M_pledgeNow 14 = some (.invokevirtual 380, 3, 287) := m_at_of r_M_pledgeNow (by decide +kernel)
theorem i_M_pledgeNow_17 : m_at k_M_pledgeNow 17 = some (.aload_n 0, 1, 0) := m_at_of r_M_pledgeNow (by decide +kernel)
theorem i_M_pledgeNow_18 : m_at k_M_pledgeNow 18 = some (.iload_n 1, 1, 0) := m_at_of r_M_pledgeNow (by decide +kernel)
theorem i_M_pledgeNow_19 : m_at k_M_pledgeNow 19 = some (.bipush 6, 2, 0) := m_at_of r_M_pledgeNow (by decide +kernel)
theorem i_M_pledgeNow_21 : m_at k_M_pledgeNow 21 = some (.iconst 3, 1, 0) := m_at_of r_M_pledgeNow (by decide +kernel)
theorem i_M_pledgeNow_22 : m_at k_M_pledgeNow 22 = some (.invokevirtual 345, 3, 233) := m_at_of r_M_pledgeNow (by decide +kernel)
theorem i_M_pledgeNow_25 : m_at k_M_pledgeNow 25 = some (.iload_n 2, 1, 0) := m_at_of r_M_pledgeNow (by decide +kernel)
theorem i_M_pledgeNow_26 : m_at k_M_pledgeNow 26 = some (.ireturn, 1, 0) := m_at_of r_M_pledgeNow (by decide +kernel)
set_option maxRecDepth 20000 in
set_option maxHeartbeats 1000000 in
theorem E_M_pledgeNow (x : m_X) (s : m_H) (w : Nat) (n1 : Int32) : m_M x k_M_pledgeNow [.ref w, .int n1] s = if m_isO s w 11 = true then (m_bI (m_M x k_M_pawnOf [.ref w, .int n1] s) fun v2 s2 => m_bI (m_M x k_M_get [.ref w, .int n1, .int 1] s2) fun v10 s10 => m_bV (m_M x k_M_gain [.ref w, .int v10, .int v2] s10) fun s14 => m_bV (m_M x k_M_put [.ref w, .int n1, .int 6, .int 3] s14) fun s22 => some (some (.int v2), s22)) else none := by
  refine e_M1 (L0 := [some (.ref w), some (.int n1), none]) rfl (by decide +kernel) rfl (q_M_pledgeNow _) rfl ?_
  refine e_aload_n i_M_pledgeNow_0 rfl ?_
  refine e_iload_n i_M_pledgeNow_1 rfl ?_
  refine e_callI (as := [.ref w, .int n1]) (st' := []) i_M_pledgeNow_2 lm_216 (Or.inr (Or.inl ⟨rfl, rfl⟩)) w_M_pawnOf rfl rfl rfl (Nat.le_of_ble_eq_true rfl) (Nat.le_of_ble_eq_true rfl) (m_rlt (q_M_pawnOf _) (by decide)) rfl (fun v2 s2 => ?_)
  refine e_istore_n (L' := [some (.ref w), some (.int n1), some (.int v2)]) i_M_pledgeNow_5 (of_decide_eq_true rfl) rfl ?_
  refine e_aload_n i_M_pledgeNow_6 rfl ?_
  refine e_aload_n i_M_pledgeNow_7 rfl ?_
  refine e_iload_n i_M_pledgeNow_8 rfl ?_
  refine e_iconst (v := 1) i_M_pledgeNow_9 (by decide) ?_
  refine e_callI (as := [.ref w, .int n1, .int 1]) (st' := [.ref w]) i_M_pledgeNow_10 lm_106 (Or.inr (Or.inl ⟨rfl, rfl⟩)) w_M_get rfl rfl rfl (Nat.le_of_ble_eq_true rfl) (Nat.le_of_ble_eq_true rfl) (m_rlt (q_M_get _) (by decide)) rfl (fun v10 s10 => ?_)
  refine e_iload_n i_M_pledgeNow_13 rfl ?_
  refine e_callV (as := [.ref w, .int v10, .int v2]) (st' := []) i_M_pledgeNow_14 lm_287 (Or.inr (Or.inl ⟨rfl, rfl⟩)) w_M_gain rfl rfl rfl (Nat.le_of_ble_eq_true rfl) (Nat.le_of_ble_eq_true rfl) (m_rlt (q_M_gain _) (by decide)) rfl (fun s14 => ?_)
  refine e_aload_n i_M_pledgeNow_17 rfl ?_
  refine e_iload_n i_M_pledgeNow_18 rfl ?_
  refine e_bipush (v := 6) i_M_pledgeNow_19 (by decide) ?_
  refine e_iconst (v := 3) i_M_pledgeNow_21 (by decide) ?_
  refine e_callV (as := [.ref w, .int n1, .int 6, .int 3]) (st' := []) i_M_pledgeNow_22 lm_233 (Or.inr (Or.inl ⟨rfl, rfl⟩)) w_M_put rfl rfl rfl (Nat.le_of_ble_eq_true rfl) (Nat.le_of_ble_eq_true rfl) (m_rlt (q_M_put _) (by decide)) rfl (fun s22 => ?_)
  refine e_iload_n i_M_pledgeNow_25 rfl ?_
  exact e_iretI i_M_pledgeNow_26 rfl
theorem i_M_gain_0 : m_at k_M_gain 0 = some (.aload_n 0, 1, 0) := m_at_of r_M_gain (by decide +kernel)
theorem i_M_gain_1 : m_at k_M_gain 1 = some (.getfield 7, 3, 0) := m_at_of r_M_gain (by decide +kernel)
theorem i_M_gain_4 : m_at k_M_gain 4 = some (.bipush 13, 2, 0) := m_at_of r_M_gain (by decide +kernel)
theorem i_M_gain_6 : m_at k_M_gain 6 = some (.iload_n 1, 1, 0) := m_at_of r_M_gain (by decide +kernel)
theorem i_M_gain_7 : m_at k_M_gain 7 = some (.iadd, 1, 0) := m_at_of r_M_gain (by decide +kernel)
theorem i_M_gain_8 : m_at k_M_gain 8 = some (.aload_n 0, 1, 0) := m_at_of r_M_gain (by decide +kernel)
theorem i_M_gain_9 : m_at k_M_gain 9 = some (.getfield 7, 3, 0) := m_at_of r_M_gain (by decide +kernel)
theorem i_M_gain_12 : m_at k_M_gain 12 = some (.bipush 13, 2, 0) := m_at_of r_M_gain (by decide +kernel)
theorem i_M_gain_14 : m_at k_M_gain 14 = some (.iload_n 1, 1, 0) := m_at_of r_M_gain (by decide +kernel)
theorem i_M_gain_15 : m_at k_M_gain 15 = some (.iadd, 1, 0) := m_at_of r_M_gain (by decide +kernel)
theorem i_M_gain_16 : m_at k_M_gain 16 = some (.iaload, 1, 0) := m_at_of r_M_gain (by decide +kernel)
theorem i_M_gain_17 : m_at k_M_gain 17 = some (.iload_n 2, 1, 0) := m_at_of r_M_gain (by decide +kernel)
theorem i_M_gain_18 : m_at k_M_gain 18 = some (.iadd, 1, 0) := m_at_of r_M_gain (by decide +kernel)
theorem i_M_gain_19 : m_at k_M_gain 19 = some (.i2l, 1, 0) := m_at_of r_M_gain (by decide +kernel)
theorem i_M_gain_20 : m_at k_M_gain 20 = some (.iconst 0, 1, 0) := m_at_of r_M_gain (by decide +kernel)
theorem i_M_gain_21 : m_at k_M_gain 21 = some (.sipush 9999, 3, 0) := m_at_of r_M_gain (by decide +kernel)
theorem i_M_gain_24 : m_at k_M_gain 24 = some (.invokestatic 310, 3, 273) := m_at_of r_M_gain (by decide +kernel)
theorem i_M_gain_27 : m_at k_M_gain 27 = some (.iastore, 1, 0) := m_at_of r_M_gain (by decide +kernel)
theorem i_M_gain_28 : m_at k_M_gain 28 = some (.return_, 1, 0) := m_at_of r_M_gain (by decide +kernel)
set_option maxRecDepth 20000 in
set_option maxHeartbeats 1000000 in
theorem E_M_gain (x : m_X) (s : m_H) (w : Nat) (n1 : Int32) (n2 : Int32) : m_M x k_M_gain [.ref w, .int n1, .int n2] s = if m_isO s w 11 = true then ((m_fR s 11 0 w).bind fun v1 => (m_fR s 11 0 w).bind fun v9 => (m_ia x s v9 ((13 : Int32) + n1)).bind fun v16 => m_bI (m_M x k_M_cut [.long (v16 + n2).toInt64, .int 0, .int 9999] s) fun v24 s24 => (m_is s24 v1 ((13 : Int32) + n1) v24).bind fun s27 => some (none, s27)) else none := by
  refine e_M1 (L0 := [some (.ref w), some (.int n1), some (.int n2)]) rfl (by decide +kernel) rfl (q_M_gain _) rfl ?_
  refine e_aload_n i_M_gain_0 rfl ?_
  refine e_getR i_M_gain_1 lf_0 (by decide) ft_11_0 (fun v1 => ?_)
  refine e_bipush (v := 13) i_M_gain_4 (by decide) ?_
  refine e_iload_n i_M_gain_6 rfl ?_
  refine e_iadd i_M_gain_7 ?_
  refine e_aload_n i_M_gain_8 rfl ?_
  refine e_getR i_M_gain_9 lf_0 (by decide) ft_11_0 (fun v9 => ?_)
  refine e_bipush (v := 13) i_M_gain_12 (by decide) ?_
  refine e_iload_n i_M_gain_14 rfl ?_
  refine e_iadd i_M_gain_15 ?_
  refine e_iald i_M_gain_16 (fun v16 => ?_)
  refine e_iload_n i_M_gain_17 rfl ?_
  refine e_iadd i_M_gain_18 ?_
  refine e_i2l i_M_gain_19 ?_
  refine e_iconst (v := 0) i_M_gain_20 (by decide) ?_
  refine e_sipush (v := 9999) i_M_gain_21 (by decide) ?_
  refine e_callI (as := [.long (v16 + n2).toInt64, .int 0, .int 9999]) (st' := [.int ((13 : Int32) + n1), .ref v1]) i_M_gain_24 lm_273 (Or.inl ⟨rfl, rfl⟩) w_M_cut rfl rfl rfl (Nat.le_of_ble_eq_true rfl) (Nat.le_of_ble_eq_true rfl) (m_rlt (q_M_cut _) (by decide)) rfl (fun v24 s24 => ?_)
  refine e_iast i_M_gain_27 (fun s27 => ?_)
  exact e_vret i_M_gain_28 rfl
theorem i_M_canPledge_0 : m_at k_M_canPledge 0 = some (.aload_n 0, 1, 0) := m_at_of r_M_canPledge (by decide +kernel)
theorem i_M_canPledge_1 : m_at k_M_canPledge 1 = some (.iload_n 1, 1, 0) := m_at_of r_M_canPledge (by decide +kernel)
theorem i_M_canPledge_2 : m_at k_M_canPledge 2 = some (.invokevirtual 371, 3, 234) := m_at_of r_M_canPledge (by decide +kernel)
theorem i_M_canPledge_5 : m_at k_M_canPledge 5 = some (.ifCond .eq (15), 3, 0) := m_at_of r_M_canPledge (by decide +kernel)
theorem i_M_canPledge_8 : m_at k_M_canPledge 8 = some (.aload_n 0, 1, 0) := m_at_of r_M_canPledge (by decide +kernel)
theorem i_M_canPledge_9 : m_at k_M_canPledge 9 = some (.iload_n 1, 1, 0) := m_at_of r_M_canPledge (by decide +kernel)
theorem i_M_canPledge_10 : m_at k_M_canPledge 10 = some (.invokevirtual 377, 3, 216) := m_at_of r_M_canPledge (by decide +kernel)
theorem i_M_canPledge_13 : m_at k_M_canPledge 13 = some (.ifCond .le (7), 3, 0) := m_at_of r_M_canPledge (by decide +kernel)
theorem i_M_canPledge_16 : m_at k_M_canPledge 16 = some (.iconst 1, 1, 0) := m_at_of r_M_canPledge (by decide +kernel)
theorem i_M_canPledge_17 : m_at k_M_canPledge 17 = some (.goto (4), 3, 0) := m_at_of r_M_canPledge (by decide +kernel)
theorem i_M_canPledge_20 : m_at k_M_canPledge 20 = some (.iconst 0, 1, 0) := m_at_of r_M_canPledge (by decide +kernel)
theorem i_M_canPledge_21 : m_at k_M_canPledge 21 = some (.ireturn, 1, 0) := m_at_of r_M_canPledge (by decide +kernel)
set_option maxRecDepth 20000 in
set_option maxHeartbeats 1000000 in
theorem E_M_canPledge (x : m_X) (s : m_H) (w : Nat) (n1 : Int32) : m_M x k_M_canPledge [.ref w, .int n1] s = if m_isO s w 11 = true then (m_bI (m_M x k_M_isOwed [.ref w, .int n1] s) fun v2 s2 => if v2 = 0 then (some (some (.int 0), s2)) else m_bI (m_M x k_M_pawnOf [.ref w, .int n1] s2) fun v10 s10 => if v10 ≤ 0 then (some (some (.int 0), s10)) else some (some (.int 1), s10)) else none := by
  refine e_M1 (L0 := [some (.ref w), some (.int n1)]) rfl (by decide +kernel) rfl (q_M_canPledge _) rfl ?_
  refine e_aload_n i_M_canPledge_0 rfl ?_
  refine e_iload_n i_M_canPledge_1 rfl ?_
  refine e_callI (as := [.ref w, .int n1]) (st' := []) i_M_canPledge_2 lm_234 (Or.inr (Or.inl ⟨rfl, rfl⟩)) w_M_isOwed rfl rfl rfl (Nat.le_of_ble_eq_true rfl) (Nat.le_of_ble_eq_true rfl) (m_rlt (q_M_isOwed _) (by decide)) rfl (fun v2 s2 => ?_)
  refine e_ifeq (t := 20) i_M_canPledge_5 (by decide) ?_ ?_
  · refine e_iconst (v := 0) i_M_canPledge_20 (by decide) ?_
    exact e_iretZ i_M_canPledge_21 rfl (by decide)
  · refine e_aload_n i_M_canPledge_8 rfl ?_
    refine e_iload_n i_M_canPledge_9 rfl ?_
    refine e_callI (as := [.ref w, .int n1]) (st' := []) i_M_canPledge_10 lm_216 (Or.inr (Or.inl ⟨rfl, rfl⟩)) w_M_pawnOf rfl rfl rfl (Nat.le_of_ble_eq_true rfl) (Nat.le_of_ble_eq_true rfl) (m_rlt (q_M_pawnOf _) (by decide)) rfl (fun v10 s10 => ?_)
    refine e_ifle (t := 20) i_M_canPledge_13 (by decide) ?_ ?_
    · refine e_iconst (v := 0) i_M_canPledge_20 (by decide) ?_
      exact e_iretZ i_M_canPledge_21 rfl (by decide)
    · refine e_iconst (v := 1) i_M_canPledge_16 (by decide) ?_
      refine e_goto (t := 21) i_M_canPledge_17 (by decide) ?_
      exact e_iretZ i_M_canPledge_21 rfl (by decide)
theorem i_M_pawnOf_0 : m_at k_M_pawnOf 0 = some (.aload_n 0, 1, 0) := m_at_of r_M_pawnOf (by decide +kernel)
theorem i_M_pawnOf_1 : m_at k_M_pawnOf 1 = some (.iload_n 1, 1, 0) := m_at_of r_M_pawnOf (by decide +kernel)
theorem i_M_pawnOf_2 : m_at k_M_pawnOf 2 = some (.invokevirtual 324, 3, 274) := m_at_of r_M_pawnOf (by decide +kernel)
theorem i_M_pawnOf_5 : m_at k_M_pawnOf 5 = some (.aload_n 0, 1, 0) := m_at_of r_M_pawnOf (by decide +kernel)
theorem i_M_pawnOf_6 : m_at k_M_pawnOf 6 = some (.aload_n 0, 1, 0) := m_at_of r_M_pawnOf (by decide +kernel)
theorem i_M_pawnOf_7 : m_at k_M_pawnOf 7 = some (.getfield 7, 3, 0) := m_at_of r_M_pawnOf (by decide +kernel)
theorem i_M_pawnOf_10 : m_at k_M_pawnOf 10 = some (.iconst 2, 1, 0) := m_at_of r_M_pawnOf (by decide +kernel)
theorem i_M_pawnOf_11 : m_at k_M_pawnOf 11 = some (.iaload, 1, 0) := m_at_of r_M_pawnOf (by decide +kernel)
theorem i_M_pawnOf_12 : m_at k_M_pawnOf 12 = some (.iconst 3, 1, 0) := m_at_of r_M_pawnOf (by decide +kernel)
theorem i_M_pawnOf_13 : m_at k_M_pawnOf 13 = some (.aload_n 0, 1, 0) := m_at_of r_M_pawnOf (by decide +kernel)
theorem i_M_pawnOf_14 : m_at k_M_pawnOf 14 = some (.getfield 32, 3, 82) := m_at_of r_M_pawnOf (by decide +kernel)
theorem i_M_pawnOf_17 : m_at k_M_pawnOf 17 = some (.bipush 8, 2, 0) := m_at_of r_M_pawnOf (by decide +kernel)
theorem i_M_pawnOf_19 : m_at k_M_pawnOf 19 = some (.iaload, 1, 0) := m_at_of r_M_pawnOf (by decide +kernel)
theorem i_M_pawnOf_20 : m_at k_M_pawnOf 20 = some (.iconst 2, 1, 0) := m_at_of r_M_pawnOf (by decide +kernel)
theorem i_M_pawnOf_21 : m_at k_M_pawnOf 21 = some (.idiv, 1, 0) := m_at_of r_M_pawnOf (by decide +kernel)
theorem i_M_pawnOf_22 : m_at k_M_pawnOf 22 = some (.bipush 99, 2, 0) := m_at_of r_M_pawnOf (by decide +kernel)
theorem i_M_pawnOf_24 : m_at k_M_pawnOf 24 = some (.invokevirtual 320, 3, 275) := m_at_of r_M_pawnOf (by decide +kernel)
theorem i_M_pawnOf_27 : m_at k_M_pawnOf 27 = some (.ireturn, 1, 0) := m_at_of r_M_pawnOf (by decide +kernel)
set_option maxRecDepth 20000 in
set_option maxHeartbeats 1000000 in
theorem E_M_pawnOf (x : m_X) (s : m_H) (w : Nat) (n1 : Int32) : m_M x k_M_pawnOf [.ref w, .int n1] s = if m_isO s w 11 = true then (m_bV (m_M x k_M_nameGlove [.ref w, .int n1] s) fun s2 => (m_fR s2 11 0 w).bind fun v7 => (m_ia x s2 v7 2).bind fun v11 => (m_fR s2 11 20 w).bind fun v14 => (m_ia x s2 v14 8).bind fun v19 => m_bI (m_M x k_M_says [.ref w, .int v11, .int 3, .int (v19 / (2 : Int32)), .int 99] s2) fun v24 s24 => some (some (.int v24), s24)) else none := by
  refine e_M1 (L0 := [some (.ref w), some (.int n1)]) rfl (by decide +kernel) rfl (q_M_pawnOf _) rfl ?_
  refine e_aload_n i_M_pawnOf_0 rfl ?_
  refine e_iload_n i_M_pawnOf_1 rfl ?_
  refine e_callV (as := [.ref w, .int n1]) (st' := []) i_M_pawnOf_2 lm_274 (Or.inr (Or.inl ⟨rfl, rfl⟩)) w_M_nameGlove rfl rfl rfl (Nat.le_of_ble_eq_true rfl) (Nat.le_of_ble_eq_true rfl) (m_rlt (q_M_nameGlove _) (by decide)) rfl (fun s2 => ?_)
  refine e_aload_n i_M_pawnOf_5 rfl ?_
  refine e_aload_n i_M_pawnOf_6 rfl ?_
  refine e_getR i_M_pawnOf_7 lf_0 (by decide) ft_11_0 (fun v7 => ?_)
  refine e_iconst (v := 2) i_M_pawnOf_10 (by decide) ?_
  refine e_iald i_M_pawnOf_11 (fun v11 => ?_)
  refine e_iconst (v := 3) i_M_pawnOf_12 (by decide) ?_
  refine e_aload_n i_M_pawnOf_13 rfl ?_
  refine e_getR i_M_pawnOf_14 lf_82 (by decide) ft_11_20 (fun v14 => ?_)
  refine e_bipush (v := 8) i_M_pawnOf_17 (by decide) ?_
  refine e_iald i_M_pawnOf_19 (fun v19 => ?_)
  refine e_iconst (v := 2) i_M_pawnOf_20 (by decide) ?_
  refine e_idivc i_M_pawnOf_21 (by decide) ?_
  refine e_bipush (v := 99) i_M_pawnOf_22 (by decide) ?_
  refine e_callI (as := [.ref w, .int v11, .int 3, .int (v19 / (2 : Int32)), .int 99]) (st' := []) i_M_pawnOf_24 lm_275 (Or.inr (Or.inl ⟨rfl, rfl⟩)) w_M_says rfl rfl rfl (Nat.le_of_ble_eq_true rfl) (Nat.le_of_ble_eq_true rfl) (m_rlt (q_M_says _) (by decide)) rfl (fun v24 s24 => ?_)
  exact e_iretI i_M_pawnOf_27 rfl
theorem i_M_says_0 : m_at k_M_says 0 = some (.iconst 0, 1, 0) := m_at_of r_M_says (by decide +kernel)
theorem i_M_says_1 : m_at k_M_says 1 = some (.istore 5, 2, 0) := m_at_of r_M_says (by decide +kernel)
theorem i_M_says_3 : m_at k_M_says 3 = some (.iload_n 1, 1, 0) := m_at_of r_M_says (by decide +kernel)
theorem i_M_says_4 : m_at k_M_says 4 = some (.ifCond .lt (60), 3, 0) := m_at_of r_M_says (by decide +kernel)
theorem i_M_says_7 : m_at k_M_says 7 = some (.iload 5, 2, 0) := m_at_of r_M_says (by decide +kernel)
theorem i_M_says_9 : m_at k_M_says 9 = some (.aload_n 0, 1, 0) := m_at_of r_M_says (by decide +kernel)
theorem i_M_says_10 : m_at k_M_says 10 = some (.getfield 16, 3, 79) := m_at_of r_M_says (by decide +kernel)
theorem i_M_says_13 : m_at k_M_says 13 = some (.sipush 753, 3, 0) := m_at_of r_M_says (by decide +kernel)
theorem i_M_says_16 : m_at k_M_says 16 = some (.iload_n 1, 1, 0) := m_at_of r_M_says (by decide +kernel)
theorem i_M_says_17 : m_at k_M_says 17 = some (.imul, 1, 0) := m_at_of r_M_says (by decide +kernel)
theorem i_M_says_18 : m_at k_M_says 18 = some (.iaload, 1, 0) := m_at_of r_M_says (by decide +kernel)
theorem i_M_says_19 : m_at k_M_says 19 = some (.if_icmp .ge (45), 3, 0) := m_at_of r_M_says (by decide +kernel)
theorem i_M_says_22 : m_at k_M_says 22 = some (.aload_n 0, 1, 0) := m_at_of r_M_says (by decide +kernel)
theorem i_M_says_23 : m_at k_M_says 23 = some (.getfield 16, 3, 79) := m_at_of r_M_says (by decide +kernel)
theorem i_M_says_26 : m_at k_M_says 26 = some (.sipush 753, 3, 0) := m_at_of r_M_says (by decide +kernel)
theorem i_M_says_29 : m_at k_M_says 29 = some (.iload_n 1, 1, 0) := m_at_of r_M_says (by decide +kernel)
theorem i_M_says_30 : m_at k_M_says 30 = some (.imul, 1, 0) := m_at_of r_M_says (by decide +kernel)
theorem i_M_says_31 : m_at k_M_says 31 = some (.iconst 1, 1, 0) := m_at_of r_M_says (by decide +kernel)
theorem i_M_says_32 : m_at k_M_says 32 = some (.iadd, 1, 0) := m_at_of r_M_says (by decide +kernel)
theorem i_M_says_33 : m_at k_M_says 33 = some (.bipush 6, 2, 0) := m_at_of r_M_says (by decide +kernel)
theorem i_M_says_35 : m_at k_M_says 35 = some (.iload 5, 2, 0) := m_at_of r_M_says (by decide +kernel)
theorem i_M_says_37 : m_at k_M_says 37 = some (.imul, 1, 0) := m_at_of r_M_says (by decide +kernel)
theorem i_M_says_38 : m_at k_M_says 38 = some (.iadd, 1, 0) := m_at_of r_M_says (by decide +kernel)
theorem i_M_says_39 : m_at k_M_says 39 = some (.iaload, 1, 0) := m_at_of r_M_says (by decide +kernel)
theorem i_M_says_40 : m_at k_M_says 40 = some (.iload_n 2, 1, 0) := m_at_of r_M_says (by decide +kernel)
theorem i_M_says_41 : m_at k_M_says 41 = some (.if_icmp .ne (17), 3, 0) := m_at_of r_M_says (by decide +kernel)
theorem i_M_says_44 : m_at k_M_says 44 = some (.aload_n 0, 1, 0) := m_at_of r_M_says (by decide +kernel)
theorem i_M_says_45 : m_at k_M_says 45 = some (.iload_n 1, 1, 0) := m_at_of r_M_says (by decide +kernel)
theorem i_M_says_46 : m_at k_M_says 46 = some (.iload 5, 2, 0) := m_at_of r_M_says (by decide +kernel)
theorem i_M_says_48 : m_at k_M_says 48 = some (.invokevirtual 307, 3, 291) := m_at_of r_M_says (by decide +kernel)
theorem i_M_says_51 : m_at k_M_says 51 = some (.iconst 0, 1, 0) := m_at_of r_M_says (by decide +kernel)
theorem i_M_says_52 : m_at k_M_says 52 = some (.iload 4, 2, 0) := m_at_of r_M_says (by decide +kernel)
theorem i_M_says_54 : m_at k_M_says 54 = some (.invokestatic 310, 3, 273) := m_at_of r_M_says (by decide +kernel)
theorem i_M_says_57 : m_at k_M_says 57 = some (.ireturn, 1, 0) := m_at_of r_M_says (by decide +kernel)
theorem i_M_says_58 : m_at k_M_says 58 = some (.iinc 5 (1), 3, 0) := m_at_of r_M_says (by decide +kernel)
theorem i_M_says_61 : m_at k_M_says 61 = some (.goto (-58), 3, 0) := m_at_of r_M_says (by decide +kernel)
theorem i_M_says_64 : m_at k_M_says 64 = some (.iload_n 3, 1, 0) := m_at_of r_M_says (by decide +kernel)
theorem i_M_says_65 : m_at k_M_says 65 = some (.i2l, 1, 0) := m_at_of r_M_says (by decide +kernel)
theorem i_M_says_66 : m_at k_M_says 66 = some (.iconst 0, 1, 0) := m_at_of r_M_says (by decide +kernel)
theorem i_M_says_67 : m_at k_M_says 67 = some (.iload 4, 2, 0) := m_at_of r_M_says (by decide +kernel)
theorem i_M_says_69 : m_at k_M_says 69 = some (.invokestatic 310, 3, 273) := m_at_of r_M_says (by decide +kernel)
theorem i_M_says_72 : m_at k_M_says 72 = some (.ireturn, 1, 0) := m_at_of r_M_says (by decide +kernel)
set_option maxRecDepth 20000 in
set_option maxHeartbeats 1000000 in
theorem E_M_says (x : m_X) (s : m_H) (w : Nat) (n1 : Int32) (n2 : Int32) (n3 : Int32) (n4 : Int32) : m_M x k_M_says [.ref w, .int n1, .int n2, .int n3, .int n4] s = if m_isO s w 11 = true then (m_D x 5 k_M_says 3 [some (.ref w), some (.int n1), some (.int n2), some (.int n3), some (.int n4), some (.int 0)] [] s) else none := by
  refine e_M1 (L0 := [some (.ref w), some (.int n1), some (.int n2), some (.int n3), some (.int n4), none]) rfl (by decide +kernel) rfl (q_M_says _) rfl ?_
  refine e_iconst (v := 0) i_M_says_0 (by decide) ?_
  refine e_istore (L' := [some (.ref w), some (.int n1), some (.int n2), some (.int n3), some (.int n4), some (.int 0)]) i_M_says_1 (of_decide_eq_true rfl) rfl ?_
  exact rfl
set_option maxRecDepth 20000 in
set_option maxHeartbeats 1000000 in
theorem E_M_says_3 (x : m_X) (ρ : Nat) (hρ : 5 ≤ ρ) (s : m_H) (w : Nat) (n1 : Int32) (n2 : Int32) (n3 : Int32) (n4 : Int32) (n5 : Int32)  : m_D x ρ k_M_says 3 [some (.ref w), some (.int n1), some (.int n2), some (.int n3), some (.int n4), some (.int n5)] [] s = if n1 < 0 then (m_bI (m_M x k_M_cut [.long n3.toInt64, .int 0, .int n4] s) fun v69 s69 => some (some (.int v69), s69)) else (m_fR s 11 2 w).bind fun v10 => (m_ia x s v10 ((753 : Int32) * n1)).bind fun v18 => if v18 ≤ n5 then (m_bI (m_M x k_M_cut [.long n3.toInt64, .int 0, .int n4] s) fun v69 s69 => some (some (.int v69), s69)) else (m_fR s 11 2 w).bind fun v23 => (m_ia x s v23 ((((753 : Int32) * n1) + (1 : Int32)) + ((6 : Int32) * n5))).bind fun v39 => if v39 = n2 then (m_bL (m_M x k_M_summedUp [.ref w, .int n1, .int n5] s) fun v48 s48 => m_bI (m_M x k_M_cut [.long v48, .int 0, .int n4] s48) fun v54 s54 => some (some (.int v54), s54)) else m_D x ρ k_M_says 3 [some (.ref w), some (.int n1), some (.int n2), some (.int n3), some (.int n4), some (.int (n5 + (1 : Int32)))] [] s := by
  refine e_iload_n i_M_says_3 rfl ?_
  refine e_iflt (t := 64) i_M_says_4 (by decide) ?_ ?_
  · refine e_iload_n i_M_says_64 rfl ?_
    refine e_i2l i_M_says_65 ?_
    refine e_iconst (v := 0) i_M_says_66 (by decide) ?_
    refine e_iload i_M_says_67 rfl ?_
    refine e_callI (as := [.long n3.toInt64, .int 0, .int n4]) (st' := []) i_M_says_69 lm_273 (Or.inl ⟨rfl, rfl⟩) w_M_cut rfl rfl rfl (Nat.le_of_ble_eq_true rfl) (Nat.le_of_ble_eq_true rfl) (m_rlt (q_M_cut _) (Nat.lt_of_lt_of_le (by decide) hρ)) rfl (fun v69 s69 => ?_)
    exact e_iretI i_M_says_72 rfl
  · refine e_iload i_M_says_7 rfl ?_
    refine e_aload_n i_M_says_9 rfl ?_
    refine e_getR i_M_says_10 lf_79 (by decide) ft_11_2 (fun v10 => ?_)
    refine e_sipush (v := 753) i_M_says_13 (by decide) ?_
    refine e_iload_n i_M_says_16 rfl ?_
    refine e_imul i_M_says_17 ?_
    refine e_iald i_M_says_18 (fun v18 => ?_)
    refine e_icmpge (t := 64) i_M_says_19 (by decide) ?_ ?_
    · refine e_iload_n i_M_says_64 rfl ?_
      refine e_i2l i_M_says_65 ?_
      refine e_iconst (v := 0) i_M_says_66 (by decide) ?_
      refine e_iload i_M_says_67 rfl ?_
      refine e_callI (as := [.long n3.toInt64, .int 0, .int n4]) (st' := []) i_M_says_69 lm_273 (Or.inl ⟨rfl, rfl⟩) w_M_cut rfl rfl rfl (Nat.le_of_ble_eq_true rfl) (Nat.le_of_ble_eq_true rfl) (m_rlt (q_M_cut _) (Nat.lt_of_lt_of_le (by decide) hρ)) rfl (fun v69 s69 => ?_)
      exact e_iretI i_M_says_72 rfl
    · refine e_aload_n i_M_says_22 rfl ?_
      refine e_getR i_M_says_23 lf_79 (by decide) ft_11_2 (fun v23 => ?_)
      refine e_sipush (v := 753) i_M_says_26 (by decide) ?_
      refine e_iload_n i_M_says_29 rfl ?_
      refine e_imul i_M_says_30 ?_
      refine e_iconst (v := 1) i_M_says_31 (by decide) ?_
      refine e_iadd i_M_says_32 ?_
      refine e_bipush (v := 6) i_M_says_33 (by decide) ?_
      refine e_iload i_M_says_35 rfl ?_
      refine e_imul i_M_says_37 ?_
      refine e_iadd i_M_says_38 ?_
      refine e_iald i_M_says_39 (fun v39 => ?_)
      refine e_iload_n i_M_says_40 rfl ?_
      refine e_icmpne (t := 58) i_M_says_41 (by decide) ?_ ?_
      · refine e_iinc (w := 1) (L' := [some (.ref w), some (.int n1), some (.int n2), some (.int n3), some (.int n4), some (.int (n5 + (1 : Int32)))]) i_M_says_58 rfl (of_decide_eq_true rfl) (by decide) rfl ?_
        refine e_goto (t := 3) i_M_says_61 (by decide) ?_
        exact rfl
      · refine e_aload_n i_M_says_44 rfl ?_
        refine e_iload_n i_M_says_45 rfl ?_
        refine e_iload i_M_says_46 rfl ?_
        refine e_callL (as := [.ref w, .int n1, .int n5]) (st' := []) i_M_says_48 lm_291 (Or.inr (Or.inl ⟨rfl, rfl⟩)) w_M_summedUp rfl rfl rfl (Nat.le_of_ble_eq_true rfl) (Nat.le_of_ble_eq_true rfl) (m_rlt (q_M_summedUp _) (Nat.lt_of_lt_of_le (by decide) hρ)) rfl (fun v48 s48 => ?_)
        refine e_iconst (v := 0) i_M_says_51 (by decide) ?_
        refine e_iload i_M_says_52 rfl ?_
        refine e_callI (as := [.long v48, .int 0, .int n4]) (st' := []) i_M_says_54 lm_273 (Or.inl ⟨rfl, rfl⟩) w_M_cut rfl rfl rfl (Nat.le_of_ble_eq_true rfl) (Nat.le_of_ble_eq_true rfl) (m_rlt (q_M_cut _) (Nat.lt_of_lt_of_le (by decide) hρ)) rfl (fun v54 s54 => ?_)
        exact e_iretI i_M_says_57 rfl
theorem i_M_summedUp_0 : m_at k_M_summedUp 0 = some (.sipush 753, 3, 0) := m_at_of r_M_summedUp (by decide +kernel)
theorem i_M_summedUp_3 : m_at k_M_summedUp 3 = some (.iload_n 1, 1, 0) := m_at_of r_M_summedUp (by decide +kernel)
theorem i_M_summedUp_4 : m_at k_M_summedUp 4 = some (.imul, 1, 0) := m_at_of r_M_summedUp (by decide +kernel)
theorem i_M_summedUp_5 : m_at k_M_summedUp 5 = some (.iconst 1, 1, 0) := m_at_of r_M_summedUp (by decide +kernel)
theorem i_M_summedUp_6 : m_at k_M_summedUp 6 = some (.iadd, 1, 0) := m_at_of r_M_summedUp (by decide +kernel)
theorem i_M_summedUp_7 : m_at k_M_summedUp 7 = some (.bipush 6, 2, 0) := m_at_of r_M_summedUp (by decide +kernel)
theorem i_M_summedUp_9 : m_at k_M_summedUp 9 = some (.iload_n 2, 1, 0) := m_at_of r_M_summedUp (by decide +kernel)
theorem i_M_summedUp_10 : m_at k_M_summedUp 10 = some (.imul, 1, 0) := m_at_of r_M_summedUp (by decide +kernel)
theorem i_M_summedUp_11 : m_at k_M_summedUp 11 = some (.iadd, 1, 0) := m_at_of r_M_summedUp (by decide +kernel)
theorem i_M_summedUp_12 : m_at k_M_summedUp 12 = some (.istore_n 3, 1, 0) := m_at_of r_M_summedUp (by decide +kernel)
theorem i_M_summedUp_13 : m_at k_M_summedUp 13 = some (.sipush 753, 3, 0) := m_at_of r_M_summedUp (by decide +kernel)
theorem i_M_summedUp_16 : m_at k_M_summedUp 16 = some (.iload_n 1, 1, 0) := m_at_of r_M_summedUp (by decide +kernel)
theorem i_M_summedUp_17 : m_at k_M_summedUp 17 = some (.imul, 1, 0) := m_at_of r_M_summedUp (by decide +kernel)
theorem i_M_summedUp_18 : m_at k_M_summedUp 18 = some (.sipush 145, 3, 0) := m_at_of r_M_summedUp (by decide +kernel)
theorem i_M_summedUp_21 : m_at k_M_summedUp 21 = some (.iadd, 1, 0) := m_at_of r_M_summedUp (by decide +kernel)
theorem i_M_summedUp_22 : m_at k_M_summedUp 22 = some (.istore 4, 2, 0) := m_at_of r_M_summedUp (by decide +kernel)
theorem i_M_summedUp_24 : m_at k_M_summedUp 24 = some (.iconst 0, 1, 0) := m_at_of r_M_summedUp (by decide +kernel)
theorem i_M_summedUp_25 : m_at k_M_summedUp 25 = some (.istore 5, 2, 0) := m_at_of r_M_summedUp (by decide +kernel)
theorem i_M_summedUp_27 : m_at k_M_summedUp 27 = some (.iconst 0, 1, 0) := m_at_of r_M_summedUp (by decide +kernel)
theorem i_M_summedUp_28 : m_at k_M_summedUp 28 = some (.istore 6, 2, 0) := m_at_of r_M_summedUp (by decide +kernel)
theorem i_M_summedUp_30 : m_at k_M_summedUp 30 = some (.aload_n 0, 1, 0) := m_at_of r_M_summedUp (by decide +kernel)
theorem i_M_summedUp_31 : m_at k_M_summedUp 31 = some (.getfield 16, 3, 79) := m_at_of r_M_summedUp (by decide +kernel)
theorem i_M_summedUp_34 : m_at k_M_summedUp 34 = some (.iload_n 3, 1, 0) := m_at_of r_M_summedUp (by decide +kernel)
theorem i_M_summedUp_35 : m_at k_M_summedUp 35 = some (.iconst 1, 1, 0) := m_at_of r_M_summedUp (by decide +kernel)
theorem i_M_summedUp_36 : m_at k_M_summedUp 36 = some (.iadd, 1, 0) := m_at_of r_M_summedUp (by decide +kernel)
theorem i_M_summedUp_37 : m_at k_M_summedUp 37 = some (.iaload, 1, 0) := m_at_of r_M_summedUp (by decide +kernel)
theorem i_M_summedUp_38 : m_at k_M_summedUp 38 = some (.istore 7, 2, 0) := m_at_of r_M_summedUp (by decide +kernel)
theorem i_M_summedUp_40 : m_at k_M_summedUp 40 = some (.iload 7, 2, 0) := m_at_of r_M_summedUp (by decide +kernel)
theorem i_M_summedUp_42 : m_at k_M_summedUp 42 = some (.aload_n 0, 1, 0) := m_at_of r_M_summedUp (by decide +kernel)
theorem i_M_summedUp_43 : m_at k_M_summedUp 43 = some (.getfield 16, 3, 79) := m_at_of r_M_summedUp (by decide +kernel)
theorem i_M_summedUp_46 : m_at k_M_summedUp 46 = some (.iload_n 3, 1, 0) := m_at_of r_M_summedUp (by decide +kernel)
theorem i_M_summedUp_47 : m_at k_M_summedUp 47 = some (.iconst 2, 1, 0) := m_at_of r_M_summedUp (by decide +kernel)
theorem i_M_summedUp_48 : m_at k_M_summedUp 48 = some (.iadd, 1, 0) := m_at_of r_M_summedUp (by decide +kernel)
theorem i_M_summedUp_49 : m_at k_M_summedUp 49 = some (.iaload, 1, 0) := m_at_of r_M_summedUp (by decide +kernel)
theorem i_M_summedUp_50 : m_at k_M_summedUp 50 = some (.if_icmp .ge (358), 3, 0) := m_at_of r_M_summedUp (by decide +kernel)
theorem i_M_summedUp_53 : m_at k_M_summedUp 53 = some (.aload_n 0, 1, 0) := m_at_of r_M_summedUp (by decide +kernel)
theorem i_M_summedUp_54 : m_at k_M_summedUp 54 = some (.getfield 16, 3, 79) := m_at_of r_M_summedUp (by decide +kernel)
theorem i_M_summedUp_57 : m_at k_M_summedUp 57 = some (.iload 4, 2, 0) := m_at_of r_M_summedUp (by decide +kernel)
theorem i_M_summedUp_59 : m_at k_M_summedUp 59 = some (.iconst 2, 1, 0) := m_at_of r_M_summedUp (by decide +kernel)
theorem i_M_summedUp_60 : m_at k_M_summedUp 60 = some (.iload 7, 2, 0) := m_at_of r_M_summedUp (by decide +kernel)
theorem i_M_summedUp_62 : m_at k_M_summedUp 62 = some (.imul, 1, 0) := m_at_of r_M_summedUp (by decide +kernel)
theorem i_M_summedUp_63 : m_at k_M_summedUp 63 = some (.iadd, 1, 0) := m_at_of r_M_summedUp (by decide +kernel)
theorem i_M_summedUp_64 : m_at k_M_summedUp 64 = some (.iaload, 1, 0) := m_at_of r_M_summedUp (by decide +kernel)
theorem i_M_summedUp_65 : m_at k_M_summedUp 65 = some (.istore 8, 2, 0) := m_at_of r_M_summedUp (by decide +kernel)
theorem i_M_summedUp_67 : m_at k_M_summedUp 67 = some (.aload_n 0, 1, 0) := m_at_of r_M_summedUp (by decide +kernel)
theorem i_M_summedUp_68 : m_at k_M_summedUp 68 = some (.getfield 16, 3, 79) := m_at_of r_M_summedUp (by decide +kernel)
theorem i_M_summedUp_71 : m_at k_M_summedUp 71 = some (.iload 4, 2, 0) := m_at_of r_M_summedUp (by decide +kernel)
theorem i_M_summedUp_73 : m_at k_M_summedUp 73 = some (.iconst 2, 1, 0) := m_at_of r_M_summedUp (by decide +kernel)
theorem i_M_summedUp_74 : m_at k_M_summedUp 74 = some (.iload 7, 2, 0) := m_at_of r_M_summedUp (by decide +kernel)
theorem i_M_summedUp_76 : m_at k_M_summedUp 76 = some (.imul, 1, 0) := m_at_of r_M_summedUp (by decide +kernel)
theorem i_M_summedUp_77 : m_at k_M_summedUp 77 = some (.iadd, 1, 0) := m_at_of r_M_summedUp (by decide +kernel)
theorem i_M_summedUp_78 : m_at k_M_summedUp 78 = some (.iconst 1, 1, 0) := m_at_of r_M_summedUp (by decide +kernel)
theorem i_M_summedUp_79 : m_at k_M_summedUp 79 = some (.iadd, 1, 0) := m_at_of r_M_summedUp (by decide +kernel)
theorem i_M_summedUp_80 : m_at k_M_summedUp 80 = some (.iaload, 1, 0) := m_at_of r_M_summedUp (by decide +kernel)
theorem i_M_summedUp_81 : m_at k_M_summedUp 81 = some (.istore 9, 2, 0) := m_at_of r_M_summedUp (by decide +kernel)
theorem i_M_summedUp_83 : m_at k_M_summedUp 83 = some (.iload 8, 2, 0) := m_at_of r_M_summedUp (by decide +kernel)
theorem i_M_summedUp_85 : m_at k_M_summedUp 85 = some (.iconst 1, 1, 0) := m_at_of r_M_summedUp (by decide +kernel)
theorem i_M_summedUp_86 : m_at k_M_summedUp 86 = some (.if_icmp .gt (35), 3, 0) := m_at_of r_M_summedUp (by decide +kernel)
theorem i_M_summedUp_89 : m_at k_M_summedUp 89 = some (.aload_n 0, 1, 0) := m_at_of r_M_summedUp (by decide +kernel)
theorem i_M_summedUp_90 : m_at k_M_summedUp 90 = some (.getfield 35, 3, 84) := m_at_of r_M_summedUp (by decide +kernel)
theorem i_M_summedUp_93 : m_at k_M_summedUp 93 = some (.iload 5, 2, 0) := m_at_of r_M_summedUp (by decide +kernel)
theorem i_M_summedUp_95 : m_at k_M_summedUp 95 = some (.iload 8, 2, 0) := m_at_of r_M_summedUp (by decide +kernel)
theorem i_M_summedUp_97 : m_at k_M_summedUp 97 = some (.ifCond .ne (9), 3, 0) := m_at_of r_M_summedUp (by decide +kernel)
theorem i_M_summedUp_100 : m_at k_M_summedUp 100 = some (.iload 9, 2, 0) := m_at_of r_M_summedUp (by decide +kernel)
theorem i_M_summedUp_102 : m_at k_M_summedUp 102 = some (.i2l, 1, 0) := m_at_of r_M_summedUp (by decide +kernel)
theorem i_M_summedUp_103 : m_at k_M_summedUp 103 = some (.goto (11), 3, 0) := m_at_of r_M_summedUp (by decide +kernel)
theorem i_M_summedUp_106 : m_at k_M_summedUp 106 = some (.aload_n 0, 1, 0) := m_at_of r_M_summedUp (by decide +kernel)
theorem i_M_summedUp_107 : m_at k_M_summedUp 107 = some (.getfield 32, 3, 82) := m_at_of r_M_summedUp (by decide +kernel)
theorem i_M_summedUp_110 : m_at k_M_summedUp 110 = some (.iload 9, 2, 0) := m_at_of r_M_summedUp (by decide +kernel)
theorem i_M_summedUp_112 : m_at k_M_summedUp 112 = some (.iaload, 1, 0) := m_at_of r_M_summedUp (by decide +kernel)
theorem i_M_summedUp_113 : m_at k_M_summedUp 113 = some (.i2l, 1, 0) := m_at_of r_M_summedUp (by decide +kernel)
theorem i_M_summedUp_114 : m_at k_M_summedUp 114 = some (.lastore, 1, 0) := m_at_of r_M_summedUp (by decide +kernel)
theorem i_M_summedUp_115 : m_at k_M_summedUp 115 = some (.iinc 5 (1), 3, 0) := m_at_of r_M_summedUp (by decide +kernel)
theorem i_M_summedUp_118 : m_at k_M_summedUp 118 = some (.goto (284), 3, 0) := m_at_of r_M_summedUp (by decide +kernel)
theorem i_M_summedUp_121 : m_at k_M_summedUp 121 = some (.iload 8, 2, 0) := m_at_of r_M_summedUp (by decide +kernel)
theorem i_M_summedUp_123 : m_at k_M_summedUp 123 = some (.iconst 3, 1, 0) := m_at_of r_M_summedUp (by decide +kernel)
theorem i_M_summedUp_124 : m_at k_M_summedUp 124 = some (.if_icmp .ne (38), 3, 0) := m_at_of r_M_summedUp (by decide +kernel)
theorem i_M_summedUp_127 : m_at k_M_summedUp 127 = some (.iinc 5 (-1), 3, 0) := m_at_of r_M_summedUp (by decide +kernel)
theorem i_M_summedUp_130 : m_at k_M_summedUp 130 = some (.iinc 6 (-1), 3, 0) := m_at_of r_M_summedUp (by decide +kernel)
theorem i_M_summedUp_133 : m_at k_M_summedUp 133 = some (.aload_n 0, 1, 0) := m_at_of r_M_summedUp (by decide +kernel)
theorem i_M_summedUp_134 : m_at k_M_summedUp 134 = some (.getfield 39, 3, 85) := m_at_of r_M_summedUp (by decide +kernel)
theorem i_M_summedUp_137 : m_at k_M_summedUp 137 = some (.iload 6, 2, 0) := m_at_of r_M_summedUp (by decide +kernel)
theorem i_M_summedUp_139 : m_at k_M_summedUp 139 = some (.baload, 1, 0) := m_at_of r_M_summedUp (by decide +kernel)
theorem i_M_summedUp_140 : m_at k_M_summedUp 140 = some (.ifCond .ne (262), 3, 0) := m_at_of r_M_summedUp (by decide +kernel)
theorem i_M_summedUp_143 : m_at k_M_summedUp 143 = some (.aload_n 0, 1, 0) := m_at_of r_M_summedUp (by decide +kernel)
theorem i_M_summedUp_144 : m_at k_M_summedUp 144 = some (.getfield 35, 3, 84) := m_at_of r_M_summedUp (by decide +kernel)
theorem i_M_summedUp_147 : m_at k_M_summedUp 147 = some (.iload 5, 2, 0) := m_at_of r_M_summedUp (by decide +kernel)
theorem i_M_summedUp_149 : m_at k_M_summedUp 149 = some (.iconst 1, 1, 0) := m_at_of r_M_summedUp (by decide +kernel)
theorem i_M_summedUp_150 : m_at k_M_summedUp 150 = some (.isub, 1, 0) := m_at_of r_M_summedUp (by decide +kernel)
theorem i_M_summedUp_151 : m_at k_M_summedUp 151 = some (.aload_n 0, 1, 0) := m_at_of r_M_summedUp (by decide +kernel)
theorem i_M_summedUp_152 : m_at k_M_summedUp 152 = some (.getfield 35, 3, 84) := m_at_of r_M_summedUp (by decide +kernel)
theorem i_M_summedUp_155 : m_at k_M_summedUp 155 = some (.iload 5, 2, 0) := m_at_of r_M_summedUp (by decide +kernel)
theorem i_M_summedUp_157 : m_at k_M_summedUp 157 = some (.laload, 1, 0) := m_at_of r_M_summedUp (by decide +kernel)
theorem i_M_summedUp_158 : m_at k_M_summedUp 158 = some (.lastore, 1, 0) := m_at_of r_M_summedUp (by decide +kernel)
theorem i_M_summedUp_159 : m_at k_M_summedUp 159 = some (.goto (243), 3, 0) := m_at_of r_M_summedUp (by decide +kernel)
theorem i_M_summedUp_162 : m_at k_M_summedUp 162 = some (.iload 8, 2, 0) := m_at_of r_M_summedUp (by decide +kernel)
theorem i_M_summedUp_164 : m_at k_M_summedUp 164 = some (.iconst 5, 1, 0) := m_at_of r_M_summedUp (by decide +kernel)
theorem i_M_summedUp_165 : m_at k_M_summedUp 165 = some (.if_icmp .eq (9), 3, 0) := m_at_of r_M_summedUp (by decide +kernel)
theorem i_M_summedUp_168 : m_at k_M_summedUp 168 = some (.iload 8, 2, 0) := m_at_of r_M_summedUp (by decide +kernel)
theorem i_M_summedUp_170 : m_at k_M_summedUp 170 = some (.iconst 2, 1, 0) := m_at_of r_M_summedUp (by decide +kernel)
theorem i_M_summedUp_171 : m_at k_M_summedUp 171 = some (.if_icmp .ne (47), 3, 0) := m_at_of r_M_summedUp (by decide +kernel)
theorem i_M_summedUp_174 : m_at k_M_summedUp 174 = some (.aload_n 0, 1, 0) := m_at_of r_M_summedUp (by decide +kernel)
theorem i_M_summedUp_175 : m_at k_M_summedUp 175 = some (.getfield 35, 3, 84) := m_at_of r_M_summedUp (by decide +kernel)
theorem i_M_summedUp_178 : m_at k_M_summedUp 178 = some (.iload 5, 2, 0) := m_at_of r_M_summedUp (by decide +kernel)
theorem i_M_summedUp_180 : m_at k_M_summedUp 180 = some (.iconst 1, 1, 0) := m_at_of r_M_summedUp (by decide +kernel)
theorem i_M_summedUp_181 : m_at k_M_summedUp 181 = some (.isub, 1, 0) := m_at_of r_M_summedUp (by decide +kernel)
theorem i_M_summedUp_182 : m_at k_M_summedUp 182 = some (.iload 8, 2, 0) := m_at_of r_M_summedUp (by decide +kernel)
theorem i_M_summedUp_184 : m_at k_M_summedUp 184 = some (.iconst 5, 1, 0) := m_at_of r_M_summedUp (by decide +kernel)
theorem i_M_summedUp_185 : m_at k_M_summedUp 185 = some (.if_icmp .ne (16), 3, 0) := m_at_of r_M_summedUp (by decide +kernel)
theorem i_M_summedUp_188 : m_at k_M_summedUp 188 = some (.aload_n 0, 1, 0) := m_at_of r_M_summedUp (by decide +kernel)
theorem i_M_summedUp_189 : m_at k_M_summedUp 189 = some (.getfield 35, 3, 84) := m_at_of r_M_summedUp (by decide +kernel)
theorem i_M_summedUp_192 : m_at k_M_summedUp 192 = some (.iload 5, 2, 0) := m_at_of r_M_summedUp (by decide +kernel)
theorem i_M_summedUp_194 : m_at k_M_summedUp 194 = some (.iconst 1, 1, 0) := m_at_of r_M_summedUp (by decide +kernel)
theorem i_M_summedUp_195 : m_at k_M_summedUp 195 = some (.isub, 1, 0) := m_at_of r_M_summedUp (by decide +kernel)
theorem i_M_summedUp_196 : m_at k_M_summedUp 196 = some (.laload, 1, 0) := m_at_of r_M_summedUp (by decide +kernel)
theorem i_M_summedUp_197 : m_at k_M_summedUp 197 = some (.lneg, 1, 0) := m_at_of r_M_summedUp (by decide +kernel)
theorem i_M_summedUp_198 : m_at k_M_summedUp 198 = some (.goto (16), 3, 0) := m_at_of r_M_summedUp (by decide +kernel)
theorem i_M_summedUp_201 : m_at k_M_summedUp 201 = some (.aload_n 0, 1, 0) := m_at_of r_M_summedUp (by decide +kernel)
theorem i_M_summedUp_202 : m_at k_M_summedUp 202 = some (.aload_n 0, 1, 0) := m_at_of r_M_summedUp (by decide +kernel)
theorem i_M_summedUp_203 : m_at k_M_summedUp 203 = some (.getfield 35, 3, 84) := m_at_of r_M_summedUp (by decide +kernel)
theorem i_M_summedUp_206 : m_at k_M_summedUp 206 = some (.iload 5, 2, 0) := m_at_of r_M_summedUp (by decide +kernel)
theorem i_M_summedUp_208 : m_at k_M_summedUp 208 = some (.iconst 1, 1, 0) := m_at_of r_M_summedUp (by decide +kernel)
theorem i_M_summedUp_209 : m_at k_M_summedUp 209 = some (.isub, 1, 0) := m_at_of r_M_summedUp (by decide +kernel)
theorem i_M_summedUp_210 : m_at k_M_summedUp 210 = some (.laload, 1, 0) := m_at_of r_M_summedUp (by decide +kernel)
theorem i_M_summedUp_211 : m_at k_M_summedUp 211 = some (.invokevirtual 288, 3, 292) := m_at_of r_M_summedUp (by decide +kernel)
theorem i_M_summedUp_214 : m_at k_M_summedUp 214 = some (.lastore, 1, 0) := m_at_of r_M_summedUp (by decide +kernel)
theorem i_M_summedUp_215 : m_at k_M_summedUp 215 = some (.goto (187), 3, 0) := m_at_of r_M_summedUp (by decide +kernel)
theorem i_M_summedUp_218 : m_at k_M_summedUp 218 = some (.iload 8, 2, 0) := m_at_of r_M_summedUp (by decide +kernel)
theorem i_M_summedUp_220 : m_at k_M_summedUp 220 = some (.bipush 10, 2, 0) := m_at_of r_M_summedUp (by decide +kernel)
theorem i_M_summedUp_222 : m_at k_M_summedUp 222 = some (.if_icmp .ge (67), 3, 0) := m_at_of r_M_summedUp (by decide +kernel)
theorem i_M_summedUp_225 : m_at k_M_summedUp 225 = some (.iinc 5 (-1), 3, 0) := m_at_of r_M_summedUp (by decide +kernel)
theorem i_M_summedUp_228 : m_at k_M_summedUp 228 = some (.aload_n 0, 1, 0) := m_at_of r_M_summedUp (by decide +kernel)
theorem i_M_summedUp_229 : m_at k_M_summedUp 229 = some (.getfield 35, 3, 84) := m_at_of r_M_summedUp (by decide +kernel)
theorem i_M_summedUp_232 : m_at k_M_summedUp 232 = some (.iload 5, 2, 0) := m_at_of r_M_summedUp (by decide +kernel)
theorem i_M_summedUp_234 : m_at k_M_summedUp 234 = some (.iconst 1, 1, 0) := m_at_of r_M_summedUp (by decide +kernel)
theorem i_M_summedUp_235 : m_at k_M_summedUp 235 = some (.isub, 1, 0) := m_at_of r_M_summedUp (by decide +kernel)
theorem i_M_summedUp_236 : m_at k_M_summedUp 236 = some (.iload 8, 2, 0) := m_at_of r_M_summedUp (by decide +kernel)
theorem i_M_summedUp_238 : m_at k_M_summedUp 238 = some (.iconst 4, 1, 0) := m_at_of r_M_summedUp (by decide +kernel)
theorem i_M_summedUp_239 : m_at k_M_summedUp 239 = some (.if_icmp .ne (25), 3, 0) := m_at_of r_M_summedUp (by decide +kernel)
theorem i_M_summedUp_242 : m_at k_M_summedUp 242 = some (.aload_n 0, 1, 0) := m_at_of r_M_summedUp (by decide +kernel)
theorem i_M_summedUp_243 : m_at k_M_summedUp 243 = some (.getfield 35, 3, 84) := m_at_of r_M_summedUp (by decide +kernel)
theorem i_M_summedUp_246 : m_at k_M_summedUp 246 = some (.iload 5, 2, 0) := m_at_of r_M_summedUp (by decide +kernel)
theorem i_M_summedUp_248 : m_at k_M_summedUp 248 = some (.iconst 1, 1, 0) := m_at_of r_M_summedUp (by decide +kernel)
theorem i_M_summedUp_249 : m_at k_M_summedUp 249 = some (.isub, 1, 0) := m_at_of r_M_summedUp (by decide +kernel)
theorem i_M_summedUp_250 : m_at k_M_summedUp 250 = some (.laload, 1, 0) := m_at_of r_M_summedUp (by decide +kernel)
theorem i_M_summedUp_251 : m_at k_M_summedUp 251 = some (.aload_n 0, 1, 0) := m_at_of r_M_summedUp (by decide +kernel)
theorem i_M_summedUp_252 : m_at k_M_summedUp 252 = some (.getfield 35, 3, 84) := m_at_of r_M_summedUp (by decide +kernel)
theorem i_M_summedUp_255 : m_at k_M_summedUp 255 = some (.iload 5, 2, 0) := m_at_of r_M_summedUp (by decide +kernel)
theorem i_M_summedUp_257 : m_at k_M_summedUp 257 = some (.laload, 1, 0) := m_at_of r_M_summedUp (by decide +kernel)
theorem i_M_summedUp_258 : m_at k_M_summedUp 258 = some (.invokestatic 291, 3, 136) := m_at_of r_M_summedUp (by decide +kernel)
theorem i_M_summedUp_261 : m_at k_M_summedUp 261 = some (.goto (24), 3, 0) := m_at_of r_M_summedUp (by decide +kernel)
theorem i_M_summedUp_264 : m_at k_M_summedUp 264 = some (.iload 8, 2, 0) := m_at_of r_M_summedUp (by decide +kernel)
theorem i_M_summedUp_266 : m_at k_M_summedUp 266 = some (.aload_n 0, 1, 0) := m_at_of r_M_summedUp (by decide +kernel)
theorem i_M_summedUp_267 : m_at k_M_summedUp 267 = some (.getfield 35, 3, 84) := m_at_of r_M_summedUp (by decide +kernel)
theorem i_M_summedUp_270 : m_at k_M_summedUp 270 = some (.iload 5, 2, 0) := m_at_of r_M_summedUp (by decide +kernel)
theorem i_M_summedUp_272 : m_at k_M_summedUp 272 = some (.iconst 1, 1, 0) := m_at_of r_M_summedUp (by decide +kernel)
theorem i_M_summedUp_273 : m_at k_M_summedUp 273 = some (.isub, 1, 0) := m_at_of r_M_summedUp (by decide +kernel)
theorem i_M_summedUp_274 : m_at k_M_summedUp 274 = some (.laload, 1, 0) := m_at_of r_M_summedUp (by decide +kernel)
theorem i_M_summedUp_275 : m_at k_M_summedUp 275 = some (.aload_n 0, 1, 0) := m_at_of r_M_summedUp (by decide +kernel)
theorem i_M_summedUp_276 : m_at k_M_summedUp 276 = some (.getfield 35, 3, 84) := m_at_of r_M_summedUp (by decide +kernel)
theorem i_M_summedUp_279 : m_at k_M_summedUp 279 = some (.iload 5, 2, 0) := m_at_of r_M_summedUp (by decide +kernel)
theorem i_M_summedUp_281 : m_at k_M_summedUp 281 = some (.laload, 1, 0) := m_at_of r_M_summedUp (by decide +kernel)
theorem i_M_summedUp_282 : m_at k_M_summedUp 282 = some (.invokestatic 295, 3, 293) := m_at_of r_M_summedUp (by decide +kernel)
theorem i_M_summedUp_285 : m_at k_M_summedUp 285 = some (.lastore, 1, 0) := m_at_of r_M_summedUp (by decide +kernel)
theorem i_M_summedUp_286 : m_at k_M_summedUp 286 = some (.goto (116), 3, 0) := m_at_of r_M_summedUp (by decide +kernel)
theorem i_M_summedUp_289 : m_at k_M_summedUp 289 = some (.iload 8, 2, 0) := m_at_of r_M_summedUp (by decide +kernel)
theorem i_M_summedUp_291 : m_at k_M_summedUp 291 = some (.bipush 20, 2, 0) := m_at_of r_M_summedUp (by decide +kernel)
theorem i_M_summedUp_293 : m_at k_M_summedUp 293 = some (.if_icmp .ge (40), 3, 0) := m_at_of r_M_summedUp (by decide +kernel)
theorem i_M_summedUp_296 : m_at k_M_summedUp 296 = some (.iinc 5 (-2), 3, 0) := m_at_of r_M_summedUp (by decide +kernel)
theorem i_M_summedUp_299 : m_at k_M_summedUp 299 = some (.aload_n 0, 1, 0) := m_at_of r_M_summedUp (by decide +kernel)
theorem i_M_summedUp_300 : m_at k_M_summedUp 300 = some (.getfield 39, 3, 85) := m_at_of r_M_summedUp (by decide +kernel)
theorem i_M_summedUp_303 : m_at k_M_summedUp 303 = some (.iload 6, 2, 0) := m_at_of r_M_summedUp (by decide +kernel)
theorem i_M_summedUp_305 : m_at k_M_summedUp 305 = some (.iload 8, 2, 0) := m_at_of r_M_summedUp (by decide +kernel)
theorem i_M_summedUp_307 : m_at k_M_summedUp 307 = some (.aload_n 0, 1, 0) := m_at_of r_M_summedUp (by decide +kernel)
theorem i_M_summedUp_308 : m_at k_M_summedUp 308 = some (.getfield 35, 3, 84) := m_at_of r_M_summedUp (by decide +kernel)
theorem i_M_summedUp_311 : m_at k_M_summedUp 311 = some (.iload 5, 2, 0) := m_at_of r_M_summedUp (by decide +kernel)
theorem i_M_summedUp_313 : m_at k_M_summedUp 313 = some (.laload, 1, 0) := m_at_of r_M_summedUp (by decide +kernel)
theorem i_M_summedUp_314 : m_at k_M_summedUp 314 = some (.aload_n 0, 1, 0) := m_at_of r_M_summedUp (by decide +kernel)
theorem i_M_summedUp_315 : m_at k_M_summedUp 315 = some (.getfield 35, 3, 84) := m_at_of r_M_summedUp (by decide +kernel)
theorem i_M_summedUp_318 : m_at k_M_summedUp 318 = some (.iload 5, 2, 0) := m_at_of r_M_summedUp (by decide +kernel)
theorem i_M_summedUp_320 : m_at k_M_summedUp 320 = some (.iconst 1, 1, 0) := m_at_of r_M_summedUp (by decide +kernel)
theorem i_M_summedUp_321 : m_at k_M_summedUp 321 = some (.iadd, 1, 0) := m_at_of r_M_summedUp (by decide +kernel)
theorem i_M_summedUp_322 : m_at k_M_summedUp 322 = some (.laload, 1, 0) := m_at_of r_M_summedUp (by decide +kernel)
theorem i_M_summedUp_323 : m_at k_M_summedUp 323 = some (.invokestatic 299, 3, 294) := m_at_of r_M_summedUp (by decide +kernel)
theorem i_M_summedUp_326 : m_at k_M_summedUp 326 = some (.bastore, 1, 0) := m_at_of r_M_summedUp (by decide +kernel)
theorem i_M_summedUp_327 : m_at k_M_summedUp 327 = some (.iinc 6 (1), 3, 0) := m_at_of r_M_summedUp (by decide +kernel)
theorem i_M_summedUp_330 : m_at k_M_summedUp 330 = some (.goto (72), 3, 0) := m_at_of r_M_summedUp (by decide +kernel)
theorem i_M_summedUp_333 : m_at k_M_summedUp 333 = some (.iload 8, 2, 0) := m_at_of r_M_summedUp (by decide +kernel)
theorem i_M_summedUp_335 : m_at k_M_summedUp 335 = some (.bipush 20, 2, 0) := m_at_of r_M_summedUp (by decide +kernel)
theorem i_M_summedUp_337 : m_at k_M_summedUp 337 = some (.if_icmp .ne (32), 3, 0) := m_at_of r_M_summedUp (by decide +kernel)
theorem i_M_summedUp_340 : m_at k_M_summedUp 340 = some (.aload_n 0, 1, 0) := m_at_of r_M_summedUp (by decide +kernel)
theorem i_M_summedUp_341 : m_at k_M_summedUp 341 = some (.getfield 39, 3, 85) := m_at_of r_M_summedUp (by decide +kernel)
theorem i_M_summedUp_344 : m_at k_M_summedUp 344 = some (.iload 6, 2, 0) := m_at_of r_M_summedUp (by decide +kernel)
theorem i_M_summedUp_346 : m_at k_M_summedUp 346 = some (.iconst 1, 1, 0) := m_at_of r_M_summedUp (by decide +kernel)
theorem i_M_summedUp_347 : m_at k_M_summedUp 347 = some (.isub, 1, 0) := m_at_of r_M_summedUp (by decide +kernel)
theorem i_M_summedUp_348 : m_at k_M_summedUp 348 = some (.aload_n 0, 1, 0) := m_at_of r_M_summedUp (by decide +kernel)
theorem i_M_summedUp_349 : m_at k_M_summedUp 349 = some (.getfield 39, 3, 85) := m_at_of r_M_summedUp (by decide +kernel)
theorem i_M_summedUp_352 : m_at k_M_summedUp 352 = some (.iload 6, 2, 0) := m_at_of r_M_summedUp (by decide +kernel)
theorem i_M_summedUp_354 : m_at k_M_summedUp 354 = some (.iconst 1, 1, 0) := m_at_of r_M_summedUp (by decide +kernel)
theorem i_M_summedUp_355 : m_at k_M_summedUp 355 = some (.isub, 1, 0) := m_at_of r_M_summedUp (by decide +kernel)
theorem i_M_summedUp_356 : m_at k_M_summedUp 356 = some (.baload, 1, 0) := m_at_of r_M_summedUp (by decide +kernel)
theorem i_M_summedUp_357 : m_at k_M_summedUp 357 = some (.ifCond .ne (7), 3, 0) := m_at_of r_M_summedUp (by decide +kernel)
theorem i_M_summedUp_360 : m_at k_M_summedUp 360 = some (.iconst 1, 1, 0) := m_at_of r_M_summedUp (by decide +kernel)
theorem i_M_summedUp_361 : m_at k_M_summedUp 361 = some (.goto (4), 3, 0) := m_at_of r_M_summedUp (by decide +kernel)
theorem i_M_summedUp_364 : m_at k_M_summedUp 364 = some (.iconst 0, 1, 0) := m_at_of r_M_summedUp (by decide +kernel)
theorem i_M_summedUp_365 : m_at k_M_summedUp 365 = some (.bastore, 1, 0) := m_at_of r_M_summedUp (by decide +kernel)
theorem i_M_summedUp_366 : m_at k_M_summedUp 366 = some (.goto (36), 3, 0) := m_at_of r_M_summedUp (by decide +kernel)
theorem i_M_summedUp_369 : m_at k_M_summedUp 369 = some (.iinc 6 (-1), 3, 0) := m_at_of r_M_summedUp (by decide +kernel)
theorem i_M_summedUp_372 : m_at k_M_summedUp 372 = some (.aload_n 0, 1, 0) := m_at_of r_M_summedUp (by decide +kernel)
theorem i_M_summedUp_373 : m_at k_M_summedUp 373 = some (.getfield 39, 3, 85) := m_at_of r_M_summedUp (by decide +kernel)
theorem i_M_summedUp_376 : m_at k_M_summedUp 376 = some (.iload 6, 2, 0) := m_at_of r_M_summedUp (by decide +kernel)
theorem i_M_summedUp_378 : m_at k_M_summedUp 378 = some (.iconst 1, 1, 0) := m_at_of r_M_summedUp (by decide +kernel)
theorem i_M_summedUp_379 : m_at k_M_summedUp 379 = some (.isub, 1, 0) := m_at_of r_M_summedUp (by decide +kernel)
theorem i_M_summedUp_380 : m_at k_M_summedUp 380 = some (.iload 8, 2, 0) := m_at_of r_M_summedUp (by decide +kernel)
theorem i_M_summedUp_382 : m_at k_M_summedUp 382 = some (.aload_n 0, 1, 0) := m_at_of r_M_summedUp (by decide +kernel)
theorem i_M_summedUp_383 : m_at k_M_summedUp 383 = some (.getfield 39, 3, 85) := m_at_of r_M_summedUp (by decide +kernel)
theorem i_M_summedUp_386 : m_at k_M_summedUp 386 = some (.iload 6, 2, 0) := m_at_of r_M_summedUp (by decide +kernel)
theorem i_M_summedUp_388 : m_at k_M_summedUp 388 = some (.iconst 1, 1, 0) := m_at_of r_M_summedUp (by decide +kernel)
theorem i_M_summedUp_389 : m_at k_M_summedUp 389 = some (.isub, 1, 0) := m_at_of r_M_summedUp (by decide +kernel)
theorem i_M_summedUp_390 : m_at k_M_summedUp 390 = some (.baload, 1, 0) := m_at_of r_M_summedUp (by decide +kernel)
theorem i_M_summedUp_391 : m_at k_M_summedUp 391 = some (.aload_n 0, 1, 0) := m_at_of r_M_summedUp (by decide +kernel)
theorem i_M_summedUp_392 : m_at k_M_summedUp 392 = some (.getfield 39, 3, 85) := m_at_of r_M_summedUp (by decide +kernel)
theorem i_M_summedUp_395 : m_at k_M_summedUp 395 = some (.iload 6, 2, 0) := m_at_of r_M_summedUp (by decide +kernel)
theorem i_M_summedUp_397 : m_at k_M_summedUp 397 = some (.baload, 1, 0) := m_at_of r_M_summedUp (by decide +kernel)
theorem i_M_summedUp_398 : m_at k_M_summedUp 398 = some (.invokestatic 303, 3, 295) := m_at_of r_M_summedUp (by decide +kernel)
theorem i_M_summedUp_401 : m_at k_M_summedUp 401 = some (.bastore, 1, 0) := m_at_of r_M_summedUp (by decide +kernel)
theorem i_M_summedUp_402 : m_at k_M_summedUp 402 = some (.iinc 7 (1), 3, 0) := m_at_of r_M_summedUp (by decide +kernel)
theorem i_M_summedUp_405 : m_at k_M_summedUp 405 = some (.goto (-365), 3, 0) := m_at_of r_M_summedUp (by decide +kernel)
theorem i_M_summedUp_408 : m_at k_M_summedUp 408 = some (.aload_n 0, 1, 0) := m_at_of r_M_summedUp (by decide +kernel)
theorem i_M_summedUp_409 : m_at k_M_summedUp 409 = some (.getfield 35, 3, 84) := m_at_of r_M_summedUp (by decide +kernel)
theorem i_M_summedUp_412 : m_at k_M_summedUp 412 = some (.iconst 0, 1, 0) := m_at_of r_M_summedUp (by decide +kernel)
theorem i_M_summedUp_413 : m_at k_M_summedUp 413 = some (.laload, 1, 0) := m_at_of r_M_summedUp (by decide +kernel)
theorem i_M_summedUp_414 : m_at k_M_summedUp 414 = some (.lreturn, 1, 0) := m_at_of r_M_summedUp (by decide +kernel)
set_option maxRecDepth 20000 in
set_option maxHeartbeats 1000000 in
theorem E_M_summedUp (x : m_X) (s : m_H) (w : Nat) (n1 : Int32) (n2 : Int32) : m_M x k_M_summedUp [.ref w, .int n1, .int n2] s = if m_isO s w 11 = true then ((m_fR s 11 2 w).bind fun v31 => (m_ia x s v31 (((((753 : Int32) * n1) + (1 : Int32)) + ((6 : Int32) * n2)) + (1 : Int32))).bind fun v37 => m_D x 4 k_M_summedUp 40 [some (.ref w), some (.int n1), some (.int n2), some (.int ((((753 : Int32) * n1) + (1 : Int32)) + ((6 : Int32) * n2))), some (.int (((753 : Int32) * n1) + (145 : Int32))), some (.int 0), some (.int 0), some (.int v37), none, none] [] s) else none := by
  refine e_M1 (L0 := [some (.ref w), some (.int n1), some (.int n2), none, none, none, none, none, none, none]) rfl (by decide +kernel) rfl (q_M_summedUp _) rfl ?_
  refine e_sipush (v := 753) i_M_summedUp_0 (by decide) ?_
  refine e_iload_n i_M_summedUp_3 rfl ?_
  refine e_imul i_M_summedUp_4 ?_
  refine e_iconst (v := 1) i_M_summedUp_5 (by decide) ?_
  refine e_iadd i_M_summedUp_6 ?_
  refine e_bipush (v := 6) i_M_summedUp_7 (by decide) ?_
  refine e_iload_n i_M_summedUp_9 rfl ?_
  refine e_imul i_M_summedUp_10 ?_
  refine e_iadd i_M_summedUp_11 ?_
  refine e_istore_n (L' := [some (.ref w), some (.int n1), some (.int n2), some (.int ((((753 : Int32) * n1) + (1 : Int32)) + ((6 : Int32) * n2))), none, none, none, none, none, none]) i_M_summedUp_12 (of_decide_eq_true rfl) rfl ?_
  refine e_sipush (v := 753) i_M_summedUp_13 (by decide) ?_
  refine e_iload_n i_M_summedUp_16 rfl ?_
  refine e_imul i_M_summedUp_17 ?_
  refine e_sipush (v := 145) i_M_summedUp_18 (by decide) ?_
  refine e_iadd i_M_summedUp_21 ?_
  refine e_istore (L' := [some (.ref w), some (.int n1), some (.int n2), some (.int ((((753 : Int32) * n1) + (1 : Int32)) + ((6 : Int32) * n2))), some (.int (((753 : Int32) * n1) + (145 : Int32))), none, none, none, none, none]) i_M_summedUp_22 (of_decide_eq_true rfl) rfl ?_
  refine e_iconst (v := 0) i_M_summedUp_24 (by decide) ?_
  refine e_istore (L' := [some (.ref w), some (.int n1), some (.int n2), some (.int ((((753 : Int32) * n1) + (1 : Int32)) + ((6 : Int32) * n2))), some (.int (((753 : Int32) * n1) + (145 : Int32))), some (.int 0), none, none, none, none]) i_M_summedUp_25 (of_decide_eq_true rfl) rfl ?_
  refine e_iconst (v := 0) i_M_summedUp_27 (by decide) ?_
  refine e_istore (L' := [some (.ref w), some (.int n1), some (.int n2), some (.int ((((753 : Int32) * n1) + (1 : Int32)) + ((6 : Int32) * n2))), some (.int (((753 : Int32) * n1) + (145 : Int32))), some (.int 0), some (.int 0), none, none, none]) i_M_summedUp_28 (of_decide_eq_true rfl) rfl ?_
  refine e_aload_n i_M_summedUp_30 rfl ?_
  refine e_getR i_M_summedUp_31 lf_79 (by decide) ft_11_2 (fun v31 => ?_)
  refine e_iload_n i_M_summedUp_34 rfl ?_
  refine e_iconst (v := 1) i_M_summedUp_35 (by decide) ?_
  refine e_iadd i_M_summedUp_36 ?_
  refine e_iald i_M_summedUp_37 (fun v37 => ?_)
  refine e_istore (L' := [some (.ref w), some (.int n1), some (.int n2), some (.int ((((753 : Int32) * n1) + (1 : Int32)) + ((6 : Int32) * n2))), some (.int (((753 : Int32) * n1) + (145 : Int32))), some (.int 0), some (.int 0), some (.int v37), none, none]) i_M_summedUp_38 (of_decide_eq_true rfl) rfl ?_
  exact rfl
set_option maxRecDepth 20000 in
set_option maxHeartbeats 1000000 in
theorem E_M_summedUp_40 (x : m_X) (ρ : Nat) (hρ : 4 ≤ ρ) (s : m_H) (w : Nat) (n1 : Int32) (n2 : Int32) (n3 : Int32) (n4 : Int32) (n5 : Int32) (n6 : Int32) (n7 : Int32) (d8 : Option Value) (d9 : Option Value) (hd8 : m_nl d8 = true) (hd9 : m_nl d9 = true) : m_D x ρ k_M_summedUp 40 [some (.ref w), some (.int n1), some (.int n2), some (.int n3), some (.int n4), some (.int n5), some (.int n6), some (.int n7), d8, d9] [] s = (m_fR s 11 2 w).bind fun v43 => (m_ia x s v43 (n3 + (2 : Int32))).bind fun v49 => if v49 ≤ n7 then ((m_fR s 11 21 w).bind fun v409 => (m_la s v409 0).bind fun v413 => some (some (.long v413), s)) else (m_fR s 11 2 w).bind fun v54 => (m_ia x s v54 (n4 + ((2 : Int32) * n7))).bind fun v64 => (m_fR s 11 2 w).bind fun v68 => (m_ia x s v68 ((n4 + ((2 : Int32) * n7)) + (1 : Int32))).bind fun v80 => if 1 < v64 then (if v64 = 3 then ((m_fR s 11 22 w).bind fun v134 => (m_ba x s v134 (n6 + (-1 : Int32))).bind fun v139 => if v139 = 0 then ((m_fR s 11 21 w).bind fun v144 => (m_fR s 11 21 w).bind fun v152 => (m_la s v152 (n5 + (-1 : Int32))).bind fun v157 => (m_lst s v144 ((n5 + (-1 : Int32)) - (1 : Int32)) v157).bind fun s158 => m_D x ρ k_M_summedUp 40 [some (.ref w), some (.int n1), some (.int n2), some (.int n3), some (.int n4), some (.int (n5 + (-1 : Int32))), some (.int (n6 + (-1 : Int32))), some (.int (n7 + (1 : Int32))), some (.int v64), some (.int v80)] [] s158) else m_D x ρ k_M_summedUp 40 [some (.ref w), some (.int n1), some (.int n2), some (.int n3), some (.int n4), some (.int (n5 + (-1 : Int32))), some (.int (n6 + (-1 : Int32))), some (.int (n7 + (1 : Int32))), some (.int v64), some (.int v80)] [] s) else if v64 = 5 then (m_D x ρ k_M_summedUp 174 [some (.ref w), some (.int n1), some (.int n2), some (.int n3), some (.int n4), some (.int n5), some (.int n6), some (.int n7), some (.int v64), some (.int v80)] [] s) else if v64 = 2 then (m_D x ρ k_M_summedUp 174 [some (.ref w), some (.int n1), some (.int n2), some (.int n3), some (.int n4), some (.int n5), some (.int n6), some (.int n7), some (.int v64), some (.int v80)] [] s) else if 10 ≤ v64 then (if 20 ≤ v64 then (if v64 = 20 then ((m_fR s 11 22 w).bind fun v341 => (m_fR s 11 22 w).bind fun v349 => (m_ba x s v349 (n6 - (1 : Int32))).bind fun v356 => if v356 = 0 then ((m_bs s v341 (n6 - (1 : Int32)) 1).bind fun s365 => m_D x ρ k_M_summedUp 40 [some (.ref w), some (.int n1), some (.int n2), some (.int n3), some (.int n4), some (.int n5), some (.int n6), some (.int (n7 + (1 : Int32))), some (.int v64), some (.int v80)] [] s365) else (m_bs s v341 (n6 - (1 : Int32)) 0).bind fun s365 => m_D x ρ k_M_summedUp 40 [some (.ref w), some (.int n1), some (.int n2), some (.int n3), some (.int n4), some (.int n5), some (.int n6), some (.int (n7 + (1 : Int32))), some (.int v64), some (.int v80)] [] s365) else (m_fR s 11 22 w).bind fun v373 => (m_fR s 11 22 w).bind fun v383 => (m_ba x s v383 ((n6 + (-1 : Int32)) - (1 : Int32))).bind fun v390 => (m_fR s 11 22 w).bind fun v392 => (m_ba x s v392 (n6 + (-1 : Int32))).bind fun v397 => m_bI (m_M x k_M_joined [.int v64, .int v390, .int v397] s) fun v398 s398 => (m_bs s398 v373 ((n6 + (-1 : Int32)) - (1 : Int32)) v398).bind fun s401 => m_D x ρ k_M_summedUp 40 [some (.ref w), some (.int n1), some (.int n2), some (.int n3), some (.int n4), some (.int n5), some (.int (n6 + (-1 : Int32))), some (.int (n7 + (1 : Int32))), some (.int v64), some (.int v80)] [] s401) else (m_fR s 11 22 w).bind fun v300 => (m_fR s 11 21 w).bind fun v308 => (m_la s v308 (n5 + (-2 : Int32))).bind fun v313 => (m_fR s 11 21 w).bind fun v315 => (m_la s v315 ((n5 + (-2 : Int32)) + (1 : Int32))).bind fun v322 => m_bI (m_M x k_M_isAsked [.int v64, .long v313, .long v322] s) fun v323 s323 => (m_bs s323 v300 n6 v323).bind fun s326 => m_D x ρ k_M_summedUp 40 [some (.ref w), some (.int n1), some (.int n2), some (.int n3), some (.int n4), some (.int (n5 + (-2 : Int32))), some (.int (n6 + (1 : Int32))), some (.int (n7 + (1 : Int32))), some (.int v64), some (.int v80)] [] s326) else (m_fR s 11 21 w).bind fun v229 => if v64 = 4 then ((m_fR s 11 21 w).bind fun v243 => (m_la s v243 ((n5 + (-1 : Int32)) - (1 : Int32))).bind fun v250 => (m_fR s 11 21 w).bind fun v252 => (m_la s v252 (n5 + (-1 : Int32))).bind fun v257 => m_bL (m_M x k_M_common [.long v250, .long v257] s) fun v258 s258 => (m_lst s258 v229 ((n5 + (-1 : Int32)) - (1 : Int32)) v258).bind fun s285 => m_D x ρ k_M_summedUp 40 [some (.ref w), some (.int n1), some (.int n2), some (.int n3), some (.int n4), some (.int (n5 + (-1 : Int32))), some (.int n6), some (.int (n7 + (1 : Int32))), some (.int v64), some (.int v80)] [] s285) else (m_fR s 11 21 w).bind fun v267 => (m_la s v267 ((n5 + (-1 : Int32)) - (1 : Int32))).bind fun v274 => (m_fR s 11 21 w).bind fun v276 => (m_la s v276 (n5 + (-1 : Int32))).bind fun v281 => m_bL (m_M x k_M_two [.int v64, .long v274, .long v281] s) fun v282 s282 => (m_lst s282 v229 ((n5 + (-1 : Int32)) - (1 : Int32)) v282).bind fun s285 => m_D x ρ k_M_summedUp 40 [some (.ref w), some (.int n1), some (.int n2), some (.int n3), some (.int n4), some (.int (n5 + (-1 : Int32))), some (.int n6), some (.int (n7 + (1 : Int32))), some (.int v64), some (.int v80)] [] s285) else (m_fR s 11 21 w).bind fun v90 => if v64 = 0 then ((m_lst s v90 n5 v80.toInt64).bind fun s114 => m_D x ρ k_M_summedUp 40 [some (.ref w), some (.int n1), some (.int n2), some (.int n3), some (.int n4), some (.int (n5 + (1 : Int32))), some (.int n6), some (.int (n7 + (1 : Int32))), some (.int v64), some (.int v80)] [] s114) else (m_fR s 11 20 w).bind fun v107 => (m_ia x s v107 v80).bind fun v112 => (m_lst s v90 n5 v112.toInt64).bind fun s114 => m_D x ρ k_M_summedUp 40 [some (.ref w), some (.int n1), some (.int n2), some (.int n3), some (.int n4), some (.int (n5 + (1 : Int32))), some (.int n6), some (.int (n7 + (1 : Int32))), some (.int v64), some (.int v80)] [] s114 := by
  refine e_iload i_M_summedUp_40 rfl ?_
  refine e_aload_n i_M_summedUp_42 rfl ?_
  refine e_getR i_M_summedUp_43 lf_79 (by decide) ft_11_2 (fun v43 => ?_)
  refine e_iload_n i_M_summedUp_46 rfl ?_
  refine e_iconst (v := 2) i_M_summedUp_47 (by decide) ?_
  refine e_iadd i_M_summedUp_48 ?_
  refine e_iald i_M_summedUp_49 (fun v49 => ?_)
  refine e_icmpge (t := 408) i_M_summedUp_50 (by decide) ?_ ?_
  · refine e_aload_n i_M_summedUp_408 rfl ?_
    refine e_getR i_M_summedUp_409 lf_84 (by decide) ft_11_21 (fun v409 => ?_)
    refine e_iconst (v := 0) i_M_summedUp_412 (by decide) ?_
    refine e_lald i_M_summedUp_413 (fun v413 => ?_)
    exact e_lret i_M_summedUp_414 rfl
  · refine e_aload_n i_M_summedUp_53 rfl ?_
    refine e_getR i_M_summedUp_54 lf_79 (by decide) ft_11_2 (fun v54 => ?_)
    refine e_iload i_M_summedUp_57 rfl ?_
    refine e_iconst (v := 2) i_M_summedUp_59 (by decide) ?_
    refine e_iload i_M_summedUp_60 rfl ?_
    refine e_imul i_M_summedUp_62 ?_
    refine e_iadd i_M_summedUp_63 ?_
    refine e_iald i_M_summedUp_64 (fun v64 => ?_)
    refine e_istore (L' := [some (.ref w), some (.int n1), some (.int n2), some (.int n3), some (.int n4), some (.int n5), some (.int n6), some (.int n7), some (.int v64), d9]) i_M_summedUp_65 (of_decide_eq_true rfl) rfl ?_
    refine e_aload_n i_M_summedUp_67 rfl ?_
    refine e_getR i_M_summedUp_68 lf_79 (by decide) ft_11_2 (fun v68 => ?_)
    refine e_iload i_M_summedUp_71 rfl ?_
    refine e_iconst (v := 2) i_M_summedUp_73 (by decide) ?_
    refine e_iload i_M_summedUp_74 rfl ?_
    refine e_imul i_M_summedUp_76 ?_
    refine e_iadd i_M_summedUp_77 ?_
    refine e_iconst (v := 1) i_M_summedUp_78 (by decide) ?_
    refine e_iadd i_M_summedUp_79 ?_
    refine e_iald i_M_summedUp_80 (fun v80 => ?_)
    refine e_istore (L' := [some (.ref w), some (.int n1), some (.int n2), some (.int n3), some (.int n4), some (.int n5), some (.int n6), some (.int n7), some (.int v64), some (.int v80)]) i_M_summedUp_81 (of_decide_eq_true rfl) rfl ?_
    refine e_iload i_M_summedUp_83 rfl ?_
    refine e_iconst (v := 1) i_M_summedUp_85 (by decide) ?_
    refine e_icmpgt (t := 121) i_M_summedUp_86 (by decide) ?_ ?_
    · refine e_iload i_M_summedUp_121 rfl ?_
      refine e_iconst (v := 3) i_M_summedUp_123 (by decide) ?_
      refine e_icmpne (t := 162) i_M_summedUp_124 (by decide) ?_ ?_
      · refine e_iload i_M_summedUp_162 rfl ?_
        refine e_iconst (v := 5) i_M_summedUp_164 (by decide) ?_
        refine e_icmpeq (t := 174) i_M_summedUp_165 (by decide) ?_ ?_
        · exact rfl
        · refine e_iload i_M_summedUp_168 rfl ?_
          refine e_iconst (v := 2) i_M_summedUp_170 (by decide) ?_
          refine e_icmpne (t := 218) i_M_summedUp_171 (by decide) ?_ ?_
          · refine e_iload i_M_summedUp_218 rfl ?_
            refine e_bipush (v := 10) i_M_summedUp_220 (by decide) ?_
            refine e_icmpge (t := 289) i_M_summedUp_222 (by decide) ?_ ?_
            · refine e_iload i_M_summedUp_289 rfl ?_
              refine e_bipush (v := 20) i_M_summedUp_291 (by decide) ?_
              refine e_icmpge (t := 333) i_M_summedUp_293 (by decide) ?_ ?_
              · refine e_iload i_M_summedUp_333 rfl ?_
                refine e_bipush (v := 20) i_M_summedUp_335 (by decide) ?_
                refine e_icmpne (t := 369) i_M_summedUp_337 (by decide) ?_ ?_
                · refine e_iinc (w := (-1)) (L' := [some (.ref w), some (.int n1), some (.int n2), some (.int n3), some (.int n4), some (.int n5), some (.int (n6 + (-1 : Int32))), some (.int n7), some (.int v64), some (.int v80)]) i_M_summedUp_369 rfl (of_decide_eq_true rfl) (by decide) rfl ?_
                  refine e_aload_n i_M_summedUp_372 rfl ?_
                  refine e_getR i_M_summedUp_373 lf_85 (by decide) ft_11_22 (fun v373 => ?_)
                  refine e_iload i_M_summedUp_376 rfl ?_
                  refine e_iconst (v := 1) i_M_summedUp_378 (by decide) ?_
                  refine e_isub i_M_summedUp_379 ?_
                  refine e_iload i_M_summedUp_380 rfl ?_
                  refine e_aload_n i_M_summedUp_382 rfl ?_
                  refine e_getR i_M_summedUp_383 lf_85 (by decide) ft_11_22 (fun v383 => ?_)
                  refine e_iload i_M_summedUp_386 rfl ?_
                  refine e_iconst (v := 1) i_M_summedUp_388 (by decide) ?_
                  refine e_isub i_M_summedUp_389 ?_
                  refine e_bald i_M_summedUp_390 (fun v390 => ?_)
                  refine e_aload_n i_M_summedUp_391 rfl ?_
                  refine e_getR i_M_summedUp_392 lf_85 (by decide) ft_11_22 (fun v392 => ?_)
                  refine e_iload i_M_summedUp_395 rfl ?_
                  refine e_bald i_M_summedUp_397 (fun v397 => ?_)
                  refine e_callI (as := [.int v64, .int v390, .int v397]) (st' := [.int ((n6 + (-1 : Int32)) - (1 : Int32)), .ref v373]) i_M_summedUp_398 lm_295 (Or.inl ⟨rfl, rfl⟩) w_M_joined rfl rfl rfl (Nat.le_of_ble_eq_true rfl) (Nat.le_of_ble_eq_true rfl) (m_rlt (q_M_joined _) (Nat.lt_of_lt_of_le (by decide) hρ)) rfl (fun v398 s398 => ?_)
                  refine e_bast i_M_summedUp_401 (fun s401 => ?_)
                  refine e_iinc (w := 1) (L' := [some (.ref w), some (.int n1), some (.int n2), some (.int n3), some (.int n4), some (.int n5), some (.int (n6 + (-1 : Int32))), some (.int (n7 + (1 : Int32))), some (.int v64), some (.int v80)]) i_M_summedUp_402 rfl (of_decide_eq_true rfl) (by decide) rfl ?_
                  refine e_goto (t := 40) i_M_summedUp_405 (by decide) ?_
                  exact rfl
                · refine e_aload_n i_M_summedUp_340 rfl ?_
                  refine e_getR i_M_summedUp_341 lf_85 (by decide) ft_11_22 (fun v341 => ?_)
                  refine e_iload i_M_summedUp_344 rfl ?_
                  refine e_iconst (v := 1) i_M_summedUp_346 (by decide) ?_
                  refine e_isub i_M_summedUp_347 ?_
                  refine e_aload_n i_M_summedUp_348 rfl ?_
                  refine e_getR i_M_summedUp_349 lf_85 (by decide) ft_11_22 (fun v349 => ?_)
                  refine e_iload i_M_summedUp_352 rfl ?_
                  refine e_iconst (v := 1) i_M_summedUp_354 (by decide) ?_
                  refine e_isub i_M_summedUp_355 ?_
                  refine e_bald i_M_summedUp_356 (fun v356 => ?_)
                  refine e_ifne (t := 364) i_M_summedUp_357 (by decide) ?_ ?_
                  · refine e_iconst (v := 0) i_M_summedUp_364 (by decide) ?_
                    refine e_bast i_M_summedUp_365 (fun s365 => ?_)
                    refine e_goto (t := 402) i_M_summedUp_366 (by decide) ?_
                    refine e_iinc (w := 1) (L' := [some (.ref w), some (.int n1), some (.int n2), some (.int n3), some (.int n4), some (.int n5), some (.int n6), some (.int (n7 + (1 : Int32))), some (.int v64), some (.int v80)]) i_M_summedUp_402 rfl (of_decide_eq_true rfl) (by decide) rfl ?_
                    refine e_goto (t := 40) i_M_summedUp_405 (by decide) ?_
                    exact rfl
                  · refine e_iconst (v := 1) i_M_summedUp_360 (by decide) ?_
                    refine e_goto (t := 365) i_M_summedUp_361 (by decide) ?_
                    refine e_bast i_M_summedUp_365 (fun s365 => ?_)
                    refine e_goto (t := 402) i_M_summedUp_366 (by decide) ?_
                    refine e_iinc (w := 1) (L' := [some (.ref w), some (.int n1), some (.int n2), some (.int n3), some (.int n4), some (.int n5), some (.int n6), some (.int (n7 + (1 : Int32))), some (.int v64), some (.int v80)]) i_M_summedUp_402 rfl (of_decide_eq_true rfl) (by decide) rfl ?_
                    refine e_goto (t := 40) i_M_summedUp_405 (by decide) ?_
                    exact rfl
              · refine e_iinc (w := (-2)) (L' := [some (.ref w), some (.int n1), some (.int n2), some (.int n3), some (.int n4), some (.int (n5 + (-2 : Int32))), some (.int n6), some (.int n7), some (.int v64), some (.int v80)]) i_M_summedUp_296 rfl (of_decide_eq_true rfl) (by decide) rfl ?_
                refine e_aload_n i_M_summedUp_299 rfl ?_
                refine e_getR i_M_summedUp_300 lf_85 (by decide) ft_11_22 (fun v300 => ?_)
                refine e_iload i_M_summedUp_303 rfl ?_
                refine e_iload i_M_summedUp_305 rfl ?_
                refine e_aload_n i_M_summedUp_307 rfl ?_
                refine e_getR i_M_summedUp_308 lf_84 (by decide) ft_11_21 (fun v308 => ?_)
                refine e_iload i_M_summedUp_311 rfl ?_
                refine e_lald i_M_summedUp_313 (fun v313 => ?_)
                refine e_aload_n i_M_summedUp_314 rfl ?_
                refine e_getR i_M_summedUp_315 lf_84 (by decide) ft_11_21 (fun v315 => ?_)
                refine e_iload i_M_summedUp_318 rfl ?_
                refine e_iconst (v := 1) i_M_summedUp_320 (by decide) ?_
                refine e_iadd i_M_summedUp_321 ?_
                refine e_lald i_M_summedUp_322 (fun v322 => ?_)
                refine e_callI (as := [.int v64, .long v313, .long v322]) (st' := [.int n6, .ref v300]) i_M_summedUp_323 lm_294 (Or.inl ⟨rfl, rfl⟩) w_M_isAsked rfl rfl rfl (Nat.le_of_ble_eq_true rfl) (Nat.le_of_ble_eq_true rfl) (m_rlt (q_M_isAsked _) (Nat.lt_of_lt_of_le (by decide) hρ)) rfl (fun v323 s323 => ?_)
                refine e_bast i_M_summedUp_326 (fun s326 => ?_)
                refine e_iinc (w := 1) (L' := [some (.ref w), some (.int n1), some (.int n2), some (.int n3), some (.int n4), some (.int (n5 + (-2 : Int32))), some (.int (n6 + (1 : Int32))), some (.int n7), some (.int v64), some (.int v80)]) i_M_summedUp_327 rfl (of_decide_eq_true rfl) (by decide) rfl ?_
                refine e_goto (t := 402) i_M_summedUp_330 (by decide) ?_
                refine e_iinc (w := 1) (L' := [some (.ref w), some (.int n1), some (.int n2), some (.int n3), some (.int n4), some (.int (n5 + (-2 : Int32))), some (.int (n6 + (1 : Int32))), some (.int (n7 + (1 : Int32))), some (.int v64), some (.int v80)]) i_M_summedUp_402 rfl (of_decide_eq_true rfl) (by decide) rfl ?_
                refine e_goto (t := 40) i_M_summedUp_405 (by decide) ?_
                exact rfl
            · refine e_iinc (w := (-1)) (L' := [some (.ref w), some (.int n1), some (.int n2), some (.int n3), some (.int n4), some (.int (n5 + (-1 : Int32))), some (.int n6), some (.int n7), some (.int v64), some (.int v80)]) i_M_summedUp_225 rfl (of_decide_eq_true rfl) (by decide) rfl ?_
              refine e_aload_n i_M_summedUp_228 rfl ?_
              refine e_getR i_M_summedUp_229 lf_84 (by decide) ft_11_21 (fun v229 => ?_)
              refine e_iload i_M_summedUp_232 rfl ?_
              refine e_iconst (v := 1) i_M_summedUp_234 (by decide) ?_
              refine e_isub i_M_summedUp_235 ?_
              refine e_iload i_M_summedUp_236 rfl ?_
              refine e_iconst (v := 4) i_M_summedUp_238 (by decide) ?_
              refine e_icmpne (t := 264) i_M_summedUp_239 (by decide) ?_ ?_
              · refine e_iload i_M_summedUp_264 rfl ?_
                refine e_aload_n i_M_summedUp_266 rfl ?_
                refine e_getR i_M_summedUp_267 lf_84 (by decide) ft_11_21 (fun v267 => ?_)
                refine e_iload i_M_summedUp_270 rfl ?_
                refine e_iconst (v := 1) i_M_summedUp_272 (by decide) ?_
                refine e_isub i_M_summedUp_273 ?_
                refine e_lald i_M_summedUp_274 (fun v274 => ?_)
                refine e_aload_n i_M_summedUp_275 rfl ?_
                refine e_getR i_M_summedUp_276 lf_84 (by decide) ft_11_21 (fun v276 => ?_)
                refine e_iload i_M_summedUp_279 rfl ?_
                refine e_lald i_M_summedUp_281 (fun v281 => ?_)
                refine e_callL (as := [.int v64, .long v274, .long v281]) (st' := [.int ((n5 + (-1 : Int32)) - (1 : Int32)), .ref v229]) i_M_summedUp_282 lm_293 (Or.inl ⟨rfl, rfl⟩) w_M_two rfl rfl rfl (Nat.le_of_ble_eq_true rfl) (Nat.le_of_ble_eq_true rfl) (m_rlt (q_M_two _) (Nat.lt_of_lt_of_le (by decide) hρ)) rfl (fun v282 s282 => ?_)
                refine e_last i_M_summedUp_285 (fun s285 => ?_)
                refine e_goto (t := 402) i_M_summedUp_286 (by decide) ?_
                refine e_iinc (w := 1) (L' := [some (.ref w), some (.int n1), some (.int n2), some (.int n3), some (.int n4), some (.int (n5 + (-1 : Int32))), some (.int n6), some (.int (n7 + (1 : Int32))), some (.int v64), some (.int v80)]) i_M_summedUp_402 rfl (of_decide_eq_true rfl) (by decide) rfl ?_
                refine e_goto (t := 40) i_M_summedUp_405 (by decide) ?_
                exact rfl
              · refine e_aload_n i_M_summedUp_242 rfl ?_
                refine e_getR i_M_summedUp_243 lf_84 (by decide) ft_11_21 (fun v243 => ?_)
                refine e_iload i_M_summedUp_246 rfl ?_
                refine e_iconst (v := 1) i_M_summedUp_248 (by decide) ?_
                refine e_isub i_M_summedUp_249 ?_
                refine e_lald i_M_summedUp_250 (fun v250 => ?_)
                refine e_aload_n i_M_summedUp_251 rfl ?_
                refine e_getR i_M_summedUp_252 lf_84 (by decide) ft_11_21 (fun v252 => ?_)
                refine e_iload i_M_summedUp_255 rfl ?_
                refine e_lald i_M_summedUp_257 (fun v257 => ?_)
                refine e_callL (as := [.long v250, .long v257]) (st' := [.int ((n5 + (-1 : Int32)) - (1 : Int32)), .ref v229]) i_M_summedUp_258 lm_136 (Or.inl ⟨rfl, rfl⟩) w_M_common rfl rfl rfl (Nat.le_of_ble_eq_true rfl) (Nat.le_of_ble_eq_true rfl) (m_rlt (q_M_common _) (Nat.lt_of_lt_of_le (by decide) hρ)) rfl (fun v258 s258 => ?_)
                refine e_goto (t := 285) i_M_summedUp_261 (by decide) ?_
                refine e_last i_M_summedUp_285 (fun s285 => ?_)
                refine e_goto (t := 402) i_M_summedUp_286 (by decide) ?_
                refine e_iinc (w := 1) (L' := [some (.ref w), some (.int n1), some (.int n2), some (.int n3), some (.int n4), some (.int (n5 + (-1 : Int32))), some (.int n6), some (.int (n7 + (1 : Int32))), some (.int v64), some (.int v80)]) i_M_summedUp_402 rfl (of_decide_eq_true rfl) (by decide) rfl ?_
                refine e_goto (t := 40) i_M_summedUp_405 (by decide) ?_
                exact rfl
          · exact rfl
      · refine e_iinc (w := (-1)) (L' := [some (.ref w), some (.int n1), some (.int n2), some (.int n3), some (.int n4), some (.int (n5 + (-1 : Int32))), some (.int n6), some (.int n7), some (.int v64), some (.int v80)]) i_M_summedUp_127 rfl (of_decide_eq_true rfl) (by decide) rfl ?_
        refine e_iinc (w := (-1)) (L' := [some (.ref w), some (.int n1), some (.int n2), some (.int n3), some (.int n4), some (.int (n5 + (-1 : Int32))), some (.int (n6 + (-1 : Int32))), some (.int n7), some (.int v64), some (.int v80)]) i_M_summedUp_130 rfl (of_decide_eq_true rfl) (by decide) rfl ?_
        refine e_aload_n i_M_summedUp_133 rfl ?_
        refine e_getR i_M_summedUp_134 lf_85 (by decide) ft_11_22 (fun v134 => ?_)
        refine e_iload i_M_summedUp_137 rfl ?_
        refine e_bald i_M_summedUp_139 (fun v139 => ?_)
        refine e_ifne (t := 402) i_M_summedUp_140 (by decide) ?_ ?_
        · refine e_iinc (w := 1) (L' := [some (.ref w), some (.int n1), some (.int n2), some (.int n3), some (.int n4), some (.int (n5 + (-1 : Int32))), some (.int (n6 + (-1 : Int32))), some (.int (n7 + (1 : Int32))), some (.int v64), some (.int v80)]) i_M_summedUp_402 rfl (of_decide_eq_true rfl) (by decide) rfl ?_
          refine e_goto (t := 40) i_M_summedUp_405 (by decide) ?_
          exact rfl
        · refine e_aload_n i_M_summedUp_143 rfl ?_
          refine e_getR i_M_summedUp_144 lf_84 (by decide) ft_11_21 (fun v144 => ?_)
          refine e_iload i_M_summedUp_147 rfl ?_
          refine e_iconst (v := 1) i_M_summedUp_149 (by decide) ?_
          refine e_isub i_M_summedUp_150 ?_
          refine e_aload_n i_M_summedUp_151 rfl ?_
          refine e_getR i_M_summedUp_152 lf_84 (by decide) ft_11_21 (fun v152 => ?_)
          refine e_iload i_M_summedUp_155 rfl ?_
          refine e_lald i_M_summedUp_157 (fun v157 => ?_)
          refine e_last i_M_summedUp_158 (fun s158 => ?_)
          refine e_goto (t := 402) i_M_summedUp_159 (by decide) ?_
          refine e_iinc (w := 1) (L' := [some (.ref w), some (.int n1), some (.int n2), some (.int n3), some (.int n4), some (.int (n5 + (-1 : Int32))), some (.int (n6 + (-1 : Int32))), some (.int (n7 + (1 : Int32))), some (.int v64), some (.int v80)]) i_M_summedUp_402 rfl (of_decide_eq_true rfl) (by decide) rfl ?_
          refine e_goto (t := 40) i_M_summedUp_405 (by decide) ?_
          exact rfl
    · refine e_aload_n i_M_summedUp_89 rfl ?_
      refine e_getR i_M_summedUp_90 lf_84 (by decide) ft_11_21 (fun v90 => ?_)
      refine e_iload i_M_summedUp_93 rfl ?_
      refine e_iload i_M_summedUp_95 rfl ?_
      refine e_ifne (t := 106) i_M_summedUp_97 (by decide) ?_ ?_
      · refine e_aload_n i_M_summedUp_106 rfl ?_
        refine e_getR i_M_summedUp_107 lf_82 (by decide) ft_11_20 (fun v107 => ?_)
        refine e_iload i_M_summedUp_110 rfl ?_
        refine e_iald i_M_summedUp_112 (fun v112 => ?_)
        refine e_i2l i_M_summedUp_113 ?_
        refine e_last i_M_summedUp_114 (fun s114 => ?_)
        refine e_iinc (w := 1) (L' := [some (.ref w), some (.int n1), some (.int n2), some (.int n3), some (.int n4), some (.int (n5 + (1 : Int32))), some (.int n6), some (.int n7), some (.int v64), some (.int v80)]) i_M_summedUp_115 rfl (of_decide_eq_true rfl) (by decide) rfl ?_
        refine e_goto (t := 402) i_M_summedUp_118 (by decide) ?_
        refine e_iinc (w := 1) (L' := [some (.ref w), some (.int n1), some (.int n2), some (.int n3), some (.int n4), some (.int (n5 + (1 : Int32))), some (.int n6), some (.int (n7 + (1 : Int32))), some (.int v64), some (.int v80)]) i_M_summedUp_402 rfl (of_decide_eq_true rfl) (by decide) rfl ?_
        refine e_goto (t := 40) i_M_summedUp_405 (by decide) ?_
        exact rfl
      · refine e_iload i_M_summedUp_100 rfl ?_
        refine e_i2l i_M_summedUp_102 ?_
        refine e_goto (t := 114) i_M_summedUp_103 (by decide) ?_
        refine e_last i_M_summedUp_114 (fun s114 => ?_)
        refine e_iinc (w := 1) (L' := [some (.ref w), some (.int n1), some (.int n2), some (.int n3), some (.int n4), some (.int (n5 + (1 : Int32))), some (.int n6), some (.int n7), some (.int v64), some (.int v80)]) i_M_summedUp_115 rfl (of_decide_eq_true rfl) (by decide) rfl ?_
        refine e_goto (t := 402) i_M_summedUp_118 (by decide) ?_
        refine e_iinc (w := 1) (L' := [some (.ref w), some (.int n1), some (.int n2), some (.int n3), some (.int n4), some (.int (n5 + (1 : Int32))), some (.int n6), some (.int (n7 + (1 : Int32))), some (.int v64), some (.int v80)]) i_M_summedUp_402 rfl (of_decide_eq_true rfl) (by decide) rfl ?_
        refine e_goto (t := 40) i_M_summedUp_405 (by decide) ?_
        exact rfl
set_option maxRecDepth 20000 in
set_option maxHeartbeats 1000000 in
theorem E_M_summedUp_174 (x : m_X) (ρ : Nat) (hρ : 4 ≤ ρ) (s : m_H) (w : Nat) (n1 : Int32) (n2 : Int32) (n3 : Int32) (n4 : Int32) (n5 : Int32) (n6 : Int32) (n7 : Int32) (n8 : Int32) (n9 : Int32)  : m_D x ρ k_M_summedUp 174 [some (.ref w), some (.int n1), some (.int n2), some (.int n3), some (.int n4), some (.int n5), some (.int n6), some (.int n7), some (.int n8), some (.int n9)] [] s = (m_fR s 11 21 w).bind fun v175 => if n8 = 5 then ((m_fR s 11 21 w).bind fun v189 => (m_la s v189 (n5 - (1 : Int32))).bind fun v196 => (m_lst s v175 (n5 - (1 : Int32)) (-v196)).bind fun s214 => m_D x ρ k_M_summedUp 40 [some (.ref w), some (.int n1), some (.int n2), some (.int n3), some (.int n4), some (.int n5), some (.int n6), some (.int (n7 + (1 : Int32))), some (.int n8), some (.int n9)] [] s214) else (m_fR s 11 21 w).bind fun v203 => (m_la s v203 (n5 - (1 : Int32))).bind fun v210 => m_bL (m_M x k_M_leftsBy [.ref w, .long v210] s) fun v211 s211 => (m_lst s211 v175 (n5 - (1 : Int32)) v211).bind fun s214 => m_D x ρ k_M_summedUp 40 [some (.ref w), some (.int n1), some (.int n2), some (.int n3), some (.int n4), some (.int n5), some (.int n6), some (.int (n7 + (1 : Int32))), some (.int n8), some (.int n9)] [] s214 := by
  refine e_aload_n i_M_summedUp_174 rfl ?_
  refine e_getR i_M_summedUp_175 lf_84 (by decide) ft_11_21 (fun v175 => ?_)
  refine e_iload i_M_summedUp_178 rfl ?_
  refine e_iconst (v := 1) i_M_summedUp_180 (by decide) ?_
  refine e_isub i_M_summedUp_181 ?_
  refine e_iload i_M_summedUp_182 rfl ?_
  refine e_iconst (v := 5) i_M_summedUp_184 (by decide) ?_
  refine e_icmpne (t := 201) i_M_summedUp_185 (by decide) ?_ ?_
  · refine e_aload_n i_M_summedUp_201 rfl ?_
    refine e_aload_n i_M_summedUp_202 rfl ?_
    refine e_getR i_M_summedUp_203 lf_84 (by decide) ft_11_21 (fun v203 => ?_)
    refine e_iload i_M_summedUp_206 rfl ?_
    refine e_iconst (v := 1) i_M_summedUp_208 (by decide) ?_
    refine e_isub i_M_summedUp_209 ?_
    refine e_lald i_M_summedUp_210 (fun v210 => ?_)
    refine e_callL (as := [.ref w, .long v210]) (st' := [.int (n5 - (1 : Int32)), .ref v175]) i_M_summedUp_211 lm_292 (Or.inr (Or.inl ⟨rfl, rfl⟩)) w_M_leftsBy rfl rfl rfl (Nat.le_of_ble_eq_true rfl) (Nat.le_of_ble_eq_true rfl) (m_rlt (q_M_leftsBy _) (Nat.lt_of_lt_of_le (by decide) hρ)) rfl (fun v211 s211 => ?_)
    refine e_last i_M_summedUp_214 (fun s214 => ?_)
    refine e_goto (t := 402) i_M_summedUp_215 (by decide) ?_
    refine e_iinc (w := 1) (L' := [some (.ref w), some (.int n1), some (.int n2), some (.int n3), some (.int n4), some (.int n5), some (.int n6), some (.int (n7 + (1 : Int32))), some (.int n8), some (.int n9)]) i_M_summedUp_402 rfl (of_decide_eq_true rfl) (by decide) rfl ?_
    refine e_goto (t := 40) i_M_summedUp_405 (by decide) ?_
    exact rfl
  · refine e_aload_n i_M_summedUp_188 rfl ?_
    refine e_getR i_M_summedUp_189 lf_84 (by decide) ft_11_21 (fun v189 => ?_)
    refine e_iload i_M_summedUp_192 rfl ?_
    refine e_iconst (v := 1) i_M_summedUp_194 (by decide) ?_
    refine e_isub i_M_summedUp_195 ?_
    refine e_lald i_M_summedUp_196 (fun v196 => ?_)
    refine e_lneg i_M_summedUp_197 ?_
    refine e_goto (t := 214) i_M_summedUp_198 (by decide) ?_
    refine e_last i_M_summedUp_214 (fun s214 => ?_)
    refine e_goto (t := 402) i_M_summedUp_215 (by decide) ?_
    refine e_iinc (w := 1) (L' := [some (.ref w), some (.int n1), some (.int n2), some (.int n3), some (.int n4), some (.int n5), some (.int n6), some (.int (n7 + (1 : Int32))), some (.int n8), some (.int n9)]) i_M_summedUp_402 rfl (of_decide_eq_true rfl) (by decide) rfl ?_
    refine e_goto (t := 40) i_M_summedUp_405 (by decide) ?_
    exact rfl
theorem i_M_joined_0 : m_at k_M_joined 0 = some (.iload_n 0, 1, 0) := m_at_of r_M_joined (by decide +kernel)
theorem i_M_joined_1 : m_at k_M_joined 1 = some (.bipush 21, 2, 0) := m_at_of r_M_joined (by decide +kernel)
theorem i_M_joined_3 : m_at k_M_joined 3 = some (.if_icmp .ne (19), 3, 0) := m_at_of r_M_joined (by decide +kernel)
theorem i_M_joined_6 : m_at k_M_joined 6 = some (.iload_n 1, 1, 0) := m_at_of r_M_joined (by decide +kernel)
theorem i_M_joined_7 : m_at k_M_joined 7 = some (.ifCond .eq (11), 3, 0) := m_at_of r_M_joined (by decide +kernel)
theorem i_M_joined_10 : m_at k_M_joined 10 = some (.iload_n 2, 1, 0) := m_at_of r_M_joined (by decide +kernel)
theorem i_M_joined_11 : m_at k_M_joined 11 = some (.ifCond .eq (7), 3, 0) := m_at_of r_M_joined (by decide +kernel)
theorem i_M_joined_14 : m_at k_M_joined 14 = some (.iconst 1, 1, 0) := m_at_of r_M_joined (by decide +kernel)
theorem i_M_joined_15 : m_at k_M_joined 15 = some (.goto (20), 3, 0) := m_at_of r_M_joined (by decide +kernel)
theorem i_M_joined_18 : m_at k_M_joined 18 = some (.iconst 0, 1, 0) := m_at_of r_M_joined (by decide +kernel)
theorem i_M_joined_19 : m_at k_M_joined 19 = some (.goto (16), 3, 0) := m_at_of r_M_joined (by decide +kernel)
theorem i_M_joined_22 : m_at k_M_joined 22 = some (.iload_n 1, 1, 0) := m_at_of r_M_joined (by decide +kernel)
theorem i_M_joined_23 : m_at k_M_joined 23 = some (.ifCond .ne (7), 3, 0) := m_at_of r_M_joined (by decide +kernel)
theorem i_M_joined_26 : m_at k_M_joined 26 = some (.iload_n 2, 1, 0) := m_at_of r_M_joined (by decide +kernel)
theorem i_M_joined_27 : m_at k_M_joined 27 = some (.ifCond .eq (7), 3, 0) := m_at_of r_M_joined (by decide +kernel)
theorem i_M_joined_30 : m_at k_M_joined 30 = some (.iconst 1, 1, 0) := m_at_of r_M_joined (by decide +kernel)
theorem i_M_joined_31 : m_at k_M_joined 31 = some (.goto (4), 3, 0) := m_at_of r_M_joined (by decide +kernel)
theorem i_M_joined_34 : m_at k_M_joined 34 = some (.iconst 0, 1, 0) := m_at_of r_M_joined (by decide +kernel)
theorem i_M_joined_35 : m_at k_M_joined 35 = some (.ireturn, 1, 0) := m_at_of r_M_joined (by decide +kernel)
set_option maxRecDepth 20000 in
set_option maxHeartbeats 1000000 in
theorem E_M_joined (x : m_X) (s : m_H) (n0 : Int32) (n1 : Int32) (n2 : Int32) : m_M x k_M_joined [.int n0, .int n1, .int n2] s = if n0 = 21 then (if n1 = 0 then (some (some (.int 0), s)) else if n2 = 0 then (some (some (.int 0), s)) else some (some (.int 1), s)) else if n1 = 0 then (if n2 = 0 then (some (some (.int 0), s)) else some (some (.int 1), s)) else some (some (.int 1), s) := by
  refine e_M0 (L0 := [some (.int n0), some (.int n1), some (.int n2)]) rfl (q_M_joined _) rfl ?_
  refine e_iload_n i_M_joined_0 rfl ?_
  refine e_bipush (v := 21) i_M_joined_1 (by decide) ?_
  refine e_icmpne (t := 22) i_M_joined_3 (by decide) ?_ ?_
  · refine e_iload_n i_M_joined_22 rfl ?_
    refine e_ifne (t := 30) i_M_joined_23 (by decide) ?_ ?_
    · refine e_iconst (v := 1) i_M_joined_30 (by decide) ?_
      refine e_goto (t := 35) i_M_joined_31 (by decide) ?_
      exact e_iretZ i_M_joined_35 rfl (by decide)
    · refine e_iload_n i_M_joined_26 rfl ?_
      refine e_ifeq (t := 34) i_M_joined_27 (by decide) ?_ ?_
      · refine e_iconst (v := 0) i_M_joined_34 (by decide) ?_
        exact e_iretZ i_M_joined_35 rfl (by decide)
      · refine e_iconst (v := 1) i_M_joined_30 (by decide) ?_
        refine e_goto (t := 35) i_M_joined_31 (by decide) ?_
        exact e_iretZ i_M_joined_35 rfl (by decide)
  · refine e_iload_n i_M_joined_6 rfl ?_
    refine e_ifeq (t := 18) i_M_joined_7 (by decide) ?_ ?_
    · refine e_iconst (v := 0) i_M_joined_18 (by decide) ?_
      refine e_goto (t := 35) i_M_joined_19 (by decide) ?_
      exact e_iretZ i_M_joined_35 rfl (by decide)
    · refine e_iload_n i_M_joined_10 rfl ?_
      refine e_ifeq (t := 18) i_M_joined_11 (by decide) ?_ ?_
      · refine e_iconst (v := 0) i_M_joined_18 (by decide) ?_
        refine e_goto (t := 35) i_M_joined_19 (by decide) ?_
        exact e_iretZ i_M_joined_35 rfl (by decide)
      · refine e_iconst (v := 1) i_M_joined_14 (by decide) ?_
        refine e_goto (t := 35) i_M_joined_15 (by decide) ?_
        exact e_iretZ i_M_joined_35 rfl (by decide)
theorem i_M_isAsked_0 : m_at k_M_isAsked 0 = some (.iload_n 0, 1, 0) := m_at_of r_M_isAsked (by decide +kernel)
theorem i_M_isAsked_1 : m_at k_M_isAsked 1 = some (.bipush 10, 2, 0) := m_at_of r_M_isAsked (by decide +kernel)
theorem i_M_isAsked_3 : m_at k_M_isAsked 3 = some (.if_icmp .ne (17), 3, 0) := m_at_of r_M_isAsked (by decide +kernel)
theorem i_M_isAsked_6 : m_at k_M_isAsked 6 = some (.lload_n 1, 1, 0) := m_at_of r_M_isAsked (by decide +kernel)
theorem i_M_isAsked_7 : m_at k_M_isAsked 7 = some (.lload_n 3, 1, 0) := m_at_of r_M_isAsked (by decide +kernel)
theorem i_M_isAsked_8 : m_at k_M_isAsked 8 = some (.lcmp, 1, 0) := m_at_of r_M_isAsked (by decide +kernel)
theorem i_M_isAsked_9 : m_at k_M_isAsked 9 = some (.ifCond .ge (7), 3, 0) := m_at_of r_M_isAsked (by decide +kernel)
theorem i_M_isAsked_12 : m_at k_M_isAsked 12 = some (.iconst 1, 1, 0) := m_at_of r_M_isAsked (by decide +kernel)
theorem i_M_isAsked_13 : m_at k_M_isAsked 13 = some (.goto (98), 3, 0) := m_at_of r_M_isAsked (by decide +kernel)
theorem i_M_isAsked_16 : m_at k_M_isAsked 16 = some (.iconst 0, 1, 0) := m_at_of r_M_isAsked (by decide +kernel)
theorem i_M_isAsked_17 : m_at k_M_isAsked 17 = some (.goto (94), 3, 0) := m_at_of r_M_isAsked (by decide +kernel)
theorem i_M_isAsked_20 : m_at k_M_isAsked 20 = some (.iload_n 0, 1, 0) := m_at_of r_M_isAsked (by decide +kernel)
theorem i_M_isAsked_21 : m_at k_M_isAsked 21 = some (.bipush 11, 2, 0) := m_at_of r_M_isAsked (by decide +kernel)
theorem i_M_isAsked_23 : m_at k_M_isAsked 23 = some (.if_icmp .ne (17), 3, 0) := m_at_of r_M_isAsked (by decide +kernel)
theorem i_M_isAsked_26 : m_at k_M_isAsked 26 = some (.lload_n 1, 1, 0) := m_at_of r_M_isAsked (by decide +kernel)
theorem i_M_isAsked_27 : m_at k_M_isAsked 27 = some (.lload_n 3, 1, 0) := m_at_of r_M_isAsked (by decide +kernel)
theorem i_M_isAsked_28 : m_at k_M_isAsked 28 = some (.lcmp, 1, 0) := m_at_of r_M_isAsked (by decide +kernel)
theorem i_M_isAsked_29 : m_at k_M_isAsked 29 = some (.ifCond .gt (7), 3, 0) := m_at_of r_M_isAsked (by decide +kernel)
theorem i_M_isAsked_32 : m_at k_M_isAsked 32 = some (.iconst 1, 1, 0) := m_at_of r_M_isAsked (by decide +kernel)
theorem i_M_isAsked_33 : m_at k_M_isAsked 33 = some (.goto (78), 3, 0) := m_at_of r_M_isAsked (by decide +kernel)
theorem i_M_isAsked_36 : m_at k_M_isAsked 36 = some (.iconst 0, 1, 0) := m_at_of r_M_isAsked (by decide +kernel)
theorem i_M_isAsked_37 : m_at k_M_isAsked 37 = some (.goto (74), 3, 0) := m_at_of r_M_isAsked (by decide +kernel)
theorem i_M_isAsked_40 : m_at k_M_isAsked 40 = some (.iload_n 0, 1, 0) := m_at_of r_M_isAsked (by decide +kernel)
theorem i_M_isAsked_41 : m_at k_M_isAsked 41 = some (.bipush 12, 2, 0) := m_at_of r_M_isAsked (by decide +kernel)
theorem i_M_isAsked_43 : m_at k_M_isAsked 43 = some (.if_icmp .ne (17), 3, 0) := m_at_of r_M_isAsked (by decide +kernel)
theorem i_M_isAsked_46 : m_at k_M_isAsked 46 = some (.lload_n 1, 1, 0) := m_at_of r_M_isAsked (by decide +kernel)
theorem i_M_isAsked_47 : m_at k_M_isAsked 47 = some (.lload_n 3, 1, 0) := m_at_of r_M_isAsked (by decide +kernel)
theorem i_M_isAsked_48 : m_at k_M_isAsked 48 = some (.lcmp, 1, 0) := m_at_of r_M_isAsked (by decide +kernel)
theorem i_M_isAsked_49 : m_at k_M_isAsked 49 = some (.ifCond .le (7), 3, 0) := m_at_of r_M_isAsked (by decide +kernel)
theorem i_M_isAsked_52 : m_at k_M_isAsked 52 = some (.iconst 1, 1, 0) := m_at_of r_M_isAsked (by decide +kernel)
theorem i_M_isAsked_53 : m_at k_M_isAsked 53 = some (.goto (58), 3, 0) := m_at_of r_M_isAsked (by decide +kernel)
theorem i_M_isAsked_56 : m_at k_M_isAsked 56 = some (.iconst 0, 1, 0) := m_at_of r_M_isAsked (by decide +kernel)
theorem i_M_isAsked_57 : m_at k_M_isAsked 57 = some (.goto (54), 3, 0) := m_at_of r_M_isAsked (by decide +kernel)
theorem i_M_isAsked_60 : m_at k_M_isAsked 60 = some (.iload_n 0, 1, 0) := m_at_of r_M_isAsked (by decide +kernel)
theorem i_M_isAsked_61 : m_at k_M_isAsked 61 = some (.bipush 13, 2, 0) := m_at_of r_M_isAsked (by decide +kernel)
theorem i_M_isAsked_63 : m_at k_M_isAsked 63 = some (.if_icmp .ne (17), 3, 0) := m_at_of r_M_isAsked (by decide +kernel)
theorem i_M_isAsked_66 : m_at k_M_isAsked 66 = some (.lload_n 1, 1, 0) := m_at_of r_M_isAsked (by decide +kernel)
theorem i_M_isAsked_67 : m_at k_M_isAsked 67 = some (.lload_n 3, 1, 0) := m_at_of r_M_isAsked (by decide +kernel)
theorem i_M_isAsked_68 : m_at k_M_isAsked 68 = some (.lcmp, 1, 0) := m_at_of r_M_isAsked (by decide +kernel)
theorem i_M_isAsked_69 : m_at k_M_isAsked 69 = some (.ifCond .lt (7), 3, 0) := m_at_of r_M_isAsked (by decide +kernel)
theorem i_M_isAsked_72 : m_at k_M_isAsked 72 = some (.iconst 1, 1, 0) := m_at_of r_M_isAsked (by decide +kernel)
theorem i_M_isAsked_73 : m_at k_M_isAsked 73 = some (.goto (38), 3, 0) := m_at_of r_M_isAsked (by decide +kernel)
theorem i_M_isAsked_76 : m_at k_M_isAsked 76 = some (.iconst 0, 1, 0) := m_at_of r_M_isAsked (by decide +kernel)
theorem i_M_isAsked_77 : m_at k_M_isAsked 77 = some (.goto (34), 3, 0) := m_at_of r_M_isAsked (by decide +kernel)
theorem i_M_isAsked_80 : m_at k_M_isAsked 80 = some (.iload_n 0, 1, 0) := m_at_of r_M_isAsked (by decide +kernel)
theorem i_M_isAsked_81 : m_at k_M_isAsked 81 = some (.bipush 14, 2, 0) := m_at_of r_M_isAsked (by decide +kernel)
theorem i_M_isAsked_83 : m_at k_M_isAsked 83 = some (.if_icmp .ne (17), 3, 0) := m_at_of r_M_isAsked (by decide +kernel)
theorem i_M_isAsked_86 : m_at k_M_isAsked 86 = some (.lload_n 1, 1, 0) := m_at_of r_M_isAsked (by decide +kernel)
theorem i_M_isAsked_87 : m_at k_M_isAsked 87 = some (.lload_n 3, 1, 0) := m_at_of r_M_isAsked (by decide +kernel)
theorem i_M_isAsked_88 : m_at k_M_isAsked 88 = some (.lcmp, 1, 0) := m_at_of r_M_isAsked (by decide +kernel)
theorem i_M_isAsked_89 : m_at k_M_isAsked 89 = some (.ifCond .ne (7), 3, 0) := m_at_of r_M_isAsked (by decide +kernel)
theorem i_M_isAsked_92 : m_at k_M_isAsked 92 = some (.iconst 1, 1, 0) := m_at_of r_M_isAsked (by decide +kernel)
theorem i_M_isAsked_93 : m_at k_M_isAsked 93 = some (.goto (18), 3, 0) := m_at_of r_M_isAsked (by decide +kernel)
theorem i_M_isAsked_96 : m_at k_M_isAsked 96 = some (.iconst 0, 1, 0) := m_at_of r_M_isAsked (by decide +kernel)
theorem i_M_isAsked_97 : m_at k_M_isAsked 97 = some (.goto (14), 3, 0) := m_at_of r_M_isAsked (by decide +kernel)
theorem i_M_isAsked_100 : m_at k_M_isAsked 100 = some (.lload_n 1, 1, 0) := m_at_of r_M_isAsked (by decide +kernel)
theorem i_M_isAsked_101 : m_at k_M_isAsked 101 = some (.lload_n 3, 1, 0) := m_at_of r_M_isAsked (by decide +kernel)
theorem i_M_isAsked_102 : m_at k_M_isAsked 102 = some (.lcmp, 1, 0) := m_at_of r_M_isAsked (by decide +kernel)
theorem i_M_isAsked_103 : m_at k_M_isAsked 103 = some (.ifCond .eq (7), 3, 0) := m_at_of r_M_isAsked (by decide +kernel)
theorem i_M_isAsked_106 : m_at k_M_isAsked 106 = some (.iconst 1, 1, 0) := m_at_of r_M_isAsked (by decide +kernel)
theorem i_M_isAsked_107 : m_at k_M_isAsked 107 = some (.goto (4), 3, 0) := m_at_of r_M_isAsked (by decide +kernel)
theorem i_M_isAsked_110 : m_at k_M_isAsked 110 = some (.iconst 0, 1, 0) := m_at_of r_M_isAsked (by decide +kernel)
theorem i_M_isAsked_111 : m_at k_M_isAsked 111 = some (.ireturn, 1, 0) := m_at_of r_M_isAsked (by decide +kernel)
set_option maxRecDepth 20000 in
set_option maxHeartbeats 1000000 in
theorem E_M_isAsked (x : m_X) (s : m_H) (n0 : Int32) (l1 : Int64) (l3 : Int64) : m_M x k_M_isAsked [.int n0, .long l1, .long l3] s = if n0 = 10 then (if l3 ≤ l1 then (some (some (.int 0), s)) else some (some (.int 1), s)) else if n0 = 11 then (if l3 < l1 then (some (some (.int 0), s)) else some (some (.int 1), s)) else if n0 = 12 then (if l1 ≤ l3 then (some (some (.int 0), s)) else some (some (.int 1), s)) else if n0 = 13 then (if l1 < l3 then (some (some (.int 0), s)) else some (some (.int 1), s)) else if n0 = 14 then (if l1 = l3 then (some (some (.int 1), s)) else some (some (.int 0), s)) else if l1 = l3 then (some (some (.int 0), s)) else some (some (.int 1), s) := by
  refine e_M0 (L0 := [some (.int n0), some (.long l1), none, some (.long l3), none]) rfl (q_M_isAsked _) rfl ?_
  refine e_iload_n i_M_isAsked_0 rfl ?_
  refine e_bipush (v := 10) i_M_isAsked_1 (by decide) ?_
  refine e_icmpne (t := 20) i_M_isAsked_3 (by decide) ?_ ?_
  · refine e_iload_n i_M_isAsked_20 rfl ?_
    refine e_bipush (v := 11) i_M_isAsked_21 (by decide) ?_
    refine e_icmpne (t := 40) i_M_isAsked_23 (by decide) ?_ ?_
    · refine e_iload_n i_M_isAsked_40 rfl ?_
      refine e_bipush (v := 12) i_M_isAsked_41 (by decide) ?_
      refine e_icmpne (t := 60) i_M_isAsked_43 (by decide) ?_ ?_
      · refine e_iload_n i_M_isAsked_60 rfl ?_
        refine e_bipush (v := 13) i_M_isAsked_61 (by decide) ?_
        refine e_icmpne (t := 80) i_M_isAsked_63 (by decide) ?_ ?_
        · refine e_iload_n i_M_isAsked_80 rfl ?_
          refine e_bipush (v := 14) i_M_isAsked_81 (by decide) ?_
          refine e_icmpne (t := 100) i_M_isAsked_83 (by decide) ?_ ?_
          · refine e_lload_n i_M_isAsked_100 rfl ?_
            refine e_lload_n i_M_isAsked_101 rfl ?_
            refine e_lcmpeq (t := 110) i_M_isAsked_102 i_M_isAsked_103 (by decide) ?_ ?_
            · refine e_iconst (v := 0) i_M_isAsked_110 (by decide) ?_
              exact e_iretZ i_M_isAsked_111 rfl (by decide)
            · refine e_iconst (v := 1) i_M_isAsked_106 (by decide) ?_
              refine e_goto (t := 111) i_M_isAsked_107 (by decide) ?_
              exact e_iretZ i_M_isAsked_111 rfl (by decide)
          · refine e_lload_n i_M_isAsked_86 rfl ?_
            refine e_lload_n i_M_isAsked_87 rfl ?_
            refine e_lcmpne (t := 96) i_M_isAsked_88 i_M_isAsked_89 (by decide) ?_ ?_
            · refine e_iconst (v := 0) i_M_isAsked_96 (by decide) ?_
              refine e_goto (t := 111) i_M_isAsked_97 (by decide) ?_
              exact e_iretZ i_M_isAsked_111 rfl (by decide)
            · refine e_iconst (v := 1) i_M_isAsked_92 (by decide) ?_
              refine e_goto (t := 111) i_M_isAsked_93 (by decide) ?_
              exact e_iretZ i_M_isAsked_111 rfl (by decide)
        · refine e_lload_n i_M_isAsked_66 rfl ?_
          refine e_lload_n i_M_isAsked_67 rfl ?_
          refine e_lcmplt (t := 76) i_M_isAsked_68 i_M_isAsked_69 (by decide) ?_ ?_
          · refine e_iconst (v := 0) i_M_isAsked_76 (by decide) ?_
            refine e_goto (t := 111) i_M_isAsked_77 (by decide) ?_
            exact e_iretZ i_M_isAsked_111 rfl (by decide)
          · refine e_iconst (v := 1) i_M_isAsked_72 (by decide) ?_
            refine e_goto (t := 111) i_M_isAsked_73 (by decide) ?_
            exact e_iretZ i_M_isAsked_111 rfl (by decide)
      · refine e_lload_n i_M_isAsked_46 rfl ?_
        refine e_lload_n i_M_isAsked_47 rfl ?_
        refine e_lcmple (t := 56) i_M_isAsked_48 i_M_isAsked_49 (by decide) ?_ ?_
        · refine e_iconst (v := 0) i_M_isAsked_56 (by decide) ?_
          refine e_goto (t := 111) i_M_isAsked_57 (by decide) ?_
          exact e_iretZ i_M_isAsked_111 rfl (by decide)
        · refine e_iconst (v := 1) i_M_isAsked_52 (by decide) ?_
          refine e_goto (t := 111) i_M_isAsked_53 (by decide) ?_
          exact e_iretZ i_M_isAsked_111 rfl (by decide)
    · refine e_lload_n i_M_isAsked_26 rfl ?_
      refine e_lload_n i_M_isAsked_27 rfl ?_
      refine e_lcmpgt (t := 36) i_M_isAsked_28 i_M_isAsked_29 (by decide) ?_ ?_
      · refine e_iconst (v := 0) i_M_isAsked_36 (by decide) ?_
        refine e_goto (t := 111) i_M_isAsked_37 (by decide) ?_
        exact e_iretZ i_M_isAsked_111 rfl (by decide)
      · refine e_iconst (v := 1) i_M_isAsked_32 (by decide) ?_
        refine e_goto (t := 111) i_M_isAsked_33 (by decide) ?_
        exact e_iretZ i_M_isAsked_111 rfl (by decide)
  · refine e_lload_n i_M_isAsked_6 rfl ?_
    refine e_lload_n i_M_isAsked_7 rfl ?_
    refine e_lcmpge (t := 16) i_M_isAsked_8 i_M_isAsked_9 (by decide) ?_ ?_
    · refine e_iconst (v := 0) i_M_isAsked_16 (by decide) ?_
      refine e_goto (t := 111) i_M_isAsked_17 (by decide) ?_
      exact e_iretZ i_M_isAsked_111 rfl (by decide)
    · refine e_iconst (v := 1) i_M_isAsked_12 (by decide) ?_
      refine e_goto (t := 111) i_M_isAsked_13 (by decide) ?_
      exact e_iretZ i_M_isAsked_111 rfl (by decide)
theorem i_M_two_0 : m_at k_M_two 0 = some (.iload_n 0, 1, 0) := m_at_of r_M_two (by decide +kernel)
theorem i_M_two_1 : m_at k_M_two 1 = some (.tableswitch (48) (6) (8) #[27, 34, 41], 27, 0) := m_at_of r_M_two (by decide +kernel)
theorem i_M_two_28 : m_at k_M_two 28 = some (.lload_n 1, 1, 0) := m_at_of r_M_two (by decide +kernel)
theorem i_M_two_29 : m_at k_M_two 29 = some (.lload_n 3, 1, 0) := m_at_of r_M_two (by decide +kernel)
theorem i_M_two_30 : m_at k_M_two 30 = some (.ladd, 1, 0) := m_at_of r_M_two (by decide +kernel)
theorem i_M_two_31 : m_at k_M_two 31 = some (.invokestatic 281, 3, 296) := m_at_of r_M_two (by decide +kernel)
theorem i_M_two_34 : m_at k_M_two 34 = some (.lreturn, 1, 0) := m_at_of r_M_two (by decide +kernel)
theorem i_M_two_35 : m_at k_M_two 35 = some (.lload_n 1, 1, 0) := m_at_of r_M_two (by decide +kernel)
theorem i_M_two_36 : m_at k_M_two 36 = some (.lload_n 3, 1, 0) := m_at_of r_M_two (by decide +kernel)
theorem i_M_two_37 : m_at k_M_two 37 = some (.lsub, 1, 0) := m_at_of r_M_two (by decide +kernel)
theorem i_M_two_38 : m_at k_M_two 38 = some (.invokestatic 281, 3, 296) := m_at_of r_M_two (by decide +kernel)
theorem i_M_two_41 : m_at k_M_two 41 = some (.lreturn, 1, 0) := m_at_of r_M_two (by decide +kernel)
theorem i_M_two_42 : m_at k_M_two 42 = some (.lload_n 1, 1, 0) := m_at_of r_M_two (by decide +kernel)
theorem i_M_two_43 : m_at k_M_two 43 = some (.lload_n 3, 1, 0) := m_at_of r_M_two (by decide +kernel)
theorem i_M_two_44 : m_at k_M_two 44 = some (.lmul, 1, 0) := m_at_of r_M_two (by decide +kernel)
theorem i_M_two_45 : m_at k_M_two 45 = some (.invokestatic 281, 3, 296) := m_at_of r_M_two (by decide +kernel)
theorem i_M_two_48 : m_at k_M_two 48 = some (.lreturn, 1, 0) := m_at_of r_M_two (by decide +kernel)
theorem i_M_two_49 : m_at k_M_two 49 = some (.lload_n 3, 1, 0) := m_at_of r_M_two (by decide +kernel)
theorem i_M_two_50 : m_at k_M_two 50 = some (.lconst 0, 1, 0) := m_at_of r_M_two (by decide +kernel)
theorem i_M_two_51 : m_at k_M_two 51 = some (.lcmp, 1, 0) := m_at_of r_M_two (by decide +kernel)
theorem i_M_two_52 : m_at k_M_two 52 = some (.ifCond .ne (7), 3, 0) := m_at_of r_M_two (by decide +kernel)
theorem i_M_two_55 : m_at k_M_two 55 = some (.lconst 0, 1, 0) := m_at_of r_M_two (by decide +kernel)
theorem i_M_two_56 : m_at k_M_two 56 = some (.goto (9), 3, 0) := m_at_of r_M_two (by decide +kernel)
theorem i_M_two_59 : m_at k_M_two 59 = some (.lload_n 1, 1, 0) := m_at_of r_M_two (by decide +kernel)
theorem i_M_two_60 : m_at k_M_two 60 = some (.lload_n 3, 1, 0) := m_at_of r_M_two (by decide +kernel)
theorem i_M_two_61 : m_at k_M_two 61 = some (.ldiv, 1, 0) := m_at_of r_M_two (by decide +kernel)
theorem i_M_two_62 : m_at k_M_two 62 = some (.invokestatic 281, 3, 296) := m_at_of r_M_two (by decide +kernel)
theorem i_M_two_65 : m_at k_M_two 65 = some (.lreturn, 1, 0) := m_at_of r_M_two (by decide +kernel)
set_option maxRecDepth 20000 in
set_option maxHeartbeats 1000000 in
theorem E_M_two (x : m_X) (s : m_H) (n0 : Int32) (l1 : Int64) (l3 : Int64) : m_M x k_M_two [.int n0, .long l1, .long l3] s = if n0 = 6 then (m_bL (m_M x k_M_clip [.long (l1 + l3)] s) fun v31 s31 => some (some (.long v31), s31)) else if n0 = 7 then (m_bL (m_M x k_M_clip [.long (l1 - l3)] s) fun v38 s38 => some (some (.long v38), s38)) else if n0 = 8 then (m_bL (m_M x k_M_clip [.long (l1 * l3)] s) fun v45 s45 => some (some (.long v45), s45)) else if l3 = 0 then (some (some (.long 0), s)) else if l3 = 0 then none else m_bL (m_M x k_M_clip [.long (l1 / l3)] s) fun v62 s62 => some (some (.long v62), s62) := by
  refine e_M0 (L0 := [some (.int n0), some (.long l1), none, some (.long l3), none]) rfl (q_M_two _) rfl ?_
  refine e_iload_n i_M_two_0 rfl ?_
  refine e_tsw (cs := [(6, 28), (7, 35), (8, 42)]) (td := 49) i_M_two_1 (by decide +kernel) ?_
  refine m_sw_c ?_ ?_
  · refine e_lload_n i_M_two_28 rfl ?_
    refine e_lload_n i_M_two_29 rfl ?_
    refine e_ladd i_M_two_30 ?_
    refine e_callL (as := [.long (l1 + l3)]) (st' := []) i_M_two_31 lm_296 (Or.inl ⟨rfl, rfl⟩) w_M_clip rfl rfl rfl (Nat.le_of_ble_eq_true rfl) (Nat.le_of_ble_eq_true rfl) (m_rlt (q_M_clip _) (by decide)) rfl (fun v31 s31 => ?_)
    exact e_lret i_M_two_34 rfl
  refine m_sw_c ?_ ?_
  · refine e_lload_n i_M_two_35 rfl ?_
    refine e_lload_n i_M_two_36 rfl ?_
    refine e_lsub i_M_two_37 ?_
    refine e_callL (as := [.long (l1 - l3)]) (st' := []) i_M_two_38 lm_296 (Or.inl ⟨rfl, rfl⟩) w_M_clip rfl rfl rfl (Nat.le_of_ble_eq_true rfl) (Nat.le_of_ble_eq_true rfl) (m_rlt (q_M_clip _) (by decide)) rfl (fun v38 s38 => ?_)
    exact e_lret i_M_two_41 rfl
  refine m_sw_c ?_ ?_
  · refine e_lload_n i_M_two_42 rfl ?_
    refine e_lload_n i_M_two_43 rfl ?_
    refine e_lmul i_M_two_44 ?_
    refine e_callL (as := [.long (l1 * l3)]) (st' := []) i_M_two_45 lm_296 (Or.inl ⟨rfl, rfl⟩) w_M_clip rfl rfl rfl (Nat.le_of_ble_eq_true rfl) (Nat.le_of_ble_eq_true rfl) (m_rlt (q_M_clip _) (by decide)) rfl (fun v45 s45 => ?_)
    exact e_lret i_M_two_48 rfl
  refine m_sw_n ?_
  refine e_lload_n i_M_two_49 rfl ?_
  refine e_lconst (v := 0) i_M_two_50 (by decide) ?_
  refine e_lcmpne (t := 59) i_M_two_51 i_M_two_52 (by decide) ?_ ?_
  · refine e_lload_n i_M_two_59 rfl ?_
    refine e_lload_n i_M_two_60 rfl ?_
    refine e_ldiv i_M_two_61 ?_
    refine e_callL (as := [.long (l1 / l3)]) (st' := []) i_M_two_62 lm_296 (Or.inl ⟨rfl, rfl⟩) w_M_clip rfl rfl rfl (Nat.le_of_ble_eq_true rfl) (Nat.le_of_ble_eq_true rfl) (m_rlt (q_M_clip _) (by decide)) rfl (fun v62 s62 => ?_)
    exact e_lret i_M_two_65 rfl
  · refine e_lconst (v := 0) i_M_two_55 (by decide) ?_
    refine e_goto (t := 65) i_M_two_56 (by decide) ?_
    exact e_lret i_M_two_65 rfl
theorem i_M_clip_0 : m_at k_M_clip 0 = some (.lload_n 0, 1, 0) := m_at_of r_M_clip (by decide +kernel)
theorem i_M_clip_1 : m_at k_M_clip 1 = some (.ldc2_w 277, 3, 6) := m_at_of r_M_clip (by decide +kernel)
theorem i_M_clip_4 : m_at k_M_clip 4 = some (.lcmp, 1, 0) := m_at_of r_M_clip (by decide +kernel)
theorem i_M_clip_5 : m_at k_M_clip 5 = some (.ifCond .le (9), 3, 0) := m_at_of r_M_clip (by decide +kernel)
theorem i_M_clip_8 : m_at k_M_clip 8 = some (.ldc2_w 277, 3, 6) := m_at_of r_M_clip (by decide +kernel)
theorem i_M_clip_11 : m_at k_M_clip 11 = some (.goto (18), 3, 0) := m_at_of r_M_clip (by decide +kernel)
theorem i_M_clip_14 : m_at k_M_clip 14 = some (.lload_n 0, 1, 0) := m_at_of r_M_clip (by decide +kernel)
theorem i_M_clip_15 : m_at k_M_clip 15 = some (.ldc2_w 279, 3, 7) := m_at_of r_M_clip (by decide +kernel)
theorem i_M_clip_18 : m_at k_M_clip 18 = some (.lcmp, 1, 0) := m_at_of r_M_clip (by decide +kernel)
theorem i_M_clip_19 : m_at k_M_clip 19 = some (.ifCond .ge (9), 3, 0) := m_at_of r_M_clip (by decide +kernel)
theorem i_M_clip_22 : m_at k_M_clip 22 = some (.ldc2_w 279, 3, 7) := m_at_of r_M_clip (by decide +kernel)
theorem i_M_clip_25 : m_at k_M_clip 25 = some (.goto (4), 3, 0) := m_at_of r_M_clip (by decide +kernel)
theorem i_M_clip_28 : m_at k_M_clip 28 = some (.lload_n 0, 1, 0) := m_at_of r_M_clip (by decide +kernel)
theorem i_M_clip_29 : m_at k_M_clip 29 = some (.lreturn, 1, 0) := m_at_of r_M_clip (by decide +kernel)
set_option maxRecDepth 20000 in
set_option maxHeartbeats 1000000 in
theorem E_M_clip (x : m_X) (s : m_H) (l0 : Int64) : m_M x k_M_clip [.long l0] s = if l0 ≤ 1000000 then (if (-1000000) ≤ l0 then (some (some (.long l0), s)) else some (some (.long (-1000000)), s)) else some (some (.long 1000000), s) := by
  refine e_M0 (L0 := [some (.long l0), none]) rfl (q_M_clip _) rfl ?_
  refine e_lload_n i_M_clip_0 rfl ?_
  refine e_ldc2 (q := (1, 277, 1000000)) i_M_clip_1 rfl ?_
  refine e_lcmple (t := 14) i_M_clip_4 i_M_clip_5 (by decide) ?_ ?_
  · refine e_lload_n i_M_clip_14 rfl ?_
    refine e_ldc2 (q := (1, 279, (-1000000))) i_M_clip_15 rfl ?_
    refine e_lcmpge (t := 28) i_M_clip_18 i_M_clip_19 (by decide) ?_ ?_
    · refine e_lload_n i_M_clip_28 rfl ?_
      exact e_lret i_M_clip_29 rfl
    · refine e_ldc2 (q := (1, 279, (-1000000))) i_M_clip_22 rfl ?_
      refine e_goto (t := 29) i_M_clip_25 (by decide) ?_
      exact e_lret i_M_clip_29 rfl
  · refine e_ldc2 (q := (1, 277, 1000000)) i_M_clip_8 rfl ?_
    refine e_goto (t := 29) i_M_clip_11 (by decide) ?_
    exact e_lret i_M_clip_29 rfl
theorem i_M_common_0 : m_at k_M_common 0 = some (.lload_n 0, 1, 0) := m_at_of r_M_common (by decide +kernel)
theorem i_M_common_1 : m_at k_M_common 1 = some (.lconst 0, 1, 0) := m_at_of r_M_common (by decide +kernel)
theorem i_M_common_2 : m_at k_M_common 2 = some (.lcmp, 1, 0) := m_at_of r_M_common (by decide +kernel)
theorem i_M_common_3 : m_at k_M_common 3 = some (.ifCond .ge (8), 3, 0) := m_at_of r_M_common (by decide +kernel)
theorem i_M_common_6 : m_at k_M_common 6 = some (.lload_n 0, 1, 0) := m_at_of r_M_common (by decide +kernel)
theorem i_M_common_7 : m_at k_M_common 7 = some (.lneg, 1, 0) := m_at_of r_M_common (by decide +kernel)
theorem i_M_common_8 : m_at k_M_common 8 = some (.goto (4), 3, 0) := m_at_of r_M_common (by decide +kernel)
theorem i_M_common_11 : m_at k_M_common 11 = some (.lload_n 0, 1, 0) := m_at_of r_M_common (by decide +kernel)
theorem i_M_common_12 : m_at k_M_common 12 = some (.lstore 4, 2, 0) := m_at_of r_M_common (by decide +kernel)
theorem i_M_common_14 : m_at k_M_common 14 = some (.lload_n 2, 1, 0) := m_at_of r_M_common (by decide +kernel)
theorem i_M_common_15 : m_at k_M_common 15 = some (.lconst 0, 1, 0) := m_at_of r_M_common (by decide +kernel)
theorem i_M_common_16 : m_at k_M_common 16 = some (.lcmp, 1, 0) := m_at_of r_M_common (by decide +kernel)
theorem i_M_common_17 : m_at k_M_common 17 = some (.ifCond .ge (8), 3, 0) := m_at_of r_M_common (by decide +kernel)
theorem i_M_common_20 : m_at k_M_common 20 = some (.lload_n 2, 1, 0) := m_at_of r_M_common (by decide +kernel)
theorem i_M_common_21 : m_at k_M_common 21 = some (.lneg, 1, 0) := m_at_of r_M_common (by decide +kernel)
theorem i_M_common_22 : m_at k_M_common 22 = some (.goto (4), 3, 0) := m_at_of r_M_common (by decide +kernel)
theorem i_M_common_25 : m_at k_M_common 25 = some (.lload_n 2, 1, 0) := m_at_of r_M_common (by decide +kernel)
theorem i_M_common_26 : m_at k_M_common 26 = some (.lstore 6, 2, 0) := m_at_of r_M_common (by decide +kernel)
theorem i_M_common_28 : m_at k_M_common 28 = some (.lload 6, 2, 0) := m_at_of r_M_common (by decide +kernel)
theorem i_M_common_30 : m_at k_M_common 30 = some (.lconst 0, 1, 0) := m_at_of r_M_common (by decide +kernel)
theorem i_M_common_31 : m_at k_M_common 31 = some (.lcmp, 1, 0) := m_at_of r_M_common (by decide +kernel)
theorem i_M_common_32 : m_at k_M_common 32 = some (.ifCond .eq (21), 3, 0) := m_at_of r_M_common (by decide +kernel)
theorem i_M_common_35 : m_at k_M_common 35 = some (.lload 4, 2, 0) := m_at_of r_M_common (by decide +kernel)
theorem i_M_common_37 : m_at k_M_common 37 = some (.lload 6, 2, 0) := m_at_of r_M_common (by decide +kernel)
theorem i_M_common_39 : m_at k_M_common 39 = some (.lrem, 1, 0) := m_at_of r_M_common (by decide +kernel)
theorem i_M_common_40 : m_at k_M_common 40 = some (.lstore 8, 2, 0) := m_at_of r_M_common (by decide +kernel)
theorem i_M_common_42 : m_at k_M_common 42 = some (.lload 6, 2, 0) := m_at_of r_M_common (by decide +kernel)
theorem i_M_common_44 : m_at k_M_common 44 = some (.lstore 4, 2, 0) := m_at_of r_M_common (by decide +kernel)
theorem i_M_common_46 : m_at k_M_common 46 = some (.lload 8, 2, 0) := m_at_of r_M_common (by decide +kernel)
theorem i_M_common_48 : m_at k_M_common 48 = some (.lstore 6, 2, 0) := m_at_of r_M_common (by decide +kernel)
theorem i_M_common_50 : m_at k_M_common 50 = some (.goto (-22), 3, 0) := m_at_of r_M_common (by decide +kernel)
theorem i_M_common_53 : m_at k_M_common 53 = some (.lload 4, 2, 0) := m_at_of r_M_common (by decide +kernel)
theorem i_M_common_55 : m_at k_M_common 55 = some (.lreturn, 1, 0) := m_at_of r_M_common (by decide +kernel)
set_option maxRecDepth 20000 in
set_option maxHeartbeats 1000000 in
theorem E_M_common (x : m_X) (s : m_H) (l0 : Int64) (l2 : Int64) : m_M x k_M_common [.long l0, .long l2] s = if 0 ≤ l0 then (if 0 ≤ l2 then (m_D x 1 k_M_common 28 [some (.long l0), none, some (.long l2), none, some (.long l0), none, some (.long l2), none, none, none] [] s) else m_D x 1 k_M_common 28 [some (.long l0), none, some (.long l2), none, some (.long l0), none, some (.long (-l2)), none, none, none] [] s) else if 0 ≤ l2 then (m_D x 1 k_M_common 28 [some (.long l0), none, some (.long l2), none, some (.long (-l0)), none, some (.long l2), none, none, none] [] s) else m_D x 1 k_M_common 28 [some (.long l0), none, some (.long l2), none, some (.long (-l0)), none, some (.long (-l2)), none, none, none] [] s := by
  refine e_M0 (L0 := [some (.long l0), none, some (.long l2), none, none, none, none, none, none, none]) rfl (q_M_common _) rfl ?_
  refine e_lload_n i_M_common_0 rfl ?_
  refine e_lconst (v := 0) i_M_common_1 (by decide) ?_
  refine e_lcmpge (t := 11) i_M_common_2 i_M_common_3 (by decide) ?_ ?_
  · refine e_lload_n i_M_common_11 rfl ?_
    refine e_lstore (L' := [some (.long l0), none, some (.long l2), none, some (.long l0), none, none, none, none, none]) i_M_common_12 (of_decide_eq_true rfl) rfl ?_
    refine e_lload_n i_M_common_14 rfl ?_
    refine e_lconst (v := 0) i_M_common_15 (by decide) ?_
    refine e_lcmpge (t := 25) i_M_common_16 i_M_common_17 (by decide) ?_ ?_
    · refine e_lload_n i_M_common_25 rfl ?_
      refine e_lstore (L' := [some (.long l0), none, some (.long l2), none, some (.long l0), none, some (.long l2), none, none, none]) i_M_common_26 (of_decide_eq_true rfl) rfl ?_
      exact rfl
    · refine e_lload_n i_M_common_20 rfl ?_
      refine e_lneg i_M_common_21 ?_
      refine e_goto (t := 26) i_M_common_22 (by decide) ?_
      refine e_lstore (L' := [some (.long l0), none, some (.long l2), none, some (.long l0), none, some (.long (-l2)), none, none, none]) i_M_common_26 (of_decide_eq_true rfl) rfl ?_
      exact rfl
  · refine e_lload_n i_M_common_6 rfl ?_
    refine e_lneg i_M_common_7 ?_
    refine e_goto (t := 12) i_M_common_8 (by decide) ?_
    refine e_lstore (L' := [some (.long l0), none, some (.long l2), none, some (.long (-l0)), none, none, none, none, none]) i_M_common_12 (of_decide_eq_true rfl) rfl ?_
    refine e_lload_n i_M_common_14 rfl ?_
    refine e_lconst (v := 0) i_M_common_15 (by decide) ?_
    refine e_lcmpge (t := 25) i_M_common_16 i_M_common_17 (by decide) ?_ ?_
    · refine e_lload_n i_M_common_25 rfl ?_
      refine e_lstore (L' := [some (.long l0), none, some (.long l2), none, some (.long (-l0)), none, some (.long l2), none, none, none]) i_M_common_26 (of_decide_eq_true rfl) rfl ?_
      exact rfl
    · refine e_lload_n i_M_common_20 rfl ?_
      refine e_lneg i_M_common_21 ?_
      refine e_goto (t := 26) i_M_common_22 (by decide) ?_
      refine e_lstore (L' := [some (.long l0), none, some (.long l2), none, some (.long (-l0)), none, some (.long (-l2)), none, none, none]) i_M_common_26 (of_decide_eq_true rfl) rfl ?_
      exact rfl
set_option maxRecDepth 20000 in
set_option maxHeartbeats 1000000 in
theorem E_M_common_28 (x : m_X) (ρ : Nat) (hρ : 1 ≤ ρ) (s : m_H) (l0 : Int64) (l2 : Int64) (l4 : Int64) (l6 : Int64) (d8 : Option Value) (hd8 : m_nl d8 = true) : m_D x ρ k_M_common 28 [some (.long l0), none, some (.long l2), none, some (.long l4), none, some (.long l6), none, d8, none] [] s = if l6 = 0 then (some (some (.long l4), s)) else if l6 = 0 then none else m_D x ρ k_M_common 28 [some (.long l0), none, some (.long l2), none, some (.long l6), none, some (.long (l4 - l4 / l6 * l6)), none, some (.long (l4 - l4 / l6 * l6)), none] [] s := by
  refine e_lload i_M_common_28 rfl ?_
  refine e_lconst (v := 0) i_M_common_30 (by decide) ?_
  refine e_lcmpeq (t := 53) i_M_common_31 i_M_common_32 (by decide) ?_ ?_
  · refine e_lload i_M_common_53 rfl ?_
    exact e_lret i_M_common_55 rfl
  · refine e_lload i_M_common_35 rfl ?_
    refine e_lload i_M_common_37 rfl ?_
    refine e_lrem i_M_common_39 ?_
    refine e_lstore (L' := [some (.long l0), none, some (.long l2), none, some (.long l4), none, some (.long l6), none, some (.long (l4 - l4 / l6 * l6)), none]) i_M_common_40 (of_decide_eq_true rfl) rfl ?_
    refine e_lload i_M_common_42 rfl ?_
    refine e_lstore (L' := [some (.long l0), none, some (.long l2), none, some (.long l6), none, some (.long l6), none, some (.long (l4 - l4 / l6 * l6)), none]) i_M_common_44 (of_decide_eq_true rfl) rfl ?_
    refine e_lload i_M_common_46 rfl ?_
    refine e_lstore (L' := [some (.long l0), none, some (.long l2), none, some (.long l6), none, some (.long (l4 - l4 / l6 * l6)), none, some (.long (l4 - l4 / l6 * l6)), none]) i_M_common_48 (of_decide_eq_true rfl) rfl ?_
    refine e_goto (t := 28) i_M_common_50 (by decide) ?_
    exact rfl
theorem i_M_leftsBy_0 : m_at k_M_leftsBy 0 = some (.lload_n 1, 1, 0) := m_at_of r_M_leftsBy (by decide +kernel)
theorem i_M_leftsBy_1 : m_at k_M_leftsBy 1 = some (.lconst 0, 1, 0) := m_at_of r_M_leftsBy (by decide +kernel)
theorem i_M_leftsBy_2 : m_at k_M_leftsBy 2 = some (.lcmp, 1, 0) := m_at_of r_M_leftsBy (by decide +kernel)
theorem i_M_leftsBy_3 : m_at k_M_leftsBy 3 = some (.ifCond .lt (25), 3, 0) := m_at_of r_M_leftsBy (by decide +kernel)
theorem i_M_leftsBy_6 : m_at k_M_leftsBy 6 = some (.lload_n 1, 1, 0) := m_at_of r_M_leftsBy (by decide +kernel)
theorem i_M_leftsBy_7 : m_at k_M_leftsBy 7 = some (.aload_n 0, 1, 0) := m_at_of r_M_leftsBy (by decide +kernel)
theorem i_M_leftsBy_8 : m_at k_M_leftsBy 8 = some (.getfield 7, 3, 0) := m_at_of r_M_leftsBy (by decide +kernel)
theorem i_M_leftsBy_11 : m_at k_M_leftsBy 11 = some (.iconst 0, 1, 0) := m_at_of r_M_leftsBy (by decide +kernel)
theorem i_M_leftsBy_12 : m_at k_M_leftsBy 12 = some (.iaload, 1, 0) := m_at_of r_M_leftsBy (by decide +kernel)
theorem i_M_leftsBy_13 : m_at k_M_leftsBy 13 = some (.i2l, 1, 0) := m_at_of r_M_leftsBy (by decide +kernel)
theorem i_M_leftsBy_14 : m_at k_M_leftsBy 14 = some (.lcmp, 1, 0) := m_at_of r_M_leftsBy (by decide +kernel)
theorem i_M_leftsBy_15 : m_at k_M_leftsBy 15 = some (.ifCond .ge (13), 3, 0) := m_at_of r_M_leftsBy (by decide +kernel)
theorem i_M_leftsBy_18 : m_at k_M_leftsBy 18 = some (.aload_n 0, 1, 0) := m_at_of r_M_leftsBy (by decide +kernel)
theorem i_M_leftsBy_19 : m_at k_M_leftsBy 19 = some (.lload_n 1, 1, 0) := m_at_of r_M_leftsBy (by decide +kernel)
theorem i_M_leftsBy_20 : m_at k_M_leftsBy 20 = some (.l2i, 1, 0) := m_at_of r_M_leftsBy (by decide +kernel)
theorem i_M_leftsBy_21 : m_at k_M_leftsBy 21 = some (.invokevirtual 285, 3, 217) := m_at_of r_M_leftsBy (by decide +kernel)
theorem i_M_leftsBy_24 : m_at k_M_leftsBy 24 = some (.i2l, 1, 0) := m_at_of r_M_leftsBy (by decide +kernel)
theorem i_M_leftsBy_25 : m_at k_M_leftsBy 25 = some (.goto (4), 3, 0) := m_at_of r_M_leftsBy (by decide +kernel)
theorem i_M_leftsBy_28 : m_at k_M_leftsBy 28 = some (.lconst 0, 1, 0) := m_at_of r_M_leftsBy (by decide +kernel)
theorem i_M_leftsBy_29 : m_at k_M_leftsBy 29 = some (.lreturn, 1, 0) := m_at_of r_M_leftsBy (by decide +kernel)
set_option maxRecDepth 20000 in
set_option maxHeartbeats 1000000 in
theorem E_M_leftsBy (x : m_X) (s : m_H) (w : Nat) (l1 : Int64) : m_M x k_M_leftsBy [.ref w, .long l1] s = if m_isO s w 11 = true then (if l1 < 0 then (some (some (.long 0), s)) else (m_fR s 11 0 w).bind fun v8 => (m_ia x s v8 0).bind fun v12 => if v12.toInt64 ≤ l1 then (some (some (.long 0), s)) else m_bI (m_M x k_M_leftsOf [.ref w, .int l1.toInt32] s) fun v21 s21 => some (some (.long v21.toInt64), s21)) else none := by
  refine e_M1 (L0 := [some (.ref w), some (.long l1), none]) rfl (by decide +kernel) rfl (q_M_leftsBy _) rfl ?_
  refine e_lload_n i_M_leftsBy_0 rfl ?_
  refine e_lconst (v := 0) i_M_leftsBy_1 (by decide) ?_
  refine e_lcmplt (t := 28) i_M_leftsBy_2 i_M_leftsBy_3 (by decide) ?_ ?_
  · refine e_lconst (v := 0) i_M_leftsBy_28 (by decide) ?_
    exact e_lret i_M_leftsBy_29 rfl
  · refine e_lload_n i_M_leftsBy_6 rfl ?_
    refine e_aload_n i_M_leftsBy_7 rfl ?_
    refine e_getR i_M_leftsBy_8 lf_0 (by decide) ft_11_0 (fun v8 => ?_)
    refine e_iconst (v := 0) i_M_leftsBy_11 (by decide) ?_
    refine e_iald i_M_leftsBy_12 (fun v12 => ?_)
    refine e_i2l i_M_leftsBy_13 ?_
    refine e_lcmpge (t := 28) i_M_leftsBy_14 i_M_leftsBy_15 (by decide) ?_ ?_
    · refine e_lconst (v := 0) i_M_leftsBy_28 (by decide) ?_
      exact e_lret i_M_leftsBy_29 rfl
    · refine e_aload_n i_M_leftsBy_18 rfl ?_
      refine e_lload_n i_M_leftsBy_19 rfl ?_
      refine e_l2i i_M_leftsBy_20 ?_
      refine e_callI (as := [.ref w, .int l1.toInt32]) (st' := []) i_M_leftsBy_21 lm_217 (Or.inr (Or.inl ⟨rfl, rfl⟩)) w_M_leftsOf rfl rfl rfl (Nat.le_of_ble_eq_true rfl) (Nat.le_of_ble_eq_true rfl) (m_rlt (q_M_leftsOf _) (by decide)) rfl (fun v21 s21 => ?_)
      refine e_i2l i_M_leftsBy_24 ?_
      refine e_goto (t := 29) i_M_leftsBy_25 (by decide) ?_
      exact e_lret i_M_leftsBy_29 rfl
theorem i_M_leftsOf_0 : m_at k_M_leftsOf 0 = some (.iconst 0, 1, 0) := m_at_of r_M_leftsOf (by decide +kernel)
theorem i_M_leftsOf_1 : m_at k_M_leftsOf 1 = some (.istore_n 2, 1, 0) := m_at_of r_M_leftsOf (by decide +kernel)
theorem i_M_leftsOf_2 : m_at k_M_leftsOf 2 = some (.iconst 0, 1, 0) := m_at_of r_M_leftsOf (by decide +kernel)
theorem i_M_leftsOf_3 : m_at k_M_leftsOf 3 = some (.istore_n 3, 1, 0) := m_at_of r_M_leftsOf (by decide +kernel)
theorem i_M_leftsOf_4 : m_at k_M_leftsOf 4 = some (.iload_n 3, 1, 0) := m_at_of r_M_leftsOf (by decide +kernel)
theorem i_M_leftsOf_5 : m_at k_M_leftsOf 5 = some (.aload_n 0, 1, 0) := m_at_of r_M_leftsOf (by decide +kernel)
theorem i_M_leftsOf_6 : m_at k_M_leftsOf 6 = some (.getfield 7, 3, 0) := m_at_of r_M_leftsOf (by decide +kernel)
theorem i_M_leftsOf_9 : m_at k_M_leftsOf 9 = some (.bipush 11, 2, 0) := m_at_of r_M_leftsOf (by decide +kernel)
theorem i_M_leftsOf_11 : m_at k_M_leftsOf 11 = some (.iaload, 1, 0) := m_at_of r_M_leftsOf (by decide +kernel)
theorem i_M_leftsOf_12 : m_at k_M_leftsOf 12 = some (.if_icmp .ge (37), 3, 0) := m_at_of r_M_leftsOf (by decide +kernel)
theorem i_M_leftsOf_15 : m_at k_M_leftsOf 15 = some (.iload_n 2, 1, 0) := m_at_of r_M_leftsOf (by decide +kernel)
theorem i_M_leftsOf_16 : m_at k_M_leftsOf 16 = some (.aload_n 0, 1, 0) := m_at_of r_M_leftsOf (by decide +kernel)
theorem i_M_leftsOf_17 : m_at k_M_leftsOf 17 = some (.iload_n 3, 1, 0) := m_at_of r_M_leftsOf (by decide +kernel)
theorem i_M_leftsOf_18 : m_at k_M_leftsOf 18 = some (.iconst 1, 1, 0) := m_at_of r_M_leftsOf (by decide +kernel)
theorem i_M_leftsOf_19 : m_at k_M_leftsOf 19 = some (.invokevirtual 85, 3, 106) := m_at_of r_M_leftsOf (by decide +kernel)
theorem i_M_leftsOf_22 : m_at k_M_leftsOf 22 = some (.iload_n 1, 1, 0) := m_at_of r_M_leftsOf (by decide +kernel)
theorem i_M_leftsOf_23 : m_at k_M_leftsOf 23 = some (.if_icmp .ne (17), 3, 0) := m_at_of r_M_leftsOf (by decide +kernel)
theorem i_M_leftsOf_26 : m_at k_M_leftsOf 26 = some (.aload_n 0, 1, 0) := m_at_of r_M_leftsOf (by decide +kernel)
theorem i_M_leftsOf_27 : m_at k_M_leftsOf 27 = some (.iload_n 3, 1, 0) := m_at_of r_M_leftsOf (by decide +kernel)
theorem i_M_leftsOf_28 : m_at k_M_leftsOf 28 = some (.bipush 6, 2, 0) := m_at_of r_M_leftsOf (by decide +kernel)
theorem i_M_leftsOf_30 : m_at k_M_leftsOf 30 = some (.invokevirtual 85, 3, 106) := m_at_of r_M_leftsOf (by decide +kernel)
theorem i_M_leftsOf_33 : m_at k_M_leftsOf 33 = some (.ifCond .ne (7), 3, 0) := m_at_of r_M_leftsOf (by decide +kernel)
theorem i_M_leftsOf_36 : m_at k_M_leftsOf 36 = some (.iconst 1, 1, 0) := m_at_of r_M_leftsOf (by decide +kernel)
theorem i_M_leftsOf_37 : m_at k_M_leftsOf 37 = some (.goto (4), 3, 0) := m_at_of r_M_leftsOf (by decide +kernel)
theorem i_M_leftsOf_40 : m_at k_M_leftsOf 40 = some (.iconst 0, 1, 0) := m_at_of r_M_leftsOf (by decide +kernel)
theorem i_M_leftsOf_41 : m_at k_M_leftsOf 41 = some (.iadd, 1, 0) := m_at_of r_M_leftsOf (by decide +kernel)
theorem i_M_leftsOf_42 : m_at k_M_leftsOf 42 = some (.istore_n 2, 1, 0) := m_at_of r_M_leftsOf (by decide +kernel)
theorem i_M_leftsOf_43 : m_at k_M_leftsOf 43 = some (.iinc 3 (1), 3, 0) := m_at_of r_M_leftsOf (by decide +kernel)
theorem i_M_leftsOf_46 : m_at k_M_leftsOf 46 = some (.goto (-42), 3, 0) := m_at_of r_M_leftsOf (by decide +kernel)
theorem i_M_leftsOf_49 : m_at k_M_leftsOf 49 = some (.iload_n 2, 1, 0) := m_at_of r_M_leftsOf (by decide +kernel)
theorem i_M_leftsOf_50 : m_at k_M_leftsOf 50 = some (.ireturn, 1, 0) := m_at_of r_M_leftsOf (by decide +kernel)
set_option maxRecDepth 20000 in
set_option maxHeartbeats 1000000 in
theorem E_M_leftsOf (x : m_X) (s : m_H) (w : Nat) (n1 : Int32) : m_M x k_M_leftsOf [.ref w, .int n1] s = if m_isO s w 11 = true then (m_D x 2 k_M_leftsOf 4 [some (.ref w), some (.int n1), some (.int 0), some (.int 0)] [] s) else none := by
  refine e_M1 (L0 := [some (.ref w), some (.int n1), none, none]) rfl (by decide +kernel) rfl (q_M_leftsOf _) rfl ?_
  refine e_iconst (v := 0) i_M_leftsOf_0 (by decide) ?_
  refine e_istore_n (L' := [some (.ref w), some (.int n1), some (.int 0), none]) i_M_leftsOf_1 (of_decide_eq_true rfl) rfl ?_
  refine e_iconst (v := 0) i_M_leftsOf_2 (by decide) ?_
  refine e_istore_n (L' := [some (.ref w), some (.int n1), some (.int 0), some (.int 0)]) i_M_leftsOf_3 (of_decide_eq_true rfl) rfl ?_
  exact rfl
set_option maxRecDepth 20000 in
set_option maxHeartbeats 1000000 in
theorem E_M_leftsOf_4 (x : m_X) (ρ : Nat) (hρ : 2 ≤ ρ) (s : m_H) (w : Nat) (n1 : Int32) (n2 : Int32) (n3 : Int32)  : m_D x ρ k_M_leftsOf 4 [some (.ref w), some (.int n1), some (.int n2), some (.int n3)] [] s = (m_fR s 11 0 w).bind fun v6 => (m_ia x s v6 11).bind fun v11 => if v11 ≤ n3 then (some (some (.int n2), s)) else m_bI (m_M x k_M_get [.ref w, .int n3, .int 1] s) fun v19 s19 => if v19 = n1 then (m_bI (m_M x k_M_get [.ref w, .int n3, .int 6] s19) fun v30 s30 => if v30 = 0 then (m_D x ρ k_M_leftsOf 4 [some (.ref w), some (.int n1), some (.int (n2 + (1 : Int32))), some (.int (n3 + (1 : Int32)))] [] s30) else m_D x ρ k_M_leftsOf 4 [some (.ref w), some (.int n1), some (.int (n2 + (0 : Int32))), some (.int (n3 + (1 : Int32)))] [] s30) else m_D x ρ k_M_leftsOf 4 [some (.ref w), some (.int n1), some (.int (n2 + (0 : Int32))), some (.int (n3 + (1 : Int32)))] [] s19 := by
  refine e_iload_n i_M_leftsOf_4 rfl ?_
  refine e_aload_n i_M_leftsOf_5 rfl ?_
  refine e_getR i_M_leftsOf_6 lf_0 (by decide) ft_11_0 (fun v6 => ?_)
  refine e_bipush (v := 11) i_M_leftsOf_9 (by decide) ?_
  refine e_iald i_M_leftsOf_11 (fun v11 => ?_)
  refine e_icmpge (t := 49) i_M_leftsOf_12 (by decide) ?_ ?_
  · refine e_iload_n i_M_leftsOf_49 rfl ?_
    exact e_iretI i_M_leftsOf_50 rfl
  · refine e_iload_n i_M_leftsOf_15 rfl ?_
    refine e_aload_n i_M_leftsOf_16 rfl ?_
    refine e_iload_n i_M_leftsOf_17 rfl ?_
    refine e_iconst (v := 1) i_M_leftsOf_18 (by decide) ?_
    refine e_callI (as := [.ref w, .int n3, .int 1]) (st' := [.int n2]) i_M_leftsOf_19 lm_106 (Or.inr (Or.inl ⟨rfl, rfl⟩)) w_M_get rfl rfl rfl (Nat.le_of_ble_eq_true rfl) (Nat.le_of_ble_eq_true rfl) (m_rlt (q_M_get _) (Nat.lt_of_lt_of_le (by decide) hρ)) rfl (fun v19 s19 => ?_)
    refine e_iload_n i_M_leftsOf_22 rfl ?_
    refine e_icmpne (t := 40) i_M_leftsOf_23 (by decide) ?_ ?_
    · refine e_iconst (v := 0) i_M_leftsOf_40 (by decide) ?_
      refine e_iadd i_M_leftsOf_41 ?_
      refine e_istore_n (L' := [some (.ref w), some (.int n1), some (.int (n2 + (0 : Int32))), some (.int n3)]) i_M_leftsOf_42 (of_decide_eq_true rfl) rfl ?_
      refine e_iinc (w := 1) (L' := [some (.ref w), some (.int n1), some (.int (n2 + (0 : Int32))), some (.int (n3 + (1 : Int32)))]) i_M_leftsOf_43 rfl (of_decide_eq_true rfl) (by decide) rfl ?_
      refine e_goto (t := 4) i_M_leftsOf_46 (by decide) ?_
      exact rfl
    · refine e_aload_n i_M_leftsOf_26 rfl ?_
      refine e_iload_n i_M_leftsOf_27 rfl ?_
      refine e_bipush (v := 6) i_M_leftsOf_28 (by decide) ?_
      refine e_callI (as := [.ref w, .int n3, .int 6]) (st' := [.int n2]) i_M_leftsOf_30 lm_106 (Or.inr (Or.inl ⟨rfl, rfl⟩)) w_M_get rfl rfl rfl (Nat.le_of_ble_eq_true rfl) (Nat.le_of_ble_eq_true rfl) (m_rlt (q_M_get _) (Nat.lt_of_lt_of_le (by decide) hρ)) rfl (fun v30 s30 => ?_)
      refine e_ifne (t := 40) i_M_leftsOf_33 (by decide) ?_ ?_
      · refine e_iconst (v := 0) i_M_leftsOf_40 (by decide) ?_
        refine e_iadd i_M_leftsOf_41 ?_
        refine e_istore_n (L' := [some (.ref w), some (.int n1), some (.int (n2 + (0 : Int32))), some (.int n3)]) i_M_leftsOf_42 (of_decide_eq_true rfl) rfl ?_
        refine e_iinc (w := 1) (L' := [some (.ref w), some (.int n1), some (.int (n2 + (0 : Int32))), some (.int (n3 + (1 : Int32)))]) i_M_leftsOf_43 rfl (of_decide_eq_true rfl) (by decide) rfl ?_
        refine e_goto (t := 4) i_M_leftsOf_46 (by decide) ?_
        exact rfl
      · refine e_iconst (v := 1) i_M_leftsOf_36 (by decide) ?_
        refine e_goto (t := 41) i_M_leftsOf_37 (by decide) ?_
        refine e_iadd i_M_leftsOf_41 ?_
        refine e_istore_n (L' := [some (.ref w), some (.int n1), some (.int (n2 + (1 : Int32))), some (.int n3)]) i_M_leftsOf_42 (of_decide_eq_true rfl) rfl ?_
        refine e_iinc (w := 1) (L' := [some (.ref w), some (.int n1), some (.int (n2 + (1 : Int32))), some (.int (n3 + (1 : Int32)))]) i_M_leftsOf_43 rfl (of_decide_eq_true rfl) (by decide) rfl ?_
        refine e_goto (t := 4) i_M_leftsOf_46 (by decide) ?_
        exact rfl
theorem i_M_nameGlove_0 : m_at k_M_nameGlove 0 = some (.aload_n 0, 1, 0) := m_at_of r_M_nameGlove (by decide +kernel)
theorem i_M_nameGlove_1 : m_at k_M_nameGlove 1 = some (.getfield 32, 3, 82) := m_at_of r_M_nameGlove (by decide +kernel)
theorem i_M_nameGlove_4 : m_at k_M_nameGlove 4 = some (.iconst 0, 1, 0) := m_at_of r_M_nameGlove (by decide +kernel)
theorem i_M_nameGlove_5 : m_at k_M_nameGlove 5 = some (.aload_n 0, 1, 0) := m_at_of r_M_nameGlove (by decide +kernel)
theorem i_M_nameGlove_6 : m_at k_M_nameGlove 6 = some (.getfield 7, 3, 0) := m_at_of r_M_nameGlove (by decide +kernel)
theorem i_M_nameGlove_9 : m_at k_M_nameGlove 9 = some (.bipush 8, 2, 0) := m_at_of r_M_nameGlove (by decide +kernel)
theorem i_M_nameGlove_11 : m_at k_M_nameGlove 11 = some (.iaload, 1, 0) := m_at_of r_M_nameGlove (by decide +kernel)
theorem i_M_nameGlove_12 : m_at k_M_nameGlove 12 = some (.iastore, 1, 0) := m_at_of r_M_nameGlove (by decide +kernel)
theorem i_M_nameGlove_13 : m_at k_M_nameGlove 13 = some (.aload_n 0, 1, 0) := m_at_of r_M_nameGlove (by decide +kernel)
theorem i_M_nameGlove_14 : m_at k_M_nameGlove 14 = some (.getfield 32, 3, 82) := m_at_of r_M_nameGlove (by decide +kernel)
theorem i_M_nameGlove_17 : m_at k_M_nameGlove 17 = some (.iconst 1, 1, 0) := m_at_of r_M_nameGlove (by decide +kernel)
theorem i_M_nameGlove_18 : m_at k_M_nameGlove 18 = some (.aload_n 0, 1, 0) := m_at_of r_M_nameGlove (by decide +kernel)
theorem i_M_nameGlove_19 : m_at k_M_nameGlove 19 = some (.getfield 7, 3, 0) := m_at_of r_M_nameGlove (by decide +kernel)
theorem i_M_nameGlove_22 : m_at k_M_nameGlove 22 = some (.bipush 9, 2, 0) := m_at_of r_M_nameGlove (by decide +kernel)
theorem i_M_nameGlove_24 : m_at k_M_nameGlove 24 = some (.iaload, 1, 0) := m_at_of r_M_nameGlove (by decide +kernel)
theorem i_M_nameGlove_25 : m_at k_M_nameGlove 25 = some (.iastore, 1, 0) := m_at_of r_M_nameGlove (by decide +kernel)
theorem i_M_nameGlove_26 : m_at k_M_nameGlove 26 = some (.aload_n 0, 1, 0) := m_at_of r_M_nameGlove (by decide +kernel)
theorem i_M_nameGlove_27 : m_at k_M_nameGlove 27 = some (.getfield 32, 3, 82) := m_at_of r_M_nameGlove (by decide +kernel)
theorem i_M_nameGlove_30 : m_at k_M_nameGlove 30 = some (.bipush 8, 2, 0) := m_at_of r_M_nameGlove (by decide +kernel)
theorem i_M_nameGlove_32 : m_at k_M_nameGlove 32 = some (.aload_n 0, 1, 0) := m_at_of r_M_nameGlove (by decide +kernel)
theorem i_M_nameGlove_33 : m_at k_M_nameGlove 33 = some (.iload_n 1, 1, 0) := m_at_of r_M_nameGlove (by decide +kernel)
theorem i_M_nameGlove_34 : m_at k_M_nameGlove 34 = some (.iconst 2, 1, 0) := m_at_of r_M_nameGlove (by decide +kernel)
theorem i_M_nameGlove_35 : m_at k_M_nameGlove 35 = some (.invokevirtual 85, 3, 106) := m_at_of r_M_nameGlove (by decide +kernel)
theorem i_M_nameGlove_38 : m_at k_M_nameGlove 38 = some (.iastore, 1, 0) := m_at_of r_M_nameGlove (by decide +kernel)
theorem i_M_nameGlove_39 : m_at k_M_nameGlove 39 = some (.aload_n 0, 1, 0) := m_at_of r_M_nameGlove (by decide +kernel)
theorem i_M_nameGlove_40 : m_at k_M_nameGlove 40 = some (.getfield 32, 3, 82) := m_at_of r_M_nameGlove (by decide +kernel)
theorem i_M_nameGlove_43 : m_at k_M_nameGlove 43 = some (.bipush 9, 2, 0) := m_at_of r_M_nameGlove (by decide +kernel)
theorem i_M_nameGlove_45 : m_at k_M_nameGlove 45 = some (.aload_n 0, 1, 0) := m_at_of r_M_nameGlove (by decide +kernel)
theorem i_M_nameGlove_46 : m_at k_M_nameGlove 46 = some (.iload_n 1, 1, 0) := m_at_of r_M_nameGlove (by decide +kernel)
theorem i_M_nameGlove_47 : m_at k_M_nameGlove 47 = some (.iconst 3, 1, 0) := m_at_of r_M_nameGlove (by decide +kernel)
theorem i_M_nameGlove_48 : m_at k_M_nameGlove 48 = some (.invokevirtual 85, 3, 106) := m_at_of r_M_nameGlove (by decide +kernel)
theorem i_M_nameGlove_51 : m_at k_M_nameGlove 51 = some (.iastore, 1, 0) := m_at_of r_M_nameGlove (by decide +kernel)
theorem i_M_nameGlove_52 : m_at k_M_nameGlove 52 = some (.aload_n 0, 1, 0) := m_at_of r_M_nameGlove (by decide +kernel)
theorem i_M_nameGlove_53 : m_at k_M_nameGlove 53 = some (.getfield 32, 3, 82) := m_at_of r_M_nameGlove (by decide +kernel)
theorem i_M_nameGlove_56 : m_at k_M_nameGlove 56 = some (.bipush 10, 2, 0) := m_at_of r_M_nameGlove (by decide +kernel)
theorem i_M_nameGlove_58 : m_at k_M_nameGlove 58 = some (.aload_n 0, 1, 0) := m_at_of r_M_nameGlove (by decide +kernel)
theorem i_M_nameGlove_59 : m_at k_M_nameGlove 59 = some (.iload_n 1, 1, 0) := m_at_of r_M_nameGlove (by decide +kernel)
theorem i_M_nameGlove_60 : m_at k_M_nameGlove 60 = some (.iconst 5, 1, 0) := m_at_of r_M_nameGlove (by decide +kernel)
theorem i_M_nameGlove_61 : m_at k_M_nameGlove 61 = some (.invokevirtual 85, 3, 106) := m_at_of r_M_nameGlove (by decide +kernel)
theorem i_M_nameGlove_64 : m_at k_M_nameGlove 64 = some (.iastore, 1, 0) := m_at_of r_M_nameGlove (by decide +kernel)
theorem i_M_nameGlove_65 : m_at k_M_nameGlove 65 = some (.aload_n 0, 1, 0) := m_at_of r_M_nameGlove (by decide +kernel)
theorem i_M_nameGlove_66 : m_at k_M_nameGlove 66 = some (.getfield 32, 3, 82) := m_at_of r_M_nameGlove (by decide +kernel)
theorem i_M_nameGlove_69 : m_at k_M_nameGlove 69 = some (.bipush 11, 2, 0) := m_at_of r_M_nameGlove (by decide +kernel)
theorem i_M_nameGlove_71 : m_at k_M_nameGlove 71 = some (.aload_n 0, 1, 0) := m_at_of r_M_nameGlove (by decide +kernel)
theorem i_M_nameGlove_72 : m_at k_M_nameGlove 72 = some (.iload_n 1, 1, 0) := m_at_of r_M_nameGlove (by decide +kernel)
theorem i_M_nameGlove_73 : m_at k_M_nameGlove 73 = some (.iconst 4, 1, 0) := m_at_of r_M_nameGlove (by decide +kernel)
theorem i_M_nameGlove_74 : m_at k_M_nameGlove 74 = some (.invokevirtual 85, 3, 106) := m_at_of r_M_nameGlove (by decide +kernel)
theorem i_M_nameGlove_77 : m_at k_M_nameGlove 77 = some (.iastore, 1, 0) := m_at_of r_M_nameGlove (by decide +kernel)
theorem i_M_nameGlove_78 : m_at k_M_nameGlove 78 = some (.aload_n 0, 1, 0) := m_at_of r_M_nameGlove (by decide +kernel)
theorem i_M_nameGlove_79 : m_at k_M_nameGlove 79 = some (.getfield 32, 3, 82) := m_at_of r_M_nameGlove (by decide +kernel)
theorem i_M_nameGlove_82 : m_at k_M_nameGlove 82 = some (.bipush 12, 2, 0) := m_at_of r_M_nameGlove (by decide +kernel)
theorem i_M_nameGlove_84 : m_at k_M_nameGlove 84 = some (.aload_n 0, 1, 0) := m_at_of r_M_nameGlove (by decide +kernel)
theorem i_M_nameGlove_85 : m_at k_M_nameGlove 85 = some (.iload_n 1, 1, 0) := m_at_of r_M_nameGlove (by decide +kernel)
theorem i_M_nameGlove_86 : m_at k_M_nameGlove 86 = some (.iconst 0, 1, 0) := m_at_of r_M_nameGlove (by decide +kernel)
theorem i_M_nameGlove_87 : m_at k_M_nameGlove 87 = some (.invokevirtual 85, 3, 106) := m_at_of r_M_nameGlove (by decide +kernel)
theorem i_M_nameGlove_90 : m_at k_M_nameGlove 90 = some (.iastore, 1, 0) := m_at_of r_M_nameGlove (by decide +kernel)
theorem i_M_nameGlove_91 : m_at k_M_nameGlove 91 = some (.aload_n 0, 1, 0) := m_at_of r_M_nameGlove (by decide +kernel)
theorem i_M_nameGlove_92 : m_at k_M_nameGlove 92 = some (.getfield 32, 3, 82) := m_at_of r_M_nameGlove (by decide +kernel)
theorem i_M_nameGlove_95 : m_at k_M_nameGlove 95 = some (.bipush 13, 2, 0) := m_at_of r_M_nameGlove (by decide +kernel)
theorem i_M_nameGlove_97 : m_at k_M_nameGlove 97 = some (.aload_n 0, 1, 0) := m_at_of r_M_nameGlove (by decide +kernel)
theorem i_M_nameGlove_98 : m_at k_M_nameGlove 98 = some (.iload_n 1, 1, 0) := m_at_of r_M_nameGlove (by decide +kernel)
theorem i_M_nameGlove_99 : m_at k_M_nameGlove 99 = some (.iconst 1, 1, 0) := m_at_of r_M_nameGlove (by decide +kernel)
theorem i_M_nameGlove_100 : m_at k_M_nameGlove 100 = some (.invokevirtual 85, 3, 106) := m_at_of r_M_nameGlove (by decide +kernel)
theorem i_M_nameGlove_103 : m_at k_M_nameGlove 103 = some (.iastore, 1, 0) := m_at_of r_M_nameGlove (by decide +kernel)
theorem i_M_nameGlove_104 : m_at k_M_nameGlove 104 = some (.return_, 1, 0) := m_at_of r_M_nameGlove (by decide +kernel)
set_option maxRecDepth 20000 in
set_option maxHeartbeats 1000000 in
theorem E_M_nameGlove (x : m_X) (s : m_H) (w : Nat) (n1 : Int32) : m_M x k_M_nameGlove [.ref w, .int n1] s = if m_isO s w 11 = true then ((m_fR s 11 20 w).bind fun v1 => (m_fR s 11 0 w).bind fun v6 => (m_ia x s v6 8).bind fun v11 => (m_is s v1 0 v11).bind fun s12 => (m_fR s12 11 20 w).bind fun v14 => (m_fR s12 11 0 w).bind fun v19 => (m_ia x s12 v19 9).bind fun v24 => (m_is s12 v14 1 v24).bind fun s25 => (m_fR s25 11 20 w).bind fun v27 => m_bI (m_M x k_M_get [.ref w, .int n1, .int 2] s25) fun v35 s35 => (m_is s35 v27 8 v35).bind fun s38 => (m_fR s38 11 20 w).bind fun v40 => m_bI (m_M x k_M_get [.ref w, .int n1, .int 3] s38) fun v48 s48 => (m_is s48 v40 9 v48).bind fun s51 => (m_fR s51 11 20 w).bind fun v53 => m_bI (m_M x k_M_get [.ref w, .int n1, .int 5] s51) fun v61 s61 => (m_is s61 v53 10 v61).bind fun s64 => (m_fR s64 11 20 w).bind fun v66 => m_bI (m_M x k_M_get [.ref w, .int n1, .int 4] s64) fun v74 s74 => (m_is s74 v66 11 v74).bind fun s77 => (m_fR s77 11 20 w).bind fun v79 => m_bI (m_M x k_M_get [.ref w, .int n1, .int 0] s77) fun v87 s87 => (m_is s87 v79 12 v87).bind fun s90 => (m_fR s90 11 20 w).bind fun v92 => m_bI (m_M x k_M_get [.ref w, .int n1, .int 1] s90) fun v100 s100 => (m_is s100 v92 13 v100).bind fun s103 => some (none, s103)) else none := by
  refine e_M1 (L0 := [some (.ref w), some (.int n1)]) rfl (by decide +kernel) rfl (q_M_nameGlove _) rfl ?_
  refine e_aload_n i_M_nameGlove_0 rfl ?_
  refine e_getR i_M_nameGlove_1 lf_82 (by decide) ft_11_20 (fun v1 => ?_)
  refine e_iconst (v := 0) i_M_nameGlove_4 (by decide) ?_
  refine e_aload_n i_M_nameGlove_5 rfl ?_
  refine e_getR i_M_nameGlove_6 lf_0 (by decide) ft_11_0 (fun v6 => ?_)
  refine e_bipush (v := 8) i_M_nameGlove_9 (by decide) ?_
  refine e_iald i_M_nameGlove_11 (fun v11 => ?_)
  refine e_iast i_M_nameGlove_12 (fun s12 => ?_)
  refine e_aload_n i_M_nameGlove_13 rfl ?_
  refine e_getR i_M_nameGlove_14 lf_82 (by decide) ft_11_20 (fun v14 => ?_)
  refine e_iconst (v := 1) i_M_nameGlove_17 (by decide) ?_
  refine e_aload_n i_M_nameGlove_18 rfl ?_
  refine e_getR i_M_nameGlove_19 lf_0 (by decide) ft_11_0 (fun v19 => ?_)
  refine e_bipush (v := 9) i_M_nameGlove_22 (by decide) ?_
  refine e_iald i_M_nameGlove_24 (fun v24 => ?_)
  refine e_iast i_M_nameGlove_25 (fun s25 => ?_)
  refine e_aload_n i_M_nameGlove_26 rfl ?_
  refine e_getR i_M_nameGlove_27 lf_82 (by decide) ft_11_20 (fun v27 => ?_)
  refine e_bipush (v := 8) i_M_nameGlove_30 (by decide) ?_
  refine e_aload_n i_M_nameGlove_32 rfl ?_
  refine e_iload_n i_M_nameGlove_33 rfl ?_
  refine e_iconst (v := 2) i_M_nameGlove_34 (by decide) ?_
  refine e_callI (as := [.ref w, .int n1, .int 2]) (st' := [.int 8, .ref v27]) i_M_nameGlove_35 lm_106 (Or.inr (Or.inl ⟨rfl, rfl⟩)) w_M_get rfl rfl rfl (Nat.le_of_ble_eq_true rfl) (Nat.le_of_ble_eq_true rfl) (m_rlt (q_M_get _) (by decide)) rfl (fun v35 s35 => ?_)
  refine e_iast i_M_nameGlove_38 (fun s38 => ?_)
  refine e_aload_n i_M_nameGlove_39 rfl ?_
  refine e_getR i_M_nameGlove_40 lf_82 (by decide) ft_11_20 (fun v40 => ?_)
  refine e_bipush (v := 9) i_M_nameGlove_43 (by decide) ?_
  refine e_aload_n i_M_nameGlove_45 rfl ?_
  refine e_iload_n i_M_nameGlove_46 rfl ?_
  refine e_iconst (v := 3) i_M_nameGlove_47 (by decide) ?_
  refine e_callI (as := [.ref w, .int n1, .int 3]) (st' := [.int 9, .ref v40]) i_M_nameGlove_48 lm_106 (Or.inr (Or.inl ⟨rfl, rfl⟩)) w_M_get rfl rfl rfl (Nat.le_of_ble_eq_true rfl) (Nat.le_of_ble_eq_true rfl) (m_rlt (q_M_get _) (by decide)) rfl (fun v48 s48 => ?_)
  refine e_iast i_M_nameGlove_51 (fun s51 => ?_)
  refine e_aload_n i_M_nameGlove_52 rfl ?_
  refine e_getR i_M_nameGlove_53 lf_82 (by decide) ft_11_20 (fun v53 => ?_)
  refine e_bipush (v := 10) i_M_nameGlove_56 (by decide) ?_
  refine e_aload_n i_M_nameGlove_58 rfl ?_
  refine e_iload_n i_M_nameGlove_59 rfl ?_
  refine e_iconst (v := 5) i_M_nameGlove_60 (by decide) ?_
  refine e_callI (as := [.ref w, .int n1, .int 5]) (st' := [.int 10, .ref v53]) i_M_nameGlove_61 lm_106 (Or.inr (Or.inl ⟨rfl, rfl⟩)) w_M_get rfl rfl rfl (Nat.le_of_ble_eq_true rfl) (Nat.le_of_ble_eq_true rfl) (m_rlt (q_M_get _) (by decide)) rfl (fun v61 s61 => ?_)
  refine e_iast i_M_nameGlove_64 (fun s64 => ?_)
  refine e_aload_n i_M_nameGlove_65 rfl ?_
  refine e_getR i_M_nameGlove_66 lf_82 (by decide) ft_11_20 (fun v66 => ?_)
  refine e_bipush (v := 11) i_M_nameGlove_69 (by decide) ?_
  refine e_aload_n i_M_nameGlove_71 rfl ?_
  refine e_iload_n i_M_nameGlove_72 rfl ?_
  refine e_iconst (v := 4) i_M_nameGlove_73 (by decide) ?_
  refine e_callI (as := [.ref w, .int n1, .int 4]) (st' := [.int 11, .ref v66]) i_M_nameGlove_74 lm_106 (Or.inr (Or.inl ⟨rfl, rfl⟩)) w_M_get rfl rfl rfl (Nat.le_of_ble_eq_true rfl) (Nat.le_of_ble_eq_true rfl) (m_rlt (q_M_get _) (by decide)) rfl (fun v74 s74 => ?_)
  refine e_iast i_M_nameGlove_77 (fun s77 => ?_)
  refine e_aload_n i_M_nameGlove_78 rfl ?_
  refine e_getR i_M_nameGlove_79 lf_82 (by decide) ft_11_20 (fun v79 => ?_)
  refine e_bipush (v := 12) i_M_nameGlove_82 (by decide) ?_
  refine e_aload_n i_M_nameGlove_84 rfl ?_
  refine e_iload_n i_M_nameGlove_85 rfl ?_
  refine e_iconst (v := 0) i_M_nameGlove_86 (by decide) ?_
  refine e_callI (as := [.ref w, .int n1, .int 0]) (st' := [.int 12, .ref v79]) i_M_nameGlove_87 lm_106 (Or.inr (Or.inl ⟨rfl, rfl⟩)) w_M_get rfl rfl rfl (Nat.le_of_ble_eq_true rfl) (Nat.le_of_ble_eq_true rfl) (m_rlt (q_M_get _) (by decide)) rfl (fun v87 s87 => ?_)
  refine e_iast i_M_nameGlove_90 (fun s90 => ?_)
  refine e_aload_n i_M_nameGlove_91 rfl ?_
  refine e_getR i_M_nameGlove_92 lf_82 (by decide) ft_11_20 (fun v92 => ?_)
  refine e_bipush (v := 13) i_M_nameGlove_95 (by decide) ?_
  refine e_aload_n i_M_nameGlove_97 rfl ?_
  refine e_iload_n i_M_nameGlove_98 rfl ?_
  refine e_iconst (v := 1) i_M_nameGlove_99 (by decide) ?_
  refine e_callI (as := [.ref w, .int n1, .int 1]) (st' := [.int 13, .ref v92]) i_M_nameGlove_100 lm_106 (Or.inr (Or.inl ⟨rfl, rfl⟩)) w_M_get rfl rfl rfl (Nat.le_of_ble_eq_true rfl) (Nat.le_of_ble_eq_true rfl) (m_rlt (q_M_get _) (by decide)) rfl (fun v100 s100 => ?_)
  refine e_iast i_M_nameGlove_103 (fun s103 => ?_)
  exact e_vret i_M_nameGlove_104 rfl
theorem i_M_find_0 : m_at k_M_find 0 = some (.aload_n 0, 1, 0) := m_at_of r_M_find (by decide +kernel)
theorem i_M_find_1 : m_at k_M_find 1 = some (.iload_n 1, 1, 0) := m_at_of r_M_find (by decide +kernel)
theorem i_M_find_2 : m_at k_M_find 2 = some (.invokevirtual 365, 3, 116) := m_at_of r_M_find (by decide +kernel)
theorem i_M_find_5 : m_at k_M_find 5 = some (.ifCond .eq (32), 3, 0) := m_at_of r_M_find (by decide +kernel)
theorem i_M_find_8 : m_at k_M_find 8 = some (.aload_n 0, 1, 0) := m_at_of r_M_find (by decide +kernel)
theorem i_M_find_9 : m_at k_M_find 9 = some (.iload_n 1, 1, 0) := m_at_of r_M_find (by decide +kernel)
theorem i_M_find_10 : m_at k_M_find 10 = some (.bipush 6, 2, 0) := m_at_of r_M_find (by decide +kernel)
theorem i_M_find_12 : m_at k_M_find 12 = some (.invokevirtual 85, 3, 106) := m_at_of r_M_find (by decide +kernel)
theorem i_M_find_15 : m_at k_M_find 15 = some (.iconst 2, 1, 0) := m_at_of r_M_find (by decide +kernel)
theorem i_M_find_16 : m_at k_M_find 16 = some (.if_icmp .ne (21), 3, 0) := m_at_of r_M_find (by decide +kernel)
theorem i_M_find_19 : m_at k_M_find 19 = some (.aload_n 0, 1, 0) := m_at_of r_M_find (by decide +kernel)
theorem i_M_find_20 : m_at k_M_find 20 = some (.iload_n 2, 1, 0) := m_at_of r_M_find (by decide +kernel)
theorem i_M_find_21 : m_at k_M_find 21 = some (.invokevirtual 352, 3, 110) := m_at_of r_M_find (by decide +kernel)
theorem i_M_find_24 : m_at k_M_find 24 = some (.ifCond .eq (13), 3, 0) := m_at_of r_M_find (by decide +kernel)
theorem i_M_find_27 : m_at k_M_find 27 = some (.aload_n 0, 1, 0) := m_at_of r_M_find (by decide +kernel)
theorem i_M_find_28 : m_at k_M_find 28 = some (.iload_n 1, 1, 0) := m_at_of r_M_find (by decide +kernel)
theorem i_M_find_29 : m_at k_M_find 29 = some (.iconst 0, 1, 0) := m_at_of r_M_find (by decide +kernel)
theorem i_M_find_30 : m_at k_M_find 30 = some (.invokevirtual 85, 3, 106) := m_at_of r_M_find (by decide +kernel)
theorem i_M_find_33 : m_at k_M_find 33 = some (.iload_n 2, 1, 0) := m_at_of r_M_find (by decide +kernel)
theorem i_M_find_34 : m_at k_M_find 34 = some (.if_icmp .ne (5), 3, 0) := m_at_of r_M_find (by decide +kernel)
theorem i_M_find_37 : m_at k_M_find 37 = some (.iconst 0, 1, 0) := m_at_of r_M_find (by decide +kernel)
theorem i_M_find_38 : m_at k_M_find 38 = some (.ireturn, 1, 0) := m_at_of r_M_find (by decide +kernel)
theorem i_M_find_39 : m_at k_M_find 39 = some (.aload_n 0, 1, 0) := m_at_of r_M_find (by decide +kernel)
theorem i_M_find_40 : m_at k_M_find 40 = some (.invokevirtual 358, 3, 226) := m_at_of r_M_find (by decide +kernel)
theorem i_M_find_43 : m_at k_M_find 43 = some (.aload_n 0, 1, 0) := m_at_of r_M_find (by decide +kernel)
theorem i_M_find_44 : m_at k_M_find 44 = some (.iload_n 1, 1, 0) := m_at_of r_M_find (by decide +kernel)
theorem i_M_find_45 : m_at k_M_find 45 = some (.bipush 6, 2, 0) := m_at_of r_M_find (by decide +kernel)
theorem i_M_find_47 : m_at k_M_find 47 = some (.iconst 0, 1, 0) := m_at_of r_M_find (by decide +kernel)
theorem i_M_find_48 : m_at k_M_find 48 = some (.invokevirtual 345, 3, 233) := m_at_of r_M_find (by decide +kernel)
theorem i_M_find_51 : m_at k_M_find 51 = some (.aload_n 0, 1, 0) := m_at_of r_M_find (by decide +kernel)
theorem i_M_find_52 : m_at k_M_find 52 = some (.iload_n 1, 1, 0) := m_at_of r_M_find (by decide +kernel)
theorem i_M_find_53 : m_at k_M_find 53 = some (.iconst 1, 1, 0) := m_at_of r_M_find (by decide +kernel)
theorem i_M_find_54 : m_at k_M_find 54 = some (.iload_n 2, 1, 0) := m_at_of r_M_find (by decide +kernel)
theorem i_M_find_55 : m_at k_M_find 55 = some (.invokevirtual 345, 3, 233) := m_at_of r_M_find (by decide +kernel)
theorem i_M_find_58 : m_at k_M_find 58 = some (.iconst 1, 1, 0) := m_at_of r_M_find (by decide +kernel)
theorem i_M_find_59 : m_at k_M_find 59 = some (.ireturn, 1, 0) := m_at_of r_M_find (by decide +kernel)
set_option maxRecDepth 20000 in
set_option maxHeartbeats 1000000 in
theorem E_M_find (x : m_X) (s : m_H) (w : Nat) (n1 : Int32) (n2 : Int32) : m_M x k_M_find [.ref w, .int n1, .int n2] s = if m_isO s w 11 = true then (m_bI (m_M x k_M_isGlove [.ref w, .int n1] s) fun v2 s2 => if v2 = 0 then (some (some (.int 0), s2)) else m_bI (m_M x k_M_get [.ref w, .int n1, .int 6] s2) fun v12 s12 => if v12 = 2 then (m_bI (m_M x k_M_isOne [.ref w, .int n2] s12) fun v21 s21 => if v21 = 0 then (some (some (.int 0), s21)) else m_bI (m_M x k_M_get [.ref w, .int n1, .int 0] s21) fun v30 s30 => if v30 = n2 then (some (some (.int 0), s30)) else m_bV (m_M x k_M_keep [.ref w] s30) fun s40 => m_bV (m_M x k_M_put [.ref w, .int n1, .int 6, .int 0] s40) fun s48 => m_bV (m_M x k_M_put [.ref w, .int n1, .int 1, .int n2] s48) fun s55 => some (some (.int 1), s55)) else some (some (.int 0), s12)) else none := by
  refine e_M1 (L0 := [some (.ref w), some (.int n1), some (.int n2)]) rfl (by decide +kernel) rfl (q_M_find _) rfl ?_
  refine e_aload_n i_M_find_0 rfl ?_
  refine e_iload_n i_M_find_1 rfl ?_
  refine e_callI (as := [.ref w, .int n1]) (st' := []) i_M_find_2 lm_116 (Or.inr (Or.inl ⟨rfl, rfl⟩)) w_M_isGlove rfl rfl rfl (Nat.le_of_ble_eq_true rfl) (Nat.le_of_ble_eq_true rfl) (m_rlt (q_M_isGlove _) (by decide)) rfl (fun v2 s2 => ?_)
  refine e_ifeq (t := 37) i_M_find_5 (by decide) ?_ ?_
  · refine e_iconst (v := 0) i_M_find_37 (by decide) ?_
    exact e_iretZ i_M_find_38 rfl (by decide)
  · refine e_aload_n i_M_find_8 rfl ?_
    refine e_iload_n i_M_find_9 rfl ?_
    refine e_bipush (v := 6) i_M_find_10 (by decide) ?_
    refine e_callI (as := [.ref w, .int n1, .int 6]) (st' := []) i_M_find_12 lm_106 (Or.inr (Or.inl ⟨rfl, rfl⟩)) w_M_get rfl rfl rfl (Nat.le_of_ble_eq_true rfl) (Nat.le_of_ble_eq_true rfl) (m_rlt (q_M_get _) (by decide)) rfl (fun v12 s12 => ?_)
    refine e_iconst (v := 2) i_M_find_15 (by decide) ?_
    refine e_icmpne (t := 37) i_M_find_16 (by decide) ?_ ?_
    · refine e_iconst (v := 0) i_M_find_37 (by decide) ?_
      exact e_iretZ i_M_find_38 rfl (by decide)
    · refine e_aload_n i_M_find_19 rfl ?_
      refine e_iload_n i_M_find_20 rfl ?_
      refine e_callI (as := [.ref w, .int n2]) (st' := []) i_M_find_21 lm_110 (Or.inr (Or.inl ⟨rfl, rfl⟩)) w_M_isOne rfl rfl rfl (Nat.le_of_ble_eq_true rfl) (Nat.le_of_ble_eq_true rfl) (m_rlt (q_M_isOne _) (by decide)) rfl (fun v21 s21 => ?_)
      refine e_ifeq (t := 37) i_M_find_24 (by decide) ?_ ?_
      · refine e_iconst (v := 0) i_M_find_37 (by decide) ?_
        exact e_iretZ i_M_find_38 rfl (by decide)
      · refine e_aload_n i_M_find_27 rfl ?_
        refine e_iload_n i_M_find_28 rfl ?_
        refine e_iconst (v := 0) i_M_find_29 (by decide) ?_
        refine e_callI (as := [.ref w, .int n1, .int 0]) (st' := []) i_M_find_30 lm_106 (Or.inr (Or.inl ⟨rfl, rfl⟩)) w_M_get rfl rfl rfl (Nat.le_of_ble_eq_true rfl) (Nat.le_of_ble_eq_true rfl) (m_rlt (q_M_get _) (by decide)) rfl (fun v30 s30 => ?_)
        refine e_iload_n i_M_find_33 rfl ?_
        refine e_icmpne (t := 39) i_M_find_34 (by decide) ?_ ?_
        · refine e_aload_n i_M_find_39 rfl ?_
          refine e_callV (as := [.ref w]) (st' := []) i_M_find_40 lm_226 (Or.inr (Or.inl ⟨rfl, rfl⟩)) w_M_keep rfl rfl rfl (Nat.le_of_ble_eq_true rfl) (Nat.le_of_ble_eq_true rfl) (m_rlt (q_M_keep _) (by decide)) rfl (fun s40 => ?_)
          refine e_aload_n i_M_find_43 rfl ?_
          refine e_iload_n i_M_find_44 rfl ?_
          refine e_bipush (v := 6) i_M_find_45 (by decide) ?_
          refine e_iconst (v := 0) i_M_find_47 (by decide) ?_
          refine e_callV (as := [.ref w, .int n1, .int 6, .int 0]) (st' := []) i_M_find_48 lm_233 (Or.inr (Or.inl ⟨rfl, rfl⟩)) w_M_put rfl rfl rfl (Nat.le_of_ble_eq_true rfl) (Nat.le_of_ble_eq_true rfl) (m_rlt (q_M_put _) (by decide)) rfl (fun s48 => ?_)
          refine e_aload_n i_M_find_51 rfl ?_
          refine e_iload_n i_M_find_52 rfl ?_
          refine e_iconst (v := 1) i_M_find_53 (by decide) ?_
          refine e_iload_n i_M_find_54 rfl ?_
          refine e_callV (as := [.ref w, .int n1, .int 1, .int n2]) (st' := []) i_M_find_55 lm_233 (Or.inr (Or.inl ⟨rfl, rfl⟩)) w_M_put rfl rfl rfl (Nat.le_of_ble_eq_true rfl) (Nat.le_of_ble_eq_true rfl) (m_rlt (q_M_put _) (by decide)) rfl (fun s55 => ?_)
          refine e_iconst (v := 1) i_M_find_58 (by decide) ?_
          exact e_iretZ i_M_find_59 rfl (by decide)
        · refine e_iconst (v := 0) i_M_find_37 (by decide) ?_
          exact e_iretZ i_M_find_38 rfl (by decide)
theorem i_M_lose_0 : m_at k_M_lose 0 = some (.aload_n 0, 1, 0) := m_at_of r_M_lose (by decide +kernel)
theorem i_M_lose_1 : m_at k_M_lose 1 = some (.iload_n 1, 1, 0) := m_at_of r_M_lose (by decide +kernel)
theorem i_M_lose_2 : m_at k_M_lose 2 = some (.invokevirtual 371, 3, 234) := m_at_of r_M_lose (by decide +kernel)
theorem i_M_lose_5 : m_at k_M_lose 5 = some (.ifCond .ne (5), 3, 0) := m_at_of r_M_lose (by decide +kernel)
theorem i_M_lose_8 : m_at k_M_lose 8 = some (.iconst 0, 1, 0) := m_at_of r_M_lose (by decide +kernel)
theorem i_M_lose_9 : m_at k_M_lose 9 = some (.ireturn, 1, 0) := m_at_of r_M_lose (by decide +kernel)
theorem i_M_lose_10 : m_at k_M_lose 10 = some (.aload_n 0, 1, 0) := m_at_of r_M_lose (by decide +kernel)
theorem i_M_lose_11 : m_at k_M_lose 11 = some (.invokevirtual 358, 3, 226) := m_at_of r_M_lose (by decide +kernel)
theorem i_M_lose_14 : m_at k_M_lose 14 = some (.aload_n 0, 1, 0) := m_at_of r_M_lose (by decide +kernel)
theorem i_M_lose_15 : m_at k_M_lose 15 = some (.iload_n 1, 1, 0) := m_at_of r_M_lose (by decide +kernel)
theorem i_M_lose_16 : m_at k_M_lose 16 = some (.bipush 6, 2, 0) := m_at_of r_M_lose (by decide +kernel)
theorem i_M_lose_18 : m_at k_M_lose 18 = some (.iconst 2, 1, 0) := m_at_of r_M_lose (by decide +kernel)
theorem i_M_lose_19 : m_at k_M_lose 19 = some (.invokevirtual 345, 3, 233) := m_at_of r_M_lose (by decide +kernel)
theorem i_M_lose_22 : m_at k_M_lose 22 = some (.iconst 1, 1, 0) := m_at_of r_M_lose (by decide +kernel)
theorem i_M_lose_23 : m_at k_M_lose 23 = some (.ireturn, 1, 0) := m_at_of r_M_lose (by decide +kernel)
set_option maxRecDepth 20000 in
set_option maxHeartbeats 1000000 in
theorem E_M_lose (x : m_X) (s : m_H) (w : Nat) (n1 : Int32) : m_M x k_M_lose [.ref w, .int n1] s = if m_isO s w 11 = true then (m_bI (m_M x k_M_isOwed [.ref w, .int n1] s) fun v2 s2 => if v2 = 0 then (some (some (.int 0), s2)) else m_bV (m_M x k_M_keep [.ref w] s2) fun s11 => m_bV (m_M x k_M_put [.ref w, .int n1, .int 6, .int 2] s11) fun s19 => some (some (.int 1), s19)) else none := by
  refine e_M1 (L0 := [some (.ref w), some (.int n1)]) rfl (by decide +kernel) rfl (q_M_lose _) rfl ?_
  refine e_aload_n i_M_lose_0 rfl ?_
  refine e_iload_n i_M_lose_1 rfl ?_
  refine e_callI (as := [.ref w, .int n1]) (st' := []) i_M_lose_2 lm_234 (Or.inr (Or.inl ⟨rfl, rfl⟩)) w_M_isOwed rfl rfl rfl (Nat.le_of_ble_eq_true rfl) (Nat.le_of_ble_eq_true rfl) (m_rlt (q_M_isOwed _) (by decide)) rfl (fun v2 s2 => ?_)
  refine e_ifne (t := 10) i_M_lose_5 (by decide) ?_ ?_
  · refine e_aload_n i_M_lose_10 rfl ?_
    refine e_callV (as := [.ref w]) (st' := []) i_M_lose_11 lm_226 (Or.inr (Or.inl ⟨rfl, rfl⟩)) w_M_keep rfl rfl rfl (Nat.le_of_ble_eq_true rfl) (Nat.le_of_ble_eq_true rfl) (m_rlt (q_M_keep _) (by decide)) rfl (fun s11 => ?_)
    refine e_aload_n i_M_lose_14 rfl ?_
    refine e_iload_n i_M_lose_15 rfl ?_
    refine e_bipush (v := 6) i_M_lose_16 (by decide) ?_
    refine e_iconst (v := 2) i_M_lose_18 (by decide) ?_
    refine e_callV (as := [.ref w, .int n1, .int 6, .int 2]) (st' := []) i_M_lose_19 lm_233 (Or.inr (Or.inl ⟨rfl, rfl⟩)) w_M_put rfl rfl rfl (Nat.le_of_ble_eq_true rfl) (Nat.le_of_ble_eq_true rfl) (m_rlt (q_M_put _) (by decide)) rfl (fun s19 => ?_)
    refine e_iconst (v := 1) i_M_lose_22 (by decide) ?_
    exact e_iretZ i_M_lose_23 rfl (by decide)
  · refine e_iconst (v := 0) i_M_lose_8 (by decide) ?_
    exact e_iretZ i_M_lose_9 rfl (by decide)
theorem i_M_pass_0 : m_at k_M_pass 0 = some (.aload_n 0, 1, 0) := m_at_of r_M_pass (by decide +kernel)
theorem i_M_pass_1 : m_at k_M_pass 1 = some (.iload_n 1, 1, 0) := m_at_of r_M_pass (by decide +kernel)
theorem i_M_pass_2 : m_at k_M_pass 2 = some (.iload_n 2, 1, 0) := m_at_of r_M_pass (by decide +kernel)
theorem i_M_pass_3 : m_at k_M_pass 3 = some (.invokevirtual 374, 3, 232) := m_at_of r_M_pass (by decide +kernel)
theorem i_M_pass_6 : m_at k_M_pass 6 = some (.ifCond .ne (5), 3, 0) := m_at_of r_M_pass (by decide +kernel)
theorem i_M_pass_9 : m_at k_M_pass 9 = some (.iconst 0, 1, 0) := m_at_of r_M_pass (by decide +kernel)
theorem i_M_pass_10 : m_at k_M_pass 10 = some (.ireturn, 1, 0) := m_at_of r_M_pass (by decide +kernel)
theorem i_M_pass_11 : m_at k_M_pass 11 = some (.aload_n 0, 1, 0) := m_at_of r_M_pass (by decide +kernel)
theorem i_M_pass_12 : m_at k_M_pass 12 = some (.invokevirtual 358, 3, 226) := m_at_of r_M_pass (by decide +kernel)
theorem i_M_pass_15 : m_at k_M_pass 15 = some (.aload_n 0, 1, 0) := m_at_of r_M_pass (by decide +kernel)
theorem i_M_pass_16 : m_at k_M_pass 16 = some (.iload_n 1, 1, 0) := m_at_of r_M_pass (by decide +kernel)
theorem i_M_pass_17 : m_at k_M_pass 17 = some (.iconst 1, 1, 0) := m_at_of r_M_pass (by decide +kernel)
theorem i_M_pass_18 : m_at k_M_pass 18 = some (.iload_n 2, 1, 0) := m_at_of r_M_pass (by decide +kernel)
theorem i_M_pass_19 : m_at k_M_pass 19 = some (.invokevirtual 345, 3, 233) := m_at_of r_M_pass (by decide +kernel)
theorem i_M_pass_22 : m_at k_M_pass 22 = some (.iconst 1, 1, 0) := m_at_of r_M_pass (by decide +kernel)
theorem i_M_pass_23 : m_at k_M_pass 23 = some (.ireturn, 1, 0) := m_at_of r_M_pass (by decide +kernel)
set_option maxRecDepth 20000 in
set_option maxHeartbeats 1000000 in
theorem E_M_pass (x : m_X) (s : m_H) (w : Nat) (n1 : Int32) (n2 : Int32) : m_M x k_M_pass [.ref w, .int n1, .int n2] s = if m_isO s w 11 = true then (m_bI (m_M x k_M_canPass [.ref w, .int n1, .int n2] s) fun v3 s3 => if v3 = 0 then (some (some (.int 0), s3)) else m_bV (m_M x k_M_keep [.ref w] s3) fun s12 => m_bV (m_M x k_M_put [.ref w, .int n1, .int 1, .int n2] s12) fun s19 => some (some (.int 1), s19)) else none := by
  refine e_M1 (L0 := [some (.ref w), some (.int n1), some (.int n2)]) rfl (by decide +kernel) rfl (q_M_pass _) rfl ?_
  refine e_aload_n i_M_pass_0 rfl ?_
  refine e_iload_n i_M_pass_1 rfl ?_
  refine e_iload_n i_M_pass_2 rfl ?_
  refine e_callI (as := [.ref w, .int n1, .int n2]) (st' := []) i_M_pass_3 lm_232 (Or.inr (Or.inl ⟨rfl, rfl⟩)) w_M_canPass rfl rfl rfl (Nat.le_of_ble_eq_true rfl) (Nat.le_of_ble_eq_true rfl) (m_rlt (q_M_canPass _) (by decide)) rfl (fun v3 s3 => ?_)
  refine e_ifne (t := 11) i_M_pass_6 (by decide) ?_ ?_
  · refine e_aload_n i_M_pass_11 rfl ?_
    refine e_callV (as := [.ref w]) (st' := []) i_M_pass_12 lm_226 (Or.inr (Or.inl ⟨rfl, rfl⟩)) w_M_keep rfl rfl rfl (Nat.le_of_ble_eq_true rfl) (Nat.le_of_ble_eq_true rfl) (m_rlt (q_M_keep _) (by decide)) rfl (fun s12 => ?_)
    refine e_aload_n i_M_pass_15 rfl ?_
    refine e_iload_n i_M_pass_16 rfl ?_
    refine e_iconst (v := 1) i_M_pass_17 (by decide) ?_
    refine e_iload_n i_M_pass_18 rfl ?_
    refine e_callV (as := [.ref w, .int n1, .int 1, .int n2]) (st' := []) i_M_pass_19 lm_233 (Or.inr (Or.inl ⟨rfl, rfl⟩)) w_M_put rfl rfl rfl (Nat.le_of_ble_eq_true rfl) (Nat.le_of_ble_eq_true rfl) (m_rlt (q_M_put _) (by decide)) rfl (fun s19 => ?_)
    refine e_iconst (v := 1) i_M_pass_22 (by decide) ?_
    exact e_iretZ i_M_pass_23 rfl (by decide)
  · refine e_iconst (v := 0) i_M_pass_9 (by decide) ?_
    exact e_iretZ i_M_pass_10 rfl (by decide)
theorem i_M_canPass_0 : m_at k_M_canPass 0 = some (.aload_n 0, 1, 0) := m_at_of r_M_canPass (by decide +kernel)
theorem i_M_canPass_1 : m_at k_M_canPass 1 = some (.iload_n 1, 1, 0) := m_at_of r_M_canPass (by decide +kernel)
theorem i_M_canPass_2 : m_at k_M_canPass 2 = some (.invokevirtual 371, 3, 234) := m_at_of r_M_canPass (by decide +kernel)
theorem i_M_canPass_5 : m_at k_M_canPass 5 = some (.ifCond .eq (35), 3, 0) := m_at_of r_M_canPass (by decide +kernel)
theorem i_M_canPass_8 : m_at k_M_canPass 8 = some (.aload_n 0, 1, 0) := m_at_of r_M_canPass (by decide +kernel)
theorem i_M_canPass_9 : m_at k_M_canPass 9 = some (.iload_n 2, 1, 0) := m_at_of r_M_canPass (by decide +kernel)
theorem i_M_canPass_10 : m_at k_M_canPass 10 = some (.invokevirtual 352, 3, 110) := m_at_of r_M_canPass (by decide +kernel)
theorem i_M_canPass_13 : m_at k_M_canPass 13 = some (.ifCond .eq (27), 3, 0) := m_at_of r_M_canPass (by decide +kernel)
theorem i_M_canPass_16 : m_at k_M_canPass 16 = some (.aload_n 0, 1, 0) := m_at_of r_M_canPass (by decide +kernel)
theorem i_M_canPass_17 : m_at k_M_canPass 17 = some (.iload_n 1, 1, 0) := m_at_of r_M_canPass (by decide +kernel)
theorem i_M_canPass_18 : m_at k_M_canPass 18 = some (.iconst 0, 1, 0) := m_at_of r_M_canPass (by decide +kernel)
theorem i_M_canPass_19 : m_at k_M_canPass 19 = some (.invokevirtual 85, 3, 106) := m_at_of r_M_canPass (by decide +kernel)
theorem i_M_canPass_22 : m_at k_M_canPass 22 = some (.iload_n 2, 1, 0) := m_at_of r_M_canPass (by decide +kernel)
theorem i_M_canPass_23 : m_at k_M_canPass 23 = some (.if_icmp .eq (17), 3, 0) := m_at_of r_M_canPass (by decide +kernel)
theorem i_M_canPass_26 : m_at k_M_canPass 26 = some (.aload_n 0, 1, 0) := m_at_of r_M_canPass (by decide +kernel)
theorem i_M_canPass_27 : m_at k_M_canPass 27 = some (.iload_n 1, 1, 0) := m_at_of r_M_canPass (by decide +kernel)
theorem i_M_canPass_28 : m_at k_M_canPass 28 = some (.iconst 1, 1, 0) := m_at_of r_M_canPass (by decide +kernel)
theorem i_M_canPass_29 : m_at k_M_canPass 29 = some (.invokevirtual 85, 3, 106) := m_at_of r_M_canPass (by decide +kernel)
theorem i_M_canPass_32 : m_at k_M_canPass 32 = some (.iload_n 2, 1, 0) := m_at_of r_M_canPass (by decide +kernel)
theorem i_M_canPass_33 : m_at k_M_canPass 33 = some (.if_icmp .eq (7), 3, 0) := m_at_of r_M_canPass (by decide +kernel)
theorem i_M_canPass_36 : m_at k_M_canPass 36 = some (.iconst 1, 1, 0) := m_at_of r_M_canPass (by decide +kernel)
theorem i_M_canPass_37 : m_at k_M_canPass 37 = some (.goto (4), 3, 0) := m_at_of r_M_canPass (by decide +kernel)
theorem i_M_canPass_40 : m_at k_M_canPass 40 = some (.iconst 0, 1, 0) := m_at_of r_M_canPass (by decide +kernel)
theorem i_M_canPass_41 : m_at k_M_canPass 41 = some (.ireturn, 1, 0) := m_at_of r_M_canPass (by decide +kernel)
set_option maxRecDepth 20000 in
set_option maxHeartbeats 1000000 in
theorem E_M_canPass (x : m_X) (s : m_H) (w : Nat) (n1 : Int32) (n2 : Int32) : m_M x k_M_canPass [.ref w, .int n1, .int n2] s = if m_isO s w 11 = true then (m_bI (m_M x k_M_isOwed [.ref w, .int n1] s) fun v2 s2 => if v2 = 0 then (some (some (.int 0), s2)) else m_bI (m_M x k_M_isOne [.ref w, .int n2] s2) fun v10 s10 => if v10 = 0 then (some (some (.int 0), s10)) else m_bI (m_M x k_M_get [.ref w, .int n1, .int 0] s10) fun v19 s19 => if v19 = n2 then (some (some (.int 0), s19)) else m_bI (m_M x k_M_get [.ref w, .int n1, .int 1] s19) fun v29 s29 => if v29 = n2 then (some (some (.int 0), s29)) else some (some (.int 1), s29)) else none := by
  refine e_M1 (L0 := [some (.ref w), some (.int n1), some (.int n2)]) rfl (by decide +kernel) rfl (q_M_canPass _) rfl ?_
  refine e_aload_n i_M_canPass_0 rfl ?_
  refine e_iload_n i_M_canPass_1 rfl ?_
  refine e_callI (as := [.ref w, .int n1]) (st' := []) i_M_canPass_2 lm_234 (Or.inr (Or.inl ⟨rfl, rfl⟩)) w_M_isOwed rfl rfl rfl (Nat.le_of_ble_eq_true rfl) (Nat.le_of_ble_eq_true rfl) (m_rlt (q_M_isOwed _) (by decide)) rfl (fun v2 s2 => ?_)
  refine e_ifeq (t := 40) i_M_canPass_5 (by decide) ?_ ?_
  · refine e_iconst (v := 0) i_M_canPass_40 (by decide) ?_
    exact e_iretZ i_M_canPass_41 rfl (by decide)
  · refine e_aload_n i_M_canPass_8 rfl ?_
    refine e_iload_n i_M_canPass_9 rfl ?_
    refine e_callI (as := [.ref w, .int n2]) (st' := []) i_M_canPass_10 lm_110 (Or.inr (Or.inl ⟨rfl, rfl⟩)) w_M_isOne rfl rfl rfl (Nat.le_of_ble_eq_true rfl) (Nat.le_of_ble_eq_true rfl) (m_rlt (q_M_isOne _) (by decide)) rfl (fun v10 s10 => ?_)
    refine e_ifeq (t := 40) i_M_canPass_13 (by decide) ?_ ?_
    · refine e_iconst (v := 0) i_M_canPass_40 (by decide) ?_
      exact e_iretZ i_M_canPass_41 rfl (by decide)
    · refine e_aload_n i_M_canPass_16 rfl ?_
      refine e_iload_n i_M_canPass_17 rfl ?_
      refine e_iconst (v := 0) i_M_canPass_18 (by decide) ?_
      refine e_callI (as := [.ref w, .int n1, .int 0]) (st' := []) i_M_canPass_19 lm_106 (Or.inr (Or.inl ⟨rfl, rfl⟩)) w_M_get rfl rfl rfl (Nat.le_of_ble_eq_true rfl) (Nat.le_of_ble_eq_true rfl) (m_rlt (q_M_get _) (by decide)) rfl (fun v19 s19 => ?_)
      refine e_iload_n i_M_canPass_22 rfl ?_
      refine e_icmpeq (t := 40) i_M_canPass_23 (by decide) ?_ ?_
      · refine e_iconst (v := 0) i_M_canPass_40 (by decide) ?_
        exact e_iretZ i_M_canPass_41 rfl (by decide)
      · refine e_aload_n i_M_canPass_26 rfl ?_
        refine e_iload_n i_M_canPass_27 rfl ?_
        refine e_iconst (v := 1) i_M_canPass_28 (by decide) ?_
        refine e_callI (as := [.ref w, .int n1, .int 1]) (st' := []) i_M_canPass_29 lm_106 (Or.inr (Or.inl ⟨rfl, rfl⟩)) w_M_get rfl rfl rfl (Nat.le_of_ble_eq_true rfl) (Nat.le_of_ble_eq_true rfl) (m_rlt (q_M_get _) (by decide)) rfl (fun v29 s29 => ?_)
        refine e_iload_n i_M_canPass_32 rfl ?_
        refine e_icmpeq (t := 40) i_M_canPass_33 (by decide) ?_ ?_
        · refine e_iconst (v := 0) i_M_canPass_40 (by decide) ?_
          exact e_iretZ i_M_canPass_41 rfl (by decide)
        · refine e_iconst (v := 1) i_M_canPass_36 (by decide) ?_
          refine e_goto (t := 41) i_M_canPass_37 (by decide) ?_
          exact e_iretZ i_M_canPass_41 rfl (by decide)
theorem i_M_isOwed_0 : m_at k_M_isOwed 0 = some (.aload_n 0, 1, 0) := m_at_of r_M_isOwed (by decide +kernel)
theorem i_M_isOwed_1 : m_at k_M_isOwed 1 = some (.iload_n 1, 1, 0) := m_at_of r_M_isOwed (by decide +kernel)
theorem i_M_isOwed_2 : m_at k_M_isOwed 2 = some (.invokevirtual 365, 3, 116) := m_at_of r_M_isOwed (by decide +kernel)
theorem i_M_isOwed_5 : m_at k_M_isOwed 5 = some (.ifCond .eq (17), 3, 0) := m_at_of r_M_isOwed (by decide +kernel)
theorem i_M_isOwed_8 : m_at k_M_isOwed 8 = some (.aload_n 0, 1, 0) := m_at_of r_M_isOwed (by decide +kernel)
theorem i_M_isOwed_9 : m_at k_M_isOwed 9 = some (.iload_n 1, 1, 0) := m_at_of r_M_isOwed (by decide +kernel)
theorem i_M_isOwed_10 : m_at k_M_isOwed 10 = some (.bipush 6, 2, 0) := m_at_of r_M_isOwed (by decide +kernel)
theorem i_M_isOwed_12 : m_at k_M_isOwed 12 = some (.invokevirtual 85, 3, 106) := m_at_of r_M_isOwed (by decide +kernel)
theorem i_M_isOwed_15 : m_at k_M_isOwed 15 = some (.ifCond .ne (7), 3, 0) := m_at_of r_M_isOwed (by decide +kernel)
theorem i_M_isOwed_18 : m_at k_M_isOwed 18 = some (.iconst 1, 1, 0) := m_at_of r_M_isOwed (by decide +kernel)
theorem i_M_isOwed_19 : m_at k_M_isOwed 19 = some (.goto (4), 3, 0) := m_at_of r_M_isOwed (by decide +kernel)
theorem i_M_isOwed_22 : m_at k_M_isOwed 22 = some (.iconst 0, 1, 0) := m_at_of r_M_isOwed (by decide +kernel)
theorem i_M_isOwed_23 : m_at k_M_isOwed 23 = some (.ireturn, 1, 0) := m_at_of r_M_isOwed (by decide +kernel)
set_option maxRecDepth 20000 in
set_option maxHeartbeats 1000000 in
theorem E_M_isOwed (x : m_X) (s : m_H) (w : Nat) (n1 : Int32) : m_M x k_M_isOwed [.ref w, .int n1] s = if m_isO s w 11 = true then (m_bI (m_M x k_M_isGlove [.ref w, .int n1] s) fun v2 s2 => if v2 = 0 then (some (some (.int 0), s2)) else m_bI (m_M x k_M_get [.ref w, .int n1, .int 6] s2) fun v12 s12 => if v12 = 0 then (some (some (.int 1), s12)) else some (some (.int 0), s12)) else none := by
  refine e_M1 (L0 := [some (.ref w), some (.int n1)]) rfl (by decide +kernel) rfl (q_M_isOwed _) rfl ?_
  refine e_aload_n i_M_isOwed_0 rfl ?_
  refine e_iload_n i_M_isOwed_1 rfl ?_
  refine e_callI (as := [.ref w, .int n1]) (st' := []) i_M_isOwed_2 lm_116 (Or.inr (Or.inl ⟨rfl, rfl⟩)) w_M_isGlove rfl rfl rfl (Nat.le_of_ble_eq_true rfl) (Nat.le_of_ble_eq_true rfl) (m_rlt (q_M_isGlove _) (by decide)) rfl (fun v2 s2 => ?_)
  refine e_ifeq (t := 22) i_M_isOwed_5 (by decide) ?_ ?_
  · refine e_iconst (v := 0) i_M_isOwed_22 (by decide) ?_
    exact e_iretZ i_M_isOwed_23 rfl (by decide)
  · refine e_aload_n i_M_isOwed_8 rfl ?_
    refine e_iload_n i_M_isOwed_9 rfl ?_
    refine e_bipush (v := 6) i_M_isOwed_10 (by decide) ?_
    refine e_callI (as := [.ref w, .int n1, .int 6]) (st' := []) i_M_isOwed_12 lm_106 (Or.inr (Or.inl ⟨rfl, rfl⟩)) w_M_get rfl rfl rfl (Nat.le_of_ble_eq_true rfl) (Nat.le_of_ble_eq_true rfl) (m_rlt (q_M_get _) (by decide)) rfl (fun v12 s12 => ?_)
    refine e_ifne (t := 22) i_M_isOwed_15 (by decide) ?_ ?_
    · refine e_iconst (v := 0) i_M_isOwed_22 (by decide) ?_
      exact e_iretZ i_M_isOwed_23 rfl (by decide)
    · refine e_iconst (v := 1) i_M_isOwed_18 (by decide) ?_
      refine e_goto (t := 23) i_M_isOwed_19 (by decide) ?_
      exact e_iretZ i_M_isOwed_23 rfl (by decide)
theorem i_M_work_0 : m_at k_M_work 0 = some (.aload_n 0, 1, 0) := m_at_of r_M_work (by decide +kernel)
theorem i_M_work_1 : m_at k_M_work 1 = some (.iload_n 1, 1, 0) := m_at_of r_M_work (by decide +kernel)
theorem i_M_work_2 : m_at k_M_work 2 = some (.invokevirtual 365, 3, 116) := m_at_of r_M_work (by decide +kernel)
theorem i_M_work_5 : m_at k_M_work 5 = some (.ifCond .eq (21), 3, 0) := m_at_of r_M_work (by decide +kernel)
theorem i_M_work_8 : m_at k_M_work 8 = some (.iload_n 2, 1, 0) := m_at_of r_M_work (by decide +kernel)
theorem i_M_work_9 : m_at k_M_work 9 = some (.iconst 1, 1, 0) := m_at_of r_M_work (by decide +kernel)
theorem i_M_work_10 : m_at k_M_work 10 = some (.bipush 9, 2, 0) := m_at_of r_M_work (by decide +kernel)
theorem i_M_work_12 : m_at k_M_work 12 = some (.invokestatic 81, 3, 96) := m_at_of r_M_work (by decide +kernel)
theorem i_M_work_15 : m_at k_M_work 15 = some (.ifCond .eq (11), 3, 0) := m_at_of r_M_work (by decide +kernel)
theorem i_M_work_18 : m_at k_M_work 18 = some (.aload_n 0, 1, 0) := m_at_of r_M_work (by decide +kernel)
theorem i_M_work_19 : m_at k_M_work 19 = some (.iload_n 1, 1, 0) := m_at_of r_M_work (by decide +kernel)
theorem i_M_work_20 : m_at k_M_work 20 = some (.invokevirtual 89, 3, 105) := m_at_of r_M_work (by decide +kernel)
theorem i_M_work_23 : m_at k_M_work 23 = some (.ifCond .ne (5), 3, 0) := m_at_of r_M_work (by decide +kernel)
theorem i_M_work_26 : m_at k_M_work 26 = some (.iconst (-1), 1, 0) := m_at_of r_M_work (by decide +kernel)
theorem i_M_work_27 : m_at k_M_work 27 = some (.ireturn, 1, 0) := m_at_of r_M_work (by decide +kernel)
theorem i_M_work_28 : m_at k_M_work 28 = some (.aload_n 0, 1, 0) := m_at_of r_M_work (by decide +kernel)
theorem i_M_work_29 : m_at k_M_work 29 = some (.invokevirtual 358, 3, 226) := m_at_of r_M_work (by decide +kernel)
theorem i_M_work_32 : m_at k_M_work 32 = some (.aload_n 0, 1, 0) := m_at_of r_M_work (by decide +kernel)
theorem i_M_work_33 : m_at k_M_work 33 = some (.iload_n 1, 1, 0) := m_at_of r_M_work (by decide +kernel)
theorem i_M_work_34 : m_at k_M_work 34 = some (.iload_n 2, 1, 0) := m_at_of r_M_work (by decide +kernel)
theorem i_M_work_35 : m_at k_M_work 35 = some (.invokevirtual 368, 3, 231) := m_at_of r_M_work (by decide +kernel)
theorem i_M_work_38 : m_at k_M_work 38 = some (.aload_n 0, 1, 0) := m_at_of r_M_work (by decide +kernel)
theorem i_M_work_39 : m_at k_M_work 39 = some (.iload_n 1, 1, 0) := m_at_of r_M_work (by decide +kernel)
theorem i_M_work_40 : m_at k_M_work 40 = some (.iconst 2, 1, 0) := m_at_of r_M_work (by decide +kernel)
theorem i_M_work_41 : m_at k_M_work 41 = some (.invokevirtual 85, 3, 106) := m_at_of r_M_work (by decide +kernel)
theorem i_M_work_44 : m_at k_M_work 44 = some (.ireturn, 1, 0) := m_at_of r_M_work (by decide +kernel)
set_option maxRecDepth 20000 in
set_option maxHeartbeats 1000000 in
theorem E_M_work (x : m_X) (s : m_H) (w : Nat) (n1 : Int32) (n2 : Int32) : m_M x k_M_work [.ref w, .int n1, .int n2] s = if m_isO s w 11 = true then (m_bI (m_M x k_M_isGlove [.ref w, .int n1] s) fun v2 s2 => if v2 = 0 then (some (some (.int (-1)), s2)) else m_bI (m_M x k_M_isIn [.int n2, .int 1, .int 9] s2) fun v12 s12 => if v12 = 0 then (some (some (.int (-1)), s12)) else m_bI (m_M x k_M_isOpen [.ref w, .int n1] s12) fun v20 s20 => if v20 = 0 then (some (some (.int (-1)), s20)) else m_bV (m_M x k_M_keep [.ref w] s20) fun s29 => m_bV (m_M x k_M_workNow [.ref w, .int n1, .int n2] s29) fun s35 => m_bI (m_M x k_M_get [.ref w, .int n1, .int 2] s35) fun v41 s41 => some (some (.int v41), s41)) else none := by
  refine e_M1 (L0 := [some (.ref w), some (.int n1), some (.int n2)]) rfl (by decide +kernel) rfl (q_M_work _) rfl ?_
  refine e_aload_n i_M_work_0 rfl ?_
  refine e_iload_n i_M_work_1 rfl ?_
  refine e_callI (as := [.ref w, .int n1]) (st' := []) i_M_work_2 lm_116 (Or.inr (Or.inl ⟨rfl, rfl⟩)) w_M_isGlove rfl rfl rfl (Nat.le_of_ble_eq_true rfl) (Nat.le_of_ble_eq_true rfl) (m_rlt (q_M_isGlove _) (by decide)) rfl (fun v2 s2 => ?_)
  refine e_ifeq (t := 26) i_M_work_5 (by decide) ?_ ?_
  · refine e_iconst (v := (-1)) i_M_work_26 (by decide) ?_
    exact e_iretI i_M_work_27 rfl
  · refine e_iload_n i_M_work_8 rfl ?_
    refine e_iconst (v := 1) i_M_work_9 (by decide) ?_
    refine e_bipush (v := 9) i_M_work_10 (by decide) ?_
    refine e_callI (as := [.int n2, .int 1, .int 9]) (st' := []) i_M_work_12 lm_96 (Or.inl ⟨rfl, rfl⟩) w_M_isIn rfl rfl rfl (Nat.le_of_ble_eq_true rfl) (Nat.le_of_ble_eq_true rfl) (m_rlt (q_M_isIn _) (by decide)) rfl (fun v12 s12 => ?_)
    refine e_ifeq (t := 26) i_M_work_15 (by decide) ?_ ?_
    · refine e_iconst (v := (-1)) i_M_work_26 (by decide) ?_
      exact e_iretI i_M_work_27 rfl
    · refine e_aload_n i_M_work_18 rfl ?_
      refine e_iload_n i_M_work_19 rfl ?_
      refine e_callI (as := [.ref w, .int n1]) (st' := []) i_M_work_20 lm_105 (Or.inr (Or.inl ⟨rfl, rfl⟩)) w_M_isOpen rfl rfl rfl (Nat.le_of_ble_eq_true rfl) (Nat.le_of_ble_eq_true rfl) (m_rlt (q_M_isOpen _) (by decide)) rfl (fun v20 s20 => ?_)
      refine e_ifne (t := 28) i_M_work_23 (by decide) ?_ ?_
      · refine e_aload_n i_M_work_28 rfl ?_
        refine e_callV (as := [.ref w]) (st' := []) i_M_work_29 lm_226 (Or.inr (Or.inl ⟨rfl, rfl⟩)) w_M_keep rfl rfl rfl (Nat.le_of_ble_eq_true rfl) (Nat.le_of_ble_eq_true rfl) (m_rlt (q_M_keep _) (by decide)) rfl (fun s29 => ?_)
        refine e_aload_n i_M_work_32 rfl ?_
        refine e_iload_n i_M_work_33 rfl ?_
        refine e_iload_n i_M_work_34 rfl ?_
        refine e_callV (as := [.ref w, .int n1, .int n2]) (st' := []) i_M_work_35 lm_231 (Or.inr (Or.inl ⟨rfl, rfl⟩)) w_M_workNow rfl rfl rfl (Nat.le_of_ble_eq_true rfl) (Nat.le_of_ble_eq_true rfl) (m_rlt (q_M_workNow _) (by decide)) rfl (fun s35 => ?_)
        refine e_aload_n i_M_work_38 rfl ?_
        refine e_iload_n i_M_work_39 rfl ?_
        refine e_iconst (v := 2) i_M_work_40 (by decide) ?_
        refine e_callI (as := [.ref w, .int n1, .int 2]) (st' := []) i_M_work_41 lm_106 (Or.inr (Or.inl ⟨rfl, rfl⟩)) w_M_get rfl rfl rfl (Nat.le_of_ble_eq_true rfl) (Nat.le_of_ble_eq_true rfl) (m_rlt (q_M_get _) (by decide)) rfl (fun v41 s41 => ?_)
        exact e_iretI i_M_work_44 rfl
      · refine e_iconst (v := (-1)) i_M_work_26 (by decide) ?_
        exact e_iretI i_M_work_27 rfl
theorem i_M_workNow_0 : m_at k_M_workNow 0 = some (.aload_n 0, 1, 0) := m_at_of r_M_workNow (by decide +kernel)
theorem i_M_workNow_1 : m_at k_M_workNow 1 = some (.iload_n 1, 1, 0) := m_at_of r_M_workNow (by decide +kernel)
theorem i_M_workNow_2 : m_at k_M_workNow 2 = some (.iconst 2, 1, 0) := m_at_of r_M_workNow (by decide +kernel)
theorem i_M_workNow_3 : m_at k_M_workNow 3 = some (.aload_n 0, 1, 0) := m_at_of r_M_workNow (by decide +kernel)
theorem i_M_workNow_4 : m_at k_M_workNow 4 = some (.iload_n 1, 1, 0) := m_at_of r_M_workNow (by decide +kernel)
theorem i_M_workNow_5 : m_at k_M_workNow 5 = some (.iconst 2, 1, 0) := m_at_of r_M_workNow (by decide +kernel)
theorem i_M_workNow_6 : m_at k_M_workNow 6 = some (.invokevirtual 85, 3, 106) := m_at_of r_M_workNow (by decide +kernel)
theorem i_M_workNow_9 : m_at k_M_workNow 9 = some (.iload_n 2, 1, 0) := m_at_of r_M_workNow (by decide +kernel)
theorem i_M_workNow_10 : m_at k_M_workNow 10 = some (.isub, 1, 0) := m_at_of r_M_workNow (by decide +kernel)
theorem i_M_workNow_11 : m_at k_M_workNow 11 = some (.i2l, 1, 0) := m_at_of r_M_workNow (by decide +kernel)
theorem i_M_workNow_12 : m_at k_M_workNow 12 = some (.iconst 0, 1, 0) := m_at_of r_M_workNow (by decide +kernel)
theorem i_M_workNow_13 : m_at k_M_workNow 13 = some (.bipush 99, 2, 0) := m_at_of r_M_workNow (by decide +kernel)
theorem i_M_workNow_15 : m_at k_M_workNow 15 = some (.invokestatic 310, 3, 273) := m_at_of r_M_workNow (by decide +kernel)
theorem i_M_workNow_18 : m_at k_M_workNow 18 = some (.invokevirtual 345, 3, 233) := m_at_of r_M_workNow (by decide +kernel)
theorem i_M_workNow_21 : m_at k_M_workNow 21 = some (.aload_n 0, 1, 0) := m_at_of r_M_workNow (by decide +kernel)
theorem i_M_workNow_22 : m_at k_M_workNow 22 = some (.iload_n 1, 1, 0) := m_at_of r_M_workNow (by decide +kernel)
theorem i_M_workNow_23 : m_at k_M_workNow 23 = some (.iconst 2, 1, 0) := m_at_of r_M_workNow (by decide +kernel)
theorem i_M_workNow_24 : m_at k_M_workNow 24 = some (.invokevirtual 85, 3, 106) := m_at_of r_M_workNow (by decide +kernel)
theorem i_M_workNow_27 : m_at k_M_workNow 27 = some (.ifCond .ne (11), 3, 0) := m_at_of r_M_workNow (by decide +kernel)
theorem i_M_workNow_30 : m_at k_M_workNow 30 = some (.aload_n 0, 1, 0) := m_at_of r_M_workNow (by decide +kernel)
theorem i_M_workNow_31 : m_at k_M_workNow 31 = some (.iload_n 1, 1, 0) := m_at_of r_M_workNow (by decide +kernel)
theorem i_M_workNow_32 : m_at k_M_workNow 32 = some (.bipush 6, 2, 0) := m_at_of r_M_workNow (by decide +kernel)
theorem i_M_workNow_34 : m_at k_M_workNow 34 = some (.iconst 1, 1, 0) := m_at_of r_M_workNow (by decide +kernel)
theorem i_M_workNow_35 : m_at k_M_workNow 35 = some (.invokevirtual 345, 3, 233) := m_at_of r_M_workNow (by decide +kernel)
theorem i_M_workNow_38 : m_at k_M_workNow 38 = some (.return_, 1, 0) := m_at_of r_M_workNow (by decide +kernel)
set_option maxRecDepth 20000 in
set_option maxHeartbeats 1000000 in
theorem E_M_workNow (x : m_X) (s : m_H) (w : Nat) (n1 : Int32) (n2 : Int32) : m_M x k_M_workNow [.ref w, .int n1, .int n2] s = if m_isO s w 11 = true then (m_bI (m_M x k_M_get [.ref w, .int n1, .int 2] s) fun v6 s6 => m_bI (m_M x k_M_cut [.long (v6 - n2).toInt64, .int 0, .int 99] s6) fun v15 s15 => m_bV (m_M x k_M_put [.ref w, .int n1, .int 2, .int v15] s15) fun s18 => m_bI (m_M x k_M_get [.ref w, .int n1, .int 2] s18) fun v24 s24 => if v24 = 0 then (m_bV (m_M x k_M_put [.ref w, .int n1, .int 6, .int 1] s24) fun s35 => some (none, s35)) else some (none, s24)) else none := by
  refine e_M1 (L0 := [some (.ref w), some (.int n1), some (.int n2)]) rfl (by decide +kernel) rfl (q_M_workNow _) rfl ?_
  refine e_aload_n i_M_workNow_0 rfl ?_
  refine e_iload_n i_M_workNow_1 rfl ?_
  refine e_iconst (v := 2) i_M_workNow_2 (by decide) ?_
  refine e_aload_n i_M_workNow_3 rfl ?_
  refine e_iload_n i_M_workNow_4 rfl ?_
  refine e_iconst (v := 2) i_M_workNow_5 (by decide) ?_
  refine e_callI (as := [.ref w, .int n1, .int 2]) (st' := [.int 2, .int n1, .ref w]) i_M_workNow_6 lm_106 (Or.inr (Or.inl ⟨rfl, rfl⟩)) w_M_get rfl rfl rfl (Nat.le_of_ble_eq_true rfl) (Nat.le_of_ble_eq_true rfl) (m_rlt (q_M_get _) (by decide)) rfl (fun v6 s6 => ?_)
  refine e_iload_n i_M_workNow_9 rfl ?_
  refine e_isub i_M_workNow_10 ?_
  refine e_i2l i_M_workNow_11 ?_
  refine e_iconst (v := 0) i_M_workNow_12 (by decide) ?_
  refine e_bipush (v := 99) i_M_workNow_13 (by decide) ?_
  refine e_callI (as := [.long (v6 - n2).toInt64, .int 0, .int 99]) (st' := [.int 2, .int n1, .ref w]) i_M_workNow_15 lm_273 (Or.inl ⟨rfl, rfl⟩) w_M_cut rfl rfl rfl (Nat.le_of_ble_eq_true rfl) (Nat.le_of_ble_eq_true rfl) (m_rlt (q_M_cut _) (by decide)) rfl (fun v15 s15 => ?_)
  refine e_callV (as := [.ref w, .int n1, .int 2, .int v15]) (st' := []) i_M_workNow_18 lm_233 (Or.inr (Or.inl ⟨rfl, rfl⟩)) w_M_put rfl rfl rfl (Nat.le_of_ble_eq_true rfl) (Nat.le_of_ble_eq_true rfl) (m_rlt (q_M_put _) (by decide)) rfl (fun s18 => ?_)
  refine e_aload_n i_M_workNow_21 rfl ?_
  refine e_iload_n i_M_workNow_22 rfl ?_
  refine e_iconst (v := 2) i_M_workNow_23 (by decide) ?_
  refine e_callI (as := [.ref w, .int n1, .int 2]) (st' := []) i_M_workNow_24 lm_106 (Or.inr (Or.inl ⟨rfl, rfl⟩)) w_M_get rfl rfl rfl (Nat.le_of_ble_eq_true rfl) (Nat.le_of_ble_eq_true rfl) (m_rlt (q_M_get _) (by decide)) rfl (fun v24 s24 => ?_)
  refine e_ifne (t := 38) i_M_workNow_27 (by decide) ?_ ?_
  · exact e_vret i_M_workNow_38 rfl
  · refine e_aload_n i_M_workNow_30 rfl ?_
    refine e_iload_n i_M_workNow_31 rfl ?_
    refine e_bipush (v := 6) i_M_workNow_32 (by decide) ?_
    refine e_iconst (v := 1) i_M_workNow_34 (by decide) ?_
    refine e_callV (as := [.ref w, .int n1, .int 6, .int 1]) (st' := []) i_M_workNow_35 lm_233 (Or.inr (Or.inl ⟨rfl, rfl⟩)) w_M_put rfl rfl rfl (Nat.le_of_ble_eq_true rfl) (Nat.le_of_ble_eq_true rfl) (m_rlt (q_M_put _) (by decide)) rfl (fun s35 => ?_)
    exact e_vret i_M_workNow_38 rfl
theorem i_M_cut_0 : m_at k_M_cut 0 = some (.lload_n 0, 1, 0) := m_at_of r_M_cut (by decide +kernel)
theorem i_M_cut_1 : m_at k_M_cut 1 = some (.iload_n 2, 1, 0) := m_at_of r_M_cut (by decide +kernel)
theorem i_M_cut_2 : m_at k_M_cut 2 = some (.i2l, 1, 0) := m_at_of r_M_cut (by decide +kernel)
theorem i_M_cut_3 : m_at k_M_cut 3 = some (.lcmp, 1, 0) := m_at_of r_M_cut (by decide +kernel)
theorem i_M_cut_4 : m_at k_M_cut 4 = some (.ifCond .ge (7), 3, 0) := m_at_of r_M_cut (by decide +kernel)
theorem i_M_cut_7 : m_at k_M_cut 7 = some (.iload_n 2, 1, 0) := m_at_of r_M_cut (by decide +kernel)
theorem i_M_cut_8 : m_at k_M_cut 8 = some (.goto (16), 3, 0) := m_at_of r_M_cut (by decide +kernel)
theorem i_M_cut_11 : m_at k_M_cut 11 = some (.lload_n 0, 1, 0) := m_at_of r_M_cut (by decide +kernel)
theorem i_M_cut_12 : m_at k_M_cut 12 = some (.iload_n 3, 1, 0) := m_at_of r_M_cut (by decide +kernel)
theorem i_M_cut_13 : m_at k_M_cut 13 = some (.i2l, 1, 0) := m_at_of r_M_cut (by decide +kernel)
theorem i_M_cut_14 : m_at k_M_cut 14 = some (.lcmp, 1, 0) := m_at_of r_M_cut (by decide +kernel)
theorem i_M_cut_15 : m_at k_M_cut 15 = some (.ifCond .le (7), 3, 0) := m_at_of r_M_cut (by decide +kernel)
theorem i_M_cut_18 : m_at k_M_cut 18 = some (.iload_n 3, 1, 0) := m_at_of r_M_cut (by decide +kernel)
theorem i_M_cut_19 : m_at k_M_cut 19 = some (.goto (5), 3, 0) := m_at_of r_M_cut (by decide +kernel)
theorem i_M_cut_22 : m_at k_M_cut 22 = some (.lload_n 0, 1, 0) := m_at_of r_M_cut (by decide +kernel)
theorem i_M_cut_23 : m_at k_M_cut 23 = some (.l2i, 1, 0) := m_at_of r_M_cut (by decide +kernel)
theorem i_M_cut_24 : m_at k_M_cut 24 = some (.ireturn, 1, 0) := m_at_of r_M_cut (by decide +kernel)
set_option maxRecDepth 20000 in
set_option maxHeartbeats 1000000 in
theorem E_M_cut (x : m_X) (s : m_H) (l0 : Int64) (n2 : Int32) (n3 : Int32) : m_M x k_M_cut [.long l0, .int n2, .int n3] s = if n2.toInt64 ≤ l0 then (if l0 ≤ n3.toInt64 then (some (some (.int l0.toInt32), s)) else some (some (.int n3), s)) else some (some (.int n2), s) := by
  refine e_M0 (L0 := [some (.long l0), none, some (.int n2), some (.int n3)]) rfl (q_M_cut _) rfl ?_
  refine e_lload_n i_M_cut_0 rfl ?_
  refine e_iload_n i_M_cut_1 rfl ?_
  refine e_i2l i_M_cut_2 ?_
  refine e_lcmpge (t := 11) i_M_cut_3 i_M_cut_4 (by decide) ?_ ?_
  · refine e_lload_n i_M_cut_11 rfl ?_
    refine e_iload_n i_M_cut_12 rfl ?_
    refine e_i2l i_M_cut_13 ?_
    refine e_lcmple (t := 22) i_M_cut_14 i_M_cut_15 (by decide) ?_ ?_
    · refine e_lload_n i_M_cut_22 rfl ?_
      refine e_l2i i_M_cut_23 ?_
      exact e_iretI i_M_cut_24 rfl
    · refine e_iload_n i_M_cut_18 rfl ?_
      refine e_goto (t := 24) i_M_cut_19 (by decide) ?_
      exact e_iretI i_M_cut_24 rfl
  · refine e_iload_n i_M_cut_7 rfl ?_
    refine e_goto (t := 24) i_M_cut_8 (by decide) ?_
    exact e_iretI i_M_cut_24 rfl
theorem i_M_isOpen_0 : m_at k_M_isOpen 0 = some (.aload_n 0, 1, 0) := m_at_of r_M_isOpen (by decide +kernel)
theorem i_M_isOpen_1 : m_at k_M_isOpen 1 = some (.iload_n 1, 1, 0) := m_at_of r_M_isOpen (by decide +kernel)
theorem i_M_isOpen_2 : m_at k_M_isOpen 2 = some (.bipush 6, 2, 0) := m_at_of r_M_isOpen (by decide +kernel)
theorem i_M_isOpen_4 : m_at k_M_isOpen 4 = some (.invokevirtual 85, 3, 106) := m_at_of r_M_isOpen (by decide +kernel)
theorem i_M_isOpen_7 : m_at k_M_isOpen 7 = some (.ifCond .eq (14), 3, 0) := m_at_of r_M_isOpen (by decide +kernel)
theorem i_M_isOpen_10 : m_at k_M_isOpen 10 = some (.aload_n 0, 1, 0) := m_at_of r_M_isOpen (by decide +kernel)
theorem i_M_isOpen_11 : m_at k_M_isOpen 11 = some (.iload_n 1, 1, 0) := m_at_of r_M_isOpen (by decide +kernel)
theorem i_M_isOpen_12 : m_at k_M_isOpen 12 = some (.bipush 6, 2, 0) := m_at_of r_M_isOpen (by decide +kernel)
theorem i_M_isOpen_14 : m_at k_M_isOpen 14 = some (.invokevirtual 85, 3, 106) := m_at_of r_M_isOpen (by decide +kernel)
theorem i_M_isOpen_17 : m_at k_M_isOpen 17 = some (.iconst 3, 1, 0) := m_at_of r_M_isOpen (by decide +kernel)
theorem i_M_isOpen_18 : m_at k_M_isOpen 18 = some (.if_icmp .ne (7), 3, 0) := m_at_of r_M_isOpen (by decide +kernel)
theorem i_M_isOpen_21 : m_at k_M_isOpen 21 = some (.iconst 1, 1, 0) := m_at_of r_M_isOpen (by decide +kernel)
theorem i_M_isOpen_22 : m_at k_M_isOpen 22 = some (.goto (4), 3, 0) := m_at_of r_M_isOpen (by decide +kernel)
theorem i_M_isOpen_25 : m_at k_M_isOpen 25 = some (.iconst 0, 1, 0) := m_at_of r_M_isOpen (by decide +kernel)
theorem i_M_isOpen_26 : m_at k_M_isOpen 26 = some (.ireturn, 1, 0) := m_at_of r_M_isOpen (by decide +kernel)
set_option maxRecDepth 20000 in
set_option maxHeartbeats 1000000 in
theorem E_M_isOpen (x : m_X) (s : m_H) (w : Nat) (n1 : Int32) : m_M x k_M_isOpen [.ref w, .int n1] s = if m_isO s w 11 = true then (m_bI (m_M x k_M_get [.ref w, .int n1, .int 6] s) fun v4 s4 => if v4 = 0 then (some (some (.int 1), s4)) else m_bI (m_M x k_M_get [.ref w, .int n1, .int 6] s4) fun v14 s14 => if v14 = 3 then (some (some (.int 1), s14)) else some (some (.int 0), s14)) else none := by
  refine e_M1 (L0 := [some (.ref w), some (.int n1)]) rfl (by decide +kernel) rfl (q_M_isOpen _) rfl ?_
  refine e_aload_n i_M_isOpen_0 rfl ?_
  refine e_iload_n i_M_isOpen_1 rfl ?_
  refine e_bipush (v := 6) i_M_isOpen_2 (by decide) ?_
  refine e_callI (as := [.ref w, .int n1, .int 6]) (st' := []) i_M_isOpen_4 lm_106 (Or.inr (Or.inl ⟨rfl, rfl⟩)) w_M_get rfl rfl rfl (Nat.le_of_ble_eq_true rfl) (Nat.le_of_ble_eq_true rfl) (m_rlt (q_M_get _) (by decide)) rfl (fun v4 s4 => ?_)
  refine e_ifeq (t := 21) i_M_isOpen_7 (by decide) ?_ ?_
  · refine e_iconst (v := 1) i_M_isOpen_21 (by decide) ?_
    refine e_goto (t := 26) i_M_isOpen_22 (by decide) ?_
    exact e_iretZ i_M_isOpen_26 rfl (by decide)
  · refine e_aload_n i_M_isOpen_10 rfl ?_
    refine e_iload_n i_M_isOpen_11 rfl ?_
    refine e_bipush (v := 6) i_M_isOpen_12 (by decide) ?_
    refine e_callI (as := [.ref w, .int n1, .int 6]) (st' := []) i_M_isOpen_14 lm_106 (Or.inr (Or.inl ⟨rfl, rfl⟩)) w_M_get rfl rfl rfl (Nat.le_of_ble_eq_true rfl) (Nat.le_of_ble_eq_true rfl) (m_rlt (q_M_get _) (by decide)) rfl (fun v14 s14 => ?_)
    refine e_iconst (v := 3) i_M_isOpen_17 (by decide) ?_
    refine e_icmpne (t := 25) i_M_isOpen_18 (by decide) ?_ ?_
    · refine e_iconst (v := 0) i_M_isOpen_25 (by decide) ?_
      exact e_iretZ i_M_isOpen_26 rfl (by decide)
    · refine e_iconst (v := 1) i_M_isOpen_21 (by decide) ?_
      refine e_goto (t := 26) i_M_isOpen_22 (by decide) ?_
      exact e_iretZ i_M_isOpen_26 rfl (by decide)
theorem i_M_get_0 : m_at k_M_get 0 = some (.aload_n 0, 1, 0) := m_at_of r_M_get (by decide +kernel)
theorem i_M_get_1 : m_at k_M_get 1 = some (.getfield 7, 3, 0) := m_at_of r_M_get (by decide +kernel)
theorem i_M_get_4 : m_at k_M_get 4 = some (.bipush 27, 2, 0) := m_at_of r_M_get (by decide +kernel)
theorem i_M_get_6 : m_at k_M_get 6 = some (.bipush 7, 2, 0) := m_at_of r_M_get (by decide +kernel)
theorem i_M_get_8 : m_at k_M_get 8 = some (.iload_n 1, 1, 0) := m_at_of r_M_get (by decide +kernel)
theorem i_M_get_9 : m_at k_M_get 9 = some (.imul, 1, 0) := m_at_of r_M_get (by decide +kernel)
theorem i_M_get_10 : m_at k_M_get 10 = some (.iadd, 1, 0) := m_at_of r_M_get (by decide +kernel)
theorem i_M_get_11 : m_at k_M_get 11 = some (.iload_n 2, 1, 0) := m_at_of r_M_get (by decide +kernel)
theorem i_M_get_12 : m_at k_M_get 12 = some (.iadd, 1, 0) := m_at_of r_M_get (by decide +kernel)
theorem i_M_get_13 : m_at k_M_get 13 = some (.iaload, 1, 0) := m_at_of r_M_get (by decide +kernel)
theorem i_M_get_14 : m_at k_M_get 14 = some (.ireturn, 1, 0) := m_at_of r_M_get (by decide +kernel)
set_option maxRecDepth 20000 in
set_option maxHeartbeats 1000000 in
theorem E_M_get (x : m_X) (s : m_H) (w : Nat) (n1 : Int32) (n2 : Int32) : m_M x k_M_get [.ref w, .int n1, .int n2] s = if m_isO s w 11 = true then ((m_fR s 11 0 w).bind fun v1 => (m_ia x s v1 (((27 : Int32) + ((7 : Int32) * n1)) + n2)).bind fun v13 => some (some (.int v13), s)) else none := by
  refine e_M1 (L0 := [some (.ref w), some (.int n1), some (.int n2)]) rfl (by decide +kernel) rfl (q_M_get _) rfl ?_
  refine e_aload_n i_M_get_0 rfl ?_
  refine e_getR i_M_get_1 lf_0 (by decide) ft_11_0 (fun v1 => ?_)
  refine e_bipush (v := 27) i_M_get_4 (by decide) ?_
  refine e_bipush (v := 7) i_M_get_6 (by decide) ?_
  refine e_iload_n i_M_get_8 rfl ?_
  refine e_imul i_M_get_9 ?_
  refine e_iadd i_M_get_10 ?_
  refine e_iload_n i_M_get_11 rfl ?_
  refine e_iadd i_M_get_12 ?_
  refine e_iald i_M_get_13 (fun v13 => ?_)
  exact e_iretI i_M_get_14 rfl
theorem i_M_isGlove_0 : m_at k_M_isGlove 0 = some (.iload_n 1, 1, 0) := m_at_of r_M_isGlove (by decide +kernel)
theorem i_M_isGlove_1 : m_at k_M_isGlove 1 = some (.iconst 0, 1, 0) := m_at_of r_M_isGlove (by decide +kernel)
theorem i_M_isGlove_2 : m_at k_M_isGlove 2 = some (.aload_n 0, 1, 0) := m_at_of r_M_isGlove (by decide +kernel)
theorem i_M_isGlove_3 : m_at k_M_isGlove 3 = some (.getfield 7, 3, 0) := m_at_of r_M_isGlove (by decide +kernel)
theorem i_M_isGlove_6 : m_at k_M_isGlove 6 = some (.bipush 11, 2, 0) := m_at_of r_M_isGlove (by decide +kernel)
theorem i_M_isGlove_8 : m_at k_M_isGlove 8 = some (.iaload, 1, 0) := m_at_of r_M_isGlove (by decide +kernel)
theorem i_M_isGlove_9 : m_at k_M_isGlove 9 = some (.iconst 1, 1, 0) := m_at_of r_M_isGlove (by decide +kernel)
theorem i_M_isGlove_10 : m_at k_M_isGlove 10 = some (.isub, 1, 0) := m_at_of r_M_isGlove (by decide +kernel)
theorem i_M_isGlove_11 : m_at k_M_isGlove 11 = some (.invokestatic 81, 3, 96) := m_at_of r_M_isGlove (by decide +kernel)
theorem i_M_isGlove_14 : m_at k_M_isGlove 14 = some (.ireturn, 1, 0) := m_at_of r_M_isGlove (by decide +kernel)
set_option maxRecDepth 20000 in
set_option maxHeartbeats 1000000 in
theorem E_M_isGlove (x : m_X) (s : m_H) (w : Nat) (n1 : Int32) : m_M x k_M_isGlove [.ref w, .int n1] s = if m_isO s w 11 = true then ((m_fR s 11 0 w).bind fun v3 => (m_ia x s v3 11).bind fun v8 => m_bI (m_M x k_M_isIn [.int n1, .int 0, .int (v8 - (1 : Int32))] s) fun v11 s11 => if m_rk (some .boolean) (some (.int v11)) = true then some (some (.int v11), s11) else none) else none := by
  refine e_M1 (L0 := [some (.ref w), some (.int n1)]) rfl (by decide +kernel) rfl (q_M_isGlove _) rfl ?_
  refine e_iload_n i_M_isGlove_0 rfl ?_
  refine e_iconst (v := 0) i_M_isGlove_1 (by decide) ?_
  refine e_aload_n i_M_isGlove_2 rfl ?_
  refine e_getR i_M_isGlove_3 lf_0 (by decide) ft_11_0 (fun v3 => ?_)
  refine e_bipush (v := 11) i_M_isGlove_6 (by decide) ?_
  refine e_iald i_M_isGlove_8 (fun v8 => ?_)
  refine e_iconst (v := 1) i_M_isGlove_9 (by decide) ?_
  refine e_isub i_M_isGlove_10 ?_
  refine e_callI (as := [.int n1, .int 0, .int (v8 - (1 : Int32))]) (st' := []) i_M_isGlove_11 lm_96 (Or.inl ⟨rfl, rfl⟩) w_M_isIn rfl rfl rfl (Nat.le_of_ble_eq_true rfl) (Nat.le_of_ble_eq_true rfl) (m_rlt (q_M_isIn _) (by decide)) rfl (fun v11 s11 => ?_)
  exact e_iretG i_M_isGlove_14 rfl
theorem i_M_bargain_0 : m_at k_M_bargain 0 = some (.iload_n 3, 1, 0) := m_at_of r_M_bargain (by decide +kernel)
theorem i_M_bargain_1 : m_at k_M_bargain 1 = some (.iconst 1, 1, 0) := m_at_of r_M_bargain (by decide +kernel)
theorem i_M_bargain_2 : m_at k_M_bargain 2 = some (.bipush 99, 2, 0) := m_at_of r_M_bargain (by decide +kernel)
theorem i_M_bargain_4 : m_at k_M_bargain 4 = some (.invokestatic 81, 3, 96) := m_at_of r_M_bargain (by decide +kernel)
theorem i_M_bargain_7 : m_at k_M_bargain 7 = some (.ifCond .eq (33), 3, 0) := m_at_of r_M_bargain (by decide +kernel)
theorem i_M_bargain_10 : m_at k_M_bargain 10 = some (.iload 4, 2, 0) := m_at_of r_M_bargain (by decide +kernel)
theorem i_M_bargain_12 : m_at k_M_bargain 12 = some (.iconst 0, 1, 0) := m_at_of r_M_bargain (by decide +kernel)
theorem i_M_bargain_13 : m_at k_M_bargain 13 = some (.iconst 2, 1, 0) := m_at_of r_M_bargain (by decide +kernel)
theorem i_M_bargain_14 : m_at k_M_bargain 14 = some (.invokestatic 81, 3, 96) := m_at_of r_M_bargain (by decide +kernel)
theorem i_M_bargain_17 : m_at k_M_bargain 17 = some (.ifCond .eq (23), 3, 0) := m_at_of r_M_bargain (by decide +kernel)
theorem i_M_bargain_20 : m_at k_M_bargain 20 = some (.iload 5, 2, 0) := m_at_of r_M_bargain (by decide +kernel)
theorem i_M_bargain_22 : m_at k_M_bargain 22 = some (.iconst 0, 1, 0) := m_at_of r_M_bargain (by decide +kernel)
theorem i_M_bargain_23 : m_at k_M_bargain 23 = some (.bipush 9, 2, 0) := m_at_of r_M_bargain (by decide +kernel)
theorem i_M_bargain_25 : m_at k_M_bargain 25 = some (.invokestatic 81, 3, 96) := m_at_of r_M_bargain (by decide +kernel)
theorem i_M_bargain_28 : m_at k_M_bargain 28 = some (.ifCond .eq (12), 3, 0) := m_at_of r_M_bargain (by decide +kernel)
theorem i_M_bargain_31 : m_at k_M_bargain 31 = some (.aload_n 0, 1, 0) := m_at_of r_M_bargain (by decide +kernel)
theorem i_M_bargain_32 : m_at k_M_bargain 32 = some (.iload_n 1, 1, 0) := m_at_of r_M_bargain (by decide +kernel)
theorem i_M_bargain_33 : m_at k_M_bargain 33 = some (.iload_n 2, 1, 0) := m_at_of r_M_bargain (by decide +kernel)
theorem i_M_bargain_34 : m_at k_M_bargain 34 = some (.invokevirtual 355, 3, 229) := m_at_of r_M_bargain (by decide +kernel)
theorem i_M_bargain_37 : m_at k_M_bargain 37 = some (.ifCond .ne (5), 3, 0) := m_at_of r_M_bargain (by decide +kernel)
theorem i_M_bargain_40 : m_at k_M_bargain 40 = some (.iconst (-1), 1, 0) := m_at_of r_M_bargain (by decide +kernel)
theorem i_M_bargain_41 : m_at k_M_bargain 41 = some (.ireturn, 1, 0) := m_at_of r_M_bargain (by decide +kernel)
theorem i_M_bargain_42 : m_at k_M_bargain 42 = some (.aload_n 0, 1, 0) := m_at_of r_M_bargain (by decide +kernel)
theorem i_M_bargain_43 : m_at k_M_bargain 43 = some (.invokevirtual 358, 3, 226) := m_at_of r_M_bargain (by decide +kernel)
theorem i_M_bargain_46 : m_at k_M_bargain 46 = some (.aload_n 0, 1, 0) := m_at_of r_M_bargain (by decide +kernel)
theorem i_M_bargain_47 : m_at k_M_bargain 47 = some (.iload_n 1, 1, 0) := m_at_of r_M_bargain (by decide +kernel)
theorem i_M_bargain_48 : m_at k_M_bargain 48 = some (.iload_n 2, 1, 0) := m_at_of r_M_bargain (by decide +kernel)
theorem i_M_bargain_49 : m_at k_M_bargain 49 = some (.iload_n 3, 1, 0) := m_at_of r_M_bargain (by decide +kernel)
theorem i_M_bargain_50 : m_at k_M_bargain 50 = some (.iload 4, 2, 0) := m_at_of r_M_bargain (by decide +kernel)
theorem i_M_bargain_52 : m_at k_M_bargain 52 = some (.iload 5, 2, 0) := m_at_of r_M_bargain (by decide +kernel)
theorem i_M_bargain_54 : m_at k_M_bargain 54 = some (.invokevirtual 361, 3, 230) := m_at_of r_M_bargain (by decide +kernel)
theorem i_M_bargain_57 : m_at k_M_bargain 57 = some (.ireturn, 1, 0) := m_at_of r_M_bargain (by decide +kernel)
set_option maxRecDepth 20000 in
set_option maxHeartbeats 1000000 in
theorem E_M_bargain (x : m_X) (s : m_H) (w : Nat) (n1 : Int32) (n2 : Int32) (n3 : Int32) (n4 : Int32) (n5 : Int32) : m_M x k_M_bargain [.ref w, .int n1, .int n2, .int n3, .int n4, .int n5] s = if m_isO s w 11 = true then (m_bI (m_M x k_M_isIn [.int n3, .int 1, .int 99] s) fun v4 s4 => if v4 = 0 then (some (some (.int (-1)), s4)) else m_bI (m_M x k_M_isIn [.int n4, .int 0, .int 2] s4) fun v14 s14 => if v14 = 0 then (some (some (.int (-1)), s14)) else m_bI (m_M x k_M_isIn [.int n5, .int 0, .int 9] s14) fun v25 s25 => if v25 = 0 then (some (some (.int (-1)), s25)) else m_bI (m_M x k_M_canBargain [.ref w, .int n1, .int n2] s25) fun v34 s34 => if v34 = 0 then (some (some (.int (-1)), s34)) else m_bV (m_M x k_M_keep [.ref w] s34) fun s43 => m_bI (m_M x k_M_bargainNow [.ref w, .int n1, .int n2, .int n3, .int n4, .int n5] s43) fun v54 s54 => some (some (.int v54), s54)) else none := by
  refine e_M1 (L0 := [some (.ref w), some (.int n1), some (.int n2), some (.int n3), some (.int n4), some (.int n5)]) rfl (by decide +kernel) rfl (q_M_bargain _) rfl ?_
  refine e_iload_n i_M_bargain_0 rfl ?_
  refine e_iconst (v := 1) i_M_bargain_1 (by decide) ?_
  refine e_bipush (v := 99) i_M_bargain_2 (by decide) ?_
  refine e_callI (as := [.int n3, .int 1, .int 99]) (st' := []) i_M_bargain_4 lm_96 (Or.inl ⟨rfl, rfl⟩) w_M_isIn rfl rfl rfl (Nat.le_of_ble_eq_true rfl) (Nat.le_of_ble_eq_true rfl) (m_rlt (q_M_isIn _) (by decide)) rfl (fun v4 s4 => ?_)
  refine e_ifeq (t := 40) i_M_bargain_7 (by decide) ?_ ?_
  · refine e_iconst (v := (-1)) i_M_bargain_40 (by decide) ?_
    exact e_iretI i_M_bargain_41 rfl
  · refine e_iload i_M_bargain_10 rfl ?_
    refine e_iconst (v := 0) i_M_bargain_12 (by decide) ?_
    refine e_iconst (v := 2) i_M_bargain_13 (by decide) ?_
    refine e_callI (as := [.int n4, .int 0, .int 2]) (st' := []) i_M_bargain_14 lm_96 (Or.inl ⟨rfl, rfl⟩) w_M_isIn rfl rfl rfl (Nat.le_of_ble_eq_true rfl) (Nat.le_of_ble_eq_true rfl) (m_rlt (q_M_isIn _) (by decide)) rfl (fun v14 s14 => ?_)
    refine e_ifeq (t := 40) i_M_bargain_17 (by decide) ?_ ?_
    · refine e_iconst (v := (-1)) i_M_bargain_40 (by decide) ?_
      exact e_iretI i_M_bargain_41 rfl
    · refine e_iload i_M_bargain_20 rfl ?_
      refine e_iconst (v := 0) i_M_bargain_22 (by decide) ?_
      refine e_bipush (v := 9) i_M_bargain_23 (by decide) ?_
      refine e_callI (as := [.int n5, .int 0, .int 9]) (st' := []) i_M_bargain_25 lm_96 (Or.inl ⟨rfl, rfl⟩) w_M_isIn rfl rfl rfl (Nat.le_of_ble_eq_true rfl) (Nat.le_of_ble_eq_true rfl) (m_rlt (q_M_isIn _) (by decide)) rfl (fun v25 s25 => ?_)
      refine e_ifeq (t := 40) i_M_bargain_28 (by decide) ?_ ?_
      · refine e_iconst (v := (-1)) i_M_bargain_40 (by decide) ?_
        exact e_iretI i_M_bargain_41 rfl
      · refine e_aload_n i_M_bargain_31 rfl ?_
        refine e_iload_n i_M_bargain_32 rfl ?_
        refine e_iload_n i_M_bargain_33 rfl ?_
        refine e_callI (as := [.ref w, .int n1, .int n2]) (st' := []) i_M_bargain_34 lm_229 (Or.inr (Or.inl ⟨rfl, rfl⟩)) w_M_canBargain rfl rfl rfl (Nat.le_of_ble_eq_true rfl) (Nat.le_of_ble_eq_true rfl) (m_rlt (q_M_canBargain _) (by decide)) rfl (fun v34 s34 => ?_)
        refine e_ifne (t := 42) i_M_bargain_37 (by decide) ?_ ?_
        · refine e_aload_n i_M_bargain_42 rfl ?_
          refine e_callV (as := [.ref w]) (st' := []) i_M_bargain_43 lm_226 (Or.inr (Or.inl ⟨rfl, rfl⟩)) w_M_keep rfl rfl rfl (Nat.le_of_ble_eq_true rfl) (Nat.le_of_ble_eq_true rfl) (m_rlt (q_M_keep _) (by decide)) rfl (fun s43 => ?_)
          refine e_aload_n i_M_bargain_46 rfl ?_
          refine e_iload_n i_M_bargain_47 rfl ?_
          refine e_iload_n i_M_bargain_48 rfl ?_
          refine e_iload_n i_M_bargain_49 rfl ?_
          refine e_iload i_M_bargain_50 rfl ?_
          refine e_iload i_M_bargain_52 rfl ?_
          refine e_callI (as := [.ref w, .int n1, .int n2, .int n3, .int n4, .int n5]) (st' := []) i_M_bargain_54 lm_230 (Or.inr (Or.inl ⟨rfl, rfl⟩)) w_M_bargainNow rfl rfl rfl (Nat.le_of_ble_eq_true rfl) (Nat.le_of_ble_eq_true rfl) (m_rlt (q_M_bargainNow _) (by decide)) rfl (fun v54 s54 => ?_)
          exact e_iretI i_M_bargain_57 rfl
        · refine e_iconst (v := (-1)) i_M_bargain_40 (by decide) ?_
          exact e_iretI i_M_bargain_41 rfl
theorem i_M_bargainNow_0 : m_at k_M_bargainNow 0 = some (.aload_n 0, 1, 0) := m_at_of r_M_bargainNow (by decide +kernel)
theorem i_M_bargainNow_1 : m_at k_M_bargainNow 1 = some (.getfield 7, 3, 0) := m_at_of r_M_bargainNow (by decide +kernel)
theorem i_M_bargainNow_4 : m_at k_M_bargainNow 4 = some (.bipush 11, 2, 0) := m_at_of r_M_bargainNow (by decide +kernel)
theorem i_M_bargainNow_6 : m_at k_M_bargainNow 6 = some (.iaload, 1, 0) := m_at_of r_M_bargainNow (by decide +kernel)
theorem i_M_bargainNow_7 : m_at k_M_bargainNow 7 = some (.istore 6, 2, 0) := m_at_of r_M_bargainNow (by decide +kernel)
theorem i_M_bargainNow_9 : m_at k_M_bargainNow 9 = some (.aload_n 0, 1, 0) := m_at_of r_M_bargainNow (by decide +kernel)
theorem i_M_bargainNow_10 : m_at k_M_bargainNow 10 = some (.iload 6, 2, 0) := m_at_of r_M_bargainNow (by decide +kernel)
theorem i_M_bargainNow_12 : m_at k_M_bargainNow 12 = some (.iconst 0, 1, 0) := m_at_of r_M_bargainNow (by decide +kernel)
theorem i_M_bargainNow_13 : m_at k_M_bargainNow 13 = some (.iload_n 1, 1, 0) := m_at_of r_M_bargainNow (by decide +kernel)
theorem i_M_bargainNow_14 : m_at k_M_bargainNow 14 = some (.invokevirtual 345, 3, 233) := m_at_of r_M_bargainNow (by decide +kernel)
theorem i_M_bargainNow_17 : m_at k_M_bargainNow 17 = some (.aload_n 0, 1, 0) := m_at_of r_M_bargainNow (by decide +kernel)
theorem i_M_bargainNow_18 : m_at k_M_bargainNow 18 = some (.iload 6, 2, 0) := m_at_of r_M_bargainNow (by decide +kernel)
theorem i_M_bargainNow_20 : m_at k_M_bargainNow 20 = some (.iconst 1, 1, 0) := m_at_of r_M_bargainNow (by decide +kernel)
theorem i_M_bargainNow_21 : m_at k_M_bargainNow 21 = some (.iload_n 2, 1, 0) := m_at_of r_M_bargainNow (by decide +kernel)
theorem i_M_bargainNow_22 : m_at k_M_bargainNow 22 = some (.invokevirtual 345, 3, 233) := m_at_of r_M_bargainNow (by decide +kernel)
theorem i_M_bargainNow_25 : m_at k_M_bargainNow 25 = some (.aload_n 0, 1, 0) := m_at_of r_M_bargainNow (by decide +kernel)
theorem i_M_bargainNow_26 : m_at k_M_bargainNow 26 = some (.iload 6, 2, 0) := m_at_of r_M_bargainNow (by decide +kernel)
theorem i_M_bargainNow_28 : m_at k_M_bargainNow 28 = some (.iconst 2, 1, 0) := m_at_of r_M_bargainNow (by decide +kernel)
theorem i_M_bargainNow_29 : m_at k_M_bargainNow 29 = some (.iload_n 3, 1, 0) := m_at_of r_M_bargainNow (by decide +kernel)
theorem i_M_bargainNow_30 : m_at k_M_bargainNow 30 = some (.invokevirtual 345, 3, 233) := m_at_of r_M_bargainNow (by decide +kernel)
theorem i_M_bargainNow_33 : m_at k_M_bargainNow 33 = some (.aload_n 0, 1, 0) := m_at_of r_M_bargainNow (by decide +kernel)
theorem i_M_bargainNow_34 : m_at k_M_bargainNow 34 = some (.iload 6, 2, 0) := m_at_of r_M_bargainNow (by decide +kernel)
theorem i_M_bargainNow_36 : m_at k_M_bargainNow 36 = some (.iconst 3, 1, 0) := m_at_of r_M_bargainNow (by decide +kernel)
theorem i_M_bargainNow_37 : m_at k_M_bargainNow 37 = some (.iload 4, 2, 0) := m_at_of r_M_bargainNow (by decide +kernel)
theorem i_M_bargainNow_39 : m_at k_M_bargainNow 39 = some (.invokevirtual 345, 3, 233) := m_at_of r_M_bargainNow (by decide +kernel)
theorem i_M_bargainNow_42 : m_at k_M_bargainNow 42 = some (.aload_n 0, 1, 0) := m_at_of r_M_bargainNow (by decide +kernel)
theorem i_M_bargainNow_43 : m_at k_M_bargainNow 43 = some (.iload 6, 2, 0) := m_at_of r_M_bargainNow (by decide +kernel)
theorem i_M_bargainNow_45 : m_at k_M_bargainNow 45 = some (.iconst 4, 1, 0) := m_at_of r_M_bargainNow (by decide +kernel)
theorem i_M_bargainNow_46 : m_at k_M_bargainNow 46 = some (.iload 5, 2, 0) := m_at_of r_M_bargainNow (by decide +kernel)
theorem i_M_bargainNow_48 : m_at k_M_bargainNow 48 = some (.invokevirtual 345, 3, 233) := m_at_of r_M_bargainNow (by decide +kernel)
theorem i_M_bargainNow_51 : m_at k_M_bargainNow 51 = some (.aload_n 0, 1, 0) := m_at_of r_M_bargainNow (by decide +kernel)
theorem i_M_bargainNow_52 : m_at k_M_bargainNow 52 = some (.iload 6, 2, 0) := m_at_of r_M_bargainNow (by decide +kernel)
theorem i_M_bargainNow_54 : m_at k_M_bargainNow 54 = some (.iconst 5, 1, 0) := m_at_of r_M_bargainNow (by decide +kernel)
theorem i_M_bargainNow_55 : m_at k_M_bargainNow 55 = some (.aload_n 0, 1, 0) := m_at_of r_M_bargainNow (by decide +kernel)
theorem i_M_bargainNow_56 : m_at k_M_bargainNow 56 = some (.getfield 7, 3, 0) := m_at_of r_M_bargainNow (by decide +kernel)
theorem i_M_bargainNow_59 : m_at k_M_bargainNow 59 = some (.bipush 112, 2, 0) := m_at_of r_M_bargainNow (by decide +kernel)
theorem i_M_bargainNow_61 : m_at k_M_bargainNow 61 = some (.iload_n 1, 1, 0) := m_at_of r_M_bargainNow (by decide +kernel)
theorem i_M_bargainNow_62 : m_at k_M_bargainNow 62 = some (.iadd, 1, 0) := m_at_of r_M_bargainNow (by decide +kernel)
theorem i_M_bargainNow_63 : m_at k_M_bargainNow 63 = some (.iaload, 1, 0) := m_at_of r_M_bargainNow (by decide +kernel)
theorem i_M_bargainNow_64 : m_at k_M_bargainNow 64 = some (.invokevirtual 345, 3, 233) := m_at_of r_M_bargainNow (by decide +kernel)
theorem i_M_bargainNow_67 : m_at k_M_bargainNow 67 = some (.aload_n 0, 1, 0) := m_at_of r_M_bargainNow (by decide +kernel)
theorem i_M_bargainNow_68 : m_at k_M_bargainNow 68 = some (.iload 6, 2, 0) := m_at_of r_M_bargainNow (by decide +kernel)
theorem i_M_bargainNow_70 : m_at k_M_bargainNow 70 = some (.bipush 6, 2, 0) := m_at_of r_M_bargainNow (by decide +kernel)
theorem i_M_bargainNow_72 : m_at k_M_bargainNow 72 = some (.iconst 0, 1, 0) := m_at_of r_M_bargainNow (by decide +kernel)
theorem i_M_bargainNow_73 : m_at k_M_bargainNow 73 = some (.invokevirtual 345, 3, 233) := m_at_of r_M_bargainNow (by decide +kernel)
theorem i_M_bargainNow_76 : m_at k_M_bargainNow 76 = some (.aload_n 0, 1, 0) := m_at_of r_M_bargainNow (by decide +kernel)
theorem i_M_bargainNow_77 : m_at k_M_bargainNow 77 = some (.getfield 7, 3, 0) := m_at_of r_M_bargainNow (by decide +kernel)
theorem i_M_bargainNow_80 : m_at k_M_bargainNow 80 = some (.bipush 11, 2, 0) := m_at_of r_M_bargainNow (by decide +kernel)
theorem i_M_bargainNow_82 : m_at k_M_bargainNow 82 = some (.dup2, 1, 0) := m_at_of r_M_bargainNow (by decide +kernel)
theorem i_M_bargainNow_83 : m_at k_M_bargainNow 83 = some (.iaload, 1, 0) := m_at_of r_M_bargainNow (by decide +kernel)
theorem i_M_bargainNow_84 : m_at k_M_bargainNow 84 = some (.iconst 1, 1, 0) := m_at_of r_M_bargainNow (by decide +kernel)
theorem i_M_bargainNow_85 : m_at k_M_bargainNow 85 = some (.iadd, 1, 0) := m_at_of r_M_bargainNow (by decide +kernel)
theorem i_M_bargainNow_86 : m_at k_M_bargainNow 86 = some (.iastore, 1, 0) := m_at_of r_M_bargainNow (by decide +kernel)
theorem i_M_bargainNow_87 : m_at k_M_bargainNow 87 = some (.iload 6, 2, 0) := m_at_of r_M_bargainNow (by decide +kernel)
theorem i_M_bargainNow_89 : m_at k_M_bargainNow 89 = some (.ireturn, 1, 0) := m_at_of r_M_bargainNow (by decide +kernel)
set_option maxRecDepth 20000 in
set_option maxHeartbeats 1000000 in
theorem E_M_bargainNow (x : m_X) (s : m_H) (w : Nat) (n1 : Int32) (n2 : Int32) (n3 : Int32) (n4 : Int32) (n5 : Int32) : m_M x k_M_bargainNow [.ref w, .int n1, .int n2, .int n3, .int n4, .int n5] s = if m_isO s w 11 = true then ((m_fR s 11 0 w).bind fun v1 => (m_ia x s v1 11).bind fun v6 => m_bV (m_M x k_M_put [.ref w, .int v6, .int 0, .int n1] s) fun s14 => m_bV (m_M x k_M_put [.ref w, .int v6, .int 1, .int n2] s14) fun s22 => m_bV (m_M x k_M_put [.ref w, .int v6, .int 2, .int n3] s22) fun s30 => m_bV (m_M x k_M_put [.ref w, .int v6, .int 3, .int n4] s30) fun s39 => m_bV (m_M x k_M_put [.ref w, .int v6, .int 4, .int n5] s39) fun s48 => (m_fR s48 11 0 w).bind fun v56 => (m_ia x s48 v56 ((112 : Int32) + n1)).bind fun v63 => m_bV (m_M x k_M_put [.ref w, .int v6, .int 5, .int v63] s48) fun s64 => m_bV (m_M x k_M_put [.ref w, .int v6, .int 6, .int 0] s64) fun s73 => (m_fR s73 11 0 w).bind fun v77 => (m_ia x s73 v77 11).bind fun v83 => (m_is s73 v77 11 (v83 + (1 : Int32))).bind fun s86 => some (some (.int v6), s86)) else none := by
  refine e_M1 (L0 := [some (.ref w), some (.int n1), some (.int n2), some (.int n3), some (.int n4), some (.int n5), none]) rfl (by decide +kernel) rfl (q_M_bargainNow _) rfl ?_
  refine e_aload_n i_M_bargainNow_0 rfl ?_
  refine e_getR i_M_bargainNow_1 lf_0 (by decide) ft_11_0 (fun v1 => ?_)
  refine e_bipush (v := 11) i_M_bargainNow_4 (by decide) ?_
  refine e_iald i_M_bargainNow_6 (fun v6 => ?_)
  refine e_istore (L' := [some (.ref w), some (.int n1), some (.int n2), some (.int n3), some (.int n4), some (.int n5), some (.int v6)]) i_M_bargainNow_7 (of_decide_eq_true rfl) rfl ?_
  refine e_aload_n i_M_bargainNow_9 rfl ?_
  refine e_iload i_M_bargainNow_10 rfl ?_
  refine e_iconst (v := 0) i_M_bargainNow_12 (by decide) ?_
  refine e_iload_n i_M_bargainNow_13 rfl ?_
  refine e_callV (as := [.ref w, .int v6, .int 0, .int n1]) (st' := []) i_M_bargainNow_14 lm_233 (Or.inr (Or.inl ⟨rfl, rfl⟩)) w_M_put rfl rfl rfl (Nat.le_of_ble_eq_true rfl) (Nat.le_of_ble_eq_true rfl) (m_rlt (q_M_put _) (by decide)) rfl (fun s14 => ?_)
  refine e_aload_n i_M_bargainNow_17 rfl ?_
  refine e_iload i_M_bargainNow_18 rfl ?_
  refine e_iconst (v := 1) i_M_bargainNow_20 (by decide) ?_
  refine e_iload_n i_M_bargainNow_21 rfl ?_
  refine e_callV (as := [.ref w, .int v6, .int 1, .int n2]) (st' := []) i_M_bargainNow_22 lm_233 (Or.inr (Or.inl ⟨rfl, rfl⟩)) w_M_put rfl rfl rfl (Nat.le_of_ble_eq_true rfl) (Nat.le_of_ble_eq_true rfl) (m_rlt (q_M_put _) (by decide)) rfl (fun s22 => ?_)
  refine e_aload_n i_M_bargainNow_25 rfl ?_
  refine e_iload i_M_bargainNow_26 rfl ?_
  refine e_iconst (v := 2) i_M_bargainNow_28 (by decide) ?_
  refine e_iload_n i_M_bargainNow_29 rfl ?_
  refine e_callV (as := [.ref w, .int v6, .int 2, .int n3]) (st' := []) i_M_bargainNow_30 lm_233 (Or.inr (Or.inl ⟨rfl, rfl⟩)) w_M_put rfl rfl rfl (Nat.le_of_ble_eq_true rfl) (Nat.le_of_ble_eq_true rfl) (m_rlt (q_M_put _) (by decide)) rfl (fun s30 => ?_)
  refine e_aload_n i_M_bargainNow_33 rfl ?_
  refine e_iload i_M_bargainNow_34 rfl ?_
  refine e_iconst (v := 3) i_M_bargainNow_36 (by decide) ?_
  refine e_iload i_M_bargainNow_37 rfl ?_
  refine e_callV (as := [.ref w, .int v6, .int 3, .int n4]) (st' := []) i_M_bargainNow_39 lm_233 (Or.inr (Or.inl ⟨rfl, rfl⟩)) w_M_put rfl rfl rfl (Nat.le_of_ble_eq_true rfl) (Nat.le_of_ble_eq_true rfl) (m_rlt (q_M_put _) (by decide)) rfl (fun s39 => ?_)
  refine e_aload_n i_M_bargainNow_42 rfl ?_
  refine e_iload i_M_bargainNow_43 rfl ?_
  refine e_iconst (v := 4) i_M_bargainNow_45 (by decide) ?_
  refine e_iload i_M_bargainNow_46 rfl ?_
  refine e_callV (as := [.ref w, .int v6, .int 4, .int n5]) (st' := []) i_M_bargainNow_48 lm_233 (Or.inr (Or.inl ⟨rfl, rfl⟩)) w_M_put rfl rfl rfl (Nat.le_of_ble_eq_true rfl) (Nat.le_of_ble_eq_true rfl) (m_rlt (q_M_put _) (by decide)) rfl (fun s48 => ?_)
  refine e_aload_n i_M_bargainNow_51 rfl ?_
  refine e_iload i_M_bargainNow_52 rfl ?_
  refine e_iconst (v := 5) i_M_bargainNow_54 (by decide) ?_
  refine e_aload_n i_M_bargainNow_55 rfl ?_
  refine e_getR i_M_bargainNow_56 lf_0 (by decide) ft_11_0 (fun v56 => ?_)
  refine e_bipush (v := 112) i_M_bargainNow_59 (by decide) ?_
  refine e_iload_n i_M_bargainNow_61 rfl ?_
  refine e_iadd i_M_bargainNow_62 ?_
  refine e_iald i_M_bargainNow_63 (fun v63 => ?_)
  refine e_callV (as := [.ref w, .int v6, .int 5, .int v63]) (st' := []) i_M_bargainNow_64 lm_233 (Or.inr (Or.inl ⟨rfl, rfl⟩)) w_M_put rfl rfl rfl (Nat.le_of_ble_eq_true rfl) (Nat.le_of_ble_eq_true rfl) (m_rlt (q_M_put _) (by decide)) rfl (fun s64 => ?_)
  refine e_aload_n i_M_bargainNow_67 rfl ?_
  refine e_iload i_M_bargainNow_68 rfl ?_
  refine e_bipush (v := 6) i_M_bargainNow_70 (by decide) ?_
  refine e_iconst (v := 0) i_M_bargainNow_72 (by decide) ?_
  refine e_callV (as := [.ref w, .int v6, .int 6, .int 0]) (st' := []) i_M_bargainNow_73 lm_233 (Or.inr (Or.inl ⟨rfl, rfl⟩)) w_M_put rfl rfl rfl (Nat.le_of_ble_eq_true rfl) (Nat.le_of_ble_eq_true rfl) (m_rlt (q_M_put _) (by decide)) rfl (fun s73 => ?_)
  refine e_aload_n i_M_bargainNow_76 rfl ?_
  refine e_getR i_M_bargainNow_77 lf_0 (by decide) ft_11_0 (fun v77 => ?_)
  refine e_bipush (v := 11) i_M_bargainNow_80 (by decide) ?_
  refine e_dup2 i_M_bargainNow_82 ⟨rfl, rfl⟩ ?_
  refine e_iald i_M_bargainNow_83 (fun v83 => ?_)
  refine e_iconst (v := 1) i_M_bargainNow_84 (by decide) ?_
  refine e_iadd i_M_bargainNow_85 ?_
  refine e_iast i_M_bargainNow_86 (fun s86 => ?_)
  refine e_iload i_M_bargainNow_87 rfl ?_
  exact e_iretI i_M_bargainNow_89 rfl
theorem i_M_put_0 : m_at k_M_put 0 = some (.aload_n 0, 1, 0) := m_at_of r_M_put (by decide +kernel)
theorem i_M_put_1 : m_at k_M_put 1 = some (.getfield 7, 3, 0) := m_at_of r_M_put (by decide +kernel)
theorem i_M_put_4 : m_at k_M_put 4 = some (.bipush 27, 2, 0) := m_at_of r_M_put (by decide +kernel)
theorem i_M_put_6 : m_at k_M_put 6 = some (.bipush 7, 2, 0) := m_at_of r_M_put (by decide +kernel)
theorem i_M_put_8 : m_at k_M_put 8 = some (.iload_n 1, 1, 0) := m_at_of r_M_put (by decide +kernel)
theorem i_M_put_9 : m_at k_M_put 9 = some (.imul, 1, 0) := m_at_of r_M_put (by decide +kernel)
theorem i_M_put_10 : m_at k_M_put 10 = some (.iadd, 1, 0) := m_at_of r_M_put (by decide +kernel)
theorem i_M_put_11 : m_at k_M_put 11 = some (.iload_n 2, 1, 0) := m_at_of r_M_put (by decide +kernel)
theorem i_M_put_12 : m_at k_M_put 12 = some (.iadd, 1, 0) := m_at_of r_M_put (by decide +kernel)
theorem i_M_put_13 : m_at k_M_put 13 = some (.iload_n 3, 1, 0) := m_at_of r_M_put (by decide +kernel)
theorem i_M_put_14 : m_at k_M_put 14 = some (.iastore, 1, 0) := m_at_of r_M_put (by decide +kernel)
theorem i_M_put_15 : m_at k_M_put 15 = some (.return_, 1, 0) := m_at_of r_M_put (by decide +kernel)
set_option maxRecDepth 20000 in
set_option maxHeartbeats 1000000 in
theorem E_M_put (x : m_X) (s : m_H) (w : Nat) (n1 : Int32) (n2 : Int32) (n3 : Int32) : m_M x k_M_put [.ref w, .int n1, .int n2, .int n3] s = if m_isO s w 11 = true then ((m_fR s 11 0 w).bind fun v1 => (m_is s v1 (((27 : Int32) + ((7 : Int32) * n1)) + n2) n3).bind fun s14 => some (none, s14)) else none := by
  refine e_M1 (L0 := [some (.ref w), some (.int n1), some (.int n2), some (.int n3)]) rfl (by decide +kernel) rfl (q_M_put _) rfl ?_
  refine e_aload_n i_M_put_0 rfl ?_
  refine e_getR i_M_put_1 lf_0 (by decide) ft_11_0 (fun v1 => ?_)
  refine e_bipush (v := 27) i_M_put_4 (by decide) ?_
  refine e_bipush (v := 7) i_M_put_6 (by decide) ?_
  refine e_iload_n i_M_put_8 rfl ?_
  refine e_imul i_M_put_9 ?_
  refine e_iadd i_M_put_10 ?_
  refine e_iload_n i_M_put_11 rfl ?_
  refine e_iadd i_M_put_12 ?_
  refine e_iload_n i_M_put_13 rfl ?_
  refine e_iast i_M_put_14 (fun s14 => ?_)
  exact e_vret i_M_put_15 rfl
theorem i_M_keep_0 : m_at k_M_keep 0 = some (.aload_n 0, 1, 0) := m_at_of r_M_keep (by decide +kernel)
theorem i_M_keep_1 : m_at k_M_keep 1 = some (.getfield 7, 3, 0) := m_at_of r_M_keep (by decide +kernel)
theorem i_M_keep_4 : m_at k_M_keep 4 = some (.iconst 3, 1, 0) := m_at_of r_M_keep (by decide +kernel)
theorem i_M_keep_5 : m_at k_M_keep 5 = some (.iaload, 1, 0) := m_at_of r_M_keep (by decide +kernel)
theorem i_M_keep_6 : m_at k_M_keep 6 = some (.bipush 30, 2, 0) := m_at_of r_M_keep (by decide +kernel)
theorem i_M_keep_8 : m_at k_M_keep 8 = some (.if_icmp .ne (48), 3, 0) := m_at_of r_M_keep (by decide +kernel)
theorem i_M_keep_11 : m_at k_M_keep 11 = some (.iconst 0, 1, 0) := m_at_of r_M_keep (by decide +kernel)
theorem i_M_keep_12 : m_at k_M_keep 12 = some (.istore_n 1, 1, 0) := m_at_of r_M_keep (by decide +kernel)
theorem i_M_keep_13 : m_at k_M_keep 13 = some (.iload_n 1, 1, 0) := m_at_of r_M_keep (by decide +kernel)
theorem i_M_keep_14 : m_at k_M_keep 14 = some (.sipush 3016, 3, 0) := m_at_of r_M_keep (by decide +kernel)
theorem i_M_keep_17 : m_at k_M_keep 17 = some (.if_icmp .ge (29), 3, 0) := m_at_of r_M_keep (by decide +kernel)
theorem i_M_keep_20 : m_at k_M_keep 20 = some (.aload_n 0, 1, 0) := m_at_of r_M_keep (by decide +kernel)
theorem i_M_keep_21 : m_at k_M_keep 21 = some (.getfield 7, 3, 0) := m_at_of r_M_keep (by decide +kernel)
theorem i_M_keep_24 : m_at k_M_keep 24 = some (.sipush 180, 3, 0) := m_at_of r_M_keep (by decide +kernel)
theorem i_M_keep_27 : m_at k_M_keep 27 = some (.iload_n 1, 1, 0) := m_at_of r_M_keep (by decide +kernel)
theorem i_M_keep_28 : m_at k_M_keep 28 = some (.iadd, 1, 0) := m_at_of r_M_keep (by decide +kernel)
theorem i_M_keep_29 : m_at k_M_keep 29 = some (.aload_n 0, 1, 0) := m_at_of r_M_keep (by decide +kernel)
theorem i_M_keep_30 : m_at k_M_keep 30 = some (.getfield 7, 3, 0) := m_at_of r_M_keep (by decide +kernel)
theorem i_M_keep_33 : m_at k_M_keep 33 = some (.sipush 284, 3, 0) := m_at_of r_M_keep (by decide +kernel)
theorem i_M_keep_36 : m_at k_M_keep 36 = some (.iload_n 1, 1, 0) := m_at_of r_M_keep (by decide +kernel)
theorem i_M_keep_37 : m_at k_M_keep 37 = some (.iadd, 1, 0) := m_at_of r_M_keep (by decide +kernel)
theorem i_M_keep_38 : m_at k_M_keep 38 = some (.iaload, 1, 0) := m_at_of r_M_keep (by decide +kernel)
theorem i_M_keep_39 : m_at k_M_keep 39 = some (.iastore, 1, 0) := m_at_of r_M_keep (by decide +kernel)
theorem i_M_keep_40 : m_at k_M_keep 40 = some (.iinc 1 (1), 3, 0) := m_at_of r_M_keep (by decide +kernel)
theorem i_M_keep_43 : m_at k_M_keep 43 = some (.goto (-30), 3, 0) := m_at_of r_M_keep (by decide +kernel)
theorem i_M_keep_46 : m_at k_M_keep 46 = some (.aload_n 0, 1, 0) := m_at_of r_M_keep (by decide +kernel)
theorem i_M_keep_47 : m_at k_M_keep 47 = some (.getfield 7, 3, 0) := m_at_of r_M_keep (by decide +kernel)
theorem i_M_keep_50 : m_at k_M_keep 50 = some (.iconst 3, 1, 0) := m_at_of r_M_keep (by decide +kernel)
theorem i_M_keep_51 : m_at k_M_keep 51 = some (.dup2, 1, 0) := m_at_of r_M_keep (by decide +kernel)
theorem i_M_keep_52 : m_at k_M_keep 52 = some (.iaload, 1, 0) := m_at_of r_M_keep (by decide +kernel)
theorem i_M_keep_53 : m_at k_M_keep 53 = some (.iconst 1, 1, 0) := m_at_of r_M_keep (by decide +kernel)
theorem i_M_keep_54 : m_at k_M_keep 54 = some (.isub, 1, 0) := m_at_of r_M_keep (by decide +kernel)
theorem i_M_keep_55 : m_at k_M_keep 55 = some (.iastore, 1, 0) := m_at_of r_M_keep (by decide +kernel)
theorem i_M_keep_56 : m_at k_M_keep 56 = some (.sipush 180, 3, 0) := m_at_of r_M_keep (by decide +kernel)
theorem i_M_keep_59 : m_at k_M_keep 59 = some (.bipush 104, 2, 0) := m_at_of r_M_keep (by decide +kernel)
theorem i_M_keep_61 : m_at k_M_keep 61 = some (.aload_n 0, 1, 0) := m_at_of r_M_keep (by decide +kernel)
theorem i_M_keep_62 : m_at k_M_keep 62 = some (.getfield 7, 3, 0) := m_at_of r_M_keep (by decide +kernel)
theorem i_M_keep_65 : m_at k_M_keep 65 = some (.iconst 3, 1, 0) := m_at_of r_M_keep (by decide +kernel)
theorem i_M_keep_66 : m_at k_M_keep 66 = some (.iaload, 1, 0) := m_at_of r_M_keep (by decide +kernel)
theorem i_M_keep_67 : m_at k_M_keep 67 = some (.imul, 1, 0) := m_at_of r_M_keep (by decide +kernel)
theorem i_M_keep_68 : m_at k_M_keep 68 = some (.iadd, 1, 0) := m_at_of r_M_keep (by decide +kernel)
theorem i_M_keep_69 : m_at k_M_keep 69 = some (.istore_n 1, 1, 0) := m_at_of r_M_keep (by decide +kernel)
theorem i_M_keep_70 : m_at k_M_keep 70 = some (.aload_n 0, 1, 0) := m_at_of r_M_keep (by decide +kernel)
theorem i_M_keep_71 : m_at k_M_keep 71 = some (.getfield 7, 3, 0) := m_at_of r_M_keep (by decide +kernel)
theorem i_M_keep_74 : m_at k_M_keep 74 = some (.iload_n 1, 1, 0) := m_at_of r_M_keep (by decide +kernel)
theorem i_M_keep_75 : m_at k_M_keep 75 = some (.aload_n 0, 1, 0) := m_at_of r_M_keep (by decide +kernel)
theorem i_M_keep_76 : m_at k_M_keep 76 = some (.getfield 7, 3, 0) := m_at_of r_M_keep (by decide +kernel)
theorem i_M_keep_79 : m_at k_M_keep 79 = some (.iconst 0, 1, 0) := m_at_of r_M_keep (by decide +kernel)
theorem i_M_keep_80 : m_at k_M_keep 80 = some (.iaload, 1, 0) := m_at_of r_M_keep (by decide +kernel)
theorem i_M_keep_81 : m_at k_M_keep 81 = some (.iastore, 1, 0) := m_at_of r_M_keep (by decide +kernel)
theorem i_M_keep_82 : m_at k_M_keep 82 = some (.iconst 1, 1, 0) := m_at_of r_M_keep (by decide +kernel)
theorem i_M_keep_83 : m_at k_M_keep 83 = some (.istore_n 2, 1, 0) := m_at_of r_M_keep (by decide +kernel)
theorem i_M_keep_84 : m_at k_M_keep 84 = some (.iload_n 2, 1, 0) := m_at_of r_M_keep (by decide +kernel)
theorem i_M_keep_85 : m_at k_M_keep 85 = some (.bipush 104, 2, 0) := m_at_of r_M_keep (by decide +kernel)
theorem i_M_keep_87 : m_at k_M_keep 87 = some (.if_icmp .ge (28), 3, 0) := m_at_of r_M_keep (by decide +kernel)
theorem i_M_keep_90 : m_at k_M_keep 90 = some (.aload_n 0, 1, 0) := m_at_of r_M_keep (by decide +kernel)
theorem i_M_keep_91 : m_at k_M_keep 91 = some (.getfield 7, 3, 0) := m_at_of r_M_keep (by decide +kernel)
theorem i_M_keep_94 : m_at k_M_keep 94 = some (.iload_n 1, 1, 0) := m_at_of r_M_keep (by decide +kernel)
theorem i_M_keep_95 : m_at k_M_keep 95 = some (.iload_n 2, 1, 0) := m_at_of r_M_keep (by decide +kernel)
theorem i_M_keep_96 : m_at k_M_keep 96 = some (.iadd, 1, 0) := m_at_of r_M_keep (by decide +kernel)
theorem i_M_keep_97 : m_at k_M_keep 97 = some (.aload_n 0, 1, 0) := m_at_of r_M_keep (by decide +kernel)
theorem i_M_keep_98 : m_at k_M_keep 98 = some (.getfield 7, 3, 0) := m_at_of r_M_keep (by decide +kernel)
theorem i_M_keep_101 : m_at k_M_keep 101 = some (.bipush 8, 2, 0) := m_at_of r_M_keep (by decide +kernel)
theorem i_M_keep_103 : m_at k_M_keep 103 = some (.iload_n 2, 1, 0) := m_at_of r_M_keep (by decide +kernel)
theorem i_M_keep_104 : m_at k_M_keep 104 = some (.iadd, 1, 0) := m_at_of r_M_keep (by decide +kernel)
theorem i_M_keep_105 : m_at k_M_keep 105 = some (.iconst 1, 1, 0) := m_at_of r_M_keep (by decide +kernel)
theorem i_M_keep_106 : m_at k_M_keep 106 = some (.isub, 1, 0) := m_at_of r_M_keep (by decide +kernel)
theorem i_M_keep_107 : m_at k_M_keep 107 = some (.iaload, 1, 0) := m_at_of r_M_keep (by decide +kernel)
theorem i_M_keep_108 : m_at k_M_keep 108 = some (.iastore, 1, 0) := m_at_of r_M_keep (by decide +kernel)
theorem i_M_keep_109 : m_at k_M_keep 109 = some (.iinc 2 (1), 3, 0) := m_at_of r_M_keep (by decide +kernel)
theorem i_M_keep_112 : m_at k_M_keep 112 = some (.goto (-28), 3, 0) := m_at_of r_M_keep (by decide +kernel)
theorem i_M_keep_115 : m_at k_M_keep 115 = some (.aload_n 0, 1, 0) := m_at_of r_M_keep (by decide +kernel)
theorem i_M_keep_116 : m_at k_M_keep 116 = some (.getfield 7, 3, 0) := m_at_of r_M_keep (by decide +kernel)
theorem i_M_keep_119 : m_at k_M_keep 119 = some (.iconst 3, 1, 0) := m_at_of r_M_keep (by decide +kernel)
theorem i_M_keep_120 : m_at k_M_keep 120 = some (.dup2, 1, 0) := m_at_of r_M_keep (by decide +kernel)
theorem i_M_keep_121 : m_at k_M_keep 121 = some (.iaload, 1, 0) := m_at_of r_M_keep (by decide +kernel)
theorem i_M_keep_122 : m_at k_M_keep 122 = some (.iconst 1, 1, 0) := m_at_of r_M_keep (by decide +kernel)
theorem i_M_keep_123 : m_at k_M_keep 123 = some (.iadd, 1, 0) := m_at_of r_M_keep (by decide +kernel)
theorem i_M_keep_124 : m_at k_M_keep 124 = some (.iastore, 1, 0) := m_at_of r_M_keep (by decide +kernel)
theorem i_M_keep_125 : m_at k_M_keep 125 = some (.return_, 1, 0) := m_at_of r_M_keep (by decide +kernel)
set_option maxRecDepth 20000 in
set_option maxHeartbeats 1000000 in
theorem E_M_keep (x : m_X) (s : m_H) (w : Nat) : m_M x k_M_keep [.ref w] s = if m_isO s w 11 = true then ((m_fR s 11 0 w).bind fun v1 => (m_ia x s v1 3).bind fun v5 => if v5 = 30 then (m_D x 1 k_M_keep 13 [some (.ref w), some (.int 0), none] [] s) else m_D x 1 k_M_keep 56 [some (.ref w), none, none] [] s) else none := by
  refine e_M1 (L0 := [some (.ref w), none, none]) rfl (by decide +kernel) rfl (q_M_keep _) rfl ?_
  refine e_aload_n i_M_keep_0 rfl ?_
  refine e_getR i_M_keep_1 lf_0 (by decide) ft_11_0 (fun v1 => ?_)
  refine e_iconst (v := 3) i_M_keep_4 (by decide) ?_
  refine e_iald i_M_keep_5 (fun v5 => ?_)
  refine e_bipush (v := 30) i_M_keep_6 (by decide) ?_
  refine e_icmpne (t := 56) i_M_keep_8 (by decide) ?_ ?_
  · exact rfl
  · refine e_iconst (v := 0) i_M_keep_11 (by decide) ?_
    refine e_istore_n (L' := [some (.ref w), some (.int 0), none]) i_M_keep_12 (of_decide_eq_true rfl) rfl ?_
    exact rfl
set_option maxRecDepth 20000 in
set_option maxHeartbeats 1000000 in
theorem E_M_keep_13 (x : m_X) (ρ : Nat) (hρ : 1 ≤ ρ) (s : m_H) (w : Nat) (n1 : Int32)  : m_D x ρ k_M_keep 13 [some (.ref w), some (.int n1), none] [] s = if 3016 ≤ n1 then ((m_fR s 11 0 w).bind fun v47 => (m_ia x s v47 3).bind fun v52 => (m_is s v47 3 (v52 - (1 : Int32))).bind fun s55 => m_D x ρ k_M_keep 56 [some (.ref w), some (.int n1), none] [] s55) else (m_fR s 11 0 w).bind fun v21 => (m_fR s 11 0 w).bind fun v30 => (m_ia x s v30 ((284 : Int32) + n1)).bind fun v38 => (m_is s v21 ((180 : Int32) + n1) v38).bind fun s39 => m_D x ρ k_M_keep 13 [some (.ref w), some (.int (n1 + (1 : Int32))), none] [] s39 := by
  refine e_iload_n i_M_keep_13 rfl ?_
  refine e_sipush (v := 3016) i_M_keep_14 (by decide) ?_
  refine e_icmpge (t := 46) i_M_keep_17 (by decide) ?_ ?_
  · refine e_aload_n i_M_keep_46 rfl ?_
    refine e_getR i_M_keep_47 lf_0 (by decide) ft_11_0 (fun v47 => ?_)
    refine e_iconst (v := 3) i_M_keep_50 (by decide) ?_
    refine e_dup2 i_M_keep_51 ⟨rfl, rfl⟩ ?_
    refine e_iald i_M_keep_52 (fun v52 => ?_)
    refine e_iconst (v := 1) i_M_keep_53 (by decide) ?_
    refine e_isub i_M_keep_54 ?_
    refine e_iast i_M_keep_55 (fun s55 => ?_)
    exact rfl
  · refine e_aload_n i_M_keep_20 rfl ?_
    refine e_getR i_M_keep_21 lf_0 (by decide) ft_11_0 (fun v21 => ?_)
    refine e_sipush (v := 180) i_M_keep_24 (by decide) ?_
    refine e_iload_n i_M_keep_27 rfl ?_
    refine e_iadd i_M_keep_28 ?_
    refine e_aload_n i_M_keep_29 rfl ?_
    refine e_getR i_M_keep_30 lf_0 (by decide) ft_11_0 (fun v30 => ?_)
    refine e_sipush (v := 284) i_M_keep_33 (by decide) ?_
    refine e_iload_n i_M_keep_36 rfl ?_
    refine e_iadd i_M_keep_37 ?_
    refine e_iald i_M_keep_38 (fun v38 => ?_)
    refine e_iast i_M_keep_39 (fun s39 => ?_)
    refine e_iinc (w := 1) (L' := [some (.ref w), some (.int (n1 + (1 : Int32))), none]) i_M_keep_40 rfl (of_decide_eq_true rfl) (by decide) rfl ?_
    refine e_goto (t := 13) i_M_keep_43 (by decide) ?_
    exact rfl
set_option maxRecDepth 20000 in
set_option maxHeartbeats 1000000 in
theorem E_M_keep_56 (x : m_X) (ρ : Nat) (hρ : 1 ≤ ρ) (s : m_H) (w : Nat) (d1 : Option Value) (hd1 : m_nl d1 = true) : m_D x ρ k_M_keep 56 [some (.ref w), d1, none] [] s = (m_fR s 11 0 w).bind fun v62 => (m_ia x s v62 3).bind fun v66 => (m_fR s 11 0 w).bind fun v71 => (m_fR s 11 0 w).bind fun v76 => (m_ia x s v76 0).bind fun v80 => (m_is s v71 ((180 : Int32) + ((104 : Int32) * v66)) v80).bind fun s81 => m_D x ρ k_M_keep 84 [some (.ref w), some (.int ((180 : Int32) + ((104 : Int32) * v66))), some (.int 1)] [] s81 := by
  refine e_sipush (v := 180) i_M_keep_56 (by decide) ?_
  refine e_bipush (v := 104) i_M_keep_59 (by decide) ?_
  refine e_aload_n i_M_keep_61 rfl ?_
  refine e_getR i_M_keep_62 lf_0 (by decide) ft_11_0 (fun v62 => ?_)
  refine e_iconst (v := 3) i_M_keep_65 (by decide) ?_
  refine e_iald i_M_keep_66 (fun v66 => ?_)
  refine e_imul i_M_keep_67 ?_
  refine e_iadd i_M_keep_68 ?_
  refine e_istore_n (L' := [some (.ref w), some (.int ((180 : Int32) + ((104 : Int32) * v66))), none]) i_M_keep_69 (of_decide_eq_true rfl) rfl ?_
  refine e_aload_n i_M_keep_70 rfl ?_
  refine e_getR i_M_keep_71 lf_0 (by decide) ft_11_0 (fun v71 => ?_)
  refine e_iload_n i_M_keep_74 rfl ?_
  refine e_aload_n i_M_keep_75 rfl ?_
  refine e_getR i_M_keep_76 lf_0 (by decide) ft_11_0 (fun v76 => ?_)
  refine e_iconst (v := 0) i_M_keep_79 (by decide) ?_
  refine e_iald i_M_keep_80 (fun v80 => ?_)
  refine e_iast i_M_keep_81 (fun s81 => ?_)
  refine e_iconst (v := 1) i_M_keep_82 (by decide) ?_
  refine e_istore_n (L' := [some (.ref w), some (.int ((180 : Int32) + ((104 : Int32) * v66))), some (.int 1)]) i_M_keep_83 (of_decide_eq_true rfl) rfl ?_
  exact rfl
set_option maxRecDepth 20000 in
set_option maxHeartbeats 1000000 in
theorem E_M_keep_84 (x : m_X) (ρ : Nat) (hρ : 1 ≤ ρ) (s : m_H) (w : Nat) (n1 : Int32) (n2 : Int32)  : m_D x ρ k_M_keep 84 [some (.ref w), some (.int n1), some (.int n2)] [] s = if 104 ≤ n2 then ((m_fR s 11 0 w).bind fun v116 => (m_ia x s v116 3).bind fun v121 => (m_is s v116 3 (v121 + (1 : Int32))).bind fun s124 => some (none, s124)) else (m_fR s 11 0 w).bind fun v91 => (m_fR s 11 0 w).bind fun v98 => (m_ia x s v98 (((8 : Int32) + n2) - (1 : Int32))).bind fun v107 => (m_is s v91 (n1 + n2) v107).bind fun s108 => m_D x ρ k_M_keep 84 [some (.ref w), some (.int n1), some (.int (n2 + (1 : Int32)))] [] s108 := by
  refine e_iload_n i_M_keep_84 rfl ?_
  refine e_bipush (v := 104) i_M_keep_85 (by decide) ?_
  refine e_icmpge (t := 115) i_M_keep_87 (by decide) ?_ ?_
  · refine e_aload_n i_M_keep_115 rfl ?_
    refine e_getR i_M_keep_116 lf_0 (by decide) ft_11_0 (fun v116 => ?_)
    refine e_iconst (v := 3) i_M_keep_119 (by decide) ?_
    refine e_dup2 i_M_keep_120 ⟨rfl, rfl⟩ ?_
    refine e_iald i_M_keep_121 (fun v121 => ?_)
    refine e_iconst (v := 1) i_M_keep_122 (by decide) ?_
    refine e_iadd i_M_keep_123 ?_
    refine e_iast i_M_keep_124 (fun s124 => ?_)
    exact e_vret i_M_keep_125 rfl
  · refine e_aload_n i_M_keep_90 rfl ?_
    refine e_getR i_M_keep_91 lf_0 (by decide) ft_11_0 (fun v91 => ?_)
    refine e_iload_n i_M_keep_94 rfl ?_
    refine e_iload_n i_M_keep_95 rfl ?_
    refine e_iadd i_M_keep_96 ?_
    refine e_aload_n i_M_keep_97 rfl ?_
    refine e_getR i_M_keep_98 lf_0 (by decide) ft_11_0 (fun v98 => ?_)
    refine e_bipush (v := 8) i_M_keep_101 (by decide) ?_
    refine e_iload_n i_M_keep_103 rfl ?_
    refine e_iadd i_M_keep_104 ?_
    refine e_iconst (v := 1) i_M_keep_105 (by decide) ?_
    refine e_isub i_M_keep_106 ?_
    refine e_iald i_M_keep_107 (fun v107 => ?_)
    refine e_iast i_M_keep_108 (fun s108 => ?_)
    refine e_iinc (w := 1) (L' := [some (.ref w), some (.int n1), some (.int (n2 + (1 : Int32)))]) i_M_keep_109 rfl (of_decide_eq_true rfl) (by decide) rfl ?_
    refine e_goto (t := 84) i_M_keep_112 (by decide) ?_
    exact rfl
theorem i_M_canBargain_0 : m_at k_M_canBargain 0 = some (.aload_n 0, 1, 0) := m_at_of r_M_canBargain (by decide +kernel)
theorem i_M_canBargain_1 : m_at k_M_canBargain 1 = some (.iload_n 1, 1, 0) := m_at_of r_M_canBargain (by decide +kernel)
theorem i_M_canBargain_2 : m_at k_M_canBargain 2 = some (.invokevirtual 352, 3, 110) := m_at_of r_M_canBargain (by decide +kernel)
theorem i_M_canBargain_5 : m_at k_M_canBargain 5 = some (.ifCond .eq (32), 3, 0) := m_at_of r_M_canBargain (by decide +kernel)
theorem i_M_canBargain_8 : m_at k_M_canBargain 8 = some (.aload_n 0, 1, 0) := m_at_of r_M_canBargain (by decide +kernel)
theorem i_M_canBargain_9 : m_at k_M_canBargain 9 = some (.iload_n 2, 1, 0) := m_at_of r_M_canBargain (by decide +kernel)
theorem i_M_canBargain_10 : m_at k_M_canBargain 10 = some (.invokevirtual 352, 3, 110) := m_at_of r_M_canBargain (by decide +kernel)
theorem i_M_canBargain_13 : m_at k_M_canBargain 13 = some (.ifCond .eq (24), 3, 0) := m_at_of r_M_canBargain (by decide +kernel)
theorem i_M_canBargain_16 : m_at k_M_canBargain 16 = some (.iload_n 1, 1, 0) := m_at_of r_M_canBargain (by decide +kernel)
theorem i_M_canBargain_17 : m_at k_M_canBargain 17 = some (.iload_n 2, 1, 0) := m_at_of r_M_canBargain (by decide +kernel)
theorem i_M_canBargain_18 : m_at k_M_canBargain 18 = some (.if_icmp .eq (19), 3, 0) := m_at_of r_M_canBargain (by decide +kernel)
theorem i_M_canBargain_21 : m_at k_M_canBargain 21 = some (.aload_n 0, 1, 0) := m_at_of r_M_canBargain (by decide +kernel)
theorem i_M_canBargain_22 : m_at k_M_canBargain 22 = some (.getfield 7, 3, 0) := m_at_of r_M_canBargain (by decide +kernel)
theorem i_M_canBargain_25 : m_at k_M_canBargain 25 = some (.bipush 11, 2, 0) := m_at_of r_M_canBargain (by decide +kernel)
theorem i_M_canBargain_27 : m_at k_M_canBargain 27 = some (.iaload, 1, 0) := m_at_of r_M_canBargain (by decide +kernel)
theorem i_M_canBargain_28 : m_at k_M_canBargain 28 = some (.bipush 12, 2, 0) := m_at_of r_M_canBargain (by decide +kernel)
theorem i_M_canBargain_30 : m_at k_M_canBargain 30 = some (.if_icmp .ge (7), 3, 0) := m_at_of r_M_canBargain (by decide +kernel)
theorem i_M_canBargain_33 : m_at k_M_canBargain 33 = some (.iconst 1, 1, 0) := m_at_of r_M_canBargain (by decide +kernel)
theorem i_M_canBargain_34 : m_at k_M_canBargain 34 = some (.goto (4), 3, 0) := m_at_of r_M_canBargain (by decide +kernel)
theorem i_M_canBargain_37 : m_at k_M_canBargain 37 = some (.iconst 0, 1, 0) := m_at_of r_M_canBargain (by decide +kernel)
theorem i_M_canBargain_38 : m_at k_M_canBargain 38 = some (.ireturn, 1, 0) := m_at_of r_M_canBargain (by decide +kernel)
set_option maxRecDepth 20000 in
set_option maxHeartbeats 1000000 in
theorem E_M_canBargain (x : m_X) (s : m_H) (w : Nat) (n1 : Int32) (n2 : Int32) : m_M x k_M_canBargain [.ref w, .int n1, .int n2] s = if m_isO s w 11 = true then (m_bI (m_M x k_M_isOne [.ref w, .int n1] s) fun v2 s2 => if v2 = 0 then (some (some (.int 0), s2)) else m_bI (m_M x k_M_isOne [.ref w, .int n2] s2) fun v10 s10 => if v10 = 0 then (some (some (.int 0), s10)) else if n1 = n2 then (some (some (.int 0), s10)) else (m_fR s10 11 0 w).bind fun v22 => (m_ia x s10 v22 11).bind fun v27 => if 12 ≤ v27 then (some (some (.int 0), s10)) else some (some (.int 1), s10)) else none := by
  refine e_M1 (L0 := [some (.ref w), some (.int n1), some (.int n2)]) rfl (by decide +kernel) rfl (q_M_canBargain _) rfl ?_
  refine e_aload_n i_M_canBargain_0 rfl ?_
  refine e_iload_n i_M_canBargain_1 rfl ?_
  refine e_callI (as := [.ref w, .int n1]) (st' := []) i_M_canBargain_2 lm_110 (Or.inr (Or.inl ⟨rfl, rfl⟩)) w_M_isOne rfl rfl rfl (Nat.le_of_ble_eq_true rfl) (Nat.le_of_ble_eq_true rfl) (m_rlt (q_M_isOne _) (by decide)) rfl (fun v2 s2 => ?_)
  refine e_ifeq (t := 37) i_M_canBargain_5 (by decide) ?_ ?_
  · refine e_iconst (v := 0) i_M_canBargain_37 (by decide) ?_
    exact e_iretZ i_M_canBargain_38 rfl (by decide)
  · refine e_aload_n i_M_canBargain_8 rfl ?_
    refine e_iload_n i_M_canBargain_9 rfl ?_
    refine e_callI (as := [.ref w, .int n2]) (st' := []) i_M_canBargain_10 lm_110 (Or.inr (Or.inl ⟨rfl, rfl⟩)) w_M_isOne rfl rfl rfl (Nat.le_of_ble_eq_true rfl) (Nat.le_of_ble_eq_true rfl) (m_rlt (q_M_isOne _) (by decide)) rfl (fun v10 s10 => ?_)
    refine e_ifeq (t := 37) i_M_canBargain_13 (by decide) ?_ ?_
    · refine e_iconst (v := 0) i_M_canBargain_37 (by decide) ?_
      exact e_iretZ i_M_canBargain_38 rfl (by decide)
    · refine e_iload_n i_M_canBargain_16 rfl ?_
      refine e_iload_n i_M_canBargain_17 rfl ?_
      refine e_icmpeq (t := 37) i_M_canBargain_18 (by decide) ?_ ?_
      · refine e_iconst (v := 0) i_M_canBargain_37 (by decide) ?_
        exact e_iretZ i_M_canBargain_38 rfl (by decide)
      · refine e_aload_n i_M_canBargain_21 rfl ?_
        refine e_getR i_M_canBargain_22 lf_0 (by decide) ft_11_0 (fun v22 => ?_)
        refine e_bipush (v := 11) i_M_canBargain_25 (by decide) ?_
        refine e_iald i_M_canBargain_27 (fun v27 => ?_)
        refine e_bipush (v := 12) i_M_canBargain_28 (by decide) ?_
        refine e_icmpge (t := 37) i_M_canBargain_30 (by decide) ?_ ?_
        · refine e_iconst (v := 0) i_M_canBargain_37 (by decide) ?_
          exact e_iretZ i_M_canBargain_38 rfl (by decide)
        · refine e_iconst (v := 1) i_M_canBargain_33 (by decide) ?_
          refine e_goto (t := 38) i_M_canBargain_34 (by decide) ?_
          exact e_iretZ i_M_canBargain_38 rfl (by decide)
theorem i_M_isOne_0 : m_at k_M_isOne 0 = some (.iload_n 1, 1, 0) := m_at_of r_M_isOne (by decide +kernel)
theorem i_M_isOne_1 : m_at k_M_isOne 1 = some (.iconst 0, 1, 0) := m_at_of r_M_isOne (by decide +kernel)
theorem i_M_isOne_2 : m_at k_M_isOne 2 = some (.aload_n 0, 1, 0) := m_at_of r_M_isOne (by decide +kernel)
theorem i_M_isOne_3 : m_at k_M_isOne 3 = some (.getfield 7, 3, 0) := m_at_of r_M_isOne (by decide +kernel)
theorem i_M_isOne_6 : m_at k_M_isOne 6 = some (.iconst 0, 1, 0) := m_at_of r_M_isOne (by decide +kernel)
theorem i_M_isOne_7 : m_at k_M_isOne 7 = some (.iaload, 1, 0) := m_at_of r_M_isOne (by decide +kernel)
theorem i_M_isOne_8 : m_at k_M_isOne 8 = some (.iconst 1, 1, 0) := m_at_of r_M_isOne (by decide +kernel)
theorem i_M_isOne_9 : m_at k_M_isOne 9 = some (.isub, 1, 0) := m_at_of r_M_isOne (by decide +kernel)
theorem i_M_isOne_10 : m_at k_M_isOne 10 = some (.invokestatic 81, 3, 96) := m_at_of r_M_isOne (by decide +kernel)
theorem i_M_isOne_13 : m_at k_M_isOne 13 = some (.ireturn, 1, 0) := m_at_of r_M_isOne (by decide +kernel)
set_option maxRecDepth 20000 in
set_option maxHeartbeats 1000000 in
theorem E_M_isOne (x : m_X) (s : m_H) (w : Nat) (n1 : Int32) : m_M x k_M_isOne [.ref w, .int n1] s = if m_isO s w 11 = true then ((m_fR s 11 0 w).bind fun v3 => (m_ia x s v3 0).bind fun v7 => m_bI (m_M x k_M_isIn [.int n1, .int 0, .int (v7 - (1 : Int32))] s) fun v10 s10 => if m_rk (some .boolean) (some (.int v10)) = true then some (some (.int v10), s10) else none) else none := by
  refine e_M1 (L0 := [some (.ref w), some (.int n1)]) rfl (by decide +kernel) rfl (q_M_isOne _) rfl ?_
  refine e_iload_n i_M_isOne_0 rfl ?_
  refine e_iconst (v := 0) i_M_isOne_1 (by decide) ?_
  refine e_aload_n i_M_isOne_2 rfl ?_
  refine e_getR i_M_isOne_3 lf_0 (by decide) ft_11_0 (fun v3 => ?_)
  refine e_iconst (v := 0) i_M_isOne_6 (by decide) ?_
  refine e_iald i_M_isOne_7 (fun v7 => ?_)
  refine e_iconst (v := 1) i_M_isOne_8 (by decide) ?_
  refine e_isub i_M_isOne_9 ?_
  refine e_callI (as := [.int n1, .int 0, .int (v7 - (1 : Int32))]) (st' := []) i_M_isOne_10 lm_96 (Or.inl ⟨rfl, rfl⟩) w_M_isIn rfl rfl rfl (Nat.le_of_ble_eq_true rfl) (Nat.le_of_ble_eq_true rfl) (m_rlt (q_M_isIn _) (by decide)) rfl (fun v10 s10 => ?_)
  exact e_iretG i_M_isOne_13 rfl
theorem i_M_by_0 : m_at k_M_by 0 = some (.iload_n 1, 1, 0) := m_at_of r_M_by (by decide +kernel)
theorem i_M_by_1 : m_at k_M_by 1 = some (.iconst (-1), 1, 0) := m_at_of r_M_by (by decide +kernel)
theorem i_M_by_2 : m_at k_M_by 2 = some (.aload_n 0, 1, 0) := m_at_of r_M_by (by decide +kernel)
theorem i_M_by_3 : m_at k_M_by 3 = some (.getfield 7, 3, 0) := m_at_of r_M_by (by decide +kernel)
theorem i_M_by_6 : m_at k_M_by 6 = some (.iconst 1, 1, 0) := m_at_of r_M_by (by decide +kernel)
theorem i_M_by_7 : m_at k_M_by 7 = some (.iaload, 1, 0) := m_at_of r_M_by (by decide +kernel)
theorem i_M_by_8 : m_at k_M_by 8 = some (.iconst 1, 1, 0) := m_at_of r_M_by (by decide +kernel)
theorem i_M_by_9 : m_at k_M_by 9 = some (.isub, 1, 0) := m_at_of r_M_by (by decide +kernel)
theorem i_M_by_10 : m_at k_M_by 10 = some (.invokestatic 81, 3, 96) := m_at_of r_M_by (by decide +kernel)
theorem i_M_by_13 : m_at k_M_by 13 = some (.ifCond .ne (5), 3, 0) := m_at_of r_M_by (by decide +kernel)
theorem i_M_by_16 : m_at k_M_by 16 = some (.iconst 0, 1, 0) := m_at_of r_M_by (by decide +kernel)
theorem i_M_by_17 : m_at k_M_by 17 = some (.ireturn, 1, 0) := m_at_of r_M_by (by decide +kernel)
theorem i_M_by_18 : m_at k_M_by 18 = some (.aload_n 0, 1, 0) := m_at_of r_M_by (by decide +kernel)
theorem i_M_by_19 : m_at k_M_by 19 = some (.getfield 7, 3, 0) := m_at_of r_M_by (by decide +kernel)
theorem i_M_by_22 : m_at k_M_by 22 = some (.iconst 2, 1, 0) := m_at_of r_M_by (by decide +kernel)
theorem i_M_by_23 : m_at k_M_by 23 = some (.iload_n 1, 1, 0) := m_at_of r_M_by (by decide +kernel)
theorem i_M_by_24 : m_at k_M_by 24 = some (.iastore, 1, 0) := m_at_of r_M_by (by decide +kernel)
theorem i_M_by_25 : m_at k_M_by 25 = some (.iconst 1, 1, 0) := m_at_of r_M_by (by decide +kernel)
theorem i_M_by_26 : m_at k_M_by 26 = some (.ireturn, 1, 0) := m_at_of r_M_by (by decide +kernel)
set_option maxRecDepth 20000 in
set_option maxHeartbeats 1000000 in
theorem E_M_by (x : m_X) (s : m_H) (w : Nat) (n1 : Int32) : m_M x k_M_by [.ref w, .int n1] s = if m_isO s w 11 = true then ((m_fR s 11 0 w).bind fun v3 => (m_ia x s v3 1).bind fun v7 => m_bI (m_M x k_M_isIn [.int n1, .int (-1), .int (v7 - (1 : Int32))] s) fun v10 s10 => if v10 = 0 then (some (some (.int 0), s10)) else (m_fR s10 11 0 w).bind fun v19 => (m_is s10 v19 2 n1).bind fun s24 => some (some (.int 1), s24)) else none := by
  refine e_M1 (L0 := [some (.ref w), some (.int n1)]) rfl (by decide +kernel) rfl (q_M_by _) rfl ?_
  refine e_iload_n i_M_by_0 rfl ?_
  refine e_iconst (v := (-1)) i_M_by_1 (by decide) ?_
  refine e_aload_n i_M_by_2 rfl ?_
  refine e_getR i_M_by_3 lf_0 (by decide) ft_11_0 (fun v3 => ?_)
  refine e_iconst (v := 1) i_M_by_6 (by decide) ?_
  refine e_iald i_M_by_7 (fun v7 => ?_)
  refine e_iconst (v := 1) i_M_by_8 (by decide) ?_
  refine e_isub i_M_by_9 ?_
  refine e_callI (as := [.int n1, .int (-1), .int (v7 - (1 : Int32))]) (st' := []) i_M_by_10 lm_96 (Or.inl ⟨rfl, rfl⟩) w_M_isIn rfl rfl rfl (Nat.le_of_ble_eq_true rfl) (Nat.le_of_ble_eq_true rfl) (m_rlt (q_M_isIn _) (by decide)) rfl (fun v10 s10 => ?_)
  refine e_ifne (t := 18) i_M_by_13 (by decide) ?_ ?_
  · refine e_aload_n i_M_by_18 rfl ?_
    refine e_getR i_M_by_19 lf_0 (by decide) ft_11_0 (fun v19 => ?_)
    refine e_iconst (v := 2) i_M_by_22 (by decide) ?_
    refine e_iload_n i_M_by_23 rfl ?_
    refine e_iast i_M_by_24 (fun s24 => ?_)
    refine e_iconst (v := 1) i_M_by_25 (by decide) ?_
    exact e_iretZ i_M_by_26 rfl (by decide)
  · refine e_iconst (v := 0) i_M_by_16 (by decide) ?_
    exact e_iretZ i_M_by_17 rfl (by decide)
theorem i_M_fault_0 : m_at k_M_fault 0 = some (.iload_n 1, 1, 0) := m_at_of r_M_fault (by decide +kernel)
theorem i_M_fault_1 : m_at k_M_fault 1 = some (.ifCond .ne (10), 3, 0) := m_at_of r_M_fault (by decide +kernel)
theorem i_M_fault_4 : m_at k_M_fault 4 = some (.aload_n 0, 1, 0) := m_at_of r_M_fault (by decide +kernel)
theorem i_M_fault_5 : m_at k_M_fault 5 = some (.getfield 22, 3, 94) := m_at_of r_M_fault (by decide +kernel)
theorem i_M_fault_8 : m_at k_M_fault 8 = some (.goto (16), 3, 0) := m_at_of r_M_fault (by decide +kernel)
theorem i_M_fault_11 : m_at k_M_fault 11 = some (.iload_n 1, 1, 0) := m_at_of r_M_fault (by decide +kernel)
theorem i_M_fault_12 : m_at k_M_fault 12 = some (.iconst 1, 1, 0) := m_at_of r_M_fault (by decide +kernel)
theorem i_M_fault_13 : m_at k_M_fault 13 = some (.if_icmp .ne (10), 3, 0) := m_at_of r_M_fault (by decide +kernel)
theorem i_M_fault_16 : m_at k_M_fault 16 = some (.aload_n 0, 1, 0) := m_at_of r_M_fault (by decide +kernel)
theorem i_M_fault_17 : m_at k_M_fault 17 = some (.getfield 26, 3, 95) := m_at_of r_M_fault (by decide +kernel)
theorem i_M_fault_20 : m_at k_M_fault 20 = some (.goto (4), 3, 0) := m_at_of r_M_fault (by decide +kernel)
theorem i_M_fault_23 : m_at k_M_fault 23 = some (.iconst (-1), 1, 0) := m_at_of r_M_fault (by decide +kernel)
theorem i_M_fault_24 : m_at k_M_fault 24 = some (.ireturn, 1, 0) := m_at_of r_M_fault (by decide +kernel)
set_option maxRecDepth 20000 in
set_option maxHeartbeats 1000000 in
theorem E_M_fault (x : m_X) (s : m_H) (w : Nat) (n1 : Int32) : m_M x k_M_fault [.ref w, .int n1] s = if m_isO s w 11 = true then (if n1 = 0 then ((m_fI s 11 5 w).bind fun v5 => some (some (.int v5), s)) else if n1 = 1 then ((m_fI s 11 6 w).bind fun v17 => some (some (.int v17), s)) else some (some (.int (-1)), s)) else none := by
  refine e_M1 (L0 := [some (.ref w), some (.int n1)]) rfl (by decide +kernel) rfl (q_M_fault _) rfl ?_
  refine e_iload_n i_M_fault_0 rfl ?_
  refine e_ifne (t := 11) i_M_fault_1 (by decide) ?_ ?_
  · refine e_iload_n i_M_fault_11 rfl ?_
    refine e_iconst (v := 1) i_M_fault_12 (by decide) ?_
    refine e_icmpne (t := 23) i_M_fault_13 (by decide) ?_ ?_
    · refine e_iconst (v := (-1)) i_M_fault_23 (by decide) ?_
      exact e_iretI i_M_fault_24 rfl
    · refine e_aload_n i_M_fault_16 rfl ?_
      refine e_getI i_M_fault_17 lf_95 (by decide) (Or.inl ft_11_6) (fun v17 => ?_)
      refine e_goto (t := 24) i_M_fault_20 (by decide) ?_
      exact e_iretI i_M_fault_24 rfl
  · refine e_aload_n i_M_fault_4 rfl ?_
    refine e_getI i_M_fault_5 lf_94 (by decide) (Or.inl ft_11_5) (fun v5 => ?_)
    refine e_goto (t := 24) i_M_fault_8 (by decide) ?_
    exact e_iretI i_M_fault_24 rfl
theorem i_M_text_0 : m_at k_M_text 0 = some (.aload_n 0, 1, 0) := m_at_of r_M_text (by decide +kernel)
theorem i_M_text_1 : m_at k_M_text 1 = some (.getfield 7, 3, 0) := m_at_of r_M_text (by decide +kernel)
theorem i_M_text_4 : m_at k_M_text 4 = some (.iconst 1, 1, 0) := m_at_of r_M_text (by decide +kernel)
theorem i_M_text_5 : m_at k_M_text 5 = some (.iaload, 1, 0) := m_at_of r_M_text (by decide +kernel)
theorem i_M_text_6 : m_at k_M_text 6 = some (.iconst 4, 1, 0) := m_at_of r_M_text (by decide +kernel)
theorem i_M_text_7 : m_at k_M_text 7 = some (.if_icmp .ne (5), 3, 0) := m_at_of r_M_text (by decide +kernel)
theorem i_M_text_10 : m_at k_M_text 10 = some (.iconst (-1), 1, 0) := m_at_of r_M_text (by decide +kernel)
theorem i_M_text_11 : m_at k_M_text 11 = some (.ireturn, 1, 0) := m_at_of r_M_text (by decide +kernel)
theorem i_M_text_12 : m_at k_M_text 12 = some (.aload_n 0, 1, 0) := m_at_of r_M_text (by decide +kernel)
theorem i_M_text_13 : m_at k_M_text 13 = some (.aload_n 0, 1, 0) := m_at_of r_M_text (by decide +kernel)
theorem i_M_text_14 : m_at k_M_text 14 = some (.invokevirtual 274, 3, 324) := m_at_of r_M_text (by decide +kernel)
theorem i_M_text_17 : m_at k_M_text 17 = some (.putfield 22, 3, 94) := m_at_of r_M_text (by decide +kernel)
theorem i_M_text_20 : m_at k_M_text 20 = some (.aload_n 0, 1, 0) := m_at_of r_M_text (by decide +kernel)
theorem i_M_text_21 : m_at k_M_text 21 = some (.aload_n 0, 1, 0) := m_at_of r_M_text (by decide +kernel)
theorem i_M_text_22 : m_at k_M_text 22 = some (.getfield 22, 3, 94) := m_at_of r_M_text (by decide +kernel)
theorem i_M_text_25 : m_at k_M_text 25 = some (.ifCond .ne (7), 3, 0) := m_at_of r_M_text (by decide +kernel)
theorem i_M_text_28 : m_at k_M_text 28 = some (.iconst (-1), 1, 0) := m_at_of r_M_text (by decide +kernel)
theorem i_M_text_29 : m_at k_M_text 29 = some (.goto (7), 3, 0) := m_at_of r_M_text (by decide +kernel)
theorem i_M_text_32 : m_at k_M_text 32 = some (.aload_n 0, 1, 0) := m_at_of r_M_text (by decide +kernel)
theorem i_M_text_33 : m_at k_M_text 33 = some (.getfield 110, 3, 98) := m_at_of r_M_text (by decide +kernel)
theorem i_M_text_36 : m_at k_M_text 36 = some (.putfield 26, 3, 95) := m_at_of r_M_text (by decide +kernel)
theorem i_M_text_39 : m_at k_M_text 39 = some (.aload_n 0, 1, 0) := m_at_of r_M_text (by decide +kernel)
theorem i_M_text_40 : m_at k_M_text 40 = some (.iconst 0, 1, 0) := m_at_of r_M_text (by decide +kernel)
theorem i_M_text_41 : m_at k_M_text 41 = some (.putfield 97, 3, 1) := m_at_of r_M_text (by decide +kernel)
theorem i_M_text_44 : m_at k_M_text 44 = some (.aload_n 0, 1, 0) := m_at_of r_M_text (by decide +kernel)
theorem i_M_text_45 : m_at k_M_text 45 = some (.getfield 22, 3, 94) := m_at_of r_M_text (by decide +kernel)
theorem i_M_text_48 : m_at k_M_text 48 = some (.ifCond .eq (5), 3, 0) := m_at_of r_M_text (by decide +kernel)
theorem i_M_text_51 : m_at k_M_text 51 = some (.iconst (-1), 1, 0) := m_at_of r_M_text (by decide +kernel)
theorem i_M_text_52 : m_at k_M_text 52 = some (.ireturn, 1, 0) := m_at_of r_M_text (by decide +kernel)
theorem i_M_text_53 : m_at k_M_text 53 = some (.aload_n 0, 1, 0) := m_at_of r_M_text (by decide +kernel)
theorem i_M_text_54 : m_at k_M_text 54 = some (.getfield 7, 3, 0) := m_at_of r_M_text (by decide +kernel)
theorem i_M_text_57 : m_at k_M_text 57 = some (.iconst 1, 1, 0) := m_at_of r_M_text (by decide +kernel)
theorem i_M_text_58 : m_at k_M_text 58 = some (.dup2, 1, 0) := m_at_of r_M_text (by decide +kernel)
theorem i_M_text_59 : m_at k_M_text 59 = some (.iaload, 1, 0) := m_at_of r_M_text (by decide +kernel)
theorem i_M_text_60 : m_at k_M_text 60 = some (.iconst 1, 1, 0) := m_at_of r_M_text (by decide +kernel)
theorem i_M_text_61 : m_at k_M_text 61 = some (.iadd, 1, 0) := m_at_of r_M_text (by decide +kernel)
theorem i_M_text_62 : m_at k_M_text 62 = some (.iastore, 1, 0) := m_at_of r_M_text (by decide +kernel)
theorem i_M_text_63 : m_at k_M_text 63 = some (.aload_n 0, 1, 0) := m_at_of r_M_text (by decide +kernel)
theorem i_M_text_64 : m_at k_M_text 64 = some (.getfield 7, 3, 0) := m_at_of r_M_text (by decide +kernel)
theorem i_M_text_67 : m_at k_M_text 67 = some (.iconst 1, 1, 0) := m_at_of r_M_text (by decide +kernel)
theorem i_M_text_68 : m_at k_M_text 68 = some (.iaload, 1, 0) := m_at_of r_M_text (by decide +kernel)
theorem i_M_text_69 : m_at k_M_text 69 = some (.iconst 1, 1, 0) := m_at_of r_M_text (by decide +kernel)
theorem i_M_text_70 : m_at k_M_text 70 = some (.isub, 1, 0) := m_at_of r_M_text (by decide +kernel)
theorem i_M_text_71 : m_at k_M_text 71 = some (.ireturn, 1, 0) := m_at_of r_M_text (by decide +kernel)
set_option maxRecDepth 20000 in
set_option maxHeartbeats 1000000 in
theorem E_M_text (x : m_X) (s : m_H) (w : Nat) : m_M x k_M_text [.ref w] s = if m_isO s w 11 = true then ((m_fR s 11 0 w).bind fun v1 => (m_ia x s v1 1).bind fun v5 => if v5 = 4 then (some (some (.int (-1)), s)) else m_bI (m_M x k_M_readText [.ref w] s) fun v14 s14 => (m_pf s14 11 5 w (.int v14)).bind fun s17 => (m_fI s17 11 5 w).bind fun v22 => if v22 = 0 then (m_D x 13 k_M_text 36 [some (.ref w)] [.int (-1), .ref w] s17) else (m_fI s17 11 8 w).bind fun v33 => m_D x 13 k_M_text 36 [some (.ref w)] [.int v33, .ref w] s17) else none := by
  refine e_M1 (L0 := [some (.ref w)]) rfl (by decide +kernel) rfl (q_M_text _) rfl ?_
  refine e_aload_n i_M_text_0 rfl ?_
  refine e_getR i_M_text_1 lf_0 (by decide) ft_11_0 (fun v1 => ?_)
  refine e_iconst (v := 1) i_M_text_4 (by decide) ?_
  refine e_iald i_M_text_5 (fun v5 => ?_)
  refine e_iconst (v := 4) i_M_text_6 (by decide) ?_
  refine e_icmpne (t := 12) i_M_text_7 (by decide) ?_ ?_
  · refine e_aload_n i_M_text_12 rfl ?_
    refine e_aload_n i_M_text_13 rfl ?_
    refine e_callI (as := [.ref w]) (st' := [.ref w]) i_M_text_14 lm_324 (Or.inr (Or.inl ⟨rfl, rfl⟩)) w_M_readText rfl rfl rfl (Nat.le_of_ble_eq_true rfl) (Nat.le_of_ble_eq_true rfl) (m_rlt (q_M_readText _) (by decide)) rfl (fun v14 s14 => ?_)
    refine e_putf i_M_text_17 lf_94 ft_11_5 rfl (fun s17 => ?_)
    refine e_aload_n i_M_text_20 rfl ?_
    refine e_aload_n i_M_text_21 rfl ?_
    refine e_getI i_M_text_22 lf_94 (by decide) (Or.inl ft_11_5) (fun v22 => ?_)
    refine e_ifne (t := 32) i_M_text_25 (by decide) ?_ ?_
    · refine e_aload_n i_M_text_32 rfl ?_
      refine e_getI i_M_text_33 lf_98 (by decide) (Or.inl ft_11_8) (fun v33 => ?_)
      exact rfl
    · refine e_iconst (v := (-1)) i_M_text_28 (by decide) ?_
      refine e_goto (t := 36) i_M_text_29 (by decide) ?_
      exact rfl
  · refine e_iconst (v := (-1)) i_M_text_10 (by decide) ?_
    exact e_iretI i_M_text_11 rfl
set_option maxRecDepth 20000 in
set_option maxHeartbeats 1000000 in
theorem E_M_text_36 (x : m_X) (ρ : Nat) (hρ : 13 ≤ ρ) (s : m_H) (w : Nat) (nt0 : Int32)  : m_D x ρ k_M_text 36 [some (.ref w)] [.int nt0, .ref w] s = (m_pf s 11 6 w (.int nt0)).bind fun s36 => (m_pf s36 11 4 w (.int 0)).bind fun s41 => (m_fI s41 11 5 w).bind fun v45 => if v45 = 0 then ((m_fR s41 11 0 w).bind fun v54 => (m_ia x s41 v54 1).bind fun v59 => (m_is s41 v54 1 (v59 + (1 : Int32))).bind fun s62 => (m_fR s62 11 0 w).bind fun v64 => (m_ia x s62 v64 1).bind fun v68 => some (some (.int (v68 - (1 : Int32))), s62)) else some (some (.int (-1)), s41) := by
  refine e_putf i_M_text_36 lf_95 ft_11_6 rfl (fun s36 => ?_)
  refine e_aload_n i_M_text_39 rfl ?_
  refine e_iconst (v := 0) i_M_text_40 (by decide) ?_
  refine e_putf i_M_text_41 lf_1 ft_11_4 rfl (fun s41 => ?_)
  refine e_aload_n i_M_text_44 rfl ?_
  refine e_getI i_M_text_45 lf_94 (by decide) (Or.inl ft_11_5) (fun v45 => ?_)
  refine e_ifeq (t := 53) i_M_text_48 (by decide) ?_ ?_
  · refine e_aload_n i_M_text_53 rfl ?_
    refine e_getR i_M_text_54 lf_0 (by decide) ft_11_0 (fun v54 => ?_)
    refine e_iconst (v := 1) i_M_text_57 (by decide) ?_
    refine e_dup2 i_M_text_58 ⟨rfl, rfl⟩ ?_
    refine e_iald i_M_text_59 (fun v59 => ?_)
    refine e_iconst (v := 1) i_M_text_60 (by decide) ?_
    refine e_iadd i_M_text_61 ?_
    refine e_iast i_M_text_62 (fun s62 => ?_)
    refine e_aload_n i_M_text_63 rfl ?_
    refine e_getR i_M_text_64 lf_0 (by decide) ft_11_0 (fun v64 => ?_)
    refine e_iconst (v := 1) i_M_text_67 (by decide) ?_
    refine e_iald i_M_text_68 (fun v68 => ?_)
    refine e_iconst (v := 1) i_M_text_69 (by decide) ?_
    refine e_isub i_M_text_70 ?_
    exact e_iretI i_M_text_71 rfl
  · refine e_iconst (v := (-1)) i_M_text_51 (by decide) ?_
    exact e_iretI i_M_text_52 rfl
theorem i_M_readText_0 : m_at k_M_readText 0 = some (.aload_n 0, 1, 0) := m_at_of r_M_readText (by decide +kernel)
theorem i_M_readText_1 : m_at k_M_readText 1 = some (.sipush 753, 3, 0) := m_at_of r_M_readText (by decide +kernel)
theorem i_M_readText_4 : m_at k_M_readText 4 = some (.aload_n 0, 1, 0) := m_at_of r_M_readText (by decide +kernel)
theorem i_M_readText_5 : m_at k_M_readText 5 = some (.getfield 7, 3, 0) := m_at_of r_M_readText (by decide +kernel)
theorem i_M_readText_8 : m_at k_M_readText 8 = some (.iconst 1, 1, 0) := m_at_of r_M_readText (by decide +kernel)
theorem i_M_readText_9 : m_at k_M_readText 9 = some (.iaload, 1, 0) := m_at_of r_M_readText (by decide +kernel)
theorem i_M_readText_10 : m_at k_M_readText 10 = some (.imul, 1, 0) := m_at_of r_M_readText (by decide +kernel)
theorem i_M_readText_11 : m_at k_M_readText 11 = some (.putfield 151, 3, 99) := m_at_of r_M_readText (by decide +kernel)
theorem i_M_readText_14 : m_at k_M_readText 14 = some (.aload_n 0, 1, 0) := m_at_of r_M_readText (by decide +kernel)
theorem i_M_readText_15 : m_at k_M_readText 15 = some (.getfield 16, 3, 79) := m_at_of r_M_readText (by decide +kernel)
theorem i_M_readText_18 : m_at k_M_readText 18 = some (.aload_n 0, 1, 0) := m_at_of r_M_readText (by decide +kernel)
theorem i_M_readText_19 : m_at k_M_readText 19 = some (.getfield 151, 3, 99) := m_at_of r_M_readText (by decide +kernel)
theorem i_M_readText_22 : m_at k_M_readText 22 = some (.iconst 0, 1, 0) := m_at_of r_M_readText (by decide +kernel)
theorem i_M_readText_23 : m_at k_M_readText 23 = some (.iastore, 1, 0) := m_at_of r_M_readText (by decide +kernel)
theorem i_M_readText_24 : m_at k_M_readText 24 = some (.aload_n 0, 1, 0) := m_at_of r_M_readText (by decide +kernel)
theorem i_M_readText_25 : m_at k_M_readText 25 = some (.iconst 0, 1, 0) := m_at_of r_M_readText (by decide +kernel)
theorem i_M_readText_26 : m_at k_M_readText 26 = some (.putfield 154, 3, 100) := m_at_of r_M_readText (by decide +kernel)
theorem i_M_readText_29 : m_at k_M_readText 29 = some (.aload_n 0, 1, 0) := m_at_of r_M_readText (by decide +kernel)
theorem i_M_readText_30 : m_at k_M_readText 30 = some (.iconst 0, 1, 0) := m_at_of r_M_readText (by decide +kernel)
theorem i_M_readText_31 : m_at k_M_readText 31 = some (.putfield 261, 3, 101) := m_at_of r_M_readText (by decide +kernel)
theorem i_M_readText_34 : m_at k_M_readText 34 = some (.aload_n 0, 1, 0) := m_at_of r_M_readText (by decide +kernel)
theorem i_M_readText_35 : m_at k_M_readText 35 = some (.iconst 0, 1, 0) := m_at_of r_M_readText (by decide +kernel)
theorem i_M_readText_36 : m_at k_M_readText 36 = some (.putfield 104, 3, 102) := m_at_of r_M_readText (by decide +kernel)
theorem i_M_readText_39 : m_at k_M_readText 39 = some (.aload_n 0, 1, 0) := m_at_of r_M_readText (by decide +kernel)
theorem i_M_readText_40 : m_at k_M_readText 40 = some (.invokevirtual 191, 3, 325) := m_at_of r_M_readText (by decide +kernel)
theorem i_M_readText_43 : m_at k_M_readText 43 = some (.aload_n 0, 1, 0) := m_at_of r_M_readText (by decide +kernel)
theorem i_M_readText_44 : m_at k_M_readText 44 = some (.getfield 113, 3, 103) := m_at_of r_M_readText (by decide +kernel)
theorem i_M_readText_47 : m_at k_M_readText 47 = some (.ifCond .eq (17), 3, 0) := m_at_of r_M_readText (by decide +kernel)
theorem i_M_readText_50 : m_at k_M_readText 50 = some (.aload_n 0, 1, 0) := m_at_of r_M_readText (by decide +kernel)
theorem i_M_readText_51 : m_at k_M_readText 51 = some (.invokevirtual 271, 3, 326) := m_at_of r_M_readText (by decide +kernel)
theorem i_M_readText_54 : m_at k_M_readText 54 = some (.istore_n 1, 1, 0) := m_at_of r_M_readText (by decide +kernel)
theorem i_M_readText_55 : m_at k_M_readText 55 = some (.iload_n 1, 1, 0) := m_at_of r_M_readText (by decide +kernel)
theorem i_M_readText_56 : m_at k_M_readText 56 = some (.ifCond .eq (5), 3, 0) := m_at_of r_M_readText (by decide +kernel)
theorem i_M_readText_59 : m_at k_M_readText 59 = some (.iload_n 1, 1, 0) := m_at_of r_M_readText (by decide +kernel)
theorem i_M_readText_60 : m_at k_M_readText 60 = some (.ireturn, 1, 0) := m_at_of r_M_readText (by decide +kernel)
theorem i_M_readText_61 : m_at k_M_readText 61 = some (.goto (-18), 3, 0) := m_at_of r_M_readText (by decide +kernel)
theorem i_M_readText_64 : m_at k_M_readText 64 = some (.iconst 0, 1, 0) := m_at_of r_M_readText (by decide +kernel)
theorem i_M_readText_65 : m_at k_M_readText 65 = some (.ireturn, 1, 0) := m_at_of r_M_readText (by decide +kernel)
set_option maxRecDepth 20000 in
set_option maxHeartbeats 1000000 in
theorem E_M_readText (x : m_X) (s : m_H) (w : Nat) : m_M x k_M_readText [.ref w] s = if m_isO s w 11 = true then ((m_fR s 11 0 w).bind fun v5 => (m_ia x s v5 1).bind fun v9 => (m_pf s 11 12 w (.int ((753 : Int32) * v9))).bind fun s11 => (m_fR s11 11 2 w).bind fun v15 => (m_fI s11 11 12 w).bind fun v19 => (m_is s11 v15 v19 0).bind fun s23 => (m_pf s23 11 13 w (.int 0)).bind fun s26 => (m_pf s26 11 19 w (.int 0)).bind fun s31 => (m_pf s31 11 7 w (.int 0)).bind fun s36 => m_bV (m_M x k_M_nextToken [.ref w] s36) fun s40 => m_D x 12 k_M_readText 43 [some (.ref w), none] [] s40) else none := by
  refine e_M1 (L0 := [some (.ref w), none]) rfl (by decide +kernel) rfl (q_M_readText _) rfl ?_
  refine e_aload_n i_M_readText_0 rfl ?_
  refine e_sipush (v := 753) i_M_readText_1 (by decide) ?_
  refine e_aload_n i_M_readText_4 rfl ?_
  refine e_getR i_M_readText_5 lf_0 (by decide) ft_11_0 (fun v5 => ?_)
  refine e_iconst (v := 1) i_M_readText_8 (by decide) ?_
  refine e_iald i_M_readText_9 (fun v9 => ?_)
  refine e_imul i_M_readText_10 ?_
  refine e_putf i_M_readText_11 lf_99 ft_11_12 rfl (fun s11 => ?_)
  refine e_aload_n i_M_readText_14 rfl ?_
  refine e_getR i_M_readText_15 lf_79 (by decide) ft_11_2 (fun v15 => ?_)
  refine e_aload_n i_M_readText_18 rfl ?_
  refine e_getI i_M_readText_19 lf_99 (by decide) (Or.inl ft_11_12) (fun v19 => ?_)
  refine e_iconst (v := 0) i_M_readText_22 (by decide) ?_
  refine e_iast i_M_readText_23 (fun s23 => ?_)
  refine e_aload_n i_M_readText_24 rfl ?_
  refine e_iconst (v := 0) i_M_readText_25 (by decide) ?_
  refine e_putf i_M_readText_26 lf_100 ft_11_13 rfl (fun s26 => ?_)
  refine e_aload_n i_M_readText_29 rfl ?_
  refine e_iconst (v := 0) i_M_readText_30 (by decide) ?_
  refine e_putf i_M_readText_31 lf_101 ft_11_19 rfl (fun s31 => ?_)
  refine e_aload_n i_M_readText_34 rfl ?_
  refine e_iconst (v := 0) i_M_readText_35 (by decide) ?_
  refine e_putf i_M_readText_36 lf_102 ft_11_7 rfl (fun s36 => ?_)
  refine e_aload_n i_M_readText_39 rfl ?_
  refine e_callV (as := [.ref w]) (st' := []) i_M_readText_40 lm_325 (Or.inr (Or.inl ⟨rfl, rfl⟩)) w_M_nextToken rfl rfl rfl (Nat.le_of_ble_eq_true rfl) (Nat.le_of_ble_eq_true rfl) (m_rlt (q_M_nextToken _) (by decide)) rfl (fun s40 => ?_)
  exact rfl
set_option maxRecDepth 20000 in
set_option maxHeartbeats 1000000 in
theorem E_M_readText_43 (x : m_X) (ρ : Nat) (hρ : 12 ≤ ρ) (s : m_H) (w : Nat) (d1 : Option Value) (hd1 : m_nl d1 = true) : m_D x ρ k_M_readText 43 [some (.ref w), d1] [] s = (m_fI s 11 9 w).bind fun v44 => if v44 = 0 then (some (some (.int 0), s)) else m_bI (m_M x k_M_clause [.ref w] s) fun v51 s51 => if v51 = 0 then (m_D x ρ k_M_readText 43 [some (.ref w), some (.int v51)] [] s51) else some (some (.int v51), s51) := by
  refine e_aload_n i_M_readText_43 rfl ?_
  refine e_getI i_M_readText_44 lf_103 (by decide) (Or.inl ft_11_9) (fun v44 => ?_)
  refine e_ifeq (t := 64) i_M_readText_47 (by decide) ?_ ?_
  · refine e_iconst (v := 0) i_M_readText_64 (by decide) ?_
    exact e_iretI i_M_readText_65 rfl
  · refine e_aload_n i_M_readText_50 rfl ?_
    refine e_callI (as := [.ref w]) (st' := []) i_M_readText_51 lm_326 (Or.inr (Or.inl ⟨rfl, rfl⟩)) w_M_clause rfl rfl rfl (Nat.le_of_ble_eq_true rfl) (Nat.le_of_ble_eq_true rfl) (m_rlt (q_M_clause _) (Nat.lt_of_lt_of_le (by decide) hρ)) rfl (fun v51 s51 => ?_)
    refine e_istore_n (L' := [some (.ref w), some (.int v51)]) i_M_readText_54 (of_decide_eq_true rfl) rfl ?_
    refine e_iload_n i_M_readText_55 rfl ?_
    refine e_ifeq (t := 61) i_M_readText_56 (by decide) ?_ ?_
    · refine e_goto (t := 43) i_M_readText_61 (by decide) ?_
      exact rfl
    · refine e_iload_n i_M_readText_59 rfl ?_
      exact e_iretI i_M_readText_60 rfl
theorem i_M_clause_0 : m_at k_M_clause 0 = some (.aload_n 0, 1, 0) := m_at_of r_M_clause (by decide +kernel)
theorem i_M_clause_1 : m_at k_M_clause 1 = some (.invokevirtual 258, 3, 327) := m_at_of r_M_clause (by decide +kernel)
theorem i_M_clause_4 : m_at k_M_clause 4 = some (.istore_n 1, 1, 0) := m_at_of r_M_clause (by decide +kernel)
theorem i_M_clause_5 : m_at k_M_clause 5 = some (.iload_n 1, 1, 0) := m_at_of r_M_clause (by decide +kernel)
theorem i_M_clause_6 : m_at k_M_clause 6 = some (.ifCond .ge (5), 3, 0) := m_at_of r_M_clause (by decide +kernel)
theorem i_M_clause_9 : m_at k_M_clause 9 = some (.iconst 1, 1, 0) := m_at_of r_M_clause (by decide +kernel)
theorem i_M_clause_10 : m_at k_M_clause 10 = some (.ireturn, 1, 0) := m_at_of r_M_clause (by decide +kernel)
theorem i_M_clause_11 : m_at k_M_clause 11 = some (.iload_n 1, 1, 0) := m_at_of r_M_clause (by decide +kernel)
theorem i_M_clause_12 : m_at k_M_clause 12 = some (.iconst 3, 1, 0) := m_at_of r_M_clause (by decide +kernel)
theorem i_M_clause_13 : m_at k_M_clause 13 = some (.if_icmp .gt (16), 3, 0) := m_at_of r_M_clause (by decide +kernel)
theorem i_M_clause_16 : m_at k_M_clause 16 = some (.aload_n 0, 1, 0) := m_at_of r_M_clause (by decide +kernel)
theorem i_M_clause_17 : m_at k_M_clause 17 = some (.getfield 261, 3, 101) := m_at_of r_M_clause (by decide +kernel)
theorem i_M_clause_20 : m_at k_M_clause 20 = some (.iload_n 1, 1, 0) := m_at_of r_M_clause (by decide +kernel)
theorem i_M_clause_21 : m_at k_M_clause 21 = some (.invokestatic 264, 3, 130) := m_at_of r_M_clause (by decide +kernel)
theorem i_M_clause_24 : m_at k_M_clause 24 = some (.ifCond .eq (5), 3, 0) := m_at_of r_M_clause (by decide +kernel)
theorem i_M_clause_27 : m_at k_M_clause 27 = some (.iconst 4, 1, 0) := m_at_of r_M_clause (by decide +kernel)
theorem i_M_clause_28 : m_at k_M_clause 28 = some (.ireturn, 1, 0) := m_at_of r_M_clause (by decide +kernel)
theorem i_M_clause_29 : m_at k_M_clause 29 = some (.aload_n 0, 1, 0) := m_at_of r_M_clause (by decide +kernel)
theorem i_M_clause_30 : m_at k_M_clause 30 = some (.getfield 16, 3, 79) := m_at_of r_M_clause (by decide +kernel)
theorem i_M_clause_33 : m_at k_M_clause 33 = some (.aload_n 0, 1, 0) := m_at_of r_M_clause (by decide +kernel)
theorem i_M_clause_34 : m_at k_M_clause 34 = some (.getfield 151, 3, 99) := m_at_of r_M_clause (by decide +kernel)
theorem i_M_clause_37 : m_at k_M_clause 37 = some (.iaload, 1, 0) := m_at_of r_M_clause (by decide +kernel)
theorem i_M_clause_38 : m_at k_M_clause 38 = some (.istore_n 2, 1, 0) := m_at_of r_M_clause (by decide +kernel)
theorem i_M_clause_39 : m_at k_M_clause 39 = some (.iload_n 2, 1, 0) := m_at_of r_M_clause (by decide +kernel)
theorem i_M_clause_40 : m_at k_M_clause 40 = some (.bipush 24, 2, 0) := m_at_of r_M_clause (by decide +kernel)
theorem i_M_clause_42 : m_at k_M_clause 42 = some (.if_icmp .ne (6), 3, 0) := m_at_of r_M_clause (by decide +kernel)
theorem i_M_clause_45 : m_at k_M_clause 45 = some (.bipush 6, 2, 0) := m_at_of r_M_clause (by decide +kernel)
theorem i_M_clause_47 : m_at k_M_clause 47 = some (.ireturn, 1, 0) := m_at_of r_M_clause (by decide +kernel)
theorem i_M_clause_48 : m_at k_M_clause 48 = some (.iload_n 1, 1, 0) := m_at_of r_M_clause (by decide +kernel)
theorem i_M_clause_49 : m_at k_M_clause 49 = some (.iconst 3, 1, 0) := m_at_of r_M_clause (by decide +kernel)
theorem i_M_clause_50 : m_at k_M_clause 50 = some (.if_icmp .gt (15), 3, 0) := m_at_of r_M_clause (by decide +kernel)
theorem i_M_clause_53 : m_at k_M_clause 53 = some (.aload_n 0, 1, 0) := m_at_of r_M_clause (by decide +kernel)
theorem i_M_clause_54 : m_at k_M_clause 54 = some (.dup, 1, 0) := m_at_of r_M_clause (by decide +kernel)
theorem i_M_clause_55 : m_at k_M_clause 55 = some (.getfield 261, 3, 101) := m_at_of r_M_clause (by decide +kernel)
theorem i_M_clause_58 : m_at k_M_clause 58 = some (.iconst 1, 1, 0) := m_at_of r_M_clause (by decide +kernel)
theorem i_M_clause_59 : m_at k_M_clause 59 = some (.iload_n 1, 1, 0) := m_at_of r_M_clause (by decide +kernel)
theorem i_M_clause_60 : m_at k_M_clause 60 = some (.ishl, 1, 0) := m_at_of r_M_clause (by decide +kernel)
theorem i_M_clause_61 : m_at k_M_clause 61 = some (.ior, 1, 0) := m_at_of r_M_clause (by decide +kernel)
theorem i_M_clause_62 : m_at k_M_clause 62 = some (.putfield 261, 3, 101) := m_at_of r_M_clause (by decide +kernel)
theorem i_M_clause_65 : m_at k_M_clause 65 = some (.aload_n 0, 1, 0) := m_at_of r_M_clause (by decide +kernel)
theorem i_M_clause_66 : m_at k_M_clause 66 = some (.iload_n 1, 1, 0) := m_at_of r_M_clause (by decide +kernel)
theorem i_M_clause_67 : m_at k_M_clause 67 = some (.putfield 165, 3, 104) := m_at_of r_M_clause (by decide +kernel)
theorem i_M_clause_70 : m_at k_M_clause 70 = some (.aload_n 0, 1, 0) := m_at_of r_M_clause (by decide +kernel)
theorem i_M_clause_71 : m_at k_M_clause 71 = some (.invokevirtual 191, 3, 325) := m_at_of r_M_clause (by decide +kernel)
theorem i_M_clause_74 : m_at k_M_clause 74 = some (.aload_n 0, 1, 0) := m_at_of r_M_clause (by decide +kernel)
theorem i_M_clause_75 : m_at k_M_clause 75 = some (.getfield 151, 3, 99) := m_at_of r_M_clause (by decide +kernel)
theorem i_M_clause_78 : m_at k_M_clause 78 = some (.iconst 1, 1, 0) := m_at_of r_M_clause (by decide +kernel)
theorem i_M_clause_79 : m_at k_M_clause 79 = some (.iadd, 1, 0) := m_at_of r_M_clause (by decide +kernel)
theorem i_M_clause_80 : m_at k_M_clause 80 = some (.bipush 6, 2, 0) := m_at_of r_M_clause (by decide +kernel)
theorem i_M_clause_82 : m_at k_M_clause 82 = some (.iload_n 2, 1, 0) := m_at_of r_M_clause (by decide +kernel)
theorem i_M_clause_83 : m_at k_M_clause 83 = some (.imul, 1, 0) := m_at_of r_M_clause (by decide +kernel)
theorem i_M_clause_84 : m_at k_M_clause 84 = some (.iadd, 1, 0) := m_at_of r_M_clause (by decide +kernel)
theorem i_M_clause_85 : m_at k_M_clause 85 = some (.istore_n 3, 1, 0) := m_at_of r_M_clause (by decide +kernel)
theorem i_M_clause_86 : m_at k_M_clause 86 = some (.aload_n 0, 1, 0) := m_at_of r_M_clause (by decide +kernel)
theorem i_M_clause_87 : m_at k_M_clause 87 = some (.getfield 16, 3, 79) := m_at_of r_M_clause (by decide +kernel)
theorem i_M_clause_90 : m_at k_M_clause 90 = some (.iload_n 3, 1, 0) := m_at_of r_M_clause (by decide +kernel)
theorem i_M_clause_91 : m_at k_M_clause 91 = some (.iload_n 1, 1, 0) := m_at_of r_M_clause (by decide +kernel)
theorem i_M_clause_92 : m_at k_M_clause 92 = some (.iastore, 1, 0) := m_at_of r_M_clause (by decide +kernel)
theorem i_M_clause_93 : m_at k_M_clause 93 = some (.aload_n 0, 1, 0) := m_at_of r_M_clause (by decide +kernel)
theorem i_M_clause_94 : m_at k_M_clause 94 = some (.iload_n 1, 1, 0) := m_at_of r_M_clause (by decide +kernel)
theorem i_M_clause_95 : m_at k_M_clause 95 = some (.iload_n 3, 1, 0) := m_at_of r_M_clause (by decide +kernel)
theorem i_M_clause_96 : m_at k_M_clause 96 = some (.invokevirtual 268, 3, 328) := m_at_of r_M_clause (by decide +kernel)
theorem i_M_clause_99 : m_at k_M_clause 99 = some (.istore 4, 2, 0) := m_at_of r_M_clause (by decide +kernel)
theorem i_M_clause_101 : m_at k_M_clause 101 = some (.iload 4, 2, 0) := m_at_of r_M_clause (by decide +kernel)
theorem i_M_clause_103 : m_at k_M_clause 103 = some (.ifCond .eq (6), 3, 0) := m_at_of r_M_clause (by decide +kernel)
theorem i_M_clause_106 : m_at k_M_clause 106 = some (.iload 4, 2, 0) := m_at_of r_M_clause (by decide +kernel)
theorem i_M_clause_108 : m_at k_M_clause 108 = some (.ireturn, 1, 0) := m_at_of r_M_clause (by decide +kernel)
theorem i_M_clause_109 : m_at k_M_clause 109 = some (.aload_n 0, 1, 0) := m_at_of r_M_clause (by decide +kernel)
theorem i_M_clause_110 : m_at k_M_clause 110 = some (.getfield 16, 3, 79) := m_at_of r_M_clause (by decide +kernel)
theorem i_M_clause_113 : m_at k_M_clause 113 = some (.aload_n 0, 1, 0) := m_at_of r_M_clause (by decide +kernel)
theorem i_M_clause_114 : m_at k_M_clause 114 = some (.getfield 151, 3, 99) := m_at_of r_M_clause (by decide +kernel)
theorem i_M_clause_117 : m_at k_M_clause 117 = some (.dup2, 1, 0) := m_at_of r_M_clause (by decide +kernel)
theorem i_M_clause_118 : m_at k_M_clause 118 = some (.iaload, 1, 0) := m_at_of r_M_clause (by decide +kernel)
theorem i_M_clause_119 : m_at k_M_clause 119 = some (.iconst 1, 1, 0) := m_at_of r_M_clause (by decide +kernel)
theorem i_M_clause_120 : m_at k_M_clause 120 = some (.iadd, 1, 0) := m_at_of r_M_clause (by decide +kernel)
theorem i_M_clause_121 : m_at k_M_clause 121 = some (.iastore, 1, 0) := m_at_of r_M_clause (by decide +kernel)
theorem i_M_clause_122 : m_at k_M_clause 122 = some (.aload_n 0, 1, 0) := m_at_of r_M_clause (by decide +kernel)
theorem i_M_clause_123 : m_at k_M_clause 123 = some (.getfield 113, 3, 103) := m_at_of r_M_clause (by decide +kernel)
theorem i_M_clause_126 : m_at k_M_clause 126 = some (.bipush 59, 2, 0) := m_at_of r_M_clause (by decide +kernel)
theorem i_M_clause_128 : m_at k_M_clause 128 = some (.if_icmp .eq (5), 3, 0) := m_at_of r_M_clause (by decide +kernel)
theorem i_M_clause_131 : m_at k_M_clause 131 = some (.iconst 1, 1, 0) := m_at_of r_M_clause (by decide +kernel)
theorem i_M_clause_132 : m_at k_M_clause 132 = some (.ireturn, 1, 0) := m_at_of r_M_clause (by decide +kernel)
theorem i_M_clause_133 : m_at k_M_clause 133 = some (.aload_n 0, 1, 0) := m_at_of r_M_clause (by decide +kernel)
theorem i_M_clause_134 : m_at k_M_clause 134 = some (.invokevirtual 191, 3, 325) := m_at_of r_M_clause (by decide +kernel)
theorem i_M_clause_137 : m_at k_M_clause 137 = some (.iconst 0, 1, 0) := m_at_of r_M_clause (by decide +kernel)
theorem i_M_clause_138 : m_at k_M_clause 138 = some (.ireturn, 1, 0) := m_at_of r_M_clause (by decide +kernel)
set_option maxRecDepth 20000 in
set_option maxHeartbeats 1000000 in
theorem E_M_clause (x : m_X) (s : m_H) (w : Nat) : m_M x k_M_clause [.ref w] s = if m_isO s w 11 = true then (m_bI (m_M x k_M_sortOf [.ref w] s) fun v1 s1 => if 0 ≤ v1 then (if 3 < v1 then (m_D x 11 k_M_clause 29 [some (.ref w), some (.int v1), none, none, none] [] s1) else (m_fI s1 11 19 w).bind fun v17 => m_bI (m_M x k_M_has [.int v17, .int v1] s1) fun v21 s21 => if v21 = 0 then (m_D x 11 k_M_clause 29 [some (.ref w), some (.int v1), none, none, none] [] s21) else some (some (.int 4), s21)) else some (some (.int 1), s1)) else none := by
  refine e_M1 (L0 := [some (.ref w), none, none, none, none]) rfl (by decide +kernel) rfl (q_M_clause _) rfl ?_
  refine e_aload_n i_M_clause_0 rfl ?_
  refine e_callI (as := [.ref w]) (st' := []) i_M_clause_1 lm_327 (Or.inr (Or.inl ⟨rfl, rfl⟩)) w_M_sortOf rfl rfl rfl (Nat.le_of_ble_eq_true rfl) (Nat.le_of_ble_eq_true rfl) (m_rlt (q_M_sortOf _) (by decide)) rfl (fun v1 s1 => ?_)
  refine e_istore_n (L' := [some (.ref w), some (.int v1), none, none, none]) i_M_clause_4 (of_decide_eq_true rfl) rfl ?_
  refine e_iload_n i_M_clause_5 rfl ?_
  refine e_ifge (t := 11) i_M_clause_6 (by decide) ?_ ?_
  · refine e_iload_n i_M_clause_11 rfl ?_
    refine e_iconst (v := 3) i_M_clause_12 (by decide) ?_
    refine e_icmpgt (t := 29) i_M_clause_13 (by decide) ?_ ?_
    · exact rfl
    · refine e_aload_n i_M_clause_16 rfl ?_
      refine e_getI i_M_clause_17 lf_101 (by decide) (Or.inl ft_11_19) (fun v17 => ?_)
      refine e_iload_n i_M_clause_20 rfl ?_
      refine e_callI (as := [.int v17, .int v1]) (st' := []) i_M_clause_21 lm_130 (Or.inl ⟨rfl, rfl⟩) w_M_has rfl rfl rfl (Nat.le_of_ble_eq_true rfl) (Nat.le_of_ble_eq_true rfl) (m_rlt (q_M_has _) (by decide)) rfl (fun v21 s21 => ?_)
      refine e_ifeq (t := 29) i_M_clause_24 (by decide) ?_ ?_
      · exact rfl
      · refine e_iconst (v := 4) i_M_clause_27 (by decide) ?_
        exact e_iretI i_M_clause_28 rfl
  · refine e_iconst (v := 1) i_M_clause_9 (by decide) ?_
    exact e_iretI i_M_clause_10 rfl
set_option maxRecDepth 20000 in
set_option maxHeartbeats 1000000 in
theorem E_M_clause_29 (x : m_X) (ρ : Nat) (hρ : 11 ≤ ρ) (s : m_H) (w : Nat) (n1 : Int32)  : m_D x ρ k_M_clause 29 [some (.ref w), some (.int n1), none, none, none] [] s = (m_fR s 11 2 w).bind fun v30 => (m_fI s 11 12 w).bind fun v34 => (m_ia x s v30 v34).bind fun v37 => if v37 = 24 then (some (some (.int 6), s)) else if 3 < n1 then (m_D x ρ k_M_clause 65 [some (.ref w), some (.int n1), some (.int v37), none, none] [] s) else (m_fI s 11 19 w).bind fun v55 => (m_pf s 11 19 w (.int (v55 ||| ((1 : Int32) <<< (n1 &&& (31 : Int32)))))).bind fun s62 => m_D x ρ k_M_clause 65 [some (.ref w), some (.int n1), some (.int v37), none, none] [] s62 := by
  refine e_aload_n i_M_clause_29 rfl ?_
  refine e_getR i_M_clause_30 lf_79 (by decide) ft_11_2 (fun v30 => ?_)
  refine e_aload_n i_M_clause_33 rfl ?_
  refine e_getI i_M_clause_34 lf_99 (by decide) (Or.inl ft_11_12) (fun v34 => ?_)
  refine e_iald i_M_clause_37 (fun v37 => ?_)
  refine e_istore_n (L' := [some (.ref w), some (.int n1), some (.int v37), none, none]) i_M_clause_38 (of_decide_eq_true rfl) rfl ?_
  refine e_iload_n i_M_clause_39 rfl ?_
  refine e_bipush (v := 24) i_M_clause_40 (by decide) ?_
  refine e_icmpne (t := 48) i_M_clause_42 (by decide) ?_ ?_
  · refine e_iload_n i_M_clause_48 rfl ?_
    refine e_iconst (v := 3) i_M_clause_49 (by decide) ?_
    refine e_icmpgt (t := 65) i_M_clause_50 (by decide) ?_ ?_
    · exact rfl
    · refine e_aload_n i_M_clause_53 rfl ?_
      refine e_dup i_M_clause_54 rfl ?_
      refine e_getI i_M_clause_55 lf_101 (by decide) (Or.inl ft_11_19) (fun v55 => ?_)
      refine e_iconst (v := 1) i_M_clause_58 (by decide) ?_
      refine e_iload_n i_M_clause_59 rfl ?_
      refine e_ishl i_M_clause_60 ?_
      refine e_ior i_M_clause_61 ?_
      refine e_putf i_M_clause_62 lf_101 ft_11_19 rfl (fun s62 => ?_)
      exact rfl
  · refine e_bipush (v := 6) i_M_clause_45 (by decide) ?_
    exact e_iretI i_M_clause_47 rfl
set_option maxRecDepth 20000 in
set_option maxHeartbeats 1000000 in
theorem E_M_clause_65 (x : m_X) (ρ : Nat) (hρ : 11 ≤ ρ) (s : m_H) (w : Nat) (n1 : Int32) (n2 : Int32)  : m_D x ρ k_M_clause 65 [some (.ref w), some (.int n1), some (.int n2), none, none] [] s = (m_pf s 11 14 w (.int n1)).bind fun s67 => m_bV (m_M x k_M_nextToken [.ref w] s67) fun s71 => (m_fI s71 11 12 w).bind fun v75 => (m_fR s71 11 2 w).bind fun v87 => (m_is s71 v87 ((v75 + (1 : Int32)) + ((6 : Int32) * n2)) n1).bind fun s92 => m_bI (m_M x k_M_body [.ref w, .int n1, .int ((v75 + (1 : Int32)) + ((6 : Int32) * n2))] s92) fun v96 s96 => if v96 = 0 then ((m_fR s96 11 2 w).bind fun v110 => (m_fI s96 11 12 w).bind fun v114 => (m_ia x s96 v110 v114).bind fun v118 => (m_is s96 v110 v114 (v118 + (1 : Int32))).bind fun s121 => (m_fI s121 11 9 w).bind fun v123 => if v123 = 59 then (m_bV (m_M x k_M_nextToken [.ref w] s121) fun s134 => some (some (.int 0), s134)) else some (some (.int 1), s121)) else some (some (.int v96), s96) := by
  refine e_aload_n i_M_clause_65 rfl ?_
  refine e_iload_n i_M_clause_66 rfl ?_
  refine e_putf i_M_clause_67 lf_104 ft_11_14 rfl (fun s67 => ?_)
  refine e_aload_n i_M_clause_70 rfl ?_
  refine e_callV (as := [.ref w]) (st' := []) i_M_clause_71 lm_325 (Or.inr (Or.inl ⟨rfl, rfl⟩)) w_M_nextToken rfl rfl rfl (Nat.le_of_ble_eq_true rfl) (Nat.le_of_ble_eq_true rfl) (m_rlt (q_M_nextToken _) (Nat.lt_of_lt_of_le (by decide) hρ)) rfl (fun s71 => ?_)
  refine e_aload_n i_M_clause_74 rfl ?_
  refine e_getI i_M_clause_75 lf_99 (by decide) (Or.inl ft_11_12) (fun v75 => ?_)
  refine e_iconst (v := 1) i_M_clause_78 (by decide) ?_
  refine e_iadd i_M_clause_79 ?_
  refine e_bipush (v := 6) i_M_clause_80 (by decide) ?_
  refine e_iload_n i_M_clause_82 rfl ?_
  refine e_imul i_M_clause_83 ?_
  refine e_iadd i_M_clause_84 ?_
  refine e_istore_n (L' := [some (.ref w), some (.int n1), some (.int n2), some (.int ((v75 + (1 : Int32)) + ((6 : Int32) * n2))), none]) i_M_clause_85 (of_decide_eq_true rfl) rfl ?_
  refine e_aload_n i_M_clause_86 rfl ?_
  refine e_getR i_M_clause_87 lf_79 (by decide) ft_11_2 (fun v87 => ?_)
  refine e_iload_n i_M_clause_90 rfl ?_
  refine e_iload_n i_M_clause_91 rfl ?_
  refine e_iast i_M_clause_92 (fun s92 => ?_)
  refine e_aload_n i_M_clause_93 rfl ?_
  refine e_iload_n i_M_clause_94 rfl ?_
  refine e_iload_n i_M_clause_95 rfl ?_
  refine e_callI (as := [.ref w, .int n1, .int ((v75 + (1 : Int32)) + ((6 : Int32) * n2))]) (st' := []) i_M_clause_96 lm_328 (Or.inr (Or.inl ⟨rfl, rfl⟩)) w_M_body rfl rfl rfl (Nat.le_of_ble_eq_true rfl) (Nat.le_of_ble_eq_true rfl) (m_rlt (q_M_body _) (Nat.lt_of_lt_of_le (by decide) hρ)) rfl (fun v96 s96 => ?_)
  refine e_istore (L' := [some (.ref w), some (.int n1), some (.int n2), some (.int ((v75 + (1 : Int32)) + ((6 : Int32) * n2))), some (.int v96)]) i_M_clause_99 (of_decide_eq_true rfl) rfl ?_
  refine e_iload i_M_clause_101 rfl ?_
  refine e_ifeq (t := 109) i_M_clause_103 (by decide) ?_ ?_
  · refine e_aload_n i_M_clause_109 rfl ?_
    refine e_getR i_M_clause_110 lf_79 (by decide) ft_11_2 (fun v110 => ?_)
    refine e_aload_n i_M_clause_113 rfl ?_
    refine e_getI i_M_clause_114 lf_99 (by decide) (Or.inl ft_11_12) (fun v114 => ?_)
    refine e_dup2 i_M_clause_117 ⟨rfl, rfl⟩ ?_
    refine e_iald i_M_clause_118 (fun v118 => ?_)
    refine e_iconst (v := 1) i_M_clause_119 (by decide) ?_
    refine e_iadd i_M_clause_120 ?_
    refine e_iast i_M_clause_121 (fun s121 => ?_)
    refine e_aload_n i_M_clause_122 rfl ?_
    refine e_getI i_M_clause_123 lf_103 (by decide) (Or.inl ft_11_9) (fun v123 => ?_)
    refine e_bipush (v := 59) i_M_clause_126 (by decide) ?_
    refine e_icmpeq (t := 133) i_M_clause_128 (by decide) ?_ ?_
    · refine e_aload_n i_M_clause_133 rfl ?_
      refine e_callV (as := [.ref w]) (st' := []) i_M_clause_134 lm_325 (Or.inr (Or.inl ⟨rfl, rfl⟩)) w_M_nextToken rfl rfl rfl (Nat.le_of_ble_eq_true rfl) (Nat.le_of_ble_eq_true rfl) (m_rlt (q_M_nextToken _) (Nat.lt_of_lt_of_le (by decide) hρ)) rfl (fun s134 => ?_)
      refine e_iconst (v := 0) i_M_clause_137 (by decide) ?_
      exact e_iretI i_M_clause_138 rfl
    · refine e_iconst (v := 1) i_M_clause_131 (by decide) ?_
      exact e_iretI i_M_clause_132 rfl
  · refine e_iload i_M_clause_106 rfl ?_
    exact e_iretI i_M_clause_108 rfl
theorem i_M_body_0 : m_at k_M_body 0 = some (.iload_n 1, 1, 0) := m_at_of r_M_body (by decide +kernel)
theorem i_M_body_1 : m_at k_M_body 1 = some (.tableswitch (167) (4) (11) #[47, 73, 79, 104, 123, 134, 145, 156], 47, 0) := m_at_of r_M_body (by decide +kernel)
theorem i_M_body_48 : m_at k_M_body 48 = some (.aload_n 0, 1, 0) := m_at_of r_M_body (by decide +kernel)
theorem i_M_body_49 : m_at k_M_body 49 = some (.iload_n 2, 1, 0) := m_at_of r_M_body (by decide +kernel)
theorem i_M_body_50 : m_at k_M_body 50 = some (.iconst 1, 1, 0) := m_at_of r_M_body (by decide +kernel)
theorem i_M_body_51 : m_at k_M_body 51 = some (.bipush 9, 2, 0) := m_at_of r_M_body (by decide +kernel)
theorem i_M_body_53 : m_at k_M_body 53 = some (.bipush 99, 2, 0) := m_at_of r_M_body (by decide +kernel)
theorem i_M_body_55 : m_at k_M_body 55 = some (.bipush 111, 2, 0) := m_at_of r_M_body (by decide +kernel)
theorem i_M_body_57 : m_at k_M_body 57 = some (.bipush 105, 2, 0) := m_at_of r_M_body (by decide +kernel)
theorem i_M_body_59 : m_at k_M_body 59 = some (.bipush 110, 2, 0) := m_at_of r_M_body (by decide +kernel)
theorem i_M_body_61 : m_at k_M_body 61 = some (.bipush 115, 2, 0) := m_at_of r_M_body (by decide +kernel)
theorem i_M_body_63 : m_at k_M_body 63 = some (.invokestatic 147, 3, 329) := m_at_of r_M_body (by decide +kernel)
theorem i_M_body_66 : m_at k_M_body 66 = some (.iconst 0, 1, 0) := m_at_of r_M_body (by decide +kernel)
theorem i_M_body_67 : m_at k_M_body 67 = some (.sipush 9999, 3, 0) := m_at_of r_M_body (by decide +kernel)
theorem i_M_body_70 : m_at k_M_body 70 = some (.invokevirtual 248, 3, 330) := m_at_of r_M_body (by decide +kernel)
theorem i_M_body_73 : m_at k_M_body 73 = some (.ireturn, 1, 0) := m_at_of r_M_body (by decide +kernel)
theorem i_M_body_74 : m_at k_M_body 74 = some (.aload_n 0, 1, 0) := m_at_of r_M_body (by decide +kernel)
theorem i_M_body_75 : m_at k_M_body 75 = some (.iload_n 2, 1, 0) := m_at_of r_M_body (by decide +kernel)
theorem i_M_body_76 : m_at k_M_body 76 = some (.invokevirtual 252, 3, 331) := m_at_of r_M_body (by decide +kernel)
theorem i_M_body_79 : m_at k_M_body 79 = some (.ireturn, 1, 0) := m_at_of r_M_body (by decide +kernel)
theorem i_M_body_80 : m_at k_M_body 80 = some (.aload_n 0, 1, 0) := m_at_of r_M_body (by decide +kernel)
theorem i_M_body_81 : m_at k_M_body 81 = some (.iload_n 2, 1, 0) := m_at_of r_M_body (by decide +kernel)
theorem i_M_body_82 : m_at k_M_body 82 = some (.iconst 0, 1, 0) := m_at_of r_M_body (by decide +kernel)
theorem i_M_body_83 : m_at k_M_body 83 = some (.bipush 11, 2, 0) := m_at_of r_M_body (by decide +kernel)
theorem i_M_body_85 : m_at k_M_body 85 = some (.bipush 104, 2, 0) := m_at_of r_M_body (by decide +kernel)
theorem i_M_body_87 : m_at k_M_body 87 = some (.bipush 111, 2, 0) := m_at_of r_M_body (by decide +kernel)
theorem i_M_body_89 : m_at k_M_body 89 = some (.bipush 117, 2, 0) := m_at_of r_M_body (by decide +kernel)
theorem i_M_body_91 : m_at k_M_body 91 = some (.bipush 114, 2, 0) := m_at_of r_M_body (by decide +kernel)
theorem i_M_body_93 : m_at k_M_body 93 = some (.bipush 115, 2, 0) := m_at_of r_M_body (by decide +kernel)
theorem i_M_body_95 : m_at k_M_body 95 = some (.invokestatic 147, 3, 329) := m_at_of r_M_body (by decide +kernel)
theorem i_M_body_98 : m_at k_M_body 98 = some (.iconst 1, 1, 0) := m_at_of r_M_body (by decide +kernel)
theorem i_M_body_99 : m_at k_M_body 99 = some (.bipush 9, 2, 0) := m_at_of r_M_body (by decide +kernel)
theorem i_M_body_101 : m_at k_M_body 101 = some (.invokevirtual 248, 3, 330) := m_at_of r_M_body (by decide +kernel)
theorem i_M_body_104 : m_at k_M_body 104 = some (.ireturn, 1, 0) := m_at_of r_M_body (by decide +kernel)
theorem i_M_body_105 : m_at k_M_body 105 = some (.aload_n 0, 1, 0) := m_at_of r_M_body (by decide +kernel)
theorem i_M_body_106 : m_at k_M_body 106 = some (.iload_n 2, 1, 0) := m_at_of r_M_body (by decide +kernel)
theorem i_M_body_107 : m_at k_M_body 107 = some (.iconst 0, 1, 0) := m_at_of r_M_body (by decide +kernel)
theorem i_M_body_108 : m_at k_M_body 108 = some (.bipush 11, 2, 0) := m_at_of r_M_body (by decide +kernel)
theorem i_M_body_110 : m_at k_M_body 110 = some (.bipush 116, 2, 0) := m_at_of r_M_body (by decide +kernel)
theorem i_M_body_112 : m_at k_M_body 112 = some (.bipush 111, 2, 0) := m_at_of r_M_body (by decide +kernel)
theorem i_M_body_114 : m_at k_M_body 114 = some (.invokestatic 135, 3, 332) := m_at_of r_M_body (by decide +kernel)
theorem i_M_body_117 : m_at k_M_body 117 = some (.iconst 0, 1, 0) := m_at_of r_M_body (by decide +kernel)
theorem i_M_body_118 : m_at k_M_body 118 = some (.bipush 6, 2, 0) := m_at_of r_M_body (by decide +kernel)
theorem i_M_body_120 : m_at k_M_body 120 = some (.invokevirtual 248, 3, 330) := m_at_of r_M_body (by decide +kernel)
theorem i_M_body_123 : m_at k_M_body 123 = some (.ireturn, 1, 0) := m_at_of r_M_body (by decide +kernel)
theorem i_M_body_124 : m_at k_M_body 124 = some (.aload_n 0, 1, 0) := m_at_of r_M_body (by decide +kernel)
theorem i_M_body_125 : m_at k_M_body 125 = some (.iload_n 2, 1, 0) := m_at_of r_M_body (by decide +kernel)
theorem i_M_body_126 : m_at k_M_body 126 = some (.iconst 1, 1, 0) := m_at_of r_M_body (by decide +kernel)
theorem i_M_body_127 : m_at k_M_body 127 = some (.iadd, 1, 0) := m_at_of r_M_body (by decide +kernel)
theorem i_M_body_128 : m_at k_M_body 128 = some (.iconst 0, 1, 0) := m_at_of r_M_body (by decide +kernel)
theorem i_M_body_129 : m_at k_M_body 129 = some (.bipush 11, 2, 0) := m_at_of r_M_body (by decide +kernel)
theorem i_M_body_131 : m_at k_M_body 131 = some (.invokevirtual 237, 3, 333) := m_at_of r_M_body (by decide +kernel)
theorem i_M_body_134 : m_at k_M_body 134 = some (.ireturn, 1, 0) := m_at_of r_M_body (by decide +kernel)
theorem i_M_body_135 : m_at k_M_body 135 = some (.aload_n 0, 1, 0) := m_at_of r_M_body (by decide +kernel)
theorem i_M_body_136 : m_at k_M_body 136 = some (.iload_n 2, 1, 0) := m_at_of r_M_body (by decide +kernel)
theorem i_M_body_137 : m_at k_M_body 137 = some (.iconst 1, 1, 0) := m_at_of r_M_body (by decide +kernel)
theorem i_M_body_138 : m_at k_M_body 138 = some (.iadd, 1, 0) := m_at_of r_M_body (by decide +kernel)
theorem i_M_body_139 : m_at k_M_body 139 = some (.iconst 0, 1, 0) := m_at_of r_M_body (by decide +kernel)
theorem i_M_body_140 : m_at k_M_body 140 = some (.bipush 11, 2, 0) := m_at_of r_M_body (by decide +kernel)
theorem i_M_body_142 : m_at k_M_body 142 = some (.invokevirtual 237, 3, 333) := m_at_of r_M_body (by decide +kernel)
theorem i_M_body_145 : m_at k_M_body 145 = some (.ireturn, 1, 0) := m_at_of r_M_body (by decide +kernel)
theorem i_M_body_146 : m_at k_M_body 146 = some (.aload_n 0, 1, 0) := m_at_of r_M_body (by decide +kernel)
theorem i_M_body_147 : m_at k_M_body 147 = some (.iload_n 2, 1, 0) := m_at_of r_M_body (by decide +kernel)
theorem i_M_body_148 : m_at k_M_body 148 = some (.iconst 1, 1, 0) := m_at_of r_M_body (by decide +kernel)
theorem i_M_body_149 : m_at k_M_body 149 = some (.iadd, 1, 0) := m_at_of r_M_body (by decide +kernel)
theorem i_M_body_150 : m_at k_M_body 150 = some (.iconst 0, 1, 0) := m_at_of r_M_body (by decide +kernel)
theorem i_M_body_151 : m_at k_M_body 151 = some (.bipush 11, 2, 0) := m_at_of r_M_body (by decide +kernel)
theorem i_M_body_153 : m_at k_M_body 153 = some (.invokevirtual 237, 3, 333) := m_at_of r_M_body (by decide +kernel)
theorem i_M_body_156 : m_at k_M_body 156 = some (.ireturn, 1, 0) := m_at_of r_M_body (by decide +kernel)
theorem i_M_body_157 : m_at k_M_body 157 = some (.aload_n 0, 1, 0) := m_at_of r_M_body (by decide +kernel)
theorem i_M_body_158 : m_at k_M_body 158 = some (.iload_n 2, 1, 0) := m_at_of r_M_body (by decide +kernel)
theorem i_M_body_159 : m_at k_M_body 159 = some (.iconst 1, 1, 0) := m_at_of r_M_body (by decide +kernel)
theorem i_M_body_160 : m_at k_M_body 160 = some (.iadd, 1, 0) := m_at_of r_M_body (by decide +kernel)
theorem i_M_body_161 : m_at k_M_body 161 = some (.iconst 1, 1, 0) := m_at_of r_M_body (by decide +kernel)
theorem i_M_body_162 : m_at k_M_body 162 = some (.bipush 60, 2, 0) := m_at_of r_M_body (by decide +kernel)
theorem i_M_body_164 : m_at k_M_body 164 = some (.invokevirtual 237, 3, 333) := m_at_of r_M_body (by decide +kernel)
theorem i_M_body_167 : m_at k_M_body 167 = some (.ireturn, 1, 0) := m_at_of r_M_body (by decide +kernel)
theorem i_M_body_168 : m_at k_M_body 168 = some (.aload_n 0, 1, 0) := m_at_of r_M_body (by decide +kernel)
theorem i_M_body_169 : m_at k_M_body 169 = some (.iload_n 2, 1, 0) := m_at_of r_M_body (by decide +kernel)
theorem i_M_body_170 : m_at k_M_body 170 = some (.invokevirtual 255, 3, 334) := m_at_of r_M_body (by decide +kernel)
theorem i_M_body_173 : m_at k_M_body 173 = some (.ireturn, 1, 0) := m_at_of r_M_body (by decide +kernel)
set_option maxRecDepth 20000 in
set_option maxHeartbeats 1000000 in
theorem E_M_body (x : m_X) (s : m_H) (w : Nat) (n1 : Int32) (n2 : Int32) : m_M x k_M_body [.ref w, .int n1, .int n2] s = if m_isO s w 11 = true then (if n1 = 4 then (m_bL (m_M x k_M_w5 [.int 99, .int 111, .int 105, .int 110, .int 115] s) fun v63 s63 => m_bI (m_M x k_M_pair [.ref w, .int n2, .int 1, .int 9, .long v63, .int 0, .int 9999] s63) fun v70 s70 => some (some (.int v70), s70)) else if n1 = 5 then (m_bI (m_M x k_M_oweClause [.ref w, .int n2] s) fun v76 s76 => some (some (.int v76), s76)) else if n1 = 6 then (m_bL (m_M x k_M_w5 [.int 104, .int 111, .int 117, .int 114, .int 115] s) fun v95 s95 => m_bI (m_M x k_M_pair [.ref w, .int n2, .int 0, .int 11, .long v95, .int 1, .int 9] s95) fun v101 s101 => some (some (.int v101), s101)) else if n1 = 7 then (m_bL (m_M x k_M_w2 [.int 116, .int 111] s) fun v114 s114 => m_bI (m_M x k_M_pair [.ref w, .int n2, .int 0, .int 11, .long v114, .int 0, .int 6] s114) fun v120 s120 => some (some (.int v120), s120)) else if n1 = 8 then (m_bI (m_M x k_M_figure [.ref w, .int (n2 + (1 : Int32)), .int 0, .int 11] s) fun v131 s131 => some (some (.int v131), s131)) else if n1 = 9 then (m_bI (m_M x k_M_figure [.ref w, .int (n2 + (1 : Int32)), .int 0, .int 11] s) fun v142 s142 => some (some (.int v142), s142)) else if n1 = 10 then (m_bI (m_M x k_M_figure [.ref w, .int (n2 + (1 : Int32)), .int 0, .int 11] s) fun v153 s153 => some (some (.int v153), s153)) else if n1 = 11 then (m_bI (m_M x k_M_figure [.ref w, .int (n2 + (1 : Int32)), .int 1, .int 60] s) fun v164 s164 => some (some (.int v164), s164)) else m_bI (m_M x k_M_lawClause [.ref w, .int n2] s) fun v170 s170 => some (some (.int v170), s170)) else none := by
  refine e_M1 (L0 := [some (.ref w), some (.int n1), some (.int n2)]) rfl (by decide +kernel) rfl (q_M_body _) rfl ?_
  refine e_iload_n i_M_body_0 rfl ?_
  refine e_tsw (cs := [(4, 48), (5, 74), (6, 80), (7, 105), (8, 124), (9, 135), (10, 146), (11, 157)]) (td := 168) i_M_body_1 (by decide +kernel) ?_
  refine m_sw_c ?_ ?_
  · refine e_aload_n i_M_body_48 rfl ?_
    refine e_iload_n i_M_body_49 rfl ?_
    refine e_iconst (v := 1) i_M_body_50 (by decide) ?_
    refine e_bipush (v := 9) i_M_body_51 (by decide) ?_
    refine e_bipush (v := 99) i_M_body_53 (by decide) ?_
    refine e_bipush (v := 111) i_M_body_55 (by decide) ?_
    refine e_bipush (v := 105) i_M_body_57 (by decide) ?_
    refine e_bipush (v := 110) i_M_body_59 (by decide) ?_
    refine e_bipush (v := 115) i_M_body_61 (by decide) ?_
    refine e_callL (as := [.int 99, .int 111, .int 105, .int 110, .int 115]) (st' := [.int 9, .int 1, .int n2, .ref w]) i_M_body_63 lm_329 (Or.inl ⟨rfl, rfl⟩) w_M_w5 rfl rfl rfl (Nat.le_of_ble_eq_true rfl) (Nat.le_of_ble_eq_true rfl) (m_rlt (q_M_w5 _) (by decide)) rfl (fun v63 s63 => ?_)
    refine e_iconst (v := 0) i_M_body_66 (by decide) ?_
    refine e_sipush (v := 9999) i_M_body_67 (by decide) ?_
    refine e_callI (as := [.ref w, .int n2, .int 1, .int 9, .long v63, .int 0, .int 9999]) (st' := []) i_M_body_70 lm_330 (Or.inr (Or.inl ⟨rfl, rfl⟩)) w_M_pair rfl rfl rfl (Nat.le_of_ble_eq_true rfl) (Nat.le_of_ble_eq_true rfl) (m_rlt (q_M_pair _) (by decide)) rfl (fun v70 s70 => ?_)
    exact e_iretI i_M_body_73 rfl
  refine m_sw_c ?_ ?_
  · refine e_aload_n i_M_body_74 rfl ?_
    refine e_iload_n i_M_body_75 rfl ?_
    refine e_callI (as := [.ref w, .int n2]) (st' := []) i_M_body_76 lm_331 (Or.inr (Or.inl ⟨rfl, rfl⟩)) w_M_oweClause rfl rfl rfl (Nat.le_of_ble_eq_true rfl) (Nat.le_of_ble_eq_true rfl) (m_rlt (q_M_oweClause _) (by decide)) rfl (fun v76 s76 => ?_)
    exact e_iretI i_M_body_79 rfl
  refine m_sw_c ?_ ?_
  · refine e_aload_n i_M_body_80 rfl ?_
    refine e_iload_n i_M_body_81 rfl ?_
    refine e_iconst (v := 0) i_M_body_82 (by decide) ?_
    refine e_bipush (v := 11) i_M_body_83 (by decide) ?_
    refine e_bipush (v := 104) i_M_body_85 (by decide) ?_
    refine e_bipush (v := 111) i_M_body_87 (by decide) ?_
    refine e_bipush (v := 117) i_M_body_89 (by decide) ?_
    refine e_bipush (v := 114) i_M_body_91 (by decide) ?_
    refine e_bipush (v := 115) i_M_body_93 (by decide) ?_
    refine e_callL (as := [.int 104, .int 111, .int 117, .int 114, .int 115]) (st' := [.int 11, .int 0, .int n2, .ref w]) i_M_body_95 lm_329 (Or.inl ⟨rfl, rfl⟩) w_M_w5 rfl rfl rfl (Nat.le_of_ble_eq_true rfl) (Nat.le_of_ble_eq_true rfl) (m_rlt (q_M_w5 _) (by decide)) rfl (fun v95 s95 => ?_)
    refine e_iconst (v := 1) i_M_body_98 (by decide) ?_
    refine e_bipush (v := 9) i_M_body_99 (by decide) ?_
    refine e_callI (as := [.ref w, .int n2, .int 0, .int 11, .long v95, .int 1, .int 9]) (st' := []) i_M_body_101 lm_330 (Or.inr (Or.inl ⟨rfl, rfl⟩)) w_M_pair rfl rfl rfl (Nat.le_of_ble_eq_true rfl) (Nat.le_of_ble_eq_true rfl) (m_rlt (q_M_pair _) (by decide)) rfl (fun v101 s101 => ?_)
    exact e_iretI i_M_body_104 rfl
  refine m_sw_c ?_ ?_
  · refine e_aload_n i_M_body_105 rfl ?_
    refine e_iload_n i_M_body_106 rfl ?_
    refine e_iconst (v := 0) i_M_body_107 (by decide) ?_
    refine e_bipush (v := 11) i_M_body_108 (by decide) ?_
    refine e_bipush (v := 116) i_M_body_110 (by decide) ?_
    refine e_bipush (v := 111) i_M_body_112 (by decide) ?_
    refine e_callL (as := [.int 116, .int 111]) (st' := [.int 11, .int 0, .int n2, .ref w]) i_M_body_114 lm_332 (Or.inl ⟨rfl, rfl⟩) w_M_w2 rfl rfl rfl (Nat.le_of_ble_eq_true rfl) (Nat.le_of_ble_eq_true rfl) (m_rlt (q_M_w2 _) (by decide)) rfl (fun v114 s114 => ?_)
    refine e_iconst (v := 0) i_M_body_117 (by decide) ?_
    refine e_bipush (v := 6) i_M_body_118 (by decide) ?_
    refine e_callI (as := [.ref w, .int n2, .int 0, .int 11, .long v114, .int 0, .int 6]) (st' := []) i_M_body_120 lm_330 (Or.inr (Or.inl ⟨rfl, rfl⟩)) w_M_pair rfl rfl rfl (Nat.le_of_ble_eq_true rfl) (Nat.le_of_ble_eq_true rfl) (m_rlt (q_M_pair _) (by decide)) rfl (fun v120 s120 => ?_)
    exact e_iretI i_M_body_123 rfl
  refine m_sw_c ?_ ?_
  · refine e_aload_n i_M_body_124 rfl ?_
    refine e_iload_n i_M_body_125 rfl ?_
    refine e_iconst (v := 1) i_M_body_126 (by decide) ?_
    refine e_iadd i_M_body_127 ?_
    refine e_iconst (v := 0) i_M_body_128 (by decide) ?_
    refine e_bipush (v := 11) i_M_body_129 (by decide) ?_
    refine e_callI (as := [.ref w, .int (n2 + (1 : Int32)), .int 0, .int 11]) (st' := []) i_M_body_131 lm_333 (Or.inr (Or.inl ⟨rfl, rfl⟩)) w_M_figure rfl rfl rfl (Nat.le_of_ble_eq_true rfl) (Nat.le_of_ble_eq_true rfl) (m_rlt (q_M_figure _) (by decide)) rfl (fun v131 s131 => ?_)
    exact e_iretI i_M_body_134 rfl
  refine m_sw_c ?_ ?_
  · refine e_aload_n i_M_body_135 rfl ?_
    refine e_iload_n i_M_body_136 rfl ?_
    refine e_iconst (v := 1) i_M_body_137 (by decide) ?_
    refine e_iadd i_M_body_138 ?_
    refine e_iconst (v := 0) i_M_body_139 (by decide) ?_
    refine e_bipush (v := 11) i_M_body_140 (by decide) ?_
    refine e_callI (as := [.ref w, .int (n2 + (1 : Int32)), .int 0, .int 11]) (st' := []) i_M_body_142 lm_333 (Or.inr (Or.inl ⟨rfl, rfl⟩)) w_M_figure rfl rfl rfl (Nat.le_of_ble_eq_true rfl) (Nat.le_of_ble_eq_true rfl) (m_rlt (q_M_figure _) (by decide)) rfl (fun v142 s142 => ?_)
    exact e_iretI i_M_body_145 rfl
  refine m_sw_c ?_ ?_
  · refine e_aload_n i_M_body_146 rfl ?_
    refine e_iload_n i_M_body_147 rfl ?_
    refine e_iconst (v := 1) i_M_body_148 (by decide) ?_
    refine e_iadd i_M_body_149 ?_
    refine e_iconst (v := 0) i_M_body_150 (by decide) ?_
    refine e_bipush (v := 11) i_M_body_151 (by decide) ?_
    refine e_callI (as := [.ref w, .int (n2 + (1 : Int32)), .int 0, .int 11]) (st' := []) i_M_body_153 lm_333 (Or.inr (Or.inl ⟨rfl, rfl⟩)) w_M_figure rfl rfl rfl (Nat.le_of_ble_eq_true rfl) (Nat.le_of_ble_eq_true rfl) (m_rlt (q_M_figure _) (by decide)) rfl (fun v153 s153 => ?_)
    exact e_iretI i_M_body_156 rfl
  refine m_sw_c ?_ ?_
  · refine e_aload_n i_M_body_157 rfl ?_
    refine e_iload_n i_M_body_158 rfl ?_
    refine e_iconst (v := 1) i_M_body_159 (by decide) ?_
    refine e_iadd i_M_body_160 ?_
    refine e_iconst (v := 1) i_M_body_161 (by decide) ?_
    refine e_bipush (v := 60) i_M_body_162 (by decide) ?_
    refine e_callI (as := [.ref w, .int (n2 + (1 : Int32)), .int 1, .int 60]) (st' := []) i_M_body_164 lm_333 (Or.inr (Or.inl ⟨rfl, rfl⟩)) w_M_figure rfl rfl rfl (Nat.le_of_ble_eq_true rfl) (Nat.le_of_ble_eq_true rfl) (m_rlt (q_M_figure _) (by decide)) rfl (fun v164 s164 => ?_)
    exact e_iretI i_M_body_167 rfl
  refine m_sw_n ?_
  refine e_aload_n i_M_body_168 rfl ?_
  refine e_iload_n i_M_body_169 rfl ?_
  refine e_callI (as := [.ref w, .int n2]) (st' := []) i_M_body_170 lm_334 (Or.inr (Or.inl ⟨rfl, rfl⟩)) w_M_lawClause rfl rfl rfl (Nat.le_of_ble_eq_true rfl) (Nat.le_of_ble_eq_true rfl) (m_rlt (q_M_lawClause _) (by decide)) rfl (fun v170 s170 => ?_)
  exact e_iretI i_M_body_173 rfl
theorem i_M_lawClause_0 : m_at k_M_lawClause 0 = some (.aload_n 0, 1, 0) := m_at_of r_M_lawClause (by decide +kernel)
theorem i_M_lawClause_1 : m_at k_M_lawClause 1 = some (.getfield 16, 3, 79) := m_at_of r_M_lawClause (by decide +kernel)
theorem i_M_lawClause_4 : m_at k_M_lawClause 4 = some (.iload_n 1, 1, 0) := m_at_of r_M_lawClause (by decide +kernel)
theorem i_M_lawClause_5 : m_at k_M_lawClause 5 = some (.iconst 1, 1, 0) := m_at_of r_M_lawClause (by decide +kernel)
theorem i_M_lawClause_6 : m_at k_M_lawClause 6 = some (.iadd, 1, 0) := m_at_of r_M_lawClause (by decide +kernel)
theorem i_M_lawClause_7 : m_at k_M_lawClause 7 = some (.aload_n 0, 1, 0) := m_at_of r_M_lawClause (by decide +kernel)
theorem i_M_lawClause_8 : m_at k_M_lawClause 8 = some (.getfield 154, 3, 100) := m_at_of r_M_lawClause (by decide +kernel)
theorem i_M_lawClause_11 : m_at k_M_lawClause 11 = some (.iastore, 1, 0) := m_at_of r_M_lawClause (by decide +kernel)
theorem i_M_lawClause_12 : m_at k_M_lawClause 12 = some (.aload_n 0, 1, 0) := m_at_of r_M_lawClause (by decide +kernel)
theorem i_M_lawClause_13 : m_at k_M_lawClause 13 = some (.invokevirtual 241, 3, 335) := m_at_of r_M_lawClause (by decide +kernel)
theorem i_M_lawClause_16 : m_at k_M_lawClause 16 = some (.istore_n 2, 1, 0) := m_at_of r_M_lawClause (by decide +kernel)
theorem i_M_lawClause_17 : m_at k_M_lawClause 17 = some (.aload_n 0, 1, 0) := m_at_of r_M_lawClause (by decide +kernel)
theorem i_M_lawClause_18 : m_at k_M_lawClause 18 = some (.getfield 16, 3, 79) := m_at_of r_M_lawClause (by decide +kernel)
theorem i_M_lawClause_21 : m_at k_M_lawClause 21 = some (.iload_n 1, 1, 0) := m_at_of r_M_lawClause (by decide +kernel)
theorem i_M_lawClause_22 : m_at k_M_lawClause 22 = some (.iconst 2, 1, 0) := m_at_of r_M_lawClause (by decide +kernel)
theorem i_M_lawClause_23 : m_at k_M_lawClause 23 = some (.iadd, 1, 0) := m_at_of r_M_lawClause (by decide +kernel)
theorem i_M_lawClause_24 : m_at k_M_lawClause 24 = some (.aload_n 0, 1, 0) := m_at_of r_M_lawClause (by decide +kernel)
theorem i_M_lawClause_25 : m_at k_M_lawClause 25 = some (.getfield 154, 3, 100) := m_at_of r_M_lawClause (by decide +kernel)
theorem i_M_lawClause_28 : m_at k_M_lawClause 28 = some (.iastore, 1, 0) := m_at_of r_M_lawClause (by decide +kernel)
theorem i_M_lawClause_29 : m_at k_M_lawClause 29 = some (.iload_n 2, 1, 0) := m_at_of r_M_lawClause (by decide +kernel)
theorem i_M_lawClause_30 : m_at k_M_lawClause 30 = some (.ireturn, 1, 0) := m_at_of r_M_lawClause (by decide +kernel)
set_option maxRecDepth 20000 in
set_option maxHeartbeats 1000000 in
theorem E_M_lawClause (x : m_X) (s : m_H) (w : Nat) (n1 : Int32) : m_M x k_M_lawClause [.ref w, .int n1] s = if m_isO s w 11 = true then ((m_fR s 11 2 w).bind fun v1 => (m_fI s 11 13 w).bind fun v8 => (m_is s v1 (n1 + (1 : Int32)) v8).bind fun s11 => m_bI (m_M x k_M_summed [.ref w] s11) fun v13 s13 => (m_fR s13 11 2 w).bind fun v18 => (m_fI s13 11 13 w).bind fun v25 => (m_is s13 v18 (n1 + (2 : Int32)) v25).bind fun s28 => some (some (.int v13), s28)) else none := by
  refine e_M1 (L0 := [some (.ref w), some (.int n1), none]) rfl (by decide +kernel) rfl (q_M_lawClause _) rfl ?_
  refine e_aload_n i_M_lawClause_0 rfl ?_
  refine e_getR i_M_lawClause_1 lf_79 (by decide) ft_11_2 (fun v1 => ?_)
  refine e_iload_n i_M_lawClause_4 rfl ?_
  refine e_iconst (v := 1) i_M_lawClause_5 (by decide) ?_
  refine e_iadd i_M_lawClause_6 ?_
  refine e_aload_n i_M_lawClause_7 rfl ?_
  refine e_getI i_M_lawClause_8 lf_100 (by decide) (Or.inl ft_11_13) (fun v8 => ?_)
  refine e_iast i_M_lawClause_11 (fun s11 => ?_)
  refine e_aload_n i_M_lawClause_12 rfl ?_
  refine e_callI (as := [.ref w]) (st' := []) i_M_lawClause_13 lm_335 (Or.inr (Or.inl ⟨rfl, rfl⟩)) w_M_summed rfl rfl rfl (Nat.le_of_ble_eq_true rfl) (Nat.le_of_ble_eq_true rfl) (m_rlt (q_M_summed _) (by decide)) rfl (fun v13 s13 => ?_)
  refine e_istore_n (L' := [some (.ref w), some (.int n1), some (.int v13)]) i_M_lawClause_16 (of_decide_eq_true rfl) rfl ?_
  refine e_aload_n i_M_lawClause_17 rfl ?_
  refine e_getR i_M_lawClause_18 lf_79 (by decide) ft_11_2 (fun v18 => ?_)
  refine e_iload_n i_M_lawClause_21 rfl ?_
  refine e_iconst (v := 2) i_M_lawClause_22 (by decide) ?_
  refine e_iadd i_M_lawClause_23 ?_
  refine e_aload_n i_M_lawClause_24 rfl ?_
  refine e_getI i_M_lawClause_25 lf_100 (by decide) (Or.inl ft_11_13) (fun v25 => ?_)
  refine e_iast i_M_lawClause_28 (fun s28 => ?_)
  refine e_iload_n i_M_lawClause_29 rfl ?_
  exact e_iretI i_M_lawClause_30 rfl
theorem i_M_summed_0 : m_at k_M_summed 0 = some (.aload_n 0, 1, 0) := m_at_of r_M_summed (by decide +kernel)
theorem i_M_summed_1 : m_at k_M_summed 1 = some (.iconst 0, 1, 0) := m_at_of r_M_summed (by decide +kernel)
theorem i_M_summed_2 : m_at k_M_summed 2 = some (.putfield 168, 3, 105) := m_at_of r_M_summed (by decide +kernel)
theorem i_M_summed_5 : m_at k_M_summed 5 = some (.aload_n 0, 1, 0) := m_at_of r_M_summed (by decide +kernel)
theorem i_M_summed_6 : m_at k_M_summed 6 = some (.iconst 0, 1, 0) := m_at_of r_M_summed (by decide +kernel)
theorem i_M_summed_7 : m_at k_M_summed 7 = some (.putfield 178, 3, 106) := m_at_of r_M_summed (by decide +kernel)
theorem i_M_summed_10 : m_at k_M_summed 10 = some (.aload_n 0, 1, 0) := m_at_of r_M_summed (by decide +kernel)
theorem i_M_summed_11 : m_at k_M_summed 11 = some (.iconst 0, 1, 0) := m_at_of r_M_summed (by decide +kernel)
theorem i_M_summed_12 : m_at k_M_summed 12 = some (.putfield 216, 3, 107) := m_at_of r_M_summed (by decide +kernel)
theorem i_M_summed_15 : m_at k_M_summed 15 = some (.aload_n 0, 1, 0) := m_at_of r_M_summed (by decide +kernel)
theorem i_M_summed_16 : m_at k_M_summed 16 = some (.getfield 216, 3, 107) := m_at_of r_M_summed (by decide +kernel)
theorem i_M_summed_19 : m_at k_M_summed 19 = some (.ifCond .eq (10), 3, 0) := m_at_of r_M_summed (by decide +kernel)
theorem i_M_summed_22 : m_at k_M_summed 22 = some (.aload_n 0, 1, 0) := m_at_of r_M_summed (by decide +kernel)
theorem i_M_summed_23 : m_at k_M_summed 23 = some (.invokevirtual 231, 3, 336) := m_at_of r_M_summed (by decide +kernel)
theorem i_M_summed_26 : m_at k_M_summed 26 = some (.goto (7), 3, 0) := m_at_of r_M_summed (by decide +kernel)
theorem i_M_summed_29 : m_at k_M_summed 29 = some (.aload_n 0, 1, 0) := m_at_of r_M_summed (by decide +kernel)
theorem i_M_summed_30 : m_at k_M_summed 30 = some (.invokevirtual 234, 3, 337) := m_at_of r_M_summed (by decide +kernel)
theorem i_M_summed_33 : m_at k_M_summed 33 = some (.istore_n 1, 1, 0) := m_at_of r_M_summed (by decide +kernel)
theorem i_M_summed_34 : m_at k_M_summed 34 = some (.iload_n 1, 1, 0) := m_at_of r_M_summed (by decide +kernel)
theorem i_M_summed_35 : m_at k_M_summed 35 = some (.ifCond .le (5), 3, 0) := m_at_of r_M_summed (by decide +kernel)
theorem i_M_summed_38 : m_at k_M_summed 38 = some (.iload_n 1, 1, 0) := m_at_of r_M_summed (by decide +kernel)
theorem i_M_summed_39 : m_at k_M_summed 39 = some (.ireturn, 1, 0) := m_at_of r_M_summed (by decide +kernel)
theorem i_M_summed_40 : m_at k_M_summed 40 = some (.iload_n 1, 1, 0) := m_at_of r_M_summed (by decide +kernel)
theorem i_M_summed_41 : m_at k_M_summed 41 = some (.ifCond .ne (6), 3, 0) := m_at_of r_M_summed (by decide +kernel)
theorem i_M_summed_44 : m_at k_M_summed 44 = some (.goto (-29), 3, 0) := m_at_of r_M_summed (by decide +kernel)
theorem i_M_summed_47 : m_at k_M_summed 47 = some (.aload_n 0, 1, 0) := m_at_of r_M_summed (by decide +kernel)
theorem i_M_summed_48 : m_at k_M_summed 48 = some (.invokevirtual 185, 3, 338) := m_at_of r_M_summed (by decide +kernel)
theorem i_M_summed_51 : m_at k_M_summed 51 = some (.ifCond .lt (5), 3, 0) := m_at_of r_M_summed (by decide +kernel)
theorem i_M_summed_54 : m_at k_M_summed 54 = some (.iconst 1, 1, 0) := m_at_of r_M_summed (by decide +kernel)
theorem i_M_summed_55 : m_at k_M_summed 55 = some (.ireturn, 1, 0) := m_at_of r_M_summed (by decide +kernel)
theorem i_M_summed_56 : m_at k_M_summed 56 = some (.aload_n 0, 1, 0) := m_at_of r_M_summed (by decide +kernel)
theorem i_M_summed_57 : m_at k_M_summed 57 = some (.iconst 1, 1, 0) := m_at_of r_M_summed (by decide +kernel)
theorem i_M_summed_58 : m_at k_M_summed 58 = some (.invokevirtual 213, 3, 339) := m_at_of r_M_summed (by decide +kernel)
theorem i_M_summed_61 : m_at k_M_summed 61 = some (.iconst 0, 1, 0) := m_at_of r_M_summed (by decide +kernel)
theorem i_M_summed_62 : m_at k_M_summed 62 = some (.ireturn, 1, 0) := m_at_of r_M_summed (by decide +kernel)
set_option maxRecDepth 20000 in
set_option maxHeartbeats 1000000 in
theorem E_M_summed (x : m_X) (s : m_H) (w : Nat) : m_M x k_M_summed [.ref w] s = if m_isO s w 11 = true then ((m_pf s 11 16 w (.int 0)).bind fun s2 => (m_pf s2 11 17 w (.int 0)).bind fun s7 => (m_pf s7 11 18 w (.int 0)).bind fun s12 => m_D x 8 k_M_summed 15 [some (.ref w), none] [] s12) else none := by
  refine e_M1 (L0 := [some (.ref w), none]) rfl (by decide +kernel) rfl (q_M_summed _) rfl ?_
  refine e_aload_n i_M_summed_0 rfl ?_
  refine e_iconst (v := 0) i_M_summed_1 (by decide) ?_
  refine e_putf i_M_summed_2 lf_105 ft_11_16 rfl (fun s2 => ?_)
  refine e_aload_n i_M_summed_5 rfl ?_
  refine e_iconst (v := 0) i_M_summed_6 (by decide) ?_
  refine e_putf i_M_summed_7 lf_106 ft_11_17 rfl (fun s7 => ?_)
  refine e_aload_n i_M_summed_10 rfl ?_
  refine e_iconst (v := 0) i_M_summed_11 (by decide) ?_
  refine e_putf i_M_summed_12 lf_107 ft_11_18 (by decide) (fun s12 => ?_)
  exact rfl
set_option maxRecDepth 20000 in
set_option maxHeartbeats 1000000 in
theorem E_M_summed_15 (x : m_X) (ρ : Nat) (hρ : 8 ≤ ρ) (s : m_H) (w : Nat) (d1 : Option Value) (hd1 : m_nl d1 = true) : m_D x ρ k_M_summed 15 [some (.ref w), d1] [] s = (m_fI s 11 18 w).bind fun v16 => if v16 = 0 then (m_bI (m_M x k_M_beginOne [.ref w] s) fun v30 s30 => m_D x ρ k_M_summed 33 [some (.ref w), d1] [.int v30] s30) else m_bI (m_M x k_M_behindOne [.ref w] s) fun v23 s23 => m_D x ρ k_M_summed 33 [some (.ref w), d1] [.int v23] s23 := by
  refine e_aload_n i_M_summed_15 rfl ?_
  refine e_getI i_M_summed_16 lf_107 (by decide) (Or.inr ft_11_18) (fun v16 => ?_)
  refine e_ifeq (t := 29) i_M_summed_19 (by decide) ?_ ?_
  · refine e_aload_n i_M_summed_29 rfl ?_
    refine e_callI (as := [.ref w]) (st' := []) i_M_summed_30 lm_337 (Or.inr (Or.inl ⟨rfl, rfl⟩)) w_M_beginOne rfl rfl rfl (Nat.le_of_ble_eq_true rfl) (Nat.le_of_ble_eq_true rfl) (m_rlt (q_M_beginOne _) (Nat.lt_of_lt_of_le (by decide) hρ)) rfl (fun v30 s30 => ?_)
    exact rfl
  · refine e_aload_n i_M_summed_22 rfl ?_
    refine e_callI (as := [.ref w]) (st' := []) i_M_summed_23 lm_336 (Or.inr (Or.inl ⟨rfl, rfl⟩)) w_M_behindOne rfl rfl rfl (Nat.le_of_ble_eq_true rfl) (Nat.le_of_ble_eq_true rfl) (m_rlt (q_M_behindOne _) (Nat.lt_of_lt_of_le (by decide) hρ)) rfl (fun v23 s23 => ?_)
    refine e_goto (t := 33) i_M_summed_26 (by decide) ?_
    exact rfl
set_option maxRecDepth 20000 in
set_option maxHeartbeats 1000000 in
theorem E_M_summed_33 (x : m_X) (ρ : Nat) (hρ : 8 ≤ ρ) (s : m_H) (w : Nat) (d1 : Option Value) (nt0 : Int32) (hd1 : m_nl d1 = true) : m_D x ρ k_M_summed 33 [some (.ref w), d1] [.int nt0] s = if nt0 ≤ 0 then (if nt0 = 0 then (m_D x ρ k_M_summed 15 [some (.ref w), some (.int nt0)] [] s) else m_bI (m_M x k_M_openNow [.ref w] s) fun v48 s48 => if v48 < 0 then (m_bV (m_M x k_M_settle [.ref w, .int 1] s48) fun s58 => some (some (.int 0), s58)) else some (some (.int 1), s48)) else some (some (.int nt0), s) := by
  refine e_istore_n (L' := [some (.ref w), some (.int nt0)]) i_M_summed_33 (of_decide_eq_true rfl) rfl ?_
  refine e_iload_n i_M_summed_34 rfl ?_
  refine e_ifle (t := 40) i_M_summed_35 (by decide) ?_ ?_
  · refine e_iload_n i_M_summed_40 rfl ?_
    refine e_ifne (t := 47) i_M_summed_41 (by decide) ?_ ?_
    · refine e_aload_n i_M_summed_47 rfl ?_
      refine e_callI (as := [.ref w]) (st' := []) i_M_summed_48 lm_338 (Or.inr (Or.inl ⟨rfl, rfl⟩)) w_M_openNow rfl rfl rfl (Nat.le_of_ble_eq_true rfl) (Nat.le_of_ble_eq_true rfl) (m_rlt (q_M_openNow _) (Nat.lt_of_lt_of_le (by decide) hρ)) rfl (fun v48 s48 => ?_)
      refine e_iflt (t := 56) i_M_summed_51 (by decide) ?_ ?_
      · refine e_aload_n i_M_summed_56 rfl ?_
        refine e_iconst (v := 1) i_M_summed_57 (by decide) ?_
        refine e_callV (as := [.ref w, .int 1]) (st' := []) i_M_summed_58 lm_339 (Or.inr (Or.inl ⟨rfl, rfl⟩)) w_M_settle rfl rfl rfl (Nat.le_of_ble_eq_true rfl) (Nat.le_of_ble_eq_true rfl) (m_rlt (q_M_settle _) (Nat.lt_of_lt_of_le (by decide) hρ)) rfl (fun s58 => ?_)
        refine e_iconst (v := 0) i_M_summed_61 (by decide) ?_
        exact e_iretI i_M_summed_62 rfl
      · refine e_iconst (v := 1) i_M_summed_54 (by decide) ?_
        exact e_iretI i_M_summed_55 rfl
    · refine e_goto (t := 15) i_M_summed_44 (by decide) ?_
      exact rfl
  · refine e_iload_n i_M_summed_38 rfl ?_
    exact e_iretI i_M_summed_39 rfl
theorem i_M_beginOne_0 : m_at k_M_beginOne 0 = some (.aload_n 0, 1, 0) := m_at_of r_M_beginOne (by decide +kernel)
theorem i_M_beginOne_1 : m_at k_M_beginOne 1 = some (.getfield 113, 3, 103) := m_at_of r_M_beginOne (by decide +kernel)
theorem i_M_beginOne_4 : m_at k_M_beginOne 4 = some (.iconst 1, 1, 0) := m_at_of r_M_beginOne (by decide +kernel)
theorem i_M_beginOne_5 : m_at k_M_beginOne 5 = some (.if_icmp .ne (15), 3, 0) := m_at_of r_M_beginOne (by decide +kernel)
theorem i_M_beginOne_8 : m_at k_M_beginOne 8 = some (.aload_n 0, 1, 0) := m_at_of r_M_beginOne (by decide +kernel)
theorem i_M_beginOne_9 : m_at k_M_beginOne 9 = some (.getfield 119, 3, 108) := m_at_of r_M_beginOne (by decide +kernel)
theorem i_M_beginOne_12 : m_at k_M_beginOne 12 = some (.sipush 9999, 3, 0) := m_at_of r_M_beginOne (by decide +kernel)
theorem i_M_beginOne_15 : m_at k_M_beginOne 15 = some (.if_icmp .le (5), 3, 0) := m_at_of r_M_beginOne (by decide +kernel)
theorem i_M_beginOne_18 : m_at k_M_beginOne 18 = some (.iconst 2, 1, 0) := m_at_of r_M_beginOne (by decide +kernel)
theorem i_M_beginOne_19 : m_at k_M_beginOne 19 = some (.ireturn, 1, 0) := m_at_of r_M_beginOne (by decide +kernel)
theorem i_M_beginOne_20 : m_at k_M_beginOne 20 = some (.aload_n 0, 1, 0) := m_at_of r_M_beginOne (by decide +kernel)
theorem i_M_beginOne_21 : m_at k_M_beginOne 21 = some (.invokevirtual 194, 3, 340) := m_at_of r_M_beginOne (by decide +kernel)
theorem i_M_beginOne_24 : m_at k_M_beginOne 24 = some (.istore_n 1, 1, 0) := m_at_of r_M_beginOne (by decide +kernel)
theorem i_M_beginOne_25 : m_at k_M_beginOne 25 = some (.iload_n 1, 1, 0) := m_at_of r_M_beginOne (by decide +kernel)
theorem i_M_beginOne_26 : m_at k_M_beginOne 26 = some (.ifCond .lt (13), 3, 0) := m_at_of r_M_beginOne (by decide +kernel)
theorem i_M_beginOne_29 : m_at k_M_beginOne 29 = some (.aload_n 0, 1, 0) := m_at_of r_M_beginOne (by decide +kernel)
theorem i_M_beginOne_30 : m_at k_M_beginOne 30 = some (.iload_n 1, 1, 0) := m_at_of r_M_beginOne (by decide +kernel)
theorem i_M_beginOne_31 : m_at k_M_beginOne 31 = some (.invokevirtual 197, 3, 341) := m_at_of r_M_beginOne (by decide +kernel)
theorem i_M_beginOne_34 : m_at k_M_beginOne 34 = some (.ifCond .ne (5), 3, 0) := m_at_of r_M_beginOne (by decide +kernel)
theorem i_M_beginOne_37 : m_at k_M_beginOne 37 = some (.iconst 5, 1, 0) := m_at_of r_M_beginOne (by decide +kernel)
theorem i_M_beginOne_38 : m_at k_M_beginOne 38 = some (.ireturn, 1, 0) := m_at_of r_M_beginOne (by decide +kernel)
theorem i_M_beginOne_39 : m_at k_M_beginOne 39 = some (.aload_n 0, 1, 0) := m_at_of r_M_beginOne (by decide +kernel)
theorem i_M_beginOne_40 : m_at k_M_beginOne 40 = some (.getfield 113, 3, 103) := m_at_of r_M_beginOne (by decide +kernel)
theorem i_M_beginOne_43 : m_at k_M_beginOne 43 = some (.iconst 1, 1, 0) := m_at_of r_M_beginOne (by decide +kernel)
theorem i_M_beginOne_44 : m_at k_M_beginOne 44 = some (.if_icmp .eq (7), 3, 0) := m_at_of r_M_beginOne (by decide +kernel)
theorem i_M_beginOne_47 : m_at k_M_beginOne 47 = some (.iload_n 1, 1, 0) := m_at_of r_M_beginOne (by decide +kernel)
theorem i_M_beginOne_48 : m_at k_M_beginOne 48 = some (.ifCond .lt (45), 3, 0) := m_at_of r_M_beginOne (by decide +kernel)
theorem i_M_beginOne_51 : m_at k_M_beginOne 51 = some (.aload_n 0, 1, 0) := m_at_of r_M_beginOne (by decide +kernel)
theorem i_M_beginOne_52 : m_at k_M_beginOne 52 = some (.aload_n 0, 1, 0) := m_at_of r_M_beginOne (by decide +kernel)
theorem i_M_beginOne_53 : m_at k_M_beginOne 53 = some (.getfield 113, 3, 103) := m_at_of r_M_beginOne (by decide +kernel)
theorem i_M_beginOne_56 : m_at k_M_beginOne 56 = some (.iconst 1, 1, 0) := m_at_of r_M_beginOne (by decide +kernel)
theorem i_M_beginOne_57 : m_at k_M_beginOne 57 = some (.if_icmp .ne (7), 3, 0) := m_at_of r_M_beginOne (by decide +kernel)
theorem i_M_beginOne_60 : m_at k_M_beginOne 60 = some (.iconst 0, 1, 0) := m_at_of r_M_beginOne (by decide +kernel)
theorem i_M_beginOne_61 : m_at k_M_beginOne 61 = some (.goto (4), 3, 0) := m_at_of r_M_beginOne (by decide +kernel)
theorem i_M_beginOne_64 : m_at k_M_beginOne 64 = some (.iconst 1, 1, 0) := m_at_of r_M_beginOne (by decide +kernel)
theorem i_M_beginOne_65 : m_at k_M_beginOne 65 = some (.aload_n 0, 1, 0) := m_at_of r_M_beginOne (by decide +kernel)
theorem i_M_beginOne_66 : m_at k_M_beginOne 66 = some (.getfield 113, 3, 103) := m_at_of r_M_beginOne (by decide +kernel)
theorem i_M_beginOne_69 : m_at k_M_beginOne 69 = some (.iconst 1, 1, 0) := m_at_of r_M_beginOne (by decide +kernel)
theorem i_M_beginOne_70 : m_at k_M_beginOne 70 = some (.if_icmp .ne (10), 3, 0) := m_at_of r_M_beginOne (by decide +kernel)
theorem i_M_beginOne_73 : m_at k_M_beginOne 73 = some (.aload_n 0, 1, 0) := m_at_of r_M_beginOne (by decide +kernel)
theorem i_M_beginOne_74 : m_at k_M_beginOne 74 = some (.getfield 119, 3, 108) := m_at_of r_M_beginOne (by decide +kernel)
theorem i_M_beginOne_77 : m_at k_M_beginOne 77 = some (.goto (4), 3, 0) := m_at_of r_M_beginOne (by decide +kernel)
theorem i_M_beginOne_80 : m_at k_M_beginOne 80 = some (.iload_n 1, 1, 0) := m_at_of r_M_beginOne (by decide +kernel)
theorem i_M_beginOne_81 : m_at k_M_beginOne 81 = some (.invokevirtual 174, 3, 342) := m_at_of r_M_beginOne (by decide +kernel)
theorem i_M_beginOne_84 : m_at k_M_beginOne 84 = some (.aload_n 0, 1, 0) := m_at_of r_M_beginOne (by decide +kernel)
theorem i_M_beginOne_85 : m_at k_M_beginOne 85 = some (.invokevirtual 191, 3, 325) := m_at_of r_M_beginOne (by decide +kernel)
theorem i_M_beginOne_88 : m_at k_M_beginOne 88 = some (.aload_n 0, 1, 0) := m_at_of r_M_beginOne (by decide +kernel)
theorem i_M_beginOne_89 : m_at k_M_beginOne 89 = some (.invokevirtual 200, 3, 343) := m_at_of r_M_beginOne (by decide +kernel)
theorem i_M_beginOne_92 : m_at k_M_beginOne 92 = some (.ireturn, 1, 0) := m_at_of r_M_beginOne (by decide +kernel)
theorem i_M_beginOne_93 : m_at k_M_beginOne 93 = some (.aload_n 0, 1, 0) := m_at_of r_M_beginOne (by decide +kernel)
theorem i_M_beginOne_94 : m_at k_M_beginOne 94 = some (.getfield 113, 3, 103) := m_at_of r_M_beginOne (by decide +kernel)
theorem i_M_beginOne_97 : m_at k_M_beginOne 97 = some (.bipush 40, 2, 0) := m_at_of r_M_beginOne (by decide +kernel)
theorem i_M_beginOne_99 : m_at k_M_beginOne 99 = some (.if_icmp .ne (10), 3, 0) := m_at_of r_M_beginOne (by decide +kernel)
theorem i_M_beginOne_102 : m_at k_M_beginOne 102 = some (.aload_n 0, 1, 0) := m_at_of r_M_beginOne (by decide +kernel)
theorem i_M_beginOne_103 : m_at k_M_beginOne 103 = some (.bipush 40, 2, 0) := m_at_of r_M_beginOne (by decide +kernel)
theorem i_M_beginOne_105 : m_at k_M_beginOne 105 = some (.invokevirtual 203, 3, 344) := m_at_of r_M_beginOne (by decide +kernel)
theorem i_M_beginOne_108 : m_at k_M_beginOne 108 = some (.ireturn, 1, 0) := m_at_of r_M_beginOne (by decide +kernel)
theorem i_M_beginOne_109 : m_at k_M_beginOne 109 = some (.aload_n 0, 1, 0) := m_at_of r_M_beginOne (by decide +kernel)
theorem i_M_beginOne_110 : m_at k_M_beginOne 110 = some (.getfield 113, 3, 103) := m_at_of r_M_beginOne (by decide +kernel)
theorem i_M_beginOne_113 : m_at k_M_beginOne 113 = some (.bipush 45, 2, 0) := m_at_of r_M_beginOne (by decide +kernel)
theorem i_M_beginOne_115 : m_at k_M_beginOne 115 = some (.if_icmp .ne (9), 3, 0) := m_at_of r_M_beginOne (by decide +kernel)
theorem i_M_beginOne_118 : m_at k_M_beginOne 118 = some (.aload_n 0, 1, 0) := m_at_of r_M_beginOne (by decide +kernel)
theorem i_M_beginOne_119 : m_at k_M_beginOne 119 = some (.iconst 5, 1, 0) := m_at_of r_M_beginOne (by decide +kernel)
theorem i_M_beginOne_120 : m_at k_M_beginOne 120 = some (.invokevirtual 203, 3, 344) := m_at_of r_M_beginOne (by decide +kernel)
theorem i_M_beginOne_123 : m_at k_M_beginOne 123 = some (.ireturn, 1, 0) := m_at_of r_M_beginOne (by decide +kernel)
theorem i_M_beginOne_124 : m_at k_M_beginOne 124 = some (.aload_n 0, 1, 0) := m_at_of r_M_beginOne (by decide +kernel)
theorem i_M_beginOne_125 : m_at k_M_beginOne 125 = some (.bipush 99, 2, 0) := m_at_of r_M_beginOne (by decide +kernel)
theorem i_M_beginOne_127 : m_at k_M_beginOne 127 = some (.bipush 111, 2, 0) := m_at_of r_M_beginOne (by decide +kernel)
theorem i_M_beginOne_129 : m_at k_M_beginOne 129 = some (.bipush 109, 2, 0) := m_at_of r_M_beginOne (by decide +kernel)
theorem i_M_beginOne_131 : m_at k_M_beginOne 131 = some (.bipush 109, 2, 0) := m_at_of r_M_beginOne (by decide +kernel)
theorem i_M_beginOne_133 : m_at k_M_beginOne 133 = some (.bipush 111, 2, 0) := m_at_of r_M_beginOne (by decide +kernel)
theorem i_M_beginOne_135 : m_at k_M_beginOne 135 = some (.bipush 110, 2, 0) := m_at_of r_M_beginOne (by decide +kernel)
theorem i_M_beginOne_137 : m_at k_M_beginOne 137 = some (.invokestatic 157, 3, 345) := m_at_of r_M_beginOne (by decide +kernel)
theorem i_M_beginOne_140 : m_at k_M_beginOne 140 = some (.invokevirtual 206, 3, 346) := m_at_of r_M_beginOne (by decide +kernel)
theorem i_M_beginOne_143 : m_at k_M_beginOne 143 = some (.ifCond .eq (10), 3, 0) := m_at_of r_M_beginOne (by decide +kernel)
theorem i_M_beginOne_146 : m_at k_M_beginOne 146 = some (.aload_n 0, 1, 0) := m_at_of r_M_beginOne (by decide +kernel)
theorem i_M_beginOne_147 : m_at k_M_beginOne 147 = some (.bipush 41, 2, 0) := m_at_of r_M_beginOne (by decide +kernel)
theorem i_M_beginOne_149 : m_at k_M_beginOne 149 = some (.invokevirtual 203, 3, 344) := m_at_of r_M_beginOne (by decide +kernel)
theorem i_M_beginOne_152 : m_at k_M_beginOne 152 = some (.ireturn, 1, 0) := m_at_of r_M_beginOne (by decide +kernel)
theorem i_M_beginOne_153 : m_at k_M_beginOne 153 = some (.aload_n 0, 1, 0) := m_at_of r_M_beginOne (by decide +kernel)
theorem i_M_beginOne_154 : m_at k_M_beginOne 154 = some (.bipush 108, 2, 0) := m_at_of r_M_beginOne (by decide +kernel)
theorem i_M_beginOne_156 : m_at k_M_beginOne 156 = some (.bipush 101, 2, 0) := m_at_of r_M_beginOne (by decide +kernel)
theorem i_M_beginOne_158 : m_at k_M_beginOne 158 = some (.bipush 102, 2, 0) := m_at_of r_M_beginOne (by decide +kernel)
theorem i_M_beginOne_160 : m_at k_M_beginOne 160 = some (.bipush 116, 2, 0) := m_at_of r_M_beginOne (by decide +kernel)
theorem i_M_beginOne_162 : m_at k_M_beginOne 162 = some (.bipush 115, 2, 0) := m_at_of r_M_beginOne (by decide +kernel)
theorem i_M_beginOne_164 : m_at k_M_beginOne 164 = some (.invokestatic 147, 3, 329) := m_at_of r_M_beginOne (by decide +kernel)
theorem i_M_beginOne_167 : m_at k_M_beginOne 167 = some (.invokevirtual 206, 3, 346) := m_at_of r_M_beginOne (by decide +kernel)
theorem i_M_beginOne_170 : m_at k_M_beginOne 170 = some (.ifCond .eq (9), 3, 0) := m_at_of r_M_beginOne (by decide +kernel)
theorem i_M_beginOne_173 : m_at k_M_beginOne 173 = some (.aload_n 0, 1, 0) := m_at_of r_M_beginOne (by decide +kernel)
theorem i_M_beginOne_174 : m_at k_M_beginOne 174 = some (.iconst 2, 1, 0) := m_at_of r_M_beginOne (by decide +kernel)
theorem i_M_beginOne_175 : m_at k_M_beginOne 175 = some (.invokevirtual 203, 3, 344) := m_at_of r_M_beginOne (by decide +kernel)
theorem i_M_beginOne_178 : m_at k_M_beginOne 178 = some (.ireturn, 1, 0) := m_at_of r_M_beginOne (by decide +kernel)
theorem i_M_beginOne_179 : m_at k_M_beginOne 179 = some (.aload_n 0, 1, 0) := m_at_of r_M_beginOne (by decide +kernel)
theorem i_M_beginOne_180 : m_at k_M_beginOne 180 = some (.bipush 105, 2, 0) := m_at_of r_M_beginOne (by decide +kernel)
theorem i_M_beginOne_182 : m_at k_M_beginOne 182 = some (.bipush 102, 2, 0) := m_at_of r_M_beginOne (by decide +kernel)
theorem i_M_beginOne_184 : m_at k_M_beginOne 184 = some (.invokestatic 135, 3, 332) := m_at_of r_M_beginOne (by decide +kernel)
theorem i_M_beginOne_187 : m_at k_M_beginOne 187 = some (.invokevirtual 206, 3, 346) := m_at_of r_M_beginOne (by decide +kernel)
theorem i_M_beginOne_190 : m_at k_M_beginOne 190 = some (.ifCond .eq (10), 3, 0) := m_at_of r_M_beginOne (by decide +kernel)
theorem i_M_beginOne_193 : m_at k_M_beginOne 193 = some (.aload_n 0, 1, 0) := m_at_of r_M_beginOne (by decide +kernel)
theorem i_M_beginOne_194 : m_at k_M_beginOne 194 = some (.bipush 42, 2, 0) := m_at_of r_M_beginOne (by decide +kernel)
theorem i_M_beginOne_196 : m_at k_M_beginOne 196 = some (.invokevirtual 203, 3, 344) := m_at_of r_M_beginOne (by decide +kernel)
theorem i_M_beginOne_199 : m_at k_M_beginOne 199 = some (.ireturn, 1, 0) := m_at_of r_M_beginOne (by decide +kernel)
theorem i_M_beginOne_200 : m_at k_M_beginOne 200 = some (.aload_n 0, 1, 0) := m_at_of r_M_beginOne (by decide +kernel)
theorem i_M_beginOne_201 : m_at k_M_beginOne 201 = some (.bipush 110, 2, 0) := m_at_of r_M_beginOne (by decide +kernel)
theorem i_M_beginOne_203 : m_at k_M_beginOne 203 = some (.bipush 111, 2, 0) := m_at_of r_M_beginOne (by decide +kernel)
theorem i_M_beginOne_205 : m_at k_M_beginOne 205 = some (.bipush 116, 2, 0) := m_at_of r_M_beginOne (by decide +kernel)
theorem i_M_beginOne_207 : m_at k_M_beginOne 207 = some (.invokestatic 139, 3, 347) := m_at_of r_M_beginOne (by decide +kernel)
theorem i_M_beginOne_210 : m_at k_M_beginOne 210 = some (.invokevirtual 206, 3, 346) := m_at_of r_M_beginOne (by decide +kernel)
theorem i_M_beginOne_213 : m_at k_M_beginOne 213 = some (.ifCond .eq (19), 3, 0) := m_at_of r_M_beginOne (by decide +kernel)
theorem i_M_beginOne_216 : m_at k_M_beginOne 216 = some (.aload_n 0, 1, 0) := m_at_of r_M_beginOne (by decide +kernel)
theorem i_M_beginOne_217 : m_at k_M_beginOne 217 = some (.invokevirtual 210, 3, 348) := m_at_of r_M_beginOne (by decide +kernel)
theorem i_M_beginOne_220 : m_at k_M_beginOne 220 = some (.ifCond .eq (12), 3, 0) := m_at_of r_M_beginOne (by decide +kernel)
theorem i_M_beginOne_223 : m_at k_M_beginOne 223 = some (.aload_n 0, 1, 0) := m_at_of r_M_beginOne (by decide +kernel)
theorem i_M_beginOne_224 : m_at k_M_beginOne 224 = some (.bipush 20, 2, 0) := m_at_of r_M_beginOne (by decide +kernel)
theorem i_M_beginOne_226 : m_at k_M_beginOne 226 = some (.invokevirtual 203, 3, 344) := m_at_of r_M_beginOne (by decide +kernel)
theorem i_M_beginOne_229 : m_at k_M_beginOne 229 = some (.goto (4), 3, 0) := m_at_of r_M_beginOne (by decide +kernel)
theorem i_M_beginOne_232 : m_at k_M_beginOne 232 = some (.iconst 1, 1, 0) := m_at_of r_M_beginOne (by decide +kernel)
theorem i_M_beginOne_233 : m_at k_M_beginOne 233 = some (.ireturn, 1, 0) := m_at_of r_M_beginOne (by decide +kernel)
set_option maxRecDepth 20000 in
set_option maxHeartbeats 1000000 in
theorem E_M_beginOne (x : m_X) (s : m_H) (w : Nat) : m_M x k_M_beginOne [.ref w] s = if m_isO s w 11 = true then ((m_fI s 11 9 w).bind fun v1 => if v1 = 1 then ((m_fI s 11 10 w).bind fun v9 => if v9 ≤ 9999 then (m_bI (m_M x k_M_nameOf [.ref w] s) fun v21 s21 => if v21 < 0 then (m_D x 7 k_M_beginOne 39 [some (.ref w), some (.int v21)] [] s21) else m_bI (m_M x k_M_isOf [.ref w, .int v21] s21) fun v31 s31 => if v31 = 0 then (some (some (.int 5), s31)) else m_D x 7 k_M_beginOne 39 [some (.ref w), some (.int v21)] [] s31) else some (some (.int 2), s)) else m_bI (m_M x k_M_nameOf [.ref w] s) fun v21 s21 => if v21 < 0 then (m_D x 7 k_M_beginOne 39 [some (.ref w), some (.int v21)] [] s21) else m_bI (m_M x k_M_isOf [.ref w, .int v21] s21) fun v31 s31 => if v31 = 0 then (some (some (.int 5), s31)) else m_D x 7 k_M_beginOne 39 [some (.ref w), some (.int v21)] [] s31) else none := by
  refine e_M1 (L0 := [some (.ref w), none]) rfl (by decide +kernel) rfl (q_M_beginOne _) rfl ?_
  refine e_aload_n i_M_beginOne_0 rfl ?_
  refine e_getI i_M_beginOne_1 lf_103 (by decide) (Or.inl ft_11_9) (fun v1 => ?_)
  refine e_iconst (v := 1) i_M_beginOne_4 (by decide) ?_
  refine e_icmpne (t := 20) i_M_beginOne_5 (by decide) ?_ ?_
  · refine e_aload_n i_M_beginOne_20 rfl ?_
    refine e_callI (as := [.ref w]) (st' := []) i_M_beginOne_21 lm_340 (Or.inr (Or.inl ⟨rfl, rfl⟩)) w_M_nameOf rfl rfl rfl (Nat.le_of_ble_eq_true rfl) (Nat.le_of_ble_eq_true rfl) (m_rlt (q_M_nameOf _) (by decide)) rfl (fun v21 s21 => ?_)
    refine e_istore_n (L' := [some (.ref w), some (.int v21)]) i_M_beginOne_24 (of_decide_eq_true rfl) rfl ?_
    refine e_iload_n i_M_beginOne_25 rfl ?_
    refine e_iflt (t := 39) i_M_beginOne_26 (by decide) ?_ ?_
    · exact rfl
    · refine e_aload_n i_M_beginOne_29 rfl ?_
      refine e_iload_n i_M_beginOne_30 rfl ?_
      refine e_callI (as := [.ref w, .int v21]) (st' := []) i_M_beginOne_31 lm_341 (Or.inr (Or.inl ⟨rfl, rfl⟩)) w_M_isOf rfl rfl rfl (Nat.le_of_ble_eq_true rfl) (Nat.le_of_ble_eq_true rfl) (m_rlt (q_M_isOf _) (by decide)) rfl (fun v31 s31 => ?_)
      refine e_ifne (t := 39) i_M_beginOne_34 (by decide) ?_ ?_
      · exact rfl
      · refine e_iconst (v := 5) i_M_beginOne_37 (by decide) ?_
        exact e_iretI i_M_beginOne_38 rfl
  · refine e_aload_n i_M_beginOne_8 rfl ?_
    refine e_getI i_M_beginOne_9 lf_108 (by decide) (Or.inl ft_11_10) (fun v9 => ?_)
    refine e_sipush (v := 9999) i_M_beginOne_12 (by decide) ?_
    refine e_icmple (t := 20) i_M_beginOne_15 (by decide) ?_ ?_
    · refine e_aload_n i_M_beginOne_20 rfl ?_
      refine e_callI (as := [.ref w]) (st' := []) i_M_beginOne_21 lm_340 (Or.inr (Or.inl ⟨rfl, rfl⟩)) w_M_nameOf rfl rfl rfl (Nat.le_of_ble_eq_true rfl) (Nat.le_of_ble_eq_true rfl) (m_rlt (q_M_nameOf _) (by decide)) rfl (fun v21 s21 => ?_)
      refine e_istore_n (L' := [some (.ref w), some (.int v21)]) i_M_beginOne_24 (of_decide_eq_true rfl) rfl ?_
      refine e_iload_n i_M_beginOne_25 rfl ?_
      refine e_iflt (t := 39) i_M_beginOne_26 (by decide) ?_ ?_
      · exact rfl
      · refine e_aload_n i_M_beginOne_29 rfl ?_
        refine e_iload_n i_M_beginOne_30 rfl ?_
        refine e_callI (as := [.ref w, .int v21]) (st' := []) i_M_beginOne_31 lm_341 (Or.inr (Or.inl ⟨rfl, rfl⟩)) w_M_isOf rfl rfl rfl (Nat.le_of_ble_eq_true rfl) (Nat.le_of_ble_eq_true rfl) (m_rlt (q_M_isOf _) (by decide)) rfl (fun v31 s31 => ?_)
        refine e_ifne (t := 39) i_M_beginOne_34 (by decide) ?_ ?_
        · exact rfl
        · refine e_iconst (v := 5) i_M_beginOne_37 (by decide) ?_
          exact e_iretI i_M_beginOne_38 rfl
    · refine e_iconst (v := 2) i_M_beginOne_18 (by decide) ?_
      exact e_iretI i_M_beginOne_19 rfl
set_option maxRecDepth 20000 in
set_option maxHeartbeats 1000000 in
theorem E_M_beginOne_39 (x : m_X) (ρ : Nat) (hρ : 7 ≤ ρ) (s : m_H) (w : Nat) (n1 : Int32)  : m_D x ρ k_M_beginOne 39 [some (.ref w), some (.int n1)] [] s = (m_fI s 11 9 w).bind fun v40 => if v40 = 1 then ((m_fI s 11 9 w).bind fun v53 => if v53 = 1 then (m_D x ρ k_M_beginOne 65 [some (.ref w), some (.int n1)] [.int 0, .ref w] s) else m_D x ρ k_M_beginOne 65 [some (.ref w), some (.int n1)] [.int 1, .ref w] s) else if n1 < 0 then ((m_fI s 11 9 w).bind fun v94 => if v94 = 40 then (m_bI (m_M x k_M_opened [.ref w, .int 40] s) fun v105 s105 => some (some (.int v105), s105)) else (m_fI s 11 9 w).bind fun v110 => if v110 = 45 then (m_bI (m_M x k_M_opened [.ref w, .int 5] s) fun v120 s120 => some (some (.int v120), s120)) else m_bL (m_M x k_M_w6 [.int 99, .int 111, .int 109, .int 109, .int 111, .int 110] s) fun v137 s137 => m_bI (m_M x k_M_isWord [.ref w, .long v137] s137) fun v140 s140 => if v140 = 0 then (m_bL (m_M x k_M_w5 [.int 108, .int 101, .int 102, .int 116, .int 115] s140) fun v164 s164 => m_bI (m_M x k_M_isWord [.ref w, .long v164] s164) fun v167 s167 => if v167 = 0 then (m_bL (m_M x k_M_w2 [.int 105, .int 102] s167) fun v184 s184 => m_bI (m_M x k_M_isWord [.ref w, .long v184] s184) fun v187 s187 => if v187 = 0 then (m_bL (m_M x k_M_w3 [.int 110, .int 111, .int 116] s187) fun v207 s207 => m_bI (m_M x k_M_isWord [.ref w, .long v207] s207) fun v210 s210 => if v210 = 0 then (some (some (.int 1), s210)) else m_bI (m_M x k_M_isAskAhead [.ref w] s210) fun v217 s217 => if v217 = 0 then (some (some (.int 1), s217)) else m_bI (m_M x k_M_opened [.ref w, .int 20] s217) fun v226 s226 => some (some (.int v226), s226)) else m_bI (m_M x k_M_opened [.ref w, .int 42] s187) fun v196 s196 => some (some (.int v196), s196)) else m_bI (m_M x k_M_opened [.ref w, .int 2] s167) fun v175 s175 => some (some (.int v175), s175)) else m_bI (m_M x k_M_opened [.ref w, .int 41] s140) fun v149 s149 => some (some (.int v149), s149)) else (m_fI s 11 9 w).bind fun v53 => if v53 = 1 then (m_D x ρ k_M_beginOne 65 [some (.ref w), some (.int n1)] [.int 0, .ref w] s) else m_D x ρ k_M_beginOne 65 [some (.ref w), some (.int n1)] [.int 1, .ref w] s := by
  refine e_aload_n i_M_beginOne_39 rfl ?_
  refine e_getI i_M_beginOne_40 lf_103 (by decide) (Or.inl ft_11_9) (fun v40 => ?_)
  refine e_iconst (v := 1) i_M_beginOne_43 (by decide) ?_
  refine e_icmpeq (t := 51) i_M_beginOne_44 (by decide) ?_ ?_
  · refine e_aload_n i_M_beginOne_51 rfl ?_
    refine e_aload_n i_M_beginOne_52 rfl ?_
    refine e_getI i_M_beginOne_53 lf_103 (by decide) (Or.inl ft_11_9) (fun v53 => ?_)
    refine e_iconst (v := 1) i_M_beginOne_56 (by decide) ?_
    refine e_icmpne (t := 64) i_M_beginOne_57 (by decide) ?_ ?_
    · refine e_iconst (v := 1) i_M_beginOne_64 (by decide) ?_
      exact rfl
    · refine e_iconst (v := 0) i_M_beginOne_60 (by decide) ?_
      refine e_goto (t := 65) i_M_beginOne_61 (by decide) ?_
      exact rfl
  · refine e_iload_n i_M_beginOne_47 rfl ?_
    refine e_iflt (t := 93) i_M_beginOne_48 (by decide) ?_ ?_
    · refine e_aload_n i_M_beginOne_93 rfl ?_
      refine e_getI i_M_beginOne_94 lf_103 (by decide) (Or.inl ft_11_9) (fun v94 => ?_)
      refine e_bipush (v := 40) i_M_beginOne_97 (by decide) ?_
      refine e_icmpne (t := 109) i_M_beginOne_99 (by decide) ?_ ?_
      · refine e_aload_n i_M_beginOne_109 rfl ?_
        refine e_getI i_M_beginOne_110 lf_103 (by decide) (Or.inl ft_11_9) (fun v110 => ?_)
        refine e_bipush (v := 45) i_M_beginOne_113 (by decide) ?_
        refine e_icmpne (t := 124) i_M_beginOne_115 (by decide) ?_ ?_
        · refine e_aload_n i_M_beginOne_124 rfl ?_
          refine e_bipush (v := 99) i_M_beginOne_125 (by decide) ?_
          refine e_bipush (v := 111) i_M_beginOne_127 (by decide) ?_
          refine e_bipush (v := 109) i_M_beginOne_129 (by decide) ?_
          refine e_bipush (v := 109) i_M_beginOne_131 (by decide) ?_
          refine e_bipush (v := 111) i_M_beginOne_133 (by decide) ?_
          refine e_bipush (v := 110) i_M_beginOne_135 (by decide) ?_
          refine e_callL (as := [.int 99, .int 111, .int 109, .int 109, .int 111, .int 110]) (st' := [.ref w]) i_M_beginOne_137 lm_345 (Or.inl ⟨rfl, rfl⟩) w_M_w6 rfl rfl rfl (Nat.le_of_ble_eq_true rfl) (Nat.le_of_ble_eq_true rfl) (m_rlt (q_M_w6 _) (Nat.lt_of_lt_of_le (by decide) hρ)) rfl (fun v137 s137 => ?_)
          refine e_callI (as := [.ref w, .long v137]) (st' := []) i_M_beginOne_140 lm_346 (Or.inr (Or.inl ⟨rfl, rfl⟩)) w_M_isWord rfl rfl rfl (Nat.le_of_ble_eq_true rfl) (Nat.le_of_ble_eq_true rfl) (m_rlt (q_M_isWord _) (Nat.lt_of_lt_of_le (by decide) hρ)) rfl (fun v140 s140 => ?_)
          refine e_ifeq (t := 153) i_M_beginOne_143 (by decide) ?_ ?_
          · refine e_aload_n i_M_beginOne_153 rfl ?_
            refine e_bipush (v := 108) i_M_beginOne_154 (by decide) ?_
            refine e_bipush (v := 101) i_M_beginOne_156 (by decide) ?_
            refine e_bipush (v := 102) i_M_beginOne_158 (by decide) ?_
            refine e_bipush (v := 116) i_M_beginOne_160 (by decide) ?_
            refine e_bipush (v := 115) i_M_beginOne_162 (by decide) ?_
            refine e_callL (as := [.int 108, .int 101, .int 102, .int 116, .int 115]) (st' := [.ref w]) i_M_beginOne_164 lm_329 (Or.inl ⟨rfl, rfl⟩) w_M_w5 rfl rfl rfl (Nat.le_of_ble_eq_true rfl) (Nat.le_of_ble_eq_true rfl) (m_rlt (q_M_w5 _) (Nat.lt_of_lt_of_le (by decide) hρ)) rfl (fun v164 s164 => ?_)
            refine e_callI (as := [.ref w, .long v164]) (st' := []) i_M_beginOne_167 lm_346 (Or.inr (Or.inl ⟨rfl, rfl⟩)) w_M_isWord rfl rfl rfl (Nat.le_of_ble_eq_true rfl) (Nat.le_of_ble_eq_true rfl) (m_rlt (q_M_isWord _) (Nat.lt_of_lt_of_le (by decide) hρ)) rfl (fun v167 s167 => ?_)
            refine e_ifeq (t := 179) i_M_beginOne_170 (by decide) ?_ ?_
            · refine e_aload_n i_M_beginOne_179 rfl ?_
              refine e_bipush (v := 105) i_M_beginOne_180 (by decide) ?_
              refine e_bipush (v := 102) i_M_beginOne_182 (by decide) ?_
              refine e_callL (as := [.int 105, .int 102]) (st' := [.ref w]) i_M_beginOne_184 lm_332 (Or.inl ⟨rfl, rfl⟩) w_M_w2 rfl rfl rfl (Nat.le_of_ble_eq_true rfl) (Nat.le_of_ble_eq_true rfl) (m_rlt (q_M_w2 _) (Nat.lt_of_lt_of_le (by decide) hρ)) rfl (fun v184 s184 => ?_)
              refine e_callI (as := [.ref w, .long v184]) (st' := []) i_M_beginOne_187 lm_346 (Or.inr (Or.inl ⟨rfl, rfl⟩)) w_M_isWord rfl rfl rfl (Nat.le_of_ble_eq_true rfl) (Nat.le_of_ble_eq_true rfl) (m_rlt (q_M_isWord _) (Nat.lt_of_lt_of_le (by decide) hρ)) rfl (fun v187 s187 => ?_)
              refine e_ifeq (t := 200) i_M_beginOne_190 (by decide) ?_ ?_
              · refine e_aload_n i_M_beginOne_200 rfl ?_
                refine e_bipush (v := 110) i_M_beginOne_201 (by decide) ?_
                refine e_bipush (v := 111) i_M_beginOne_203 (by decide) ?_
                refine e_bipush (v := 116) i_M_beginOne_205 (by decide) ?_
                refine e_callL (as := [.int 110, .int 111, .int 116]) (st' := [.ref w]) i_M_beginOne_207 lm_347 (Or.inl ⟨rfl, rfl⟩) w_M_w3 rfl rfl rfl (Nat.le_of_ble_eq_true rfl) (Nat.le_of_ble_eq_true rfl) (m_rlt (q_M_w3 _) (Nat.lt_of_lt_of_le (by decide) hρ)) rfl (fun v207 s207 => ?_)
                refine e_callI (as := [.ref w, .long v207]) (st' := []) i_M_beginOne_210 lm_346 (Or.inr (Or.inl ⟨rfl, rfl⟩)) w_M_isWord rfl rfl rfl (Nat.le_of_ble_eq_true rfl) (Nat.le_of_ble_eq_true rfl) (m_rlt (q_M_isWord _) (Nat.lt_of_lt_of_le (by decide) hρ)) rfl (fun v210 s210 => ?_)
                refine e_ifeq (t := 232) i_M_beginOne_213 (by decide) ?_ ?_
                · refine e_iconst (v := 1) i_M_beginOne_232 (by decide) ?_
                  exact e_iretI i_M_beginOne_233 rfl
                · refine e_aload_n i_M_beginOne_216 rfl ?_
                  refine e_callI (as := [.ref w]) (st' := []) i_M_beginOne_217 lm_348 (Or.inr (Or.inl ⟨rfl, rfl⟩)) w_M_isAskAhead rfl rfl rfl (Nat.le_of_ble_eq_true rfl) (Nat.le_of_ble_eq_true rfl) (m_rlt (q_M_isAskAhead _) (Nat.lt_of_lt_of_le (by decide) hρ)) rfl (fun v217 s217 => ?_)
                  refine e_ifeq (t := 232) i_M_beginOne_220 (by decide) ?_ ?_
                  · refine e_iconst (v := 1) i_M_beginOne_232 (by decide) ?_
                    exact e_iretI i_M_beginOne_233 rfl
                  · refine e_aload_n i_M_beginOne_223 rfl ?_
                    refine e_bipush (v := 20) i_M_beginOne_224 (by decide) ?_
                    refine e_callI (as := [.ref w, .int 20]) (st' := []) i_M_beginOne_226 lm_344 (Or.inr (Or.inl ⟨rfl, rfl⟩)) w_M_opened rfl rfl rfl (Nat.le_of_ble_eq_true rfl) (Nat.le_of_ble_eq_true rfl) (m_rlt (q_M_opened _) (Nat.lt_of_lt_of_le (by decide) hρ)) rfl (fun v226 s226 => ?_)
                    refine e_goto (t := 233) i_M_beginOne_229 (by decide) ?_
                    exact e_iretI i_M_beginOne_233 rfl
              · refine e_aload_n i_M_beginOne_193 rfl ?_
                refine e_bipush (v := 42) i_M_beginOne_194 (by decide) ?_
                refine e_callI (as := [.ref w, .int 42]) (st' := []) i_M_beginOne_196 lm_344 (Or.inr (Or.inl ⟨rfl, rfl⟩)) w_M_opened rfl rfl rfl (Nat.le_of_ble_eq_true rfl) (Nat.le_of_ble_eq_true rfl) (m_rlt (q_M_opened _) (Nat.lt_of_lt_of_le (by decide) hρ)) rfl (fun v196 s196 => ?_)
                exact e_iretI i_M_beginOne_199 rfl
            · refine e_aload_n i_M_beginOne_173 rfl ?_
              refine e_iconst (v := 2) i_M_beginOne_174 (by decide) ?_
              refine e_callI (as := [.ref w, .int 2]) (st' := []) i_M_beginOne_175 lm_344 (Or.inr (Or.inl ⟨rfl, rfl⟩)) w_M_opened rfl rfl rfl (Nat.le_of_ble_eq_true rfl) (Nat.le_of_ble_eq_true rfl) (m_rlt (q_M_opened _) (Nat.lt_of_lt_of_le (by decide) hρ)) rfl (fun v175 s175 => ?_)
              exact e_iretI i_M_beginOne_178 rfl
          · refine e_aload_n i_M_beginOne_146 rfl ?_
            refine e_bipush (v := 41) i_M_beginOne_147 (by decide) ?_
            refine e_callI (as := [.ref w, .int 41]) (st' := []) i_M_beginOne_149 lm_344 (Or.inr (Or.inl ⟨rfl, rfl⟩)) w_M_opened rfl rfl rfl (Nat.le_of_ble_eq_true rfl) (Nat.le_of_ble_eq_true rfl) (m_rlt (q_M_opened _) (Nat.lt_of_lt_of_le (by decide) hρ)) rfl (fun v149 s149 => ?_)
            exact e_iretI i_M_beginOne_152 rfl
        · refine e_aload_n i_M_beginOne_118 rfl ?_
          refine e_iconst (v := 5) i_M_beginOne_119 (by decide) ?_
          refine e_callI (as := [.ref w, .int 5]) (st' := []) i_M_beginOne_120 lm_344 (Or.inr (Or.inl ⟨rfl, rfl⟩)) w_M_opened rfl rfl rfl (Nat.le_of_ble_eq_true rfl) (Nat.le_of_ble_eq_true rfl) (m_rlt (q_M_opened _) (Nat.lt_of_lt_of_le (by decide) hρ)) rfl (fun v120 s120 => ?_)
          exact e_iretI i_M_beginOne_123 rfl
      · refine e_aload_n i_M_beginOne_102 rfl ?_
        refine e_bipush (v := 40) i_M_beginOne_103 (by decide) ?_
        refine e_callI (as := [.ref w, .int 40]) (st' := []) i_M_beginOne_105 lm_344 (Or.inr (Or.inl ⟨rfl, rfl⟩)) w_M_opened rfl rfl rfl (Nat.le_of_ble_eq_true rfl) (Nat.le_of_ble_eq_true rfl) (m_rlt (q_M_opened _) (Nat.lt_of_lt_of_le (by decide) hρ)) rfl (fun v105 s105 => ?_)
        exact e_iretI i_M_beginOne_108 rfl
    · refine e_aload_n i_M_beginOne_51 rfl ?_
      refine e_aload_n i_M_beginOne_52 rfl ?_
      refine e_getI i_M_beginOne_53 lf_103 (by decide) (Or.inl ft_11_9) (fun v53 => ?_)
      refine e_iconst (v := 1) i_M_beginOne_56 (by decide) ?_
      refine e_icmpne (t := 64) i_M_beginOne_57 (by decide) ?_ ?_
      · refine e_iconst (v := 1) i_M_beginOne_64 (by decide) ?_
        exact rfl
      · refine e_iconst (v := 0) i_M_beginOne_60 (by decide) ?_
        refine e_goto (t := 65) i_M_beginOne_61 (by decide) ?_
        exact rfl
set_option maxRecDepth 20000 in
set_option maxHeartbeats 1000000 in
theorem E_M_beginOne_65 (x : m_X) (ρ : Nat) (hρ : 7 ≤ ρ) (s : m_H) (w : Nat) (n1 : Int32) (nt0 : Int32)  : m_D x ρ k_M_beginOne 65 [some (.ref w), some (.int n1)] [.int nt0, .ref w] s = (m_fI s 11 9 w).bind fun v66 => if v66 = 1 then ((m_fI s 11 10 w).bind fun v74 => m_bV (m_M x k_M_emit [.ref w, .int nt0, .int v74] s) fun s81 => m_bV (m_M x k_M_nextToken [.ref w] s81) fun s85 => m_bI (m_M x k_M_endOne [.ref w] s85) fun v89 s89 => some (some (.int v89), s89)) else m_bV (m_M x k_M_emit [.ref w, .int nt0, .int n1] s) fun s81 => m_bV (m_M x k_M_nextToken [.ref w] s81) fun s85 => m_bI (m_M x k_M_endOne [.ref w] s85) fun v89 s89 => some (some (.int v89), s89) := by
  refine e_aload_n i_M_beginOne_65 rfl ?_
  refine e_getI i_M_beginOne_66 lf_103 (by decide) (Or.inl ft_11_9) (fun v66 => ?_)
  refine e_iconst (v := 1) i_M_beginOne_69 (by decide) ?_
  refine e_icmpne (t := 80) i_M_beginOne_70 (by decide) ?_ ?_
  · refine e_iload_n i_M_beginOne_80 rfl ?_
    refine e_callV (as := [.ref w, .int nt0, .int n1]) (st' := []) i_M_beginOne_81 lm_342 (Or.inr (Or.inl ⟨rfl, rfl⟩)) w_M_emit rfl rfl rfl (Nat.le_of_ble_eq_true rfl) (Nat.le_of_ble_eq_true rfl) (m_rlt (q_M_emit _) (Nat.lt_of_lt_of_le (by decide) hρ)) rfl (fun s81 => ?_)
    refine e_aload_n i_M_beginOne_84 rfl ?_
    refine e_callV (as := [.ref w]) (st' := []) i_M_beginOne_85 lm_325 (Or.inr (Or.inl ⟨rfl, rfl⟩)) w_M_nextToken rfl rfl rfl (Nat.le_of_ble_eq_true rfl) (Nat.le_of_ble_eq_true rfl) (m_rlt (q_M_nextToken _) (Nat.lt_of_lt_of_le (by decide) hρ)) rfl (fun s85 => ?_)
    refine e_aload_n i_M_beginOne_88 rfl ?_
    refine e_callI (as := [.ref w]) (st' := []) i_M_beginOne_89 lm_343 (Or.inr (Or.inl ⟨rfl, rfl⟩)) w_M_endOne rfl rfl rfl (Nat.le_of_ble_eq_true rfl) (Nat.le_of_ble_eq_true rfl) (m_rlt (q_M_endOne _) (Nat.lt_of_lt_of_le (by decide) hρ)) rfl (fun v89 s89 => ?_)
    exact e_iretI i_M_beginOne_92 rfl
  · refine e_aload_n i_M_beginOne_73 rfl ?_
    refine e_getI i_M_beginOne_74 lf_108 (by decide) (Or.inl ft_11_10) (fun v74 => ?_)
    refine e_goto (t := 81) i_M_beginOne_77 (by decide) ?_
    refine e_callV (as := [.ref w, .int nt0, .int v74]) (st' := []) i_M_beginOne_81 lm_342 (Or.inr (Or.inl ⟨rfl, rfl⟩)) w_M_emit rfl rfl rfl (Nat.le_of_ble_eq_true rfl) (Nat.le_of_ble_eq_true rfl) (m_rlt (q_M_emit _) (Nat.lt_of_lt_of_le (by decide) hρ)) rfl (fun s81 => ?_)
    refine e_aload_n i_M_beginOne_84 rfl ?_
    refine e_callV (as := [.ref w]) (st' := []) i_M_beginOne_85 lm_325 (Or.inr (Or.inl ⟨rfl, rfl⟩)) w_M_nextToken rfl rfl rfl (Nat.le_of_ble_eq_true rfl) (Nat.le_of_ble_eq_true rfl) (m_rlt (q_M_nextToken _) (Nat.lt_of_lt_of_le (by decide) hρ)) rfl (fun s85 => ?_)
    refine e_aload_n i_M_beginOne_88 rfl ?_
    refine e_callI (as := [.ref w]) (st' := []) i_M_beginOne_89 lm_343 (Or.inr (Or.inl ⟨rfl, rfl⟩)) w_M_endOne rfl rfl rfl (Nat.le_of_ble_eq_true rfl) (Nat.le_of_ble_eq_true rfl) (m_rlt (q_M_endOne _) (Nat.lt_of_lt_of_le (by decide) hρ)) rfl (fun v89 s89 => ?_)
    exact e_iretI i_M_beginOne_92 rfl
