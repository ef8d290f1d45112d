theorem i_World_hasGlove_0 : m_at k_World_hasGlove 0 = some (.iload_n 1, 1, 0) := m_at_of r_World_hasGlove (by decide +kernel)
theorem i_World_hasGlove_1 : m_at k_World_hasGlove 1 = some (.ifCond .lt (18), 3, 0) := m_at_of r_World_hasGlove (by decide +kernel)
theorem i_World_hasGlove_4 : m_at k_World_hasGlove 4 = some (.iload_n 1, 1, 0) := m_at_of r_World_hasGlove (by decide +kernel)
theorem i_World_hasGlove_5 : m_at k_World_hasGlove 5 = some (.aload_n 0, 1, 0) := m_at_of r_World_hasGlove (by decide +kernel)
theorem i_World_hasGlove_6 : m_at k_World_hasGlove 6 = some (.getfield 11, 3, 36) := m_at_of r_World_hasGlove (by decide +kernel)
theorem i_World_hasGlove_9 : m_at k_World_hasGlove 9 = some (.bipush 25, 2, 0) := m_at_of r_World_hasGlove (by decide +kernel)
theorem i_World_hasGlove_11 : m_at k_World_hasGlove 11 = some (.iaload, 1, 0) := m_at_of r_World_hasGlove (by decide +kernel)
theorem i_World_hasGlove_12 : m_at k_World_hasGlove 12 = some (.if_icmp .ge (7), 3, 0) := m_at_of r_World_hasGlove (by decide +kernel)
theorem i_World_hasGlove_15 : m_at k_World_hasGlove 15 = some (.iconst 1, 1, 0) := m_at_of r_World_hasGlove (by decide +kernel)
theorem i_World_hasGlove_16 : m_at k_World_hasGlove 16 = some (.goto (4), 3, 0) := m_at_of r_World_hasGlove (by decide +kernel)
theorem i_World_hasGlove_19 : m_at k_World_hasGlove 19 = some (.iconst 0, 1, 0) := m_at_of r_World_hasGlove (by decide +kernel)
theorem i_World_hasGlove_20 : m_at k_World_hasGlove 20 = some (.ireturn, 1, 0) := m_at_of r_World_hasGlove (by decide +kernel)
set_option maxRecDepth 20000 in
set_option maxHeartbeats 1000000 in
theorem E_World_hasGlove (x : m_X) (s : m_H) (w : Nat) (n1 : Int32) : m_M x k_World_hasGlove [.ref w, .int n1] s = if m_isO s w 9 = true then (if n1 < 0 then (some (some (.int 0), s)) else (m_fR s 9 0 w).bind fun v6 => (m_ia x s v6 25).bind fun v11 => if v11 ≤ n1 then (some (some (.int 0), s)) else some (some (.int 1), s)) else none := by
  refine e_M1 (L0 := [some (.ref w), some (.int n1)]) rfl (by decide +kernel) rfl (q_World_hasGlove _) rfl ?_
  refine e_iload_n i_World_hasGlove_0 rfl ?_
  refine e_iflt (t := 19) i_World_hasGlove_1 (by decide) ?_ ?_
  · refine e_iconst (v := 0) i_World_hasGlove_19 (by decide) ?_
    exact e_iretZ i_World_hasGlove_20 rfl (by decide)
  · refine e_iload_n i_World_hasGlove_4 rfl ?_
    refine e_aload_n i_World_hasGlove_5 rfl ?_
    refine e_getR i_World_hasGlove_6 lf_36 (by decide) ft_9_0 (fun v6 => ?_)
    refine e_bipush (v := 25) i_World_hasGlove_9 (by decide) ?_
    refine e_iald i_World_hasGlove_11 (fun v11 => ?_)
    refine e_icmpge (t := 19) i_World_hasGlove_12 (by decide) ?_ ?_
    · refine e_iconst (v := 0) i_World_hasGlove_19 (by decide) ?_
      exact e_iretZ i_World_hasGlove_20 rfl (by decide)
    · refine e_iconst (v := 1) i_World_hasGlove_15 (by decide) ?_
      refine e_goto (t := 20) i_World_hasGlove_16 (by decide) ?_
      exact e_iretZ i_World_hasGlove_20 rfl (by decide)
theorem i_World_strike_0 : m_at k_World_strike 0 = some (.aload_n 0, 1, 0) := m_at_of r_World_strike (by decide +kernel)
theorem i_World_strike_1 : m_at k_World_strike 1 = some (.getfield 11, 3, 36) := m_at_of r_World_strike (by decide +kernel)
theorem i_World_strike_4 : m_at k_World_strike 4 = some (.bipush 25, 2, 0) := m_at_of r_World_strike (by decide +kernel)
theorem i_World_strike_6 : m_at k_World_strike 6 = some (.iaload, 1, 0) := m_at_of r_World_strike (by decide +kernel)
theorem i_World_strike_7 : m_at k_World_strike 7 = some (.istore 6, 2, 0) := m_at_of r_World_strike (by decide +kernel)
theorem i_World_strike_9 : m_at k_World_strike 9 = some (.iload_n 3, 1, 0) := m_at_of r_World_strike (by decide +kernel)
theorem i_World_strike_10 : m_at k_World_strike 10 = some (.iconst 1, 1, 0) := m_at_of r_World_strike (by decide +kernel)
theorem i_World_strike_11 : m_at k_World_strike 11 = some (.bipush 99, 2, 0) := m_at_of r_World_strike (by decide +kernel)
theorem i_World_strike_13 : m_at k_World_strike 13 = some (.invokestatic 33, 3, 322) := m_at_of r_World_strike (by decide +kernel)
theorem i_World_strike_16 : m_at k_World_strike 16 = some (.ifCond .eq (28), 3, 0) := m_at_of r_World_strike (by decide +kernel)
theorem i_World_strike_19 : m_at k_World_strike 19 = some (.iload 4, 2, 0) := m_at_of r_World_strike (by decide +kernel)
theorem i_World_strike_21 : m_at k_World_strike 21 = some (.iconst 0, 1, 0) := m_at_of r_World_strike (by decide +kernel)
theorem i_World_strike_22 : m_at k_World_strike 22 = some (.iconst 2, 1, 0) := m_at_of r_World_strike (by decide +kernel)
theorem i_World_strike_23 : m_at k_World_strike 23 = some (.invokestatic 33, 3, 322) := m_at_of r_World_strike (by decide +kernel)
theorem i_World_strike_26 : m_at k_World_strike 26 = some (.ifCond .eq (18), 3, 0) := m_at_of r_World_strike (by decide +kernel)
theorem i_World_strike_29 : m_at k_World_strike 29 = some (.iload 5, 2, 0) := m_at_of r_World_strike (by decide +kernel)
theorem i_World_strike_31 : m_at k_World_strike 31 = some (.iconst 0, 1, 0) := m_at_of r_World_strike (by decide +kernel)
theorem i_World_strike_32 : m_at k_World_strike 32 = some (.bipush 9, 2, 0) := m_at_of r_World_strike (by decide +kernel)
theorem i_World_strike_34 : m_at k_World_strike 34 = some (.invokestatic 33, 3, 322) := m_at_of r_World_strike (by decide +kernel)
theorem i_World_strike_37 : m_at k_World_strike 37 = some (.ifCond .eq (7), 3, 0) := m_at_of r_World_strike (by decide +kernel)
theorem i_World_strike_40 : m_at k_World_strike 40 = some (.iconst 1, 1, 0) := m_at_of r_World_strike (by decide +kernel)
theorem i_World_strike_41 : m_at k_World_strike 41 = some (.goto (4), 3, 0) := m_at_of r_World_strike (by decide +kernel)
theorem i_World_strike_44 : m_at k_World_strike 44 = some (.iconst 0, 1, 0) := m_at_of r_World_strike (by decide +kernel)
theorem i_World_strike_45 : m_at k_World_strike 45 = some (.istore 7, 2, 0) := m_at_of r_World_strike (by decide +kernel)
theorem i_World_strike_47 : m_at k_World_strike 47 = some (.iload 6, 2, 0) := m_at_of r_World_strike (by decide +kernel)
theorem i_World_strike_49 : m_at k_World_strike 49 = some (.bipush 12, 2, 0) := m_at_of r_World_strike (by decide +kernel)
theorem i_World_strike_51 : m_at k_World_strike 51 = some (.if_icmp .ge (29), 3, 0) := m_at_of r_World_strike (by decide +kernel)
theorem i_World_strike_54 : m_at k_World_strike 54 = some (.iload 7, 2, 0) := m_at_of r_World_strike (by decide +kernel)
theorem i_World_strike_56 : m_at k_World_strike 56 = some (.ifCond .eq (24), 3, 0) := m_at_of r_World_strike (by decide +kernel)
theorem i_World_strike_59 : m_at k_World_strike 59 = some (.aload_n 0, 1, 0) := m_at_of r_World_strike (by decide +kernel)
theorem i_World_strike_60 : m_at k_World_strike 60 = some (.iload_n 1, 1, 0) := m_at_of r_World_strike (by decide +kernel)
theorem i_World_strike_61 : m_at k_World_strike 61 = some (.invokevirtual 41, 3, 191) := m_at_of r_World_strike (by decide +kernel)
theorem i_World_strike_64 : m_at k_World_strike 64 = some (.ifCond .eq (16), 3, 0) := m_at_of r_World_strike (by decide +kernel)
theorem i_World_strike_67 : m_at k_World_strike 67 = some (.aload_n 0, 1, 0) := m_at_of r_World_strike (by decide +kernel)
theorem i_World_strike_68 : m_at k_World_strike 68 = some (.iload_n 2, 1, 0) := m_at_of r_World_strike (by decide +kernel)
theorem i_World_strike_69 : m_at k_World_strike 69 = some (.invokevirtual 41, 3, 191) := m_at_of r_World_strike (by decide +kernel)
theorem i_World_strike_72 : m_at k_World_strike 72 = some (.ifCond .eq (8), 3, 0) := m_at_of r_World_strike (by decide +kernel)
theorem i_World_strike_75 : m_at k_World_strike 75 = some (.iload_n 1, 1, 0) := m_at_of r_World_strike (by decide +kernel)
theorem i_World_strike_76 : m_at k_World_strike 76 = some (.iload_n 2, 1, 0) := m_at_of r_World_strike (by decide +kernel)
theorem i_World_strike_77 : m_at k_World_strike 77 = some (.if_icmp .ne (5), 3, 0) := m_at_of r_World_strike (by decide +kernel)
theorem i_World_strike_80 : m_at k_World_strike 80 = some (.iconst (-1), 1, 0) := m_at_of r_World_strike (by decide +kernel)
theorem i_World_strike_81 : m_at k_World_strike 81 = some (.ireturn, 1, 0) := m_at_of r_World_strike (by decide +kernel)
theorem i_World_strike_82 : m_at k_World_strike 82 = some (.aload_n 0, 1, 0) := m_at_of r_World_strike (by decide +kernel)
theorem i_World_strike_83 : m_at k_World_strike 83 = some (.bipush 27, 2, 0) := m_at_of r_World_strike (by decide +kernel)
theorem i_World_strike_85 : m_at k_World_strike 85 = some (.iload 6, 2, 0) := m_at_of r_World_strike (by decide +kernel)
theorem i_World_strike_87 : m_at k_World_strike 87 = some (.iload_n 1, 1, 0) := m_at_of r_World_strike (by decide +kernel)
theorem i_World_strike_88 : m_at k_World_strike 88 = some (.invokevirtual 37, 3, 286) := m_at_of r_World_strike (by decide +kernel)
theorem i_World_strike_91 : m_at k_World_strike 91 = some (.aload_n 0, 1, 0) := m_at_of r_World_strike (by decide +kernel)
theorem i_World_strike_92 : m_at k_World_strike 92 = some (.bipush 39, 2, 0) := m_at_of r_World_strike (by decide +kernel)
theorem i_World_strike_94 : m_at k_World_strike 94 = some (.iload 6, 2, 0) := m_at_of r_World_strike (by decide +kernel)
theorem i_World_strike_96 : m_at k_World_strike 96 = some (.iload_n 2, 1, 0) := m_at_of r_World_strike (by decide +kernel)
theorem i_World_strike_97 : m_at k_World_strike 97 = some (.invokevirtual 37, 3, 286) := m_at_of r_World_strike (by decide +kernel)
theorem i_World_strike_100 : m_at k_World_strike 100 = some (.aload_n 0, 1, 0) := m_at_of r_World_strike (by decide +kernel)
theorem i_World_strike_101 : m_at k_World_strike 101 = some (.bipush 51, 2, 0) := m_at_of r_World_strike (by decide +kernel)
theorem i_World_strike_103 : m_at k_World_strike 103 = some (.iload 6, 2, 0) := m_at_of r_World_strike (by decide +kernel)
theorem i_World_strike_105 : m_at k_World_strike 105 = some (.iload_n 3, 1, 0) := m_at_of r_World_strike (by decide +kernel)
theorem i_World_strike_106 : m_at k_World_strike 106 = some (.invokevirtual 37, 3, 286) := m_at_of r_World_strike (by decide +kernel)
theorem i_World_strike_109 : m_at k_World_strike 109 = some (.aload_n 0, 1, 0) := m_at_of r_World_strike (by decide +kernel)
theorem i_World_strike_110 : m_at k_World_strike 110 = some (.bipush 63, 2, 0) := m_at_of r_World_strike (by decide +kernel)
theorem i_World_strike_112 : m_at k_World_strike 112 = some (.iload 6, 2, 0) := m_at_of r_World_strike (by decide +kernel)
theorem i_World_strike_114 : m_at k_World_strike 114 = some (.iload 4, 2, 0) := m_at_of r_World_strike (by decide +kernel)
theorem i_World_strike_116 : m_at k_World_strike 116 = some (.invokevirtual 37, 3, 286) := m_at_of r_World_strike (by decide +kernel)
theorem i_World_strike_119 : m_at k_World_strike 119 = some (.aload_n 0, 1, 0) := m_at_of r_World_strike (by decide +kernel)
theorem i_World_strike_120 : m_at k_World_strike 120 = some (.bipush 75, 2, 0) := m_at_of r_World_strike (by decide +kernel)
theorem i_World_strike_122 : m_at k_World_strike 122 = some (.iload 6, 2, 0) := m_at_of r_World_strike (by decide +kernel)
theorem i_World_strike_124 : m_at k_World_strike 124 = some (.iload 5, 2, 0) := m_at_of r_World_strike (by decide +kernel)
theorem i_World_strike_126 : m_at k_World_strike 126 = some (.invokevirtual 37, 3, 286) := m_at_of r_World_strike (by decide +kernel)
theorem i_World_strike_129 : m_at k_World_strike 129 = some (.aload_n 0, 1, 0) := m_at_of r_World_strike (by decide +kernel)
theorem i_World_strike_130 : m_at k_World_strike 130 = some (.bipush 87, 2, 0) := m_at_of r_World_strike (by decide +kernel)
theorem i_World_strike_132 : m_at k_World_strike 132 = some (.iload 6, 2, 0) := m_at_of r_World_strike (by decide +kernel)
theorem i_World_strike_134 : m_at k_World_strike 134 = some (.aload_n 0, 1, 0) := m_at_of r_World_strike (by decide +kernel)
theorem i_World_strike_135 : m_at k_World_strike 135 = some (.iconst 1, 1, 0) := m_at_of r_World_strike (by decide +kernel)
theorem i_World_strike_136 : m_at k_World_strike 136 = some (.iload_n 1, 1, 0) := m_at_of r_World_strike (by decide +kernel)
theorem i_World_strike_137 : m_at k_World_strike 137 = some (.invokevirtual 25, 3, 109) := m_at_of r_World_strike (by decide +kernel)
theorem i_World_strike_140 : m_at k_World_strike 140 = some (.invokevirtual 37, 3, 286) := m_at_of r_World_strike (by decide +kernel)
theorem i_World_strike_143 : m_at k_World_strike 143 = some (.aload_n 0, 1, 0) := m_at_of r_World_strike (by decide +kernel)
theorem i_World_strike_144 : m_at k_World_strike 144 = some (.bipush 99, 2, 0) := m_at_of r_World_strike (by decide +kernel)
theorem i_World_strike_146 : m_at k_World_strike 146 = some (.iload 6, 2, 0) := m_at_of r_World_strike (by decide +kernel)
theorem i_World_strike_148 : m_at k_World_strike 148 = some (.iconst 0, 1, 0) := m_at_of r_World_strike (by decide +kernel)
theorem i_World_strike_149 : m_at k_World_strike 149 = some (.invokevirtual 37, 3, 286) := m_at_of r_World_strike (by decide +kernel)
theorem i_World_strike_152 : m_at k_World_strike 152 = some (.aload_n 0, 1, 0) := m_at_of r_World_strike (by decide +kernel)
theorem i_World_strike_153 : m_at k_World_strike 153 = some (.getfield 11, 3, 36) := m_at_of r_World_strike (by decide +kernel)
theorem i_World_strike_156 : m_at k_World_strike 156 = some (.bipush 25, 2, 0) := m_at_of r_World_strike (by decide +kernel)
theorem i_World_strike_158 : m_at k_World_strike 158 = some (.iload 6, 2, 0) := m_at_of r_World_strike (by decide +kernel)
theorem i_World_strike_160 : m_at k_World_strike 160 = some (.iconst 1, 1, 0) := m_at_of r_World_strike (by decide +kernel)
theorem i_World_strike_161 : m_at k_World_strike 161 = some (.iadd, 1, 0) := m_at_of r_World_strike (by decide +kernel)
theorem i_World_strike_162 : m_at k_World_strike 162 = some (.iastore, 1, 0) := m_at_of r_World_strike (by decide +kernel)
theorem i_World_strike_163 : m_at k_World_strike 163 = some (.iload 6, 2, 0) := m_at_of r_World_strike (by decide +kernel)
theorem i_World_strike_165 : m_at k_World_strike 165 = some (.ireturn, 1, 0) := m_at_of r_World_strike (by decide +kernel)
set_option maxRecDepth 20000 in
set_option maxHeartbeats 1000000 in
theorem E_World_strike (x : m_X) (s : m_H) (w : Nat) (n1 : Int32) (n2 : Int32) (n3 : Int32) (n4 : Int32) (n5 : Int32) : m_M x k_World_strike [.ref w, .int n1, .int n2, .int n3, .int n4, .int n5] s = if m_isO s w 9 = true then ((m_fR s 9 0 w).bind fun v1 => (m_ia x s v1 25).bind fun v6 => m_bI (m_M x k_G_isIn [.int n3, .int 1, .int 99] s) fun v13 s13 => if v13 = 0 then (m_D x 2 k_World_strike 45 [some (.ref w), some (.int n1), some (.int n2), some (.int n3), some (.int n4), some (.int n5), some (.int v6), none] [.int 0] s13) else m_bI (m_M x k_G_isIn [.int n4, .int 0, .int 2] s13) fun v23 s23 => if v23 = 0 then (m_D x 2 k_World_strike 45 [some (.ref w), some (.int n1), some (.int n2), some (.int n3), some (.int n4), some (.int n5), some (.int v6), none] [.int 0] s23) else m_bI (m_M x k_G_isIn [.int n5, .int 0, .int 9] s23) fun v34 s34 => if v34 = 0 then (m_D x 2 k_World_strike 45 [some (.ref w), some (.int n1), some (.int n2), some (.int n3), some (.int n4), some (.int n5), some (.int v6), none] [.int 0] s34) else m_D x 2 k_World_strike 45 [some (.ref w), some (.int n1), some (.int n2), some (.int n3), some (.int n4), some (.int n5), some (.int v6), none] [.int 1] s34) else none := by
  refine e_M1 (L0 := [some (.ref w), some (.int n1), some (.int n2), some (.int n3), some (.int n4), some (.int n5), none, none]) rfl (by decide +kernel) rfl (q_World_strike _) rfl ?_
  refine e_aload_n i_World_strike_0 rfl ?_
  refine e_getR i_World_strike_1 lf_36 (by decide) ft_9_0 (fun v1 => ?_)
  refine e_bipush (v := 25) i_World_strike_4 (by decide) ?_
  refine e_iald i_World_strike_6 (fun v6 => ?_)
  refine e_istore (L' := [some (.ref w), some (.int n1), some (.int n2), some (.int n3), some (.int n4), some (.int n5), some (.int v6), none]) i_World_strike_7 (of_decide_eq_true rfl) rfl ?_
  refine e_iload_n i_World_strike_9 rfl ?_
  refine e_iconst (v := 1) i_World_strike_10 (by decide) ?_
  refine e_bipush (v := 99) i_World_strike_11 (by decide) ?_
  refine e_callI (as := [.int n3, .int 1, .int 99]) (st' := []) i_World_strike_13 lm_322 (Or.inl ⟨rfl, rfl⟩) w_G_isIn rfl rfl rfl (Nat.le_of_ble_eq_true rfl) (Nat.le_of_ble_eq_true rfl) (m_rlt (q_G_isIn _) (by decide)) rfl (fun v13 s13 => ?_)
  refine e_ifeq (t := 44) i_World_strike_16 (by decide) ?_ ?_
  · refine e_iconst (v := 0) i_World_strike_44 (by decide) ?_
    exact rfl
  · refine e_iload i_World_strike_19 rfl ?_
    refine e_iconst (v := 0) i_World_strike_21 (by decide) ?_
    refine e_iconst (v := 2) i_World_strike_22 (by decide) ?_
    refine e_callI (as := [.int n4, .int 0, .int 2]) (st' := []) i_World_strike_23 lm_322 (Or.inl ⟨rfl, rfl⟩) w_G_isIn rfl rfl rfl (Nat.le_of_ble_eq_true rfl) (Nat.le_of_ble_eq_true rfl) (m_rlt (q_G_isIn _) (by decide)) rfl (fun v23 s23 => ?_)
    refine e_ifeq (t := 44) i_World_strike_26 (by decide) ?_ ?_
    · refine e_iconst (v := 0) i_World_strike_44 (by decide) ?_
      exact rfl
    · refine e_iload i_World_strike_29 rfl ?_
      refine e_iconst (v := 0) i_World_strike_31 (by decide) ?_
      refine e_bipush (v := 9) i_World_strike_32 (by decide) ?_
      refine e_callI (as := [.int n5, .int 0, .int 9]) (st' := []) i_World_strike_34 lm_322 (Or.inl ⟨rfl, rfl⟩) w_G_isIn rfl rfl rfl (Nat.le_of_ble_eq_true rfl) (Nat.le_of_ble_eq_true rfl) (m_rlt (q_G_isIn _) (by decide)) rfl (fun v34 s34 => ?_)
      refine e_ifeq (t := 44) i_World_strike_37 (by decide) ?_ ?_
      · refine e_iconst (v := 0) i_World_strike_44 (by decide) ?_
        exact rfl
      · refine e_iconst (v := 1) i_World_strike_40 (by decide) ?_
        refine e_goto (t := 45) i_World_strike_41 (by decide) ?_
        exact rfl
set_option maxRecDepth 20000 in
set_option maxHeartbeats 1000000 in
theorem E_World_strike_45 (x : m_X) (ρ : Nat) (hρ : 2 ≤ ρ) (s : m_H) (w : Nat) (n1 : Int32) (n2 : Int32) (n3 : Int32) (n4 : Int32) (n5 : Int32) (n6 : Int32) (nt0 : Int32)  : m_D x ρ k_World_strike 45 [some (.ref w), some (.int n1), some (.int n2), some (.int n3), some (.int n4), some (.int n5), some (.int n6), none] [.int nt0] s = if 12 ≤ n6 then (some (some (.int (-1)), s)) else if nt0 = 0 then (some (some (.int (-1)), s)) else m_bI (m_M x k_World_hasOne [.ref w, .int n1] s) fun v61 s61 => if v61 = 0 then (some (some (.int (-1)), s61)) else m_bI (m_M x k_World_hasOne [.ref w, .int n2] s61) fun v69 s69 => if v69 = 0 then (some (some (.int (-1)), s69)) else if n1 = n2 then (some (some (.int (-1)), s69)) else m_bV (m_M x k_World_change [.ref w, .int 27, .int n6, .int n1] s69) fun s88 => m_bV (m_M x k_World_change [.ref w, .int 39, .int n6, .int n2] s88) fun s97 => m_bV (m_M x k_World_change [.ref w, .int 51, .int n6, .int n3] s97) fun s106 => m_bV (m_M x k_World_change [.ref w, .int 63, .int n6, .int n4] s106) fun s116 => m_bV (m_M x k_World_change [.ref w, .int 75, .int n6, .int n5] s116) fun s126 => m_bI (m_M x k_World_at [.ref w, .int 1, .int n1] s126) fun v137 s137 => m_bV (m_M x k_World_change [.ref w, .int 87, .int n6, .int v137] s137) fun s140 => m_bV (m_M x k_World_change [.ref w, .int 99, .int n6, .int 0] s140) fun s149 => (m_fR s149 9 0 w).bind fun v153 => (m_is s149 v153 25 (n6 + (1 : Int32))).bind fun s162 => some (some (.int n6), s162) := by
  refine e_istore (L' := [some (.ref w), some (.int n1), some (.int n2), some (.int n3), some (.int n4), some (.int n5), some (.int n6), some (.int nt0)]) i_World_strike_45 (of_decide_eq_true rfl) rfl ?_
  refine e_iload i_World_strike_47 rfl ?_
  refine e_bipush (v := 12) i_World_strike_49 (by decide) ?_
  refine e_icmpge (t := 80) i_World_strike_51 (by decide) ?_ ?_
  · refine e_iconst (v := (-1)) i_World_strike_80 (by decide) ?_
    exact e_iretI i_World_strike_81 rfl
  · refine e_iload i_World_strike_54 rfl ?_
    refine e_ifeq (t := 80) i_World_strike_56 (by decide) ?_ ?_
    · refine e_iconst (v := (-1)) i_World_strike_80 (by decide) ?_
      exact e_iretI i_World_strike_81 rfl
    · refine e_aload_n i_World_strike_59 rfl ?_
      refine e_iload_n i_World_strike_60 rfl ?_
      refine e_callI (as := [.ref w, .int n1]) (st' := []) i_World_strike_61 lm_191 (Or.inr (Or.inl ⟨rfl, rfl⟩)) w_World_hasOne rfl rfl rfl (Nat.le_of_ble_eq_true rfl) (Nat.le_of_ble_eq_true rfl) (m_rlt (q_World_hasOne _) (Nat.lt_of_lt_of_le (by decide) hρ)) rfl (fun v61 s61 => ?_)
      refine e_ifeq (t := 80) i_World_strike_64 (by decide) ?_ ?_
      · refine e_iconst (v := (-1)) i_World_strike_80 (by decide) ?_
        exact e_iretI i_World_strike_81 rfl
      · refine e_aload_n i_World_strike_67 rfl ?_
        refine e_iload_n i_World_strike_68 rfl ?_
        refine e_callI (as := [.ref w, .int n2]) (st' := []) i_World_strike_69 lm_191 (Or.inr (Or.inl ⟨rfl, rfl⟩)) w_World_hasOne rfl rfl rfl (Nat.le_of_ble_eq_true rfl) (Nat.le_of_ble_eq_true rfl) (m_rlt (q_World_hasOne _) (Nat.lt_of_lt_of_le (by decide) hρ)) rfl (fun v69 s69 => ?_)
        refine e_ifeq (t := 80) i_World_strike_72 (by decide) ?_ ?_
        · refine e_iconst (v := (-1)) i_World_strike_80 (by decide) ?_
          exact e_iretI i_World_strike_81 rfl
        · refine e_iload_n i_World_strike_75 rfl ?_
          refine e_iload_n i_World_strike_76 rfl ?_
          refine e_icmpne (t := 82) i_World_strike_77 (by decide) ?_ ?_
          · refine e_aload_n i_World_strike_82 rfl ?_
            refine e_bipush (v := 27) i_World_strike_83 (by decide) ?_
            refine e_iload i_World_strike_85 rfl ?_
            refine e_iload_n i_World_strike_87 rfl ?_
            refine e_callV (as := [.ref w, .int 27, .int n6, .int n1]) (st' := []) i_World_strike_88 lm_286 (Or.inr (Or.inl ⟨rfl, rfl⟩)) w_World_change rfl rfl rfl (Nat.le_of_ble_eq_true rfl) (Nat.le_of_ble_eq_true rfl) (m_rlt (q_World_change _) (Nat.lt_of_lt_of_le (by decide) hρ)) rfl (fun s88 => ?_)
            refine e_aload_n i_World_strike_91 rfl ?_
            refine e_bipush (v := 39) i_World_strike_92 (by decide) ?_
            refine e_iload i_World_strike_94 rfl ?_
            refine e_iload_n i_World_strike_96 rfl ?_
            refine e_callV (as := [.ref w, .int 39, .int n6, .int n2]) (st' := []) i_World_strike_97 lm_286 (Or.inr (Or.inl ⟨rfl, rfl⟩)) w_World_change rfl rfl rfl (Nat.le_of_ble_eq_true rfl) (Nat.le_of_ble_eq_true rfl) (m_rlt (q_World_change _) (Nat.lt_of_lt_of_le (by decide) hρ)) rfl (fun s97 => ?_)
            refine e_aload_n i_World_strike_100 rfl ?_
            refine e_bipush (v := 51) i_World_strike_101 (by decide) ?_
            refine e_iload i_World_strike_103 rfl ?_
            refine e_iload_n i_World_strike_105 rfl ?_
            refine e_callV (as := [.ref w, .int 51, .int n6, .int n3]) (st' := []) i_World_strike_106 lm_286 (Or.inr (Or.inl ⟨rfl, rfl⟩)) w_World_change rfl rfl rfl (Nat.le_of_ble_eq_true rfl) (Nat.le_of_ble_eq_true rfl) (m_rlt (q_World_change _) (Nat.lt_of_lt_of_le (by decide) hρ)) rfl (fun s106 => ?_)
            refine e_aload_n i_World_strike_109 rfl ?_
            refine e_bipush (v := 63) i_World_strike_110 (by decide) ?_
            refine e_iload i_World_strike_112 rfl ?_
            refine e_iload i_World_strike_114 rfl ?_
            refine e_callV (as := [.ref w, .int 63, .int n6, .int n4]) (st' := []) i_World_strike_116 lm_286 (Or.inr (Or.inl ⟨rfl, rfl⟩)) w_World_change rfl rfl rfl (Nat.le_of_ble_eq_true rfl) (Nat.le_of_ble_eq_true rfl) (m_rlt (q_World_change _) (Nat.lt_of_lt_of_le (by decide) hρ)) rfl (fun s116 => ?_)
            refine e_aload_n i_World_strike_119 rfl ?_
            refine e_bipush (v := 75) i_World_strike_120 (by decide) ?_
            refine e_iload i_World_strike_122 rfl ?_
            refine e_iload i_World_strike_124 rfl ?_
            refine e_callV (as := [.ref w, .int 75, .int n6, .int n5]) (st' := []) i_World_strike_126 lm_286 (Or.inr (Or.inl ⟨rfl, rfl⟩)) w_World_change rfl rfl rfl (Nat.le_of_ble_eq_true rfl) (Nat.le_of_ble_eq_true rfl) (m_rlt (q_World_change _) (Nat.lt_of_lt_of_le (by decide) hρ)) rfl (fun s126 => ?_)
            refine e_aload_n i_World_strike_129 rfl ?_
            refine e_bipush (v := 87) i_World_strike_130 (by decide) ?_
            refine e_iload i_World_strike_132 rfl ?_
            refine e_aload_n i_World_strike_134 rfl ?_
            refine e_iconst (v := 1) i_World_strike_135 (by decide) ?_
            refine e_iload_n i_World_strike_136 rfl ?_
            refine e_callI (as := [.ref w, .int 1, .int n1]) (st' := [.int n6, .int 87, .ref w]) i_World_strike_137 lm_109 (Or.inr (Or.inl ⟨rfl, rfl⟩)) w_World_at rfl rfl rfl (Nat.le_of_ble_eq_true rfl) (Nat.le_of_ble_eq_true rfl) (m_rlt (q_World_at _) (Nat.lt_of_lt_of_le (by decide) hρ)) rfl (fun v137 s137 => ?_)
            refine e_callV (as := [.ref w, .int 87, .int n6, .int v137]) (st' := []) i_World_strike_140 lm_286 (Or.inr (Or.inl ⟨rfl, rfl⟩)) w_World_change rfl rfl rfl (Nat.le_of_ble_eq_true rfl) (Nat.le_of_ble_eq_true rfl) (m_rlt (q_World_change _) (Nat.lt_of_lt_of_le (by decide) hρ)) rfl (fun s140 => ?_)
            refine e_aload_n i_World_strike_143 rfl ?_
            refine e_bipush (v := 99) i_World_strike_144 (by decide) ?_
            refine e_iload i_World_strike_146 rfl ?_
            refine e_iconst (v := 0) i_World_strike_148 (by decide) ?_
            refine e_callV (as := [.ref w, .int 99, .int n6, .int 0]) (st' := []) i_World_strike_149 lm_286 (Or.inr (Or.inl ⟨rfl, rfl⟩)) w_World_change rfl rfl rfl (Nat.le_of_ble_eq_true rfl) (Nat.le_of_ble_eq_true rfl) (m_rlt (q_World_change _) (Nat.lt_of_lt_of_le (by decide) hρ)) rfl (fun s149 => ?_)
            refine e_aload_n i_World_strike_152 rfl ?_
            refine e_getR i_World_strike_153 lf_36 (by decide) ft_9_0 (fun v153 => ?_)
            refine e_bipush (v := 25) i_World_strike_156 (by decide) ?_
            refine e_iload i_World_strike_158 rfl ?_
            refine e_iconst (v := 1) i_World_strike_160 (by decide) ?_
            refine e_iadd i_World_strike_161 ?_
            refine e_iast i_World_strike_162 (fun s162 => ?_)
            refine e_iload i_World_strike_163 rfl ?_
            exact e_iretI i_World_strike_165 rfl
          · refine e_iconst (v := (-1)) i_World_strike_80 (by decide) ?_
            exact e_iretI i_World_strike_81 rfl
theorem i_World_at_0 : m_at k_World_at 0 = some (.iload_n 1, 1, 0) := m_at_of r_World_at (by decide +kernel)
theorem i_World_at_1 : m_at k_World_at 1 = some (.iload_n 2, 1, 0) := m_at_of r_World_at (by decide +kernel)
theorem i_World_at_2 : m_at k_World_at 2 = some (.iadd, 1, 0) := m_at_of r_World_at (by decide +kernel)
theorem i_World_at_3 : m_at k_World_at 3 = some (.istore_n 3, 1, 0) := m_at_of r_World_at (by decide +kernel)
theorem i_World_at_4 : m_at k_World_at 4 = some (.iload_n 3, 1, 0) := m_at_of r_World_at (by decide +kernel)
theorem i_World_at_5 : m_at k_World_at 5 = some (.ifCond .lt (19), 3, 0) := m_at_of r_World_at (by decide +kernel)
theorem i_World_at_8 : m_at k_World_at 8 = some (.iload_n 3, 1, 0) := m_at_of r_World_at (by decide +kernel)
theorem i_World_at_9 : m_at k_World_at 9 = some (.sipush 141, 3, 0) := m_at_of r_World_at (by decide +kernel)
theorem i_World_at_12 : m_at k_World_at 12 = some (.if_icmp .ge (12), 3, 0) := m_at_of r_World_at (by decide +kernel)
theorem i_World_at_15 : m_at k_World_at 15 = some (.aload_n 0, 1, 0) := m_at_of r_World_at (by decide +kernel)
theorem i_World_at_16 : m_at k_World_at 16 = some (.getfield 11, 3, 36) := m_at_of r_World_at (by decide +kernel)
theorem i_World_at_19 : m_at k_World_at 19 = some (.iload_n 3, 1, 0) := m_at_of r_World_at (by decide +kernel)
theorem i_World_at_20 : m_at k_World_at 20 = some (.iaload, 1, 0) := m_at_of r_World_at (by decide +kernel)
theorem i_World_at_21 : m_at k_World_at 21 = some (.goto (4), 3, 0) := m_at_of r_World_at (by decide +kernel)
theorem i_World_at_24 : m_at k_World_at 24 = some (.iconst 0, 1, 0) := m_at_of r_World_at (by decide +kernel)
theorem i_World_at_25 : m_at k_World_at 25 = some (.ireturn, 1, 0) := m_at_of r_World_at (by decide +kernel)
set_option maxRecDepth 20000 in
set_option maxHeartbeats 1000000 in
theorem E_World_at (x : m_X) (s : m_H) (w : Nat) (n1 : Int32) (n2 : Int32) : m_M x k_World_at [.ref w, .int n1, .int n2] s = if m_isO s w 9 = true then (if (n1 + n2) < 0 then (some (some (.int 0), s)) else if 141 ≤ (n1 + n2) then (some (some (.int 0), s)) else (m_fR s 9 0 w).bind fun v16 => (m_ia x s v16 (n1 + n2)).bind fun v20 => some (some (.int v20), s)) else none := by
  refine e_M1 (L0 := [some (.ref w), some (.int n1), some (.int n2), none]) rfl (by decide +kernel) rfl (q_World_at _) rfl ?_
  refine e_iload_n i_World_at_0 rfl ?_
  refine e_iload_n i_World_at_1 rfl ?_
  refine e_iadd i_World_at_2 ?_
  refine e_istore_n (L' := [some (.ref w), some (.int n1), some (.int n2), some (.int (n1 + n2))]) i_World_at_3 (of_decide_eq_true rfl) rfl ?_
  refine e_iload_n i_World_at_4 rfl ?_
  refine e_iflt (t := 24) i_World_at_5 (by decide) ?_ ?_
  · refine e_iconst (v := 0) i_World_at_24 (by decide) ?_
    exact e_iretI i_World_at_25 rfl
  · refine e_iload_n i_World_at_8 rfl ?_
    refine e_sipush (v := 141) i_World_at_9 (by decide) ?_
    refine e_icmpge (t := 24) i_World_at_12 (by decide) ?_ ?_
    · refine e_iconst (v := 0) i_World_at_24 (by decide) ?_
      exact e_iretI i_World_at_25 rfl
    · refine e_aload_n i_World_at_15 rfl ?_
      refine e_getR i_World_at_16 lf_36 (by decide) ft_9_0 (fun v16 => ?_)
      refine e_iload_n i_World_at_19 rfl ?_
      refine e_iald i_World_at_20 (fun v20 => ?_)
      refine e_goto (t := 25) i_World_at_21 (by decide) ?_
      exact e_iretI i_World_at_25 rfl
theorem i_World_hasOne_0 : m_at k_World_hasOne 0 = some (.iload_n 1, 1, 0) := m_at_of r_World_hasOne (by decide +kernel)
theorem i_World_hasOne_1 : m_at k_World_hasOne 1 = some (.ifCond .lt (17), 3, 0) := m_at_of r_World_hasOne (by decide +kernel)
theorem i_World_hasOne_4 : m_at k_World_hasOne 4 = some (.iload_n 1, 1, 0) := m_at_of r_World_hasOne (by decide +kernel)
theorem i_World_hasOne_5 : m_at k_World_hasOne 5 = some (.aload_n 0, 1, 0) := m_at_of r_World_hasOne (by decide +kernel)
theorem i_World_hasOne_6 : m_at k_World_hasOne 6 = some (.getfield 11, 3, 36) := m_at_of r_World_hasOne (by decide +kernel)
theorem i_World_hasOne_9 : m_at k_World_hasOne 9 = some (.iconst 0, 1, 0) := m_at_of r_World_hasOne (by decide +kernel)
theorem i_World_hasOne_10 : m_at k_World_hasOne 10 = some (.iaload, 1, 0) := m_at_of r_World_hasOne (by decide +kernel)
theorem i_World_hasOne_11 : m_at k_World_hasOne 11 = some (.if_icmp .ge (7), 3, 0) := m_at_of r_World_hasOne (by decide +kernel)
theorem i_World_hasOne_14 : m_at k_World_hasOne 14 = some (.iconst 1, 1, 0) := m_at_of r_World_hasOne (by decide +kernel)
theorem i_World_hasOne_15 : m_at k_World_hasOne 15 = some (.goto (4), 3, 0) := m_at_of r_World_hasOne (by decide +kernel)
theorem i_World_hasOne_18 : m_at k_World_hasOne 18 = some (.iconst 0, 1, 0) := m_at_of r_World_hasOne (by decide +kernel)
theorem i_World_hasOne_19 : m_at k_World_hasOne 19 = some (.ireturn, 1, 0) := m_at_of r_World_hasOne (by decide +kernel)
set_option maxRecDepth 20000 in
set_option maxHeartbeats 1000000 in
theorem E_World_hasOne (x : m_X) (s : m_H) (w : Nat) (n1 : Int32) : m_M x k_World_hasOne [.ref w, .int n1] s = if m_isO s w 9 = true then (if n1 < 0 then (some (some (.int 0), s)) else (m_fR s 9 0 w).bind fun v6 => (m_ia x s v6 0).bind fun v10 => if v10 ≤ n1 then (some (some (.int 0), s)) else some (some (.int 1), s)) else none := by
  refine e_M1 (L0 := [some (.ref w), some (.int n1)]) rfl (by decide +kernel) rfl (q_World_hasOne _) rfl ?_
  refine e_iload_n i_World_hasOne_0 rfl ?_
  refine e_iflt (t := 18) i_World_hasOne_1 (by decide) ?_ ?_
  · refine e_iconst (v := 0) i_World_hasOne_18 (by decide) ?_
    exact e_iretZ i_World_hasOne_19 rfl (by decide)
  · refine e_iload_n i_World_hasOne_4 rfl ?_
    refine e_aload_n i_World_hasOne_5 rfl ?_
    refine e_getR i_World_hasOne_6 lf_36 (by decide) ft_9_0 (fun v6 => ?_)
    refine e_iconst (v := 0) i_World_hasOne_9 (by decide) ?_
    refine e_iald i_World_hasOne_10 (fun v10 => ?_)
    refine e_icmpge (t := 18) i_World_hasOne_11 (by decide) ?_ ?_
    · refine e_iconst (v := 0) i_World_hasOne_18 (by decide) ?_
      exact e_iretZ i_World_hasOne_19 rfl (by decide)
    · refine e_iconst (v := 1) i_World_hasOne_14 (by decide) ?_
      refine e_goto (t := 19) i_World_hasOne_15 (by decide) ?_
      exact e_iretZ i_World_hasOne_19 rfl (by decide)
theorem i_World_tellOne_0 : m_at k_World_tellOne 0 = some (.aload_n 0, 1, 0) := m_at_of r_World_tellOne (by decide +kernel)
theorem i_World_tellOne_1 : m_at k_World_tellOne 1 = some (.getfield 11, 3, 36) := m_at_of r_World_tellOne (by decide +kernel)
theorem i_World_tellOne_4 : m_at k_World_tellOne 4 = some (.iconst 0, 1, 0) := m_at_of r_World_tellOne (by decide +kernel)
theorem i_World_tellOne_5 : m_at k_World_tellOne 5 = some (.iaload, 1, 0) := m_at_of r_World_tellOne (by decide +kernel)
theorem i_World_tellOne_6 : m_at k_World_tellOne 6 = some (.istore_n 3, 1, 0) := m_at_of r_World_tellOne (by decide +kernel)
theorem i_World_tellOne_7 : m_at k_World_tellOne 7 = some (.iload_n 3, 1, 0) := m_at_of r_World_tellOne (by decide +kernel)
theorem i_World_tellOne_8 : m_at k_World_tellOne 8 = some (.bipush 7, 2, 0) := m_at_of r_World_tellOne (by decide +kernel)
theorem i_World_tellOne_10 : m_at k_World_tellOne 10 = some (.if_icmp .ge (24), 3, 0) := m_at_of r_World_tellOne (by decide +kernel)
theorem i_World_tellOne_13 : m_at k_World_tellOne 13 = some (.iload_n 1, 1, 0) := m_at_of r_World_tellOne (by decide +kernel)
theorem i_World_tellOne_14 : m_at k_World_tellOne 14 = some (.iconst 1, 1, 0) := m_at_of r_World_tellOne (by decide +kernel)
theorem i_World_tellOne_15 : m_at k_World_tellOne 15 = some (.bipush 9, 2, 0) := m_at_of r_World_tellOne (by decide +kernel)
theorem i_World_tellOne_17 : m_at k_World_tellOne 17 = some (.invokestatic 33, 3, 322) := m_at_of r_World_tellOne (by decide +kernel)
theorem i_World_tellOne_20 : m_at k_World_tellOne 20 = some (.ifCond .eq (14), 3, 0) := m_at_of r_World_tellOne (by decide +kernel)
theorem i_World_tellOne_23 : m_at k_World_tellOne 23 = some (.iload_n 2, 1, 0) := m_at_of r_World_tellOne (by decide +kernel)
theorem i_World_tellOne_24 : m_at k_World_tellOne 24 = some (.iconst 0, 1, 0) := m_at_of r_World_tellOne (by decide +kernel)
theorem i_World_tellOne_25 : m_at k_World_tellOne 25 = some (.sipush 9999, 3, 0) := m_at_of r_World_tellOne (by decide +kernel)
theorem i_World_tellOne_28 : m_at k_World_tellOne 28 = some (.invokestatic 33, 3, 322) := m_at_of r_World_tellOne (by decide +kernel)
theorem i_World_tellOne_31 : m_at k_World_tellOne 31 = some (.ifCond .ne (5), 3, 0) := m_at_of r_World_tellOne (by decide +kernel)
theorem i_World_tellOne_34 : m_at k_World_tellOne 34 = some (.iconst (-1), 1, 0) := m_at_of r_World_tellOne (by decide +kernel)
theorem i_World_tellOne_35 : m_at k_World_tellOne 35 = some (.ireturn, 1, 0) := m_at_of r_World_tellOne (by decide +kernel)
theorem i_World_tellOne_36 : m_at k_World_tellOne 36 = some (.aload_n 0, 1, 0) := m_at_of r_World_tellOne (by decide +kernel)
theorem i_World_tellOne_37 : m_at k_World_tellOne 37 = some (.iconst 1, 1, 0) := m_at_of r_World_tellOne (by decide +kernel)
theorem i_World_tellOne_38 : m_at k_World_tellOne 38 = some (.iload_n 3, 1, 0) := m_at_of r_World_tellOne (by decide +kernel)
theorem i_World_tellOne_39 : m_at k_World_tellOne 39 = some (.iload_n 1, 1, 0) := m_at_of r_World_tellOne (by decide +kernel)
theorem i_World_tellOne_40 : m_at k_World_tellOne 40 = some (.invokevirtual 37, 3, 286) := m_at_of r_World_tellOne (by decide +kernel)
theorem i_World_tellOne_43 : m_at k_World_tellOne 43 = some (.aload_n 0, 1, 0) := m_at_of r_World_tellOne (by decide +kernel)
theorem i_World_tellOne_44 : m_at k_World_tellOne 44 = some (.bipush 8, 2, 0) := m_at_of r_World_tellOne (by decide +kernel)
theorem i_World_tellOne_46 : m_at k_World_tellOne 46 = some (.iload_n 3, 1, 0) := m_at_of r_World_tellOne (by decide +kernel)
theorem i_World_tellOne_47 : m_at k_World_tellOne 47 = some (.iload_n 2, 1, 0) := m_at_of r_World_tellOne (by decide +kernel)
theorem i_World_tellOne_48 : m_at k_World_tellOne 48 = some (.invokevirtual 37, 3, 286) := m_at_of r_World_tellOne (by decide +kernel)
theorem i_World_tellOne_51 : m_at k_World_tellOne 51 = some (.aload_n 0, 1, 0) := m_at_of r_World_tellOne (by decide +kernel)
theorem i_World_tellOne_52 : m_at k_World_tellOne 52 = some (.bipush 15, 2, 0) := m_at_of r_World_tellOne (by decide +kernel)
theorem i_World_tellOne_54 : m_at k_World_tellOne 54 = some (.iload_n 3, 1, 0) := m_at_of r_World_tellOne (by decide +kernel)
theorem i_World_tellOne_55 : m_at k_World_tellOne 55 = some (.iconst 0, 1, 0) := m_at_of r_World_tellOne (by decide +kernel)
theorem i_World_tellOne_56 : m_at k_World_tellOne 56 = some (.invokevirtual 37, 3, 286) := m_at_of r_World_tellOne (by decide +kernel)
theorem i_World_tellOne_59 : m_at k_World_tellOne 59 = some (.aload_n 0, 1, 0) := m_at_of r_World_tellOne (by decide +kernel)
theorem i_World_tellOne_60 : m_at k_World_tellOne 60 = some (.getfield 11, 3, 36) := m_at_of r_World_tellOne (by decide +kernel)
theorem i_World_tellOne_63 : m_at k_World_tellOne 63 = some (.iconst 0, 1, 0) := m_at_of r_World_tellOne (by decide +kernel)
theorem i_World_tellOne_64 : m_at k_World_tellOne 64 = some (.iload_n 3, 1, 0) := m_at_of r_World_tellOne (by decide +kernel)
theorem i_World_tellOne_65 : m_at k_World_tellOne 65 = some (.iconst 1, 1, 0) := m_at_of r_World_tellOne (by decide +kernel)
theorem i_World_tellOne_66 : m_at k_World_tellOne 66 = some (.iadd, 1, 0) := m_at_of r_World_tellOne (by decide +kernel)
theorem i_World_tellOne_67 : m_at k_World_tellOne 67 = some (.iastore, 1, 0) := m_at_of r_World_tellOne (by decide +kernel)
theorem i_World_tellOne_68 : m_at k_World_tellOne 68 = some (.iload_n 3, 1, 0) := m_at_of r_World_tellOne (by decide +kernel)
theorem i_World_tellOne_69 : m_at k_World_tellOne 69 = some (.ireturn, 1, 0) := m_at_of r_World_tellOne (by decide +kernel)
set_option maxRecDepth 20000 in
set_option maxHeartbeats 1000000 in
theorem E_World_tellOne (x : m_X) (s : m_H) (w : Nat) (n1 : Int32) (n2 : Int32) : m_M x k_World_tellOne [.ref w, .int n1, .int n2] s = if m_isO s w 9 = true then ((m_fR s 9 0 w).bind fun v1 => (m_ia x s v1 0).bind fun v5 => if 7 ≤ v5 then (some (some (.int (-1)), s)) else m_bI (m_M x k_G_isIn [.int n1, .int 1, .int 9] s) fun v17 s17 => if v17 = 0 then (some (some (.int (-1)), s17)) else m_bI (m_M x k_G_isIn [.int n2, .int 0, .int 9999] s17) fun v28 s28 => if v28 = 0 then (some (some (.int (-1)), s28)) else m_bV (m_M x k_World_change [.ref w, .int 1, .int v5, .int n1] s28) fun s40 => m_bV (m_M x k_World_change [.ref w, .int 8, .int v5, .int n2] s40) fun s48 => m_bV (m_M x k_World_change [.ref w, .int 15, .int v5, .int 0] s48) fun s56 => (m_fR s56 9 0 w).bind fun v60 => (m_is s56 v60 0 (v5 + (1 : Int32))).bind fun s67 => some (some (.int v5), s67)) else none := by
  refine e_M1 (L0 := [some (.ref w), some (.int n1), some (.int n2), none]) rfl (by decide +kernel) rfl (q_World_tellOne _) rfl ?_
  refine e_aload_n i_World_tellOne_0 rfl ?_
  refine e_getR i_World_tellOne_1 lf_36 (by decide) ft_9_0 (fun v1 => ?_)
  refine e_iconst (v := 0) i_World_tellOne_4 (by decide) ?_
  refine e_iald i_World_tellOne_5 (fun v5 => ?_)
  refine e_istore_n (L' := [some (.ref w), some (.int n1), some (.int n2), some (.int v5)]) i_World_tellOne_6 (of_decide_eq_true rfl) rfl ?_
  refine e_iload_n i_World_tellOne_7 rfl ?_
  refine e_bipush (v := 7) i_World_tellOne_8 (by decide) ?_
  refine e_icmpge (t := 34) i_World_tellOne_10 (by decide) ?_ ?_
  · refine e_iconst (v := (-1)) i_World_tellOne_34 (by decide) ?_
    exact e_iretI i_World_tellOne_35 rfl
  · refine e_iload_n i_World_tellOne_13 rfl ?_
    refine e_iconst (v := 1) i_World_tellOne_14 (by decide) ?_
    refine e_bipush (v := 9) i_World_tellOne_15 (by decide) ?_
    refine e_callI (as := [.int n1, .int 1, .int 9]) (st' := []) i_World_tellOne_17 lm_322 (Or.inl ⟨rfl, rfl⟩) w_G_isIn rfl rfl rfl (Nat.le_of_ble_eq_true rfl) (Nat.le_of_ble_eq_true rfl) (m_rlt (q_G_isIn _) (by decide)) rfl (fun v17 s17 => ?_)
    refine e_ifeq (t := 34) i_World_tellOne_20 (by decide) ?_ ?_
    · refine e_iconst (v := (-1)) i_World_tellOne_34 (by decide) ?_
      exact e_iretI i_World_tellOne_35 rfl
    · refine e_iload_n i_World_tellOne_23 rfl ?_
      refine e_iconst (v := 0) i_World_tellOne_24 (by decide) ?_
      refine e_sipush (v := 9999) i_World_tellOne_25 (by decide) ?_
      refine e_callI (as := [.int n2, .int 0, .int 9999]) (st' := []) i_World_tellOne_28 lm_322 (Or.inl ⟨rfl, rfl⟩) w_G_isIn rfl rfl rfl (Nat.le_of_ble_eq_true rfl) (Nat.le_of_ble_eq_true rfl) (m_rlt (q_G_isIn _) (by decide)) rfl (fun v28 s28 => ?_)
      refine e_ifne (t := 36) i_World_tellOne_31 (by decide) ?_ ?_
      · refine e_aload_n i_World_tellOne_36 rfl ?_
        refine e_iconst (v := 1) i_World_tellOne_37 (by decide) ?_
        refine e_iload_n i_World_tellOne_38 rfl ?_
        refine e_iload_n i_World_tellOne_39 rfl ?_
        refine e_callV (as := [.ref w, .int 1, .int v5, .int n1]) (st' := []) i_World_tellOne_40 lm_286 (Or.inr (Or.inl ⟨rfl, rfl⟩)) w_World_change rfl rfl rfl (Nat.le_of_ble_eq_true rfl) (Nat.le_of_ble_eq_true rfl) (m_rlt (q_World_change _) (by decide)) rfl (fun s40 => ?_)
        refine e_aload_n i_World_tellOne_43 rfl ?_
        refine e_bipush (v := 8) i_World_tellOne_44 (by decide) ?_
        refine e_iload_n i_World_tellOne_46 rfl ?_
        refine e_iload_n i_World_tellOne_47 rfl ?_
        refine e_callV (as := [.ref w, .int 8, .int v5, .int n2]) (st' := []) i_World_tellOne_48 lm_286 (Or.inr (Or.inl ⟨rfl, rfl⟩)) w_World_change rfl rfl rfl (Nat.le_of_ble_eq_true rfl) (Nat.le_of_ble_eq_true rfl) (m_rlt (q_World_change _) (by decide)) rfl (fun s48 => ?_)
        refine e_aload_n i_World_tellOne_51 rfl ?_
        refine e_bipush (v := 15) i_World_tellOne_52 (by decide) ?_
        refine e_iload_n i_World_tellOne_54 rfl ?_
        refine e_iconst (v := 0) i_World_tellOne_55 (by decide) ?_
        refine e_callV (as := [.ref w, .int 15, .int v5, .int 0]) (st' := []) i_World_tellOne_56 lm_286 (Or.inr (Or.inl ⟨rfl, rfl⟩)) w_World_change rfl rfl rfl (Nat.le_of_ble_eq_true rfl) (Nat.le_of_ble_eq_true rfl) (m_rlt (q_World_change _) (by decide)) rfl (fun s56 => ?_)
        refine e_aload_n i_World_tellOne_59 rfl ?_
        refine e_getR i_World_tellOne_60 lf_36 (by decide) ft_9_0 (fun v60 => ?_)
        refine e_iconst (v := 0) i_World_tellOne_63 (by decide) ?_
        refine e_iload_n i_World_tellOne_64 rfl ?_
        refine e_iconst (v := 1) i_World_tellOne_65 (by decide) ?_
        refine e_iadd i_World_tellOne_66 ?_
        refine e_iast i_World_tellOne_67 (fun s67 => ?_)
        refine e_iload_n i_World_tellOne_68 rfl ?_
        exact e_iretI i_World_tellOne_69 rfl
      · refine e_iconst (v := (-1)) i_World_tellOne_34 (by decide) ?_
        exact e_iretI i_World_tellOne_35 rfl
theorem i_World_change_0 : m_at k_World_change 0 = some (.iload_n 1, 1, 0) := m_at_of r_World_change (by decide +kernel)
theorem i_World_change_1 : m_at k_World_change 1 = some (.iload_n 2, 1, 0) := m_at_of r_World_change (by decide +kernel)
theorem i_World_change_2 : m_at k_World_change 2 = some (.iadd, 1, 0) := m_at_of r_World_change (by decide +kernel)
theorem i_World_change_3 : m_at k_World_change 3 = some (.istore 4, 2, 0) := m_at_of r_World_change (by decide +kernel)
theorem i_World_change_5 : m_at k_World_change 5 = some (.iload 4, 2, 0) := m_at_of r_World_change (by decide +kernel)
theorem i_World_change_7 : m_at k_World_change 7 = some (.ifCond .lt (19), 3, 0) := m_at_of r_World_change (by decide +kernel)
theorem i_World_change_10 : m_at k_World_change 10 = some (.iload 4, 2, 0) := m_at_of r_World_change (by decide +kernel)
theorem i_World_change_12 : m_at k_World_change 12 = some (.sipush 141, 3, 0) := m_at_of r_World_change (by decide +kernel)
theorem i_World_change_15 : m_at k_World_change 15 = some (.if_icmp .ge (11), 3, 0) := m_at_of r_World_change (by decide +kernel)
theorem i_World_change_18 : m_at k_World_change 18 = some (.aload_n 0, 1, 0) := m_at_of r_World_change (by decide +kernel)
theorem i_World_change_19 : m_at k_World_change 19 = some (.getfield 11, 3, 36) := m_at_of r_World_change (by decide +kernel)
theorem i_World_change_22 : m_at k_World_change 22 = some (.iload 4, 2, 0) := m_at_of r_World_change (by decide +kernel)
theorem i_World_change_24 : m_at k_World_change 24 = some (.iload_n 3, 1, 0) := m_at_of r_World_change (by decide +kernel)
theorem i_World_change_25 : m_at k_World_change 25 = some (.iastore, 1, 0) := m_at_of r_World_change (by decide +kernel)
theorem i_World_change_26 : m_at k_World_change 26 = some (.return_, 1, 0) := m_at_of r_World_change (by decide +kernel)
set_option maxRecDepth 20000 in
set_option maxHeartbeats 1000000 in
theorem E_World_change (x : m_X) (s : m_H) (w : Nat) (n1 : Int32) (n2 : Int32) (n3 : Int32) : m_M x k_World_change [.ref w, .int n1, .int n2, .int n3] s = if m_isO s w 9 = true then (if (n1 + n2) < 0 then (some (none, s)) else if 141 ≤ (n1 + n2) then (some (none, s)) else (m_fR s 9 0 w).bind fun v19 => (m_is s v19 (n1 + n2) n3).bind fun s25 => some (none, s25)) else none := by
  refine e_M1 (L0 := [some (.ref w), some (.int n1), some (.int n2), some (.int n3), none]) rfl (by decide +kernel) rfl (q_World_change _) rfl ?_
  refine e_iload_n i_World_change_0 rfl ?_
  refine e_iload_n i_World_change_1 rfl ?_
  refine e_iadd i_World_change_2 ?_
  refine e_istore (L' := [some (.ref w), some (.int n1), some (.int n2), some (.int n3), some (.int (n1 + n2))]) i_World_change_3 (of_decide_eq_true rfl) rfl ?_
  refine e_iload i_World_change_5 rfl ?_
  refine e_iflt (t := 26) i_World_change_7 (by decide) ?_ ?_
  · exact e_vret i_World_change_26 rfl
  · refine e_iload i_World_change_10 rfl ?_
    refine e_sipush (v := 141) i_World_change_12 (by decide) ?_
    refine e_icmpge (t := 26) i_World_change_15 (by decide) ?_ ?_
    · exact e_vret i_World_change_26 rfl
    · refine e_aload_n i_World_change_18 rfl ?_
      refine e_getR i_World_change_19 lf_36 (by decide) ft_9_0 (fun v19 => ?_)
      refine e_iload i_World_change_22 rfl ?_
      refine e_iload_n i_World_change_24 rfl ?_
      refine e_iast i_World_change_25 (fun s25 => ?_)
      exact e_vret i_World_change_26 rfl
theorem i_World_init_0 : m_at k_World_init 0 = some (.aload_n 0, 1, 0) := m_at_of r_World_init (by decide +kernel)
theorem i_World_init_1 : m_at k_World_init 1 = some (.invokespecial 3, 3, 452) := m_at_of r_World_init (by decide +kernel)
theorem i_World_init_4 : m_at k_World_init 4 = some (.aload_n 0, 1, 0) := m_at_of r_World_init (by decide +kernel)
theorem i_World_init_5 : m_at k_World_init 5 = some (.sipush 141, 3, 0) := m_at_of r_World_init (by decide +kernel)
theorem i_World_init_8 : m_at k_World_init 8 = some (.newarray .int, 2, 0) := m_at_of r_World_init (by decide +kernel)
theorem i_World_init_10 : m_at k_World_init 10 = some (.putfield 11, 3, 36) := m_at_of r_World_init (by decide +kernel)
theorem i_World_init_13 : m_at k_World_init 13 = some (.aload_n 0, 1, 0) := m_at_of r_World_init (by decide +kernel)
theorem i_World_init_14 : m_at k_World_init 14 = some (.getfield 11, 3, 36) := m_at_of r_World_init (by decide +kernel)
theorem i_World_init_17 : m_at k_World_init 17 = some (.bipush 24, 2, 0) := m_at_of r_World_init (by decide +kernel)
theorem i_World_init_19 : m_at k_World_init 19 = some (.sipush 139, 3, 0) := m_at_of r_World_init (by decide +kernel)
theorem i_World_init_22 : m_at k_World_init 22 = some (.iastore, 1, 0) := m_at_of r_World_init (by decide +kernel)
theorem i_World_init_23 : m_at k_World_init 23 = some (.return_, 1, 0) := m_at_of r_World_init (by decide +kernel)
set_option maxRecDepth 20000 in
set_option maxHeartbeats 1000000 in
theorem E_World_init (x : m_X) (s : m_H) (w : Nat) : m_M x k_World_init [.ref w] s = if s.length < 900 ∧ ¬ 141 < (0 : Int32) ∧ (141 : Int32).toNatClampNeg ≤ 100000 then ((m_pf (s ++ [.inl (0, (141 : Int32).toNatClampNeg, .inl fun _ => 0)]) 9 0 w (.ref s.length)).bind fun s10 => (m_fR s10 9 0 w).bind fun v14 => (m_is s10 v14 24 139).bind fun s22 => some (none, s22)) else none := by
  refine e_M2 (L0 := [some (.ref w)]) rfl (q_World_init _) rfl ?_
  refine e_aload_n i_World_init_0 rfl ?_
  refine e_oinit i_World_init_1 lm_452 (Nat.le_of_ble_eq_true rfl) ?_
  refine e_aload_n i_World_init_4 rfl ?_
  refine e_sipush (v := 141) i_World_init_5 (by decide) ?_
  refine e_newI i_World_init_8 ?_
  refine e_putf i_World_init_10 lf_36 ft_9_0 rfl (fun s10 => ?_)
  refine e_aload_n i_World_init_13 rfl ?_
  refine e_getR i_World_init_14 lf_36 (by decide) ft_9_0 (fun v14 => ?_)
  refine e_bipush (v := 24) i_World_init_17 (by decide) ?_
  refine e_sipush (v := 139) i_World_init_19 (by decide) ?_
  refine e_iast i_World_init_22 (fun s22 => ?_)
  exact e_vret i_World_init_23 rfl
theorem i_Duties_shortestRing_0 : m_at k_Duties_shortestRing 0 = some (.aload_n 0, 1, 0) := m_at_of r_Duties_shortestRing (by decide +kernel)
theorem i_Duties_shortestRing_1 : m_at k_Duties_shortestRing 1 = some (.bipush 8, 2, 0) := m_at_of r_Duties_shortestRing (by decide +kernel)
theorem i_Duties_shortestRing_3 : m_at k_Duties_shortestRing 3 = some (.putfield 60, 3, 38) := m_at_of r_Duties_shortestRing (by decide +kernel)
theorem i_Duties_shortestRing_6 : m_at k_Duties_shortestRing 6 = some (.aload_n 0, 1, 0) := m_at_of r_Duties_shortestRing (by decide +kernel)
theorem i_Duties_shortestRing_7 : m_at k_Duties_shortestRing 7 = some (.iconst 0, 1, 0) := m_at_of r_Duties_shortestRing (by decide +kernel)
theorem i_Duties_shortestRing_8 : m_at k_Duties_shortestRing 8 = some (.putfield 63, 3, 39) := m_at_of r_Duties_shortestRing (by decide +kernel)
theorem i_Duties_shortestRing_11 : m_at k_Duties_shortestRing 11 = some (.iconst 0, 1, 0) := m_at_of r_Duties_shortestRing (by decide +kernel)
theorem i_Duties_shortestRing_12 : m_at k_Duties_shortestRing 12 = some (.istore_n 2, 1, 0) := m_at_of r_Duties_shortestRing (by decide +kernel)
theorem i_Duties_shortestRing_13 : m_at k_Duties_shortestRing 13 = some (.iload_n 2, 1, 0) := m_at_of r_Duties_shortestRing (by decide +kernel)
theorem i_Duties_shortestRing_14 : m_at k_Duties_shortestRing 14 = some (.aload_n 1, 1, 0) := m_at_of r_Duties_shortestRing (by decide +kernel)
theorem i_Duties_shortestRing_15 : m_at k_Duties_shortestRing 15 = some (.getfield 23, 3, 40) := m_at_of r_Duties_shortestRing (by decide +kernel)
theorem i_Duties_shortestRing_18 : m_at k_Duties_shortestRing 18 = some (.bipush 25, 2, 0) := m_at_of r_Duties_shortestRing (by decide +kernel)
theorem i_Duties_shortestRing_20 : m_at k_Duties_shortestRing 20 = some (.iaload, 1, 0) := m_at_of r_Duties_shortestRing (by decide +kernel)
theorem i_Duties_shortestRing_21 : m_at k_Duties_shortestRing 21 = some (.if_icmp .ge (46), 3, 0) := m_at_of r_Duties_shortestRing (by decide +kernel)
theorem i_Duties_shortestRing_24 : m_at k_Duties_shortestRing 24 = some (.aload_n 1, 1, 0) := m_at_of r_Duties_shortestRing (by decide +kernel)
theorem i_Duties_shortestRing_25 : m_at k_Duties_shortestRing 25 = some (.iload_n 2, 1, 0) := m_at_of r_Duties_shortestRing (by decide +kernel)
theorem i_Duties_shortestRing_26 : m_at k_Duties_shortestRing 26 = some (.iconst 0, 1, 0) := m_at_of r_Duties_shortestRing (by decide +kernel)
theorem i_Duties_shortestRing_27 : m_at k_Duties_shortestRing 27 = some (.invokevirtual 66, 3, 132) := m_at_of r_Duties_shortestRing (by decide +kernel)
theorem i_Duties_shortestRing_30 : m_at k_Duties_shortestRing 30 = some (.ifCond .eq (31), 3, 0) := m_at_of r_Duties_shortestRing (by decide +kernel)
theorem i_Duties_shortestRing_33 : m_at k_Duties_shortestRing 33 = some (.aload_n 1, 1, 0) := m_at_of r_Duties_shortestRing (by decide +kernel)
theorem i_Duties_shortestRing_34 : m_at k_Duties_shortestRing 34 = some (.bipush 27, 2, 0) := m_at_of r_Duties_shortestRing (by decide +kernel)
theorem i_Duties_shortestRing_36 : m_at k_Duties_shortestRing 36 = some (.iload_n 2, 1, 0) := m_at_of r_Duties_shortestRing (by decide +kernel)
theorem i_Duties_shortestRing_37 : m_at k_Duties_shortestRing 37 = some (.invokevirtual 33, 3, 133) := m_at_of r_Duties_shortestRing (by decide +kernel)
theorem i_Duties_shortestRing_40 : m_at k_Duties_shortestRing 40 = some (.istore_n 3, 1, 0) := m_at_of r_Duties_shortestRing (by decide +kernel)
theorem i_Duties_shortestRing_41 : m_at k_Duties_shortestRing 41 = some (.aload_n 0, 1, 0) := m_at_of r_Duties_shortestRing (by decide +kernel)
theorem i_Duties_shortestRing_42 : m_at k_Duties_shortestRing 42 = some (.aload_n 1, 1, 0) := m_at_of r_Duties_shortestRing (by decide +kernel)
theorem i_Duties_shortestRing_43 : m_at k_Duties_shortestRing 43 = some (.iload_n 2, 1, 0) := m_at_of r_Duties_shortestRing (by decide +kernel)
theorem i_Duties_shortestRing_44 : m_at k_Duties_shortestRing 44 = some (.aload_n 1, 1, 0) := m_at_of r_Duties_shortestRing (by decide +kernel)
theorem i_Duties_shortestRing_45 : m_at k_Duties_shortestRing 45 = some (.bipush 39, 2, 0) := m_at_of r_Duties_shortestRing (by decide +kernel)
theorem i_Duties_shortestRing_47 : m_at k_Duties_shortestRing 47 = some (.iload_n 2, 1, 0) := m_at_of r_Duties_shortestRing (by decide +kernel)
theorem i_Duties_shortestRing_48 : m_at k_Duties_shortestRing 48 = some (.invokevirtual 33, 3, 133) := m_at_of r_Duties_shortestRing (by decide +kernel)
theorem i_Duties_shortestRing_51 : m_at k_Duties_shortestRing 51 = some (.iconst 1, 1, 0) := m_at_of r_Duties_shortestRing (by decide +kernel)
theorem i_Duties_shortestRing_52 : m_at k_Duties_shortestRing 52 = some (.iload_n 3, 1, 0) := m_at_of r_Duties_shortestRing (by decide +kernel)
theorem i_Duties_shortestRing_53 : m_at k_Duties_shortestRing 53 = some (.ishl, 1, 0) := m_at_of r_Duties_shortestRing (by decide +kernel)
theorem i_Duties_shortestRing_54 : m_at k_Duties_shortestRing 54 = some (.iconst 1, 1, 0) := m_at_of r_Duties_shortestRing (by decide +kernel)
theorem i_Duties_shortestRing_55 : m_at k_Duties_shortestRing 55 = some (.iload_n 2, 1, 0) := m_at_of r_Duties_shortestRing (by decide +kernel)
theorem i_Duties_shortestRing_56 : m_at k_Duties_shortestRing 56 = some (.ishl, 1, 0) := m_at_of r_Duties_shortestRing (by decide +kernel)
theorem i_Duties_shortestRing_57 : m_at k_Duties_shortestRing 57 = some (.iconst 1, 1, 0) := m_at_of r_Duties_shortestRing (by decide +kernel)
theorem i_Duties_shortestRing_58 : m_at k_Duties_shortestRing 58 = some (.invokevirtual 70, 3, 134) := m_at_of r_Duties_shortestRing (by decide +kernel)
theorem i_Duties_shortestRing_61 : m_at k_Duties_shortestRing 61 = some (.iinc 2 (1), 3, 0) := m_at_of r_Duties_shortestRing (by decide +kernel)
theorem i_Duties_shortestRing_64 : m_at k_Duties_shortestRing 64 = some (.goto (-51), 3, 0) := m_at_of r_Duties_shortestRing (by decide +kernel)
theorem i_Duties_shortestRing_67 : m_at k_Duties_shortestRing 67 = some (.aload_n 0, 1, 0) := m_at_of r_Duties_shortestRing (by decide +kernel)
theorem i_Duties_shortestRing_68 : m_at k_Duties_shortestRing 68 = some (.getfield 63, 3, 39) := m_at_of r_Duties_shortestRing (by decide +kernel)
theorem i_Duties_shortestRing_71 : m_at k_Duties_shortestRing 71 = some (.ireturn, 1, 0) := m_at_of r_Duties_shortestRing (by decide +kernel)
set_option maxRecDepth 20000 in
set_option maxHeartbeats 1000000 in
theorem E_Duties_shortestRing (x : m_X) (s : m_H) (w : Nat) (r1 : Nat) : m_M x k_Duties_shortestRing [.ref w, .ref r1] s = if m_isO s w 0 = true then ((m_pf s 0 1 w (.int 8)).bind fun s3 => (m_pf s3 0 2 w (.int 0)).bind fun s8 => m_D x 14 k_Duties_shortestRing 13 [some (.ref w), some (.ref r1), some (.int 0), none] [] s8) else none := by
  refine e_M1 (L0 := [some (.ref w), some (.ref r1), none, none]) rfl (by decide +kernel) rfl (q_Duties_shortestRing _) rfl ?_
  refine e_aload_n i_Duties_shortestRing_0 rfl ?_
  refine e_bipush (v := 8) i_Duties_shortestRing_1 (by decide) ?_
  refine e_putf i_Duties_shortestRing_3 lf_38 ft_0_1 rfl (fun s3 => ?_)
  refine e_aload_n i_Duties_shortestRing_6 rfl ?_
  refine e_iconst (v := 0) i_Duties_shortestRing_7 (by decide) ?_
  refine e_putf i_Duties_shortestRing_8 lf_39 ft_0_2 rfl (fun s8 => ?_)
  refine e_iconst (v := 0) i_Duties_shortestRing_11 (by decide) ?_
  refine e_istore_n (L' := [some (.ref w), some (.ref r1), some (.int 0), none]) i_Duties_shortestRing_12 (of_decide_eq_true rfl) rfl ?_
  exact rfl
set_option maxRecDepth 20000 in
set_option maxHeartbeats 1000000 in
theorem E_Duties_shortestRing_13 (x : m_X) (ρ : Nat) (hρ : 14 ≤ ρ) (s : m_H) (w : Nat) (r1 : Nat) (n2 : Int32) (d3 : Option Value) (hd3 : m_nl d3 = true) : m_D x ρ k_Duties_shortestRing 13 [some (.ref w), some (.ref r1), some (.int n2), d3] [] s = (m_fR s 9 0 r1).bind fun v15 => (m_ia x s v15 25).bind fun v20 => if v20 ≤ n2 then ((m_fI s 0 2 w).bind fun v68 => some (some (.int v68), s)) else m_bI (m_M x k_World_isHow [.ref r1, .int n2, .int 0] s) fun v27 s27 => if v27 = 0 then (m_D x ρ k_Duties_shortestRing 13 [some (.ref w), some (.ref r1), some (.int (n2 + (1 : Int32))), d3] [] s27) else m_bI (m_M x k_World_at [.ref r1, .int 27, .int n2] s27) fun v37 s37 => m_bI (m_M x k_World_at [.ref r1, .int 39, .int n2] s37) fun v48 s48 => m_bV (m_M x k_Duties_seekRing [.ref w, .ref r1, .int n2, .int v48, .int ((1 : Int32) <<< (v37 &&& (31 : Int32))), .int ((1 : Int32) <<< (n2 &&& (31 : Int32))), .int 1] s48) fun s58 => m_D x ρ k_Duties_shortestRing 13 [some (.ref w), some (.ref r1), some (.int (n2 + (1 : Int32))), some (.int v37)] [] s58 := by
  refine e_iload_n i_Duties_shortestRing_13 rfl ?_
  refine e_aload_n i_Duties_shortestRing_14 rfl ?_
  refine e_getR i_Duties_shortestRing_15 lf_40 (by decide) ft_9_0 (fun v15 => ?_)
  refine e_bipush (v := 25) i_Duties_shortestRing_18 (by decide) ?_
  refine e_iald i_Duties_shortestRing_20 (fun v20 => ?_)
  refine e_icmpge (t := 67) i_Duties_shortestRing_21 (by decide) ?_ ?_
  · refine e_aload_n i_Duties_shortestRing_67 rfl ?_
    refine e_getI i_Duties_shortestRing_68 lf_39 (by decide) (Or.inl ft_0_2) (fun v68 => ?_)
    exact e_iretI i_Duties_shortestRing_71 rfl
  · refine e_aload_n i_Duties_shortestRing_24 rfl ?_
    refine e_iload_n i_Duties_shortestRing_25 rfl ?_
    refine e_iconst (v := 0) i_Duties_shortestRing_26 (by decide) ?_
    refine e_callI (as := [.ref r1, .int n2, .int 0]) (st' := []) i_Duties_shortestRing_27 lm_132 (Or.inr (Or.inl ⟨rfl, rfl⟩)) w_World_isHow rfl rfl rfl (Nat.le_of_ble_eq_true rfl) (Nat.le_of_ble_eq_true rfl) (m_rlt (q_World_isHow _) (Nat.lt_of_lt_of_le (by decide) hρ)) rfl (fun v27 s27 => ?_)
    refine e_ifeq (t := 61) i_Duties_shortestRing_30 (by decide) ?_ ?_
    · refine e_iinc (w := 1) (L' := [some (.ref w), some (.ref r1), some (.int (n2 + (1 : Int32))), d3]) i_Duties_shortestRing_61 rfl (of_decide_eq_true rfl) (by decide) rfl ?_
      refine e_goto (t := 13) i_Duties_shortestRing_64 (by decide) ?_
      exact rfl
    · refine e_aload_n i_Duties_shortestRing_33 rfl ?_
      refine e_bipush (v := 27) i_Duties_shortestRing_34 (by decide) ?_
      refine e_iload_n i_Duties_shortestRing_36 rfl ?_
      refine e_callI (as := [.ref r1, .int 27, .int n2]) (st' := []) i_Duties_shortestRing_37 lm_133 (Or.inr (Or.inl ⟨rfl, rfl⟩)) w_World_at rfl rfl rfl (Nat.le_of_ble_eq_true rfl) (Nat.le_of_ble_eq_true rfl) (m_rlt (q_World_at _) (Nat.lt_of_lt_of_le (by decide) hρ)) rfl (fun v37 s37 => ?_)
      refine e_istore_n (L' := [some (.ref w), some (.ref r1), some (.int n2), some (.int v37)]) i_Duties_shortestRing_40 (of_decide_eq_true rfl) rfl ?_
      refine e_aload_n i_Duties_shortestRing_41 rfl ?_
      refine e_aload_n i_Duties_shortestRing_42 rfl ?_
      refine e_iload_n i_Duties_shortestRing_43 rfl ?_
      refine e_aload_n i_Duties_shortestRing_44 rfl ?_
      refine e_bipush (v := 39) i_Duties_shortestRing_45 (by decide) ?_
      refine e_iload_n i_Duties_shortestRing_47 rfl ?_
      refine e_callI (as := [.ref r1, .int 39, .int n2]) (st' := [.int n2, .ref r1, .ref w]) i_Duties_shortestRing_48 lm_133 (Or.inr (Or.inl ⟨rfl, rfl⟩)) w_World_at rfl rfl rfl (Nat.le_of_ble_eq_true rfl) (Nat.le_of_ble_eq_true rfl) (m_rlt (q_World_at _) (Nat.lt_of_lt_of_le (by decide) hρ)) rfl (fun v48 s48 => ?_)
      refine e_iconst (v := 1) i_Duties_shortestRing_51 (by decide) ?_
      refine e_iload_n i_Duties_shortestRing_52 rfl ?_
      refine e_ishl i_Duties_shortestRing_53 ?_
      refine e_iconst (v := 1) i_Duties_shortestRing_54 (by decide) ?_
      refine e_iload_n i_Duties_shortestRing_55 rfl ?_
      refine e_ishl i_Duties_shortestRing_56 ?_
      refine e_iconst (v := 1) i_Duties_shortestRing_57 (by decide) ?_
      refine e_callV (as := [.ref w, .ref r1, .int n2, .int v48, .int ((1 : Int32) <<< (v37 &&& (31 : Int32))), .int ((1 : Int32) <<< (n2 &&& (31 : Int32))), .int 1]) (st' := []) i_Duties_shortestRing_58 lm_134 (Or.inr (Or.inl ⟨rfl, rfl⟩)) w_Duties_seekRing rfl rfl rfl (Nat.le_of_ble_eq_true rfl) (Nat.le_of_ble_eq_true rfl) (Nat.lt_of_le_of_lt (m_rk_Duties_seekRing _) (Nat.lt_of_lt_of_le (by decide) hρ)) rfl (fun s58 => ?_)
      refine e_iinc (w := 1) (L' := [some (.ref w), some (.ref r1), some (.int (n2 + (1 : Int32))), some (.int v37)]) i_Duties_shortestRing_61 rfl (of_decide_eq_true rfl) (by decide) rfl ?_
      refine e_goto (t := 13) i_Duties_shortestRing_64 (by decide) ?_
      exact rfl
theorem i_Duties_seekRing_0 : m_at k_Duties_seekRing 0 = some (.iload 6, 2, 0) := m_at_of r_Duties_seekRing (by decide +kernel)
theorem i_Duties_seekRing_2 : m_at k_Duties_seekRing 2 = some (.bipush 7, 2, 0) := m_at_of r_Duties_seekRing (by decide +kernel)
theorem i_Duties_seekRing_4 : m_at k_Duties_seekRing 4 = some (.if_icmp .ge (12), 3, 0) := m_at_of r_Duties_seekRing (by decide +kernel)
theorem i_Duties_seekRing_7 : m_at k_Duties_seekRing 7 = some (.iload 6, 2, 0) := m_at_of r_Duties_seekRing (by decide +kernel)
theorem i_Duties_seekRing_9 : m_at k_Duties_seekRing 9 = some (.aload_n 0, 1, 0) := m_at_of r_Duties_seekRing (by decide +kernel)
theorem i_Duties_seekRing_10 : m_at k_Duties_seekRing 10 = some (.getfield 60, 3, 38) := m_at_of r_Duties_seekRing (by decide +kernel)
theorem i_Duties_seekRing_13 : m_at k_Duties_seekRing 13 = some (.if_icmp .lt (4), 3, 0) := m_at_of r_Duties_seekRing (by decide +kernel)
theorem i_Duties_seekRing_16 : m_at k_Duties_seekRing 16 = some (.return_, 1, 0) := m_at_of r_Duties_seekRing (by decide +kernel)
theorem i_Duties_seekRing_17 : m_at k_Duties_seekRing 17 = some (.aload_n 1, 1, 0) := m_at_of r_Duties_seekRing (by decide +kernel)
theorem i_Duties_seekRing_18 : m_at k_Duties_seekRing 18 = some (.bipush 27, 2, 0) := m_at_of r_Duties_seekRing (by decide +kernel)
theorem i_Duties_seekRing_20 : m_at k_Duties_seekRing 20 = some (.iload_n 2, 1, 0) := m_at_of r_Duties_seekRing (by decide +kernel)
theorem i_Duties_seekRing_21 : m_at k_Duties_seekRing 21 = some (.invokevirtual 33, 3, 133) := m_at_of r_Duties_seekRing (by decide +kernel)
theorem i_Duties_seekRing_24 : m_at k_Duties_seekRing 24 = some (.istore 7, 2, 0) := m_at_of r_Duties_seekRing (by decide +kernel)
theorem i_Duties_seekRing_26 : m_at k_Duties_seekRing 26 = some (.iload_n 2, 1, 0) := m_at_of r_Duties_seekRing (by decide +kernel)
theorem i_Duties_seekRing_27 : m_at k_Duties_seekRing 27 = some (.iconst 1, 1, 0) := m_at_of r_Duties_seekRing (by decide +kernel)
theorem i_Duties_seekRing_28 : m_at k_Duties_seekRing 28 = some (.iadd, 1, 0) := m_at_of r_Duties_seekRing (by decide +kernel)
theorem i_Duties_seekRing_29 : m_at k_Duties_seekRing 29 = some (.istore 8, 2, 0) := m_at_of r_Duties_seekRing (by decide +kernel)
theorem i_Duties_seekRing_31 : m_at k_Duties_seekRing 31 = some (.iload 8, 2, 0) := m_at_of r_Duties_seekRing (by decide +kernel)
theorem i_Duties_seekRing_33 : m_at k_Duties_seekRing 33 = some (.aload_n 1, 1, 0) := m_at_of r_Duties_seekRing (by decide +kernel)
theorem i_Duties_seekRing_34 : m_at k_Duties_seekRing 34 = some (.getfield 23, 3, 40) := m_at_of r_Duties_seekRing (by decide +kernel)
theorem i_Duties_seekRing_37 : m_at k_Duties_seekRing 37 = some (.bipush 25, 2, 0) := m_at_of r_Duties_seekRing (by decide +kernel)
theorem i_Duties_seekRing_39 : m_at k_Duties_seekRing 39 = some (.iaload, 1, 0) := m_at_of r_Duties_seekRing (by decide +kernel)
theorem i_Duties_seekRing_40 : m_at k_Duties_seekRing 40 = some (.if_icmp .ge (118), 3, 0) := m_at_of r_Duties_seekRing (by decide +kernel)
theorem i_Duties_seekRing_43 : m_at k_Duties_seekRing 43 = some (.aload_n 1, 1, 0) := m_at_of r_Duties_seekRing (by decide +kernel)
theorem i_Duties_seekRing_44 : m_at k_Duties_seekRing 44 = some (.iload 8, 2, 0) := m_at_of r_Duties_seekRing (by decide +kernel)
theorem i_Duties_seekRing_46 : m_at k_Duties_seekRing 46 = some (.iconst 0, 1, 0) := m_at_of r_Duties_seekRing (by decide +kernel)
theorem i_Duties_seekRing_47 : m_at k_Duties_seekRing 47 = some (.invokevirtual 66, 3, 132) := m_at_of r_Duties_seekRing (by decide +kernel)
theorem i_Duties_seekRing_50 : m_at k_Duties_seekRing 50 = some (.ifCond .eq (19), 3, 0) := m_at_of r_Duties_seekRing (by decide +kernel)
theorem i_Duties_seekRing_53 : m_at k_Duties_seekRing 53 = some (.aload_n 1, 1, 0) := m_at_of r_Duties_seekRing (by decide +kernel)
theorem i_Duties_seekRing_54 : m_at k_Duties_seekRing 54 = some (.bipush 27, 2, 0) := m_at_of r_Duties_seekRing (by decide +kernel)
theorem i_Duties_seekRing_56 : m_at k_Duties_seekRing 56 = some (.iload 8, 2, 0) := m_at_of r_Duties_seekRing (by decide +kernel)
theorem i_Duties_seekRing_58 : m_at k_Duties_seekRing 58 = some (.invokevirtual 33, 3, 133) := m_at_of r_Duties_seekRing (by decide +kernel)
theorem i_Duties_seekRing_61 : m_at k_Duties_seekRing 61 = some (.iload_n 3, 1, 0) := m_at_of r_Duties_seekRing (by decide +kernel)
theorem i_Duties_seekRing_62 : m_at k_Duties_seekRing 62 = some (.if_icmp .ne (7), 3, 0) := m_at_of r_Duties_seekRing (by decide +kernel)
theorem i_Duties_seekRing_65 : m_at k_Duties_seekRing 65 = some (.iconst 1, 1, 0) := m_at_of r_Duties_seekRing (by decide +kernel)
theorem i_Duties_seekRing_66 : m_at k_Duties_seekRing 66 = some (.goto (4), 3, 0) := m_at_of r_Duties_seekRing (by decide +kernel)
theorem i_Duties_seekRing_69 : m_at k_Duties_seekRing 69 = some (.iconst 0, 1, 0) := m_at_of r_Duties_seekRing (by decide +kernel)
theorem i_Duties_seekRing_70 : m_at k_Duties_seekRing 70 = some (.istore 9, 2, 0) := m_at_of r_Duties_seekRing (by decide +kernel)
theorem i_Duties_seekRing_72 : m_at k_Duties_seekRing 72 = some (.aload_n 1, 1, 0) := m_at_of r_Duties_seekRing (by decide +kernel)
theorem i_Duties_seekRing_73 : m_at k_Duties_seekRing 73 = some (.bipush 39, 2, 0) := m_at_of r_Duties_seekRing (by decide +kernel)
theorem i_Duties_seekRing_75 : m_at k_Duties_seekRing 75 = some (.iload 8, 2, 0) := m_at_of r_Duties_seekRing (by decide +kernel)
theorem i_Duties_seekRing_77 : m_at k_Duties_seekRing 77 = some (.invokevirtual 33, 3, 133) := m_at_of r_Duties_seekRing (by decide +kernel)
theorem i_Duties_seekRing_80 : m_at k_Duties_seekRing 80 = some (.istore 10, 2, 0) := m_at_of r_Duties_seekRing (by decide +kernel)
theorem i_Duties_seekRing_82 : m_at k_Duties_seekRing 82 = some (.iload 9, 2, 0) := m_at_of r_Duties_seekRing (by decide +kernel)
theorem i_Duties_seekRing_84 : m_at k_Duties_seekRing 84 = some (.ifCond .eq (28), 3, 0) := m_at_of r_Duties_seekRing (by decide +kernel)
theorem i_Duties_seekRing_87 : m_at k_Duties_seekRing 87 = some (.iload 10, 2, 0) := m_at_of r_Duties_seekRing (by decide +kernel)
theorem i_Duties_seekRing_89 : m_at k_Duties_seekRing 89 = some (.iload 7, 2, 0) := m_at_of r_Duties_seekRing (by decide +kernel)
theorem i_Duties_seekRing_91 : m_at k_Duties_seekRing 91 = some (.if_icmp .ne (21), 3, 0) := m_at_of r_Duties_seekRing (by decide +kernel)
theorem i_Duties_seekRing_94 : m_at k_Duties_seekRing 94 = some (.aload_n 0, 1, 0) := m_at_of r_Duties_seekRing (by decide +kernel)
theorem i_Duties_seekRing_95 : m_at k_Duties_seekRing 95 = some (.iload 5, 2, 0) := m_at_of r_Duties_seekRing (by decide +kernel)
theorem i_Duties_seekRing_97 : m_at k_Duties_seekRing 97 = some (.iconst 1, 1, 0) := m_at_of r_Duties_seekRing (by decide +kernel)
theorem i_Duties_seekRing_98 : m_at k_Duties_seekRing 98 = some (.iload 8, 2, 0) := m_at_of r_Duties_seekRing (by decide +kernel)
theorem i_Duties_seekRing_100 : m_at k_Duties_seekRing 100 = some (.ishl, 1, 0) := m_at_of r_Duties_seekRing (by decide +kernel)
theorem i_Duties_seekRing_101 : m_at k_Duties_seekRing 101 = some (.ior, 1, 0) := m_at_of r_Duties_seekRing (by decide +kernel)
theorem i_Duties_seekRing_102 : m_at k_Duties_seekRing 102 = some (.iload 6, 2, 0) := m_at_of r_Duties_seekRing (by decide +kernel)
theorem i_Duties_seekRing_104 : m_at k_Duties_seekRing 104 = some (.iconst 1, 1, 0) := m_at_of r_Duties_seekRing (by decide +kernel)
theorem i_Duties_seekRing_105 : m_at k_Duties_seekRing 105 = some (.iadd, 1, 0) := m_at_of r_Duties_seekRing (by decide +kernel)
theorem i_Duties_seekRing_106 : m_at k_Duties_seekRing 106 = some (.invokevirtual 74, 3, 135) := m_at_of r_Duties_seekRing (by decide +kernel)
theorem i_Duties_seekRing_109 : m_at k_Duties_seekRing 109 = some (.goto (43), 3, 0) := m_at_of r_Duties_seekRing (by decide +kernel)
theorem i_Duties_seekRing_112 : m_at k_Duties_seekRing 112 = some (.iload 9, 2, 0) := m_at_of r_Duties_seekRing (by decide +kernel)
theorem i_Duties_seekRing_114 : m_at k_Duties_seekRing 114 = some (.ifCond .eq (38), 3, 0) := m_at_of r_Duties_seekRing (by decide +kernel)
theorem i_Duties_seekRing_117 : m_at k_Duties_seekRing 117 = some (.iload 4, 2, 0) := m_at_of r_Duties_seekRing (by decide +kernel)
theorem i_Duties_seekRing_119 : m_at k_Duties_seekRing 119 = some (.iload 10, 2, 0) := m_at_of r_Duties_seekRing (by decide +kernel)
theorem i_Duties_seekRing_121 : m_at k_Duties_seekRing 121 = some (.ishr, 1, 0) := m_at_of r_Duties_seekRing (by decide +kernel)
theorem i_Duties_seekRing_122 : m_at k_Duties_seekRing 122 = some (.iconst 1, 1, 0) := m_at_of r_Duties_seekRing (by decide +kernel)
theorem i_Duties_seekRing_123 : m_at k_Duties_seekRing 123 = some (.iand, 1, 0) := m_at_of r_Duties_seekRing (by decide +kernel)
theorem i_Duties_seekRing_124 : m_at k_Duties_seekRing 124 = some (.ifCond .ne (28), 3, 0) := m_at_of r_Duties_seekRing (by decide +kernel)
theorem i_Duties_seekRing_127 : m_at k_Duties_seekRing 127 = some (.aload_n 0, 1, 0) := m_at_of r_Duties_seekRing (by decide +kernel)
theorem i_Duties_seekRing_128 : m_at k_Duties_seekRing 128 = some (.aload_n 1, 1, 0) := m_at_of r_Duties_seekRing (by decide +kernel)
theorem i_Duties_seekRing_129 : m_at k_Duties_seekRing 129 = some (.iload_n 2, 1, 0) := m_at_of r_Duties_seekRing (by decide +kernel)
theorem i_Duties_seekRing_130 : m_at k_Duties_seekRing 130 = some (.iload 10, 2, 0) := m_at_of r_Duties_seekRing (by decide +kernel)
theorem i_Duties_seekRing_132 : m_at k_Duties_seekRing 132 = some (.iload 4, 2, 0) := m_at_of r_Duties_seekRing (by decide +kernel)
theorem i_Duties_seekRing_134 : m_at k_Duties_seekRing 134 = some (.iconst 1, 1, 0) := m_at_of r_Duties_seekRing (by decide +kernel)
theorem i_Duties_seekRing_135 : m_at k_Duties_seekRing 135 = some (.iload_n 3, 1, 0) := m_at_of r_Duties_seekRing (by decide +kernel)
theorem i_Duties_seekRing_136 : m_at k_Duties_seekRing 136 = some (.ishl, 1, 0) := m_at_of r_Duties_seekRing (by decide +kernel)
theorem i_Duties_seekRing_137 : m_at k_Duties_seekRing 137 = some (.ior, 1, 0) := m_at_of r_Duties_seekRing (by decide +kernel)
theorem i_Duties_seekRing_138 : m_at k_Duties_seekRing 138 = some (.iload 5, 2, 0) := m_at_of r_Duties_seekRing (by decide +kernel)
theorem i_Duties_seekRing_140 : m_at k_Duties_seekRing 140 = some (.iconst 1, 1, 0) := m_at_of r_Duties_seekRing (by decide +kernel)
theorem i_Duties_seekRing_141 : m_at k_Duties_seekRing 141 = some (.iload 8, 2, 0) := m_at_of r_Duties_seekRing (by decide +kernel)
theorem i_Duties_seekRing_143 : m_at k_Duties_seekRing 143 = some (.ishl, 1, 0) := m_at_of r_Duties_seekRing (by decide +kernel)
theorem i_Duties_seekRing_144 : m_at k_Duties_seekRing 144 = some (.ior, 1, 0) := m_at_of r_Duties_seekRing (by decide +kernel)
theorem i_Duties_seekRing_145 : m_at k_Duties_seekRing 145 = some (.iload 6, 2, 0) := m_at_of r_Duties_seekRing (by decide +kernel)
theorem i_Duties_seekRing_147 : m_at k_Duties_seekRing 147 = some (.iconst 1, 1, 0) := m_at_of r_Duties_seekRing (by decide +kernel)
theorem i_Duties_seekRing_148 : m_at k_Duties_seekRing 148 = some (.iadd, 1, 0) := m_at_of r_Duties_seekRing (by decide +kernel)
theorem i_Duties_seekRing_149 : m_at k_Duties_seekRing 149 = some (.invokevirtual 70, 3, 134) := m_at_of r_Duties_seekRing (by decide +kernel)
theorem i_Duties_seekRing_152 : m_at k_Duties_seekRing 152 = some (.iinc 8 (1), 3, 0) := m_at_of r_Duties_seekRing (by decide +kernel)
theorem i_Duties_seekRing_155 : m_at k_Duties_seekRing 155 = some (.goto (-124), 3, 0) := m_at_of r_Duties_seekRing (by decide +kernel)
theorem i_Duties_seekRing_158 : m_at k_Duties_seekRing 158 = some (.return_, 1, 0) := m_at_of r_Duties_seekRing (by decide +kernel)
set_option maxRecDepth 20000 in
set_option maxHeartbeats 1000000 in
theorem E_Duties_seekRing (x : m_X) (s : m_H) (w : Nat) (r1 : Nat) (n2 : Int32) (n3 : Int32) (n4 : Int32) (n5 : Int32) (n6 : Int32) : m_M x k_Duties_seekRing [.ref w, .ref r1, .int n2, .int n3, .int n4, .int n5, .int n6] s = if m_isO s w 0 = true then (if 7 ≤ n6 then (some (none, s)) else (m_fI s 0 1 w).bind fun v10 => if n6 < v10 then (m_bI (m_M x k_World_at [.ref r1, .int 27, .int n2] s) fun v21 s21 => m_D x (m_rank k_Duties_seekRing [.ref w, .ref r1, .int n2, .int n3, .int n4, .int n5, .int n6]) k_Duties_seekRing 31 [some (.ref w), some (.ref r1), some (.int n2), some (.int n3), some (.int n4), some (.int n5), some (.int n6), some (.int v21), some (.int (n2 + (1 : Int32))), none, none] [] s21) else some (none, s)) else none := by
  refine e_M1 (L0 := [some (.ref w), some (.ref r1), some (.int n2), some (.int n3), some (.int n4), some (.int n5), some (.int n6), none, none, none, none]) rfl (by decide +kernel) rfl rfl rfl ?_
  refine e_iload i_Duties_seekRing_0 rfl ?_
  refine e_bipush (v := 7) i_Duties_seekRing_2 (by decide) ?_
  refine e_icmpge (t := 16) i_Duties_seekRing_4 (by decide) ?_ ?_
  · exact e_vret i_Duties_seekRing_16 rfl
  · refine e_iload i_Duties_seekRing_7 rfl ?_
    refine e_aload_n i_Duties_seekRing_9 rfl ?_
    refine e_getI i_Duties_seekRing_10 lf_38 (by decide) (Or.inl ft_0_1) (fun v10 => ?_)
    refine e_icmplt (t := 17) i_Duties_seekRing_13 (by decide) ?_ ?_
    · refine e_aload_n i_Duties_seekRing_17 rfl ?_
      refine e_bipush (v := 27) i_Duties_seekRing_18 (by decide) ?_
      refine e_iload_n i_Duties_seekRing_20 rfl ?_
      refine e_callI (as := [.ref r1, .int 27, .int n2]) (st' := []) i_Duties_seekRing_21 lm_133 (Or.inr (Or.inl ⟨rfl, rfl⟩)) w_World_at rfl rfl rfl (Nat.le_of_ble_eq_true rfl) (Nat.le_of_ble_eq_true rfl) (m_rlt (q_World_at _) (Nat.lt_of_lt_of_le (by decide) (q_Duties_seekRing_ge _))) rfl (fun v21 s21 => ?_)
      refine e_istore (L' := [some (.ref w), some (.ref r1), some (.int n2), some (.int n3), some (.int n4), some (.int n5), some (.int n6), some (.int v21), none, none, none]) i_Duties_seekRing_24 (of_decide_eq_true rfl) rfl ?_
      refine e_iload_n i_Duties_seekRing_26 rfl ?_
      refine e_iconst (v := 1) i_Duties_seekRing_27 (by decide) ?_
      refine e_iadd i_Duties_seekRing_28 ?_
      refine e_istore (L' := [some (.ref w), some (.ref r1), some (.int n2), some (.int n3), some (.int n4), some (.int n5), some (.int n6), some (.int v21), some (.int (n2 + (1 : Int32))), none, none]) i_Duties_seekRing_29 (of_decide_eq_true rfl) rfl ?_
      exact rfl
    · exact e_vret i_Duties_seekRing_16 rfl
set_option maxRecDepth 20000 in
set_option maxHeartbeats 1000000 in
theorem E_Duties_seekRing_31 (x : m_X) (ρ : Nat) (hρ : 3 ≤ ρ) (s : m_H) (w : Nat) (r1 : Nat) (n2 : Int32) (n3 : Int32) (n4 : Int32) (n5 : Int32) (n6 : Int32) (n7 : Int32) (n8 : Int32) (d9 : Option Value) (d10 : Option Value) (hd9 : m_nl d9 = true) (hd10 : m_nl d10 = true) : m_D x ρ k_Duties_seekRing 31 [some (.ref w), some (.ref r1), some (.int n2), some (.int n3), some (.int n4), some (.int n5), some (.int n6), some (.int n7), some (.int n8), d9, d10] [] s = (m_fR s 9 0 r1).bind fun v34 => (m_ia x s v34 25).bind fun v39 => if v39 ≤ n8 then (some (none, s)) else m_bI (m_M x k_World_isHow [.ref r1, .int n8, .int 0] s) fun v47 s47 => if v47 = 0 then (m_D x ρ k_Duties_seekRing 70 [some (.ref w), some (.ref r1), some (.int n2), some (.int n3), some (.int n4), some (.int n5), some (.int n6), some (.int n7), some (.int n8), d9, d10] [.int 0] s47) else m_bI (m_M x k_World_at [.ref r1, .int 27, .int n8] s47) fun v58 s58 => if v58 = n3 then (m_D x ρ k_Duties_seekRing 70 [some (.ref w), some (.ref r1), some (.int n2), some (.int n3), some (.int n4), some (.int n5), some (.int n6), some (.int n7), some (.int n8), d9, d10] [.int 1] s58) else m_D x ρ k_Duties_seekRing 70 [some (.ref w), some (.ref r1), some (.int n2), some (.int n3), some (.int n4), some (.int n5), some (.int n6), some (.int n7), some (.int n8), d9, d10] [.int 0] s58 := by
  refine e_iload i_Duties_seekRing_31 rfl ?_
  refine e_aload_n i_Duties_seekRing_33 rfl ?_
  refine e_getR i_Duties_seekRing_34 lf_40 (by decide) ft_9_0 (fun v34 => ?_)
  refine e_bipush (v := 25) i_Duties_seekRing_37 (by decide) ?_
  refine e_iald i_Duties_seekRing_39 (fun v39 => ?_)
  refine e_icmpge (t := 158) i_Duties_seekRing_40 (by decide) ?_ ?_
  · exact e_vret i_Duties_seekRing_158 rfl
  · refine e_aload_n i_Duties_seekRing_43 rfl ?_
    refine e_iload i_Duties_seekRing_44 rfl ?_
    refine e_iconst (v := 0) i_Duties_seekRing_46 (by decide) ?_
    refine e_callI (as := [.ref r1, .int n8, .int 0]) (st' := []) i_Duties_seekRing_47 lm_132 (Or.inr (Or.inl ⟨rfl, rfl⟩)) w_World_isHow rfl rfl rfl (Nat.le_of_ble_eq_true rfl) (Nat.le_of_ble_eq_true rfl) (m_rlt (q_World_isHow _) (Nat.lt_of_lt_of_le (by decide) hρ)) rfl (fun v47 s47 => ?_)
    refine e_ifeq (t := 69) i_Duties_seekRing_50 (by decide) ?_ ?_
    · refine e_iconst (v := 0) i_Duties_seekRing_69 (by decide) ?_
      exact rfl
    · refine e_aload_n i_Duties_seekRing_53 rfl ?_
      refine e_bipush (v := 27) i_Duties_seekRing_54 (by decide) ?_
      refine e_iload i_Duties_seekRing_56 rfl ?_
      refine e_callI (as := [.ref r1, .int 27, .int n8]) (st' := []) i_Duties_seekRing_58 lm_133 (Or.inr (Or.inl ⟨rfl, rfl⟩)) w_World_at rfl rfl rfl (Nat.le_of_ble_eq_true rfl) (Nat.le_of_ble_eq_true rfl) (m_rlt (q_World_at _) (Nat.lt_of_lt_of_le (by decide) hρ)) rfl (fun v58 s58 => ?_)
      refine e_iload_n i_Duties_seekRing_61 rfl ?_
      refine e_icmpne (t := 69) i_Duties_seekRing_62 (by decide) ?_ ?_
      · refine e_iconst (v := 0) i_Duties_seekRing_69 (by decide) ?_
        exact rfl
      · refine e_iconst (v := 1) i_Duties_seekRing_65 (by decide) ?_
        refine e_goto (t := 70) i_Duties_seekRing_66 (by decide) ?_
        exact rfl
set_option maxRecDepth 20000 in
set_option maxHeartbeats 1000000 in
theorem E_Duties_seekRing_70 (x : m_X) (ρ : Nat) (hρ : 3 ≤ ρ) (s : m_H) (w : Nat) (r1 : Nat) (n2 : Int32) (n3 : Int32) (n4 : Int32) (n5 : Int32) (n6 : Int32) (n7 : Int32) (n8 : Int32) (d9 : Option Value) (d10 : Option Value) (nt0 : Int32) (hd9 : m_nl d9 = true) (hd10 : m_nl d10 = true) : m_D x ρ k_Duties_seekRing 70 [some (.ref w), some (.ref r1), some (.int n2), some (.int n3), some (.int n4), some (.int n5), some (.int n6), some (.int n7), some (.int n8), d9, d10] [.int nt0] s = m_bI (m_M x k_World_at [.ref r1, .int 39, .int n8] s) fun v77 s77 => if nt0 = 0 then (m_D x ρ k_Duties_seekRing 112 [some (.ref w), some (.ref r1), some (.int n2), some (.int n3), some (.int n4), some (.int n5), some (.int n6), some (.int n7), some (.int n8), some (.int nt0), some (.int v77)] [] s77) else if v77 = n7 then (m_bV (m_M x k_Duties_noteRing [.ref w, .int (n5 ||| ((1 : Int32) <<< (n8 &&& (31 : Int32)))), .int (n6 + (1 : Int32))] s77) fun s106 => m_D x ρ k_Duties_seekRing 31 [some (.ref w), some (.ref r1), some (.int n2), some (.int n3), some (.int n4), some (.int n5), some (.int n6), some (.int n7), some (.int (n8 + (1 : Int32))), some (.int nt0), some (.int v77)] [] s106) else m_D x ρ k_Duties_seekRing 112 [some (.ref w), some (.ref r1), some (.int n2), some (.int n3), some (.int n4), some (.int n5), some (.int n6), some (.int n7), some (.int n8), some (.int nt0), some (.int v77)] [] s77 := by
  refine e_istore (L' := [some (.ref w), some (.ref r1), some (.int n2), some (.int n3), some (.int n4), some (.int n5), some (.int n6), some (.int n7), some (.int n8), some (.int nt0), d10]) i_Duties_seekRing_70 (of_decide_eq_true rfl) rfl ?_
  refine e_aload_n i_Duties_seekRing_72 rfl ?_
  refine e_bipush (v := 39) i_Duties_seekRing_73 (by decide) ?_
  refine e_iload i_Duties_seekRing_75 rfl ?_
  refine e_callI (as := [.ref r1, .int 39, .int n8]) (st' := []) i_Duties_seekRing_77 lm_133 (Or.inr (Or.inl ⟨rfl, rfl⟩)) w_World_at rfl rfl rfl (Nat.le_of_ble_eq_true rfl) (Nat.le_of_ble_eq_true rfl) (m_rlt (q_World_at _) (Nat.lt_of_lt_of_le (by decide) hρ)) rfl (fun v77 s77 => ?_)
  refine e_istore (L' := [some (.ref w), some (.ref r1), some (.int n2), some (.int n3), some (.int n4), some (.int n5), some (.int n6), some (.int n7), some (.int n8), some (.int nt0), some (.int v77)]) i_Duties_seekRing_80 (of_decide_eq_true rfl) rfl ?_
  refine e_iload i_Duties_seekRing_82 rfl ?_
  refine e_ifeq (t := 112) i_Duties_seekRing_84 (by decide) ?_ ?_
  · exact rfl
  · refine e_iload i_Duties_seekRing_87 rfl ?_
    refine e_iload i_Duties_seekRing_89 rfl ?_
    refine e_icmpne (t := 112) i_Duties_seekRing_91 (by decide) ?_ ?_
    · exact rfl
    · refine e_aload_n i_Duties_seekRing_94 rfl ?_
      refine e_iload i_Duties_seekRing_95 rfl ?_
      refine e_iconst (v := 1) i_Duties_seekRing_97 (by decide) ?_
      refine e_iload i_Duties_seekRing_98 rfl ?_
      refine e_ishl i_Duties_seekRing_100 ?_
      refine e_ior i_Duties_seekRing_101 ?_
      refine e_iload i_Duties_seekRing_102 rfl ?_
      refine e_iconst (v := 1) i_Duties_seekRing_104 (by decide) ?_
      refine e_iadd i_Duties_seekRing_105 ?_
      refine e_callV (as := [.ref w, .int (n5 ||| ((1 : Int32) <<< (n8 &&& (31 : Int32)))), .int (n6 + (1 : Int32))]) (st' := []) i_Duties_seekRing_106 lm_135 (Or.inr (Or.inl ⟨rfl, rfl⟩)) w_Duties_noteRing rfl rfl rfl (Nat.le_of_ble_eq_true rfl) (Nat.le_of_ble_eq_true rfl) (m_rlt (q_Duties_noteRing _) (Nat.lt_of_lt_of_le (by decide) hρ)) rfl (fun s106 => ?_)
      refine e_goto (t := 152) i_Duties_seekRing_109 (by decide) ?_
      refine e_iinc (w := 1) (L' := [some (.ref w), some (.ref r1), some (.int n2), some (.int n3), some (.int n4), some (.int n5), some (.int n6), some (.int n7), some (.int (n8 + (1 : Int32))), some (.int nt0), some (.int v77)]) i_Duties_seekRing_152 rfl (of_decide_eq_true rfl) (by decide) rfl ?_
      refine e_goto (t := 31) i_Duties_seekRing_155 (by decide) ?_
      exact rfl
set_option maxRecDepth 20000 in
set_option maxHeartbeats 1000000 in
theorem E_Duties_seekRing_112 (x : m_X) (ρ : Nat) (hρ : 3 ≤ ρ) (s : m_H) (w : Nat) (r1 : Nat) (n2 : Int32) (n3 : Int32) (n4 : Int32) (n5 : Int32) (n6 : Int32) (n7 : Int32) (n8 : Int32) (n9 : Int32) (n10 : Int32)  : m_D x ρ k_Duties_seekRing 112 [some (.ref w), some (.ref r1), some (.int n2), some (.int n3), some (.int n4), some (.int n5), some (.int n6), some (.int n7), some (.int n8), some (.int n9), some (.int n10)] [] s = if n9 = 0 then (m_D x ρ k_Duties_seekRing 31 [some (.ref w), some (.ref r1), some (.int n2), some (.int n3), some (.int n4), some (.int n5), some (.int n6), some (.int n7), some (.int (n8 + (1 : Int32))), some (.int n9), some (.int n10)] [] s) else if ((n4 >>> (n10 &&& (31 : Int32))) &&& (1 : Int32)) = 0 then (if m_rank k_Duties_seekRing [.ref w, .ref r1, .int n2, .int n10, .int (n4 ||| ((1 : Int32) <<< (n3 &&& (31 : Int32)))), .int (n5 ||| ((1 : Int32) <<< (n8 &&& (31 : Int32)))), .int (n6 + (1 : Int32))] < ρ then (m_bV (m_M x k_Duties_seekRing [.ref w, .ref r1, .int n2, .int n10, .int (n4 ||| ((1 : Int32) <<< (n3 &&& (31 : Int32)))), .int (n5 ||| ((1 : Int32) <<< (n8 &&& (31 : Int32)))), .int (n6 + (1 : Int32))] s) fun s149 => m_D x ρ k_Duties_seekRing 31 [some (.ref w), some (.ref r1), some (.int n2), some (.int n3), some (.int n4), some (.int n5), some (.int n6), some (.int n7), some (.int (n8 + (1 : Int32))), some (.int n9), some (.int n10)] [] s149) else none) else m_D x ρ k_Duties_seekRing 31 [some (.ref w), some (.ref r1), some (.int n2), some (.int n3), some (.int n4), some (.int n5), some (.int n6), some (.int n7), some (.int (n8 + (1 : Int32))), some (.int n9), some (.int n10)] [] s := by
  refine e_iload i_Duties_seekRing_112 rfl ?_
  refine e_ifeq (t := 152) i_Duties_seekRing_114 (by decide) ?_ ?_
  · refine e_iinc (w := 1) (L' := [some (.ref w), some (.ref r1), some (.int n2), some (.int n3), some (.int n4), some (.int n5), some (.int n6), some (.int n7), some (.int (n8 + (1 : Int32))), some (.int n9), some (.int n10)]) i_Duties_seekRing_152 rfl (of_decide_eq_true rfl) (by decide) rfl ?_
    refine e_goto (t := 31) i_Duties_seekRing_155 (by decide) ?_
    exact rfl
  · refine e_iload i_Duties_seekRing_117 rfl ?_
    refine e_iload i_Duties_seekRing_119 rfl ?_
    refine e_ishr i_Duties_seekRing_121 ?_
    refine e_iconst (v := 1) i_Duties_seekRing_122 (by decide) ?_
    refine e_iand i_Duties_seekRing_123 ?_
    refine e_ifne (t := 152) i_Duties_seekRing_124 (by decide) ?_ ?_
    · refine e_iinc (w := 1) (L' := [some (.ref w), some (.ref r1), some (.int n2), some (.int n3), some (.int n4), some (.int n5), some (.int n6), some (.int n7), some (.int (n8 + (1 : Int32))), some (.int n9), some (.int n10)]) i_Duties_seekRing_152 rfl (of_decide_eq_true rfl) (by decide) rfl ?_
      refine e_goto (t := 31) i_Duties_seekRing_155 (by decide) ?_
      exact rfl
    · refine e_aload_n i_Duties_seekRing_127 rfl ?_
      refine e_aload_n i_Duties_seekRing_128 rfl ?_
      refine e_iload_n i_Duties_seekRing_129 rfl ?_
      refine e_iload i_Duties_seekRing_130 rfl ?_
      refine e_iload i_Duties_seekRing_132 rfl ?_
      refine e_iconst (v := 1) i_Duties_seekRing_134 (by decide) ?_
      refine e_iload_n i_Duties_seekRing_135 rfl ?_
      refine e_ishl i_Duties_seekRing_136 ?_
      refine e_ior i_Duties_seekRing_137 ?_
      refine e_iload i_Duties_seekRing_138 rfl ?_
      refine e_iconst (v := 1) i_Duties_seekRing_140 (by decide) ?_
      refine e_iload i_Duties_seekRing_141 rfl ?_
      refine e_ishl i_Duties_seekRing_143 ?_
      refine e_ior i_Duties_seekRing_144 ?_
      refine e_iload i_Duties_seekRing_145 rfl ?_
      refine e_iconst (v := 1) i_Duties_seekRing_147 (by decide) ?_
      refine e_iadd i_Duties_seekRing_148 ?_
      refine e_callVg (as := [.ref w, .ref r1, .int n2, .int n10, .int (n4 ||| ((1 : Int32) <<< (n3 &&& (31 : Int32)))), .int (n5 ||| ((1 : Int32) <<< (n8 &&& (31 : Int32)))), .int (n6 + (1 : Int32))]) (st' := []) i_Duties_seekRing_149 lm_134 (Or.inr (Or.inl ⟨rfl, rfl⟩)) w_Duties_seekRing rfl rfl rfl (Nat.le_of_ble_eq_true rfl) (Nat.le_of_ble_eq_true rfl) rfl (fun s149 => ?_)
      refine e_iinc (w := 1) (L' := [some (.ref w), some (.ref r1), some (.int n2), some (.int n3), some (.int n4), some (.int n5), some (.int n6), some (.int n7), some (.int (n8 + (1 : Int32))), some (.int n9), some (.int n10)]) i_Duties_seekRing_152 rfl (of_decide_eq_true rfl) (by decide) rfl ?_
      refine e_goto (t := 31) i_Duties_seekRing_155 (by decide) ?_
      exact rfl
theorem i_Duties_noteRing_0 : m_at k_Duties_noteRing 0 = some (.iload_n 2, 1, 0) := m_at_of r_Duties_noteRing (by decide +kernel)
theorem i_Duties_noteRing_1 : m_at k_Duties_noteRing 1 = some (.aload_n 0, 1, 0) := m_at_of r_Duties_noteRing (by decide +kernel)
theorem i_Duties_noteRing_2 : m_at k_Duties_noteRing 2 = some (.getfield 60, 3, 38) := m_at_of r_Duties_noteRing (by decide +kernel)
theorem i_Duties_noteRing_5 : m_at k_Duties_noteRing 5 = some (.if_icmp .lt (19), 3, 0) := m_at_of r_Duties_noteRing (by decide +kernel)
theorem i_Duties_noteRing_8 : m_at k_Duties_noteRing 8 = some (.iload_n 2, 1, 0) := m_at_of r_Duties_noteRing (by decide +kernel)
theorem i_Duties_noteRing_9 : m_at k_Duties_noteRing 9 = some (.aload_n 0, 1, 0) := m_at_of r_Duties_noteRing (by decide +kernel)
theorem i_Duties_noteRing_10 : m_at k_Duties_noteRing 10 = some (.getfield 60, 3, 38) := m_at_of r_Duties_noteRing (by decide +kernel)
theorem i_Duties_noteRing_13 : m_at k_Duties_noteRing 13 = some (.if_icmp .ne (21), 3, 0) := m_at_of r_Duties_noteRing (by decide +kernel)
theorem i_Duties_noteRing_16 : m_at k_Duties_noteRing 16 = some (.iload_n 1, 1, 0) := m_at_of r_Duties_noteRing (by decide +kernel)
theorem i_Duties_noteRing_17 : m_at k_Duties_noteRing 17 = some (.aload_n 0, 1, 0) := m_at_of r_Duties_noteRing (by decide +kernel)
theorem i_Duties_noteRing_18 : m_at k_Duties_noteRing 18 = some (.getfield 63, 3, 39) := m_at_of r_Duties_noteRing (by decide +kernel)
theorem i_Duties_noteRing_21 : m_at k_Duties_noteRing 21 = some (.if_icmp .ge (13), 3, 0) := m_at_of r_Duties_noteRing (by decide +kernel)
theorem i_Duties_noteRing_24 : m_at k_Duties_noteRing 24 = some (.aload_n 0, 1, 0) := m_at_of r_Duties_noteRing (by decide +kernel)
theorem i_Duties_noteRing_25 : m_at k_Duties_noteRing 25 = some (.iload_n 2, 1, 0) := m_at_of r_Duties_noteRing (by decide +kernel)
theorem i_Duties_noteRing_26 : m_at k_Duties_noteRing 26 = some (.putfield 60, 3, 38) := m_at_of r_Duties_noteRing (by decide +kernel)
theorem i_Duties_noteRing_29 : m_at k_Duties_noteRing 29 = some (.aload_n 0, 1, 0) := m_at_of r_Duties_noteRing (by decide +kernel)
theorem i_Duties_noteRing_30 : m_at k_Duties_noteRing 30 = some (.iload_n 1, 1, 0) := m_at_of r_Duties_noteRing (by decide +kernel)
theorem i_Duties_noteRing_31 : m_at k_Duties_noteRing 31 = some (.putfield 63, 3, 39) := m_at_of r_Duties_noteRing (by decide +kernel)
theorem i_Duties_noteRing_34 : m_at k_Duties_noteRing 34 = some (.return_, 1, 0) := m_at_of r_Duties_noteRing (by decide +kernel)
set_option maxRecDepth 20000 in
set_option maxHeartbeats 1000000 in
theorem E_Duties_noteRing (x : m_X) (s : m_H) (w : Nat) (n1 : Int32) (n2 : Int32) : m_M x k_Duties_noteRing [.ref w, .int n1, .int n2] s = if m_isO s w 0 = true then ((m_fI s 0 1 w).bind fun v2 => if n2 < v2 then ((m_pf s 0 1 w (.int n2)).bind fun s26 => (m_pf s26 0 2 w (.int n1)).bind fun s31 => some (none, s31)) else (m_fI s 0 1 w).bind fun v10 => if n2 = v10 then ((m_fI s 0 2 w).bind fun v18 => if v18 ≤ n1 then (some (none, s)) else (m_pf s 0 1 w (.int n2)).bind fun s26 => (m_pf s26 0 2 w (.int n1)).bind fun s31 => some (none, s31)) else some (none, s)) else none := by
  refine e_M1 (L0 := [some (.ref w), some (.int n1), some (.int n2)]) rfl (by decide +kernel) rfl (q_Duties_noteRing _) rfl ?_
  refine e_iload_n i_Duties_noteRing_0 rfl ?_
  refine e_aload_n i_Duties_noteRing_1 rfl ?_
  refine e_getI i_Duties_noteRing_2 lf_38 (by decide) (Or.inl ft_0_1) (fun v2 => ?_)
  refine e_icmplt (t := 24) i_Duties_noteRing_5 (by decide) ?_ ?_
  · refine e_aload_n i_Duties_noteRing_24 rfl ?_
    refine e_iload_n i_Duties_noteRing_25 rfl ?_
    refine e_putf i_Duties_noteRing_26 lf_38 ft_0_1 rfl (fun s26 => ?_)
    refine e_aload_n i_Duties_noteRing_29 rfl ?_
    refine e_iload_n i_Duties_noteRing_30 rfl ?_
    refine e_putf i_Duties_noteRing_31 lf_39 ft_0_2 rfl (fun s31 => ?_)
    exact e_vret i_Duties_noteRing_34 rfl
  · refine e_iload_n i_Duties_noteRing_8 rfl ?_
    refine e_aload_n i_Duties_noteRing_9 rfl ?_
    refine e_getI i_Duties_noteRing_10 lf_38 (by decide) (Or.inl ft_0_1) (fun v10 => ?_)
    refine e_icmpne (t := 34) i_Duties_noteRing_13 (by decide) ?_ ?_
    · exact e_vret i_Duties_noteRing_34 rfl
    · refine e_iload_n i_Duties_noteRing_16 rfl ?_
      refine e_aload_n i_Duties_noteRing_17 rfl ?_
      refine e_getI i_Duties_noteRing_18 lf_39 (by decide) (Or.inl ft_0_2) (fun v18 => ?_)
      refine e_icmpge (t := 34) i_Duties_noteRing_21 (by decide) ?_ ?_
      · exact e_vret i_Duties_noteRing_34 rfl
      · refine e_aload_n i_Duties_noteRing_24 rfl ?_
        refine e_iload_n i_Duties_noteRing_25 rfl ?_
        refine e_putf i_Duties_noteRing_26 lf_38 ft_0_1 rfl (fun s26 => ?_)
        refine e_aload_n i_Duties_noteRing_29 rfl ?_
        refine e_iload_n i_Duties_noteRing_30 rfl ?_
        refine e_putf i_Duties_noteRing_31 lf_39 ft_0_2 rfl (fun s31 => ?_)
        exact e_vret i_Duties_noteRing_34 rfl
theorem i_Duties_cost_0 : m_at k_Duties_cost 0 = some (.iconst 0, 1, 0) := m_at_of r_Duties_cost (by decide +kernel)
theorem i_Duties_cost_1 : m_at k_Duties_cost 1 = some (.istore_n 3, 1, 0) := m_at_of r_Duties_cost (by decide +kernel)
theorem i_Duties_cost_2 : m_at k_Duties_cost 2 = some (.iconst 0, 1, 0) := m_at_of r_Duties_cost (by decide +kernel)
theorem i_Duties_cost_3 : m_at k_Duties_cost 3 = some (.istore 4, 2, 0) := m_at_of r_Duties_cost (by decide +kernel)
theorem i_Duties_cost_5 : m_at k_Duties_cost 5 = some (.iconst 0, 1, 0) := m_at_of r_Duties_cost (by decide +kernel)
theorem i_Duties_cost_6 : m_at k_Duties_cost 6 = some (.istore 5, 2, 0) := m_at_of r_Duties_cost (by decide +kernel)
theorem i_Duties_cost_8 : m_at k_Duties_cost 8 = some (.iload 5, 2, 0) := m_at_of r_Duties_cost (by decide +kernel)
theorem i_Duties_cost_10 : m_at k_Duties_cost 10 = some (.aload_n 0, 1, 0) := m_at_of r_Duties_cost (by decide +kernel)
theorem i_Duties_cost_11 : m_at k_Duties_cost 11 = some (.getfield 14, 3, 73) := m_at_of r_Duties_cost (by decide +kernel)
theorem i_Duties_cost_14 : m_at k_Duties_cost 14 = some (.getfield 41, 3, 74) := m_at_of r_Duties_cost (by decide +kernel)
theorem i_Duties_cost_17 : m_at k_Duties_cost 17 = some (.if_icmp .ge (47), 3, 0) := m_at_of r_Duties_cost (by decide +kernel)
theorem i_Duties_cost_20 : m_at k_Duties_cost 20 = some (.iload_n 3, 1, 0) := m_at_of r_Duties_cost (by decide +kernel)
theorem i_Duties_cost_21 : m_at k_Duties_cost 21 = some (.aload_n 1, 1, 0) := m_at_of r_Duties_cost (by decide +kernel)
theorem i_Duties_cost_22 : m_at k_Duties_cost 22 = some (.bipush 51, 2, 0) := m_at_of r_Duties_cost (by decide +kernel)
theorem i_Duties_cost_24 : m_at k_Duties_cost 24 = some (.aload_n 0, 1, 0) := m_at_of r_Duties_cost (by decide +kernel)
theorem i_Duties_cost_25 : m_at k_Duties_cost 25 = some (.getfield 14, 3, 73) := m_at_of r_Duties_cost (by decide +kernel)
theorem i_Duties_cost_28 : m_at k_Duties_cost 28 = some (.iload 5, 2, 0) := m_at_of r_Duties_cost (by decide +kernel)
theorem i_Duties_cost_30 : m_at k_Duties_cost 30 = some (.invokevirtual 48, 3, 197) := m_at_of r_Duties_cost (by decide +kernel)
theorem i_Duties_cost_33 : m_at k_Duties_cost 33 = some (.invokevirtual 33, 3, 133) := m_at_of r_Duties_cost (by decide +kernel)
theorem i_Duties_cost_36 : m_at k_Duties_cost 36 = some (.iadd, 1, 0) := m_at_of r_Duties_cost (by decide +kernel)
theorem i_Duties_cost_37 : m_at k_Duties_cost 37 = some (.istore_n 3, 1, 0) := m_at_of r_Duties_cost (by decide +kernel)
theorem i_Duties_cost_38 : m_at k_Duties_cost 38 = some (.iload 4, 2, 0) := m_at_of r_Duties_cost (by decide +kernel)
theorem i_Duties_cost_40 : m_at k_Duties_cost 40 = some (.aload_n 2, 1, 0) := m_at_of r_Duties_cost (by decide +kernel)
theorem i_Duties_cost_41 : m_at k_Duties_cost 41 = some (.aload_n 0, 1, 0) := m_at_of r_Duties_cost (by decide +kernel)
theorem i_Duties_cost_42 : m_at k_Duties_cost 42 = some (.getfield 14, 3, 73) := m_at_of r_Duties_cost (by decide +kernel)
theorem i_Duties_cost_45 : m_at k_Duties_cost 45 = some (.iload 5, 2, 0) := m_at_of r_Duties_cost (by decide +kernel)
theorem i_Duties_cost_47 : m_at k_Duties_cost 47 = some (.invokevirtual 48, 3, 197) := m_at_of r_Duties_cost (by decide +kernel)
theorem i_Duties_cost_50 : m_at k_Duties_cost 50 = some (.invokevirtual 48, 3, 197) := m_at_of r_Duties_cost (by decide +kernel)
theorem i_Duties_cost_53 : m_at k_Duties_cost 53 = some (.iload_n 3, 1, 0) := m_at_of r_Duties_cost (by decide +kernel)
theorem i_Duties_cost_54 : m_at k_Duties_cost 54 = some (.imul, 1, 0) := m_at_of r_Duties_cost (by decide +kernel)
theorem i_Duties_cost_55 : m_at k_Duties_cost 55 = some (.iadd, 1, 0) := m_at_of r_Duties_cost (by decide +kernel)
theorem i_Duties_cost_56 : m_at k_Duties_cost 56 = some (.istore 4, 2, 0) := m_at_of r_Duties_cost (by decide +kernel)
theorem i_Duties_cost_58 : m_at k_Duties_cost 58 = some (.iinc 5 (1), 3, 0) := m_at_of r_Duties_cost (by decide +kernel)
theorem i_Duties_cost_61 : m_at k_Duties_cost 61 = some (.goto (-53), 3, 0) := m_at_of r_Duties_cost (by decide +kernel)
theorem i_Duties_cost_64 : m_at k_Duties_cost 64 = some (.iload 4, 2, 0) := m_at_of r_Duties_cost (by decide +kernel)
theorem i_Duties_cost_66 : m_at k_Duties_cost 66 = some (.ireturn, 1, 0) := m_at_of r_Duties_cost (by decide +kernel)
set_option maxRecDepth 20000 in
set_option maxHeartbeats 1000000 in
theorem E_Duties_cost (x : m_X) (s : m_H) (w : Nat) (r1 : Nat) (r2 : Nat) : m_M x k_Duties_cost [.ref w, .ref r1, .ref r2] s = if m_isO s w 0 = true then (m_D x 2 k_Duties_cost 8 [some (.ref w), some (.ref r1), some (.ref r2), some (.int 0), some (.int 0), some (.int 0)] [] s) else none := by
  refine e_M1 (L0 := [some (.ref w), some (.ref r1), some (.ref r2), none, none, none]) rfl (by decide +kernel) rfl (q_Duties_cost _) rfl ?_
  refine e_iconst (v := 0) i_Duties_cost_0 (by decide) ?_
  refine e_istore_n (L' := [some (.ref w), some (.ref r1), some (.ref r2), some (.int 0), none, none]) i_Duties_cost_1 (of_decide_eq_true rfl) rfl ?_
  refine e_iconst (v := 0) i_Duties_cost_2 (by decide) ?_
  refine e_istore (L' := [some (.ref w), some (.ref r1), some (.ref r2), some (.int 0), some (.int 0), none]) i_Duties_cost_3 (of_decide_eq_true rfl) rfl ?_
  refine e_iconst (v := 0) i_Duties_cost_5 (by decide) ?_
  refine e_istore (L' := [some (.ref w), some (.ref r1), some (.ref r2), some (.int 0), some (.int 0), some (.int 0)]) i_Duties_cost_6 (of_decide_eq_true rfl) rfl ?_
  exact rfl
set_option maxRecDepth 20000 in
set_option maxHeartbeats 1000000 in
theorem E_Duties_cost_8 (x : m_X) (ρ : Nat) (hρ : 2 ≤ ρ) (s : m_H) (w : Nat) (r1 : Nat) (r2 : Nat) (n3 : Int32) (n4 : Int32) (n5 : Int32)  : m_D x ρ k_Duties_cost 8 [some (.ref w), some (.ref r1), some (.ref r2), some (.int n3), some (.int n4), some (.int n5)] [] s = (m_fR s 0 0 w).bind fun v11 => (m_fI s 4 1 v11).bind fun v14 => if v14 ≤ n5 then (some (some (.int n4), s)) else (m_fR s 0 0 w).bind fun v25 => m_bI (m_M x k_Row_itemAt [.ref v25, .int n5] s) fun v30 s30 => m_bI (m_M x k_World_at [.ref r1, .int 51, .int v30] s30) fun v33 s33 => (m_fR s33 0 0 w).bind fun v42 => m_bI (m_M x k_Row_itemAt [.ref v42, .int n5] s33) fun v47 s47 => m_bI (m_M x k_Row_itemAt [.ref r2, .int v47] s47) fun v50 s50 => m_D x ρ k_Duties_cost 8 [some (.ref w), some (.ref r1), some (.ref r2), some (.int (n3 + v33)), some (.int (n4 + (v50 * (n3 + v33)))), some (.int (n5 + (1 : Int32)))] [] s50 := by
  refine e_iload i_Duties_cost_8 rfl ?_
  refine e_aload_n i_Duties_cost_10 rfl ?_
  refine e_getR i_Duties_cost_11 lf_73 (by decide) ft_0_0 (fun v11 => ?_)
  refine e_getI i_Duties_cost_14 lf_74 (by decide) (Or.inl ft_4_1) (fun v14 => ?_)
  refine e_icmpge (t := 64) i_Duties_cost_17 (by decide) ?_ ?_
  · refine e_iload i_Duties_cost_64 rfl ?_
    exact e_iretI i_Duties_cost_66 rfl
  · refine e_iload_n i_Duties_cost_20 rfl ?_
    refine e_aload_n i_Duties_cost_21 rfl ?_
    refine e_bipush (v := 51) i_Duties_cost_22 (by decide) ?_
    refine e_aload_n i_Duties_cost_24 rfl ?_
    refine e_getR i_Duties_cost_25 lf_73 (by decide) ft_0_0 (fun v25 => ?_)
    refine e_iload i_Duties_cost_28 rfl ?_
    refine e_callI (as := [.ref v25, .int n5]) (st' := [.int 51, .ref r1, .int n3]) i_Duties_cost_30 lm_197 (Or.inr (Or.inl ⟨rfl, rfl⟩)) w_Row_itemAt rfl rfl rfl (Nat.le_of_ble_eq_true rfl) (Nat.le_of_ble_eq_true rfl) (m_rlt (q_Row_itemAt _) (Nat.lt_of_lt_of_le (by decide) hρ)) rfl (fun v30 s30 => ?_)
    refine e_callI (as := [.ref r1, .int 51, .int v30]) (st' := [.int n3]) i_Duties_cost_33 lm_133 (Or.inr (Or.inl ⟨rfl, rfl⟩)) w_World_at rfl rfl rfl (Nat.le_of_ble_eq_true rfl) (Nat.le_of_ble_eq_true rfl) (m_rlt (q_World_at _) (Nat.lt_of_lt_of_le (by decide) hρ)) rfl (fun v33 s33 => ?_)
    refine e_iadd i_Duties_cost_36 ?_
    refine e_istore_n (L' := [some (.ref w), some (.ref r1), some (.ref r2), some (.int (n3 + v33)), some (.int n4), some (.int n5)]) i_Duties_cost_37 (of_decide_eq_true rfl) rfl ?_
    refine e_iload i_Duties_cost_38 rfl ?_
    refine e_aload_n i_Duties_cost_40 rfl ?_
    refine e_aload_n i_Duties_cost_41 rfl ?_
    refine e_getR i_Duties_cost_42 lf_73 (by decide) ft_0_0 (fun v42 => ?_)
    refine e_iload i_Duties_cost_45 rfl ?_
    refine e_callI (as := [.ref v42, .int n5]) (st' := [.ref r2, .int n4]) i_Duties_cost_47 lm_197 (Or.inr (Or.inl ⟨rfl, rfl⟩)) w_Row_itemAt rfl rfl rfl (Nat.le_of_ble_eq_true rfl) (Nat.le_of_ble_eq_true rfl) (m_rlt (q_Row_itemAt _) (Nat.lt_of_lt_of_le (by decide) hρ)) rfl (fun v47 s47 => ?_)
    refine e_callI (as := [.ref r2, .int v47]) (st' := [.int n4]) i_Duties_cost_50 lm_197 (Or.inr (Or.inl ⟨rfl, rfl⟩)) w_Row_itemAt rfl rfl rfl (Nat.le_of_ble_eq_true rfl) (Nat.le_of_ble_eq_true rfl) (m_rlt (q_Row_itemAt _) (Nat.lt_of_lt_of_le (by decide) hρ)) rfl (fun v50 s50 => ?_)
    refine e_iload_n i_Duties_cost_53 rfl ?_
    refine e_imul i_Duties_cost_54 ?_
    refine e_iadd i_Duties_cost_55 ?_
    refine e_istore (L' := [some (.ref w), some (.ref r1), some (.ref r2), some (.int (n3 + v33)), some (.int (n4 + (v50 * (n3 + v33)))), some (.int n5)]) i_Duties_cost_56 (of_decide_eq_true rfl) rfl ?_
    refine e_iinc (w := 1) (L' := [some (.ref w), some (.ref r1), some (.ref r2), some (.int (n3 + v33)), some (.int (n4 + (v50 * (n3 + v33)))), some (.int (n5 + (1 : Int32)))]) i_Duties_cost_58 rfl (of_decide_eq_true rfl) (by decide) rfl ?_
    refine e_goto (t := 8) i_Duties_cost_61 (by decide) ?_
    exact rfl
theorem i_Duties_arrange_0 : m_at k_Duties_arrange 0 = some (.aload_n 0, 1, 0) := m_at_of r_Duties_arrange (by decide +kernel)
theorem i_Duties_arrange_1 : m_at k_Duties_arrange 1 = some (.getfield 14, 3, 73) := m_at_of r_Duties_arrange (by decide +kernel)
theorem i_Duties_arrange_4 : m_at k_Duties_arrange 4 = some (.invokevirtual 20, 3, 198) := m_at_of r_Duties_arrange (by decide +kernel)
theorem i_Duties_arrange_7 : m_at k_Duties_arrange 7 = some (.iconst 0, 1, 0) := m_at_of r_Duties_arrange (by decide +kernel)
theorem i_Duties_arrange_8 : m_at k_Duties_arrange 8 = some (.istore 4, 2, 0) := m_at_of r_Duties_arrange (by decide +kernel)
theorem i_Duties_arrange_10 : m_at k_Duties_arrange 10 = some (.iload 4, 2, 0) := m_at_of r_Duties_arrange (by decide +kernel)
theorem i_Duties_arrange_12 : m_at k_Duties_arrange 12 = some (.aload_n 1, 1, 0) := m_at_of r_Duties_arrange (by decide +kernel)
theorem i_Duties_arrange_13 : m_at k_Duties_arrange 13 = some (.getfield 23, 3, 40) := m_at_of r_Duties_arrange (by decide +kernel)
theorem i_Duties_arrange_16 : m_at k_Duties_arrange 16 = some (.bipush 25, 2, 0) := m_at_of r_Duties_arrange (by decide +kernel)
theorem i_Duties_arrange_18 : m_at k_Duties_arrange 18 = some (.iaload, 1, 0) := m_at_of r_Duties_arrange (by decide +kernel)
theorem i_Duties_arrange_19 : m_at k_Duties_arrange 19 = some (.if_icmp .ge (38), 3, 0) := m_at_of r_Duties_arrange (by decide +kernel)
theorem i_Duties_arrange_22 : m_at k_Duties_arrange 22 = some (.aload_n 1, 1, 0) := m_at_of r_Duties_arrange (by decide +kernel)
theorem i_Duties_arrange_23 : m_at k_Duties_arrange 23 = some (.iload 4, 2, 0) := m_at_of r_Duties_arrange (by decide +kernel)
theorem i_Duties_arrange_25 : m_at k_Duties_arrange 25 = some (.invokevirtual 29, 3, 199) := m_at_of r_Duties_arrange (by decide +kernel)
theorem i_Duties_arrange_28 : m_at k_Duties_arrange 28 = some (.ifCond .eq (23), 3, 0) := m_at_of r_Duties_arrange (by decide +kernel)
theorem i_Duties_arrange_31 : m_at k_Duties_arrange 31 = some (.aload_n 1, 1, 0) := m_at_of r_Duties_arrange (by decide +kernel)
theorem i_Duties_arrange_32 : m_at k_Duties_arrange 32 = some (.bipush 27, 2, 0) := m_at_of r_Duties_arrange (by decide +kernel)
theorem i_Duties_arrange_34 : m_at k_Duties_arrange 34 = some (.iload 4, 2, 0) := m_at_of r_Duties_arrange (by decide +kernel)
theorem i_Duties_arrange_36 : m_at k_Duties_arrange 36 = some (.invokevirtual 33, 3, 133) := m_at_of r_Duties_arrange (by decide +kernel)
theorem i_Duties_arrange_39 : m_at k_Duties_arrange 39 = some (.iload_n 3, 1, 0) := m_at_of r_Duties_arrange (by decide +kernel)
theorem i_Duties_arrange_40 : m_at k_Duties_arrange 40 = some (.if_icmp .ne (11), 3, 0) := m_at_of r_Duties_arrange (by decide +kernel)
theorem i_Duties_arrange_43 : m_at k_Duties_arrange 43 = some (.aload_n 0, 1, 0) := m_at_of r_Duties_arrange (by decide +kernel)
theorem i_Duties_arrange_44 : m_at k_Duties_arrange 44 = some (.aload_n 1, 1, 0) := m_at_of r_Duties_arrange (by decide +kernel)
theorem i_Duties_arrange_45 : m_at k_Duties_arrange 45 = some (.aload_n 2, 1, 0) := m_at_of r_Duties_arrange (by decide +kernel)
theorem i_Duties_arrange_46 : m_at k_Duties_arrange 46 = some (.iload 4, 2, 0) := m_at_of r_Duties_arrange (by decide +kernel)
theorem i_Duties_arrange_48 : m_at k_Duties_arrange 48 = some (.invokevirtual 37, 3, 200) := m_at_of r_Duties_arrange (by decide +kernel)
theorem i_Duties_arrange_51 : m_at k_Duties_arrange 51 = some (.iinc 4 (1), 3, 0) := m_at_of r_Duties_arrange (by decide +kernel)
theorem i_Duties_arrange_54 : m_at k_Duties_arrange 54 = some (.goto (-44), 3, 0) := m_at_of r_Duties_arrange (by decide +kernel)
theorem i_Duties_arrange_57 : m_at k_Duties_arrange 57 = some (.return_, 1, 0) := m_at_of r_Duties_arrange (by decide +kernel)
set_option maxRecDepth 20000 in
set_option maxHeartbeats 1000000 in
theorem E_Duties_arrange (x : m_X) (s : m_H) (w : Nat) (r1 : Nat) (r2 : Nat) (n3 : Int32) : m_M x k_Duties_arrange [.ref w, .ref r1, .ref r2, .int n3] s = if m_isO s w 0 = true then ((m_fR s 0 0 w).bind fun v1 => m_bV (m_M x k_Row_empty [.ref v1] s) fun s4 => m_D x 4 k_Duties_arrange 10 [some (.ref w), some (.ref r1), some (.ref r2), some (.int n3), some (.int 0)] [] s4) else none := by
  refine e_M1 (L0 := [some (.ref w), some (.ref r1), some (.ref r2), some (.int n3), none]) rfl (by decide +kernel) rfl (q_Duties_arrange _) rfl ?_
  refine e_aload_n i_Duties_arrange_0 rfl ?_
  refine e_getR i_Duties_arrange_1 lf_73 (by decide) ft_0_0 (fun v1 => ?_)
  refine e_callV (as := [.ref v1]) (st' := []) i_Duties_arrange_4 lm_198 (Or.inr (Or.inl ⟨rfl, rfl⟩)) w_Row_empty rfl rfl rfl (Nat.le_of_ble_eq_true rfl) (Nat.le_of_ble_eq_true rfl) (m_rlt (q_Row_empty _) (by decide)) rfl (fun s4 => ?_)
  refine e_iconst (v := 0) i_Duties_arrange_7 (by decide) ?_
  refine e_istore (L' := [some (.ref w), some (.ref r1), some (.ref r2), some (.int n3), some (.int 0)]) i_Duties_arrange_8 (of_decide_eq_true rfl) rfl ?_
  exact rfl
set_option maxRecDepth 20000 in
set_option maxHeartbeats 1000000 in
theorem E_Duties_arrange_10 (x : m_X) (ρ : Nat) (hρ : 4 ≤ ρ) (s : m_H) (w : Nat) (r1 : Nat) (r2 : Nat) (n3 : Int32) (n4 : Int32)  : m_D x ρ k_Duties_arrange 10 [some (.ref w), some (.ref r1), some (.ref r2), some (.int n3), some (.int n4)] [] s = (m_fR s 9 0 r1).bind fun v13 => (m_ia x s v13 25).bind fun v18 => if v18 ≤ n4 then (some (none, s)) else m_bI (m_M x k_World_isOpen [.ref r1, .int n4] s) fun v25 s25 => if v25 = 0 then (m_D x ρ k_Duties_arrange 10 [some (.ref w), some (.ref r1), some (.ref r2), some (.int n3), some (.int (n4 + (1 : Int32)))] [] s25) else m_bI (m_M x k_World_at [.ref r1, .int 27, .int n4] s25) fun v36 s36 => if v36 = n3 then (m_bV (m_M x k_Duties_arrangeIn [.ref w, .ref r1, .ref r2, .int n4] s36) fun s48 => m_D x ρ k_Duties_arrange 10 [some (.ref w), some (.ref r1), some (.ref r2), some (.int n3), some (.int (n4 + (1 : Int32)))] [] s48) else m_D x ρ k_Duties_arrange 10 [some (.ref w), some (.ref r1), some (.ref r2), some (.int n3), some (.int (n4 + (1 : Int32)))] [] s36 := by
  refine e_iload i_Duties_arrange_10 rfl ?_
  refine e_aload_n i_Duties_arrange_12 rfl ?_
  refine e_getR i_Duties_arrange_13 lf_40 (by decide) ft_9_0 (fun v13 => ?_)
  refine e_bipush (v := 25) i_Duties_arrange_16 (by decide) ?_
  refine e_iald i_Duties_arrange_18 (fun v18 => ?_)
  refine e_icmpge (t := 57) i_Duties_arrange_19 (by decide) ?_ ?_
  · exact e_vret i_Duties_arrange_57 rfl
  · refine e_aload_n i_Duties_arrange_22 rfl ?_
    refine e_iload i_Duties_arrange_23 rfl ?_
    refine e_callI (as := [.ref r1, .int n4]) (st' := []) i_Duties_arrange_25 lm_199 (Or.inr (Or.inl ⟨rfl, rfl⟩)) w_World_isOpen rfl rfl rfl (Nat.le_of_ble_eq_true rfl) (Nat.le_of_ble_eq_true rfl) (m_rlt (q_World_isOpen _) (Nat.lt_of_lt_of_le (by decide) hρ)) rfl (fun v25 s25 => ?_)
    refine e_ifeq (t := 51) i_Duties_arrange_28 (by decide) ?_ ?_
    · refine e_iinc (w := 1) (L' := [some (.ref w), some (.ref r1), some (.ref r2), some (.int n3), some (.int (n4 + (1 : Int32)))]) i_Duties_arrange_51 rfl (of_decide_eq_true rfl) (by decide) rfl ?_
      refine e_goto (t := 10) i_Duties_arrange_54 (by decide) ?_
      exact rfl
    · refine e_aload_n i_Duties_arrange_31 rfl ?_
      refine e_bipush (v := 27) i_Duties_arrange_32 (by decide) ?_
      refine e_iload i_Duties_arrange_34 rfl ?_
      refine e_callI (as := [.ref r1, .int 27, .int n4]) (st' := []) i_Duties_arrange_36 lm_133 (Or.inr (Or.inl ⟨rfl, rfl⟩)) w_World_at rfl rfl rfl (Nat.le_of_ble_eq_true rfl) (Nat.le_of_ble_eq_true rfl) (m_rlt (q_World_at _) (Nat.lt_of_lt_of_le (by decide) hρ)) rfl (fun v36 s36 => ?_)
      refine e_iload_n i_Duties_arrange_39 rfl ?_
      refine e_icmpne (t := 51) i_Duties_arrange_40 (by decide) ?_ ?_
      · refine e_iinc (w := 1) (L' := [some (.ref w), some (.ref r1), some (.ref r2), some (.int n3), some (.int (n4 + (1 : Int32)))]) i_Duties_arrange_51 rfl (of_decide_eq_true rfl) (by decide) rfl ?_
        refine e_goto (t := 10) i_Duties_arrange_54 (by decide) ?_
        exact rfl
      · refine e_aload_n i_Duties_arrange_43 rfl ?_
        refine e_aload_n i_Duties_arrange_44 rfl ?_
        refine e_aload_n i_Duties_arrange_45 rfl ?_
        refine e_iload i_Duties_arrange_46 rfl ?_
        refine e_callV (as := [.ref w, .ref r1, .ref r2, .int n4]) (st' := []) i_Duties_arrange_48 lm_200 (Or.inr (Or.inl ⟨rfl, rfl⟩)) w_Duties_arrangeIn rfl rfl rfl (Nat.le_of_ble_eq_true rfl) (Nat.le_of_ble_eq_true rfl) (m_rlt (q_Duties_arrangeIn _) (Nat.lt_of_lt_of_le (by decide) hρ)) rfl (fun s48 => ?_)
        refine e_iinc (w := 1) (L' := [some (.ref w), some (.ref r1), some (.ref r2), some (.int n3), some (.int (n4 + (1 : Int32)))]) i_Duties_arrange_51 rfl (of_decide_eq_true rfl) (by decide) rfl ?_
        refine e_goto (t := 10) i_Duties_arrange_54 (by decide) ?_
        exact rfl
theorem i_Duties_arrangeIn_0 : m_at k_Duties_arrangeIn 0 = some (.aload_n 0, 1, 0) := m_at_of r_Duties_arrangeIn (by decide +kernel)
theorem i_Duties_arrangeIn_1 : m_at k_Duties_arrangeIn 1 = some (.getfield 14, 3, 73) := m_at_of r_Duties_arrangeIn (by decide +kernel)
theorem i_Duties_arrangeIn_4 : m_at k_Duties_arrangeIn 4 = some (.getfield 41, 3, 74) := m_at_of r_Duties_arrangeIn (by decide +kernel)
theorem i_Duties_arrangeIn_7 : m_at k_Duties_arrangeIn 7 = some (.istore 4, 2, 0) := m_at_of r_Duties_arrangeIn (by decide +kernel)
theorem i_Duties_arrangeIn_9 : m_at k_Duties_arrangeIn 9 = some (.aload_n 0, 1, 0) := m_at_of r_Duties_arrangeIn (by decide +kernel)
theorem i_Duties_arrangeIn_10 : m_at k_Duties_arrangeIn 10 = some (.getfield 14, 3, 73) := m_at_of r_Duties_arrangeIn (by decide +kernel)
theorem i_Duties_arrangeIn_13 : m_at k_Duties_arrangeIn 13 = some (.iload_n 3, 1, 0) := m_at_of r_Duties_arrangeIn (by decide +kernel)
theorem i_Duties_arrangeIn_14 : m_at k_Duties_arrangeIn 14 = some (.invokevirtual 45, 3, 201) := m_at_of r_Duties_arrangeIn (by decide +kernel)
theorem i_Duties_arrangeIn_17 : m_at k_Duties_arrangeIn 17 = some (.pop, 1, 0) := m_at_of r_Duties_arrangeIn (by decide +kernel)
theorem i_Duties_arrangeIn_18 : m_at k_Duties_arrangeIn 18 = some (.iload 4, 2, 0) := m_at_of r_Duties_arrangeIn (by decide +kernel)
theorem i_Duties_arrangeIn_20 : m_at k_Duties_arrangeIn 20 = some (.ifCond .le (49), 3, 0) := m_at_of r_Duties_arrangeIn (by decide +kernel)
theorem i_Duties_arrangeIn_23 : m_at k_Duties_arrangeIn 23 = some (.aload_n 1, 1, 0) := m_at_of r_Duties_arrangeIn (by decide +kernel)
theorem i_Duties_arrangeIn_24 : m_at k_Duties_arrangeIn 24 = some (.aload_n 2, 1, 0) := m_at_of r_Duties_arrangeIn (by decide +kernel)
theorem i_Duties_arrangeIn_25 : m_at k_Duties_arrangeIn 25 = some (.iload_n 3, 1, 0) := m_at_of r_Duties_arrangeIn (by decide +kernel)
theorem i_Duties_arrangeIn_26 : m_at k_Duties_arrangeIn 26 = some (.aload_n 0, 1, 0) := m_at_of r_Duties_arrangeIn (by decide +kernel)
theorem i_Duties_arrangeIn_27 : m_at k_Duties_arrangeIn 27 = some (.getfield 14, 3, 73) := m_at_of r_Duties_arrangeIn (by decide +kernel)
theorem i_Duties_arrangeIn_30 : m_at k_Duties_arrangeIn 30 = some (.iload 4, 2, 0) := m_at_of r_Duties_arrangeIn (by decide +kernel)
theorem i_Duties_arrangeIn_32 : m_at k_Duties_arrangeIn 32 = some (.iconst 1, 1, 0) := m_at_of r_Duties_arrangeIn (by decide +kernel)
theorem i_Duties_arrangeIn_33 : m_at k_Duties_arrangeIn 33 = some (.isub, 1, 0) := m_at_of r_Duties_arrangeIn (by decide +kernel)
theorem i_Duties_arrangeIn_34 : m_at k_Duties_arrangeIn 34 = some (.invokevirtual 48, 3, 197) := m_at_of r_Duties_arrangeIn (by decide +kernel)
theorem i_Duties_arrangeIn_37 : m_at k_Duties_arrangeIn 37 = some (.invokestatic 52, 3, 202) := m_at_of r_Duties_arrangeIn (by decide +kernel)
theorem i_Duties_arrangeIn_40 : m_at k_Duties_arrangeIn 40 = some (.ifCond .eq (29), 3, 0) := m_at_of r_Duties_arrangeIn (by decide +kernel)
theorem i_Duties_arrangeIn_43 : m_at k_Duties_arrangeIn 43 = some (.aload_n 0, 1, 0) := m_at_of r_Duties_arrangeIn (by decide +kernel)
theorem i_Duties_arrangeIn_44 : m_at k_Duties_arrangeIn 44 = some (.getfield 14, 3, 73) := m_at_of r_Duties_arrangeIn (by decide +kernel)
theorem i_Duties_arrangeIn_47 : m_at k_Duties_arrangeIn 47 = some (.iload 4, 2, 0) := m_at_of r_Duties_arrangeIn (by decide +kernel)
theorem i_Duties_arrangeIn_49 : m_at k_Duties_arrangeIn 49 = some (.aload_n 0, 1, 0) := m_at_of r_Duties_arrangeIn (by decide +kernel)
theorem i_Duties_arrangeIn_50 : m_at k_Duties_arrangeIn 50 = some (.getfield 14, 3, 73) := m_at_of r_Duties_arrangeIn (by decide +kernel)
theorem i_Duties_arrangeIn_53 : m_at k_Duties_arrangeIn 53 = some (.iload 4, 2, 0) := m_at_of r_Duties_arrangeIn (by decide +kernel)
theorem i_Duties_arrangeIn_55 : m_at k_Duties_arrangeIn 55 = some (.iconst 1, 1, 0) := m_at_of r_Duties_arrangeIn (by decide +kernel)
theorem i_Duties_arrangeIn_56 : m_at k_Duties_arrangeIn 56 = some (.isub, 1, 0) := m_at_of r_Duties_arrangeIn (by decide +kernel)
theorem i_Duties_arrangeIn_57 : m_at k_Duties_arrangeIn 57 = some (.invokevirtual 48, 3, 197) := m_at_of r_Duties_arrangeIn (by decide +kernel)
theorem i_Duties_arrangeIn_60 : m_at k_Duties_arrangeIn 60 = some (.invokevirtual 56, 3, 203) := m_at_of r_Duties_arrangeIn (by decide +kernel)
theorem i_Duties_arrangeIn_63 : m_at k_Duties_arrangeIn 63 = some (.iinc 4 (-1), 3, 0) := m_at_of r_Duties_arrangeIn (by decide +kernel)
theorem i_Duties_arrangeIn_66 : m_at k_Duties_arrangeIn 66 = some (.goto (-48), 3, 0) := m_at_of r_Duties_arrangeIn (by decide +kernel)
theorem i_Duties_arrangeIn_69 : m_at k_Duties_arrangeIn 69 = some (.aload_n 0, 1, 0) := m_at_of r_Duties_arrangeIn (by decide +kernel)
theorem i_Duties_arrangeIn_70 : m_at k_Duties_arrangeIn 70 = some (.getfield 14, 3, 73) := m_at_of r_Duties_arrangeIn (by decide +kernel)
theorem i_Duties_arrangeIn_73 : m_at k_Duties_arrangeIn 73 = some (.iload 4, 2, 0) := m_at_of r_Duties_arrangeIn (by decide +kernel)
theorem i_Duties_arrangeIn_75 : m_at k_Duties_arrangeIn 75 = some (.iload_n 3, 1, 0) := m_at_of r_Duties_arrangeIn (by decide +kernel)
theorem i_Duties_arrangeIn_76 : m_at k_Duties_arrangeIn 76 = some (.invokevirtual 56, 3, 203) := m_at_of r_Duties_arrangeIn (by decide +kernel)
theorem i_Duties_arrangeIn_79 : m_at k_Duties_arrangeIn 79 = some (.return_, 1, 0) := m_at_of r_Duties_arrangeIn (by decide +kernel)
set_option maxRecDepth 20000 in
set_option maxHeartbeats 1000000 in
theorem E_Duties_arrangeIn (x : m_X) (s : m_H) (w : Nat) (r1 : Nat) (r2 : Nat) (n3 : Int32) : m_M x k_Duties_arrangeIn [.ref w, .ref r1, .ref r2, .int n3] s = if m_isO s w 0 = true then ((m_fR s 0 0 w).bind fun v1 => (m_fI s 4 1 v1).bind fun v4 => (m_fR s 0 0 w).bind fun v10 => m_bI (m_M x k_Row_put [.ref v10, .int n3] s) fun v14 s14 => m_D x 3 k_Duties_arrangeIn 18 [some (.ref w), some (.ref r1), some (.ref r2), some (.int n3), some (.int v4)] [] s14) else none := by
  refine e_M1 (L0 := [some (.ref w), some (.ref r1), some (.ref r2), some (.int n3), none]) rfl (by decide +kernel) rfl (q_Duties_arrangeIn _) rfl ?_
  refine e_aload_n i_Duties_arrangeIn_0 rfl ?_
  refine e_getR i_Duties_arrangeIn_1 lf_73 (by decide) ft_0_0 (fun v1 => ?_)
  refine e_getI i_Duties_arrangeIn_4 lf_74 (by decide) (Or.inl ft_4_1) (fun v4 => ?_)
  refine e_istore (L' := [some (.ref w), some (.ref r1), some (.ref r2), some (.int n3), some (.int v4)]) i_Duties_arrangeIn_7 (of_decide_eq_true rfl) rfl ?_
  refine e_aload_n i_Duties_arrangeIn_9 rfl ?_
  refine e_getR i_Duties_arrangeIn_10 lf_73 (by decide) ft_0_0 (fun v10 => ?_)
  refine e_iload_n i_Duties_arrangeIn_13 rfl ?_
  refine e_callI (as := [.ref v10, .int n3]) (st' := []) i_Duties_arrangeIn_14 lm_201 (Or.inr (Or.inl ⟨rfl, rfl⟩)) w_Row_put rfl rfl rfl (Nat.le_of_ble_eq_true rfl) (Nat.le_of_ble_eq_true rfl) (m_rlt (q_Row_put _) (by decide)) rfl (fun v14 s14 => ?_)
  refine e_pop i_Duties_arrangeIn_17 rfl ?_
  exact rfl
set_option maxRecDepth 20000 in
set_option maxHeartbeats 1000000 in
theorem E_Duties_arrangeIn_18 (x : m_X) (ρ : Nat) (hρ : 3 ≤ ρ) (s : m_H) (w : Nat) (r1 : Nat) (r2 : Nat) (n3 : Int32) (n4 : Int32)  : m_D x ρ k_Duties_arrangeIn 18 [some (.ref w), some (.ref r1), some (.ref r2), some (.int n3), some (.int n4)] [] s = if n4 ≤ 0 then ((m_fR s 0 0 w).bind fun v70 => m_bV (m_M x k_Row_change [.ref v70, .int n4, .int n3] s) fun s76 => some (none, s76)) else (m_fR s 0 0 w).bind fun v27 => m_bI (m_M x k_Row_itemAt [.ref v27, .int (n4 - (1 : Int32))] s) fun v34 s34 => m_bI (m_M x k_Duties_isDearer [.ref r1, .ref r2, .int n3, .int v34] s34) fun v37 s37 => if v37 = 0 then ((m_fR s37 0 0 w).bind fun v70 => m_bV (m_M x k_Row_change [.ref v70, .int n4, .int n3] s37) fun s76 => some (none, s76)) else (m_fR s37 0 0 w).bind fun v44 => (m_fR s37 0 0 w).bind fun v50 => m_bI (m_M x k_Row_itemAt [.ref v50, .int (n4 - (1 : Int32))] s37) fun v57 s57 => m_bV (m_M x k_Row_change [.ref v44, .int n4, .int v57] s57) fun s60 => m_D x ρ k_Duties_arrangeIn 18 [some (.ref w), some (.ref r1), some (.ref r2), some (.int n3), some (.int (n4 + (-1 : Int32)))] [] s60 := by
  refine e_iload i_Duties_arrangeIn_18 rfl ?_
  refine e_ifle (t := 69) i_Duties_arrangeIn_20 (by decide) ?_ ?_
  · refine e_aload_n i_Duties_arrangeIn_69 rfl ?_
    refine e_getR i_Duties_arrangeIn_70 lf_73 (by decide) ft_0_0 (fun v70 => ?_)
    refine e_iload i_Duties_arrangeIn_73 rfl ?_
    refine e_iload_n i_Duties_arrangeIn_75 rfl ?_
    refine e_callV (as := [.ref v70, .int n4, .int n3]) (st' := []) i_Duties_arrangeIn_76 lm_203 (Or.inr (Or.inl ⟨rfl, rfl⟩)) w_Row_change rfl rfl rfl (Nat.le_of_ble_eq_true rfl) (Nat.le_of_ble_eq_true rfl) (m_rlt (q_Row_change _) (Nat.lt_of_lt_of_le (by decide) hρ)) rfl (fun s76 => ?_)
    exact e_vret i_Duties_arrangeIn_79 rfl
  · refine e_aload_n i_Duties_arrangeIn_23 rfl ?_
    refine e_aload_n i_Duties_arrangeIn_24 rfl ?_
    refine e_iload_n i_Duties_arrangeIn_25 rfl ?_
    refine e_aload_n i_Duties_arrangeIn_26 rfl ?_
    refine e_getR i_Duties_arrangeIn_27 lf_73 (by decide) ft_0_0 (fun v27 => ?_)
    refine e_iload i_Duties_arrangeIn_30 rfl ?_
    refine e_iconst (v := 1) i_Duties_arrangeIn_32 (by decide) ?_
    refine e_isub i_Duties_arrangeIn_33 ?_
    refine e_callI (as := [.ref v27, .int (n4 - (1 : Int32))]) (st' := [.int n3, .ref r2, .ref r1]) i_Duties_arrangeIn_34 lm_197 (Or.inr (Or.inl ⟨rfl, rfl⟩)) w_Row_itemAt rfl rfl rfl (Nat.le_of_ble_eq_true rfl) (Nat.le_of_ble_eq_true rfl) (m_rlt (q_Row_itemAt _) (Nat.lt_of_lt_of_le (by decide) hρ)) rfl (fun v34 s34 => ?_)
    refine e_callI (as := [.ref r1, .ref r2, .int n3, .int v34]) (st' := []) i_Duties_arrangeIn_37 lm_202 (Or.inl ⟨rfl, rfl⟩) w_Duties_isDearer rfl rfl rfl (Nat.le_of_ble_eq_true rfl) (Nat.le_of_ble_eq_true rfl) (m_rlt (q_Duties_isDearer _) (Nat.lt_of_lt_of_le (by decide) hρ)) rfl (fun v37 s37 => ?_)
    refine e_ifeq (t := 69) i_Duties_arrangeIn_40 (by decide) ?_ ?_
    · refine e_aload_n i_Duties_arrangeIn_69 rfl ?_
      refine e_getR i_Duties_arrangeIn_70 lf_73 (by decide) ft_0_0 (fun v70 => ?_)
      refine e_iload i_Duties_arrangeIn_73 rfl ?_
      refine e_iload_n i_Duties_arrangeIn_75 rfl ?_
      refine e_callV (as := [.ref v70, .int n4, .int n3]) (st' := []) i_Duties_arrangeIn_76 lm_203 (Or.inr (Or.inl ⟨rfl, rfl⟩)) w_Row_change rfl rfl rfl (Nat.le_of_ble_eq_true rfl) (Nat.le_of_ble_eq_true rfl) (m_rlt (q_Row_change _) (Nat.lt_of_lt_of_le (by decide) hρ)) rfl (fun s76 => ?_)
      exact e_vret i_Duties_arrangeIn_79 rfl
    · refine e_aload_n i_Duties_arrangeIn_43 rfl ?_
      refine e_getR i_Duties_arrangeIn_44 lf_73 (by decide) ft_0_0 (fun v44 => ?_)
      refine e_iload i_Duties_arrangeIn_47 rfl ?_
      refine e_aload_n i_Duties_arrangeIn_49 rfl ?_
      refine e_getR i_Duties_arrangeIn_50 lf_73 (by decide) ft_0_0 (fun v50 => ?_)
      refine e_iload i_Duties_arrangeIn_53 rfl ?_
      refine e_iconst (v := 1) i_Duties_arrangeIn_55 (by decide) ?_
      refine e_isub i_Duties_arrangeIn_56 ?_
      refine e_callI (as := [.ref v50, .int (n4 - (1 : Int32))]) (st' := [.int n4, .ref v44]) i_Duties_arrangeIn_57 lm_197 (Or.inr (Or.inl ⟨rfl, rfl⟩)) w_Row_itemAt rfl rfl rfl (Nat.le_of_ble_eq_true rfl) (Nat.le_of_ble_eq_true rfl) (m_rlt (q_Row_itemAt _) (Nat.lt_of_lt_of_le (by decide) hρ)) rfl (fun v57 s57 => ?_)
      refine e_callV (as := [.ref v44, .int n4, .int v57]) (st' := []) i_Duties_arrangeIn_60 lm_203 (Or.inr (Or.inl ⟨rfl, rfl⟩)) w_Row_change rfl rfl rfl (Nat.le_of_ble_eq_true rfl) (Nat.le_of_ble_eq_true rfl) (m_rlt (q_Row_change _) (Nat.lt_of_lt_of_le (by decide) hρ)) rfl (fun s60 => ?_)
      refine e_iinc (w := (-1)) (L' := [some (.ref w), some (.ref r1), some (.ref r2), some (.int n3), some (.int (n4 + (-1 : Int32)))]) i_Duties_arrangeIn_63 rfl (of_decide_eq_true rfl) (by decide) rfl ?_
      refine e_goto (t := 18) i_Duties_arrangeIn_66 (by decide) ?_
      exact rfl
theorem i_Duties_isDearer_0 : m_at k_Duties_isDearer 0 = some (.aload_n 1, 1, 0) := m_at_of r_Duties_isDearer (by decide +kernel)
theorem i_Duties_isDearer_1 : m_at k_Duties_isDearer 1 = some (.iload_n 2, 1, 0) := m_at_of r_Duties_isDearer (by decide +kernel)
theorem i_Duties_isDearer_2 : m_at k_Duties_isDearer 2 = some (.invokevirtual 48, 3, 197) := m_at_of r_Duties_isDearer (by decide +kernel)
theorem i_Duties_isDearer_5 : m_at k_Duties_isDearer 5 = some (.aload_n 0, 1, 0) := m_at_of r_Duties_isDearer (by decide +kernel)
theorem i_Duties_isDearer_6 : m_at k_Duties_isDearer 6 = some (.bipush 51, 2, 0) := m_at_of r_Duties_isDearer (by decide +kernel)
theorem i_Duties_isDearer_8 : m_at k_Duties_isDearer 8 = some (.iload_n 3, 1, 0) := m_at_of r_Duties_isDearer (by decide +kernel)
theorem i_Duties_isDearer_9 : m_at k_Duties_isDearer 9 = some (.invokevirtual 33, 3, 133) := m_at_of r_Duties_isDearer (by decide +kernel)
theorem i_Duties_isDearer_12 : m_at k_Duties_isDearer 12 = some (.imul, 1, 0) := m_at_of r_Duties_isDearer (by decide +kernel)
theorem i_Duties_isDearer_13 : m_at k_Duties_isDearer 13 = some (.aload_n 1, 1, 0) := m_at_of r_Duties_isDearer (by decide +kernel)
theorem i_Duties_isDearer_14 : m_at k_Duties_isDearer 14 = some (.iload_n 3, 1, 0) := m_at_of r_Duties_isDearer (by decide +kernel)
theorem i_Duties_isDearer_15 : m_at k_Duties_isDearer 15 = some (.invokevirtual 48, 3, 197) := m_at_of r_Duties_isDearer (by decide +kernel)
theorem i_Duties_isDearer_18 : m_at k_Duties_isDearer 18 = some (.aload_n 0, 1, 0) := m_at_of r_Duties_isDearer (by decide +kernel)
theorem i_Duties_isDearer_19 : m_at k_Duties_isDearer 19 = some (.bipush 51, 2, 0) := m_at_of r_Duties_isDearer (by decide +kernel)
theorem i_Duties_isDearer_21 : m_at k_Duties_isDearer 21 = some (.iload_n 2, 1, 0) := m_at_of r_Duties_isDearer (by decide +kernel)
theorem i_Duties_isDearer_22 : m_at k_Duties_isDearer 22 = some (.invokevirtual 33, 3, 133) := m_at_of r_Duties_isDearer (by decide +kernel)
theorem i_Duties_isDearer_25 : m_at k_Duties_isDearer 25 = some (.imul, 1, 0) := m_at_of r_Duties_isDearer (by decide +kernel)
theorem i_Duties_isDearer_26 : m_at k_Duties_isDearer 26 = some (.if_icmp .le (7), 3, 0) := m_at_of r_Duties_isDearer (by decide +kernel)
theorem i_Duties_isDearer_29 : m_at k_Duties_isDearer 29 = some (.iconst 1, 1, 0) := m_at_of r_Duties_isDearer (by decide +kernel)
theorem i_Duties_isDearer_30 : m_at k_Duties_isDearer 30 = some (.goto (4), 3, 0) := m_at_of r_Duties_isDearer (by decide +kernel)
theorem i_Duties_isDearer_33 : m_at k_Duties_isDearer 33 = some (.iconst 0, 1, 0) := m_at_of r_Duties_isDearer (by decide +kernel)
theorem i_Duties_isDearer_34 : m_at k_Duties_isDearer 34 = some (.ireturn, 1, 0) := m_at_of r_Duties_isDearer (by decide +kernel)
set_option maxRecDepth 20000 in
set_option maxHeartbeats 1000000 in
theorem E_Duties_isDearer (x : m_X) (s : m_H) (r0 : Nat) (r1 : Nat) (n2 : Int32) (n3 : Int32) : m_M x k_Duties_isDearer [.ref r0, .ref r1, .int n2, .int n3] s = m_bI (m_M x k_Row_itemAt [.ref r1, .int n2] s) fun v2 s2 => m_bI (m_M x k_World_at [.ref r0, .int 51, .int n3] s2) fun v9 s9 => m_bI (m_M x k_Row_itemAt [.ref r1, .int n3] s9) fun v15 s15 => m_bI (m_M x k_World_at [.ref r0, .int 51, .int n2] s15) fun v22 s22 => if (v2 * v9) ≤ (v15 * v22) then (some (some (.int 0), s22)) else some (some (.int 1), s22) := by
  refine e_M0 (L0 := [some (.ref r0), some (.ref r1), some (.int n2), some (.int n3)]) rfl (q_Duties_isDearer _) rfl ?_
  refine e_aload_n i_Duties_isDearer_0 rfl ?_
  refine e_iload_n i_Duties_isDearer_1 rfl ?_
  refine e_callI (as := [.ref r1, .int n2]) (st' := []) i_Duties_isDearer_2 lm_197 (Or.inr (Or.inl ⟨rfl, rfl⟩)) w_Row_itemAt rfl rfl rfl (Nat.le_of_ble_eq_true rfl) (Nat.le_of_ble_eq_true rfl) (m_rlt (q_Row_itemAt _) (by decide)) rfl (fun v2 s2 => ?_)
  refine e_aload_n i_Duties_isDearer_5 rfl ?_
  refine e_bipush (v := 51) i_Duties_isDearer_6 (by decide) ?_
  refine e_iload_n i_Duties_isDearer_8 rfl ?_
  refine e_callI (as := [.ref r0, .int 51, .int n3]) (st' := [.int v2]) i_Duties_isDearer_9 lm_133 (Or.inr (Or.inl ⟨rfl, rfl⟩)) w_World_at rfl rfl rfl (Nat.le_of_ble_eq_true rfl) (Nat.le_of_ble_eq_true rfl) (m_rlt (q_World_at _) (by decide)) rfl (fun v9 s9 => ?_)
  refine e_imul i_Duties_isDearer_12 ?_
  refine e_aload_n i_Duties_isDearer_13 rfl ?_
  refine e_iload_n i_Duties_isDearer_14 rfl ?_
  refine e_callI (as := [.ref r1, .int n3]) (st' := [.int (v2 * v9)]) i_Duties_isDearer_15 lm_197 (Or.inr (Or.inl ⟨rfl, rfl⟩)) w_Row_itemAt rfl rfl rfl (Nat.le_of_ble_eq_true rfl) (Nat.le_of_ble_eq_true rfl) (m_rlt (q_Row_itemAt _) (by decide)) rfl (fun v15 s15 => ?_)
  refine e_aload_n i_Duties_isDearer_18 rfl ?_
  refine e_bipush (v := 51) i_Duties_isDearer_19 (by decide) ?_
  refine e_iload_n i_Duties_isDearer_21 rfl ?_
  refine e_callI (as := [.ref r0, .int 51, .int n2]) (st' := [.int v15, .int (v2 * v9)]) i_Duties_isDearer_22 lm_133 (Or.inr (Or.inl ⟨rfl, rfl⟩)) w_World_at rfl rfl rfl (Nat.le_of_ble_eq_true rfl) (Nat.le_of_ble_eq_true rfl) (m_rlt (q_World_at _) (by decide)) rfl (fun v22 s22 => ?_)
  refine e_imul i_Duties_isDearer_25 ?_
  refine e_icmple (t := 33) i_Duties_isDearer_26 (by decide) ?_ ?_
  · refine e_iconst (v := 0) i_Duties_isDearer_33 (by decide) ?_
    exact e_iretZ i_Duties_isDearer_34 rfl (by decide)
  · refine e_iconst (v := 1) i_Duties_isDearer_29 (by decide) ?_
    refine e_goto (t := 34) i_Duties_isDearer_30 (by decide) ?_
    exact e_iretZ i_Duties_isDearer_34 rfl (by decide)
theorem i_Duties_init_0 : m_at k_Duties_init 0 = some (.aload_n 0, 1, 0) := m_at_of r_Duties_init (by decide +kernel)
theorem i_Duties_init_1 : m_at k_Duties_init 1 = some (.invokespecial 3, 3, 439) := m_at_of r_Duties_init (by decide +kernel)
theorem i_Duties_init_4 : m_at k_Duties_init 4 = some (.aload_n 0, 1, 0) := m_at_of r_Duties_init (by decide +kernel)
theorem i_Duties_init_5 : m_at k_Duties_init 5 = some (.new 9, 3, 11) := m_at_of r_Duties_init (by decide +kernel)
theorem i_Duties_init_8 : m_at k_Duties_init 8 = some (.dup, 1, 0) := m_at_of r_Duties_init (by decide +kernel)
theorem i_Duties_init_9 : m_at k_Duties_init 9 = some (.bipush 12, 2, 0) := m_at_of r_Duties_init (by decide +kernel)
theorem i_Duties_init_11 : m_at k_Duties_init 11 = some (.invokespecial 11, 3, 440) := m_at_of r_Duties_init (by decide +kernel)
theorem i_Duties_init_14 : m_at k_Duties_init 14 = some (.putfield 14, 3, 73) := m_at_of r_Duties_init (by decide +kernel)
theorem i_Duties_init_17 : m_at k_Duties_init 17 = some (.return_, 1, 0) := m_at_of r_Duties_init (by decide +kernel)
set_option maxRecDepth 20000 in
set_option maxHeartbeats 1000000 in
theorem E_Duties_init (x : m_X) (s : m_H) (w : Nat) : m_M x k_Duties_init [.ref w] s = if s.length < 900 then (m_bV (m_M x k_Row_init [.ref s.length, .int 12] (s ++ [.inr (4, m_nf 4)])) fun s11 => (m_pf s11 0 0 w (.ref s.length)).bind fun s14 => some (none, s14)) else none := by
  refine e_M2 (L0 := [some (.ref w)]) rfl (q_Duties_init _) rfl ?_
  refine e_aload_n i_Duties_init_0 rfl ?_
  refine e_oinit i_Duties_init_1 lm_439 (Nat.le_of_ble_eq_true rfl) ?_
  refine e_aload_n i_Duties_init_4 rfl ?_
  refine e_new i_Duties_init_5 rfl ?_
  refine e_dup i_Duties_init_8 rfl ?_
  refine e_bipush (v := 12) i_Duties_init_9 (by decide) ?_
  refine e_callV (as := [.ref s.length, .int 12]) (st' := [.ref s.length, .ref w]) i_Duties_init_11 lm_440 (Or.inr (Or.inr ⟨rfl, rfl⟩)) w_Row_init rfl rfl rfl (Nat.le_of_ble_eq_true rfl) (Nat.le_of_ble_eq_true rfl) (m_rlt (q_Row_init _) (by decide)) rfl (fun s11 => ?_)
  refine e_putf i_Duties_init_14 lf_73 ft_0_0 rfl (fun s14 => ?_)
  exact e_vret i_Duties_init_17 rfl
theorem i_Puzzles_oddsOfFrosts_0 : m_at k_Puzzles_oddsOfFrosts 0 = some (.iconst 0, 1, 0) := m_at_of r_Puzzles_oddsOfFrosts (by decide +kernel)
theorem i_Puzzles_oddsOfFrosts_1 : m_at k_Puzzles_oddsOfFrosts 1 = some (.istore 5, 2, 0) := m_at_of r_Puzzles_oddsOfFrosts (by decide +kernel)
theorem i_Puzzles_oddsOfFrosts_3 : m_at k_Puzzles_oddsOfFrosts 3 = some (.iload 5, 2, 0) := m_at_of r_Puzzles_oddsOfFrosts (by decide +kernel)
theorem i_Puzzles_oddsOfFrosts_5 : m_at k_Puzzles_oddsOfFrosts 5 = some (.bipush 8, 2, 0) := m_at_of r_Puzzles_oddsOfFrosts (by decide +kernel)
theorem i_Puzzles_oddsOfFrosts_7 : m_at k_Puzzles_oddsOfFrosts 7 = some (.if_icmp .gt (34), 3, 0) := m_at_of r_Puzzles_oddsOfFrosts (by decide +kernel)
theorem i_Puzzles_oddsOfFrosts_10 : m_at k_Puzzles_oddsOfFrosts 10 = some (.aload_n 0, 1, 0) := m_at_of r_Puzzles_oddsOfFrosts (by decide +kernel)
theorem i_Puzzles_oddsOfFrosts_11 : m_at k_Puzzles_oddsOfFrosts 11 = some (.getfield 18, 3, 46) := m_at_of r_Puzzles_oddsOfFrosts (by decide +kernel)
theorem i_Puzzles_oddsOfFrosts_14 : m_at k_Puzzles_oddsOfFrosts 14 = some (.iload 5, 2, 0) := m_at_of r_Puzzles_oddsOfFrosts (by decide +kernel)
theorem i_Puzzles_oddsOfFrosts_16 : m_at k_Puzzles_oddsOfFrosts 16 = some (.iconst 0, 1, 0) := m_at_of r_Puzzles_oddsOfFrosts (by decide +kernel)
theorem i_Puzzles_oddsOfFrosts_17 : m_at k_Puzzles_oddsOfFrosts 17 = some (.iastore, 1, 0) := m_at_of r_Puzzles_oddsOfFrosts (by decide +kernel)
theorem i_Puzzles_oddsOfFrosts_18 : m_at k_Puzzles_oddsOfFrosts 18 = some (.aload_n 0, 1, 0) := m_at_of r_Puzzles_oddsOfFrosts (by decide +kernel)
theorem i_Puzzles_oddsOfFrosts_19 : m_at k_Puzzles_oddsOfFrosts 19 = some (.getfield 21, 3, 47) := m_at_of r_Puzzles_oddsOfFrosts (by decide +kernel)
theorem i_Puzzles_oddsOfFrosts_22 : m_at k_Puzzles_oddsOfFrosts 22 = some (.iload 5, 2, 0) := m_at_of r_Puzzles_oddsOfFrosts (by decide +kernel)
theorem i_Puzzles_oddsOfFrosts_24 : m_at k_Puzzles_oddsOfFrosts 24 = some (.iload 5, 2, 0) := m_at_of r_Puzzles_oddsOfFrosts (by decide +kernel)
theorem i_Puzzles_oddsOfFrosts_26 : m_at k_Puzzles_oddsOfFrosts 26 = some (.ifCond .ne (7), 3, 0) := m_at_of r_Puzzles_oddsOfFrosts (by decide +kernel)
theorem i_Puzzles_oddsOfFrosts_29 : m_at k_Puzzles_oddsOfFrosts 29 = some (.iconst 1, 1, 0) := m_at_of r_Puzzles_oddsOfFrosts (by decide +kernel)
theorem i_Puzzles_oddsOfFrosts_30 : m_at k_Puzzles_oddsOfFrosts 30 = some (.goto (4), 3, 0) := m_at_of r_Puzzles_oddsOfFrosts (by decide +kernel)
theorem i_Puzzles_oddsOfFrosts_33 : m_at k_Puzzles_oddsOfFrosts 33 = some (.iconst 0, 1, 0) := m_at_of r_Puzzles_oddsOfFrosts (by decide +kernel)
theorem i_Puzzles_oddsOfFrosts_34 : m_at k_Puzzles_oddsOfFrosts 34 = some (.iastore, 1, 0) := m_at_of r_Puzzles_oddsOfFrosts (by decide +kernel)
theorem i_Puzzles_oddsOfFrosts_35 : m_at k_Puzzles_oddsOfFrosts 35 = some (.iinc 5 (1), 3, 0) := m_at_of r_Puzzles_oddsOfFrosts (by decide +kernel)
theorem i_Puzzles_oddsOfFrosts_38 : m_at k_Puzzles_oddsOfFrosts 38 = some (.goto (-35), 3, 0) := m_at_of r_Puzzles_oddsOfFrosts (by decide +kernel)
theorem i_Puzzles_oddsOfFrosts_41 : m_at k_Puzzles_oddsOfFrosts 41 = some (.iconst 1, 1, 0) := m_at_of r_Puzzles_oddsOfFrosts (by decide +kernel)
theorem i_Puzzles_oddsOfFrosts_42 : m_at k_Puzzles_oddsOfFrosts 42 = some (.istore 5, 2, 0) := m_at_of r_Puzzles_oddsOfFrosts (by decide +kernel)
theorem i_Puzzles_oddsOfFrosts_44 : m_at k_Puzzles_oddsOfFrosts 44 = some (.iconst 0, 1, 0) := m_at_of r_Puzzles_oddsOfFrosts (by decide +kernel)
theorem i_Puzzles_oddsOfFrosts_45 : m_at k_Puzzles_oddsOfFrosts 45 = some (.istore 6, 2, 0) := m_at_of r_Puzzles_oddsOfFrosts (by decide +kernel)
theorem i_Puzzles_oddsOfFrosts_47 : m_at k_Puzzles_oddsOfFrosts 47 = some (.iload 6, 2, 0) := m_at_of r_Puzzles_oddsOfFrosts (by decide +kernel)
theorem i_Puzzles_oddsOfFrosts_49 : m_at k_Puzzles_oddsOfFrosts 49 = some (.iload_n 3, 1, 0) := m_at_of r_Puzzles_oddsOfFrosts (by decide +kernel)
theorem i_Puzzles_oddsOfFrosts_50 : m_at k_Puzzles_oddsOfFrosts 50 = some (.if_icmp .ge (106), 3, 0) := m_at_of r_Puzzles_oddsOfFrosts (by decide +kernel)
theorem i_Puzzles_oddsOfFrosts_53 : m_at k_Puzzles_oddsOfFrosts 53 = some (.bipush 8, 2, 0) := m_at_of r_Puzzles_oddsOfFrosts (by decide +kernel)
theorem i_Puzzles_oddsOfFrosts_55 : m_at k_Puzzles_oddsOfFrosts 55 = some (.istore 7, 2, 0) := m_at_of r_Puzzles_oddsOfFrosts (by decide +kernel)
theorem i_Puzzles_oddsOfFrosts_57 : m_at k_Puzzles_oddsOfFrosts 57 = some (.iload 7, 2, 0) := m_at_of r_Puzzles_oddsOfFrosts (by decide +kernel)
theorem i_Puzzles_oddsOfFrosts_59 : m_at k_Puzzles_oddsOfFrosts 59 = some (.ifCond .lt (84), 3, 0) := m_at_of r_Puzzles_oddsOfFrosts (by decide +kernel)
theorem i_Puzzles_oddsOfFrosts_62 : m_at k_Puzzles_oddsOfFrosts 62 = some (.aload_n 0, 1, 0) := m_at_of r_Puzzles_oddsOfFrosts (by decide +kernel)
theorem i_Puzzles_oddsOfFrosts_63 : m_at k_Puzzles_oddsOfFrosts 63 = some (.getfield 18, 3, 46) := m_at_of r_Puzzles_oddsOfFrosts (by decide +kernel)
theorem i_Puzzles_oddsOfFrosts_66 : m_at k_Puzzles_oddsOfFrosts 66 = some (.iload 7, 2, 0) := m_at_of r_Puzzles_oddsOfFrosts (by decide +kernel)
theorem i_Puzzles_oddsOfFrosts_68 : m_at k_Puzzles_oddsOfFrosts 68 = some (.iaload, 1, 0) := m_at_of r_Puzzles_oddsOfFrosts (by decide +kernel)
theorem i_Puzzles_oddsOfFrosts_69 : m_at k_Puzzles_oddsOfFrosts 69 = some (.bipush 10, 2, 0) := m_at_of r_Puzzles_oddsOfFrosts (by decide +kernel)
theorem i_Puzzles_oddsOfFrosts_71 : m_at k_Puzzles_oddsOfFrosts 71 = some (.iload_n 1, 1, 0) := m_at_of r_Puzzles_oddsOfFrosts (by decide +kernel)
theorem i_Puzzles_oddsOfFrosts_72 : m_at k_Puzzles_oddsOfFrosts 72 = some (.isub, 1, 0) := m_at_of r_Puzzles_oddsOfFrosts (by decide +kernel)
theorem i_Puzzles_oddsOfFrosts_73 : m_at k_Puzzles_oddsOfFrosts 73 = some (.imul, 1, 0) := m_at_of r_Puzzles_oddsOfFrosts (by decide +kernel)
theorem i_Puzzles_oddsOfFrosts_74 : m_at k_Puzzles_oddsOfFrosts 74 = some (.aload_n 0, 1, 0) := m_at_of r_Puzzles_oddsOfFrosts (by decide +kernel)
theorem i_Puzzles_oddsOfFrosts_75 : m_at k_Puzzles_oddsOfFrosts 75 = some (.getfield 21, 3, 47) := m_at_of r_Puzzles_oddsOfFrosts (by decide +kernel)
theorem i_Puzzles_oddsOfFrosts_78 : m_at k_Puzzles_oddsOfFrosts 78 = some (.iload 7, 2, 0) := m_at_of r_Puzzles_oddsOfFrosts (by decide +kernel)
theorem i_Puzzles_oddsOfFrosts_80 : m_at k_Puzzles_oddsOfFrosts 80 = some (.iaload, 1, 0) := m_at_of r_Puzzles_oddsOfFrosts (by decide +kernel)
theorem i_Puzzles_oddsOfFrosts_81 : m_at k_Puzzles_oddsOfFrosts 81 = some (.bipush 10, 2, 0) := m_at_of r_Puzzles_oddsOfFrosts (by decide +kernel)
theorem i_Puzzles_oddsOfFrosts_83 : m_at k_Puzzles_oddsOfFrosts 83 = some (.iload_n 2, 1, 0) := m_at_of r_Puzzles_oddsOfFrosts (by decide +kernel)
theorem i_Puzzles_oddsOfFrosts_84 : m_at k_Puzzles_oddsOfFrosts 84 = some (.isub, 1, 0) := m_at_of r_Puzzles_oddsOfFrosts (by decide +kernel)
theorem i_Puzzles_oddsOfFrosts_85 : m_at k_Puzzles_oddsOfFrosts 85 = some (.imul, 1, 0) := m_at_of r_Puzzles_oddsOfFrosts (by decide +kernel)
theorem i_Puzzles_oddsOfFrosts_86 : m_at k_Puzzles_oddsOfFrosts 86 = some (.iadd, 1, 0) := m_at_of r_Puzzles_oddsOfFrosts (by decide +kernel)
theorem i_Puzzles_oddsOfFrosts_87 : m_at k_Puzzles_oddsOfFrosts 87 = some (.istore 8, 2, 0) := m_at_of r_Puzzles_oddsOfFrosts (by decide +kernel)
theorem i_Puzzles_oddsOfFrosts_89 : m_at k_Puzzles_oddsOfFrosts 89 = some (.aload_n 0, 1, 0) := m_at_of r_Puzzles_oddsOfFrosts (by decide +kernel)
theorem i_Puzzles_oddsOfFrosts_90 : m_at k_Puzzles_oddsOfFrosts 90 = some (.getfield 18, 3, 46) := m_at_of r_Puzzles_oddsOfFrosts (by decide +kernel)
theorem i_Puzzles_oddsOfFrosts_93 : m_at k_Puzzles_oddsOfFrosts 93 = some (.iload 7, 2, 0) := m_at_of r_Puzzles_oddsOfFrosts (by decide +kernel)
theorem i_Puzzles_oddsOfFrosts_95 : m_at k_Puzzles_oddsOfFrosts 95 = some (.iload 7, 2, 0) := m_at_of r_Puzzles_oddsOfFrosts (by decide +kernel)
theorem i_Puzzles_oddsOfFrosts_97 : m_at k_Puzzles_oddsOfFrosts 97 = some (.ifCond .ne (7), 3, 0) := m_at_of r_Puzzles_oddsOfFrosts (by decide +kernel)
theorem i_Puzzles_oddsOfFrosts_100 : m_at k_Puzzles_oddsOfFrosts 100 = some (.iconst 0, 1, 0) := m_at_of r_Puzzles_oddsOfFrosts (by decide +kernel)
theorem i_Puzzles_oddsOfFrosts_101 : m_at k_Puzzles_oddsOfFrosts 101 = some (.goto (26), 3, 0) := m_at_of r_Puzzles_oddsOfFrosts (by decide +kernel)
theorem i_Puzzles_oddsOfFrosts_104 : m_at k_Puzzles_oddsOfFrosts 104 = some (.aload_n 0, 1, 0) := m_at_of r_Puzzles_oddsOfFrosts (by decide +kernel)
theorem i_Puzzles_oddsOfFrosts_105 : m_at k_Puzzles_oddsOfFrosts 105 = some (.getfield 18, 3, 46) := m_at_of r_Puzzles_oddsOfFrosts (by decide +kernel)
theorem i_Puzzles_oddsOfFrosts_108 : m_at k_Puzzles_oddsOfFrosts 108 = some (.iload 7, 2, 0) := m_at_of r_Puzzles_oddsOfFrosts (by decide +kernel)
theorem i_Puzzles_oddsOfFrosts_110 : m_at k_Puzzles_oddsOfFrosts 110 = some (.iconst 1, 1, 0) := m_at_of r_Puzzles_oddsOfFrosts (by decide +kernel)
theorem i_Puzzles_oddsOfFrosts_111 : m_at k_Puzzles_oddsOfFrosts 111 = some (.isub, 1, 0) := m_at_of r_Puzzles_oddsOfFrosts (by decide +kernel)
theorem i_Puzzles_oddsOfFrosts_112 : m_at k_Puzzles_oddsOfFrosts 112 = some (.iaload, 1, 0) := m_at_of r_Puzzles_oddsOfFrosts (by decide +kernel)
theorem i_Puzzles_oddsOfFrosts_113 : m_at k_Puzzles_oddsOfFrosts 113 = some (.iload_n 1, 1, 0) := m_at_of r_Puzzles_oddsOfFrosts (by decide +kernel)
theorem i_Puzzles_oddsOfFrosts_114 : m_at k_Puzzles_oddsOfFrosts 114 = some (.imul, 1, 0) := m_at_of r_Puzzles_oddsOfFrosts (by decide +kernel)
theorem i_Puzzles_oddsOfFrosts_115 : m_at k_Puzzles_oddsOfFrosts 115 = some (.aload_n 0, 1, 0) := m_at_of r_Puzzles_oddsOfFrosts (by decide +kernel)
theorem i_Puzzles_oddsOfFrosts_116 : m_at k_Puzzles_oddsOfFrosts 116 = some (.getfield 21, 3, 47) := m_at_of r_Puzzles_oddsOfFrosts (by decide +kernel)
theorem i_Puzzles_oddsOfFrosts_119 : m_at k_Puzzles_oddsOfFrosts 119 = some (.iload 7, 2, 0) := m_at_of r_Puzzles_oddsOfFrosts (by decide +kernel)
theorem i_Puzzles_oddsOfFrosts_121 : m_at k_Puzzles_oddsOfFrosts 121 = some (.iconst 1, 1, 0) := m_at_of r_Puzzles_oddsOfFrosts (by decide +kernel)
theorem i_Puzzles_oddsOfFrosts_122 : m_at k_Puzzles_oddsOfFrosts 122 = some (.isub, 1, 0) := m_at_of r_Puzzles_oddsOfFrosts (by decide +kernel)
theorem i_Puzzles_oddsOfFrosts_123 : m_at k_Puzzles_oddsOfFrosts 123 = some (.iaload, 1, 0) := m_at_of r_Puzzles_oddsOfFrosts (by decide +kernel)
theorem i_Puzzles_oddsOfFrosts_124 : m_at k_Puzzles_oddsOfFrosts 124 = some (.iload_n 2, 1, 0) := m_at_of r_Puzzles_oddsOfFrosts (by decide +kernel)
theorem i_Puzzles_oddsOfFrosts_125 : m_at k_Puzzles_oddsOfFrosts 125 = some (.imul, 1, 0) := m_at_of r_Puzzles_oddsOfFrosts (by decide +kernel)
theorem i_Puzzles_oddsOfFrosts_126 : m_at k_Puzzles_oddsOfFrosts 126 = some (.iadd, 1, 0) := m_at_of r_Puzzles_oddsOfFrosts (by decide +kernel)
theorem i_Puzzles_oddsOfFrosts_127 : m_at k_Puzzles_oddsOfFrosts 127 = some (.iastore, 1, 0) := m_at_of r_Puzzles_oddsOfFrosts (by decide +kernel)
theorem i_Puzzles_oddsOfFrosts_128 : m_at k_Puzzles_oddsOfFrosts 128 = some (.aload_n 0, 1, 0) := m_at_of r_Puzzles_oddsOfFrosts (by decide +kernel)
theorem i_Puzzles_oddsOfFrosts_129 : m_at k_Puzzles_oddsOfFrosts 129 = some (.getfield 21, 3, 47) := m_at_of r_Puzzles_oddsOfFrosts (by decide +kernel)
theorem i_Puzzles_oddsOfFrosts_132 : m_at k_Puzzles_oddsOfFrosts 132 = some (.iload 7, 2, 0) := m_at_of r_Puzzles_oddsOfFrosts (by decide +kernel)
theorem i_Puzzles_oddsOfFrosts_134 : m_at k_Puzzles_oddsOfFrosts 134 = some (.iload 8, 2, 0) := m_at_of r_Puzzles_oddsOfFrosts (by decide +kernel)
theorem i_Puzzles_oddsOfFrosts_136 : m_at k_Puzzles_oddsOfFrosts 136 = some (.iastore, 1, 0) := m_at_of r_Puzzles_oddsOfFrosts (by decide +kernel)
theorem i_Puzzles_oddsOfFrosts_137 : m_at k_Puzzles_oddsOfFrosts 137 = some (.iinc 7 (-1), 3, 0) := m_at_of r_Puzzles_oddsOfFrosts (by decide +kernel)
theorem i_Puzzles_oddsOfFrosts_140 : m_at k_Puzzles_oddsOfFrosts 140 = some (.goto (-83), 3, 0) := m_at_of r_Puzzles_oddsOfFrosts (by decide +kernel)
theorem i_Puzzles_oddsOfFrosts_143 : m_at k_Puzzles_oddsOfFrosts 143 = some (.iload 5, 2, 0) := m_at_of r_Puzzles_oddsOfFrosts (by decide +kernel)
theorem i_Puzzles_oddsOfFrosts_145 : m_at k_Puzzles_oddsOfFrosts 145 = some (.bipush 10, 2, 0) := m_at_of r_Puzzles_oddsOfFrosts (by decide +kernel)
theorem i_Puzzles_oddsOfFrosts_147 : m_at k_Puzzles_oddsOfFrosts 147 = some (.imul, 1, 0) := m_at_of r_Puzzles_oddsOfFrosts (by decide +kernel)
theorem i_Puzzles_oddsOfFrosts_148 : m_at k_Puzzles_oddsOfFrosts 148 = some (.istore 5, 2, 0) := m_at_of r_Puzzles_oddsOfFrosts (by decide +kernel)
theorem i_Puzzles_oddsOfFrosts_150 : m_at k_Puzzles_oddsOfFrosts 150 = some (.iinc 6 (1), 3, 0) := m_at_of r_Puzzles_oddsOfFrosts (by decide +kernel)
theorem i_Puzzles_oddsOfFrosts_153 : m_at k_Puzzles_oddsOfFrosts 153 = some (.goto (-106), 3, 0) := m_at_of r_Puzzles_oddsOfFrosts (by decide +kernel)
theorem i_Puzzles_oddsOfFrosts_156 : m_at k_Puzzles_oddsOfFrosts 156 = some (.iload 4, 2, 0) := m_at_of r_Puzzles_oddsOfFrosts (by decide +kernel)
theorem i_Puzzles_oddsOfFrosts_158 : m_at k_Puzzles_oddsOfFrosts 158 = some (.ifCond .lt (31), 3, 0) := m_at_of r_Puzzles_oddsOfFrosts (by decide +kernel)
theorem i_Puzzles_oddsOfFrosts_161 : m_at k_Puzzles_oddsOfFrosts 161 = some (.iload 4, 2, 0) := m_at_of r_Puzzles_oddsOfFrosts (by decide +kernel)
theorem i_Puzzles_oddsOfFrosts_163 : m_at k_Puzzles_oddsOfFrosts 163 = some (.bipush 8, 2, 0) := m_at_of r_Puzzles_oddsOfFrosts (by decide +kernel)
theorem i_Puzzles_oddsOfFrosts_165 : m_at k_Puzzles_oddsOfFrosts 165 = some (.if_icmp .gt (24), 3, 0) := m_at_of r_Puzzles_oddsOfFrosts (by decide +kernel)
theorem i_Puzzles_oddsOfFrosts_168 : m_at k_Puzzles_oddsOfFrosts 168 = some (.aload_n 0, 1, 0) := m_at_of r_Puzzles_oddsOfFrosts (by decide +kernel)
theorem i_Puzzles_oddsOfFrosts_169 : m_at k_Puzzles_oddsOfFrosts 169 = some (.aload_n 0, 1, 0) := m_at_of r_Puzzles_oddsOfFrosts (by decide +kernel)
theorem i_Puzzles_oddsOfFrosts_170 : m_at k_Puzzles_oddsOfFrosts 170 = some (.getfield 18, 3, 46) := m_at_of r_Puzzles_oddsOfFrosts (by decide +kernel)
theorem i_Puzzles_oddsOfFrosts_173 : m_at k_Puzzles_oddsOfFrosts 173 = some (.iload 4, 2, 0) := m_at_of r_Puzzles_oddsOfFrosts (by decide +kernel)
theorem i_Puzzles_oddsOfFrosts_175 : m_at k_Puzzles_oddsOfFrosts 175 = some (.iaload, 1, 0) := m_at_of r_Puzzles_oddsOfFrosts (by decide +kernel)
theorem i_Puzzles_oddsOfFrosts_176 : m_at k_Puzzles_oddsOfFrosts 176 = some (.aload_n 0, 1, 0) := m_at_of r_Puzzles_oddsOfFrosts (by decide +kernel)
theorem i_Puzzles_oddsOfFrosts_177 : m_at k_Puzzles_oddsOfFrosts 177 = some (.getfield 21, 3, 47) := m_at_of r_Puzzles_oddsOfFrosts (by decide +kernel)
theorem i_Puzzles_oddsOfFrosts_180 : m_at k_Puzzles_oddsOfFrosts 180 = some (.iload 4, 2, 0) := m_at_of r_Puzzles_oddsOfFrosts (by decide +kernel)
theorem i_Puzzles_oddsOfFrosts_182 : m_at k_Puzzles_oddsOfFrosts 182 = some (.iaload, 1, 0) := m_at_of r_Puzzles_oddsOfFrosts (by decide +kernel)
theorem i_Puzzles_oddsOfFrosts_183 : m_at k_Puzzles_oddsOfFrosts 183 = some (.iadd, 1, 0) := m_at_of r_Puzzles_oddsOfFrosts (by decide +kernel)
theorem i_Puzzles_oddsOfFrosts_184 : m_at k_Puzzles_oddsOfFrosts 184 = some (.iload 5, 2, 0) := m_at_of r_Puzzles_oddsOfFrosts (by decide +kernel)
theorem i_Puzzles_oddsOfFrosts_186 : m_at k_Puzzles_oddsOfFrosts 186 = some (.invokevirtual 65, 3, 138) := m_at_of r_Puzzles_oddsOfFrosts (by decide +kernel)
theorem i_Puzzles_oddsOfFrosts_189 : m_at k_Puzzles_oddsOfFrosts 189 = some (.return_, 1, 0) := m_at_of r_Puzzles_oddsOfFrosts (by decide +kernel)
set_option maxRecDepth 20000 in
set_option maxHeartbeats 1000000 in
theorem E_Puzzles_oddsOfFrosts (x : m_X) (s : m_H) (w : Nat) (n1 : Int32) (n2 : Int32) (n3 : Int32) (n4 : Int32) : m_M x k_Puzzles_oddsOfFrosts [.ref w, .int n1, .int n2, .int n3, .int n4] s = if m_isO s w 2 = true then (m_D x 4 k_Puzzles_oddsOfFrosts 3 [some (.ref w), some (.int n1), some (.int n2), some (.int n3), some (.int n4), some (.int 0), none, none, none] [] s) else none := by
  refine e_M1 (L0 := [some (.ref w), some (.int n1), some (.int n2), some (.int n3), some (.int n4), none, none, none, none]) rfl (by decide +kernel) rfl (q_Puzzles_oddsOfFrosts _) rfl ?_
  refine e_iconst (v := 0) i_Puzzles_oddsOfFrosts_0 (by decide) ?_
  refine e_istore (L' := [some (.ref w), some (.int n1), some (.int n2), some (.int n3), some (.int n4), some (.int 0), none, none, none]) i_Puzzles_oddsOfFrosts_1 (of_decide_eq_true rfl) rfl ?_
  exact rfl
set_option maxRecDepth 20000 in
set_option maxHeartbeats 1000000 in
theorem E_Puzzles_oddsOfFrosts_3 (x : m_X) (ρ : Nat) (hρ : 4 ≤ ρ) (s : m_H) (w : Nat) (n1 : Int32) (n2 : Int32) (n3 : Int32) (n4 : Int32) (n5 : Int32)  : m_D x ρ k_Puzzles_oddsOfFrosts 3 [some (.ref w), some (.int n1), some (.int n2), some (.int n3), some (.int n4), some (.int n5), none, none, none] [] s = if 8 < n5 then (m_D x ρ k_Puzzles_oddsOfFrosts 47 [some (.ref w), some (.int n1), some (.int n2), some (.int n3), some (.int n4), some (.int 1), some (.int 0), none, none] [] s) else (m_fR s 2 5 w).bind fun v11 => (m_is s v11 n5 0).bind fun s17 => (m_fR s17 2 6 w).bind fun v19 => if n5 = 0 then ((m_is s17 v19 n5 1).bind fun s34 => m_D x ρ k_Puzzles_oddsOfFrosts 3 [some (.ref w), some (.int n1), some (.int n2), some (.int n3), some (.int n4), some (.int (n5 + (1 : Int32))), none, none, none] [] s34) else (m_is s17 v19 n5 0).bind fun s34 => m_D x ρ k_Puzzles_oddsOfFrosts 3 [some (.ref w), some (.int n1), some (.int n2), some (.int n3), some (.int n4), some (.int (n5 + (1 : Int32))), none, none, none] [] s34 := by
  refine e_iload i_Puzzles_oddsOfFrosts_3 rfl ?_
  refine e_bipush (v := 8) i_Puzzles_oddsOfFrosts_5 (by decide) ?_
  refine e_icmpgt (t := 41) i_Puzzles_oddsOfFrosts_7 (by decide) ?_ ?_
  · refine e_iconst (v := 1) i_Puzzles_oddsOfFrosts_41 (by decide) ?_
    refine e_istore (L' := [some (.ref w), some (.int n1), some (.int n2), some (.int n3), some (.int n4), some (.int 1), none, none, none]) i_Puzzles_oddsOfFrosts_42 (of_decide_eq_true rfl) rfl ?_
    refine e_iconst (v := 0) i_Puzzles_oddsOfFrosts_44 (by decide) ?_
    refine e_istore (L' := [some (.ref w), some (.int n1), some (.int n2), some (.int n3), some (.int n4), some (.int 1), some (.int 0), none, none]) i_Puzzles_oddsOfFrosts_45 (of_decide_eq_true rfl) rfl ?_
    exact rfl
  · refine e_aload_n i_Puzzles_oddsOfFrosts_10 rfl ?_
    refine e_getR i_Puzzles_oddsOfFrosts_11 lf_46 (by decide) ft_2_5 (fun v11 => ?_)
    refine e_iload i_Puzzles_oddsOfFrosts_14 rfl ?_
    refine e_iconst (v := 0) i_Puzzles_oddsOfFrosts_16 (by decide) ?_
    refine e_iast i_Puzzles_oddsOfFrosts_17 (fun s17 => ?_)
    refine e_aload_n i_Puzzles_oddsOfFrosts_18 rfl ?_
    refine e_getR i_Puzzles_oddsOfFrosts_19 lf_47 (by decide) ft_2_6 (fun v19 => ?_)
    refine e_iload i_Puzzles_oddsOfFrosts_22 rfl ?_
    refine e_iload i_Puzzles_oddsOfFrosts_24 rfl ?_
    refine e_ifne (t := 33) i_Puzzles_oddsOfFrosts_26 (by decide) ?_ ?_
    · refine e_iconst (v := 0) i_Puzzles_oddsOfFrosts_33 (by decide) ?_
      refine e_iast i_Puzzles_oddsOfFrosts_34 (fun s34 => ?_)
      refine e_iinc (w := 1) (L' := [some (.ref w), some (.int n1), some (.int n2), some (.int n3), some (.int n4), some (.int (n5 + (1 : Int32))), none, none, none]) i_Puzzles_oddsOfFrosts_35 rfl (of_decide_eq_true rfl) (by decide) rfl ?_
      refine e_goto (t := 3) i_Puzzles_oddsOfFrosts_38 (by decide) ?_
      exact rfl
    · refine e_iconst (v := 1) i_Puzzles_oddsOfFrosts_29 (by decide) ?_
      refine e_goto (t := 34) i_Puzzles_oddsOfFrosts_30 (by decide) ?_
      refine e_iast i_Puzzles_oddsOfFrosts_34 (fun s34 => ?_)
      refine e_iinc (w := 1) (L' := [some (.ref w), some (.int n1), some (.int n2), some (.int n3), some (.int n4), some (.int (n5 + (1 : Int32))), none, none, none]) i_Puzzles_oddsOfFrosts_35 rfl (of_decide_eq_true rfl) (by decide) rfl ?_
      refine e_goto (t := 3) i_Puzzles_oddsOfFrosts_38 (by decide) ?_
      exact rfl
set_option maxRecDepth 20000 in
set_option maxHeartbeats 1000000 in
theorem E_Puzzles_oddsOfFrosts_47 (x : m_X) (ρ : Nat) (hρ : 4 ≤ ρ) (s : m_H) (w : Nat) (n1 : Int32) (n2 : Int32) (n3 : Int32) (n4 : Int32) (n5 : Int32) (n6 : Int32) (d7 : Option Value) (d8 : Option Value) (hd7 : m_nl d7 = true) (hd8 : m_nl d8 = true) : m_D x ρ k_Puzzles_oddsOfFrosts 47 [some (.ref w), some (.int n1), some (.int n2), some (.int n3), some (.int n4), some (.int n5), some (.int n6), d7, d8] [] s = if n3 ≤ n6 then (if n4 < 0 then (some (none, s)) else if 8 < n4 then (some (none, s)) else (m_fR s 2 5 w).bind fun v170 => (m_ia x s v170 n4).bind fun v175 => (m_fR s 2 6 w).bind fun v177 => (m_ia x s v177 n4).bind fun v182 => m_bV (m_M x k_Puzzles_lowestTerms [.ref w, .int (v175 + v182), .int n5] s) fun s186 => some (none, s186)) else m_D x ρ k_Puzzles_oddsOfFrosts 57 [some (.ref w), some (.int n1), some (.int n2), some (.int n3), some (.int n4), some (.int n5), some (.int n6), some (.int 8), d8] [] s := by
  refine e_iload i_Puzzles_oddsOfFrosts_47 rfl ?_
  refine e_iload_n i_Puzzles_oddsOfFrosts_49 rfl ?_
  refine e_icmpge (t := 156) i_Puzzles_oddsOfFrosts_50 (by decide) ?_ ?_
  · refine e_iload i_Puzzles_oddsOfFrosts_156 rfl ?_
    refine e_iflt (t := 189) i_Puzzles_oddsOfFrosts_158 (by decide) ?_ ?_
    · exact e_vret i_Puzzles_oddsOfFrosts_189 rfl
    · refine e_iload i_Puzzles_oddsOfFrosts_161 rfl ?_
      refine e_bipush (v := 8) i_Puzzles_oddsOfFrosts_163 (by decide) ?_
      refine e_icmpgt (t := 189) i_Puzzles_oddsOfFrosts_165 (by decide) ?_ ?_
      · exact e_vret i_Puzzles_oddsOfFrosts_189 rfl
      · refine e_aload_n i_Puzzles_oddsOfFrosts_168 rfl ?_
        refine e_aload_n i_Puzzles_oddsOfFrosts_169 rfl ?_
        refine e_getR i_Puzzles_oddsOfFrosts_170 lf_46 (by decide) ft_2_5 (fun v170 => ?_)
        refine e_iload i_Puzzles_oddsOfFrosts_173 rfl ?_
        refine e_iald i_Puzzles_oddsOfFrosts_175 (fun v175 => ?_)
        refine e_aload_n i_Puzzles_oddsOfFrosts_176 rfl ?_
        refine e_getR i_Puzzles_oddsOfFrosts_177 lf_47 (by decide) ft_2_6 (fun v177 => ?_)
        refine e_iload i_Puzzles_oddsOfFrosts_180 rfl ?_
        refine e_iald i_Puzzles_oddsOfFrosts_182 (fun v182 => ?_)
        refine e_iadd i_Puzzles_oddsOfFrosts_183 ?_
        refine e_iload i_Puzzles_oddsOfFrosts_184 rfl ?_
        refine e_callV (as := [.ref w, .int (v175 + v182), .int n5]) (st' := []) i_Puzzles_oddsOfFrosts_186 lm_138 (Or.inr (Or.inl ⟨rfl, rfl⟩)) w_Puzzles_lowestTerms rfl rfl rfl (Nat.le_of_ble_eq_true rfl) (Nat.le_of_ble_eq_true rfl) (m_rlt (q_Puzzles_lowestTerms _) (Nat.lt_of_lt_of_le (by decide) hρ)) rfl (fun s186 => ?_)
        exact e_vret i_Puzzles_oddsOfFrosts_189 rfl
  · refine e_bipush (v := 8) i_Puzzles_oddsOfFrosts_53 (by decide) ?_
    refine e_istore (L' := [some (.ref w), some (.int n1), some (.int n2), some (.int n3), some (.int n4), some (.int n5), some (.int n6), some (.int 8), d8]) i_Puzzles_oddsOfFrosts_55 (of_decide_eq_true rfl) rfl ?_
    exact rfl
set_option maxRecDepth 20000 in
set_option maxHeartbeats 1000000 in
theorem E_Puzzles_oddsOfFrosts_57 (x : m_X) (ρ : Nat) (hρ : 4 ≤ ρ) (s : m_H) (w : Nat) (n1 : Int32) (n2 : Int32) (n3 : Int32) (n4 : Int32) (n5 : Int32) (n6 : Int32) (n7 : Int32) (d8 : Option Value) (hd8 : m_nl d8 = true) : m_D x ρ k_Puzzles_oddsOfFrosts 57 [some (.ref w), some (.int n1), some (.int n2), some (.int n3), some (.int n4), some (.int n5), some (.int n6), some (.int n7), d8] [] s = if n7 < 0 then (m_D x ρ k_Puzzles_oddsOfFrosts 47 [some (.ref w), some (.int n1), some (.int n2), some (.int n3), some (.int n4), some (.int (n5 * (10 : Int32))), some (.int (n6 + (1 : Int32))), some (.int n7), d8] [] s) else (m_fR s 2 5 w).bind fun v63 => (m_ia x s v63 n7).bind fun v68 => (m_fR s 2 6 w).bind fun v75 => (m_ia x s v75 n7).bind fun v80 => (m_fR s 2 5 w).bind fun v90 => if n7 = 0 then ((m_is s v90 n7 0).bind fun s127 => (m_fR s127 2 6 w).bind fun v129 => (m_is s127 v129 n7 ((v68 * ((10 : Int32) - n1)) + (v80 * ((10 : Int32) - n2)))).bind fun s136 => m_D x ρ k_Puzzles_oddsOfFrosts 57 [some (.ref w), some (.int n1), some (.int n2), some (.int n3), some (.int n4), some (.int n5), some (.int n6), some (.int (n7 + (-1 : Int32))), some (.int ((v68 * ((10 : Int32) - n1)) + (v80 * ((10 : Int32) - n2))))] [] s136) else (m_fR s 2 5 w).bind fun v105 => (m_ia x s v105 (n7 - (1 : Int32))).bind fun v112 => (m_fR s 2 6 w).bind fun v116 => (m_ia x s v116 (n7 - (1 : Int32))).bind fun v123 => (m_is s v90 n7 ((v112 * n1) + (v123 * n2))).bind fun s127 => (m_fR s127 2 6 w).bind fun v129 => (m_is s127 v129 n7 ((v68 * ((10 : Int32) - n1)) + (v80 * ((10 : Int32) - n2)))).bind fun s136 => m_D x ρ k_Puzzles_oddsOfFrosts 57 [some (.ref w), some (.int n1), some (.int n2), some (.int n3), some (.int n4), some (.int n5), some (.int n6), some (.int (n7 + (-1 : Int32))), some (.int ((v68 * ((10 : Int32) - n1)) + (v80 * ((10 : Int32) - n2))))] [] s136 := by
  refine e_iload i_Puzzles_oddsOfFrosts_57 rfl ?_
  refine e_iflt (t := 143) i_Puzzles_oddsOfFrosts_59 (by decide) ?_ ?_
  · refine e_iload i_Puzzles_oddsOfFrosts_143 rfl ?_
    refine e_bipush (v := 10) i_Puzzles_oddsOfFrosts_145 (by decide) ?_
    refine e_imul i_Puzzles_oddsOfFrosts_147 ?_
    refine e_istore (L' := [some (.ref w), some (.int n1), some (.int n2), some (.int n3), some (.int n4), some (.int (n5 * (10 : Int32))), some (.int n6), some (.int n7), d8]) i_Puzzles_oddsOfFrosts_148 (of_decide_eq_true rfl) rfl ?_
    refine e_iinc (w := 1) (L' := [some (.ref w), some (.int n1), some (.int n2), some (.int n3), some (.int n4), some (.int (n5 * (10 : Int32))), some (.int (n6 + (1 : Int32))), some (.int n7), d8]) i_Puzzles_oddsOfFrosts_150 rfl (of_decide_eq_true rfl) (by decide) rfl ?_
    refine e_goto (t := 47) i_Puzzles_oddsOfFrosts_153 (by decide) ?_
    exact rfl
  · refine e_aload_n i_Puzzles_oddsOfFrosts_62 rfl ?_
    refine e_getR i_Puzzles_oddsOfFrosts_63 lf_46 (by decide) ft_2_5 (fun v63 => ?_)
    refine e_iload i_Puzzles_oddsOfFrosts_66 rfl ?_
    refine e_iald i_Puzzles_oddsOfFrosts_68 (fun v68 => ?_)
    refine e_bipush (v := 10) i_Puzzles_oddsOfFrosts_69 (by decide) ?_
    refine e_iload_n i_Puzzles_oddsOfFrosts_71 rfl ?_
    refine e_isub i_Puzzles_oddsOfFrosts_72 ?_
    refine e_imul i_Puzzles_oddsOfFrosts_73 ?_
    refine e_aload_n i_Puzzles_oddsOfFrosts_74 rfl ?_
    refine e_getR i_Puzzles_oddsOfFrosts_75 lf_47 (by decide) ft_2_6 (fun v75 => ?_)
    refine e_iload i_Puzzles_oddsOfFrosts_78 rfl ?_
    refine e_iald i_Puzzles_oddsOfFrosts_80 (fun v80 => ?_)
    refine e_bipush (v := 10) i_Puzzles_oddsOfFrosts_81 (by decide) ?_
    refine e_iload_n i_Puzzles_oddsOfFrosts_83 rfl ?_
    refine e_isub i_Puzzles_oddsOfFrosts_84 ?_
    refine e_imul i_Puzzles_oddsOfFrosts_85 ?_
    refine e_iadd i_Puzzles_oddsOfFrosts_86 ?_
    refine e_istore (L' := [some (.ref w), some (.int n1), some (.int n2), some (.int n3), some (.int n4), some (.int n5), some (.int n6), some (.int n7), some (.int ((v68 * ((10 : Int32) - n1)) + (v80 * ((10 : Int32) - n2))))]) i_Puzzles_oddsOfFrosts_87 (of_decide_eq_true rfl) rfl ?_
    refine e_aload_n i_Puzzles_oddsOfFrosts_89 rfl ?_
    refine e_getR i_Puzzles_oddsOfFrosts_90 lf_46 (by decide) ft_2_5 (fun v90 => ?_)
    refine e_iload i_Puzzles_oddsOfFrosts_93 rfl ?_
    refine e_iload i_Puzzles_oddsOfFrosts_95 rfl ?_
    refine e_ifne (t := 104) i_Puzzles_oddsOfFrosts_97 (by decide) ?_ ?_
    · refine e_aload_n i_Puzzles_oddsOfFrosts_104 rfl ?_
      refine e_getR i_Puzzles_oddsOfFrosts_105 lf_46 (by decide) ft_2_5 (fun v105 => ?_)
      refine e_iload i_Puzzles_oddsOfFrosts_108 rfl ?_
      refine e_iconst (v := 1) i_Puzzles_oddsOfFrosts_110 (by decide) ?_
      refine e_isub i_Puzzles_oddsOfFrosts_111 ?_
      refine e_iald i_Puzzles_oddsOfFrosts_112 (fun v112 => ?_)
      refine e_iload_n i_Puzzles_oddsOfFrosts_113 rfl ?_
      refine e_imul i_Puzzles_oddsOfFrosts_114 ?_
      refine e_aload_n i_Puzzles_oddsOfFrosts_115 rfl ?_
      refine e_getR i_Puzzles_oddsOfFrosts_116 lf_47 (by decide) ft_2_6 (fun v116 => ?_)
      refine e_iload i_Puzzles_oddsOfFrosts_119 rfl ?_
      refine e_iconst (v := 1) i_Puzzles_oddsOfFrosts_121 (by decide) ?_
      refine e_isub i_Puzzles_oddsOfFrosts_122 ?_
      refine e_iald i_Puzzles_oddsOfFrosts_123 (fun v123 => ?_)
      refine e_iload_n i_Puzzles_oddsOfFrosts_124 rfl ?_
      refine e_imul i_Puzzles_oddsOfFrosts_125 ?_
      refine e_iadd i_Puzzles_oddsOfFrosts_126 ?_
      refine e_iast i_Puzzles_oddsOfFrosts_127 (fun s127 => ?_)
      refine e_aload_n i_Puzzles_oddsOfFrosts_128 rfl ?_
      refine e_getR i_Puzzles_oddsOfFrosts_129 lf_47 (by decide) ft_2_6 (fun v129 => ?_)
      refine e_iload i_Puzzles_oddsOfFrosts_132 rfl ?_
      refine e_iload i_Puzzles_oddsOfFrosts_134 rfl ?_
      refine e_iast i_Puzzles_oddsOfFrosts_136 (fun s136 => ?_)
      refine e_iinc (w := (-1)) (L' := [some (.ref w), some (.int n1), some (.int n2), some (.int n3), some (.int n4), some (.int n5), some (.int n6), some (.int (n7 + (-1 : Int32))), some (.int ((v68 * ((10 : Int32) - n1)) + (v80 * ((10 : Int32) - n2))))]) i_Puzzles_oddsOfFrosts_137 rfl (of_decide_eq_true rfl) (by decide) rfl ?_
      refine e_goto (t := 57) i_Puzzles_oddsOfFrosts_140 (by decide) ?_
      exact rfl
    · refine e_iconst (v := 0) i_Puzzles_oddsOfFrosts_100 (by decide) ?_
      refine e_goto (t := 127) i_Puzzles_oddsOfFrosts_101 (by decide) ?_
      refine e_iast i_Puzzles_oddsOfFrosts_127 (fun s127 => ?_)
      refine e_aload_n i_Puzzles_oddsOfFrosts_128 rfl ?_
      refine e_getR i_Puzzles_oddsOfFrosts_129 lf_47 (by decide) ft_2_6 (fun v129 => ?_)
      refine e_iload i_Puzzles_oddsOfFrosts_132 rfl ?_
      refine e_iload i_Puzzles_oddsOfFrosts_134 rfl ?_
      refine e_iast i_Puzzles_oddsOfFrosts_136 (fun s136 => ?_)
      refine e_iinc (w := (-1)) (L' := [some (.ref w), some (.int n1), some (.int n2), some (.int n3), some (.int n4), some (.int n5), some (.int n6), some (.int (n7 + (-1 : Int32))), some (.int ((v68 * ((10 : Int32) - n1)) + (v80 * ((10 : Int32) - n2))))]) i_Puzzles_oddsOfFrosts_137 rfl (of_decide_eq_true rfl) (by decide) rfl ?_
      refine e_goto (t := 57) i_Puzzles_oddsOfFrosts_140 (by decide) ?_
      exact rfl
theorem i_Puzzles_sureOwner_0 : m_at k_Puzzles_sureOwner 0 = some (.aload_n 0, 1, 0) := m_at_of r_Puzzles_sureOwner (by decide +kernel)
theorem i_Puzzles_sureOwner_1 : m_at k_Puzzles_sureOwner 1 = some (.aload_n 1, 1, 0) := m_at_of r_Puzzles_sureOwner (by decide +kernel)
theorem i_Puzzles_sureOwner_2 : m_at k_Puzzles_sureOwner 2 = some (.aload_n 2, 1, 0) := m_at_of r_Puzzles_sureOwner (by decide +kernel)
theorem i_Puzzles_sureOwner_3 : m_at k_Puzzles_sureOwner 3 = some (.iconst (-1), 1, 0) := m_at_of r_Puzzles_sureOwner (by decide +kernel)
theorem i_Puzzles_sureOwner_4 : m_at k_Puzzles_sureOwner 4 = some (.iconst (-1), 1, 0) := m_at_of r_Puzzles_sureOwner (by decide +kernel)
theorem i_Puzzles_sureOwner_5 : m_at k_Puzzles_sureOwner 5 = some (.invokevirtual 90, 3, 144) := m_at_of r_Puzzles_sureOwner (by decide +kernel)
theorem i_Puzzles_sureOwner_8 : m_at k_Puzzles_sureOwner 8 = some (.istore 4, 2, 0) := m_at_of r_Puzzles_sureOwner (by decide +kernel)
theorem i_Puzzles_sureOwner_10 : m_at k_Puzzles_sureOwner 10 = some (.iconst 0, 1, 0) := m_at_of r_Puzzles_sureOwner (by decide +kernel)
theorem i_Puzzles_sureOwner_11 : m_at k_Puzzles_sureOwner 11 = some (.istore 5, 2, 0) := m_at_of r_Puzzles_sureOwner (by decide +kernel)
theorem i_Puzzles_sureOwner_13 : m_at k_Puzzles_sureOwner 13 = some (.iload 5, 2, 0) := m_at_of r_Puzzles_sureOwner (by decide +kernel)
theorem i_Puzzles_sureOwner_15 : m_at k_Puzzles_sureOwner 15 = some (.aload_n 1, 1, 0) := m_at_of r_Puzzles_sureOwner (by decide +kernel)
theorem i_Puzzles_sureOwner_16 : m_at k_Puzzles_sureOwner 16 = some (.getfield 94, 3, 49) := m_at_of r_Puzzles_sureOwner (by decide +kernel)
theorem i_Puzzles_sureOwner_19 : m_at k_Puzzles_sureOwner 19 = some (.iconst 0, 1, 0) := m_at_of r_Puzzles_sureOwner (by decide +kernel)
theorem i_Puzzles_sureOwner_20 : m_at k_Puzzles_sureOwner 20 = some (.iaload, 1, 0) := m_at_of r_Puzzles_sureOwner (by decide +kernel)
theorem i_Puzzles_sureOwner_21 : m_at k_Puzzles_sureOwner 21 = some (.if_icmp .ge (31), 3, 0) := m_at_of r_Puzzles_sureOwner (by decide +kernel)
theorem i_Puzzles_sureOwner_24 : m_at k_Puzzles_sureOwner 24 = some (.iload 4, 2, 0) := m_at_of r_Puzzles_sureOwner (by decide +kernel)
theorem i_Puzzles_sureOwner_26 : m_at k_Puzzles_sureOwner 26 = some (.ifCond .le (26), 3, 0) := m_at_of r_Puzzles_sureOwner (by decide +kernel)
theorem i_Puzzles_sureOwner_29 : m_at k_Puzzles_sureOwner 29 = some (.aload_n 0, 1, 0) := m_at_of r_Puzzles_sureOwner (by decide +kernel)
theorem i_Puzzles_sureOwner_30 : m_at k_Puzzles_sureOwner 30 = some (.aload_n 1, 1, 0) := m_at_of r_Puzzles_sureOwner (by decide +kernel)
theorem i_Puzzles_sureOwner_31 : m_at k_Puzzles_sureOwner 31 = some (.aload_n 2, 1, 0) := m_at_of r_Puzzles_sureOwner (by decide +kernel)
theorem i_Puzzles_sureOwner_32 : m_at k_Puzzles_sureOwner 32 = some (.iload_n 3, 1, 0) := m_at_of r_Puzzles_sureOwner (by decide +kernel)
theorem i_Puzzles_sureOwner_33 : m_at k_Puzzles_sureOwner 33 = some (.iload 5, 2, 0) := m_at_of r_Puzzles_sureOwner (by decide +kernel)
theorem i_Puzzles_sureOwner_35 : m_at k_Puzzles_sureOwner 35 = some (.invokevirtual 90, 3, 144) := m_at_of r_Puzzles_sureOwner (by decide +kernel)
theorem i_Puzzles_sureOwner_38 : m_at k_Puzzles_sureOwner 38 = some (.iload 4, 2, 0) := m_at_of r_Puzzles_sureOwner (by decide +kernel)
theorem i_Puzzles_sureOwner_40 : m_at k_Puzzles_sureOwner 40 = some (.if_icmp .ne (6), 3, 0) := m_at_of r_Puzzles_sureOwner (by decide +kernel)
theorem i_Puzzles_sureOwner_43 : m_at k_Puzzles_sureOwner 43 = some (.iload 5, 2, 0) := m_at_of r_Puzzles_sureOwner (by decide +kernel)
theorem i_Puzzles_sureOwner_45 : m_at k_Puzzles_sureOwner 45 = some (.ireturn, 1, 0) := m_at_of r_Puzzles_sureOwner (by decide +kernel)
theorem i_Puzzles_sureOwner_46 : m_at k_Puzzles_sureOwner 46 = some (.iinc 5 (1), 3, 0) := m_at_of r_Puzzles_sureOwner (by decide +kernel)
theorem i_Puzzles_sureOwner_49 : m_at k_Puzzles_sureOwner 49 = some (.goto (-36), 3, 0) := m_at_of r_Puzzles_sureOwner (by decide +kernel)
theorem i_Puzzles_sureOwner_52 : m_at k_Puzzles_sureOwner 52 = some (.iconst (-1), 1, 0) := m_at_of r_Puzzles_sureOwner (by decide +kernel)
theorem i_Puzzles_sureOwner_53 : m_at k_Puzzles_sureOwner 53 = some (.ireturn, 1, 0) := m_at_of r_Puzzles_sureOwner (by decide +kernel)
set_option maxRecDepth 20000 in
set_option maxHeartbeats 1000000 in
theorem E_Puzzles_sureOwner (x : m_X) (s : m_H) (w : Nat) (r1 : Nat) (r2 : Nat) (n3 : Int32) : m_M x k_Puzzles_sureOwner [.ref w, .ref r1, .ref r2, .int n3] s = if m_isO s w 2 = true then (m_bI (m_M x k_Puzzles_waysOf [.ref w, .ref r1, .ref r2, .int (-1), .int (-1)] s) fun v5 s5 => m_D x 6 k_Puzzles_sureOwner 13 [some (.ref w), some (.ref r1), some (.ref r2), some (.int n3), some (.int v5), some (.int 0)] [] s5) else none := by
  refine e_M1 (L0 := [some (.ref w), some (.ref r1), some (.ref r2), some (.int n3), none, none]) rfl (by decide +kernel) rfl (q_Puzzles_sureOwner _) rfl ?_
  refine e_aload_n i_Puzzles_sureOwner_0 rfl ?_
  refine e_aload_n i_Puzzles_sureOwner_1 rfl ?_
  refine e_aload_n i_Puzzles_sureOwner_2 rfl ?_
  refine e_iconst (v := (-1)) i_Puzzles_sureOwner_3 (by decide) ?_
  refine e_iconst (v := (-1)) i_Puzzles_sureOwner_4 (by decide) ?_
  refine e_callI (as := [.ref w, .ref r1, .ref r2, .int (-1), .int (-1)]) (st' := []) i_Puzzles_sureOwner_5 lm_144 (Or.inr (Or.inl ⟨rfl, rfl⟩)) w_Puzzles_waysOf rfl rfl rfl (Nat.le_of_ble_eq_true rfl) (Nat.le_of_ble_eq_true rfl) (m_rlt (q_Puzzles_waysOf _) (by decide)) rfl (fun v5 s5 => ?_)
  refine e_istore (L' := [some (.ref w), some (.ref r1), some (.ref r2), some (.int n3), some (.int v5), none]) i_Puzzles_sureOwner_8 (of_decide_eq_true rfl) rfl ?_
  refine e_iconst (v := 0) i_Puzzles_sureOwner_10 (by decide) ?_
  refine e_istore (L' := [some (.ref w), some (.ref r1), some (.ref r2), some (.int n3), some (.int v5), some (.int 0)]) i_Puzzles_sureOwner_11 (of_decide_eq_true rfl) rfl ?_
  exact rfl
set_option maxRecDepth 20000 in
set_option maxHeartbeats 1000000 in
theorem E_Puzzles_sureOwner_13 (x : m_X) (ρ : Nat) (hρ : 6 ≤ ρ) (s : m_H) (w : Nat) (r1 : Nat) (r2 : Nat) (n3 : Int32) (n4 : Int32) (n5 : Int32)  : m_D x ρ k_Puzzles_sureOwner 13 [some (.ref w), some (.ref r1), some (.ref r2), some (.int n3), some (.int n4), some (.int n5)] [] s = (m_fR s 9 0 r1).bind fun v16 => (m_ia x s v16 0).bind fun v20 => if v20 ≤ n5 then (some (some (.int (-1)), s)) else if n4 ≤ 0 then (some (some (.int (-1)), s)) else m_bI (m_M x k_Puzzles_waysOf [.ref w, .ref r1, .ref r2, .int n3, .int n5] s) fun v35 s35 => if v35 = n4 then (some (some (.int n5), s35)) else m_D x ρ k_Puzzles_sureOwner 13 [some (.ref w), some (.ref r1), some (.ref r2), some (.int n3), some (.int n4), some (.int (n5 + (1 : Int32)))] [] s35 := by
  refine e_iload i_Puzzles_sureOwner_13 rfl ?_
  refine e_aload_n i_Puzzles_sureOwner_15 rfl ?_
  refine e_getR i_Puzzles_sureOwner_16 lf_49 (by decide) ft_9_0 (fun v16 => ?_)
  refine e_iconst (v := 0) i_Puzzles_sureOwner_19 (by decide) ?_
  refine e_iald i_Puzzles_sureOwner_20 (fun v20 => ?_)
  refine e_icmpge (t := 52) i_Puzzles_sureOwner_21 (by decide) ?_ ?_
  · refine e_iconst (v := (-1)) i_Puzzles_sureOwner_52 (by decide) ?_
    exact e_iretI i_Puzzles_sureOwner_53 rfl
  · refine e_iload i_Puzzles_sureOwner_24 rfl ?_
    refine e_ifle (t := 52) i_Puzzles_sureOwner_26 (by decide) ?_ ?_
    · refine e_iconst (v := (-1)) i_Puzzles_sureOwner_52 (by decide) ?_
      exact e_iretI i_Puzzles_sureOwner_53 rfl
    · refine e_aload_n i_Puzzles_sureOwner_29 rfl ?_
      refine e_aload_n i_Puzzles_sureOwner_30 rfl ?_
      refine e_aload_n i_Puzzles_sureOwner_31 rfl ?_
      refine e_iload_n i_Puzzles_sureOwner_32 rfl ?_
      refine e_iload i_Puzzles_sureOwner_33 rfl ?_
      refine e_callI (as := [.ref w, .ref r1, .ref r2, .int n3, .int n5]) (st' := []) i_Puzzles_sureOwner_35 lm_144 (Or.inr (Or.inl ⟨rfl, rfl⟩)) w_Puzzles_waysOf rfl rfl rfl (Nat.le_of_ble_eq_true rfl) (Nat.le_of_ble_eq_true rfl) (m_rlt (q_Puzzles_waysOf _) (Nat.lt_of_lt_of_le (by decide) hρ)) rfl (fun v35 s35 => ?_)
      refine e_iload i_Puzzles_sureOwner_38 rfl ?_
      refine e_icmpne (t := 46) i_Puzzles_sureOwner_40 (by decide) ?_ ?_
      · refine e_iinc (w := 1) (L' := [some (.ref w), some (.ref r1), some (.ref r2), some (.int n3), some (.int n4), some (.int (n5 + (1 : Int32)))]) i_Puzzles_sureOwner_46 rfl (of_decide_eq_true rfl) (by decide) rfl ?_
        refine e_goto (t := 13) i_Puzzles_sureOwner_49 (by decide) ?_
        exact rfl
      · refine e_iload i_Puzzles_sureOwner_43 rfl ?_
        exact e_iretI i_Puzzles_sureOwner_45 rfl
theorem i_Puzzles_waysOf_0 : m_at k_Puzzles_waysOf 0 = some (.aload_n 2, 1, 0) := m_at_of r_Puzzles_waysOf (by decide +kernel)
theorem i_Puzzles_waysOf_1 : m_at k_Puzzles_waysOf 1 = some (.getfield 72, 3, 50) := m_at_of r_Puzzles_waysOf (by decide +kernel)
theorem i_Puzzles_waysOf_4 : m_at k_Puzzles_waysOf 4 = some (.getfield 38, 3, 51) := m_at_of r_Puzzles_waysOf (by decide +kernel)
theorem i_Puzzles_waysOf_7 : m_at k_Puzzles_waysOf 7 = some (.istore 5, 2, 0) := m_at_of r_Puzzles_waysOf (by decide +kernel)
theorem i_Puzzles_waysOf_9 : m_at k_Puzzles_waysOf 9 = some (.iconst 0, 1, 0) := m_at_of r_Puzzles_waysOf (by decide +kernel)
theorem i_Puzzles_waysOf_10 : m_at k_Puzzles_waysOf 10 = some (.istore 6, 2, 0) := m_at_of r_Puzzles_waysOf (by decide +kernel)
theorem i_Puzzles_waysOf_12 : m_at k_Puzzles_waysOf 12 = some (.iconst 0, 1, 0) := m_at_of r_Puzzles_waysOf (by decide +kernel)
theorem i_Puzzles_waysOf_13 : m_at k_Puzzles_waysOf 13 = some (.istore 7, 2, 0) := m_at_of r_Puzzles_waysOf (by decide +kernel)
theorem i_Puzzles_waysOf_15 : m_at k_Puzzles_waysOf 15 = some (.iload 7, 2, 0) := m_at_of r_Puzzles_waysOf (by decide +kernel)
theorem i_Puzzles_waysOf_17 : m_at k_Puzzles_waysOf 17 = some (.sipush 128, 3, 0) := m_at_of r_Puzzles_waysOf (by decide +kernel)
theorem i_Puzzles_waysOf_20 : m_at k_Puzzles_waysOf 20 = some (.if_icmp .ge (26), 3, 0) := m_at_of r_Puzzles_waysOf (by decide +kernel)
theorem i_Puzzles_waysOf_23 : m_at k_Puzzles_waysOf 23 = some (.aload_n 0, 1, 0) := m_at_of r_Puzzles_waysOf (by decide +kernel)
theorem i_Puzzles_waysOf_24 : m_at k_Puzzles_waysOf 24 = some (.getfield 15, 3, 52) := m_at_of r_Puzzles_waysOf (by decide +kernel)
theorem i_Puzzles_waysOf_27 : m_at k_Puzzles_waysOf 27 = some (.iload 7, 2, 0) := m_at_of r_Puzzles_waysOf (by decide +kernel)
theorem i_Puzzles_waysOf_29 : m_at k_Puzzles_waysOf 29 = some (.iload 7, 2, 0) := m_at_of r_Puzzles_waysOf (by decide +kernel)
theorem i_Puzzles_waysOf_31 : m_at k_Puzzles_waysOf 31 = some (.ifCond .ne (7), 3, 0) := m_at_of r_Puzzles_waysOf (by decide +kernel)
theorem i_Puzzles_waysOf_34 : m_at k_Puzzles_waysOf 34 = some (.iconst 1, 1, 0) := m_at_of r_Puzzles_waysOf (by decide +kernel)
theorem i_Puzzles_waysOf_35 : m_at k_Puzzles_waysOf 35 = some (.goto (4), 3, 0) := m_at_of r_Puzzles_waysOf (by decide +kernel)
theorem i_Puzzles_waysOf_38 : m_at k_Puzzles_waysOf 38 = some (.iconst 0, 1, 0) := m_at_of r_Puzzles_waysOf (by decide +kernel)
theorem i_Puzzles_waysOf_39 : m_at k_Puzzles_waysOf 39 = some (.iastore, 1, 0) := m_at_of r_Puzzles_waysOf (by decide +kernel)
theorem i_Puzzles_waysOf_40 : m_at k_Puzzles_waysOf 40 = some (.iinc 7 (1), 3, 0) := m_at_of r_Puzzles_waysOf (by decide +kernel)
theorem i_Puzzles_waysOf_43 : m_at k_Puzzles_waysOf 43 = some (.goto (-28), 3, 0) := m_at_of r_Puzzles_waysOf (by decide +kernel)
theorem i_Puzzles_waysOf_46 : m_at k_Puzzles_waysOf 46 = some (.iconst 0, 1, 0) := m_at_of r_Puzzles_waysOf (by decide +kernel)
theorem i_Puzzles_waysOf_47 : m_at k_Puzzles_waysOf 47 = some (.istore 7, 2, 0) := m_at_of r_Puzzles_waysOf (by decide +kernel)
theorem i_Puzzles_waysOf_49 : m_at k_Puzzles_waysOf 49 = some (.iload 7, 2, 0) := m_at_of r_Puzzles_waysOf (by decide +kernel)
theorem i_Puzzles_waysOf_51 : m_at k_Puzzles_waysOf 51 = some (.sipush 128, 3, 0) := m_at_of r_Puzzles_waysOf (by decide +kernel)
theorem i_Puzzles_waysOf_54 : m_at k_Puzzles_waysOf 54 = some (.if_icmp .ge (75), 3, 0) := m_at_of r_Puzzles_waysOf (by decide +kernel)
theorem i_Puzzles_waysOf_57 : m_at k_Puzzles_waysOf 57 = some (.iload 7, 2, 0) := m_at_of r_Puzzles_waysOf (by decide +kernel)
theorem i_Puzzles_waysOf_59 : m_at k_Puzzles_waysOf 59 = some (.invokestatic 32, 3, 145) := m_at_of r_Puzzles_waysOf (by decide +kernel)
theorem i_Puzzles_waysOf_62 : m_at k_Puzzles_waysOf 62 = some (.istore 8, 2, 0) := m_at_of r_Puzzles_waysOf (by decide +kernel)
theorem i_Puzzles_waysOf_64 : m_at k_Puzzles_waysOf 64 = some (.iload 8, 2, 0) := m_at_of r_Puzzles_waysOf (by decide +kernel)
theorem i_Puzzles_waysOf_66 : m_at k_Puzzles_waysOf 66 = some (.iload 5, 2, 0) := m_at_of r_Puzzles_waysOf (by decide +kernel)
theorem i_Puzzles_waysOf_68 : m_at k_Puzzles_waysOf 68 = some (.if_icmp .ne (18), 3, 0) := m_at_of r_Puzzles_waysOf (by decide +kernel)
theorem i_Puzzles_waysOf_71 : m_at k_Puzzles_waysOf 71 = some (.iload 6, 2, 0) := m_at_of r_Puzzles_waysOf (by decide +kernel)
theorem i_Puzzles_waysOf_73 : m_at k_Puzzles_waysOf 73 = some (.aload_n 0, 1, 0) := m_at_of r_Puzzles_waysOf (by decide +kernel)
theorem i_Puzzles_waysOf_74 : m_at k_Puzzles_waysOf 74 = some (.getfield 15, 3, 52) := m_at_of r_Puzzles_waysOf (by decide +kernel)
theorem i_Puzzles_waysOf_77 : m_at k_Puzzles_waysOf 77 = some (.iload 7, 2, 0) := m_at_of r_Puzzles_waysOf (by decide +kernel)
theorem i_Puzzles_waysOf_79 : m_at k_Puzzles_waysOf 79 = some (.iaload, 1, 0) := m_at_of r_Puzzles_waysOf (by decide +kernel)
theorem i_Puzzles_waysOf_80 : m_at k_Puzzles_waysOf 80 = some (.iadd, 1, 0) := m_at_of r_Puzzles_waysOf (by decide +kernel)
theorem i_Puzzles_waysOf_81 : m_at k_Puzzles_waysOf 81 = some (.istore 6, 2, 0) := m_at_of r_Puzzles_waysOf (by decide +kernel)
theorem i_Puzzles_waysOf_83 : m_at k_Puzzles_waysOf 83 = some (.goto (40), 3, 0) := m_at_of r_Puzzles_waysOf (by decide +kernel)
theorem i_Puzzles_waysOf_86 : m_at k_Puzzles_waysOf 86 = some (.iload 8, 2, 0) := m_at_of r_Puzzles_waysOf (by decide +kernel)
theorem i_Puzzles_waysOf_88 : m_at k_Puzzles_waysOf 88 = some (.iload 5, 2, 0) := m_at_of r_Puzzles_waysOf (by decide +kernel)
theorem i_Puzzles_waysOf_90 : m_at k_Puzzles_waysOf 90 = some (.if_icmp .ge (33), 3, 0) := m_at_of r_Puzzles_waysOf (by decide +kernel)
theorem i_Puzzles_waysOf_93 : m_at k_Puzzles_waysOf 93 = some (.aload_n 0, 1, 0) := m_at_of r_Puzzles_waysOf (by decide +kernel)
theorem i_Puzzles_waysOf_94 : m_at k_Puzzles_waysOf 94 = some (.getfield 15, 3, 52) := m_at_of r_Puzzles_waysOf (by decide +kernel)
theorem i_Puzzles_waysOf_97 : m_at k_Puzzles_waysOf 97 = some (.iload 7, 2, 0) := m_at_of r_Puzzles_waysOf (by decide +kernel)
theorem i_Puzzles_waysOf_99 : m_at k_Puzzles_waysOf 99 = some (.iaload, 1, 0) := m_at_of r_Puzzles_waysOf (by decide +kernel)
theorem i_Puzzles_waysOf_100 : m_at k_Puzzles_waysOf 100 = some (.ifCond .le (23), 3, 0) := m_at_of r_Puzzles_waysOf (by decide +kernel)
theorem i_Puzzles_waysOf_103 : m_at k_Puzzles_waysOf 103 = some (.aload_n 0, 1, 0) := m_at_of r_Puzzles_waysOf (by decide +kernel)
theorem i_Puzzles_waysOf_104 : m_at k_Puzzles_waysOf 104 = some (.aload_n 1, 1, 0) := m_at_of r_Puzzles_waysOf (by decide +kernel)
theorem i_Puzzles_waysOf_105 : m_at k_Puzzles_waysOf 105 = some (.aload_n 2, 1, 0) := m_at_of r_Puzzles_waysOf (by decide +kernel)
theorem i_Puzzles_waysOf_106 : m_at k_Puzzles_waysOf 106 = some (.iload 7, 2, 0) := m_at_of r_Puzzles_waysOf (by decide +kernel)
theorem i_Puzzles_waysOf_108 : m_at k_Puzzles_waysOf 108 = some (.iload 8, 2, 0) := m_at_of r_Puzzles_waysOf (by decide +kernel)
theorem i_Puzzles_waysOf_110 : m_at k_Puzzles_waysOf 110 = some (.iload_n 3, 1, 0) := m_at_of r_Puzzles_waysOf (by decide +kernel)
theorem i_Puzzles_waysOf_111 : m_at k_Puzzles_waysOf 111 = some (.if_icmp .ne (8), 3, 0) := m_at_of r_Puzzles_waysOf (by decide +kernel)
theorem i_Puzzles_waysOf_114 : m_at k_Puzzles_waysOf 114 = some (.iload 4, 2, 0) := m_at_of r_Puzzles_waysOf (by decide +kernel)
theorem i_Puzzles_waysOf_116 : m_at k_Puzzles_waysOf 116 = some (.goto (4), 3, 0) := m_at_of r_Puzzles_waysOf (by decide +kernel)
theorem i_Puzzles_waysOf_119 : m_at k_Puzzles_waysOf 119 = some (.iconst (-1), 1, 0) := m_at_of r_Puzzles_waysOf (by decide +kernel)
theorem i_Puzzles_waysOf_120 : m_at k_Puzzles_waysOf 120 = some (.invokevirtual 78, 3, 146) := m_at_of r_Puzzles_waysOf (by decide +kernel)
theorem i_Puzzles_waysOf_123 : m_at k_Puzzles_waysOf 123 = some (.iinc 7 (1), 3, 0) := m_at_of r_Puzzles_waysOf (by decide +kernel)
theorem i_Puzzles_waysOf_126 : m_at k_Puzzles_waysOf 126 = some (.goto (-77), 3, 0) := m_at_of r_Puzzles_waysOf (by decide +kernel)
theorem i_Puzzles_waysOf_129 : m_at k_Puzzles_waysOf 129 = some (.iload 6, 2, 0) := m_at_of r_Puzzles_waysOf (by decide +kernel)
theorem i_Puzzles_waysOf_131 : m_at k_Puzzles_waysOf 131 = some (.ireturn, 1, 0) := m_at_of r_Puzzles_waysOf (by decide +kernel)
set_option maxRecDepth 20000 in
set_option maxHeartbeats 1000000 in
theorem E_Puzzles_waysOf (x : m_X) (s : m_H) (w : Nat) (r1 : Nat) (r2 : Nat) (n3 : Int32) (n4 : Int32) : m_M x k_Puzzles_waysOf [.ref w, .ref r1, .ref r2, .int n3, .int n4] s = if m_isO s w 2 = true then ((m_fR s 7 3 r2).bind fun v1 => (m_fI s 4 1 v1).bind fun v4 => m_D x 5 k_Puzzles_waysOf 15 [some (.ref w), some (.ref r1), some (.ref r2), some (.int n3), some (.int n4), some (.int v4), some (.int 0), some (.int 0), none] [] s) else none := by
  refine e_M1 (L0 := [some (.ref w), some (.ref r1), some (.ref r2), some (.int n3), some (.int n4), none, none, none, none]) rfl (by decide +kernel) rfl (q_Puzzles_waysOf _) rfl ?_
  refine e_aload_n i_Puzzles_waysOf_0 rfl ?_
  refine e_getR i_Puzzles_waysOf_1 lf_50 (by decide) ft_7_3 (fun v1 => ?_)
  refine e_getI i_Puzzles_waysOf_4 lf_51 (by decide) (Or.inl ft_4_1) (fun v4 => ?_)
  refine e_istore (L' := [some (.ref w), some (.ref r1), some (.ref r2), some (.int n3), some (.int n4), some (.int v4), none, none, none]) i_Puzzles_waysOf_7 (of_decide_eq_true rfl) rfl ?_
  refine e_iconst (v := 0) i_Puzzles_waysOf_9 (by decide) ?_
  refine e_istore (L' := [some (.ref w), some (.ref r1), some (.ref r2), some (.int n3), some (.int n4), some (.int v4), some (.int 0), none, none]) i_Puzzles_waysOf_10 (of_decide_eq_true rfl) rfl ?_
  refine e_iconst (v := 0) i_Puzzles_waysOf_12 (by decide) ?_
  refine e_istore (L' := [some (.ref w), some (.ref r1), some (.ref r2), some (.int n3), some (.int n4), some (.int v4), some (.int 0), some (.int 0), none]) i_Puzzles_waysOf_13 (of_decide_eq_true rfl) rfl ?_
  exact rfl
set_option maxRecDepth 20000 in
set_option maxHeartbeats 1000000 in
theorem E_Puzzles_waysOf_15 (x : m_X) (ρ : Nat) (hρ : 5 ≤ ρ) (s : m_H) (w : Nat) (r1 : Nat) (r2 : Nat) (n3 : Int32) (n4 : Int32) (n5 : Int32) (n6 : Int32) (n7 : Int32)  : m_D x ρ k_Puzzles_waysOf 15 [some (.ref w), some (.ref r1), some (.ref r2), some (.int n3), some (.int n4), some (.int n5), some (.int n6), some (.int n7), none] [] s = if 128 ≤ n7 then (m_D x ρ k_Puzzles_waysOf 49 [some (.ref w), some (.ref r1), some (.ref r2), some (.int n3), some (.int n4), some (.int n5), some (.int n6), some (.int 0), none] [] s) else (m_fR s 2 4 w).bind fun v24 => if n7 = 0 then ((m_is s v24 n7 1).bind fun s39 => m_D x ρ k_Puzzles_waysOf 15 [some (.ref w), some (.ref r1), some (.ref r2), some (.int n3), some (.int n4), some (.int n5), some (.int n6), some (.int (n7 + (1 : Int32))), none] [] s39) else (m_is s v24 n7 0).bind fun s39 => m_D x ρ k_Puzzles_waysOf 15 [some (.ref w), some (.ref r1), some (.ref r2), some (.int n3), some (.int n4), some (.int n5), some (.int n6), some (.int (n7 + (1 : Int32))), none] [] s39 := by
  refine e_iload i_Puzzles_waysOf_15 rfl ?_
  refine e_sipush (v := 128) i_Puzzles_waysOf_17 (by decide) ?_
  refine e_icmpge (t := 46) i_Puzzles_waysOf_20 (by decide) ?_ ?_
  · refine e_iconst (v := 0) i_Puzzles_waysOf_46 (by decide) ?_
    refine e_istore (L' := [some (.ref w), some (.ref r1), some (.ref r2), some (.int n3), some (.int n4), some (.int n5), some (.int n6), some (.int 0), none]) i_Puzzles_waysOf_47 (of_decide_eq_true rfl) rfl ?_
    exact rfl
  · refine e_aload_n i_Puzzles_waysOf_23 rfl ?_
    refine e_getR i_Puzzles_waysOf_24 lf_52 (by decide) ft_2_4 (fun v24 => ?_)
    refine e_iload i_Puzzles_waysOf_27 rfl ?_
    refine e_iload i_Puzzles_waysOf_29 rfl ?_
    refine e_ifne (t := 38) i_Puzzles_waysOf_31 (by decide) ?_ ?_
    · refine e_iconst (v := 0) i_Puzzles_waysOf_38 (by decide) ?_
      refine e_iast i_Puzzles_waysOf_39 (fun s39 => ?_)
      refine e_iinc (w := 1) (L' := [some (.ref w), some (.ref r1), some (.ref r2), some (.int n3), some (.int n4), some (.int n5), some (.int n6), some (.int (n7 + (1 : Int32))), none]) i_Puzzles_waysOf_40 rfl (of_decide_eq_true rfl) (by decide) rfl ?_
      refine e_goto (t := 15) i_Puzzles_waysOf_43 (by decide) ?_
      exact rfl
    · refine e_iconst (v := 1) i_Puzzles_waysOf_34 (by decide) ?_
      refine e_goto (t := 39) i_Puzzles_waysOf_35 (by decide) ?_
      refine e_iast i_Puzzles_waysOf_39 (fun s39 => ?_)
      refine e_iinc (w := 1) (L' := [some (.ref w), some (.ref r1), some (.ref r2), some (.int n3), some (.int n4), some (.int n5), some (.int n6), some (.int (n7 + (1 : Int32))), none]) i_Puzzles_waysOf_40 rfl (of_decide_eq_true rfl) (by decide) rfl ?_
      refine e_goto (t := 15) i_Puzzles_waysOf_43 (by decide) ?_
      exact rfl
set_option maxRecDepth 20000 in
set_option maxHeartbeats 1000000 in
theorem E_Puzzles_waysOf_49 (x : m_X) (ρ : Nat) (hρ : 5 ≤ ρ) (s : m_H) (w : Nat) (r1 : Nat) (r2 : Nat) (n3 : Int32) (n4 : Int32) (n5 : Int32) (n6 : Int32) (n7 : Int32) (d8 : Option Value) (hd8 : m_nl d8 = true) : m_D x ρ k_Puzzles_waysOf 49 [some (.ref w), some (.ref r1), some (.ref r2), some (.int n3), some (.int n4), some (.int n5), some (.int n6), some (.int n7), d8] [] s = if 128 ≤ n7 then (some (some (.int n6), s)) else m_bI (m_M x k_Integer_bitCount [.int n7] s) fun v59 s59 => if v59 = n5 then ((m_fR s59 2 4 w).bind fun v74 => (m_ia x s59 v74 n7).bind fun v79 => m_D x ρ k_Puzzles_waysOf 49 [some (.ref w), some (.ref r1), some (.ref r2), some (.int n3), some (.int n4), some (.int n5), some (.int (n6 + v79)), some (.int (n7 + (1 : Int32))), some (.int v59)] [] s59) else if n5 ≤ v59 then (m_D x ρ k_Puzzles_waysOf 49 [some (.ref w), some (.ref r1), some (.ref r2), some (.int n3), some (.int n4), some (.int n5), some (.int n6), some (.int (n7 + (1 : Int32))), some (.int v59)] [] s59) else (m_fR s59 2 4 w).bind fun v94 => (m_ia x s59 v94 n7).bind fun v99 => if v99 ≤ 0 then (m_D x ρ k_Puzzles_waysOf 49 [some (.ref w), some (.ref r1), some (.ref r2), some (.int n3), some (.int n4), some (.int n5), some (.int n6), some (.int (n7 + (1 : Int32))), some (.int v59)] [] s59) else if v59 = n3 then (m_bV (m_M x k_Puzzles_giveNext [.ref w, .ref r1, .ref r2, .int n7, .int n4] s59) fun s120 => m_D x ρ k_Puzzles_waysOf 49 [some (.ref w), some (.ref r1), some (.ref r2), some (.int n3), some (.int n4), some (.int n5), some (.int n6), some (.int (n7 + (1 : Int32))), some (.int v59)] [] s120) else m_bV (m_M x k_Puzzles_giveNext [.ref w, .ref r1, .ref r2, .int n7, .int (-1)] s59) fun s120 => m_D x ρ k_Puzzles_waysOf 49 [some (.ref w), some (.ref r1), some (.ref r2), some (.int n3), some (.int n4), some (.int n5), some (.int n6), some (.int (n7 + (1 : Int32))), some (.int v59)] [] s120 := by
  refine e_iload i_Puzzles_waysOf_49 rfl ?_
  refine e_sipush (v := 128) i_Puzzles_waysOf_51 (by decide) ?_
  refine e_icmpge (t := 129) i_Puzzles_waysOf_54 (by decide) ?_ ?_
  · refine e_iload i_Puzzles_waysOf_129 rfl ?_
    exact e_iretI i_Puzzles_waysOf_131 rfl
  · refine e_iload i_Puzzles_waysOf_57 rfl ?_
    refine e_callI (as := [.int n7]) (st' := []) i_Puzzles_waysOf_59 lm_145 (Or.inl ⟨rfl, rfl⟩) w_Integer_bitCount rfl rfl rfl (Nat.le_of_ble_eq_true rfl) (Nat.le_of_ble_eq_true rfl) (m_rlt (q_Integer_bitCount _) (Nat.lt_of_lt_of_le (by decide) hρ)) rfl (fun v59 s59 => ?_)
    refine e_istore (L' := [some (.ref w), some (.ref r1), some (.ref r2), some (.int n3), some (.int n4), some (.int n5), some (.int n6), some (.int n7), some (.int v59)]) i_Puzzles_waysOf_62 (of_decide_eq_true rfl) rfl ?_
    refine e_iload i_Puzzles_waysOf_64 rfl ?_
    refine e_iload i_Puzzles_waysOf_66 rfl ?_
    refine e_icmpne (t := 86) i_Puzzles_waysOf_68 (by decide) ?_ ?_
    · refine e_iload i_Puzzles_waysOf_86 rfl ?_
      refine e_iload i_Puzzles_waysOf_88 rfl ?_
      refine e_icmpge (t := 123) i_Puzzles_waysOf_90 (by decide) ?_ ?_
      · refine e_iinc (w := 1) (L' := [some (.ref w), some (.ref r1), some (.ref r2), some (.int n3), some (.int n4), some (.int n5), some (.int n6), some (.int (n7 + (1 : Int32))), some (.int v59)]) i_Puzzles_waysOf_123 rfl (of_decide_eq_true rfl) (by decide) rfl ?_
        refine e_goto (t := 49) i_Puzzles_waysOf_126 (by decide) ?_
        exact rfl
      · refine e_aload_n i_Puzzles_waysOf_93 rfl ?_
        refine e_getR i_Puzzles_waysOf_94 lf_52 (by decide) ft_2_4 (fun v94 => ?_)
        refine e_iload i_Puzzles_waysOf_97 rfl ?_
        refine e_iald i_Puzzles_waysOf_99 (fun v99 => ?_)
        refine e_ifle (t := 123) i_Puzzles_waysOf_100 (by decide) ?_ ?_
        · refine e_iinc (w := 1) (L' := [some (.ref w), some (.ref r1), some (.ref r2), some (.int n3), some (.int n4), some (.int n5), some (.int n6), some (.int (n7 + (1 : Int32))), some (.int v59)]) i_Puzzles_waysOf_123 rfl (of_decide_eq_true rfl) (by decide) rfl ?_
          refine e_goto (t := 49) i_Puzzles_waysOf_126 (by decide) ?_
          exact rfl
        · refine e_aload_n i_Puzzles_waysOf_103 rfl ?_
          refine e_aload_n i_Puzzles_waysOf_104 rfl ?_
          refine e_aload_n i_Puzzles_waysOf_105 rfl ?_
          refine e_iload i_Puzzles_waysOf_106 rfl ?_
          refine e_iload i_Puzzles_waysOf_108 rfl ?_
          refine e_iload_n i_Puzzles_waysOf_110 rfl ?_
          refine e_icmpne (t := 119) i_Puzzles_waysOf_111 (by decide) ?_ ?_
          · refine e_iconst (v := (-1)) i_Puzzles_waysOf_119 (by decide) ?_
            refine e_callV (as := [.ref w, .ref r1, .ref r2, .int n7, .int (-1)]) (st' := []) i_Puzzles_waysOf_120 lm_146 (Or.inr (Or.inl ⟨rfl, rfl⟩)) w_Puzzles_giveNext rfl rfl rfl (Nat.le_of_ble_eq_true rfl) (Nat.le_of_ble_eq_true rfl) (m_rlt (q_Puzzles_giveNext _) (Nat.lt_of_lt_of_le (by decide) hρ)) rfl (fun s120 => ?_)
            refine e_iinc (w := 1) (L' := [some (.ref w), some (.ref r1), some (.ref r2), some (.int n3), some (.int n4), some (.int n5), some (.int n6), some (.int (n7 + (1 : Int32))), some (.int v59)]) i_Puzzles_waysOf_123 rfl (of_decide_eq_true rfl) (by decide) rfl ?_
            refine e_goto (t := 49) i_Puzzles_waysOf_126 (by decide) ?_
            exact rfl
          · refine e_iload i_Puzzles_waysOf_114 rfl ?_
            refine e_goto (t := 120) i_Puzzles_waysOf_116 (by decide) ?_
            refine e_callV (as := [.ref w, .ref r1, .ref r2, .int n7, .int n4]) (st' := []) i_Puzzles_waysOf_120 lm_146 (Or.inr (Or.inl ⟨rfl, rfl⟩)) w_Puzzles_giveNext rfl rfl rfl (Nat.le_of_ble_eq_true rfl) (Nat.le_of_ble_eq_true rfl) (m_rlt (q_Puzzles_giveNext _) (Nat.lt_of_lt_of_le (by decide) hρ)) rfl (fun s120 => ?_)
            refine e_iinc (w := 1) (L' := [some (.ref w), some (.ref r1), some (.ref r2), some (.int n3), some (.int n4), some (.int n5), some (.int n6), some (.int (n7 + (1 : Int32))), some (.int v59)]) i_Puzzles_waysOf_123 rfl (of_decide_eq_true rfl) (by decide) rfl ?_
            refine e_goto (t := 49) i_Puzzles_waysOf_126 (by decide) ?_
            exact rfl
    · refine e_iload i_Puzzles_waysOf_71 rfl ?_
      refine e_aload_n i_Puzzles_waysOf_73 rfl ?_
      refine e_getR i_Puzzles_waysOf_74 lf_52 (by decide) ft_2_4 (fun v74 => ?_)
      refine e_iload i_Puzzles_waysOf_77 rfl ?_
      refine e_iald i_Puzzles_waysOf_79 (fun v79 => ?_)
      refine e_iadd i_Puzzles_waysOf_80 ?_
      refine e_istore (L' := [some (.ref w), some (.ref r1), some (.ref r2), some (.int n3), some (.int n4), some (.int n5), some (.int (n6 + v79)), some (.int n7), some (.int v59)]) i_Puzzles_waysOf_81 (of_decide_eq_true rfl) rfl ?_
      refine e_goto (t := 123) i_Puzzles_waysOf_83 (by decide) ?_
      refine e_iinc (w := 1) (L' := [some (.ref w), some (.ref r1), some (.ref r2), some (.int n3), some (.int n4), some (.int n5), some (.int (n6 + v79)), some (.int (n7 + (1 : Int32))), some (.int v59)]) i_Puzzles_waysOf_123 rfl (of_decide_eq_true rfl) (by decide) rfl ?_
      refine e_goto (t := 49) i_Puzzles_waysOf_126 (by decide) ?_
      exact rfl
theorem i_Puzzles_giveNext_0 : m_at k_Puzzles_giveNext 0 = some (.iload_n 3, 1, 0) := m_at_of r_Puzzles_giveNext (by decide +kernel)
theorem i_Puzzles_giveNext_1 : m_at k_Puzzles_giveNext 1 = some (.invokestatic 32, 3, 145) := m_at_of r_Puzzles_giveNext (by decide +kernel)
theorem i_Puzzles_giveNext_4 : m_at k_Puzzles_giveNext 4 = some (.istore 5, 2, 0) := m_at_of r_Puzzles_giveNext (by decide +kernel)
theorem i_Puzzles_giveNext_6 : m_at k_Puzzles_giveNext 6 = some (.aload_n 1, 1, 0) := m_at_of r_Puzzles_giveNext (by decide +kernel)
theorem i_Puzzles_giveNext_7 : m_at k_Puzzles_giveNext 7 = some (.aload_n 2, 1, 0) := m_at_of r_Puzzles_giveNext (by decide +kernel)
theorem i_Puzzles_giveNext_8 : m_at k_Puzzles_giveNext 8 = some (.getfield 72, 3, 50) := m_at_of r_Puzzles_giveNext (by decide +kernel)
theorem i_Puzzles_giveNext_11 : m_at k_Puzzles_giveNext 11 = some (.iload 5, 2, 0) := m_at_of r_Puzzles_giveNext (by decide +kernel)
theorem i_Puzzles_giveNext_13 : m_at k_Puzzles_giveNext 13 = some (.invokevirtual 43, 3, 147) := m_at_of r_Puzzles_giveNext (by decide +kernel)
theorem i_Puzzles_giveNext_16 : m_at k_Puzzles_giveNext 16 = some (.aload_n 2, 1, 0) := m_at_of r_Puzzles_giveNext (by decide +kernel)
theorem i_Puzzles_giveNext_17 : m_at k_Puzzles_giveNext 17 = some (.getfield 82, 3, 53) := m_at_of r_Puzzles_giveNext (by decide +kernel)
theorem i_Puzzles_giveNext_20 : m_at k_Puzzles_giveNext 20 = some (.iload 5, 2, 0) := m_at_of r_Puzzles_giveNext (by decide +kernel)
theorem i_Puzzles_giveNext_22 : m_at k_Puzzles_giveNext 22 = some (.invokevirtual 43, 3, 147) := m_at_of r_Puzzles_giveNext (by decide +kernel)
theorem i_Puzzles_giveNext_25 : m_at k_Puzzles_giveNext 25 = some (.invokevirtual 85, 3, 148) := m_at_of r_Puzzles_giveNext (by decide +kernel)
theorem i_Puzzles_giveNext_28 : m_at k_Puzzles_giveNext 28 = some (.iload_n 3, 1, 0) := m_at_of r_Puzzles_giveNext (by decide +kernel)
theorem i_Puzzles_giveNext_29 : m_at k_Puzzles_giveNext 29 = some (.iconst (-1), 1, 0) := m_at_of r_Puzzles_giveNext (by decide +kernel)
theorem i_Puzzles_giveNext_30 : m_at k_Puzzles_giveNext 30 = some (.ixor, 1, 0) := m_at_of r_Puzzles_giveNext (by decide +kernel)
theorem i_Puzzles_giveNext_31 : m_at k_Puzzles_giveNext 31 = some (.iand, 1, 0) := m_at_of r_Puzzles_giveNext (by decide +kernel)
theorem i_Puzzles_giveNext_32 : m_at k_Puzzles_giveNext 32 = some (.istore 6, 2, 0) := m_at_of r_Puzzles_giveNext (by decide +kernel)
theorem i_Puzzles_giveNext_34 : m_at k_Puzzles_giveNext 34 = some (.iconst 0, 1, 0) := m_at_of r_Puzzles_giveNext (by decide +kernel)
theorem i_Puzzles_giveNext_35 : m_at k_Puzzles_giveNext 35 = some (.istore 7, 2, 0) := m_at_of r_Puzzles_giveNext (by decide +kernel)
theorem i_Puzzles_giveNext_37 : m_at k_Puzzles_giveNext 37 = some (.iload 7, 2, 0) := m_at_of r_Puzzles_giveNext (by decide +kernel)
theorem i_Puzzles_giveNext_39 : m_at k_Puzzles_giveNext 39 = some (.bipush 7, 2, 0) := m_at_of r_Puzzles_giveNext (by decide +kernel)
theorem i_Puzzles_giveNext_41 : m_at k_Puzzles_giveNext 41 = some (.if_icmp .ge (93), 3, 0) := m_at_of r_Puzzles_giveNext (by decide +kernel)
theorem i_Puzzles_giveNext_44 : m_at k_Puzzles_giveNext 44 = some (.iload 6, 2, 0) := m_at_of r_Puzzles_giveNext (by decide +kernel)
theorem i_Puzzles_giveNext_46 : m_at k_Puzzles_giveNext 46 = some (.iload 7, 2, 0) := m_at_of r_Puzzles_giveNext (by decide +kernel)
theorem i_Puzzles_giveNext_48 : m_at k_Puzzles_giveNext 48 = some (.ishr, 1, 0) := m_at_of r_Puzzles_giveNext (by decide +kernel)
theorem i_Puzzles_giveNext_49 : m_at k_Puzzles_giveNext 49 = some (.iconst 1, 1, 0) := m_at_of r_Puzzles_giveNext (by decide +kernel)
theorem i_Puzzles_giveNext_50 : m_at k_Puzzles_giveNext 50 = some (.iand, 1, 0) := m_at_of r_Puzzles_giveNext (by decide +kernel)
theorem i_Puzzles_giveNext_51 : m_at k_Puzzles_giveNext 51 = some (.iconst 1, 1, 0) := m_at_of r_Puzzles_giveNext (by decide +kernel)
theorem i_Puzzles_giveNext_52 : m_at k_Puzzles_giveNext 52 = some (.if_icmp .ne (20), 3, 0) := m_at_of r_Puzzles_giveNext (by decide +kernel)
theorem i_Puzzles_giveNext_55 : m_at k_Puzzles_giveNext 55 = some (.iload 4, 2, 0) := m_at_of r_Puzzles_giveNext (by decide +kernel)
theorem i_Puzzles_giveNext_57 : m_at k_Puzzles_giveNext 57 = some (.iconst (-1), 1, 0) := m_at_of r_Puzzles_giveNext (by decide +kernel)
theorem i_Puzzles_giveNext_58 : m_at k_Puzzles_giveNext 58 = some (.if_icmp .eq (10), 3, 0) := m_at_of r_Puzzles_giveNext (by decide +kernel)
theorem i_Puzzles_giveNext_61 : m_at k_Puzzles_giveNext 61 = some (.iload 4, 2, 0) := m_at_of r_Puzzles_giveNext (by decide +kernel)
theorem i_Puzzles_giveNext_63 : m_at k_Puzzles_giveNext 63 = some (.iload 7, 2, 0) := m_at_of r_Puzzles_giveNext (by decide +kernel)
theorem i_Puzzles_giveNext_65 : m_at k_Puzzles_giveNext 65 = some (.if_icmp .ne (7), 3, 0) := m_at_of r_Puzzles_giveNext (by decide +kernel)
theorem i_Puzzles_giveNext_68 : m_at k_Puzzles_giveNext 68 = some (.iconst 1, 1, 0) := m_at_of r_Puzzles_giveNext (by decide +kernel)
theorem i_Puzzles_giveNext_69 : m_at k_Puzzles_giveNext 69 = some (.goto (4), 3, 0) := m_at_of r_Puzzles_giveNext (by decide +kernel)
theorem i_Puzzles_giveNext_72 : m_at k_Puzzles_giveNext 72 = some (.iconst 0, 1, 0) := m_at_of r_Puzzles_giveNext (by decide +kernel)
theorem i_Puzzles_giveNext_73 : m_at k_Puzzles_giveNext 73 = some (.istore 8, 2, 0) := m_at_of r_Puzzles_giveNext (by decide +kernel)
theorem i_Puzzles_giveNext_75 : m_at k_Puzzles_giveNext 75 = some (.iload_n 3, 1, 0) := m_at_of r_Puzzles_giveNext (by decide +kernel)
theorem i_Puzzles_giveNext_76 : m_at k_Puzzles_giveNext 76 = some (.iconst 1, 1, 0) := m_at_of r_Puzzles_giveNext (by decide +kernel)
theorem i_Puzzles_giveNext_77 : m_at k_Puzzles_giveNext 77 = some (.iload 7, 2, 0) := m_at_of r_Puzzles_giveNext (by decide +kernel)
theorem i_Puzzles_giveNext_79 : m_at k_Puzzles_giveNext 79 = some (.ishl, 1, 0) := m_at_of r_Puzzles_giveNext (by decide +kernel)
theorem i_Puzzles_giveNext_80 : m_at k_Puzzles_giveNext 80 = some (.ior, 1, 0) := m_at_of r_Puzzles_giveNext (by decide +kernel)
theorem i_Puzzles_giveNext_81 : m_at k_Puzzles_giveNext 81 = some (.istore 9, 2, 0) := m_at_of r_Puzzles_giveNext (by decide +kernel)
theorem i_Puzzles_giveNext_83 : m_at k_Puzzles_giveNext 83 = some (.iload 8, 2, 0) := m_at_of r_Puzzles_giveNext (by decide +kernel)
theorem i_Puzzles_giveNext_85 : m_at k_Puzzles_giveNext 85 = some (.ifCond .eq (43), 3, 0) := m_at_of r_Puzzles_giveNext (by decide +kernel)
theorem i_Puzzles_giveNext_88 : m_at k_Puzzles_giveNext 88 = some (.iload 9, 2, 0) := m_at_of r_Puzzles_giveNext (by decide +kernel)
theorem i_Puzzles_giveNext_90 : m_at k_Puzzles_giveNext 90 = some (.ifCond .lt (38), 3, 0) := m_at_of r_Puzzles_giveNext (by decide +kernel)
theorem i_Puzzles_giveNext_93 : m_at k_Puzzles_giveNext 93 = some (.iload 9, 2, 0) := m_at_of r_Puzzles_giveNext (by decide +kernel)
theorem i_Puzzles_giveNext_95 : m_at k_Puzzles_giveNext 95 = some (.sipush 128, 3, 0) := m_at_of r_Puzzles_giveNext (by decide +kernel)
theorem i_Puzzles_giveNext_98 : m_at k_Puzzles_giveNext 98 = some (.if_icmp .ge (30), 3, 0) := m_at_of r_Puzzles_giveNext (by decide +kernel)
theorem i_Puzzles_giveNext_101 : m_at k_Puzzles_giveNext 101 = some (.iload_n 3, 1, 0) := m_at_of r_Puzzles_giveNext (by decide +kernel)
theorem i_Puzzles_giveNext_102 : m_at k_Puzzles_giveNext 102 = some (.ifCond .lt (26), 3, 0) := m_at_of r_Puzzles_giveNext (by decide +kernel)
theorem i_Puzzles_giveNext_105 : m_at k_Puzzles_giveNext 105 = some (.iload_n 3, 1, 0) := m_at_of r_Puzzles_giveNext (by decide +kernel)
theorem i_Puzzles_giveNext_106 : m_at k_Puzzles_giveNext 106 = some (.sipush 128, 3, 0) := m_at_of r_Puzzles_giveNext (by decide +kernel)
theorem i_Puzzles_giveNext_109 : m_at k_Puzzles_giveNext 109 = some (.if_icmp .ge (19), 3, 0) := m_at_of r_Puzzles_giveNext (by decide +kernel)
theorem i_Puzzles_giveNext_112 : m_at k_Puzzles_giveNext 112 = some (.aload_n 0, 1, 0) := m_at_of r_Puzzles_giveNext (by decide +kernel)
theorem i_Puzzles_giveNext_113 : m_at k_Puzzles_giveNext 113 = some (.getfield 15, 3, 52) := m_at_of r_Puzzles_giveNext (by decide +kernel)
theorem i_Puzzles_giveNext_116 : m_at k_Puzzles_giveNext 116 = some (.iload 9, 2, 0) := m_at_of r_Puzzles_giveNext (by decide +kernel)
theorem i_Puzzles_giveNext_118 : m_at k_Puzzles_giveNext 118 = some (.dup2, 1, 0) := m_at_of r_Puzzles_giveNext (by decide +kernel)
theorem i_Puzzles_giveNext_119 : m_at k_Puzzles_giveNext 119 = some (.iaload, 1, 0) := m_at_of r_Puzzles_giveNext (by decide +kernel)
theorem i_Puzzles_giveNext_120 : m_at k_Puzzles_giveNext 120 = some (.aload_n 0, 1, 0) := m_at_of r_Puzzles_giveNext (by decide +kernel)
theorem i_Puzzles_giveNext_121 : m_at k_Puzzles_giveNext 121 = some (.getfield 15, 3, 52) := m_at_of r_Puzzles_giveNext (by decide +kernel)
theorem i_Puzzles_giveNext_124 : m_at k_Puzzles_giveNext 124 = some (.iload_n 3, 1, 0) := m_at_of r_Puzzles_giveNext (by decide +kernel)
theorem i_Puzzles_giveNext_125 : m_at k_Puzzles_giveNext 125 = some (.iaload, 1, 0) := m_at_of r_Puzzles_giveNext (by decide +kernel)
theorem i_Puzzles_giveNext_126 : m_at k_Puzzles_giveNext 126 = some (.iadd, 1, 0) := m_at_of r_Puzzles_giveNext (by decide +kernel)
theorem i_Puzzles_giveNext_127 : m_at k_Puzzles_giveNext 127 = some (.iastore, 1, 0) := m_at_of r_Puzzles_giveNext (by decide +kernel)
theorem i_Puzzles_giveNext_128 : m_at k_Puzzles_giveNext 128 = some (.iinc 7 (1), 3, 0) := m_at_of r_Puzzles_giveNext (by decide +kernel)
theorem i_Puzzles_giveNext_131 : m_at k_Puzzles_giveNext 131 = some (.goto (-94), 3, 0) := m_at_of r_Puzzles_giveNext (by decide +kernel)
theorem i_Puzzles_giveNext_134 : m_at k_Puzzles_giveNext 134 = some (.return_, 1, 0) := m_at_of r_Puzzles_giveNext (by decide +kernel)
set_option maxRecDepth 20000 in
set_option maxHeartbeats 1000000 in
theorem E_Puzzles_giveNext (x : m_X) (s : m_H) (w : Nat) (r1 : Nat) (r2 : Nat) (n3 : Int32) (n4 : Int32) : m_M x k_Puzzles_giveNext [.ref w, .ref r1, .ref r2, .int n3, .int n4] s = if m_isO s w 2 = true then (m_bI (m_M x k_Integer_bitCount [.int n3] s) fun v1 s1 => (m_fR s1 7 3 r2).bind fun v8 => m_bI (m_M x k_Row_itemAt [.ref v8, .int v1] s1) fun v13 s13 => (m_fR s13 7 4 r2).bind fun v17 => m_bI (m_M x k_Row_itemAt [.ref v17, .int v1] s13) fun v22 s22 => m_bI (m_M x k_World_whomFits [.ref r1, .int v13, .int v22] s22) fun v25 s25 => m_D x 4 k_Puzzles_giveNext 37 [some (.ref w), some (.ref r1), some (.ref r2), some (.int n3), some (.int n4), some (.int v1), some (.int (v25 &&& (n3 ^^^ (-1 : Int32)))), some (.int 0), none, none] [] s25) else none := by
  refine e_M1 (L0 := [some (.ref w), some (.ref r1), some (.ref r2), some (.int n3), some (.int n4), none, none, none, none, none]) rfl (by decide +kernel) rfl (q_Puzzles_giveNext _) rfl ?_
  refine e_iload_n i_Puzzles_giveNext_0 rfl ?_
  refine e_callI (as := [.int n3]) (st' := []) i_Puzzles_giveNext_1 lm_145 (Or.inl ⟨rfl, rfl⟩) w_Integer_bitCount rfl rfl rfl (Nat.le_of_ble_eq_true rfl) (Nat.le_of_ble_eq_true rfl) (m_rlt (q_Integer_bitCount _) (by decide)) rfl (fun v1 s1 => ?_)
  refine e_istore (L' := [some (.ref w), some (.ref r1), some (.ref r2), some (.int n3), some (.int n4), some (.int v1), none, none, none, none]) i_Puzzles_giveNext_4 (of_decide_eq_true rfl) rfl ?_
  refine e_aload_n i_Puzzles_giveNext_6 rfl ?_
  refine e_aload_n i_Puzzles_giveNext_7 rfl ?_
  refine e_getR i_Puzzles_giveNext_8 lf_50 (by decide) ft_7_3 (fun v8 => ?_)
  refine e_iload i_Puzzles_giveNext_11 rfl ?_
  refine e_callI (as := [.ref v8, .int v1]) (st' := [.ref r1]) i_Puzzles_giveNext_13 lm_147 (Or.inr (Or.inl ⟨rfl, rfl⟩)) w_Row_itemAt rfl rfl rfl (Nat.le_of_ble_eq_true rfl) (Nat.le_of_ble_eq_true rfl) (m_rlt (q_Row_itemAt _) (by decide)) rfl (fun v13 s13 => ?_)
  refine e_aload_n i_Puzzles_giveNext_16 rfl ?_
  refine e_getR i_Puzzles_giveNext_17 lf_53 (by decide) ft_7_4 (fun v17 => ?_)
  refine e_iload i_Puzzles_giveNext_20 rfl ?_
  refine e_callI (as := [.ref v17, .int v1]) (st' := [.int v13, .ref r1]) i_Puzzles_giveNext_22 lm_147 (Or.inr (Or.inl ⟨rfl, rfl⟩)) w_Row_itemAt rfl rfl rfl (Nat.le_of_ble_eq_true rfl) (Nat.le_of_ble_eq_true rfl) (m_rlt (q_Row_itemAt _) (by decide)) rfl (fun v22 s22 => ?_)
  refine e_callI (as := [.ref r1, .int v13, .int v22]) (st' := []) i_Puzzles_giveNext_25 lm_148 (Or.inr (Or.inl ⟨rfl, rfl⟩)) w_World_whomFits rfl rfl rfl (Nat.le_of_ble_eq_true rfl) (Nat.le_of_ble_eq_true rfl) (m_rlt (q_World_whomFits _) (by decide)) rfl (fun v25 s25 => ?_)
  refine e_iload_n i_Puzzles_giveNext_28 rfl ?_
  refine e_iconst (v := (-1)) i_Puzzles_giveNext_29 (by decide) ?_
  refine e_ixor i_Puzzles_giveNext_30 ?_
  refine e_iand i_Puzzles_giveNext_31 ?_
  refine e_istore (L' := [some (.ref w), some (.ref r1), some (.ref r2), some (.int n3), some (.int n4), some (.int v1), some (.int (v25 &&& (n3 ^^^ (-1 : Int32)))), none, none, none]) i_Puzzles_giveNext_32 (of_decide_eq_true rfl) rfl ?_
  refine e_iconst (v := 0) i_Puzzles_giveNext_34 (by decide) ?_
  refine e_istore (L' := [some (.ref w), some (.ref r1), some (.ref r2), some (.int n3), some (.int n4), some (.int v1), some (.int (v25 &&& (n3 ^^^ (-1 : Int32)))), some (.int 0), none, none]) i_Puzzles_giveNext_35 (of_decide_eq_true rfl) rfl ?_
  exact rfl
set_option maxRecDepth 20000 in
set_option maxHeartbeats 1000000 in
theorem E_Puzzles_giveNext_37 (x : m_X) (ρ : Nat) (hρ : 4 ≤ ρ) (s : m_H) (w : Nat) (r1 : Nat) (r2 : Nat) (n3 : Int32) (n4 : Int32) (n5 : Int32) (n6 : Int32) (n7 : Int32) (d8 : Option Value) (d9 : Option Value) (hd8 : m_nl d8 = true) (hd9 : m_nl d9 = true) : m_D x ρ k_Puzzles_giveNext 37 [some (.ref w), some (.ref r1), some (.ref r2), some (.int n3), some (.int n4), some (.int n5), some (.int n6), some (.int n7), d8, d9] [] s = if 7 ≤ n7 then (some (none, s)) else if ((n6 >>> (n7 &&& (31 : Int32))) &&& (1 : Int32)) = 1 then (if n4 = (-1) then (m_D x ρ k_Puzzles_giveNext 73 [some (.ref w), some (.ref r1), some (.ref r2), some (.int n3), some (.int n4), some (.int n5), some (.int n6), some (.int n7), d8, d9] [.int 1] s) else if n4 = n7 then (m_D x ρ k_Puzzles_giveNext 73 [some (.ref w), some (.ref r1), some (.ref r2), some (.int n3), some (.int n4), some (.int n5), some (.int n6), some (.int n7), d8, d9] [.int 1] s) else m_D x ρ k_Puzzles_giveNext 73 [some (.ref w), some (.ref r1), some (.ref r2), some (.int n3), some (.int n4), some (.int n5), some (.int n6), some (.int n7), d8, d9] [.int 0] s) else m_D x ρ k_Puzzles_giveNext 73 [some (.ref w), some (.ref r1), some (.ref r2), some (.int n3), some (.int n4), some (.int n5), some (.int n6), some (.int n7), d8, d9] [.int 0] s := by
  refine e_iload i_Puzzles_giveNext_37 rfl ?_
  refine e_bipush (v := 7) i_Puzzles_giveNext_39 (by decide) ?_
  refine e_icmpge (t := 134) i_Puzzles_giveNext_41 (by decide) ?_ ?_
  · exact e_vret i_Puzzles_giveNext_134 rfl
  · refine e_iload i_Puzzles_giveNext_44 rfl ?_
    refine e_iload i_Puzzles_giveNext_46 rfl ?_
    refine e_ishr i_Puzzles_giveNext_48 ?_
    refine e_iconst (v := 1) i_Puzzles_giveNext_49 (by decide) ?_
    refine e_iand i_Puzzles_giveNext_50 ?_
    refine e_iconst (v := 1) i_Puzzles_giveNext_51 (by decide) ?_
    refine e_icmpne (t := 72) i_Puzzles_giveNext_52 (by decide) ?_ ?_
    · refine e_iconst (v := 0) i_Puzzles_giveNext_72 (by decide) ?_
      exact rfl
    · refine e_iload i_Puzzles_giveNext_55 rfl ?_
      refine e_iconst (v := (-1)) i_Puzzles_giveNext_57 (by decide) ?_
      refine e_icmpeq (t := 68) i_Puzzles_giveNext_58 (by decide) ?_ ?_
      · refine e_iconst (v := 1) i_Puzzles_giveNext_68 (by decide) ?_
        refine e_goto (t := 73) i_Puzzles_giveNext_69 (by decide) ?_
        exact rfl
      · refine e_iload i_Puzzles_giveNext_61 rfl ?_
        refine e_iload i_Puzzles_giveNext_63 rfl ?_
        refine e_icmpne (t := 72) i_Puzzles_giveNext_65 (by decide) ?_ ?_
        · refine e_iconst (v := 0) i_Puzzles_giveNext_72 (by decide) ?_
          exact rfl
        · refine e_iconst (v := 1) i_Puzzles_giveNext_68 (by decide) ?_
          refine e_goto (t := 73) i_Puzzles_giveNext_69 (by decide) ?_
          exact rfl
set_option maxRecDepth 20000 in
set_option maxHeartbeats 1000000 in
theorem E_Puzzles_giveNext_73 (x : m_X) (ρ : Nat) (hρ : 4 ≤ ρ) (s : m_H) (w : Nat) (r1 : Nat) (r2 : Nat) (n3 : Int32) (n4 : Int32) (n5 : Int32) (n6 : Int32) (n7 : Int32) (d8 : Option Value) (d9 : Option Value) (nt0 : Int32) (hd8 : m_nl d8 = true) (hd9 : m_nl d9 = true) : m_D x ρ k_Puzzles_giveNext 73 [some (.ref w), some (.ref r1), some (.ref r2), some (.int n3), some (.int n4), some (.int n5), some (.int n6), some (.int n7), d8, d9] [.int nt0] s = if nt0 = 0 then (m_D x ρ k_Puzzles_giveNext 37 [some (.ref w), some (.ref r1), some (.ref r2), some (.int n3), some (.int n4), some (.int n5), some (.int n6), some (.int (n7 + (1 : Int32))), some (.int nt0), some (.int (n3 ||| ((1 : Int32) <<< (n7 &&& (31 : Int32)))))] [] s) else if (n3 ||| ((1 : Int32) <<< (n7 &&& (31 : Int32)))) < 0 then (m_D x ρ k_Puzzles_giveNext 37 [some (.ref w), some (.ref r1), some (.ref r2), some (.int n3), some (.int n4), some (.int n5), some (.int n6), some (.int (n7 + (1 : Int32))), some (.int nt0), some (.int (n3 ||| ((1 : Int32) <<< (n7 &&& (31 : Int32)))))] [] s) else if 128 ≤ (n3 ||| ((1 : Int32) <<< (n7 &&& (31 : Int32)))) then (m_D x ρ k_Puzzles_giveNext 37 [some (.ref w), some (.ref r1), some (.ref r2), some (.int n3), some (.int n4), some (.int n5), some (.int n6), some (.int (n7 + (1 : Int32))), some (.int nt0), some (.int (n3 ||| ((1 : Int32) <<< (n7 &&& (31 : Int32)))))] [] s) else if n3 < 0 then (m_D x ρ k_Puzzles_giveNext 37 [some (.ref w), some (.ref r1), some (.ref r2), some (.int n3), some (.int n4), some (.int n5), some (.int n6), some (.int (n7 + (1 : Int32))), some (.int nt0), some (.int (n3 ||| ((1 : Int32) <<< (n7 &&& (31 : Int32)))))] [] s) else if 128 ≤ n3 then (m_D x ρ k_Puzzles_giveNext 37 [some (.ref w), some (.ref r1), some (.ref r2), some (.int n3), some (.int n4), some (.int n5), some (.int n6), some (.int (n7 + (1 : Int32))), some (.int nt0), some (.int (n3 ||| ((1 : Int32) <<< (n7 &&& (31 : Int32)))))] [] s) else (m_fR s 2 4 w).bind fun v113 => (m_ia x s v113 (n3 ||| ((1 : Int32) <<< (n7 &&& (31 : Int32))))).bind fun v119 => (m_fR s 2 4 w).bind fun v121 => (m_ia x s v121 n3).bind fun v125 => (m_is s v113 (n3 ||| ((1 : Int32) <<< (n7 &&& (31 : Int32)))) (v119 + v125)).bind fun s127 => m_D x ρ k_Puzzles_giveNext 37 [some (.ref w), some (.ref r1), some (.ref r2), some (.int n3), some (.int n4), some (.int n5), some (.int n6), some (.int (n7 + (1 : Int32))), some (.int nt0), some (.int (n3 ||| ((1 : Int32) <<< (n7 &&& (31 : Int32)))))] [] s127 := by
  refine e_istore (L' := [some (.ref w), some (.ref r1), some (.ref r2), some (.int n3), some (.int n4), some (.int n5), some (.int n6), some (.int n7), some (.int nt0), d9]) i_Puzzles_giveNext_73 (of_decide_eq_true rfl) rfl ?_
  refine e_iload_n i_Puzzles_giveNext_75 rfl ?_
  refine e_iconst (v := 1) i_Puzzles_giveNext_76 (by decide) ?_
  refine e_iload i_Puzzles_giveNext_77 rfl ?_
  refine e_ishl i_Puzzles_giveNext_79 ?_
  refine e_ior i_Puzzles_giveNext_80 ?_
  refine e_istore (L' := [some (.ref w), some (.ref r1), some (.ref r2), some (.int n3), some (.int n4), some (.int n5), some (.int n6), some (.int n7), some (.int nt0), some (.int (n3 ||| ((1 : Int32) <<< (n7 &&& (31 : Int32)))))]) i_Puzzles_giveNext_81 (of_decide_eq_true rfl) rfl ?_
  refine e_iload i_Puzzles_giveNext_83 rfl ?_
  refine e_ifeq (t := 128) i_Puzzles_giveNext_85 (by decide) ?_ ?_
  · refine e_iinc (w := 1) (L' := [some (.ref w), some (.ref r1), some (.ref r2), some (.int n3), some (.int n4), some (.int n5), some (.int n6), some (.int (n7 + (1 : Int32))), some (.int nt0), some (.int (n3 ||| ((1 : Int32) <<< (n7 &&& (31 : Int32)))))]) i_Puzzles_giveNext_128 rfl (of_decide_eq_true rfl) (by decide) rfl ?_
    refine e_goto (t := 37) i_Puzzles_giveNext_131 (by decide) ?_
    exact rfl
  · refine e_iload i_Puzzles_giveNext_88 rfl ?_
    refine e_iflt (t := 128) i_Puzzles_giveNext_90 (by decide) ?_ ?_
    · refine e_iinc (w := 1) (L' := [some (.ref w), some (.ref r1), some (.ref r2), some (.int n3), some (.int n4), some (.int n5), some (.int n6), some (.int (n7 + (1 : Int32))), some (.int nt0), some (.int (n3 ||| ((1 : Int32) <<< (n7 &&& (31 : Int32)))))]) i_Puzzles_giveNext_128 rfl (of_decide_eq_true rfl) (by decide) rfl ?_
      refine e_goto (t := 37) i_Puzzles_giveNext_131 (by decide) ?_
      exact rfl
    · refine e_iload i_Puzzles_giveNext_93 rfl ?_
      refine e_sipush (v := 128) i_Puzzles_giveNext_95 (by decide) ?_
      refine e_icmpge (t := 128) i_Puzzles_giveNext_98 (by decide) ?_ ?_
      · refine e_iinc (w := 1) (L' := [some (.ref w), some (.ref r1), some (.ref r2), some (.int n3), some (.int n4), some (.int n5), some (.int n6), some (.int (n7 + (1 : Int32))), some (.int nt0), some (.int (n3 ||| ((1 : Int32) <<< (n7 &&& (31 : Int32)))))]) i_Puzzles_giveNext_128 rfl (of_decide_eq_true rfl) (by decide) rfl ?_
        refine e_goto (t := 37) i_Puzzles_giveNext_131 (by decide) ?_
        exact rfl
      · refine e_iload_n i_Puzzles_giveNext_101 rfl ?_
        refine e_iflt (t := 128) i_Puzzles_giveNext_102 (by decide) ?_ ?_
        · refine e_iinc (w := 1) (L' := [some (.ref w), some (.ref r1), some (.ref r2), some (.int n3), some (.int n4), some (.int n5), some (.int n6), some (.int (n7 + (1 : Int32))), some (.int nt0), some (.int (n3 ||| ((1 : Int32) <<< (n7 &&& (31 : Int32)))))]) i_Puzzles_giveNext_128 rfl (of_decide_eq_true rfl) (by decide) rfl ?_
          refine e_goto (t := 37) i_Puzzles_giveNext_131 (by decide) ?_
          exact rfl
        · refine e_iload_n i_Puzzles_giveNext_105 rfl ?_
          refine e_sipush (v := 128) i_Puzzles_giveNext_106 (by decide) ?_
          refine e_icmpge (t := 128) i_Puzzles_giveNext_109 (by decide) ?_ ?_
          · refine e_iinc (w := 1) (L' := [some (.ref w), some (.ref r1), some (.ref r2), some (.int n3), some (.int n4), some (.int n5), some (.int n6), some (.int (n7 + (1 : Int32))), some (.int nt0), some (.int (n3 ||| ((1 : Int32) <<< (n7 &&& (31 : Int32)))))]) i_Puzzles_giveNext_128 rfl (of_decide_eq_true rfl) (by decide) rfl ?_
            refine e_goto (t := 37) i_Puzzles_giveNext_131 (by decide) ?_
            exact rfl
          · refine e_aload_n i_Puzzles_giveNext_112 rfl ?_
            refine e_getR i_Puzzles_giveNext_113 lf_52 (by decide) ft_2_4 (fun v113 => ?_)
            refine e_iload i_Puzzles_giveNext_116 rfl ?_
            refine e_dup2 i_Puzzles_giveNext_118 ⟨rfl, rfl⟩ ?_
            refine e_iald i_Puzzles_giveNext_119 (fun v119 => ?_)
            refine e_aload_n i_Puzzles_giveNext_120 rfl ?_
            refine e_getR i_Puzzles_giveNext_121 lf_52 (by decide) ft_2_4 (fun v121 => ?_)
            refine e_iload_n i_Puzzles_giveNext_124 rfl ?_
            refine e_iald i_Puzzles_giveNext_125 (fun v125 => ?_)
            refine e_iadd i_Puzzles_giveNext_126 ?_
            refine e_iast i_Puzzles_giveNext_127 (fun s127 => ?_)
            refine e_iinc (w := 1) (L' := [some (.ref w), some (.ref r1), some (.ref r2), some (.int n3), some (.int n4), some (.int n5), some (.int n6), some (.int (n7 + (1 : Int32))), some (.int nt0), some (.int (n3 ||| ((1 : Int32) <<< (n7 &&& (31 : Int32)))))]) i_Puzzles_giveNext_128 rfl (of_decide_eq_true rfl) (by decide) rfl ?_
            refine e_goto (t := 37) i_Puzzles_giveNext_131 (by decide) ?_
            exact rfl
theorem i_Puzzles_share_0 : m_at k_Puzzles_share 0 = some (.iconst 0, 1, 0) := m_at_of r_Puzzles_share (by decide +kernel)
theorem i_Puzzles_share_1 : m_at k_Puzzles_share 1 = some (.istore 4, 2, 0) := m_at_of r_Puzzles_share (by decide +kernel)
theorem i_Puzzles_share_3 : m_at k_Puzzles_share 3 = some (.iconst 0, 1, 0) := m_at_of r_Puzzles_share (by decide +kernel)
theorem i_Puzzles_share_4 : m_at k_Puzzles_share 4 = some (.istore 5, 2, 0) := m_at_of r_Puzzles_share (by decide +kernel)
theorem i_Puzzles_share_6 : m_at k_Puzzles_share 6 = some (.iload 5, 2, 0) := m_at_of r_Puzzles_share (by decide +kernel)
theorem i_Puzzles_share_8 : m_at k_Puzzles_share 8 = some (.aload_n 1, 1, 0) := m_at_of r_Puzzles_share (by decide +kernel)
theorem i_Puzzles_share_9 : m_at k_Puzzles_share 9 = some (.getfield 38, 3, 51) := m_at_of r_Puzzles_share (by decide +kernel)
theorem i_Puzzles_share_12 : m_at k_Puzzles_share 12 = some (.if_icmp .ge (20), 3, 0) := m_at_of r_Puzzles_share (by decide +kernel)
theorem i_Puzzles_share_15 : m_at k_Puzzles_share 15 = some (.iload 4, 2, 0) := m_at_of r_Puzzles_share (by decide +kernel)
theorem i_Puzzles_share_17 : m_at k_Puzzles_share 17 = some (.aload_n 1, 1, 0) := m_at_of r_Puzzles_share (by decide +kernel)
theorem i_Puzzles_share_18 : m_at k_Puzzles_share 18 = some (.iload 5, 2, 0) := m_at_of r_Puzzles_share (by decide +kernel)
theorem i_Puzzles_share_20 : m_at k_Puzzles_share 20 = some (.invokevirtual 43, 3, 147) := m_at_of r_Puzzles_share (by decide +kernel)
theorem i_Puzzles_share_23 : m_at k_Puzzles_share 23 = some (.iadd, 1, 0) := m_at_of r_Puzzles_share (by decide +kernel)
theorem i_Puzzles_share_24 : m_at k_Puzzles_share 24 = some (.istore 4, 2, 0) := m_at_of r_Puzzles_share (by decide +kernel)
theorem i_Puzzles_share_26 : m_at k_Puzzles_share 26 = some (.iinc 5 (1), 3, 0) := m_at_of r_Puzzles_share (by decide +kernel)
theorem i_Puzzles_share_29 : m_at k_Puzzles_share 29 = some (.goto (-23), 3, 0) := m_at_of r_Puzzles_share (by decide +kernel)
theorem i_Puzzles_share_32 : m_at k_Puzzles_share 32 = some (.iconst 2, 1, 0) := m_at_of r_Puzzles_share (by decide +kernel)
theorem i_Puzzles_share_33 : m_at k_Puzzles_share 33 = some (.iload_n 2, 1, 0) := m_at_of r_Puzzles_share (by decide +kernel)
theorem i_Puzzles_share_34 : m_at k_Puzzles_share 34 = some (.imul, 1, 0) := m_at_of r_Puzzles_share (by decide +kernel)
theorem i_Puzzles_share_35 : m_at k_Puzzles_share 35 = some (.iload 4, 2, 0) := m_at_of r_Puzzles_share (by decide +kernel)
theorem i_Puzzles_share_37 : m_at k_Puzzles_share 37 = some (.if_icmp .gt (29), 3, 0) := m_at_of r_Puzzles_share (by decide +kernel)
theorem i_Puzzles_share_40 : m_at k_Puzzles_share 40 = some (.aload_n 0, 1, 0) := m_at_of r_Puzzles_share (by decide +kernel)
theorem i_Puzzles_share_41 : m_at k_Puzzles_share 41 = some (.aload_n 1, 1, 0) := m_at_of r_Puzzles_share (by decide +kernel)
theorem i_Puzzles_share_42 : m_at k_Puzzles_share 42 = some (.iconst 2, 1, 0) := m_at_of r_Puzzles_share (by decide +kernel)
theorem i_Puzzles_share_43 : m_at k_Puzzles_share 43 = some (.iload_n 2, 1, 0) := m_at_of r_Puzzles_share (by decide +kernel)
theorem i_Puzzles_share_44 : m_at k_Puzzles_share 44 = some (.imul, 1, 0) := m_at_of r_Puzzles_share (by decide +kernel)
theorem i_Puzzles_share_45 : m_at k_Puzzles_share 45 = some (.iload_n 3, 1, 0) := m_at_of r_Puzzles_share (by decide +kernel)
theorem i_Puzzles_share_46 : m_at k_Puzzles_share 46 = some (.invokevirtual 55, 3, 157) := m_at_of r_Puzzles_share (by decide +kernel)
theorem i_Puzzles_share_49 : m_at k_Puzzles_share 49 = some (.aload_n 0, 1, 0) := m_at_of r_Puzzles_share (by decide +kernel)
theorem i_Puzzles_share_50 : m_at k_Puzzles_share 50 = some (.aload_n 0, 1, 0) := m_at_of r_Puzzles_share (by decide +kernel)
theorem i_Puzzles_share_51 : m_at k_Puzzles_share 51 = some (.getfield 59, 3, 57) := m_at_of r_Puzzles_share (by decide +kernel)
theorem i_Puzzles_share_54 : m_at k_Puzzles_share 54 = some (.iconst 2, 1, 0) := m_at_of r_Puzzles_share (by decide +kernel)
theorem i_Puzzles_share_55 : m_at k_Puzzles_share 55 = some (.aload_n 0, 1, 0) := m_at_of r_Puzzles_share (by decide +kernel)
theorem i_Puzzles_share_56 : m_at k_Puzzles_share 56 = some (.getfield 62, 3, 58) := m_at_of r_Puzzles_share (by decide +kernel)
theorem i_Puzzles_share_59 : m_at k_Puzzles_share 59 = some (.imul, 1, 0) := m_at_of r_Puzzles_share (by decide +kernel)
theorem i_Puzzles_share_60 : m_at k_Puzzles_share 60 = some (.invokevirtual 65, 3, 138) := m_at_of r_Puzzles_share (by decide +kernel)
theorem i_Puzzles_share_63 : m_at k_Puzzles_share 63 = some (.goto (46), 3, 0) := m_at_of r_Puzzles_share (by decide +kernel)
theorem i_Puzzles_share_66 : m_at k_Puzzles_share 66 = some (.aload_n 0, 1, 0) := m_at_of r_Puzzles_share (by decide +kernel)
theorem i_Puzzles_share_67 : m_at k_Puzzles_share 67 = some (.aload_n 1, 1, 0) := m_at_of r_Puzzles_share (by decide +kernel)
theorem i_Puzzles_share_68 : m_at k_Puzzles_share 68 = some (.iconst 2, 1, 0) := m_at_of r_Puzzles_share (by decide +kernel)
theorem i_Puzzles_share_69 : m_at k_Puzzles_share 69 = some (.iconst 0, 1, 0) := m_at_of r_Puzzles_share (by decide +kernel)
theorem i_Puzzles_share_70 : m_at k_Puzzles_share 70 = some (.iload 4, 2, 0) := m_at_of r_Puzzles_share (by decide +kernel)
theorem i_Puzzles_share_72 : m_at k_Puzzles_share 72 = some (.iload_n 2, 1, 0) := m_at_of r_Puzzles_share (by decide +kernel)
theorem i_Puzzles_share_73 : m_at k_Puzzles_share 73 = some (.isub, 1, 0) := m_at_of r_Puzzles_share (by decide +kernel)
theorem i_Puzzles_share_74 : m_at k_Puzzles_share 74 = some (.invokestatic 49, 3, 158) := m_at_of r_Puzzles_share (by decide +kernel)
theorem i_Puzzles_share_77 : m_at k_Puzzles_share 77 = some (.imul, 1, 0) := m_at_of r_Puzzles_share (by decide +kernel)
theorem i_Puzzles_share_78 : m_at k_Puzzles_share 78 = some (.iload_n 3, 1, 0) := m_at_of r_Puzzles_share (by decide +kernel)
theorem i_Puzzles_share_79 : m_at k_Puzzles_share 79 = some (.invokevirtual 55, 3, 157) := m_at_of r_Puzzles_share (by decide +kernel)
theorem i_Puzzles_share_82 : m_at k_Puzzles_share 82 = some (.aload_n 0, 1, 0) := m_at_of r_Puzzles_share (by decide +kernel)
theorem i_Puzzles_share_83 : m_at k_Puzzles_share 83 = some (.iconst 2, 1, 0) := m_at_of r_Puzzles_share (by decide +kernel)
theorem i_Puzzles_share_84 : m_at k_Puzzles_share 84 = some (.aload_n 0, 1, 0) := m_at_of r_Puzzles_share (by decide +kernel)
theorem i_Puzzles_share_85 : m_at k_Puzzles_share 85 = some (.getfield 62, 3, 58) := m_at_of r_Puzzles_share (by decide +kernel)
theorem i_Puzzles_share_88 : m_at k_Puzzles_share 88 = some (.imul, 1, 0) := m_at_of r_Puzzles_share (by decide +kernel)
theorem i_Puzzles_share_89 : m_at k_Puzzles_share 89 = some (.aload_n 1, 1, 0) := m_at_of r_Puzzles_share (by decide +kernel)
theorem i_Puzzles_share_90 : m_at k_Puzzles_share 90 = some (.iload_n 3, 1, 0) := m_at_of r_Puzzles_share (by decide +kernel)
theorem i_Puzzles_share_91 : m_at k_Puzzles_share 91 = some (.invokevirtual 43, 3, 147) := m_at_of r_Puzzles_share (by decide +kernel)
theorem i_Puzzles_share_94 : m_at k_Puzzles_share 94 = some (.imul, 1, 0) := m_at_of r_Puzzles_share (by decide +kernel)
theorem i_Puzzles_share_95 : m_at k_Puzzles_share 95 = some (.aload_n 0, 1, 0) := m_at_of r_Puzzles_share (by decide +kernel)
theorem i_Puzzles_share_96 : m_at k_Puzzles_share 96 = some (.getfield 59, 3, 57) := m_at_of r_Puzzles_share (by decide +kernel)
theorem i_Puzzles_share_99 : m_at k_Puzzles_share 99 = some (.isub, 1, 0) := m_at_of r_Puzzles_share (by decide +kernel)
theorem i_Puzzles_share_100 : m_at k_Puzzles_share 100 = some (.iconst 2, 1, 0) := m_at_of r_Puzzles_share (by decide +kernel)
theorem i_Puzzles_share_101 : m_at k_Puzzles_share 101 = some (.aload_n 0, 1, 0) := m_at_of r_Puzzles_share (by decide +kernel)
theorem i_Puzzles_share_102 : m_at k_Puzzles_share 102 = some (.getfield 62, 3, 58) := m_at_of r_Puzzles_share (by decide +kernel)
theorem i_Puzzles_share_105 : m_at k_Puzzles_share 105 = some (.imul, 1, 0) := m_at_of r_Puzzles_share (by decide +kernel)
theorem i_Puzzles_share_106 : m_at k_Puzzles_share 106 = some (.invokevirtual 65, 3, 138) := m_at_of r_Puzzles_share (by decide +kernel)
theorem i_Puzzles_share_109 : m_at k_Puzzles_share 109 = some (.return_, 1, 0) := m_at_of r_Puzzles_share (by decide +kernel)
set_option maxRecDepth 20000 in
set_option maxHeartbeats 1000000 in
theorem E_Puzzles_share (x : m_X) (s : m_H) (w : Nat) (r1 : Nat) (n2 : Int32) (n3 : Int32) : m_M x k_Puzzles_share [.ref w, .ref r1, .int n2, .int n3] s = if m_isO s w 2 = true then (m_D x 4 k_Puzzles_share 6 [some (.ref w), some (.ref r1), some (.int n2), some (.int n3), some (.int 0), some (.int 0)] [] s) else none := by
  refine e_M1 (L0 := [some (.ref w), some (.ref r1), some (.int n2), some (.int n3), none, none]) rfl (by decide +kernel) rfl (q_Puzzles_share _) rfl ?_
  refine e_iconst (v := 0) i_Puzzles_share_0 (by decide) ?_
  refine e_istore (L' := [some (.ref w), some (.ref r1), some (.int n2), some (.int n3), some (.int 0), none]) i_Puzzles_share_1 (of_decide_eq_true rfl) rfl ?_
  refine e_iconst (v := 0) i_Puzzles_share_3 (by decide) ?_
  refine e_istore (L' := [some (.ref w), some (.ref r1), some (.int n2), some (.int n3), some (.int 0), some (.int 0)]) i_Puzzles_share_4 (of_decide_eq_true rfl) rfl ?_
  exact rfl
set_option maxRecDepth 20000 in
set_option maxHeartbeats 1000000 in
theorem E_Puzzles_share_6 (x : m_X) (ρ : Nat) (hρ : 4 ≤ ρ) (s : m_H) (w : Nat) (r1 : Nat) (n2 : Int32) (n3 : Int32) (n4 : Int32) (n5 : Int32)  : m_D x ρ k_Puzzles_share 6 [some (.ref w), some (.ref r1), some (.int n2), some (.int n3), some (.int n4), some (.int n5)] [] s = (m_fI s 4 1 r1).bind fun v9 => if v9 ≤ n5 then (if n4 < ((2 : Int32) * n2) then (m_bI (m_M x k_Math_max_II [.int 0, .int (n4 - n2)] s) fun v74 s74 => m_bV (m_M x k_Puzzles_levelled [.ref w, .ref r1, .int ((2 : Int32) * v74), .int n3] s74) fun s79 => (m_fI s79 2 2 w).bind fun v85 => m_bI (m_M x k_Row_itemAt [.ref r1, .int n3] s79) fun v91 s91 => (m_fI s91 2 1 w).bind fun v96 => (m_fI s91 2 2 w).bind fun v102 => m_bV (m_M x k_Puzzles_lowestTerms [.ref w, .int ((((2 : Int32) * v85) * v91) - v96), .int ((2 : Int32) * v102)] s91) fun s106 => some (none, s106)) else m_bV (m_M x k_Puzzles_levelled [.ref w, .ref r1, .int ((2 : Int32) * n2), .int n3] s) fun s46 => (m_fI s46 2 1 w).bind fun v51 => (m_fI s46 2 2 w).bind fun v56 => m_bV (m_M x k_Puzzles_lowestTerms [.ref w, .int v51, .int ((2 : Int32) * v56)] s46) fun s60 => some (none, s60)) else m_bI (m_M x k_Row_itemAt [.ref r1, .int n5] s) fun v20 s20 => m_D x ρ k_Puzzles_share 6 [some (.ref w), some (.ref r1), some (.int n2), some (.int n3), some (.int (n4 + v20)), some (.int (n5 + (1 : Int32)))] [] s20 := by
  refine e_iload i_Puzzles_share_6 rfl ?_
  refine e_aload_n i_Puzzles_share_8 rfl ?_
  refine e_getI i_Puzzles_share_9 lf_51 (by decide) (Or.inl ft_4_1) (fun v9 => ?_)
  refine e_icmpge (t := 32) i_Puzzles_share_12 (by decide) ?_ ?_
  · refine e_iconst (v := 2) i_Puzzles_share_32 (by decide) ?_
    refine e_iload_n i_Puzzles_share_33 rfl ?_
    refine e_imul i_Puzzles_share_34 ?_
    refine e_iload i_Puzzles_share_35 rfl ?_
    refine e_icmpgt (t := 66) i_Puzzles_share_37 (by decide) ?_ ?_
    · refine e_aload_n i_Puzzles_share_66 rfl ?_
      refine e_aload_n i_Puzzles_share_67 rfl ?_
      refine e_iconst (v := 2) i_Puzzles_share_68 (by decide) ?_
      refine e_iconst (v := 0) i_Puzzles_share_69 (by decide) ?_
      refine e_iload i_Puzzles_share_70 rfl ?_
      refine e_iload_n i_Puzzles_share_72 rfl ?_
      refine e_isub i_Puzzles_share_73 ?_
      refine e_callI (as := [.int 0, .int (n4 - n2)]) (st' := [.int 2, .ref r1, .ref w]) i_Puzzles_share_74 lm_158 (Or.inl ⟨rfl, rfl⟩) w_Math_max_II rfl rfl rfl (Nat.le_of_ble_eq_true rfl) (Nat.le_of_ble_eq_true rfl) (m_rlt (q_Math_max_II _) (Nat.lt_of_lt_of_le (by decide) hρ)) rfl (fun v74 s74 => ?_)
      refine e_imul i_Puzzles_share_77 ?_
      refine e_iload_n i_Puzzles_share_78 rfl ?_
      refine e_callV (as := [.ref w, .ref r1, .int ((2 : Int32) * v74), .int n3]) (st' := []) i_Puzzles_share_79 lm_157 (Or.inr (Or.inl ⟨rfl, rfl⟩)) w_Puzzles_levelled rfl rfl rfl (Nat.le_of_ble_eq_true rfl) (Nat.le_of_ble_eq_true rfl) (m_rlt (q_Puzzles_levelled _) (Nat.lt_of_lt_of_le (by decide) hρ)) rfl (fun s79 => ?_)
      refine e_aload_n i_Puzzles_share_82 rfl ?_
      refine e_iconst (v := 2) i_Puzzles_share_83 (by decide) ?_
      refine e_aload_n i_Puzzles_share_84 rfl ?_
      refine e_getI i_Puzzles_share_85 lf_58 (by decide) (Or.inl ft_2_2) (fun v85 => ?_)
      refine e_imul i_Puzzles_share_88 ?_
      refine e_aload_n i_Puzzles_share_89 rfl ?_
      refine e_iload_n i_Puzzles_share_90 rfl ?_
      refine e_callI (as := [.ref r1, .int n3]) (st' := [.int ((2 : Int32) * v85), .ref w]) i_Puzzles_share_91 lm_147 (Or.inr (Or.inl ⟨rfl, rfl⟩)) w_Row_itemAt rfl rfl rfl (Nat.le_of_ble_eq_true rfl) (Nat.le_of_ble_eq_true rfl) (m_rlt (q_Row_itemAt _) (Nat.lt_of_lt_of_le (by decide) hρ)) rfl (fun v91 s91 => ?_)
      refine e_imul i_Puzzles_share_94 ?_
      refine e_aload_n i_Puzzles_share_95 rfl ?_
      refine e_getI i_Puzzles_share_96 lf_57 (by decide) (Or.inl ft_2_1) (fun v96 => ?_)
      refine e_isub i_Puzzles_share_99 ?_
      refine e_iconst (v := 2) i_Puzzles_share_100 (by decide) ?_
      refine e_aload_n i_Puzzles_share_101 rfl ?_
      refine e_getI i_Puzzles_share_102 lf_58 (by decide) (Or.inl ft_2_2) (fun v102 => ?_)
      refine e_imul i_Puzzles_share_105 ?_
      refine e_callV (as := [.ref w, .int ((((2 : Int32) * v85) * v91) - v96), .int ((2 : Int32) * v102)]) (st' := []) i_Puzzles_share_106 lm_138 (Or.inr (Or.inl ⟨rfl, rfl⟩)) w_Puzzles_lowestTerms rfl rfl rfl (Nat.le_of_ble_eq_true rfl) (Nat.le_of_ble_eq_true rfl) (m_rlt (q_Puzzles_lowestTerms _) (Nat.lt_of_lt_of_le (by decide) hρ)) rfl (fun s106 => ?_)
      exact e_vret i_Puzzles_share_109 rfl
    · refine e_aload_n i_Puzzles_share_40 rfl ?_
      refine e_aload_n i_Puzzles_share_41 rfl ?_
      refine e_iconst (v := 2) i_Puzzles_share_42 (by decide) ?_
      refine e_iload_n i_Puzzles_share_43 rfl ?_
      refine e_imul i_Puzzles_share_44 ?_
      refine e_iload_n i_Puzzles_share_45 rfl ?_
      refine e_callV (as := [.ref w, .ref r1, .int ((2 : Int32) * n2), .int n3]) (st' := []) i_Puzzles_share_46 lm_157 (Or.inr (Or.inl ⟨rfl, rfl⟩)) w_Puzzles_levelled rfl rfl rfl (Nat.le_of_ble_eq_true rfl) (Nat.le_of_ble_eq_true rfl) (m_rlt (q_Puzzles_levelled _) (Nat.lt_of_lt_of_le (by decide) hρ)) rfl (fun s46 => ?_)
      refine e_aload_n i_Puzzles_share_49 rfl ?_
      refine e_aload_n i_Puzzles_share_50 rfl ?_
      refine e_getI i_Puzzles_share_51 lf_57 (by decide) (Or.inl ft_2_1) (fun v51 => ?_)
      refine e_iconst (v := 2) i_Puzzles_share_54 (by decide) ?_
      refine e_aload_n i_Puzzles_share_55 rfl ?_
      refine e_getI i_Puzzles_share_56 lf_58 (by decide) (Or.inl ft_2_2) (fun v56 => ?_)
      refine e_imul i_Puzzles_share_59 ?_
      refine e_callV (as := [.ref w, .int v51, .int ((2 : Int32) * v56)]) (st' := []) i_Puzzles_share_60 lm_138 (Or.inr (Or.inl ⟨rfl, rfl⟩)) w_Puzzles_lowestTerms rfl rfl rfl (Nat.le_of_ble_eq_true rfl) (Nat.le_of_ble_eq_true rfl) (m_rlt (q_Puzzles_lowestTerms _) (Nat.lt_of_lt_of_le (by decide) hρ)) rfl (fun s60 => ?_)
      refine e_goto (t := 109) i_Puzzles_share_63 (by decide) ?_
      exact e_vret i_Puzzles_share_109 rfl
  · refine e_iload i_Puzzles_share_15 rfl ?_
    refine e_aload_n i_Puzzles_share_17 rfl ?_
    refine e_iload i_Puzzles_share_18 rfl ?_
    refine e_callI (as := [.ref r1, .int n5]) (st' := [.int n4]) i_Puzzles_share_20 lm_147 (Or.inr (Or.inl ⟨rfl, rfl⟩)) w_Row_itemAt rfl rfl rfl (Nat.le_of_ble_eq_true rfl) (Nat.le_of_ble_eq_true rfl) (m_rlt (q_Row_itemAt _) (Nat.lt_of_lt_of_le (by decide) hρ)) rfl (fun v20 s20 => ?_)
    refine e_iadd i_Puzzles_share_23 ?_
    refine e_istore (L' := [some (.ref w), some (.ref r1), some (.int n2), some (.int n3), some (.int (n4 + v20)), some (.int n5)]) i_Puzzles_share_24 (of_decide_eq_true rfl) rfl ?_
    refine e_iinc (w := 1) (L' := [some (.ref w), some (.ref r1), some (.int n2), some (.int n3), some (.int (n4 + v20)), some (.int (n5 + (1 : Int32)))]) i_Puzzles_share_26 rfl (of_decide_eq_true rfl) (by decide) rfl ?_
    refine e_goto (t := 6) i_Puzzles_share_29 (by decide) ?_
    exact rfl
theorem i_Puzzles_lowestTerms_0 : m_at k_Puzzles_lowestTerms 0 = some (.iconst 1, 1, 0) := m_at_of r_Puzzles_lowestTerms (by decide +kernel)
theorem i_Puzzles_lowestTerms_1 : m_at k_Puzzles_lowestTerms 1 = some (.iload_n 1, 1, 0) := m_at_of r_Puzzles_lowestTerms (by decide +kernel)
theorem i_Puzzles_lowestTerms_2 : m_at k_Puzzles_lowestTerms 2 = some (.iload_n 2, 1, 0) := m_at_of r_Puzzles_lowestTerms (by decide +kernel)
theorem i_Puzzles_lowestTerms_3 : m_at k_Puzzles_lowestTerms 3 = some (.invokestatic 69, 3, 159) := m_at_of r_Puzzles_lowestTerms (by decide +kernel)
theorem i_Puzzles_lowestTerms_6 : m_at k_Puzzles_lowestTerms 6 = some (.invokestatic 49, 3, 158) := m_at_of r_Puzzles_lowestTerms (by decide +kernel)
theorem i_Puzzles_lowestTerms_9 : m_at k_Puzzles_lowestTerms 9 = some (.istore_n 3, 1, 0) := m_at_of r_Puzzles_lowestTerms (by decide +kernel)
theorem i_Puzzles_lowestTerms_10 : m_at k_Puzzles_lowestTerms 10 = some (.aload_n 0, 1, 0) := m_at_of r_Puzzles_lowestTerms (by decide +kernel)
theorem i_Puzzles_lowestTerms_11 : m_at k_Puzzles_lowestTerms 11 = some (.iload_n 1, 1, 0) := m_at_of r_Puzzles_lowestTerms (by decide +kernel)
theorem i_Puzzles_lowestTerms_12 : m_at k_Puzzles_lowestTerms 12 = some (.iload_n 3, 1, 0) := m_at_of r_Puzzles_lowestTerms (by decide +kernel)
theorem i_Puzzles_lowestTerms_13 : m_at k_Puzzles_lowestTerms 13 = some (.idiv, 1, 0) := m_at_of r_Puzzles_lowestTerms (by decide +kernel)
theorem i_Puzzles_lowestTerms_14 : m_at k_Puzzles_lowestTerms 14 = some (.putfield 59, 3, 57) := m_at_of r_Puzzles_lowestTerms (by decide +kernel)
theorem i_Puzzles_lowestTerms_17 : m_at k_Puzzles_lowestTerms 17 = some (.aload_n 0, 1, 0) := m_at_of r_Puzzles_lowestTerms (by decide +kernel)
theorem i_Puzzles_lowestTerms_18 : m_at k_Puzzles_lowestTerms 18 = some (.iload_n 2, 1, 0) := m_at_of r_Puzzles_lowestTerms (by decide +kernel)
theorem i_Puzzles_lowestTerms_19 : m_at k_Puzzles_lowestTerms 19 = some (.iload_n 3, 1, 0) := m_at_of r_Puzzles_lowestTerms (by decide +kernel)
theorem i_Puzzles_lowestTerms_20 : m_at k_Puzzles_lowestTerms 20 = some (.idiv, 1, 0) := m_at_of r_Puzzles_lowestTerms (by decide +kernel)
theorem i_Puzzles_lowestTerms_21 : m_at k_Puzzles_lowestTerms 21 = some (.putfield 62, 3, 58) := m_at_of r_Puzzles_lowestTerms (by decide +kernel)
theorem i_Puzzles_lowestTerms_24 : m_at k_Puzzles_lowestTerms 24 = some (.return_, 1, 0) := m_at_of r_Puzzles_lowestTerms (by decide +kernel)
set_option maxRecDepth 20000 in
set_option maxHeartbeats 1000000 in
theorem E_Puzzles_lowestTerms (x : m_X) (s : m_H) (w : Nat) (n1 : Int32) (n2 : Int32) : m_M x k_Puzzles_lowestTerms [.ref w, .int n1, .int n2] s = if m_isO s w 2 = true then (m_bI (m_M x k_G_commonOf [.int n1, .int n2] s) fun v3 s3 => m_bI (m_M x k_Math_max_II [.int 1, .int v3] s3) fun v6 s6 => if v6 = 0 then none else (m_pf s6 2 1 w (.int (n1 / v6))).bind fun s14 => if v6 = 0 then none else (m_pf s14 2 2 w (.int (n2 / v6))).bind fun s21 => some (none, s21)) else none := by
  refine e_M1 (L0 := [some (.ref w), some (.int n1), some (.int n2), none]) rfl (by decide +kernel) rfl (q_Puzzles_lowestTerms _) rfl ?_
  refine e_iconst (v := 1) i_Puzzles_lowestTerms_0 (by decide) ?_
  refine e_iload_n i_Puzzles_lowestTerms_1 rfl ?_
  refine e_iload_n i_Puzzles_lowestTerms_2 rfl ?_
  refine e_callI (as := [.int n1, .int n2]) (st' := [.int 1]) i_Puzzles_lowestTerms_3 lm_159 (Or.inl ⟨rfl, rfl⟩) w_G_commonOf rfl rfl rfl (Nat.le_of_ble_eq_true rfl) (Nat.le_of_ble_eq_true rfl) (m_rlt (q_G_commonOf _) (by decide)) rfl (fun v3 s3 => ?_)
  refine e_callI (as := [.int 1, .int v3]) (st' := []) i_Puzzles_lowestTerms_6 lm_158 (Or.inl ⟨rfl, rfl⟩) w_Math_max_II rfl rfl rfl (Nat.le_of_ble_eq_true rfl) (Nat.le_of_ble_eq_true rfl) (m_rlt (q_Math_max_II _) (by decide)) rfl (fun v6 s6 => ?_)
  refine e_istore_n (L' := [some (.ref w), some (.int n1), some (.int n2), some (.int v6)]) i_Puzzles_lowestTerms_9 (of_decide_eq_true rfl) rfl ?_
  refine e_aload_n i_Puzzles_lowestTerms_10 rfl ?_
  refine e_iload_n i_Puzzles_lowestTerms_11 rfl ?_
  refine e_iload_n i_Puzzles_lowestTerms_12 rfl ?_
  refine e_idiv i_Puzzles_lowestTerms_13 ?_
  refine e_putf i_Puzzles_lowestTerms_14 lf_57 ft_2_1 rfl (fun s14 => ?_)
  refine e_aload_n i_Puzzles_lowestTerms_17 rfl ?_
  refine e_iload_n i_Puzzles_lowestTerms_18 rfl ?_
  refine e_iload_n i_Puzzles_lowestTerms_19 rfl ?_
  refine e_idiv i_Puzzles_lowestTerms_20 ?_
  refine e_putf i_Puzzles_lowestTerms_21 lf_58 ft_2_2 rfl (fun s21 => ?_)
  exact e_vret i_Puzzles_lowestTerms_24 rfl
theorem i_Puzzles_levelled_0 : m_at k_Puzzles_levelled 0 = some (.iconst 0, 1, 0) := m_at_of r_Puzzles_levelled (by decide +kernel)
theorem i_Puzzles_levelled_1 : m_at k_Puzzles_levelled 1 = some (.istore 4, 2, 0) := m_at_of r_Puzzles_levelled (by decide +kernel)
theorem i_Puzzles_levelled_3 : m_at k_Puzzles_levelled 3 = some (.iload_n 2, 1, 0) := m_at_of r_Puzzles_levelled (by decide +kernel)
theorem i_Puzzles_levelled_4 : m_at k_Puzzles_levelled 4 = some (.istore 5, 2, 0) := m_at_of r_Puzzles_levelled (by decide +kernel)
theorem i_Puzzles_levelled_6 : m_at k_Puzzles_levelled 6 = some (.aload_n 1, 1, 0) := m_at_of r_Puzzles_levelled (by decide +kernel)
theorem i_Puzzles_levelled_7 : m_at k_Puzzles_levelled 7 = some (.getfield 38, 3, 51) := m_at_of r_Puzzles_levelled (by decide +kernel)
theorem i_Puzzles_levelled_10 : m_at k_Puzzles_levelled 10 = some (.istore 6, 2, 0) := m_at_of r_Puzzles_levelled (by decide +kernel)
theorem i_Puzzles_levelled_12 : m_at k_Puzzles_levelled 12 = some (.iconst 0, 1, 0) := m_at_of r_Puzzles_levelled (by decide +kernel)
theorem i_Puzzles_levelled_13 : m_at k_Puzzles_levelled 13 = some (.istore 7, 2, 0) := m_at_of r_Puzzles_levelled (by decide +kernel)
theorem i_Puzzles_levelled_15 : m_at k_Puzzles_levelled 15 = some (.iload 7, 2, 0) := m_at_of r_Puzzles_levelled (by decide +kernel)
theorem i_Puzzles_levelled_17 : m_at k_Puzzles_levelled 17 = some (.aload_n 1, 1, 0) := m_at_of r_Puzzles_levelled (by decide +kernel)
theorem i_Puzzles_levelled_18 : m_at k_Puzzles_levelled 18 = some (.getfield 38, 3, 51) := m_at_of r_Puzzles_levelled (by decide +kernel)
theorem i_Puzzles_levelled_21 : m_at k_Puzzles_levelled 21 = some (.if_icmp .ge (86), 3, 0) := m_at_of r_Puzzles_levelled (by decide +kernel)
theorem i_Puzzles_levelled_24 : m_at k_Puzzles_levelled 24 = some (.iconst 0, 1, 0) := m_at_of r_Puzzles_levelled (by decide +kernel)
theorem i_Puzzles_levelled_25 : m_at k_Puzzles_levelled 25 = some (.istore 8, 2, 0) := m_at_of r_Puzzles_levelled (by decide +kernel)
theorem i_Puzzles_levelled_27 : m_at k_Puzzles_levelled 27 = some (.iload 8, 2, 0) := m_at_of r_Puzzles_levelled (by decide +kernel)
theorem i_Puzzles_levelled_29 : m_at k_Puzzles_levelled 29 = some (.aload_n 1, 1, 0) := m_at_of r_Puzzles_levelled (by decide +kernel)
theorem i_Puzzles_levelled_30 : m_at k_Puzzles_levelled 30 = some (.getfield 38, 3, 51) := m_at_of r_Puzzles_levelled (by decide +kernel)
theorem i_Puzzles_levelled_33 : m_at k_Puzzles_levelled 33 = some (.if_icmp .ge (68), 3, 0) := m_at_of r_Puzzles_levelled (by decide +kernel)
theorem i_Puzzles_levelled_36 : m_at k_Puzzles_levelled 36 = some (.iload 4, 2, 0) := m_at_of r_Puzzles_levelled (by decide +kernel)
theorem i_Puzzles_levelled_38 : m_at k_Puzzles_levelled 38 = some (.iload 8, 2, 0) := m_at_of r_Puzzles_levelled (by decide +kernel)
theorem i_Puzzles_levelled_40 : m_at k_Puzzles_levelled 40 = some (.ishr, 1, 0) := m_at_of r_Puzzles_levelled (by decide +kernel)
theorem i_Puzzles_levelled_41 : m_at k_Puzzles_levelled 41 = some (.iconst 1, 1, 0) := m_at_of r_Puzzles_levelled (by decide +kernel)
theorem i_Puzzles_levelled_42 : m_at k_Puzzles_levelled 42 = some (.iand, 1, 0) := m_at_of r_Puzzles_levelled (by decide +kernel)
theorem i_Puzzles_levelled_43 : m_at k_Puzzles_levelled 43 = some (.ifCond .ne (7), 3, 0) := m_at_of r_Puzzles_levelled (by decide +kernel)
theorem i_Puzzles_levelled_46 : m_at k_Puzzles_levelled 46 = some (.iconst 1, 1, 0) := m_at_of r_Puzzles_levelled (by decide +kernel)
theorem i_Puzzles_levelled_47 : m_at k_Puzzles_levelled 47 = some (.goto (4), 3, 0) := m_at_of r_Puzzles_levelled (by decide +kernel)
theorem i_Puzzles_levelled_50 : m_at k_Puzzles_levelled 50 = some (.iconst 0, 1, 0) := m_at_of r_Puzzles_levelled (by decide +kernel)
theorem i_Puzzles_levelled_51 : m_at k_Puzzles_levelled 51 = some (.istore 9, 2, 0) := m_at_of r_Puzzles_levelled (by decide +kernel)
theorem i_Puzzles_levelled_53 : m_at k_Puzzles_levelled 53 = some (.iload 9, 2, 0) := m_at_of r_Puzzles_levelled (by decide +kernel)
theorem i_Puzzles_levelled_55 : m_at k_Puzzles_levelled 55 = some (.ifCond .eq (40), 3, 0) := m_at_of r_Puzzles_levelled (by decide +kernel)
theorem i_Puzzles_levelled_58 : m_at k_Puzzles_levelled 58 = some (.aload_n 1, 1, 0) := m_at_of r_Puzzles_levelled (by decide +kernel)
theorem i_Puzzles_levelled_59 : m_at k_Puzzles_levelled 59 = some (.iload 8, 2, 0) := m_at_of r_Puzzles_levelled (by decide +kernel)
theorem i_Puzzles_levelled_61 : m_at k_Puzzles_levelled 61 = some (.invokevirtual 43, 3, 147) := m_at_of r_Puzzles_levelled (by decide +kernel)
theorem i_Puzzles_levelled_64 : m_at k_Puzzles_levelled 64 = some (.iload 6, 2, 0) := m_at_of r_Puzzles_levelled (by decide +kernel)
theorem i_Puzzles_levelled_66 : m_at k_Puzzles_levelled 66 = some (.imul, 1, 0) := m_at_of r_Puzzles_levelled (by decide +kernel)
theorem i_Puzzles_levelled_67 : m_at k_Puzzles_levelled 67 = some (.iload 5, 2, 0) := m_at_of r_Puzzles_levelled (by decide +kernel)
theorem i_Puzzles_levelled_69 : m_at k_Puzzles_levelled 69 = some (.if_icmp .gt (26), 3, 0) := m_at_of r_Puzzles_levelled (by decide +kernel)
theorem i_Puzzles_levelled_72 : m_at k_Puzzles_levelled 72 = some (.iload 4, 2, 0) := m_at_of r_Puzzles_levelled (by decide +kernel)
theorem i_Puzzles_levelled_74 : m_at k_Puzzles_levelled 74 = some (.iconst 1, 1, 0) := m_at_of r_Puzzles_levelled (by decide +kernel)
theorem i_Puzzles_levelled_75 : m_at k_Puzzles_levelled 75 = some (.iload 8, 2, 0) := m_at_of r_Puzzles_levelled (by decide +kernel)
theorem i_Puzzles_levelled_77 : m_at k_Puzzles_levelled 77 = some (.ishl, 1, 0) := m_at_of r_Puzzles_levelled (by decide +kernel)
theorem i_Puzzles_levelled_78 : m_at k_Puzzles_levelled 78 = some (.ior, 1, 0) := m_at_of r_Puzzles_levelled (by decide +kernel)
theorem i_Puzzles_levelled_79 : m_at k_Puzzles_levelled 79 = some (.istore 4, 2, 0) := m_at_of r_Puzzles_levelled (by decide +kernel)
theorem i_Puzzles_levelled_81 : m_at k_Puzzles_levelled 81 = some (.iload 5, 2, 0) := m_at_of r_Puzzles_levelled (by decide +kernel)
theorem i_Puzzles_levelled_83 : m_at k_Puzzles_levelled 83 = some (.aload_n 1, 1, 0) := m_at_of r_Puzzles_levelled (by decide +kernel)
theorem i_Puzzles_levelled_84 : m_at k_Puzzles_levelled 84 = some (.iload 8, 2, 0) := m_at_of r_Puzzles_levelled (by decide +kernel)
theorem i_Puzzles_levelled_86 : m_at k_Puzzles_levelled 86 = some (.invokevirtual 43, 3, 147) := m_at_of r_Puzzles_levelled (by decide +kernel)
theorem i_Puzzles_levelled_89 : m_at k_Puzzles_levelled 89 = some (.isub, 1, 0) := m_at_of r_Puzzles_levelled (by decide +kernel)
theorem i_Puzzles_levelled_90 : m_at k_Puzzles_levelled 90 = some (.istore 5, 2, 0) := m_at_of r_Puzzles_levelled (by decide +kernel)
theorem i_Puzzles_levelled_92 : m_at k_Puzzles_levelled 92 = some (.iinc 6 (-1), 3, 0) := m_at_of r_Puzzles_levelled (by decide +kernel)
theorem i_Puzzles_levelled_95 : m_at k_Puzzles_levelled 95 = some (.iinc 8 (1), 3, 0) := m_at_of r_Puzzles_levelled (by decide +kernel)
theorem i_Puzzles_levelled_98 : m_at k_Puzzles_levelled 98 = some (.goto (-71), 3, 0) := m_at_of r_Puzzles_levelled (by decide +kernel)
theorem i_Puzzles_levelled_101 : m_at k_Puzzles_levelled 101 = some (.iinc 7 (1), 3, 0) := m_at_of r_Puzzles_levelled (by decide +kernel)
theorem i_Puzzles_levelled_104 : m_at k_Puzzles_levelled 104 = some (.goto (-89), 3, 0) := m_at_of r_Puzzles_levelled (by decide +kernel)
theorem i_Puzzles_levelled_107 : m_at k_Puzzles_levelled 107 = some (.iload 4, 2, 0) := m_at_of r_Puzzles_levelled (by decide +kernel)
theorem i_Puzzles_levelled_109 : m_at k_Puzzles_levelled 109 = some (.iload_n 3, 1, 0) := m_at_of r_Puzzles_levelled (by decide +kernel)
theorem i_Puzzles_levelled_110 : m_at k_Puzzles_levelled 110 = some (.ishr, 1, 0) := m_at_of r_Puzzles_levelled (by decide +kernel)
theorem i_Puzzles_levelled_111 : m_at k_Puzzles_levelled 111 = some (.iconst 1, 1, 0) := m_at_of r_Puzzles_levelled (by decide +kernel)
theorem i_Puzzles_levelled_112 : m_at k_Puzzles_levelled 112 = some (.iand, 1, 0) := m_at_of r_Puzzles_levelled (by decide +kernel)
theorem i_Puzzles_levelled_113 : m_at k_Puzzles_levelled 113 = some (.iconst 1, 1, 0) := m_at_of r_Puzzles_levelled (by decide +kernel)
theorem i_Puzzles_levelled_114 : m_at k_Puzzles_levelled 114 = some (.if_icmp .ne (7), 3, 0) := m_at_of r_Puzzles_levelled (by decide +kernel)
theorem i_Puzzles_levelled_117 : m_at k_Puzzles_levelled 117 = some (.iconst 1, 1, 0) := m_at_of r_Puzzles_levelled (by decide +kernel)
theorem i_Puzzles_levelled_118 : m_at k_Puzzles_levelled 118 = some (.goto (4), 3, 0) := m_at_of r_Puzzles_levelled (by decide +kernel)
theorem i_Puzzles_levelled_121 : m_at k_Puzzles_levelled 121 = some (.iconst 0, 1, 0) := m_at_of r_Puzzles_levelled (by decide +kernel)
theorem i_Puzzles_levelled_122 : m_at k_Puzzles_levelled 122 = some (.istore 7, 2, 0) := m_at_of r_Puzzles_levelled (by decide +kernel)
theorem i_Puzzles_levelled_124 : m_at k_Puzzles_levelled 124 = some (.aload_n 0, 1, 0) := m_at_of r_Puzzles_levelled (by decide +kernel)
theorem i_Puzzles_levelled_125 : m_at k_Puzzles_levelled 125 = some (.iload 7, 2, 0) := m_at_of r_Puzzles_levelled (by decide +kernel)
theorem i_Puzzles_levelled_127 : m_at k_Puzzles_levelled 127 = some (.ifCond .eq (11), 3, 0) := m_at_of r_Puzzles_levelled (by decide +kernel)
theorem i_Puzzles_levelled_130 : m_at k_Puzzles_levelled 130 = some (.aload_n 1, 1, 0) := m_at_of r_Puzzles_levelled (by decide +kernel)
theorem i_Puzzles_levelled_131 : m_at k_Puzzles_levelled 131 = some (.iload_n 3, 1, 0) := m_at_of r_Puzzles_levelled (by decide +kernel)
theorem i_Puzzles_levelled_132 : m_at k_Puzzles_levelled 132 = some (.invokevirtual 43, 3, 147) := m_at_of r_Puzzles_levelled (by decide +kernel)
theorem i_Puzzles_levelled_135 : m_at k_Puzzles_levelled 135 = some (.goto (5), 3, 0) := m_at_of r_Puzzles_levelled (by decide +kernel)
theorem i_Puzzles_levelled_138 : m_at k_Puzzles_levelled 138 = some (.iload 5, 2, 0) := m_at_of r_Puzzles_levelled (by decide +kernel)
theorem i_Puzzles_levelled_140 : m_at k_Puzzles_levelled 140 = some (.putfield 59, 3, 57) := m_at_of r_Puzzles_levelled (by decide +kernel)
theorem i_Puzzles_levelled_143 : m_at k_Puzzles_levelled 143 = some (.aload_n 0, 1, 0) := m_at_of r_Puzzles_levelled (by decide +kernel)
theorem i_Puzzles_levelled_144 : m_at k_Puzzles_levelled 144 = some (.iload 7, 2, 0) := m_at_of r_Puzzles_levelled (by decide +kernel)
theorem i_Puzzles_levelled_146 : m_at k_Puzzles_levelled 146 = some (.ifCond .eq (7), 3, 0) := m_at_of r_Puzzles_levelled (by decide +kernel)
theorem i_Puzzles_levelled_149 : m_at k_Puzzles_levelled 149 = some (.iconst 1, 1, 0) := m_at_of r_Puzzles_levelled (by decide +kernel)
theorem i_Puzzles_levelled_150 : m_at k_Puzzles_levelled 150 = some (.goto (9), 3, 0) := m_at_of r_Puzzles_levelled (by decide +kernel)
theorem i_Puzzles_levelled_153 : m_at k_Puzzles_levelled 153 = some (.iconst 1, 1, 0) := m_at_of r_Puzzles_levelled (by decide +kernel)
theorem i_Puzzles_levelled_154 : m_at k_Puzzles_levelled 154 = some (.iload 6, 2, 0) := m_at_of r_Puzzles_levelled (by decide +kernel)
theorem i_Puzzles_levelled_156 : m_at k_Puzzles_levelled 156 = some (.invokestatic 49, 3, 158) := m_at_of r_Puzzles_levelled (by decide +kernel)
theorem i_Puzzles_levelled_159 : m_at k_Puzzles_levelled 159 = some (.putfield 62, 3, 58) := m_at_of r_Puzzles_levelled (by decide +kernel)
theorem i_Puzzles_levelled_162 : m_at k_Puzzles_levelled 162 = some (.return_, 1, 0) := m_at_of r_Puzzles_levelled (by decide +kernel)
set_option maxRecDepth 20000 in
set_option maxHeartbeats 1000000 in
theorem E_Puzzles_levelled (x : m_X) (s : m_H) (w : Nat) (r1 : Nat) (n2 : Int32) (n3 : Int32) : m_M x k_Puzzles_levelled [.ref w, .ref r1, .int n2, .int n3] s = if m_isO s w 2 = true then ((m_fI s 4 1 r1).bind fun v7 => m_D x 2 k_Puzzles_levelled 15 [some (.ref w), some (.ref r1), some (.int n2), some (.int n3), some (.int 0), some (.int n2), some (.int v7), some (.int 0), none, none] [] s) else none := by
  refine e_M1 (L0 := [some (.ref w), some (.ref r1), some (.int n2), some (.int n3), none, none, none, none, none, none]) rfl (by decide +kernel) rfl (q_Puzzles_levelled _) rfl ?_
  refine e_iconst (v := 0) i_Puzzles_levelled_0 (by decide) ?_
  refine e_istore (L' := [some (.ref w), some (.ref r1), some (.int n2), some (.int n3), some (.int 0), none, none, none, none, none]) i_Puzzles_levelled_1 (of_decide_eq_true rfl) rfl ?_
  refine e_iload_n i_Puzzles_levelled_3 rfl ?_
  refine e_istore (L' := [some (.ref w), some (.ref r1), some (.int n2), some (.int n3), some (.int 0), some (.int n2), none, none, none, none]) i_Puzzles_levelled_4 (of_decide_eq_true rfl) rfl ?_
  refine e_aload_n i_Puzzles_levelled_6 rfl ?_
  refine e_getI i_Puzzles_levelled_7 lf_51 (by decide) (Or.inl ft_4_1) (fun v7 => ?_)
  refine e_istore (L' := [some (.ref w), some (.ref r1), some (.int n2), some (.int n3), some (.int 0), some (.int n2), some (.int v7), none, none, none]) i_Puzzles_levelled_10 (of_decide_eq_true rfl) rfl ?_
  refine e_iconst (v := 0) i_Puzzles_levelled_12 (by decide) ?_
  refine e_istore (L' := [some (.ref w), some (.ref r1), some (.int n2), some (.int n3), some (.int 0), some (.int n2), some (.int v7), some (.int 0), none, none]) i_Puzzles_levelled_13 (of_decide_eq_true rfl) rfl ?_
  exact rfl
set_option maxRecDepth 20000 in
set_option maxHeartbeats 1000000 in
theorem E_Puzzles_levelled_15 (x : m_X) (ρ : Nat) (hρ : 2 ≤ ρ) (s : m_H) (w : Nat) (r1 : Nat) (n2 : Int32) (n3 : Int32) (n4 : Int32) (n5 : Int32) (n6 : Int32) (n7 : Int32) (d8 : Option Value) (d9 : Option Value) (hd8 : m_nl d8 = true) (hd9 : m_nl d9 = true) : m_D x ρ k_Puzzles_levelled 15 [some (.ref w), some (.ref r1), some (.int n2), some (.int n3), some (.int n4), some (.int n5), some (.int n6), some (.int n7), d8, d9] [] s = (m_fI s 4 1 r1).bind fun v18 => if v18 ≤ n7 then (if ((n4 >>> (n3 &&& (31 : Int32))) &&& (1 : Int32)) = 1 then (m_D x ρ k_Puzzles_levelled 122 [some (.ref w), some (.ref r1), some (.int n2), some (.int n3), some (.int n4), some (.int n5), some (.int n6), some (.int n7), d8, d9] [.int 1] s) else m_D x ρ k_Puzzles_levelled 122 [some (.ref w), some (.ref r1), some (.int n2), some (.int n3), some (.int n4), some (.int n5), some (.int n6), some (.int n7), d8, d9] [.int 0] s) else m_D x ρ k_Puzzles_levelled 27 [some (.ref w), some (.ref r1), some (.int n2), some (.int n3), some (.int n4), some (.int n5), some (.int n6), some (.int n7), some (.int 0), d9] [] s := by
  refine e_iload i_Puzzles_levelled_15 rfl ?_
  refine e_aload_n i_Puzzles_levelled_17 rfl ?_
  refine e_getI i_Puzzles_levelled_18 lf_51 (by decide) (Or.inl ft_4_1) (fun v18 => ?_)
  refine e_icmpge (t := 107) i_Puzzles_levelled_21 (by decide) ?_ ?_
  · refine e_iload i_Puzzles_levelled_107 rfl ?_
    refine e_iload_n i_Puzzles_levelled_109 rfl ?_
    refine e_ishr i_Puzzles_levelled_110 ?_
    refine e_iconst (v := 1) i_Puzzles_levelled_111 (by decide) ?_
    refine e_iand i_Puzzles_levelled_112 ?_
    refine e_iconst (v := 1) i_Puzzles_levelled_113 (by decide) ?_
    refine e_icmpne (t := 121) i_Puzzles_levelled_114 (by decide) ?_ ?_
    · refine e_iconst (v := 0) i_Puzzles_levelled_121 (by decide) ?_
      exact rfl
    · refine e_iconst (v := 1) i_Puzzles_levelled_117 (by decide) ?_
      refine e_goto (t := 122) i_Puzzles_levelled_118 (by decide) ?_
      exact rfl
  · refine e_iconst (v := 0) i_Puzzles_levelled_24 (by decide) ?_
    refine e_istore (L' := [some (.ref w), some (.ref r1), some (.int n2), some (.int n3), some (.int n4), some (.int n5), some (.int n6), some (.int n7), some (.int 0), d9]) i_Puzzles_levelled_25 (of_decide_eq_true rfl) rfl ?_
    exact rfl
set_option maxRecDepth 20000 in
set_option maxHeartbeats 1000000 in
theorem E_Puzzles_levelled_27 (x : m_X) (ρ : Nat) (hρ : 2 ≤ ρ) (s : m_H) (w : Nat) (r1 : Nat) (n2 : Int32) (n3 : Int32) (n4 : Int32) (n5 : Int32) (n6 : Int32) (n7 : Int32) (n8 : Int32) (d9 : Option Value) (hd9 : m_nl d9 = true) : m_D x ρ k_Puzzles_levelled 27 [some (.ref w), some (.ref r1), some (.int n2), some (.int n3), some (.int n4), some (.int n5), some (.int n6), some (.int n7), some (.int n8), d9] [] s = (m_fI s 4 1 r1).bind fun v30 => if v30 ≤ n8 then (m_D x ρ k_Puzzles_levelled 15 [some (.ref w), some (.ref r1), some (.int n2), some (.int n3), some (.int n4), some (.int n5), some (.int n6), some (.int (n7 + (1 : Int32))), some (.int n8), d9] [] s) else if ((n4 >>> (n8 &&& (31 : Int32))) &&& (1 : Int32)) = 0 then (m_D x ρ k_Puzzles_levelled 51 [some (.ref w), some (.ref r1), some (.int n2), some (.int n3), some (.int n4), some (.int n5), some (.int n6), some (.int n7), some (.int n8), d9] [.int 1] s) else m_D x ρ k_Puzzles_levelled 51 [some (.ref w), some (.ref r1), some (.int n2), some (.int n3), some (.int n4), some (.int n5), some (.int n6), some (.int n7), some (.int n8), d9] [.int 0] s := by
  refine e_iload i_Puzzles_levelled_27 rfl ?_
  refine e_aload_n i_Puzzles_levelled_29 rfl ?_
  refine e_getI i_Puzzles_levelled_30 lf_51 (by decide) (Or.inl ft_4_1) (fun v30 => ?_)
  refine e_icmpge (t := 101) i_Puzzles_levelled_33 (by decide) ?_ ?_
  · refine e_iinc (w := 1) (L' := [some (.ref w), some (.ref r1), some (.int n2), some (.int n3), some (.int n4), some (.int n5), some (.int n6), some (.int (n7 + (1 : Int32))), some (.int n8), d9]) i_Puzzles_levelled_101 rfl (of_decide_eq_true rfl) (by decide) rfl ?_
    refine e_goto (t := 15) i_Puzzles_levelled_104 (by decide) ?_
    exact rfl
  · refine e_iload i_Puzzles_levelled_36 rfl ?_
    refine e_iload i_Puzzles_levelled_38 rfl ?_
    refine e_ishr i_Puzzles_levelled_40 ?_
    refine e_iconst (v := 1) i_Puzzles_levelled_41 (by decide) ?_
    refine e_iand i_Puzzles_levelled_42 ?_
    refine e_ifne (t := 50) i_Puzzles_levelled_43 (by decide) ?_ ?_
    · refine e_iconst (v := 0) i_Puzzles_levelled_50 (by decide) ?_
      exact rfl
    · refine e_iconst (v := 1) i_Puzzles_levelled_46 (by decide) ?_
      refine e_goto (t := 51) i_Puzzles_levelled_47 (by decide) ?_
      exact rfl
set_option maxRecDepth 20000 in
set_option maxHeartbeats 1000000 in
theorem E_Puzzles_levelled_51 (x : m_X) (ρ : Nat) (hρ : 2 ≤ ρ) (s : m_H) (w : Nat) (r1 : Nat) (n2 : Int32) (n3 : Int32) (n4 : Int32) (n5 : Int32) (n6 : Int32) (n7 : Int32) (n8 : Int32) (d9 : Option Value) (nt0 : Int32) (hd9 : m_nl d9 = true) : m_D x ρ k_Puzzles_levelled 51 [some (.ref w), some (.ref r1), some (.int n2), some (.int n3), some (.int n4), some (.int n5), some (.int n6), some (.int n7), some (.int n8), d9] [.int nt0] s = if nt0 = 0 then (m_D x ρ k_Puzzles_levelled 27 [some (.ref w), some (.ref r1), some (.int n2), some (.int n3), some (.int n4), some (.int n5), some (.int n6), some (.int n7), some (.int (n8 + (1 : Int32))), some (.int nt0)] [] s) else m_bI (m_M x k_Row_itemAt [.ref r1, .int n8] s) fun v61 s61 => if n5 < (v61 * n6) then (m_D x ρ k_Puzzles_levelled 27 [some (.ref w), some (.ref r1), some (.int n2), some (.int n3), some (.int n4), some (.int n5), some (.int n6), some (.int n7), some (.int (n8 + (1 : Int32))), some (.int nt0)] [] s61) else m_bI (m_M x k_Row_itemAt [.ref r1, .int n8] s61) fun v86 s86 => m_D x ρ k_Puzzles_levelled 27 [some (.ref w), some (.ref r1), some (.int n2), some (.int n3), some (.int (n4 ||| ((1 : Int32) <<< (n8 &&& (31 : Int32))))), some (.int (n5 - v86)), some (.int (n6 + (-1 : Int32))), some (.int n7), some (.int (n8 + (1 : Int32))), some (.int nt0)] [] s86 := by
  refine e_istore (L' := [some (.ref w), some (.ref r1), some (.int n2), some (.int n3), some (.int n4), some (.int n5), some (.int n6), some (.int n7), some (.int n8), some (.int nt0)]) i_Puzzles_levelled_51 (of_decide_eq_true rfl) rfl ?_
  refine e_iload i_Puzzles_levelled_53 rfl ?_
  refine e_ifeq (t := 95) i_Puzzles_levelled_55 (by decide) ?_ ?_
  · refine e_iinc (w := 1) (L' := [some (.ref w), some (.ref r1), some (.int n2), some (.int n3), some (.int n4), some (.int n5), some (.int n6), some (.int n7), some (.int (n8 + (1 : Int32))), some (.int nt0)]) i_Puzzles_levelled_95 rfl (of_decide_eq_true rfl) (by decide) rfl ?_
    refine e_goto (t := 27) i_Puzzles_levelled_98 (by decide) ?_
    exact rfl
  · refine e_aload_n i_Puzzles_levelled_58 rfl ?_
    refine e_iload i_Puzzles_levelled_59 rfl ?_
    refine e_callI (as := [.ref r1, .int n8]) (st' := []) i_Puzzles_levelled_61 lm_147 (Or.inr (Or.inl ⟨rfl, rfl⟩)) w_Row_itemAt rfl rfl rfl (Nat.le_of_ble_eq_true rfl) (Nat.le_of_ble_eq_true rfl) (m_rlt (q_Row_itemAt _) (Nat.lt_of_lt_of_le (by decide) hρ)) rfl (fun v61 s61 => ?_)
    refine e_iload i_Puzzles_levelled_64 rfl ?_
    refine e_imul i_Puzzles_levelled_66 ?_
    refine e_iload i_Puzzles_levelled_67 rfl ?_
    refine e_icmpgt (t := 95) i_Puzzles_levelled_69 (by decide) ?_ ?_
    · refine e_iinc (w := 1) (L' := [some (.ref w), some (.ref r1), some (.int n2), some (.int n3), some (.int n4), some (.int n5), some (.int n6), some (.int n7), some (.int (n8 + (1 : Int32))), some (.int nt0)]) i_Puzzles_levelled_95 rfl (of_decide_eq_true rfl) (by decide) rfl ?_
      refine e_goto (t := 27) i_Puzzles_levelled_98 (by decide) ?_
      exact rfl
    · refine e_iload i_Puzzles_levelled_72 rfl ?_
      refine e_iconst (v := 1) i_Puzzles_levelled_74 (by decide) ?_
      refine e_iload i_Puzzles_levelled_75 rfl ?_
      refine e_ishl i_Puzzles_levelled_77 ?_
      refine e_ior i_Puzzles_levelled_78 ?_
      refine e_istore (L' := [some (.ref w), some (.ref r1), some (.int n2), some (.int n3), some (.int (n4 ||| ((1 : Int32) <<< (n8 &&& (31 : Int32))))), some (.int n5), some (.int n6), some (.int n7), some (.int n8), some (.int nt0)]) i_Puzzles_levelled_79 (of_decide_eq_true rfl) rfl ?_
      refine e_iload i_Puzzles_levelled_81 rfl ?_
      refine e_aload_n i_Puzzles_levelled_83 rfl ?_
      refine e_iload i_Puzzles_levelled_84 rfl ?_
      refine e_callI (as := [.ref r1, .int n8]) (st' := [.int n5]) i_Puzzles_levelled_86 lm_147 (Or.inr (Or.inl ⟨rfl, rfl⟩)) w_Row_itemAt rfl rfl rfl (Nat.le_of_ble_eq_true rfl) (Nat.le_of_ble_eq_true rfl) (m_rlt (q_Row_itemAt _) (Nat.lt_of_lt_of_le (by decide) hρ)) rfl (fun v86 s86 => ?_)
      refine e_isub i_Puzzles_levelled_89 ?_
      refine e_istore (L' := [some (.ref w), some (.ref r1), some (.int n2), some (.int n3), some (.int (n4 ||| ((1 : Int32) <<< (n8 &&& (31 : Int32))))), some (.int (n5 - v86)), some (.int n6), some (.int n7), some (.int n8), some (.int nt0)]) i_Puzzles_levelled_90 (of_decide_eq_true rfl) rfl ?_
      refine e_iinc (w := (-1)) (L' := [some (.ref w), some (.ref r1), some (.int n2), some (.int n3), some (.int (n4 ||| ((1 : Int32) <<< (n8 &&& (31 : Int32))))), some (.int (n5 - v86)), some (.int (n6 + (-1 : Int32))), some (.int n7), some (.int n8), some (.int nt0)]) i_Puzzles_levelled_92 rfl (of_decide_eq_true rfl) (by decide) rfl ?_
      refine e_iinc (w := 1) (L' := [some (.ref w), some (.ref r1), some (.int n2), some (.int n3), some (.int (n4 ||| ((1 : Int32) <<< (n8 &&& (31 : Int32))))), some (.int (n5 - v86)), some (.int (n6 + (-1 : Int32))), some (.int n7), some (.int (n8 + (1 : Int32))), some (.int nt0)]) i_Puzzles_levelled_95 rfl (of_decide_eq_true rfl) (by decide) rfl ?_
      refine e_goto (t := 27) i_Puzzles_levelled_98 (by decide) ?_
      exact rfl
set_option maxRecDepth 20000 in
set_option maxHeartbeats 1000000 in
theorem E_Puzzles_levelled_122 (x : m_X) (ρ : Nat) (hρ : 2 ≤ ρ) (s : m_H) (w : Nat) (r1 : Nat) (n2 : Int32) (n3 : Int32) (n4 : Int32) (n5 : Int32) (n6 : Int32) (n7 : Int32) (d8 : Option Value) (d9 : Option Value) (nt0 : Int32) (hd8 : m_nl d8 = true) (hd9 : m_nl d9 = true) : m_D x ρ k_Puzzles_levelled 122 [some (.ref w), some (.ref r1), some (.int n2), some (.int n3), some (.int n4), some (.int n5), some (.int n6), some (.int n7), d8, d9] [.int nt0] s = if nt0 = 0 then ((m_pf s 2 1 w (.int n5)).bind fun s140 => if nt0 = 0 then (m_bI (m_M x k_Math_max_II [.int 1, .int n6] s140) fun v156 s156 => (m_pf s156 2 2 w (.int v156)).bind fun s159 => some (none, s159)) else (m_pf s140 2 2 w (.int 1)).bind fun s159 => some (none, s159)) else m_bI (m_M x k_Row_itemAt [.ref r1, .int n3] s) fun v132 s132 => (m_pf s132 2 1 w (.int v132)).bind fun s140 => if nt0 = 0 then (m_bI (m_M x k_Math_max_II [.int 1, .int n6] s140) fun v156 s156 => (m_pf s156 2 2 w (.int v156)).bind fun s159 => some (none, s159)) else (m_pf s140 2 2 w (.int 1)).bind fun s159 => some (none, s159) := by
  refine e_istore (L' := [some (.ref w), some (.ref r1), some (.int n2), some (.int n3), some (.int n4), some (.int n5), some (.int n6), some (.int nt0), d8, d9]) i_Puzzles_levelled_122 (of_decide_eq_true rfl) rfl ?_
  refine e_aload_n i_Puzzles_levelled_124 rfl ?_
  refine e_iload i_Puzzles_levelled_125 rfl ?_
  refine e_ifeq (t := 138) i_Puzzles_levelled_127 (by decide) ?_ ?_
  · refine e_iload i_Puzzles_levelled_138 rfl ?_
    refine e_putf i_Puzzles_levelled_140 lf_57 ft_2_1 rfl (fun s140 => ?_)
    refine e_aload_n i_Puzzles_levelled_143 rfl ?_
    refine e_iload i_Puzzles_levelled_144 rfl ?_
    refine e_ifeq (t := 153) i_Puzzles_levelled_146 (by decide) ?_ ?_
    · refine e_iconst (v := 1) i_Puzzles_levelled_153 (by decide) ?_
      refine e_iload i_Puzzles_levelled_154 rfl ?_
      refine e_callI (as := [.int 1, .int n6]) (st' := [.ref w]) i_Puzzles_levelled_156 lm_158 (Or.inl ⟨rfl, rfl⟩) w_Math_max_II rfl rfl rfl (Nat.le_of_ble_eq_true rfl) (Nat.le_of_ble_eq_true rfl) (m_rlt (q_Math_max_II _) (Nat.lt_of_lt_of_le (by decide) hρ)) rfl (fun v156 s156 => ?_)
      refine e_putf i_Puzzles_levelled_159 lf_58 ft_2_2 rfl (fun s159 => ?_)
      exact e_vret i_Puzzles_levelled_162 rfl
    · refine e_iconst (v := 1) i_Puzzles_levelled_149 (by decide) ?_
      refine e_goto (t := 159) i_Puzzles_levelled_150 (by decide) ?_
      refine e_putf i_Puzzles_levelled_159 lf_58 ft_2_2 rfl (fun s159 => ?_)
      exact e_vret i_Puzzles_levelled_162 rfl
  · refine e_aload_n i_Puzzles_levelled_130 rfl ?_
    refine e_iload_n i_Puzzles_levelled_131 rfl ?_
    refine e_callI (as := [.ref r1, .int n3]) (st' := [.ref w]) i_Puzzles_levelled_132 lm_147 (Or.inr (Or.inl ⟨rfl, rfl⟩)) w_Row_itemAt rfl rfl rfl (Nat.le_of_ble_eq_true rfl) (Nat.le_of_ble_eq_true rfl) (m_rlt (q_Row_itemAt _) (Nat.lt_of_lt_of_le (by decide) hρ)) rfl (fun v132 s132 => ?_)
    refine e_goto (t := 140) i_Puzzles_levelled_135 (by decide) ?_
    refine e_putf i_Puzzles_levelled_140 lf_57 ft_2_1 rfl (fun s140 => ?_)
    refine e_aload_n i_Puzzles_levelled_143 rfl ?_
    refine e_iload i_Puzzles_levelled_144 rfl ?_
    refine e_ifeq (t := 153) i_Puzzles_levelled_146 (by decide) ?_ ?_
    · refine e_iconst (v := 1) i_Puzzles_levelled_153 (by decide) ?_
      refine e_iload i_Puzzles_levelled_154 rfl ?_
      refine e_callI (as := [.int 1, .int n6]) (st' := [.ref w]) i_Puzzles_levelled_156 lm_158 (Or.inl ⟨rfl, rfl⟩) w_Math_max_II rfl rfl rfl (Nat.le_of_ble_eq_true rfl) (Nat.le_of_ble_eq_true rfl) (m_rlt (q_Math_max_II _) (Nat.lt_of_lt_of_le (by decide) hρ)) rfl (fun v156 s156 => ?_)
      refine e_putf i_Puzzles_levelled_159 lf_58 ft_2_2 rfl (fun s159 => ?_)
      exact e_vret i_Puzzles_levelled_162 rfl
    · refine e_iconst (v := 1) i_Puzzles_levelled_149 (by decide) ?_
      refine e_goto (t := 159) i_Puzzles_levelled_150 (by decide) ?_
      refine e_putf i_Puzzles_levelled_159 lf_58 ft_2_2 rfl (fun s159 => ?_)
      exact e_vret i_Puzzles_levelled_162 rfl
theorem i_Puzzles_fewestTries_0 : m_at k_Puzzles_fewestTries 0 = some (.sipush 1000, 3, 0) := m_at_of r_Puzzles_fewestTries (by decide +kernel)
theorem i_Puzzles_fewestTries_3 : m_at k_Puzzles_fewestTries 3 = some (.istore_n 3, 1, 0) := m_at_of r_Puzzles_fewestTries (by decide +kernel)
theorem i_Puzzles_fewestTries_4 : m_at k_Puzzles_fewestTries 4 = some (.iconst 1, 1, 0) := m_at_of r_Puzzles_fewestTries (by decide +kernel)
theorem i_Puzzles_fewestTries_5 : m_at k_Puzzles_fewestTries 5 = some (.istore 4, 2, 0) := m_at_of r_Puzzles_fewestTries (by decide +kernel)
theorem i_Puzzles_fewestTries_7 : m_at k_Puzzles_fewestTries 7 = some (.iload 4, 2, 0) := m_at_of r_Puzzles_fewestTries (by decide +kernel)
theorem i_Puzzles_fewestTries_9 : m_at k_Puzzles_fewestTries 9 = some (.iload_n 2, 1, 0) := m_at_of r_Puzzles_fewestTries (by decide +kernel)
theorem i_Puzzles_fewestTries_10 : m_at k_Puzzles_fewestTries 10 = some (.if_icmp .gt (42), 3, 0) := m_at_of r_Puzzles_fewestTries (by decide +kernel)
theorem i_Puzzles_fewestTries_13 : m_at k_Puzzles_fewestTries 13 = some (.iload 4, 2, 0) := m_at_of r_Puzzles_fewestTries (by decide +kernel)
theorem i_Puzzles_fewestTries_15 : m_at k_Puzzles_fewestTries 15 = some (.sipush 128, 3, 0) := m_at_of r_Puzzles_fewestTries (by decide +kernel)
theorem i_Puzzles_fewestTries_18 : m_at k_Puzzles_fewestTries 18 = some (.if_icmp .ge (34), 3, 0) := m_at_of r_Puzzles_fewestTries (by decide +kernel)
theorem i_Puzzles_fewestTries_21 : m_at k_Puzzles_fewestTries 21 = some (.iload 4, 2, 0) := m_at_of r_Puzzles_fewestTries (by decide +kernel)
theorem i_Puzzles_fewestTries_23 : m_at k_Puzzles_fewestTries 23 = some (.iload_n 2, 1, 0) := m_at_of r_Puzzles_fewestTries (by decide +kernel)
theorem i_Puzzles_fewestTries_24 : m_at k_Puzzles_fewestTries 24 = some (.iconst (-1), 1, 0) := m_at_of r_Puzzles_fewestTries (by decide +kernel)
theorem i_Puzzles_fewestTries_25 : m_at k_Puzzles_fewestTries 25 = some (.ixor, 1, 0) := m_at_of r_Puzzles_fewestTries (by decide +kernel)
theorem i_Puzzles_fewestTries_26 : m_at k_Puzzles_fewestTries 26 = some (.iand, 1, 0) := m_at_of r_Puzzles_fewestTries (by decide +kernel)
theorem i_Puzzles_fewestTries_27 : m_at k_Puzzles_fewestTries 27 = some (.ifCond .ne (19), 3, 0) := m_at_of r_Puzzles_fewestTries (by decide +kernel)
theorem i_Puzzles_fewestTries_30 : m_at k_Puzzles_fewestTries 30 = some (.aload_n 0, 1, 0) := m_at_of r_Puzzles_fewestTries (by decide +kernel)
theorem i_Puzzles_fewestTries_31 : m_at k_Puzzles_fewestTries 31 = some (.aload_n 1, 1, 0) := m_at_of r_Puzzles_fewestTries (by decide +kernel)
theorem i_Puzzles_fewestTries_32 : m_at k_Puzzles_fewestTries 32 = some (.iload 4, 2, 0) := m_at_of r_Puzzles_fewestTries (by decide +kernel)
theorem i_Puzzles_fewestTries_34 : m_at k_Puzzles_fewestTries 34 = some (.invokevirtual 24, 3, 187) := m_at_of r_Puzzles_fewestTries (by decide +kernel)
theorem i_Puzzles_fewestTries_37 : m_at k_Puzzles_fewestTries 37 = some (.istore_n 3, 1, 0) := m_at_of r_Puzzles_fewestTries (by decide +kernel)
theorem i_Puzzles_fewestTries_38 : m_at k_Puzzles_fewestTries 38 = some (.aload_n 0, 1, 0) := m_at_of r_Puzzles_fewestTries (by decide +kernel)
theorem i_Puzzles_fewestTries_39 : m_at k_Puzzles_fewestTries 39 = some (.getfield 11, 3, 68) := m_at_of r_Puzzles_fewestTries (by decide +kernel)
theorem i_Puzzles_fewestTries_42 : m_at k_Puzzles_fewestTries 42 = some (.iload 4, 2, 0) := m_at_of r_Puzzles_fewestTries (by decide +kernel)
theorem i_Puzzles_fewestTries_44 : m_at k_Puzzles_fewestTries 44 = some (.iload_n 3, 1, 0) := m_at_of r_Puzzles_fewestTries (by decide +kernel)
theorem i_Puzzles_fewestTries_45 : m_at k_Puzzles_fewestTries 45 = some (.iastore, 1, 0) := m_at_of r_Puzzles_fewestTries (by decide +kernel)
theorem i_Puzzles_fewestTries_46 : m_at k_Puzzles_fewestTries 46 = some (.iinc 4 (1), 3, 0) := m_at_of r_Puzzles_fewestTries (by decide +kernel)
theorem i_Puzzles_fewestTries_49 : m_at k_Puzzles_fewestTries 49 = some (.goto (-42), 3, 0) := m_at_of r_Puzzles_fewestTries (by decide +kernel)
theorem i_Puzzles_fewestTries_52 : m_at k_Puzzles_fewestTries 52 = some (.iload_n 3, 1, 0) := m_at_of r_Puzzles_fewestTries (by decide +kernel)
theorem i_Puzzles_fewestTries_53 : m_at k_Puzzles_fewestTries 53 = some (.ireturn, 1, 0) := m_at_of r_Puzzles_fewestTries (by decide +kernel)
set_option maxRecDepth 20000 in
set_option maxHeartbeats 1000000 in
theorem E_Puzzles_fewestTries (x : m_X) (s : m_H) (w : Nat) (r1 : Nat) (n2 : Int32) : m_M x k_Puzzles_fewestTries [.ref w, .ref r1, .int n2] s = if m_isO s w 2 = true then (m_D x 3 k_Puzzles_fewestTries 7 [some (.ref w), some (.ref r1), some (.int n2), some (.int 1000), some (.int 1)] [] s) else none := by
  refine e_M1 (L0 := [some (.ref w), some (.ref r1), some (.int n2), none, none]) rfl (by decide +kernel) rfl (q_Puzzles_fewestTries _) rfl ?_
  refine e_sipush (v := 1000) i_Puzzles_fewestTries_0 (by decide) ?_
  refine e_istore_n (L' := [some (.ref w), some (.ref r1), some (.int n2), some (.int 1000), none]) i_Puzzles_fewestTries_3 (of_decide_eq_true rfl) rfl ?_
  refine e_iconst (v := 1) i_Puzzles_fewestTries_4 (by decide) ?_
  refine e_istore (L' := [some (.ref w), some (.ref r1), some (.int n2), some (.int 1000), some (.int 1)]) i_Puzzles_fewestTries_5 (of_decide_eq_true rfl) rfl ?_
  exact rfl
set_option maxRecDepth 20000 in
set_option maxHeartbeats 1000000 in
theorem E_Puzzles_fewestTries_7 (x : m_X) (ρ : Nat) (hρ : 3 ≤ ρ) (s : m_H) (w : Nat) (r1 : Nat) (n2 : Int32) (n3 : Int32) (n4 : Int32)  : m_D x ρ k_Puzzles_fewestTries 7 [some (.ref w), some (.ref r1), some (.int n2), some (.int n3), some (.int n4)] [] s = if n2 < n4 then (some (some (.int n3), s)) else if 128 ≤ n4 then (some (some (.int n3), s)) else if (n4 &&& (n2 ^^^ (-1 : Int32))) = 0 then (m_bI (m_M x k_Puzzles_triesOf [.ref w, .ref r1, .int n4] s) fun v34 s34 => (m_fR s34 2 3 w).bind fun v39 => (m_is s34 v39 n4 v34).bind fun s45 => m_D x ρ k_Puzzles_fewestTries 7 [some (.ref w), some (.ref r1), some (.int n2), some (.int v34), some (.int (n4 + (1 : Int32)))] [] s45) else m_D x ρ k_Puzzles_fewestTries 7 [some (.ref w), some (.ref r1), some (.int n2), some (.int n3), some (.int (n4 + (1 : Int32)))] [] s := by
  refine e_iload i_Puzzles_fewestTries_7 rfl ?_
  refine e_iload_n i_Puzzles_fewestTries_9 rfl ?_
  refine e_icmpgt (t := 52) i_Puzzles_fewestTries_10 (by decide) ?_ ?_
  · refine e_iload_n i_Puzzles_fewestTries_52 rfl ?_
    exact e_iretI i_Puzzles_fewestTries_53 rfl
  · refine e_iload i_Puzzles_fewestTries_13 rfl ?_
    refine e_sipush (v := 128) i_Puzzles_fewestTries_15 (by decide) ?_
    refine e_icmpge (t := 52) i_Puzzles_fewestTries_18 (by decide) ?_ ?_
    · refine e_iload_n i_Puzzles_fewestTries_52 rfl ?_
      exact e_iretI i_Puzzles_fewestTries_53 rfl
    · refine e_iload i_Puzzles_fewestTries_21 rfl ?_
      refine e_iload_n i_Puzzles_fewestTries_23 rfl ?_
      refine e_iconst (v := (-1)) i_Puzzles_fewestTries_24 (by decide) ?_
      refine e_ixor i_Puzzles_fewestTries_25 ?_
      refine e_iand i_Puzzles_fewestTries_26 ?_
      refine e_ifne (t := 46) i_Puzzles_fewestTries_27 (by decide) ?_ ?_
      · refine e_iinc (w := 1) (L' := [some (.ref w), some (.ref r1), some (.int n2), some (.int n3), some (.int (n4 + (1 : Int32)))]) i_Puzzles_fewestTries_46 rfl (of_decide_eq_true rfl) (by decide) rfl ?_
        refine e_goto (t := 7) i_Puzzles_fewestTries_49 (by decide) ?_
        exact rfl
      · refine e_aload_n i_Puzzles_fewestTries_30 rfl ?_
        refine e_aload_n i_Puzzles_fewestTries_31 rfl ?_
        refine e_iload i_Puzzles_fewestTries_32 rfl ?_
        refine e_callI (as := [.ref w, .ref r1, .int n4]) (st' := []) i_Puzzles_fewestTries_34 lm_187 (Or.inr (Or.inl ⟨rfl, rfl⟩)) w_Puzzles_triesOf rfl rfl rfl (Nat.le_of_ble_eq_true rfl) (Nat.le_of_ble_eq_true rfl) (m_rlt (q_Puzzles_triesOf _) (Nat.lt_of_lt_of_le (by decide) hρ)) rfl (fun v34 s34 => ?_)
        refine e_istore_n (L' := [some (.ref w), some (.ref r1), some (.int n2), some (.int v34), some (.int n4)]) i_Puzzles_fewestTries_37 (of_decide_eq_true rfl) rfl ?_
        refine e_aload_n i_Puzzles_fewestTries_38 rfl ?_
        refine e_getR i_Puzzles_fewestTries_39 lf_68 (by decide) ft_2_3 (fun v39 => ?_)
        refine e_iload i_Puzzles_fewestTries_42 rfl ?_
        refine e_iload_n i_Puzzles_fewestTries_44 rfl ?_
        refine e_iast i_Puzzles_fewestTries_45 (fun s45 => ?_)
        refine e_iinc (w := 1) (L' := [some (.ref w), some (.ref r1), some (.int n2), some (.int v34), some (.int (n4 + (1 : Int32)))]) i_Puzzles_fewestTries_46 rfl (of_decide_eq_true rfl) (by decide) rfl ?_
        refine e_goto (t := 7) i_Puzzles_fewestTries_49 (by decide) ?_
        exact rfl
theorem i_Puzzles_triesOf_0 : m_at k_Puzzles_triesOf 0 = some (.aload_n 0, 1, 0) := m_at_of r_Puzzles_triesOf (by decide +kernel)
theorem i_Puzzles_triesOf_1 : m_at k_Puzzles_triesOf 1 = some (.iconst (-1), 1, 0) := m_at_of r_Puzzles_triesOf (by decide +kernel)
theorem i_Puzzles_triesOf_2 : m_at k_Puzzles_triesOf 2 = some (.putfield 28, 3, 69) := m_at_of r_Puzzles_triesOf (by decide +kernel)
theorem i_Puzzles_triesOf_5 : m_at k_Puzzles_triesOf 5 = some (.iload_n 2, 1, 0) := m_at_of r_Puzzles_triesOf (by decide +kernel)
theorem i_Puzzles_triesOf_6 : m_at k_Puzzles_triesOf 6 = some (.invokestatic 32, 3, 145) := m_at_of r_Puzzles_triesOf (by decide +kernel)
theorem i_Puzzles_triesOf_9 : m_at k_Puzzles_triesOf 9 = some (.iconst 1, 1, 0) := m_at_of r_Puzzles_triesOf (by decide +kernel)
theorem i_Puzzles_triesOf_10 : m_at k_Puzzles_triesOf 10 = some (.if_icmp .ne (5), 3, 0) := m_at_of r_Puzzles_triesOf (by decide +kernel)
theorem i_Puzzles_triesOf_13 : m_at k_Puzzles_triesOf 13 = some (.iconst 0, 1, 0) := m_at_of r_Puzzles_triesOf (by decide +kernel)
theorem i_Puzzles_triesOf_14 : m_at k_Puzzles_triesOf 14 = some (.ireturn, 1, 0) := m_at_of r_Puzzles_triesOf (by decide +kernel)
theorem i_Puzzles_triesOf_15 : m_at k_Puzzles_triesOf 15 = some (.sipush 1000, 3, 0) := m_at_of r_Puzzles_triesOf (by decide +kernel)
theorem i_Puzzles_triesOf_18 : m_at k_Puzzles_triesOf 18 = some (.istore_n 3, 1, 0) := m_at_of r_Puzzles_triesOf (by decide +kernel)
theorem i_Puzzles_triesOf_19 : m_at k_Puzzles_triesOf 19 = some (.iconst 0, 1, 0) := m_at_of r_Puzzles_triesOf (by decide +kernel)
theorem i_Puzzles_triesOf_20 : m_at k_Puzzles_triesOf 20 = some (.istore 4, 2, 0) := m_at_of r_Puzzles_triesOf (by decide +kernel)
theorem i_Puzzles_triesOf_22 : m_at k_Puzzles_triesOf 22 = some (.iload 4, 2, 0) := m_at_of r_Puzzles_triesOf (by decide +kernel)
theorem i_Puzzles_triesOf_24 : m_at k_Puzzles_triesOf 24 = some (.aload_n 1, 1, 0) := m_at_of r_Puzzles_triesOf (by decide +kernel)
theorem i_Puzzles_triesOf_25 : m_at k_Puzzles_triesOf 25 = some (.getfield 38, 3, 51) := m_at_of r_Puzzles_triesOf (by decide +kernel)
theorem i_Puzzles_triesOf_28 : m_at k_Puzzles_triesOf 28 = some (.if_icmp .ge (81), 3, 0) := m_at_of r_Puzzles_triesOf (by decide +kernel)
theorem i_Puzzles_triesOf_31 : m_at k_Puzzles_triesOf 31 = some (.iload_n 2, 1, 0) := m_at_of r_Puzzles_triesOf (by decide +kernel)
theorem i_Puzzles_triesOf_32 : m_at k_Puzzles_triesOf 32 = some (.aload_n 1, 1, 0) := m_at_of r_Puzzles_triesOf (by decide +kernel)
theorem i_Puzzles_triesOf_33 : m_at k_Puzzles_triesOf 33 = some (.iload 4, 2, 0) := m_at_of r_Puzzles_triesOf (by decide +kernel)
theorem i_Puzzles_triesOf_35 : m_at k_Puzzles_triesOf 35 = some (.invokevirtual 43, 3, 147) := m_at_of r_Puzzles_triesOf (by decide +kernel)
theorem i_Puzzles_triesOf_38 : m_at k_Puzzles_triesOf 38 = some (.iand, 1, 0) := m_at_of r_Puzzles_triesOf (by decide +kernel)
theorem i_Puzzles_triesOf_39 : m_at k_Puzzles_triesOf 39 = some (.istore 5, 2, 0) := m_at_of r_Puzzles_triesOf (by decide +kernel)
theorem i_Puzzles_triesOf_41 : m_at k_Puzzles_triesOf 41 = some (.iload_n 2, 1, 0) := m_at_of r_Puzzles_triesOf (by decide +kernel)
theorem i_Puzzles_triesOf_42 : m_at k_Puzzles_triesOf 42 = some (.aload_n 1, 1, 0) := m_at_of r_Puzzles_triesOf (by decide +kernel)
theorem i_Puzzles_triesOf_43 : m_at k_Puzzles_triesOf 43 = some (.iload 4, 2, 0) := m_at_of r_Puzzles_triesOf (by decide +kernel)
theorem i_Puzzles_triesOf_45 : m_at k_Puzzles_triesOf 45 = some (.invokevirtual 43, 3, 147) := m_at_of r_Puzzles_triesOf (by decide +kernel)
theorem i_Puzzles_triesOf_48 : m_at k_Puzzles_triesOf 48 = some (.iconst (-1), 1, 0) := m_at_of r_Puzzles_triesOf (by decide +kernel)
theorem i_Puzzles_triesOf_49 : m_at k_Puzzles_triesOf 49 = some (.ixor, 1, 0) := m_at_of r_Puzzles_triesOf (by decide +kernel)
theorem i_Puzzles_triesOf_50 : m_at k_Puzzles_triesOf 50 = some (.iand, 1, 0) := m_at_of r_Puzzles_triesOf (by decide +kernel)
theorem i_Puzzles_triesOf_51 : m_at k_Puzzles_triesOf 51 = some (.istore 6, 2, 0) := m_at_of r_Puzzles_triesOf (by decide +kernel)
theorem i_Puzzles_triesOf_53 : m_at k_Puzzles_triesOf 53 = some (.iload 5, 2, 0) := m_at_of r_Puzzles_triesOf (by decide +kernel)
theorem i_Puzzles_triesOf_55 : m_at k_Puzzles_triesOf 55 = some (.ifCond .eq (8), 3, 0) := m_at_of r_Puzzles_triesOf (by decide +kernel)
theorem i_Puzzles_triesOf_58 : m_at k_Puzzles_triesOf 58 = some (.iload 6, 2, 0) := m_at_of r_Puzzles_triesOf (by decide +kernel)
theorem i_Puzzles_triesOf_60 : m_at k_Puzzles_triesOf 60 = some (.ifCond .ne (9), 3, 0) := m_at_of r_Puzzles_triesOf (by decide +kernel)
theorem i_Puzzles_triesOf_63 : m_at k_Puzzles_triesOf 63 = some (.sipush 1000, 3, 0) := m_at_of r_Puzzles_triesOf (by decide +kernel)
theorem i_Puzzles_triesOf_66 : m_at k_Puzzles_triesOf 66 = some (.goto (20), 3, 0) := m_at_of r_Puzzles_triesOf (by decide +kernel)
theorem i_Puzzles_triesOf_69 : m_at k_Puzzles_triesOf 69 = some (.iconst 1, 1, 0) := m_at_of r_Puzzles_triesOf (by decide +kernel)
theorem i_Puzzles_triesOf_70 : m_at k_Puzzles_triesOf 70 = some (.aload_n 0, 1, 0) := m_at_of r_Puzzles_triesOf (by decide +kernel)
theorem i_Puzzles_triesOf_71 : m_at k_Puzzles_triesOf 71 = some (.iload 5, 2, 0) := m_at_of r_Puzzles_triesOf (by decide +kernel)
theorem i_Puzzles_triesOf_73 : m_at k_Puzzles_triesOf 73 = some (.invokevirtual 46, 3, 188) := m_at_of r_Puzzles_triesOf (by decide +kernel)
theorem i_Puzzles_triesOf_76 : m_at k_Puzzles_triesOf 76 = some (.aload_n 0, 1, 0) := m_at_of r_Puzzles_triesOf (by decide +kernel)
theorem i_Puzzles_triesOf_77 : m_at k_Puzzles_triesOf 77 = some (.iload 6, 2, 0) := m_at_of r_Puzzles_triesOf (by decide +kernel)
theorem i_Puzzles_triesOf_79 : m_at k_Puzzles_triesOf 79 = some (.invokevirtual 46, 3, 188) := m_at_of r_Puzzles_triesOf (by decide +kernel)
theorem i_Puzzles_triesOf_82 : m_at k_Puzzles_triesOf 82 = some (.invokestatic 49, 3, 158) := m_at_of r_Puzzles_triesOf (by decide +kernel)
theorem i_Puzzles_triesOf_85 : m_at k_Puzzles_triesOf 85 = some (.iadd, 1, 0) := m_at_of r_Puzzles_triesOf (by decide +kernel)
theorem i_Puzzles_triesOf_86 : m_at k_Puzzles_triesOf 86 = some (.istore 7, 2, 0) := m_at_of r_Puzzles_triesOf (by decide +kernel)
theorem i_Puzzles_triesOf_88 : m_at k_Puzzles_triesOf 88 = some (.iload 7, 2, 0) := m_at_of r_Puzzles_triesOf (by decide +kernel)
theorem i_Puzzles_triesOf_90 : m_at k_Puzzles_triesOf 90 = some (.iload_n 3, 1, 0) := m_at_of r_Puzzles_triesOf (by decide +kernel)
theorem i_Puzzles_triesOf_91 : m_at k_Puzzles_triesOf 91 = some (.if_icmp .ge (12), 3, 0) := m_at_of r_Puzzles_triesOf (by decide +kernel)
theorem i_Puzzles_triesOf_94 : m_at k_Puzzles_triesOf 94 = some (.iload 7, 2, 0) := m_at_of r_Puzzles_triesOf (by decide +kernel)
theorem i_Puzzles_triesOf_96 : m_at k_Puzzles_triesOf 96 = some (.istore_n 3, 1, 0) := m_at_of r_Puzzles_triesOf (by decide +kernel)
theorem i_Puzzles_triesOf_97 : m_at k_Puzzles_triesOf 97 = some (.aload_n 0, 1, 0) := m_at_of r_Puzzles_triesOf (by decide +kernel)
theorem i_Puzzles_triesOf_98 : m_at k_Puzzles_triesOf 98 = some (.iload 4, 2, 0) := m_at_of r_Puzzles_triesOf (by decide +kernel)
theorem i_Puzzles_triesOf_100 : m_at k_Puzzles_triesOf 100 = some (.putfield 28, 3, 69) := m_at_of r_Puzzles_triesOf (by decide +kernel)
theorem i_Puzzles_triesOf_103 : m_at k_Puzzles_triesOf 103 = some (.iinc 4 (1), 3, 0) := m_at_of r_Puzzles_triesOf (by decide +kernel)
theorem i_Puzzles_triesOf_106 : m_at k_Puzzles_triesOf 106 = some (.goto (-84), 3, 0) := m_at_of r_Puzzles_triesOf (by decide +kernel)
theorem i_Puzzles_triesOf_109 : m_at k_Puzzles_triesOf 109 = some (.iload_n 3, 1, 0) := m_at_of r_Puzzles_triesOf (by decide +kernel)
theorem i_Puzzles_triesOf_110 : m_at k_Puzzles_triesOf 110 = some (.ireturn, 1, 0) := m_at_of r_Puzzles_triesOf (by decide +kernel)
set_option maxRecDepth 20000 in
set_option maxHeartbeats 1000000 in
theorem E_Puzzles_triesOf (x : m_X) (s : m_H) (w : Nat) (r1 : Nat) (n2 : Int32) : m_M x k_Puzzles_triesOf [.ref w, .ref r1, .int n2] s = if m_isO s w 2 = true then ((m_pf s 2 0 w (.int (-1))).bind fun s2 => m_bI (m_M x k_Integer_bitCount [.int n2] s2) fun v6 s6 => if v6 = 1 then (some (some (.int 0), s6)) else m_D x 2 k_Puzzles_triesOf 22 [some (.ref w), some (.ref r1), some (.int n2), some (.int 1000), some (.int 0), none, none, none] [] s6) else none := by
  refine e_M1 (L0 := [some (.ref w), some (.ref r1), some (.int n2), none, none, none, none, none]) rfl (by decide +kernel) rfl (q_Puzzles_triesOf _) rfl ?_
  refine e_aload_n i_Puzzles_triesOf_0 rfl ?_
  refine e_iconst (v := (-1)) i_Puzzles_triesOf_1 (by decide) ?_
  refine e_putf i_Puzzles_triesOf_2 lf_69 ft_2_0 rfl (fun s2 => ?_)
  refine e_iload_n i_Puzzles_triesOf_5 rfl ?_
  refine e_callI (as := [.int n2]) (st' := []) i_Puzzles_triesOf_6 lm_145 (Or.inl ⟨rfl, rfl⟩) w_Integer_bitCount rfl rfl rfl (Nat.le_of_ble_eq_true rfl) (Nat.le_of_ble_eq_true rfl) (m_rlt (q_Integer_bitCount _) (by decide)) rfl (fun v6 s6 => ?_)
  refine e_iconst (v := 1) i_Puzzles_triesOf_9 (by decide) ?_
  refine e_icmpne (t := 15) i_Puzzles_triesOf_10 (by decide) ?_ ?_
  · refine e_sipush (v := 1000) i_Puzzles_triesOf_15 (by decide) ?_
    refine e_istore_n (L' := [some (.ref w), some (.ref r1), some (.int n2), some (.int 1000), none, none, none, none]) i_Puzzles_triesOf_18 (of_decide_eq_true rfl) rfl ?_
    refine e_iconst (v := 0) i_Puzzles_triesOf_19 (by decide) ?_
    refine e_istore (L' := [some (.ref w), some (.ref r1), some (.int n2), some (.int 1000), some (.int 0), none, none, none]) i_Puzzles_triesOf_20 (of_decide_eq_true rfl) rfl ?_
    exact rfl
  · refine e_iconst (v := 0) i_Puzzles_triesOf_13 (by decide) ?_
    exact e_iretI i_Puzzles_triesOf_14 rfl
set_option maxRecDepth 20000 in
set_option maxHeartbeats 1000000 in
theorem E_Puzzles_triesOf_22 (x : m_X) (ρ : Nat) (hρ : 2 ≤ ρ) (s : m_H) (w : Nat) (r1 : Nat) (n2 : Int32) (n3 : Int32) (n4 : Int32) (d5 : Option Value) (d6 : Option Value) (d7 : Option Value) (hd5 : m_nl d5 = true) (hd6 : m_nl d6 = true) (hd7 : m_nl d7 = true) : m_D x ρ k_Puzzles_triesOf 22 [some (.ref w), some (.ref r1), some (.int n2), some (.int n3), some (.int n4), d5, d6, d7] [] s = (m_fI s 4 1 r1).bind fun v25 => if v25 ≤ n4 then (some (some (.int n3), s)) else m_bI (m_M x k_Row_itemAt [.ref r1, .int n4] s) fun v35 s35 => m_bI (m_M x k_Row_itemAt [.ref r1, .int n4] s35) fun v45 s45 => if (n2 &&& v35) = 0 then (m_D x ρ k_Puzzles_triesOf 63 [some (.ref w), some (.ref r1), some (.int n2), some (.int n3), some (.int n4), some (.int (n2 &&& v35)), some (.int (n2 &&& (v45 ^^^ (-1 : Int32)))), d7] [] s45) else if (n2 &&& (v45 ^^^ (-1 : Int32))) = 0 then (m_D x ρ k_Puzzles_triesOf 63 [some (.ref w), some (.ref r1), some (.int n2), some (.int n3), some (.int n4), some (.int (n2 &&& v35)), some (.int (n2 &&& (v45 ^^^ (-1 : Int32)))), d7] [] s45) else m_bI (m_M x k_Puzzles_triesKnown [.ref w, .int (n2 &&& v35)] s45) fun v73 s73 => m_bI (m_M x k_Puzzles_triesKnown [.ref w, .int (n2 &&& (v45 ^^^ (-1 : Int32)))] s73) fun v79 s79 => m_bI (m_M x k_Math_max_II [.int v73, .int v79] s79) fun v82 s82 => if n3 ≤ ((1 : Int32) + v82) then (m_D x ρ k_Puzzles_triesOf 22 [some (.ref w), some (.ref r1), some (.int n2), some (.int n3), some (.int (n4 + (1 : Int32))), some (.int (n2 &&& v35)), some (.int (n2 &&& (v45 ^^^ (-1 : Int32)))), some (.int ((1 : Int32) + v82))] [] s82) else (m_pf s82 2 0 w (.int n4)).bind fun s100 => m_D x ρ k_Puzzles_triesOf 22 [some (.ref w), some (.ref r1), some (.int n2), some (.int ((1 : Int32) + v82)), some (.int (n4 + (1 : Int32))), some (.int (n2 &&& v35)), some (.int (n2 &&& (v45 ^^^ (-1 : Int32)))), some (.int ((1 : Int32) + v82))] [] s100 := by
  refine e_iload i_Puzzles_triesOf_22 rfl ?_
  refine e_aload_n i_Puzzles_triesOf_24 rfl ?_
  refine e_getI i_Puzzles_triesOf_25 lf_51 (by decide) (Or.inl ft_4_1) (fun v25 => ?_)
  refine e_icmpge (t := 109) i_Puzzles_triesOf_28 (by decide) ?_ ?_
  · refine e_iload_n i_Puzzles_triesOf_109 rfl ?_
    exact e_iretI i_Puzzles_triesOf_110 rfl
  · refine e_iload_n i_Puzzles_triesOf_31 rfl ?_
    refine e_aload_n i_Puzzles_triesOf_32 rfl ?_
    refine e_iload i_Puzzles_triesOf_33 rfl ?_
    refine e_callI (as := [.ref r1, .int n4]) (st' := [.int n2]) i_Puzzles_triesOf_35 lm_147 (Or.inr (Or.inl ⟨rfl, rfl⟩)) w_Row_itemAt rfl rfl rfl (Nat.le_of_ble_eq_true rfl) (Nat.le_of_ble_eq_true rfl) (m_rlt (q_Row_itemAt _) (Nat.lt_of_lt_of_le (by decide) hρ)) rfl (fun v35 s35 => ?_)
    refine e_iand i_Puzzles_triesOf_38 ?_
    refine e_istore (L' := [some (.ref w), some (.ref r1), some (.int n2), some (.int n3), some (.int n4), some (.int (n2 &&& v35)), d6, d7]) i_Puzzles_triesOf_39 (of_decide_eq_true rfl) rfl ?_
    refine e_iload_n i_Puzzles_triesOf_41 rfl ?_
    refine e_aload_n i_Puzzles_triesOf_42 rfl ?_
    refine e_iload i_Puzzles_triesOf_43 rfl ?_
    refine e_callI (as := [.ref r1, .int n4]) (st' := [.int n2]) i_Puzzles_triesOf_45 lm_147 (Or.inr (Or.inl ⟨rfl, rfl⟩)) w_Row_itemAt rfl rfl rfl (Nat.le_of_ble_eq_true rfl) (Nat.le_of_ble_eq_true rfl) (m_rlt (q_Row_itemAt _) (Nat.lt_of_lt_of_le (by decide) hρ)) rfl (fun v45 s45 => ?_)
    refine e_iconst (v := (-1)) i_Puzzles_triesOf_48 (by decide) ?_
    refine e_ixor i_Puzzles_triesOf_49 ?_
    refine e_iand i_Puzzles_triesOf_50 ?_
    refine e_istore (L' := [some (.ref w), some (.ref r1), some (.int n2), some (.int n3), some (.int n4), some (.int (n2 &&& v35)), some (.int (n2 &&& (v45 ^^^ (-1 : Int32)))), d7]) i_Puzzles_triesOf_51 (of_decide_eq_true rfl) rfl ?_
    refine e_iload i_Puzzles_triesOf_53 rfl ?_
    refine e_ifeq (t := 63) i_Puzzles_triesOf_55 (by decide) ?_ ?_
    · exact rfl
    · refine e_iload i_Puzzles_triesOf_58 rfl ?_
      refine e_ifne (t := 69) i_Puzzles_triesOf_60 (by decide) ?_ ?_
      · refine e_iconst (v := 1) i_Puzzles_triesOf_69 (by decide) ?_
        refine e_aload_n i_Puzzles_triesOf_70 rfl ?_
        refine e_iload i_Puzzles_triesOf_71 rfl ?_
        refine e_callI (as := [.ref w, .int (n2 &&& v35)]) (st' := [.int 1]) i_Puzzles_triesOf_73 lm_188 (Or.inr (Or.inl ⟨rfl, rfl⟩)) w_Puzzles_triesKnown rfl rfl rfl (Nat.le_of_ble_eq_true rfl) (Nat.le_of_ble_eq_true rfl) (m_rlt (q_Puzzles_triesKnown _) (Nat.lt_of_lt_of_le (by decide) hρ)) rfl (fun v73 s73 => ?_)
        refine e_aload_n i_Puzzles_triesOf_76 rfl ?_
        refine e_iload i_Puzzles_triesOf_77 rfl ?_
        refine e_callI (as := [.ref w, .int (n2 &&& (v45 ^^^ (-1 : Int32)))]) (st' := [.int v73, .int 1]) i_Puzzles_triesOf_79 lm_188 (Or.inr (Or.inl ⟨rfl, rfl⟩)) w_Puzzles_triesKnown rfl rfl rfl (Nat.le_of_ble_eq_true rfl) (Nat.le_of_ble_eq_true rfl) (m_rlt (q_Puzzles_triesKnown _) (Nat.lt_of_lt_of_le (by decide) hρ)) rfl (fun v79 s79 => ?_)
        refine e_callI (as := [.int v73, .int v79]) (st' := [.int 1]) i_Puzzles_triesOf_82 lm_158 (Or.inl ⟨rfl, rfl⟩) w_Math_max_II rfl rfl rfl (Nat.le_of_ble_eq_true rfl) (Nat.le_of_ble_eq_true rfl) (m_rlt (q_Math_max_II _) (Nat.lt_of_lt_of_le (by decide) hρ)) rfl (fun v82 s82 => ?_)
        refine e_iadd i_Puzzles_triesOf_85 ?_
        refine e_istore (L' := [some (.ref w), some (.ref r1), some (.int n2), some (.int n3), some (.int n4), some (.int (n2 &&& v35)), some (.int (n2 &&& (v45 ^^^ (-1 : Int32)))), some (.int ((1 : Int32) + v82))]) i_Puzzles_triesOf_86 (of_decide_eq_true rfl) rfl ?_
        refine e_iload i_Puzzles_triesOf_88 rfl ?_
        refine e_iload_n i_Puzzles_triesOf_90 rfl ?_
        refine e_icmpge (t := 103) i_Puzzles_triesOf_91 (by decide) ?_ ?_
        · refine e_iinc (w := 1) (L' := [some (.ref w), some (.ref r1), some (.int n2), some (.int n3), some (.int (n4 + (1 : Int32))), some (.int (n2 &&& v35)), some (.int (n2 &&& (v45 ^^^ (-1 : Int32)))), some (.int ((1 : Int32) + v82))]) i_Puzzles_triesOf_103 rfl (of_decide_eq_true rfl) (by decide) rfl ?_
          refine e_goto (t := 22) i_Puzzles_triesOf_106 (by decide) ?_
          exact rfl
        · refine e_iload i_Puzzles_triesOf_94 rfl ?_
          refine e_istore_n (L' := [some (.ref w), some (.ref r1), some (.int n2), some (.int ((1 : Int32) + v82)), some (.int n4), some (.int (n2 &&& v35)), some (.int (n2 &&& (v45 ^^^ (-1 : Int32)))), some (.int ((1 : Int32) + v82))]) i_Puzzles_triesOf_96 (of_decide_eq_true rfl) rfl ?_
          refine e_aload_n i_Puzzles_triesOf_97 rfl ?_
          refine e_iload i_Puzzles_triesOf_98 rfl ?_
          refine e_putf i_Puzzles_triesOf_100 lf_69 ft_2_0 rfl (fun s100 => ?_)
          refine e_iinc (w := 1) (L' := [some (.ref w), some (.ref r1), some (.int n2), some (.int ((1 : Int32) + v82)), some (.int (n4 + (1 : Int32))), some (.int (n2 &&& v35)), some (.int (n2 &&& (v45 ^^^ (-1 : Int32)))), some (.int ((1 : Int32) + v82))]) i_Puzzles_triesOf_103 rfl (of_decide_eq_true rfl) (by decide) rfl ?_
          refine e_goto (t := 22) i_Puzzles_triesOf_106 (by decide) ?_
          exact rfl
      · exact rfl
set_option maxRecDepth 20000 in
set_option maxHeartbeats 1000000 in
theorem E_Puzzles_triesOf_63 (x : m_X) (ρ : Nat) (hρ : 2 ≤ ρ) (s : m_H) (w : Nat) (r1 : Nat) (n2 : Int32) (n3 : Int32) (n4 : Int32) (n5 : Int32) (n6 : Int32) (d7 : Option Value) (hd7 : m_nl d7 = true) : m_D x ρ k_Puzzles_triesOf 63 [some (.ref w), some (.ref r1), some (.int n2), some (.int n3), some (.int n4), some (.int n5), some (.int n6), d7] [] s = if n3 ≤ 1000 then (m_D x ρ k_Puzzles_triesOf 22 [some (.ref w), some (.ref r1), some (.int n2), some (.int n3), some (.int (n4 + (1 : Int32))), some (.int n5), some (.int n6), some (.int 1000)] [] s) else (m_pf s 2 0 w (.int n4)).bind fun s100 => m_D x ρ k_Puzzles_triesOf 22 [some (.ref w), some (.ref r1), some (.int n2), some (.int 1000), some (.int (n4 + (1 : Int32))), some (.int n5), some (.int n6), some (.int 1000)] [] s100 := by
  refine e_sipush (v := 1000) i_Puzzles_triesOf_63 (by decide) ?_
  refine e_goto (t := 86) i_Puzzles_triesOf_66 (by decide) ?_
  refine e_istore (L' := [some (.ref w), some (.ref r1), some (.int n2), some (.int n3), some (.int n4), some (.int n5), some (.int n6), some (.int 1000)]) i_Puzzles_triesOf_86 (of_decide_eq_true rfl) rfl ?_
  refine e_iload i_Puzzles_triesOf_88 rfl ?_
  refine e_iload_n i_Puzzles_triesOf_90 rfl ?_
  refine e_icmpge (t := 103) i_Puzzles_triesOf_91 (by decide) ?_ ?_
  · refine e_iinc (w := 1) (L' := [some (.ref w), some (.ref r1), some (.int n2), some (.int n3), some (.int (n4 + (1 : Int32))), some (.int n5), some (.int n6), some (.int 1000)]) i_Puzzles_triesOf_103 rfl (of_decide_eq_true rfl) (by decide) rfl ?_
    refine e_goto (t := 22) i_Puzzles_triesOf_106 (by decide) ?_
    exact rfl
  · refine e_iload i_Puzzles_triesOf_94 rfl ?_
    refine e_istore_n (L' := [some (.ref w), some (.ref r1), some (.int n2), some (.int 1000), some (.int n4), some (.int n5), some (.int n6), some (.int 1000)]) i_Puzzles_triesOf_96 (of_decide_eq_true rfl) rfl ?_
    refine e_aload_n i_Puzzles_triesOf_97 rfl ?_
    refine e_iload i_Puzzles_triesOf_98 rfl ?_
    refine e_putf i_Puzzles_triesOf_100 lf_69 ft_2_0 rfl (fun s100 => ?_)
    refine e_iinc (w := 1) (L' := [some (.ref w), some (.ref r1), some (.int n2), some (.int 1000), some (.int (n4 + (1 : Int32))), some (.int n5), some (.int n6), some (.int 1000)]) i_Puzzles_triesOf_103 rfl (of_decide_eq_true rfl) (by decide) rfl ?_
    refine e_goto (t := 22) i_Puzzles_triesOf_106 (by decide) ?_
    exact rfl
theorem i_Puzzles_triesKnown_0 : m_at k_Puzzles_triesKnown 0 = some (.iload_n 1, 1, 0) := m_at_of r_Puzzles_triesKnown (by decide +kernel)
theorem i_Puzzles_triesKnown_1 : m_at k_Puzzles_triesKnown 1 = some (.ifCond .lt (19), 3, 0) := m_at_of r_Puzzles_triesKnown (by decide +kernel)
theorem i_Puzzles_triesKnown_4 : m_at k_Puzzles_triesKnown 4 = some (.iload_n 1, 1, 0) := m_at_of r_Puzzles_triesKnown (by decide +kernel)
theorem i_Puzzles_triesKnown_5 : m_at k_Puzzles_triesKnown 5 = some (.sipush 128, 3, 0) := m_at_of r_Puzzles_triesKnown (by decide +kernel)
theorem i_Puzzles_triesKnown_8 : m_at k_Puzzles_triesKnown 8 = some (.if_icmp .ge (12), 3, 0) := m_at_of r_Puzzles_triesKnown (by decide +kernel)
theorem i_Puzzles_triesKnown_11 : m_at k_Puzzles_triesKnown 11 = some (.aload_n 0, 1, 0) := m_at_of r_Puzzles_triesKnown (by decide +kernel)
theorem i_Puzzles_triesKnown_12 : m_at k_Puzzles_triesKnown 12 = some (.getfield 11, 3, 68) := m_at_of r_Puzzles_triesKnown (by decide +kernel)
theorem i_Puzzles_triesKnown_15 : m_at k_Puzzles_triesKnown 15 = some (.iload_n 1, 1, 0) := m_at_of r_Puzzles_triesKnown (by decide +kernel)
theorem i_Puzzles_triesKnown_16 : m_at k_Puzzles_triesKnown 16 = some (.iaload, 1, 0) := m_at_of r_Puzzles_triesKnown (by decide +kernel)
theorem i_Puzzles_triesKnown_17 : m_at k_Puzzles_triesKnown 17 = some (.goto (6), 3, 0) := m_at_of r_Puzzles_triesKnown (by decide +kernel)
theorem i_Puzzles_triesKnown_20 : m_at k_Puzzles_triesKnown 20 = some (.sipush 1000, 3, 0) := m_at_of r_Puzzles_triesKnown (by decide +kernel)
theorem i_Puzzles_triesKnown_23 : m_at k_Puzzles_triesKnown 23 = some (.ireturn, 1, 0) := m_at_of r_Puzzles_triesKnown (by decide +kernel)
set_option maxRecDepth 20000 in
set_option maxHeartbeats 1000000 in
theorem E_Puzzles_triesKnown (x : m_X) (s : m_H) (w : Nat) (n1 : Int32) : m_M x k_Puzzles_triesKnown [.ref w, .int n1] s = if m_isO s w 2 = true then (if n1 < 0 then (some (some (.int 1000), s)) else if 128 ≤ n1 then (some (some (.int 1000), s)) else (m_fR s 2 3 w).bind fun v12 => (m_ia x s v12 n1).bind fun v16 => some (some (.int v16), s)) else none := by
  refine e_M1 (L0 := [some (.ref w), some (.int n1)]) rfl (by decide +kernel) rfl (q_Puzzles_triesKnown _) rfl ?_
  refine e_iload_n i_Puzzles_triesKnown_0 rfl ?_
  refine e_iflt (t := 20) i_Puzzles_triesKnown_1 (by decide) ?_ ?_
  · refine e_sipush (v := 1000) i_Puzzles_triesKnown_20 (by decide) ?_
    exact e_iretI i_Puzzles_triesKnown_23 rfl
  · refine e_iload_n i_Puzzles_triesKnown_4 rfl ?_
    refine e_sipush (v := 128) i_Puzzles_triesKnown_5 (by decide) ?_
    refine e_icmpge (t := 20) i_Puzzles_triesKnown_8 (by decide) ?_ ?_
    · refine e_sipush (v := 1000) i_Puzzles_triesKnown_20 (by decide) ?_
      exact e_iretI i_Puzzles_triesKnown_23 rfl
    · refine e_aload_n i_Puzzles_triesKnown_11 rfl ?_
      refine e_getR i_Puzzles_triesKnown_12 lf_68 (by decide) ft_2_3 (fun v12 => ?_)
      refine e_iload_n i_Puzzles_triesKnown_15 rfl ?_
      refine e_iald i_Puzzles_triesKnown_16 (fun v16 => ?_)
      refine e_goto (t := 23) i_Puzzles_triesKnown_17 (by decide) ?_
      exact e_iretI i_Puzzles_triesKnown_23 rfl
theorem i_Puzzles_init_0 : m_at k_Puzzles_init 0 = some (.aload_n 0, 1, 0) := m_at_of r_Puzzles_init (by decide +kernel)
theorem i_Puzzles_init_1 : m_at k_Puzzles_init 1 = some (.invokespecial 3, 3, 438) := m_at_of r_Puzzles_init (by decide +kernel)
theorem i_Puzzles_init_4 : m_at k_Puzzles_init 4 = some (.aload_n 0, 1, 0) := m_at_of r_Puzzles_init (by decide +kernel)
theorem i_Puzzles_init_5 : m_at k_Puzzles_init 5 = some (.sipush 128, 3, 0) := m_at_of r_Puzzles_init (by decide +kernel)
theorem i_Puzzles_init_8 : m_at k_Puzzles_init 8 = some (.newarray .int, 2, 0) := m_at_of r_Puzzles_init (by decide +kernel)
theorem i_Puzzles_init_10 : m_at k_Puzzles_init 10 = some (.putfield 11, 3, 68) := m_at_of r_Puzzles_init (by decide +kernel)
theorem i_Puzzles_init_13 : m_at k_Puzzles_init 13 = some (.aload_n 0, 1, 0) := m_at_of r_Puzzles_init (by decide +kernel)
theorem i_Puzzles_init_14 : m_at k_Puzzles_init 14 = some (.sipush 128, 3, 0) := m_at_of r_Puzzles_init (by decide +kernel)
theorem i_Puzzles_init_17 : m_at k_Puzzles_init 17 = some (.newarray .int, 2, 0) := m_at_of r_Puzzles_init (by decide +kernel)
theorem i_Puzzles_init_19 : m_at k_Puzzles_init 19 = some (.putfield 15, 3, 52) := m_at_of r_Puzzles_init (by decide +kernel)
theorem i_Puzzles_init_22 : m_at k_Puzzles_init 22 = some (.aload_n 0, 1, 0) := m_at_of r_Puzzles_init (by decide +kernel)
theorem i_Puzzles_init_23 : m_at k_Puzzles_init 23 = some (.bipush 9, 2, 0) := m_at_of r_Puzzles_init (by decide +kernel)
theorem i_Puzzles_init_25 : m_at k_Puzzles_init 25 = some (.newarray .int, 2, 0) := m_at_of r_Puzzles_init (by decide +kernel)
theorem i_Puzzles_init_27 : m_at k_Puzzles_init 27 = some (.putfield 18, 3, 46) := m_at_of r_Puzzles_init (by decide +kernel)
theorem i_Puzzles_init_30 : m_at k_Puzzles_init 30 = some (.aload_n 0, 1, 0) := m_at_of r_Puzzles_init (by decide +kernel)
theorem i_Puzzles_init_31 : m_at k_Puzzles_init 31 = some (.bipush 9, 2, 0) := m_at_of r_Puzzles_init (by decide +kernel)
theorem i_Puzzles_init_33 : m_at k_Puzzles_init 33 = some (.newarray .int, 2, 0) := m_at_of r_Puzzles_init (by decide +kernel)
theorem i_Puzzles_init_35 : m_at k_Puzzles_init 35 = some (.putfield 21, 3, 47) := m_at_of r_Puzzles_init (by decide +kernel)
theorem i_Puzzles_init_38 : m_at k_Puzzles_init 38 = some (.return_, 1, 0) := m_at_of r_Puzzles_init (by decide +kernel)
set_option maxRecDepth 20000 in
set_option maxHeartbeats 1000000 in
theorem E_Puzzles_init (x : m_X) (s : m_H) (w : Nat) : m_M x k_Puzzles_init [.ref w] s = if s.length < 900 ∧ ¬ 128 < (0 : Int32) ∧ (128 : Int32).toNatClampNeg ≤ 100000 then ((m_pf (s ++ [.inl (0, (128 : Int32).toNatClampNeg, .inl fun _ => 0)]) 2 3 w (.ref s.length)).bind fun s10 => if s10.length < 900 ∧ ¬ 128 < (0 : Int32) ∧ (128 : Int32).toNatClampNeg ≤ 100000 then ((m_pf (s10 ++ [.inl (0, (128 : Int32).toNatClampNeg, .inl fun _ => 0)]) 2 4 w (.ref s10.length)).bind fun s19 => if s19.length < 900 ∧ ¬ 9 < (0 : Int32) ∧ (9 : Int32).toNatClampNeg ≤ 100000 then ((m_pf (s19 ++ [.inl (0, (9 : Int32).toNatClampNeg, .inl fun _ => 0)]) 2 5 w (.ref s19.length)).bind fun s27 => if s27.length < 900 ∧ ¬ 9 < (0 : Int32) ∧ (9 : Int32).toNatClampNeg ≤ 100000 then ((m_pf (s27 ++ [.inl (0, (9 : Int32).toNatClampNeg, .inl fun _ => 0)]) 2 6 w (.ref s27.length)).bind fun s35 => some (none, s35)) else none) else none) else none) else none := by
  refine e_M2 (L0 := [some (.ref w)]) rfl (q_Puzzles_init _) rfl ?_
  refine e_aload_n i_Puzzles_init_0 rfl ?_
  refine e_oinit i_Puzzles_init_1 lm_438 (Nat.le_of_ble_eq_true rfl) ?_
  refine e_aload_n i_Puzzles_init_4 rfl ?_
  refine e_sipush (v := 128) i_Puzzles_init_5 (by decide) ?_
  refine e_newI i_Puzzles_init_8 ?_
  refine e_putf i_Puzzles_init_10 lf_68 ft_2_3 rfl (fun s10 => ?_)
  refine e_aload_n i_Puzzles_init_13 rfl ?_
  refine e_sipush (v := 128) i_Puzzles_init_14 (by decide) ?_
  refine e_newI i_Puzzles_init_17 ?_
  refine e_putf i_Puzzles_init_19 lf_52 ft_2_4 rfl (fun s19 => ?_)
  refine e_aload_n i_Puzzles_init_22 rfl ?_
  refine e_bipush (v := 9) i_Puzzles_init_23 (by decide) ?_
  refine e_newI i_Puzzles_init_25 ?_
  refine e_putf i_Puzzles_init_27 lf_46 ft_2_5 rfl (fun s27 => ?_)
  refine e_aload_n i_Puzzles_init_30 rfl ?_
  refine e_bipush (v := 9) i_Puzzles_init_31 (by decide) ?_
  refine e_newI i_Puzzles_init_33 ?_
  refine e_putf i_Puzzles_init_35 lf_47 ft_2_6 rfl (fun s35 => ?_)
  exact e_vret i_Puzzles_init_38 rfl
theorem i_Weddings_restless_0 : m_at k_Weddings_restless 0 = some (.iconst 0, 1, 0) := m_at_of r_Weddings_restless (by decide +kernel)
theorem i_Weddings_restless_1 : m_at k_Weddings_restless 1 = some (.istore_n 3, 1, 0) := m_at_of r_Weddings_restless (by decide +kernel)
theorem i_Weddings_restless_2 : m_at k_Weddings_restless 2 = some (.iconst 0, 1, 0) := m_at_of r_Weddings_restless (by decide +kernel)
theorem i_Weddings_restless_3 : m_at k_Weddings_restless 3 = some (.istore 4, 2, 0) := m_at_of r_Weddings_restless (by decide +kernel)
theorem i_Weddings_restless_5 : m_at k_Weddings_restless 5 = some (.iload 4, 2, 0) := m_at_of r_Weddings_restless (by decide +kernel)
theorem i_Weddings_restless_7 : m_at k_Weddings_restless 7 = some (.iload_n 2, 1, 0) := m_at_of r_Weddings_restless (by decide +kernel)
theorem i_Weddings_restless_8 : m_at k_Weddings_restless 8 = some (.if_icmp .ge (79), 3, 0) := m_at_of r_Weddings_restless (by decide +kernel)
theorem i_Weddings_restless_11 : m_at k_Weddings_restless 11 = some (.iload_n 2, 1, 0) := m_at_of r_Weddings_restless (by decide +kernel)
theorem i_Weddings_restless_12 : m_at k_Weddings_restless 12 = some (.istore 5, 2, 0) := m_at_of r_Weddings_restless (by decide +kernel)
theorem i_Weddings_restless_14 : m_at k_Weddings_restless 14 = some (.iload 5, 2, 0) := m_at_of r_Weddings_restless (by decide +kernel)
theorem i_Weddings_restless_16 : m_at k_Weddings_restless 16 = some (.aload_n 1, 1, 0) := m_at_of r_Weddings_restless (by decide +kernel)
theorem i_Weddings_restless_17 : m_at k_Weddings_restless 17 = some (.getfield 40, 3, 61) := m_at_of r_Weddings_restless (by decide +kernel)
theorem i_Weddings_restless_20 : m_at k_Weddings_restless 20 = some (.iconst 0, 1, 0) := m_at_of r_Weddings_restless (by decide +kernel)
theorem i_Weddings_restless_21 : m_at k_Weddings_restless 21 = some (.iaload, 1, 0) := m_at_of r_Weddings_restless (by decide +kernel)
theorem i_Weddings_restless_22 : m_at k_Weddings_restless 22 = some (.if_icmp .ge (59), 3, 0) := m_at_of r_Weddings_restless (by decide +kernel)
theorem i_Weddings_restless_25 : m_at k_Weddings_restless 25 = some (.aload_n 0, 1, 0) := m_at_of r_Weddings_restless (by decide +kernel)
theorem i_Weddings_restless_26 : m_at k_Weddings_restless 26 = some (.iload 4, 2, 0) := m_at_of r_Weddings_restless (by decide +kernel)
theorem i_Weddings_restless_28 : m_at k_Weddings_restless 28 = some (.invokevirtual 21, 3, 169) := m_at_of r_Weddings_restless (by decide +kernel)
theorem i_Weddings_restless_31 : m_at k_Weddings_restless 31 = some (.iload 5, 2, 0) := m_at_of r_Weddings_restless (by decide +kernel)
theorem i_Weddings_restless_33 : m_at k_Weddings_restless 33 = some (.if_icmp .ne (7), 3, 0) := m_at_of r_Weddings_restless (by decide +kernel)
theorem i_Weddings_restless_36 : m_at k_Weddings_restless 36 = some (.iconst 1, 1, 0) := m_at_of r_Weddings_restless (by decide +kernel)
theorem i_Weddings_restless_37 : m_at k_Weddings_restless 37 = some (.goto (4), 3, 0) := m_at_of r_Weddings_restless (by decide +kernel)
theorem i_Weddings_restless_40 : m_at k_Weddings_restless 40 = some (.iconst 0, 1, 0) := m_at_of r_Weddings_restless (by decide +kernel)
theorem i_Weddings_restless_41 : m_at k_Weddings_restless 41 = some (.istore 6, 2, 0) := m_at_of r_Weddings_restless (by decide +kernel)
theorem i_Weddings_restless_43 : m_at k_Weddings_restless 43 = some (.iload 6, 2, 0) := m_at_of r_Weddings_restless (by decide +kernel)
theorem i_Weddings_restless_45 : m_at k_Weddings_restless 45 = some (.ifCond .ne (30), 3, 0) := m_at_of r_Weddings_restless (by decide +kernel)
theorem i_Weddings_restless_48 : m_at k_Weddings_restless 48 = some (.aload_n 0, 1, 0) := m_at_of r_Weddings_restless (by decide +kernel)
theorem i_Weddings_restless_49 : m_at k_Weddings_restless 49 = some (.aload_n 1, 1, 0) := m_at_of r_Weddings_restless (by decide +kernel)
theorem i_Weddings_restless_50 : m_at k_Weddings_restless 50 = some (.iload 4, 2, 0) := m_at_of r_Weddings_restless (by decide +kernel)
theorem i_Weddings_restless_52 : m_at k_Weddings_restless 52 = some (.iload 5, 2, 0) := m_at_of r_Weddings_restless (by decide +kernel)
theorem i_Weddings_restless_54 : m_at k_Weddings_restless 54 = some (.invokevirtual 33, 3, 170) := m_at_of r_Weddings_restless (by decide +kernel)
theorem i_Weddings_restless_57 : m_at k_Weddings_restless 57 = some (.ifCond .eq (18), 3, 0) := m_at_of r_Weddings_restless (by decide +kernel)
theorem i_Weddings_restless_60 : m_at k_Weddings_restless 60 = some (.aload_n 0, 1, 0) := m_at_of r_Weddings_restless (by decide +kernel)
theorem i_Weddings_restless_61 : m_at k_Weddings_restless 61 = some (.aload_n 1, 1, 0) := m_at_of r_Weddings_restless (by decide +kernel)
theorem i_Weddings_restless_62 : m_at k_Weddings_restless 62 = some (.iload 5, 2, 0) := m_at_of r_Weddings_restless (by decide +kernel)
theorem i_Weddings_restless_64 : m_at k_Weddings_restless 64 = some (.iload 4, 2, 0) := m_at_of r_Weddings_restless (by decide +kernel)
theorem i_Weddings_restless_66 : m_at k_Weddings_restless 66 = some (.invokevirtual 33, 3, 170) := m_at_of r_Weddings_restless (by decide +kernel)
theorem i_Weddings_restless_69 : m_at k_Weddings_restless 69 = some (.ifCond .eq (6), 3, 0) := m_at_of r_Weddings_restless (by decide +kernel)
theorem i_Weddings_restless_72 : m_at k_Weddings_restless 72 = some (.iinc 3 (1), 3, 0) := m_at_of r_Weddings_restless (by decide +kernel)
theorem i_Weddings_restless_75 : m_at k_Weddings_restless 75 = some (.iinc 5 (1), 3, 0) := m_at_of r_Weddings_restless (by decide +kernel)
theorem i_Weddings_restless_78 : m_at k_Weddings_restless 78 = some (.goto (-64), 3, 0) := m_at_of r_Weddings_restless (by decide +kernel)
theorem i_Weddings_restless_81 : m_at k_Weddings_restless 81 = some (.iinc 4 (1), 3, 0) := m_at_of r_Weddings_restless (by decide +kernel)
theorem i_Weddings_restless_84 : m_at k_Weddings_restless 84 = some (.goto (-79), 3, 0) := m_at_of r_Weddings_restless (by decide +kernel)
theorem i_Weddings_restless_87 : m_at k_Weddings_restless 87 = some (.iload_n 3, 1, 0) := m_at_of r_Weddings_restless (by decide +kernel)
theorem i_Weddings_restless_88 : m_at k_Weddings_restless 88 = some (.ireturn, 1, 0) := m_at_of r_Weddings_restless (by decide +kernel)
set_option maxRecDepth 20000 in
set_option maxHeartbeats 1000000 in
theorem E_Weddings_restless (x : m_X) (s : m_H) (w : Nat) (r1 : Nat) (n2 : Int32) : m_M x k_Weddings_restless [.ref w, .ref r1, .int n2] s = if m_isO s w 8 = true then (m_D x 4 k_Weddings_restless 5 [some (.ref w), some (.ref r1), some (.int n2), some (.int 0), some (.int 0), none, none] [] s) else none := by
  refine e_M1 (L0 := [some (.ref w), some (.ref r1), some (.int n2), none, none, none, none]) rfl (by decide +kernel) rfl (q_Weddings_restless _) rfl ?_
  refine e_iconst (v := 0) i_Weddings_restless_0 (by decide) ?_
  refine e_istore_n (L' := [some (.ref w), some (.ref r1), some (.int n2), some (.int 0), none, none, none]) i_Weddings_restless_1 (of_decide_eq_true rfl) rfl ?_
  refine e_iconst (v := 0) i_Weddings_restless_2 (by decide) ?_
  refine e_istore (L' := [some (.ref w), some (.ref r1), some (.int n2), some (.int 0), some (.int 0), none, none]) i_Weddings_restless_3 (of_decide_eq_true rfl) rfl ?_
  exact rfl
set_option maxRecDepth 20000 in
set_option maxHeartbeats 1000000 in
theorem E_Weddings_restless_5 (x : m_X) (ρ : Nat) (hρ : 4 ≤ ρ) (s : m_H) (w : Nat) (r1 : Nat) (n2 : Int32) (n3 : Int32) (n4 : Int32) (d5 : Option Value) (d6 : Option Value) (hd5 : m_nl d5 = true) (hd6 : m_nl d6 = true) : m_D x ρ k_Weddings_restless 5 [some (.ref w), some (.ref r1), some (.int n2), some (.int n3), some (.int n4), d5, d6] [] s = if n2 ≤ n4 then (some (some (.int n3), s)) else m_D x ρ k_Weddings_restless 14 [some (.ref w), some (.ref r1), some (.int n2), some (.int n3), some (.int n4), some (.int n2), d6] [] s := by
  refine e_iload i_Weddings_restless_5 rfl ?_
  refine e_iload_n i_Weddings_restless_7 rfl ?_
  refine e_icmpge (t := 87) i_Weddings_restless_8 (by decide) ?_ ?_
  · refine e_iload_n i_Weddings_restless_87 rfl ?_
    exact e_iretI i_Weddings_restless_88 rfl
  · refine e_iload_n i_Weddings_restless_11 rfl ?_
    refine e_istore (L' := [some (.ref w), some (.ref r1), some (.int n2), some (.int n3), some (.int n4), some (.int n2), d6]) i_Weddings_restless_12 (of_decide_eq_true rfl) rfl ?_
    exact rfl
set_option maxRecDepth 20000 in
set_option maxHeartbeats 1000000 in
theorem E_Weddings_restless_14 (x : m_X) (ρ : Nat) (hρ : 4 ≤ ρ) (s : m_H) (w : Nat) (r1 : Nat) (n2 : Int32) (n3 : Int32) (n4 : Int32) (n5 : Int32) (d6 : Option Value) (hd6 : m_nl d6 = true) : m_D x ρ k_Weddings_restless 14 [some (.ref w), some (.ref r1), some (.int n2), some (.int n3), some (.int n4), some (.int n5), d6] [] s = (m_fR s 9 0 r1).bind fun v17 => (m_ia x s v17 0).bind fun v21 => if v21 ≤ n5 then (m_D x ρ k_Weddings_restless 5 [some (.ref w), some (.ref r1), some (.int n2), some (.int n3), some (.int (n4 + (1 : Int32))), some (.int n5), d6] [] s) else m_bI (m_M x k_Weddings_mateOf [.ref w, .int n4] s) fun v28 s28 => if v28 = n5 then (m_D x ρ k_Weddings_restless 41 [some (.ref w), some (.ref r1), some (.int n2), some (.int n3), some (.int n4), some (.int n5), d6] [.int 1] s28) else m_D x ρ k_Weddings_restless 41 [some (.ref w), some (.ref r1), some (.int n2), some (.int n3), some (.int n4), some (.int n5), d6] [.int 0] s28 := by
  refine e_iload i_Weddings_restless_14 rfl ?_
  refine e_aload_n i_Weddings_restless_16 rfl ?_
  refine e_getR i_Weddings_restless_17 lf_61 (by decide) ft_9_0 (fun v17 => ?_)
  refine e_iconst (v := 0) i_Weddings_restless_20 (by decide) ?_
  refine e_iald i_Weddings_restless_21 (fun v21 => ?_)
  refine e_icmpge (t := 81) i_Weddings_restless_22 (by decide) ?_ ?_
  · refine e_iinc (w := 1) (L' := [some (.ref w), some (.ref r1), some (.int n2), some (.int n3), some (.int (n4 + (1 : Int32))), some (.int n5), d6]) i_Weddings_restless_81 rfl (of_decide_eq_true rfl) (by decide) rfl ?_
    refine e_goto (t := 5) i_Weddings_restless_84 (by decide) ?_
    exact rfl
  · refine e_aload_n i_Weddings_restless_25 rfl ?_
    refine e_iload i_Weddings_restless_26 rfl ?_
    refine e_callI (as := [.ref w, .int n4]) (st' := []) i_Weddings_restless_28 lm_169 (Or.inr (Or.inl ⟨rfl, rfl⟩)) w_Weddings_mateOf rfl rfl rfl (Nat.le_of_ble_eq_true rfl) (Nat.le_of_ble_eq_true rfl) (m_rlt (q_Weddings_mateOf _) (Nat.lt_of_lt_of_le (by decide) hρ)) rfl (fun v28 s28 => ?_)
    refine e_iload i_Weddings_restless_31 rfl ?_
    refine e_icmpne (t := 40) i_Weddings_restless_33 (by decide) ?_ ?_
    · refine e_iconst (v := 0) i_Weddings_restless_40 (by decide) ?_
      exact rfl
    · refine e_iconst (v := 1) i_Weddings_restless_36 (by decide) ?_
      refine e_goto (t := 41) i_Weddings_restless_37 (by decide) ?_
      exact rfl
set_option maxRecDepth 20000 in
set_option maxHeartbeats 1000000 in
theorem E_Weddings_restless_41 (x : m_X) (ρ : Nat) (hρ : 4 ≤ ρ) (s : m_H) (w : Nat) (r1 : Nat) (n2 : Int32) (n3 : Int32) (n4 : Int32) (n5 : Int32) (d6 : Option Value) (nt0 : Int32) (hd6 : m_nl d6 = true) : m_D x ρ k_Weddings_restless 41 [some (.ref w), some (.ref r1), some (.int n2), some (.int n3), some (.int n4), some (.int n5), d6] [.int nt0] s = if nt0 = 0 then (m_bI (m_M x k_Weddings_wouldRather [.ref w, .ref r1, .int n4, .int n5] s) fun v54 s54 => if v54 = 0 then (m_D x ρ k_Weddings_restless 14 [some (.ref w), some (.ref r1), some (.int n2), some (.int n3), some (.int n4), some (.int (n5 + (1 : Int32))), some (.int nt0)] [] s54) else m_bI (m_M x k_Weddings_wouldRather [.ref w, .ref r1, .int n5, .int n4] s54) fun v66 s66 => if v66 = 0 then (m_D x ρ k_Weddings_restless 14 [some (.ref w), some (.ref r1), some (.int n2), some (.int n3), some (.int n4), some (.int (n5 + (1 : Int32))), some (.int nt0)] [] s66) else m_D x ρ k_Weddings_restless 14 [some (.ref w), some (.ref r1), some (.int n2), some (.int (n3 + (1 : Int32))), some (.int n4), some (.int (n5 + (1 : Int32))), some (.int nt0)] [] s66) else m_D x ρ k_Weddings_restless 14 [some (.ref w), some (.ref r1), some (.int n2), some (.int n3), some (.int n4), some (.int (n5 + (1 : Int32))), some (.int nt0)] [] s := by
  refine e_istore (L' := [some (.ref w), some (.ref r1), some (.int n2), some (.int n3), some (.int n4), some (.int n5), some (.int nt0)]) i_Weddings_restless_41 (of_decide_eq_true rfl) rfl ?_
  refine e_iload i_Weddings_restless_43 rfl ?_
  refine e_ifne (t := 75) i_Weddings_restless_45 (by decide) ?_ ?_
  · refine e_iinc (w := 1) (L' := [some (.ref w), some (.ref r1), some (.int n2), some (.int n3), some (.int n4), some (.int (n5 + (1 : Int32))), some (.int nt0)]) i_Weddings_restless_75 rfl (of_decide_eq_true rfl) (by decide) rfl ?_
    refine e_goto (t := 14) i_Weddings_restless_78 (by decide) ?_
    exact rfl
  · refine e_aload_n i_Weddings_restless_48 rfl ?_
    refine e_aload_n i_Weddings_restless_49 rfl ?_
    refine e_iload i_Weddings_restless_50 rfl ?_
    refine e_iload i_Weddings_restless_52 rfl ?_
    refine e_callI (as := [.ref w, .ref r1, .int n4, .int n5]) (st' := []) i_Weddings_restless_54 lm_170 (Or.inr (Or.inl ⟨rfl, rfl⟩)) w_Weddings_wouldRather rfl rfl rfl (Nat.le_of_ble_eq_true rfl) (Nat.le_of_ble_eq_true rfl) (m_rlt (q_Weddings_wouldRather _) (Nat.lt_of_lt_of_le (by decide) hρ)) rfl (fun v54 s54 => ?_)
    refine e_ifeq (t := 75) i_Weddings_restless_57 (by decide) ?_ ?_
    · refine e_iinc (w := 1) (L' := [some (.ref w), some (.ref r1), some (.int n2), some (.int n3), some (.int n4), some (.int (n5 + (1 : Int32))), some (.int nt0)]) i_Weddings_restless_75 rfl (of_decide_eq_true rfl) (by decide) rfl ?_
      refine e_goto (t := 14) i_Weddings_restless_78 (by decide) ?_
      exact rfl
    · refine e_aload_n i_Weddings_restless_60 rfl ?_
      refine e_aload_n i_Weddings_restless_61 rfl ?_
      refine e_iload i_Weddings_restless_62 rfl ?_
      refine e_iload i_Weddings_restless_64 rfl ?_
      refine e_callI (as := [.ref w, .ref r1, .int n5, .int n4]) (st' := []) i_Weddings_restless_66 lm_170 (Or.inr (Or.inl ⟨rfl, rfl⟩)) w_Weddings_wouldRather rfl rfl rfl (Nat.le_of_ble_eq_true rfl) (Nat.le_of_ble_eq_true rfl) (m_rlt (q_Weddings_wouldRather _) (Nat.lt_of_lt_of_le (by decide) hρ)) rfl (fun v66 s66 => ?_)
      refine e_ifeq (t := 75) i_Weddings_restless_69 (by decide) ?_ ?_
      · refine e_iinc (w := 1) (L' := [some (.ref w), some (.ref r1), some (.int n2), some (.int n3), some (.int n4), some (.int (n5 + (1 : Int32))), some (.int nt0)]) i_Weddings_restless_75 rfl (of_decide_eq_true rfl) (by decide) rfl ?_
        refine e_goto (t := 14) i_Weddings_restless_78 (by decide) ?_
        exact rfl
      · refine e_iinc (w := 1) (L' := [some (.ref w), some (.ref r1), some (.int n2), some (.int (n3 + (1 : Int32))), some (.int n4), some (.int n5), some (.int nt0)]) i_Weddings_restless_72 rfl (of_decide_eq_true rfl) (by decide) rfl ?_
        refine e_iinc (w := 1) (L' := [some (.ref w), some (.ref r1), some (.int n2), some (.int (n3 + (1 : Int32))), some (.int n4), some (.int (n5 + (1 : Int32))), some (.int nt0)]) i_Weddings_restless_75 rfl (of_decide_eq_true rfl) (by decide) rfl ?_
        refine e_goto (t := 14) i_Weddings_restless_78 (by decide) ?_
        exact rfl
theorem i_Weddings_takes_0 : m_at k_Weddings_takes 0 = some (.iload_n 3, 1, 0) := m_at_of r_Weddings_takes (by decide +kernel)
theorem i_Weddings_takes_1 : m_at k_Weddings_takes 1 = some (.iload_n 2, 1, 0) := m_at_of r_Weddings_takes (by decide +kernel)
theorem i_Weddings_takes_2 : m_at k_Weddings_takes 2 = some (.if_icmp .ge (9), 3, 0) := m_at_of r_Weddings_takes (by decide +kernel)
theorem i_Weddings_takes_5 : m_at k_Weddings_takes 5 = some (.iload 4, 2, 0) := m_at_of r_Weddings_takes (by decide +kernel)
theorem i_Weddings_takes_7 : m_at k_Weddings_takes 7 = some (.iconst (-1), 1, 0) := m_at_of r_Weddings_takes (by decide +kernel)
theorem i_Weddings_takes_8 : m_at k_Weddings_takes 8 = some (.if_icmp .ne (5), 3, 0) := m_at_of r_Weddings_takes (by decide +kernel)
theorem i_Weddings_takes_11 : m_at k_Weddings_takes 11 = some (.iconst 1, 1, 0) := m_at_of r_Weddings_takes (by decide +kernel)
theorem i_Weddings_takes_12 : m_at k_Weddings_takes 12 = some (.ireturn, 1, 0) := m_at_of r_Weddings_takes (by decide +kernel)
theorem i_Weddings_takes_13 : m_at k_Weddings_takes 13 = some (.iload 4, 2, 0) := m_at_of r_Weddings_takes (by decide +kernel)
theorem i_Weddings_takes_15 : m_at k_Weddings_takes 15 = some (.iload_n 2, 1, 0) := m_at_of r_Weddings_takes (by decide +kernel)
theorem i_Weddings_takes_16 : m_at k_Weddings_takes 16 = some (.if_icmp .lt (26), 3, 0) := m_at_of r_Weddings_takes (by decide +kernel)
theorem i_Weddings_takes_19 : m_at k_Weddings_takes 19 = some (.aload_n 1, 1, 0) := m_at_of r_Weddings_takes (by decide +kernel)
theorem i_Weddings_takes_20 : m_at k_Weddings_takes 20 = some (.iload 4, 2, 0) := m_at_of r_Weddings_takes (by decide +kernel)
theorem i_Weddings_takes_22 : m_at k_Weddings_takes 22 = some (.invokevirtual 58, 3, 171) := m_at_of r_Weddings_takes (by decide +kernel)
theorem i_Weddings_takes_25 : m_at k_Weddings_takes 25 = some (.ifCond .eq (17), 3, 0) := m_at_of r_Weddings_takes (by decide +kernel)
theorem i_Weddings_takes_28 : m_at k_Weddings_takes 28 = some (.aload_n 0, 1, 0) := m_at_of r_Weddings_takes (by decide +kernel)
theorem i_Weddings_takes_29 : m_at k_Weddings_takes 29 = some (.iload 4, 2, 0) := m_at_of r_Weddings_takes (by decide +kernel)
theorem i_Weddings_takes_31 : m_at k_Weddings_takes 31 = some (.invokevirtual 21, 3, 169) := m_at_of r_Weddings_takes (by decide +kernel)
theorem i_Weddings_takes_34 : m_at k_Weddings_takes 34 = some (.iconst (-1), 1, 0) := m_at_of r_Weddings_takes (by decide +kernel)
theorem i_Weddings_takes_35 : m_at k_Weddings_takes 35 = some (.if_icmp .ne (7), 3, 0) := m_at_of r_Weddings_takes (by decide +kernel)
theorem i_Weddings_takes_38 : m_at k_Weddings_takes 38 = some (.iconst 1, 1, 0) := m_at_of r_Weddings_takes (by decide +kernel)
theorem i_Weddings_takes_39 : m_at k_Weddings_takes 39 = some (.goto (4), 3, 0) := m_at_of r_Weddings_takes (by decide +kernel)
theorem i_Weddings_takes_42 : m_at k_Weddings_takes 42 = some (.iconst 0, 1, 0) := m_at_of r_Weddings_takes (by decide +kernel)
theorem i_Weddings_takes_43 : m_at k_Weddings_takes 43 = some (.istore 5, 2, 0) := m_at_of r_Weddings_takes (by decide +kernel)
theorem i_Weddings_takes_45 : m_at k_Weddings_takes 45 = some (.iload 5, 2, 0) := m_at_of r_Weddings_takes (by decide +kernel)
theorem i_Weddings_takes_47 : m_at k_Weddings_takes 47 = some (.ifCond .eq (20), 3, 0) := m_at_of r_Weddings_takes (by decide +kernel)
theorem i_Weddings_takes_50 : m_at k_Weddings_takes 50 = some (.iload 4, 2, 0) := m_at_of r_Weddings_takes (by decide +kernel)
theorem i_Weddings_takes_52 : m_at k_Weddings_takes 52 = some (.bipush 7, 2, 0) := m_at_of r_Weddings_takes (by decide +kernel)
theorem i_Weddings_takes_54 : m_at k_Weddings_takes 54 = some (.if_icmp .ge (13), 3, 0) := m_at_of r_Weddings_takes (by decide +kernel)
theorem i_Weddings_takes_57 : m_at k_Weddings_takes 57 = some (.iload_n 3, 1, 0) := m_at_of r_Weddings_takes (by decide +kernel)
theorem i_Weddings_takes_58 : m_at k_Weddings_takes 58 = some (.ifCond .lt (9), 3, 0) := m_at_of r_Weddings_takes (by decide +kernel)
theorem i_Weddings_takes_61 : m_at k_Weddings_takes 61 = some (.iload_n 3, 1, 0) := m_at_of r_Weddings_takes (by decide +kernel)
theorem i_Weddings_takes_62 : m_at k_Weddings_takes 62 = some (.bipush 7, 2, 0) := m_at_of r_Weddings_takes (by decide +kernel)
theorem i_Weddings_takes_64 : m_at k_Weddings_takes 64 = some (.if_icmp .lt (5), 3, 0) := m_at_of r_Weddings_takes (by decide +kernel)
theorem i_Weddings_takes_67 : m_at k_Weddings_takes 67 = some (.iconst 0, 1, 0) := m_at_of r_Weddings_takes (by decide +kernel)
theorem i_Weddings_takes_68 : m_at k_Weddings_takes 68 = some (.ireturn, 1, 0) := m_at_of r_Weddings_takes (by decide +kernel)
theorem i_Weddings_takes_69 : m_at k_Weddings_takes 69 = some (.aload_n 0, 1, 0) := m_at_of r_Weddings_takes (by decide +kernel)
theorem i_Weddings_takes_70 : m_at k_Weddings_takes 70 = some (.getfield 9, 3, 62) := m_at_of r_Weddings_takes (by decide +kernel)
theorem i_Weddings_takes_73 : m_at k_Weddings_takes 73 = some (.iload_n 3, 1, 0) := m_at_of r_Weddings_takes (by decide +kernel)
theorem i_Weddings_takes_74 : m_at k_Weddings_takes 74 = some (.iload 4, 2, 0) := m_at_of r_Weddings_takes (by decide +kernel)
theorem i_Weddings_takes_76 : m_at k_Weddings_takes 76 = some (.iastore, 1, 0) := m_at_of r_Weddings_takes (by decide +kernel)
theorem i_Weddings_takes_77 : m_at k_Weddings_takes 77 = some (.aload_n 0, 1, 0) := m_at_of r_Weddings_takes (by decide +kernel)
theorem i_Weddings_takes_78 : m_at k_Weddings_takes 78 = some (.getfield 9, 3, 62) := m_at_of r_Weddings_takes (by decide +kernel)
theorem i_Weddings_takes_81 : m_at k_Weddings_takes 81 = some (.iload 4, 2, 0) := m_at_of r_Weddings_takes (by decide +kernel)
theorem i_Weddings_takes_83 : m_at k_Weddings_takes 83 = some (.iload_n 3, 1, 0) := m_at_of r_Weddings_takes (by decide +kernel)
theorem i_Weddings_takes_84 : m_at k_Weddings_takes 84 = some (.iastore, 1, 0) := m_at_of r_Weddings_takes (by decide +kernel)
theorem i_Weddings_takes_85 : m_at k_Weddings_takes 85 = some (.iconst 1, 1, 0) := m_at_of r_Weddings_takes (by decide +kernel)
theorem i_Weddings_takes_86 : m_at k_Weddings_takes 86 = some (.ireturn, 1, 0) := m_at_of r_Weddings_takes (by decide +kernel)
set_option maxRecDepth 20000 in
set_option maxHeartbeats 1000000 in
theorem E_Weddings_takes (x : m_X) (s : m_H) (w : Nat) (r1 : Nat) (n2 : Int32) (n3 : Int32) (n4 : Int32) : m_M x k_Weddings_takes [.ref w, .ref r1, .int n2, .int n3, .int n4] s = if m_isO s w 8 = true then (if n2 ≤ n3 then (some (some (.int 1), s)) else if n4 = (-1) then (some (some (.int 1), s)) else if n4 < n2 then (m_D x 2 k_Weddings_takes 43 [some (.ref w), some (.ref r1), some (.int n2), some (.int n3), some (.int n4), none] [.int 0] s) else m_bI (m_M x k_World_hasOne [.ref r1, .int n4] s) fun v22 s22 => if v22 = 0 then (m_D x 2 k_Weddings_takes 43 [some (.ref w), some (.ref r1), some (.int n2), some (.int n3), some (.int n4), none] [.int 0] s22) else m_bI (m_M x k_Weddings_mateOf [.ref w, .int n4] s22) fun v31 s31 => if v31 = (-1) then (m_D x 2 k_Weddings_takes 43 [some (.ref w), some (.ref r1), some (.int n2), some (.int n3), some (.int n4), none] [.int 1] s31) else m_D x 2 k_Weddings_takes 43 [some (.ref w), some (.ref r1), some (.int n2), some (.int n3), some (.int n4), none] [.int 0] s31) else none := by
  refine e_M1 (L0 := [some (.ref w), some (.ref r1), some (.int n2), some (.int n3), some (.int n4), none]) rfl (by decide +kernel) rfl (q_Weddings_takes _) rfl ?_
  refine e_iload_n i_Weddings_takes_0 rfl ?_
  refine e_iload_n i_Weddings_takes_1 rfl ?_
  refine e_icmpge (t := 11) i_Weddings_takes_2 (by decide) ?_ ?_
  · refine e_iconst (v := 1) i_Weddings_takes_11 (by decide) ?_
    exact e_iretZ i_Weddings_takes_12 rfl (by decide)
  · refine e_iload i_Weddings_takes_5 rfl ?_
    refine e_iconst (v := (-1)) i_Weddings_takes_7 (by decide) ?_
    refine e_icmpne (t := 13) i_Weddings_takes_8 (by decide) ?_ ?_
    · refine e_iload i_Weddings_takes_13 rfl ?_
      refine e_iload_n i_Weddings_takes_15 rfl ?_
      refine e_icmplt (t := 42) i_Weddings_takes_16 (by decide) ?_ ?_
      · refine e_iconst (v := 0) i_Weddings_takes_42 (by decide) ?_
        exact rfl
      · refine e_aload_n i_Weddings_takes_19 rfl ?_
        refine e_iload i_Weddings_takes_20 rfl ?_
        refine e_callI (as := [.ref r1, .int n4]) (st' := []) i_Weddings_takes_22 lm_171 (Or.inr (Or.inl ⟨rfl, rfl⟩)) w_World_hasOne rfl rfl rfl (Nat.le_of_ble_eq_true rfl) (Nat.le_of_ble_eq_true rfl) (m_rlt (q_World_hasOne _) (by decide)) rfl (fun v22 s22 => ?_)
        refine e_ifeq (t := 42) i_Weddings_takes_25 (by decide) ?_ ?_
        · refine e_iconst (v := 0) i_Weddings_takes_42 (by decide) ?_
          exact rfl
        · refine e_aload_n i_Weddings_takes_28 rfl ?_
          refine e_iload i_Weddings_takes_29 rfl ?_
          refine e_callI (as := [.ref w, .int n4]) (st' := []) i_Weddings_takes_31 lm_169 (Or.inr (Or.inl ⟨rfl, rfl⟩)) w_Weddings_mateOf rfl rfl rfl (Nat.le_of_ble_eq_true rfl) (Nat.le_of_ble_eq_true rfl) (m_rlt (q_Weddings_mateOf _) (by decide)) rfl (fun v31 s31 => ?_)
          refine e_iconst (v := (-1)) i_Weddings_takes_34 (by decide) ?_
          refine e_icmpne (t := 42) i_Weddings_takes_35 (by decide) ?_ ?_
          · refine e_iconst (v := 0) i_Weddings_takes_42 (by decide) ?_
            exact rfl
          · refine e_iconst (v := 1) i_Weddings_takes_38 (by decide) ?_
            refine e_goto (t := 43) i_Weddings_takes_39 (by decide) ?_
            exact rfl
    · refine e_iconst (v := 1) i_Weddings_takes_11 (by decide) ?_
      exact e_iretZ i_Weddings_takes_12 rfl (by decide)
set_option maxRecDepth 20000 in
set_option maxHeartbeats 1000000 in
theorem E_Weddings_takes_43 (x : m_X) (ρ : Nat) (hρ : 2 ≤ ρ) (s : m_H) (w : Nat) (r1 : Nat) (n2 : Int32) (n3 : Int32) (n4 : Int32) (nt0 : Int32)  : m_D x ρ k_Weddings_takes 43 [some (.ref w), some (.ref r1), some (.int n2), some (.int n3), some (.int n4), none] [.int nt0] s = if nt0 = 0 then (some (some (.int 0), s)) else if 7 ≤ n4 then (some (some (.int 0), s)) else if n3 < 0 then (some (some (.int 0), s)) else if n3 < 7 then ((m_fR s 8 0 w).bind fun v70 => (m_is s v70 n3 n4).bind fun s76 => (m_fR s76 8 0 w).bind fun v78 => (m_is s76 v78 n4 n3).bind fun s84 => some (some (.int 1), s84)) else some (some (.int 0), s) := by
  refine e_istore (L' := [some (.ref w), some (.ref r1), some (.int n2), some (.int n3), some (.int n4), some (.int nt0)]) i_Weddings_takes_43 (of_decide_eq_true rfl) rfl ?_
  refine e_iload i_Weddings_takes_45 rfl ?_
  refine e_ifeq (t := 67) i_Weddings_takes_47 (by decide) ?_ ?_
  · refine e_iconst (v := 0) i_Weddings_takes_67 (by decide) ?_
    exact e_iretZ i_Weddings_takes_68 rfl (by decide)
  · refine e_iload i_Weddings_takes_50 rfl ?_
    refine e_bipush (v := 7) i_Weddings_takes_52 (by decide) ?_
    refine e_icmpge (t := 67) i_Weddings_takes_54 (by decide) ?_ ?_
    · refine e_iconst (v := 0) i_Weddings_takes_67 (by decide) ?_
      exact e_iretZ i_Weddings_takes_68 rfl (by decide)
    · refine e_iload_n i_Weddings_takes_57 rfl ?_
      refine e_iflt (t := 67) i_Weddings_takes_58 (by decide) ?_ ?_
      · refine e_iconst (v := 0) i_Weddings_takes_67 (by decide) ?_
        exact e_iretZ i_Weddings_takes_68 rfl (by decide)
      · refine e_iload_n i_Weddings_takes_61 rfl ?_
        refine e_bipush (v := 7) i_Weddings_takes_62 (by decide) ?_
        refine e_icmplt (t := 69) i_Weddings_takes_64 (by decide) ?_ ?_
        · refine e_aload_n i_Weddings_takes_69 rfl ?_
          refine e_getR i_Weddings_takes_70 lf_62 (by decide) ft_8_0 (fun v70 => ?_)
          refine e_iload_n i_Weddings_takes_73 rfl ?_
          refine e_iload i_Weddings_takes_74 rfl ?_
          refine e_iast i_Weddings_takes_76 (fun s76 => ?_)
          refine e_aload_n i_Weddings_takes_77 rfl ?_
          refine e_getR i_Weddings_takes_78 lf_62 (by decide) ft_8_0 (fun v78 => ?_)
          refine e_iload i_Weddings_takes_81 rfl ?_
          refine e_iload_n i_Weddings_takes_83 rfl ?_
          refine e_iast i_Weddings_takes_84 (fun s84 => ?_)
          refine e_iconst (v := 1) i_Weddings_takes_85 (by decide) ?_
          exact e_iretZ i_Weddings_takes_86 rfl (by decide)
        · refine e_iconst (v := 0) i_Weddings_takes_67 (by decide) ?_
          exact e_iretZ i_Weddings_takes_68 rfl (by decide)
theorem i_Weddings_wedAll_0 : m_at k_Weddings_wedAll 0 = some (.aload_n 0, 1, 0) := m_at_of r_Weddings_wedAll (by decide +kernel)
theorem i_Weddings_wedAll_1 : m_at k_Weddings_wedAll 1 = some (.invokevirtual 18, 3, 178) := m_at_of r_Weddings_wedAll (by decide +kernel)
theorem i_Weddings_wedAll_4 : m_at k_Weddings_wedAll 4 = some (.iconst 0, 1, 0) := m_at_of r_Weddings_wedAll (by decide +kernel)
theorem i_Weddings_wedAll_5 : m_at k_Weddings_wedAll 5 = some (.istore_n 3, 1, 0) := m_at_of r_Weddings_wedAll (by decide +kernel)
theorem i_Weddings_wedAll_6 : m_at k_Weddings_wedAll 6 = some (.iconst 0, 1, 0) := m_at_of r_Weddings_wedAll (by decide +kernel)
theorem i_Weddings_wedAll_7 : m_at k_Weddings_wedAll 7 = some (.istore 4, 2, 0) := m_at_of r_Weddings_wedAll (by decide +kernel)
theorem i_Weddings_wedAll_9 : m_at k_Weddings_wedAll 9 = some (.iload 4, 2, 0) := m_at_of r_Weddings_wedAll (by decide +kernel)
theorem i_Weddings_wedAll_11 : m_at k_Weddings_wedAll 11 = some (.bipush 49, 2, 0) := m_at_of r_Weddings_wedAll (by decide +kernel)
theorem i_Weddings_wedAll_13 : m_at k_Weddings_wedAll 13 = some (.if_icmp .ge (53), 3, 0) := m_at_of r_Weddings_wedAll (by decide +kernel)
theorem i_Weddings_wedAll_16 : m_at k_Weddings_wedAll 16 = some (.iload_n 3, 1, 0) := m_at_of r_Weddings_wedAll (by decide +kernel)
theorem i_Weddings_wedAll_17 : m_at k_Weddings_wedAll 17 = some (.ifCond .ne (49), 3, 0) := m_at_of r_Weddings_wedAll (by decide +kernel)
theorem i_Weddings_wedAll_20 : m_at k_Weddings_wedAll 20 = some (.iconst 1, 1, 0) := m_at_of r_Weddings_wedAll (by decide +kernel)
theorem i_Weddings_wedAll_21 : m_at k_Weddings_wedAll 21 = some (.istore_n 3, 1, 0) := m_at_of r_Weddings_wedAll (by decide +kernel)
theorem i_Weddings_wedAll_22 : m_at k_Weddings_wedAll 22 = some (.iconst 0, 1, 0) := m_at_of r_Weddings_wedAll (by decide +kernel)
theorem i_Weddings_wedAll_23 : m_at k_Weddings_wedAll 23 = some (.istore 5, 2, 0) := m_at_of r_Weddings_wedAll (by decide +kernel)
theorem i_Weddings_wedAll_25 : m_at k_Weddings_wedAll 25 = some (.iload 5, 2, 0) := m_at_of r_Weddings_wedAll (by decide +kernel)
theorem i_Weddings_wedAll_27 : m_at k_Weddings_wedAll 27 = some (.iload_n 2, 1, 0) := m_at_of r_Weddings_wedAll (by decide +kernel)
theorem i_Weddings_wedAll_28 : m_at k_Weddings_wedAll 28 = some (.if_icmp .ge (32), 3, 0) := m_at_of r_Weddings_wedAll (by decide +kernel)
theorem i_Weddings_wedAll_31 : m_at k_Weddings_wedAll 31 = some (.aload_n 0, 1, 0) := m_at_of r_Weddings_wedAll (by decide +kernel)
theorem i_Weddings_wedAll_32 : m_at k_Weddings_wedAll 32 = some (.iload 5, 2, 0) := m_at_of r_Weddings_wedAll (by decide +kernel)
theorem i_Weddings_wedAll_34 : m_at k_Weddings_wedAll 34 = some (.invokevirtual 21, 3, 169) := m_at_of r_Weddings_wedAll (by decide +kernel)
theorem i_Weddings_wedAll_37 : m_at k_Weddings_wedAll 37 = some (.iconst (-1), 1, 0) := m_at_of r_Weddings_wedAll (by decide +kernel)
theorem i_Weddings_wedAll_38 : m_at k_Weddings_wedAll 38 = some (.if_icmp .ne (16), 3, 0) := m_at_of r_Weddings_wedAll (by decide +kernel)
theorem i_Weddings_wedAll_41 : m_at k_Weddings_wedAll 41 = some (.aload_n 0, 1, 0) := m_at_of r_Weddings_wedAll (by decide +kernel)
theorem i_Weddings_wedAll_42 : m_at k_Weddings_wedAll 42 = some (.aload_n 1, 1, 0) := m_at_of r_Weddings_wedAll (by decide +kernel)
theorem i_Weddings_wedAll_43 : m_at k_Weddings_wedAll 43 = some (.iload_n 2, 1, 0) := m_at_of r_Weddings_wedAll (by decide +kernel)
theorem i_Weddings_wedAll_44 : m_at k_Weddings_wedAll 44 = some (.iload 5, 2, 0) := m_at_of r_Weddings_wedAll (by decide +kernel)
theorem i_Weddings_wedAll_46 : m_at k_Weddings_wedAll 46 = some (.invokevirtual 25, 3, 179) := m_at_of r_Weddings_wedAll (by decide +kernel)
theorem i_Weddings_wedAll_49 : m_at k_Weddings_wedAll 49 = some (.ifCond .eq (5), 3, 0) := m_at_of r_Weddings_wedAll (by decide +kernel)
theorem i_Weddings_wedAll_52 : m_at k_Weddings_wedAll 52 = some (.iconst 0, 1, 0) := m_at_of r_Weddings_wedAll (by decide +kernel)
theorem i_Weddings_wedAll_53 : m_at k_Weddings_wedAll 53 = some (.istore_n 3, 1, 0) := m_at_of r_Weddings_wedAll (by decide +kernel)
theorem i_Weddings_wedAll_54 : m_at k_Weddings_wedAll 54 = some (.iinc 5 (1), 3, 0) := m_at_of r_Weddings_wedAll (by decide +kernel)
theorem i_Weddings_wedAll_57 : m_at k_Weddings_wedAll 57 = some (.goto (-32), 3, 0) := m_at_of r_Weddings_wedAll (by decide +kernel)
theorem i_Weddings_wedAll_60 : m_at k_Weddings_wedAll 60 = some (.iinc 4 (1), 3, 0) := m_at_of r_Weddings_wedAll (by decide +kernel)
theorem i_Weddings_wedAll_63 : m_at k_Weddings_wedAll 63 = some (.goto (-54), 3, 0) := m_at_of r_Weddings_wedAll (by decide +kernel)
theorem i_Weddings_wedAll_66 : m_at k_Weddings_wedAll 66 = some (.return_, 1, 0) := m_at_of r_Weddings_wedAll (by decide +kernel)
set_option maxRecDepth 20000 in
set_option maxHeartbeats 1000000 in
theorem E_Weddings_wedAll (x : m_X) (s : m_H) (w : Nat) (r1 : Nat) (n2 : Int32) : m_M x k_Weddings_wedAll [.ref w, .ref r1, .int n2] s = if m_isO s w 8 = true then (m_bV (m_M x k_Weddings_leaveAll [.ref w] s) fun s1 => m_D x 5 k_Weddings_wedAll 9 [some (.ref w), some (.ref r1), some (.int n2), some (.int 0), some (.int 0), none] [] s1) else none := by
  refine e_M1 (L0 := [some (.ref w), some (.ref r1), some (.int n2), none, none, none]) rfl (by decide +kernel) rfl (q_Weddings_wedAll _) rfl ?_
  refine e_aload_n i_Weddings_wedAll_0 rfl ?_
  refine e_callV (as := [.ref w]) (st' := []) i_Weddings_wedAll_1 lm_178 (Or.inr (Or.inl ⟨rfl, rfl⟩)) w_Weddings_leaveAll rfl rfl rfl (Nat.le_of_ble_eq_true rfl) (Nat.le_of_ble_eq_true rfl) (m_rlt (q_Weddings_leaveAll _) (by decide)) rfl (fun s1 => ?_)
  refine e_iconst (v := 0) i_Weddings_wedAll_4 (by decide) ?_
  refine e_istore_n (L' := [some (.ref w), some (.ref r1), some (.int n2), some (.int 0), none, none]) i_Weddings_wedAll_5 (of_decide_eq_true rfl) rfl ?_
  refine e_iconst (v := 0) i_Weddings_wedAll_6 (by decide) ?_
  refine e_istore (L' := [some (.ref w), some (.ref r1), some (.int n2), some (.int 0), some (.int 0), none]) i_Weddings_wedAll_7 (of_decide_eq_true rfl) rfl ?_
  exact rfl
set_option maxRecDepth 20000 in
set_option maxHeartbeats 1000000 in
theorem E_Weddings_wedAll_9 (x : m_X) (ρ : Nat) (hρ : 5 ≤ ρ) (s : m_H) (w : Nat) (r1 : Nat) (n2 : Int32) (n3 : Int32) (n4 : Int32) (d5 : Option Value) (hd5 : m_nl d5 = true) : m_D x ρ k_Weddings_wedAll 9 [some (.ref w), some (.ref r1), some (.int n2), some (.int n3), some (.int n4), d5] [] s = if 49 ≤ n4 then (some (none, s)) else if n3 = 0 then (m_D x ρ k_Weddings_wedAll 25 [some (.ref w), some (.ref r1), some (.int n2), some (.int 1), some (.int n4), some (.int 0)] [] s) else some (none, s) := by
  refine e_iload i_Weddings_wedAll_9 rfl ?_
  refine e_bipush (v := 49) i_Weddings_wedAll_11 (by decide) ?_
  refine e_icmpge (t := 66) i_Weddings_wedAll_13 (by decide) ?_ ?_
  · exact e_vret i_Weddings_wedAll_66 rfl
  · refine e_iload_n i_Weddings_wedAll_16 rfl ?_
    refine e_ifne (t := 66) i_Weddings_wedAll_17 (by decide) ?_ ?_
    · exact e_vret i_Weddings_wedAll_66 rfl
    · refine e_iconst (v := 1) i_Weddings_wedAll_20 (by decide) ?_
      refine e_istore_n (L' := [some (.ref w), some (.ref r1), some (.int n2), some (.int 1), some (.int n4), d5]) i_Weddings_wedAll_21 (of_decide_eq_true rfl) rfl ?_
      refine e_iconst (v := 0) i_Weddings_wedAll_22 (by decide) ?_
      refine e_istore (L' := [some (.ref w), some (.ref r1), some (.int n2), some (.int 1), some (.int n4), some (.int 0)]) i_Weddings_wedAll_23 (of_decide_eq_true rfl) rfl ?_
      exact rfl
set_option maxRecDepth 20000 in
set_option maxHeartbeats 1000000 in
theorem E_Weddings_wedAll_25 (x : m_X) (ρ : Nat) (hρ : 5 ≤ ρ) (s : m_H) (w : Nat) (r1 : Nat) (n2 : Int32) (n3 : Int32) (n4 : Int32) (n5 : Int32)  : m_D x ρ k_Weddings_wedAll 25 [some (.ref w), some (.ref r1), some (.int n2), some (.int n3), some (.int n4), some (.int n5)] [] s = if n2 ≤ n5 then (m_D x ρ k_Weddings_wedAll 9 [some (.ref w), some (.ref r1), some (.int n2), some (.int n3), some (.int (n4 + (1 : Int32))), some (.int n5)] [] s) else m_bI (m_M x k_Weddings_mateOf [.ref w, .int n5] s) fun v34 s34 => if v34 = (-1) then (m_bI (m_M x k_Weddings_asksOn [.ref w, .ref r1, .int n2, .int n5] s34) fun v46 s46 => if v46 = 0 then (m_D x ρ k_Weddings_wedAll 25 [some (.ref w), some (.ref r1), some (.int n2), some (.int n3), some (.int n4), some (.int (n5 + (1 : Int32)))] [] s46) else m_D x ρ k_Weddings_wedAll 25 [some (.ref w), some (.ref r1), some (.int n2), some (.int 0), some (.int n4), some (.int (n5 + (1 : Int32)))] [] s46) else m_D x ρ k_Weddings_wedAll 25 [some (.ref w), some (.ref r1), some (.int n2), some (.int n3), some (.int n4), some (.int (n5 + (1 : Int32)))] [] s34 := by
  refine e_iload i_Weddings_wedAll_25 rfl ?_
  refine e_iload_n i_Weddings_wedAll_27 rfl ?_
  refine e_icmpge (t := 60) i_Weddings_wedAll_28 (by decide) ?_ ?_
  · refine e_iinc (w := 1) (L' := [some (.ref w), some (.ref r1), some (.int n2), some (.int n3), some (.int (n4 + (1 : Int32))), some (.int n5)]) i_Weddings_wedAll_60 rfl (of_decide_eq_true rfl) (by decide) rfl ?_
    refine e_goto (t := 9) i_Weddings_wedAll_63 (by decide) ?_
    exact rfl
  · refine e_aload_n i_Weddings_wedAll_31 rfl ?_
    refine e_iload i_Weddings_wedAll_32 rfl ?_
    refine e_callI (as := [.ref w, .int n5]) (st' := []) i_Weddings_wedAll_34 lm_169 (Or.inr (Or.inl ⟨rfl, rfl⟩)) w_Weddings_mateOf rfl rfl rfl (Nat.le_of_ble_eq_true rfl) (Nat.le_of_ble_eq_true rfl) (m_rlt (q_Weddings_mateOf _) (Nat.lt_of_lt_of_le (by decide) hρ)) rfl (fun v34 s34 => ?_)
    refine e_iconst (v := (-1)) i_Weddings_wedAll_37 (by decide) ?_
    refine e_icmpne (t := 54) i_Weddings_wedAll_38 (by decide) ?_ ?_
    · refine e_iinc (w := 1) (L' := [some (.ref w), some (.ref r1), some (.int n2), some (.int n3), some (.int n4), some (.int (n5 + (1 : Int32)))]) i_Weddings_wedAll_54 rfl (of_decide_eq_true rfl) (by decide) rfl ?_
      refine e_goto (t := 25) i_Weddings_wedAll_57 (by decide) ?_
      exact rfl
    · refine e_aload_n i_Weddings_wedAll_41 rfl ?_
      refine e_aload_n i_Weddings_wedAll_42 rfl ?_
      refine e_iload_n i_Weddings_wedAll_43 rfl ?_
      refine e_iload i_Weddings_wedAll_44 rfl ?_
      refine e_callI (as := [.ref w, .ref r1, .int n2, .int n5]) (st' := []) i_Weddings_wedAll_46 lm_179 (Or.inr (Or.inl ⟨rfl, rfl⟩)) w_Weddings_asksOn rfl rfl rfl (Nat.le_of_ble_eq_true rfl) (Nat.le_of_ble_eq_true rfl) (m_rlt (q_Weddings_asksOn _) (Nat.lt_of_lt_of_le (by decide) hρ)) rfl (fun v46 s46 => ?_)
      refine e_ifeq (t := 54) i_Weddings_wedAll_49 (by decide) ?_ ?_
      · refine e_iinc (w := 1) (L' := [some (.ref w), some (.ref r1), some (.int n2), some (.int n3), some (.int n4), some (.int (n5 + (1 : Int32)))]) i_Weddings_wedAll_54 rfl (of_decide_eq_true rfl) (by decide) rfl ?_
        refine e_goto (t := 25) i_Weddings_wedAll_57 (by decide) ?_
        exact rfl
      · refine e_iconst (v := 0) i_Weddings_wedAll_52 (by decide) ?_
        refine e_istore_n (L' := [some (.ref w), some (.ref r1), some (.int n2), some (.int 0), some (.int n4), some (.int n5)]) i_Weddings_wedAll_53 (of_decide_eq_true rfl) rfl ?_
        refine e_iinc (w := 1) (L' := [some (.ref w), some (.ref r1), some (.int n2), some (.int 0), some (.int n4), some (.int (n5 + (1 : Int32)))]) i_Weddings_wedAll_54 rfl (of_decide_eq_true rfl) (by decide) rfl ?_
        refine e_goto (t := 25) i_Weddings_wedAll_57 (by decide) ?_
        exact rfl
theorem i_Weddings_asksOn_0 : m_at k_Weddings_asksOn 0 = some (.aload_n 0, 1, 0) := m_at_of r_Weddings_asksOn (by decide +kernel)
theorem i_Weddings_asksOn_1 : m_at k_Weddings_asksOn 1 = some (.aload_n 1, 1, 0) := m_at_of r_Weddings_asksOn (by decide +kernel)
theorem i_Weddings_asksOn_2 : m_at k_Weddings_asksOn 2 = some (.iload_n 2, 1, 0) := m_at_of r_Weddings_asksOn (by decide +kernel)
theorem i_Weddings_asksOn_3 : m_at k_Weddings_asksOn 3 = some (.iload_n 3, 1, 0) := m_at_of r_Weddings_asksOn (by decide +kernel)
theorem i_Weddings_asksOn_4 : m_at k_Weddings_asksOn 4 = some (.invokevirtual 29, 3, 180) := m_at_of r_Weddings_asksOn (by decide +kernel)
theorem i_Weddings_asksOn_7 : m_at k_Weddings_asksOn 7 = some (.istore 4, 2, 0) := m_at_of r_Weddings_asksOn (by decide +kernel)
theorem i_Weddings_asksOn_9 : m_at k_Weddings_asksOn 9 = some (.iload 4, 2, 0) := m_at_of r_Weddings_asksOn (by decide +kernel)
theorem i_Weddings_asksOn_11 : m_at k_Weddings_asksOn 11 = some (.ifCond .lt (20), 3, 0) := m_at_of r_Weddings_asksOn (by decide +kernel)
theorem i_Weddings_asksOn_14 : m_at k_Weddings_asksOn 14 = some (.iload 4, 2, 0) := m_at_of r_Weddings_asksOn (by decide +kernel)
theorem i_Weddings_asksOn_16 : m_at k_Weddings_asksOn 16 = some (.bipush 7, 2, 0) := m_at_of r_Weddings_asksOn (by decide +kernel)
theorem i_Weddings_asksOn_18 : m_at k_Weddings_asksOn 18 = some (.if_icmp .ge (13), 3, 0) := m_at_of r_Weddings_asksOn (by decide +kernel)
theorem i_Weddings_asksOn_21 : m_at k_Weddings_asksOn 21 = some (.iload_n 3, 1, 0) := m_at_of r_Weddings_asksOn (by decide +kernel)
theorem i_Weddings_asksOn_22 : m_at k_Weddings_asksOn 22 = some (.ifCond .lt (9), 3, 0) := m_at_of r_Weddings_asksOn (by decide +kernel)
theorem i_Weddings_asksOn_25 : m_at k_Weddings_asksOn 25 = some (.iload_n 3, 1, 0) := m_at_of r_Weddings_asksOn (by decide +kernel)
theorem i_Weddings_asksOn_26 : m_at k_Weddings_asksOn 26 = some (.bipush 7, 2, 0) := m_at_of r_Weddings_asksOn (by decide +kernel)
theorem i_Weddings_asksOn_28 : m_at k_Weddings_asksOn 28 = some (.if_icmp .lt (5), 3, 0) := m_at_of r_Weddings_asksOn (by decide +kernel)
theorem i_Weddings_asksOn_31 : m_at k_Weddings_asksOn 31 = some (.iconst 0, 1, 0) := m_at_of r_Weddings_asksOn (by decide +kernel)
theorem i_Weddings_asksOn_32 : m_at k_Weddings_asksOn 32 = some (.ireturn, 1, 0) := m_at_of r_Weddings_asksOn (by decide +kernel)
theorem i_Weddings_asksOn_33 : m_at k_Weddings_asksOn 33 = some (.aload_n 0, 1, 0) := m_at_of r_Weddings_asksOn (by decide +kernel)
theorem i_Weddings_asksOn_34 : m_at k_Weddings_asksOn 34 = some (.getfield 15, 3, 64) := m_at_of r_Weddings_asksOn (by decide +kernel)
theorem i_Weddings_asksOn_37 : m_at k_Weddings_asksOn 37 = some (.iload_n 3, 1, 0) := m_at_of r_Weddings_asksOn (by decide +kernel)
theorem i_Weddings_asksOn_38 : m_at k_Weddings_asksOn 38 = some (.dup2, 1, 0) := m_at_of r_Weddings_asksOn (by decide +kernel)
theorem i_Weddings_asksOn_39 : m_at k_Weddings_asksOn 39 = some (.iaload, 1, 0) := m_at_of r_Weddings_asksOn (by decide +kernel)
theorem i_Weddings_asksOn_40 : m_at k_Weddings_asksOn 40 = some (.iconst 1, 1, 0) := m_at_of r_Weddings_asksOn (by decide +kernel)
theorem i_Weddings_asksOn_41 : m_at k_Weddings_asksOn 41 = some (.iload 4, 2, 0) := m_at_of r_Weddings_asksOn (by decide +kernel)
theorem i_Weddings_asksOn_43 : m_at k_Weddings_asksOn 43 = some (.ishl, 1, 0) := m_at_of r_Weddings_asksOn (by decide +kernel)
theorem i_Weddings_asksOn_44 : m_at k_Weddings_asksOn 44 = some (.ior, 1, 0) := m_at_of r_Weddings_asksOn (by decide +kernel)
theorem i_Weddings_asksOn_45 : m_at k_Weddings_asksOn 45 = some (.iastore, 1, 0) := m_at_of r_Weddings_asksOn (by decide +kernel)
theorem i_Weddings_asksOn_46 : m_at k_Weddings_asksOn 46 = some (.aload_n 0, 1, 0) := m_at_of r_Weddings_asksOn (by decide +kernel)
theorem i_Weddings_asksOn_47 : m_at k_Weddings_asksOn 47 = some (.aload_n 1, 1, 0) := m_at_of r_Weddings_asksOn (by decide +kernel)
theorem i_Weddings_asksOn_48 : m_at k_Weddings_asksOn 48 = some (.iload 4, 2, 0) := m_at_of r_Weddings_asksOn (by decide +kernel)
theorem i_Weddings_asksOn_50 : m_at k_Weddings_asksOn 50 = some (.iload_n 3, 1, 0) := m_at_of r_Weddings_asksOn (by decide +kernel)
theorem i_Weddings_asksOn_51 : m_at k_Weddings_asksOn 51 = some (.invokevirtual 33, 3, 170) := m_at_of r_Weddings_asksOn (by decide +kernel)
theorem i_Weddings_asksOn_54 : m_at k_Weddings_asksOn 54 = some (.ifCond .eq (25), 3, 0) := m_at_of r_Weddings_asksOn (by decide +kernel)
theorem i_Weddings_asksOn_57 : m_at k_Weddings_asksOn 57 = some (.aload_n 0, 1, 0) := m_at_of r_Weddings_asksOn (by decide +kernel)
theorem i_Weddings_asksOn_58 : m_at k_Weddings_asksOn 58 = some (.iload 4, 2, 0) := m_at_of r_Weddings_asksOn (by decide +kernel)
theorem i_Weddings_asksOn_60 : m_at k_Weddings_asksOn 60 = some (.invokevirtual 36, 3, 181) := m_at_of r_Weddings_asksOn (by decide +kernel)
theorem i_Weddings_asksOn_63 : m_at k_Weddings_asksOn 63 = some (.aload_n 0, 1, 0) := m_at_of r_Weddings_asksOn (by decide +kernel)
theorem i_Weddings_asksOn_64 : m_at k_Weddings_asksOn 64 = some (.getfield 9, 3, 62) := m_at_of r_Weddings_asksOn (by decide +kernel)
theorem i_Weddings_asksOn_67 : m_at k_Weddings_asksOn 67 = some (.iload_n 3, 1, 0) := m_at_of r_Weddings_asksOn (by decide +kernel)
theorem i_Weddings_asksOn_68 : m_at k_Weddings_asksOn 68 = some (.iload 4, 2, 0) := m_at_of r_Weddings_asksOn (by decide +kernel)
theorem i_Weddings_asksOn_70 : m_at k_Weddings_asksOn 70 = some (.iastore, 1, 0) := m_at_of r_Weddings_asksOn (by decide +kernel)
theorem i_Weddings_asksOn_71 : m_at k_Weddings_asksOn 71 = some (.aload_n 0, 1, 0) := m_at_of r_Weddings_asksOn (by decide +kernel)
theorem i_Weddings_asksOn_72 : m_at k_Weddings_asksOn 72 = some (.getfield 9, 3, 62) := m_at_of r_Weddings_asksOn (by decide +kernel)
theorem i_Weddings_asksOn_75 : m_at k_Weddings_asksOn 75 = some (.iload 4, 2, 0) := m_at_of r_Weddings_asksOn (by decide +kernel)
theorem i_Weddings_asksOn_77 : m_at k_Weddings_asksOn 77 = some (.iload_n 3, 1, 0) := m_at_of r_Weddings_asksOn (by decide +kernel)
theorem i_Weddings_asksOn_78 : m_at k_Weddings_asksOn 78 = some (.iastore, 1, 0) := m_at_of r_Weddings_asksOn (by decide +kernel)
theorem i_Weddings_asksOn_79 : m_at k_Weddings_asksOn 79 = some (.iconst 1, 1, 0) := m_at_of r_Weddings_asksOn (by decide +kernel)
theorem i_Weddings_asksOn_80 : m_at k_Weddings_asksOn 80 = some (.ireturn, 1, 0) := m_at_of r_Weddings_asksOn (by decide +kernel)
set_option maxRecDepth 20000 in
set_option maxHeartbeats 1000000 in
theorem E_Weddings_asksOn (x : m_X) (s : m_H) (w : Nat) (r1 : Nat) (n2 : Int32) (n3 : Int32) : m_M x k_Weddings_asksOn [.ref w, .ref r1, .int n2, .int n3] s = if m_isO s w 8 = true then (m_bI (m_M x k_Weddings_nextToAsk [.ref w, .ref r1, .int n2, .int n3] s) fun v4 s4 => if v4 < 0 then (some (some (.int 0), s4)) else if 7 ≤ v4 then (some (some (.int 0), s4)) else if n3 < 0 then (some (some (.int 0), s4)) else if n3 < 7 then ((m_fR s4 8 1 w).bind fun v34 => (m_ia x s4 v34 n3).bind fun v39 => (m_is s4 v34 n3 (v39 ||| ((1 : Int32) <<< (v4 &&& (31 : Int32))))).bind fun s45 => m_bI (m_M x k_Weddings_wouldRather [.ref w, .ref r1, .int v4, .int n3] s45) fun v51 s51 => if v51 = 0 then (some (some (.int 1), s51)) else m_bV (m_M x k_Weddings_part [.ref w, .int v4] s51) fun s60 => (m_fR s60 8 0 w).bind fun v64 => (m_is s60 v64 n3 v4).bind fun s70 => (m_fR s70 8 0 w).bind fun v72 => (m_is s70 v72 v4 n3).bind fun s78 => some (some (.int 1), s78)) else some (some (.int 0), s4)) else none := by
  refine e_M1 (L0 := [some (.ref w), some (.ref r1), some (.int n2), some (.int n3), none]) rfl (by decide +kernel) rfl (q_Weddings_asksOn _) rfl ?_
  refine e_aload_n i_Weddings_asksOn_0 rfl ?_
  refine e_aload_n i_Weddings_asksOn_1 rfl ?_
  refine e_iload_n i_Weddings_asksOn_2 rfl ?_
  refine e_iload_n i_Weddings_asksOn_3 rfl ?_
  refine e_callI (as := [.ref w, .ref r1, .int n2, .int n3]) (st' := []) i_Weddings_asksOn_4 lm_180 (Or.inr (Or.inl ⟨rfl, rfl⟩)) w_Weddings_nextToAsk rfl rfl rfl (Nat.le_of_ble_eq_true rfl) (Nat.le_of_ble_eq_true rfl) (m_rlt (q_Weddings_nextToAsk _) (by decide)) rfl (fun v4 s4 => ?_)
  refine e_istore (L' := [some (.ref w), some (.ref r1), some (.int n2), some (.int n3), some (.int v4)]) i_Weddings_asksOn_7 (of_decide_eq_true rfl) rfl ?_
  refine e_iload i_Weddings_asksOn_9 rfl ?_
  refine e_iflt (t := 31) i_Weddings_asksOn_11 (by decide) ?_ ?_
  · refine e_iconst (v := 0) i_Weddings_asksOn_31 (by decide) ?_
    exact e_iretZ i_Weddings_asksOn_32 rfl (by decide)
  · refine e_iload i_Weddings_asksOn_14 rfl ?_
    refine e_bipush (v := 7) i_Weddings_asksOn_16 (by decide) ?_
    refine e_icmpge (t := 31) i_Weddings_asksOn_18 (by decide) ?_ ?_
    · refine e_iconst (v := 0) i_Weddings_asksOn_31 (by decide) ?_
      exact e_iretZ i_Weddings_asksOn_32 rfl (by decide)
    · refine e_iload_n i_Weddings_asksOn_21 rfl ?_
      refine e_iflt (t := 31) i_Weddings_asksOn_22 (by decide) ?_ ?_
      · refine e_iconst (v := 0) i_Weddings_asksOn_31 (by decide) ?_
        exact e_iretZ i_Weddings_asksOn_32 rfl (by decide)
      · refine e_iload_n i_Weddings_asksOn_25 rfl ?_
        refine e_bipush (v := 7) i_Weddings_asksOn_26 (by decide) ?_
        refine e_icmplt (t := 33) i_Weddings_asksOn_28 (by decide) ?_ ?_
        · refine e_aload_n i_Weddings_asksOn_33 rfl ?_
          refine e_getR i_Weddings_asksOn_34 lf_64 (by decide) ft_8_1 (fun v34 => ?_)
          refine e_iload_n i_Weddings_asksOn_37 rfl ?_
          refine e_dup2 i_Weddings_asksOn_38 ⟨rfl, rfl⟩ ?_
          refine e_iald i_Weddings_asksOn_39 (fun v39 => ?_)
          refine e_iconst (v := 1) i_Weddings_asksOn_40 (by decide) ?_
          refine e_iload i_Weddings_asksOn_41 rfl ?_
          refine e_ishl i_Weddings_asksOn_43 ?_
          refine e_ior i_Weddings_asksOn_44 ?_
          refine e_iast i_Weddings_asksOn_45 (fun s45 => ?_)
          refine e_aload_n i_Weddings_asksOn_46 rfl ?_
          refine e_aload_n i_Weddings_asksOn_47 rfl ?_
          refine e_iload i_Weddings_asksOn_48 rfl ?_
          refine e_iload_n i_Weddings_asksOn_50 rfl ?_
          refine e_callI (as := [.ref w, .ref r1, .int v4, .int n3]) (st' := []) i_Weddings_asksOn_51 lm_170 (Or.inr (Or.inl ⟨rfl, rfl⟩)) w_Weddings_wouldRather rfl rfl rfl (Nat.le_of_ble_eq_true rfl) (Nat.le_of_ble_eq_true rfl) (m_rlt (q_Weddings_wouldRather _) (by decide)) rfl (fun v51 s51 => ?_)
          refine e_ifeq (t := 79) i_Weddings_asksOn_54 (by decide) ?_ ?_
          · refine e_iconst (v := 1) i_Weddings_asksOn_79 (by decide) ?_
            exact e_iretZ i_Weddings_asksOn_80 rfl (by decide)
          · refine e_aload_n i_Weddings_asksOn_57 rfl ?_
            refine e_iload i_Weddings_asksOn_58 rfl ?_
            refine e_callV (as := [.ref w, .int v4]) (st' := []) i_Weddings_asksOn_60 lm_181 (Or.inr (Or.inl ⟨rfl, rfl⟩)) w_Weddings_part rfl rfl rfl (Nat.le_of_ble_eq_true rfl) (Nat.le_of_ble_eq_true rfl) (m_rlt (q_Weddings_part _) (by decide)) rfl (fun s60 => ?_)
            refine e_aload_n i_Weddings_asksOn_63 rfl ?_
            refine e_getR i_Weddings_asksOn_64 lf_62 (by decide) ft_8_0 (fun v64 => ?_)
            refine e_iload_n i_Weddings_asksOn_67 rfl ?_
            refine e_iload i_Weddings_asksOn_68 rfl ?_
            refine e_iast i_Weddings_asksOn_70 (fun s70 => ?_)
            refine e_aload_n i_Weddings_asksOn_71 rfl ?_
            refine e_getR i_Weddings_asksOn_72 lf_62 (by decide) ft_8_0 (fun v72 => ?_)
            refine e_iload i_Weddings_asksOn_75 rfl ?_
            refine e_iload_n i_Weddings_asksOn_77 rfl ?_
            refine e_iast i_Weddings_asksOn_78 (fun s78 => ?_)
            refine e_iconst (v := 1) i_Weddings_asksOn_79 (by decide) ?_
            exact e_iretZ i_Weddings_asksOn_80 rfl (by decide)
        · refine e_iconst (v := 0) i_Weddings_asksOn_31 (by decide) ?_
          exact e_iretZ i_Weddings_asksOn_32 rfl (by decide)
theorem i_Weddings_part_0 : m_at k_Weddings_part 0 = some (.aload_n 0, 1, 0) := m_at_of r_Weddings_part (by decide +kernel)
theorem i_Weddings_part_1 : m_at k_Weddings_part 1 = some (.iload_n 1, 1, 0) := m_at_of r_Weddings_part (by decide +kernel)
theorem i_Weddings_part_2 : m_at k_Weddings_part 2 = some (.invokevirtual 21, 3, 169) := m_at_of r_Weddings_part (by decide +kernel)
theorem i_Weddings_part_5 : m_at k_Weddings_part 5 = some (.istore_n 2, 1, 0) := m_at_of r_Weddings_part (by decide +kernel)
theorem i_Weddings_part_6 : m_at k_Weddings_part 6 = some (.iload_n 2, 1, 0) := m_at_of r_Weddings_part (by decide +kernel)
theorem i_Weddings_part_7 : m_at k_Weddings_part 7 = some (.ifCond .lt (16), 3, 0) := m_at_of r_Weddings_part (by decide +kernel)
theorem i_Weddings_part_10 : m_at k_Weddings_part 10 = some (.iload_n 2, 1, 0) := m_at_of r_Weddings_part (by decide +kernel)
theorem i_Weddings_part_11 : m_at k_Weddings_part 11 = some (.bipush 7, 2, 0) := m_at_of r_Weddings_part (by decide +kernel)
theorem i_Weddings_part_13 : m_at k_Weddings_part 13 = some (.if_icmp .ge (10), 3, 0) := m_at_of r_Weddings_part (by decide +kernel)
theorem i_Weddings_part_16 : m_at k_Weddings_part 16 = some (.aload_n 0, 1, 0) := m_at_of r_Weddings_part (by decide +kernel)
theorem i_Weddings_part_17 : m_at k_Weddings_part 17 = some (.getfield 9, 3, 62) := m_at_of r_Weddings_part (by decide +kernel)
theorem i_Weddings_part_20 : m_at k_Weddings_part 20 = some (.iload_n 2, 1, 0) := m_at_of r_Weddings_part (by decide +kernel)
theorem i_Weddings_part_21 : m_at k_Weddings_part 21 = some (.iconst (-1), 1, 0) := m_at_of r_Weddings_part (by decide +kernel)
theorem i_Weddings_part_22 : m_at k_Weddings_part 22 = some (.iastore, 1, 0) := m_at_of r_Weddings_part (by decide +kernel)
theorem i_Weddings_part_23 : m_at k_Weddings_part 23 = some (.return_, 1, 0) := m_at_of r_Weddings_part (by decide +kernel)
set_option maxRecDepth 20000 in
set_option maxHeartbeats 1000000 in
theorem E_Weddings_part (x : m_X) (s : m_H) (w : Nat) (n1 : Int32) : m_M x k_Weddings_part [.ref w, .int n1] s = if m_isO s w 8 = true then (m_bI (m_M x k_Weddings_mateOf [.ref w, .int n1] s) fun v2 s2 => if v2 < 0 then (some (none, s2)) else if 7 ≤ v2 then (some (none, s2)) else (m_fR s2 8 0 w).bind fun v17 => (m_is s2 v17 v2 (-1)).bind fun s22 => some (none, s22)) else none := by
  refine e_M1 (L0 := [some (.ref w), some (.int n1), none]) rfl (by decide +kernel) rfl (q_Weddings_part _) rfl ?_
  refine e_aload_n i_Weddings_part_0 rfl ?_
  refine e_iload_n i_Weddings_part_1 rfl ?_
  refine e_callI (as := [.ref w, .int n1]) (st' := []) i_Weddings_part_2 lm_169 (Or.inr (Or.inl ⟨rfl, rfl⟩)) w_Weddings_mateOf rfl rfl rfl (Nat.le_of_ble_eq_true rfl) (Nat.le_of_ble_eq_true rfl) (m_rlt (q_Weddings_mateOf _) (by decide)) rfl (fun v2 s2 => ?_)
  refine e_istore_n (L' := [some (.ref w), some (.int n1), some (.int v2)]) i_Weddings_part_5 (of_decide_eq_true rfl) rfl ?_
  refine e_iload_n i_Weddings_part_6 rfl ?_
  refine e_iflt (t := 23) i_Weddings_part_7 (by decide) ?_ ?_
  · exact e_vret i_Weddings_part_23 rfl
  · refine e_iload_n i_Weddings_part_10 rfl ?_
    refine e_bipush (v := 7) i_Weddings_part_11 (by decide) ?_
    refine e_icmpge (t := 23) i_Weddings_part_13 (by decide) ?_ ?_
    · exact e_vret i_Weddings_part_23 rfl
    · refine e_aload_n i_Weddings_part_16 rfl ?_
      refine e_getR i_Weddings_part_17 lf_62 (by decide) ft_8_0 (fun v17 => ?_)
      refine e_iload_n i_Weddings_part_20 rfl ?_
      refine e_iconst (v := (-1)) i_Weddings_part_21 (by decide) ?_
      refine e_iast i_Weddings_part_22 (fun s22 => ?_)
      exact e_vret i_Weddings_part_23 rfl
theorem i_Weddings_wouldRather_0 : m_at k_Weddings_wouldRather 0 = some (.aload_n 0, 1, 0) := m_at_of r_Weddings_wouldRather (by decide +kernel)
theorem i_Weddings_wouldRather_1 : m_at k_Weddings_wouldRather 1 = some (.iload_n 2, 1, 0) := m_at_of r_Weddings_wouldRather (by decide +kernel)
theorem i_Weddings_wouldRather_2 : m_at k_Weddings_wouldRather 2 = some (.invokevirtual 21, 3, 169) := m_at_of r_Weddings_wouldRather (by decide +kernel)
theorem i_Weddings_wouldRather_5 : m_at k_Weddings_wouldRather 5 = some (.istore 4, 2, 0) := m_at_of r_Weddings_wouldRather (by decide +kernel)
theorem i_Weddings_wouldRather_7 : m_at k_Weddings_wouldRather 7 = some (.iload 4, 2, 0) := m_at_of r_Weddings_wouldRather (by decide +kernel)
theorem i_Weddings_wouldRather_9 : m_at k_Weddings_wouldRather 9 = some (.iconst (-1), 1, 0) := m_at_of r_Weddings_wouldRather (by decide +kernel)
theorem i_Weddings_wouldRather_10 : m_at k_Weddings_wouldRather 10 = some (.if_icmp .eq (14), 3, 0) := m_at_of r_Weddings_wouldRather (by decide +kernel)
theorem i_Weddings_wouldRather_13 : m_at k_Weddings_wouldRather 13 = some (.aload_n 1, 1, 0) := m_at_of r_Weddings_wouldRather (by decide +kernel)
theorem i_Weddings_wouldRather_14 : m_at k_Weddings_wouldRather 14 = some (.iload_n 2, 1, 0) := m_at_of r_Weddings_wouldRather (by decide +kernel)
theorem i_Weddings_wouldRather_15 : m_at k_Weddings_wouldRather 15 = some (.iload_n 3, 1, 0) := m_at_of r_Weddings_wouldRather (by decide +kernel)
theorem i_Weddings_wouldRather_16 : m_at k_Weddings_wouldRather 16 = some (.iload 4, 2, 0) := m_at_of r_Weddings_wouldRather (by decide +kernel)
theorem i_Weddings_wouldRather_18 : m_at k_Weddings_wouldRather 18 = some (.invokestatic 45, 3, 182) := m_at_of r_Weddings_wouldRather (by decide +kernel)
theorem i_Weddings_wouldRather_21 : m_at k_Weddings_wouldRather 21 = some (.ifCond .eq (7), 3, 0) := m_at_of r_Weddings_wouldRather (by decide +kernel)
theorem i_Weddings_wouldRather_24 : m_at k_Weddings_wouldRather 24 = some (.iconst 1, 1, 0) := m_at_of r_Weddings_wouldRather (by decide +kernel)
theorem i_Weddings_wouldRather_25 : m_at k_Weddings_wouldRather 25 = some (.goto (4), 3, 0) := m_at_of r_Weddings_wouldRather (by decide +kernel)
theorem i_Weddings_wouldRather_28 : m_at k_Weddings_wouldRather 28 = some (.iconst 0, 1, 0) := m_at_of r_Weddings_wouldRather (by decide +kernel)
theorem i_Weddings_wouldRather_29 : m_at k_Weddings_wouldRather 29 = some (.ireturn, 1, 0) := m_at_of r_Weddings_wouldRather (by decide +kernel)
set_option maxRecDepth 20000 in
set_option maxHeartbeats 1000000 in
theorem E_Weddings_wouldRather (x : m_X) (s : m_H) (w : Nat) (r1 : Nat) (n2 : Int32) (n3 : Int32) : m_M x k_Weddings_wouldRather [.ref w, .ref r1, .int n2, .int n3] s = if m_isO s w 8 = true then (m_bI (m_M x k_Weddings_mateOf [.ref w, .int n2] s) fun v2 s2 => if v2 = (-1) then (some (some (.int 1), s2)) else m_bI (m_M x k_Weddings_isAhead [.ref r1, .int n2, .int n3, .int v2] s2) fun v18 s18 => if v18 = 0 then (some (some (.int 0), s18)) else some (some (.int 1), s18)) else none := by
  refine e_M1 (L0 := [some (.ref w), some (.ref r1), some (.int n2), some (.int n3), none]) rfl (by decide +kernel) rfl (q_Weddings_wouldRather _) rfl ?_
  refine e_aload_n i_Weddings_wouldRather_0 rfl ?_
  refine e_iload_n i_Weddings_wouldRather_1 rfl ?_
  refine e_callI (as := [.ref w, .int n2]) (st' := []) i_Weddings_wouldRather_2 lm_169 (Or.inr (Or.inl ⟨rfl, rfl⟩)) w_Weddings_mateOf rfl rfl rfl (Nat.le_of_ble_eq_true rfl) (Nat.le_of_ble_eq_true rfl) (m_rlt (q_Weddings_mateOf _) (by decide)) rfl (fun v2 s2 => ?_)
  refine e_istore (L' := [some (.ref w), some (.ref r1), some (.int n2), some (.int n3), some (.int v2)]) i_Weddings_wouldRather_5 (of_decide_eq_true rfl) rfl ?_
  refine e_iload i_Weddings_wouldRather_7 rfl ?_
  refine e_iconst (v := (-1)) i_Weddings_wouldRather_9 (by decide) ?_
  refine e_icmpeq (t := 24) i_Weddings_wouldRather_10 (by decide) ?_ ?_
  · refine e_iconst (v := 1) i_Weddings_wouldRather_24 (by decide) ?_
    refine e_goto (t := 29) i_Weddings_wouldRather_25 (by decide) ?_
    exact e_iretZ i_Weddings_wouldRather_29 rfl (by decide)
  · refine e_aload_n i_Weddings_wouldRather_13 rfl ?_
    refine e_iload_n i_Weddings_wouldRather_14 rfl ?_
    refine e_iload_n i_Weddings_wouldRather_15 rfl ?_
    refine e_iload i_Weddings_wouldRather_16 rfl ?_
    refine e_callI (as := [.ref r1, .int n2, .int n3, .int v2]) (st' := []) i_Weddings_wouldRather_18 lm_182 (Or.inl ⟨rfl, rfl⟩) w_Weddings_isAhead rfl rfl rfl (Nat.le_of_ble_eq_true rfl) (Nat.le_of_ble_eq_true rfl) (m_rlt (q_Weddings_isAhead _) (by decide)) rfl (fun v18 s18 => ?_)
    refine e_ifeq (t := 28) i_Weddings_wouldRather_21 (by decide) ?_ ?_
    · refine e_iconst (v := 0) i_Weddings_wouldRather_28 (by decide) ?_
      exact e_iretZ i_Weddings_wouldRather_29 rfl (by decide)
    · refine e_iconst (v := 1) i_Weddings_wouldRather_24 (by decide) ?_
      refine e_goto (t := 29) i_Weddings_wouldRather_25 (by decide) ?_
      exact e_iretZ i_Weddings_wouldRather_29 rfl (by decide)
theorem i_Weddings_nextToAsk_0 : m_at k_Weddings_nextToAsk 0 = some (.iconst (-1), 1, 0) := m_at_of r_Weddings_nextToAsk (by decide +kernel)
theorem i_Weddings_nextToAsk_1 : m_at k_Weddings_nextToAsk 1 = some (.istore 4, 2, 0) := m_at_of r_Weddings_nextToAsk (by decide +kernel)
theorem i_Weddings_nextToAsk_3 : m_at k_Weddings_nextToAsk 3 = some (.iload_n 2, 1, 0) := m_at_of r_Weddings_nextToAsk (by decide +kernel)
theorem i_Weddings_nextToAsk_4 : m_at k_Weddings_nextToAsk 4 = some (.istore 5, 2, 0) := m_at_of r_Weddings_nextToAsk (by decide +kernel)
theorem i_Weddings_nextToAsk_6 : m_at k_Weddings_nextToAsk 6 = some (.iload 5, 2, 0) := m_at_of r_Weddings_nextToAsk (by decide +kernel)
theorem i_Weddings_nextToAsk_8 : m_at k_Weddings_nextToAsk 8 = some (.aload_n 1, 1, 0) := m_at_of r_Weddings_nextToAsk (by decide +kernel)
theorem i_Weddings_nextToAsk_9 : m_at k_Weddings_nextToAsk 9 = some (.getfield 40, 3, 61) := m_at_of r_Weddings_nextToAsk (by decide +kernel)
theorem i_Weddings_nextToAsk_12 : m_at k_Weddings_nextToAsk 12 = some (.iconst 0, 1, 0) := m_at_of r_Weddings_nextToAsk (by decide +kernel)
theorem i_Weddings_nextToAsk_13 : m_at k_Weddings_nextToAsk 13 = some (.iaload, 1, 0) := m_at_of r_Weddings_nextToAsk (by decide +kernel)
theorem i_Weddings_nextToAsk_14 : m_at k_Weddings_nextToAsk 14 = some (.if_icmp .ge (68), 3, 0) := m_at_of r_Weddings_nextToAsk (by decide +kernel)
theorem i_Weddings_nextToAsk_17 : m_at k_Weddings_nextToAsk 17 = some (.iload_n 3, 1, 0) := m_at_of r_Weddings_nextToAsk (by decide +kernel)
theorem i_Weddings_nextToAsk_18 : m_at k_Weddings_nextToAsk 18 = some (.ifCond .lt (28), 3, 0) := m_at_of r_Weddings_nextToAsk (by decide +kernel)
theorem i_Weddings_nextToAsk_21 : m_at k_Weddings_nextToAsk 21 = some (.iload_n 3, 1, 0) := m_at_of r_Weddings_nextToAsk (by decide +kernel)
theorem i_Weddings_nextToAsk_22 : m_at k_Weddings_nextToAsk 22 = some (.bipush 7, 2, 0) := m_at_of r_Weddings_nextToAsk (by decide +kernel)
theorem i_Weddings_nextToAsk_24 : m_at k_Weddings_nextToAsk 24 = some (.if_icmp .ge (22), 3, 0) := m_at_of r_Weddings_nextToAsk (by decide +kernel)
theorem i_Weddings_nextToAsk_27 : m_at k_Weddings_nextToAsk 27 = some (.aload_n 0, 1, 0) := m_at_of r_Weddings_nextToAsk (by decide +kernel)
theorem i_Weddings_nextToAsk_28 : m_at k_Weddings_nextToAsk 28 = some (.getfield 15, 3, 64) := m_at_of r_Weddings_nextToAsk (by decide +kernel)
theorem i_Weddings_nextToAsk_31 : m_at k_Weddings_nextToAsk 31 = some (.iload_n 3, 1, 0) := m_at_of r_Weddings_nextToAsk (by decide +kernel)
theorem i_Weddings_nextToAsk_32 : m_at k_Weddings_nextToAsk 32 = some (.iaload, 1, 0) := m_at_of r_Weddings_nextToAsk (by decide +kernel)
theorem i_Weddings_nextToAsk_33 : m_at k_Weddings_nextToAsk 33 = some (.iload 5, 2, 0) := m_at_of r_Weddings_nextToAsk (by decide +kernel)
theorem i_Weddings_nextToAsk_35 : m_at k_Weddings_nextToAsk 35 = some (.ishr, 1, 0) := m_at_of r_Weddings_nextToAsk (by decide +kernel)
theorem i_Weddings_nextToAsk_36 : m_at k_Weddings_nextToAsk 36 = some (.iconst 1, 1, 0) := m_at_of r_Weddings_nextToAsk (by decide +kernel)
theorem i_Weddings_nextToAsk_37 : m_at k_Weddings_nextToAsk 37 = some (.iand, 1, 0) := m_at_of r_Weddings_nextToAsk (by decide +kernel)
theorem i_Weddings_nextToAsk_38 : m_at k_Weddings_nextToAsk 38 = some (.iconst 1, 1, 0) := m_at_of r_Weddings_nextToAsk (by decide +kernel)
theorem i_Weddings_nextToAsk_39 : m_at k_Weddings_nextToAsk 39 = some (.if_icmp .ne (7), 3, 0) := m_at_of r_Weddings_nextToAsk (by decide +kernel)
theorem i_Weddings_nextToAsk_42 : m_at k_Weddings_nextToAsk 42 = some (.iconst 1, 1, 0) := m_at_of r_Weddings_nextToAsk (by decide +kernel)
theorem i_Weddings_nextToAsk_43 : m_at k_Weddings_nextToAsk 43 = some (.goto (4), 3, 0) := m_at_of r_Weddings_nextToAsk (by decide +kernel)
theorem i_Weddings_nextToAsk_46 : m_at k_Weddings_nextToAsk 46 = some (.iconst 0, 1, 0) := m_at_of r_Weddings_nextToAsk (by decide +kernel)
theorem i_Weddings_nextToAsk_47 : m_at k_Weddings_nextToAsk 47 = some (.istore 6, 2, 0) := m_at_of r_Weddings_nextToAsk (by decide +kernel)
theorem i_Weddings_nextToAsk_49 : m_at k_Weddings_nextToAsk 49 = some (.iload 6, 2, 0) := m_at_of r_Weddings_nextToAsk (by decide +kernel)
theorem i_Weddings_nextToAsk_51 : m_at k_Weddings_nextToAsk 51 = some (.ifCond .ne (25), 3, 0) := m_at_of r_Weddings_nextToAsk (by decide +kernel)
theorem i_Weddings_nextToAsk_54 : m_at k_Weddings_nextToAsk 54 = some (.iload 4, 2, 0) := m_at_of r_Weddings_nextToAsk (by decide +kernel)
theorem i_Weddings_nextToAsk_56 : m_at k_Weddings_nextToAsk 56 = some (.iconst (-1), 1, 0) := m_at_of r_Weddings_nextToAsk (by decide +kernel)
theorem i_Weddings_nextToAsk_57 : m_at k_Weddings_nextToAsk 57 = some (.if_icmp .eq (15), 3, 0) := m_at_of r_Weddings_nextToAsk (by decide +kernel)
theorem i_Weddings_nextToAsk_60 : m_at k_Weddings_nextToAsk 60 = some (.aload_n 1, 1, 0) := m_at_of r_Weddings_nextToAsk (by decide +kernel)
theorem i_Weddings_nextToAsk_61 : m_at k_Weddings_nextToAsk 61 = some (.iload_n 3, 1, 0) := m_at_of r_Weddings_nextToAsk (by decide +kernel)
theorem i_Weddings_nextToAsk_62 : m_at k_Weddings_nextToAsk 62 = some (.iload 5, 2, 0) := m_at_of r_Weddings_nextToAsk (by decide +kernel)
theorem i_Weddings_nextToAsk_64 : m_at k_Weddings_nextToAsk 64 = some (.iload 4, 2, 0) := m_at_of r_Weddings_nextToAsk (by decide +kernel)
theorem i_Weddings_nextToAsk_66 : m_at k_Weddings_nextToAsk 66 = some (.invokestatic 45, 3, 182) := m_at_of r_Weddings_nextToAsk (by decide +kernel)
theorem i_Weddings_nextToAsk_69 : m_at k_Weddings_nextToAsk 69 = some (.ifCond .eq (7), 3, 0) := m_at_of r_Weddings_nextToAsk (by decide +kernel)
theorem i_Weddings_nextToAsk_72 : m_at k_Weddings_nextToAsk 72 = some (.iload 5, 2, 0) := m_at_of r_Weddings_nextToAsk (by decide +kernel)
theorem i_Weddings_nextToAsk_74 : m_at k_Weddings_nextToAsk 74 = some (.istore 4, 2, 0) := m_at_of r_Weddings_nextToAsk (by decide +kernel)
theorem i_Weddings_nextToAsk_76 : m_at k_Weddings_nextToAsk 76 = some (.iinc 5 (1), 3, 0) := m_at_of r_Weddings_nextToAsk (by decide +kernel)
theorem i_Weddings_nextToAsk_79 : m_at k_Weddings_nextToAsk 79 = some (.goto (-73), 3, 0) := m_at_of r_Weddings_nextToAsk (by decide +kernel)
theorem i_Weddings_nextToAsk_82 : m_at k_Weddings_nextToAsk 82 = some (.iload 4, 2, 0) := m_at_of r_Weddings_nextToAsk (by decide +kernel)
theorem i_Weddings_nextToAsk_84 : m_at k_Weddings_nextToAsk 84 = some (.ireturn, 1, 0) := m_at_of r_Weddings_nextToAsk (by decide +kernel)
set_option maxRecDepth 20000 in
set_option maxHeartbeats 1000000 in
theorem E_Weddings_nextToAsk (x : m_X) (s : m_H) (w : Nat) (r1 : Nat) (n2 : Int32) (n3 : Int32) : m_M x k_Weddings_nextToAsk [.ref w, .ref r1, .int n2, .int n3] s = if m_isO s w 8 = true then (m_D x 3 k_Weddings_nextToAsk 6 [some (.ref w), some (.ref r1), some (.int n2), some (.int n3), some (.int (-1)), some (.int n2), none] [] s) else none := by
  refine e_M1 (L0 := [some (.ref w), some (.ref r1), some (.int n2), some (.int n3), none, none, none]) rfl (by decide +kernel) rfl (q_Weddings_nextToAsk _) rfl ?_
  refine e_iconst (v := (-1)) i_Weddings_nextToAsk_0 (by decide) ?_
  refine e_istore (L' := [some (.ref w), some (.ref r1), some (.int n2), some (.int n3), some (.int (-1)), none, none]) i_Weddings_nextToAsk_1 (of_decide_eq_true rfl) rfl ?_
  refine e_iload_n i_Weddings_nextToAsk_3 rfl ?_
  refine e_istore (L' := [some (.ref w), some (.ref r1), some (.int n2), some (.int n3), some (.int (-1)), some (.int n2), none]) i_Weddings_nextToAsk_4 (of_decide_eq_true rfl) rfl ?_
  exact rfl
set_option maxRecDepth 20000 in
set_option maxHeartbeats 1000000 in
theorem E_Weddings_nextToAsk_6 (x : m_X) (ρ : Nat) (hρ : 3 ≤ ρ) (s : m_H) (w : Nat) (r1 : Nat) (n2 : Int32) (n3 : Int32) (n4 : Int32) (n5 : Int32) (d6 : Option Value) (hd6 : m_nl d6 = true) : m_D x ρ k_Weddings_nextToAsk 6 [some (.ref w), some (.ref r1), some (.int n2), some (.int n3), some (.int n4), some (.int n5), d6] [] s = (m_fR s 9 0 r1).bind fun v9 => (m_ia x s v9 0).bind fun v13 => if v13 ≤ n5 then (some (some (.int n4), s)) else if n3 < 0 then (m_D x ρ k_Weddings_nextToAsk 47 [some (.ref w), some (.ref r1), some (.int n2), some (.int n3), some (.int n4), some (.int n5), d6] [.int 0] s) else if 7 ≤ n3 then (m_D x ρ k_Weddings_nextToAsk 47 [some (.ref w), some (.ref r1), some (.int n2), some (.int n3), some (.int n4), some (.int n5), d6] [.int 0] s) else (m_fR s 8 1 w).bind fun v28 => (m_ia x s v28 n3).bind fun v32 => if ((v32 >>> (n5 &&& (31 : Int32))) &&& (1 : Int32)) = 1 then (m_D x ρ k_Weddings_nextToAsk 47 [some (.ref w), some (.ref r1), some (.int n2), some (.int n3), some (.int n4), some (.int n5), d6] [.int 1] s) else m_D x ρ k_Weddings_nextToAsk 47 [some (.ref w), some (.ref r1), some (.int n2), some (.int n3), some (.int n4), some (.int n5), d6] [.int 0] s := by
  refine e_iload i_Weddings_nextToAsk_6 rfl ?_
  refine e_aload_n i_Weddings_nextToAsk_8 rfl ?_
  refine e_getR i_Weddings_nextToAsk_9 lf_61 (by decide) ft_9_0 (fun v9 => ?_)
  refine e_iconst (v := 0) i_Weddings_nextToAsk_12 (by decide) ?_
  refine e_iald i_Weddings_nextToAsk_13 (fun v13 => ?_)
  refine e_icmpge (t := 82) i_Weddings_nextToAsk_14 (by decide) ?_ ?_
  · refine e_iload i_Weddings_nextToAsk_82 rfl ?_
    exact e_iretI i_Weddings_nextToAsk_84 rfl
  · refine e_iload_n i_Weddings_nextToAsk_17 rfl ?_
    refine e_iflt (t := 46) i_Weddings_nextToAsk_18 (by decide) ?_ ?_
    · refine e_iconst (v := 0) i_Weddings_nextToAsk_46 (by decide) ?_
      exact rfl
    · refine e_iload_n i_Weddings_nextToAsk_21 rfl ?_
      refine e_bipush (v := 7) i_Weddings_nextToAsk_22 (by decide) ?_
      refine e_icmpge (t := 46) i_Weddings_nextToAsk_24 (by decide) ?_ ?_
      · refine e_iconst (v := 0) i_Weddings_nextToAsk_46 (by decide) ?_
        exact rfl
      · refine e_aload_n i_Weddings_nextToAsk_27 rfl ?_
        refine e_getR i_Weddings_nextToAsk_28 lf_64 (by decide) ft_8_1 (fun v28 => ?_)
        refine e_iload_n i_Weddings_nextToAsk_31 rfl ?_
        refine e_iald i_Weddings_nextToAsk_32 (fun v32 => ?_)
        refine e_iload i_Weddings_nextToAsk_33 rfl ?_
        refine e_ishr i_Weddings_nextToAsk_35 ?_
        refine e_iconst (v := 1) i_Weddings_nextToAsk_36 (by decide) ?_
        refine e_iand i_Weddings_nextToAsk_37 ?_
        refine e_iconst (v := 1) i_Weddings_nextToAsk_38 (by decide) ?_
        refine e_icmpne (t := 46) i_Weddings_nextToAsk_39 (by decide) ?_ ?_
        · refine e_iconst (v := 0) i_Weddings_nextToAsk_46 (by decide) ?_
          exact rfl
        · refine e_iconst (v := 1) i_Weddings_nextToAsk_42 (by decide) ?_
          refine e_goto (t := 47) i_Weddings_nextToAsk_43 (by decide) ?_
          exact rfl
set_option maxRecDepth 20000 in
set_option maxHeartbeats 1000000 in
theorem E_Weddings_nextToAsk_47 (x : m_X) (ρ : Nat) (hρ : 3 ≤ ρ) (s : m_H) (w : Nat) (r1 : Nat) (n2 : Int32) (n3 : Int32) (n4 : Int32) (n5 : Int32) (d6 : Option Value) (nt0 : Int32) (hd6 : m_nl d6 = true) : m_D x ρ k_Weddings_nextToAsk 47 [some (.ref w), some (.ref r1), some (.int n2), some (.int n3), some (.int n4), some (.int n5), d6] [.int nt0] s = if nt0 = 0 then (if n4 = (-1) then (m_D x ρ k_Weddings_nextToAsk 6 [some (.ref w), some (.ref r1), some (.int n2), some (.int n3), some (.int n5), some (.int (n5 + (1 : Int32))), some (.int nt0)] [] s) else m_bI (m_M x k_Weddings_isAhead [.ref r1, .int n3, .int n5, .int n4] s) fun v66 s66 => if v66 = 0 then (m_D x ρ k_Weddings_nextToAsk 6 [some (.ref w), some (.ref r1), some (.int n2), some (.int n3), some (.int n4), some (.int (n5 + (1 : Int32))), some (.int nt0)] [] s66) else m_D x ρ k_Weddings_nextToAsk 6 [some (.ref w), some (.ref r1), some (.int n2), some (.int n3), some (.int n5), some (.int (n5 + (1 : Int32))), some (.int nt0)] [] s66) else m_D x ρ k_Weddings_nextToAsk 6 [some (.ref w), some (.ref r1), some (.int n2), some (.int n3), some (.int n4), some (.int (n5 + (1 : Int32))), some (.int nt0)] [] s := by
  refine e_istore (L' := [some (.ref w), some (.ref r1), some (.int n2), some (.int n3), some (.int n4), some (.int n5), some (.int nt0)]) i_Weddings_nextToAsk_47 (of_decide_eq_true rfl) rfl ?_
  refine e_iload i_Weddings_nextToAsk_49 rfl ?_
  refine e_ifne (t := 76) i_Weddings_nextToAsk_51 (by decide) ?_ ?_
  · refine e_iinc (w := 1) (L' := [some (.ref w), some (.ref r1), some (.int n2), some (.int n3), some (.int n4), some (.int (n5 + (1 : Int32))), some (.int nt0)]) i_Weddings_nextToAsk_76 rfl (of_decide_eq_true rfl) (by decide) rfl ?_
    refine e_goto (t := 6) i_Weddings_nextToAsk_79 (by decide) ?_
    exact rfl
  · refine e_iload i_Weddings_nextToAsk_54 rfl ?_
    refine e_iconst (v := (-1)) i_Weddings_nextToAsk_56 (by decide) ?_
    refine e_icmpeq (t := 72) i_Weddings_nextToAsk_57 (by decide) ?_ ?_
    · refine e_iload i_Weddings_nextToAsk_72 rfl ?_
      refine e_istore (L' := [some (.ref w), some (.ref r1), some (.int n2), some (.int n3), some (.int n5), some (.int n5), some (.int nt0)]) i_Weddings_nextToAsk_74 (of_decide_eq_true rfl) rfl ?_
      refine e_iinc (w := 1) (L' := [some (.ref w), some (.ref r1), some (.int n2), some (.int n3), some (.int n5), some (.int (n5 + (1 : Int32))), some (.int nt0)]) i_Weddings_nextToAsk_76 rfl (of_decide_eq_true rfl) (by decide) rfl ?_
      refine e_goto (t := 6) i_Weddings_nextToAsk_79 (by decide) ?_
      exact rfl
    · refine e_aload_n i_Weddings_nextToAsk_60 rfl ?_
      refine e_iload_n i_Weddings_nextToAsk_61 rfl ?_
      refine e_iload i_Weddings_nextToAsk_62 rfl ?_
      refine e_iload i_Weddings_nextToAsk_64 rfl ?_
      refine e_callI (as := [.ref r1, .int n3, .int n5, .int n4]) (st' := []) i_Weddings_nextToAsk_66 lm_182 (Or.inl ⟨rfl, rfl⟩) w_Weddings_isAhead rfl rfl rfl (Nat.le_of_ble_eq_true rfl) (Nat.le_of_ble_eq_true rfl) (m_rlt (q_Weddings_isAhead _) (Nat.lt_of_lt_of_le (by decide) hρ)) rfl (fun v66 s66 => ?_)
      refine e_ifeq (t := 76) i_Weddings_nextToAsk_69 (by decide) ?_ ?_
      · refine e_iinc (w := 1) (L' := [some (.ref w), some (.ref r1), some (.int n2), some (.int n3), some (.int n4), some (.int (n5 + (1 : Int32))), some (.int nt0)]) i_Weddings_nextToAsk_76 rfl (of_decide_eq_true rfl) (by decide) rfl ?_
        refine e_goto (t := 6) i_Weddings_nextToAsk_79 (by decide) ?_
        exact rfl
      · refine e_iload i_Weddings_nextToAsk_72 rfl ?_
        refine e_istore (L' := [some (.ref w), some (.ref r1), some (.int n2), some (.int n3), some (.int n5), some (.int n5), some (.int nt0)]) i_Weddings_nextToAsk_74 (of_decide_eq_true rfl) rfl ?_
        refine e_iinc (w := 1) (L' := [some (.ref w), some (.ref r1), some (.int n2), some (.int n3), some (.int n5), some (.int (n5 + (1 : Int32))), some (.int nt0)]) i_Weddings_nextToAsk_76 rfl (of_decide_eq_true rfl) (by decide) rfl ?_
        refine e_goto (t := 6) i_Weddings_nextToAsk_79 (by decide) ?_
        exact rfl
theorem i_Weddings_isAhead_0 : m_at k_Weddings_isAhead 0 = some (.aload_n 0, 1, 0) := m_at_of r_Weddings_isAhead (by decide +kernel)
theorem i_Weddings_isAhead_1 : m_at k_Weddings_isAhead 1 = some (.iconst 1, 1, 0) := m_at_of r_Weddings_isAhead (by decide +kernel)
theorem i_Weddings_isAhead_2 : m_at k_Weddings_isAhead 2 = some (.iload_n 1, 1, 0) := m_at_of r_Weddings_isAhead (by decide +kernel)
theorem i_Weddings_isAhead_3 : m_at k_Weddings_isAhead 3 = some (.invokevirtual 49, 3, 183) := m_at_of r_Weddings_isAhead (by decide +kernel)
theorem i_Weddings_isAhead_6 : m_at k_Weddings_isAhead 6 = some (.aload_n 0, 1, 0) := m_at_of r_Weddings_isAhead (by decide +kernel)
theorem i_Weddings_isAhead_7 : m_at k_Weddings_isAhead 7 = some (.iconst 1, 1, 0) := m_at_of r_Weddings_isAhead (by decide +kernel)
theorem i_Weddings_isAhead_8 : m_at k_Weddings_isAhead 8 = some (.iload_n 2, 1, 0) := m_at_of r_Weddings_isAhead (by decide +kernel)
theorem i_Weddings_isAhead_9 : m_at k_Weddings_isAhead 9 = some (.invokevirtual 49, 3, 183) := m_at_of r_Weddings_isAhead (by decide +kernel)
theorem i_Weddings_isAhead_12 : m_at k_Weddings_isAhead 12 = some (.isub, 1, 0) := m_at_of r_Weddings_isAhead (by decide +kernel)
theorem i_Weddings_isAhead_13 : m_at k_Weddings_isAhead 13 = some (.invokestatic 53, 3, 184) := m_at_of r_Weddings_isAhead (by decide +kernel)
theorem i_Weddings_isAhead_16 : m_at k_Weddings_isAhead 16 = some (.istore 4, 2, 0) := m_at_of r_Weddings_isAhead (by decide +kernel)
theorem i_Weddings_isAhead_18 : m_at k_Weddings_isAhead 18 = some (.aload_n 0, 1, 0) := m_at_of r_Weddings_isAhead (by decide +kernel)
theorem i_Weddings_isAhead_19 : m_at k_Weddings_isAhead 19 = some (.iconst 1, 1, 0) := m_at_of r_Weddings_isAhead (by decide +kernel)
theorem i_Weddings_isAhead_20 : m_at k_Weddings_isAhead 20 = some (.iload_n 1, 1, 0) := m_at_of r_Weddings_isAhead (by decide +kernel)
theorem i_Weddings_isAhead_21 : m_at k_Weddings_isAhead 21 = some (.invokevirtual 49, 3, 183) := m_at_of r_Weddings_isAhead (by decide +kernel)
theorem i_Weddings_isAhead_24 : m_at k_Weddings_isAhead 24 = some (.aload_n 0, 1, 0) := m_at_of r_Weddings_isAhead (by decide +kernel)
theorem i_Weddings_isAhead_25 : m_at k_Weddings_isAhead 25 = some (.iconst 1, 1, 0) := m_at_of r_Weddings_isAhead (by decide +kernel)
theorem i_Weddings_isAhead_26 : m_at k_Weddings_isAhead 26 = some (.iload_n 3, 1, 0) := m_at_of r_Weddings_isAhead (by decide +kernel)
theorem i_Weddings_isAhead_27 : m_at k_Weddings_isAhead 27 = some (.invokevirtual 49, 3, 183) := m_at_of r_Weddings_isAhead (by decide +kernel)
theorem i_Weddings_isAhead_30 : m_at k_Weddings_isAhead 30 = some (.isub, 1, 0) := m_at_of r_Weddings_isAhead (by decide +kernel)
theorem i_Weddings_isAhead_31 : m_at k_Weddings_isAhead 31 = some (.invokestatic 53, 3, 184) := m_at_of r_Weddings_isAhead (by decide +kernel)
theorem i_Weddings_isAhead_34 : m_at k_Weddings_isAhead 34 = some (.istore 5, 2, 0) := m_at_of r_Weddings_isAhead (by decide +kernel)
theorem i_Weddings_isAhead_36 : m_at k_Weddings_isAhead 36 = some (.iload 4, 2, 0) := m_at_of r_Weddings_isAhead (by decide +kernel)
theorem i_Weddings_isAhead_38 : m_at k_Weddings_isAhead 38 = some (.iload 5, 2, 0) := m_at_of r_Weddings_isAhead (by decide +kernel)
theorem i_Weddings_isAhead_40 : m_at k_Weddings_isAhead 40 = some (.if_icmp .lt (15), 3, 0) := m_at_of r_Weddings_isAhead (by decide +kernel)
theorem i_Weddings_isAhead_43 : m_at k_Weddings_isAhead 43 = some (.iload 4, 2, 0) := m_at_of r_Weddings_isAhead (by decide +kernel)
theorem i_Weddings_isAhead_45 : m_at k_Weddings_isAhead 45 = some (.iload 5, 2, 0) := m_at_of r_Weddings_isAhead (by decide +kernel)
theorem i_Weddings_isAhead_47 : m_at k_Weddings_isAhead 47 = some (.if_icmp .ne (12), 3, 0) := m_at_of r_Weddings_isAhead (by decide +kernel)
theorem i_Weddings_isAhead_50 : m_at k_Weddings_isAhead 50 = some (.iload_n 2, 1, 0) := m_at_of r_Weddings_isAhead (by decide +kernel)
theorem i_Weddings_isAhead_51 : m_at k_Weddings_isAhead 51 = some (.iload_n 3, 1, 0) := m_at_of r_Weddings_isAhead (by decide +kernel)
theorem i_Weddings_isAhead_52 : m_at k_Weddings_isAhead 52 = some (.if_icmp .ge (7), 3, 0) := m_at_of r_Weddings_isAhead (by decide +kernel)
theorem i_Weddings_isAhead_55 : m_at k_Weddings_isAhead 55 = some (.iconst 1, 1, 0) := m_at_of r_Weddings_isAhead (by decide +kernel)
theorem i_Weddings_isAhead_56 : m_at k_Weddings_isAhead 56 = some (.goto (4), 3, 0) := m_at_of r_Weddings_isAhead (by decide +kernel)
theorem i_Weddings_isAhead_59 : m_at k_Weddings_isAhead 59 = some (.iconst 0, 1, 0) := m_at_of r_Weddings_isAhead (by decide +kernel)
theorem i_Weddings_isAhead_60 : m_at k_Weddings_isAhead 60 = some (.ireturn, 1, 0) := m_at_of r_Weddings_isAhead (by decide +kernel)
set_option maxRecDepth 20000 in
set_option maxHeartbeats 1000000 in
theorem E_Weddings_isAhead (x : m_X) (s : m_H) (r0 : Nat) (n1 : Int32) (n2 : Int32) (n3 : Int32) : m_M x k_Weddings_isAhead [.ref r0, .int n1, .int n2, .int n3] s = m_bI (m_M x k_World_at [.ref r0, .int 1, .int n1] s) fun v3 s3 => m_bI (m_M x k_World_at [.ref r0, .int 1, .int n2] s3) fun v9 s9 => m_bI (m_M x k_Math_abs [.int (v3 - v9)] s9) fun v13 s13 => m_bI (m_M x k_World_at [.ref r0, .int 1, .int n1] s13) fun v21 s21 => m_bI (m_M x k_World_at [.ref r0, .int 1, .int n3] s21) fun v27 s27 => m_bI (m_M x k_Math_abs [.int (v21 - v27)] s27) fun v31 s31 => if v13 < v31 then (some (some (.int 1), s31)) else if v13 = v31 then (if n3 ≤ n2 then (some (some (.int 0), s31)) else some (some (.int 1), s31)) else some (some (.int 0), s31) := by
  refine e_M0 (L0 := [some (.ref r0), some (.int n1), some (.int n2), some (.int n3), none, none]) rfl (q_Weddings_isAhead _) rfl ?_
  refine e_aload_n i_Weddings_isAhead_0 rfl ?_
  refine e_iconst (v := 1) i_Weddings_isAhead_1 (by decide) ?_
  refine e_iload_n i_Weddings_isAhead_2 rfl ?_
  refine e_callI (as := [.ref r0, .int 1, .int n1]) (st' := []) i_Weddings_isAhead_3 lm_183 (Or.inr (Or.inl ⟨rfl, rfl⟩)) w_World_at rfl rfl rfl (Nat.le_of_ble_eq_true rfl) (Nat.le_of_ble_eq_true rfl) (m_rlt (q_World_at _) (by decide)) rfl (fun v3 s3 => ?_)
  refine e_aload_n i_Weddings_isAhead_6 rfl ?_
  refine e_iconst (v := 1) i_Weddings_isAhead_7 (by decide) ?_
  refine e_iload_n i_Weddings_isAhead_8 rfl ?_
  refine e_callI (as := [.ref r0, .int 1, .int n2]) (st' := [.int v3]) i_Weddings_isAhead_9 lm_183 (Or.inr (Or.inl ⟨rfl, rfl⟩)) w_World_at rfl rfl rfl (Nat.le_of_ble_eq_true rfl) (Nat.le_of_ble_eq_true rfl) (m_rlt (q_World_at _) (by decide)) rfl (fun v9 s9 => ?_)
  refine e_isub i_Weddings_isAhead_12 ?_
  refine e_callI (as := [.int (v3 - v9)]) (st' := []) i_Weddings_isAhead_13 lm_184 (Or.inl ⟨rfl, rfl⟩) w_Math_abs rfl rfl rfl (Nat.le_of_ble_eq_true rfl) (Nat.le_of_ble_eq_true rfl) (m_rlt (q_Math_abs _) (by decide)) rfl (fun v13 s13 => ?_)
  refine e_istore (L' := [some (.ref r0), some (.int n1), some (.int n2), some (.int n3), some (.int v13), none]) i_Weddings_isAhead_16 (of_decide_eq_true rfl) rfl ?_
  refine e_aload_n i_Weddings_isAhead_18 rfl ?_
  refine e_iconst (v := 1) i_Weddings_isAhead_19 (by decide) ?_
  refine e_iload_n i_Weddings_isAhead_20 rfl ?_
  refine e_callI (as := [.ref r0, .int 1, .int n1]) (st' := []) i_Weddings_isAhead_21 lm_183 (Or.inr (Or.inl ⟨rfl, rfl⟩)) w_World_at rfl rfl rfl (Nat.le_of_ble_eq_true rfl) (Nat.le_of_ble_eq_true rfl) (m_rlt (q_World_at _) (by decide)) rfl (fun v21 s21 => ?_)
  refine e_aload_n i_Weddings_isAhead_24 rfl ?_
  refine e_iconst (v := 1) i_Weddings_isAhead_25 (by decide) ?_
  refine e_iload_n i_Weddings_isAhead_26 rfl ?_
  refine e_callI (as := [.ref r0, .int 1, .int n3]) (st' := [.int v21]) i_Weddings_isAhead_27 lm_183 (Or.inr (Or.inl ⟨rfl, rfl⟩)) w_World_at rfl rfl rfl (Nat.le_of_ble_eq_true rfl) (Nat.le_of_ble_eq_true rfl) (m_rlt (q_World_at _) (by decide)) rfl (fun v27 s27 => ?_)
  refine e_isub i_Weddings_isAhead_30 ?_
  refine e_callI (as := [.int (v21 - v27)]) (st' := []) i_Weddings_isAhead_31 lm_184 (Or.inl ⟨rfl, rfl⟩) w_Math_abs rfl rfl rfl (Nat.le_of_ble_eq_true rfl) (Nat.le_of_ble_eq_true rfl) (m_rlt (q_Math_abs _) (by decide)) rfl (fun v31 s31 => ?_)
  refine e_istore (L' := [some (.ref r0), some (.int n1), some (.int n2), some (.int n3), some (.int v13), some (.int v31)]) i_Weddings_isAhead_34 (of_decide_eq_true rfl) rfl ?_
  refine e_iload i_Weddings_isAhead_36 rfl ?_
  refine e_iload i_Weddings_isAhead_38 rfl ?_
  refine e_icmplt (t := 55) i_Weddings_isAhead_40 (by decide) ?_ ?_
  · refine e_iconst (v := 1) i_Weddings_isAhead_55 (by decide) ?_
    refine e_goto (t := 60) i_Weddings_isAhead_56 (by decide) ?_
    exact e_iretZ i_Weddings_isAhead_60 rfl (by decide)
  · refine e_iload i_Weddings_isAhead_43 rfl ?_
    refine e_iload i_Weddings_isAhead_45 rfl ?_
    refine e_icmpne (t := 59) i_Weddings_isAhead_47 (by decide) ?_ ?_
    · refine e_iconst (v := 0) i_Weddings_isAhead_59 (by decide) ?_
      exact e_iretZ i_Weddings_isAhead_60 rfl (by decide)
    · refine e_iload_n i_Weddings_isAhead_50 rfl ?_
      refine e_iload_n i_Weddings_isAhead_51 rfl ?_
      refine e_icmpge (t := 59) i_Weddings_isAhead_52 (by decide) ?_ ?_
      · refine e_iconst (v := 0) i_Weddings_isAhead_59 (by decide) ?_
        exact e_iretZ i_Weddings_isAhead_60 rfl (by decide)
      · refine e_iconst (v := 1) i_Weddings_isAhead_55 (by decide) ?_
        refine e_goto (t := 60) i_Weddings_isAhead_56 (by decide) ?_
        exact e_iretZ i_Weddings_isAhead_60 rfl (by decide)
theorem i_Weddings_mateOf_0 : m_at k_Weddings_mateOf 0 = some (.iload_n 1, 1, 0) := m_at_of r_Weddings_mateOf (by decide +kernel)
theorem i_Weddings_mateOf_1 : m_at k_Weddings_mateOf 1 = some (.ifCond .lt (18), 3, 0) := m_at_of r_Weddings_mateOf (by decide +kernel)
theorem i_Weddings_mateOf_4 : m_at k_Weddings_mateOf 4 = some (.iload_n 1, 1, 0) := m_at_of r_Weddings_mateOf (by decide +kernel)
theorem i_Weddings_mateOf_5 : m_at k_Weddings_mateOf 5 = some (.bipush 7, 2, 0) := m_at_of r_Weddings_mateOf (by decide +kernel)
theorem i_Weddings_mateOf_7 : m_at k_Weddings_mateOf 7 = some (.if_icmp .ge (12), 3, 0) := m_at_of r_Weddings_mateOf (by decide +kernel)
theorem i_Weddings_mateOf_10 : m_at k_Weddings_mateOf 10 = some (.aload_n 0, 1, 0) := m_at_of r_Weddings_mateOf (by decide +kernel)
theorem i_Weddings_mateOf_11 : m_at k_Weddings_mateOf 11 = some (.getfield 9, 3, 62) := m_at_of r_Weddings_mateOf (by decide +kernel)
theorem i_Weddings_mateOf_14 : m_at k_Weddings_mateOf 14 = some (.iload_n 1, 1, 0) := m_at_of r_Weddings_mateOf (by decide +kernel)
theorem i_Weddings_mateOf_15 : m_at k_Weddings_mateOf 15 = some (.iaload, 1, 0) := m_at_of r_Weddings_mateOf (by decide +kernel)
theorem i_Weddings_mateOf_16 : m_at k_Weddings_mateOf 16 = some (.goto (4), 3, 0) := m_at_of r_Weddings_mateOf (by decide +kernel)
theorem i_Weddings_mateOf_19 : m_at k_Weddings_mateOf 19 = some (.iconst (-1), 1, 0) := m_at_of r_Weddings_mateOf (by decide +kernel)
theorem i_Weddings_mateOf_20 : m_at k_Weddings_mateOf 20 = some (.ireturn, 1, 0) := m_at_of r_Weddings_mateOf (by decide +kernel)
set_option maxRecDepth 20000 in
set_option maxHeartbeats 1000000 in
theorem E_Weddings_mateOf (x : m_X) (s : m_H) (w : Nat) (n1 : Int32) : m_M x k_Weddings_mateOf [.ref w, .int n1] s = if m_isO s w 8 = true then (if n1 < 0 then (some (some (.int (-1)), s)) else if 7 ≤ n1 then (some (some (.int (-1)), s)) else (m_fR s 8 0 w).bind fun v11 => (m_ia x s v11 n1).bind fun v15 => some (some (.int v15), s)) else none := by
  refine e_M1 (L0 := [some (.ref w), some (.int n1)]) rfl (by decide +kernel) rfl (q_Weddings_mateOf _) rfl ?_
  refine e_iload_n i_Weddings_mateOf_0 rfl ?_
  refine e_iflt (t := 19) i_Weddings_mateOf_1 (by decide) ?_ ?_
  · refine e_iconst (v := (-1)) i_Weddings_mateOf_19 (by decide) ?_
    exact e_iretI i_Weddings_mateOf_20 rfl
  · refine e_iload_n i_Weddings_mateOf_4 rfl ?_
    refine e_bipush (v := 7) i_Weddings_mateOf_5 (by decide) ?_
    refine e_icmpge (t := 19) i_Weddings_mateOf_7 (by decide) ?_ ?_
    · refine e_iconst (v := (-1)) i_Weddings_mateOf_19 (by decide) ?_
      exact e_iretI i_Weddings_mateOf_20 rfl
    · refine e_aload_n i_Weddings_mateOf_10 rfl ?_
      refine e_getR i_Weddings_mateOf_11 lf_62 (by decide) ft_8_0 (fun v11 => ?_)
      refine e_iload_n i_Weddings_mateOf_14 rfl ?_
      refine e_iald i_Weddings_mateOf_15 (fun v15 => ?_)
      refine e_goto (t := 20) i_Weddings_mateOf_16 (by decide) ?_
      exact e_iretI i_Weddings_mateOf_20 rfl
theorem i_Weddings_leaveAll_0 : m_at k_Weddings_leaveAll 0 = some (.iconst 0, 1, 0) := m_at_of r_Weddings_leaveAll (by decide +kernel)
theorem i_Weddings_leaveAll_1 : m_at k_Weddings_leaveAll 1 = some (.istore_n 1, 1, 0) := m_at_of r_Weddings_leaveAll (by decide +kernel)
theorem i_Weddings_leaveAll_2 : m_at k_Weddings_leaveAll 2 = some (.iload_n 1, 1, 0) := m_at_of r_Weddings_leaveAll (by decide +kernel)
theorem i_Weddings_leaveAll_3 : m_at k_Weddings_leaveAll 3 = some (.bipush 7, 2, 0) := m_at_of r_Weddings_leaveAll (by decide +kernel)
theorem i_Weddings_leaveAll_5 : m_at k_Weddings_leaveAll 5 = some (.if_icmp .ge (23), 3, 0) := m_at_of r_Weddings_leaveAll (by decide +kernel)
theorem i_Weddings_leaveAll_8 : m_at k_Weddings_leaveAll 8 = some (.aload_n 0, 1, 0) := m_at_of r_Weddings_leaveAll (by decide +kernel)
theorem i_Weddings_leaveAll_9 : m_at k_Weddings_leaveAll 9 = some (.getfield 9, 3, 62) := m_at_of r_Weddings_leaveAll (by decide +kernel)
theorem i_Weddings_leaveAll_12 : m_at k_Weddings_leaveAll 12 = some (.iload_n 1, 1, 0) := m_at_of r_Weddings_leaveAll (by decide +kernel)
theorem i_Weddings_leaveAll_13 : m_at k_Weddings_leaveAll 13 = some (.iconst (-1), 1, 0) := m_at_of r_Weddings_leaveAll (by decide +kernel)
theorem i_Weddings_leaveAll_14 : m_at k_Weddings_leaveAll 14 = some (.iastore, 1, 0) := m_at_of r_Weddings_leaveAll (by decide +kernel)
theorem i_Weddings_leaveAll_15 : m_at k_Weddings_leaveAll 15 = some (.aload_n 0, 1, 0) := m_at_of r_Weddings_leaveAll (by decide +kernel)
theorem i_Weddings_leaveAll_16 : m_at k_Weddings_leaveAll 16 = some (.getfield 15, 3, 64) := m_at_of r_Weddings_leaveAll (by decide +kernel)
theorem i_Weddings_leaveAll_19 : m_at k_Weddings_leaveAll 19 = some (.iload_n 1, 1, 0) := m_at_of r_Weddings_leaveAll (by decide +kernel)
theorem i_Weddings_leaveAll_20 : m_at k_Weddings_leaveAll 20 = some (.iconst 0, 1, 0) := m_at_of r_Weddings_leaveAll (by decide +kernel)
theorem i_Weddings_leaveAll_21 : m_at k_Weddings_leaveAll 21 = some (.iastore, 1, 0) := m_at_of r_Weddings_leaveAll (by decide +kernel)
theorem i_Weddings_leaveAll_22 : m_at k_Weddings_leaveAll 22 = some (.iinc 1 (1), 3, 0) := m_at_of r_Weddings_leaveAll (by decide +kernel)
theorem i_Weddings_leaveAll_25 : m_at k_Weddings_leaveAll 25 = some (.goto (-23), 3, 0) := m_at_of r_Weddings_leaveAll (by decide +kernel)
theorem i_Weddings_leaveAll_28 : m_at k_Weddings_leaveAll 28 = some (.return_, 1, 0) := m_at_of r_Weddings_leaveAll (by decide +kernel)
set_option maxRecDepth 20000 in
set_option maxHeartbeats 1000000 in
theorem E_Weddings_leaveAll (x : m_X) (s : m_H) (w : Nat) : m_M x k_Weddings_leaveAll [.ref w] s = if m_isO s w 8 = true then (m_D x 1 k_Weddings_leaveAll 2 [some (.ref w), some (.int 0)] [] s) else none := by
  refine e_M1 (L0 := [some (.ref w), none]) rfl (by decide +kernel) rfl (q_Weddings_leaveAll _) rfl ?_
  refine e_iconst (v := 0) i_Weddings_leaveAll_0 (by decide) ?_
  refine e_istore_n (L' := [some (.ref w), some (.int 0)]) i_Weddings_leaveAll_1 (of_decide_eq_true rfl) rfl ?_
  exact rfl
set_option maxRecDepth 20000 in
set_option maxHeartbeats 1000000 in
theorem E_Weddings_leaveAll_2 (x : m_X) (ρ : Nat) (hρ : 1 ≤ ρ) (s : m_H) (w : Nat) (n1 : Int32)  : m_D x ρ k_Weddings_leaveAll 2 [some (.ref w), some (.int n1)] [] s = if 7 ≤ n1 then (some (none, s)) else (m_fR s 8 0 w).bind fun v9 => (m_is s v9 n1 (-1)).bind fun s14 => (m_fR s14 8 1 w).bind fun v16 => (m_is s14 v16 n1 0).bind fun s21 => m_D x ρ k_Weddings_leaveAll 2 [some (.ref w), some (.int (n1 + (1 : Int32)))] [] s21 := by
  refine e_iload_n i_Weddings_leaveAll_2 rfl ?_
  refine e_bipush (v := 7) i_Weddings_leaveAll_3 (by decide) ?_
  refine e_icmpge (t := 28) i_Weddings_leaveAll_5 (by decide) ?_ ?_
  · exact e_vret i_Weddings_leaveAll_28 rfl
  · refine e_aload_n i_Weddings_leaveAll_8 rfl ?_
    refine e_getR i_Weddings_leaveAll_9 lf_62 (by decide) ft_8_0 (fun v9 => ?_)
    refine e_iload_n i_Weddings_leaveAll_12 rfl ?_
    refine e_iconst (v := (-1)) i_Weddings_leaveAll_13 (by decide) ?_
    refine e_iast i_Weddings_leaveAll_14 (fun s14 => ?_)
    refine e_aload_n i_Weddings_leaveAll_15 rfl ?_
    refine e_getR i_Weddings_leaveAll_16 lf_64 (by decide) ft_8_1 (fun v16 => ?_)
    refine e_iload_n i_Weddings_leaveAll_19 rfl ?_
    refine e_iconst (v := 0) i_Weddings_leaveAll_20 (by decide) ?_
    refine e_iast i_Weddings_leaveAll_21 (fun s21 => ?_)
    refine e_iinc (w := 1) (L' := [some (.ref w), some (.int (n1 + (1 : Int32)))]) i_Weddings_leaveAll_22 rfl (of_decide_eq_true rfl) (by decide) rfl ?_
    refine e_goto (t := 2) i_Weddings_leaveAll_25 (by decide) ?_
    exact rfl
theorem i_Weddings_init_0 : m_at k_Weddings_init 0 = some (.aload_n 0, 1, 0) := m_at_of r_Weddings_init (by decide +kernel)
theorem i_Weddings_init_1 : m_at k_Weddings_init 1 = some (.invokespecial 3, 3, 441) := m_at_of r_Weddings_init (by decide +kernel)
theorem i_Weddings_init_4 : m_at k_Weddings_init 4 = some (.aload_n 0, 1, 0) := m_at_of r_Weddings_init (by decide +kernel)
theorem i_Weddings_init_5 : m_at k_Weddings_init 5 = some (.bipush 7, 2, 0) := m_at_of r_Weddings_init (by decide +kernel)
theorem i_Weddings_init_7 : m_at k_Weddings_init 7 = some (.newarray .int, 2, 0) := m_at_of r_Weddings_init (by decide +kernel)
theorem i_Weddings_init_9 : m_at k_Weddings_init 9 = some (.putfield 9, 3, 62) := m_at_of r_Weddings_init (by decide +kernel)
theorem i_Weddings_init_12 : m_at k_Weddings_init 12 = some (.aload_n 0, 1, 0) := m_at_of r_Weddings_init (by decide +kernel)
theorem i_Weddings_init_13 : m_at k_Weddings_init 13 = some (.bipush 7, 2, 0) := m_at_of r_Weddings_init (by decide +kernel)
theorem i_Weddings_init_15 : m_at k_Weddings_init 15 = some (.newarray .int, 2, 0) := m_at_of r_Weddings_init (by decide +kernel)
theorem i_Weddings_init_17 : m_at k_Weddings_init 17 = some (.putfield 15, 3, 64) := m_at_of r_Weddings_init (by decide +kernel)
theorem i_Weddings_init_20 : m_at k_Weddings_init 20 = some (.return_, 1, 0) := m_at_of r_Weddings_init (by decide +kernel)
set_option maxRecDepth 20000 in
set_option maxHeartbeats 1000000 in
theorem E_Weddings_init (x : m_X) (s : m_H) (w : Nat) : m_M x k_Weddings_init [.ref w] s = if s.length < 900 ∧ ¬ 7 < (0 : Int32) ∧ (7 : Int32).toNatClampNeg ≤ 100000 then ((m_pf (s ++ [.inl (0, (7 : Int32).toNatClampNeg, .inl fun _ => 0)]) 8 0 w (.ref s.length)).bind fun s9 => if s9.length < 900 ∧ ¬ 7 < (0 : Int32) ∧ (7 : Int32).toNatClampNeg ≤ 100000 then ((m_pf (s9 ++ [.inl (0, (7 : Int32).toNatClampNeg, .inl fun _ => 0)]) 8 1 w (.ref s9.length)).bind fun s17 => some (none, s17)) else none) else none := by
  refine e_M2 (L0 := [some (.ref w)]) rfl (q_Weddings_init _) rfl ?_
  refine e_aload_n i_Weddings_init_0 rfl ?_
  refine e_oinit i_Weddings_init_1 lm_441 (Nat.le_of_ble_eq_true rfl) ?_
  refine e_aload_n i_Weddings_init_4 rfl ?_
  refine e_bipush (v := 7) i_Weddings_init_5 (by decide) ?_
  refine e_newI i_Weddings_init_7 ?_
  refine e_putf i_Weddings_init_9 lf_62 ft_8_0 rfl (fun s9 => ?_)
  refine e_aload_n i_Weddings_init_12 rfl ?_
  refine e_bipush (v := 7) i_Weddings_init_13 (by decide) ?_
  refine e_newI i_Weddings_init_15 ?_
  refine e_putf i_Weddings_init_17 lf_64 ft_8_1 rfl (fun s17 => ?_)
  exact e_vret i_Weddings_init_20 rfl
theorem i_Integer_bitCount_0 : m_at k_Integer_bitCount 0 = some (.iload_n 0, 1, 0) := m_at_of r_Integer_bitCount (by decide +kernel)
theorem i_Integer_bitCount_1 : m_at k_Integer_bitCount 1 = some (.iload_n 0, 1, 0) := m_at_of r_Integer_bitCount (by decide +kernel)
theorem i_Integer_bitCount_2 : m_at k_Integer_bitCount 2 = some (.iconst 1, 1, 0) := m_at_of r_Integer_bitCount (by decide +kernel)
theorem i_Integer_bitCount_3 : m_at k_Integer_bitCount 3 = some (.iushr, 1, 0) := m_at_of r_Integer_bitCount (by decide +kernel)
theorem i_Integer_bitCount_4 : m_at k_Integer_bitCount 4 = some (.ldc_w 265, 3, 1) := m_at_of r_Integer_bitCount (by decide +kernel)
theorem i_Integer_bitCount_7 : m_at k_Integer_bitCount 7 = some (.iand, 1, 0) := m_at_of r_Integer_bitCount (by decide +kernel)
theorem i_Integer_bitCount_8 : m_at k_Integer_bitCount 8 = some (.isub, 1, 0) := m_at_of r_Integer_bitCount (by decide +kernel)
theorem i_Integer_bitCount_9 : m_at k_Integer_bitCount 9 = some (.istore_n 0, 1, 0) := m_at_of r_Integer_bitCount (by decide +kernel)
theorem i_Integer_bitCount_10 : m_at k_Integer_bitCount 10 = some (.iload_n 0, 1, 0) := m_at_of r_Integer_bitCount (by decide +kernel)
theorem i_Integer_bitCount_11 : m_at k_Integer_bitCount 11 = some (.ldc_w 266, 3, 2) := m_at_of r_Integer_bitCount (by decide +kernel)
theorem i_Integer_bitCount_14 : m_at k_Integer_bitCount 14 = some (.iand, 1, 0) := m_at_of r_Integer_bitCount (by decide +kernel)
theorem i_Integer_bitCount_15 : m_at k_Integer_bitCount 15 = some (.iload_n 0, 1, 0) := m_at_of r_Integer_bitCount (by decide +kernel)
theorem i_Integer_bitCount_16 : m_at k_Integer_bitCount 16 = some (.iconst 2, 1, 0) := m_at_of r_Integer_bitCount (by decide +kernel)
theorem i_Integer_bitCount_17 : m_at k_Integer_bitCount 17 = some (.iushr, 1, 0) := m_at_of r_Integer_bitCount (by decide +kernel)
theorem i_Integer_bitCount_18 : m_at k_Integer_bitCount 18 = some (.ldc_w 266, 3, 2) := m_at_of r_Integer_bitCount (by decide +kernel)
theorem i_Integer_bitCount_21 : m_at k_Integer_bitCount 21 = some (.iand, 1, 0) := m_at_of r_Integer_bitCount (by decide +kernel)
theorem i_Integer_bitCount_22 : m_at k_Integer_bitCount 22 = some (.iadd, 1, 0) := m_at_of r_Integer_bitCount (by decide +kernel)
theorem i_Integer_bitCount_23 : m_at k_Integer_bitCount 23 = some (.istore_n 0, 1, 0) := m_at_of r_Integer_bitCount (by decide +kernel)
theorem i_Integer_bitCount_24 : m_at k_Integer_bitCount 24 = some (.iload_n 0, 1, 0) := m_at_of r_Integer_bitCount (by decide +kernel)
theorem i_Integer_bitCount_25 : m_at k_Integer_bitCount 25 = some (.iload_n 0, 1, 0) := m_at_of r_Integer_bitCount (by decide +kernel)
theorem i_Integer_bitCount_26 : m_at k_Integer_bitCount 26 = some (.iconst 4, 1, 0) := m_at_of r_Integer_bitCount (by decide +kernel)
theorem i_Integer_bitCount_27 : m_at k_Integer_bitCount 27 = some (.iushr, 1, 0) := m_at_of r_Integer_bitCount (by decide +kernel)
theorem i_Integer_bitCount_28 : m_at k_Integer_bitCount 28 = some (.iadd, 1, 0) := m_at_of r_Integer_bitCount (by decide +kernel)
theorem i_Integer_bitCount_29 : m_at k_Integer_bitCount 29 = some (.ldc_w 267, 3, 3) := m_at_of r_Integer_bitCount (by decide +kernel)
theorem i_Integer_bitCount_32 : m_at k_Integer_bitCount 32 = some (.iand, 1, 0) := m_at_of r_Integer_bitCount (by decide +kernel)
theorem i_Integer_bitCount_33 : m_at k_Integer_bitCount 33 = some (.istore_n 0, 1, 0) := m_at_of r_Integer_bitCount (by decide +kernel)
theorem i_Integer_bitCount_34 : m_at k_Integer_bitCount 34 = some (.iload_n 0, 1, 0) := m_at_of r_Integer_bitCount (by decide +kernel)
theorem i_Integer_bitCount_35 : m_at k_Integer_bitCount 35 = some (.iload_n 0, 1, 0) := m_at_of r_Integer_bitCount (by decide +kernel)
theorem i_Integer_bitCount_36 : m_at k_Integer_bitCount 36 = some (.bipush 8, 2, 0) := m_at_of r_Integer_bitCount (by decide +kernel)
theorem i_Integer_bitCount_38 : m_at k_Integer_bitCount 38 = some (.iushr, 1, 0) := m_at_of r_Integer_bitCount (by decide +kernel)
theorem i_Integer_bitCount_39 : m_at k_Integer_bitCount 39 = some (.iadd, 1, 0) := m_at_of r_Integer_bitCount (by decide +kernel)
theorem i_Integer_bitCount_40 : m_at k_Integer_bitCount 40 = some (.istore_n 0, 1, 0) := m_at_of r_Integer_bitCount (by decide +kernel)
theorem i_Integer_bitCount_41 : m_at k_Integer_bitCount 41 = some (.iload_n 0, 1, 0) := m_at_of r_Integer_bitCount (by decide +kernel)
theorem i_Integer_bitCount_42 : m_at k_Integer_bitCount 42 = some (.iload_n 0, 1, 0) := m_at_of r_Integer_bitCount (by decide +kernel)
theorem i_Integer_bitCount_43 : m_at k_Integer_bitCount 43 = some (.bipush 16, 2, 0) := m_at_of r_Integer_bitCount (by decide +kernel)
theorem i_Integer_bitCount_45 : m_at k_Integer_bitCount 45 = some (.iushr, 1, 0) := m_at_of r_Integer_bitCount (by decide +kernel)
theorem i_Integer_bitCount_46 : m_at k_Integer_bitCount 46 = some (.iadd, 1, 0) := m_at_of r_Integer_bitCount (by decide +kernel)
theorem i_Integer_bitCount_47 : m_at k_Integer_bitCount 47 = some (.istore_n 0, 1, 0) := m_at_of r_Integer_bitCount (by decide +kernel)
theorem i_Integer_bitCount_48 : m_at k_Integer_bitCount 48 = some (.iload_n 0, 1, 0) := m_at_of r_Integer_bitCount (by decide +kernel)
theorem i_Integer_bitCount_49 : m_at k_Integer_bitCount 49 = some (.bipush 63, 2, 0) := m_at_of r_Integer_bitCount (by decide +kernel)
theorem i_Integer_bitCount_51 : m_at k_Integer_bitCount 51 = some (.iand, 1, 0) := m_at_of r_Integer_bitCount (by decide +kernel)
theorem i_Integer_bitCount_52 : m_at k_Integer_bitCount 52 = some (.ireturn, 1, 0) := m_at_of r_Integer_bitCount (by decide +kernel)
set_option maxRecDepth 20000 in
set_option maxHeartbeats 1000000 in
theorem E_Integer_bitCount (x : m_X) (s : m_H) (n0 : Int32) : m_M x k_Integer_bitCount [.int n0] s = some (some (.int ((((((((n0 - ((n0.toUInt32 >>> ((1 : Int32).toUInt32 &&& Int32.toUInt32 31)).toInt32 &&& (1431655765 : Int32))) &&& (858993459 : Int32)) + (((n0 - ((n0.toUInt32 >>> ((1 : Int32).toUInt32 &&& Int32.toUInt32 31)).toInt32 &&& (1431655765 : Int32))).toUInt32 >>> ((2 : Int32).toUInt32 &&& Int32.toUInt32 31)).toInt32 &&& (858993459 : Int32))) + ((((n0 - ((n0.toUInt32 >>> ((1 : Int32).toUInt32 &&& Int32.toUInt32 31)).toInt32 &&& (1431655765 : Int32))) &&& (858993459 : Int32)) + (((n0 - ((n0.toUInt32 >>> ((1 : Int32).toUInt32 &&& Int32.toUInt32 31)).toInt32 &&& (1431655765 : Int32))).toUInt32 >>> ((2 : Int32).toUInt32 &&& Int32.toUInt32 31)).toInt32 &&& (858993459 : Int32))).toUInt32 >>> ((4 : Int32).toUInt32 &&& Int32.toUInt32 31)).toInt32) &&& (252645135 : Int32)) + ((((((n0 - ((n0.toUInt32 >>> ((1 : Int32).toUInt32 &&& Int32.toUInt32 31)).toInt32 &&& (1431655765 : Int32))) &&& (858993459 : Int32)) + (((n0 - ((n0.toUInt32 >>> ((1 : Int32).toUInt32 &&& Int32.toUInt32 31)).toInt32 &&& (1431655765 : Int32))).toUInt32 >>> ((2 : Int32).toUInt32 &&& Int32.toUInt32 31)).toInt32 &&& (858993459 : Int32))) + ((((n0 - ((n0.toUInt32 >>> ((1 : Int32).toUInt32 &&& Int32.toUInt32 31)).toInt32 &&& (1431655765 : Int32))) &&& (858993459 : Int32)) + (((n0 - ((n0.toUInt32 >>> ((1 : Int32).toUInt32 &&& Int32.toUInt32 31)).toInt32 &&& (1431655765 : Int32))).toUInt32 >>> ((2 : Int32).toUInt32 &&& Int32.toUInt32 31)).toInt32 &&& (858993459 : Int32))).toUInt32 >>> ((4 : Int32).toUInt32 &&& Int32.toUInt32 31)).toInt32) &&& (252645135 : Int32)).toUInt32 >>> ((8 : Int32).toUInt32 &&& Int32.toUInt32 31)).toInt32) + (((((((n0 - ((n0.toUInt32 >>> ((1 : Int32).toUInt32 &&& Int32.toUInt32 31)).toInt32 &&& (1431655765 : Int32))) &&& (858993459 : Int32)) + (((n0 - ((n0.toUInt32 >>> ((1 : Int32).toUInt32 &&& Int32.toUInt32 31)).toInt32 &&& (1431655765 : Int32))).toUInt32 >>> ((2 : Int32).toUInt32 &&& Int32.toUInt32 31)).toInt32 &&& (858993459 : Int32))) + ((((n0 - ((n0.toUInt32 >>> ((1 : Int32).toUInt32 &&& Int32.toUInt32 31)).toInt32 &&& (1431655765 : Int32))) &&& (858993459 : Int32)) + (((n0 - ((n0.toUInt32 >>> ((1 : Int32).toUInt32 &&& Int32.toUInt32 31)).toInt32 &&& (1431655765 : Int32))).toUInt32 >>> ((2 : Int32).toUInt32 &&& Int32.toUInt32 31)).toInt32 &&& (858993459 : Int32))).toUInt32 >>> ((4 : Int32).toUInt32 &&& Int32.toUInt32 31)).toInt32) &&& (252645135 : Int32)) + ((((((n0 - ((n0.toUInt32 >>> ((1 : Int32).toUInt32 &&& Int32.toUInt32 31)).toInt32 &&& (1431655765 : Int32))) &&& (858993459 : Int32)) + (((n0 - ((n0.toUInt32 >>> ((1 : Int32).toUInt32 &&& Int32.toUInt32 31)).toInt32 &&& (1431655765 : Int32))).toUInt32 >>> ((2 : Int32).toUInt32 &&& Int32.toUInt32 31)).toInt32 &&& (858993459 : Int32))) + ((((n0 - ((n0.toUInt32 >>> ((1 : Int32).toUInt32 &&& Int32.toUInt32 31)).toInt32 &&& (1431655765 : Int32))) &&& (858993459 : Int32)) + (((n0 - ((n0.toUInt32 >>> ((1 : Int32).toUInt32 &&& Int32.toUInt32 31)).toInt32 &&& (1431655765 : Int32))).toUInt32 >>> ((2 : Int32).toUInt32 &&& Int32.toUInt32 31)).toInt32 &&& (858993459 : Int32))).toUInt32 >>> ((4 : Int32).toUInt32 &&& Int32.toUInt32 31)).toInt32) &&& (252645135 : Int32)).toUInt32 >>> ((8 : Int32).toUInt32 &&& Int32.toUInt32 31)).toInt32).toUInt32 >>> ((16 : Int32).toUInt32 &&& Int32.toUInt32 31)).toInt32) &&& (63 : Int32))), s) := by
  refine e_M0 (L0 := [some (.int n0)]) rfl (q_Integer_bitCount _) rfl ?_
  refine e_iload_n i_Integer_bitCount_0 rfl ?_
  refine e_iload_n i_Integer_bitCount_1 rfl ?_
  refine e_iconst (v := 1) i_Integer_bitCount_2 (by decide) ?_
  refine e_iushr i_Integer_bitCount_3 ?_
  refine e_ldcw (q := (10, 265, 1431655765)) i_Integer_bitCount_4 (by decide) rfl ?_
  refine e_iand i_Integer_bitCount_7 ?_
  refine e_isub i_Integer_bitCount_8 ?_
  refine e_istore_n (L' := [some (.int (n0 - ((n0.toUInt32 >>> ((1 : Int32).toUInt32 &&& Int32.toUInt32 31)).toInt32 &&& (1431655765 : Int32))))]) i_Integer_bitCount_9 (of_decide_eq_true rfl) rfl ?_
  refine e_iload_n i_Integer_bitCount_10 rfl ?_
  refine e_ldcw (q := (10, 266, 858993459)) i_Integer_bitCount_11 (by decide) rfl ?_
  refine e_iand i_Integer_bitCount_14 ?_
  refine e_iload_n i_Integer_bitCount_15 rfl ?_
  refine e_iconst (v := 2) i_Integer_bitCount_16 (by decide) ?_
  refine e_iushr i_Integer_bitCount_17 ?_
  refine e_ldcw (q := (10, 266, 858993459)) i_Integer_bitCount_18 (by decide) rfl ?_
  refine e_iand i_Integer_bitCount_21 ?_
  refine e_iadd i_Integer_bitCount_22 ?_
  refine e_istore_n (L' := [some (.int (((n0 - ((n0.toUInt32 >>> ((1 : Int32).toUInt32 &&& Int32.toUInt32 31)).toInt32 &&& (1431655765 : Int32))) &&& (858993459 : Int32)) + (((n0 - ((n0.toUInt32 >>> ((1 : Int32).toUInt32 &&& Int32.toUInt32 31)).toInt32 &&& (1431655765 : Int32))).toUInt32 >>> ((2 : Int32).toUInt32 &&& Int32.toUInt32 31)).toInt32 &&& (858993459 : Int32))))]) i_Integer_bitCount_23 (of_decide_eq_true rfl) rfl ?_
  refine e_iload_n i_Integer_bitCount_24 rfl ?_
  refine e_iload_n i_Integer_bitCount_25 rfl ?_
  refine e_iconst (v := 4) i_Integer_bitCount_26 (by decide) ?_
  refine e_iushr i_Integer_bitCount_27 ?_
  refine e_iadd i_Integer_bitCount_28 ?_
  refine e_ldcw (q := (10, 267, 252645135)) i_Integer_bitCount_29 (by decide) rfl ?_
  refine e_iand i_Integer_bitCount_32 ?_
  refine e_istore_n (L' := [some (.int (((((n0 - ((n0.toUInt32 >>> ((1 : Int32).toUInt32 &&& Int32.toUInt32 31)).toInt32 &&& (1431655765 : Int32))) &&& (858993459 : Int32)) + (((n0 - ((n0.toUInt32 >>> ((1 : Int32).toUInt32 &&& Int32.toUInt32 31)).toInt32 &&& (1431655765 : Int32))).toUInt32 >>> ((2 : Int32).toUInt32 &&& Int32.toUInt32 31)).toInt32 &&& (858993459 : Int32))) + ((((n0 - ((n0.toUInt32 >>> ((1 : Int32).toUInt32 &&& Int32.toUInt32 31)).toInt32 &&& (1431655765 : Int32))) &&& (858993459 : Int32)) + (((n0 - ((n0.toUInt32 >>> ((1 : Int32).toUInt32 &&& Int32.toUInt32 31)).toInt32 &&& (1431655765 : Int32))).toUInt32 >>> ((2 : Int32).toUInt32 &&& Int32.toUInt32 31)).toInt32 &&& (858993459 : Int32))).toUInt32 >>> ((4 : Int32).toUInt32 &&& Int32.toUInt32 31)).toInt32) &&& (252645135 : Int32)))]) i_Integer_bitCount_33 (of_decide_eq_true rfl) rfl ?_
  refine e_iload_n i_Integer_bitCount_34 rfl ?_
  refine e_iload_n i_Integer_bitCount_35 rfl ?_
  refine e_bipush (v := 8) i_Integer_bitCount_36 (by decide) ?_
  refine e_iushr i_Integer_bitCount_38 ?_
  refine e_iadd i_Integer_bitCount_39 ?_
  refine e_istore_n (L' := [some (.int ((((((n0 - ((n0.toUInt32 >>> ((1 : Int32).toUInt32 &&& Int32.toUInt32 31)).toInt32 &&& (1431655765 : Int32))) &&& (858993459 : Int32)) + (((n0 - ((n0.toUInt32 >>> ((1 : Int32).toUInt32 &&& Int32.toUInt32 31)).toInt32 &&& (1431655765 : Int32))).toUInt32 >>> ((2 : Int32).toUInt32 &&& Int32.toUInt32 31)).toInt32 &&& (858993459 : Int32))) + ((((n0 - ((n0.toUInt32 >>> ((1 : Int32).toUInt32 &&& Int32.toUInt32 31)).toInt32 &&& (1431655765 : Int32))) &&& (858993459 : Int32)) + (((n0 - ((n0.toUInt32 >>> ((1 : Int32).toUInt32 &&& Int32.toUInt32 31)).toInt32 &&& (1431655765 : Int32))).toUInt32 >>> ((2 : Int32).toUInt32 &&& Int32.toUInt32 31)).toInt32 &&& (858993459 : Int32))).toUInt32 >>> ((4 : Int32).toUInt32 &&& Int32.toUInt32 31)).toInt32) &&& (252645135 : Int32)) + ((((((n0 - ((n0.toUInt32 >>> ((1 : Int32).toUInt32 &&& Int32.toUInt32 31)).toInt32 &&& (1431655765 : Int32))) &&& (858993459 : Int32)) + (((n0 - ((n0.toUInt32 >>> ((1 : Int32).toUInt32 &&& Int32.toUInt32 31)).toInt32 &&& (1431655765 : Int32))).toUInt32 >>> ((2 : Int32).toUInt32 &&& Int32.toUInt32 31)).toInt32 &&& (858993459 : Int32))) + ((((n0 - ((n0.toUInt32 >>> ((1 : Int32).toUInt32 &&& Int32.toUInt32 31)).toInt32 &&& (1431655765 : Int32))) &&& (858993459 : Int32)) + (((n0 - ((n0.toUInt32 >>> ((1 : Int32).toUInt32 &&& Int32.toUInt32 31)).toInt32 &&& (1431655765 : Int32))).toUInt32 >>> ((2 : Int32).toUInt32 &&& Int32.toUInt32 31)).toInt32 &&& (858993459 : Int32))).toUInt32 >>> ((4 : Int32).toUInt32 &&& Int32.toUInt32 31)).toInt32) &&& (252645135 : Int32)).toUInt32 >>> ((8 : Int32).toUInt32 &&& Int32.toUInt32 31)).toInt32))]) i_Integer_bitCount_40 (of_decide_eq_true rfl) rfl ?_
  refine e_iload_n i_Integer_bitCount_41 rfl ?_
  refine e_iload_n i_Integer_bitCount_42 rfl ?_
  refine e_bipush (v := 16) i_Integer_bitCount_43 (by decide) ?_
  refine e_iushr i_Integer_bitCount_45 ?_
  refine e_iadd i_Integer_bitCount_46 ?_
  refine e_istore_n (L' := [some (.int (((((((n0 - ((n0.toUInt32 >>> ((1 : Int32).toUInt32 &&& Int32.toUInt32 31)).toInt32 &&& (1431655765 : Int32))) &&& (858993459 : Int32)) + (((n0 - ((n0.toUInt32 >>> ((1 : Int32).toUInt32 &&& Int32.toUInt32 31)).toInt32 &&& (1431655765 : Int32))).toUInt32 >>> ((2 : Int32).toUInt32 &&& Int32.toUInt32 31)).toInt32 &&& (858993459 : Int32))) + ((((n0 - ((n0.toUInt32 >>> ((1 : Int32).toUInt32 &&& Int32.toUInt32 31)).toInt32 &&& (1431655765 : Int32))) &&& (858993459 : Int32)) + (((n0 - ((n0.toUInt32 >>> ((1 : Int32).toUInt32 &&& Int32.toUInt32 31)).toInt32 &&& (1431655765 : Int32))).toUInt32 >>> ((2 : Int32).toUInt32 &&& Int32.toUInt32 31)).toInt32 &&& (858993459 : Int32))).toUInt32 >>> ((4 : Int32).toUInt32 &&& Int32.toUInt32 31)).toInt32) &&& (252645135 : Int32)) + ((((((n0 - ((n0.toUInt32 >>> ((1 : Int32).toUInt32 &&& Int32.toUInt32 31)).toInt32 &&& (1431655765 : Int32))) &&& (858993459 : Int32)) + (((n0 - ((n0.toUInt32 >>> ((1 : Int32).toUInt32 &&& Int32.toUInt32 31)).toInt32 &&& (1431655765 : Int32))).toUInt32 >>> ((2 : Int32).toUInt32 &&& Int32.toUInt32 31)).toInt32 &&& (858993459 : Int32))) + ((((n0 - ((n0.toUInt32 >>> ((1 : Int32).toUInt32 &&& Int32.toUInt32 31)).toInt32 &&& (1431655765 : Int32))) &&& (858993459 : Int32)) + (((n0 - ((n0.toUInt32 >>> ((1 : Int32).toUInt32 &&& Int32.toUInt32 31)).toInt32 &&& (1431655765 : Int32))).toUInt32 >>> ((2 : Int32).toUInt32 &&& Int32.toUInt32 31)).toInt32 &&& (858993459 : Int32))).toUInt32 >>> ((4 : Int32).toUInt32 &&& Int32.toUInt32 31)).toInt32) &&& (252645135 : Int32)).toUInt32 >>> ((8 : Int32).toUInt32 &&& Int32.toUInt32 31)).toInt32) + (((((((n0 - ((n0.toUInt32 >>> ((1 : Int32).toUInt32 &&& Int32.toUInt32 31)).toInt32 &&& (1431655765 : Int32))) &&& (858993459 : Int32)) + (((n0 - ((n0.toUInt32 >>> ((1 : Int32).toUInt32 &&& Int32.toUInt32 31)).toInt32 &&& (1431655765 : Int32))).toUInt32 >>> ((2 : Int32).toUInt32 &&& Int32.toUInt32 31)).toInt32 &&& (858993459 : Int32))) + ((((n0 - ((n0.toUInt32 >>> ((1 : Int32).toUInt32 &&& Int32.toUInt32 31)).toInt32 &&& (1431655765 : Int32))) &&& (858993459 : Int32)) + (((n0 - ((n0.toUInt32 >>> ((1 : Int32).toUInt32 &&& Int32.toUInt32 31)).toInt32 &&& (1431655765 : Int32))).toUInt32 >>> ((2 : Int32).toUInt32 &&& Int32.toUInt32 31)).toInt32 &&& (858993459 : Int32))).toUInt32 >>> ((4 : Int32).toUInt32 &&& Int32.toUInt32 31)).toInt32) &&& (252645135 : Int32)) + ((((((n0 - ((n0.toUInt32 >>> ((1 : Int32).toUInt32 &&& Int32.toUInt32 31)).toInt32 &&& (1431655765 : Int32))) &&& (858993459 : Int32)) + (((n0 - ((n0.toUInt32 >>> ((1 : Int32).toUInt32 &&& Int32.toUInt32 31)).toInt32 &&& (1431655765 : Int32))).toUInt32 >>> ((2 : Int32).toUInt32 &&& Int32.toUInt32 31)).toInt32 &&& (858993459 : Int32))) + ((((n0 - ((n0.toUInt32 >>> ((1 : Int32).toUInt32 &&& Int32.toUInt32 31)).toInt32 &&& (1431655765 : Int32))) &&& (858993459 : Int32)) + (((n0 - ((n0.toUInt32 >>> ((1 : Int32).toUInt32 &&& Int32.toUInt32 31)).toInt32 &&& (1431655765 : Int32))).toUInt32 >>> ((2 : Int32).toUInt32 &&& Int32.toUInt32 31)).toInt32 &&& (858993459 : Int32))).toUInt32 >>> ((4 : Int32).toUInt32 &&& Int32.toUInt32 31)).toInt32) &&& (252645135 : Int32)).toUInt32 >>> ((8 : Int32).toUInt32 &&& Int32.toUInt32 31)).toInt32).toUInt32 >>> ((16 : Int32).toUInt32 &&& Int32.toUInt32 31)).toInt32))]) i_Integer_bitCount_47 (of_decide_eq_true rfl) rfl ?_
  refine e_iload_n i_Integer_bitCount_48 rfl ?_
  refine e_bipush (v := 63) i_Integer_bitCount_49 (by decide) ?_
  refine e_iand i_Integer_bitCount_51 ?_
  exact e_iretI i_Integer_bitCount_52 rfl
theorem i_Script_kindAt_0 : m_at k_Script_kindAt 0 = some (.aload_n 0, 1, 0) := m_at_of r_Script_kindAt (by decide +kernel)
theorem i_Script_kindAt_1 : m_at k_Script_kindAt 1 = some (.iload_n 1, 1, 0) := m_at_of r_Script_kindAt (by decide +kernel)
theorem i_Script_kindAt_2 : m_at k_Script_kindAt 2 = some (.invokevirtual 43, 3, 268) := m_at_of r_Script_kindAt (by decide +kernel)
theorem i_Script_kindAt_5 : m_at k_Script_kindAt 5 = some (.ifCond .eq (12), 3, 0) := m_at_of r_Script_kindAt (by decide +kernel)
theorem i_Script_kindAt_8 : m_at k_Script_kindAt 8 = some (.aload_n 0, 1, 0) := m_at_of r_Script_kindAt (by decide +kernel)
theorem i_Script_kindAt_9 : m_at k_Script_kindAt 9 = some (.getfield 9, 3, 81) := m_at_of r_Script_kindAt (by decide +kernel)
theorem i_Script_kindAt_12 : m_at k_Script_kindAt 12 = some (.iload_n 1, 1, 0) := m_at_of r_Script_kindAt (by decide +kernel)
theorem i_Script_kindAt_13 : m_at k_Script_kindAt 13 = some (.iaload, 1, 0) := m_at_of r_Script_kindAt (by decide +kernel)
theorem i_Script_kindAt_14 : m_at k_Script_kindAt 14 = some (.goto (4), 3, 0) := m_at_of r_Script_kindAt (by decide +kernel)
theorem i_Script_kindAt_17 : m_at k_Script_kindAt 17 = some (.iconst (-1), 1, 0) := m_at_of r_Script_kindAt (by decide +kernel)
theorem i_Script_kindAt_18 : m_at k_Script_kindAt 18 = some (.ireturn, 1, 0) := m_at_of r_Script_kindAt (by decide +kernel)
set_option maxRecDepth 20000 in
set_option maxHeartbeats 1000000 in
theorem E_Script_kindAt (x : m_X) (s : m_H) (w : Nat) (n1 : Int32) : m_M x k_Script_kindAt [.ref w, .int n1] s = if m_isO s w 5 = true then (m_bI (m_M x k_Script_hasClause [.ref w, .int n1] s) fun v2 s2 => if v2 = 0 then (some (some (.int (-1)), s2)) else (m_fR s2 5 0 w).bind fun v9 => (m_ia x s2 v9 n1).bind fun v13 => some (some (.int v13), s2)) else none := by
  refine e_M1 (L0 := [some (.ref w), some (.int n1)]) rfl (by decide +kernel) rfl (q_Script_kindAt _) rfl ?_
  refine e_aload_n i_Script_kindAt_0 rfl ?_
  refine e_iload_n i_Script_kindAt_1 rfl ?_
  refine e_callI (as := [.ref w, .int n1]) (st' := []) i_Script_kindAt_2 lm_268 (Or.inr (Or.inl ⟨rfl, rfl⟩)) w_Script_hasClause rfl rfl rfl (Nat.le_of_ble_eq_true rfl) (Nat.le_of_ble_eq_true rfl) (m_rlt (q_Script_hasClause _) (by decide)) rfl (fun v2 s2 => ?_)
  refine e_ifeq (t := 17) i_Script_kindAt_5 (by decide) ?_ ?_
  · refine e_iconst (v := (-1)) i_Script_kindAt_17 (by decide) ?_
    exact e_iretI i_Script_kindAt_18 rfl
  · refine e_aload_n i_Script_kindAt_8 rfl ?_
    refine e_getR i_Script_kindAt_9 lf_81 (by decide) ft_5_0 (fun v9 => ?_)
    refine e_iload_n i_Script_kindAt_12 rfl ?_
    refine e_iald i_Script_kindAt_13 (fun v13 => ?_)
    refine e_goto (t := 18) i_Script_kindAt_14 (by decide) ?_
    exact e_iretI i_Script_kindAt_18 rfl
theorem i_Script_numberAt_0 : m_at k_Script_numberAt 0 = some (.aload_n 0, 1, 0) := m_at_of r_Script_numberAt (by decide +kernel)
theorem i_Script_numberAt_1 : m_at k_Script_numberAt 1 = some (.iload_n 1, 1, 0) := m_at_of r_Script_numberAt (by decide +kernel)
theorem i_Script_numberAt_2 : m_at k_Script_numberAt 2 = some (.invokevirtual 47, 3, 269) := m_at_of r_Script_numberAt (by decide +kernel)
theorem i_Script_numberAt_5 : m_at k_Script_numberAt 5 = some (.iload_n 2, 1, 0) := m_at_of r_Script_numberAt (by decide +kernel)
theorem i_Script_numberAt_6 : m_at k_Script_numberAt 6 = some (.iadd, 1, 0) := m_at_of r_Script_numberAt (by decide +kernel)
theorem i_Script_numberAt_7 : m_at k_Script_numberAt 7 = some (.istore_n 3, 1, 0) := m_at_of r_Script_numberAt (by decide +kernel)
theorem i_Script_numberAt_8 : m_at k_Script_numberAt 8 = some (.iload_n 3, 1, 0) := m_at_of r_Script_numberAt (by decide +kernel)
theorem i_Script_numberAt_9 : m_at k_Script_numberAt 9 = some (.aload_n 0, 1, 0) := m_at_of r_Script_numberAt (by decide +kernel)
theorem i_Script_numberAt_10 : m_at k_Script_numberAt 10 = some (.iload_n 1, 1, 0) := m_at_of r_Script_numberAt (by decide +kernel)
theorem i_Script_numberAt_11 : m_at k_Script_numberAt 11 = some (.invokevirtual 51, 3, 270) := m_at_of r_Script_numberAt (by decide +kernel)
theorem i_Script_numberAt_14 : m_at k_Script_numberAt 14 = some (.if_icmp .ge (11), 3, 0) := m_at_of r_Script_numberAt (by decide +kernel)
theorem i_Script_numberAt_17 : m_at k_Script_numberAt 17 = some (.aload_n 0, 1, 0) := m_at_of r_Script_numberAt (by decide +kernel)
theorem i_Script_numberAt_18 : m_at k_Script_numberAt 18 = some (.iload_n 3, 1, 0) := m_at_of r_Script_numberAt (by decide +kernel)
theorem i_Script_numberAt_19 : m_at k_Script_numberAt 19 = some (.invokevirtual 54, 3, 271) := m_at_of r_Script_numberAt (by decide +kernel)
theorem i_Script_numberAt_22 : m_at k_Script_numberAt 22 = some (.goto (4), 3, 0) := m_at_of r_Script_numberAt (by decide +kernel)
theorem i_Script_numberAt_25 : m_at k_Script_numberAt 25 = some (.iconst 0, 1, 0) := m_at_of r_Script_numberAt (by decide +kernel)
theorem i_Script_numberAt_26 : m_at k_Script_numberAt 26 = some (.ireturn, 1, 0) := m_at_of r_Script_numberAt (by decide +kernel)
set_option maxRecDepth 20000 in
set_option maxHeartbeats 1000000 in
theorem E_Script_numberAt (x : m_X) (s : m_H) (w : Nat) (n1 : Int32) (n2 : Int32) : m_M x k_Script_numberAt [.ref w, .int n1, .int n2] s = if m_isO s w 5 = true then (m_bI (m_M x k_Script_startOf [.ref w, .int n1] s) fun v2 s2 => m_bI (m_M x k_Script_stopOf [.ref w, .int n1] s2) fun v11 s11 => if v11 ≤ (v2 + n2) then (some (some (.int 0), s11)) else m_bI (m_M x k_Script_cellAt [.ref w, .int (v2 + n2)] s11) fun v19 s19 => some (some (.int v19), s19)) else none := by
  refine e_M1 (L0 := [some (.ref w), some (.int n1), some (.int n2), none]) rfl (by decide +kernel) rfl (q_Script_numberAt _) rfl ?_
  refine e_aload_n i_Script_numberAt_0 rfl ?_
  refine e_iload_n i_Script_numberAt_1 rfl ?_
  refine e_callI (as := [.ref w, .int n1]) (st' := []) i_Script_numberAt_2 lm_269 (Or.inr (Or.inl ⟨rfl, rfl⟩)) w_Script_startOf rfl rfl rfl (Nat.le_of_ble_eq_true rfl) (Nat.le_of_ble_eq_true rfl) (m_rlt (q_Script_startOf _) (by decide)) rfl (fun v2 s2 => ?_)
  refine e_iload_n i_Script_numberAt_5 rfl ?_
  refine e_iadd i_Script_numberAt_6 ?_
  refine e_istore_n (L' := [some (.ref w), some (.int n1), some (.int n2), some (.int (v2 + n2))]) i_Script_numberAt_7 (of_decide_eq_true rfl) rfl ?_
  refine e_iload_n i_Script_numberAt_8 rfl ?_
  refine e_aload_n i_Script_numberAt_9 rfl ?_
  refine e_iload_n i_Script_numberAt_10 rfl ?_
  refine e_callI (as := [.ref w, .int n1]) (st' := [.int (v2 + n2)]) i_Script_numberAt_11 lm_270 (Or.inr (Or.inl ⟨rfl, rfl⟩)) w_Script_stopOf rfl rfl rfl (Nat.le_of_ble_eq_true rfl) (Nat.le_of_ble_eq_true rfl) (m_rlt (q_Script_stopOf _) (by decide)) rfl (fun v11 s11 => ?_)
  refine e_icmpge (t := 25) i_Script_numberAt_14 (by decide) ?_ ?_
  · refine e_iconst (v := 0) i_Script_numberAt_25 (by decide) ?_
    exact e_iretI i_Script_numberAt_26 rfl
  · refine e_aload_n i_Script_numberAt_17 rfl ?_
    refine e_iload_n i_Script_numberAt_18 rfl ?_
    refine e_callI (as := [.ref w, .int (v2 + n2)]) (st' := []) i_Script_numberAt_19 lm_271 (Or.inr (Or.inl ⟨rfl, rfl⟩)) w_Script_cellAt rfl rfl rfl (Nat.le_of_ble_eq_true rfl) (Nat.le_of_ble_eq_true rfl) (m_rlt (q_Script_cellAt _) (by decide)) rfl (fun v19 s19 => ?_)
    refine e_goto (t := 26) i_Script_numberAt_22 (by decide) ?_
    exact e_iretI i_Script_numberAt_26 rfl
theorem i_Script_cellAt_0 : m_at k_Script_cellAt 0 = some (.iload_n 1, 1, 0) := m_at_of r_Script_cellAt (by decide +kernel)
theorem i_Script_cellAt_1 : m_at k_Script_cellAt 1 = some (.ifCond .lt (19), 3, 0) := m_at_of r_Script_cellAt (by decide +kernel)
theorem i_Script_cellAt_4 : m_at k_Script_cellAt 4 = some (.iload_n 1, 1, 0) := m_at_of r_Script_cellAt (by decide +kernel)
theorem i_Script_cellAt_5 : m_at k_Script_cellAt 5 = some (.sipush 300, 3, 0) := m_at_of r_Script_cellAt (by decide +kernel)
theorem i_Script_cellAt_8 : m_at k_Script_cellAt 8 = some (.if_icmp .ge (12), 3, 0) := m_at_of r_Script_cellAt (by decide +kernel)
theorem i_Script_cellAt_11 : m_at k_Script_cellAt 11 = some (.aload_n 0, 1, 0) := m_at_of r_Script_cellAt (by decide +kernel)
theorem i_Script_cellAt_12 : m_at k_Script_cellAt 12 = some (.getfield 21, 3, 88) := m_at_of r_Script_cellAt (by decide +kernel)
theorem i_Script_cellAt_15 : m_at k_Script_cellAt 15 = some (.iload_n 1, 1, 0) := m_at_of r_Script_cellAt (by decide +kernel)
theorem i_Script_cellAt_16 : m_at k_Script_cellAt 16 = some (.iaload, 1, 0) := m_at_of r_Script_cellAt (by decide +kernel)
theorem i_Script_cellAt_17 : m_at k_Script_cellAt 17 = some (.goto (4), 3, 0) := m_at_of r_Script_cellAt (by decide +kernel)
theorem i_Script_cellAt_20 : m_at k_Script_cellAt 20 = some (.iconst 0, 1, 0) := m_at_of r_Script_cellAt (by decide +kernel)
theorem i_Script_cellAt_21 : m_at k_Script_cellAt 21 = some (.ireturn, 1, 0) := m_at_of r_Script_cellAt (by decide +kernel)
set_option maxRecDepth 20000 in
set_option maxHeartbeats 1000000 in
theorem E_Script_cellAt (x : m_X) (s : m_H) (w : Nat) (n1 : Int32) : m_M x k_Script_cellAt [.ref w, .int n1] s = if m_isO s w 5 = true then (if n1 < 0 then (some (some (.int 0), s)) else if 300 ≤ n1 then (some (some (.int 0), s)) else (m_fR s 5 3 w).bind fun v12 => (m_ia x s v12 n1).bind fun v16 => some (some (.int v16), s)) else none := by
  refine e_M1 (L0 := [some (.ref w), some (.int n1)]) rfl (by decide +kernel) rfl (q_Script_cellAt _) rfl ?_
  refine e_iload_n i_Script_cellAt_0 rfl ?_
  refine e_iflt (t := 20) i_Script_cellAt_1 (by decide) ?_ ?_
  · refine e_iconst (v := 0) i_Script_cellAt_20 (by decide) ?_
    exact e_iretI i_Script_cellAt_21 rfl
  · refine e_iload_n i_Script_cellAt_4 rfl ?_
    refine e_sipush (v := 300) i_Script_cellAt_5 (by decide) ?_
    refine e_icmpge (t := 20) i_Script_cellAt_8 (by decide) ?_ ?_
    · refine e_iconst (v := 0) i_Script_cellAt_20 (by decide) ?_
      exact e_iretI i_Script_cellAt_21 rfl
    · refine e_aload_n i_Script_cellAt_11 rfl ?_
      refine e_getR i_Script_cellAt_12 lf_88 (by decide) ft_5_3 (fun v12 => ?_)
      refine e_iload_n i_Script_cellAt_15 rfl ?_
      refine e_iald i_Script_cellAt_16 (fun v16 => ?_)
      refine e_goto (t := 21) i_Script_cellAt_17 (by decide) ?_
      exact e_iretI i_Script_cellAt_21 rfl
theorem i_Script_startOf_0 : m_at k_Script_startOf 0 = some (.aload_n 0, 1, 0) := m_at_of r_Script_startOf (by decide +kernel)
theorem i_Script_startOf_1 : m_at k_Script_startOf 1 = some (.iload_n 1, 1, 0) := m_at_of r_Script_startOf (by decide +kernel)
theorem i_Script_startOf_2 : m_at k_Script_startOf 2 = some (.invokevirtual 43, 3, 268) := m_at_of r_Script_startOf (by decide +kernel)
theorem i_Script_startOf_5 : m_at k_Script_startOf 5 = some (.ifCond .eq (12), 3, 0) := m_at_of r_Script_startOf (by decide +kernel)
theorem i_Script_startOf_8 : m_at k_Script_startOf 8 = some (.aload_n 0, 1, 0) := m_at_of r_Script_startOf (by decide +kernel)
theorem i_Script_startOf_9 : m_at k_Script_startOf 9 = some (.getfield 15, 3, 89) := m_at_of r_Script_startOf (by decide +kernel)
theorem i_Script_startOf_12 : m_at k_Script_startOf 12 = some (.iload_n 1, 1, 0) := m_at_of r_Script_startOf (by decide +kernel)
theorem i_Script_startOf_13 : m_at k_Script_startOf 13 = some (.iaload, 1, 0) := m_at_of r_Script_startOf (by decide +kernel)
theorem i_Script_startOf_14 : m_at k_Script_startOf 14 = some (.goto (4), 3, 0) := m_at_of r_Script_startOf (by decide +kernel)
theorem i_Script_startOf_17 : m_at k_Script_startOf 17 = some (.iconst 0, 1, 0) := m_at_of r_Script_startOf (by decide +kernel)
theorem i_Script_startOf_18 : m_at k_Script_startOf 18 = some (.ireturn, 1, 0) := m_at_of r_Script_startOf (by decide +kernel)
set_option maxRecDepth 20000 in
set_option maxHeartbeats 1000000 in
theorem E_Script_startOf (x : m_X) (s : m_H) (w : Nat) (n1 : Int32) : m_M x k_Script_startOf [.ref w, .int n1] s = if m_isO s w 5 = true then (m_bI (m_M x k_Script_hasClause [.ref w, .int n1] s) fun v2 s2 => if v2 = 0 then (some (some (.int 0), s2)) else (m_fR s2 5 1 w).bind fun v9 => (m_ia x s2 v9 n1).bind fun v13 => some (some (.int v13), s2)) else none := by
  refine e_M1 (L0 := [some (.ref w), some (.int n1)]) rfl (by decide +kernel) rfl (q_Script_startOf _) rfl ?_
  refine e_aload_n i_Script_startOf_0 rfl ?_
  refine e_iload_n i_Script_startOf_1 rfl ?_
  refine e_callI (as := [.ref w, .int n1]) (st' := []) i_Script_startOf_2 lm_268 (Or.inr (Or.inl ⟨rfl, rfl⟩)) w_Script_hasClause rfl rfl rfl (Nat.le_of_ble_eq_true rfl) (Nat.le_of_ble_eq_true rfl) (m_rlt (q_Script_hasClause _) (by decide)) rfl (fun v2 s2 => ?_)
  refine e_ifeq (t := 17) i_Script_startOf_5 (by decide) ?_ ?_
  · refine e_iconst (v := 0) i_Script_startOf_17 (by decide) ?_
    exact e_iretI i_Script_startOf_18 rfl
  · refine e_aload_n i_Script_startOf_8 rfl ?_
    refine e_getR i_Script_startOf_9 lf_89 (by decide) ft_5_1 (fun v9 => ?_)
    refine e_iload_n i_Script_startOf_12 rfl ?_
    refine e_iald i_Script_startOf_13 (fun v13 => ?_)
    refine e_goto (t := 18) i_Script_startOf_14 (by decide) ?_
    exact e_iretI i_Script_startOf_18 rfl
theorem i_Script_stopOf_0 : m_at k_Script_stopOf 0 = some (.aload_n 0, 1, 0) := m_at_of r_Script_stopOf (by decide +kernel)
theorem i_Script_stopOf_1 : m_at k_Script_stopOf 1 = some (.iload_n 1, 1, 0) := m_at_of r_Script_stopOf (by decide +kernel)
theorem i_Script_stopOf_2 : m_at k_Script_stopOf 2 = some (.invokevirtual 43, 3, 268) := m_at_of r_Script_stopOf (by decide +kernel)
theorem i_Script_stopOf_5 : m_at k_Script_stopOf 5 = some (.ifCond .eq (12), 3, 0) := m_at_of r_Script_stopOf (by decide +kernel)
theorem i_Script_stopOf_8 : m_at k_Script_stopOf 8 = some (.aload_n 0, 1, 0) := m_at_of r_Script_stopOf (by decide +kernel)
theorem i_Script_stopOf_9 : m_at k_Script_stopOf 9 = some (.getfield 18, 3, 90) := m_at_of r_Script_stopOf (by decide +kernel)
theorem i_Script_stopOf_12 : m_at k_Script_stopOf 12 = some (.iload_n 1, 1, 0) := m_at_of r_Script_stopOf (by decide +kernel)
theorem i_Script_stopOf_13 : m_at k_Script_stopOf 13 = some (.iaload, 1, 0) := m_at_of r_Script_stopOf (by decide +kernel)
theorem i_Script_stopOf_14 : m_at k_Script_stopOf 14 = some (.goto (4), 3, 0) := m_at_of r_Script_stopOf (by decide +kernel)
theorem i_Script_stopOf_17 : m_at k_Script_stopOf 17 = some (.iconst 0, 1, 0) := m_at_of r_Script_stopOf (by decide +kernel)
theorem i_Script_stopOf_18 : m_at k_Script_stopOf 18 = some (.ireturn, 1, 0) := m_at_of r_Script_stopOf (by decide +kernel)
set_option maxRecDepth 20000 in
set_option maxHeartbeats 1000000 in
theorem E_Script_stopOf (x : m_X) (s : m_H) (w : Nat) (n1 : Int32) : m_M x k_Script_stopOf [.ref w, .int n1] s = if m_isO s w 5 = true then (m_bI (m_M x k_Script_hasClause [.ref w, .int n1] s) fun v2 s2 => if v2 = 0 then (some (some (.int 0), s2)) else (m_fR s2 5 2 w).bind fun v9 => (m_ia x s2 v9 n1).bind fun v13 => some (some (.int v13), s2)) else none := by
  refine e_M1 (L0 := [some (.ref w), some (.int n1)]) rfl (by decide +kernel) rfl (q_Script_stopOf _) rfl ?_
  refine e_aload_n i_Script_stopOf_0 rfl ?_
  refine e_iload_n i_Script_stopOf_1 rfl ?_
  refine e_callI (as := [.ref w, .int n1]) (st' := []) i_Script_stopOf_2 lm_268 (Or.inr (Or.inl ⟨rfl, rfl⟩)) w_Script_hasClause rfl rfl rfl (Nat.le_of_ble_eq_true rfl) (Nat.le_of_ble_eq_true rfl) (m_rlt (q_Script_hasClause _) (by decide)) rfl (fun v2 s2 => ?_)
  refine e_ifeq (t := 17) i_Script_stopOf_5 (by decide) ?_ ?_
  · refine e_iconst (v := 0) i_Script_stopOf_17 (by decide) ?_
    exact e_iretI i_Script_stopOf_18 rfl
  · refine e_aload_n i_Script_stopOf_8 rfl ?_
    refine e_getR i_Script_stopOf_9 lf_90 (by decide) ft_5_2 (fun v9 => ?_)
    refine e_iload_n i_Script_stopOf_12 rfl ?_
    refine e_iald i_Script_stopOf_13 (fun v13 => ?_)
    refine e_goto (t := 18) i_Script_stopOf_14 (by decide) ?_
    exact e_iretI i_Script_stopOf_18 rfl
theorem i_Script_hasClause_0 : m_at k_Script_hasClause 0 = some (.iload_n 1, 1, 0) := m_at_of r_Script_hasClause (by decide +kernel)
theorem i_Script_hasClause_1 : m_at k_Script_hasClause 1 = some (.ifCond .lt (21), 3, 0) := m_at_of r_Script_hasClause (by decide +kernel)
theorem i_Script_hasClause_4 : m_at k_Script_hasClause 4 = some (.iload_n 1, 1, 0) := m_at_of r_Script_hasClause (by decide +kernel)
theorem i_Script_hasClause_5 : m_at k_Script_hasClause 5 = some (.aload_n 0, 1, 0) := m_at_of r_Script_hasClause (by decide +kernel)
theorem i_Script_hasClause_6 : m_at k_Script_hasClause 6 = some (.getfield 29, 3, 91) := m_at_of r_Script_hasClause (by decide +kernel)
theorem i_Script_hasClause_9 : m_at k_Script_hasClause 9 = some (.if_icmp .ge (13), 3, 0) := m_at_of r_Script_hasClause (by decide +kernel)
theorem i_Script_hasClause_12 : m_at k_Script_hasClause 12 = some (.iload_n 1, 1, 0) := m_at_of r_Script_hasClause (by decide +kernel)
theorem i_Script_hasClause_13 : m_at k_Script_hasClause 13 = some (.bipush 24, 2, 0) := m_at_of r_Script_hasClause (by decide +kernel)
theorem i_Script_hasClause_15 : m_at k_Script_hasClause 15 = some (.if_icmp .ge (7), 3, 0) := m_at_of r_Script_hasClause (by decide +kernel)
theorem i_Script_hasClause_18 : m_at k_Script_hasClause 18 = some (.iconst 1, 1, 0) := m_at_of r_Script_hasClause (by decide +kernel)
theorem i_Script_hasClause_19 : m_at k_Script_hasClause 19 = some (.goto (4), 3, 0) := m_at_of r_Script_hasClause (by decide +kernel)
theorem i_Script_hasClause_22 : m_at k_Script_hasClause 22 = some (.iconst 0, 1, 0) := m_at_of r_Script_hasClause (by decide +kernel)
theorem i_Script_hasClause_23 : m_at k_Script_hasClause 23 = some (.ireturn, 1, 0) := m_at_of r_Script_hasClause (by decide +kernel)
set_option maxRecDepth 20000 in
set_option maxHeartbeats 1000000 in
theorem E_Script_hasClause (x : m_X) (s : m_H) (w : Nat) (n1 : Int32) : m_M x k_Script_hasClause [.ref w, .int n1] s = if m_isO s w 5 = true then (if n1 < 0 then (some (some (.int 0), s)) else (m_fI s 5 5 w).bind fun v6 => if v6 ≤ n1 then (some (some (.int 0), s)) else if 24 ≤ n1 then (some (some (.int 0), s)) else some (some (.int 1), s)) else none := by
  refine e_M1 (L0 := [some (.ref w), some (.int n1)]) rfl (by decide +kernel) rfl (q_Script_hasClause _) rfl ?_
  refine e_iload_n i_Script_hasClause_0 rfl ?_
  refine e_iflt (t := 22) i_Script_hasClause_1 (by decide) ?_ ?_
  · refine e_iconst (v := 0) i_Script_hasClause_22 (by decide) ?_
    exact e_iretZ i_Script_hasClause_23 rfl (by decide)
  · refine e_iload_n i_Script_hasClause_4 rfl ?_
    refine e_aload_n i_Script_hasClause_5 rfl ?_
    refine e_getI i_Script_hasClause_6 lf_91 (by decide) (Or.inl ft_5_5) (fun v6 => ?_)
    refine e_icmpge (t := 22) i_Script_hasClause_9 (by decide) ?_ ?_
    · refine e_iconst (v := 0) i_Script_hasClause_22 (by decide) ?_
      exact e_iretZ i_Script_hasClause_23 rfl (by decide)
    · refine e_iload_n i_Script_hasClause_12 rfl ?_
      refine e_bipush (v := 24) i_Script_hasClause_13 (by decide) ?_
      refine e_icmpge (t := 22) i_Script_hasClause_15 (by decide) ?_ ?_
      · refine e_iconst (v := 0) i_Script_hasClause_22 (by decide) ?_
        exact e_iretZ i_Script_hasClause_23 rfl (by decide)
      · refine e_iconst (v := 1) i_Script_hasClause_18 (by decide) ?_
        refine e_goto (t := 23) i_Script_hasClause_19 (by decide) ?_
        exact e_iretZ i_Script_hasClause_23 rfl (by decide)
