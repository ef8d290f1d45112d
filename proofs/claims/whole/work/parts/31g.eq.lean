theorem i_G_isDone_0 : m_at k_G_isDone 0 = some (.aload_n 1, 1, 0) := m_at_of r_G_isDone (by decide +kernel)
theorem i_G_isDone_1 : m_at k_G_isDone 1 = some (.iload_n 2, 1, 0) := m_at_of r_G_isDone (by decide +kernel)
theorem i_G_isDone_2 : m_at k_G_isDone 2 = some (.iconst 0, 1, 0) := m_at_of r_G_isDone (by decide +kernel)
theorem i_G_isDone_3 : m_at k_G_isDone 3 = some (.invokevirtual 394, 3, 258) := m_at_of r_G_isDone (by decide +kernel)
theorem i_G_isDone_6 : m_at k_G_isDone 6 = some (.istore_n 3, 1, 0) := m_at_of r_G_isDone (by decide +kernel)
theorem i_G_isDone_7 : m_at k_G_isDone 7 = some (.aload_n 1, 1, 0) := m_at_of r_G_isDone (by decide +kernel)
theorem i_G_isDone_8 : m_at k_G_isDone 8 = some (.iload_n 2, 1, 0) := m_at_of r_G_isDone (by decide +kernel)
theorem i_G_isDone_9 : m_at k_G_isDone 9 = some (.iconst 1, 1, 0) := m_at_of r_G_isDone (by decide +kernel)
theorem i_G_isDone_10 : m_at k_G_isDone 10 = some (.invokevirtual 394, 3, 258) := m_at_of r_G_isDone (by decide +kernel)
theorem i_G_isDone_13 : m_at k_G_isDone 13 = some (.istore 4, 2, 0) := m_at_of r_G_isDone (by decide +kernel)
theorem i_G_isDone_15 : m_at k_G_isDone 15 = some (.aload_n 1, 1, 0) := m_at_of r_G_isDone (by decide +kernel)
theorem i_G_isDone_16 : m_at k_G_isDone 16 = some (.iload_n 2, 1, 0) := m_at_of r_G_isDone (by decide +kernel)
theorem i_G_isDone_17 : m_at k_G_isDone 17 = some (.invokevirtual 397, 3, 259) := m_at_of r_G_isDone (by decide +kernel)
theorem i_G_isDone_20 : m_at k_G_isDone 20 = some (.tableswitch (167) (4) (11) #[48, 65, 100, 117, 125, 131, 146, 161], 48, 0) := m_at_of r_G_isDone (by decide +kernel)
theorem i_G_isDone_68 : m_at k_G_isDone 68 = some (.aload_n 0, 1, 0) := m_at_of r_G_isDone (by decide +kernel)
theorem i_G_isDone_69 : m_at k_G_isDone 69 = some (.iload_n 3, 1, 0) := m_at_of r_G_isDone (by decide +kernel)
theorem i_G_isDone_70 : m_at k_G_isDone 70 = some (.iload 4, 2, 0) := m_at_of r_G_isDone (by decide +kernel)
theorem i_G_isDone_72 : m_at k_G_isDone 72 = some (.invokevirtual 400, 3, 260) := m_at_of r_G_isDone (by decide +kernel)
theorem i_G_isDone_75 : m_at k_G_isDone 75 = some (.iconst (-1), 1, 0) := m_at_of r_G_isDone (by decide +kernel)
theorem i_G_isDone_76 : m_at k_G_isDone 76 = some (.if_icmp .eq (7), 3, 0) := m_at_of r_G_isDone (by decide +kernel)
theorem i_G_isDone_79 : m_at k_G_isDone 79 = some (.iconst 1, 1, 0) := m_at_of r_G_isDone (by decide +kernel)
theorem i_G_isDone_80 : m_at k_G_isDone 80 = some (.goto (4), 3, 0) := m_at_of r_G_isDone (by decide +kernel)
theorem i_G_isDone_83 : m_at k_G_isDone 83 = some (.iconst 0, 1, 0) := m_at_of r_G_isDone (by decide +kernel)
theorem i_G_isDone_84 : m_at k_G_isDone 84 = some (.ireturn, 1, 0) := m_at_of r_G_isDone (by decide +kernel)
theorem i_G_isDone_85 : m_at k_G_isDone 85 = some (.aload_n 0, 1, 0) := m_at_of r_G_isDone (by decide +kernel)
theorem i_G_isDone_86 : m_at k_G_isDone 86 = some (.iload_n 3, 1, 0) := m_at_of r_G_isDone (by decide +kernel)
theorem i_G_isDone_87 : m_at k_G_isDone 87 = some (.iload 4, 2, 0) := m_at_of r_G_isDone (by decide +kernel)
theorem i_G_isDone_89 : m_at k_G_isDone 89 = some (.aload_n 1, 1, 0) := m_at_of r_G_isDone (by decide +kernel)
theorem i_G_isDone_90 : m_at k_G_isDone 90 = some (.iload_n 2, 1, 0) := m_at_of r_G_isDone (by decide +kernel)
theorem i_G_isDone_91 : m_at k_G_isDone 91 = some (.iconst 2, 1, 0) := m_at_of r_G_isDone (by decide +kernel)
theorem i_G_isDone_92 : m_at k_G_isDone 92 = some (.invokevirtual 394, 3, 258) := m_at_of r_G_isDone (by decide +kernel)
theorem i_G_isDone_95 : m_at k_G_isDone 95 = some (.aload_n 1, 1, 0) := m_at_of r_G_isDone (by decide +kernel)
theorem i_G_isDone_96 : m_at k_G_isDone 96 = some (.iload_n 2, 1, 0) := m_at_of r_G_isDone (by decide +kernel)
theorem i_G_isDone_97 : m_at k_G_isDone 97 = some (.iconst 3, 1, 0) := m_at_of r_G_isDone (by decide +kernel)
theorem i_G_isDone_98 : m_at k_G_isDone 98 = some (.invokevirtual 394, 3, 258) := m_at_of r_G_isDone (by decide +kernel)
theorem i_G_isDone_101 : m_at k_G_isDone 101 = some (.aload_n 1, 1, 0) := m_at_of r_G_isDone (by decide +kernel)
theorem i_G_isDone_102 : m_at k_G_isDone 102 = some (.iload_n 2, 1, 0) := m_at_of r_G_isDone (by decide +kernel)
theorem i_G_isDone_103 : m_at k_G_isDone 103 = some (.iconst 4, 1, 0) := m_at_of r_G_isDone (by decide +kernel)
theorem i_G_isDone_104 : m_at k_G_isDone 104 = some (.invokevirtual 394, 3, 258) := m_at_of r_G_isDone (by decide +kernel)
theorem i_G_isDone_107 : m_at k_G_isDone 107 = some (.invokevirtual 403, 3, 261) := m_at_of r_G_isDone (by decide +kernel)
theorem i_G_isDone_110 : m_at k_G_isDone 110 = some (.iconst (-1), 1, 0) := m_at_of r_G_isDone (by decide +kernel)
theorem i_G_isDone_111 : m_at k_G_isDone 111 = some (.if_icmp .eq (7), 3, 0) := m_at_of r_G_isDone (by decide +kernel)
theorem i_G_isDone_114 : m_at k_G_isDone 114 = some (.iconst 1, 1, 0) := m_at_of r_G_isDone (by decide +kernel)
theorem i_G_isDone_115 : m_at k_G_isDone 115 = some (.goto (4), 3, 0) := m_at_of r_G_isDone (by decide +kernel)
theorem i_G_isDone_118 : m_at k_G_isDone 118 = some (.iconst 0, 1, 0) := m_at_of r_G_isDone (by decide +kernel)
theorem i_G_isDone_119 : m_at k_G_isDone 119 = some (.ireturn, 1, 0) := m_at_of r_G_isDone (by decide +kernel)
theorem i_G_isDone_120 : m_at k_G_isDone 120 = some (.aload_n 0, 1, 0) := m_at_of r_G_isDone (by decide +kernel)
theorem i_G_isDone_121 : m_at k_G_isDone 121 = some (.iload_n 3, 1, 0) := m_at_of r_G_isDone (by decide +kernel)
theorem i_G_isDone_122 : m_at k_G_isDone 122 = some (.iload 4, 2, 0) := m_at_of r_G_isDone (by decide +kernel)
theorem i_G_isDone_124 : m_at k_G_isDone 124 = some (.invokevirtual 406, 3, 262) := m_at_of r_G_isDone (by decide +kernel)
theorem i_G_isDone_127 : m_at k_G_isDone 127 = some (.iconst (-1), 1, 0) := m_at_of r_G_isDone (by decide +kernel)
theorem i_G_isDone_128 : m_at k_G_isDone 128 = some (.if_icmp .eq (7), 3, 0) := m_at_of r_G_isDone (by decide +kernel)
theorem i_G_isDone_131 : m_at k_G_isDone 131 = some (.iconst 1, 1, 0) := m_at_of r_G_isDone (by decide +kernel)
theorem i_G_isDone_132 : m_at k_G_isDone 132 = some (.goto (4), 3, 0) := m_at_of r_G_isDone (by decide +kernel)
theorem i_G_isDone_135 : m_at k_G_isDone 135 = some (.iconst 0, 1, 0) := m_at_of r_G_isDone (by decide +kernel)
theorem i_G_isDone_136 : m_at k_G_isDone 136 = some (.ireturn, 1, 0) := m_at_of r_G_isDone (by decide +kernel)
theorem i_G_isDone_137 : m_at k_G_isDone 137 = some (.aload_n 0, 1, 0) := m_at_of r_G_isDone (by decide +kernel)
theorem i_G_isDone_138 : m_at k_G_isDone 138 = some (.iload_n 3, 1, 0) := m_at_of r_G_isDone (by decide +kernel)
theorem i_G_isDone_139 : m_at k_G_isDone 139 = some (.iload 4, 2, 0) := m_at_of r_G_isDone (by decide +kernel)
theorem i_G_isDone_141 : m_at k_G_isDone 141 = some (.invokevirtual 409, 3, 263) := m_at_of r_G_isDone (by decide +kernel)
theorem i_G_isDone_144 : m_at k_G_isDone 144 = some (.ireturn, 1, 0) := m_at_of r_G_isDone (by decide +kernel)
theorem i_G_isDone_145 : m_at k_G_isDone 145 = some (.aload_n 0, 1, 0) := m_at_of r_G_isDone (by decide +kernel)
theorem i_G_isDone_146 : m_at k_G_isDone 146 = some (.iload_n 3, 1, 0) := m_at_of r_G_isDone (by decide +kernel)
theorem i_G_isDone_147 : m_at k_G_isDone 147 = some (.invokevirtual 412, 3, 264) := m_at_of r_G_isDone (by decide +kernel)
theorem i_G_isDone_150 : m_at k_G_isDone 150 = some (.ireturn, 1, 0) := m_at_of r_G_isDone (by decide +kernel)
theorem i_G_isDone_151 : m_at k_G_isDone 151 = some (.aload_n 0, 1, 0) := m_at_of r_G_isDone (by decide +kernel)
theorem i_G_isDone_152 : m_at k_G_isDone 152 = some (.iload_n 3, 1, 0) := m_at_of r_G_isDone (by decide +kernel)
theorem i_G_isDone_153 : m_at k_G_isDone 153 = some (.invokevirtual 415, 3, 265) := m_at_of r_G_isDone (by decide +kernel)
theorem i_G_isDone_156 : m_at k_G_isDone 156 = some (.iconst (-1), 1, 0) := m_at_of r_G_isDone (by decide +kernel)
theorem i_G_isDone_157 : m_at k_G_isDone 157 = some (.if_icmp .eq (7), 3, 0) := m_at_of r_G_isDone (by decide +kernel)
theorem i_G_isDone_160 : m_at k_G_isDone 160 = some (.iconst 1, 1, 0) := m_at_of r_G_isDone (by decide +kernel)
theorem i_G_isDone_161 : m_at k_G_isDone 161 = some (.goto (4), 3, 0) := m_at_of r_G_isDone (by decide +kernel)
theorem i_G_isDone_164 : m_at k_G_isDone 164 = some (.iconst 0, 1, 0) := m_at_of r_G_isDone (by decide +kernel)
theorem i_G_isDone_165 : m_at k_G_isDone 165 = some (.ireturn, 1, 0) := m_at_of r_G_isDone (by decide +kernel)
theorem i_G_isDone_166 : m_at k_G_isDone 166 = some (.aload_n 0, 1, 0) := m_at_of r_G_isDone (by decide +kernel)
theorem i_G_isDone_167 : m_at k_G_isDone 167 = some (.iload_n 3, 1, 0) := m_at_of r_G_isDone (by decide +kernel)
theorem i_G_isDone_168 : m_at k_G_isDone 168 = some (.invokevirtual 418, 3, 266) := m_at_of r_G_isDone (by decide +kernel)
theorem i_G_isDone_171 : m_at k_G_isDone 171 = some (.iconst (-1), 1, 0) := m_at_of r_G_isDone (by decide +kernel)
theorem i_G_isDone_172 : m_at k_G_isDone 172 = some (.if_icmp .eq (7), 3, 0) := m_at_of r_G_isDone (by decide +kernel)
theorem i_G_isDone_175 : m_at k_G_isDone 175 = some (.iconst 1, 1, 0) := m_at_of r_G_isDone (by decide +kernel)
theorem i_G_isDone_176 : m_at k_G_isDone 176 = some (.goto (4), 3, 0) := m_at_of r_G_isDone (by decide +kernel)
theorem i_G_isDone_179 : m_at k_G_isDone 179 = some (.iconst 0, 1, 0) := m_at_of r_G_isDone (by decide +kernel)
theorem i_G_isDone_180 : m_at k_G_isDone 180 = some (.ireturn, 1, 0) := m_at_of r_G_isDone (by decide +kernel)
theorem i_G_isDone_181 : m_at k_G_isDone 181 = some (.aload_n 0, 1, 0) := m_at_of r_G_isDone (by decide +kernel)
theorem i_G_isDone_182 : m_at k_G_isDone 182 = some (.iload_n 3, 1, 0) := m_at_of r_G_isDone (by decide +kernel)
theorem i_G_isDone_183 : m_at k_G_isDone 183 = some (.invokevirtual 174, 3, 267) := m_at_of r_G_isDone (by decide +kernel)
theorem i_G_isDone_186 : m_at k_G_isDone 186 = some (.ireturn, 1, 0) := m_at_of r_G_isDone (by decide +kernel)
theorem i_G_isDone_187 : m_at k_G_isDone 187 = some (.iconst 1, 1, 0) := m_at_of r_G_isDone (by decide +kernel)
theorem i_G_isDone_188 : m_at k_G_isDone 188 = some (.ireturn, 1, 0) := m_at_of r_G_isDone (by decide +kernel)
set_option maxRecDepth 20000 in
set_option maxHeartbeats 1000000 in
theorem E_G_isDone (x : m_X) (s : m_H) (w : Nat) (r1 : Nat) (n2 : Int32) : m_M x k_G_isDone [.ref w, .ref r1, .int n2] s = if m_isO s w 10 = true then (m_bI (m_M x k_Script_numberAt [.ref r1, .int n2, .int 0] s) fun v3 s3 => m_bI (m_M x k_Script_numberAt [.ref r1, .int n2, .int 1] s3) fun v10 s10 => m_bI (m_M x k_Script_kindAt [.ref r1, .int n2] s10) fun v17 s17 => if v17 = 4 then (m_bI (m_M x k_G_one [.ref w, .int v3, .int v10] s17) fun v72 s72 => if v72 = (-1) then (some (some (.int 0), s72)) else some (some (.int 1), s72)) else if v17 = 5 then (m_bI (m_M x k_Script_numberAt [.ref r1, .int n2, .int 2] s17) fun v92 s92 => m_bI (m_M x k_Script_numberAt [.ref r1, .int n2, .int 3] s92) fun v98 s98 => m_bI (m_M x k_Script_numberAt [.ref r1, .int n2, .int 4] s98) fun v104 s104 => m_bI (m_M x k_G_bargain [.ref w, .int v3, .int v10, .int v92, .int v98, .int v104] s104) fun v107 s107 => if v107 = (-1) then (some (some (.int 0), s107)) else some (some (.int 1), s107)) else if v17 = 6 then (m_bI (m_M x k_G_work [.ref w, .int v3, .int v10] s17) fun v124 s124 => if v124 = (-1) then (some (some (.int 0), s124)) else some (some (.int 1), s124)) else if v17 = 7 then (m_bI (m_M x k_G_pass [.ref w, .int v3, .int v10] s17) fun v141 s141 => if m_rk (some .boolean) (some (.int v141)) = true then some (some (.int v141), s141) else none) else if v17 = 8 then (m_bI (m_M x k_G_lose [.ref w, .int v3] s17) fun v147 s147 => if m_rk (some .boolean) (some (.int v147)) = true then some (some (.int v147), s147) else none) else if v17 = 9 then (m_bI (m_M x k_G_pledge [.ref w, .int v3] s17) fun v153 s153 => if v153 = (-1) then (some (some (.int 0), s153)) else some (some (.int 1), s153)) else if v17 = 10 then (m_bI (m_M x k_G_redeem [.ref w, .int v3] s17) fun v168 s168 => if v168 = (-1) then (some (some (.int 0), s168)) else some (some (.int 1), s168)) else if v17 = 11 then (m_bI (m_M x k_G_letDaysPass [.ref w, .int v3] s17) fun v183 s183 => if m_rk (some .boolean) (some (.int v183)) = true then some (some (.int v183), s183) else none) else some (some (.int 1), s17)) else none := by
  refine e_M1 (L0 := [some (.ref w), some (.ref r1), some (.int n2), none, none]) rfl (by decide +kernel) rfl (q_G_isDone _) rfl ?_
  refine e_aload_n i_G_isDone_0 rfl ?_
  refine e_iload_n i_G_isDone_1 rfl ?_
  refine e_iconst (v := 0) i_G_isDone_2 (by decide) ?_
  refine e_callI (as := [.ref r1, .int n2, .int 0]) (st' := []) i_G_isDone_3 lm_258 (Or.inr (Or.inl ⟨rfl, rfl⟩)) w_Script_numberAt rfl rfl rfl (Nat.le_of_ble_eq_true rfl) (Nat.le_of_ble_eq_true rfl) (m_rlt (q_Script_numberAt _) (by decide)) rfl (fun v3 s3 => ?_)
  refine e_istore_n (L' := [some (.ref w), some (.ref r1), some (.int n2), some (.int v3), none]) i_G_isDone_6 (of_decide_eq_true rfl) rfl ?_
  refine e_aload_n i_G_isDone_7 rfl ?_
  refine e_iload_n i_G_isDone_8 rfl ?_
  refine e_iconst (v := 1) i_G_isDone_9 (by decide) ?_
  refine e_callI (as := [.ref r1, .int n2, .int 1]) (st' := []) i_G_isDone_10 lm_258 (Or.inr (Or.inl ⟨rfl, rfl⟩)) w_Script_numberAt rfl rfl rfl (Nat.le_of_ble_eq_true rfl) (Nat.le_of_ble_eq_true rfl) (m_rlt (q_Script_numberAt _) (by decide)) rfl (fun v10 s10 => ?_)
  refine e_istore (L' := [some (.ref w), some (.ref r1), some (.int n2), some (.int v3), some (.int v10)]) i_G_isDone_13 (of_decide_eq_true rfl) rfl ?_
  refine e_aload_n i_G_isDone_15 rfl ?_
  refine e_iload_n i_G_isDone_16 rfl ?_
  refine e_callI (as := [.ref r1, .int n2]) (st' := []) i_G_isDone_17 lm_259 (Or.inr (Or.inl ⟨rfl, rfl⟩)) w_Script_kindAt rfl rfl rfl (Nat.le_of_ble_eq_true rfl) (Nat.le_of_ble_eq_true rfl) (m_rlt (q_Script_kindAt _) (by decide)) rfl (fun v17 s17 => ?_)
  refine e_tsw (cs := [(4, 68), (5, 85), (6, 120), (7, 137), (8, 145), (9, 151), (10, 166), (11, 181)]) (td := 187) i_G_isDone_20 (by decide +kernel) ?_
  refine m_sw_c ?_ ?_
  · refine e_aload_n i_G_isDone_68 rfl ?_
    refine e_iload_n i_G_isDone_69 rfl ?_
    refine e_iload i_G_isDone_70 rfl ?_
    refine e_callI (as := [.ref w, .int v3, .int v10]) (st' := []) i_G_isDone_72 lm_260 (Or.inr (Or.inl ⟨rfl, rfl⟩)) w_G_one rfl rfl rfl (Nat.le_of_ble_eq_true rfl) (Nat.le_of_ble_eq_true rfl) (m_rlt (q_G_one _) (by decide)) rfl (fun v72 s72 => ?_)
    refine e_iconst (v := (-1)) i_G_isDone_75 (by decide) ?_
    refine e_icmpeq (t := 83) i_G_isDone_76 (by decide) ?_ ?_
    · refine e_iconst (v := 0) i_G_isDone_83 (by decide) ?_
      exact e_iretZ i_G_isDone_84 rfl (by decide)
    · refine e_iconst (v := 1) i_G_isDone_79 (by decide) ?_
      refine e_goto (t := 84) i_G_isDone_80 (by decide) ?_
      exact e_iretZ i_G_isDone_84 rfl (by decide)
  refine m_sw_c ?_ ?_
  · refine e_aload_n i_G_isDone_85 rfl ?_
    refine e_iload_n i_G_isDone_86 rfl ?_
    refine e_iload i_G_isDone_87 rfl ?_
    refine e_aload_n i_G_isDone_89 rfl ?_
    refine e_iload_n i_G_isDone_90 rfl ?_
    refine e_iconst (v := 2) i_G_isDone_91 (by decide) ?_
    refine e_callI (as := [.ref r1, .int n2, .int 2]) (st' := [.int v10, .int v3, .ref w]) i_G_isDone_92 lm_258 (Or.inr (Or.inl ⟨rfl, rfl⟩)) w_Script_numberAt rfl rfl rfl (Nat.le_of_ble_eq_true rfl) (Nat.le_of_ble_eq_true rfl) (m_rlt (q_Script_numberAt _) (by decide)) rfl (fun v92 s92 => ?_)
    refine e_aload_n i_G_isDone_95 rfl ?_
    refine e_iload_n i_G_isDone_96 rfl ?_
    refine e_iconst (v := 3) i_G_isDone_97 (by decide) ?_
    refine e_callI (as := [.ref r1, .int n2, .int 3]) (st' := [.int v92, .int v10, .int v3, .ref w]) i_G_isDone_98 lm_258 (Or.inr (Or.inl ⟨rfl, rfl⟩)) w_Script_numberAt rfl rfl rfl (Nat.le_of_ble_eq_true rfl) (Nat.le_of_ble_eq_true rfl) (m_rlt (q_Script_numberAt _) (by decide)) rfl (fun v98 s98 => ?_)
    refine e_aload_n i_G_isDone_101 rfl ?_
    refine e_iload_n i_G_isDone_102 rfl ?_
    refine e_iconst (v := 4) i_G_isDone_103 (by decide) ?_
    refine e_callI (as := [.ref r1, .int n2, .int 4]) (st' := [.int v98, .int v92, .int v10, .int v3, .ref w]) i_G_isDone_104 lm_258 (Or.inr (Or.inl ⟨rfl, rfl⟩)) w_Script_numberAt rfl rfl rfl (Nat.le_of_ble_eq_true rfl) (Nat.le_of_ble_eq_true rfl) (m_rlt (q_Script_numberAt _) (by decide)) rfl (fun v104 s104 => ?_)
    refine e_callI (as := [.ref w, .int v3, .int v10, .int v92, .int v98, .int v104]) (st' := []) i_G_isDone_107 lm_261 (Or.inr (Or.inl ⟨rfl, rfl⟩)) w_G_bargain rfl rfl rfl (Nat.le_of_ble_eq_true rfl) (Nat.le_of_ble_eq_true rfl) (m_rlt (q_G_bargain _) (by decide)) rfl (fun v107 s107 => ?_)
    refine e_iconst (v := (-1)) i_G_isDone_110 (by decide) ?_
    refine e_icmpeq (t := 118) i_G_isDone_111 (by decide) ?_ ?_
    · refine e_iconst (v := 0) i_G_isDone_118 (by decide) ?_
      exact e_iretZ i_G_isDone_119 rfl (by decide)
    · refine e_iconst (v := 1) i_G_isDone_114 (by decide) ?_
      refine e_goto (t := 119) i_G_isDone_115 (by decide) ?_
      exact e_iretZ i_G_isDone_119 rfl (by decide)
  refine m_sw_c ?_ ?_
  · refine e_aload_n i_G_isDone_120 rfl ?_
    refine e_iload_n i_G_isDone_121 rfl ?_
    refine e_iload i_G_isDone_122 rfl ?_
    refine e_callI (as := [.ref w, .int v3, .int v10]) (st' := []) i_G_isDone_124 lm_262 (Or.inr (Or.inl ⟨rfl, rfl⟩)) w_G_work rfl rfl rfl (Nat.le_of_ble_eq_true rfl) (Nat.le_of_ble_eq_true rfl) (m_rlt (q_G_work _) (by decide)) rfl (fun v124 s124 => ?_)
    refine e_iconst (v := (-1)) i_G_isDone_127 (by decide) ?_
    refine e_icmpeq (t := 135) i_G_isDone_128 (by decide) ?_ ?_
    · refine e_iconst (v := 0) i_G_isDone_135 (by decide) ?_
      exact e_iretZ i_G_isDone_136 rfl (by decide)
    · refine e_iconst (v := 1) i_G_isDone_131 (by decide) ?_
      refine e_goto (t := 136) i_G_isDone_132 (by decide) ?_
      exact e_iretZ i_G_isDone_136 rfl (by decide)
  refine m_sw_c ?_ ?_
  · refine e_aload_n i_G_isDone_137 rfl ?_
    refine e_iload_n i_G_isDone_138 rfl ?_
    refine e_iload i_G_isDone_139 rfl ?_
    refine e_callI (as := [.ref w, .int v3, .int v10]) (st' := []) i_G_isDone_141 lm_263 (Or.inr (Or.inl ⟨rfl, rfl⟩)) w_G_pass rfl rfl rfl (Nat.le_of_ble_eq_true rfl) (Nat.le_of_ble_eq_true rfl) (m_rlt (q_G_pass _) (by decide)) rfl (fun v141 s141 => ?_)
    exact e_iretG i_G_isDone_144 rfl
  refine m_sw_c ?_ ?_
  · refine e_aload_n i_G_isDone_145 rfl ?_
    refine e_iload_n i_G_isDone_146 rfl ?_
    refine e_callI (as := [.ref w, .int v3]) (st' := []) i_G_isDone_147 lm_264 (Or.inr (Or.inl ⟨rfl, rfl⟩)) w_G_lose rfl rfl rfl (Nat.le_of_ble_eq_true rfl) (Nat.le_of_ble_eq_true rfl) (m_rlt (q_G_lose _) (by decide)) rfl (fun v147 s147 => ?_)
    exact e_iretG i_G_isDone_150 rfl
  refine m_sw_c ?_ ?_
  · refine e_aload_n i_G_isDone_151 rfl ?_
    refine e_iload_n i_G_isDone_152 rfl ?_
    refine e_callI (as := [.ref w, .int v3]) (st' := []) i_G_isDone_153 lm_265 (Or.inr (Or.inl ⟨rfl, rfl⟩)) w_G_pledge rfl rfl rfl (Nat.le_of_ble_eq_true rfl) (Nat.le_of_ble_eq_true rfl) (m_rlt (q_G_pledge _) (by decide)) rfl (fun v153 s153 => ?_)
    refine e_iconst (v := (-1)) i_G_isDone_156 (by decide) ?_
    refine e_icmpeq (t := 164) i_G_isDone_157 (by decide) ?_ ?_
    · refine e_iconst (v := 0) i_G_isDone_164 (by decide) ?_
      exact e_iretZ i_G_isDone_165 rfl (by decide)
    · refine e_iconst (v := 1) i_G_isDone_160 (by decide) ?_
      refine e_goto (t := 165) i_G_isDone_161 (by decide) ?_
      exact e_iretZ i_G_isDone_165 rfl (by decide)
  refine m_sw_c ?_ ?_
  · refine e_aload_n i_G_isDone_166 rfl ?_
    refine e_iload_n i_G_isDone_167 rfl ?_
    refine e_callI (as := [.ref w, .int v3]) (st' := []) i_G_isDone_168 lm_266 (Or.inr (Or.inl ⟨rfl, rfl⟩)) w_G_redeem rfl rfl rfl (Nat.le_of_ble_eq_true rfl) (Nat.le_of_ble_eq_true rfl) (m_rlt (q_G_redeem _) (by decide)) rfl (fun v168 s168 => ?_)
    refine e_iconst (v := (-1)) i_G_isDone_171 (by decide) ?_
    refine e_icmpeq (t := 179) i_G_isDone_172 (by decide) ?_ ?_
    · refine e_iconst (v := 0) i_G_isDone_179 (by decide) ?_
      exact e_iretZ i_G_isDone_180 rfl (by decide)
    · refine e_iconst (v := 1) i_G_isDone_175 (by decide) ?_
      refine e_goto (t := 180) i_G_isDone_176 (by decide) ?_
      exact e_iretZ i_G_isDone_180 rfl (by decide)
  refine m_sw_c ?_ ?_
  · refine e_aload_n i_G_isDone_181 rfl ?_
    refine e_iload_n i_G_isDone_182 rfl ?_
    refine e_callI (as := [.ref w, .int v3]) (st' := []) i_G_isDone_183 lm_267 (Or.inr (Or.inl ⟨rfl, rfl⟩)) w_G_letDaysPass rfl rfl rfl (Nat.le_of_ble_eq_true rfl) (Nat.le_of_ble_eq_true rfl) (m_rlt (q_G_letDaysPass _) (by decide)) rfl (fun v183 s183 => ?_)
    exact e_iretG i_G_isDone_186 rfl
  refine m_sw_n ?_
  refine e_iconst (v := 1) i_G_isDone_187 (by decide) ?_
  exact e_iretZ i_G_isDone_188 rfl (by decide)
theorem i_G_day_0 : m_at k_G_day 0 = some (.iload_n 1, 1, 0) := m_at_of r_G_day (by decide +kernel)
theorem i_G_day_1 : m_at k_G_day 1 = some (.iconst 1, 1, 0) := m_at_of r_G_day (by decide +kernel)
theorem i_G_day_2 : m_at k_G_day 2 = some (.bipush 60, 2, 0) := m_at_of r_G_day (by decide +kernel)
theorem i_G_day_4 : m_at k_G_day 4 = some (.invokestatic 100, 3, 124) := m_at_of r_G_day (by decide +kernel)
theorem i_G_day_7 : m_at k_G_day 7 = some (.ifCond .eq (21), 3, 0) := m_at_of r_G_day (by decide +kernel)
theorem i_G_day_10 : m_at k_G_day 10 = some (.aload_n 0, 1, 0) := m_at_of r_G_day (by decide +kernel)
theorem i_G_day_11 : m_at k_G_day 11 = some (.getfield 10, 3, 2) := m_at_of r_G_day (by decide +kernel)
theorem i_G_day_14 : m_at k_G_day 14 = some (.getfield 170, 3, 3) := m_at_of r_G_day (by decide +kernel)
theorem i_G_day_17 : m_at k_G_day 17 = some (.bipush 22, 2, 0) := m_at_of r_G_day (by decide +kernel)
theorem i_G_day_19 : m_at k_G_day 19 = some (.iaload, 1, 0) := m_at_of r_G_day (by decide +kernel)
theorem i_G_day_20 : m_at k_G_day 20 = some (.iload_n 1, 1, 0) := m_at_of r_G_day (by decide +kernel)
theorem i_G_day_21 : m_at k_G_day 21 = some (.iadd, 1, 0) := m_at_of r_G_day (by decide +kernel)
theorem i_G_day_22 : m_at k_G_day 22 = some (.sipush 9999, 3, 0) := m_at_of r_G_day (by decide +kernel)
theorem i_G_day_25 : m_at k_G_day 25 = some (.if_icmp .le (5), 3, 0) := m_at_of r_G_day (by decide +kernel)
theorem i_G_day_28 : m_at k_G_day 28 = some (.iconst (-1), 1, 0) := m_at_of r_G_day (by decide +kernel)
theorem i_G_day_29 : m_at k_G_day 29 = some (.ireturn, 1, 0) := m_at_of r_G_day (by decide +kernel)
theorem i_G_day_30 : m_at k_G_day 30 = some (.aload_n 0, 1, 0) := m_at_of r_G_day (by decide +kernel)
theorem i_G_day_31 : m_at k_G_day 31 = some (.iload_n 1, 1, 0) := m_at_of r_G_day (by decide +kernel)
theorem i_G_day_32 : m_at k_G_day 32 = some (.invokevirtual 174, 3, 267) := m_at_of r_G_day (by decide +kernel)
theorem i_G_day_35 : m_at k_G_day 35 = some (.pop, 1, 0) := m_at_of r_G_day (by decide +kernel)
theorem i_G_day_36 : m_at k_G_day 36 = some (.aload_n 0, 1, 0) := m_at_of r_G_day (by decide +kernel)
theorem i_G_day_37 : m_at k_G_day 37 = some (.getfield 10, 3, 2) := m_at_of r_G_day (by decide +kernel)
theorem i_G_day_40 : m_at k_G_day 40 = some (.getfield 170, 3, 3) := m_at_of r_G_day (by decide +kernel)
theorem i_G_day_43 : m_at k_G_day 43 = some (.bipush 23, 2, 0) := m_at_of r_G_day (by decide +kernel)
theorem i_G_day_45 : m_at k_G_day 45 = some (.iaload, 1, 0) := m_at_of r_G_day (by decide +kernel)
theorem i_G_day_46 : m_at k_G_day 46 = some (.ireturn, 1, 0) := m_at_of r_G_day (by decide +kernel)
set_option maxRecDepth 20000 in
set_option maxHeartbeats 1000000 in
theorem E_G_day (x : m_X) (s : m_H) (w : Nat) (n1 : Int32) : m_M x k_G_day [.ref w, .int n1] s = if m_isO s w 10 = true then (m_bI (m_M x k_G_isIn [.int n1, .int 1, .int 60] s) fun v4 s4 => if v4 = 0 then (some (some (.int (-1)), s4)) else (m_fR s4 10 0 w).bind fun v11 => (m_fR s4 9 0 v11).bind fun v14 => (m_ia x s4 v14 22).bind fun v19 => if (v19 + n1) ≤ 9999 then (m_bI (m_M x k_G_letDaysPass [.ref w, .int n1] s4) fun v32 s32 => (m_fR s32 10 0 w).bind fun v37 => (m_fR s32 9 0 v37).bind fun v40 => (m_ia x s32 v40 23).bind fun v45 => some (some (.int v45), s32)) else some (some (.int (-1)), s4)) else none := by
  refine e_M1 (L0 := [some (.ref w), some (.int n1)]) rfl (by decide +kernel) rfl (q_G_day _) rfl ?_
  refine e_iload_n i_G_day_0 rfl ?_
  refine e_iconst (v := 1) i_G_day_1 (by decide) ?_
  refine e_bipush (v := 60) i_G_day_2 (by decide) ?_
  refine e_callI (as := [.int n1, .int 1, .int 60]) (st' := []) i_G_day_4 lm_124 (Or.inl ⟨rfl, rfl⟩) w_G_isIn rfl rfl rfl (Nat.le_of_ble_eq_true rfl) (Nat.le_of_ble_eq_true rfl) (m_rlt (q_G_isIn _) (by decide)) rfl (fun v4 s4 => ?_)
  refine e_ifeq (t := 28) i_G_day_7 (by decide) ?_ ?_
  · refine e_iconst (v := (-1)) i_G_day_28 (by decide) ?_
    exact e_iretI i_G_day_29 rfl
  · refine e_aload_n i_G_day_10 rfl ?_
    refine e_getR i_G_day_11 lf_2 (by decide) ft_10_0 (fun v11 => ?_)
    refine e_getR i_G_day_14 lf_3 (by decide) ft_9_0 (fun v14 => ?_)
    refine e_bipush (v := 22) i_G_day_17 (by decide) ?_
    refine e_iald i_G_day_19 (fun v19 => ?_)
    refine e_iload_n i_G_day_20 rfl ?_
    refine e_iadd i_G_day_21 ?_
    refine e_sipush (v := 9999) i_G_day_22 (by decide) ?_
    refine e_icmple (t := 30) i_G_day_25 (by decide) ?_ ?_
    · refine e_aload_n i_G_day_30 rfl ?_
      refine e_iload_n i_G_day_31 rfl ?_
      refine e_callI (as := [.ref w, .int n1]) (st' := []) i_G_day_32 lm_267 (Or.inr (Or.inl ⟨rfl, rfl⟩)) w_G_letDaysPass rfl rfl rfl (Nat.le_of_ble_eq_true rfl) (Nat.le_of_ble_eq_true rfl) (m_rlt (q_G_letDaysPass _) (by decide)) rfl (fun v32 s32 => ?_)
      refine e_pop i_G_day_35 rfl ?_
      refine e_aload_n i_G_day_36 rfl ?_
      refine e_getR i_G_day_37 lf_2 (by decide) ft_10_0 (fun v37 => ?_)
      refine e_getR i_G_day_40 lf_3 (by decide) ft_9_0 (fun v40 => ?_)
      refine e_bipush (v := 23) i_G_day_43 (by decide) ?_
      refine e_iald i_G_day_45 (fun v45 => ?_)
      exact e_iretI i_G_day_46 rfl
    · refine e_iconst (v := (-1)) i_G_day_28 (by decide) ?_
      exact e_iretI i_G_day_29 rfl
theorem i_G_letDaysPass_0 : m_at k_G_letDaysPass 0 = some (.iconst 0, 1, 0) := m_at_of r_G_letDaysPass (by decide +kernel)
theorem i_G_letDaysPass_1 : m_at k_G_letDaysPass 1 = some (.istore_n 2, 1, 0) := m_at_of r_G_letDaysPass (by decide +kernel)
theorem i_G_letDaysPass_2 : m_at k_G_letDaysPass 2 = some (.iload_n 2, 1, 0) := m_at_of r_G_letDaysPass (by decide +kernel)
theorem i_G_letDaysPass_3 : m_at k_G_letDaysPass 3 = some (.iload_n 1, 1, 0) := m_at_of r_G_letDaysPass (by decide +kernel)
theorem i_G_letDaysPass_4 : m_at k_G_letDaysPass 4 = some (.if_icmp .ge (55), 3, 0) := m_at_of r_G_letDaysPass (by decide +kernel)
theorem i_G_letDaysPass_7 : m_at k_G_letDaysPass 7 = some (.aload_n 0, 1, 0) := m_at_of r_G_letDaysPass (by decide +kernel)
theorem i_G_letDaysPass_8 : m_at k_G_letDaysPass 8 = some (.getfield 10, 3, 2) := m_at_of r_G_letDaysPass (by decide +kernel)
theorem i_G_letDaysPass_11 : m_at k_G_letDaysPass 11 = some (.invokevirtual 251, 3, 210) := m_at_of r_G_letDaysPass (by decide +kernel)
theorem i_G_letDaysPass_14 : m_at k_G_letDaysPass 14 = some (.ifCond .ne (5), 3, 0) := m_at_of r_G_letDaysPass (by decide +kernel)
theorem i_G_letDaysPass_17 : m_at k_G_letDaysPass 17 = some (.iconst 0, 1, 0) := m_at_of r_G_letDaysPass (by decide +kernel)
theorem i_G_letDaysPass_18 : m_at k_G_letDaysPass 18 = some (.ireturn, 1, 0) := m_at_of r_G_letDaysPass (by decide +kernel)
theorem i_G_letDaysPass_19 : m_at k_G_letDaysPass 19 = some (.aload_n 0, 1, 0) := m_at_of r_G_letDaysPass (by decide +kernel)
theorem i_G_letDaysPass_20 : m_at k_G_letDaysPass 20 = some (.getfield 19, 3, 7) := m_at_of r_G_letDaysPass (by decide +kernel)
theorem i_G_letDaysPass_23 : m_at k_G_letDaysPass 23 = some (.aload_n 0, 1, 0) := m_at_of r_G_letDaysPass (by decide +kernel)
theorem i_G_letDaysPass_24 : m_at k_G_letDaysPass 24 = some (.getfield 10, 3, 2) := m_at_of r_G_letDaysPass (by decide +kernel)
theorem i_G_letDaysPass_27 : m_at k_G_letDaysPass 27 = some (.invokevirtual 131, 3, 237) := m_at_of r_G_letDaysPass (by decide +kernel)
theorem i_G_letDaysPass_30 : m_at k_G_letDaysPass 30 = some (.aload_n 0, 1, 0) := m_at_of r_G_letDaysPass (by decide +kernel)
theorem i_G_letDaysPass_31 : m_at k_G_letDaysPass 31 = some (.getfield 59, 3, 34) := m_at_of r_G_letDaysPass (by decide +kernel)
theorem i_G_letDaysPass_34 : m_at k_G_letDaysPass 34 = some (.aload_n 0, 1, 0) := m_at_of r_G_letDaysPass (by decide +kernel)
theorem i_G_letDaysPass_35 : m_at k_G_letDaysPass 35 = some (.getfield 10, 3, 2) := m_at_of r_G_letDaysPass (by decide +kernel)
theorem i_G_letDaysPass_38 : m_at k_G_letDaysPass 38 = some (.aload_n 0, 1, 0) := m_at_of r_G_letDaysPass (by decide +kernel)
theorem i_G_letDaysPass_39 : m_at k_G_letDaysPass 39 = some (.invokevirtual 160, 3, 211) := m_at_of r_G_letDaysPass (by decide +kernel)
theorem i_G_letDaysPass_42 : m_at k_G_letDaysPass 42 = some (.invokevirtual 247, 3, 212) := m_at_of r_G_letDaysPass (by decide +kernel)
theorem i_G_letDaysPass_45 : m_at k_G_letDaysPass 45 = some (.pop, 1, 0) := m_at_of r_G_letDaysPass (by decide +kernel)
theorem i_G_letDaysPass_46 : m_at k_G_letDaysPass 46 = some (.aload_n 0, 1, 0) := m_at_of r_G_letDaysPass (by decide +kernel)
theorem i_G_letDaysPass_47 : m_at k_G_letDaysPass 47 = some (.getfield 19, 3, 7) := m_at_of r_G_letDaysPass (by decide +kernel)
theorem i_G_letDaysPass_50 : m_at k_G_letDaysPass 50 = some (.invokevirtual 198, 3, 241) := m_at_of r_G_letDaysPass (by decide +kernel)
theorem i_G_letDaysPass_53 : m_at k_G_letDaysPass 53 = some (.iinc 2 (1), 3, 0) := m_at_of r_G_letDaysPass (by decide +kernel)
theorem i_G_letDaysPass_56 : m_at k_G_letDaysPass 56 = some (.goto (-54), 3, 0) := m_at_of r_G_letDaysPass (by decide +kernel)
theorem i_G_letDaysPass_59 : m_at k_G_letDaysPass 59 = some (.iconst 1, 1, 0) := m_at_of r_G_letDaysPass (by decide +kernel)
theorem i_G_letDaysPass_60 : m_at k_G_letDaysPass 60 = some (.ireturn, 1, 0) := m_at_of r_G_letDaysPass (by decide +kernel)
set_option maxRecDepth 20000 in
set_option maxHeartbeats 1000000 in
theorem E_G_letDaysPass (x : m_X) (s : m_H) (w : Nat) (n1 : Int32) : m_M x k_G_letDaysPass [.ref w, .int n1] s = if m_isO s w 10 = true then (m_D x 7 k_G_letDaysPass 2 [some (.ref w), some (.int n1), some (.int 0)] [] s) else none := by
  refine e_M1 (L0 := [some (.ref w), some (.int n1), none]) rfl (by decide +kernel) rfl (q_G_letDaysPass _) rfl ?_
  refine e_iconst (v := 0) i_G_letDaysPass_0 (by decide) ?_
  refine e_istore_n (L' := [some (.ref w), some (.int n1), some (.int 0)]) i_G_letDaysPass_1 (of_decide_eq_true rfl) rfl ?_
  exact rfl
set_option maxRecDepth 20000 in
set_option maxHeartbeats 1000000 in
theorem E_G_letDaysPass_2 (x : m_X) (ρ : Nat) (hρ : 7 ≤ ρ) (s : m_H) (w : Nat) (n1 : Int32) (n2 : Int32)  : m_D x ρ k_G_letDaysPass 2 [some (.ref w), some (.int n1), some (.int n2)] [] s = if n1 ≤ n2 then (some (some (.int 1), s)) else (m_fR s 10 0 w).bind fun v8 => m_bI (m_M x k_World_dayCanPass [.ref v8] s) fun v11 s11 => if v11 = 0 then (some (some (.int 0), s11)) else (m_fR s11 10 1 w).bind fun v20 => (m_fR s11 10 0 w).bind fun v24 => m_bV (m_M x k_Steps_mark [.ref v20, .ref v24] s11) fun s27 => (m_fR s27 10 9 w).bind fun v31 => (m_fR s27 10 0 w).bind fun v35 => m_bN (m_M x k_G_ruling [.ref w] s27) (fun v39 s39 => m_bI (m_M x k_Law_passDay [.ref v31, .ref v35, .ref v39] s39) fun v42 s42 => (m_fR s42 10 1 w).bind fun v47 => m_bV (m_M x k_Steps_keep [.ref v47] s42) fun s50 => m_D x ρ k_G_letDaysPass 2 [some (.ref w), some (.int n1), some (.int (n2 + (1 : Int32)))] [] s50) fun s39 => m_bI (m_M x k_Law_passDay [.ref v31, .ref v35, .null] s39) fun v42 s42 => (m_fR s42 10 1 w).bind fun v47 => m_bV (m_M x k_Steps_keep [.ref v47] s42) fun s50 => m_D x ρ k_G_letDaysPass 2 [some (.ref w), some (.int n1), some (.int (n2 + (1 : Int32)))] [] s50 := by
  refine e_iload_n i_G_letDaysPass_2 rfl ?_
  refine e_iload_n i_G_letDaysPass_3 rfl ?_
  refine e_icmpge (t := 59) i_G_letDaysPass_4 (by decide) ?_ ?_
  · refine e_iconst (v := 1) i_G_letDaysPass_59 (by decide) ?_
    exact e_iretZ i_G_letDaysPass_60 rfl (by decide)
  · refine e_aload_n i_G_letDaysPass_7 rfl ?_
    refine e_getR i_G_letDaysPass_8 lf_2 (by decide) ft_10_0 (fun v8 => ?_)
    refine e_callI (as := [.ref v8]) (st' := []) i_G_letDaysPass_11 lm_210 (Or.inr (Or.inl ⟨rfl, rfl⟩)) w_World_dayCanPass rfl rfl rfl (Nat.le_of_ble_eq_true rfl) (Nat.le_of_ble_eq_true rfl) (m_rlt (q_World_dayCanPass _) (Nat.lt_of_lt_of_le (by decide) hρ)) rfl (fun v11 s11 => ?_)
    refine e_ifne (t := 19) i_G_letDaysPass_14 (by decide) ?_ ?_
    · refine e_aload_n i_G_letDaysPass_19 rfl ?_
      refine e_getR i_G_letDaysPass_20 lf_7 (by decide) ft_10_1 (fun v20 => ?_)
      refine e_aload_n i_G_letDaysPass_23 rfl ?_
      refine e_getR i_G_letDaysPass_24 lf_2 (by decide) ft_10_0 (fun v24 => ?_)
      refine e_callV (as := [.ref v20, .ref v24]) (st' := []) i_G_letDaysPass_27 lm_237 (Or.inr (Or.inl ⟨rfl, rfl⟩)) w_Steps_mark rfl rfl rfl (Nat.le_of_ble_eq_true rfl) (Nat.le_of_ble_eq_true rfl) (m_rlt (q_Steps_mark _) (Nat.lt_of_lt_of_le (by decide) hρ)) rfl (fun s27 => ?_)
      refine e_aload_n i_G_letDaysPass_30 rfl ?_
      refine e_getR i_G_letDaysPass_31 lf_34 (by decide) ft_10_9 (fun v31 => ?_)
      refine e_aload_n i_G_letDaysPass_34 rfl ?_
      refine e_getR i_G_letDaysPass_35 lf_2 (by decide) ft_10_0 (fun v35 => ?_)
      refine e_aload_n i_G_letDaysPass_38 rfl ?_
      refine e_callN (as := [.ref w]) (st' := [.ref v35, .ref v31]) i_G_letDaysPass_39 lm_211 (Or.inr (Or.inl ⟨rfl, rfl⟩)) w_G_ruling rfl rfl rfl (Nat.le_of_ble_eq_true rfl) (Nat.le_of_ble_eq_true rfl) (m_rlt (q_G_ruling _) (Nat.lt_of_lt_of_le (by decide) hρ)) rfl (fun v39 s39 => ?_) (fun s39 => ?_)
      · refine e_callI (as := [.ref v31, .ref v35, .ref v39]) (st' := []) i_G_letDaysPass_42 lm_212 (Or.inr (Or.inl ⟨rfl, rfl⟩)) w_Law_passDay rfl rfl rfl (Nat.le_of_ble_eq_true rfl) (Nat.le_of_ble_eq_true rfl) (m_rlt (q_Law_passDay _) (Nat.lt_of_lt_of_le (by decide) hρ)) rfl (fun v42 s42 => ?_)
        refine e_pop i_G_letDaysPass_45 rfl ?_
        refine e_aload_n i_G_letDaysPass_46 rfl ?_
        refine e_getR i_G_letDaysPass_47 lf_7 (by decide) ft_10_1 (fun v47 => ?_)
        refine e_callV (as := [.ref v47]) (st' := []) i_G_letDaysPass_50 lm_241 (Or.inr (Or.inl ⟨rfl, rfl⟩)) w_Steps_keep rfl rfl rfl (Nat.le_of_ble_eq_true rfl) (Nat.le_of_ble_eq_true rfl) (m_rlt (q_Steps_keep _) (Nat.lt_of_lt_of_le (by decide) hρ)) rfl (fun s50 => ?_)
        refine e_iinc (w := 1) (L' := [some (.ref w), some (.int n1), some (.int (n2 + (1 : Int32)))]) i_G_letDaysPass_53 rfl (of_decide_eq_true rfl) (by decide) rfl ?_
        refine e_goto (t := 2) i_G_letDaysPass_56 (by decide) ?_
        exact rfl
      · refine e_callI (as := [.ref v31, .ref v35, .null]) (st' := []) i_G_letDaysPass_42 lm_212 (Or.inr (Or.inl ⟨rfl, rfl⟩)) w_Law_passDay rfl rfl rfl (Nat.le_of_ble_eq_true rfl) (Nat.le_of_ble_eq_true rfl) (m_rlt (q_Law_passDay _) (Nat.lt_of_lt_of_le (by decide) hρ)) rfl (fun v42 s42 => ?_)
        refine e_pop i_G_letDaysPass_45 rfl ?_
        refine e_aload_n i_G_letDaysPass_46 rfl ?_
        refine e_getR i_G_letDaysPass_47 lf_7 (by decide) ft_10_1 (fun v47 => ?_)
        refine e_callV (as := [.ref v47]) (st' := []) i_G_letDaysPass_50 lm_241 (Or.inr (Or.inl ⟨rfl, rfl⟩)) w_Steps_keep rfl rfl rfl (Nat.le_of_ble_eq_true rfl) (Nat.le_of_ble_eq_true rfl) (m_rlt (q_Steps_keep _) (Nat.lt_of_lt_of_le (by decide) hρ)) rfl (fun s50 => ?_)
        refine e_iinc (w := 1) (L' := [some (.ref w), some (.int n1), some (.int (n2 + (1 : Int32)))]) i_G_letDaysPass_53 rfl (of_decide_eq_true rfl) (by decide) rfl ?_
        refine e_goto (t := 2) i_G_letDaysPass_56 (by decide) ?_
        exact rfl
    · refine e_iconst (v := 0) i_G_letDaysPass_17 (by decide) ?_
      exact e_iretZ i_G_letDaysPass_18 rfl (by decide)
theorem i_G_redeem_0 : m_at k_G_redeem 0 = some (.aload_n 0, 1, 0) := m_at_of r_G_redeem (by decide +kernel)
theorem i_G_redeem_1 : m_at k_G_redeem 1 = some (.getfield 19, 3, 7) := m_at_of r_G_redeem (by decide +kernel)
theorem i_G_redeem_4 : m_at k_G_redeem 4 = some (.aload_n 0, 1, 0) := m_at_of r_G_redeem (by decide +kernel)
theorem i_G_redeem_5 : m_at k_G_redeem 5 = some (.getfield 10, 3, 2) := m_at_of r_G_redeem (by decide +kernel)
theorem i_G_redeem_8 : m_at k_G_redeem 8 = some (.invokevirtual 131, 3, 237) := m_at_of r_G_redeem (by decide +kernel)
theorem i_G_redeem_11 : m_at k_G_redeem 11 = some (.aload_n 0, 1, 0) := m_at_of r_G_redeem (by decide +kernel)
theorem i_G_redeem_12 : m_at k_G_redeem 12 = some (.aload_n 0, 1, 0) := m_at_of r_G_redeem (by decide +kernel)
theorem i_G_redeem_13 : m_at k_G_redeem 13 = some (.getfield 59, 3, 34) := m_at_of r_G_redeem (by decide +kernel)
theorem i_G_redeem_16 : m_at k_G_redeem 16 = some (.aload_n 0, 1, 0) := m_at_of r_G_redeem (by decide +kernel)
theorem i_G_redeem_17 : m_at k_G_redeem 17 = some (.getfield 10, 3, 2) := m_at_of r_G_redeem (by decide +kernel)
theorem i_G_redeem_20 : m_at k_G_redeem 20 = some (.aload_n 0, 1, 0) := m_at_of r_G_redeem (by decide +kernel)
theorem i_G_redeem_21 : m_at k_G_redeem 21 = some (.invokevirtual 160, 3, 211) := m_at_of r_G_redeem (by decide +kernel)
theorem i_G_redeem_24 : m_at k_G_redeem 24 = some (.iload_n 1, 1, 0) := m_at_of r_G_redeem (by decide +kernel)
theorem i_G_redeem_25 : m_at k_G_redeem 25 = some (.invokevirtual 167, 3, 288) := m_at_of r_G_redeem (by decide +kernel)
theorem i_G_redeem_28 : m_at k_G_redeem 28 = some (.invokevirtual 139, 3, 289) := m_at_of r_G_redeem (by decide +kernel)
theorem i_G_redeem_31 : m_at k_G_redeem 31 = some (.ireturn, 1, 0) := m_at_of r_G_redeem (by decide +kernel)
set_option maxRecDepth 20000 in
set_option maxHeartbeats 1000000 in
theorem E_G_redeem (x : m_X) (s : m_H) (w : Nat) (n1 : Int32) : m_M x k_G_redeem [.ref w, .int n1] s = if m_isO s w 10 = true then ((m_fR s 10 1 w).bind fun v1 => (m_fR s 10 0 w).bind fun v5 => m_bV (m_M x k_Steps_mark [.ref v1, .ref v5] s) fun s8 => (m_fR s8 10 9 w).bind fun v13 => (m_fR s8 10 0 w).bind fun v17 => m_bN (m_M x k_G_ruling [.ref w] s8) (fun v21 s21 => m_bI (m_M x k_Law_buyBack [.ref v13, .ref v17, .ref v21, .int n1] s21) fun v25 s25 => m_bI (m_M x k_G_kept [.ref w, .int v25] s25) fun v28 s28 => some (some (.int v28), s28)) fun s21 => m_bI (m_M x k_Law_buyBack [.ref v13, .ref v17, .null, .int n1] s21) fun v25 s25 => m_bI (m_M x k_G_kept [.ref w, .int v25] s25) fun v28 s28 => some (some (.int v28), s28)) else none := by
  refine e_M1 (L0 := [some (.ref w), some (.int n1)]) rfl (by decide +kernel) rfl (q_G_redeem _) rfl ?_
  refine e_aload_n i_G_redeem_0 rfl ?_
  refine e_getR i_G_redeem_1 lf_7 (by decide) ft_10_1 (fun v1 => ?_)
  refine e_aload_n i_G_redeem_4 rfl ?_
  refine e_getR i_G_redeem_5 lf_2 (by decide) ft_10_0 (fun v5 => ?_)
  refine e_callV (as := [.ref v1, .ref v5]) (st' := []) i_G_redeem_8 lm_237 (Or.inr (Or.inl ⟨rfl, rfl⟩)) w_Steps_mark rfl rfl rfl (Nat.le_of_ble_eq_true rfl) (Nat.le_of_ble_eq_true rfl) (m_rlt (q_Steps_mark _) (by decide)) rfl (fun s8 => ?_)
  refine e_aload_n i_G_redeem_11 rfl ?_
  refine e_aload_n i_G_redeem_12 rfl ?_
  refine e_getR i_G_redeem_13 lf_34 (by decide) ft_10_9 (fun v13 => ?_)
  refine e_aload_n i_G_redeem_16 rfl ?_
  refine e_getR i_G_redeem_17 lf_2 (by decide) ft_10_0 (fun v17 => ?_)
  refine e_aload_n i_G_redeem_20 rfl ?_
  refine e_callN (as := [.ref w]) (st' := [.ref v17, .ref v13, .ref w]) i_G_redeem_21 lm_211 (Or.inr (Or.inl ⟨rfl, rfl⟩)) w_G_ruling rfl rfl rfl (Nat.le_of_ble_eq_true rfl) (Nat.le_of_ble_eq_true rfl) (m_rlt (q_G_ruling _) (by decide)) rfl (fun v21 s21 => ?_) (fun s21 => ?_)
  · refine e_iload_n i_G_redeem_24 rfl ?_
    refine e_callI (as := [.ref v13, .ref v17, .ref v21, .int n1]) (st' := [.ref w]) i_G_redeem_25 lm_288 (Or.inr (Or.inl ⟨rfl, rfl⟩)) w_Law_buyBack rfl rfl rfl (Nat.le_of_ble_eq_true rfl) (Nat.le_of_ble_eq_true rfl) (m_rlt (q_Law_buyBack _) (by decide)) rfl (fun v25 s25 => ?_)
    refine e_callI (as := [.ref w, .int v25]) (st' := []) i_G_redeem_28 lm_289 (Or.inr (Or.inl ⟨rfl, rfl⟩)) w_G_kept rfl rfl rfl (Nat.le_of_ble_eq_true rfl) (Nat.le_of_ble_eq_true rfl) (m_rlt (q_G_kept _) (by decide)) rfl (fun v28 s28 => ?_)
    exact e_iretI i_G_redeem_31 rfl
  · refine e_iload_n i_G_redeem_24 rfl ?_
    refine e_callI (as := [.ref v13, .ref v17, .null, .int n1]) (st' := [.ref w]) i_G_redeem_25 lm_288 (Or.inr (Or.inl ⟨rfl, rfl⟩)) w_Law_buyBack rfl rfl rfl (Nat.le_of_ble_eq_true rfl) (Nat.le_of_ble_eq_true rfl) (m_rlt (q_Law_buyBack _) (by decide)) rfl (fun v25 s25 => ?_)
    refine e_callI (as := [.ref w, .int v25]) (st' := []) i_G_redeem_28 lm_289 (Or.inr (Or.inl ⟨rfl, rfl⟩)) w_G_kept rfl rfl rfl (Nat.le_of_ble_eq_true rfl) (Nat.le_of_ble_eq_true rfl) (m_rlt (q_G_kept _) (by decide)) rfl (fun v28 s28 => ?_)
    exact e_iretI i_G_redeem_31 rfl
theorem i_G_pledge_0 : m_at k_G_pledge 0 = some (.aload_n 0, 1, 0) := m_at_of r_G_pledge (by decide +kernel)
theorem i_G_pledge_1 : m_at k_G_pledge 1 = some (.getfield 19, 3, 7) := m_at_of r_G_pledge (by decide +kernel)
theorem i_G_pledge_4 : m_at k_G_pledge 4 = some (.aload_n 0, 1, 0) := m_at_of r_G_pledge (by decide +kernel)
theorem i_G_pledge_5 : m_at k_G_pledge 5 = some (.getfield 10, 3, 2) := m_at_of r_G_pledge (by decide +kernel)
theorem i_G_pledge_8 : m_at k_G_pledge 8 = some (.invokevirtual 131, 3, 237) := m_at_of r_G_pledge (by decide +kernel)
theorem i_G_pledge_11 : m_at k_G_pledge 11 = some (.aload_n 0, 1, 0) := m_at_of r_G_pledge (by decide +kernel)
theorem i_G_pledge_12 : m_at k_G_pledge 12 = some (.aload_n 0, 1, 0) := m_at_of r_G_pledge (by decide +kernel)
theorem i_G_pledge_13 : m_at k_G_pledge 13 = some (.getfield 59, 3, 34) := m_at_of r_G_pledge (by decide +kernel)
theorem i_G_pledge_16 : m_at k_G_pledge 16 = some (.aload_n 0, 1, 0) := m_at_of r_G_pledge (by decide +kernel)
theorem i_G_pledge_17 : m_at k_G_pledge 17 = some (.getfield 10, 3, 2) := m_at_of r_G_pledge (by decide +kernel)
theorem i_G_pledge_20 : m_at k_G_pledge 20 = some (.aload_n 0, 1, 0) := m_at_of r_G_pledge (by decide +kernel)
theorem i_G_pledge_21 : m_at k_G_pledge 21 = some (.invokevirtual 160, 3, 211) := m_at_of r_G_pledge (by decide +kernel)
theorem i_G_pledge_24 : m_at k_G_pledge 24 = some (.iload_n 1, 1, 0) := m_at_of r_G_pledge (by decide +kernel)
theorem i_G_pledge_25 : m_at k_G_pledge 25 = some (.invokevirtual 163, 3, 247) := m_at_of r_G_pledge (by decide +kernel)
theorem i_G_pledge_28 : m_at k_G_pledge 28 = some (.invokevirtual 139, 3, 289) := m_at_of r_G_pledge (by decide +kernel)
theorem i_G_pledge_31 : m_at k_G_pledge 31 = some (.ireturn, 1, 0) := m_at_of r_G_pledge (by decide +kernel)
set_option maxRecDepth 20000 in
set_option maxHeartbeats 1000000 in
theorem E_G_pledge (x : m_X) (s : m_H) (w : Nat) (n1 : Int32) : m_M x k_G_pledge [.ref w, .int n1] s = if m_isO s w 10 = true then ((m_fR s 10 1 w).bind fun v1 => (m_fR s 10 0 w).bind fun v5 => m_bV (m_M x k_Steps_mark [.ref v1, .ref v5] s) fun s8 => (m_fR s8 10 9 w).bind fun v13 => (m_fR s8 10 0 w).bind fun v17 => m_bN (m_M x k_G_ruling [.ref w] s8) (fun v21 s21 => m_bI (m_M x k_Law_pawnOff [.ref v13, .ref v17, .ref v21, .int n1] s21) fun v25 s25 => m_bI (m_M x k_G_kept [.ref w, .int v25] s25) fun v28 s28 => some (some (.int v28), s28)) fun s21 => m_bI (m_M x k_Law_pawnOff [.ref v13, .ref v17, .null, .int n1] s21) fun v25 s25 => m_bI (m_M x k_G_kept [.ref w, .int v25] s25) fun v28 s28 => some (some (.int v28), s28)) else none := by
  refine e_M1 (L0 := [some (.ref w), some (.int n1)]) rfl (by decide +kernel) rfl (q_G_pledge _) rfl ?_
  refine e_aload_n i_G_pledge_0 rfl ?_
  refine e_getR i_G_pledge_1 lf_7 (by decide) ft_10_1 (fun v1 => ?_)
  refine e_aload_n i_G_pledge_4 rfl ?_
  refine e_getR i_G_pledge_5 lf_2 (by decide) ft_10_0 (fun v5 => ?_)
  refine e_callV (as := [.ref v1, .ref v5]) (st' := []) i_G_pledge_8 lm_237 (Or.inr (Or.inl ⟨rfl, rfl⟩)) w_Steps_mark rfl rfl rfl (Nat.le_of_ble_eq_true rfl) (Nat.le_of_ble_eq_true rfl) (m_rlt (q_Steps_mark _) (by decide)) rfl (fun s8 => ?_)
  refine e_aload_n i_G_pledge_11 rfl ?_
  refine e_aload_n i_G_pledge_12 rfl ?_
  refine e_getR i_G_pledge_13 lf_34 (by decide) ft_10_9 (fun v13 => ?_)
  refine e_aload_n i_G_pledge_16 rfl ?_
  refine e_getR i_G_pledge_17 lf_2 (by decide) ft_10_0 (fun v17 => ?_)
  refine e_aload_n i_G_pledge_20 rfl ?_
  refine e_callN (as := [.ref w]) (st' := [.ref v17, .ref v13, .ref w]) i_G_pledge_21 lm_211 (Or.inr (Or.inl ⟨rfl, rfl⟩)) w_G_ruling rfl rfl rfl (Nat.le_of_ble_eq_true rfl) (Nat.le_of_ble_eq_true rfl) (m_rlt (q_G_ruling _) (by decide)) rfl (fun v21 s21 => ?_) (fun s21 => ?_)
  · refine e_iload_n i_G_pledge_24 rfl ?_
    refine e_callI (as := [.ref v13, .ref v17, .ref v21, .int n1]) (st' := [.ref w]) i_G_pledge_25 lm_247 (Or.inr (Or.inl ⟨rfl, rfl⟩)) w_Law_pawnOff rfl rfl rfl (Nat.le_of_ble_eq_true rfl) (Nat.le_of_ble_eq_true rfl) (m_rlt (q_Law_pawnOff _) (by decide)) rfl (fun v25 s25 => ?_)
    refine e_callI (as := [.ref w, .int v25]) (st' := []) i_G_pledge_28 lm_289 (Or.inr (Or.inl ⟨rfl, rfl⟩)) w_G_kept rfl rfl rfl (Nat.le_of_ble_eq_true rfl) (Nat.le_of_ble_eq_true rfl) (m_rlt (q_G_kept _) (by decide)) rfl (fun v28 s28 => ?_)
    exact e_iretI i_G_pledge_31 rfl
  · refine e_iload_n i_G_pledge_24 rfl ?_
    refine e_callI (as := [.ref v13, .ref v17, .null, .int n1]) (st' := [.ref w]) i_G_pledge_25 lm_247 (Or.inr (Or.inl ⟨rfl, rfl⟩)) w_Law_pawnOff rfl rfl rfl (Nat.le_of_ble_eq_true rfl) (Nat.le_of_ble_eq_true rfl) (m_rlt (q_Law_pawnOff _) (by decide)) rfl (fun v25 s25 => ?_)
    refine e_callI (as := [.ref w, .int v25]) (st' := []) i_G_pledge_28 lm_289 (Or.inr (Or.inl ⟨rfl, rfl⟩)) w_G_kept rfl rfl rfl (Nat.le_of_ble_eq_true rfl) (Nat.le_of_ble_eq_true rfl) (m_rlt (q_G_kept _) (by decide)) rfl (fun v28 s28 => ?_)
    exact e_iretI i_G_pledge_31 rfl
theorem i_G_commonOf_0 : m_at k_G_commonOf 0 = some (.iload_n 0, 1, 0) := m_at_of r_G_commonOf (by decide +kernel)
theorem i_G_commonOf_1 : m_at k_G_commonOf 1 = some (.invokestatic 389, 3, 313) := m_at_of r_G_commonOf (by decide +kernel)
theorem i_G_commonOf_4 : m_at k_G_commonOf 4 = some (.istore_n 2, 1, 0) := m_at_of r_G_commonOf (by decide +kernel)
theorem i_G_commonOf_5 : m_at k_G_commonOf 5 = some (.iload_n 1, 1, 0) := m_at_of r_G_commonOf (by decide +kernel)
theorem i_G_commonOf_6 : m_at k_G_commonOf 6 = some (.invokestatic 389, 3, 313) := m_at_of r_G_commonOf (by decide +kernel)
theorem i_G_commonOf_9 : m_at k_G_commonOf 9 = some (.istore_n 3, 1, 0) := m_at_of r_G_commonOf (by decide +kernel)
theorem i_G_commonOf_10 : m_at k_G_commonOf 10 = some (.iconst 0, 1, 0) := m_at_of r_G_commonOf (by decide +kernel)
theorem i_G_commonOf_11 : m_at k_G_commonOf 11 = some (.istore 4, 2, 0) := m_at_of r_G_commonOf (by decide +kernel)
theorem i_G_commonOf_13 : m_at k_G_commonOf 13 = some (.iload 4, 2, 0) := m_at_of r_G_commonOf (by decide +kernel)
theorem i_G_commonOf_15 : m_at k_G_commonOf 15 = some (.bipush 64, 2, 0) := m_at_of r_G_commonOf (by decide +kernel)
theorem i_G_commonOf_17 : m_at k_G_commonOf 17 = some (.if_icmp .ge (23), 3, 0) := m_at_of r_G_commonOf (by decide +kernel)
theorem i_G_commonOf_20 : m_at k_G_commonOf 20 = some (.iload_n 3, 1, 0) := m_at_of r_G_commonOf (by decide +kernel)
theorem i_G_commonOf_21 : m_at k_G_commonOf 21 = some (.ifCond .eq (19), 3, 0) := m_at_of r_G_commonOf (by decide +kernel)
theorem i_G_commonOf_24 : m_at k_G_commonOf 24 = some (.iload_n 2, 1, 0) := m_at_of r_G_commonOf (by decide +kernel)
theorem i_G_commonOf_25 : m_at k_G_commonOf 25 = some (.iload_n 3, 1, 0) := m_at_of r_G_commonOf (by decide +kernel)
theorem i_G_commonOf_26 : m_at k_G_commonOf 26 = some (.irem, 1, 0) := m_at_of r_G_commonOf (by decide +kernel)
theorem i_G_commonOf_27 : m_at k_G_commonOf 27 = some (.istore 5, 2, 0) := m_at_of r_G_commonOf (by decide +kernel)
theorem i_G_commonOf_29 : m_at k_G_commonOf 29 = some (.iload_n 3, 1, 0) := m_at_of r_G_commonOf (by decide +kernel)
theorem i_G_commonOf_30 : m_at k_G_commonOf 30 = some (.istore_n 2, 1, 0) := m_at_of r_G_commonOf (by decide +kernel)
theorem i_G_commonOf_31 : m_at k_G_commonOf 31 = some (.iload 5, 2, 0) := m_at_of r_G_commonOf (by decide +kernel)
theorem i_G_commonOf_33 : m_at k_G_commonOf 33 = some (.istore_n 3, 1, 0) := m_at_of r_G_commonOf (by decide +kernel)
theorem i_G_commonOf_34 : m_at k_G_commonOf 34 = some (.iinc 4 (1), 3, 0) := m_at_of r_G_commonOf (by decide +kernel)
theorem i_G_commonOf_37 : m_at k_G_commonOf 37 = some (.goto (-24), 3, 0) := m_at_of r_G_commonOf (by decide +kernel)
theorem i_G_commonOf_40 : m_at k_G_commonOf 40 = some (.iload_n 2, 1, 0) := m_at_of r_G_commonOf (by decide +kernel)
theorem i_G_commonOf_41 : m_at k_G_commonOf 41 = some (.ireturn, 1, 0) := m_at_of r_G_commonOf (by decide +kernel)
set_option maxRecDepth 20000 in
set_option maxHeartbeats 1000000 in
theorem E_G_commonOf (x : m_X) (s : m_H) (n0 : Int32) (n1 : Int32) : m_M x k_G_commonOf [.int n0, .int n1] s = m_bI (m_M x k_Math_abs [.int n0] s) fun v1 s1 => m_bI (m_M x k_Math_abs [.int n1] s1) fun v6 s6 => m_D x 2 k_G_commonOf 13 [some (.int n0), some (.int n1), some (.int v1), some (.int v6), some (.int 0), none] [] s6 := by
  refine e_M0 (L0 := [some (.int n0), some (.int n1), none, none, none, none]) rfl (q_G_commonOf _) rfl ?_
  refine e_iload_n i_G_commonOf_0 rfl ?_
  refine e_callI (as := [.int n0]) (st' := []) i_G_commonOf_1 lm_313 (Or.inl ⟨rfl, rfl⟩) w_Math_abs rfl rfl rfl (Nat.le_of_ble_eq_true rfl) (Nat.le_of_ble_eq_true rfl) (m_rlt (q_Math_abs _) (by decide)) rfl (fun v1 s1 => ?_)
  refine e_istore_n (L' := [some (.int n0), some (.int n1), some (.int v1), none, none, none]) i_G_commonOf_4 (of_decide_eq_true rfl) rfl ?_
  refine e_iload_n i_G_commonOf_5 rfl ?_
  refine e_callI (as := [.int n1]) (st' := []) i_G_commonOf_6 lm_313 (Or.inl ⟨rfl, rfl⟩) w_Math_abs rfl rfl rfl (Nat.le_of_ble_eq_true rfl) (Nat.le_of_ble_eq_true rfl) (m_rlt (q_Math_abs _) (by decide)) rfl (fun v6 s6 => ?_)
  refine e_istore_n (L' := [some (.int n0), some (.int n1), some (.int v1), some (.int v6), none, none]) i_G_commonOf_9 (of_decide_eq_true rfl) rfl ?_
  refine e_iconst (v := 0) i_G_commonOf_10 (by decide) ?_
  refine e_istore (L' := [some (.int n0), some (.int n1), some (.int v1), some (.int v6), some (.int 0), none]) i_G_commonOf_11 (of_decide_eq_true rfl) rfl ?_
  exact rfl
set_option maxRecDepth 20000 in
set_option maxHeartbeats 1000000 in
theorem E_G_commonOf_13 (x : m_X) (ρ : Nat) (hρ : 2 ≤ ρ) (s : m_H) (n0 : Int32) (n1 : Int32) (n2 : Int32) (n3 : Int32) (n4 : Int32) (d5 : Option Value) (hd5 : m_nl d5 = true) : m_D x ρ k_G_commonOf 13 [some (.int n0), some (.int n1), some (.int n2), some (.int n3), some (.int n4), d5] [] s = if 64 ≤ n4 then (some (some (.int n2), s)) else if n3 = 0 then (some (some (.int n2), s)) else if n3 = 0 then none else m_D x ρ k_G_commonOf 13 [some (.int n0), some (.int n1), some (.int n3), some (.int (n2 - n2 / n3 * n3)), some (.int (n4 + (1 : Int32))), some (.int (n2 - n2 / n3 * n3))] [] s := by
  refine e_iload i_G_commonOf_13 rfl ?_
  refine e_bipush (v := 64) i_G_commonOf_15 (by decide) ?_
  refine e_icmpge (t := 40) i_G_commonOf_17 (by decide) ?_ ?_
  · refine e_iload_n i_G_commonOf_40 rfl ?_
    exact e_iretI i_G_commonOf_41 rfl
  · refine e_iload_n i_G_commonOf_20 rfl ?_
    refine e_ifeq (t := 40) i_G_commonOf_21 (by decide) ?_ ?_
    · refine e_iload_n i_G_commonOf_40 rfl ?_
      exact e_iretI i_G_commonOf_41 rfl
    · refine e_iload_n i_G_commonOf_24 rfl ?_
      refine e_iload_n i_G_commonOf_25 rfl ?_
      refine e_irem i_G_commonOf_26 ?_
      refine e_istore (L' := [some (.int n0), some (.int n1), some (.int n2), some (.int n3), some (.int n4), some (.int (n2 - n2 / n3 * n3))]) i_G_commonOf_27 (of_decide_eq_true rfl) rfl ?_
      refine e_iload_n i_G_commonOf_29 rfl ?_
      refine e_istore_n (L' := [some (.int n0), some (.int n1), some (.int n3), some (.int n3), some (.int n4), some (.int (n2 - n2 / n3 * n3))]) i_G_commonOf_30 (of_decide_eq_true rfl) rfl ?_
      refine e_iload i_G_commonOf_31 rfl ?_
      refine e_istore_n (L' := [some (.int n0), some (.int n1), some (.int n3), some (.int (n2 - n2 / n3 * n3)), some (.int n4), some (.int (n2 - n2 / n3 * n3))]) i_G_commonOf_33 (of_decide_eq_true rfl) rfl ?_
      refine e_iinc (w := 1) (L' := [some (.int n0), some (.int n1), some (.int n3), some (.int (n2 - n2 / n3 * n3)), some (.int (n4 + (1 : Int32))), some (.int (n2 - n2 / n3 * n3))]) i_G_commonOf_34 rfl (of_decide_eq_true rfl) (by decide) rfl ?_
      refine e_goto (t := 13) i_G_commonOf_37 (by decide) ?_
      exact rfl
theorem i_G_ruling_0 : m_at k_G_ruling 0 = some (.aload_n 0, 1, 0) := m_at_of r_G_ruling (by decide +kernel)
theorem i_G_ruling_1 : m_at k_G_ruling 1 = some (.aload_n 0, 1, 0) := m_at_of r_G_ruling (by decide +kernel)
theorem i_G_ruling_2 : m_at k_G_ruling 2 = some (.getfield 26, 3, 4) := m_at_of r_G_ruling (by decide +kernel)
theorem i_G_ruling_5 : m_at k_G_ruling 5 = some (.getfield 128, 3, 6) := m_at_of r_G_ruling (by decide +kernel)
theorem i_G_ruling_8 : m_at k_G_ruling 8 = some (.invokevirtual 177, 3, 118) := m_at_of r_G_ruling (by decide +kernel)
theorem i_G_ruling_11 : m_at k_G_ruling 11 = some (.areturn, 1, 0) := m_at_of r_G_ruling (by decide +kernel)
set_option maxRecDepth 20000 in
set_option maxHeartbeats 1000000 in
theorem E_G_ruling (x : m_X) (s : m_H) (w : Nat) : m_M x k_G_ruling [.ref w] s = if m_isO s w 10 = true then ((m_fR s 10 2 w).bind fun v2 => (m_fI s 7 8 v2).bind fun v5 => m_bN (m_M x k_G_scriptAt [.ref w, .int v5] s) (fun v8 s8 => some (some (.ref v8), s8)) fun s8 => some (some .null, s8)) else none := by
  refine e_M1 (L0 := [some (.ref w)]) rfl (by decide +kernel) rfl (q_G_ruling _) rfl ?_
  refine e_aload_n i_G_ruling_0 rfl ?_
  refine e_aload_n i_G_ruling_1 rfl ?_
  refine e_getR i_G_ruling_2 lf_4 (by decide) ft_10_2 (fun v2 => ?_)
  refine e_getI i_G_ruling_5 lf_6 (by decide) (Or.inl ft_7_8) (fun v5 => ?_)
  refine e_callN (as := [.ref w, .int v5]) (st' := []) i_G_ruling_8 lm_118 (Or.inr (Or.inl ⟨rfl, rfl⟩)) w_G_scriptAt rfl rfl rfl (Nat.le_of_ble_eq_true rfl) (Nat.le_of_ble_eq_true rfl) (m_rlt (q_G_scriptAt _) (by decide)) rfl (fun v8 s8 => ?_) (fun s8 => ?_)
  · exact e_aretR i_G_ruling_11 rfl
  · exact e_aretN i_G_ruling_11 rfl
theorem i_G_scriptAt_0 : m_at k_G_scriptAt 0 = some (.aload_n 0, 1, 0) := m_at_of r_G_scriptAt (by decide +kernel)
theorem i_G_scriptAt_1 : m_at k_G_scriptAt 1 = some (.iload_n 1, 1, 0) := m_at_of r_G_scriptAt (by decide +kernel)
theorem i_G_scriptAt_2 : m_at k_G_scriptAt 2 = some (.invokevirtual 124, 3, 319) := m_at_of r_G_scriptAt (by decide +kernel)
theorem i_G_scriptAt_5 : m_at k_G_scriptAt 5 = some (.ifCond .eq (12), 3, 0) := m_at_of r_G_scriptAt (by decide +kernel)
theorem i_G_scriptAt_8 : m_at k_G_scriptAt 8 = some (.aload_n 0, 1, 0) := m_at_of r_G_scriptAt (by decide +kernel)
theorem i_G_scriptAt_9 : m_at k_G_scriptAt 9 = some (.getfield 44, 3, 92) := m_at_of r_G_scriptAt (by decide +kernel)
theorem i_G_scriptAt_12 : m_at k_G_scriptAt 12 = some (.iload_n 1, 1, 0) := m_at_of r_G_scriptAt (by decide +kernel)
theorem i_G_scriptAt_13 : m_at k_G_scriptAt 13 = some (.aaload, 1, 0) := m_at_of r_G_scriptAt (by decide +kernel)
theorem i_G_scriptAt_14 : m_at k_G_scriptAt 14 = some (.goto (4), 3, 0) := m_at_of r_G_scriptAt (by decide +kernel)
theorem i_G_scriptAt_17 : m_at k_G_scriptAt 17 = some (.aconst_null, 1, 0) := m_at_of r_G_scriptAt (by decide +kernel)
theorem i_G_scriptAt_18 : m_at k_G_scriptAt 18 = some (.areturn, 1, 0) := m_at_of r_G_scriptAt (by decide +kernel)
set_option maxRecDepth 20000 in
set_option maxHeartbeats 1000000 in
theorem E_G_scriptAt (x : m_X) (s : m_H) (w : Nat) (n1 : Int32) : m_M x k_G_scriptAt [.ref w, .int n1] s = if m_isO s w 10 = true then (m_bI (m_M x k_G_isText [.ref w, .int n1] s) fun v2 s2 => if v2 = 0 then (some (some .null, s2)) else (m_fR s2 10 7 w).bind fun v9 => (m_aa s2 v9 n1).bind fun v13 => some (some (.ref v13), s2)) else none := by
  refine e_M1 (L0 := [some (.ref w), some (.int n1)]) rfl (by decide +kernel) rfl (q_G_scriptAt _) rfl ?_
  refine e_aload_n i_G_scriptAt_0 rfl ?_
  refine e_iload_n i_G_scriptAt_1 rfl ?_
  refine e_callI (as := [.ref w, .int n1]) (st' := []) i_G_scriptAt_2 lm_319 (Or.inr (Or.inl ⟨rfl, rfl⟩)) w_G_isText rfl rfl rfl (Nat.le_of_ble_eq_true rfl) (Nat.le_of_ble_eq_true rfl) (m_rlt (q_G_isText _) (by decide)) rfl (fun v2 s2 => ?_)
  refine e_ifeq (t := 17) i_G_scriptAt_5 (by decide) ?_ ?_
  · refine e_null i_G_scriptAt_17 ?_
    exact e_aretN i_G_scriptAt_18 rfl
  · refine e_aload_n i_G_scriptAt_8 rfl ?_
    refine e_getR i_G_scriptAt_9 lf_92 (by decide) ft_10_7 (fun v9 => ?_)
    refine e_iload_n i_G_scriptAt_12 rfl ?_
    refine e_aald i_G_scriptAt_13 (fun v13 => ?_)
    refine e_goto (t := 18) i_G_scriptAt_14 (by decide) ?_
    exact e_aretR i_G_scriptAt_18 rfl
theorem i_G_find_0 : m_at k_G_find 0 = some (.aload_n 0, 1, 0) := m_at_of r_G_find (by decide +kernel)
theorem i_G_find_1 : m_at k_G_find 1 = some (.getfield 19, 3, 7) := m_at_of r_G_find (by decide +kernel)
theorem i_G_find_4 : m_at k_G_find 4 = some (.aload_n 0, 1, 0) := m_at_of r_G_find (by decide +kernel)
theorem i_G_find_5 : m_at k_G_find 5 = some (.getfield 10, 3, 2) := m_at_of r_G_find (by decide +kernel)
theorem i_G_find_8 : m_at k_G_find 8 = some (.invokevirtual 131, 3, 237) := m_at_of r_G_find (by decide +kernel)
theorem i_G_find_11 : m_at k_G_find 11 = some (.aload_n 0, 1, 0) := m_at_of r_G_find (by decide +kernel)
theorem i_G_find_12 : m_at k_G_find 12 = some (.aload_n 0, 1, 0) := m_at_of r_G_find (by decide +kernel)
theorem i_G_find_13 : m_at k_G_find 13 = some (.getfield 10, 3, 2) := m_at_of r_G_find (by decide +kernel)
theorem i_G_find_16 : m_at k_G_find 16 = some (.iload_n 1, 1, 0) := m_at_of r_G_find (by decide +kernel)
theorem i_G_find_17 : m_at k_G_find 17 = some (.iload_n 2, 1, 0) := m_at_of r_G_find (by decide +kernel)
theorem i_G_find_18 : m_at k_G_find 18 = some (.invokevirtual 157, 3, 320) := m_at_of r_G_find (by decide +kernel)
theorem i_G_find_21 : m_at k_G_find 21 = some (.invokevirtual 150, 3, 321) := m_at_of r_G_find (by decide +kernel)
theorem i_G_find_24 : m_at k_G_find 24 = some (.ireturn, 1, 0) := m_at_of r_G_find (by decide +kernel)
set_option maxRecDepth 20000 in
set_option maxHeartbeats 1000000 in
theorem E_G_find (x : m_X) (s : m_H) (w : Nat) (n1 : Int32) (n2 : Int32) : m_M x k_G_find [.ref w, .int n1, .int n2] s = if m_isO s w 10 = true then ((m_fR s 10 1 w).bind fun v1 => (m_fR s 10 0 w).bind fun v5 => m_bV (m_M x k_Steps_mark [.ref v1, .ref v5] s) fun s8 => (m_fR s8 10 0 w).bind fun v13 => m_bI (m_M x k_World_pickUp [.ref v13, .int n1, .int n2] s8) fun v18 s18 => m_bI (m_M x k_G_keptIf [.ref w, .int v18] s18) fun v21 s21 => if m_rk (some .boolean) (some (.int v21)) = true then some (some (.int v21), s21) else none) else none := by
  refine e_M1 (L0 := [some (.ref w), some (.int n1), some (.int n2)]) rfl (by decide +kernel) rfl (q_G_find _) rfl ?_
  refine e_aload_n i_G_find_0 rfl ?_
  refine e_getR i_G_find_1 lf_7 (by decide) ft_10_1 (fun v1 => ?_)
  refine e_aload_n i_G_find_4 rfl ?_
  refine e_getR i_G_find_5 lf_2 (by decide) ft_10_0 (fun v5 => ?_)
  refine e_callV (as := [.ref v1, .ref v5]) (st' := []) i_G_find_8 lm_237 (Or.inr (Or.inl ⟨rfl, rfl⟩)) w_Steps_mark rfl rfl rfl (Nat.le_of_ble_eq_true rfl) (Nat.le_of_ble_eq_true rfl) (m_rlt (q_Steps_mark _) (by decide)) rfl (fun s8 => ?_)
  refine e_aload_n i_G_find_11 rfl ?_
  refine e_aload_n i_G_find_12 rfl ?_
  refine e_getR i_G_find_13 lf_2 (by decide) ft_10_0 (fun v13 => ?_)
  refine e_iload_n i_G_find_16 rfl ?_
  refine e_iload_n i_G_find_17 rfl ?_
  refine e_callI (as := [.ref v13, .int n1, .int n2]) (st' := [.ref w]) i_G_find_18 lm_320 (Or.inr (Or.inl ⟨rfl, rfl⟩)) w_World_pickUp rfl rfl rfl (Nat.le_of_ble_eq_true rfl) (Nat.le_of_ble_eq_true rfl) (m_rlt (q_World_pickUp _) (by decide)) rfl (fun v18 s18 => ?_)
  refine e_callI (as := [.ref w, .int v18]) (st' := []) i_G_find_21 lm_321 (Or.inr (Or.inl ⟨rfl, rfl⟩)) w_G_keptIf rfl rfl rfl (Nat.le_of_ble_eq_true rfl) (Nat.le_of_ble_eq_true rfl) (m_rlt (q_G_keptIf _) (by decide)) rfl (fun v21 s21 => ?_)
  exact e_iretG i_G_find_24 rfl
theorem i_G_lose_0 : m_at k_G_lose 0 = some (.aload_n 0, 1, 0) := m_at_of r_G_lose (by decide +kernel)
theorem i_G_lose_1 : m_at k_G_lose 1 = some (.getfield 19, 3, 7) := m_at_of r_G_lose (by decide +kernel)
theorem i_G_lose_4 : m_at k_G_lose 4 = some (.aload_n 0, 1, 0) := m_at_of r_G_lose (by decide +kernel)
theorem i_G_lose_5 : m_at k_G_lose 5 = some (.getfield 10, 3, 2) := m_at_of r_G_lose (by decide +kernel)
theorem i_G_lose_8 : m_at k_G_lose 8 = some (.invokevirtual 131, 3, 237) := m_at_of r_G_lose (by decide +kernel)
theorem i_G_lose_11 : m_at k_G_lose 11 = some (.aload_n 0, 1, 0) := m_at_of r_G_lose (by decide +kernel)
theorem i_G_lose_12 : m_at k_G_lose 12 = some (.aload_n 0, 1, 0) := m_at_of r_G_lose (by decide +kernel)
theorem i_G_lose_13 : m_at k_G_lose 13 = some (.getfield 10, 3, 2) := m_at_of r_G_lose (by decide +kernel)
theorem i_G_lose_16 : m_at k_G_lose 16 = some (.iload_n 1, 1, 0) := m_at_of r_G_lose (by decide +kernel)
theorem i_G_lose_17 : m_at k_G_lose 17 = some (.invokevirtual 154, 3, 246) := m_at_of r_G_lose (by decide +kernel)
theorem i_G_lose_20 : m_at k_G_lose 20 = some (.invokevirtual 150, 3, 321) := m_at_of r_G_lose (by decide +kernel)
theorem i_G_lose_23 : m_at k_G_lose 23 = some (.ireturn, 1, 0) := m_at_of r_G_lose (by decide +kernel)
set_option maxRecDepth 20000 in
set_option maxHeartbeats 1000000 in
theorem E_G_lose (x : m_X) (s : m_H) (w : Nat) (n1 : Int32) : m_M x k_G_lose [.ref w, .int n1] s = if m_isO s w 10 = true then ((m_fR s 10 1 w).bind fun v1 => (m_fR s 10 0 w).bind fun v5 => m_bV (m_M x k_Steps_mark [.ref v1, .ref v5] s) fun s8 => (m_fR s8 10 0 w).bind fun v13 => m_bI (m_M x k_World_drop [.ref v13, .int n1] s8) fun v17 s17 => m_bI (m_M x k_G_keptIf [.ref w, .int v17] s17) fun v20 s20 => if m_rk (some .boolean) (some (.int v20)) = true then some (some (.int v20), s20) else none) else none := by
  refine e_M1 (L0 := [some (.ref w), some (.int n1)]) rfl (by decide +kernel) rfl (q_G_lose _) rfl ?_
  refine e_aload_n i_G_lose_0 rfl ?_
  refine e_getR i_G_lose_1 lf_7 (by decide) ft_10_1 (fun v1 => ?_)
  refine e_aload_n i_G_lose_4 rfl ?_
  refine e_getR i_G_lose_5 lf_2 (by decide) ft_10_0 (fun v5 => ?_)
  refine e_callV (as := [.ref v1, .ref v5]) (st' := []) i_G_lose_8 lm_237 (Or.inr (Or.inl ⟨rfl, rfl⟩)) w_Steps_mark rfl rfl rfl (Nat.le_of_ble_eq_true rfl) (Nat.le_of_ble_eq_true rfl) (m_rlt (q_Steps_mark _) (by decide)) rfl (fun s8 => ?_)
  refine e_aload_n i_G_lose_11 rfl ?_
  refine e_aload_n i_G_lose_12 rfl ?_
  refine e_getR i_G_lose_13 lf_2 (by decide) ft_10_0 (fun v13 => ?_)
  refine e_iload_n i_G_lose_16 rfl ?_
  refine e_callI (as := [.ref v13, .int n1]) (st' := [.ref w]) i_G_lose_17 lm_246 (Or.inr (Or.inl ⟨rfl, rfl⟩)) w_World_drop rfl rfl rfl (Nat.le_of_ble_eq_true rfl) (Nat.le_of_ble_eq_true rfl) (m_rlt (q_World_drop _) (by decide)) rfl (fun v17 s17 => ?_)
  refine e_callI (as := [.ref w, .int v17]) (st' := []) i_G_lose_20 lm_321 (Or.inr (Or.inl ⟨rfl, rfl⟩)) w_G_keptIf rfl rfl rfl (Nat.le_of_ble_eq_true rfl) (Nat.le_of_ble_eq_true rfl) (m_rlt (q_G_keptIf _) (by decide)) rfl (fun v20 s20 => ?_)
  exact e_iretG i_G_lose_23 rfl
theorem i_G_pass_0 : m_at k_G_pass 0 = some (.aload_n 0, 1, 0) := m_at_of r_G_pass (by decide +kernel)
theorem i_G_pass_1 : m_at k_G_pass 1 = some (.getfield 19, 3, 7) := m_at_of r_G_pass (by decide +kernel)
theorem i_G_pass_4 : m_at k_G_pass 4 = some (.aload_n 0, 1, 0) := m_at_of r_G_pass (by decide +kernel)
theorem i_G_pass_5 : m_at k_G_pass 5 = some (.getfield 10, 3, 2) := m_at_of r_G_pass (by decide +kernel)
theorem i_G_pass_8 : m_at k_G_pass 8 = some (.invokevirtual 131, 3, 237) := m_at_of r_G_pass (by decide +kernel)
theorem i_G_pass_11 : m_at k_G_pass 11 = some (.aload_n 0, 1, 0) := m_at_of r_G_pass (by decide +kernel)
theorem i_G_pass_12 : m_at k_G_pass 12 = some (.aload_n 0, 1, 0) := m_at_of r_G_pass (by decide +kernel)
theorem i_G_pass_13 : m_at k_G_pass 13 = some (.getfield 10, 3, 2) := m_at_of r_G_pass (by decide +kernel)
theorem i_G_pass_16 : m_at k_G_pass 16 = some (.iload_n 1, 1, 0) := m_at_of r_G_pass (by decide +kernel)
theorem i_G_pass_17 : m_at k_G_pass 17 = some (.iload_n 2, 1, 0) := m_at_of r_G_pass (by decide +kernel)
theorem i_G_pass_18 : m_at k_G_pass 18 = some (.invokevirtual 146, 3, 245) := m_at_of r_G_pass (by decide +kernel)
theorem i_G_pass_21 : m_at k_G_pass 21 = some (.invokevirtual 150, 3, 321) := m_at_of r_G_pass (by decide +kernel)
theorem i_G_pass_24 : m_at k_G_pass 24 = some (.ireturn, 1, 0) := m_at_of r_G_pass (by decide +kernel)
set_option maxRecDepth 20000 in
set_option maxHeartbeats 1000000 in
theorem E_G_pass (x : m_X) (s : m_H) (w : Nat) (n1 : Int32) (n2 : Int32) : m_M x k_G_pass [.ref w, .int n1, .int n2] s = if m_isO s w 10 = true then ((m_fR s 10 1 w).bind fun v1 => (m_fR s 10 0 w).bind fun v5 => m_bV (m_M x k_Steps_mark [.ref v1, .ref v5] s) fun s8 => (m_fR s8 10 0 w).bind fun v13 => m_bI (m_M x k_World_handOn [.ref v13, .int n1, .int n2] s8) fun v18 s18 => m_bI (m_M x k_G_keptIf [.ref w, .int v18] s18) fun v21 s21 => if m_rk (some .boolean) (some (.int v21)) = true then some (some (.int v21), s21) else none) else none := by
  refine e_M1 (L0 := [some (.ref w), some (.int n1), some (.int n2)]) rfl (by decide +kernel) rfl (q_G_pass _) rfl ?_
  refine e_aload_n i_G_pass_0 rfl ?_
  refine e_getR i_G_pass_1 lf_7 (by decide) ft_10_1 (fun v1 => ?_)
  refine e_aload_n i_G_pass_4 rfl ?_
  refine e_getR i_G_pass_5 lf_2 (by decide) ft_10_0 (fun v5 => ?_)
  refine e_callV (as := [.ref v1, .ref v5]) (st' := []) i_G_pass_8 lm_237 (Or.inr (Or.inl ⟨rfl, rfl⟩)) w_Steps_mark rfl rfl rfl (Nat.le_of_ble_eq_true rfl) (Nat.le_of_ble_eq_true rfl) (m_rlt (q_Steps_mark _) (by decide)) rfl (fun s8 => ?_)
  refine e_aload_n i_G_pass_11 rfl ?_
  refine e_aload_n i_G_pass_12 rfl ?_
  refine e_getR i_G_pass_13 lf_2 (by decide) ft_10_0 (fun v13 => ?_)
  refine e_iload_n i_G_pass_16 rfl ?_
  refine e_iload_n i_G_pass_17 rfl ?_
  refine e_callI (as := [.ref v13, .int n1, .int n2]) (st' := [.ref w]) i_G_pass_18 lm_245 (Or.inr (Or.inl ⟨rfl, rfl⟩)) w_World_handOn rfl rfl rfl (Nat.le_of_ble_eq_true rfl) (Nat.le_of_ble_eq_true rfl) (m_rlt (q_World_handOn _) (by decide)) rfl (fun v18 s18 => ?_)
  refine e_callI (as := [.ref w, .int v18]) (st' := []) i_G_pass_21 lm_321 (Or.inr (Or.inl ⟨rfl, rfl⟩)) w_G_keptIf rfl rfl rfl (Nat.le_of_ble_eq_true rfl) (Nat.le_of_ble_eq_true rfl) (m_rlt (q_G_keptIf _) (by decide)) rfl (fun v21 s21 => ?_)
  exact e_iretG i_G_pass_24 rfl
theorem i_G_keptIf_0 : m_at k_G_keptIf 0 = some (.iload_n 1, 1, 0) := m_at_of r_G_keptIf (by decide +kernel)
theorem i_G_keptIf_1 : m_at k_G_keptIf 1 = some (.ifCond .eq (10), 3, 0) := m_at_of r_G_keptIf (by decide +kernel)
theorem i_G_keptIf_4 : m_at k_G_keptIf 4 = some (.aload_n 0, 1, 0) := m_at_of r_G_keptIf (by decide +kernel)
theorem i_G_keptIf_5 : m_at k_G_keptIf 5 = some (.getfield 19, 3, 7) := m_at_of r_G_keptIf (by decide +kernel)
theorem i_G_keptIf_8 : m_at k_G_keptIf 8 = some (.invokevirtual 198, 3, 241) := m_at_of r_G_keptIf (by decide +kernel)
theorem i_G_keptIf_11 : m_at k_G_keptIf 11 = some (.iload_n 1, 1, 0) := m_at_of r_G_keptIf (by decide +kernel)
theorem i_G_keptIf_12 : m_at k_G_keptIf 12 = some (.ireturn, 1, 0) := m_at_of r_G_keptIf (by decide +kernel)
set_option maxRecDepth 20000 in
set_option maxHeartbeats 1000000 in
theorem E_G_keptIf (x : m_X) (s : m_H) (w : Nat) (n1 : Int32) : m_M x k_G_keptIf [.ref w, .int n1] s = if m_isO s w 10 = true then (if n1 = 0 then (if m_rk (some .boolean) (some (.int n1)) = true then some (some (.int n1), s) else none) else (m_fR s 10 1 w).bind fun v5 => m_bV (m_M x k_Steps_keep [.ref v5] s) fun s8 => if m_rk (some .boolean) (some (.int n1)) = true then some (some (.int n1), s8) else none) else none := by
  refine e_M1 (L0 := [some (.ref w), some (.int n1)]) rfl (by decide +kernel) rfl (q_G_keptIf _) rfl ?_
  refine e_iload_n i_G_keptIf_0 rfl ?_
  refine e_ifeq (t := 11) i_G_keptIf_1 (by decide) ?_ ?_
  · refine e_iload_n i_G_keptIf_11 rfl ?_
    exact e_iretG i_G_keptIf_12 rfl
  · refine e_aload_n i_G_keptIf_4 rfl ?_
    refine e_getR i_G_keptIf_5 lf_7 (by decide) ft_10_1 (fun v5 => ?_)
    refine e_callV (as := [.ref v5]) (st' := []) i_G_keptIf_8 lm_241 (Or.inr (Or.inl ⟨rfl, rfl⟩)) w_Steps_keep rfl rfl rfl (Nat.le_of_ble_eq_true rfl) (Nat.le_of_ble_eq_true rfl) (m_rlt (q_Steps_keep _) (by decide)) rfl (fun s8 => ?_)
    refine e_iload_n i_G_keptIf_11 rfl ?_
    exact e_iretG i_G_keptIf_12 rfl
theorem i_G_work_0 : m_at k_G_work 0 = some (.aload_n 0, 1, 0) := m_at_of r_G_work (by decide +kernel)
theorem i_G_work_1 : m_at k_G_work 1 = some (.getfield 19, 3, 7) := m_at_of r_G_work (by decide +kernel)
theorem i_G_work_4 : m_at k_G_work 4 = some (.aload_n 0, 1, 0) := m_at_of r_G_work (by decide +kernel)
theorem i_G_work_5 : m_at k_G_work 5 = some (.getfield 10, 3, 2) := m_at_of r_G_work (by decide +kernel)
theorem i_G_work_8 : m_at k_G_work 8 = some (.invokevirtual 131, 3, 237) := m_at_of r_G_work (by decide +kernel)
theorem i_G_work_11 : m_at k_G_work 11 = some (.aload_n 0, 1, 0) := m_at_of r_G_work (by decide +kernel)
theorem i_G_work_12 : m_at k_G_work 12 = some (.aload_n 0, 1, 0) := m_at_of r_G_work (by decide +kernel)
theorem i_G_work_13 : m_at k_G_work 13 = some (.getfield 10, 3, 2) := m_at_of r_G_work (by decide +kernel)
theorem i_G_work_16 : m_at k_G_work 16 = some (.iload_n 1, 1, 0) := m_at_of r_G_work (by decide +kernel)
theorem i_G_work_17 : m_at k_G_work 17 = some (.iload_n 2, 1, 0) := m_at_of r_G_work (by decide +kernel)
theorem i_G_work_18 : m_at k_G_work 18 = some (.invokevirtual 143, 3, 244) := m_at_of r_G_work (by decide +kernel)
theorem i_G_work_21 : m_at k_G_work 21 = some (.invokevirtual 139, 3, 289) := m_at_of r_G_work (by decide +kernel)
theorem i_G_work_24 : m_at k_G_work 24 = some (.ireturn, 1, 0) := m_at_of r_G_work (by decide +kernel)
set_option maxRecDepth 20000 in
set_option maxHeartbeats 1000000 in
theorem E_G_work (x : m_X) (s : m_H) (w : Nat) (n1 : Int32) (n2 : Int32) : m_M x k_G_work [.ref w, .int n1, .int n2] s = if m_isO s w 10 = true then ((m_fR s 10 1 w).bind fun v1 => (m_fR s 10 0 w).bind fun v5 => m_bV (m_M x k_Steps_mark [.ref v1, .ref v5] s) fun s8 => (m_fR s8 10 0 w).bind fun v13 => m_bI (m_M x k_World_labour [.ref v13, .int n1, .int n2] s8) fun v18 s18 => m_bI (m_M x k_G_kept [.ref w, .int v18] s18) fun v21 s21 => some (some (.int v21), s21)) else none := by
  refine e_M1 (L0 := [some (.ref w), some (.int n1), some (.int n2)]) rfl (by decide +kernel) rfl (q_G_work _) rfl ?_
  refine e_aload_n i_G_work_0 rfl ?_
  refine e_getR i_G_work_1 lf_7 (by decide) ft_10_1 (fun v1 => ?_)
  refine e_aload_n i_G_work_4 rfl ?_
  refine e_getR i_G_work_5 lf_2 (by decide) ft_10_0 (fun v5 => ?_)
  refine e_callV (as := [.ref v1, .ref v5]) (st' := []) i_G_work_8 lm_237 (Or.inr (Or.inl ⟨rfl, rfl⟩)) w_Steps_mark rfl rfl rfl (Nat.le_of_ble_eq_true rfl) (Nat.le_of_ble_eq_true rfl) (m_rlt (q_Steps_mark _) (by decide)) rfl (fun s8 => ?_)
  refine e_aload_n i_G_work_11 rfl ?_
  refine e_aload_n i_G_work_12 rfl ?_
  refine e_getR i_G_work_13 lf_2 (by decide) ft_10_0 (fun v13 => ?_)
  refine e_iload_n i_G_work_16 rfl ?_
  refine e_iload_n i_G_work_17 rfl ?_
  refine e_callI (as := [.ref v13, .int n1, .int n2]) (st' := [.ref w]) i_G_work_18 lm_244 (Or.inr (Or.inl ⟨rfl, rfl⟩)) w_World_labour rfl rfl rfl (Nat.le_of_ble_eq_true rfl) (Nat.le_of_ble_eq_true rfl) (m_rlt (q_World_labour _) (by decide)) rfl (fun v18 s18 => ?_)
  refine e_callI (as := [.ref w, .int v18]) (st' := []) i_G_work_21 lm_289 (Or.inr (Or.inl ⟨rfl, rfl⟩)) w_G_kept rfl rfl rfl (Nat.le_of_ble_eq_true rfl) (Nat.le_of_ble_eq_true rfl) (m_rlt (q_G_kept _) (by decide)) rfl (fun v21 s21 => ?_)
  exact e_iretI i_G_work_24 rfl
theorem i_G_bargain_0 : m_at k_G_bargain 0 = some (.aload_n 0, 1, 0) := m_at_of r_G_bargain (by decide +kernel)
theorem i_G_bargain_1 : m_at k_G_bargain 1 = some (.getfield 19, 3, 7) := m_at_of r_G_bargain (by decide +kernel)
theorem i_G_bargain_4 : m_at k_G_bargain 4 = some (.aload_n 0, 1, 0) := m_at_of r_G_bargain (by decide +kernel)
theorem i_G_bargain_5 : m_at k_G_bargain 5 = some (.getfield 10, 3, 2) := m_at_of r_G_bargain (by decide +kernel)
theorem i_G_bargain_8 : m_at k_G_bargain 8 = some (.invokevirtual 131, 3, 237) := m_at_of r_G_bargain (by decide +kernel)
theorem i_G_bargain_11 : m_at k_G_bargain 11 = some (.aload_n 0, 1, 0) := m_at_of r_G_bargain (by decide +kernel)
theorem i_G_bargain_12 : m_at k_G_bargain 12 = some (.aload_n 0, 1, 0) := m_at_of r_G_bargain (by decide +kernel)
theorem i_G_bargain_13 : m_at k_G_bargain 13 = some (.getfield 10, 3, 2) := m_at_of r_G_bargain (by decide +kernel)
theorem i_G_bargain_16 : m_at k_G_bargain 16 = some (.iload_n 1, 1, 0) := m_at_of r_G_bargain (by decide +kernel)
theorem i_G_bargain_17 : m_at k_G_bargain 17 = some (.iload_n 2, 1, 0) := m_at_of r_G_bargain (by decide +kernel)
theorem i_G_bargain_18 : m_at k_G_bargain 18 = some (.iload_n 3, 1, 0) := m_at_of r_G_bargain (by decide +kernel)
theorem i_G_bargain_19 : m_at k_G_bargain 19 = some (.iload 4, 2, 0) := m_at_of r_G_bargain (by decide +kernel)
theorem i_G_bargain_21 : m_at k_G_bargain 21 = some (.iload 5, 2, 0) := m_at_of r_G_bargain (by decide +kernel)
theorem i_G_bargain_23 : m_at k_G_bargain 23 = some (.invokevirtual 135, 3, 242) := m_at_of r_G_bargain (by decide +kernel)
theorem i_G_bargain_26 : m_at k_G_bargain 26 = some (.invokevirtual 139, 3, 289) := m_at_of r_G_bargain (by decide +kernel)
theorem i_G_bargain_29 : m_at k_G_bargain 29 = some (.ireturn, 1, 0) := m_at_of r_G_bargain (by decide +kernel)
set_option maxRecDepth 20000 in
set_option maxHeartbeats 1000000 in
theorem E_G_bargain (x : m_X) (s : m_H) (w : Nat) (n1 : Int32) (n2 : Int32) (n3 : Int32) (n4 : Int32) (n5 : Int32) : m_M x k_G_bargain [.ref w, .int n1, .int n2, .int n3, .int n4, .int n5] s = if m_isO s w 10 = true then ((m_fR s 10 1 w).bind fun v1 => (m_fR s 10 0 w).bind fun v5 => m_bV (m_M x k_Steps_mark [.ref v1, .ref v5] s) fun s8 => (m_fR s8 10 0 w).bind fun v13 => m_bI (m_M x k_World_strike [.ref v13, .int n1, .int n2, .int n3, .int n4, .int n5] s8) fun v23 s23 => m_bI (m_M x k_G_kept [.ref w, .int v23] s23) fun v26 s26 => some (some (.int v26), s26)) else none := by
  refine e_M1 (L0 := [some (.ref w), some (.int n1), some (.int n2), some (.int n3), some (.int n4), some (.int n5)]) rfl (by decide +kernel) rfl (q_G_bargain _) rfl ?_
  refine e_aload_n i_G_bargain_0 rfl ?_
  refine e_getR i_G_bargain_1 lf_7 (by decide) ft_10_1 (fun v1 => ?_)
  refine e_aload_n i_G_bargain_4 rfl ?_
  refine e_getR i_G_bargain_5 lf_2 (by decide) ft_10_0 (fun v5 => ?_)
  refine e_callV (as := [.ref v1, .ref v5]) (st' := []) i_G_bargain_8 lm_237 (Or.inr (Or.inl ⟨rfl, rfl⟩)) w_Steps_mark rfl rfl rfl (Nat.le_of_ble_eq_true rfl) (Nat.le_of_ble_eq_true rfl) (m_rlt (q_Steps_mark _) (by decide)) rfl (fun s8 => ?_)
  refine e_aload_n i_G_bargain_11 rfl ?_
  refine e_aload_n i_G_bargain_12 rfl ?_
  refine e_getR i_G_bargain_13 lf_2 (by decide) ft_10_0 (fun v13 => ?_)
  refine e_iload_n i_G_bargain_16 rfl ?_
  refine e_iload_n i_G_bargain_17 rfl ?_
  refine e_iload_n i_G_bargain_18 rfl ?_
  refine e_iload i_G_bargain_19 rfl ?_
  refine e_iload i_G_bargain_21 rfl ?_
  refine e_callI (as := [.ref v13, .int n1, .int n2, .int n3, .int n4, .int n5]) (st' := [.ref w]) i_G_bargain_23 lm_242 (Or.inr (Or.inl ⟨rfl, rfl⟩)) w_World_strike rfl rfl rfl (Nat.le_of_ble_eq_true rfl) (Nat.le_of_ble_eq_true rfl) (m_rlt (q_World_strike _) (by decide)) rfl (fun v23 s23 => ?_)
  refine e_callI (as := [.ref w, .int v23]) (st' := []) i_G_bargain_26 lm_289 (Or.inr (Or.inl ⟨rfl, rfl⟩)) w_G_kept rfl rfl rfl (Nat.le_of_ble_eq_true rfl) (Nat.le_of_ble_eq_true rfl) (m_rlt (q_G_kept _) (by decide)) rfl (fun v26 s26 => ?_)
  exact e_iretI i_G_bargain_29 rfl
theorem i_G_kept_0 : m_at k_G_kept 0 = some (.iload_n 1, 1, 0) := m_at_of r_G_kept (by decide +kernel)
theorem i_G_kept_1 : m_at k_G_kept 1 = some (.iconst (-1), 1, 0) := m_at_of r_G_kept (by decide +kernel)
theorem i_G_kept_2 : m_at k_G_kept 2 = some (.if_icmp .eq (10), 3, 0) := m_at_of r_G_kept (by decide +kernel)
theorem i_G_kept_5 : m_at k_G_kept 5 = some (.aload_n 0, 1, 0) := m_at_of r_G_kept (by decide +kernel)
theorem i_G_kept_6 : m_at k_G_kept 6 = some (.getfield 19, 3, 7) := m_at_of r_G_kept (by decide +kernel)
theorem i_G_kept_9 : m_at k_G_kept 9 = some (.invokevirtual 198, 3, 241) := m_at_of r_G_kept (by decide +kernel)
theorem i_G_kept_12 : m_at k_G_kept 12 = some (.iload_n 1, 1, 0) := m_at_of r_G_kept (by decide +kernel)
theorem i_G_kept_13 : m_at k_G_kept 13 = some (.ireturn, 1, 0) := m_at_of r_G_kept (by decide +kernel)
set_option maxRecDepth 20000 in
set_option maxHeartbeats 1000000 in
theorem E_G_kept (x : m_X) (s : m_H) (w : Nat) (n1 : Int32) : m_M x k_G_kept [.ref w, .int n1] s = if m_isO s w 10 = true then (if n1 = (-1) then (some (some (.int n1), s)) else (m_fR s 10 1 w).bind fun v6 => m_bV (m_M x k_Steps_keep [.ref v6] s) fun s9 => some (some (.int n1), s9)) else none := by
  refine e_M1 (L0 := [some (.ref w), some (.int n1)]) rfl (by decide +kernel) rfl (q_G_kept _) rfl ?_
  refine e_iload_n i_G_kept_0 rfl ?_
  refine e_iconst (v := (-1)) i_G_kept_1 (by decide) ?_
  refine e_icmpeq (t := 12) i_G_kept_2 (by decide) ?_ ?_
  · refine e_iload_n i_G_kept_12 rfl ?_
    exact e_iretI i_G_kept_13 rfl
  · refine e_aload_n i_G_kept_5 rfl ?_
    refine e_getR i_G_kept_6 lf_7 (by decide) ft_10_1 (fun v6 => ?_)
    refine e_callV (as := [.ref v6]) (st' := []) i_G_kept_9 lm_241 (Or.inr (Or.inl ⟨rfl, rfl⟩)) w_Steps_keep rfl rfl rfl (Nat.le_of_ble_eq_true rfl) (Nat.le_of_ble_eq_true rfl) (m_rlt (q_Steps_keep _) (by decide)) rfl (fun s9 => ?_)
    refine e_iload_n i_G_kept_12 rfl ?_
    exact e_iretI i_G_kept_13 rfl
theorem i_G_by_0 : m_at k_G_by 0 = some (.iload_n 1, 1, 0) := m_at_of r_G_by (by decide +kernel)
theorem i_G_by_1 : m_at k_G_by 1 = some (.iconst (-1), 1, 0) := m_at_of r_G_by (by decide +kernel)
theorem i_G_by_2 : m_at k_G_by 2 = some (.if_icmp .eq (13), 3, 0) := m_at_of r_G_by (by decide +kernel)
theorem i_G_by_5 : m_at k_G_by 5 = some (.aload_n 0, 1, 0) := m_at_of r_G_by (by decide +kernel)
theorem i_G_by_6 : m_at k_G_by 6 = some (.iload_n 1, 1, 0) := m_at_of r_G_by (by decide +kernel)
theorem i_G_by_7 : m_at k_G_by 7 = some (.invokevirtual 124, 3, 319) := m_at_of r_G_by (by decide +kernel)
theorem i_G_by_10 : m_at k_G_by 10 = some (.ifCond .ne (5), 3, 0) := m_at_of r_G_by (by decide +kernel)
theorem i_G_by_13 : m_at k_G_by 13 = some (.iconst 0, 1, 0) := m_at_of r_G_by (by decide +kernel)
theorem i_G_by_14 : m_at k_G_by 14 = some (.ireturn, 1, 0) := m_at_of r_G_by (by decide +kernel)
theorem i_G_by_15 : m_at k_G_by 15 = some (.aload_n 0, 1, 0) := m_at_of r_G_by (by decide +kernel)
theorem i_G_by_16 : m_at k_G_by 16 = some (.getfield 26, 3, 4) := m_at_of r_G_by (by decide +kernel)
theorem i_G_by_19 : m_at k_G_by 19 = some (.iload_n 1, 1, 0) := m_at_of r_G_by (by decide +kernel)
theorem i_G_by_20 : m_at k_G_by 20 = some (.putfield 128, 3, 6) := m_at_of r_G_by (by decide +kernel)
theorem i_G_by_23 : m_at k_G_by 23 = some (.iconst 1, 1, 0) := m_at_of r_G_by (by decide +kernel)
theorem i_G_by_24 : m_at k_G_by 24 = some (.ireturn, 1, 0) := m_at_of r_G_by (by decide +kernel)
set_option maxRecDepth 20000 in
set_option maxHeartbeats 1000000 in
theorem E_G_by (x : m_X) (s : m_H) (w : Nat) (n1 : Int32) : m_M x k_G_by [.ref w, .int n1] s = if m_isO s w 10 = true then (if n1 = (-1) then ((m_fR s 10 2 w).bind fun v16 => (m_pf s 7 8 v16 (.int n1)).bind fun s20 => some (some (.int 1), s20)) else m_bI (m_M x k_G_isText [.ref w, .int n1] s) fun v7 s7 => if v7 = 0 then (some (some (.int 0), s7)) else (m_fR s7 10 2 w).bind fun v16 => (m_pf s7 7 8 v16 (.int n1)).bind fun s20 => some (some (.int 1), s20)) else none := by
  refine e_M1 (L0 := [some (.ref w), some (.int n1)]) rfl (by decide +kernel) rfl (q_G_by _) rfl ?_
  refine e_iload_n i_G_by_0 rfl ?_
  refine e_iconst (v := (-1)) i_G_by_1 (by decide) ?_
  refine e_icmpeq (t := 15) i_G_by_2 (by decide) ?_ ?_
  · refine e_aload_n i_G_by_15 rfl ?_
    refine e_getR i_G_by_16 lf_4 (by decide) ft_10_2 (fun v16 => ?_)
    refine e_iload_n i_G_by_19 rfl ?_
    refine e_putf i_G_by_20 lf_6 ft_7_8 rfl (fun s20 => ?_)
    refine e_iconst (v := 1) i_G_by_23 (by decide) ?_
    exact e_iretZ i_G_by_24 rfl (by decide)
  · refine e_aload_n i_G_by_5 rfl ?_
    refine e_iload_n i_G_by_6 rfl ?_
    refine e_callI (as := [.ref w, .int n1]) (st' := []) i_G_by_7 lm_319 (Or.inr (Or.inl ⟨rfl, rfl⟩)) w_G_isText rfl rfl rfl (Nat.le_of_ble_eq_true rfl) (Nat.le_of_ble_eq_true rfl) (m_rlt (q_G_isText _) (by decide)) rfl (fun v7 s7 => ?_)
    refine e_ifne (t := 15) i_G_by_10 (by decide) ?_ ?_
    · refine e_aload_n i_G_by_15 rfl ?_
      refine e_getR i_G_by_16 lf_4 (by decide) ft_10_2 (fun v16 => ?_)
      refine e_iload_n i_G_by_19 rfl ?_
      refine e_putf i_G_by_20 lf_6 ft_7_8 rfl (fun s20 => ?_)
      refine e_iconst (v := 1) i_G_by_23 (by decide) ?_
      exact e_iretZ i_G_by_24 rfl (by decide)
    · refine e_iconst (v := 0) i_G_by_13 (by decide) ?_
      exact e_iretZ i_G_by_14 rfl (by decide)
theorem i_G_isText_0 : m_at k_G_isText 0 = some (.iload_n 1, 1, 0) := m_at_of r_G_isText (by decide +kernel)
theorem i_G_isText_1 : m_at k_G_isText 1 = some (.ifCond .lt (23), 3, 0) := m_at_of r_G_isText (by decide +kernel)
theorem i_G_isText_4 : m_at k_G_isText 4 = some (.iload_n 1, 1, 0) := m_at_of r_G_isText (by decide +kernel)
theorem i_G_isText_5 : m_at k_G_isText 5 = some (.aload_n 0, 1, 0) := m_at_of r_G_isText (by decide +kernel)
theorem i_G_isText_6 : m_at k_G_isText 6 = some (.getfield 26, 3, 4) := m_at_of r_G_isText (by decide +kernel)
theorem i_G_isText_9 : m_at k_G_isText 9 = some (.getfield 104, 3, 5) := m_at_of r_G_isText (by decide +kernel)
theorem i_G_isText_12 : m_at k_G_isText 12 = some (.if_icmp .ge (12), 3, 0) := m_at_of r_G_isText (by decide +kernel)
theorem i_G_isText_15 : m_at k_G_isText 15 = some (.iload_n 1, 1, 0) := m_at_of r_G_isText (by decide +kernel)
theorem i_G_isText_16 : m_at k_G_isText 16 = some (.iconst 4, 1, 0) := m_at_of r_G_isText (by decide +kernel)
theorem i_G_isText_17 : m_at k_G_isText 17 = some (.if_icmp .ge (7), 3, 0) := m_at_of r_G_isText (by decide +kernel)
theorem i_G_isText_20 : m_at k_G_isText 20 = some (.iconst 1, 1, 0) := m_at_of r_G_isText (by decide +kernel)
theorem i_G_isText_21 : m_at k_G_isText 21 = some (.goto (4), 3, 0) := m_at_of r_G_isText (by decide +kernel)
theorem i_G_isText_24 : m_at k_G_isText 24 = some (.iconst 0, 1, 0) := m_at_of r_G_isText (by decide +kernel)
theorem i_G_isText_25 : m_at k_G_isText 25 = some (.ireturn, 1, 0) := m_at_of r_G_isText (by decide +kernel)
set_option maxRecDepth 20000 in
set_option maxHeartbeats 1000000 in
theorem E_G_isText (x : m_X) (s : m_H) (w : Nat) (n1 : Int32) : m_M x k_G_isText [.ref w, .int n1] s = if m_isO s w 10 = true then (if n1 < 0 then (some (some (.int 0), s)) else (m_fR s 10 2 w).bind fun v6 => (m_fI s 7 7 v6).bind fun v9 => if v9 ≤ n1 then (some (some (.int 0), s)) else if 4 ≤ n1 then (some (some (.int 0), s)) else some (some (.int 1), s)) else none := by
  refine e_M1 (L0 := [some (.ref w), some (.int n1)]) rfl (by decide +kernel) rfl (q_G_isText _) rfl ?_
  refine e_iload_n i_G_isText_0 rfl ?_
  refine e_iflt (t := 24) i_G_isText_1 (by decide) ?_ ?_
  · refine e_iconst (v := 0) i_G_isText_24 (by decide) ?_
    exact e_iretZ i_G_isText_25 rfl (by decide)
  · refine e_iload_n i_G_isText_4 rfl ?_
    refine e_aload_n i_G_isText_5 rfl ?_
    refine e_getR i_G_isText_6 lf_4 (by decide) ft_10_2 (fun v6 => ?_)
    refine e_getI i_G_isText_9 lf_5 (by decide) (Or.inl ft_7_7) (fun v9 => ?_)
    refine e_icmpge (t := 24) i_G_isText_12 (by decide) ?_ ?_
    · refine e_iconst (v := 0) i_G_isText_24 (by decide) ?_
      exact e_iretZ i_G_isText_25 rfl (by decide)
    · refine e_iload_n i_G_isText_15 rfl ?_
      refine e_iconst (v := 4) i_G_isText_16 (by decide) ?_
      refine e_icmpge (t := 24) i_G_isText_17 (by decide) ?_ ?_
      · refine e_iconst (v := 0) i_G_isText_24 (by decide) ?_
        exact e_iretZ i_G_isText_25 rfl (by decide)
      · refine e_iconst (v := 1) i_G_isText_20 (by decide) ?_
        refine e_goto (t := 25) i_G_isText_21 (by decide) ?_
        exact e_iretZ i_G_isText_25 rfl (by decide)
theorem i_G_fault_0 : m_at k_G_fault 0 = some (.iload_n 1, 1, 0) := m_at_of r_G_fault (by decide +kernel)
theorem i_G_fault_1 : m_at k_G_fault 1 = some (.ifCond .ne (11), 3, 0) := m_at_of r_G_fault (by decide +kernel)
theorem i_G_fault_4 : m_at k_G_fault 4 = some (.aload_n 0, 1, 0) := m_at_of r_G_fault (by decide +kernel)
theorem i_G_fault_5 : m_at k_G_fault 5 = some (.getfield 52, 3, 14) := m_at_of r_G_fault (by decide +kernel)
theorem i_G_fault_8 : m_at k_G_fault 8 = some (.getfield 118, 3, 96) := m_at_of r_G_fault (by decide +kernel)
theorem i_G_fault_11 : m_at k_G_fault 11 = some (.ireturn, 1, 0) := m_at_of r_G_fault (by decide +kernel)
theorem i_G_fault_12 : m_at k_G_fault 12 = some (.iload_n 1, 1, 0) := m_at_of r_G_fault (by decide +kernel)
theorem i_G_fault_13 : m_at k_G_fault 13 = some (.iconst 1, 1, 0) := m_at_of r_G_fault (by decide +kernel)
theorem i_G_fault_14 : m_at k_G_fault 14 = some (.if_icmp .ne (13), 3, 0) := m_at_of r_G_fault (by decide +kernel)
theorem i_G_fault_17 : m_at k_G_fault 17 = some (.aload_n 0, 1, 0) := m_at_of r_G_fault (by decide +kernel)
theorem i_G_fault_18 : m_at k_G_fault 18 = some (.getfield 52, 3, 14) := m_at_of r_G_fault (by decide +kernel)
theorem i_G_fault_21 : m_at k_G_fault 21 = some (.getfield 121, 3, 97) := m_at_of r_G_fault (by decide +kernel)
theorem i_G_fault_24 : m_at k_G_fault 24 = some (.goto (4), 3, 0) := m_at_of r_G_fault (by decide +kernel)
theorem i_G_fault_27 : m_at k_G_fault 27 = some (.iconst (-1), 1, 0) := m_at_of r_G_fault (by decide +kernel)
theorem i_G_fault_28 : m_at k_G_fault 28 = some (.ireturn, 1, 0) := m_at_of r_G_fault (by decide +kernel)
set_option maxRecDepth 20000 in
set_option maxHeartbeats 1000000 in
theorem E_G_fault (x : m_X) (s : m_H) (w : Nat) (n1 : Int32) : m_M x k_G_fault [.ref w, .int n1] s = if m_isO s w 10 = true then (if n1 = 0 then ((m_fR s 10 8 w).bind fun v5 => (m_fI s 3 3 v5).bind fun v8 => some (some (.int v8), s)) else if n1 = 1 then ((m_fR s 10 8 w).bind fun v18 => (m_fI s 3 4 v18).bind fun v21 => some (some (.int v21), s)) else some (some (.int (-1)), s)) else none := by
  refine e_M1 (L0 := [some (.ref w), some (.int n1)]) rfl (by decide +kernel) rfl (q_G_fault _) rfl ?_
  refine e_iload_n i_G_fault_0 rfl ?_
  refine e_ifne (t := 12) i_G_fault_1 (by decide) ?_ ?_
  · refine e_iload_n i_G_fault_12 rfl ?_
    refine e_iconst (v := 1) i_G_fault_13 (by decide) ?_
    refine e_icmpne (t := 27) i_G_fault_14 (by decide) ?_ ?_
    · refine e_iconst (v := (-1)) i_G_fault_27 (by decide) ?_
      exact e_iretI i_G_fault_28 rfl
    · refine e_aload_n i_G_fault_17 rfl ?_
      refine e_getR i_G_fault_18 lf_14 (by decide) ft_10_8 (fun v18 => ?_)
      refine e_getI i_G_fault_21 lf_97 (by decide) (Or.inl ft_3_4) (fun v21 => ?_)
      refine e_goto (t := 28) i_G_fault_24 (by decide) ?_
      exact e_iretI i_G_fault_28 rfl
  · refine e_aload_n i_G_fault_4 rfl ?_
    refine e_getR i_G_fault_5 lf_14 (by decide) ft_10_8 (fun v5 => ?_)
    refine e_getI i_G_fault_8 lf_96 (by decide) (Or.inl ft_3_3) (fun v8 => ?_)
    exact e_iretI i_G_fault_11 rfl
theorem i_G_text_0 : m_at k_G_text 0 = some (.aload_n 0, 1, 0) := m_at_of r_G_text (by decide +kernel)
theorem i_G_text_1 : m_at k_G_text 1 = some (.getfield 26, 3, 4) := m_at_of r_G_text (by decide +kernel)
theorem i_G_text_4 : m_at k_G_text 4 = some (.getfield 104, 3, 5) := m_at_of r_G_text (by decide +kernel)
theorem i_G_text_7 : m_at k_G_text 7 = some (.istore_n 1, 1, 0) := m_at_of r_G_text (by decide +kernel)
theorem i_G_text_8 : m_at k_G_text 8 = some (.iload_n 1, 1, 0) := m_at_of r_G_text (by decide +kernel)
theorem i_G_text_9 : m_at k_G_text 9 = some (.iconst 0, 1, 0) := m_at_of r_G_text (by decide +kernel)
theorem i_G_text_10 : m_at k_G_text 10 = some (.iconst 3, 1, 0) := m_at_of r_G_text (by decide +kernel)
theorem i_G_text_11 : m_at k_G_text 11 = some (.invokestatic 100, 3, 124) := m_at_of r_G_text (by decide +kernel)
theorem i_G_text_14 : m_at k_G_text 14 = some (.ifCond .ne (5), 3, 0) := m_at_of r_G_text (by decide +kernel)
theorem i_G_text_17 : m_at k_G_text 17 = some (.iconst (-1), 1, 0) := m_at_of r_G_text (by decide +kernel)
theorem i_G_text_18 : m_at k_G_text 18 = some (.ireturn, 1, 0) := m_at_of r_G_text (by decide +kernel)
theorem i_G_text_19 : m_at k_G_text 19 = some (.aload_n 0, 1, 0) := m_at_of r_G_text (by decide +kernel)
theorem i_G_text_20 : m_at k_G_text 20 = some (.getfield 52, 3, 14) := m_at_of r_G_text (by decide +kernel)
theorem i_G_text_23 : m_at k_G_text 23 = some (.invokevirtual 107, 3, 363) := m_at_of r_G_text (by decide +kernel)
theorem i_G_text_26 : m_at k_G_text 26 = some (.istore_n 2, 1, 0) := m_at_of r_G_text (by decide +kernel)
theorem i_G_text_27 : m_at k_G_text 27 = some (.aload_n 0, 1, 0) := m_at_of r_G_text (by decide +kernel)
theorem i_G_text_28 : m_at k_G_text 28 = some (.getfield 52, 3, 14) := m_at_of r_G_text (by decide +kernel)
theorem i_G_text_31 : m_at k_G_text 31 = some (.iconst 0, 1, 0) := m_at_of r_G_text (by decide +kernel)
theorem i_G_text_32 : m_at k_G_text 32 = some (.putfield 96, 3, 15) := m_at_of r_G_text (by decide +kernel)
theorem i_G_text_35 : m_at k_G_text 35 = some (.iload_n 2, 1, 0) := m_at_of r_G_text (by decide +kernel)
theorem i_G_text_36 : m_at k_G_text 36 = some (.ifCond .ne (5), 3, 0) := m_at_of r_G_text (by decide +kernel)
theorem i_G_text_39 : m_at k_G_text 39 = some (.iconst (-1), 1, 0) := m_at_of r_G_text (by decide +kernel)
theorem i_G_text_40 : m_at k_G_text 40 = some (.ireturn, 1, 0) := m_at_of r_G_text (by decide +kernel)
theorem i_G_text_41 : m_at k_G_text 41 = some (.aload_n 0, 1, 0) := m_at_of r_G_text (by decide +kernel)
theorem i_G_text_42 : m_at k_G_text 42 = some (.getfield 44, 3, 92) := m_at_of r_G_text (by decide +kernel)
theorem i_G_text_45 : m_at k_G_text 45 = some (.iload_n 1, 1, 0) := m_at_of r_G_text (by decide +kernel)
theorem i_G_text_46 : m_at k_G_text 46 = some (.aaload, 1, 0) := m_at_of r_G_text (by decide +kernel)
theorem i_G_text_47 : m_at k_G_text 47 = some (.aload_n 0, 1, 0) := m_at_of r_G_text (by decide +kernel)
theorem i_G_text_48 : m_at k_G_text 48 = some (.getfield 52, 3, 14) := m_at_of r_G_text (by decide +kernel)
theorem i_G_text_51 : m_at k_G_text 51 = some (.getfield 110, 3, 112) := m_at_of r_G_text (by decide +kernel)
theorem i_G_text_54 : m_at k_G_text 54 = some (.invokevirtual 114, 3, 364) := m_at_of r_G_text (by decide +kernel)
theorem i_G_text_57 : m_at k_G_text 57 = some (.aload_n 0, 1, 0) := m_at_of r_G_text (by decide +kernel)
theorem i_G_text_58 : m_at k_G_text 58 = some (.getfield 26, 3, 4) := m_at_of r_G_text (by decide +kernel)
theorem i_G_text_61 : m_at k_G_text 61 = some (.iload_n 1, 1, 0) := m_at_of r_G_text (by decide +kernel)
theorem i_G_text_62 : m_at k_G_text 62 = some (.iconst 1, 1, 0) := m_at_of r_G_text (by decide +kernel)
theorem i_G_text_63 : m_at k_G_text 63 = some (.iadd, 1, 0) := m_at_of r_G_text (by decide +kernel)
theorem i_G_text_64 : m_at k_G_text 64 = some (.putfield 104, 3, 5) := m_at_of r_G_text (by decide +kernel)
theorem i_G_text_67 : m_at k_G_text 67 = some (.iload_n 1, 1, 0) := m_at_of r_G_text (by decide +kernel)
theorem i_G_text_68 : m_at k_G_text 68 = some (.ireturn, 1, 0) := m_at_of r_G_text (by decide +kernel)
set_option maxRecDepth 20000 in
set_option maxHeartbeats 1000000 in
theorem E_G_text (x : m_X) (s : m_H) (w : Nat) : m_M x k_G_text [.ref w] s = if m_isO s w 10 = true then ((m_fR s 10 2 w).bind fun v1 => (m_fI s 7 7 v1).bind fun v4 => m_bI (m_M x k_G_isIn [.int v4, .int 0, .int 3] s) fun v11 s11 => if v11 = 0 then (some (some (.int (-1)), s11)) else (m_fR s11 10 8 w).bind fun v20 => m_bI (m_M x k_Reader_readTape [.ref v20] s11) fun v23 s23 => (m_fR s23 10 8 w).bind fun v28 => (m_pf s23 3 2 v28 (.int 0)).bind fun s32 => if v23 = 0 then (some (some (.int (-1)), s32)) else (m_fR s32 10 7 w).bind fun v42 => (m_aa s32 v42 v4).bind fun v46 => (m_fR s32 10 8 w).bind fun v48 => (m_fR s32 3 0 v48).bind fun v51 => m_bV (m_M x k_Script_takeOver [.ref v46, .ref v51] s32) fun s54 => (m_fR s54 10 2 w).bind fun v58 => (m_pf s54 7 7 v58 (.int (v4 + (1 : Int32)))).bind fun s64 => some (some (.int v4), s64)) else none := by
  refine e_M1 (L0 := [some (.ref w), none, none]) rfl (by decide +kernel) rfl (q_G_text _) rfl ?_
  refine e_aload_n i_G_text_0 rfl ?_
  refine e_getR i_G_text_1 lf_4 (by decide) ft_10_2 (fun v1 => ?_)
  refine e_getI i_G_text_4 lf_5 (by decide) (Or.inl ft_7_7) (fun v4 => ?_)
  refine e_istore_n (L' := [some (.ref w), some (.int v4), none]) i_G_text_7 (of_decide_eq_true rfl) rfl ?_
  refine e_iload_n i_G_text_8 rfl ?_
  refine e_iconst (v := 0) i_G_text_9 (by decide) ?_
  refine e_iconst (v := 3) i_G_text_10 (by decide) ?_
  refine e_callI (as := [.int v4, .int 0, .int 3]) (st' := []) i_G_text_11 lm_124 (Or.inl ⟨rfl, rfl⟩) w_G_isIn rfl rfl rfl (Nat.le_of_ble_eq_true rfl) (Nat.le_of_ble_eq_true rfl) (m_rlt (q_G_isIn _) (by decide)) rfl (fun v11 s11 => ?_)
  refine e_ifne (t := 19) i_G_text_14 (by decide) ?_ ?_
  · refine e_aload_n i_G_text_19 rfl ?_
    refine e_getR i_G_text_20 lf_14 (by decide) ft_10_8 (fun v20 => ?_)
    refine e_callI (as := [.ref v20]) (st' := []) i_G_text_23 lm_363 (Or.inr (Or.inl ⟨rfl, rfl⟩)) w_Reader_readTape rfl rfl rfl (Nat.le_of_ble_eq_true rfl) (Nat.le_of_ble_eq_true rfl) (m_rlt (q_Reader_readTape _) (by decide)) rfl (fun v23 s23 => ?_)
    refine e_istore_n (L' := [some (.ref w), some (.int v4), some (.int v23)]) i_G_text_26 (of_decide_eq_true rfl) rfl ?_
    refine e_aload_n i_G_text_27 rfl ?_
    refine e_getR i_G_text_28 lf_14 (by decide) ft_10_8 (fun v28 => ?_)
    refine e_iconst (v := 0) i_G_text_31 (by decide) ?_
    refine e_putf i_G_text_32 lf_15 ft_3_2 rfl (fun s32 => ?_)
    refine e_iload_n i_G_text_35 rfl ?_
    refine e_ifne (t := 41) i_G_text_36 (by decide) ?_ ?_
    · refine e_aload_n i_G_text_41 rfl ?_
      refine e_getR i_G_text_42 lf_92 (by decide) ft_10_7 (fun v42 => ?_)
      refine e_iload_n i_G_text_45 rfl ?_
      refine e_aald i_G_text_46 (fun v46 => ?_)
      refine e_aload_n i_G_text_47 rfl ?_
      refine e_getR i_G_text_48 lf_14 (by decide) ft_10_8 (fun v48 => ?_)
      refine e_getR i_G_text_51 lf_112 (by decide) ft_3_0 (fun v51 => ?_)
      refine e_callV (as := [.ref v46, .ref v51]) (st' := []) i_G_text_54 lm_364 (Or.inr (Or.inl ⟨rfl, rfl⟩)) w_Script_takeOver rfl rfl rfl (Nat.le_of_ble_eq_true rfl) (Nat.le_of_ble_eq_true rfl) (m_rlt (q_Script_takeOver _) (by decide)) rfl (fun s54 => ?_)
      refine e_aload_n i_G_text_57 rfl ?_
      refine e_getR i_G_text_58 lf_4 (by decide) ft_10_2 (fun v58 => ?_)
      refine e_iload_n i_G_text_61 rfl ?_
      refine e_iconst (v := 1) i_G_text_62 (by decide) ?_
      refine e_iadd i_G_text_63 ?_
      refine e_putf i_G_text_64 lf_5 ft_7_7 rfl (fun s64 => ?_)
      refine e_iload_n i_G_text_67 rfl ?_
      exact e_iretI i_G_text_68 rfl
    · refine e_iconst (v := (-1)) i_G_text_39 (by decide) ?_
      exact e_iretI i_G_text_40 rfl
  · refine e_iconst (v := (-1)) i_G_text_17 (by decide) ?_
    exact e_iretI i_G_text_18 rfl
theorem i_G_end_0 : m_at k_G_end 0 = some (.iload_n 1, 1, 0) := m_at_of r_G_end (by decide +kernel)
theorem i_G_end_1 : m_at k_G_end 1 = some (.iconst 0, 1, 0) := m_at_of r_G_end (by decide +kernel)
theorem i_G_end_2 : m_at k_G_end 2 = some (.aload_n 0, 1, 0) := m_at_of r_G_end (by decide +kernel)
theorem i_G_end_3 : m_at k_G_end 3 = some (.getfield 52, 3, 14) := m_at_of r_G_end (by decide +kernel)
theorem i_G_end_6 : m_at k_G_end 6 = some (.getfield 96, 3, 15) := m_at_of r_G_end (by decide +kernel)
theorem i_G_end_9 : m_at k_G_end 9 = some (.invokestatic 100, 3, 124) := m_at_of r_G_end (by decide +kernel)
theorem i_G_end_12 : m_at k_G_end 12 = some (.ifCond .ne (5), 3, 0) := m_at_of r_G_end (by decide +kernel)
theorem i_G_end_15 : m_at k_G_end 15 = some (.iconst (-1), 1, 0) := m_at_of r_G_end (by decide +kernel)
theorem i_G_end_16 : m_at k_G_end 16 = some (.ireturn, 1, 0) := m_at_of r_G_end (by decide +kernel)
theorem i_G_end_17 : m_at k_G_end 17 = some (.aload_n 0, 1, 0) := m_at_of r_G_end (by decide +kernel)
theorem i_G_end_18 : m_at k_G_end 18 = some (.getfield 52, 3, 14) := m_at_of r_G_end (by decide +kernel)
theorem i_G_end_21 : m_at k_G_end 21 = some (.iload_n 1, 1, 0) := m_at_of r_G_end (by decide +kernel)
theorem i_G_end_22 : m_at k_G_end 22 = some (.putfield 96, 3, 15) := m_at_of r_G_end (by decide +kernel)
theorem i_G_end_25 : m_at k_G_end 25 = some (.iload_n 1, 1, 0) := m_at_of r_G_end (by decide +kernel)
theorem i_G_end_26 : m_at k_G_end 26 = some (.ireturn, 1, 0) := m_at_of r_G_end (by decide +kernel)
set_option maxRecDepth 20000 in
set_option maxHeartbeats 1000000 in
theorem E_G_end (x : m_X) (s : m_H) (w : Nat) (n1 : Int32) : m_M x k_G_end [.ref w, .int n1] s = if m_isO s w 10 = true then ((m_fR s 10 8 w).bind fun v3 => (m_fI s 3 2 v3).bind fun v6 => m_bI (m_M x k_G_isIn [.int n1, .int 0, .int v6] s) fun v9 s9 => if v9 = 0 then (some (some (.int (-1)), s9)) else (m_fR s9 10 8 w).bind fun v18 => (m_pf s9 3 2 v18 (.int n1)).bind fun s22 => some (some (.int n1), s22)) else none := by
  refine e_M1 (L0 := [some (.ref w), some (.int n1)]) rfl (by decide +kernel) rfl (q_G_end _) rfl ?_
  refine e_iload_n i_G_end_0 rfl ?_
  refine e_iconst (v := 0) i_G_end_1 (by decide) ?_
  refine e_aload_n i_G_end_2 rfl ?_
  refine e_getR i_G_end_3 lf_14 (by decide) ft_10_8 (fun v3 => ?_)
  refine e_getI i_G_end_6 lf_15 (by decide) (Or.inl ft_3_2) (fun v6 => ?_)
  refine e_callI (as := [.int n1, .int 0, .int v6]) (st' := []) i_G_end_9 lm_124 (Or.inl ⟨rfl, rfl⟩) w_G_isIn rfl rfl rfl (Nat.le_of_ble_eq_true rfl) (Nat.le_of_ble_eq_true rfl) (m_rlt (q_G_isIn _) (by decide)) rfl (fun v9 s9 => ?_)
  refine e_ifne (t := 17) i_G_end_12 (by decide) ?_ ?_
  · refine e_aload_n i_G_end_17 rfl ?_
    refine e_getR i_G_end_18 lf_14 (by decide) ft_10_8 (fun v18 => ?_)
    refine e_iload_n i_G_end_21 rfl ?_
    refine e_putf i_G_end_22 lf_15 ft_3_2 rfl (fun s22 => ?_)
    refine e_iload_n i_G_end_25 rfl ?_
    exact e_iretI i_G_end_26 rfl
  · refine e_iconst (v := (-1)) i_G_end_15 (by decide) ?_
    exact e_iretI i_G_end_16 rfl
theorem i_G_feed_0 : m_at k_G_feed 0 = some (.aload_n 0, 1, 0) := m_at_of r_G_feed (by decide +kernel)
theorem i_G_feed_1 : m_at k_G_feed 1 = some (.getfield 52, 3, 14) := m_at_of r_G_feed (by decide +kernel)
theorem i_G_feed_4 : m_at k_G_feed 4 = some (.invokevirtual 88, 3, 424) := m_at_of r_G_feed (by decide +kernel)
theorem i_G_feed_7 : m_at k_G_feed 7 = some (.ifCond .ne (5), 3, 0) := m_at_of r_G_feed (by decide +kernel)
theorem i_G_feed_10 : m_at k_G_feed 10 = some (.iconst (-1), 1, 0) := m_at_of r_G_feed (by decide +kernel)
theorem i_G_feed_11 : m_at k_G_feed 11 = some (.ireturn, 1, 0) := m_at_of r_G_feed (by decide +kernel)
theorem i_G_feed_12 : m_at k_G_feed 12 = some (.aload_n 0, 1, 0) := m_at_of r_G_feed (by decide +kernel)
theorem i_G_feed_13 : m_at k_G_feed 13 = some (.getfield 52, 3, 14) := m_at_of r_G_feed (by decide +kernel)
theorem i_G_feed_16 : m_at k_G_feed 16 = some (.iload_n 1, 1, 0) := m_at_of r_G_feed (by decide +kernel)
theorem i_G_feed_17 : m_at k_G_feed 17 = some (.invokevirtual 92, 3, 425) := m_at_of r_G_feed (by decide +kernel)
theorem i_G_feed_20 : m_at k_G_feed 20 = some (.aload_n 0, 1, 0) := m_at_of r_G_feed (by decide +kernel)
theorem i_G_feed_21 : m_at k_G_feed 21 = some (.getfield 52, 3, 14) := m_at_of r_G_feed (by decide +kernel)
theorem i_G_feed_24 : m_at k_G_feed 24 = some (.iload_n 2, 1, 0) := m_at_of r_G_feed (by decide +kernel)
theorem i_G_feed_25 : m_at k_G_feed 25 = some (.invokevirtual 92, 3, 425) := m_at_of r_G_feed (by decide +kernel)
theorem i_G_feed_28 : m_at k_G_feed 28 = some (.aload_n 0, 1, 0) := m_at_of r_G_feed (by decide +kernel)
theorem i_G_feed_29 : m_at k_G_feed 29 = some (.getfield 52, 3, 14) := m_at_of r_G_feed (by decide +kernel)
theorem i_G_feed_32 : m_at k_G_feed 32 = some (.iload_n 3, 1, 0) := m_at_of r_G_feed (by decide +kernel)
theorem i_G_feed_33 : m_at k_G_feed 33 = some (.invokevirtual 92, 3, 425) := m_at_of r_G_feed (by decide +kernel)
theorem i_G_feed_36 : m_at k_G_feed 36 = some (.aload_n 0, 1, 0) := m_at_of r_G_feed (by decide +kernel)
theorem i_G_feed_37 : m_at k_G_feed 37 = some (.getfield 52, 3, 14) := m_at_of r_G_feed (by decide +kernel)
theorem i_G_feed_40 : m_at k_G_feed 40 = some (.iload 4, 2, 0) := m_at_of r_G_feed (by decide +kernel)
theorem i_G_feed_42 : m_at k_G_feed 42 = some (.invokevirtual 92, 3, 425) := m_at_of r_G_feed (by decide +kernel)
theorem i_G_feed_45 : m_at k_G_feed 45 = some (.aload_n 0, 1, 0) := m_at_of r_G_feed (by decide +kernel)
theorem i_G_feed_46 : m_at k_G_feed 46 = some (.getfield 52, 3, 14) := m_at_of r_G_feed (by decide +kernel)
theorem i_G_feed_49 : m_at k_G_feed 49 = some (.iload 5, 2, 0) := m_at_of r_G_feed (by decide +kernel)
theorem i_G_feed_51 : m_at k_G_feed 51 = some (.invokevirtual 92, 3, 425) := m_at_of r_G_feed (by decide +kernel)
theorem i_G_feed_54 : m_at k_G_feed 54 = some (.aload_n 0, 1, 0) := m_at_of r_G_feed (by decide +kernel)
theorem i_G_feed_55 : m_at k_G_feed 55 = some (.getfield 52, 3, 14) := m_at_of r_G_feed (by decide +kernel)
theorem i_G_feed_58 : m_at k_G_feed 58 = some (.getfield 96, 3, 15) := m_at_of r_G_feed (by decide +kernel)
theorem i_G_feed_61 : m_at k_G_feed 61 = some (.ireturn, 1, 0) := m_at_of r_G_feed (by decide +kernel)
set_option maxRecDepth 20000 in
set_option maxHeartbeats 1000000 in
theorem E_G_feed (x : m_X) (s : m_H) (w : Nat) (n1 : Int32) (n2 : Int32) (n3 : Int32) (n4 : Int32) (n5 : Int32) : m_M x k_G_feed [.ref w, .int n1, .int n2, .int n3, .int n4, .int n5] s = if m_isO s w 10 = true then ((m_fR s 10 8 w).bind fun v1 => m_bI (m_M x k_Reader_hasRoom [.ref v1] s) fun v4 s4 => if v4 = 0 then (some (some (.int (-1)), s4)) else (m_fR s4 10 8 w).bind fun v13 => m_bV (m_M x k_Reader_take [.ref v13, .int n1] s4) fun s17 => (m_fR s17 10 8 w).bind fun v21 => m_bV (m_M x k_Reader_take [.ref v21, .int n2] s17) fun s25 => (m_fR s25 10 8 w).bind fun v29 => m_bV (m_M x k_Reader_take [.ref v29, .int n3] s25) fun s33 => (m_fR s33 10 8 w).bind fun v37 => m_bV (m_M x k_Reader_take [.ref v37, .int n4] s33) fun s42 => (m_fR s42 10 8 w).bind fun v46 => m_bV (m_M x k_Reader_take [.ref v46, .int n5] s42) fun s51 => (m_fR s51 10 8 w).bind fun v55 => (m_fI s51 3 2 v55).bind fun v58 => some (some (.int v58), s51)) else none := by
  refine e_M1 (L0 := [some (.ref w), some (.int n1), some (.int n2), some (.int n3), some (.int n4), some (.int n5)]) rfl (by decide +kernel) rfl (q_G_feed _) rfl ?_
  refine e_aload_n i_G_feed_0 rfl ?_
  refine e_getR i_G_feed_1 lf_14 (by decide) ft_10_8 (fun v1 => ?_)
  refine e_callI (as := [.ref v1]) (st' := []) i_G_feed_4 lm_424 (Or.inr (Or.inl ⟨rfl, rfl⟩)) w_Reader_hasRoom rfl rfl rfl (Nat.le_of_ble_eq_true rfl) (Nat.le_of_ble_eq_true rfl) (m_rlt (q_Reader_hasRoom _) (by decide)) rfl (fun v4 s4 => ?_)
  refine e_ifne (t := 12) i_G_feed_7 (by decide) ?_ ?_
  · refine e_aload_n i_G_feed_12 rfl ?_
    refine e_getR i_G_feed_13 lf_14 (by decide) ft_10_8 (fun v13 => ?_)
    refine e_iload_n i_G_feed_16 rfl ?_
    refine e_callV (as := [.ref v13, .int n1]) (st' := []) i_G_feed_17 lm_425 (Or.inr (Or.inl ⟨rfl, rfl⟩)) w_Reader_take rfl rfl rfl (Nat.le_of_ble_eq_true rfl) (Nat.le_of_ble_eq_true rfl) (m_rlt (q_Reader_take _) (by decide)) rfl (fun s17 => ?_)
    refine e_aload_n i_G_feed_20 rfl ?_
    refine e_getR i_G_feed_21 lf_14 (by decide) ft_10_8 (fun v21 => ?_)
    refine e_iload_n i_G_feed_24 rfl ?_
    refine e_callV (as := [.ref v21, .int n2]) (st' := []) i_G_feed_25 lm_425 (Or.inr (Or.inl ⟨rfl, rfl⟩)) w_Reader_take rfl rfl rfl (Nat.le_of_ble_eq_true rfl) (Nat.le_of_ble_eq_true rfl) (m_rlt (q_Reader_take _) (by decide)) rfl (fun s25 => ?_)
    refine e_aload_n i_G_feed_28 rfl ?_
    refine e_getR i_G_feed_29 lf_14 (by decide) ft_10_8 (fun v29 => ?_)
    refine e_iload_n i_G_feed_32 rfl ?_
    refine e_callV (as := [.ref v29, .int n3]) (st' := []) i_G_feed_33 lm_425 (Or.inr (Or.inl ⟨rfl, rfl⟩)) w_Reader_take rfl rfl rfl (Nat.le_of_ble_eq_true rfl) (Nat.le_of_ble_eq_true rfl) (m_rlt (q_Reader_take _) (by decide)) rfl (fun s33 => ?_)
    refine e_aload_n i_G_feed_36 rfl ?_
    refine e_getR i_G_feed_37 lf_14 (by decide) ft_10_8 (fun v37 => ?_)
    refine e_iload i_G_feed_40 rfl ?_
    refine e_callV (as := [.ref v37, .int n4]) (st' := []) i_G_feed_42 lm_425 (Or.inr (Or.inl ⟨rfl, rfl⟩)) w_Reader_take rfl rfl rfl (Nat.le_of_ble_eq_true rfl) (Nat.le_of_ble_eq_true rfl) (m_rlt (q_Reader_take _) (by decide)) rfl (fun s42 => ?_)
    refine e_aload_n i_G_feed_45 rfl ?_
    refine e_getR i_G_feed_46 lf_14 (by decide) ft_10_8 (fun v46 => ?_)
    refine e_iload i_G_feed_49 rfl ?_
    refine e_callV (as := [.ref v46, .int n5]) (st' := []) i_G_feed_51 lm_425 (Or.inr (Or.inl ⟨rfl, rfl⟩)) w_Reader_take rfl rfl rfl (Nat.le_of_ble_eq_true rfl) (Nat.le_of_ble_eq_true rfl) (m_rlt (q_Reader_take _) (by decide)) rfl (fun s51 => ?_)
    refine e_aload_n i_G_feed_54 rfl ?_
    refine e_getR i_G_feed_55 lf_14 (by decide) ft_10_8 (fun v55 => ?_)
    refine e_getI i_G_feed_58 lf_15 (by decide) (Or.inl ft_3_2) (fun v58 => ?_)
    exact e_iretI i_G_feed_61 rfl
  · refine e_iconst (v := (-1)) i_G_feed_10 (by decide) ?_
    exact e_iretI i_G_feed_11 rfl
theorem i_G_one_0 : m_at k_G_one 0 = some (.aload_n 0, 1, 0) := m_at_of r_G_one (by decide +kernel)
theorem i_G_one_1 : m_at k_G_one 1 = some (.getfield 10, 3, 2) := m_at_of r_G_one (by decide +kernel)
theorem i_G_one_4 : m_at k_G_one 4 = some (.iload_n 1, 1, 0) := m_at_of r_G_one (by decide +kernel)
theorem i_G_one_5 : m_at k_G_one 5 = some (.iload_n 2, 1, 0) := m_at_of r_G_one (by decide +kernel)
theorem i_G_one_6 : m_at k_G_one 6 = some (.invokevirtual 84, 3, 426) := m_at_of r_G_one (by decide +kernel)
theorem i_G_one_9 : m_at k_G_one 9 = some (.ireturn, 1, 0) := m_at_of r_G_one (by decide +kernel)
set_option maxRecDepth 20000 in
set_option maxHeartbeats 1000000 in
theorem E_G_one (x : m_X) (s : m_H) (w : Nat) (n1 : Int32) (n2 : Int32) : m_M x k_G_one [.ref w, .int n1, .int n2] s = if m_isO s w 10 = true then ((m_fR s 10 0 w).bind fun v1 => m_bI (m_M x k_World_tellOne [.ref v1, .int n1, .int n2] s) fun v6 s6 => some (some (.int v6), s6)) else none := by
  refine e_M1 (L0 := [some (.ref w), some (.int n1), some (.int n2)]) rfl (by decide +kernel) rfl (q_G_one _) rfl ?_
  refine e_aload_n i_G_one_0 rfl ?_
  refine e_getR i_G_one_1 lf_2 (by decide) ft_10_0 (fun v1 => ?_)
  refine e_iload_n i_G_one_4 rfl ?_
  refine e_iload_n i_G_one_5 rfl ?_
  refine e_callI (as := [.ref v1, .int n1, .int n2]) (st' := []) i_G_one_6 lm_426 (Or.inr (Or.inl ⟨rfl, rfl⟩)) w_World_tellOne rfl rfl rfl (Nat.le_of_ble_eq_true rfl) (Nat.le_of_ble_eq_true rfl) (m_rlt (q_World_tellOne _) (by decide)) rfl (fun v6 s6 => ?_)
  exact e_iretI i_G_one_9 rfl
theorem i_G_isIn_0 : m_at k_G_isIn 0 = some (.iload_n 0, 1, 0) := m_at_of r_G_isIn (by decide +kernel)
theorem i_G_isIn_1 : m_at k_G_isIn 1 = some (.iload_n 1, 1, 0) := m_at_of r_G_isIn (by decide +kernel)
theorem i_G_isIn_2 : m_at k_G_isIn 2 = some (.if_icmp .lt (12), 3, 0) := m_at_of r_G_isIn (by decide +kernel)
theorem i_G_isIn_5 : m_at k_G_isIn 5 = some (.iload_n 0, 1, 0) := m_at_of r_G_isIn (by decide +kernel)
theorem i_G_isIn_6 : m_at k_G_isIn 6 = some (.iload_n 2, 1, 0) := m_at_of r_G_isIn (by decide +kernel)
theorem i_G_isIn_7 : m_at k_G_isIn 7 = some (.if_icmp .gt (7), 3, 0) := m_at_of r_G_isIn (by decide +kernel)
theorem i_G_isIn_10 : m_at k_G_isIn 10 = some (.iconst 1, 1, 0) := m_at_of r_G_isIn (by decide +kernel)
theorem i_G_isIn_11 : m_at k_G_isIn 11 = some (.goto (4), 3, 0) := m_at_of r_G_isIn (by decide +kernel)
theorem i_G_isIn_14 : m_at k_G_isIn 14 = some (.iconst 0, 1, 0) := m_at_of r_G_isIn (by decide +kernel)
theorem i_G_isIn_15 : m_at k_G_isIn 15 = some (.ireturn, 1, 0) := m_at_of r_G_isIn (by decide +kernel)
set_option maxRecDepth 20000 in
set_option maxHeartbeats 1000000 in
theorem E_G_isIn (x : m_X) (s : m_H) (n0 : Int32) (n1 : Int32) (n2 : Int32) : m_M x k_G_isIn [.int n0, .int n1, .int n2] s = if n0 < n1 then (some (some (.int 0), s)) else if n2 < n0 then (some (some (.int 0), s)) else some (some (.int 1), s) := by
  refine e_M0 (L0 := [some (.int n0), some (.int n1), some (.int n2)]) rfl (q_G_isIn _) rfl ?_
  refine e_iload_n i_G_isIn_0 rfl ?_
  refine e_iload_n i_G_isIn_1 rfl ?_
  refine e_icmplt (t := 14) i_G_isIn_2 (by decide) ?_ ?_
  · refine e_iconst (v := 0) i_G_isIn_14 (by decide) ?_
    exact e_iretZ i_G_isIn_15 rfl (by decide)
  · refine e_iload_n i_G_isIn_5 rfl ?_
    refine e_iload_n i_G_isIn_6 rfl ?_
    refine e_icmpgt (t := 14) i_G_isIn_7 (by decide) ?_ ?_
    · refine e_iconst (v := 0) i_G_isIn_14 (by decide) ?_
      exact e_iretZ i_G_isIn_15 rfl (by decide)
    · refine e_iconst (v := 1) i_G_isIn_10 (by decide) ?_
      refine e_goto (t := 15) i_G_isIn_11 (by decide) ?_
      exact e_iretZ i_G_isIn_15 rfl (by decide)
theorem i_G_init_0 : m_at k_G_init 0 = some (.aload_n 0, 1, 0) := m_at_of r_G_init (by decide +kernel)
theorem i_G_init_1 : m_at k_G_init 1 = some (.invokespecial 1, 3, 428) := m_at_of r_G_init (by decide +kernel)
theorem i_G_init_4 : m_at k_G_init 4 = some (.aload_n 0, 1, 0) := m_at_of r_G_init (by decide +kernel)
theorem i_G_init_5 : m_at k_G_init 5 = some (.new 7, 3, 2) := m_at_of r_G_init (by decide +kernel)
theorem i_G_init_8 : m_at k_G_init 8 = some (.dup, 1, 0) := m_at_of r_G_init (by decide +kernel)
theorem i_G_init_9 : m_at k_G_init 9 = some (.invokespecial 9, 3, 429) := m_at_of r_G_init (by decide +kernel)
theorem i_G_init_12 : m_at k_G_init 12 = some (.putfield 10, 3, 2) := m_at_of r_G_init (by decide +kernel)
theorem i_G_init_15 : m_at k_G_init 15 = some (.aload_n 0, 1, 0) := m_at_of r_G_init (by decide +kernel)
theorem i_G_init_16 : m_at k_G_init 16 = some (.new 16, 3, 3) := m_at_of r_G_init (by decide +kernel)
theorem i_G_init_19 : m_at k_G_init 19 = some (.dup, 1, 0) := m_at_of r_G_init (by decide +kernel)
theorem i_G_init_20 : m_at k_G_init 20 = some (.invokespecial 18, 3, 430) := m_at_of r_G_init (by decide +kernel)
theorem i_G_init_23 : m_at k_G_init 23 = some (.putfield 19, 3, 7) := m_at_of r_G_init (by decide +kernel)
theorem i_G_init_26 : m_at k_G_init 26 = some (.aload_n 0, 1, 0) := m_at_of r_G_init (by decide +kernel)
theorem i_G_init_27 : m_at k_G_init 27 = some (.new 23, 3, 4) := m_at_of r_G_init (by decide +kernel)
theorem i_G_init_30 : m_at k_G_init 30 = some (.dup, 1, 0) := m_at_of r_G_init (by decide +kernel)
theorem i_G_init_31 : m_at k_G_init 31 = some (.invokespecial 25, 3, 431) := m_at_of r_G_init (by decide +kernel)
theorem i_G_init_34 : m_at k_G_init 34 = some (.putfield 26, 3, 4) := m_at_of r_G_init (by decide +kernel)
theorem i_G_init_37 : m_at k_G_init 37 = some (.aload_n 0, 1, 0) := m_at_of r_G_init (by decide +kernel)
theorem i_G_init_38 : m_at k_G_init 38 = some (.new 7, 3, 2) := m_at_of r_G_init (by decide +kernel)
theorem i_G_init_41 : m_at k_G_init 41 = some (.dup, 1, 0) := m_at_of r_G_init (by decide +kernel)
theorem i_G_init_42 : m_at k_G_init 42 = some (.invokespecial 9, 3, 429) := m_at_of r_G_init (by decide +kernel)
theorem i_G_init_45 : m_at k_G_init 45 = some (.putfield 30, 3, 17) := m_at_of r_G_init (by decide +kernel)
theorem i_G_init_48 : m_at k_G_init 48 = some (.aload_n 0, 1, 0) := m_at_of r_G_init (by decide +kernel)
theorem i_G_init_49 : m_at k_G_init 49 = some (.new 16, 3, 3) := m_at_of r_G_init (by decide +kernel)
theorem i_G_init_52 : m_at k_G_init 52 = some (.dup, 1, 0) := m_at_of r_G_init (by decide +kernel)
theorem i_G_init_53 : m_at k_G_init 53 = some (.invokespecial 18, 3, 430) := m_at_of r_G_init (by decide +kernel)
theorem i_G_init_56 : m_at k_G_init 56 = some (.putfield 33, 3, 18) := m_at_of r_G_init (by decide +kernel)
theorem i_G_init_59 : m_at k_G_init 59 = some (.aload_n 0, 1, 0) := m_at_of r_G_init (by decide +kernel)
theorem i_G_init_60 : m_at k_G_init 60 = some (.new 23, 3, 4) := m_at_of r_G_init (by decide +kernel)
theorem i_G_init_63 : m_at k_G_init 63 = some (.dup, 1, 0) := m_at_of r_G_init (by decide +kernel)
theorem i_G_init_64 : m_at k_G_init 64 = some (.invokespecial 25, 3, 431) := m_at_of r_G_init (by decide +kernel)
theorem i_G_init_67 : m_at k_G_init 67 = some (.putfield 36, 3, 19) := m_at_of r_G_init (by decide +kernel)
theorem i_G_init_70 : m_at k_G_init 70 = some (.aload_n 0, 1, 0) := m_at_of r_G_init (by decide +kernel)
theorem i_G_init_71 : m_at k_G_init 71 = some (.new 7, 3, 2) := m_at_of r_G_init (by decide +kernel)
theorem i_G_init_74 : m_at k_G_init 74 = some (.dup, 1, 0) := m_at_of r_G_init (by decide +kernel)
theorem i_G_init_75 : m_at k_G_init 75 = some (.invokespecial 9, 3, 429) := m_at_of r_G_init (by decide +kernel)
theorem i_G_init_78 : m_at k_G_init 78 = some (.putfield 39, 3, 76) := m_at_of r_G_init (by decide +kernel)
theorem i_G_init_81 : m_at k_G_init 81 = some (.aload_n 0, 1, 0) := m_at_of r_G_init (by decide +kernel)
theorem i_G_init_82 : m_at k_G_init 82 = some (.iconst 4, 1, 0) := m_at_of r_G_init (by decide +kernel)
theorem i_G_init_83 : m_at k_G_init 83 = some (.anewarray 42, 3, 0) := m_at_of r_G_init (by decide +kernel)
theorem i_G_init_86 : m_at k_G_init 86 = some (.putfield 44, 3, 92) := m_at_of r_G_init (by decide +kernel)
theorem i_G_init_89 : m_at k_G_init 89 = some (.iconst 0, 1, 0) := m_at_of r_G_init (by decide +kernel)
theorem i_G_init_90 : m_at k_G_init 90 = some (.istore_n 1, 1, 0) := m_at_of r_G_init (by decide +kernel)
theorem i_G_init_91 : m_at k_G_init 91 = some (.iload_n 1, 1, 0) := m_at_of r_G_init (by decide +kernel)
theorem i_G_init_92 : m_at k_G_init 92 = some (.iconst 4, 1, 0) := m_at_of r_G_init (by decide +kernel)
theorem i_G_init_93 : m_at k_G_init 93 = some (.if_icmp .ge (22), 3, 0) := m_at_of r_G_init (by decide +kernel)
theorem i_G_init_96 : m_at k_G_init 96 = some (.aload_n 0, 1, 0) := m_at_of r_G_init (by decide +kernel)
theorem i_G_init_97 : m_at k_G_init 97 = some (.getfield 44, 3, 92) := m_at_of r_G_init (by decide +kernel)
theorem i_G_init_100 : m_at k_G_init 100 = some (.iload_n 1, 1, 0) := m_at_of r_G_init (by decide +kernel)
theorem i_G_init_101 : m_at k_G_init 101 = some (.new 42, 3, 5) := m_at_of r_G_init (by decide +kernel)
theorem i_G_init_104 : m_at k_G_init 104 = some (.dup, 1, 0) := m_at_of r_G_init (by decide +kernel)
theorem i_G_init_105 : m_at k_G_init 105 = some (.invokespecial 48, 3, 432) := m_at_of r_G_init (by decide +kernel)
theorem i_G_init_108 : m_at k_G_init 108 = some (.aastore, 1, 0) := m_at_of r_G_init (by decide +kernel)
theorem i_G_init_109 : m_at k_G_init 109 = some (.iinc 1 (1), 3, 0) := m_at_of r_G_init (by decide +kernel)
theorem i_G_init_112 : m_at k_G_init 112 = some (.goto (-21), 3, 0) := m_at_of r_G_init (by decide +kernel)
theorem i_G_init_115 : m_at k_G_init 115 = some (.aload_n 0, 1, 0) := m_at_of r_G_init (by decide +kernel)
theorem i_G_init_116 : m_at k_G_init 116 = some (.new 49, 3, 6) := m_at_of r_G_init (by decide +kernel)
theorem i_G_init_119 : m_at k_G_init 119 = some (.dup, 1, 0) := m_at_of r_G_init (by decide +kernel)
theorem i_G_init_120 : m_at k_G_init 120 = some (.invokespecial 51, 3, 433) := m_at_of r_G_init (by decide +kernel)
theorem i_G_init_123 : m_at k_G_init 123 = some (.putfield 52, 3, 14) := m_at_of r_G_init (by decide +kernel)
theorem i_G_init_126 : m_at k_G_init 126 = some (.aload_n 0, 1, 0) := m_at_of r_G_init (by decide +kernel)
theorem i_G_init_127 : m_at k_G_init 127 = some (.new 56, 3, 7) := m_at_of r_G_init (by decide +kernel)
theorem i_G_init_130 : m_at k_G_init 130 = some (.dup, 1, 0) := m_at_of r_G_init (by decide +kernel)
theorem i_G_init_131 : m_at k_G_init 131 = some (.invokespecial 58, 3, 434) := m_at_of r_G_init (by decide +kernel)
theorem i_G_init_134 : m_at k_G_init 134 = some (.putfield 59, 3, 34) := m_at_of r_G_init (by decide +kernel)
theorem i_G_init_137 : m_at k_G_init 137 = some (.aload_n 0, 1, 0) := m_at_of r_G_init (by decide +kernel)
theorem i_G_init_138 : m_at k_G_init 138 = some (.new 63, 3, 8) := m_at_of r_G_init (by decide +kernel)
theorem i_G_init_141 : m_at k_G_init 141 = some (.dup, 1, 0) := m_at_of r_G_init (by decide +kernel)
theorem i_G_init_142 : m_at k_G_init 142 = some (.invokespecial 65, 3, 435) := m_at_of r_G_init (by decide +kernel)
theorem i_G_init_145 : m_at k_G_init 145 = some (.putfield 66, 3, 60) := m_at_of r_G_init (by decide +kernel)
theorem i_G_init_148 : m_at k_G_init 148 = some (.aload_n 0, 1, 0) := m_at_of r_G_init (by decide +kernel)
theorem i_G_init_149 : m_at k_G_init 149 = some (.new 70, 3, 9) := m_at_of r_G_init (by decide +kernel)
theorem i_G_init_152 : m_at k_G_init 152 = some (.dup, 1, 0) := m_at_of r_G_init (by decide +kernel)
theorem i_G_init_153 : m_at k_G_init 153 = some (.invokespecial 72, 3, 436) := m_at_of r_G_init (by decide +kernel)
theorem i_G_init_156 : m_at k_G_init 156 = some (.putfield 73, 3, 37) := m_at_of r_G_init (by decide +kernel)
theorem i_G_init_159 : m_at k_G_init 159 = some (.aload_n 0, 1, 0) := m_at_of r_G_init (by decide +kernel)
theorem i_G_init_160 : m_at k_G_init 160 = some (.new 77, 3, 10) := m_at_of r_G_init (by decide +kernel)
theorem i_G_init_163 : m_at k_G_init 163 = some (.dup, 1, 0) := m_at_of r_G_init (by decide +kernel)
theorem i_G_init_164 : m_at k_G_init 164 = some (.invokespecial 79, 3, 437) := m_at_of r_G_init (by decide +kernel)
theorem i_G_init_167 : m_at k_G_init 167 = some (.putfield 80, 3, 43) := m_at_of r_G_init (by decide +kernel)
theorem i_G_init_170 : m_at k_G_init 170 = some (.return_, 1, 0) := m_at_of r_G_init (by decide +kernel)
set_option maxRecDepth 20000 in
set_option maxHeartbeats 1000000 in
theorem E_G_init (x : m_X) (s : m_H) (w : Nat) : m_M x k_G_init [.ref w] s = if s.length < 900 then (m_bV (m_M x k_World_init [.ref s.length] (s ++ [.inr (9, m_nf 9)])) fun s9 => (m_pf s9 10 0 w (.ref s.length)).bind fun s12 => if s12.length < 900 then (m_bV (m_M x k_Steps_init [.ref s12.length] (s12 ++ [.inr (6, m_nf 6)])) fun s20 => (m_pf s20 10 1 w (.ref s12.length)).bind fun s23 => if s23.length < 900 then (m_bV (m_M x k_Told_init [.ref s23.length] (s23 ++ [.inr (7, m_nf 7)])) fun s31 => (m_pf s31 10 2 w (.ref s23.length)).bind fun s34 => if s34.length < 900 then (m_bV (m_M x k_World_init [.ref s34.length] (s34 ++ [.inr (9, m_nf 9)])) fun s42 => (m_pf s42 10 3 w (.ref s34.length)).bind fun s45 => if s45.length < 900 then (m_bV (m_M x k_Steps_init [.ref s45.length] (s45 ++ [.inr (6, m_nf 6)])) fun s53 => (m_pf s53 10 4 w (.ref s45.length)).bind fun s56 => if s56.length < 900 then (m_bV (m_M x k_Told_init [.ref s56.length] (s56 ++ [.inr (7, m_nf 7)])) fun s64 => (m_pf s64 10 5 w (.ref s56.length)).bind fun s67 => if s67.length < 900 then (m_bV (m_M x k_World_init [.ref s67.length] (s67 ++ [.inr (9, m_nf 9)])) fun s75 => (m_pf s75 10 6 w (.ref s67.length)).bind fun s78 => if s78.length < 900 ∧ ¬ 4 < (0 : Int32) ∧ (4 : Int32).toNatClampNeg ≤ 100000 then ((m_pf (s78 ++ [.inl (3, (4 : Int32).toNatClampNeg, .inr (.inr (.inr (.inr fun _ => none))))]) 10 7 w (.ref s78.length)).bind fun s86 => m_D x 4 k_G_init 91 [some (.ref w), some (.int 0)] [] s86) else none) else none) else none) else none) else none) else none) else none) else none := by
  refine e_M2 (L0 := [some (.ref w), none]) rfl (q_G_init _) rfl ?_
  refine e_aload_n i_G_init_0 rfl ?_
  refine e_oinit i_G_init_1 lm_428 (Nat.le_of_ble_eq_true rfl) ?_
  refine e_aload_n i_G_init_4 rfl ?_
  refine e_new i_G_init_5 rfl ?_
  refine e_dup i_G_init_8 rfl ?_
  refine e_callV (as := [.ref s.length]) (st' := [.ref s.length, .ref w]) i_G_init_9 lm_429 (Or.inr (Or.inr ⟨rfl, rfl⟩)) w_World_init rfl rfl rfl (Nat.le_of_ble_eq_true rfl) (Nat.le_of_ble_eq_true rfl) (m_rlt (q_World_init _) (by decide)) rfl (fun s9 => ?_)
  refine e_putf i_G_init_12 lf_2 ft_10_0 rfl (fun s12 => ?_)
  refine e_aload_n i_G_init_15 rfl ?_
  refine e_new i_G_init_16 rfl ?_
  refine e_dup i_G_init_19 rfl ?_
  refine e_callV (as := [.ref s12.length]) (st' := [.ref s12.length, .ref w]) i_G_init_20 lm_430 (Or.inr (Or.inr ⟨rfl, rfl⟩)) w_Steps_init rfl rfl rfl (Nat.le_of_ble_eq_true rfl) (Nat.le_of_ble_eq_true rfl) (m_rlt (q_Steps_init _) (by decide)) rfl (fun s20 => ?_)
  refine e_putf i_G_init_23 lf_7 ft_10_1 rfl (fun s23 => ?_)
  refine e_aload_n i_G_init_26 rfl ?_
  refine e_new i_G_init_27 rfl ?_
  refine e_dup i_G_init_30 rfl ?_
  refine e_callV (as := [.ref s23.length]) (st' := [.ref s23.length, .ref w]) i_G_init_31 lm_431 (Or.inr (Or.inr ⟨rfl, rfl⟩)) w_Told_init rfl rfl rfl (Nat.le_of_ble_eq_true rfl) (Nat.le_of_ble_eq_true rfl) (m_rlt (q_Told_init _) (by decide)) rfl (fun s31 => ?_)
  refine e_putf i_G_init_34 lf_4 ft_10_2 rfl (fun s34 => ?_)
  refine e_aload_n i_G_init_37 rfl ?_
  refine e_new i_G_init_38 rfl ?_
  refine e_dup i_G_init_41 rfl ?_
  refine e_callV (as := [.ref s34.length]) (st' := [.ref s34.length, .ref w]) i_G_init_42 lm_429 (Or.inr (Or.inr ⟨rfl, rfl⟩)) w_World_init rfl rfl rfl (Nat.le_of_ble_eq_true rfl) (Nat.le_of_ble_eq_true rfl) (m_rlt (q_World_init _) (by decide)) rfl (fun s42 => ?_)
  refine e_putf i_G_init_45 lf_17 ft_10_3 rfl (fun s45 => ?_)
  refine e_aload_n i_G_init_48 rfl ?_
  refine e_new i_G_init_49 rfl ?_
  refine e_dup i_G_init_52 rfl ?_
  refine e_callV (as := [.ref s45.length]) (st' := [.ref s45.length, .ref w]) i_G_init_53 lm_430 (Or.inr (Or.inr ⟨rfl, rfl⟩)) w_Steps_init rfl rfl rfl (Nat.le_of_ble_eq_true rfl) (Nat.le_of_ble_eq_true rfl) (m_rlt (q_Steps_init _) (by decide)) rfl (fun s53 => ?_)
  refine e_putf i_G_init_56 lf_18 ft_10_4 rfl (fun s56 => ?_)
  refine e_aload_n i_G_init_59 rfl ?_
  refine e_new i_G_init_60 rfl ?_
  refine e_dup i_G_init_63 rfl ?_
  refine e_callV (as := [.ref s56.length]) (st' := [.ref s56.length, .ref w]) i_G_init_64 lm_431 (Or.inr (Or.inr ⟨rfl, rfl⟩)) w_Told_init rfl rfl rfl (Nat.le_of_ble_eq_true rfl) (Nat.le_of_ble_eq_true rfl) (m_rlt (q_Told_init _) (by decide)) rfl (fun s64 => ?_)
  refine e_putf i_G_init_67 lf_19 ft_10_5 rfl (fun s67 => ?_)
  refine e_aload_n i_G_init_70 rfl ?_
  refine e_new i_G_init_71 rfl ?_
  refine e_dup i_G_init_74 rfl ?_
  refine e_callV (as := [.ref s67.length]) (st' := [.ref s67.length, .ref w]) i_G_init_75 lm_429 (Or.inr (Or.inr ⟨rfl, rfl⟩)) w_World_init rfl rfl rfl (Nat.le_of_ble_eq_true rfl) (Nat.le_of_ble_eq_true rfl) (m_rlt (q_World_init _) (by decide)) rfl (fun s75 => ?_)
  refine e_putf i_G_init_78 lf_76 ft_10_6 rfl (fun s78 => ?_)
  refine e_aload_n i_G_init_81 rfl ?_
  refine e_iconst (v := 4) i_G_init_82 (by decide) ?_
  refine e_newA i_G_init_83 ?_
  refine e_putf i_G_init_86 lf_92 ft_10_7 rfl (fun s86 => ?_)
  refine e_iconst (v := 0) i_G_init_89 (by decide) ?_
  refine e_istore_n (L' := [some (.ref w), some (.int 0)]) i_G_init_90 (of_decide_eq_true rfl) rfl ?_
  exact rfl
set_option maxRecDepth 20000 in
set_option maxHeartbeats 1000000 in
theorem E_G_init_91 (x : m_X) (ρ : Nat) (hρ : 4 ≤ ρ) (s : m_H) (w : Nat) (n1 : Int32)  : m_D x ρ k_G_init 91 [some (.ref w), some (.int n1)] [] s = if 4 ≤ n1 then (if s.length < 900 then (m_bV (m_M x k_Reader_init [.ref s.length] (s ++ [.inr (3, m_nf 3)])) fun s120 => (m_pf s120 10 8 w (.ref s.length)).bind fun s123 => if s123.length < 900 then (m_bV (m_M x k_Law_init [.ref s123.length] (s123 ++ [.inr (1, m_nf 1)])) fun s131 => (m_pf s131 10 9 w (.ref s123.length)).bind fun s134 => if s134.length < 900 then (m_bV (m_M x k_Weddings_init [.ref s134.length] (s134 ++ [.inr (8, m_nf 8)])) fun s142 => (m_pf s142 10 10 w (.ref s134.length)).bind fun s145 => if s145.length < 900 then (m_bV (m_M x k_Duties_init [.ref s145.length] (s145 ++ [.inr (0, m_nf 0)])) fun s153 => (m_pf s153 10 11 w (.ref s145.length)).bind fun s156 => if s156.length < 900 then (m_bV (m_M x k_Puzzles_init [.ref s156.length] (s156 ++ [.inr (2, m_nf 2)])) fun s164 => (m_pf s164 10 12 w (.ref s156.length)).bind fun s167 => some (none, s167)) else none) else none) else none) else none) else none) else (m_fR s 10 7 w).bind fun v97 => if s.length < 900 then (m_bV (m_M x k_Script_init [.ref s.length] (s ++ [.inr (5, m_nf 5)])) fun s105 => (m_as s105 v97 n1 s.length).bind fun s108 => m_D x ρ k_G_init 91 [some (.ref w), some (.int (n1 + (1 : Int32)))] [] s108) else none := by
  refine e_iload_n i_G_init_91 rfl ?_
  refine e_iconst (v := 4) i_G_init_92 (by decide) ?_
  refine e_icmpge (t := 115) i_G_init_93 (by decide) ?_ ?_
  · refine e_aload_n i_G_init_115 rfl ?_
    refine e_new i_G_init_116 rfl ?_
    refine e_dup i_G_init_119 rfl ?_
    refine e_callV (as := [.ref s.length]) (st' := [.ref s.length, .ref w]) i_G_init_120 lm_433 (Or.inr (Or.inr ⟨rfl, rfl⟩)) w_Reader_init rfl rfl rfl (Nat.le_of_ble_eq_true rfl) (Nat.le_of_ble_eq_true rfl) (m_rlt (q_Reader_init _) (Nat.lt_of_lt_of_le (by decide) hρ)) rfl (fun s120 => ?_)
    refine e_putf i_G_init_123 lf_14 ft_10_8 rfl (fun s123 => ?_)
    refine e_aload_n i_G_init_126 rfl ?_
    refine e_new i_G_init_127 rfl ?_
    refine e_dup i_G_init_130 rfl ?_
    refine e_callV (as := [.ref s123.length]) (st' := [.ref s123.length, .ref w]) i_G_init_131 lm_434 (Or.inr (Or.inr ⟨rfl, rfl⟩)) w_Law_init rfl rfl rfl (Nat.le_of_ble_eq_true rfl) (Nat.le_of_ble_eq_true rfl) (m_rlt (q_Law_init _) (Nat.lt_of_lt_of_le (by decide) hρ)) rfl (fun s131 => ?_)
    refine e_putf i_G_init_134 lf_34 ft_10_9 rfl (fun s134 => ?_)
    refine e_aload_n i_G_init_137 rfl ?_
    refine e_new i_G_init_138 rfl ?_
    refine e_dup i_G_init_141 rfl ?_
    refine e_callV (as := [.ref s134.length]) (st' := [.ref s134.length, .ref w]) i_G_init_142 lm_435 (Or.inr (Or.inr ⟨rfl, rfl⟩)) w_Weddings_init rfl rfl rfl (Nat.le_of_ble_eq_true rfl) (Nat.le_of_ble_eq_true rfl) (m_rlt (q_Weddings_init _) (Nat.lt_of_lt_of_le (by decide) hρ)) rfl (fun s142 => ?_)
    refine e_putf i_G_init_145 lf_60 ft_10_10 rfl (fun s145 => ?_)
    refine e_aload_n i_G_init_148 rfl ?_
    refine e_new i_G_init_149 rfl ?_
    refine e_dup i_G_init_152 rfl ?_
    refine e_callV (as := [.ref s145.length]) (st' := [.ref s145.length, .ref w]) i_G_init_153 lm_436 (Or.inr (Or.inr ⟨rfl, rfl⟩)) w_Duties_init rfl rfl rfl (Nat.le_of_ble_eq_true rfl) (Nat.le_of_ble_eq_true rfl) (m_rlt (q_Duties_init _) (Nat.lt_of_lt_of_le (by decide) hρ)) rfl (fun s153 => ?_)
    refine e_putf i_G_init_156 lf_37 ft_10_11 rfl (fun s156 => ?_)
    refine e_aload_n i_G_init_159 rfl ?_
    refine e_new i_G_init_160 rfl ?_
    refine e_dup i_G_init_163 rfl ?_
    refine e_callV (as := [.ref s156.length]) (st' := [.ref s156.length, .ref w]) i_G_init_164 lm_437 (Or.inr (Or.inr ⟨rfl, rfl⟩)) w_Puzzles_init rfl rfl rfl (Nat.le_of_ble_eq_true rfl) (Nat.le_of_ble_eq_true rfl) (m_rlt (q_Puzzles_init _) (Nat.lt_of_lt_of_le (by decide) hρ)) rfl (fun s164 => ?_)
    refine e_putf i_G_init_167 lf_43 ft_10_12 rfl (fun s167 => ?_)
    exact e_vret i_G_init_170 rfl
  · refine e_aload_n i_G_init_96 rfl ?_
    refine e_getR i_G_init_97 lf_92 (by decide) ft_10_7 (fun v97 => ?_)
    refine e_iload_n i_G_init_100 rfl ?_
    refine e_new i_G_init_101 rfl ?_
    refine e_dup i_G_init_104 rfl ?_
    refine e_callV (as := [.ref s.length]) (st' := [.ref s.length, .int n1, .ref v97]) i_G_init_105 lm_432 (Or.inr (Or.inr ⟨rfl, rfl⟩)) w_Script_init rfl rfl rfl (Nat.le_of_ble_eq_true rfl) (Nat.le_of_ble_eq_true rfl) (m_rlt (q_Script_init _) (Nat.lt_of_lt_of_le (by decide) hρ)) rfl (fun s105 => ?_)
    refine e_aast i_G_init_108 (fun s108 => ?_)
    refine e_iinc (w := 1) (L' := [some (.ref w), some (.int (n1 + (1 : Int32)))]) i_G_init_109 rfl (of_decide_eq_true rfl) (by decide) rfl ?_
    refine e_goto (t := 91) i_G_init_112 (by decide) ?_
    exact rfl
theorem i_Told_takeOver_0 : m_at k_Told_takeOver 0 = some (.aload_n 0, 1, 0) := m_at_of r_Told_takeOver (by decide +kernel)
theorem i_Told_takeOver_1 : m_at k_Told_takeOver 1 = some (.getfield 14, 3, 20) := m_at_of r_Told_takeOver (by decide +kernel)
theorem i_Told_takeOver_4 : m_at k_Told_takeOver 4 = some (.aload_n 1, 1, 0) := m_at_of r_Told_takeOver (by decide +kernel)
theorem i_Told_takeOver_5 : m_at k_Told_takeOver 5 = some (.getfield 14, 3, 20) := m_at_of r_Told_takeOver (by decide +kernel)
theorem i_Told_takeOver_8 : m_at k_Told_takeOver 8 = some (.invokevirtual 46, 3, 101) := m_at_of r_Told_takeOver (by decide +kernel)
theorem i_Told_takeOver_11 : m_at k_Told_takeOver 11 = some (.aload_n 0, 1, 0) := m_at_of r_Told_takeOver (by decide +kernel)
theorem i_Told_takeOver_12 : m_at k_Told_takeOver 12 = some (.getfield 24, 3, 21) := m_at_of r_Told_takeOver (by decide +kernel)
theorem i_Told_takeOver_15 : m_at k_Told_takeOver 15 = some (.aload_n 1, 1, 0) := m_at_of r_Told_takeOver (by decide +kernel)
theorem i_Told_takeOver_16 : m_at k_Told_takeOver 16 = some (.getfield 24, 3, 21) := m_at_of r_Told_takeOver (by decide +kernel)
theorem i_Told_takeOver_19 : m_at k_Told_takeOver 19 = some (.invokevirtual 46, 3, 101) := m_at_of r_Told_takeOver (by decide +kernel)
theorem i_Told_takeOver_22 : m_at k_Told_takeOver 22 = some (.aload_n 0, 1, 0) := m_at_of r_Told_takeOver (by decide +kernel)
theorem i_Told_takeOver_23 : m_at k_Told_takeOver 23 = some (.getfield 27, 3, 22) := m_at_of r_Told_takeOver (by decide +kernel)
theorem i_Told_takeOver_26 : m_at k_Told_takeOver 26 = some (.aload_n 1, 1, 0) := m_at_of r_Told_takeOver (by decide +kernel)
theorem i_Told_takeOver_27 : m_at k_Told_takeOver 27 = some (.getfield 27, 3, 22) := m_at_of r_Told_takeOver (by decide +kernel)
theorem i_Told_takeOver_30 : m_at k_Told_takeOver 30 = some (.invokevirtual 46, 3, 101) := m_at_of r_Told_takeOver (by decide +kernel)
theorem i_Told_takeOver_33 : m_at k_Told_takeOver 33 = some (.aload_n 0, 1, 0) := m_at_of r_Told_takeOver (by decide +kernel)
theorem i_Told_takeOver_34 : m_at k_Told_takeOver 34 = some (.getfield 30, 3, 23) := m_at_of r_Told_takeOver (by decide +kernel)
theorem i_Told_takeOver_37 : m_at k_Told_takeOver 37 = some (.aload_n 1, 1, 0) := m_at_of r_Told_takeOver (by decide +kernel)
theorem i_Told_takeOver_38 : m_at k_Told_takeOver 38 = some (.getfield 30, 3, 23) := m_at_of r_Told_takeOver (by decide +kernel)
theorem i_Told_takeOver_41 : m_at k_Told_takeOver 41 = some (.invokevirtual 46, 3, 101) := m_at_of r_Told_takeOver (by decide +kernel)
theorem i_Told_takeOver_44 : m_at k_Told_takeOver 44 = some (.aload_n 0, 1, 0) := m_at_of r_Told_takeOver (by decide +kernel)
theorem i_Told_takeOver_45 : m_at k_Told_takeOver 45 = some (.getfield 33, 3, 24) := m_at_of r_Told_takeOver (by decide +kernel)
theorem i_Told_takeOver_48 : m_at k_Told_takeOver 48 = some (.aload_n 1, 1, 0) := m_at_of r_Told_takeOver (by decide +kernel)
theorem i_Told_takeOver_49 : m_at k_Told_takeOver 49 = some (.getfield 33, 3, 24) := m_at_of r_Told_takeOver (by decide +kernel)
theorem i_Told_takeOver_52 : m_at k_Told_takeOver 52 = some (.invokevirtual 46, 3, 101) := m_at_of r_Told_takeOver (by decide +kernel)
theorem i_Told_takeOver_55 : m_at k_Told_takeOver 55 = some (.aload_n 0, 1, 0) := m_at_of r_Told_takeOver (by decide +kernel)
theorem i_Told_takeOver_56 : m_at k_Told_takeOver 56 = some (.getfield 36, 3, 25) := m_at_of r_Told_takeOver (by decide +kernel)
theorem i_Told_takeOver_59 : m_at k_Told_takeOver 59 = some (.aload_n 1, 1, 0) := m_at_of r_Told_takeOver (by decide +kernel)
theorem i_Told_takeOver_60 : m_at k_Told_takeOver 60 = some (.getfield 36, 3, 25) := m_at_of r_Told_takeOver (by decide +kernel)
theorem i_Told_takeOver_63 : m_at k_Told_takeOver 63 = some (.invokevirtual 46, 3, 101) := m_at_of r_Told_takeOver (by decide +kernel)
theorem i_Told_takeOver_66 : m_at k_Told_takeOver 66 = some (.aload_n 0, 1, 0) := m_at_of r_Told_takeOver (by decide +kernel)
theorem i_Told_takeOver_67 : m_at k_Told_takeOver 67 = some (.getfield 39, 3, 26) := m_at_of r_Told_takeOver (by decide +kernel)
theorem i_Told_takeOver_70 : m_at k_Told_takeOver 70 = some (.aload_n 1, 1, 0) := m_at_of r_Told_takeOver (by decide +kernel)
theorem i_Told_takeOver_71 : m_at k_Told_takeOver 71 = some (.getfield 39, 3, 26) := m_at_of r_Told_takeOver (by decide +kernel)
theorem i_Told_takeOver_74 : m_at k_Told_takeOver 74 = some (.invokevirtual 46, 3, 101) := m_at_of r_Told_takeOver (by decide +kernel)
theorem i_Told_takeOver_77 : m_at k_Told_takeOver 77 = some (.aload_n 0, 1, 0) := m_at_of r_Told_takeOver (by decide +kernel)
theorem i_Told_takeOver_78 : m_at k_Told_takeOver 78 = some (.aload_n 1, 1, 0) := m_at_of r_Told_takeOver (by decide +kernel)
theorem i_Told_takeOver_79 : m_at k_Told_takeOver 79 = some (.getfield 50, 3, 27) := m_at_of r_Told_takeOver (by decide +kernel)
theorem i_Told_takeOver_82 : m_at k_Told_takeOver 82 = some (.putfield 50, 3, 27) := m_at_of r_Told_takeOver (by decide +kernel)
theorem i_Told_takeOver_85 : m_at k_Told_takeOver 85 = some (.aload_n 0, 1, 0) := m_at_of r_Told_takeOver (by decide +kernel)
theorem i_Told_takeOver_86 : m_at k_Told_takeOver 86 = some (.aload_n 1, 1, 0) := m_at_of r_Told_takeOver (by decide +kernel)
theorem i_Told_takeOver_87 : m_at k_Told_takeOver 87 = some (.getfield 42, 3, 28) := m_at_of r_Told_takeOver (by decide +kernel)
theorem i_Told_takeOver_90 : m_at k_Told_takeOver 90 = some (.putfield 42, 3, 28) := m_at_of r_Told_takeOver (by decide +kernel)
theorem i_Told_takeOver_93 : m_at k_Told_takeOver 93 = some (.return_, 1, 0) := m_at_of r_Told_takeOver (by decide +kernel)
set_option maxRecDepth 20000 in
set_option maxHeartbeats 1000000 in
theorem E_Told_takeOver (x : m_X) (s : m_H) (w : Nat) (r1 : Nat) : m_M x k_Told_takeOver [.ref w, .ref r1] s = if m_isO s w 7 = true then ((m_fR s 7 0 w).bind fun v1 => (m_fR s 7 0 r1).bind fun v5 => m_bV (m_M x k_Row_takeOver [.ref v1, .ref v5] s) fun s8 => (m_fR s8 7 1 w).bind fun v12 => (m_fR s8 7 1 r1).bind fun v16 => m_bV (m_M x k_Row_takeOver [.ref v12, .ref v16] s8) fun s19 => (m_fR s19 7 2 w).bind fun v23 => (m_fR s19 7 2 r1).bind fun v27 => m_bV (m_M x k_Row_takeOver [.ref v23, .ref v27] s19) fun s30 => (m_fR s30 7 3 w).bind fun v34 => (m_fR s30 7 3 r1).bind fun v38 => m_bV (m_M x k_Row_takeOver [.ref v34, .ref v38] s30) fun s41 => (m_fR s41 7 4 w).bind fun v45 => (m_fR s41 7 4 r1).bind fun v49 => m_bV (m_M x k_Row_takeOver [.ref v45, .ref v49] s41) fun s52 => (m_fR s52 7 5 w).bind fun v56 => (m_fR s52 7 5 r1).bind fun v60 => m_bV (m_M x k_Row_takeOver [.ref v56, .ref v60] s52) fun s63 => (m_fR s63 7 6 w).bind fun v67 => (m_fR s63 7 6 r1).bind fun v71 => m_bV (m_M x k_Row_takeOver [.ref v67, .ref v71] s63) fun s74 => (m_fI s74 7 7 r1).bind fun v79 => (m_pf s74 7 7 w (.int v79)).bind fun s82 => (m_fI s82 7 8 r1).bind fun v87 => (m_pf s82 7 8 w (.int v87)).bind fun s90 => some (none, s90)) else none := by
  refine e_M1 (L0 := [some (.ref w), some (.ref r1)]) rfl (by decide +kernel) rfl (q_Told_takeOver _) rfl ?_
  refine e_aload_n i_Told_takeOver_0 rfl ?_
  refine e_getR i_Told_takeOver_1 lf_20 (by decide) ft_7_0 (fun v1 => ?_)
  refine e_aload_n i_Told_takeOver_4 rfl ?_
  refine e_getR i_Told_takeOver_5 lf_20 (by decide) ft_7_0 (fun v5 => ?_)
  refine e_callV (as := [.ref v1, .ref v5]) (st' := []) i_Told_takeOver_8 lm_101 (Or.inr (Or.inl ⟨rfl, rfl⟩)) w_Row_takeOver rfl rfl rfl (Nat.le_of_ble_eq_true rfl) (Nat.le_of_ble_eq_true rfl) (m_rlt (q_Row_takeOver _) (by decide)) rfl (fun s8 => ?_)
  refine e_aload_n i_Told_takeOver_11 rfl ?_
  refine e_getR i_Told_takeOver_12 lf_21 (by decide) ft_7_1 (fun v12 => ?_)
  refine e_aload_n i_Told_takeOver_15 rfl ?_
  refine e_getR i_Told_takeOver_16 lf_21 (by decide) ft_7_1 (fun v16 => ?_)
  refine e_callV (as := [.ref v12, .ref v16]) (st' := []) i_Told_takeOver_19 lm_101 (Or.inr (Or.inl ⟨rfl, rfl⟩)) w_Row_takeOver rfl rfl rfl (Nat.le_of_ble_eq_true rfl) (Nat.le_of_ble_eq_true rfl) (m_rlt (q_Row_takeOver _) (by decide)) rfl (fun s19 => ?_)
  refine e_aload_n i_Told_takeOver_22 rfl ?_
  refine e_getR i_Told_takeOver_23 lf_22 (by decide) ft_7_2 (fun v23 => ?_)
  refine e_aload_n i_Told_takeOver_26 rfl ?_
  refine e_getR i_Told_takeOver_27 lf_22 (by decide) ft_7_2 (fun v27 => ?_)
  refine e_callV (as := [.ref v23, .ref v27]) (st' := []) i_Told_takeOver_30 lm_101 (Or.inr (Or.inl ⟨rfl, rfl⟩)) w_Row_takeOver rfl rfl rfl (Nat.le_of_ble_eq_true rfl) (Nat.le_of_ble_eq_true rfl) (m_rlt (q_Row_takeOver _) (by decide)) rfl (fun s30 => ?_)
  refine e_aload_n i_Told_takeOver_33 rfl ?_
  refine e_getR i_Told_takeOver_34 lf_23 (by decide) ft_7_3 (fun v34 => ?_)
  refine e_aload_n i_Told_takeOver_37 rfl ?_
  refine e_getR i_Told_takeOver_38 lf_23 (by decide) ft_7_3 (fun v38 => ?_)
  refine e_callV (as := [.ref v34, .ref v38]) (st' := []) i_Told_takeOver_41 lm_101 (Or.inr (Or.inl ⟨rfl, rfl⟩)) w_Row_takeOver rfl rfl rfl (Nat.le_of_ble_eq_true rfl) (Nat.le_of_ble_eq_true rfl) (m_rlt (q_Row_takeOver _) (by decide)) rfl (fun s41 => ?_)
  refine e_aload_n i_Told_takeOver_44 rfl ?_
  refine e_getR i_Told_takeOver_45 lf_24 (by decide) ft_7_4 (fun v45 => ?_)
  refine e_aload_n i_Told_takeOver_48 rfl ?_
  refine e_getR i_Told_takeOver_49 lf_24 (by decide) ft_7_4 (fun v49 => ?_)
  refine e_callV (as := [.ref v45, .ref v49]) (st' := []) i_Told_takeOver_52 lm_101 (Or.inr (Or.inl ⟨rfl, rfl⟩)) w_Row_takeOver rfl rfl rfl (Nat.le_of_ble_eq_true rfl) (Nat.le_of_ble_eq_true rfl) (m_rlt (q_Row_takeOver _) (by decide)) rfl (fun s52 => ?_)
  refine e_aload_n i_Told_takeOver_55 rfl ?_
  refine e_getR i_Told_takeOver_56 lf_25 (by decide) ft_7_5 (fun v56 => ?_)
  refine e_aload_n i_Told_takeOver_59 rfl ?_
  refine e_getR i_Told_takeOver_60 lf_25 (by decide) ft_7_5 (fun v60 => ?_)
  refine e_callV (as := [.ref v56, .ref v60]) (st' := []) i_Told_takeOver_63 lm_101 (Or.inr (Or.inl ⟨rfl, rfl⟩)) w_Row_takeOver rfl rfl rfl (Nat.le_of_ble_eq_true rfl) (Nat.le_of_ble_eq_true rfl) (m_rlt (q_Row_takeOver _) (by decide)) rfl (fun s63 => ?_)
  refine e_aload_n i_Told_takeOver_66 rfl ?_
  refine e_getR i_Told_takeOver_67 lf_26 (by decide) ft_7_6 (fun v67 => ?_)
  refine e_aload_n i_Told_takeOver_70 rfl ?_
  refine e_getR i_Told_takeOver_71 lf_26 (by decide) ft_7_6 (fun v71 => ?_)
  refine e_callV (as := [.ref v67, .ref v71]) (st' := []) i_Told_takeOver_74 lm_101 (Or.inr (Or.inl ⟨rfl, rfl⟩)) w_Row_takeOver rfl rfl rfl (Nat.le_of_ble_eq_true rfl) (Nat.le_of_ble_eq_true rfl) (m_rlt (q_Row_takeOver _) (by decide)) rfl (fun s74 => ?_)
  refine e_aload_n i_Told_takeOver_77 rfl ?_
  refine e_aload_n i_Told_takeOver_78 rfl ?_
  refine e_getI i_Told_takeOver_79 lf_27 (by decide) (Or.inl ft_7_7) (fun v79 => ?_)
  refine e_putf i_Told_takeOver_82 lf_27 ft_7_7 rfl (fun s82 => ?_)
  refine e_aload_n i_Told_takeOver_85 rfl ?_
  refine e_aload_n i_Told_takeOver_86 rfl ?_
  refine e_getI i_Told_takeOver_87 lf_28 (by decide) (Or.inl ft_7_8) (fun v87 => ?_)
  refine e_putf i_Told_takeOver_90 lf_28 ft_7_8 rfl (fun s90 => ?_)
  exact e_vret i_Told_takeOver_93 rfl
theorem i_Told_init_0 : m_at k_Told_init 0 = some (.aload_n 0, 1, 0) := m_at_of r_Told_init (by decide +kernel)
theorem i_Told_init_1 : m_at k_Told_init 1 = some (.invokespecial 3, 3, 446) := m_at_of r_Told_init (by decide +kernel)
theorem i_Told_init_4 : m_at k_Told_init 4 = some (.aload_n 0, 1, 0) := m_at_of r_Told_init (by decide +kernel)
theorem i_Told_init_5 : m_at k_Told_init 5 = some (.new 9, 3, 13) := m_at_of r_Told_init (by decide +kernel)
theorem i_Told_init_8 : m_at k_Told_init 8 = some (.dup, 1, 0) := m_at_of r_Told_init (by decide +kernel)
theorem i_Told_init_9 : m_at k_Told_init 9 = some (.bipush 12, 2, 0) := m_at_of r_Told_init (by decide +kernel)
theorem i_Told_init_11 : m_at k_Told_init 11 = some (.invokespecial 11, 3, 447) := m_at_of r_Told_init (by decide +kernel)
theorem i_Told_init_14 : m_at k_Told_init 14 = some (.putfield 14, 3, 20) := m_at_of r_Told_init (by decide +kernel)
theorem i_Told_init_17 : m_at k_Told_init 17 = some (.iconst 0, 1, 0) := m_at_of r_Told_init (by decide +kernel)
theorem i_Told_init_18 : m_at k_Told_init 18 = some (.istore_n 1, 1, 0) := m_at_of r_Told_init (by decide +kernel)
theorem i_Told_init_19 : m_at k_Told_init 19 = some (.iload_n 1, 1, 0) := m_at_of r_Told_init (by decide +kernel)
theorem i_Told_init_20 : m_at k_Told_init 20 = some (.bipush 12, 2, 0) := m_at_of r_Told_init (by decide +kernel)
theorem i_Told_init_22 : m_at k_Told_init 22 = some (.if_icmp .ge (18), 3, 0) := m_at_of r_Told_init (by decide +kernel)
theorem i_Told_init_25 : m_at k_Told_init 25 = some (.aload_n 0, 1, 0) := m_at_of r_Told_init (by decide +kernel)
theorem i_Told_init_26 : m_at k_Told_init 26 = some (.getfield 14, 3, 20) := m_at_of r_Told_init (by decide +kernel)
theorem i_Told_init_29 : m_at k_Told_init 29 = some (.iconst 1, 1, 0) := m_at_of r_Told_init (by decide +kernel)
theorem i_Told_init_30 : m_at k_Told_init 30 = some (.invokevirtual 20, 3, 448) := m_at_of r_Told_init (by decide +kernel)
theorem i_Told_init_33 : m_at k_Told_init 33 = some (.pop, 1, 0) := m_at_of r_Told_init (by decide +kernel)
theorem i_Told_init_34 : m_at k_Told_init 34 = some (.iinc 1 (1), 3, 0) := m_at_of r_Told_init (by decide +kernel)
theorem i_Told_init_37 : m_at k_Told_init 37 = some (.goto (-18), 3, 0) := m_at_of r_Told_init (by decide +kernel)
theorem i_Told_init_40 : m_at k_Told_init 40 = some (.aload_n 0, 1, 0) := m_at_of r_Told_init (by decide +kernel)
theorem i_Told_init_41 : m_at k_Told_init 41 = some (.new 9, 3, 13) := m_at_of r_Told_init (by decide +kernel)
theorem i_Told_init_44 : m_at k_Told_init 44 = some (.dup, 1, 0) := m_at_of r_Told_init (by decide +kernel)
theorem i_Told_init_45 : m_at k_Told_init 45 = some (.bipush 8, 2, 0) := m_at_of r_Told_init (by decide +kernel)
theorem i_Told_init_47 : m_at k_Told_init 47 = some (.invokespecial 11, 3, 447) := m_at_of r_Told_init (by decide +kernel)
theorem i_Told_init_50 : m_at k_Told_init 50 = some (.putfield 24, 3, 21) := m_at_of r_Told_init (by decide +kernel)
theorem i_Told_init_53 : m_at k_Told_init 53 = some (.aload_n 0, 1, 0) := m_at_of r_Told_init (by decide +kernel)
theorem i_Told_init_54 : m_at k_Told_init 54 = some (.new 9, 3, 13) := m_at_of r_Told_init (by decide +kernel)
theorem i_Told_init_57 : m_at k_Told_init 57 = some (.dup, 1, 0) := m_at_of r_Told_init (by decide +kernel)
theorem i_Told_init_58 : m_at k_Told_init 58 = some (.bipush 6, 2, 0) := m_at_of r_Told_init (by decide +kernel)
theorem i_Told_init_60 : m_at k_Told_init 60 = some (.invokespecial 11, 3, 447) := m_at_of r_Told_init (by decide +kernel)
theorem i_Told_init_63 : m_at k_Told_init 63 = some (.putfield 27, 3, 22) := m_at_of r_Told_init (by decide +kernel)
theorem i_Told_init_66 : m_at k_Told_init 66 = some (.aload_n 0, 1, 0) := m_at_of r_Told_init (by decide +kernel)
theorem i_Told_init_67 : m_at k_Told_init 67 = some (.new 9, 3, 13) := m_at_of r_Told_init (by decide +kernel)
theorem i_Told_init_70 : m_at k_Told_init 70 = some (.dup, 1, 0) := m_at_of r_Told_init (by decide +kernel)
theorem i_Told_init_71 : m_at k_Told_init 71 = some (.bipush 6, 2, 0) := m_at_of r_Told_init (by decide +kernel)
theorem i_Told_init_73 : m_at k_Told_init 73 = some (.invokespecial 11, 3, 447) := m_at_of r_Told_init (by decide +kernel)
theorem i_Told_init_76 : m_at k_Told_init 76 = some (.putfield 30, 3, 23) := m_at_of r_Told_init (by decide +kernel)
theorem i_Told_init_79 : m_at k_Told_init 79 = some (.aload_n 0, 1, 0) := m_at_of r_Told_init (by decide +kernel)
theorem i_Told_init_80 : m_at k_Told_init 80 = some (.new 9, 3, 13) := m_at_of r_Told_init (by decide +kernel)
theorem i_Told_init_83 : m_at k_Told_init 83 = some (.dup, 1, 0) := m_at_of r_Told_init (by decide +kernel)
theorem i_Told_init_84 : m_at k_Told_init 84 = some (.bipush 6, 2, 0) := m_at_of r_Told_init (by decide +kernel)
theorem i_Told_init_86 : m_at k_Told_init 86 = some (.invokespecial 11, 3, 447) := m_at_of r_Told_init (by decide +kernel)
theorem i_Told_init_89 : m_at k_Told_init 89 = some (.putfield 33, 3, 24) := m_at_of r_Told_init (by decide +kernel)
theorem i_Told_init_92 : m_at k_Told_init 92 = some (.aload_n 0, 1, 0) := m_at_of r_Told_init (by decide +kernel)
theorem i_Told_init_93 : m_at k_Told_init 93 = some (.new 9, 3, 13) := m_at_of r_Told_init (by decide +kernel)
theorem i_Told_init_96 : m_at k_Told_init 96 = some (.dup, 1, 0) := m_at_of r_Told_init (by decide +kernel)
theorem i_Told_init_97 : m_at k_Told_init 97 = some (.bipush 8, 2, 0) := m_at_of r_Told_init (by decide +kernel)
theorem i_Told_init_99 : m_at k_Told_init 99 = some (.invokespecial 11, 3, 447) := m_at_of r_Told_init (by decide +kernel)
theorem i_Told_init_102 : m_at k_Told_init 102 = some (.putfield 36, 3, 25) := m_at_of r_Told_init (by decide +kernel)
theorem i_Told_init_105 : m_at k_Told_init 105 = some (.aload_n 0, 1, 0) := m_at_of r_Told_init (by decide +kernel)
theorem i_Told_init_106 : m_at k_Told_init 106 = some (.new 9, 3, 13) := m_at_of r_Told_init (by decide +kernel)
theorem i_Told_init_109 : m_at k_Told_init 109 = some (.dup, 1, 0) := m_at_of r_Told_init (by decide +kernel)
theorem i_Told_init_110 : m_at k_Told_init 110 = some (.bipush 8, 2, 0) := m_at_of r_Told_init (by decide +kernel)
theorem i_Told_init_112 : m_at k_Told_init 112 = some (.invokespecial 11, 3, 447) := m_at_of r_Told_init (by decide +kernel)
theorem i_Told_init_115 : m_at k_Told_init 115 = some (.putfield 39, 3, 26) := m_at_of r_Told_init (by decide +kernel)
theorem i_Told_init_118 : m_at k_Told_init 118 = some (.aload_n 0, 1, 0) := m_at_of r_Told_init (by decide +kernel)
theorem i_Told_init_119 : m_at k_Told_init 119 = some (.iconst (-1), 1, 0) := m_at_of r_Told_init (by decide +kernel)
theorem i_Told_init_120 : m_at k_Told_init 120 = some (.putfield 42, 3, 28) := m_at_of r_Told_init (by decide +kernel)
theorem i_Told_init_123 : m_at k_Told_init 123 = some (.return_, 1, 0) := m_at_of r_Told_init (by decide +kernel)
set_option maxRecDepth 20000 in
set_option maxHeartbeats 1000000 in
theorem E_Told_init (x : m_X) (s : m_H) (w : Nat) : m_M x k_Told_init [.ref w] s = if s.length < 900 then (m_bV (m_M x k_Row_init [.ref s.length, .int 12] (s ++ [.inr (4, m_nf 4)])) fun s11 => (m_pf s11 7 0 w (.ref s.length)).bind fun s14 => m_D x 3 k_Told_init 19 [some (.ref w), some (.int 0)] [] s14) else none := by
  refine e_M2 (L0 := [some (.ref w), none]) rfl (q_Told_init _) rfl ?_
  refine e_aload_n i_Told_init_0 rfl ?_
  refine e_oinit i_Told_init_1 lm_446 (Nat.le_of_ble_eq_true rfl) ?_
  refine e_aload_n i_Told_init_4 rfl ?_
  refine e_new i_Told_init_5 rfl ?_
  refine e_dup i_Told_init_8 rfl ?_
  refine e_bipush (v := 12) i_Told_init_9 (by decide) ?_
  refine e_callV (as := [.ref s.length, .int 12]) (st' := [.ref s.length, .ref w]) i_Told_init_11 lm_447 (Or.inr (Or.inr ⟨rfl, rfl⟩)) w_Row_init rfl rfl rfl (Nat.le_of_ble_eq_true rfl) (Nat.le_of_ble_eq_true rfl) (m_rlt (q_Row_init _) (by decide)) rfl (fun s11 => ?_)
  refine e_putf i_Told_init_14 lf_20 ft_7_0 rfl (fun s14 => ?_)
  refine e_iconst (v := 0) i_Told_init_17 (by decide) ?_
  refine e_istore_n (L' := [some (.ref w), some (.int 0)]) i_Told_init_18 (of_decide_eq_true rfl) rfl ?_
  exact rfl
set_option maxRecDepth 20000 in
set_option maxHeartbeats 1000000 in
theorem E_Told_init_19 (x : m_X) (ρ : Nat) (hρ : 3 ≤ ρ) (s : m_H) (w : Nat) (n1 : Int32)  : m_D x ρ k_Told_init 19 [some (.ref w), some (.int n1)] [] s = if 12 ≤ n1 then (if s.length < 900 then (m_bV (m_M x k_Row_init [.ref s.length, .int 8] (s ++ [.inr (4, m_nf 4)])) fun s47 => (m_pf s47 7 1 w (.ref s.length)).bind fun s50 => if s50.length < 900 then (m_bV (m_M x k_Row_init [.ref s50.length, .int 6] (s50 ++ [.inr (4, m_nf 4)])) fun s60 => (m_pf s60 7 2 w (.ref s50.length)).bind fun s63 => if s63.length < 900 then (m_bV (m_M x k_Row_init [.ref s63.length, .int 6] (s63 ++ [.inr (4, m_nf 4)])) fun s73 => (m_pf s73 7 3 w (.ref s63.length)).bind fun s76 => if s76.length < 900 then (m_bV (m_M x k_Row_init [.ref s76.length, .int 6] (s76 ++ [.inr (4, m_nf 4)])) fun s86 => (m_pf s86 7 4 w (.ref s76.length)).bind fun s89 => if s89.length < 900 then (m_bV (m_M x k_Row_init [.ref s89.length, .int 8] (s89 ++ [.inr (4, m_nf 4)])) fun s99 => (m_pf s99 7 5 w (.ref s89.length)).bind fun s102 => if s102.length < 900 then (m_bV (m_M x k_Row_init [.ref s102.length, .int 8] (s102 ++ [.inr (4, m_nf 4)])) fun s112 => (m_pf s112 7 6 w (.ref s102.length)).bind fun s115 => (m_pf s115 7 8 w (.int (-1))).bind fun s120 => some (none, s120)) else none) else none) else none) else none) else none) else none) else (m_fR s 7 0 w).bind fun v26 => m_bI (m_M x k_Row_put [.ref v26, .int 1] s) fun v30 s30 => m_D x ρ k_Told_init 19 [some (.ref w), some (.int (n1 + (1 : Int32)))] [] s30 := by
  refine e_iload_n i_Told_init_19 rfl ?_
  refine e_bipush (v := 12) i_Told_init_20 (by decide) ?_
  refine e_icmpge (t := 40) i_Told_init_22 (by decide) ?_ ?_
  · refine e_aload_n i_Told_init_40 rfl ?_
    refine e_new i_Told_init_41 rfl ?_
    refine e_dup i_Told_init_44 rfl ?_
    refine e_bipush (v := 8) i_Told_init_45 (by decide) ?_
    refine e_callV (as := [.ref s.length, .int 8]) (st' := [.ref s.length, .ref w]) i_Told_init_47 lm_447 (Or.inr (Or.inr ⟨rfl, rfl⟩)) w_Row_init rfl rfl rfl (Nat.le_of_ble_eq_true rfl) (Nat.le_of_ble_eq_true rfl) (m_rlt (q_Row_init _) (Nat.lt_of_lt_of_le (by decide) hρ)) rfl (fun s47 => ?_)
    refine e_putf i_Told_init_50 lf_21 ft_7_1 rfl (fun s50 => ?_)
    refine e_aload_n i_Told_init_53 rfl ?_
    refine e_new i_Told_init_54 rfl ?_
    refine e_dup i_Told_init_57 rfl ?_
    refine e_bipush (v := 6) i_Told_init_58 (by decide) ?_
    refine e_callV (as := [.ref s50.length, .int 6]) (st' := [.ref s50.length, .ref w]) i_Told_init_60 lm_447 (Or.inr (Or.inr ⟨rfl, rfl⟩)) w_Row_init rfl rfl rfl (Nat.le_of_ble_eq_true rfl) (Nat.le_of_ble_eq_true rfl) (m_rlt (q_Row_init _) (Nat.lt_of_lt_of_le (by decide) hρ)) rfl (fun s60 => ?_)
    refine e_putf i_Told_init_63 lf_22 ft_7_2 rfl (fun s63 => ?_)
    refine e_aload_n i_Told_init_66 rfl ?_
    refine e_new i_Told_init_67 rfl ?_
    refine e_dup i_Told_init_70 rfl ?_
    refine e_bipush (v := 6) i_Told_init_71 (by decide) ?_
    refine e_callV (as := [.ref s63.length, .int 6]) (st' := [.ref s63.length, .ref w]) i_Told_init_73 lm_447 (Or.inr (Or.inr ⟨rfl, rfl⟩)) w_Row_init rfl rfl rfl (Nat.le_of_ble_eq_true rfl) (Nat.le_of_ble_eq_true rfl) (m_rlt (q_Row_init _) (Nat.lt_of_lt_of_le (by decide) hρ)) rfl (fun s73 => ?_)
    refine e_putf i_Told_init_76 lf_23 ft_7_3 rfl (fun s76 => ?_)
    refine e_aload_n i_Told_init_79 rfl ?_
    refine e_new i_Told_init_80 rfl ?_
    refine e_dup i_Told_init_83 rfl ?_
    refine e_bipush (v := 6) i_Told_init_84 (by decide) ?_
    refine e_callV (as := [.ref s76.length, .int 6]) (st' := [.ref s76.length, .ref w]) i_Told_init_86 lm_447 (Or.inr (Or.inr ⟨rfl, rfl⟩)) w_Row_init rfl rfl rfl (Nat.le_of_ble_eq_true rfl) (Nat.le_of_ble_eq_true rfl) (m_rlt (q_Row_init _) (Nat.lt_of_lt_of_le (by decide) hρ)) rfl (fun s86 => ?_)
    refine e_putf i_Told_init_89 lf_24 ft_7_4 rfl (fun s89 => ?_)
    refine e_aload_n i_Told_init_92 rfl ?_
    refine e_new i_Told_init_93 rfl ?_
    refine e_dup i_Told_init_96 rfl ?_
    refine e_bipush (v := 8) i_Told_init_97 (by decide) ?_
    refine e_callV (as := [.ref s89.length, .int 8]) (st' := [.ref s89.length, .ref w]) i_Told_init_99 lm_447 (Or.inr (Or.inr ⟨rfl, rfl⟩)) w_Row_init rfl rfl rfl (Nat.le_of_ble_eq_true rfl) (Nat.le_of_ble_eq_true rfl) (m_rlt (q_Row_init _) (Nat.lt_of_lt_of_le (by decide) hρ)) rfl (fun s99 => ?_)
    refine e_putf i_Told_init_102 lf_25 ft_7_5 rfl (fun s102 => ?_)
    refine e_aload_n i_Told_init_105 rfl ?_
    refine e_new i_Told_init_106 rfl ?_
    refine e_dup i_Told_init_109 rfl ?_
    refine e_bipush (v := 8) i_Told_init_110 (by decide) ?_
    refine e_callV (as := [.ref s102.length, .int 8]) (st' := [.ref s102.length, .ref w]) i_Told_init_112 lm_447 (Or.inr (Or.inr ⟨rfl, rfl⟩)) w_Row_init rfl rfl rfl (Nat.le_of_ble_eq_true rfl) (Nat.le_of_ble_eq_true rfl) (m_rlt (q_Row_init _) (Nat.lt_of_lt_of_le (by decide) hρ)) rfl (fun s112 => ?_)
    refine e_putf i_Told_init_115 lf_26 ft_7_6 rfl (fun s115 => ?_)
    refine e_aload_n i_Told_init_118 rfl ?_
    refine e_iconst (v := (-1)) i_Told_init_119 (by decide) ?_
    refine e_putf i_Told_init_120 lf_28 ft_7_8 rfl (fun s120 => ?_)
    exact e_vret i_Told_init_123 rfl
  · refine e_aload_n i_Told_init_25 rfl ?_
    refine e_getR i_Told_init_26 lf_20 (by decide) ft_7_0 (fun v26 => ?_)
    refine e_iconst (v := 1) i_Told_init_29 (by decide) ?_
    refine e_callI (as := [.ref v26, .int 1]) (st' := []) i_Told_init_30 lm_448 (Or.inr (Or.inl ⟨rfl, rfl⟩)) w_Row_put rfl rfl rfl (Nat.le_of_ble_eq_true rfl) (Nat.le_of_ble_eq_true rfl) (m_rlt (q_Row_put _) (Nat.lt_of_lt_of_le (by decide) hρ)) rfl (fun v30 s30 => ?_)
    refine e_pop i_Told_init_33 rfl ?_
    refine e_iinc (w := 1) (L' := [some (.ref w), some (.int (n1 + (1 : Int32)))]) i_Told_init_34 rfl (of_decide_eq_true rfl) (by decide) rfl ?_
    refine e_goto (t := 19) i_Told_init_37 (by decide) ?_
    exact rfl
theorem i_Row_takeOver_0 : m_at k_Row_takeOver 0 = some (.iconst 0, 1, 0) := m_at_of r_Row_takeOver (by decide +kernel)
theorem i_Row_takeOver_1 : m_at k_Row_takeOver 1 = some (.istore_n 2, 1, 0) := m_at_of r_Row_takeOver (by decide +kernel)
theorem i_Row_takeOver_2 : m_at k_Row_takeOver 2 = some (.iload_n 2, 1, 0) := m_at_of r_Row_takeOver (by decide +kernel)
theorem i_Row_takeOver_3 : m_at k_Row_takeOver 3 = some (.aload_n 0, 1, 0) := m_at_of r_Row_takeOver (by decide +kernel)
theorem i_Row_takeOver_4 : m_at k_Row_takeOver 4 = some (.getfield 13, 3, 29) := m_at_of r_Row_takeOver (by decide +kernel)
theorem i_Row_takeOver_7 : m_at k_Row_takeOver 7 = some (.arraylength, 1, 0) := m_at_of r_Row_takeOver (by decide +kernel)
theorem i_Row_takeOver_8 : m_at k_Row_takeOver 8 = some (.if_icmp .ge (20), 3, 0) := m_at_of r_Row_takeOver (by decide +kernel)
theorem i_Row_takeOver_11 : m_at k_Row_takeOver 11 = some (.aload_n 0, 1, 0) := m_at_of r_Row_takeOver (by decide +kernel)
theorem i_Row_takeOver_12 : m_at k_Row_takeOver 12 = some (.getfield 13, 3, 29) := m_at_of r_Row_takeOver (by decide +kernel)
theorem i_Row_takeOver_15 : m_at k_Row_takeOver 15 = some (.iload_n 2, 1, 0) := m_at_of r_Row_takeOver (by decide +kernel)
theorem i_Row_takeOver_16 : m_at k_Row_takeOver 16 = some (.aload_n 1, 1, 0) := m_at_of r_Row_takeOver (by decide +kernel)
theorem i_Row_takeOver_17 : m_at k_Row_takeOver 17 = some (.iload_n 2, 1, 0) := m_at_of r_Row_takeOver (by decide +kernel)
theorem i_Row_takeOver_18 : m_at k_Row_takeOver 18 = some (.invokevirtual 23, 3, 102) := m_at_of r_Row_takeOver (by decide +kernel)
theorem i_Row_takeOver_21 : m_at k_Row_takeOver 21 = some (.iastore, 1, 0) := m_at_of r_Row_takeOver (by decide +kernel)
theorem i_Row_takeOver_22 : m_at k_Row_takeOver 22 = some (.iinc 2 (1), 3, 0) := m_at_of r_Row_takeOver (by decide +kernel)
theorem i_Row_takeOver_25 : m_at k_Row_takeOver 25 = some (.goto (-23), 3, 0) := m_at_of r_Row_takeOver (by decide +kernel)
theorem i_Row_takeOver_28 : m_at k_Row_takeOver 28 = some (.aload_n 0, 1, 0) := m_at_of r_Row_takeOver (by decide +kernel)
theorem i_Row_takeOver_29 : m_at k_Row_takeOver 29 = some (.aload_n 1, 1, 0) := m_at_of r_Row_takeOver (by decide +kernel)
theorem i_Row_takeOver_30 : m_at k_Row_takeOver 30 = some (.getfield 19, 3, 30) := m_at_of r_Row_takeOver (by decide +kernel)
theorem i_Row_takeOver_33 : m_at k_Row_takeOver 33 = some (.putfield 19, 3, 30) := m_at_of r_Row_takeOver (by decide +kernel)
theorem i_Row_takeOver_36 : m_at k_Row_takeOver 36 = some (.return_, 1, 0) := m_at_of r_Row_takeOver (by decide +kernel)
set_option maxRecDepth 20000 in
set_option maxHeartbeats 1000000 in
theorem E_Row_takeOver (x : m_X) (s : m_H) (w : Nat) (r1 : Nat) : m_M x k_Row_takeOver [.ref w, .ref r1] s = if m_isO s w 4 = true then (m_D x 2 k_Row_takeOver 2 [some (.ref w), some (.ref r1), some (.int 0)] [] s) else none := by
  refine e_M1 (L0 := [some (.ref w), some (.ref r1), none]) rfl (by decide +kernel) rfl (q_Row_takeOver _) rfl ?_
  refine e_iconst (v := 0) i_Row_takeOver_0 (by decide) ?_
  refine e_istore_n (L' := [some (.ref w), some (.ref r1), some (.int 0)]) i_Row_takeOver_1 (of_decide_eq_true rfl) rfl ?_
  exact rfl
set_option maxRecDepth 20000 in
set_option maxHeartbeats 1000000 in
theorem E_Row_takeOver_2 (x : m_X) (ρ : Nat) (hρ : 2 ≤ ρ) (s : m_H) (w : Nat) (r1 : Nat) (n2 : Int32)  : m_D x ρ k_Row_takeOver 2 [some (.ref w), some (.ref r1), some (.int n2)] [] s = (m_fR s 4 0 w).bind fun v4 => (m_len x s v4).bind fun v7 => if v7 ≤ n2 then ((m_fI s 4 1 r1).bind fun v30 => (m_pf s 4 1 w (.int v30)).bind fun s33 => some (none, s33)) else (m_fR s 4 0 w).bind fun v12 => m_bI (m_M x k_Row_itemAt [.ref r1, .int n2] s) fun v18 s18 => (m_is s18 v12 n2 v18).bind fun s21 => m_D x ρ k_Row_takeOver 2 [some (.ref w), some (.ref r1), some (.int (n2 + (1 : Int32)))] [] s21 := by
  refine e_iload_n i_Row_takeOver_2 rfl ?_
  refine e_aload_n i_Row_takeOver_3 rfl ?_
  refine e_getR i_Row_takeOver_4 lf_29 (by decide) ft_4_0 (fun v4 => ?_)
  refine e_alen i_Row_takeOver_7 (fun v7 => ?_)
  refine e_icmpge (t := 28) i_Row_takeOver_8 (by decide) ?_ ?_
  · refine e_aload_n i_Row_takeOver_28 rfl ?_
    refine e_aload_n i_Row_takeOver_29 rfl ?_
    refine e_getI i_Row_takeOver_30 lf_30 (by decide) (Or.inl ft_4_1) (fun v30 => ?_)
    refine e_putf i_Row_takeOver_33 lf_30 ft_4_1 rfl (fun s33 => ?_)
    exact e_vret i_Row_takeOver_36 rfl
  · refine e_aload_n i_Row_takeOver_11 rfl ?_
    refine e_getR i_Row_takeOver_12 lf_29 (by decide) ft_4_0 (fun v12 => ?_)
    refine e_iload_n i_Row_takeOver_15 rfl ?_
    refine e_aload_n i_Row_takeOver_16 rfl ?_
    refine e_iload_n i_Row_takeOver_17 rfl ?_
    refine e_callI (as := [.ref r1, .int n2]) (st' := [.int n2, .ref v12]) i_Row_takeOver_18 lm_102 (Or.inr (Or.inl ⟨rfl, rfl⟩)) w_Row_itemAt rfl rfl rfl (Nat.le_of_ble_eq_true rfl) (Nat.le_of_ble_eq_true rfl) (m_rlt (q_Row_itemAt _) (Nat.lt_of_lt_of_le (by decide) hρ)) rfl (fun v18 s18 => ?_)
    refine e_iast i_Row_takeOver_21 (fun s21 => ?_)
    refine e_iinc (w := 1) (L' := [some (.ref w), some (.ref r1), some (.int (n2 + (1 : Int32)))]) i_Row_takeOver_22 rfl (of_decide_eq_true rfl) (by decide) rfl ?_
    refine e_goto (t := 2) i_Row_takeOver_25 (by decide) ?_
    exact rfl
theorem i_Row_itemAt_0 : m_at k_Row_itemAt 0 = some (.iload_n 1, 1, 0) := m_at_of r_Row_itemAt (by decide +kernel)
theorem i_Row_itemAt_1 : m_at k_Row_itemAt 1 = some (.ifCond .lt (21), 3, 0) := m_at_of r_Row_itemAt (by decide +kernel)
theorem i_Row_itemAt_4 : m_at k_Row_itemAt 4 = some (.iload_n 1, 1, 0) := m_at_of r_Row_itemAt (by decide +kernel)
theorem i_Row_itemAt_5 : m_at k_Row_itemAt 5 = some (.aload_n 0, 1, 0) := m_at_of r_Row_itemAt (by decide +kernel)
theorem i_Row_itemAt_6 : m_at k_Row_itemAt 6 = some (.getfield 13, 3, 29) := m_at_of r_Row_itemAt (by decide +kernel)
theorem i_Row_itemAt_9 : m_at k_Row_itemAt 9 = some (.arraylength, 1, 0) := m_at_of r_Row_itemAt (by decide +kernel)
theorem i_Row_itemAt_10 : m_at k_Row_itemAt 10 = some (.if_icmp .ge (12), 3, 0) := m_at_of r_Row_itemAt (by decide +kernel)
theorem i_Row_itemAt_13 : m_at k_Row_itemAt 13 = some (.aload_n 0, 1, 0) := m_at_of r_Row_itemAt (by decide +kernel)
theorem i_Row_itemAt_14 : m_at k_Row_itemAt 14 = some (.getfield 13, 3, 29) := m_at_of r_Row_itemAt (by decide +kernel)
theorem i_Row_itemAt_17 : m_at k_Row_itemAt 17 = some (.iload_n 1, 1, 0) := m_at_of r_Row_itemAt (by decide +kernel)
theorem i_Row_itemAt_18 : m_at k_Row_itemAt 18 = some (.iaload, 1, 0) := m_at_of r_Row_itemAt (by decide +kernel)
theorem i_Row_itemAt_19 : m_at k_Row_itemAt 19 = some (.goto (4), 3, 0) := m_at_of r_Row_itemAt (by decide +kernel)
theorem i_Row_itemAt_22 : m_at k_Row_itemAt 22 = some (.iconst 0, 1, 0) := m_at_of r_Row_itemAt (by decide +kernel)
theorem i_Row_itemAt_23 : m_at k_Row_itemAt 23 = some (.ireturn, 1, 0) := m_at_of r_Row_itemAt (by decide +kernel)
set_option maxRecDepth 20000 in
set_option maxHeartbeats 1000000 in
theorem E_Row_itemAt (x : m_X) (s : m_H) (w : Nat) (n1 : Int32) : m_M x k_Row_itemAt [.ref w, .int n1] s = if m_isO s w 4 = true then (if n1 < 0 then (some (some (.int 0), s)) else (m_fR s 4 0 w).bind fun v6 => (m_len x s v6).bind fun v9 => if v9 ≤ n1 then (some (some (.int 0), s)) else (m_fR s 4 0 w).bind fun v14 => (m_ia x s v14 n1).bind fun v18 => some (some (.int v18), s)) else none := by
  refine e_M1 (L0 := [some (.ref w), some (.int n1)]) rfl (by decide +kernel) rfl (q_Row_itemAt _) rfl ?_
  refine e_iload_n i_Row_itemAt_0 rfl ?_
  refine e_iflt (t := 22) i_Row_itemAt_1 (by decide) ?_ ?_
  · refine e_iconst (v := 0) i_Row_itemAt_22 (by decide) ?_
    exact e_iretI i_Row_itemAt_23 rfl
  · refine e_iload_n i_Row_itemAt_4 rfl ?_
    refine e_aload_n i_Row_itemAt_5 rfl ?_
    refine e_getR i_Row_itemAt_6 lf_29 (by decide) ft_4_0 (fun v6 => ?_)
    refine e_alen i_Row_itemAt_9 (fun v9 => ?_)
    refine e_icmpge (t := 22) i_Row_itemAt_10 (by decide) ?_ ?_
    · refine e_iconst (v := 0) i_Row_itemAt_22 (by decide) ?_
      exact e_iretI i_Row_itemAt_23 rfl
    · refine e_aload_n i_Row_itemAt_13 rfl ?_
      refine e_getR i_Row_itemAt_14 lf_29 (by decide) ft_4_0 (fun v14 => ?_)
      refine e_iload_n i_Row_itemAt_17 rfl ?_
      refine e_iald i_Row_itemAt_18 (fun v18 => ?_)
      refine e_goto (t := 23) i_Row_itemAt_19 (by decide) ?_
      exact e_iretI i_Row_itemAt_23 rfl
theorem i_Row_empty_0 : m_at k_Row_empty 0 = some (.aload_n 0, 1, 0) := m_at_of r_Row_empty (by decide +kernel)
theorem i_Row_empty_1 : m_at k_Row_empty 1 = some (.iconst 0, 1, 0) := m_at_of r_Row_empty (by decide +kernel)
theorem i_Row_empty_2 : m_at k_Row_empty 2 = some (.putfield 19, 3, 30) := m_at_of r_Row_empty (by decide +kernel)
theorem i_Row_empty_5 : m_at k_Row_empty 5 = some (.return_, 1, 0) := m_at_of r_Row_empty (by decide +kernel)
set_option maxRecDepth 20000 in
set_option maxHeartbeats 1000000 in
theorem E_Row_empty (x : m_X) (s : m_H) (w : Nat) : m_M x k_Row_empty [.ref w] s = if m_isO s w 4 = true then ((m_pf s 4 1 w (.int 0)).bind fun s2 => some (none, s2)) else none := by
  refine e_M1 (L0 := [some (.ref w)]) rfl (by decide +kernel) rfl (q_Row_empty _) rfl ?_
  refine e_aload_n i_Row_empty_0 rfl ?_
  refine e_iconst (v := 0) i_Row_empty_1 (by decide) ?_
  refine e_putf i_Row_empty_2 lf_30 ft_4_1 rfl (fun s2 => ?_)
  exact e_vret i_Row_empty_5 rfl
theorem i_Row_change_0 : m_at k_Row_change 0 = some (.iload_n 1, 1, 0) := m_at_of r_Row_change (by decide +kernel)
theorem i_Row_change_1 : m_at k_Row_change 1 = some (.ifCond .lt (19), 3, 0) := m_at_of r_Row_change (by decide +kernel)
theorem i_Row_change_4 : m_at k_Row_change 4 = some (.iload_n 1, 1, 0) := m_at_of r_Row_change (by decide +kernel)
theorem i_Row_change_5 : m_at k_Row_change 5 = some (.aload_n 0, 1, 0) := m_at_of r_Row_change (by decide +kernel)
theorem i_Row_change_6 : m_at k_Row_change 6 = some (.getfield 13, 3, 29) := m_at_of r_Row_change (by decide +kernel)
theorem i_Row_change_9 : m_at k_Row_change 9 = some (.arraylength, 1, 0) := m_at_of r_Row_change (by decide +kernel)
theorem i_Row_change_10 : m_at k_Row_change 10 = some (.if_icmp .ge (10), 3, 0) := m_at_of r_Row_change (by decide +kernel)
theorem i_Row_change_13 : m_at k_Row_change 13 = some (.aload_n 0, 1, 0) := m_at_of r_Row_change (by decide +kernel)
theorem i_Row_change_14 : m_at k_Row_change 14 = some (.getfield 13, 3, 29) := m_at_of r_Row_change (by decide +kernel)
theorem i_Row_change_17 : m_at k_Row_change 17 = some (.iload_n 1, 1, 0) := m_at_of r_Row_change (by decide +kernel)
theorem i_Row_change_18 : m_at k_Row_change 18 = some (.iload_n 2, 1, 0) := m_at_of r_Row_change (by decide +kernel)
theorem i_Row_change_19 : m_at k_Row_change 19 = some (.iastore, 1, 0) := m_at_of r_Row_change (by decide +kernel)
theorem i_Row_change_20 : m_at k_Row_change 20 = some (.return_, 1, 0) := m_at_of r_Row_change (by decide +kernel)
set_option maxRecDepth 20000 in
set_option maxHeartbeats 1000000 in
theorem E_Row_change (x : m_X) (s : m_H) (w : Nat) (n1 : Int32) (n2 : Int32) : m_M x k_Row_change [.ref w, .int n1, .int n2] s = if m_isO s w 4 = true then (if n1 < 0 then (some (none, s)) else (m_fR s 4 0 w).bind fun v6 => (m_len x s v6).bind fun v9 => if v9 ≤ n1 then (some (none, s)) else (m_fR s 4 0 w).bind fun v14 => (m_is s v14 n1 n2).bind fun s19 => some (none, s19)) else none := by
  refine e_M1 (L0 := [some (.ref w), some (.int n1), some (.int n2)]) rfl (by decide +kernel) rfl (q_Row_change _) rfl ?_
  refine e_iload_n i_Row_change_0 rfl ?_
  refine e_iflt (t := 20) i_Row_change_1 (by decide) ?_ ?_
  · exact e_vret i_Row_change_20 rfl
  · refine e_iload_n i_Row_change_4 rfl ?_
    refine e_aload_n i_Row_change_5 rfl ?_
    refine e_getR i_Row_change_6 lf_29 (by decide) ft_4_0 (fun v6 => ?_)
    refine e_alen i_Row_change_9 (fun v9 => ?_)
    refine e_icmpge (t := 20) i_Row_change_10 (by decide) ?_ ?_
    · exact e_vret i_Row_change_20 rfl
    · refine e_aload_n i_Row_change_13 rfl ?_
      refine e_getR i_Row_change_14 lf_29 (by decide) ft_4_0 (fun v14 => ?_)
      refine e_iload_n i_Row_change_17 rfl ?_
      refine e_iload_n i_Row_change_18 rfl ?_
      refine e_iast i_Row_change_19 (fun s19 => ?_)
      exact e_vret i_Row_change_20 rfl
theorem i_Row_put_0 : m_at k_Row_put 0 = some (.aload_n 0, 1, 0) := m_at_of r_Row_put (by decide +kernel)
theorem i_Row_put_1 : m_at k_Row_put 1 = some (.getfield 19, 3, 30) := m_at_of r_Row_put (by decide +kernel)
theorem i_Row_put_4 : m_at k_Row_put 4 = some (.ifCond .lt (15), 3, 0) := m_at_of r_Row_put (by decide +kernel)
theorem i_Row_put_7 : m_at k_Row_put 7 = some (.aload_n 0, 1, 0) := m_at_of r_Row_put (by decide +kernel)
theorem i_Row_put_8 : m_at k_Row_put 8 = some (.getfield 19, 3, 30) := m_at_of r_Row_put (by decide +kernel)
theorem i_Row_put_11 : m_at k_Row_put 11 = some (.aload_n 0, 1, 0) := m_at_of r_Row_put (by decide +kernel)
theorem i_Row_put_12 : m_at k_Row_put 12 = some (.getfield 13, 3, 29) := m_at_of r_Row_put (by decide +kernel)
theorem i_Row_put_15 : m_at k_Row_put 15 = some (.arraylength, 1, 0) := m_at_of r_Row_put (by decide +kernel)
theorem i_Row_put_16 : m_at k_Row_put 16 = some (.if_icmp .lt (5), 3, 0) := m_at_of r_Row_put (by decide +kernel)
theorem i_Row_put_19 : m_at k_Row_put 19 = some (.iconst 0, 1, 0) := m_at_of r_Row_put (by decide +kernel)
theorem i_Row_put_20 : m_at k_Row_put 20 = some (.ireturn, 1, 0) := m_at_of r_Row_put (by decide +kernel)
theorem i_Row_put_21 : m_at k_Row_put 21 = some (.aload_n 0, 1, 0) := m_at_of r_Row_put (by decide +kernel)
theorem i_Row_put_22 : m_at k_Row_put 22 = some (.getfield 13, 3, 29) := m_at_of r_Row_put (by decide +kernel)
theorem i_Row_put_25 : m_at k_Row_put 25 = some (.aload_n 0, 1, 0) := m_at_of r_Row_put (by decide +kernel)
theorem i_Row_put_26 : m_at k_Row_put 26 = some (.getfield 19, 3, 30) := m_at_of r_Row_put (by decide +kernel)
theorem i_Row_put_29 : m_at k_Row_put 29 = some (.iload_n 1, 1, 0) := m_at_of r_Row_put (by decide +kernel)
theorem i_Row_put_30 : m_at k_Row_put 30 = some (.iastore, 1, 0) := m_at_of r_Row_put (by decide +kernel)
theorem i_Row_put_31 : m_at k_Row_put 31 = some (.aload_n 0, 1, 0) := m_at_of r_Row_put (by decide +kernel)
theorem i_Row_put_32 : m_at k_Row_put 32 = some (.dup, 1, 0) := m_at_of r_Row_put (by decide +kernel)
theorem i_Row_put_33 : m_at k_Row_put 33 = some (.getfield 19, 3, 30) := m_at_of r_Row_put (by decide +kernel)
theorem i_Row_put_36 : m_at k_Row_put 36 = some (.iconst 1, 1, 0) := m_at_of r_Row_put (by decide +kernel)
theorem i_Row_put_37 : m_at k_Row_put 37 = some (.iadd, 1, 0) := m_at_of r_Row_put (by decide +kernel)
theorem i_Row_put_38 : m_at k_Row_put 38 = some (.putfield 19, 3, 30) := m_at_of r_Row_put (by decide +kernel)
theorem i_Row_put_41 : m_at k_Row_put 41 = some (.iconst 1, 1, 0) := m_at_of r_Row_put (by decide +kernel)
theorem i_Row_put_42 : m_at k_Row_put 42 = some (.ireturn, 1, 0) := m_at_of r_Row_put (by decide +kernel)
set_option maxRecDepth 20000 in
set_option maxHeartbeats 1000000 in
theorem E_Row_put (x : m_X) (s : m_H) (w : Nat) (n1 : Int32) : m_M x k_Row_put [.ref w, .int n1] s = if m_isO s w 4 = true then ((m_fI s 4 1 w).bind fun v1 => if v1 < 0 then (some (some (.int 0), s)) else (m_fI s 4 1 w).bind fun v8 => (m_fR s 4 0 w).bind fun v12 => (m_len x s v12).bind fun v15 => if v8 < v15 then ((m_fR s 4 0 w).bind fun v22 => (m_fI s 4 1 w).bind fun v26 => (m_is s v22 v26 n1).bind fun s30 => (m_fI s30 4 1 w).bind fun v33 => (m_pf s30 4 1 w (.int (v33 + (1 : Int32)))).bind fun s38 => some (some (.int 1), s38)) else some (some (.int 0), s)) else none := by
  refine e_M1 (L0 := [some (.ref w), some (.int n1)]) rfl (by decide +kernel) rfl (q_Row_put _) rfl ?_
  refine e_aload_n i_Row_put_0 rfl ?_
  refine e_getI i_Row_put_1 lf_30 (by decide) (Or.inl ft_4_1) (fun v1 => ?_)
  refine e_iflt (t := 19) i_Row_put_4 (by decide) ?_ ?_
  · refine e_iconst (v := 0) i_Row_put_19 (by decide) ?_
    exact e_iretZ i_Row_put_20 rfl (by decide)
  · refine e_aload_n i_Row_put_7 rfl ?_
    refine e_getI i_Row_put_8 lf_30 (by decide) (Or.inl ft_4_1) (fun v8 => ?_)
    refine e_aload_n i_Row_put_11 rfl ?_
    refine e_getR i_Row_put_12 lf_29 (by decide) ft_4_0 (fun v12 => ?_)
    refine e_alen i_Row_put_15 (fun v15 => ?_)
    refine e_icmplt (t := 21) i_Row_put_16 (by decide) ?_ ?_
    · refine e_aload_n i_Row_put_21 rfl ?_
      refine e_getR i_Row_put_22 lf_29 (by decide) ft_4_0 (fun v22 => ?_)
      refine e_aload_n i_Row_put_25 rfl ?_
      refine e_getI i_Row_put_26 lf_30 (by decide) (Or.inl ft_4_1) (fun v26 => ?_)
      refine e_iload_n i_Row_put_29 rfl ?_
      refine e_iast i_Row_put_30 (fun s30 => ?_)
      refine e_aload_n i_Row_put_31 rfl ?_
      refine e_dup i_Row_put_32 rfl ?_
      refine e_getI i_Row_put_33 lf_30 (by decide) (Or.inl ft_4_1) (fun v33 => ?_)
      refine e_iconst (v := 1) i_Row_put_36 (by decide) ?_
      refine e_iadd i_Row_put_37 ?_
      refine e_putf i_Row_put_38 lf_30 ft_4_1 rfl (fun s38 => ?_)
      refine e_iconst (v := 1) i_Row_put_41 (by decide) ?_
      exact e_iretZ i_Row_put_42 rfl (by decide)
    · refine e_iconst (v := 0) i_Row_put_19 (by decide) ?_
      exact e_iretZ i_Row_put_20 rfl (by decide)
theorem i_Row_init_0 : m_at k_Row_init 0 = some (.aload_n 0, 1, 0) := m_at_of r_Row_init (by decide +kernel)
theorem i_Row_init_1 : m_at k_Row_init 1 = some (.invokespecial 1, 3, 449) := m_at_of r_Row_init (by decide +kernel)
theorem i_Row_init_4 : m_at k_Row_init 4 = some (.aload_n 0, 1, 0) := m_at_of r_Row_init (by decide +kernel)
theorem i_Row_init_5 : m_at k_Row_init 5 = some (.iconst 0, 1, 0) := m_at_of r_Row_init (by decide +kernel)
theorem i_Row_init_6 : m_at k_Row_init 6 = some (.iload_n 1, 1, 0) := m_at_of r_Row_init (by decide +kernel)
theorem i_Row_init_7 : m_at k_Row_init 7 = some (.invokestatic 7, 3, 450) := m_at_of r_Row_init (by decide +kernel)
theorem i_Row_init_10 : m_at k_Row_init 10 = some (.newarray .int, 2, 0) := m_at_of r_Row_init (by decide +kernel)
theorem i_Row_init_12 : m_at k_Row_init 12 = some (.putfield 13, 3, 29) := m_at_of r_Row_init (by decide +kernel)
theorem i_Row_init_15 : m_at k_Row_init 15 = some (.return_, 1, 0) := m_at_of r_Row_init (by decide +kernel)
set_option maxRecDepth 20000 in
set_option maxHeartbeats 1000000 in
theorem E_Row_init (x : m_X) (s : m_H) (w : Nat) (n1 : Int32) : m_M x k_Row_init [.ref w, .int n1] s = m_bI (m_M x k_Math_max_II [.int 0, .int n1] s) fun v7 s7 => if s7.length < 900 ∧ ¬ v7 < (0 : Int32) ∧ v7.toNatClampNeg ≤ 100000 then ((m_pf (s7 ++ [.inl (0, v7.toNatClampNeg, .inl fun _ => 0)]) 4 0 w (.ref s7.length)).bind fun s12 => some (none, s12)) else none := by
  refine e_M2 (L0 := [some (.ref w), some (.int n1)]) rfl (q_Row_init _) rfl ?_
  refine e_aload_n i_Row_init_0 rfl ?_
  refine e_oinit i_Row_init_1 lm_449 (Nat.le_of_ble_eq_true rfl) ?_
  refine e_aload_n i_Row_init_4 rfl ?_
  refine e_iconst (v := 0) i_Row_init_5 (by decide) ?_
  refine e_iload_n i_Row_init_6 rfl ?_
  refine e_callI (as := [.int 0, .int n1]) (st' := [.ref w]) i_Row_init_7 lm_450 (Or.inl ⟨rfl, rfl⟩) w_Math_max_II rfl rfl rfl (Nat.le_of_ble_eq_true rfl) (Nat.le_of_ble_eq_true rfl) (m_rlt (q_Math_max_II _) (by decide)) rfl (fun v7 s7 => ?_)
  refine e_newI i_Row_init_10 ?_
  refine e_putf i_Row_init_12 lf_29 ft_4_0 rfl (fun s12 => ?_)
  exact e_vret i_Row_init_15 rfl
theorem i_Steps_takeOver_0 : m_at k_Steps_takeOver 0 = some (.iconst 0, 1, 0) := m_at_of r_Steps_takeOver (by decide +kernel)
theorem i_Steps_takeOver_1 : m_at k_Steps_takeOver 1 = some (.istore_n 2, 1, 0) := m_at_of r_Steps_takeOver (by decide +kernel)
theorem i_Steps_takeOver_2 : m_at k_Steps_takeOver 2 = some (.iload_n 2, 1, 0) := m_at_of r_Steps_takeOver (by decide +kernel)
theorem i_Steps_takeOver_3 : m_at k_Steps_takeOver 3 = some (.bipush 31, 2, 0) := m_at_of r_Steps_takeOver (by decide +kernel)
theorem i_Steps_takeOver_5 : m_at k_Steps_takeOver 5 = some (.if_icmp .ge (29), 3, 0) := m_at_of r_Steps_takeOver (by decide +kernel)
theorem i_Steps_takeOver_8 : m_at k_Steps_takeOver 8 = some (.aload_n 1, 1, 0) := m_at_of r_Steps_takeOver (by decide +kernel)
theorem i_Steps_takeOver_9 : m_at k_Steps_takeOver 9 = some (.getfield 15, 3, 31) := m_at_of r_Steps_takeOver (by decide +kernel)
theorem i_Steps_takeOver_12 : m_at k_Steps_takeOver 12 = some (.iload_n 2, 1, 0) := m_at_of r_Steps_takeOver (by decide +kernel)
theorem i_Steps_takeOver_13 : m_at k_Steps_takeOver 13 = some (.aaload, 1, 0) := m_at_of r_Steps_takeOver (by decide +kernel)
theorem i_Steps_takeOver_14 : m_at k_Steps_takeOver 14 = some (.iconst 0, 1, 0) := m_at_of r_Steps_takeOver (by decide +kernel)
theorem i_Steps_takeOver_15 : m_at k_Steps_takeOver 15 = some (.aload_n 0, 1, 0) := m_at_of r_Steps_takeOver (by decide +kernel)
theorem i_Steps_takeOver_16 : m_at k_Steps_takeOver 16 = some (.getfield 15, 3, 31) := m_at_of r_Steps_takeOver (by decide +kernel)
theorem i_Steps_takeOver_19 : m_at k_Steps_takeOver 19 = some (.iload_n 2, 1, 0) := m_at_of r_Steps_takeOver (by decide +kernel)
theorem i_Steps_takeOver_20 : m_at k_Steps_takeOver 20 = some (.aaload, 1, 0) := m_at_of r_Steps_takeOver (by decide +kernel)
theorem i_Steps_takeOver_21 : m_at k_Steps_takeOver 21 = some (.iconst 0, 1, 0) := m_at_of r_Steps_takeOver (by decide +kernel)
theorem i_Steps_takeOver_22 : m_at k_Steps_takeOver 22 = some (.sipush 141, 3, 0) := m_at_of r_Steps_takeOver (by decide +kernel)
theorem i_Steps_takeOver_25 : m_at k_Steps_takeOver 25 = some (.invokestatic 35, 3, 103) := m_at_of r_Steps_takeOver (by decide +kernel)
theorem i_Steps_takeOver_28 : m_at k_Steps_takeOver 28 = some (.iinc 2 (1), 3, 0) := m_at_of r_Steps_takeOver (by decide +kernel)
theorem i_Steps_takeOver_31 : m_at k_Steps_takeOver 31 = some (.goto (-29), 3, 0) := m_at_of r_Steps_takeOver (by decide +kernel)
theorem i_Steps_takeOver_34 : m_at k_Steps_takeOver 34 = some (.aload_n 0, 1, 0) := m_at_of r_Steps_takeOver (by decide +kernel)
theorem i_Steps_takeOver_35 : m_at k_Steps_takeOver 35 = some (.aload_n 1, 1, 0) := m_at_of r_Steps_takeOver (by decide +kernel)
theorem i_Steps_takeOver_36 : m_at k_Steps_takeOver 36 = some (.getfield 22, 3, 32) := m_at_of r_Steps_takeOver (by decide +kernel)
theorem i_Steps_takeOver_39 : m_at k_Steps_takeOver 39 = some (.putfield 22, 3, 32) := m_at_of r_Steps_takeOver (by decide +kernel)
theorem i_Steps_takeOver_42 : m_at k_Steps_takeOver 42 = some (.aload_n 0, 1, 0) := m_at_of r_Steps_takeOver (by decide +kernel)
theorem i_Steps_takeOver_43 : m_at k_Steps_takeOver 43 = some (.aload_n 1, 1, 0) := m_at_of r_Steps_takeOver (by decide +kernel)
theorem i_Steps_takeOver_44 : m_at k_Steps_takeOver 44 = some (.getfield 26, 3, 33) := m_at_of r_Steps_takeOver (by decide +kernel)
theorem i_Steps_takeOver_47 : m_at k_Steps_takeOver 47 = some (.putfield 26, 3, 33) := m_at_of r_Steps_takeOver (by decide +kernel)
theorem i_Steps_takeOver_50 : m_at k_Steps_takeOver 50 = some (.return_, 1, 0) := m_at_of r_Steps_takeOver (by decide +kernel)
set_option maxRecDepth 20000 in
set_option maxHeartbeats 1000000 in
theorem E_Steps_takeOver (x : m_X) (s : m_H) (w : Nat) (r1 : Nat) : m_M x k_Steps_takeOver [.ref w, .ref r1] s = if m_isO s w 6 = true then (m_D x 1 k_Steps_takeOver 2 [some (.ref w), some (.ref r1), some (.int 0)] [] s) else none := by
  refine e_M1 (L0 := [some (.ref w), some (.ref r1), none]) rfl (by decide +kernel) rfl (q_Steps_takeOver _) rfl ?_
  refine e_iconst (v := 0) i_Steps_takeOver_0 (by decide) ?_
  refine e_istore_n (L' := [some (.ref w), some (.ref r1), some (.int 0)]) i_Steps_takeOver_1 (of_decide_eq_true rfl) rfl ?_
  exact rfl
set_option maxRecDepth 20000 in
set_option maxHeartbeats 1000000 in
theorem E_Steps_takeOver_2 (x : m_X) (ρ : Nat) (hρ : 1 ≤ ρ) (s : m_H) (w : Nat) (r1 : Nat) (n2 : Int32)  : m_D x ρ k_Steps_takeOver 2 [some (.ref w), some (.ref r1), some (.int n2)] [] s = if 31 ≤ n2 then ((m_fI s 6 1 r1).bind fun v36 => (m_pf s 6 1 w (.int v36)).bind fun s39 => (m_fI s39 6 2 r1).bind fun v44 => (m_pf s39 6 2 w (.int v44)).bind fun s47 => some (none, s47)) else (m_fR s 6 0 r1).bind fun v9 => (m_aa s v9 n2).bind fun v13 => (m_fR s 6 0 w).bind fun v16 => (m_aa s v16 n2).bind fun v20 => (m_cpy s v13 0 v20 0 141).bind fun s25 => m_D x ρ k_Steps_takeOver 2 [some (.ref w), some (.ref r1), some (.int (n2 + (1 : Int32)))] [] s25 := by
  refine e_iload_n i_Steps_takeOver_2 rfl ?_
  refine e_bipush (v := 31) i_Steps_takeOver_3 (by decide) ?_
  refine e_icmpge (t := 34) i_Steps_takeOver_5 (by decide) ?_ ?_
  · refine e_aload_n i_Steps_takeOver_34 rfl ?_
    refine e_aload_n i_Steps_takeOver_35 rfl ?_
    refine e_getI i_Steps_takeOver_36 lf_32 (by decide) (Or.inl ft_6_1) (fun v36 => ?_)
    refine e_putf i_Steps_takeOver_39 lf_32 ft_6_1 rfl (fun s39 => ?_)
    refine e_aload_n i_Steps_takeOver_42 rfl ?_
    refine e_aload_n i_Steps_takeOver_43 rfl ?_
    refine e_getI i_Steps_takeOver_44 lf_33 (by decide) (Or.inl ft_6_2) (fun v44 => ?_)
    refine e_putf i_Steps_takeOver_47 lf_33 ft_6_2 rfl (fun s47 => ?_)
    exact e_vret i_Steps_takeOver_50 rfl
  · refine e_aload_n i_Steps_takeOver_8 rfl ?_
    refine e_getR i_Steps_takeOver_9 lf_31 (by decide) ft_6_0 (fun v9 => ?_)
    refine e_iload_n i_Steps_takeOver_12 rfl ?_
    refine e_aald i_Steps_takeOver_13 (fun v13 => ?_)
    refine e_iconst (v := 0) i_Steps_takeOver_14 (by decide) ?_
    refine e_aload_n i_Steps_takeOver_15 rfl ?_
    refine e_getR i_Steps_takeOver_16 lf_31 (by decide) ft_6_0 (fun v16 => ?_)
    refine e_iload_n i_Steps_takeOver_19 rfl ?_
    refine e_aald i_Steps_takeOver_20 (fun v20 => ?_)
    refine e_iconst (v := 0) i_Steps_takeOver_21 (by decide) ?_
    refine e_sipush (v := 141) i_Steps_takeOver_22 (by decide) ?_
    refine e_copy i_Steps_takeOver_25 lm_103 (Nat.le_of_ble_eq_true rfl) (fun s25 => ?_)
    refine e_iinc (w := 1) (L' := [some (.ref w), some (.ref r1), some (.int (n2 + (1 : Int32)))]) i_Steps_takeOver_28 rfl (of_decide_eq_true rfl) (by decide) rfl ?_
    refine e_goto (t := 2) i_Steps_takeOver_31 (by decide) ?_
    exact rfl
theorem i_Steps_takeBack_0 : m_at k_Steps_takeBack 0 = some (.aload_n 0, 1, 0) := m_at_of r_Steps_takeBack (by decide +kernel)
theorem i_Steps_takeBack_1 : m_at k_Steps_takeBack 1 = some (.getfield 26, 3, 33) := m_at_of r_Steps_takeBack (by decide +kernel)
theorem i_Steps_takeBack_4 : m_at k_Steps_takeBack 4 = some (.ifCond .gt (5), 3, 0) := m_at_of r_Steps_takeBack (by decide +kernel)
theorem i_Steps_takeBack_7 : m_at k_Steps_takeBack 7 = some (.iconst 0, 1, 0) := m_at_of r_Steps_takeBack (by decide +kernel)
theorem i_Steps_takeBack_8 : m_at k_Steps_takeBack 8 = some (.ireturn, 1, 0) := m_at_of r_Steps_takeBack (by decide +kernel)
theorem i_Steps_takeBack_9 : m_at k_Steps_takeBack 9 = some (.aload_n 0, 1, 0) := m_at_of r_Steps_takeBack (by decide +kernel)
theorem i_Steps_takeBack_10 : m_at k_Steps_takeBack 10 = some (.dup, 1, 0) := m_at_of r_Steps_takeBack (by decide +kernel)
theorem i_Steps_takeBack_11 : m_at k_Steps_takeBack 11 = some (.getfield 26, 3, 33) := m_at_of r_Steps_takeBack (by decide +kernel)
theorem i_Steps_takeBack_14 : m_at k_Steps_takeBack 14 = some (.iconst 1, 1, 0) := m_at_of r_Steps_takeBack (by decide +kernel)
theorem i_Steps_takeBack_15 : m_at k_Steps_takeBack 15 = some (.isub, 1, 0) := m_at_of r_Steps_takeBack (by decide +kernel)
theorem i_Steps_takeBack_16 : m_at k_Steps_takeBack 16 = some (.putfield 26, 3, 33) := m_at_of r_Steps_takeBack (by decide +kernel)
theorem i_Steps_takeBack_19 : m_at k_Steps_takeBack 19 = some (.aload_n 1, 1, 0) := m_at_of r_Steps_takeBack (by decide +kernel)
theorem i_Steps_takeBack_20 : m_at k_Steps_takeBack 20 = some (.aload_n 0, 1, 0) := m_at_of r_Steps_takeBack (by decide +kernel)
theorem i_Steps_takeBack_21 : m_at k_Steps_takeBack 21 = some (.getfield 15, 3, 31) := m_at_of r_Steps_takeBack (by decide +kernel)
theorem i_Steps_takeBack_24 : m_at k_Steps_takeBack 24 = some (.aload_n 0, 1, 0) := m_at_of r_Steps_takeBack (by decide +kernel)
theorem i_Steps_takeBack_25 : m_at k_Steps_takeBack 25 = some (.getfield 22, 3, 32) := m_at_of r_Steps_takeBack (by decide +kernel)
theorem i_Steps_takeBack_28 : m_at k_Steps_takeBack 28 = some (.aload_n 0, 1, 0) := m_at_of r_Steps_takeBack (by decide +kernel)
theorem i_Steps_takeBack_29 : m_at k_Steps_takeBack 29 = some (.getfield 26, 3, 33) := m_at_of r_Steps_takeBack (by decide +kernel)
theorem i_Steps_takeBack_32 : m_at k_Steps_takeBack 32 = some (.iadd, 1, 0) := m_at_of r_Steps_takeBack (by decide +kernel)
theorem i_Steps_takeBack_33 : m_at k_Steps_takeBack 33 = some (.bipush 31, 2, 0) := m_at_of r_Steps_takeBack (by decide +kernel)
theorem i_Steps_takeBack_35 : m_at k_Steps_takeBack 35 = some (.invokestatic 29, 3, 224) := m_at_of r_Steps_takeBack (by decide +kernel)
theorem i_Steps_takeBack_38 : m_at k_Steps_takeBack 38 = some (.aaload, 1, 0) := m_at_of r_Steps_takeBack (by decide +kernel)
theorem i_Steps_takeBack_39 : m_at k_Steps_takeBack 39 = some (.invokevirtual 41, 3, 225) := m_at_of r_Steps_takeBack (by decide +kernel)
theorem i_Steps_takeBack_42 : m_at k_Steps_takeBack 42 = some (.iconst 1, 1, 0) := m_at_of r_Steps_takeBack (by decide +kernel)
theorem i_Steps_takeBack_43 : m_at k_Steps_takeBack 43 = some (.ireturn, 1, 0) := m_at_of r_Steps_takeBack (by decide +kernel)
set_option maxRecDepth 20000 in
set_option maxHeartbeats 1000000 in
theorem E_Steps_takeBack (x : m_X) (s : m_H) (w : Nat) (r1 : Nat) : m_M x k_Steps_takeBack [.ref w, .ref r1] s = if m_isO s w 6 = true then ((m_fI s 6 2 w).bind fun v1 => if 0 < v1 then ((m_fI s 6 2 w).bind fun v11 => (m_pf s 6 2 w (.int (v11 - (1 : Int32)))).bind fun s16 => (m_fR s16 6 0 w).bind fun v21 => (m_fI s16 6 1 w).bind fun v25 => (m_fI s16 6 2 w).bind fun v29 => m_bI (m_M x k_Math_floorMod [.int (v25 + v29), .int 31] s16) fun v35 s35 => (m_aa s35 v21 v35).bind fun v38 => m_bV (m_M x k_World_takeBack [.ref r1, .ref v38] s35) fun s39 => some (some (.int 1), s39)) else some (some (.int 0), s)) else none := by
  refine e_M1 (L0 := [some (.ref w), some (.ref r1)]) rfl (by decide +kernel) rfl (q_Steps_takeBack _) rfl ?_
  refine e_aload_n i_Steps_takeBack_0 rfl ?_
  refine e_getI i_Steps_takeBack_1 lf_33 (by decide) (Or.inl ft_6_2) (fun v1 => ?_)
  refine e_ifgt (t := 9) i_Steps_takeBack_4 (by decide) ?_ ?_
  · refine e_aload_n i_Steps_takeBack_9 rfl ?_
    refine e_dup i_Steps_takeBack_10 rfl ?_
    refine e_getI i_Steps_takeBack_11 lf_33 (by decide) (Or.inl ft_6_2) (fun v11 => ?_)
    refine e_iconst (v := 1) i_Steps_takeBack_14 (by decide) ?_
    refine e_isub i_Steps_takeBack_15 ?_
    refine e_putf i_Steps_takeBack_16 lf_33 ft_6_2 rfl (fun s16 => ?_)
    refine e_aload_n i_Steps_takeBack_19 rfl ?_
    refine e_aload_n i_Steps_takeBack_20 rfl ?_
    refine e_getR i_Steps_takeBack_21 lf_31 (by decide) ft_6_0 (fun v21 => ?_)
    refine e_aload_n i_Steps_takeBack_24 rfl ?_
    refine e_getI i_Steps_takeBack_25 lf_32 (by decide) (Or.inl ft_6_1) (fun v25 => ?_)
    refine e_aload_n i_Steps_takeBack_28 rfl ?_
    refine e_getI i_Steps_takeBack_29 lf_33 (by decide) (Or.inl ft_6_2) (fun v29 => ?_)
    refine e_iadd i_Steps_takeBack_32 ?_
    refine e_bipush (v := 31) i_Steps_takeBack_33 (by decide) ?_
    refine e_callI (as := [.int (v25 + v29), .int 31]) (st' := [.ref v21, .ref r1]) i_Steps_takeBack_35 lm_224 (Or.inl ⟨rfl, rfl⟩) w_Math_floorMod rfl rfl rfl (Nat.le_of_ble_eq_true rfl) (Nat.le_of_ble_eq_true rfl) (m_rlt (q_Math_floorMod _) (by decide)) rfl (fun v35 s35 => ?_)
    refine e_aald i_Steps_takeBack_38 (fun v38 => ?_)
    refine e_callV (as := [.ref r1, .ref v38]) (st' := []) i_Steps_takeBack_39 lm_225 (Or.inr (Or.inl ⟨rfl, rfl⟩)) w_World_takeBack rfl rfl rfl (Nat.le_of_ble_eq_true rfl) (Nat.le_of_ble_eq_true rfl) (m_rlt (q_World_takeBack _) (by decide)) rfl (fun s39 => ?_)
    refine e_iconst (v := 1) i_Steps_takeBack_42 (by decide) ?_
    exact e_iretZ i_Steps_takeBack_43 rfl (by decide)
  · refine e_iconst (v := 0) i_Steps_takeBack_7 (by decide) ?_
    exact e_iretZ i_Steps_takeBack_8 rfl (by decide)
theorem i_Steps_keep_0 : m_at k_Steps_keep 0 = some (.aload_n 0, 1, 0) := m_at_of r_Steps_keep (by decide +kernel)
theorem i_Steps_keep_1 : m_at k_Steps_keep 1 = some (.getfield 26, 3, 33) := m_at_of r_Steps_keep (by decide +kernel)
theorem i_Steps_keep_4 : m_at k_Steps_keep 4 = some (.bipush 30, 2, 0) := m_at_of r_Steps_keep (by decide +kernel)
theorem i_Steps_keep_6 : m_at k_Steps_keep 6 = some (.if_icmp .ge (16), 3, 0) := m_at_of r_Steps_keep (by decide +kernel)
theorem i_Steps_keep_9 : m_at k_Steps_keep 9 = some (.aload_n 0, 1, 0) := m_at_of r_Steps_keep (by decide +kernel)
theorem i_Steps_keep_10 : m_at k_Steps_keep 10 = some (.dup, 1, 0) := m_at_of r_Steps_keep (by decide +kernel)
theorem i_Steps_keep_11 : m_at k_Steps_keep 11 = some (.getfield 26, 3, 33) := m_at_of r_Steps_keep (by decide +kernel)
theorem i_Steps_keep_14 : m_at k_Steps_keep 14 = some (.iconst 1, 1, 0) := m_at_of r_Steps_keep (by decide +kernel)
theorem i_Steps_keep_15 : m_at k_Steps_keep 15 = some (.iadd, 1, 0) := m_at_of r_Steps_keep (by decide +kernel)
theorem i_Steps_keep_16 : m_at k_Steps_keep 16 = some (.putfield 26, 3, 33) := m_at_of r_Steps_keep (by decide +kernel)
theorem i_Steps_keep_19 : m_at k_Steps_keep 19 = some (.goto (18), 3, 0) := m_at_of r_Steps_keep (by decide +kernel)
theorem i_Steps_keep_22 : m_at k_Steps_keep 22 = some (.aload_n 0, 1, 0) := m_at_of r_Steps_keep (by decide +kernel)
theorem i_Steps_keep_23 : m_at k_Steps_keep 23 = some (.aload_n 0, 1, 0) := m_at_of r_Steps_keep (by decide +kernel)
theorem i_Steps_keep_24 : m_at k_Steps_keep 24 = some (.getfield 22, 3, 32) := m_at_of r_Steps_keep (by decide +kernel)
theorem i_Steps_keep_27 : m_at k_Steps_keep 27 = some (.iconst 1, 1, 0) := m_at_of r_Steps_keep (by decide +kernel)
theorem i_Steps_keep_28 : m_at k_Steps_keep 28 = some (.iadd, 1, 0) := m_at_of r_Steps_keep (by decide +kernel)
theorem i_Steps_keep_29 : m_at k_Steps_keep 29 = some (.bipush 31, 2, 0) := m_at_of r_Steps_keep (by decide +kernel)
theorem i_Steps_keep_31 : m_at k_Steps_keep 31 = some (.invokestatic 29, 3, 224) := m_at_of r_Steps_keep (by decide +kernel)
theorem i_Steps_keep_34 : m_at k_Steps_keep 34 = some (.putfield 22, 3, 32) := m_at_of r_Steps_keep (by decide +kernel)
theorem i_Steps_keep_37 : m_at k_Steps_keep 37 = some (.return_, 1, 0) := m_at_of r_Steps_keep (by decide +kernel)
set_option maxRecDepth 20000 in
set_option maxHeartbeats 1000000 in
theorem E_Steps_keep (x : m_X) (s : m_H) (w : Nat) : m_M x k_Steps_keep [.ref w] s = if m_isO s w 6 = true then ((m_fI s 6 2 w).bind fun v1 => if 30 ≤ v1 then ((m_fI s 6 1 w).bind fun v24 => m_bI (m_M x k_Math_floorMod [.int (v24 + (1 : Int32)), .int 31] s) fun v31 s31 => (m_pf s31 6 1 w (.int v31)).bind fun s34 => some (none, s34)) else (m_fI s 6 2 w).bind fun v11 => (m_pf s 6 2 w (.int (v11 + (1 : Int32)))).bind fun s16 => some (none, s16)) else none := by
  refine e_M1 (L0 := [some (.ref w)]) rfl (by decide +kernel) rfl (q_Steps_keep _) rfl ?_
  refine e_aload_n i_Steps_keep_0 rfl ?_
  refine e_getI i_Steps_keep_1 lf_33 (by decide) (Or.inl ft_6_2) (fun v1 => ?_)
  refine e_bipush (v := 30) i_Steps_keep_4 (by decide) ?_
  refine e_icmpge (t := 22) i_Steps_keep_6 (by decide) ?_ ?_
  · refine e_aload_n i_Steps_keep_22 rfl ?_
    refine e_aload_n i_Steps_keep_23 rfl ?_
    refine e_getI i_Steps_keep_24 lf_32 (by decide) (Or.inl ft_6_1) (fun v24 => ?_)
    refine e_iconst (v := 1) i_Steps_keep_27 (by decide) ?_
    refine e_iadd i_Steps_keep_28 ?_
    refine e_bipush (v := 31) i_Steps_keep_29 (by decide) ?_
    refine e_callI (as := [.int (v24 + (1 : Int32)), .int 31]) (st' := [.ref w]) i_Steps_keep_31 lm_224 (Or.inl ⟨rfl, rfl⟩) w_Math_floorMod rfl rfl rfl (Nat.le_of_ble_eq_true rfl) (Nat.le_of_ble_eq_true rfl) (m_rlt (q_Math_floorMod _) (by decide)) rfl (fun v31 s31 => ?_)
    refine e_putf i_Steps_keep_34 lf_32 ft_6_1 rfl (fun s34 => ?_)
    exact e_vret i_Steps_keep_37 rfl
  · refine e_aload_n i_Steps_keep_9 rfl ?_
    refine e_dup i_Steps_keep_10 rfl ?_
    refine e_getI i_Steps_keep_11 lf_33 (by decide) (Or.inl ft_6_2) (fun v11 => ?_)
    refine e_iconst (v := 1) i_Steps_keep_14 (by decide) ?_
    refine e_iadd i_Steps_keep_15 ?_
    refine e_putf i_Steps_keep_16 lf_33 ft_6_2 rfl (fun s16 => ?_)
    refine e_goto (t := 37) i_Steps_keep_19 (by decide) ?_
    exact e_vret i_Steps_keep_37 rfl
theorem i_Steps_mark_0 : m_at k_Steps_mark 0 = some (.aload_n 1, 1, 0) := m_at_of r_Steps_mark (by decide +kernel)
theorem i_Steps_mark_1 : m_at k_Steps_mark 1 = some (.getfield 18, 3, 93) := m_at_of r_Steps_mark (by decide +kernel)
theorem i_Steps_mark_4 : m_at k_Steps_mark 4 = some (.iconst 0, 1, 0) := m_at_of r_Steps_mark (by decide +kernel)
theorem i_Steps_mark_5 : m_at k_Steps_mark 5 = some (.aload_n 0, 1, 0) := m_at_of r_Steps_mark (by decide +kernel)
theorem i_Steps_mark_6 : m_at k_Steps_mark 6 = some (.getfield 15, 3, 31) := m_at_of r_Steps_mark (by decide +kernel)
theorem i_Steps_mark_9 : m_at k_Steps_mark 9 = some (.aload_n 0, 1, 0) := m_at_of r_Steps_mark (by decide +kernel)
theorem i_Steps_mark_10 : m_at k_Steps_mark 10 = some (.getfield 22, 3, 32) := m_at_of r_Steps_mark (by decide +kernel)
theorem i_Steps_mark_13 : m_at k_Steps_mark 13 = some (.aload_n 0, 1, 0) := m_at_of r_Steps_mark (by decide +kernel)
theorem i_Steps_mark_14 : m_at k_Steps_mark 14 = some (.getfield 26, 3, 33) := m_at_of r_Steps_mark (by decide +kernel)
theorem i_Steps_mark_17 : m_at k_Steps_mark 17 = some (.iadd, 1, 0) := m_at_of r_Steps_mark (by decide +kernel)
theorem i_Steps_mark_18 : m_at k_Steps_mark 18 = some (.bipush 31, 2, 0) := m_at_of r_Steps_mark (by decide +kernel)
theorem i_Steps_mark_20 : m_at k_Steps_mark 20 = some (.invokestatic 29, 3, 224) := m_at_of r_Steps_mark (by decide +kernel)
theorem i_Steps_mark_23 : m_at k_Steps_mark 23 = some (.aaload, 1, 0) := m_at_of r_Steps_mark (by decide +kernel)
theorem i_Steps_mark_24 : m_at k_Steps_mark 24 = some (.iconst 0, 1, 0) := m_at_of r_Steps_mark (by decide +kernel)
theorem i_Steps_mark_25 : m_at k_Steps_mark 25 = some (.sipush 141, 3, 0) := m_at_of r_Steps_mark (by decide +kernel)
theorem i_Steps_mark_28 : m_at k_Steps_mark 28 = some (.invokestatic 35, 3, 103) := m_at_of r_Steps_mark (by decide +kernel)
theorem i_Steps_mark_31 : m_at k_Steps_mark 31 = some (.return_, 1, 0) := m_at_of r_Steps_mark (by decide +kernel)
set_option maxRecDepth 20000 in
set_option maxHeartbeats 1000000 in
theorem E_Steps_mark (x : m_X) (s : m_H) (w : Nat) (r1 : Nat) : m_M x k_Steps_mark [.ref w, .ref r1] s = if m_isO s w 6 = true then ((m_fR s 9 0 r1).bind fun v1 => (m_fR s 6 0 w).bind fun v6 => (m_fI s 6 1 w).bind fun v10 => (m_fI s 6 2 w).bind fun v14 => m_bI (m_M x k_Math_floorMod [.int (v10 + v14), .int 31] s) fun v20 s20 => (m_aa s20 v6 v20).bind fun v23 => (m_cpy s20 v1 0 v23 0 141).bind fun s28 => some (none, s28)) else none := by
  refine e_M1 (L0 := [some (.ref w), some (.ref r1)]) rfl (by decide +kernel) rfl (q_Steps_mark _) rfl ?_
  refine e_aload_n i_Steps_mark_0 rfl ?_
  refine e_getR i_Steps_mark_1 lf_93 (by decide) ft_9_0 (fun v1 => ?_)
  refine e_iconst (v := 0) i_Steps_mark_4 (by decide) ?_
  refine e_aload_n i_Steps_mark_5 rfl ?_
  refine e_getR i_Steps_mark_6 lf_31 (by decide) ft_6_0 (fun v6 => ?_)
  refine e_aload_n i_Steps_mark_9 rfl ?_
  refine e_getI i_Steps_mark_10 lf_32 (by decide) (Or.inl ft_6_1) (fun v10 => ?_)
  refine e_aload_n i_Steps_mark_13 rfl ?_
  refine e_getI i_Steps_mark_14 lf_33 (by decide) (Or.inl ft_6_2) (fun v14 => ?_)
  refine e_iadd i_Steps_mark_17 ?_
  refine e_bipush (v := 31) i_Steps_mark_18 (by decide) ?_
  refine e_callI (as := [.int (v10 + v14), .int 31]) (st' := [.ref v6, .int 0, .ref v1]) i_Steps_mark_20 lm_224 (Or.inl ⟨rfl, rfl⟩) w_Math_floorMod rfl rfl rfl (Nat.le_of_ble_eq_true rfl) (Nat.le_of_ble_eq_true rfl) (m_rlt (q_Math_floorMod _) (by decide)) rfl (fun v20 s20 => ?_)
  refine e_aald i_Steps_mark_23 (fun v23 => ?_)
  refine e_iconst (v := 0) i_Steps_mark_24 (by decide) ?_
  refine e_sipush (v := 141) i_Steps_mark_25 (by decide) ?_
  refine e_copy i_Steps_mark_28 lm_103 (Nat.le_of_ble_eq_true rfl) (fun s28 => ?_)
  exact e_vret i_Steps_mark_31 rfl
theorem i_Steps_init_0 : m_at k_Steps_init 0 = some (.aload_n 0, 1, 0) := m_at_of r_Steps_init (by decide +kernel)
theorem i_Steps_init_1 : m_at k_Steps_init 1 = some (.invokespecial 3, 3, 451) := m_at_of r_Steps_init (by decide +kernel)
theorem i_Steps_init_4 : m_at k_Steps_init 4 = some (.aload_n 0, 1, 0) := m_at_of r_Steps_init (by decide +kernel)
theorem i_Steps_init_5 : m_at k_Steps_init 5 = some (.bipush 31, 2, 0) := m_at_of r_Steps_init (by decide +kernel)
theorem i_Steps_init_7 : m_at k_Steps_init 7 = some (.sipush 141, 3, 0) := m_at_of r_Steps_init (by decide +kernel)
theorem i_Steps_init_10 : m_at k_Steps_init 10 = some (.multianewarray 13 2, 4, 0) := m_at_of r_Steps_init (by decide +kernel)
theorem i_Steps_init_14 : m_at k_Steps_init 14 = some (.putfield 15, 3, 31) := m_at_of r_Steps_init (by decide +kernel)
theorem i_Steps_init_17 : m_at k_Steps_init 17 = some (.return_, 1, 0) := m_at_of r_Steps_init (by decide +kernel)
set_option maxRecDepth 20000 in
set_option maxHeartbeats 1000000 in
theorem E_Steps_init (x : m_X) (s : m_H) (w : Nat) : m_M x k_Steps_init [.ref w] s = if s.length + (31 : Int32).toNatClampNeg < 900 ∧ ¬ 31 < (0 : Int32) ∧ ¬ 141 < (0 : Int32) ∧ (141 : Int32).toNatClampNeg ≤ 100000 then ((m_pf (s ++ m_mrow (31 : Int32).toNatClampNeg s.length :: List.replicate (31 : Int32).toNatClampNeg (.inl (0, (141 : Int32).toNatClampNeg, .inl fun _ => 0))) 6 0 w (.ref s.length)).bind fun s14 => some (none, s14)) else none := by
  refine e_M2 (L0 := [some (.ref w)]) rfl (q_Steps_init _) rfl ?_
  refine e_aload_n i_Steps_init_0 rfl ?_
  refine e_oinit i_Steps_init_1 lm_451 (Nat.le_of_ble_eq_true rfl) ?_
  refine e_aload_n i_Steps_init_4 rfl ?_
  refine e_bipush (v := 31) i_Steps_init_5 (by decide) ?_
  refine e_sipush (v := 141) i_Steps_init_7 (by decide) ?_
  refine e_newM i_Steps_init_10 ?_
  refine e_putf i_Steps_init_14 lf_31 ft_6_0 rfl (fun s14 => ?_)
  exact e_vret i_Steps_init_17 rfl
theorem i_World_isPair_0 : m_at k_World_isPair 0 = some (.aload_n 0, 1, 0) := m_at_of r_World_isPair (by decide +kernel)
theorem i_World_isPair_1 : m_at k_World_isPair 1 = some (.iload_n 1, 1, 0) := m_at_of r_World_isPair (by decide +kernel)
theorem i_World_isPair_2 : m_at k_World_isPair 2 = some (.invokevirtual 44, 3, 108) := m_at_of r_World_isPair (by decide +kernel)
theorem i_World_isPair_5 : m_at k_World_isPair 5 = some (.ifCond .eq (49), 3, 0) := m_at_of r_World_isPair (by decide +kernel)
theorem i_World_isPair_8 : m_at k_World_isPair 8 = some (.aload_n 0, 1, 0) := m_at_of r_World_isPair (by decide +kernel)
theorem i_World_isPair_9 : m_at k_World_isPair 9 = some (.iload_n 2, 1, 0) := m_at_of r_World_isPair (by decide +kernel)
theorem i_World_isPair_10 : m_at k_World_isPair 10 = some (.invokevirtual 44, 3, 108) := m_at_of r_World_isPair (by decide +kernel)
theorem i_World_isPair_13 : m_at k_World_isPair 13 = some (.ifCond .eq (41), 3, 0) := m_at_of r_World_isPair (by decide +kernel)
theorem i_World_isPair_16 : m_at k_World_isPair 16 = some (.aload_n 0, 1, 0) := m_at_of r_World_isPair (by decide +kernel)
theorem i_World_isPair_17 : m_at k_World_isPair 17 = some (.bipush 87, 2, 0) := m_at_of r_World_isPair (by decide +kernel)
theorem i_World_isPair_19 : m_at k_World_isPair 19 = some (.iload_n 1, 1, 0) := m_at_of r_World_isPair (by decide +kernel)
theorem i_World_isPair_20 : m_at k_World_isPair 20 = some (.invokevirtual 25, 3, 109) := m_at_of r_World_isPair (by decide +kernel)
theorem i_World_isPair_23 : m_at k_World_isPair 23 = some (.aload_n 0, 1, 0) := m_at_of r_World_isPair (by decide +kernel)
theorem i_World_isPair_24 : m_at k_World_isPair 24 = some (.bipush 87, 2, 0) := m_at_of r_World_isPair (by decide +kernel)
theorem i_World_isPair_26 : m_at k_World_isPair 26 = some (.iload_n 2, 1, 0) := m_at_of r_World_isPair (by decide +kernel)
theorem i_World_isPair_27 : m_at k_World_isPair 27 = some (.invokevirtual 25, 3, 109) := m_at_of r_World_isPair (by decide +kernel)
theorem i_World_isPair_30 : m_at k_World_isPair 30 = some (.if_icmp .ne (24), 3, 0) := m_at_of r_World_isPair (by decide +kernel)
theorem i_World_isPair_33 : m_at k_World_isPair 33 = some (.aload_n 0, 1, 0) := m_at_of r_World_isPair (by decide +kernel)
theorem i_World_isPair_34 : m_at k_World_isPair 34 = some (.bipush 63, 2, 0) := m_at_of r_World_isPair (by decide +kernel)
theorem i_World_isPair_36 : m_at k_World_isPair 36 = some (.iload_n 1, 1, 0) := m_at_of r_World_isPair (by decide +kernel)
theorem i_World_isPair_37 : m_at k_World_isPair 37 = some (.invokevirtual 25, 3, 109) := m_at_of r_World_isPair (by decide +kernel)
theorem i_World_isPair_40 : m_at k_World_isPair 40 = some (.aload_n 0, 1, 0) := m_at_of r_World_isPair (by decide +kernel)
theorem i_World_isPair_41 : m_at k_World_isPair 41 = some (.bipush 63, 2, 0) := m_at_of r_World_isPair (by decide +kernel)
theorem i_World_isPair_43 : m_at k_World_isPair 43 = some (.iload_n 2, 1, 0) := m_at_of r_World_isPair (by decide +kernel)
theorem i_World_isPair_44 : m_at k_World_isPair 44 = some (.invokevirtual 25, 3, 109) := m_at_of r_World_isPair (by decide +kernel)
theorem i_World_isPair_47 : m_at k_World_isPair 47 = some (.if_icmp .ne (7), 3, 0) := m_at_of r_World_isPair (by decide +kernel)
theorem i_World_isPair_50 : m_at k_World_isPair 50 = some (.iconst 1, 1, 0) := m_at_of r_World_isPair (by decide +kernel)
theorem i_World_isPair_51 : m_at k_World_isPair 51 = some (.goto (4), 3, 0) := m_at_of r_World_isPair (by decide +kernel)
theorem i_World_isPair_54 : m_at k_World_isPair 54 = some (.iconst 0, 1, 0) := m_at_of r_World_isPair (by decide +kernel)
theorem i_World_isPair_55 : m_at k_World_isPair 55 = some (.ireturn, 1, 0) := m_at_of r_World_isPair (by decide +kernel)
set_option maxRecDepth 20000 in
set_option maxHeartbeats 1000000 in
theorem E_World_isPair (x : m_X) (s : m_H) (w : Nat) (n1 : Int32) (n2 : Int32) : m_M x k_World_isPair [.ref w, .int n1, .int n2] s = if m_isO s w 9 = true then (m_bI (m_M x k_World_isOpen [.ref w, .int n1] s) fun v2 s2 => if v2 = 0 then (some (some (.int 0), s2)) else m_bI (m_M x k_World_isOpen [.ref w, .int n2] s2) fun v10 s10 => if v10 = 0 then (some (some (.int 0), s10)) else m_bI (m_M x k_World_at [.ref w, .int 87, .int n1] s10) fun v20 s20 => m_bI (m_M x k_World_at [.ref w, .int 87, .int n2] s20) fun v27 s27 => if v20 = v27 then (m_bI (m_M x k_World_at [.ref w, .int 63, .int n1] s27) fun v37 s37 => m_bI (m_M x k_World_at [.ref w, .int 63, .int n2] s37) fun v44 s44 => if v37 = v44 then (some (some (.int 1), s44)) else some (some (.int 0), s44)) else some (some (.int 0), s27)) else none := by
  refine e_M1 (L0 := [some (.ref w), some (.int n1), some (.int n2)]) rfl (by decide +kernel) rfl (q_World_isPair _) rfl ?_
  refine e_aload_n i_World_isPair_0 rfl ?_
  refine e_iload_n i_World_isPair_1 rfl ?_
  refine e_callI (as := [.ref w, .int n1]) (st' := []) i_World_isPair_2 lm_108 (Or.inr (Or.inl ⟨rfl, rfl⟩)) w_World_isOpen rfl rfl rfl (Nat.le_of_ble_eq_true rfl) (Nat.le_of_ble_eq_true rfl) (m_rlt (q_World_isOpen _) (by decide)) rfl (fun v2 s2 => ?_)
  refine e_ifeq (t := 54) i_World_isPair_5 (by decide) ?_ ?_
  · refine e_iconst (v := 0) i_World_isPair_54 (by decide) ?_
    exact e_iretZ i_World_isPair_55 rfl (by decide)
  · refine e_aload_n i_World_isPair_8 rfl ?_
    refine e_iload_n i_World_isPair_9 rfl ?_
    refine e_callI (as := [.ref w, .int n2]) (st' := []) i_World_isPair_10 lm_108 (Or.inr (Or.inl ⟨rfl, rfl⟩)) w_World_isOpen rfl rfl rfl (Nat.le_of_ble_eq_true rfl) (Nat.le_of_ble_eq_true rfl) (m_rlt (q_World_isOpen _) (by decide)) rfl (fun v10 s10 => ?_)
    refine e_ifeq (t := 54) i_World_isPair_13 (by decide) ?_ ?_
    · refine e_iconst (v := 0) i_World_isPair_54 (by decide) ?_
      exact e_iretZ i_World_isPair_55 rfl (by decide)
    · refine e_aload_n i_World_isPair_16 rfl ?_
      refine e_bipush (v := 87) i_World_isPair_17 (by decide) ?_
      refine e_iload_n i_World_isPair_19 rfl ?_
      refine e_callI (as := [.ref w, .int 87, .int n1]) (st' := []) i_World_isPair_20 lm_109 (Or.inr (Or.inl ⟨rfl, rfl⟩)) w_World_at rfl rfl rfl (Nat.le_of_ble_eq_true rfl) (Nat.le_of_ble_eq_true rfl) (m_rlt (q_World_at _) (by decide)) rfl (fun v20 s20 => ?_)
      refine e_aload_n i_World_isPair_23 rfl ?_
      refine e_bipush (v := 87) i_World_isPair_24 (by decide) ?_
      refine e_iload_n i_World_isPair_26 rfl ?_
      refine e_callI (as := [.ref w, .int 87, .int n2]) (st' := [.int v20]) i_World_isPair_27 lm_109 (Or.inr (Or.inl ⟨rfl, rfl⟩)) w_World_at rfl rfl rfl (Nat.le_of_ble_eq_true rfl) (Nat.le_of_ble_eq_true rfl) (m_rlt (q_World_at _) (by decide)) rfl (fun v27 s27 => ?_)
      refine e_icmpne (t := 54) i_World_isPair_30 (by decide) ?_ ?_
      · refine e_iconst (v := 0) i_World_isPair_54 (by decide) ?_
        exact e_iretZ i_World_isPair_55 rfl (by decide)
      · refine e_aload_n i_World_isPair_33 rfl ?_
        refine e_bipush (v := 63) i_World_isPair_34 (by decide) ?_
        refine e_iload_n i_World_isPair_36 rfl ?_
        refine e_callI (as := [.ref w, .int 63, .int n1]) (st' := []) i_World_isPair_37 lm_109 (Or.inr (Or.inl ⟨rfl, rfl⟩)) w_World_at rfl rfl rfl (Nat.le_of_ble_eq_true rfl) (Nat.le_of_ble_eq_true rfl) (m_rlt (q_World_at _) (by decide)) rfl (fun v37 s37 => ?_)
        refine e_aload_n i_World_isPair_40 rfl ?_
        refine e_bipush (v := 63) i_World_isPair_41 (by decide) ?_
        refine e_iload_n i_World_isPair_43 rfl ?_
        refine e_callI (as := [.ref w, .int 63, .int n2]) (st' := [.int v37]) i_World_isPair_44 lm_109 (Or.inr (Or.inl ⟨rfl, rfl⟩)) w_World_at rfl rfl rfl (Nat.le_of_ble_eq_true rfl) (Nat.le_of_ble_eq_true rfl) (m_rlt (q_World_at _) (by decide)) rfl (fun v44 s44 => ?_)
        refine e_icmpne (t := 54) i_World_isPair_47 (by decide) ?_ ?_
        · refine e_iconst (v := 0) i_World_isPair_54 (by decide) ?_
          exact e_iretZ i_World_isPair_55 rfl (by decide)
        · refine e_iconst (v := 1) i_World_isPair_50 (by decide) ?_
          refine e_goto (t := 55) i_World_isPair_51 (by decide) ?_
          exact e_iretZ i_World_isPair_55 rfl (by decide)
theorem i_World_workOfLefts_0 : m_at k_World_workOfLefts 0 = some (.iconst 0, 1, 0) := m_at_of r_World_workOfLefts (by decide +kernel)
theorem i_World_workOfLefts_1 : m_at k_World_workOfLefts 1 = some (.istore_n 2, 1, 0) := m_at_of r_World_workOfLefts (by decide +kernel)
theorem i_World_workOfLefts_2 : m_at k_World_workOfLefts 2 = some (.iconst 0, 1, 0) := m_at_of r_World_workOfLefts (by decide +kernel)
theorem i_World_workOfLefts_3 : m_at k_World_workOfLefts 3 = some (.istore_n 3, 1, 0) := m_at_of r_World_workOfLefts (by decide +kernel)
theorem i_World_workOfLefts_4 : m_at k_World_workOfLefts 4 = some (.iload_n 3, 1, 0) := m_at_of r_World_workOfLefts (by decide +kernel)
theorem i_World_workOfLefts_5 : m_at k_World_workOfLefts 5 = some (.aload_n 0, 1, 0) := m_at_of r_World_workOfLefts (by decide +kernel)
theorem i_World_workOfLefts_6 : m_at k_World_workOfLefts 6 = some (.getfield 11, 3, 36) := m_at_of r_World_workOfLefts (by decide +kernel)
theorem i_World_workOfLefts_9 : m_at k_World_workOfLefts 9 = some (.bipush 25, 2, 0) := m_at_of r_World_workOfLefts (by decide +kernel)
theorem i_World_workOfLefts_11 : m_at k_World_workOfLefts 11 = some (.iaload, 1, 0) := m_at_of r_World_workOfLefts (by decide +kernel)
theorem i_World_workOfLefts_12 : m_at k_World_workOfLefts 12 = some (.if_icmp .ge (39), 3, 0) := m_at_of r_World_workOfLefts (by decide +kernel)
theorem i_World_workOfLefts_15 : m_at k_World_workOfLefts 15 = some (.aload_n 0, 1, 0) := m_at_of r_World_workOfLefts (by decide +kernel)
theorem i_World_workOfLefts_16 : m_at k_World_workOfLefts 16 = some (.iload_n 3, 1, 0) := m_at_of r_World_workOfLefts (by decide +kernel)
theorem i_World_workOfLefts_17 : m_at k_World_workOfLefts 17 = some (.iconst 0, 1, 0) := m_at_of r_World_workOfLefts (by decide +kernel)
theorem i_World_workOfLefts_18 : m_at k_World_workOfLefts 18 = some (.invokevirtual 29, 3, 127) := m_at_of r_World_workOfLefts (by decide +kernel)
theorem i_World_workOfLefts_21 : m_at k_World_workOfLefts 21 = some (.ifCond .eq (24), 3, 0) := m_at_of r_World_workOfLefts (by decide +kernel)
theorem i_World_workOfLefts_24 : m_at k_World_workOfLefts 24 = some (.aload_n 0, 1, 0) := m_at_of r_World_workOfLefts (by decide +kernel)
theorem i_World_workOfLefts_25 : m_at k_World_workOfLefts 25 = some (.bipush 39, 2, 0) := m_at_of r_World_workOfLefts (by decide +kernel)
theorem i_World_workOfLefts_27 : m_at k_World_workOfLefts 27 = some (.iload_n 3, 1, 0) := m_at_of r_World_workOfLefts (by decide +kernel)
theorem i_World_workOfLefts_28 : m_at k_World_workOfLefts 28 = some (.invokevirtual 25, 3, 109) := m_at_of r_World_workOfLefts (by decide +kernel)
theorem i_World_workOfLefts_31 : m_at k_World_workOfLefts 31 = some (.iload_n 1, 1, 0) := m_at_of r_World_workOfLefts (by decide +kernel)
theorem i_World_workOfLefts_32 : m_at k_World_workOfLefts 32 = some (.if_icmp .ne (13), 3, 0) := m_at_of r_World_workOfLefts (by decide +kernel)
theorem i_World_workOfLefts_35 : m_at k_World_workOfLefts 35 = some (.iload_n 2, 1, 0) := m_at_of r_World_workOfLefts (by decide +kernel)
theorem i_World_workOfLefts_36 : m_at k_World_workOfLefts 36 = some (.aload_n 0, 1, 0) := m_at_of r_World_workOfLefts (by decide +kernel)
theorem i_World_workOfLefts_37 : m_at k_World_workOfLefts 37 = some (.bipush 51, 2, 0) := m_at_of r_World_workOfLefts (by decide +kernel)
theorem i_World_workOfLefts_39 : m_at k_World_workOfLefts 39 = some (.iload_n 3, 1, 0) := m_at_of r_World_workOfLefts (by decide +kernel)
theorem i_World_workOfLefts_40 : m_at k_World_workOfLefts 40 = some (.invokevirtual 25, 3, 109) := m_at_of r_World_workOfLefts (by decide +kernel)
theorem i_World_workOfLefts_43 : m_at k_World_workOfLefts 43 = some (.iadd, 1, 0) := m_at_of r_World_workOfLefts (by decide +kernel)
theorem i_World_workOfLefts_44 : m_at k_World_workOfLefts 44 = some (.istore_n 2, 1, 0) := m_at_of r_World_workOfLefts (by decide +kernel)
theorem i_World_workOfLefts_45 : m_at k_World_workOfLefts 45 = some (.iinc 3 (1), 3, 0) := m_at_of r_World_workOfLefts (by decide +kernel)
theorem i_World_workOfLefts_48 : m_at k_World_workOfLefts 48 = some (.goto (-44), 3, 0) := m_at_of r_World_workOfLefts (by decide +kernel)
theorem i_World_workOfLefts_51 : m_at k_World_workOfLefts 51 = some (.iload_n 2, 1, 0) := m_at_of r_World_workOfLefts (by decide +kernel)
theorem i_World_workOfLefts_52 : m_at k_World_workOfLefts 52 = some (.ireturn, 1, 0) := m_at_of r_World_workOfLefts (by decide +kernel)
set_option maxRecDepth 20000 in
set_option maxHeartbeats 1000000 in
theorem E_World_workOfLefts (x : m_X) (s : m_H) (w : Nat) (n1 : Int32) : m_M x k_World_workOfLefts [.ref w, .int n1] s = if m_isO s w 9 = true then (m_D x 3 k_World_workOfLefts 4 [some (.ref w), some (.int n1), some (.int 0), some (.int 0)] [] s) else none := by
  refine e_M1 (L0 := [some (.ref w), some (.int n1), none, none]) rfl (by decide +kernel) rfl (q_World_workOfLefts _) rfl ?_
  refine e_iconst (v := 0) i_World_workOfLefts_0 (by decide) ?_
  refine e_istore_n (L' := [some (.ref w), some (.int n1), some (.int 0), none]) i_World_workOfLefts_1 (of_decide_eq_true rfl) rfl ?_
  refine e_iconst (v := 0) i_World_workOfLefts_2 (by decide) ?_
  refine e_istore_n (L' := [some (.ref w), some (.int n1), some (.int 0), some (.int 0)]) i_World_workOfLefts_3 (of_decide_eq_true rfl) rfl ?_
  exact rfl
set_option maxRecDepth 20000 in
set_option maxHeartbeats 1000000 in
theorem E_World_workOfLefts_4 (x : m_X) (ρ : Nat) (hρ : 3 ≤ ρ) (s : m_H) (w : Nat) (n1 : Int32) (n2 : Int32) (n3 : Int32)  : m_D x ρ k_World_workOfLefts 4 [some (.ref w), some (.int n1), some (.int n2), some (.int n3)] [] s = (m_fR s 9 0 w).bind fun v6 => (m_ia x s v6 25).bind fun v11 => if v11 ≤ n3 then (some (some (.int n2), s)) else m_bI (m_M x k_World_isHow [.ref w, .int n3, .int 0] s) fun v18 s18 => if v18 = 0 then (m_D x ρ k_World_workOfLefts 4 [some (.ref w), some (.int n1), some (.int n2), some (.int (n3 + (1 : Int32)))] [] s18) else m_bI (m_M x k_World_at [.ref w, .int 39, .int n3] s18) fun v28 s28 => if v28 = n1 then (m_bI (m_M x k_World_at [.ref w, .int 51, .int n3] s28) fun v40 s40 => m_D x ρ k_World_workOfLefts 4 [some (.ref w), some (.int n1), some (.int (n2 + v40)), some (.int (n3 + (1 : Int32)))] [] s40) else m_D x ρ k_World_workOfLefts 4 [some (.ref w), some (.int n1), some (.int n2), some (.int (n3 + (1 : Int32)))] [] s28 := by
  refine e_iload_n i_World_workOfLefts_4 rfl ?_
  refine e_aload_n i_World_workOfLefts_5 rfl ?_
  refine e_getR i_World_workOfLefts_6 lf_36 (by decide) ft_9_0 (fun v6 => ?_)
  refine e_bipush (v := 25) i_World_workOfLefts_9 (by decide) ?_
  refine e_iald i_World_workOfLefts_11 (fun v11 => ?_)
  refine e_icmpge (t := 51) i_World_workOfLefts_12 (by decide) ?_ ?_
  · refine e_iload_n i_World_workOfLefts_51 rfl ?_
    exact e_iretI i_World_workOfLefts_52 rfl
  · refine e_aload_n i_World_workOfLefts_15 rfl ?_
    refine e_iload_n i_World_workOfLefts_16 rfl ?_
    refine e_iconst (v := 0) i_World_workOfLefts_17 (by decide) ?_
    refine e_callI (as := [.ref w, .int n3, .int 0]) (st' := []) i_World_workOfLefts_18 lm_127 (Or.inr (Or.inl ⟨rfl, rfl⟩)) w_World_isHow rfl rfl rfl (Nat.le_of_ble_eq_true rfl) (Nat.le_of_ble_eq_true rfl) (m_rlt (q_World_isHow _) (Nat.lt_of_lt_of_le (by decide) hρ)) rfl (fun v18 s18 => ?_)
    refine e_ifeq (t := 45) i_World_workOfLefts_21 (by decide) ?_ ?_
    · refine e_iinc (w := 1) (L' := [some (.ref w), some (.int n1), some (.int n2), some (.int (n3 + (1 : Int32)))]) i_World_workOfLefts_45 rfl (of_decide_eq_true rfl) (by decide) rfl ?_
      refine e_goto (t := 4) i_World_workOfLefts_48 (by decide) ?_
      exact rfl
    · refine e_aload_n i_World_workOfLefts_24 rfl ?_
      refine e_bipush (v := 39) i_World_workOfLefts_25 (by decide) ?_
      refine e_iload_n i_World_workOfLefts_27 rfl ?_
      refine e_callI (as := [.ref w, .int 39, .int n3]) (st' := []) i_World_workOfLefts_28 lm_109 (Or.inr (Or.inl ⟨rfl, rfl⟩)) w_World_at rfl rfl rfl (Nat.le_of_ble_eq_true rfl) (Nat.le_of_ble_eq_true rfl) (m_rlt (q_World_at _) (Nat.lt_of_lt_of_le (by decide) hρ)) rfl (fun v28 s28 => ?_)
      refine e_iload_n i_World_workOfLefts_31 rfl ?_
      refine e_icmpne (t := 45) i_World_workOfLefts_32 (by decide) ?_ ?_
      · refine e_iinc (w := 1) (L' := [some (.ref w), some (.int n1), some (.int n2), some (.int (n3 + (1 : Int32)))]) i_World_workOfLefts_45 rfl (of_decide_eq_true rfl) (by decide) rfl ?_
        refine e_goto (t := 4) i_World_workOfLefts_48 (by decide) ?_
        exact rfl
      · refine e_iload_n i_World_workOfLefts_35 rfl ?_
        refine e_aload_n i_World_workOfLefts_36 rfl ?_
        refine e_bipush (v := 51) i_World_workOfLefts_37 (by decide) ?_
        refine e_iload_n i_World_workOfLefts_39 rfl ?_
        refine e_callI (as := [.ref w, .int 51, .int n3]) (st' := [.int n2]) i_World_workOfLefts_40 lm_109 (Or.inr (Or.inl ⟨rfl, rfl⟩)) w_World_at rfl rfl rfl (Nat.le_of_ble_eq_true rfl) (Nat.le_of_ble_eq_true rfl) (m_rlt (q_World_at _) (Nat.lt_of_lt_of_le (by decide) hρ)) rfl (fun v40 s40 => ?_)
        refine e_iadd i_World_workOfLefts_43 ?_
        refine e_istore_n (L' := [some (.ref w), some (.int n1), some (.int (n2 + v40)), some (.int n3)]) i_World_workOfLefts_44 (of_decide_eq_true rfl) rfl ?_
        refine e_iinc (w := 1) (L' := [some (.ref w), some (.int n1), some (.int (n2 + v40)), some (.int (n3 + (1 : Int32)))]) i_World_workOfLefts_45 rfl (of_decide_eq_true rfl) (by decide) rfl ?_
        refine e_goto (t := 4) i_World_workOfLefts_48 (by decide) ?_
        exact rfl
theorem i_World_highestBidder_0 : m_at k_World_highestBidder 0 = some (.iconst (-1), 1, 0) := m_at_of r_World_highestBidder (by decide +kernel)
theorem i_World_highestBidder_1 : m_at k_World_highestBidder 1 = some (.istore_n 3, 1, 0) := m_at_of r_World_highestBidder (by decide +kernel)
theorem i_World_highestBidder_2 : m_at k_World_highestBidder 2 = some (.iconst 0, 1, 0) := m_at_of r_World_highestBidder (by decide +kernel)
theorem i_World_highestBidder_3 : m_at k_World_highestBidder 3 = some (.istore 4, 2, 0) := m_at_of r_World_highestBidder (by decide +kernel)
theorem i_World_highestBidder_5 : m_at k_World_highestBidder 5 = some (.iload 4, 2, 0) := m_at_of r_World_highestBidder (by decide +kernel)
theorem i_World_highestBidder_7 : m_at k_World_highestBidder 7 = some (.aload_n 0, 1, 0) := m_at_of r_World_highestBidder (by decide +kernel)
theorem i_World_highestBidder_8 : m_at k_World_highestBidder 8 = some (.getfield 11, 3, 36) := m_at_of r_World_highestBidder (by decide +kernel)
theorem i_World_highestBidder_11 : m_at k_World_highestBidder 11 = some (.iconst 0, 1, 0) := m_at_of r_World_highestBidder (by decide +kernel)
theorem i_World_highestBidder_12 : m_at k_World_highestBidder 12 = some (.iaload, 1, 0) := m_at_of r_World_highestBidder (by decide +kernel)
theorem i_World_highestBidder_13 : m_at k_World_highestBidder 13 = some (.if_icmp .ge (62), 3, 0) := m_at_of r_World_highestBidder (by decide +kernel)
theorem i_World_highestBidder_16 : m_at k_World_highestBidder 16 = some (.iload 4, 2, 0) := m_at_of r_World_highestBidder (by decide +kernel)
theorem i_World_highestBidder_18 : m_at k_World_highestBidder 18 = some (.iload_n 2, 1, 0) := m_at_of r_World_highestBidder (by decide +kernel)
theorem i_World_highestBidder_19 : m_at k_World_highestBidder 19 = some (.if_icmp .eq (18), 3, 0) := m_at_of r_World_highestBidder (by decide +kernel)
theorem i_World_highestBidder_22 : m_at k_World_highestBidder 22 = some (.aload_n 0, 1, 0) := m_at_of r_World_highestBidder (by decide +kernel)
theorem i_World_highestBidder_23 : m_at k_World_highestBidder 23 = some (.bipush 8, 2, 0) := m_at_of r_World_highestBidder (by decide +kernel)
theorem i_World_highestBidder_25 : m_at k_World_highestBidder 25 = some (.iload 4, 2, 0) := m_at_of r_World_highestBidder (by decide +kernel)
theorem i_World_highestBidder_27 : m_at k_World_highestBidder 27 = some (.invokevirtual 25, 3, 109) := m_at_of r_World_highestBidder (by decide +kernel)
theorem i_World_highestBidder_30 : m_at k_World_highestBidder 30 = some (.ifCond .le (7), 3, 0) := m_at_of r_World_highestBidder (by decide +kernel)
theorem i_World_highestBidder_33 : m_at k_World_highestBidder 33 = some (.iconst 1, 1, 0) := m_at_of r_World_highestBidder (by decide +kernel)
theorem i_World_highestBidder_34 : m_at k_World_highestBidder 34 = some (.goto (4), 3, 0) := m_at_of r_World_highestBidder (by decide +kernel)
theorem i_World_highestBidder_37 : m_at k_World_highestBidder 37 = some (.iconst 0, 1, 0) := m_at_of r_World_highestBidder (by decide +kernel)
theorem i_World_highestBidder_38 : m_at k_World_highestBidder 38 = some (.istore 5, 2, 0) := m_at_of r_World_highestBidder (by decide +kernel)
theorem i_World_highestBidder_40 : m_at k_World_highestBidder 40 = some (.iload 5, 2, 0) := m_at_of r_World_highestBidder (by decide +kernel)
theorem i_World_highestBidder_42 : m_at k_World_highestBidder 42 = some (.ifCond .eq (27), 3, 0) := m_at_of r_World_highestBidder (by decide +kernel)
theorem i_World_highestBidder_45 : m_at k_World_highestBidder 45 = some (.iload_n 3, 1, 0) := m_at_of r_World_highestBidder (by decide +kernel)
theorem i_World_highestBidder_46 : m_at k_World_highestBidder 46 = some (.iconst (-1), 1, 0) := m_at_of r_World_highestBidder (by decide +kernel)
theorem i_World_highestBidder_47 : m_at k_World_highestBidder 47 = some (.if_icmp .eq (19), 3, 0) := m_at_of r_World_highestBidder (by decide +kernel)
theorem i_World_highestBidder_50 : m_at k_World_highestBidder 50 = some (.aload_n 0, 1, 0) := m_at_of r_World_highestBidder (by decide +kernel)
theorem i_World_highestBidder_51 : m_at k_World_highestBidder 51 = some (.iload 4, 2, 0) := m_at_of r_World_highestBidder (by decide +kernel)
theorem i_World_highestBidder_53 : m_at k_World_highestBidder 53 = some (.iload_n 1, 1, 0) := m_at_of r_World_highestBidder (by decide +kernel)
theorem i_World_highestBidder_54 : m_at k_World_highestBidder 54 = some (.invokevirtual 62, 3, 153) := m_at_of r_World_highestBidder (by decide +kernel)
theorem i_World_highestBidder_57 : m_at k_World_highestBidder 57 = some (.aload_n 0, 1, 0) := m_at_of r_World_highestBidder (by decide +kernel)
theorem i_World_highestBidder_58 : m_at k_World_highestBidder 58 = some (.iload_n 3, 1, 0) := m_at_of r_World_highestBidder (by decide +kernel)
theorem i_World_highestBidder_59 : m_at k_World_highestBidder 59 = some (.iload_n 1, 1, 0) := m_at_of r_World_highestBidder (by decide +kernel)
theorem i_World_highestBidder_60 : m_at k_World_highestBidder 60 = some (.invokevirtual 62, 3, 153) := m_at_of r_World_highestBidder (by decide +kernel)
theorem i_World_highestBidder_63 : m_at k_World_highestBidder 63 = some (.if_icmp .le (6), 3, 0) := m_at_of r_World_highestBidder (by decide +kernel)
theorem i_World_highestBidder_66 : m_at k_World_highestBidder 66 = some (.iload 4, 2, 0) := m_at_of r_World_highestBidder (by decide +kernel)
theorem i_World_highestBidder_68 : m_at k_World_highestBidder 68 = some (.istore_n 3, 1, 0) := m_at_of r_World_highestBidder (by decide +kernel)
theorem i_World_highestBidder_69 : m_at k_World_highestBidder 69 = some (.iinc 4 (1), 3, 0) := m_at_of r_World_highestBidder (by decide +kernel)
theorem i_World_highestBidder_72 : m_at k_World_highestBidder 72 = some (.goto (-67), 3, 0) := m_at_of r_World_highestBidder (by decide +kernel)
theorem i_World_highestBidder_75 : m_at k_World_highestBidder 75 = some (.iload_n 3, 1, 0) := m_at_of r_World_highestBidder (by decide +kernel)
theorem i_World_highestBidder_76 : m_at k_World_highestBidder 76 = some (.ireturn, 1, 0) := m_at_of r_World_highestBidder (by decide +kernel)
set_option maxRecDepth 20000 in
set_option maxHeartbeats 1000000 in
theorem E_World_highestBidder (x : m_X) (s : m_H) (w : Nat) (n1 : Int32) (n2 : Int32) : m_M x k_World_highestBidder [.ref w, .int n1, .int n2] s = if m_isO s w 9 = true then (m_D x 3 k_World_highestBidder 5 [some (.ref w), some (.int n1), some (.int n2), some (.int (-1)), some (.int 0), none] [] s) else none := by
  refine e_M1 (L0 := [some (.ref w), some (.int n1), some (.int n2), none, none, none]) rfl (by decide +kernel) rfl (q_World_highestBidder _) rfl ?_
  refine e_iconst (v := (-1)) i_World_highestBidder_0 (by decide) ?_
  refine e_istore_n (L' := [some (.ref w), some (.int n1), some (.int n2), some (.int (-1)), none, none]) i_World_highestBidder_1 (of_decide_eq_true rfl) rfl ?_
  refine e_iconst (v := 0) i_World_highestBidder_2 (by decide) ?_
  refine e_istore (L' := [some (.ref w), some (.int n1), some (.int n2), some (.int (-1)), some (.int 0), none]) i_World_highestBidder_3 (of_decide_eq_true rfl) rfl ?_
  exact rfl
set_option maxRecDepth 20000 in
set_option maxHeartbeats 1000000 in
theorem E_World_highestBidder_5 (x : m_X) (ρ : Nat) (hρ : 3 ≤ ρ) (s : m_H) (w : Nat) (n1 : Int32) (n2 : Int32) (n3 : Int32) (n4 : Int32) (d5 : Option Value) (hd5 : m_nl d5 = true) : m_D x ρ k_World_highestBidder 5 [some (.ref w), some (.int n1), some (.int n2), some (.int n3), some (.int n4), d5] [] s = (m_fR s 9 0 w).bind fun v8 => (m_ia x s v8 0).bind fun v12 => if v12 ≤ n4 then (some (some (.int n3), s)) else if n4 = n2 then (m_D x ρ k_World_highestBidder 38 [some (.ref w), some (.int n1), some (.int n2), some (.int n3), some (.int n4), d5] [.int 0] s) else m_bI (m_M x k_World_at [.ref w, .int 8, .int n4] s) fun v27 s27 => if v27 ≤ 0 then (m_D x ρ k_World_highestBidder 38 [some (.ref w), some (.int n1), some (.int n2), some (.int n3), some (.int n4), d5] [.int 0] s27) else m_D x ρ k_World_highestBidder 38 [some (.ref w), some (.int n1), some (.int n2), some (.int n3), some (.int n4), d5] [.int 1] s27 := by
  refine e_iload i_World_highestBidder_5 rfl ?_
  refine e_aload_n i_World_highestBidder_7 rfl ?_
  refine e_getR i_World_highestBidder_8 lf_36 (by decide) ft_9_0 (fun v8 => ?_)
  refine e_iconst (v := 0) i_World_highestBidder_11 (by decide) ?_
  refine e_iald i_World_highestBidder_12 (fun v12 => ?_)
  refine e_icmpge (t := 75) i_World_highestBidder_13 (by decide) ?_ ?_
  · refine e_iload_n i_World_highestBidder_75 rfl ?_
    exact e_iretI i_World_highestBidder_76 rfl
  · refine e_iload i_World_highestBidder_16 rfl ?_
    refine e_iload_n i_World_highestBidder_18 rfl ?_
    refine e_icmpeq (t := 37) i_World_highestBidder_19 (by decide) ?_ ?_
    · refine e_iconst (v := 0) i_World_highestBidder_37 (by decide) ?_
      exact rfl
    · refine e_aload_n i_World_highestBidder_22 rfl ?_
      refine e_bipush (v := 8) i_World_highestBidder_23 (by decide) ?_
      refine e_iload i_World_highestBidder_25 rfl ?_
      refine e_callI (as := [.ref w, .int 8, .int n4]) (st' := []) i_World_highestBidder_27 lm_109 (Or.inr (Or.inl ⟨rfl, rfl⟩)) w_World_at rfl rfl rfl (Nat.le_of_ble_eq_true rfl) (Nat.le_of_ble_eq_true rfl) (m_rlt (q_World_at _) (Nat.lt_of_lt_of_le (by decide) hρ)) rfl (fun v27 s27 => ?_)
      refine e_ifle (t := 37) i_World_highestBidder_30 (by decide) ?_ ?_
      · refine e_iconst (v := 0) i_World_highestBidder_37 (by decide) ?_
        exact rfl
      · refine e_iconst (v := 1) i_World_highestBidder_33 (by decide) ?_
        refine e_goto (t := 38) i_World_highestBidder_34 (by decide) ?_
        exact rfl
set_option maxRecDepth 20000 in
set_option maxHeartbeats 1000000 in
theorem E_World_highestBidder_38 (x : m_X) (ρ : Nat) (hρ : 3 ≤ ρ) (s : m_H) (w : Nat) (n1 : Int32) (n2 : Int32) (n3 : Int32) (n4 : Int32) (d5 : Option Value) (nt0 : Int32) (hd5 : m_nl d5 = true) : m_D x ρ k_World_highestBidder 38 [some (.ref w), some (.int n1), some (.int n2), some (.int n3), some (.int n4), d5] [.int nt0] s = if nt0 = 0 then (m_D x ρ k_World_highestBidder 5 [some (.ref w), some (.int n1), some (.int n2), some (.int n3), some (.int (n4 + (1 : Int32))), some (.int nt0)] [] s) else if n3 = (-1) then (m_D x ρ k_World_highestBidder 5 [some (.ref w), some (.int n1), some (.int n2), some (.int n4), some (.int (n4 + (1 : Int32))), some (.int nt0)] [] s) else m_bI (m_M x k_World_bidOf [.ref w, .int n4, .int n1] s) fun v54 s54 => m_bI (m_M x k_World_bidOf [.ref w, .int n3, .int n1] s54) fun v60 s60 => if v54 ≤ v60 then (m_D x ρ k_World_highestBidder 5 [some (.ref w), some (.int n1), some (.int n2), some (.int n3), some (.int (n4 + (1 : Int32))), some (.int nt0)] [] s60) else m_D x ρ k_World_highestBidder 5 [some (.ref w), some (.int n1), some (.int n2), some (.int n4), some (.int (n4 + (1 : Int32))), some (.int nt0)] [] s60 := by
  refine e_istore (L' := [some (.ref w), some (.int n1), some (.int n2), some (.int n3), some (.int n4), some (.int nt0)]) i_World_highestBidder_38 (of_decide_eq_true rfl) rfl ?_
  refine e_iload i_World_highestBidder_40 rfl ?_
  refine e_ifeq (t := 69) i_World_highestBidder_42 (by decide) ?_ ?_
  · refine e_iinc (w := 1) (L' := [some (.ref w), some (.int n1), some (.int n2), some (.int n3), some (.int (n4 + (1 : Int32))), some (.int nt0)]) i_World_highestBidder_69 rfl (of_decide_eq_true rfl) (by decide) rfl ?_
    refine e_goto (t := 5) i_World_highestBidder_72 (by decide) ?_
    exact rfl
  · refine e_iload_n i_World_highestBidder_45 rfl ?_
    refine e_iconst (v := (-1)) i_World_highestBidder_46 (by decide) ?_
    refine e_icmpeq (t := 66) i_World_highestBidder_47 (by decide) ?_ ?_
    · refine e_iload i_World_highestBidder_66 rfl ?_
      refine e_istore_n (L' := [some (.ref w), some (.int n1), some (.int n2), some (.int n4), some (.int n4), some (.int nt0)]) i_World_highestBidder_68 (of_decide_eq_true rfl) rfl ?_
      refine e_iinc (w := 1) (L' := [some (.ref w), some (.int n1), some (.int n2), some (.int n4), some (.int (n4 + (1 : Int32))), some (.int nt0)]) i_World_highestBidder_69 rfl (of_decide_eq_true rfl) (by decide) rfl ?_
      refine e_goto (t := 5) i_World_highestBidder_72 (by decide) ?_
      exact rfl
    · refine e_aload_n i_World_highestBidder_50 rfl ?_
      refine e_iload i_World_highestBidder_51 rfl ?_
      refine e_iload_n i_World_highestBidder_53 rfl ?_
      refine e_callI (as := [.ref w, .int n4, .int n1]) (st' := []) i_World_highestBidder_54 lm_153 (Or.inr (Or.inl ⟨rfl, rfl⟩)) w_World_bidOf rfl rfl rfl (Nat.le_of_ble_eq_true rfl) (Nat.le_of_ble_eq_true rfl) (m_rlt (q_World_bidOf _) (Nat.lt_of_lt_of_le (by decide) hρ)) rfl (fun v54 s54 => ?_)
      refine e_aload_n i_World_highestBidder_57 rfl ?_
      refine e_iload_n i_World_highestBidder_58 rfl ?_
      refine e_iload_n i_World_highestBidder_59 rfl ?_
      refine e_callI (as := [.ref w, .int n3, .int n1]) (st' := [.int v54]) i_World_highestBidder_60 lm_153 (Or.inr (Or.inl ⟨rfl, rfl⟩)) w_World_bidOf rfl rfl rfl (Nat.le_of_ble_eq_true rfl) (Nat.le_of_ble_eq_true rfl) (m_rlt (q_World_bidOf _) (Nat.lt_of_lt_of_le (by decide) hρ)) rfl (fun v60 s60 => ?_)
      refine e_icmple (t := 69) i_World_highestBidder_63 (by decide) ?_ ?_
      · refine e_iinc (w := 1) (L' := [some (.ref w), some (.int n1), some (.int n2), some (.int n3), some (.int (n4 + (1 : Int32))), some (.int nt0)]) i_World_highestBidder_69 rfl (of_decide_eq_true rfl) (by decide) rfl ?_
        refine e_goto (t := 5) i_World_highestBidder_72 (by decide) ?_
        exact rfl
      · refine e_iload i_World_highestBidder_66 rfl ?_
        refine e_istore_n (L' := [some (.ref w), some (.int n1), some (.int n2), some (.int n4), some (.int n4), some (.int nt0)]) i_World_highestBidder_68 (of_decide_eq_true rfl) rfl ?_
        refine e_iinc (w := 1) (L' := [some (.ref w), some (.int n1), some (.int n2), some (.int n4), some (.int (n4 + (1 : Int32))), some (.int nt0)]) i_World_highestBidder_69 rfl (of_decide_eq_true rfl) (by decide) rfl ?_
        refine e_goto (t := 5) i_World_highestBidder_72 (by decide) ?_
        exact rfl
theorem i_World_bidOf_0 : m_at k_World_bidOf 0 = some (.aload_n 0, 1, 0) := m_at_of r_World_bidOf (by decide +kernel)
theorem i_World_bidOf_1 : m_at k_World_bidOf 1 = some (.bipush 8, 2, 0) := m_at_of r_World_bidOf (by decide +kernel)
theorem i_World_bidOf_3 : m_at k_World_bidOf 3 = some (.iload_n 1, 1, 0) := m_at_of r_World_bidOf (by decide +kernel)
theorem i_World_bidOf_4 : m_at k_World_bidOf 4 = some (.invokevirtual 25, 3, 109) := m_at_of r_World_bidOf (by decide +kernel)
theorem i_World_bidOf_7 : m_at k_World_bidOf 7 = some (.bipush 10, 2, 0) := m_at_of r_World_bidOf (by decide +kernel)
theorem i_World_bidOf_9 : m_at k_World_bidOf 9 = some (.aload_n 0, 1, 0) := m_at_of r_World_bidOf (by decide +kernel)
theorem i_World_bidOf_10 : m_at k_World_bidOf 10 = some (.bipush 75, 2, 0) := m_at_of r_World_bidOf (by decide +kernel)
theorem i_World_bidOf_12 : m_at k_World_bidOf 12 = some (.iload_n 2, 1, 0) := m_at_of r_World_bidOf (by decide +kernel)
theorem i_World_bidOf_13 : m_at k_World_bidOf 13 = some (.invokevirtual 25, 3, 109) := m_at_of r_World_bidOf (by decide +kernel)
theorem i_World_bidOf_16 : m_at k_World_bidOf 16 = some (.aload_n 0, 1, 0) := m_at_of r_World_bidOf (by decide +kernel)
theorem i_World_bidOf_17 : m_at k_World_bidOf 17 = some (.bipush 51, 2, 0) := m_at_of r_World_bidOf (by decide +kernel)
theorem i_World_bidOf_19 : m_at k_World_bidOf 19 = some (.iload_n 2, 1, 0) := m_at_of r_World_bidOf (by decide +kernel)
theorem i_World_bidOf_20 : m_at k_World_bidOf 20 = some (.invokevirtual 25, 3, 109) := m_at_of r_World_bidOf (by decide +kernel)
theorem i_World_bidOf_23 : m_at k_World_bidOf 23 = some (.iadd, 1, 0) := m_at_of r_World_bidOf (by decide +kernel)
theorem i_World_bidOf_24 : m_at k_World_bidOf 24 = some (.imul, 1, 0) := m_at_of r_World_bidOf (by decide +kernel)
theorem i_World_bidOf_25 : m_at k_World_bidOf 25 = some (.invokestatic 59, 3, 154) := m_at_of r_World_bidOf (by decide +kernel)
theorem i_World_bidOf_28 : m_at k_World_bidOf 28 = some (.ireturn, 1, 0) := m_at_of r_World_bidOf (by decide +kernel)
set_option maxRecDepth 20000 in
set_option maxHeartbeats 1000000 in
theorem E_World_bidOf (x : m_X) (s : m_H) (w : Nat) (n1 : Int32) (n2 : Int32) : m_M x k_World_bidOf [.ref w, .int n1, .int n2] s = if m_isO s w 9 = true then (m_bI (m_M x k_World_at [.ref w, .int 8, .int n1] s) fun v4 s4 => m_bI (m_M x k_World_at [.ref w, .int 75, .int n2] s4) fun v13 s13 => m_bI (m_M x k_World_at [.ref w, .int 51, .int n2] s13) fun v20 s20 => m_bI (m_M x k_Math_min_II [.int v4, .int ((10 : Int32) * (v13 + v20))] s20) fun v25 s25 => some (some (.int v25), s25)) else none := by
  refine e_M1 (L0 := [some (.ref w), some (.int n1), some (.int n2)]) rfl (by decide +kernel) rfl (q_World_bidOf _) rfl ?_
  refine e_aload_n i_World_bidOf_0 rfl ?_
  refine e_bipush (v := 8) i_World_bidOf_1 (by decide) ?_
  refine e_iload_n i_World_bidOf_3 rfl ?_
  refine e_callI (as := [.ref w, .int 8, .int n1]) (st' := []) i_World_bidOf_4 lm_109 (Or.inr (Or.inl ⟨rfl, rfl⟩)) w_World_at rfl rfl rfl (Nat.le_of_ble_eq_true rfl) (Nat.le_of_ble_eq_true rfl) (m_rlt (q_World_at _) (by decide)) rfl (fun v4 s4 => ?_)
  refine e_bipush (v := 10) i_World_bidOf_7 (by decide) ?_
  refine e_aload_n i_World_bidOf_9 rfl ?_
  refine e_bipush (v := 75) i_World_bidOf_10 (by decide) ?_
  refine e_iload_n i_World_bidOf_12 rfl ?_
  refine e_callI (as := [.ref w, .int 75, .int n2]) (st' := [.int 10, .int v4]) i_World_bidOf_13 lm_109 (Or.inr (Or.inl ⟨rfl, rfl⟩)) w_World_at rfl rfl rfl (Nat.le_of_ble_eq_true rfl) (Nat.le_of_ble_eq_true rfl) (m_rlt (q_World_at _) (by decide)) rfl (fun v13 s13 => ?_)
  refine e_aload_n i_World_bidOf_16 rfl ?_
  refine e_bipush (v := 51) i_World_bidOf_17 (by decide) ?_
  refine e_iload_n i_World_bidOf_19 rfl ?_
  refine e_callI (as := [.ref w, .int 51, .int n2]) (st' := [.int v13, .int 10, .int v4]) i_World_bidOf_20 lm_109 (Or.inr (Or.inl ⟨rfl, rfl⟩)) w_World_at rfl rfl rfl (Nat.le_of_ble_eq_true rfl) (Nat.le_of_ble_eq_true rfl) (m_rlt (q_World_at _) (by decide)) rfl (fun v20 s20 => ?_)
  refine e_iadd i_World_bidOf_23 ?_
  refine e_imul i_World_bidOf_24 ?_
  refine e_callI (as := [.int v4, .int ((10 : Int32) * (v13 + v20))]) (st' := []) i_World_bidOf_25 lm_154 (Or.inl ⟨rfl, rfl⟩) w_Math_min_II rfl rfl rfl (Nat.le_of_ble_eq_true rfl) (Nat.le_of_ble_eq_true rfl) (m_rlt (q_Math_min_II _) (by decide)) rfl (fun v25 s25 => ?_)
  exact e_iretI i_World_bidOf_28 rfl
theorem i_World_whomFits_0 : m_at k_World_whomFits 0 = some (.iconst 0, 1, 0) := m_at_of r_World_whomFits (by decide +kernel)
theorem i_World_whomFits_1 : m_at k_World_whomFits 1 = some (.istore_n 3, 1, 0) := m_at_of r_World_whomFits (by decide +kernel)
theorem i_World_whomFits_2 : m_at k_World_whomFits 2 = some (.iconst 0, 1, 0) := m_at_of r_World_whomFits (by decide +kernel)
theorem i_World_whomFits_3 : m_at k_World_whomFits 3 = some (.istore 4, 2, 0) := m_at_of r_World_whomFits (by decide +kernel)
theorem i_World_whomFits_5 : m_at k_World_whomFits 5 = some (.iload 4, 2, 0) := m_at_of r_World_whomFits (by decide +kernel)
theorem i_World_whomFits_7 : m_at k_World_whomFits 7 = some (.aload_n 0, 1, 0) := m_at_of r_World_whomFits (by decide +kernel)
theorem i_World_whomFits_8 : m_at k_World_whomFits 8 = some (.getfield 11, 3, 36) := m_at_of r_World_whomFits (by decide +kernel)
theorem i_World_whomFits_11 : m_at k_World_whomFits 11 = some (.iconst 0, 1, 0) := m_at_of r_World_whomFits (by decide +kernel)
theorem i_World_whomFits_12 : m_at k_World_whomFits 12 = some (.iaload, 1, 0) := m_at_of r_World_whomFits (by decide +kernel)
theorem i_World_whomFits_13 : m_at k_World_whomFits 13 = some (.if_icmp .ge (27), 3, 0) := m_at_of r_World_whomFits (by decide +kernel)
theorem i_World_whomFits_16 : m_at k_World_whomFits 16 = some (.aload_n 0, 1, 0) := m_at_of r_World_whomFits (by decide +kernel)
theorem i_World_whomFits_17 : m_at k_World_whomFits 17 = some (.iload 4, 2, 0) := m_at_of r_World_whomFits (by decide +kernel)
theorem i_World_whomFits_19 : m_at k_World_whomFits 19 = some (.iload_n 1, 1, 0) := m_at_of r_World_whomFits (by decide +kernel)
theorem i_World_whomFits_20 : m_at k_World_whomFits 20 = some (.iload_n 2, 1, 0) := m_at_of r_World_whomFits (by decide +kernel)
theorem i_World_whomFits_21 : m_at k_World_whomFits 21 = some (.invokevirtual 56, 3, 190) := m_at_of r_World_whomFits (by decide +kernel)
theorem i_World_whomFits_24 : m_at k_World_whomFits 24 = some (.ifCond .eq (10), 3, 0) := m_at_of r_World_whomFits (by decide +kernel)
theorem i_World_whomFits_27 : m_at k_World_whomFits 27 = some (.iload_n 3, 1, 0) := m_at_of r_World_whomFits (by decide +kernel)
theorem i_World_whomFits_28 : m_at k_World_whomFits 28 = some (.iconst 1, 1, 0) := m_at_of r_World_whomFits (by decide +kernel)
theorem i_World_whomFits_29 : m_at k_World_whomFits 29 = some (.iload 4, 2, 0) := m_at_of r_World_whomFits (by decide +kernel)
theorem i_World_whomFits_31 : m_at k_World_whomFits 31 = some (.ishl, 1, 0) := m_at_of r_World_whomFits (by decide +kernel)
theorem i_World_whomFits_32 : m_at k_World_whomFits 32 = some (.ior, 1, 0) := m_at_of r_World_whomFits (by decide +kernel)
theorem i_World_whomFits_33 : m_at k_World_whomFits 33 = some (.istore_n 3, 1, 0) := m_at_of r_World_whomFits (by decide +kernel)
theorem i_World_whomFits_34 : m_at k_World_whomFits 34 = some (.iinc 4 (1), 3, 0) := m_at_of r_World_whomFits (by decide +kernel)
theorem i_World_whomFits_37 : m_at k_World_whomFits 37 = some (.goto (-32), 3, 0) := m_at_of r_World_whomFits (by decide +kernel)
theorem i_World_whomFits_40 : m_at k_World_whomFits 40 = some (.iload_n 3, 1, 0) := m_at_of r_World_whomFits (by decide +kernel)
theorem i_World_whomFits_41 : m_at k_World_whomFits 41 = some (.ireturn, 1, 0) := m_at_of r_World_whomFits (by decide +kernel)
set_option maxRecDepth 20000 in
set_option maxHeartbeats 1000000 in
theorem E_World_whomFits (x : m_X) (s : m_H) (w : Nat) (n1 : Int32) (n2 : Int32) : m_M x k_World_whomFits [.ref w, .int n1, .int n2] s = if m_isO s w 9 = true then (m_D x 3 k_World_whomFits 5 [some (.ref w), some (.int n1), some (.int n2), some (.int 0), some (.int 0)] [] s) else none := by
  refine e_M1 (L0 := [some (.ref w), some (.int n1), some (.int n2), none, none]) rfl (by decide +kernel) rfl (q_World_whomFits _) rfl ?_
  refine e_iconst (v := 0) i_World_whomFits_0 (by decide) ?_
  refine e_istore_n (L' := [some (.ref w), some (.int n1), some (.int n2), some (.int 0), none]) i_World_whomFits_1 (of_decide_eq_true rfl) rfl ?_
  refine e_iconst (v := 0) i_World_whomFits_2 (by decide) ?_
  refine e_istore (L' := [some (.ref w), some (.int n1), some (.int n2), some (.int 0), some (.int 0)]) i_World_whomFits_3 (of_decide_eq_true rfl) rfl ?_
  exact rfl
set_option maxRecDepth 20000 in
set_option maxHeartbeats 1000000 in
theorem E_World_whomFits_5 (x : m_X) (ρ : Nat) (hρ : 3 ≤ ρ) (s : m_H) (w : Nat) (n1 : Int32) (n2 : Int32) (n3 : Int32) (n4 : Int32)  : m_D x ρ k_World_whomFits 5 [some (.ref w), some (.int n1), some (.int n2), some (.int n3), some (.int n4)] [] s = (m_fR s 9 0 w).bind fun v8 => (m_ia x s v8 0).bind fun v12 => if v12 ≤ n4 then (some (some (.int n3), s)) else m_bI (m_M x k_World_fits [.ref w, .int n4, .int n1, .int n2] s) fun v21 s21 => if v21 = 0 then (m_D x ρ k_World_whomFits 5 [some (.ref w), some (.int n1), some (.int n2), some (.int n3), some (.int (n4 + (1 : Int32)))] [] s21) else m_D x ρ k_World_whomFits 5 [some (.ref w), some (.int n1), some (.int n2), some (.int (n3 ||| ((1 : Int32) <<< (n4 &&& (31 : Int32))))), some (.int (n4 + (1 : Int32)))] [] s21 := by
  refine e_iload i_World_whomFits_5 rfl ?_
  refine e_aload_n i_World_whomFits_7 rfl ?_
  refine e_getR i_World_whomFits_8 lf_36 (by decide) ft_9_0 (fun v8 => ?_)
  refine e_iconst (v := 0) i_World_whomFits_11 (by decide) ?_
  refine e_iald i_World_whomFits_12 (fun v12 => ?_)
  refine e_icmpge (t := 40) i_World_whomFits_13 (by decide) ?_ ?_
  · refine e_iload_n i_World_whomFits_40 rfl ?_
    exact e_iretI i_World_whomFits_41 rfl
  · refine e_aload_n i_World_whomFits_16 rfl ?_
    refine e_iload i_World_whomFits_17 rfl ?_
    refine e_iload_n i_World_whomFits_19 rfl ?_
    refine e_iload_n i_World_whomFits_20 rfl ?_
    refine e_callI (as := [.ref w, .int n4, .int n1, .int n2]) (st' := []) i_World_whomFits_21 lm_190 (Or.inr (Or.inl ⟨rfl, rfl⟩)) w_World_fits rfl rfl rfl (Nat.le_of_ble_eq_true rfl) (Nat.le_of_ble_eq_true rfl) (m_rlt (q_World_fits _) (Nat.lt_of_lt_of_le (by decide) hρ)) rfl (fun v21 s21 => ?_)
    refine e_ifeq (t := 34) i_World_whomFits_24 (by decide) ?_ ?_
    · refine e_iinc (w := 1) (L' := [some (.ref w), some (.int n1), some (.int n2), some (.int n3), some (.int (n4 + (1 : Int32)))]) i_World_whomFits_34 rfl (of_decide_eq_true rfl) (by decide) rfl ?_
      refine e_goto (t := 5) i_World_whomFits_37 (by decide) ?_
      exact rfl
    · refine e_iload_n i_World_whomFits_27 rfl ?_
      refine e_iconst (v := 1) i_World_whomFits_28 (by decide) ?_
      refine e_iload i_World_whomFits_29 rfl ?_
      refine e_ishl i_World_whomFits_31 ?_
      refine e_ior i_World_whomFits_32 ?_
      refine e_istore_n (L' := [some (.ref w), some (.int n1), some (.int n2), some (.int (n3 ||| ((1 : Int32) <<< (n4 &&& (31 : Int32))))), some (.int n4)]) i_World_whomFits_33 (of_decide_eq_true rfl) rfl ?_
      refine e_iinc (w := 1) (L' := [some (.ref w), some (.int n1), some (.int n2), some (.int (n3 ||| ((1 : Int32) <<< (n4 &&& (31 : Int32))))), some (.int (n4 + (1 : Int32)))]) i_World_whomFits_34 rfl (of_decide_eq_true rfl) (by decide) rfl ?_
      refine e_goto (t := 5) i_World_whomFits_37 (by decide) ?_
      exact rfl
theorem i_World_fits_0 : m_at k_World_fits 0 = some (.aload_n 0, 1, 0) := m_at_of r_World_fits (by decide +kernel)
theorem i_World_fits_1 : m_at k_World_fits 1 = some (.iload_n 1, 1, 0) := m_at_of r_World_fits (by decide +kernel)
theorem i_World_fits_2 : m_at k_World_fits 2 = some (.invokevirtual 41, 3, 191) := m_at_of r_World_fits (by decide +kernel)
theorem i_World_fits_5 : m_at k_World_fits 5 = some (.ifCond .eq (22), 3, 0) := m_at_of r_World_fits (by decide +kernel)
theorem i_World_fits_8 : m_at k_World_fits 8 = some (.aload_n 0, 1, 0) := m_at_of r_World_fits (by decide +kernel)
theorem i_World_fits_9 : m_at k_World_fits 9 = some (.iconst 1, 1, 0) := m_at_of r_World_fits (by decide +kernel)
theorem i_World_fits_10 : m_at k_World_fits 10 = some (.iload_n 1, 1, 0) := m_at_of r_World_fits (by decide +kernel)
theorem i_World_fits_11 : m_at k_World_fits 11 = some (.invokevirtual 25, 3, 109) := m_at_of r_World_fits (by decide +kernel)
theorem i_World_fits_14 : m_at k_World_fits 14 = some (.iload_n 2, 1, 0) := m_at_of r_World_fits (by decide +kernel)
theorem i_World_fits_15 : m_at k_World_fits 15 = some (.isub, 1, 0) := m_at_of r_World_fits (by decide +kernel)
theorem i_World_fits_16 : m_at k_World_fits 16 = some (.invokestatic 52, 3, 192) := m_at_of r_World_fits (by decide +kernel)
theorem i_World_fits_19 : m_at k_World_fits 19 = some (.iload_n 3, 1, 0) := m_at_of r_World_fits (by decide +kernel)
theorem i_World_fits_20 : m_at k_World_fits 20 = some (.if_icmp .gt (7), 3, 0) := m_at_of r_World_fits (by decide +kernel)
theorem i_World_fits_23 : m_at k_World_fits 23 = some (.iconst 1, 1, 0) := m_at_of r_World_fits (by decide +kernel)
theorem i_World_fits_24 : m_at k_World_fits 24 = some (.goto (4), 3, 0) := m_at_of r_World_fits (by decide +kernel)
theorem i_World_fits_27 : m_at k_World_fits 27 = some (.iconst 0, 1, 0) := m_at_of r_World_fits (by decide +kernel)
theorem i_World_fits_28 : m_at k_World_fits 28 = some (.ireturn, 1, 0) := m_at_of r_World_fits (by decide +kernel)
set_option maxRecDepth 20000 in
set_option maxHeartbeats 1000000 in
theorem E_World_fits (x : m_X) (s : m_H) (w : Nat) (n1 : Int32) (n2 : Int32) (n3 : Int32) : m_M x k_World_fits [.ref w, .int n1, .int n2, .int n3] s = if m_isO s w 9 = true then (m_bI (m_M x k_World_hasOne [.ref w, .int n1] s) fun v2 s2 => if v2 = 0 then (some (some (.int 0), s2)) else m_bI (m_M x k_World_at [.ref w, .int 1, .int n1] s2) fun v11 s11 => m_bI (m_M x k_Math_abs [.int (v11 - n2)] s11) fun v16 s16 => if n3 < v16 then (some (some (.int 0), s16)) else some (some (.int 1), s16)) else none := by
  refine e_M1 (L0 := [some (.ref w), some (.int n1), some (.int n2), some (.int n3)]) rfl (by decide +kernel) rfl (q_World_fits _) rfl ?_
  refine e_aload_n i_World_fits_0 rfl ?_
  refine e_iload_n i_World_fits_1 rfl ?_
  refine e_callI (as := [.ref w, .int n1]) (st' := []) i_World_fits_2 lm_191 (Or.inr (Or.inl ⟨rfl, rfl⟩)) w_World_hasOne rfl rfl rfl (Nat.le_of_ble_eq_true rfl) (Nat.le_of_ble_eq_true rfl) (m_rlt (q_World_hasOne _) (by decide)) rfl (fun v2 s2 => ?_)
  refine e_ifeq (t := 27) i_World_fits_5 (by decide) ?_ ?_
  · refine e_iconst (v := 0) i_World_fits_27 (by decide) ?_
    exact e_iretZ i_World_fits_28 rfl (by decide)
  · refine e_aload_n i_World_fits_8 rfl ?_
    refine e_iconst (v := 1) i_World_fits_9 (by decide) ?_
    refine e_iload_n i_World_fits_10 rfl ?_
    refine e_callI (as := [.ref w, .int 1, .int n1]) (st' := []) i_World_fits_11 lm_109 (Or.inr (Or.inl ⟨rfl, rfl⟩)) w_World_at rfl rfl rfl (Nat.le_of_ble_eq_true rfl) (Nat.le_of_ble_eq_true rfl) (m_rlt (q_World_at _) (by decide)) rfl (fun v11 s11 => ?_)
    refine e_iload_n i_World_fits_14 rfl ?_
    refine e_isub i_World_fits_15 ?_
    refine e_callI (as := [.int (v11 - n2)]) (st' := []) i_World_fits_16 lm_192 (Or.inl ⟨rfl, rfl⟩) w_Math_abs rfl rfl rfl (Nat.le_of_ble_eq_true rfl) (Nat.le_of_ble_eq_true rfl) (m_rlt (q_Math_abs _) (by decide)) rfl (fun v16 s16 => ?_)
    refine e_iload_n i_World_fits_19 rfl ?_
    refine e_icmpgt (t := 27) i_World_fits_20 (by decide) ?_ ?_
    · refine e_iconst (v := 0) i_World_fits_27 (by decide) ?_
      exact e_iretZ i_World_fits_28 rfl (by decide)
    · refine e_iconst (v := 1) i_World_fits_23 (by decide) ?_
      refine e_goto (t := 28) i_World_fits_24 (by decide) ?_
      exact e_iretZ i_World_fits_28 rfl (by decide)
theorem i_World_takeOver_0 : m_at k_World_takeOver 0 = some (.aload_n 1, 1, 0) := m_at_of r_World_takeOver (by decide +kernel)
theorem i_World_takeOver_1 : m_at k_World_takeOver 1 = some (.getfield 11, 3, 36) := m_at_of r_World_takeOver (by decide +kernel)
theorem i_World_takeOver_4 : m_at k_World_takeOver 4 = some (.iconst 0, 1, 0) := m_at_of r_World_takeOver (by decide +kernel)
theorem i_World_takeOver_5 : m_at k_World_takeOver 5 = some (.aload_n 0, 1, 0) := m_at_of r_World_takeOver (by decide +kernel)
theorem i_World_takeOver_6 : m_at k_World_takeOver 6 = some (.getfield 11, 3, 36) := m_at_of r_World_takeOver (by decide +kernel)
theorem i_World_takeOver_9 : m_at k_World_takeOver 9 = some (.iconst 0, 1, 0) := m_at_of r_World_takeOver (by decide +kernel)
theorem i_World_takeOver_10 : m_at k_World_takeOver 10 = some (.sipush 141, 3, 0) := m_at_of r_World_takeOver (by decide +kernel)
theorem i_World_takeOver_13 : m_at k_World_takeOver 13 = some (.invokestatic 15, 3, 213) := m_at_of r_World_takeOver (by decide +kernel)
theorem i_World_takeOver_16 : m_at k_World_takeOver 16 = some (.return_, 1, 0) := m_at_of r_World_takeOver (by decide +kernel)
set_option maxRecDepth 20000 in
set_option maxHeartbeats 1000000 in
theorem E_World_takeOver (x : m_X) (s : m_H) (w : Nat) (r1 : Nat) : m_M x k_World_takeOver [.ref w, .ref r1] s = if m_isO s w 9 = true then ((m_fR s 9 0 r1).bind fun v1 => (m_fR s 9 0 w).bind fun v6 => (m_cpy s v1 0 v6 0 141).bind fun s13 => some (none, s13)) else none := by
  refine e_M1 (L0 := [some (.ref w), some (.ref r1)]) rfl (by decide +kernel) rfl (q_World_takeOver _) rfl ?_
  refine e_aload_n i_World_takeOver_0 rfl ?_
  refine e_getR i_World_takeOver_1 lf_36 (by decide) ft_9_0 (fun v1 => ?_)
  refine e_iconst (v := 0) i_World_takeOver_4 (by decide) ?_
  refine e_aload_n i_World_takeOver_5 rfl ?_
  refine e_getR i_World_takeOver_6 lf_36 (by decide) ft_9_0 (fun v6 => ?_)
  refine e_iconst (v := 0) i_World_takeOver_9 (by decide) ?_
  refine e_sipush (v := 141) i_World_takeOver_10 (by decide) ?_
  refine e_copy i_World_takeOver_13 lm_213 (Nat.le_of_ble_eq_true rfl) (fun s13 => ?_)
  exact e_vret i_World_takeOver_16 rfl
theorem i_World_fineCoins_0 : m_at k_World_fineCoins 0 = some (.aload_n 0, 1, 0) := m_at_of r_World_fineCoins (by decide +kernel)
theorem i_World_fineCoins_1 : m_at k_World_fineCoins 1 = some (.bipush 111, 2, 0) := m_at_of r_World_fineCoins (by decide +kernel)
theorem i_World_fineCoins_3 : m_at k_World_fineCoins 3 = some (.iload_n 1, 1, 0) := m_at_of r_World_fineCoins (by decide +kernel)
theorem i_World_fineCoins_4 : m_at k_World_fineCoins 4 = some (.invokevirtual 25, 3, 109) := m_at_of r_World_fineCoins (by decide +kernel)
theorem i_World_fineCoins_7 : m_at k_World_fineCoins 7 = some (.bipush 100, 2, 0) := m_at_of r_World_fineCoins (by decide +kernel)
theorem i_World_fineCoins_9 : m_at k_World_fineCoins 9 = some (.irem, 1, 0) := m_at_of r_World_fineCoins (by decide +kernel)
theorem i_World_fineCoins_10 : m_at k_World_fineCoins 10 = some (.ireturn, 1, 0) := m_at_of r_World_fineCoins (by decide +kernel)
set_option maxRecDepth 20000 in
set_option maxHeartbeats 1000000 in
theorem E_World_fineCoins (x : m_X) (s : m_H) (w : Nat) (n1 : Int32) : m_M x k_World_fineCoins [.ref w, .int n1] s = if m_isO s w 9 = true then (m_bI (m_M x k_World_at [.ref w, .int 111, .int n1] s) fun v4 s4 => some (some (.int (v4 - v4 / (100 : Int32) * (100 : Int32))), s4)) else none := by
  refine e_M1 (L0 := [some (.ref w), some (.int n1)]) rfl (by decide +kernel) rfl (q_World_fineCoins _) rfl ?_
  refine e_aload_n i_World_fineCoins_0 rfl ?_
  refine e_bipush (v := 111) i_World_fineCoins_1 (by decide) ?_
  refine e_iload_n i_World_fineCoins_3 rfl ?_
  refine e_callI (as := [.ref w, .int 111, .int n1]) (st' := []) i_World_fineCoins_4 lm_109 (Or.inr (Or.inl ⟨rfl, rfl⟩)) w_World_at rfl rfl rfl (Nat.le_of_ble_eq_true rfl) (Nat.le_of_ble_eq_true rfl) (m_rlt (q_World_at _) (by decide)) rfl (fun v4 s4 => ?_)
  refine e_bipush (v := 100) i_World_fineCoins_7 (by decide) ?_
  refine e_iremc i_World_fineCoins_9 (by decide) ?_
  exact e_iretI i_World_fineCoins_10 rfl
theorem i_World_fineWho_0 : m_at k_World_fineWho 0 = some (.aload_n 0, 1, 0) := m_at_of r_World_fineWho (by decide +kernel)
theorem i_World_fineWho_1 : m_at k_World_fineWho 1 = some (.bipush 111, 2, 0) := m_at_of r_World_fineWho (by decide +kernel)
theorem i_World_fineWho_3 : m_at k_World_fineWho 3 = some (.iload_n 1, 1, 0) := m_at_of r_World_fineWho (by decide +kernel)
theorem i_World_fineWho_4 : m_at k_World_fineWho 4 = some (.invokevirtual 25, 3, 109) := m_at_of r_World_fineWho (by decide +kernel)
theorem i_World_fineWho_7 : m_at k_World_fineWho 7 = some (.bipush 100, 2, 0) := m_at_of r_World_fineWho (by decide +kernel)
theorem i_World_fineWho_9 : m_at k_World_fineWho 9 = some (.idiv, 1, 0) := m_at_of r_World_fineWho (by decide +kernel)
theorem i_World_fineWho_10 : m_at k_World_fineWho 10 = some (.bipush 10, 2, 0) := m_at_of r_World_fineWho (by decide +kernel)
theorem i_World_fineWho_12 : m_at k_World_fineWho 12 = some (.irem, 1, 0) := m_at_of r_World_fineWho (by decide +kernel)
theorem i_World_fineWho_13 : m_at k_World_fineWho 13 = some (.ireturn, 1, 0) := m_at_of r_World_fineWho (by decide +kernel)
set_option maxRecDepth 20000 in
set_option maxHeartbeats 1000000 in
theorem E_World_fineWho (x : m_X) (s : m_H) (w : Nat) (n1 : Int32) : m_M x k_World_fineWho [.ref w, .int n1] s = if m_isO s w 9 = true then (m_bI (m_M x k_World_at [.ref w, .int 111, .int n1] s) fun v4 s4 => some (some (.int ((v4 / (100 : Int32)) - (v4 / (100 : Int32)) / (10 : Int32) * (10 : Int32))), s4)) else none := by
  refine e_M1 (L0 := [some (.ref w), some (.int n1)]) rfl (by decide +kernel) rfl (q_World_fineWho _) rfl ?_
  refine e_aload_n i_World_fineWho_0 rfl ?_
  refine e_bipush (v := 111) i_World_fineWho_1 (by decide) ?_
  refine e_iload_n i_World_fineWho_3 rfl ?_
  refine e_callI (as := [.ref w, .int 111, .int n1]) (st' := []) i_World_fineWho_4 lm_109 (Or.inr (Or.inl ⟨rfl, rfl⟩)) w_World_at rfl rfl rfl (Nat.le_of_ble_eq_true rfl) (Nat.le_of_ble_eq_true rfl) (m_rlt (q_World_at _) (by decide)) rfl (fun v4 s4 => ?_)
  refine e_bipush (v := 100) i_World_fineWho_7 (by decide) ?_
  refine e_idivc i_World_fineWho_9 (by decide) ?_
  refine e_bipush (v := 10) i_World_fineWho_10 (by decide) ?_
  refine e_iremc i_World_fineWho_12 (by decide) ?_
  exact e_iretI i_World_fineWho_13 rfl
theorem i_World_fineDay_0 : m_at k_World_fineDay 0 = some (.aload_n 0, 1, 0) := m_at_of r_World_fineDay (by decide +kernel)
theorem i_World_fineDay_1 : m_at k_World_fineDay 1 = some (.bipush 111, 2, 0) := m_at_of r_World_fineDay (by decide +kernel)
theorem i_World_fineDay_3 : m_at k_World_fineDay 3 = some (.iload_n 1, 1, 0) := m_at_of r_World_fineDay (by decide +kernel)
theorem i_World_fineDay_4 : m_at k_World_fineDay 4 = some (.invokevirtual 25, 3, 109) := m_at_of r_World_fineDay (by decide +kernel)
theorem i_World_fineDay_7 : m_at k_World_fineDay 7 = some (.sipush 1000, 3, 0) := m_at_of r_World_fineDay (by decide +kernel)
theorem i_World_fineDay_10 : m_at k_World_fineDay 10 = some (.idiv, 1, 0) := m_at_of r_World_fineDay (by decide +kernel)
theorem i_World_fineDay_11 : m_at k_World_fineDay 11 = some (.ireturn, 1, 0) := m_at_of r_World_fineDay (by decide +kernel)
set_option maxRecDepth 20000 in
set_option maxHeartbeats 1000000 in
theorem E_World_fineDay (x : m_X) (s : m_H) (w : Nat) (n1 : Int32) : m_M x k_World_fineDay [.ref w, .int n1] s = if m_isO s w 9 = true then (m_bI (m_M x k_World_at [.ref w, .int 111, .int n1] s) fun v4 s4 => some (some (.int (v4 / (1000 : Int32))), s4)) else none := by
  refine e_M1 (L0 := [some (.ref w), some (.int n1)]) rfl (by decide +kernel) rfl (q_World_fineDay _) rfl ?_
  refine e_aload_n i_World_fineDay_0 rfl ?_
  refine e_bipush (v := 111) i_World_fineDay_1 (by decide) ?_
  refine e_iload_n i_World_fineDay_3 rfl ?_
  refine e_callI (as := [.ref w, .int 111, .int n1]) (st' := []) i_World_fineDay_4 lm_109 (Or.inr (Or.inl ⟨rfl, rfl⟩)) w_World_at rfl rfl rfl (Nat.le_of_ble_eq_true rfl) (Nat.le_of_ble_eq_true rfl) (m_rlt (q_World_at _) (by decide)) rfl (fun v4 s4 => ?_)
  refine e_sipush (v := 1000) i_World_fineDay_7 (by decide) ?_
  refine e_idivc i_World_fineDay_10 (by decide) ?_
  exact e_iretI i_World_fineDay_11 rfl
theorem i_World_hasFine_0 : m_at k_World_hasFine 0 = some (.iload_n 1, 1, 0) := m_at_of r_World_hasFine (by decide +kernel)
theorem i_World_hasFine_1 : m_at k_World_hasFine 1 = some (.ifCond .lt (18), 3, 0) := m_at_of r_World_hasFine (by decide +kernel)
theorem i_World_hasFine_4 : m_at k_World_hasFine 4 = some (.iload_n 1, 1, 0) := m_at_of r_World_hasFine (by decide +kernel)
theorem i_World_hasFine_5 : m_at k_World_hasFine 5 = some (.aload_n 0, 1, 0) := m_at_of r_World_hasFine (by decide +kernel)
theorem i_World_hasFine_6 : m_at k_World_hasFine 6 = some (.getfield 11, 3, 36) := m_at_of r_World_hasFine (by decide +kernel)
theorem i_World_hasFine_9 : m_at k_World_hasFine 9 = some (.bipush 26, 2, 0) := m_at_of r_World_hasFine (by decide +kernel)
theorem i_World_hasFine_11 : m_at k_World_hasFine 11 = some (.iaload, 1, 0) := m_at_of r_World_hasFine (by decide +kernel)
theorem i_World_hasFine_12 : m_at k_World_hasFine 12 = some (.if_icmp .ge (7), 3, 0) := m_at_of r_World_hasFine (by decide +kernel)
theorem i_World_hasFine_15 : m_at k_World_hasFine 15 = some (.iconst 1, 1, 0) := m_at_of r_World_hasFine (by decide +kernel)
theorem i_World_hasFine_16 : m_at k_World_hasFine 16 = some (.goto (4), 3, 0) := m_at_of r_World_hasFine (by decide +kernel)
theorem i_World_hasFine_19 : m_at k_World_hasFine 19 = some (.iconst 0, 1, 0) := m_at_of r_World_hasFine (by decide +kernel)
theorem i_World_hasFine_20 : m_at k_World_hasFine 20 = some (.ireturn, 1, 0) := m_at_of r_World_hasFine (by decide +kernel)
set_option maxRecDepth 20000 in
set_option maxHeartbeats 1000000 in
theorem E_World_hasFine (x : m_X) (s : m_H) (w : Nat) (n1 : Int32) : m_M x k_World_hasFine [.ref w, .int n1] s = if m_isO s w 9 = true then (if n1 < 0 then (some (some (.int 0), s)) else (m_fR s 9 0 w).bind fun v6 => (m_ia x s v6 26).bind fun v11 => if v11 ≤ n1 then (some (some (.int 0), s)) else some (some (.int 1), s)) else none := by
  refine e_M1 (L0 := [some (.ref w), some (.int n1)]) rfl (by decide +kernel) rfl (q_World_hasFine _) rfl ?_
  refine e_iload_n i_World_hasFine_0 rfl ?_
  refine e_iflt (t := 19) i_World_hasFine_1 (by decide) ?_ ?_
  · refine e_iconst (v := 0) i_World_hasFine_19 (by decide) ?_
    exact e_iretZ i_World_hasFine_20 rfl (by decide)
  · refine e_iload_n i_World_hasFine_4 rfl ?_
    refine e_aload_n i_World_hasFine_5 rfl ?_
    refine e_getR i_World_hasFine_6 lf_36 (by decide) ft_9_0 (fun v6 => ?_)
    refine e_bipush (v := 26) i_World_hasFine_9 (by decide) ?_
    refine e_iald i_World_hasFine_11 (fun v11 => ?_)
    refine e_icmpge (t := 19) i_World_hasFine_12 (by decide) ?_ ?_
    · refine e_iconst (v := 0) i_World_hasFine_19 (by decide) ?_
      exact e_iretZ i_World_hasFine_20 rfl (by decide)
    · refine e_iconst (v := 1) i_World_hasFine_15 (by decide) ?_
      refine e_goto (t := 20) i_World_hasFine_16 (by decide) ?_
      exact e_iretZ i_World_hasFine_20 rfl (by decide)
theorem i_World_balanceOf_0 : m_at k_World_balanceOf 0 = some (.iconst 0, 1, 0) := m_at_of r_World_balanceOf (by decide +kernel)
theorem i_World_balanceOf_1 : m_at k_World_balanceOf 1 = some (.istore_n 2, 1, 0) := m_at_of r_World_balanceOf (by decide +kernel)
theorem i_World_balanceOf_2 : m_at k_World_balanceOf 2 = some (.iconst 0, 1, 0) := m_at_of r_World_balanceOf (by decide +kernel)
theorem i_World_balanceOf_3 : m_at k_World_balanceOf 3 = some (.istore_n 3, 1, 0) := m_at_of r_World_balanceOf (by decide +kernel)
theorem i_World_balanceOf_4 : m_at k_World_balanceOf 4 = some (.iload_n 3, 1, 0) := m_at_of r_World_balanceOf (by decide +kernel)
theorem i_World_balanceOf_5 : m_at k_World_balanceOf 5 = some (.aload_n 0, 1, 0) := m_at_of r_World_balanceOf (by decide +kernel)
theorem i_World_balanceOf_6 : m_at k_World_balanceOf 6 = some (.getfield 11, 3, 36) := m_at_of r_World_balanceOf (by decide +kernel)
theorem i_World_balanceOf_9 : m_at k_World_balanceOf 9 = some (.bipush 25, 2, 0) := m_at_of r_World_balanceOf (by decide +kernel)
theorem i_World_balanceOf_11 : m_at k_World_balanceOf 11 = some (.iaload, 1, 0) := m_at_of r_World_balanceOf (by decide +kernel)
theorem i_World_balanceOf_12 : m_at k_World_balanceOf 12 = some (.if_icmp .ge (67), 3, 0) := m_at_of r_World_balanceOf (by decide +kernel)
theorem i_World_balanceOf_15 : m_at k_World_balanceOf 15 = some (.aload_n 0, 1, 0) := m_at_of r_World_balanceOf (by decide +kernel)
theorem i_World_balanceOf_16 : m_at k_World_balanceOf 16 = some (.iload_n 3, 1, 0) := m_at_of r_World_balanceOf (by decide +kernel)
theorem i_World_balanceOf_17 : m_at k_World_balanceOf 17 = some (.invokevirtual 44, 3, 108) := m_at_of r_World_balanceOf (by decide +kernel)
theorem i_World_balanceOf_20 : m_at k_World_balanceOf 20 = some (.ifCond .eq (24), 3, 0) := m_at_of r_World_balanceOf (by decide +kernel)
theorem i_World_balanceOf_23 : m_at k_World_balanceOf 23 = some (.aload_n 0, 1, 0) := m_at_of r_World_balanceOf (by decide +kernel)
theorem i_World_balanceOf_24 : m_at k_World_balanceOf 24 = some (.bipush 39, 2, 0) := m_at_of r_World_balanceOf (by decide +kernel)
theorem i_World_balanceOf_26 : m_at k_World_balanceOf 26 = some (.iload_n 3, 1, 0) := m_at_of r_World_balanceOf (by decide +kernel)
theorem i_World_balanceOf_27 : m_at k_World_balanceOf 27 = some (.invokevirtual 25, 3, 109) := m_at_of r_World_balanceOf (by decide +kernel)
theorem i_World_balanceOf_30 : m_at k_World_balanceOf 30 = some (.iload_n 1, 1, 0) := m_at_of r_World_balanceOf (by decide +kernel)
theorem i_World_balanceOf_31 : m_at k_World_balanceOf 31 = some (.if_icmp .ne (13), 3, 0) := m_at_of r_World_balanceOf (by decide +kernel)
theorem i_World_balanceOf_34 : m_at k_World_balanceOf 34 = some (.iload_n 2, 1, 0) := m_at_of r_World_balanceOf (by decide +kernel)
theorem i_World_balanceOf_35 : m_at k_World_balanceOf 35 = some (.aload_n 0, 1, 0) := m_at_of r_World_balanceOf (by decide +kernel)
theorem i_World_balanceOf_36 : m_at k_World_balanceOf 36 = some (.bipush 51, 2, 0) := m_at_of r_World_balanceOf (by decide +kernel)
theorem i_World_balanceOf_38 : m_at k_World_balanceOf 38 = some (.iload_n 3, 1, 0) := m_at_of r_World_balanceOf (by decide +kernel)
theorem i_World_balanceOf_39 : m_at k_World_balanceOf 39 = some (.invokevirtual 25, 3, 109) := m_at_of r_World_balanceOf (by decide +kernel)
theorem i_World_balanceOf_42 : m_at k_World_balanceOf 42 = some (.iadd, 1, 0) := m_at_of r_World_balanceOf (by decide +kernel)
theorem i_World_balanceOf_43 : m_at k_World_balanceOf 43 = some (.istore_n 2, 1, 0) := m_at_of r_World_balanceOf (by decide +kernel)
theorem i_World_balanceOf_44 : m_at k_World_balanceOf 44 = some (.aload_n 0, 1, 0) := m_at_of r_World_balanceOf (by decide +kernel)
theorem i_World_balanceOf_45 : m_at k_World_balanceOf 45 = some (.iload_n 3, 1, 0) := m_at_of r_World_balanceOf (by decide +kernel)
theorem i_World_balanceOf_46 : m_at k_World_balanceOf 46 = some (.invokevirtual 44, 3, 108) := m_at_of r_World_balanceOf (by decide +kernel)
theorem i_World_balanceOf_49 : m_at k_World_balanceOf 49 = some (.ifCond .eq (24), 3, 0) := m_at_of r_World_balanceOf (by decide +kernel)
theorem i_World_balanceOf_52 : m_at k_World_balanceOf 52 = some (.aload_n 0, 1, 0) := m_at_of r_World_balanceOf (by decide +kernel)
theorem i_World_balanceOf_53 : m_at k_World_balanceOf 53 = some (.bipush 27, 2, 0) := m_at_of r_World_balanceOf (by decide +kernel)
theorem i_World_balanceOf_55 : m_at k_World_balanceOf 55 = some (.iload_n 3, 1, 0) := m_at_of r_World_balanceOf (by decide +kernel)
theorem i_World_balanceOf_56 : m_at k_World_balanceOf 56 = some (.invokevirtual 25, 3, 109) := m_at_of r_World_balanceOf (by decide +kernel)
theorem i_World_balanceOf_59 : m_at k_World_balanceOf 59 = some (.iload_n 1, 1, 0) := m_at_of r_World_balanceOf (by decide +kernel)
theorem i_World_balanceOf_60 : m_at k_World_balanceOf 60 = some (.if_icmp .ne (13), 3, 0) := m_at_of r_World_balanceOf (by decide +kernel)
theorem i_World_balanceOf_63 : m_at k_World_balanceOf 63 = some (.iload_n 2, 1, 0) := m_at_of r_World_balanceOf (by decide +kernel)
theorem i_World_balanceOf_64 : m_at k_World_balanceOf 64 = some (.aload_n 0, 1, 0) := m_at_of r_World_balanceOf (by decide +kernel)
theorem i_World_balanceOf_65 : m_at k_World_balanceOf 65 = some (.bipush 51, 2, 0) := m_at_of r_World_balanceOf (by decide +kernel)
theorem i_World_balanceOf_67 : m_at k_World_balanceOf 67 = some (.iload_n 3, 1, 0) := m_at_of r_World_balanceOf (by decide +kernel)
theorem i_World_balanceOf_68 : m_at k_World_balanceOf 68 = some (.invokevirtual 25, 3, 109) := m_at_of r_World_balanceOf (by decide +kernel)
theorem i_World_balanceOf_71 : m_at k_World_balanceOf 71 = some (.isub, 1, 0) := m_at_of r_World_balanceOf (by decide +kernel)
theorem i_World_balanceOf_72 : m_at k_World_balanceOf 72 = some (.istore_n 2, 1, 0) := m_at_of r_World_balanceOf (by decide +kernel)
theorem i_World_balanceOf_73 : m_at k_World_balanceOf 73 = some (.iinc 3 (1), 3, 0) := m_at_of r_World_balanceOf (by decide +kernel)
theorem i_World_balanceOf_76 : m_at k_World_balanceOf 76 = some (.goto (-72), 3, 0) := m_at_of r_World_balanceOf (by decide +kernel)
theorem i_World_balanceOf_79 : m_at k_World_balanceOf 79 = some (.iload_n 2, 1, 0) := m_at_of r_World_balanceOf (by decide +kernel)
theorem i_World_balanceOf_80 : m_at k_World_balanceOf 80 = some (.ireturn, 1, 0) := m_at_of r_World_balanceOf (by decide +kernel)
set_option maxRecDepth 20000 in
set_option maxHeartbeats 1000000 in
theorem E_World_balanceOf (x : m_X) (s : m_H) (w : Nat) (n1 : Int32) : m_M x k_World_balanceOf [.ref w, .int n1] s = if m_isO s w 9 = true then (m_D x 4 k_World_balanceOf 4 [some (.ref w), some (.int n1), some (.int 0), some (.int 0)] [] s) else none := by
  refine e_M1 (L0 := [some (.ref w), some (.int n1), none, none]) rfl (by decide +kernel) rfl (q_World_balanceOf _) rfl ?_
  refine e_iconst (v := 0) i_World_balanceOf_0 (by decide) ?_
  refine e_istore_n (L' := [some (.ref w), some (.int n1), some (.int 0), none]) i_World_balanceOf_1 (of_decide_eq_true rfl) rfl ?_
  refine e_iconst (v := 0) i_World_balanceOf_2 (by decide) ?_
  refine e_istore_n (L' := [some (.ref w), some (.int n1), some (.int 0), some (.int 0)]) i_World_balanceOf_3 (of_decide_eq_true rfl) rfl ?_
  exact rfl
set_option maxRecDepth 20000 in
set_option maxHeartbeats 1000000 in
theorem E_World_balanceOf_4 (x : m_X) (ρ : Nat) (hρ : 4 ≤ ρ) (s : m_H) (w : Nat) (n1 : Int32) (n2 : Int32) (n3 : Int32)  : m_D x ρ k_World_balanceOf 4 [some (.ref w), some (.int n1), some (.int n2), some (.int n3)] [] s = (m_fR s 9 0 w).bind fun v6 => (m_ia x s v6 25).bind fun v11 => if v11 ≤ n3 then (some (some (.int n2), s)) else m_bI (m_M x k_World_isOpen [.ref w, .int n3] s) fun v17 s17 => if v17 = 0 then (m_D x ρ k_World_balanceOf 44 [some (.ref w), some (.int n1), some (.int n2), some (.int n3)] [] s17) else m_bI (m_M x k_World_at [.ref w, .int 39, .int n3] s17) fun v27 s27 => if v27 = n1 then (m_bI (m_M x k_World_at [.ref w, .int 51, .int n3] s27) fun v39 s39 => m_D x ρ k_World_balanceOf 44 [some (.ref w), some (.int n1), some (.int (n2 + v39)), some (.int n3)] [] s39) else m_D x ρ k_World_balanceOf 44 [some (.ref w), some (.int n1), some (.int n2), some (.int n3)] [] s27 := by
  refine e_iload_n i_World_balanceOf_4 rfl ?_
  refine e_aload_n i_World_balanceOf_5 rfl ?_
  refine e_getR i_World_balanceOf_6 lf_36 (by decide) ft_9_0 (fun v6 => ?_)
  refine e_bipush (v := 25) i_World_balanceOf_9 (by decide) ?_
  refine e_iald i_World_balanceOf_11 (fun v11 => ?_)
  refine e_icmpge (t := 79) i_World_balanceOf_12 (by decide) ?_ ?_
  · refine e_iload_n i_World_balanceOf_79 rfl ?_
    exact e_iretI i_World_balanceOf_80 rfl
  · refine e_aload_n i_World_balanceOf_15 rfl ?_
    refine e_iload_n i_World_balanceOf_16 rfl ?_
    refine e_callI (as := [.ref w, .int n3]) (st' := []) i_World_balanceOf_17 lm_108 (Or.inr (Or.inl ⟨rfl, rfl⟩)) w_World_isOpen rfl rfl rfl (Nat.le_of_ble_eq_true rfl) (Nat.le_of_ble_eq_true rfl) (m_rlt (q_World_isOpen _) (Nat.lt_of_lt_of_le (by decide) hρ)) rfl (fun v17 s17 => ?_)
    refine e_ifeq (t := 44) i_World_balanceOf_20 (by decide) ?_ ?_
    · exact rfl
    · refine e_aload_n i_World_balanceOf_23 rfl ?_
      refine e_bipush (v := 39) i_World_balanceOf_24 (by decide) ?_
      refine e_iload_n i_World_balanceOf_26 rfl ?_
      refine e_callI (as := [.ref w, .int 39, .int n3]) (st' := []) i_World_balanceOf_27 lm_109 (Or.inr (Or.inl ⟨rfl, rfl⟩)) w_World_at rfl rfl rfl (Nat.le_of_ble_eq_true rfl) (Nat.le_of_ble_eq_true rfl) (m_rlt (q_World_at _) (Nat.lt_of_lt_of_le (by decide) hρ)) rfl (fun v27 s27 => ?_)
      refine e_iload_n i_World_balanceOf_30 rfl ?_
      refine e_icmpne (t := 44) i_World_balanceOf_31 (by decide) ?_ ?_
      · exact rfl
      · refine e_iload_n i_World_balanceOf_34 rfl ?_
        refine e_aload_n i_World_balanceOf_35 rfl ?_
        refine e_bipush (v := 51) i_World_balanceOf_36 (by decide) ?_
        refine e_iload_n i_World_balanceOf_38 rfl ?_
        refine e_callI (as := [.ref w, .int 51, .int n3]) (st' := [.int n2]) i_World_balanceOf_39 lm_109 (Or.inr (Or.inl ⟨rfl, rfl⟩)) w_World_at rfl rfl rfl (Nat.le_of_ble_eq_true rfl) (Nat.le_of_ble_eq_true rfl) (m_rlt (q_World_at _) (Nat.lt_of_lt_of_le (by decide) hρ)) rfl (fun v39 s39 => ?_)
        refine e_iadd i_World_balanceOf_42 ?_
        refine e_istore_n (L' := [some (.ref w), some (.int n1), some (.int (n2 + v39)), some (.int n3)]) i_World_balanceOf_43 (of_decide_eq_true rfl) rfl ?_
        exact rfl
set_option maxRecDepth 20000 in
set_option maxHeartbeats 1000000 in
theorem E_World_balanceOf_44 (x : m_X) (ρ : Nat) (hρ : 4 ≤ ρ) (s : m_H) (w : Nat) (n1 : Int32) (n2 : Int32) (n3 : Int32)  : m_D x ρ k_World_balanceOf 44 [some (.ref w), some (.int n1), some (.int n2), some (.int n3)] [] s = m_bI (m_M x k_World_isOpen [.ref w, .int n3] s) fun v46 s46 => if v46 = 0 then (m_D x ρ k_World_balanceOf 4 [some (.ref w), some (.int n1), some (.int n2), some (.int (n3 + (1 : Int32)))] [] s46) else m_bI (m_M x k_World_at [.ref w, .int 27, .int n3] s46) fun v56 s56 => if v56 = n1 then (m_bI (m_M x k_World_at [.ref w, .int 51, .int n3] s56) fun v68 s68 => m_D x ρ k_World_balanceOf 4 [some (.ref w), some (.int n1), some (.int (n2 - v68)), some (.int (n3 + (1 : Int32)))] [] s68) else m_D x ρ k_World_balanceOf 4 [some (.ref w), some (.int n1), some (.int n2), some (.int (n3 + (1 : Int32)))] [] s56 := by
  refine e_aload_n i_World_balanceOf_44 rfl ?_
  refine e_iload_n i_World_balanceOf_45 rfl ?_
  refine e_callI (as := [.ref w, .int n3]) (st' := []) i_World_balanceOf_46 lm_108 (Or.inr (Or.inl ⟨rfl, rfl⟩)) w_World_isOpen rfl rfl rfl (Nat.le_of_ble_eq_true rfl) (Nat.le_of_ble_eq_true rfl) (m_rlt (q_World_isOpen _) (Nat.lt_of_lt_of_le (by decide) hρ)) rfl (fun v46 s46 => ?_)
  refine e_ifeq (t := 73) i_World_balanceOf_49 (by decide) ?_ ?_
  · refine e_iinc (w := 1) (L' := [some (.ref w), some (.int n1), some (.int n2), some (.int (n3 + (1 : Int32)))]) i_World_balanceOf_73 rfl (of_decide_eq_true rfl) (by decide) rfl ?_
    refine e_goto (t := 4) i_World_balanceOf_76 (by decide) ?_
    exact rfl
  · refine e_aload_n i_World_balanceOf_52 rfl ?_
    refine e_bipush (v := 27) i_World_balanceOf_53 (by decide) ?_
    refine e_iload_n i_World_balanceOf_55 rfl ?_
    refine e_callI (as := [.ref w, .int 27, .int n3]) (st' := []) i_World_balanceOf_56 lm_109 (Or.inr (Or.inl ⟨rfl, rfl⟩)) w_World_at rfl rfl rfl (Nat.le_of_ble_eq_true rfl) (Nat.le_of_ble_eq_true rfl) (m_rlt (q_World_at _) (Nat.lt_of_lt_of_le (by decide) hρ)) rfl (fun v56 s56 => ?_)
    refine e_iload_n i_World_balanceOf_59 rfl ?_
    refine e_icmpne (t := 73) i_World_balanceOf_60 (by decide) ?_ ?_
    · refine e_iinc (w := 1) (L' := [some (.ref w), some (.int n1), some (.int n2), some (.int (n3 + (1 : Int32)))]) i_World_balanceOf_73 rfl (of_decide_eq_true rfl) (by decide) rfl ?_
      refine e_goto (t := 4) i_World_balanceOf_76 (by decide) ?_
      exact rfl
    · refine e_iload_n i_World_balanceOf_63 rfl ?_
      refine e_aload_n i_World_balanceOf_64 rfl ?_
      refine e_bipush (v := 51) i_World_balanceOf_65 (by decide) ?_
      refine e_iload_n i_World_balanceOf_67 rfl ?_
      refine e_callI (as := [.ref w, .int 51, .int n3]) (st' := [.int n2]) i_World_balanceOf_68 lm_109 (Or.inr (Or.inl ⟨rfl, rfl⟩)) w_World_at rfl rfl rfl (Nat.le_of_ble_eq_true rfl) (Nat.le_of_ble_eq_true rfl) (m_rlt (q_World_at _) (Nat.lt_of_lt_of_le (by decide) hρ)) rfl (fun v68 s68 => ?_)
      refine e_isub i_World_balanceOf_71 ?_
      refine e_istore_n (L' := [some (.ref w), some (.int n1), some (.int (n2 - v68)), some (.int n3)]) i_World_balanceOf_72 (of_decide_eq_true rfl) rfl ?_
      refine e_iinc (w := 1) (L' := [some (.ref w), some (.int n1), some (.int (n2 - v68)), some (.int (n3 + (1 : Int32)))]) i_World_balanceOf_73 rfl (of_decide_eq_true rfl) (by decide) rfl ?_
      refine e_goto (t := 4) i_World_balanceOf_76 (by decide) ?_
      exact rfl
theorem i_World_takeBack_0 : m_at k_World_takeBack 0 = some (.aload_n 0, 1, 0) := m_at_of r_World_takeBack (by decide +kernel)
theorem i_World_takeBack_1 : m_at k_World_takeBack 1 = some (.getfield 11, 3, 36) := m_at_of r_World_takeBack (by decide +kernel)
theorem i_World_takeBack_4 : m_at k_World_takeBack 4 = some (.iconst 0, 1, 0) := m_at_of r_World_takeBack (by decide +kernel)
theorem i_World_takeBack_5 : m_at k_World_takeBack 5 = some (.iaload, 1, 0) := m_at_of r_World_takeBack (by decide +kernel)
theorem i_World_takeBack_6 : m_at k_World_takeBack 6 = some (.istore_n 2, 1, 0) := m_at_of r_World_takeBack (by decide +kernel)
theorem i_World_takeBack_7 : m_at k_World_takeBack 7 = some (.aload_n 1, 1, 0) := m_at_of r_World_takeBack (by decide +kernel)
theorem i_World_takeBack_8 : m_at k_World_takeBack 8 = some (.iconst 0, 1, 0) := m_at_of r_World_takeBack (by decide +kernel)
theorem i_World_takeBack_9 : m_at k_World_takeBack 9 = some (.iaload, 1, 0) := m_at_of r_World_takeBack (by decide +kernel)
theorem i_World_takeBack_10 : m_at k_World_takeBack 10 = some (.istore_n 3, 1, 0) := m_at_of r_World_takeBack (by decide +kernel)
theorem i_World_takeBack_11 : m_at k_World_takeBack 11 = some (.iload_n 3, 1, 0) := m_at_of r_World_takeBack (by decide +kernel)
theorem i_World_takeBack_12 : m_at k_World_takeBack 12 = some (.ifCond .lt (63), 3, 0) := m_at_of r_World_takeBack (by decide +kernel)
theorem i_World_takeBack_15 : m_at k_World_takeBack 15 = some (.iload_n 3, 1, 0) := m_at_of r_World_takeBack (by decide +kernel)
theorem i_World_takeBack_16 : m_at k_World_takeBack 16 = some (.iload_n 2, 1, 0) := m_at_of r_World_takeBack (by decide +kernel)
theorem i_World_takeBack_17 : m_at k_World_takeBack 17 = some (.if_icmp .ge (58), 3, 0) := m_at_of r_World_takeBack (by decide +kernel)
theorem i_World_takeBack_20 : m_at k_World_takeBack 20 = some (.iload_n 3, 1, 0) := m_at_of r_World_takeBack (by decide +kernel)
theorem i_World_takeBack_21 : m_at k_World_takeBack 21 = some (.bipush 7, 2, 0) := m_at_of r_World_takeBack (by decide +kernel)
theorem i_World_takeBack_23 : m_at k_World_takeBack 23 = some (.if_icmp .ge (52), 3, 0) := m_at_of r_World_takeBack (by decide +kernel)
theorem i_World_takeBack_26 : m_at k_World_takeBack 26 = some (.aload_n 1, 1, 0) := m_at_of r_World_takeBack (by decide +kernel)
theorem i_World_takeBack_27 : m_at k_World_takeBack 27 = some (.iconst 1, 1, 0) := m_at_of r_World_takeBack (by decide +kernel)
theorem i_World_takeBack_28 : m_at k_World_takeBack 28 = some (.iload_n 3, 1, 0) := m_at_of r_World_takeBack (by decide +kernel)
theorem i_World_takeBack_29 : m_at k_World_takeBack 29 = some (.iadd, 1, 0) := m_at_of r_World_takeBack (by decide +kernel)
theorem i_World_takeBack_30 : m_at k_World_takeBack 30 = some (.aload_n 0, 1, 0) := m_at_of r_World_takeBack (by decide +kernel)
theorem i_World_takeBack_31 : m_at k_World_takeBack 31 = some (.getfield 11, 3, 36) := m_at_of r_World_takeBack (by decide +kernel)
theorem i_World_takeBack_34 : m_at k_World_takeBack 34 = some (.iconst 1, 1, 0) := m_at_of r_World_takeBack (by decide +kernel)
theorem i_World_takeBack_35 : m_at k_World_takeBack 35 = some (.iload_n 3, 1, 0) := m_at_of r_World_takeBack (by decide +kernel)
theorem i_World_takeBack_36 : m_at k_World_takeBack 36 = some (.iadd, 1, 0) := m_at_of r_World_takeBack (by decide +kernel)
theorem i_World_takeBack_37 : m_at k_World_takeBack 37 = some (.iaload, 1, 0) := m_at_of r_World_takeBack (by decide +kernel)
theorem i_World_takeBack_38 : m_at k_World_takeBack 38 = some (.iastore, 1, 0) := m_at_of r_World_takeBack (by decide +kernel)
theorem i_World_takeBack_39 : m_at k_World_takeBack 39 = some (.aload_n 1, 1, 0) := m_at_of r_World_takeBack (by decide +kernel)
theorem i_World_takeBack_40 : m_at k_World_takeBack 40 = some (.bipush 8, 2, 0) := m_at_of r_World_takeBack (by decide +kernel)
theorem i_World_takeBack_42 : m_at k_World_takeBack 42 = some (.iload_n 3, 1, 0) := m_at_of r_World_takeBack (by decide +kernel)
theorem i_World_takeBack_43 : m_at k_World_takeBack 43 = some (.iadd, 1, 0) := m_at_of r_World_takeBack (by decide +kernel)
theorem i_World_takeBack_44 : m_at k_World_takeBack 44 = some (.aload_n 0, 1, 0) := m_at_of r_World_takeBack (by decide +kernel)
theorem i_World_takeBack_45 : m_at k_World_takeBack 45 = some (.getfield 11, 3, 36) := m_at_of r_World_takeBack (by decide +kernel)
theorem i_World_takeBack_48 : m_at k_World_takeBack 48 = some (.bipush 8, 2, 0) := m_at_of r_World_takeBack (by decide +kernel)
theorem i_World_takeBack_50 : m_at k_World_takeBack 50 = some (.iload_n 3, 1, 0) := m_at_of r_World_takeBack (by decide +kernel)
theorem i_World_takeBack_51 : m_at k_World_takeBack 51 = some (.iadd, 1, 0) := m_at_of r_World_takeBack (by decide +kernel)
theorem i_World_takeBack_52 : m_at k_World_takeBack 52 = some (.iaload, 1, 0) := m_at_of r_World_takeBack (by decide +kernel)
theorem i_World_takeBack_53 : m_at k_World_takeBack 53 = some (.iastore, 1, 0) := m_at_of r_World_takeBack (by decide +kernel)
theorem i_World_takeBack_54 : m_at k_World_takeBack 54 = some (.aload_n 1, 1, 0) := m_at_of r_World_takeBack (by decide +kernel)
theorem i_World_takeBack_55 : m_at k_World_takeBack 55 = some (.bipush 15, 2, 0) := m_at_of r_World_takeBack (by decide +kernel)
theorem i_World_takeBack_57 : m_at k_World_takeBack 57 = some (.iload_n 3, 1, 0) := m_at_of r_World_takeBack (by decide +kernel)
theorem i_World_takeBack_58 : m_at k_World_takeBack 58 = some (.iadd, 1, 0) := m_at_of r_World_takeBack (by decide +kernel)
theorem i_World_takeBack_59 : m_at k_World_takeBack 59 = some (.aload_n 0, 1, 0) := m_at_of r_World_takeBack (by decide +kernel)
theorem i_World_takeBack_60 : m_at k_World_takeBack 60 = some (.getfield 11, 3, 36) := m_at_of r_World_takeBack (by decide +kernel)
theorem i_World_takeBack_63 : m_at k_World_takeBack 63 = some (.bipush 15, 2, 0) := m_at_of r_World_takeBack (by decide +kernel)
theorem i_World_takeBack_65 : m_at k_World_takeBack 65 = some (.iload_n 3, 1, 0) := m_at_of r_World_takeBack (by decide +kernel)
theorem i_World_takeBack_66 : m_at k_World_takeBack 66 = some (.iadd, 1, 0) := m_at_of r_World_takeBack (by decide +kernel)
theorem i_World_takeBack_67 : m_at k_World_takeBack 67 = some (.iaload, 1, 0) := m_at_of r_World_takeBack (by decide +kernel)
theorem i_World_takeBack_68 : m_at k_World_takeBack 68 = some (.iastore, 1, 0) := m_at_of r_World_takeBack (by decide +kernel)
theorem i_World_takeBack_69 : m_at k_World_takeBack 69 = some (.iinc 3 (1), 3, 0) := m_at_of r_World_takeBack (by decide +kernel)
theorem i_World_takeBack_72 : m_at k_World_takeBack 72 = some (.goto (-61), 3, 0) := m_at_of r_World_takeBack (by decide +kernel)
theorem i_World_takeBack_75 : m_at k_World_takeBack 75 = some (.aload_n 1, 1, 0) := m_at_of r_World_takeBack (by decide +kernel)
theorem i_World_takeBack_76 : m_at k_World_takeBack 76 = some (.iconst 0, 1, 0) := m_at_of r_World_takeBack (by decide +kernel)
theorem i_World_takeBack_77 : m_at k_World_takeBack 77 = some (.iload_n 2, 1, 0) := m_at_of r_World_takeBack (by decide +kernel)
theorem i_World_takeBack_78 : m_at k_World_takeBack 78 = some (.iastore, 1, 0) := m_at_of r_World_takeBack (by decide +kernel)
theorem i_World_takeBack_79 : m_at k_World_takeBack 79 = some (.aload_n 1, 1, 0) := m_at_of r_World_takeBack (by decide +kernel)
theorem i_World_takeBack_80 : m_at k_World_takeBack 80 = some (.iconst 0, 1, 0) := m_at_of r_World_takeBack (by decide +kernel)
theorem i_World_takeBack_81 : m_at k_World_takeBack 81 = some (.aload_n 0, 1, 0) := m_at_of r_World_takeBack (by decide +kernel)
theorem i_World_takeBack_82 : m_at k_World_takeBack 82 = some (.getfield 11, 3, 36) := m_at_of r_World_takeBack (by decide +kernel)
theorem i_World_takeBack_85 : m_at k_World_takeBack 85 = some (.iconst 0, 1, 0) := m_at_of r_World_takeBack (by decide +kernel)
theorem i_World_takeBack_86 : m_at k_World_takeBack 86 = some (.sipush 141, 3, 0) := m_at_of r_World_takeBack (by decide +kernel)
theorem i_World_takeBack_89 : m_at k_World_takeBack 89 = some (.invokestatic 15, 3, 213) := m_at_of r_World_takeBack (by decide +kernel)
theorem i_World_takeBack_92 : m_at k_World_takeBack 92 = some (.return_, 1, 0) := m_at_of r_World_takeBack (by decide +kernel)
set_option maxRecDepth 20000 in
set_option maxHeartbeats 1000000 in
theorem E_World_takeBack (x : m_X) (s : m_H) (w : Nat) (r1 : Nat) : m_M x k_World_takeBack [.ref w, .ref r1] s = if m_isO s w 9 = true then ((m_fR s 9 0 w).bind fun v1 => (m_ia x s v1 0).bind fun v5 => (m_ia x s r1 0).bind fun v9 => m_D x 1 k_World_takeBack 11 [some (.ref w), some (.ref r1), some (.int v5), some (.int v9)] [] s) else none := by
  refine e_M1 (L0 := [some (.ref w), some (.ref r1), none, none]) rfl (by decide +kernel) rfl (q_World_takeBack _) rfl ?_
  refine e_aload_n i_World_takeBack_0 rfl ?_
  refine e_getR i_World_takeBack_1 lf_36 (by decide) ft_9_0 (fun v1 => ?_)
  refine e_iconst (v := 0) i_World_takeBack_4 (by decide) ?_
  refine e_iald i_World_takeBack_5 (fun v5 => ?_)
  refine e_istore_n (L' := [some (.ref w), some (.ref r1), some (.int v5), none]) i_World_takeBack_6 (of_decide_eq_true rfl) rfl ?_
  refine e_aload_n i_World_takeBack_7 rfl ?_
  refine e_iconst (v := 0) i_World_takeBack_8 (by decide) ?_
  refine e_iald i_World_takeBack_9 (fun v9 => ?_)
  refine e_istore_n (L' := [some (.ref w), some (.ref r1), some (.int v5), some (.int v9)]) i_World_takeBack_10 (of_decide_eq_true rfl) rfl ?_
  exact rfl
set_option maxRecDepth 20000 in
set_option maxHeartbeats 1000000 in
theorem E_World_takeBack_11 (x : m_X) (ρ : Nat) (hρ : 1 ≤ ρ) (s : m_H) (w : Nat) (r1 : Nat) (n2 : Int32) (n3 : Int32)  : m_D x ρ k_World_takeBack 11 [some (.ref w), some (.ref r1), some (.int n2), some (.int n3)] [] s = if n3 < 0 then ((m_is s r1 0 n2).bind fun s78 => (m_fR s78 9 0 w).bind fun v82 => (m_cpy s78 r1 0 v82 0 141).bind fun s89 => some (none, s89)) else if n2 ≤ n3 then ((m_is s r1 0 n2).bind fun s78 => (m_fR s78 9 0 w).bind fun v82 => (m_cpy s78 r1 0 v82 0 141).bind fun s89 => some (none, s89)) else if 7 ≤ n3 then ((m_is s r1 0 n2).bind fun s78 => (m_fR s78 9 0 w).bind fun v82 => (m_cpy s78 r1 0 v82 0 141).bind fun s89 => some (none, s89)) else (m_fR s 9 0 w).bind fun v31 => (m_ia x s v31 ((1 : Int32) + n3)).bind fun v37 => (m_is s r1 ((1 : Int32) + n3) v37).bind fun s38 => (m_fR s38 9 0 w).bind fun v45 => (m_ia x s38 v45 ((8 : Int32) + n3)).bind fun v52 => (m_is s38 r1 ((8 : Int32) + n3) v52).bind fun s53 => (m_fR s53 9 0 w).bind fun v60 => (m_ia x s53 v60 ((15 : Int32) + n3)).bind fun v67 => (m_is s53 r1 ((15 : Int32) + n3) v67).bind fun s68 => m_D x ρ k_World_takeBack 11 [some (.ref w), some (.ref r1), some (.int n2), some (.int (n3 + (1 : Int32)))] [] s68 := by
  refine e_iload_n i_World_takeBack_11 rfl ?_
  refine e_iflt (t := 75) i_World_takeBack_12 (by decide) ?_ ?_
  · refine e_aload_n i_World_takeBack_75 rfl ?_
    refine e_iconst (v := 0) i_World_takeBack_76 (by decide) ?_
    refine e_iload_n i_World_takeBack_77 rfl ?_
    refine e_iast i_World_takeBack_78 (fun s78 => ?_)
    refine e_aload_n i_World_takeBack_79 rfl ?_
    refine e_iconst (v := 0) i_World_takeBack_80 (by decide) ?_
    refine e_aload_n i_World_takeBack_81 rfl ?_
    refine e_getR i_World_takeBack_82 lf_36 (by decide) ft_9_0 (fun v82 => ?_)
    refine e_iconst (v := 0) i_World_takeBack_85 (by decide) ?_
    refine e_sipush (v := 141) i_World_takeBack_86 (by decide) ?_
    refine e_copy i_World_takeBack_89 lm_213 (Nat.le_of_ble_eq_true rfl) (fun s89 => ?_)
    exact e_vret i_World_takeBack_92 rfl
  · refine e_iload_n i_World_takeBack_15 rfl ?_
    refine e_iload_n i_World_takeBack_16 rfl ?_
    refine e_icmpge (t := 75) i_World_takeBack_17 (by decide) ?_ ?_
    · refine e_aload_n i_World_takeBack_75 rfl ?_
      refine e_iconst (v := 0) i_World_takeBack_76 (by decide) ?_
      refine e_iload_n i_World_takeBack_77 rfl ?_
      refine e_iast i_World_takeBack_78 (fun s78 => ?_)
      refine e_aload_n i_World_takeBack_79 rfl ?_
      refine e_iconst (v := 0) i_World_takeBack_80 (by decide) ?_
      refine e_aload_n i_World_takeBack_81 rfl ?_
      refine e_getR i_World_takeBack_82 lf_36 (by decide) ft_9_0 (fun v82 => ?_)
      refine e_iconst (v := 0) i_World_takeBack_85 (by decide) ?_
      refine e_sipush (v := 141) i_World_takeBack_86 (by decide) ?_
      refine e_copy i_World_takeBack_89 lm_213 (Nat.le_of_ble_eq_true rfl) (fun s89 => ?_)
      exact e_vret i_World_takeBack_92 rfl
    · refine e_iload_n i_World_takeBack_20 rfl ?_
      refine e_bipush (v := 7) i_World_takeBack_21 (by decide) ?_
      refine e_icmpge (t := 75) i_World_takeBack_23 (by decide) ?_ ?_
      · refine e_aload_n i_World_takeBack_75 rfl ?_
        refine e_iconst (v := 0) i_World_takeBack_76 (by decide) ?_
        refine e_iload_n i_World_takeBack_77 rfl ?_
        refine e_iast i_World_takeBack_78 (fun s78 => ?_)
        refine e_aload_n i_World_takeBack_79 rfl ?_
        refine e_iconst (v := 0) i_World_takeBack_80 (by decide) ?_
        refine e_aload_n i_World_takeBack_81 rfl ?_
        refine e_getR i_World_takeBack_82 lf_36 (by decide) ft_9_0 (fun v82 => ?_)
        refine e_iconst (v := 0) i_World_takeBack_85 (by decide) ?_
        refine e_sipush (v := 141) i_World_takeBack_86 (by decide) ?_
        refine e_copy i_World_takeBack_89 lm_213 (Nat.le_of_ble_eq_true rfl) (fun s89 => ?_)
        exact e_vret i_World_takeBack_92 rfl
      · refine e_aload_n i_World_takeBack_26 rfl ?_
        refine e_iconst (v := 1) i_World_takeBack_27 (by decide) ?_
        refine e_iload_n i_World_takeBack_28 rfl ?_
        refine e_iadd i_World_takeBack_29 ?_
        refine e_aload_n i_World_takeBack_30 rfl ?_
        refine e_getR i_World_takeBack_31 lf_36 (by decide) ft_9_0 (fun v31 => ?_)
        refine e_iconst (v := 1) i_World_takeBack_34 (by decide) ?_
        refine e_iload_n i_World_takeBack_35 rfl ?_
        refine e_iadd i_World_takeBack_36 ?_
        refine e_iald i_World_takeBack_37 (fun v37 => ?_)
        refine e_iast i_World_takeBack_38 (fun s38 => ?_)
        refine e_aload_n i_World_takeBack_39 rfl ?_
        refine e_bipush (v := 8) i_World_takeBack_40 (by decide) ?_
        refine e_iload_n i_World_takeBack_42 rfl ?_
        refine e_iadd i_World_takeBack_43 ?_
        refine e_aload_n i_World_takeBack_44 rfl ?_
        refine e_getR i_World_takeBack_45 lf_36 (by decide) ft_9_0 (fun v45 => ?_)
        refine e_bipush (v := 8) i_World_takeBack_48 (by decide) ?_
        refine e_iload_n i_World_takeBack_50 rfl ?_
        refine e_iadd i_World_takeBack_51 ?_
        refine e_iald i_World_takeBack_52 (fun v52 => ?_)
        refine e_iast i_World_takeBack_53 (fun s53 => ?_)
        refine e_aload_n i_World_takeBack_54 rfl ?_
        refine e_bipush (v := 15) i_World_takeBack_55 (by decide) ?_
        refine e_iload_n i_World_takeBack_57 rfl ?_
        refine e_iadd i_World_takeBack_58 ?_
        refine e_aload_n i_World_takeBack_59 rfl ?_
        refine e_getR i_World_takeBack_60 lf_36 (by decide) ft_9_0 (fun v60 => ?_)
        refine e_bipush (v := 15) i_World_takeBack_63 (by decide) ?_
        refine e_iload_n i_World_takeBack_65 rfl ?_
        refine e_iadd i_World_takeBack_66 ?_
        refine e_iald i_World_takeBack_67 (fun v67 => ?_)
        refine e_iast i_World_takeBack_68 (fun s68 => ?_)
        refine e_iinc (w := 1) (L' := [some (.ref w), some (.ref r1), some (.int n2), some (.int (n3 + (1 : Int32)))]) i_World_takeBack_69 rfl (of_decide_eq_true rfl) (by decide) rfl ?_
        refine e_goto (t := 11) i_World_takeBack_72 (by decide) ?_
        exact rfl
theorem i_World_sow_0 : m_at k_World_sow 0 = some (.aload_n 0, 1, 0) := m_at_of r_World_sow (by decide +kernel)
theorem i_World_sow_1 : m_at k_World_sow 1 = some (.getfield 11, 3, 36) := m_at_of r_World_sow (by decide +kernel)
theorem i_World_sow_4 : m_at k_World_sow 4 = some (.bipush 24, 2, 0) := m_at_of r_World_sow (by decide +kernel)
theorem i_World_sow_6 : m_at k_World_sow 6 = some (.iload_n 1, 1, 0) := m_at_of r_World_sow (by decide +kernel)
theorem i_World_sow_7 : m_at k_World_sow 7 = some (.iconst 2, 1, 0) := m_at_of r_World_sow (by decide +kernel)
theorem i_World_sow_8 : m_at k_World_sow 8 = some (.imul, 1, 0) := m_at_of r_World_sow (by decide +kernel)
theorem i_World_sow_9 : m_at k_World_sow 9 = some (.sipush 139, 3, 0) := m_at_of r_World_sow (by decide +kernel)
theorem i_World_sow_12 : m_at k_World_sow 12 = some (.iadd, 1, 0) := m_at_of r_World_sow (by decide +kernel)
theorem i_World_sow_13 : m_at k_World_sow 13 = some (.iastore, 1, 0) := m_at_of r_World_sow (by decide +kernel)
theorem i_World_sow_14 : m_at k_World_sow 14 = some (.return_, 1, 0) := m_at_of r_World_sow (by decide +kernel)
set_option maxRecDepth 20000 in
set_option maxHeartbeats 1000000 in
theorem E_World_sow (x : m_X) (s : m_H) (w : Nat) (n1 : Int32) : m_M x k_World_sow [.ref w, .int n1] s = if m_isO s w 9 = true then ((m_fR s 9 0 w).bind fun v1 => (m_is s v1 24 ((n1 * (2 : Int32)) + (139 : Int32))).bind fun s13 => some (none, s13)) else none := by
  refine e_M1 (L0 := [some (.ref w), some (.int n1)]) rfl (by decide +kernel) rfl (q_World_sow _) rfl ?_
  refine e_aload_n i_World_sow_0 rfl ?_
  refine e_getR i_World_sow_1 lf_36 (by decide) ft_9_0 (fun v1 => ?_)
  refine e_bipush (v := 24) i_World_sow_4 (by decide) ?_
  refine e_iload_n i_World_sow_6 rfl ?_
  refine e_iconst (v := 2) i_World_sow_7 (by decide) ?_
  refine e_imul i_World_sow_8 ?_
  refine e_sipush (v := 139) i_World_sow_9 (by decide) ?_
  refine e_iadd i_World_sow_12 ?_
  refine e_iast i_World_sow_13 (fun s13 => ?_)
  exact e_vret i_World_sow_14 rfl
theorem i_World_draw_0 : m_at k_World_draw 0 = some (.aload_n 0, 1, 0) := m_at_of r_World_draw (by decide +kernel)
theorem i_World_draw_1 : m_at k_World_draw 1 = some (.getfield 11, 3, 36) := m_at_of r_World_draw (by decide +kernel)
theorem i_World_draw_4 : m_at k_World_draw 4 = some (.bipush 24, 2, 0) := m_at_of r_World_draw (by decide +kernel)
theorem i_World_draw_6 : m_at k_World_draw 6 = some (.iaload, 1, 0) := m_at_of r_World_draw (by decide +kernel)
theorem i_World_draw_7 : m_at k_World_draw 7 = some (.istore_n 1, 1, 0) := m_at_of r_World_draw (by decide +kernel)
theorem i_World_draw_8 : m_at k_World_draw 8 = some (.aload_n 0, 1, 0) := m_at_of r_World_draw (by decide +kernel)
theorem i_World_draw_9 : m_at k_World_draw 9 = some (.getfield 11, 3, 36) := m_at_of r_World_draw (by decide +kernel)
theorem i_World_draw_12 : m_at k_World_draw 12 = some (.bipush 24, 2, 0) := m_at_of r_World_draw (by decide +kernel)
theorem i_World_draw_14 : m_at k_World_draw 14 = some (.iload_n 1, 1, 0) := m_at_of r_World_draw (by decide +kernel)
theorem i_World_draw_15 : m_at k_World_draw 15 = some (.sipush 373, 3, 0) := m_at_of r_World_draw (by decide +kernel)
theorem i_World_draw_18 : m_at k_World_draw 18 = some (.imul, 1, 0) := m_at_of r_World_draw (by decide +kernel)
theorem i_World_draw_19 : m_at k_World_draw 19 = some (.sipush 251, 3, 0) := m_at_of r_World_draw (by decide +kernel)
theorem i_World_draw_22 : m_at k_World_draw 22 = some (.iadd, 1, 0) := m_at_of r_World_draw (by decide +kernel)
theorem i_World_draw_23 : m_at k_World_draw 23 = some (.sipush 30467, 3, 0) := m_at_of r_World_draw (by decide +kernel)
theorem i_World_draw_26 : m_at k_World_draw 26 = some (.irem, 1, 0) := m_at_of r_World_draw (by decide +kernel)
theorem i_World_draw_27 : m_at k_World_draw 27 = some (.iastore, 1, 0) := m_at_of r_World_draw (by decide +kernel)
theorem i_World_draw_28 : m_at k_World_draw 28 = some (.iload_n 1, 1, 0) := m_at_of r_World_draw (by decide +kernel)
theorem i_World_draw_29 : m_at k_World_draw 29 = some (.ireturn, 1, 0) := m_at_of r_World_draw (by decide +kernel)
set_option maxRecDepth 20000 in
set_option maxHeartbeats 1000000 in
theorem E_World_draw (x : m_X) (s : m_H) (w : Nat) : m_M x k_World_draw [.ref w] s = if m_isO s w 9 = true then ((m_fR s 9 0 w).bind fun v1 => (m_ia x s v1 24).bind fun v6 => (m_fR s 9 0 w).bind fun v9 => (m_is s v9 24 (((v6 * (373 : Int32)) + (251 : Int32)) - ((v6 * (373 : Int32)) + (251 : Int32)) / (30467 : Int32) * (30467 : Int32))).bind fun s27 => some (some (.int v6), s27)) else none := by
  refine e_M1 (L0 := [some (.ref w), none]) rfl (by decide +kernel) rfl (q_World_draw _) rfl ?_
  refine e_aload_n i_World_draw_0 rfl ?_
  refine e_getR i_World_draw_1 lf_36 (by decide) ft_9_0 (fun v1 => ?_)
  refine e_bipush (v := 24) i_World_draw_4 (by decide) ?_
  refine e_iald i_World_draw_6 (fun v6 => ?_)
  refine e_istore_n (L' := [some (.ref w), some (.int v6)]) i_World_draw_7 (of_decide_eq_true rfl) rfl ?_
  refine e_aload_n i_World_draw_8 rfl ?_
  refine e_getR i_World_draw_9 lf_36 (by decide) ft_9_0 (fun v9 => ?_)
  refine e_bipush (v := 24) i_World_draw_12 (by decide) ?_
  refine e_iload_n i_World_draw_14 rfl ?_
  refine e_sipush (v := 373) i_World_draw_15 (by decide) ?_
  refine e_imul i_World_draw_18 ?_
  refine e_sipush (v := 251) i_World_draw_19 (by decide) ?_
  refine e_iadd i_World_draw_22 ?_
  refine e_sipush (v := 30467) i_World_draw_23 (by decide) ?_
  refine e_iremc i_World_draw_26 (by decide) ?_
  refine e_iast i_World_draw_27 (fun s27 => ?_)
  refine e_iload_n i_World_draw_28 rfl ?_
  exact e_iretI i_World_draw_29 rfl
theorem i_World_writeFine_0 : m_at k_World_writeFine 0 = some (.aload_n 0, 1, 0) := m_at_of r_World_writeFine (by decide +kernel)
theorem i_World_writeFine_1 : m_at k_World_writeFine 1 = some (.getfield 11, 3, 36) := m_at_of r_World_writeFine (by decide +kernel)
theorem i_World_writeFine_4 : m_at k_World_writeFine 4 = some (.bipush 26, 2, 0) := m_at_of r_World_writeFine (by decide +kernel)
theorem i_World_writeFine_6 : m_at k_World_writeFine 6 = some (.iaload, 1, 0) := m_at_of r_World_writeFine (by decide +kernel)
theorem i_World_writeFine_7 : m_at k_World_writeFine 7 = some (.bipush 30, 2, 0) := m_at_of r_World_writeFine (by decide +kernel)
theorem i_World_writeFine_9 : m_at k_World_writeFine 9 = some (.if_icmp .lt (29), 3, 0) := m_at_of r_World_writeFine (by decide +kernel)
theorem i_World_writeFine_12 : m_at k_World_writeFine 12 = some (.aload_n 0, 1, 0) := m_at_of r_World_writeFine (by decide +kernel)
theorem i_World_writeFine_13 : m_at k_World_writeFine 13 = some (.getfield 11, 3, 36) := m_at_of r_World_writeFine (by decide +kernel)
theorem i_World_writeFine_16 : m_at k_World_writeFine 16 = some (.bipush 112, 2, 0) := m_at_of r_World_writeFine (by decide +kernel)
theorem i_World_writeFine_18 : m_at k_World_writeFine 18 = some (.aload_n 0, 1, 0) := m_at_of r_World_writeFine (by decide +kernel)
theorem i_World_writeFine_19 : m_at k_World_writeFine 19 = some (.getfield 11, 3, 36) := m_at_of r_World_writeFine (by decide +kernel)
theorem i_World_writeFine_22 : m_at k_World_writeFine 22 = some (.bipush 111, 2, 0) := m_at_of r_World_writeFine (by decide +kernel)
theorem i_World_writeFine_24 : m_at k_World_writeFine 24 = some (.bipush 29, 2, 0) := m_at_of r_World_writeFine (by decide +kernel)
theorem i_World_writeFine_26 : m_at k_World_writeFine 26 = some (.invokestatic 15, 3, 213) := m_at_of r_World_writeFine (by decide +kernel)
theorem i_World_writeFine_29 : m_at k_World_writeFine 29 = some (.aload_n 0, 1, 0) := m_at_of r_World_writeFine (by decide +kernel)
theorem i_World_writeFine_30 : m_at k_World_writeFine 30 = some (.getfield 11, 3, 36) := m_at_of r_World_writeFine (by decide +kernel)
theorem i_World_writeFine_33 : m_at k_World_writeFine 33 = some (.bipush 26, 2, 0) := m_at_of r_World_writeFine (by decide +kernel)
theorem i_World_writeFine_35 : m_at k_World_writeFine 35 = some (.bipush 29, 2, 0) := m_at_of r_World_writeFine (by decide +kernel)
theorem i_World_writeFine_37 : m_at k_World_writeFine 37 = some (.iastore, 1, 0) := m_at_of r_World_writeFine (by decide +kernel)
theorem i_World_writeFine_38 : m_at k_World_writeFine 38 = some (.aload_n 0, 1, 0) := m_at_of r_World_writeFine (by decide +kernel)
theorem i_World_writeFine_39 : m_at k_World_writeFine 39 = some (.bipush 111, 2, 0) := m_at_of r_World_writeFine (by decide +kernel)
theorem i_World_writeFine_41 : m_at k_World_writeFine 41 = some (.aload_n 0, 1, 0) := m_at_of r_World_writeFine (by decide +kernel)
theorem i_World_writeFine_42 : m_at k_World_writeFine 42 = some (.getfield 11, 3, 36) := m_at_of r_World_writeFine (by decide +kernel)
theorem i_World_writeFine_45 : m_at k_World_writeFine 45 = some (.bipush 26, 2, 0) := m_at_of r_World_writeFine (by decide +kernel)
theorem i_World_writeFine_47 : m_at k_World_writeFine 47 = some (.iaload, 1, 0) := m_at_of r_World_writeFine (by decide +kernel)
theorem i_World_writeFine_48 : m_at k_World_writeFine 48 = some (.aload_n 0, 1, 0) := m_at_of r_World_writeFine (by decide +kernel)
theorem i_World_writeFine_49 : m_at k_World_writeFine 49 = some (.getfield 11, 3, 36) := m_at_of r_World_writeFine (by decide +kernel)
theorem i_World_writeFine_52 : m_at k_World_writeFine 52 = some (.bipush 22, 2, 0) := m_at_of r_World_writeFine (by decide +kernel)
theorem i_World_writeFine_54 : m_at k_World_writeFine 54 = some (.iaload, 1, 0) := m_at_of r_World_writeFine (by decide +kernel)
theorem i_World_writeFine_55 : m_at k_World_writeFine 55 = some (.sipush 1000, 3, 0) := m_at_of r_World_writeFine (by decide +kernel)
theorem i_World_writeFine_58 : m_at k_World_writeFine 58 = some (.imul, 1, 0) := m_at_of r_World_writeFine (by decide +kernel)
theorem i_World_writeFine_59 : m_at k_World_writeFine 59 = some (.iload_n 1, 1, 0) := m_at_of r_World_writeFine (by decide +kernel)
theorem i_World_writeFine_60 : m_at k_World_writeFine 60 = some (.bipush 100, 2, 0) := m_at_of r_World_writeFine (by decide +kernel)
theorem i_World_writeFine_62 : m_at k_World_writeFine 62 = some (.imul, 1, 0) := m_at_of r_World_writeFine (by decide +kernel)
theorem i_World_writeFine_63 : m_at k_World_writeFine 63 = some (.iadd, 1, 0) := m_at_of r_World_writeFine (by decide +kernel)
theorem i_World_writeFine_64 : m_at k_World_writeFine 64 = some (.iload_n 2, 1, 0) := m_at_of r_World_writeFine (by decide +kernel)
theorem i_World_writeFine_65 : m_at k_World_writeFine 65 = some (.iadd, 1, 0) := m_at_of r_World_writeFine (by decide +kernel)
theorem i_World_writeFine_66 : m_at k_World_writeFine 66 = some (.invokevirtual 37, 3, 286) := m_at_of r_World_writeFine (by decide +kernel)
theorem i_World_writeFine_69 : m_at k_World_writeFine 69 = some (.aload_n 0, 1, 0) := m_at_of r_World_writeFine (by decide +kernel)
theorem i_World_writeFine_70 : m_at k_World_writeFine 70 = some (.getfield 11, 3, 36) := m_at_of r_World_writeFine (by decide +kernel)
theorem i_World_writeFine_73 : m_at k_World_writeFine 73 = some (.bipush 26, 2, 0) := m_at_of r_World_writeFine (by decide +kernel)
theorem i_World_writeFine_75 : m_at k_World_writeFine 75 = some (.dup2, 1, 0) := m_at_of r_World_writeFine (by decide +kernel)
theorem i_World_writeFine_76 : m_at k_World_writeFine 76 = some (.iaload, 1, 0) := m_at_of r_World_writeFine (by decide +kernel)
theorem i_World_writeFine_77 : m_at k_World_writeFine 77 = some (.iconst 1, 1, 0) := m_at_of r_World_writeFine (by decide +kernel)
theorem i_World_writeFine_78 : m_at k_World_writeFine 78 = some (.iadd, 1, 0) := m_at_of r_World_writeFine (by decide +kernel)
theorem i_World_writeFine_79 : m_at k_World_writeFine 79 = some (.iastore, 1, 0) := m_at_of r_World_writeFine (by decide +kernel)
theorem i_World_writeFine_80 : m_at k_World_writeFine 80 = some (.return_, 1, 0) := m_at_of r_World_writeFine (by decide +kernel)
set_option maxRecDepth 20000 in
set_option maxHeartbeats 1000000 in
theorem E_World_writeFine (x : m_X) (s : m_H) (w : Nat) (n1 : Int32) (n2 : Int32) : m_M x k_World_writeFine [.ref w, .int n1, .int n2] s = if m_isO s w 9 = true then ((m_fR s 9 0 w).bind fun v1 => (m_ia x s v1 26).bind fun v6 => if v6 < 30 then (m_D x 2 k_World_writeFine 38 [some (.ref w), some (.int n1), some (.int n2)] [] s) else (m_fR s 9 0 w).bind fun v13 => (m_fR s 9 0 w).bind fun v19 => (m_cpy s v13 112 v19 111 29).bind fun s26 => (m_fR s26 9 0 w).bind fun v30 => (m_is s26 v30 26 29).bind fun s37 => m_D x 2 k_World_writeFine 38 [some (.ref w), some (.int n1), some (.int n2)] [] s37) else none := by
  refine e_M1 (L0 := [some (.ref w), some (.int n1), some (.int n2)]) rfl (by decide +kernel) rfl (q_World_writeFine _) rfl ?_
  refine e_aload_n i_World_writeFine_0 rfl ?_
  refine e_getR i_World_writeFine_1 lf_36 (by decide) ft_9_0 (fun v1 => ?_)
  refine e_bipush (v := 26) i_World_writeFine_4 (by decide) ?_
  refine e_iald i_World_writeFine_6 (fun v6 => ?_)
  refine e_bipush (v := 30) i_World_writeFine_7 (by decide) ?_
  refine e_icmplt (t := 38) i_World_writeFine_9 (by decide) ?_ ?_
  · exact rfl
  · refine e_aload_n i_World_writeFine_12 rfl ?_
    refine e_getR i_World_writeFine_13 lf_36 (by decide) ft_9_0 (fun v13 => ?_)
    refine e_bipush (v := 112) i_World_writeFine_16 (by decide) ?_
    refine e_aload_n i_World_writeFine_18 rfl ?_
    refine e_getR i_World_writeFine_19 lf_36 (by decide) ft_9_0 (fun v19 => ?_)
    refine e_bipush (v := 111) i_World_writeFine_22 (by decide) ?_
    refine e_bipush (v := 29) i_World_writeFine_24 (by decide) ?_
    refine e_copy i_World_writeFine_26 lm_213 (Nat.le_of_ble_eq_true rfl) (fun s26 => ?_)
    refine e_aload_n i_World_writeFine_29 rfl ?_
    refine e_getR i_World_writeFine_30 lf_36 (by decide) ft_9_0 (fun v30 => ?_)
    refine e_bipush (v := 26) i_World_writeFine_33 (by decide) ?_
    refine e_bipush (v := 29) i_World_writeFine_35 (by decide) ?_
    refine e_iast i_World_writeFine_37 (fun s37 => ?_)
    exact rfl
set_option maxRecDepth 20000 in
set_option maxHeartbeats 1000000 in
theorem E_World_writeFine_38 (x : m_X) (ρ : Nat) (hρ : 2 ≤ ρ) (s : m_H) (w : Nat) (n1 : Int32) (n2 : Int32)  : m_D x ρ k_World_writeFine 38 [some (.ref w), some (.int n1), some (.int n2)] [] s = (m_fR s 9 0 w).bind fun v42 => (m_ia x s v42 26).bind fun v47 => (m_fR s 9 0 w).bind fun v49 => (m_ia x s v49 22).bind fun v54 => m_bV (m_M x k_World_change [.ref w, .int 111, .int v47, .int (((v54 * (1000 : Int32)) + (n1 * (100 : Int32))) + n2)] s) fun s66 => (m_fR s66 9 0 w).bind fun v70 => (m_ia x s66 v70 26).bind fun v76 => (m_is s66 v70 26 (v76 + (1 : Int32))).bind fun s79 => some (none, s79) := by
  refine e_aload_n i_World_writeFine_38 rfl ?_
  refine e_bipush (v := 111) i_World_writeFine_39 (by decide) ?_
  refine e_aload_n i_World_writeFine_41 rfl ?_
  refine e_getR i_World_writeFine_42 lf_36 (by decide) ft_9_0 (fun v42 => ?_)
  refine e_bipush (v := 26) i_World_writeFine_45 (by decide) ?_
  refine e_iald i_World_writeFine_47 (fun v47 => ?_)
  refine e_aload_n i_World_writeFine_48 rfl ?_
  refine e_getR i_World_writeFine_49 lf_36 (by decide) ft_9_0 (fun v49 => ?_)
  refine e_bipush (v := 22) i_World_writeFine_52 (by decide) ?_
  refine e_iald i_World_writeFine_54 (fun v54 => ?_)
  refine e_sipush (v := 1000) i_World_writeFine_55 (by decide) ?_
  refine e_imul i_World_writeFine_58 ?_
  refine e_iload_n i_World_writeFine_59 rfl ?_
  refine e_bipush (v := 100) i_World_writeFine_60 (by decide) ?_
  refine e_imul i_World_writeFine_62 ?_
  refine e_iadd i_World_writeFine_63 ?_
  refine e_iload_n i_World_writeFine_64 rfl ?_
  refine e_iadd i_World_writeFine_65 ?_
  refine e_callV (as := [.ref w, .int 111, .int v47, .int (((v54 * (1000 : Int32)) + (n1 * (100 : Int32))) + n2)]) (st' := []) i_World_writeFine_66 lm_286 (Or.inr (Or.inl ⟨rfl, rfl⟩)) w_World_change rfl rfl rfl (Nat.le_of_ble_eq_true rfl) (Nat.le_of_ble_eq_true rfl) (m_rlt (q_World_change _) (Nat.lt_of_lt_of_le (by decide) hρ)) rfl (fun s66 => ?_)
  refine e_aload_n i_World_writeFine_69 rfl ?_
  refine e_getR i_World_writeFine_70 lf_36 (by decide) ft_9_0 (fun v70 => ?_)
  refine e_bipush (v := 26) i_World_writeFine_73 (by decide) ?_
  refine e_dup2 i_World_writeFine_75 ⟨rfl, rfl⟩ ?_
  refine e_iald i_World_writeFine_76 (fun v76 => ?_)
  refine e_iconst (v := 1) i_World_writeFine_77 (by decide) ?_
  refine e_iadd i_World_writeFine_78 ?_
  refine e_iast i_World_writeFine_79 (fun s79 => ?_)
  exact e_vret i_World_writeFine_80 rfl
theorem i_World_dayCanPass_0 : m_at k_World_dayCanPass 0 = some (.aload_n 0, 1, 0) := m_at_of r_World_dayCanPass (by decide +kernel)
theorem i_World_dayCanPass_1 : m_at k_World_dayCanPass 1 = some (.getfield 11, 3, 36) := m_at_of r_World_dayCanPass (by decide +kernel)
theorem i_World_dayCanPass_4 : m_at k_World_dayCanPass 4 = some (.bipush 22, 2, 0) := m_at_of r_World_dayCanPass (by decide +kernel)
theorem i_World_dayCanPass_6 : m_at k_World_dayCanPass 6 = some (.iaload, 1, 0) := m_at_of r_World_dayCanPass (by decide +kernel)
theorem i_World_dayCanPass_7 : m_at k_World_dayCanPass 7 = some (.sipush 9999, 3, 0) := m_at_of r_World_dayCanPass (by decide +kernel)
theorem i_World_dayCanPass_10 : m_at k_World_dayCanPass 10 = some (.if_icmp .ge (7), 3, 0) := m_at_of r_World_dayCanPass (by decide +kernel)
theorem i_World_dayCanPass_13 : m_at k_World_dayCanPass 13 = some (.iconst 1, 1, 0) := m_at_of r_World_dayCanPass (by decide +kernel)
theorem i_World_dayCanPass_14 : m_at k_World_dayCanPass 14 = some (.goto (4), 3, 0) := m_at_of r_World_dayCanPass (by decide +kernel)
theorem i_World_dayCanPass_17 : m_at k_World_dayCanPass 17 = some (.iconst 0, 1, 0) := m_at_of r_World_dayCanPass (by decide +kernel)
theorem i_World_dayCanPass_18 : m_at k_World_dayCanPass 18 = some (.ireturn, 1, 0) := m_at_of r_World_dayCanPass (by decide +kernel)
set_option maxRecDepth 20000 in
set_option maxHeartbeats 1000000 in
theorem E_World_dayCanPass (x : m_X) (s : m_H) (w : Nat) : m_M x k_World_dayCanPass [.ref w] s = if m_isO s w 9 = true then ((m_fR s 9 0 w).bind fun v1 => (m_ia x s v1 22).bind fun v6 => if 9999 ≤ v6 then (some (some (.int 0), s)) else some (some (.int 1), s)) else none := by
  refine e_M1 (L0 := [some (.ref w)]) rfl (by decide +kernel) rfl (q_World_dayCanPass _) rfl ?_
  refine e_aload_n i_World_dayCanPass_0 rfl ?_
  refine e_getR i_World_dayCanPass_1 lf_36 (by decide) ft_9_0 (fun v1 => ?_)
  refine e_bipush (v := 22) i_World_dayCanPass_4 (by decide) ?_
  refine e_iald i_World_dayCanPass_6 (fun v6 => ?_)
  refine e_sipush (v := 9999) i_World_dayCanPass_7 (by decide) ?_
  refine e_icmpge (t := 17) i_World_dayCanPass_10 (by decide) ?_ ?_
  · refine e_iconst (v := 0) i_World_dayCanPass_17 (by decide) ?_
    exact e_iretZ i_World_dayCanPass_18 rfl (by decide)
  · refine e_iconst (v := 1) i_World_dayCanPass_13 (by decide) ?_
    refine e_goto (t := 18) i_World_dayCanPass_14 (by decide) ?_
    exact e_iretZ i_World_dayCanPass_18 rfl (by decide)
theorem i_World_leftsOf_0 : m_at k_World_leftsOf 0 = some (.iconst 0, 1, 0) := m_at_of r_World_leftsOf (by decide +kernel)
theorem i_World_leftsOf_1 : m_at k_World_leftsOf 1 = some (.istore_n 2, 1, 0) := m_at_of r_World_leftsOf (by decide +kernel)
theorem i_World_leftsOf_2 : m_at k_World_leftsOf 2 = some (.iconst 0, 1, 0) := m_at_of r_World_leftsOf (by decide +kernel)
theorem i_World_leftsOf_3 : m_at k_World_leftsOf 3 = some (.istore_n 3, 1, 0) := m_at_of r_World_leftsOf (by decide +kernel)
theorem i_World_leftsOf_4 : m_at k_World_leftsOf 4 = some (.iload_n 3, 1, 0) := m_at_of r_World_leftsOf (by decide +kernel)
theorem i_World_leftsOf_5 : m_at k_World_leftsOf 5 = some (.bipush 12, 2, 0) := m_at_of r_World_leftsOf (by decide +kernel)
theorem i_World_leftsOf_7 : m_at k_World_leftsOf 7 = some (.if_icmp .ge (48), 3, 0) := m_at_of r_World_leftsOf (by decide +kernel)
theorem i_World_leftsOf_10 : m_at k_World_leftsOf 10 = some (.iload_n 3, 1, 0) := m_at_of r_World_leftsOf (by decide +kernel)
theorem i_World_leftsOf_11 : m_at k_World_leftsOf 11 = some (.aload_n 0, 1, 0) := m_at_of r_World_leftsOf (by decide +kernel)
theorem i_World_leftsOf_12 : m_at k_World_leftsOf 12 = some (.getfield 11, 3, 36) := m_at_of r_World_leftsOf (by decide +kernel)
theorem i_World_leftsOf_15 : m_at k_World_leftsOf 15 = some (.bipush 25, 2, 0) := m_at_of r_World_leftsOf (by decide +kernel)
theorem i_World_leftsOf_17 : m_at k_World_leftsOf 17 = some (.iaload, 1, 0) := m_at_of r_World_leftsOf (by decide +kernel)
theorem i_World_leftsOf_18 : m_at k_World_leftsOf 18 = some (.if_icmp .ge (37), 3, 0) := m_at_of r_World_leftsOf (by decide +kernel)
theorem i_World_leftsOf_21 : m_at k_World_leftsOf 21 = some (.aload_n 0, 1, 0) := m_at_of r_World_leftsOf (by decide +kernel)
theorem i_World_leftsOf_22 : m_at k_World_leftsOf 22 = some (.getfield 11, 3, 36) := m_at_of r_World_leftsOf (by decide +kernel)
theorem i_World_leftsOf_25 : m_at k_World_leftsOf 25 = some (.bipush 99, 2, 0) := m_at_of r_World_leftsOf (by decide +kernel)
theorem i_World_leftsOf_27 : m_at k_World_leftsOf 27 = some (.iload_n 3, 1, 0) := m_at_of r_World_leftsOf (by decide +kernel)
theorem i_World_leftsOf_28 : m_at k_World_leftsOf 28 = some (.iadd, 1, 0) := m_at_of r_World_leftsOf (by decide +kernel)
theorem i_World_leftsOf_29 : m_at k_World_leftsOf 29 = some (.iaload, 1, 0) := m_at_of r_World_leftsOf (by decide +kernel)
theorem i_World_leftsOf_30 : m_at k_World_leftsOf 30 = some (.ifCond .ne (19), 3, 0) := m_at_of r_World_leftsOf (by decide +kernel)
theorem i_World_leftsOf_33 : m_at k_World_leftsOf 33 = some (.aload_n 0, 1, 0) := m_at_of r_World_leftsOf (by decide +kernel)
theorem i_World_leftsOf_34 : m_at k_World_leftsOf 34 = some (.getfield 11, 3, 36) := m_at_of r_World_leftsOf (by decide +kernel)
theorem i_World_leftsOf_37 : m_at k_World_leftsOf 37 = some (.bipush 39, 2, 0) := m_at_of r_World_leftsOf (by decide +kernel)
theorem i_World_leftsOf_39 : m_at k_World_leftsOf 39 = some (.iload_n 3, 1, 0) := m_at_of r_World_leftsOf (by decide +kernel)
theorem i_World_leftsOf_40 : m_at k_World_leftsOf 40 = some (.iadd, 1, 0) := m_at_of r_World_leftsOf (by decide +kernel)
theorem i_World_leftsOf_41 : m_at k_World_leftsOf 41 = some (.iaload, 1, 0) := m_at_of r_World_leftsOf (by decide +kernel)
theorem i_World_leftsOf_42 : m_at k_World_leftsOf 42 = some (.iload_n 1, 1, 0) := m_at_of r_World_leftsOf (by decide +kernel)
theorem i_World_leftsOf_43 : m_at k_World_leftsOf 43 = some (.if_icmp .ne (6), 3, 0) := m_at_of r_World_leftsOf (by decide +kernel)
theorem i_World_leftsOf_46 : m_at k_World_leftsOf 46 = some (.iinc 2 (1), 3, 0) := m_at_of r_World_leftsOf (by decide +kernel)
theorem i_World_leftsOf_49 : m_at k_World_leftsOf 49 = some (.iinc 3 (1), 3, 0) := m_at_of r_World_leftsOf (by decide +kernel)
theorem i_World_leftsOf_52 : m_at k_World_leftsOf 52 = some (.goto (-48), 3, 0) := m_at_of r_World_leftsOf (by decide +kernel)
theorem i_World_leftsOf_55 : m_at k_World_leftsOf 55 = some (.iload_n 2, 1, 0) := m_at_of r_World_leftsOf (by decide +kernel)
theorem i_World_leftsOf_56 : m_at k_World_leftsOf 56 = some (.ireturn, 1, 0) := m_at_of r_World_leftsOf (by decide +kernel)
set_option maxRecDepth 20000 in
set_option maxHeartbeats 1000000 in
theorem E_World_leftsOf (x : m_X) (s : m_H) (w : Nat) (n1 : Int32) : m_M x k_World_leftsOf [.ref w, .int n1] s = if m_isO s w 9 = true then (m_D x 1 k_World_leftsOf 4 [some (.ref w), some (.int n1), some (.int 0), some (.int 0)] [] s) else none := by
  refine e_M1 (L0 := [some (.ref w), some (.int n1), none, none]) rfl (by decide +kernel) rfl (q_World_leftsOf _) rfl ?_
  refine e_iconst (v := 0) i_World_leftsOf_0 (by decide) ?_
  refine e_istore_n (L' := [some (.ref w), some (.int n1), some (.int 0), none]) i_World_leftsOf_1 (of_decide_eq_true rfl) rfl ?_
  refine e_iconst (v := 0) i_World_leftsOf_2 (by decide) ?_
  refine e_istore_n (L' := [some (.ref w), some (.int n1), some (.int 0), some (.int 0)]) i_World_leftsOf_3 (of_decide_eq_true rfl) rfl ?_
  exact rfl
set_option maxRecDepth 20000 in
set_option maxHeartbeats 1000000 in
theorem E_World_leftsOf_4 (x : m_X) (ρ : Nat) (hρ : 1 ≤ ρ) (s : m_H) (w : Nat) (n1 : Int32) (n2 : Int32) (n3 : Int32)  : m_D x ρ k_World_leftsOf 4 [some (.ref w), some (.int n1), some (.int n2), some (.int n3)] [] s = if 12 ≤ n3 then (some (some (.int n2), s)) else (m_fR s 9 0 w).bind fun v12 => (m_ia x s v12 25).bind fun v17 => if v17 ≤ n3 then (some (some (.int n2), s)) else (m_fR s 9 0 w).bind fun v22 => (m_ia x s v22 ((99 : Int32) + n3)).bind fun v29 => if v29 = 0 then ((m_fR s 9 0 w).bind fun v34 => (m_ia x s v34 ((39 : Int32) + n3)).bind fun v41 => if v41 = n1 then (m_D x ρ k_World_leftsOf 4 [some (.ref w), some (.int n1), some (.int (n2 + (1 : Int32))), some (.int (n3 + (1 : Int32)))] [] s) else m_D x ρ k_World_leftsOf 4 [some (.ref w), some (.int n1), some (.int n2), some (.int (n3 + (1 : Int32)))] [] s) else m_D x ρ k_World_leftsOf 4 [some (.ref w), some (.int n1), some (.int n2), some (.int (n3 + (1 : Int32)))] [] s := by
  refine e_iload_n i_World_leftsOf_4 rfl ?_
  refine e_bipush (v := 12) i_World_leftsOf_5 (by decide) ?_
  refine e_icmpge (t := 55) i_World_leftsOf_7 (by decide) ?_ ?_
  · refine e_iload_n i_World_leftsOf_55 rfl ?_
    exact e_iretI i_World_leftsOf_56 rfl
  · refine e_iload_n i_World_leftsOf_10 rfl ?_
    refine e_aload_n i_World_leftsOf_11 rfl ?_
    refine e_getR i_World_leftsOf_12 lf_36 (by decide) ft_9_0 (fun v12 => ?_)
    refine e_bipush (v := 25) i_World_leftsOf_15 (by decide) ?_
    refine e_iald i_World_leftsOf_17 (fun v17 => ?_)
    refine e_icmpge (t := 55) i_World_leftsOf_18 (by decide) ?_ ?_
    · refine e_iload_n i_World_leftsOf_55 rfl ?_
      exact e_iretI i_World_leftsOf_56 rfl
    · refine e_aload_n i_World_leftsOf_21 rfl ?_
      refine e_getR i_World_leftsOf_22 lf_36 (by decide) ft_9_0 (fun v22 => ?_)
      refine e_bipush (v := 99) i_World_leftsOf_25 (by decide) ?_
      refine e_iload_n i_World_leftsOf_27 rfl ?_
      refine e_iadd i_World_leftsOf_28 ?_
      refine e_iald i_World_leftsOf_29 (fun v29 => ?_)
      refine e_ifne (t := 49) i_World_leftsOf_30 (by decide) ?_ ?_
      · refine e_iinc (w := 1) (L' := [some (.ref w), some (.int n1), some (.int n2), some (.int (n3 + (1 : Int32)))]) i_World_leftsOf_49 rfl (of_decide_eq_true rfl) (by decide) rfl ?_
        refine e_goto (t := 4) i_World_leftsOf_52 (by decide) ?_
        exact rfl
      · refine e_aload_n i_World_leftsOf_33 rfl ?_
        refine e_getR i_World_leftsOf_34 lf_36 (by decide) ft_9_0 (fun v34 => ?_)
        refine e_bipush (v := 39) i_World_leftsOf_37 (by decide) ?_
        refine e_iload_n i_World_leftsOf_39 rfl ?_
        refine e_iadd i_World_leftsOf_40 ?_
        refine e_iald i_World_leftsOf_41 (fun v41 => ?_)
        refine e_iload_n i_World_leftsOf_42 rfl ?_
        refine e_icmpne (t := 49) i_World_leftsOf_43 (by decide) ?_ ?_
        · refine e_iinc (w := 1) (L' := [some (.ref w), some (.int n1), some (.int n2), some (.int (n3 + (1 : Int32)))]) i_World_leftsOf_49 rfl (of_decide_eq_true rfl) (by decide) rfl ?_
          refine e_goto (t := 4) i_World_leftsOf_52 (by decide) ?_
          exact rfl
        · refine e_iinc (w := 1) (L' := [some (.ref w), some (.int n1), some (.int (n2 + (1 : Int32))), some (.int n3)]) i_World_leftsOf_46 rfl (of_decide_eq_true rfl) (by decide) rfl ?_
          refine e_iinc (w := 1) (L' := [some (.ref w), some (.int n1), some (.int (n2 + (1 : Int32))), some (.int (n3 + (1 : Int32)))]) i_World_leftsOf_49 rfl (of_decide_eq_true rfl) (by decide) rfl ?_
          refine e_goto (t := 4) i_World_leftsOf_52 (by decide) ?_
          exact rfl
theorem i_World_rightsOf_0 : m_at k_World_rightsOf 0 = some (.iconst 0, 1, 0) := m_at_of r_World_rightsOf (by decide +kernel)
theorem i_World_rightsOf_1 : m_at k_World_rightsOf 1 = some (.istore_n 2, 1, 0) := m_at_of r_World_rightsOf (by decide +kernel)
theorem i_World_rightsOf_2 : m_at k_World_rightsOf 2 = some (.iconst 0, 1, 0) := m_at_of r_World_rightsOf (by decide +kernel)
theorem i_World_rightsOf_3 : m_at k_World_rightsOf 3 = some (.istore_n 3, 1, 0) := m_at_of r_World_rightsOf (by decide +kernel)
theorem i_World_rightsOf_4 : m_at k_World_rightsOf 4 = some (.iload_n 3, 1, 0) := m_at_of r_World_rightsOf (by decide +kernel)
theorem i_World_rightsOf_5 : m_at k_World_rightsOf 5 = some (.bipush 12, 2, 0) := m_at_of r_World_rightsOf (by decide +kernel)
theorem i_World_rightsOf_7 : m_at k_World_rightsOf 7 = some (.if_icmp .ge (58), 3, 0) := m_at_of r_World_rightsOf (by decide +kernel)
theorem i_World_rightsOf_10 : m_at k_World_rightsOf 10 = some (.iload_n 3, 1, 0) := m_at_of r_World_rightsOf (by decide +kernel)
theorem i_World_rightsOf_11 : m_at k_World_rightsOf 11 = some (.aload_n 0, 1, 0) := m_at_of r_World_rightsOf (by decide +kernel)
theorem i_World_rightsOf_12 : m_at k_World_rightsOf 12 = some (.getfield 11, 3, 36) := m_at_of r_World_rightsOf (by decide +kernel)
theorem i_World_rightsOf_15 : m_at k_World_rightsOf 15 = some (.bipush 25, 2, 0) := m_at_of r_World_rightsOf (by decide +kernel)
theorem i_World_rightsOf_17 : m_at k_World_rightsOf 17 = some (.iaload, 1, 0) := m_at_of r_World_rightsOf (by decide +kernel)
theorem i_World_rightsOf_18 : m_at k_World_rightsOf 18 = some (.if_icmp .ge (47), 3, 0) := m_at_of r_World_rightsOf (by decide +kernel)
theorem i_World_rightsOf_21 : m_at k_World_rightsOf 21 = some (.aload_n 0, 1, 0) := m_at_of r_World_rightsOf (by decide +kernel)
theorem i_World_rightsOf_22 : m_at k_World_rightsOf 22 = some (.getfield 11, 3, 36) := m_at_of r_World_rightsOf (by decide +kernel)
theorem i_World_rightsOf_25 : m_at k_World_rightsOf 25 = some (.bipush 99, 2, 0) := m_at_of r_World_rightsOf (by decide +kernel)
theorem i_World_rightsOf_27 : m_at k_World_rightsOf 27 = some (.iload_n 3, 1, 0) := m_at_of r_World_rightsOf (by decide +kernel)
theorem i_World_rightsOf_28 : m_at k_World_rightsOf 28 = some (.iadd, 1, 0) := m_at_of r_World_rightsOf (by decide +kernel)
theorem i_World_rightsOf_29 : m_at k_World_rightsOf 29 = some (.iaload, 1, 0) := m_at_of r_World_rightsOf (by decide +kernel)
theorem i_World_rightsOf_30 : m_at k_World_rightsOf 30 = some (.istore 4, 2, 0) := m_at_of r_World_rightsOf (by decide +kernel)
theorem i_World_rightsOf_32 : m_at k_World_rightsOf 32 = some (.iload 4, 2, 0) := m_at_of r_World_rightsOf (by decide +kernel)
theorem i_World_rightsOf_34 : m_at k_World_rightsOf 34 = some (.ifCond .eq (9), 3, 0) := m_at_of r_World_rightsOf (by decide +kernel)
theorem i_World_rightsOf_37 : m_at k_World_rightsOf 37 = some (.iload 4, 2, 0) := m_at_of r_World_rightsOf (by decide +kernel)
theorem i_World_rightsOf_39 : m_at k_World_rightsOf 39 = some (.iconst 3, 1, 0) := m_at_of r_World_rightsOf (by decide +kernel)
theorem i_World_rightsOf_40 : m_at k_World_rightsOf 40 = some (.if_icmp .ne (19), 3, 0) := m_at_of r_World_rightsOf (by decide +kernel)
theorem i_World_rightsOf_43 : m_at k_World_rightsOf 43 = some (.aload_n 0, 1, 0) := m_at_of r_World_rightsOf (by decide +kernel)
theorem i_World_rightsOf_44 : m_at k_World_rightsOf 44 = some (.getfield 11, 3, 36) := m_at_of r_World_rightsOf (by decide +kernel)
theorem i_World_rightsOf_47 : m_at k_World_rightsOf 47 = some (.bipush 27, 2, 0) := m_at_of r_World_rightsOf (by decide +kernel)
theorem i_World_rightsOf_49 : m_at k_World_rightsOf 49 = some (.iload_n 3, 1, 0) := m_at_of r_World_rightsOf (by decide +kernel)
theorem i_World_rightsOf_50 : m_at k_World_rightsOf 50 = some (.iadd, 1, 0) := m_at_of r_World_rightsOf (by decide +kernel)
theorem i_World_rightsOf_51 : m_at k_World_rightsOf 51 = some (.iaload, 1, 0) := m_at_of r_World_rightsOf (by decide +kernel)
theorem i_World_rightsOf_52 : m_at k_World_rightsOf 52 = some (.iload_n 1, 1, 0) := m_at_of r_World_rightsOf (by decide +kernel)
theorem i_World_rightsOf_53 : m_at k_World_rightsOf 53 = some (.if_icmp .ne (6), 3, 0) := m_at_of r_World_rightsOf (by decide +kernel)
theorem i_World_rightsOf_56 : m_at k_World_rightsOf 56 = some (.iinc 2 (1), 3, 0) := m_at_of r_World_rightsOf (by decide +kernel)
theorem i_World_rightsOf_59 : m_at k_World_rightsOf 59 = some (.iinc 3 (1), 3, 0) := m_at_of r_World_rightsOf (by decide +kernel)
theorem i_World_rightsOf_62 : m_at k_World_rightsOf 62 = some (.goto (-58), 3, 0) := m_at_of r_World_rightsOf (by decide +kernel)
theorem i_World_rightsOf_65 : m_at k_World_rightsOf 65 = some (.iload_n 2, 1, 0) := m_at_of r_World_rightsOf (by decide +kernel)
theorem i_World_rightsOf_66 : m_at k_World_rightsOf 66 = some (.ireturn, 1, 0) := m_at_of r_World_rightsOf (by decide +kernel)
set_option maxRecDepth 20000 in
set_option maxHeartbeats 1000000 in
theorem E_World_rightsOf (x : m_X) (s : m_H) (w : Nat) (n1 : Int32) : m_M x k_World_rightsOf [.ref w, .int n1] s = if m_isO s w 9 = true then (m_D x 1 k_World_rightsOf 4 [some (.ref w), some (.int n1), some (.int 0), some (.int 0), none] [] s) else none := by
  refine e_M1 (L0 := [some (.ref w), some (.int n1), none, none, none]) rfl (by decide +kernel) rfl (q_World_rightsOf _) rfl ?_
  refine e_iconst (v := 0) i_World_rightsOf_0 (by decide) ?_
  refine e_istore_n (L' := [some (.ref w), some (.int n1), some (.int 0), none, none]) i_World_rightsOf_1 (of_decide_eq_true rfl) rfl ?_
  refine e_iconst (v := 0) i_World_rightsOf_2 (by decide) ?_
  refine e_istore_n (L' := [some (.ref w), some (.int n1), some (.int 0), some (.int 0), none]) i_World_rightsOf_3 (of_decide_eq_true rfl) rfl ?_
  exact rfl
set_option maxRecDepth 20000 in
set_option maxHeartbeats 1000000 in
theorem E_World_rightsOf_4 (x : m_X) (ρ : Nat) (hρ : 1 ≤ ρ) (s : m_H) (w : Nat) (n1 : Int32) (n2 : Int32) (n3 : Int32) (d4 : Option Value) (hd4 : m_nl d4 = true) : m_D x ρ k_World_rightsOf 4 [some (.ref w), some (.int n1), some (.int n2), some (.int n3), d4] [] s = if 12 ≤ n3 then (some (some (.int n2), s)) else (m_fR s 9 0 w).bind fun v12 => (m_ia x s v12 25).bind fun v17 => if v17 ≤ n3 then (some (some (.int n2), s)) else (m_fR s 9 0 w).bind fun v22 => (m_ia x s v22 ((99 : Int32) + n3)).bind fun v29 => if v29 = 0 then ((m_fR s 9 0 w).bind fun v44 => (m_ia x s v44 ((27 : Int32) + n3)).bind fun v51 => if v51 = n1 then (m_D x ρ k_World_rightsOf 4 [some (.ref w), some (.int n1), some (.int (n2 + (1 : Int32))), some (.int (n3 + (1 : Int32))), some (.int v29)] [] s) else m_D x ρ k_World_rightsOf 4 [some (.ref w), some (.int n1), some (.int n2), some (.int (n3 + (1 : Int32))), some (.int v29)] [] s) else if v29 = 3 then ((m_fR s 9 0 w).bind fun v44 => (m_ia x s v44 ((27 : Int32) + n3)).bind fun v51 => if v51 = n1 then (m_D x ρ k_World_rightsOf 4 [some (.ref w), some (.int n1), some (.int (n2 + (1 : Int32))), some (.int (n3 + (1 : Int32))), some (.int v29)] [] s) else m_D x ρ k_World_rightsOf 4 [some (.ref w), some (.int n1), some (.int n2), some (.int (n3 + (1 : Int32))), some (.int v29)] [] s) else m_D x ρ k_World_rightsOf 4 [some (.ref w), some (.int n1), some (.int n2), some (.int (n3 + (1 : Int32))), some (.int v29)] [] s := by
  refine e_iload_n i_World_rightsOf_4 rfl ?_
  refine e_bipush (v := 12) i_World_rightsOf_5 (by decide) ?_
  refine e_icmpge (t := 65) i_World_rightsOf_7 (by decide) ?_ ?_
  · refine e_iload_n i_World_rightsOf_65 rfl ?_
    exact e_iretI i_World_rightsOf_66 rfl
  · refine e_iload_n i_World_rightsOf_10 rfl ?_
    refine e_aload_n i_World_rightsOf_11 rfl ?_
    refine e_getR i_World_rightsOf_12 lf_36 (by decide) ft_9_0 (fun v12 => ?_)
    refine e_bipush (v := 25) i_World_rightsOf_15 (by decide) ?_
    refine e_iald i_World_rightsOf_17 (fun v17 => ?_)
    refine e_icmpge (t := 65) i_World_rightsOf_18 (by decide) ?_ ?_
    · refine e_iload_n i_World_rightsOf_65 rfl ?_
      exact e_iretI i_World_rightsOf_66 rfl
    · refine e_aload_n i_World_rightsOf_21 rfl ?_
      refine e_getR i_World_rightsOf_22 lf_36 (by decide) ft_9_0 (fun v22 => ?_)
      refine e_bipush (v := 99) i_World_rightsOf_25 (by decide) ?_
      refine e_iload_n i_World_rightsOf_27 rfl ?_
      refine e_iadd i_World_rightsOf_28 ?_
      refine e_iald i_World_rightsOf_29 (fun v29 => ?_)
      refine e_istore (L' := [some (.ref w), some (.int n1), some (.int n2), some (.int n3), some (.int v29)]) i_World_rightsOf_30 (of_decide_eq_true rfl) rfl ?_
      refine e_iload i_World_rightsOf_32 rfl ?_
      refine e_ifeq (t := 43) i_World_rightsOf_34 (by decide) ?_ ?_
      · refine e_aload_n i_World_rightsOf_43 rfl ?_
        refine e_getR i_World_rightsOf_44 lf_36 (by decide) ft_9_0 (fun v44 => ?_)
        refine e_bipush (v := 27) i_World_rightsOf_47 (by decide) ?_
        refine e_iload_n i_World_rightsOf_49 rfl ?_
        refine e_iadd i_World_rightsOf_50 ?_
        refine e_iald i_World_rightsOf_51 (fun v51 => ?_)
        refine e_iload_n i_World_rightsOf_52 rfl ?_
        refine e_icmpne (t := 59) i_World_rightsOf_53 (by decide) ?_ ?_
        · refine e_iinc (w := 1) (L' := [some (.ref w), some (.int n1), some (.int n2), some (.int (n3 + (1 : Int32))), some (.int v29)]) i_World_rightsOf_59 rfl (of_decide_eq_true rfl) (by decide) rfl ?_
          refine e_goto (t := 4) i_World_rightsOf_62 (by decide) ?_
          exact rfl
        · refine e_iinc (w := 1) (L' := [some (.ref w), some (.int n1), some (.int (n2 + (1 : Int32))), some (.int n3), some (.int v29)]) i_World_rightsOf_56 rfl (of_decide_eq_true rfl) (by decide) rfl ?_
          refine e_iinc (w := 1) (L' := [some (.ref w), some (.int n1), some (.int (n2 + (1 : Int32))), some (.int (n3 + (1 : Int32))), some (.int v29)]) i_World_rightsOf_59 rfl (of_decide_eq_true rfl) (by decide) rfl ?_
          refine e_goto (t := 4) i_World_rightsOf_62 (by decide) ?_
          exact rfl
      · refine e_iload i_World_rightsOf_37 rfl ?_
        refine e_iconst (v := 3) i_World_rightsOf_39 (by decide) ?_
        refine e_icmpne (t := 59) i_World_rightsOf_40 (by decide) ?_ ?_
        · refine e_iinc (w := 1) (L' := [some (.ref w), some (.int n1), some (.int n2), some (.int (n3 + (1 : Int32))), some (.int v29)]) i_World_rightsOf_59 rfl (of_decide_eq_true rfl) (by decide) rfl ?_
          refine e_goto (t := 4) i_World_rightsOf_62 (by decide) ?_
          exact rfl
        · refine e_aload_n i_World_rightsOf_43 rfl ?_
          refine e_getR i_World_rightsOf_44 lf_36 (by decide) ft_9_0 (fun v44 => ?_)
          refine e_bipush (v := 27) i_World_rightsOf_47 (by decide) ?_
          refine e_iload_n i_World_rightsOf_49 rfl ?_
          refine e_iadd i_World_rightsOf_50 ?_
          refine e_iald i_World_rightsOf_51 (fun v51 => ?_)
          refine e_iload_n i_World_rightsOf_52 rfl ?_
          refine e_icmpne (t := 59) i_World_rightsOf_53 (by decide) ?_ ?_
          · refine e_iinc (w := 1) (L' := [some (.ref w), some (.int n1), some (.int n2), some (.int (n3 + (1 : Int32))), some (.int v29)]) i_World_rightsOf_59 rfl (of_decide_eq_true rfl) (by decide) rfl ?_
            refine e_goto (t := 4) i_World_rightsOf_62 (by decide) ?_
            exact rfl
          · refine e_iinc (w := 1) (L' := [some (.ref w), some (.int n1), some (.int (n2 + (1 : Int32))), some (.int n3), some (.int v29)]) i_World_rightsOf_56 rfl (of_decide_eq_true rfl) (by decide) rfl ?_
            refine e_iinc (w := 1) (L' := [some (.ref w), some (.int n1), some (.int (n2 + (1 : Int32))), some (.int (n3 + (1 : Int32))), some (.int v29)]) i_World_rightsOf_59 rfl (of_decide_eq_true rfl) (by decide) rfl ?_
            refine e_goto (t := 4) i_World_rightsOf_62 (by decide) ?_
            exact rfl
theorem i_World_bareHandsOf_0 : m_at k_World_bareHandsOf 0 = some (.iconst 0, 1, 0) := m_at_of r_World_bareHandsOf (by decide +kernel)
theorem i_World_bareHandsOf_1 : m_at k_World_bareHandsOf 1 = some (.istore_n 2, 1, 0) := m_at_of r_World_bareHandsOf (by decide +kernel)
theorem i_World_bareHandsOf_2 : m_at k_World_bareHandsOf 2 = some (.iconst 0, 1, 0) := m_at_of r_World_bareHandsOf (by decide +kernel)
theorem i_World_bareHandsOf_3 : m_at k_World_bareHandsOf 3 = some (.istore_n 3, 1, 0) := m_at_of r_World_bareHandsOf (by decide +kernel)
theorem i_World_bareHandsOf_4 : m_at k_World_bareHandsOf 4 = some (.iload_n 3, 1, 0) := m_at_of r_World_bareHandsOf (by decide +kernel)
theorem i_World_bareHandsOf_5 : m_at k_World_bareHandsOf 5 = some (.bipush 12, 2, 0) := m_at_of r_World_bareHandsOf (by decide +kernel)
theorem i_World_bareHandsOf_7 : m_at k_World_bareHandsOf 7 = some (.if_icmp .ge (100), 3, 0) := m_at_of r_World_bareHandsOf (by decide +kernel)
theorem i_World_bareHandsOf_10 : m_at k_World_bareHandsOf 10 = some (.iload_n 3, 1, 0) := m_at_of r_World_bareHandsOf (by decide +kernel)
theorem i_World_bareHandsOf_11 : m_at k_World_bareHandsOf 11 = some (.aload_n 0, 1, 0) := m_at_of r_World_bareHandsOf (by decide +kernel)
theorem i_World_bareHandsOf_12 : m_at k_World_bareHandsOf 12 = some (.getfield 11, 3, 36) := m_at_of r_World_bareHandsOf (by decide +kernel)
theorem i_World_bareHandsOf_15 : m_at k_World_bareHandsOf 15 = some (.bipush 25, 2, 0) := m_at_of r_World_bareHandsOf (by decide +kernel)
theorem i_World_bareHandsOf_17 : m_at k_World_bareHandsOf 17 = some (.iaload, 1, 0) := m_at_of r_World_bareHandsOf (by decide +kernel)
theorem i_World_bareHandsOf_18 : m_at k_World_bareHandsOf 18 = some (.if_icmp .ge (89), 3, 0) := m_at_of r_World_bareHandsOf (by decide +kernel)
theorem i_World_bareHandsOf_21 : m_at k_World_bareHandsOf 21 = some (.aload_n 0, 1, 0) := m_at_of r_World_bareHandsOf (by decide +kernel)
theorem i_World_bareHandsOf_22 : m_at k_World_bareHandsOf 22 = some (.getfield 11, 3, 36) := m_at_of r_World_bareHandsOf (by decide +kernel)
theorem i_World_bareHandsOf_25 : m_at k_World_bareHandsOf 25 = some (.bipush 99, 2, 0) := m_at_of r_World_bareHandsOf (by decide +kernel)
theorem i_World_bareHandsOf_27 : m_at k_World_bareHandsOf 27 = some (.iload_n 3, 1, 0) := m_at_of r_World_bareHandsOf (by decide +kernel)
theorem i_World_bareHandsOf_28 : m_at k_World_bareHandsOf 28 = some (.iadd, 1, 0) := m_at_of r_World_bareHandsOf (by decide +kernel)
theorem i_World_bareHandsOf_29 : m_at k_World_bareHandsOf 29 = some (.iaload, 1, 0) := m_at_of r_World_bareHandsOf (by decide +kernel)
theorem i_World_bareHandsOf_30 : m_at k_World_bareHandsOf 30 = some (.istore 4, 2, 0) := m_at_of r_World_bareHandsOf (by decide +kernel)
theorem i_World_bareHandsOf_32 : m_at k_World_bareHandsOf 32 = some (.iload 4, 2, 0) := m_at_of r_World_bareHandsOf (by decide +kernel)
theorem i_World_bareHandsOf_34 : m_at k_World_bareHandsOf 34 = some (.ifCond .eq (9), 3, 0) := m_at_of r_World_bareHandsOf (by decide +kernel)
theorem i_World_bareHandsOf_37 : m_at k_World_bareHandsOf 37 = some (.iload 4, 2, 0) := m_at_of r_World_bareHandsOf (by decide +kernel)
theorem i_World_bareHandsOf_39 : m_at k_World_bareHandsOf 39 = some (.iconst 3, 1, 0) := m_at_of r_World_bareHandsOf (by decide +kernel)
theorem i_World_bareHandsOf_40 : m_at k_World_bareHandsOf 40 = some (.if_icmp .ne (20), 3, 0) := m_at_of r_World_bareHandsOf (by decide +kernel)
theorem i_World_bareHandsOf_43 : m_at k_World_bareHandsOf 43 = some (.aload_n 0, 1, 0) := m_at_of r_World_bareHandsOf (by decide +kernel)
theorem i_World_bareHandsOf_44 : m_at k_World_bareHandsOf 44 = some (.getfield 11, 3, 36) := m_at_of r_World_bareHandsOf (by decide +kernel)
theorem i_World_bareHandsOf_47 : m_at k_World_bareHandsOf 47 = some (.bipush 27, 2, 0) := m_at_of r_World_bareHandsOf (by decide +kernel)
theorem i_World_bareHandsOf_49 : m_at k_World_bareHandsOf 49 = some (.iload_n 3, 1, 0) := m_at_of r_World_bareHandsOf (by decide +kernel)
theorem i_World_bareHandsOf_50 : m_at k_World_bareHandsOf 50 = some (.iadd, 1, 0) := m_at_of r_World_bareHandsOf (by decide +kernel)
theorem i_World_bareHandsOf_51 : m_at k_World_bareHandsOf 51 = some (.iaload, 1, 0) := m_at_of r_World_bareHandsOf (by decide +kernel)
theorem i_World_bareHandsOf_52 : m_at k_World_bareHandsOf 52 = some (.iload_n 1, 1, 0) := m_at_of r_World_bareHandsOf (by decide +kernel)
theorem i_World_bareHandsOf_53 : m_at k_World_bareHandsOf 53 = some (.if_icmp .ne (7), 3, 0) := m_at_of r_World_bareHandsOf (by decide +kernel)
theorem i_World_bareHandsOf_56 : m_at k_World_bareHandsOf 56 = some (.iconst 1, 1, 0) := m_at_of r_World_bareHandsOf (by decide +kernel)
theorem i_World_bareHandsOf_57 : m_at k_World_bareHandsOf 57 = some (.goto (4), 3, 0) := m_at_of r_World_bareHandsOf (by decide +kernel)
theorem i_World_bareHandsOf_60 : m_at k_World_bareHandsOf 60 = some (.iconst 0, 1, 0) := m_at_of r_World_bareHandsOf (by decide +kernel)
theorem i_World_bareHandsOf_61 : m_at k_World_bareHandsOf 61 = some (.istore 5, 2, 0) := m_at_of r_World_bareHandsOf (by decide +kernel)
theorem i_World_bareHandsOf_63 : m_at k_World_bareHandsOf 63 = some (.iload 4, 2, 0) := m_at_of r_World_bareHandsOf (by decide +kernel)
theorem i_World_bareHandsOf_65 : m_at k_World_bareHandsOf 65 = some (.ifCond .ne (20), 3, 0) := m_at_of r_World_bareHandsOf (by decide +kernel)
theorem i_World_bareHandsOf_68 : m_at k_World_bareHandsOf 68 = some (.aload_n 0, 1, 0) := m_at_of r_World_bareHandsOf (by decide +kernel)
theorem i_World_bareHandsOf_69 : m_at k_World_bareHandsOf 69 = some (.getfield 11, 3, 36) := m_at_of r_World_bareHandsOf (by decide +kernel)
theorem i_World_bareHandsOf_72 : m_at k_World_bareHandsOf 72 = some (.bipush 39, 2, 0) := m_at_of r_World_bareHandsOf (by decide +kernel)
theorem i_World_bareHandsOf_74 : m_at k_World_bareHandsOf 74 = some (.iload_n 3, 1, 0) := m_at_of r_World_bareHandsOf (by decide +kernel)
theorem i_World_bareHandsOf_75 : m_at k_World_bareHandsOf 75 = some (.iadd, 1, 0) := m_at_of r_World_bareHandsOf (by decide +kernel)
theorem i_World_bareHandsOf_76 : m_at k_World_bareHandsOf 76 = some (.iaload, 1, 0) := m_at_of r_World_bareHandsOf (by decide +kernel)
theorem i_World_bareHandsOf_77 : m_at k_World_bareHandsOf 77 = some (.iload_n 1, 1, 0) := m_at_of r_World_bareHandsOf (by decide +kernel)
theorem i_World_bareHandsOf_78 : m_at k_World_bareHandsOf 78 = some (.if_icmp .ne (7), 3, 0) := m_at_of r_World_bareHandsOf (by decide +kernel)
theorem i_World_bareHandsOf_81 : m_at k_World_bareHandsOf 81 = some (.iconst 1, 1, 0) := m_at_of r_World_bareHandsOf (by decide +kernel)
theorem i_World_bareHandsOf_82 : m_at k_World_bareHandsOf 82 = some (.goto (4), 3, 0) := m_at_of r_World_bareHandsOf (by decide +kernel)
theorem i_World_bareHandsOf_85 : m_at k_World_bareHandsOf 85 = some (.iconst 0, 1, 0) := m_at_of r_World_bareHandsOf (by decide +kernel)
theorem i_World_bareHandsOf_86 : m_at k_World_bareHandsOf 86 = some (.istore 6, 2, 0) := m_at_of r_World_bareHandsOf (by decide +kernel)
theorem i_World_bareHandsOf_88 : m_at k_World_bareHandsOf 88 = some (.iload 5, 2, 0) := m_at_of r_World_bareHandsOf (by decide +kernel)
theorem i_World_bareHandsOf_90 : m_at k_World_bareHandsOf 90 = some (.ifCond .ne (8), 3, 0) := m_at_of r_World_bareHandsOf (by decide +kernel)
theorem i_World_bareHandsOf_93 : m_at k_World_bareHandsOf 93 = some (.iload 6, 2, 0) := m_at_of r_World_bareHandsOf (by decide +kernel)
theorem i_World_bareHandsOf_95 : m_at k_World_bareHandsOf 95 = some (.ifCond .eq (6), 3, 0) := m_at_of r_World_bareHandsOf (by decide +kernel)
theorem i_World_bareHandsOf_98 : m_at k_World_bareHandsOf 98 = some (.iinc 2 (1), 3, 0) := m_at_of r_World_bareHandsOf (by decide +kernel)
theorem i_World_bareHandsOf_101 : m_at k_World_bareHandsOf 101 = some (.iinc 3 (1), 3, 0) := m_at_of r_World_bareHandsOf (by decide +kernel)
theorem i_World_bareHandsOf_104 : m_at k_World_bareHandsOf 104 = some (.goto (-100), 3, 0) := m_at_of r_World_bareHandsOf (by decide +kernel)
theorem i_World_bareHandsOf_107 : m_at k_World_bareHandsOf 107 = some (.iconst 0, 1, 0) := m_at_of r_World_bareHandsOf (by decide +kernel)
theorem i_World_bareHandsOf_108 : m_at k_World_bareHandsOf 108 = some (.iconst 2, 1, 0) := m_at_of r_World_bareHandsOf (by decide +kernel)
theorem i_World_bareHandsOf_109 : m_at k_World_bareHandsOf 109 = some (.iload_n 2, 1, 0) := m_at_of r_World_bareHandsOf (by decide +kernel)
theorem i_World_bareHandsOf_110 : m_at k_World_bareHandsOf 110 = some (.isub, 1, 0) := m_at_of r_World_bareHandsOf (by decide +kernel)
theorem i_World_bareHandsOf_111 : m_at k_World_bareHandsOf 111 = some (.invokestatic 47, 3, 318) := m_at_of r_World_bareHandsOf (by decide +kernel)
theorem i_World_bareHandsOf_114 : m_at k_World_bareHandsOf 114 = some (.ireturn, 1, 0) := m_at_of r_World_bareHandsOf (by decide +kernel)
set_option maxRecDepth 20000 in
set_option maxHeartbeats 1000000 in
theorem E_World_bareHandsOf (x : m_X) (s : m_H) (w : Nat) (n1 : Int32) : m_M x k_World_bareHandsOf [.ref w, .int n1] s = if m_isO s w 9 = true then (m_D x 2 k_World_bareHandsOf 4 [some (.ref w), some (.int n1), some (.int 0), some (.int 0), none, none, none] [] s) else none := by
  refine e_M1 (L0 := [some (.ref w), some (.int n1), none, none, none, none, none]) rfl (by decide +kernel) rfl (q_World_bareHandsOf _) rfl ?_
  refine e_iconst (v := 0) i_World_bareHandsOf_0 (by decide) ?_
  refine e_istore_n (L' := [some (.ref w), some (.int n1), some (.int 0), none, none, none, none]) i_World_bareHandsOf_1 (of_decide_eq_true rfl) rfl ?_
  refine e_iconst (v := 0) i_World_bareHandsOf_2 (by decide) ?_
  refine e_istore_n (L' := [some (.ref w), some (.int n1), some (.int 0), some (.int 0), none, none, none]) i_World_bareHandsOf_3 (of_decide_eq_true rfl) rfl ?_
  exact rfl
set_option maxRecDepth 20000 in
set_option maxHeartbeats 1000000 in
theorem E_World_bareHandsOf_4 (x : m_X) (ρ : Nat) (hρ : 2 ≤ ρ) (s : m_H) (w : Nat) (n1 : Int32) (n2 : Int32) (n3 : Int32) (d4 : Option Value) (d5 : Option Value) (d6 : Option Value) (hd4 : m_nl d4 = true) (hd5 : m_nl d5 = true) (hd6 : m_nl d6 = true) : m_D x ρ k_World_bareHandsOf 4 [some (.ref w), some (.int n1), some (.int n2), some (.int n3), d4, d5, d6] [] s = if 12 ≤ n3 then (m_bI (m_M x k_Math_max_II [.int 0, .int ((2 : Int32) - n2)] s) fun v111 s111 => some (some (.int v111), s111)) else (m_fR s 9 0 w).bind fun v12 => (m_ia x s v12 25).bind fun v17 => if v17 ≤ n3 then (m_bI (m_M x k_Math_max_II [.int 0, .int ((2 : Int32) - n2)] s) fun v111 s111 => some (some (.int v111), s111)) else (m_fR s 9 0 w).bind fun v22 => (m_ia x s v22 ((99 : Int32) + n3)).bind fun v29 => if v29 = 0 then ((m_fR s 9 0 w).bind fun v44 => (m_ia x s v44 ((27 : Int32) + n3)).bind fun v51 => if v51 = n1 then (m_D x ρ k_World_bareHandsOf 61 [some (.ref w), some (.int n1), some (.int n2), some (.int n3), some (.int v29), d5, d6] [.int 1] s) else m_D x ρ k_World_bareHandsOf 61 [some (.ref w), some (.int n1), some (.int n2), some (.int n3), some (.int v29), d5, d6] [.int 0] s) else if v29 = 3 then ((m_fR s 9 0 w).bind fun v44 => (m_ia x s v44 ((27 : Int32) + n3)).bind fun v51 => if v51 = n1 then (m_D x ρ k_World_bareHandsOf 61 [some (.ref w), some (.int n1), some (.int n2), some (.int n3), some (.int v29), d5, d6] [.int 1] s) else m_D x ρ k_World_bareHandsOf 61 [some (.ref w), some (.int n1), some (.int n2), some (.int n3), some (.int v29), d5, d6] [.int 0] s) else m_D x ρ k_World_bareHandsOf 61 [some (.ref w), some (.int n1), some (.int n2), some (.int n3), some (.int v29), d5, d6] [.int 0] s := by
  refine e_iload_n i_World_bareHandsOf_4 rfl ?_
  refine e_bipush (v := 12) i_World_bareHandsOf_5 (by decide) ?_
  refine e_icmpge (t := 107) i_World_bareHandsOf_7 (by decide) ?_ ?_
  · refine e_iconst (v := 0) i_World_bareHandsOf_107 (by decide) ?_
    refine e_iconst (v := 2) i_World_bareHandsOf_108 (by decide) ?_
    refine e_iload_n i_World_bareHandsOf_109 rfl ?_
    refine e_isub i_World_bareHandsOf_110 ?_
    refine e_callI (as := [.int 0, .int ((2 : Int32) - n2)]) (st' := []) i_World_bareHandsOf_111 lm_318 (Or.inl ⟨rfl, rfl⟩) w_Math_max_II rfl rfl rfl (Nat.le_of_ble_eq_true rfl) (Nat.le_of_ble_eq_true rfl) (m_rlt (q_Math_max_II _) (Nat.lt_of_lt_of_le (by decide) hρ)) rfl (fun v111 s111 => ?_)
    exact e_iretI i_World_bareHandsOf_114 rfl
  · refine e_iload_n i_World_bareHandsOf_10 rfl ?_
    refine e_aload_n i_World_bareHandsOf_11 rfl ?_
    refine e_getR i_World_bareHandsOf_12 lf_36 (by decide) ft_9_0 (fun v12 => ?_)
    refine e_bipush (v := 25) i_World_bareHandsOf_15 (by decide) ?_
    refine e_iald i_World_bareHandsOf_17 (fun v17 => ?_)
    refine e_icmpge (t := 107) i_World_bareHandsOf_18 (by decide) ?_ ?_
    · refine e_iconst (v := 0) i_World_bareHandsOf_107 (by decide) ?_
      refine e_iconst (v := 2) i_World_bareHandsOf_108 (by decide) ?_
      refine e_iload_n i_World_bareHandsOf_109 rfl ?_
      refine e_isub i_World_bareHandsOf_110 ?_
      refine e_callI (as := [.int 0, .int ((2 : Int32) - n2)]) (st' := []) i_World_bareHandsOf_111 lm_318 (Or.inl ⟨rfl, rfl⟩) w_Math_max_II rfl rfl rfl (Nat.le_of_ble_eq_true rfl) (Nat.le_of_ble_eq_true rfl) (m_rlt (q_Math_max_II _) (Nat.lt_of_lt_of_le (by decide) hρ)) rfl (fun v111 s111 => ?_)
      exact e_iretI i_World_bareHandsOf_114 rfl
    · refine e_aload_n i_World_bareHandsOf_21 rfl ?_
      refine e_getR i_World_bareHandsOf_22 lf_36 (by decide) ft_9_0 (fun v22 => ?_)
      refine e_bipush (v := 99) i_World_bareHandsOf_25 (by decide) ?_
      refine e_iload_n i_World_bareHandsOf_27 rfl ?_
      refine e_iadd i_World_bareHandsOf_28 ?_
      refine e_iald i_World_bareHandsOf_29 (fun v29 => ?_)
      refine e_istore (L' := [some (.ref w), some (.int n1), some (.int n2), some (.int n3), some (.int v29), d5, d6]) i_World_bareHandsOf_30 (of_decide_eq_true rfl) rfl ?_
      refine e_iload i_World_bareHandsOf_32 rfl ?_
      refine e_ifeq (t := 43) i_World_bareHandsOf_34 (by decide) ?_ ?_
      · refine e_aload_n i_World_bareHandsOf_43 rfl ?_
        refine e_getR i_World_bareHandsOf_44 lf_36 (by decide) ft_9_0 (fun v44 => ?_)
        refine e_bipush (v := 27) i_World_bareHandsOf_47 (by decide) ?_
        refine e_iload_n i_World_bareHandsOf_49 rfl ?_
        refine e_iadd i_World_bareHandsOf_50 ?_
        refine e_iald i_World_bareHandsOf_51 (fun v51 => ?_)
        refine e_iload_n i_World_bareHandsOf_52 rfl ?_
        refine e_icmpne (t := 60) i_World_bareHandsOf_53 (by decide) ?_ ?_
        · refine e_iconst (v := 0) i_World_bareHandsOf_60 (by decide) ?_
          exact rfl
        · refine e_iconst (v := 1) i_World_bareHandsOf_56 (by decide) ?_
          refine e_goto (t := 61) i_World_bareHandsOf_57 (by decide) ?_
          exact rfl
      · refine e_iload i_World_bareHandsOf_37 rfl ?_
        refine e_iconst (v := 3) i_World_bareHandsOf_39 (by decide) ?_
        refine e_icmpne (t := 60) i_World_bareHandsOf_40 (by decide) ?_ ?_
        · refine e_iconst (v := 0) i_World_bareHandsOf_60 (by decide) ?_
          exact rfl
        · refine e_aload_n i_World_bareHandsOf_43 rfl ?_
          refine e_getR i_World_bareHandsOf_44 lf_36 (by decide) ft_9_0 (fun v44 => ?_)
          refine e_bipush (v := 27) i_World_bareHandsOf_47 (by decide) ?_
          refine e_iload_n i_World_bareHandsOf_49 rfl ?_
          refine e_iadd i_World_bareHandsOf_50 ?_
          refine e_iald i_World_bareHandsOf_51 (fun v51 => ?_)
          refine e_iload_n i_World_bareHandsOf_52 rfl ?_
          refine e_icmpne (t := 60) i_World_bareHandsOf_53 (by decide) ?_ ?_
          · refine e_iconst (v := 0) i_World_bareHandsOf_60 (by decide) ?_
            exact rfl
          · refine e_iconst (v := 1) i_World_bareHandsOf_56 (by decide) ?_
            refine e_goto (t := 61) i_World_bareHandsOf_57 (by decide) ?_
            exact rfl
set_option maxRecDepth 20000 in
set_option maxHeartbeats 1000000 in
theorem E_World_bareHandsOf_61 (x : m_X) (ρ : Nat) (hρ : 2 ≤ ρ) (s : m_H) (w : Nat) (n1 : Int32) (n2 : Int32) (n3 : Int32) (n4 : Int32) (d5 : Option Value) (d6 : Option Value) (nt0 : Int32) (hd5 : m_nl d5 = true) (hd6 : m_nl d6 = true) : m_D x ρ k_World_bareHandsOf 61 [some (.ref w), some (.int n1), some (.int n2), some (.int n3), some (.int n4), d5, d6] [.int nt0] s = if n4 = 0 then ((m_fR s 9 0 w).bind fun v69 => (m_ia x s v69 ((39 : Int32) + n3)).bind fun v76 => if v76 = n1 then (if nt0 = 0 then (m_D x ρ k_World_bareHandsOf 4 [some (.ref w), some (.int n1), some (.int (n2 + (1 : Int32))), some (.int (n3 + (1 : Int32))), some (.int n4), some (.int nt0), some (.int 1)] [] s) else m_D x ρ k_World_bareHandsOf 4 [some (.ref w), some (.int n1), some (.int (n2 + (1 : Int32))), some (.int (n3 + (1 : Int32))), some (.int n4), some (.int nt0), some (.int 1)] [] s) else m_D x ρ k_World_bareHandsOf 85 [some (.ref w), some (.int n1), some (.int n2), some (.int n3), some (.int n4), some (.int nt0), d6] [] s) else m_D x ρ k_World_bareHandsOf 85 [some (.ref w), some (.int n1), some (.int n2), some (.int n3), some (.int n4), some (.int nt0), d6] [] s := by
  refine e_istore (L' := [some (.ref w), some (.int n1), some (.int n2), some (.int n3), some (.int n4), some (.int nt0), d6]) i_World_bareHandsOf_61 (of_decide_eq_true rfl) rfl ?_
  refine e_iload i_World_bareHandsOf_63 rfl ?_
  refine e_ifne (t := 85) i_World_bareHandsOf_65 (by decide) ?_ ?_
  · exact rfl
  · refine e_aload_n i_World_bareHandsOf_68 rfl ?_
    refine e_getR i_World_bareHandsOf_69 lf_36 (by decide) ft_9_0 (fun v69 => ?_)
    refine e_bipush (v := 39) i_World_bareHandsOf_72 (by decide) ?_
    refine e_iload_n i_World_bareHandsOf_74 rfl ?_
    refine e_iadd i_World_bareHandsOf_75 ?_
    refine e_iald i_World_bareHandsOf_76 (fun v76 => ?_)
    refine e_iload_n i_World_bareHandsOf_77 rfl ?_
    refine e_icmpne (t := 85) i_World_bareHandsOf_78 (by decide) ?_ ?_
    · exact rfl
    · refine e_iconst (v := 1) i_World_bareHandsOf_81 (by decide) ?_
      refine e_goto (t := 86) i_World_bareHandsOf_82 (by decide) ?_
      refine e_istore (L' := [some (.ref w), some (.int n1), some (.int n2), some (.int n3), some (.int n4), some (.int nt0), some (.int 1)]) i_World_bareHandsOf_86 (of_decide_eq_true rfl) rfl ?_
      refine e_iload i_World_bareHandsOf_88 rfl ?_
      refine e_ifne (t := 98) i_World_bareHandsOf_90 (by decide) ?_ ?_
      · refine e_iinc (w := 1) (L' := [some (.ref w), some (.int n1), some (.int (n2 + (1 : Int32))), some (.int n3), some (.int n4), some (.int nt0), some (.int 1)]) i_World_bareHandsOf_98 rfl (of_decide_eq_true rfl) (by decide) rfl ?_
        refine e_iinc (w := 1) (L' := [some (.ref w), some (.int n1), some (.int (n2 + (1 : Int32))), some (.int (n3 + (1 : Int32))), some (.int n4), some (.int nt0), some (.int 1)]) i_World_bareHandsOf_101 rfl (of_decide_eq_true rfl) (by decide) rfl ?_
        refine e_goto (t := 4) i_World_bareHandsOf_104 (by decide) ?_
        exact rfl
      · refine e_iload i_World_bareHandsOf_93 rfl ?_
        refine e_ifF i_World_bareHandsOf_95 (by decide) ?_
        refine e_iinc (w := 1) (L' := [some (.ref w), some (.int n1), some (.int (n2 + (1 : Int32))), some (.int n3), some (.int n4), some (.int nt0), some (.int 1)]) i_World_bareHandsOf_98 rfl (of_decide_eq_true rfl) (by decide) rfl ?_
        refine e_iinc (w := 1) (L' := [some (.ref w), some (.int n1), some (.int (n2 + (1 : Int32))), some (.int (n3 + (1 : Int32))), some (.int n4), some (.int nt0), some (.int 1)]) i_World_bareHandsOf_101 rfl (of_decide_eq_true rfl) (by decide) rfl ?_
        refine e_goto (t := 4) i_World_bareHandsOf_104 (by decide) ?_
        exact rfl
set_option maxRecDepth 20000 in
set_option maxHeartbeats 1000000 in
theorem E_World_bareHandsOf_85 (x : m_X) (ρ : Nat) (hρ : 2 ≤ ρ) (s : m_H) (w : Nat) (n1 : Int32) (n2 : Int32) (n3 : Int32) (n4 : Int32) (n5 : Int32) (d6 : Option Value) (hd6 : m_nl d6 = true) : m_D x ρ k_World_bareHandsOf 85 [some (.ref w), some (.int n1), some (.int n2), some (.int n3), some (.int n4), some (.int n5), d6] [] s = if n5 = 0 then (m_D x ρ k_World_bareHandsOf 4 [some (.ref w), some (.int n1), some (.int n2), some (.int (n3 + (1 : Int32))), some (.int n4), some (.int n5), some (.int 0)] [] s) else m_D x ρ k_World_bareHandsOf 4 [some (.ref w), some (.int n1), some (.int (n2 + (1 : Int32))), some (.int (n3 + (1 : Int32))), some (.int n4), some (.int n5), some (.int 0)] [] s := by
  refine e_iconst (v := 0) i_World_bareHandsOf_85 (by decide) ?_
  refine e_istore (L' := [some (.ref w), some (.int n1), some (.int n2), some (.int n3), some (.int n4), some (.int n5), some (.int 0)]) i_World_bareHandsOf_86 (of_decide_eq_true rfl) rfl ?_
  refine e_iload i_World_bareHandsOf_88 rfl ?_
  refine e_ifne (t := 98) i_World_bareHandsOf_90 (by decide) ?_ ?_
  · refine e_iinc (w := 1) (L' := [some (.ref w), some (.int n1), some (.int (n2 + (1 : Int32))), some (.int n3), some (.int n4), some (.int n5), some (.int 0)]) i_World_bareHandsOf_98 rfl (of_decide_eq_true rfl) (by decide) rfl ?_
    refine e_iinc (w := 1) (L' := [some (.ref w), some (.int n1), some (.int (n2 + (1 : Int32))), some (.int (n3 + (1 : Int32))), some (.int n4), some (.int n5), some (.int 0)]) i_World_bareHandsOf_101 rfl (of_decide_eq_true rfl) (by decide) rfl ?_
    refine e_goto (t := 4) i_World_bareHandsOf_104 (by decide) ?_
    exact rfl
  · refine e_iload i_World_bareHandsOf_93 rfl ?_
    refine e_ifT (t := 101) i_World_bareHandsOf_95 (by decide) (by decide) ?_
    refine e_iinc (w := 1) (L' := [some (.ref w), some (.int n1), some (.int n2), some (.int (n3 + (1 : Int32))), some (.int n4), some (.int n5), some (.int 0)]) i_World_bareHandsOf_101 rfl (of_decide_eq_true rfl) (by decide) rfl ?_
    refine e_goto (t := 4) i_World_bareHandsOf_104 (by decide) ?_
    exact rfl
theorem i_World_pickUp_0 : m_at k_World_pickUp 0 = some (.aload_n 0, 1, 0) := m_at_of r_World_pickUp (by decide +kernel)
theorem i_World_pickUp_1 : m_at k_World_pickUp 1 = some (.iload_n 1, 1, 0) := m_at_of r_World_pickUp (by decide +kernel)
theorem i_World_pickUp_2 : m_at k_World_pickUp 2 = some (.iconst 2, 1, 0) := m_at_of r_World_pickUp (by decide +kernel)
theorem i_World_pickUp_3 : m_at k_World_pickUp 3 = some (.invokevirtual 29, 3, 127) := m_at_of r_World_pickUp (by decide +kernel)
theorem i_World_pickUp_6 : m_at k_World_pickUp 6 = some (.ifCond .eq (22), 3, 0) := m_at_of r_World_pickUp (by decide +kernel)
theorem i_World_pickUp_9 : m_at k_World_pickUp 9 = some (.aload_n 0, 1, 0) := m_at_of r_World_pickUp (by decide +kernel)
theorem i_World_pickUp_10 : m_at k_World_pickUp 10 = some (.iload_n 2, 1, 0) := m_at_of r_World_pickUp (by decide +kernel)
theorem i_World_pickUp_11 : m_at k_World_pickUp 11 = some (.invokevirtual 41, 3, 191) := m_at_of r_World_pickUp (by decide +kernel)
theorem i_World_pickUp_14 : m_at k_World_pickUp 14 = some (.ifCond .eq (14), 3, 0) := m_at_of r_World_pickUp (by decide +kernel)
theorem i_World_pickUp_17 : m_at k_World_pickUp 17 = some (.iload_n 2, 1, 0) := m_at_of r_World_pickUp (by decide +kernel)
theorem i_World_pickUp_18 : m_at k_World_pickUp 18 = some (.aload_n 0, 1, 0) := m_at_of r_World_pickUp (by decide +kernel)
theorem i_World_pickUp_19 : m_at k_World_pickUp 19 = some (.bipush 27, 2, 0) := m_at_of r_World_pickUp (by decide +kernel)
theorem i_World_pickUp_21 : m_at k_World_pickUp 21 = some (.iload_n 1, 1, 0) := m_at_of r_World_pickUp (by decide +kernel)
theorem i_World_pickUp_22 : m_at k_World_pickUp 22 = some (.invokevirtual 25, 3, 109) := m_at_of r_World_pickUp (by decide +kernel)
theorem i_World_pickUp_25 : m_at k_World_pickUp 25 = some (.if_icmp .ne (5), 3, 0) := m_at_of r_World_pickUp (by decide +kernel)
theorem i_World_pickUp_28 : m_at k_World_pickUp 28 = some (.iconst 0, 1, 0) := m_at_of r_World_pickUp (by decide +kernel)
theorem i_World_pickUp_29 : m_at k_World_pickUp 29 = some (.ireturn, 1, 0) := m_at_of r_World_pickUp (by decide +kernel)
theorem i_World_pickUp_30 : m_at k_World_pickUp 30 = some (.aload_n 0, 1, 0) := m_at_of r_World_pickUp (by decide +kernel)
theorem i_World_pickUp_31 : m_at k_World_pickUp 31 = some (.bipush 39, 2, 0) := m_at_of r_World_pickUp (by decide +kernel)
theorem i_World_pickUp_33 : m_at k_World_pickUp 33 = some (.iload_n 1, 1, 0) := m_at_of r_World_pickUp (by decide +kernel)
theorem i_World_pickUp_34 : m_at k_World_pickUp 34 = some (.iload_n 2, 1, 0) := m_at_of r_World_pickUp (by decide +kernel)
theorem i_World_pickUp_35 : m_at k_World_pickUp 35 = some (.invokevirtual 37, 3, 286) := m_at_of r_World_pickUp (by decide +kernel)
theorem i_World_pickUp_38 : m_at k_World_pickUp 38 = some (.aload_n 0, 1, 0) := m_at_of r_World_pickUp (by decide +kernel)
theorem i_World_pickUp_39 : m_at k_World_pickUp 39 = some (.bipush 99, 2, 0) := m_at_of r_World_pickUp (by decide +kernel)
theorem i_World_pickUp_41 : m_at k_World_pickUp 41 = some (.iload_n 1, 1, 0) := m_at_of r_World_pickUp (by decide +kernel)
theorem i_World_pickUp_42 : m_at k_World_pickUp 42 = some (.iconst 0, 1, 0) := m_at_of r_World_pickUp (by decide +kernel)
theorem i_World_pickUp_43 : m_at k_World_pickUp 43 = some (.invokevirtual 37, 3, 286) := m_at_of r_World_pickUp (by decide +kernel)
theorem i_World_pickUp_46 : m_at k_World_pickUp 46 = some (.iconst 1, 1, 0) := m_at_of r_World_pickUp (by decide +kernel)
theorem i_World_pickUp_47 : m_at k_World_pickUp 47 = some (.ireturn, 1, 0) := m_at_of r_World_pickUp (by decide +kernel)
set_option maxRecDepth 20000 in
set_option maxHeartbeats 1000000 in
theorem E_World_pickUp (x : m_X) (s : m_H) (w : Nat) (n1 : Int32) (n2 : Int32) : m_M x k_World_pickUp [.ref w, .int n1, .int n2] s = if m_isO s w 9 = true then (m_bI (m_M x k_World_isHow [.ref w, .int n1, .int 2] s) fun v3 s3 => if v3 = 0 then (some (some (.int 0), s3)) else m_bI (m_M x k_World_hasOne [.ref w, .int n2] s3) fun v11 s11 => if v11 = 0 then (some (some (.int 0), s11)) else m_bI (m_M x k_World_at [.ref w, .int 27, .int n1] s11) fun v22 s22 => if n2 = v22 then (some (some (.int 0), s22)) else m_bV (m_M x k_World_change [.ref w, .int 39, .int n1, .int n2] s22) fun s35 => m_bV (m_M x k_World_change [.ref w, .int 99, .int n1, .int 0] s35) fun s43 => some (some (.int 1), s43)) else none := by
  refine e_M1 (L0 := [some (.ref w), some (.int n1), some (.int n2)]) rfl (by decide +kernel) rfl (q_World_pickUp _) rfl ?_
  refine e_aload_n i_World_pickUp_0 rfl ?_
  refine e_iload_n i_World_pickUp_1 rfl ?_
  refine e_iconst (v := 2) i_World_pickUp_2 (by decide) ?_
  refine e_callI (as := [.ref w, .int n1, .int 2]) (st' := []) i_World_pickUp_3 lm_127 (Or.inr (Or.inl ⟨rfl, rfl⟩)) w_World_isHow rfl rfl rfl (Nat.le_of_ble_eq_true rfl) (Nat.le_of_ble_eq_true rfl) (m_rlt (q_World_isHow _) (by decide)) rfl (fun v3 s3 => ?_)
  refine e_ifeq (t := 28) i_World_pickUp_6 (by decide) ?_ ?_
  · refine e_iconst (v := 0) i_World_pickUp_28 (by decide) ?_
    exact e_iretZ i_World_pickUp_29 rfl (by decide)
  · refine e_aload_n i_World_pickUp_9 rfl ?_
    refine e_iload_n i_World_pickUp_10 rfl ?_
    refine e_callI (as := [.ref w, .int n2]) (st' := []) i_World_pickUp_11 lm_191 (Or.inr (Or.inl ⟨rfl, rfl⟩)) w_World_hasOne rfl rfl rfl (Nat.le_of_ble_eq_true rfl) (Nat.le_of_ble_eq_true rfl) (m_rlt (q_World_hasOne _) (by decide)) rfl (fun v11 s11 => ?_)
    refine e_ifeq (t := 28) i_World_pickUp_14 (by decide) ?_ ?_
    · refine e_iconst (v := 0) i_World_pickUp_28 (by decide) ?_
      exact e_iretZ i_World_pickUp_29 rfl (by decide)
    · refine e_iload_n i_World_pickUp_17 rfl ?_
      refine e_aload_n i_World_pickUp_18 rfl ?_
      refine e_bipush (v := 27) i_World_pickUp_19 (by decide) ?_
      refine e_iload_n i_World_pickUp_21 rfl ?_
      refine e_callI (as := [.ref w, .int 27, .int n1]) (st' := [.int n2]) i_World_pickUp_22 lm_109 (Or.inr (Or.inl ⟨rfl, rfl⟩)) w_World_at rfl rfl rfl (Nat.le_of_ble_eq_true rfl) (Nat.le_of_ble_eq_true rfl) (m_rlt (q_World_at _) (by decide)) rfl (fun v22 s22 => ?_)
      refine e_icmpne (t := 30) i_World_pickUp_25 (by decide) ?_ ?_
      · refine e_aload_n i_World_pickUp_30 rfl ?_
        refine e_bipush (v := 39) i_World_pickUp_31 (by decide) ?_
        refine e_iload_n i_World_pickUp_33 rfl ?_
        refine e_iload_n i_World_pickUp_34 rfl ?_
        refine e_callV (as := [.ref w, .int 39, .int n1, .int n2]) (st' := []) i_World_pickUp_35 lm_286 (Or.inr (Or.inl ⟨rfl, rfl⟩)) w_World_change rfl rfl rfl (Nat.le_of_ble_eq_true rfl) (Nat.le_of_ble_eq_true rfl) (m_rlt (q_World_change _) (by decide)) rfl (fun s35 => ?_)
        refine e_aload_n i_World_pickUp_38 rfl ?_
        refine e_bipush (v := 99) i_World_pickUp_39 (by decide) ?_
        refine e_iload_n i_World_pickUp_41 rfl ?_
        refine e_iconst (v := 0) i_World_pickUp_42 (by decide) ?_
        refine e_callV (as := [.ref w, .int 99, .int n1, .int 0]) (st' := []) i_World_pickUp_43 lm_286 (Or.inr (Or.inl ⟨rfl, rfl⟩)) w_World_change rfl rfl rfl (Nat.le_of_ble_eq_true rfl) (Nat.le_of_ble_eq_true rfl) (m_rlt (q_World_change _) (by decide)) rfl (fun s43 => ?_)
        refine e_iconst (v := 1) i_World_pickUp_46 (by decide) ?_
        exact e_iretZ i_World_pickUp_47 rfl (by decide)
      · refine e_iconst (v := 0) i_World_pickUp_28 (by decide) ?_
        exact e_iretZ i_World_pickUp_29 rfl (by decide)
theorem i_World_drop_0 : m_at k_World_drop 0 = some (.aload_n 0, 1, 0) := m_at_of r_World_drop (by decide +kernel)
theorem i_World_drop_1 : m_at k_World_drop 1 = some (.iload_n 1, 1, 0) := m_at_of r_World_drop (by decide +kernel)
theorem i_World_drop_2 : m_at k_World_drop 2 = some (.iconst 0, 1, 0) := m_at_of r_World_drop (by decide +kernel)
theorem i_World_drop_3 : m_at k_World_drop 3 = some (.invokevirtual 29, 3, 127) := m_at_of r_World_drop (by decide +kernel)
theorem i_World_drop_6 : m_at k_World_drop 6 = some (.ifCond .ne (5), 3, 0) := m_at_of r_World_drop (by decide +kernel)
theorem i_World_drop_9 : m_at k_World_drop 9 = some (.iconst 0, 1, 0) := m_at_of r_World_drop (by decide +kernel)
theorem i_World_drop_10 : m_at k_World_drop 10 = some (.ireturn, 1, 0) := m_at_of r_World_drop (by decide +kernel)
theorem i_World_drop_11 : m_at k_World_drop 11 = some (.aload_n 0, 1, 0) := m_at_of r_World_drop (by decide +kernel)
theorem i_World_drop_12 : m_at k_World_drop 12 = some (.bipush 99, 2, 0) := m_at_of r_World_drop (by decide +kernel)
theorem i_World_drop_14 : m_at k_World_drop 14 = some (.iload_n 1, 1, 0) := m_at_of r_World_drop (by decide +kernel)
theorem i_World_drop_15 : m_at k_World_drop 15 = some (.iconst 2, 1, 0) := m_at_of r_World_drop (by decide +kernel)
theorem i_World_drop_16 : m_at k_World_drop 16 = some (.invokevirtual 37, 3, 286) := m_at_of r_World_drop (by decide +kernel)
theorem i_World_drop_19 : m_at k_World_drop 19 = some (.iconst 1, 1, 0) := m_at_of r_World_drop (by decide +kernel)
theorem i_World_drop_20 : m_at k_World_drop 20 = some (.ireturn, 1, 0) := m_at_of r_World_drop (by decide +kernel)
set_option maxRecDepth 20000 in
set_option maxHeartbeats 1000000 in
theorem E_World_drop (x : m_X) (s : m_H) (w : Nat) (n1 : Int32) : m_M x k_World_drop [.ref w, .int n1] s = if m_isO s w 9 = true then (m_bI (m_M x k_World_isHow [.ref w, .int n1, .int 0] s) fun v3 s3 => if v3 = 0 then (some (some (.int 0), s3)) else m_bV (m_M x k_World_change [.ref w, .int 99, .int n1, .int 2] s3) fun s16 => some (some (.int 1), s16)) else none := by
  refine e_M1 (L0 := [some (.ref w), some (.int n1)]) rfl (by decide +kernel) rfl (q_World_drop _) rfl ?_
  refine e_aload_n i_World_drop_0 rfl ?_
  refine e_iload_n i_World_drop_1 rfl ?_
  refine e_iconst (v := 0) i_World_drop_2 (by decide) ?_
  refine e_callI (as := [.ref w, .int n1, .int 0]) (st' := []) i_World_drop_3 lm_127 (Or.inr (Or.inl ⟨rfl, rfl⟩)) w_World_isHow rfl rfl rfl (Nat.le_of_ble_eq_true rfl) (Nat.le_of_ble_eq_true rfl) (m_rlt (q_World_isHow _) (by decide)) rfl (fun v3 s3 => ?_)
  refine e_ifne (t := 11) i_World_drop_6 (by decide) ?_ ?_
  · refine e_aload_n i_World_drop_11 rfl ?_
    refine e_bipush (v := 99) i_World_drop_12 (by decide) ?_
    refine e_iload_n i_World_drop_14 rfl ?_
    refine e_iconst (v := 2) i_World_drop_15 (by decide) ?_
    refine e_callV (as := [.ref w, .int 99, .int n1, .int 2]) (st' := []) i_World_drop_16 lm_286 (Or.inr (Or.inl ⟨rfl, rfl⟩)) w_World_change rfl rfl rfl (Nat.le_of_ble_eq_true rfl) (Nat.le_of_ble_eq_true rfl) (m_rlt (q_World_change _) (by decide)) rfl (fun s16 => ?_)
    refine e_iconst (v := 1) i_World_drop_19 (by decide) ?_
    exact e_iretZ i_World_drop_20 rfl (by decide)
  · refine e_iconst (v := 0) i_World_drop_9 (by decide) ?_
    exact e_iretZ i_World_drop_10 rfl (by decide)
theorem i_World_handOn_0 : m_at k_World_handOn 0 = some (.iload_n 2, 1, 0) := m_at_of r_World_handOn (by decide +kernel)
theorem i_World_handOn_1 : m_at k_World_handOn 1 = some (.aload_n 0, 1, 0) := m_at_of r_World_handOn (by decide +kernel)
theorem i_World_handOn_2 : m_at k_World_handOn 2 = some (.bipush 27, 2, 0) := m_at_of r_World_handOn (by decide +kernel)
theorem i_World_handOn_4 : m_at k_World_handOn 4 = some (.iload_n 1, 1, 0) := m_at_of r_World_handOn (by decide +kernel)
theorem i_World_handOn_5 : m_at k_World_handOn 5 = some (.invokevirtual 25, 3, 109) := m_at_of r_World_handOn (by decide +kernel)
theorem i_World_handOn_8 : m_at k_World_handOn 8 = some (.if_icmp .eq (18), 3, 0) := m_at_of r_World_handOn (by decide +kernel)
theorem i_World_handOn_11 : m_at k_World_handOn 11 = some (.iload_n 2, 1, 0) := m_at_of r_World_handOn (by decide +kernel)
theorem i_World_handOn_12 : m_at k_World_handOn 12 = some (.aload_n 0, 1, 0) := m_at_of r_World_handOn (by decide +kernel)
theorem i_World_handOn_13 : m_at k_World_handOn 13 = some (.bipush 39, 2, 0) := m_at_of r_World_handOn (by decide +kernel)
theorem i_World_handOn_15 : m_at k_World_handOn 15 = some (.iload_n 1, 1, 0) := m_at_of r_World_handOn (by decide +kernel)
theorem i_World_handOn_16 : m_at k_World_handOn 16 = some (.invokevirtual 25, 3, 109) := m_at_of r_World_handOn (by decide +kernel)
theorem i_World_handOn_19 : m_at k_World_handOn 19 = some (.if_icmp .eq (7), 3, 0) := m_at_of r_World_handOn (by decide +kernel)
theorem i_World_handOn_22 : m_at k_World_handOn 22 = some (.iconst 1, 1, 0) := m_at_of r_World_handOn (by decide +kernel)
theorem i_World_handOn_23 : m_at k_World_handOn 23 = some (.goto (4), 3, 0) := m_at_of r_World_handOn (by decide +kernel)
theorem i_World_handOn_26 : m_at k_World_handOn 26 = some (.iconst 0, 1, 0) := m_at_of r_World_handOn (by decide +kernel)
theorem i_World_handOn_27 : m_at k_World_handOn 27 = some (.istore_n 3, 1, 0) := m_at_of r_World_handOn (by decide +kernel)
theorem i_World_handOn_28 : m_at k_World_handOn 28 = some (.aload_n 0, 1, 0) := m_at_of r_World_handOn (by decide +kernel)
theorem i_World_handOn_29 : m_at k_World_handOn 29 = some (.iload_n 1, 1, 0) := m_at_of r_World_handOn (by decide +kernel)
theorem i_World_handOn_30 : m_at k_World_handOn 30 = some (.iconst 0, 1, 0) := m_at_of r_World_handOn (by decide +kernel)
theorem i_World_handOn_31 : m_at k_World_handOn 31 = some (.invokevirtual 29, 3, 127) := m_at_of r_World_handOn (by decide +kernel)
theorem i_World_handOn_34 : m_at k_World_handOn 34 = some (.ifCond .eq (15), 3, 0) := m_at_of r_World_handOn (by decide +kernel)
theorem i_World_handOn_37 : m_at k_World_handOn 37 = some (.aload_n 0, 1, 0) := m_at_of r_World_handOn (by decide +kernel)
theorem i_World_handOn_38 : m_at k_World_handOn 38 = some (.iload_n 2, 1, 0) := m_at_of r_World_handOn (by decide +kernel)
theorem i_World_handOn_39 : m_at k_World_handOn 39 = some (.invokevirtual 41, 3, 191) := m_at_of r_World_handOn (by decide +kernel)
theorem i_World_handOn_42 : m_at k_World_handOn 42 = some (.ifCond .eq (7), 3, 0) := m_at_of r_World_handOn (by decide +kernel)
theorem i_World_handOn_45 : m_at k_World_handOn 45 = some (.iload_n 3, 1, 0) := m_at_of r_World_handOn (by decide +kernel)
theorem i_World_handOn_46 : m_at k_World_handOn 46 = some (.ifCond .ne (5), 3, 0) := m_at_of r_World_handOn (by decide +kernel)
theorem i_World_handOn_49 : m_at k_World_handOn 49 = some (.iconst 0, 1, 0) := m_at_of r_World_handOn (by decide +kernel)
theorem i_World_handOn_50 : m_at k_World_handOn 50 = some (.ireturn, 1, 0) := m_at_of r_World_handOn (by decide +kernel)
theorem i_World_handOn_51 : m_at k_World_handOn 51 = some (.aload_n 0, 1, 0) := m_at_of r_World_handOn (by decide +kernel)
theorem i_World_handOn_52 : m_at k_World_handOn 52 = some (.bipush 39, 2, 0) := m_at_of r_World_handOn (by decide +kernel)
theorem i_World_handOn_54 : m_at k_World_handOn 54 = some (.iload_n 1, 1, 0) := m_at_of r_World_handOn (by decide +kernel)
theorem i_World_handOn_55 : m_at k_World_handOn 55 = some (.iload_n 2, 1, 0) := m_at_of r_World_handOn (by decide +kernel)
theorem i_World_handOn_56 : m_at k_World_handOn 56 = some (.invokevirtual 37, 3, 286) := m_at_of r_World_handOn (by decide +kernel)
theorem i_World_handOn_59 : m_at k_World_handOn 59 = some (.iconst 1, 1, 0) := m_at_of r_World_handOn (by decide +kernel)
theorem i_World_handOn_60 : m_at k_World_handOn 60 = some (.ireturn, 1, 0) := m_at_of r_World_handOn (by decide +kernel)
set_option maxRecDepth 20000 in
set_option maxHeartbeats 1000000 in
theorem E_World_handOn (x : m_X) (s : m_H) (w : Nat) (n1 : Int32) (n2 : Int32) : m_M x k_World_handOn [.ref w, .int n1, .int n2] s = if m_isO s w 9 = true then (m_bI (m_M x k_World_at [.ref w, .int 27, .int n1] s) fun v5 s5 => if n2 = v5 then (m_D x 3 k_World_handOn 27 [some (.ref w), some (.int n1), some (.int n2), none] [.int 0] s5) else m_bI (m_M x k_World_at [.ref w, .int 39, .int n1] s5) fun v16 s16 => if n2 = v16 then (m_D x 3 k_World_handOn 27 [some (.ref w), some (.int n1), some (.int n2), none] [.int 0] s16) else m_D x 3 k_World_handOn 27 [some (.ref w), some (.int n1), some (.int n2), none] [.int 1] s16) else none := by
  refine e_M1 (L0 := [some (.ref w), some (.int n1), some (.int n2), none]) rfl (by decide +kernel) rfl (q_World_handOn _) rfl ?_
  refine e_iload_n i_World_handOn_0 rfl ?_
  refine e_aload_n i_World_handOn_1 rfl ?_
  refine e_bipush (v := 27) i_World_handOn_2 (by decide) ?_
  refine e_iload_n i_World_handOn_4 rfl ?_
  refine e_callI (as := [.ref w, .int 27, .int n1]) (st' := [.int n2]) i_World_handOn_5 lm_109 (Or.inr (Or.inl ⟨rfl, rfl⟩)) w_World_at rfl rfl rfl (Nat.le_of_ble_eq_true rfl) (Nat.le_of_ble_eq_true rfl) (m_rlt (q_World_at _) (by decide)) rfl (fun v5 s5 => ?_)
  refine e_icmpeq (t := 26) i_World_handOn_8 (by decide) ?_ ?_
  · refine e_iconst (v := 0) i_World_handOn_26 (by decide) ?_
    exact rfl
  · refine e_iload_n i_World_handOn_11 rfl ?_
    refine e_aload_n i_World_handOn_12 rfl ?_
    refine e_bipush (v := 39) i_World_handOn_13 (by decide) ?_
    refine e_iload_n i_World_handOn_15 rfl ?_
    refine e_callI (as := [.ref w, .int 39, .int n1]) (st' := [.int n2]) i_World_handOn_16 lm_109 (Or.inr (Or.inl ⟨rfl, rfl⟩)) w_World_at rfl rfl rfl (Nat.le_of_ble_eq_true rfl) (Nat.le_of_ble_eq_true rfl) (m_rlt (q_World_at _) (by decide)) rfl (fun v16 s16 => ?_)
    refine e_icmpeq (t := 26) i_World_handOn_19 (by decide) ?_ ?_
    · refine e_iconst (v := 0) i_World_handOn_26 (by decide) ?_
      exact rfl
    · refine e_iconst (v := 1) i_World_handOn_22 (by decide) ?_
      refine e_goto (t := 27) i_World_handOn_23 (by decide) ?_
      exact rfl
set_option maxRecDepth 20000 in
set_option maxHeartbeats 1000000 in
theorem E_World_handOn_27 (x : m_X) (ρ : Nat) (hρ : 3 ≤ ρ) (s : m_H) (w : Nat) (n1 : Int32) (n2 : Int32) (nt0 : Int32)  : m_D x ρ k_World_handOn 27 [some (.ref w), some (.int n1), some (.int n2), none] [.int nt0] s = m_bI (m_M x k_World_isHow [.ref w, .int n1, .int 0] s) fun v31 s31 => if v31 = 0 then (some (some (.int 0), s31)) else m_bI (m_M x k_World_hasOne [.ref w, .int n2] s31) fun v39 s39 => if v39 = 0 then (some (some (.int 0), s39)) else if nt0 = 0 then (some (some (.int 0), s39)) else m_bV (m_M x k_World_change [.ref w, .int 39, .int n1, .int n2] s39) fun s56 => some (some (.int 1), s56) := by
  refine e_istore_n (L' := [some (.ref w), some (.int n1), some (.int n2), some (.int nt0)]) i_World_handOn_27 (of_decide_eq_true rfl) rfl ?_
  refine e_aload_n i_World_handOn_28 rfl ?_
  refine e_iload_n i_World_handOn_29 rfl ?_
  refine e_iconst (v := 0) i_World_handOn_30 (by decide) ?_
  refine e_callI (as := [.ref w, .int n1, .int 0]) (st' := []) i_World_handOn_31 lm_127 (Or.inr (Or.inl ⟨rfl, rfl⟩)) w_World_isHow rfl rfl rfl (Nat.le_of_ble_eq_true rfl) (Nat.le_of_ble_eq_true rfl) (m_rlt (q_World_isHow _) (Nat.lt_of_lt_of_le (by decide) hρ)) rfl (fun v31 s31 => ?_)
  refine e_ifeq (t := 49) i_World_handOn_34 (by decide) ?_ ?_
  · refine e_iconst (v := 0) i_World_handOn_49 (by decide) ?_
    exact e_iretZ i_World_handOn_50 rfl (by decide)
  · refine e_aload_n i_World_handOn_37 rfl ?_
    refine e_iload_n i_World_handOn_38 rfl ?_
    refine e_callI (as := [.ref w, .int n2]) (st' := []) i_World_handOn_39 lm_191 (Or.inr (Or.inl ⟨rfl, rfl⟩)) w_World_hasOne rfl rfl rfl (Nat.le_of_ble_eq_true rfl) (Nat.le_of_ble_eq_true rfl) (m_rlt (q_World_hasOne _) (Nat.lt_of_lt_of_le (by decide) hρ)) rfl (fun v39 s39 => ?_)
    refine e_ifeq (t := 49) i_World_handOn_42 (by decide) ?_ ?_
    · refine e_iconst (v := 0) i_World_handOn_49 (by decide) ?_
      exact e_iretZ i_World_handOn_50 rfl (by decide)
    · refine e_iload_n i_World_handOn_45 rfl ?_
      refine e_ifne (t := 51) i_World_handOn_46 (by decide) ?_ ?_
      · refine e_aload_n i_World_handOn_51 rfl ?_
        refine e_bipush (v := 39) i_World_handOn_52 (by decide) ?_
        refine e_iload_n i_World_handOn_54 rfl ?_
        refine e_iload_n i_World_handOn_55 rfl ?_
        refine e_callV (as := [.ref w, .int 39, .int n1, .int n2]) (st' := []) i_World_handOn_56 lm_286 (Or.inr (Or.inl ⟨rfl, rfl⟩)) w_World_change rfl rfl rfl (Nat.le_of_ble_eq_true rfl) (Nat.le_of_ble_eq_true rfl) (m_rlt (q_World_change _) (Nat.lt_of_lt_of_le (by decide) hρ)) rfl (fun s56 => ?_)
        refine e_iconst (v := 1) i_World_handOn_59 (by decide) ?_
        exact e_iretZ i_World_handOn_60 rfl (by decide)
      · refine e_iconst (v := 0) i_World_handOn_49 (by decide) ?_
        exact e_iretZ i_World_handOn_50 rfl (by decide)
theorem i_World_labour_0 : m_at k_World_labour 0 = some (.aload_n 0, 1, 0) := m_at_of r_World_labour (by decide +kernel)
theorem i_World_labour_1 : m_at k_World_labour 1 = some (.iload_n 1, 1, 0) := m_at_of r_World_labour (by decide +kernel)
theorem i_World_labour_2 : m_at k_World_labour 2 = some (.invokevirtual 44, 3, 108) := m_at_of r_World_labour (by decide +kernel)
theorem i_World_labour_5 : m_at k_World_labour 5 = some (.ifCond .eq (13), 3, 0) := m_at_of r_World_labour (by decide +kernel)
theorem i_World_labour_8 : m_at k_World_labour 8 = some (.iload_n 2, 1, 0) := m_at_of r_World_labour (by decide +kernel)
theorem i_World_labour_9 : m_at k_World_labour 9 = some (.iconst 1, 1, 0) := m_at_of r_World_labour (by decide +kernel)
theorem i_World_labour_10 : m_at k_World_labour 10 = some (.bipush 9, 2, 0) := m_at_of r_World_labour (by decide +kernel)
theorem i_World_labour_12 : m_at k_World_labour 12 = some (.invokestatic 33, 3, 322) := m_at_of r_World_labour (by decide +kernel)
theorem i_World_labour_15 : m_at k_World_labour 15 = some (.ifCond .ne (5), 3, 0) := m_at_of r_World_labour (by decide +kernel)
theorem i_World_labour_18 : m_at k_World_labour 18 = some (.iconst (-1), 1, 0) := m_at_of r_World_labour (by decide +kernel)
theorem i_World_labour_19 : m_at k_World_labour 19 = some (.ireturn, 1, 0) := m_at_of r_World_labour (by decide +kernel)
theorem i_World_labour_20 : m_at k_World_labour 20 = some (.iconst 0, 1, 0) := m_at_of r_World_labour (by decide +kernel)
theorem i_World_labour_21 : m_at k_World_labour 21 = some (.aload_n 0, 1, 0) := m_at_of r_World_labour (by decide +kernel)
theorem i_World_labour_22 : m_at k_World_labour 22 = some (.bipush 51, 2, 0) := m_at_of r_World_labour (by decide +kernel)
theorem i_World_labour_24 : m_at k_World_labour 24 = some (.iload_n 1, 1, 0) := m_at_of r_World_labour (by decide +kernel)
theorem i_World_labour_25 : m_at k_World_labour 25 = some (.invokevirtual 25, 3, 109) := m_at_of r_World_labour (by decide +kernel)
theorem i_World_labour_28 : m_at k_World_labour 28 = some (.iload_n 2, 1, 0) := m_at_of r_World_labour (by decide +kernel)
theorem i_World_labour_29 : m_at k_World_labour 29 = some (.isub, 1, 0) := m_at_of r_World_labour (by decide +kernel)
theorem i_World_labour_30 : m_at k_World_labour 30 = some (.invokestatic 47, 3, 318) := m_at_of r_World_labour (by decide +kernel)
theorem i_World_labour_33 : m_at k_World_labour 33 = some (.istore_n 3, 1, 0) := m_at_of r_World_labour (by decide +kernel)
theorem i_World_labour_34 : m_at k_World_labour 34 = some (.aload_n 0, 1, 0) := m_at_of r_World_labour (by decide +kernel)
theorem i_World_labour_35 : m_at k_World_labour 35 = some (.bipush 51, 2, 0) := m_at_of r_World_labour (by decide +kernel)
theorem i_World_labour_37 : m_at k_World_labour 37 = some (.iload_n 1, 1, 0) := m_at_of r_World_labour (by decide +kernel)
theorem i_World_labour_38 : m_at k_World_labour 38 = some (.iload_n 3, 1, 0) := m_at_of r_World_labour (by decide +kernel)
theorem i_World_labour_39 : m_at k_World_labour 39 = some (.invokevirtual 37, 3, 286) := m_at_of r_World_labour (by decide +kernel)
theorem i_World_labour_42 : m_at k_World_labour 42 = some (.iload_n 3, 1, 0) := m_at_of r_World_labour (by decide +kernel)
theorem i_World_labour_43 : m_at k_World_labour 43 = some (.ifCond .ne (11), 3, 0) := m_at_of r_World_labour (by decide +kernel)
theorem i_World_labour_46 : m_at k_World_labour 46 = some (.aload_n 0, 1, 0) := m_at_of r_World_labour (by decide +kernel)
theorem i_World_labour_47 : m_at k_World_labour 47 = some (.bipush 99, 2, 0) := m_at_of r_World_labour (by decide +kernel)
theorem i_World_labour_49 : m_at k_World_labour 49 = some (.iload_n 1, 1, 0) := m_at_of r_World_labour (by decide +kernel)
theorem i_World_labour_50 : m_at k_World_labour 50 = some (.iconst 1, 1, 0) := m_at_of r_World_labour (by decide +kernel)
theorem i_World_labour_51 : m_at k_World_labour 51 = some (.invokevirtual 37, 3, 286) := m_at_of r_World_labour (by decide +kernel)
theorem i_World_labour_54 : m_at k_World_labour 54 = some (.iload_n 3, 1, 0) := m_at_of r_World_labour (by decide +kernel)
theorem i_World_labour_55 : m_at k_World_labour 55 = some (.ireturn, 1, 0) := m_at_of r_World_labour (by decide +kernel)
set_option maxRecDepth 20000 in
set_option maxHeartbeats 1000000 in
theorem E_World_labour (x : m_X) (s : m_H) (w : Nat) (n1 : Int32) (n2 : Int32) : m_M x k_World_labour [.ref w, .int n1, .int n2] s = if m_isO s w 9 = true then (m_bI (m_M x k_World_isOpen [.ref w, .int n1] s) fun v2 s2 => if v2 = 0 then (some (some (.int (-1)), s2)) else m_bI (m_M x k_G_isIn [.int n2, .int 1, .int 9] s2) fun v12 s12 => if v12 = 0 then (some (some (.int (-1)), s12)) else m_bI (m_M x k_World_at [.ref w, .int 51, .int n1] s12) fun v25 s25 => m_bI (m_M x k_Math_max_II [.int 0, .int (v25 - n2)] s25) fun v30 s30 => m_bV (m_M x k_World_change [.ref w, .int 51, .int n1, .int v30] s30) fun s39 => if v30 = 0 then (m_bV (m_M x k_World_change [.ref w, .int 99, .int n1, .int 1] s39) fun s51 => some (some (.int v30), s51)) else some (some (.int v30), s39)) else none := by
  refine e_M1 (L0 := [some (.ref w), some (.int n1), some (.int n2), none]) rfl (by decide +kernel) rfl (q_World_labour _) rfl ?_
  refine e_aload_n i_World_labour_0 rfl ?_
  refine e_iload_n i_World_labour_1 rfl ?_
  refine e_callI (as := [.ref w, .int n1]) (st' := []) i_World_labour_2 lm_108 (Or.inr (Or.inl ⟨rfl, rfl⟩)) w_World_isOpen rfl rfl rfl (Nat.le_of_ble_eq_true rfl) (Nat.le_of_ble_eq_true rfl) (m_rlt (q_World_isOpen _) (by decide)) rfl (fun v2 s2 => ?_)
  refine e_ifeq (t := 18) i_World_labour_5 (by decide) ?_ ?_
  · refine e_iconst (v := (-1)) i_World_labour_18 (by decide) ?_
    exact e_iretI i_World_labour_19 rfl
  · refine e_iload_n i_World_labour_8 rfl ?_
    refine e_iconst (v := 1) i_World_labour_9 (by decide) ?_
    refine e_bipush (v := 9) i_World_labour_10 (by decide) ?_
    refine e_callI (as := [.int n2, .int 1, .int 9]) (st' := []) i_World_labour_12 lm_322 (Or.inl ⟨rfl, rfl⟩) w_G_isIn rfl rfl rfl (Nat.le_of_ble_eq_true rfl) (Nat.le_of_ble_eq_true rfl) (m_rlt (q_G_isIn _) (by decide)) rfl (fun v12 s12 => ?_)
    refine e_ifne (t := 20) i_World_labour_15 (by decide) ?_ ?_
    · refine e_iconst (v := 0) i_World_labour_20 (by decide) ?_
      refine e_aload_n i_World_labour_21 rfl ?_
      refine e_bipush (v := 51) i_World_labour_22 (by decide) ?_
      refine e_iload_n i_World_labour_24 rfl ?_
      refine e_callI (as := [.ref w, .int 51, .int n1]) (st' := [.int 0]) i_World_labour_25 lm_109 (Or.inr (Or.inl ⟨rfl, rfl⟩)) w_World_at rfl rfl rfl (Nat.le_of_ble_eq_true rfl) (Nat.le_of_ble_eq_true rfl) (m_rlt (q_World_at _) (by decide)) rfl (fun v25 s25 => ?_)
      refine e_iload_n i_World_labour_28 rfl ?_
      refine e_isub i_World_labour_29 ?_
      refine e_callI (as := [.int 0, .int (v25 - n2)]) (st' := []) i_World_labour_30 lm_318 (Or.inl ⟨rfl, rfl⟩) w_Math_max_II rfl rfl rfl (Nat.le_of_ble_eq_true rfl) (Nat.le_of_ble_eq_true rfl) (m_rlt (q_Math_max_II _) (by decide)) rfl (fun v30 s30 => ?_)
      refine e_istore_n (L' := [some (.ref w), some (.int n1), some (.int n2), some (.int v30)]) i_World_labour_33 (of_decide_eq_true rfl) rfl ?_
      refine e_aload_n i_World_labour_34 rfl ?_
      refine e_bipush (v := 51) i_World_labour_35 (by decide) ?_
      refine e_iload_n i_World_labour_37 rfl ?_
      refine e_iload_n i_World_labour_38 rfl ?_
      refine e_callV (as := [.ref w, .int 51, .int n1, .int v30]) (st' := []) i_World_labour_39 lm_286 (Or.inr (Or.inl ⟨rfl, rfl⟩)) w_World_change rfl rfl rfl (Nat.le_of_ble_eq_true rfl) (Nat.le_of_ble_eq_true rfl) (m_rlt (q_World_change _) (by decide)) rfl (fun s39 => ?_)
      refine e_iload_n i_World_labour_42 rfl ?_
      refine e_ifne (t := 54) i_World_labour_43 (by decide) ?_ ?_
      · refine e_iload_n i_World_labour_54 rfl ?_
        exact e_iretI i_World_labour_55 rfl
      · refine e_aload_n i_World_labour_46 rfl ?_
        refine e_bipush (v := 99) i_World_labour_47 (by decide) ?_
        refine e_iload_n i_World_labour_49 rfl ?_
        refine e_iconst (v := 1) i_World_labour_50 (by decide) ?_
        refine e_callV (as := [.ref w, .int 99, .int n1, .int 1]) (st' := []) i_World_labour_51 lm_286 (Or.inr (Or.inl ⟨rfl, rfl⟩)) w_World_change rfl rfl rfl (Nat.le_of_ble_eq_true rfl) (Nat.le_of_ble_eq_true rfl) (m_rlt (q_World_change _) (by decide)) rfl (fun s51 => ?_)
        refine e_iload_n i_World_labour_54 rfl ?_
        exact e_iretI i_World_labour_55 rfl
    · refine e_iconst (v := (-1)) i_World_labour_18 (by decide) ?_
      exact e_iretI i_World_labour_19 rfl
theorem i_World_isOpen_0 : m_at k_World_isOpen 0 = some (.aload_n 0, 1, 0) := m_at_of r_World_isOpen (by decide +kernel)
theorem i_World_isOpen_1 : m_at k_World_isOpen 1 = some (.iload_n 1, 1, 0) := m_at_of r_World_isOpen (by decide +kernel)
theorem i_World_isOpen_2 : m_at k_World_isOpen 2 = some (.iconst 0, 1, 0) := m_at_of r_World_isOpen (by decide +kernel)
theorem i_World_isOpen_3 : m_at k_World_isOpen 3 = some (.invokevirtual 29, 3, 127) := m_at_of r_World_isOpen (by decide +kernel)
theorem i_World_isOpen_6 : m_at k_World_isOpen 6 = some (.ifCond .ne (12), 3, 0) := m_at_of r_World_isOpen (by decide +kernel)
theorem i_World_isOpen_9 : m_at k_World_isOpen 9 = some (.aload_n 0, 1, 0) := m_at_of r_World_isOpen (by decide +kernel)
theorem i_World_isOpen_10 : m_at k_World_isOpen 10 = some (.iload_n 1, 1, 0) := m_at_of r_World_isOpen (by decide +kernel)
theorem i_World_isOpen_11 : m_at k_World_isOpen 11 = some (.iconst 3, 1, 0) := m_at_of r_World_isOpen (by decide +kernel)
theorem i_World_isOpen_12 : m_at k_World_isOpen 12 = some (.invokevirtual 29, 3, 127) := m_at_of r_World_isOpen (by decide +kernel)
theorem i_World_isOpen_15 : m_at k_World_isOpen 15 = some (.ifCond .eq (7), 3, 0) := m_at_of r_World_isOpen (by decide +kernel)
theorem i_World_isOpen_18 : m_at k_World_isOpen 18 = some (.iconst 1, 1, 0) := m_at_of r_World_isOpen (by decide +kernel)
theorem i_World_isOpen_19 : m_at k_World_isOpen 19 = some (.goto (4), 3, 0) := m_at_of r_World_isOpen (by decide +kernel)
theorem i_World_isOpen_22 : m_at k_World_isOpen 22 = some (.iconst 0, 1, 0) := m_at_of r_World_isOpen (by decide +kernel)
theorem i_World_isOpen_23 : m_at k_World_isOpen 23 = some (.ireturn, 1, 0) := m_at_of r_World_isOpen (by decide +kernel)
set_option maxRecDepth 20000 in
set_option maxHeartbeats 1000000 in
theorem E_World_isOpen (x : m_X) (s : m_H) (w : Nat) (n1 : Int32) : m_M x k_World_isOpen [.ref w, .int n1] s = if m_isO s w 9 = true then (m_bI (m_M x k_World_isHow [.ref w, .int n1, .int 0] s) fun v3 s3 => if v3 = 0 then (m_bI (m_M x k_World_isHow [.ref w, .int n1, .int 3] s3) fun v12 s12 => if v12 = 0 then (some (some (.int 0), s12)) else some (some (.int 1), s12)) else some (some (.int 1), s3)) else none := by
  refine e_M1 (L0 := [some (.ref w), some (.int n1)]) rfl (by decide +kernel) rfl (q_World_isOpen _) rfl ?_
  refine e_aload_n i_World_isOpen_0 rfl ?_
  refine e_iload_n i_World_isOpen_1 rfl ?_
  refine e_iconst (v := 0) i_World_isOpen_2 (by decide) ?_
  refine e_callI (as := [.ref w, .int n1, .int 0]) (st' := []) i_World_isOpen_3 lm_127 (Or.inr (Or.inl ⟨rfl, rfl⟩)) w_World_isHow rfl rfl rfl (Nat.le_of_ble_eq_true rfl) (Nat.le_of_ble_eq_true rfl) (m_rlt (q_World_isHow _) (by decide)) rfl (fun v3 s3 => ?_)
  refine e_ifne (t := 18) i_World_isOpen_6 (by decide) ?_ ?_
  · refine e_iconst (v := 1) i_World_isOpen_18 (by decide) ?_
    refine e_goto (t := 23) i_World_isOpen_19 (by decide) ?_
    exact e_iretZ i_World_isOpen_23 rfl (by decide)
  · refine e_aload_n i_World_isOpen_9 rfl ?_
    refine e_iload_n i_World_isOpen_10 rfl ?_
    refine e_iconst (v := 3) i_World_isOpen_11 (by decide) ?_
    refine e_callI (as := [.ref w, .int n1, .int 3]) (st' := []) i_World_isOpen_12 lm_127 (Or.inr (Or.inl ⟨rfl, rfl⟩)) w_World_isHow rfl rfl rfl (Nat.le_of_ble_eq_true rfl) (Nat.le_of_ble_eq_true rfl) (m_rlt (q_World_isHow _) (by decide)) rfl (fun v12 s12 => ?_)
    refine e_ifeq (t := 22) i_World_isOpen_15 (by decide) ?_ ?_
    · refine e_iconst (v := 0) i_World_isOpen_22 (by decide) ?_
      exact e_iretZ i_World_isOpen_23 rfl (by decide)
    · refine e_iconst (v := 1) i_World_isOpen_18 (by decide) ?_
      refine e_goto (t := 23) i_World_isOpen_19 (by decide) ?_
      exact e_iretZ i_World_isOpen_23 rfl (by decide)
theorem i_World_isHow_0 : m_at k_World_isHow 0 = some (.aload_n 0, 1, 0) := m_at_of r_World_isHow (by decide +kernel)
theorem i_World_isHow_1 : m_at k_World_isHow 1 = some (.iload_n 1, 1, 0) := m_at_of r_World_isHow (by decide +kernel)
theorem i_World_isHow_2 : m_at k_World_isHow 2 = some (.invokevirtual 21, 3, 323) := m_at_of r_World_isHow (by decide +kernel)
theorem i_World_isHow_5 : m_at k_World_isHow 5 = some (.ifCond .eq (18), 3, 0) := m_at_of r_World_isHow (by decide +kernel)
theorem i_World_isHow_8 : m_at k_World_isHow 8 = some (.aload_n 0, 1, 0) := m_at_of r_World_isHow (by decide +kernel)
theorem i_World_isHow_9 : m_at k_World_isHow 9 = some (.bipush 99, 2, 0) := m_at_of r_World_isHow (by decide +kernel)
theorem i_World_isHow_11 : m_at k_World_isHow 11 = some (.iload_n 1, 1, 0) := m_at_of r_World_isHow (by decide +kernel)
theorem i_World_isHow_12 : m_at k_World_isHow 12 = some (.invokevirtual 25, 3, 109) := m_at_of r_World_isHow (by decide +kernel)
theorem i_World_isHow_15 : m_at k_World_isHow 15 = some (.iload_n 2, 1, 0) := m_at_of r_World_isHow (by decide +kernel)
theorem i_World_isHow_16 : m_at k_World_isHow 16 = some (.if_icmp .ne (7), 3, 0) := m_at_of r_World_isHow (by decide +kernel)
theorem i_World_isHow_19 : m_at k_World_isHow 19 = some (.iconst 1, 1, 0) := m_at_of r_World_isHow (by decide +kernel)
theorem i_World_isHow_20 : m_at k_World_isHow 20 = some (.goto (4), 3, 0) := m_at_of r_World_isHow (by decide +kernel)
theorem i_World_isHow_23 : m_at k_World_isHow 23 = some (.iconst 0, 1, 0) := m_at_of r_World_isHow (by decide +kernel)
theorem i_World_isHow_24 : m_at k_World_isHow 24 = some (.ireturn, 1, 0) := m_at_of r_World_isHow (by decide +kernel)
set_option maxRecDepth 20000 in
set_option maxHeartbeats 1000000 in
theorem E_World_isHow (x : m_X) (s : m_H) (w : Nat) (n1 : Int32) (n2 : Int32) : m_M x k_World_isHow [.ref w, .int n1, .int n2] s = if m_isO s w 9 = true then (m_bI (m_M x k_World_hasGlove [.ref w, .int n1] s) fun v2 s2 => if v2 = 0 then (some (some (.int 0), s2)) else m_bI (m_M x k_World_at [.ref w, .int 99, .int n1] s2) fun v12 s12 => if v12 = n2 then (some (some (.int 1), s12)) else some (some (.int 0), s12)) else none := by
  refine e_M1 (L0 := [some (.ref w), some (.int n1), some (.int n2)]) rfl (by decide +kernel) rfl (q_World_isHow _) rfl ?_
  refine e_aload_n i_World_isHow_0 rfl ?_
  refine e_iload_n i_World_isHow_1 rfl ?_
  refine e_callI (as := [.ref w, .int n1]) (st' := []) i_World_isHow_2 lm_323 (Or.inr (Or.inl ⟨rfl, rfl⟩)) w_World_hasGlove rfl rfl rfl (Nat.le_of_ble_eq_true rfl) (Nat.le_of_ble_eq_true rfl) (m_rlt (q_World_hasGlove _) (by decide)) rfl (fun v2 s2 => ?_)
  refine e_ifeq (t := 23) i_World_isHow_5 (by decide) ?_ ?_
  · refine e_iconst (v := 0) i_World_isHow_23 (by decide) ?_
    exact e_iretZ i_World_isHow_24 rfl (by decide)
  · refine e_aload_n i_World_isHow_8 rfl ?_
    refine e_bipush (v := 99) i_World_isHow_9 (by decide) ?_
    refine e_iload_n i_World_isHow_11 rfl ?_
    refine e_callI (as := [.ref w, .int 99, .int n1]) (st' := []) i_World_isHow_12 lm_109 (Or.inr (Or.inl ⟨rfl, rfl⟩)) w_World_at rfl rfl rfl (Nat.le_of_ble_eq_true rfl) (Nat.le_of_ble_eq_true rfl) (m_rlt (q_World_at _) (by decide)) rfl (fun v12 s12 => ?_)
    refine e_iload_n i_World_isHow_15 rfl ?_
    refine e_icmpne (t := 23) i_World_isHow_16 (by decide) ?_ ?_
    · refine e_iconst (v := 0) i_World_isHow_23 (by decide) ?_
      exact e_iretZ i_World_isHow_24 rfl (by decide)
    · refine e_iconst (v := 1) i_World_isHow_19 (by decide) ?_
      refine e_goto (t := 24) i_World_isHow_20 (by decide) ?_
      exact e_iretZ i_World_isHow_24 rfl (by decide)
