theorem i_Reader_advance_0 : m_at k_Reader_advance 0 = some (.aload_n 0, 1, 0) := m_at_of r_Reader_advance (by decide +kernel)
theorem i_Reader_advance_1 : m_at k_Reader_advance 1 = some (.getfield 35, 3, 118) := m_at_of r_Reader_advance (by decide +kernel)
theorem i_Reader_advance_4 : m_at k_Reader_advance 4 = some (.istore_n 1, 1, 0) := m_at_of r_Reader_advance (by decide +kernel)
theorem i_Reader_advance_5 : m_at k_Reader_advance 5 = some (.iload_n 1, 1, 0) := m_at_of r_Reader_advance (by decide +kernel)
theorem i_Reader_advance_6 : m_at k_Reader_advance 6 = some (.aload_n 0, 1, 0) := m_at_of r_Reader_advance (by decide +kernel)
theorem i_Reader_advance_7 : m_at k_Reader_advance 7 = some (.getfield 29, 3, 124) := m_at_of r_Reader_advance (by decide +kernel)
theorem i_Reader_advance_10 : m_at k_Reader_advance 10 = some (.if_icmp .ge (39), 3, 0) := m_at_of r_Reader_advance (by decide +kernel)
theorem i_Reader_advance_13 : m_at k_Reader_advance 13 = some (.aload_n 0, 1, 0) := m_at_of r_Reader_advance (by decide +kernel)
theorem i_Reader_advance_14 : m_at k_Reader_advance 14 = some (.iload_n 1, 1, 0) := m_at_of r_Reader_advance (by decide +kernel)
theorem i_Reader_advance_15 : m_at k_Reader_advance 15 = some (.invokevirtual 53, 3, 399) := m_at_of r_Reader_advance (by decide +kernel)
theorem i_Reader_advance_18 : m_at k_Reader_advance 18 = some (.ifCond .eq (31), 3, 0) := m_at_of r_Reader_advance (by decide +kernel)
theorem i_Reader_advance_21 : m_at k_Reader_advance 21 = some (.aload_n 0, 1, 0) := m_at_of r_Reader_advance (by decide +kernel)
theorem i_Reader_advance_22 : m_at k_Reader_advance 22 = some (.getfield 18, 3, 125) := m_at_of r_Reader_advance (by decide +kernel)
theorem i_Reader_advance_25 : m_at k_Reader_advance 25 = some (.iload_n 1, 1, 0) := m_at_of r_Reader_advance (by decide +kernel)
theorem i_Reader_advance_26 : m_at k_Reader_advance 26 = some (.iaload, 1, 0) := m_at_of r_Reader_advance (by decide +kernel)
theorem i_Reader_advance_27 : m_at k_Reader_advance 27 = some (.bipush 32, 2, 0) := m_at_of r_Reader_advance (by decide +kernel)
theorem i_Reader_advance_29 : m_at k_Reader_advance 29 = some (.if_icmp .eq (14), 3, 0) := m_at_of r_Reader_advance (by decide +kernel)
theorem i_Reader_advance_32 : m_at k_Reader_advance 32 = some (.aload_n 0, 1, 0) := m_at_of r_Reader_advance (by decide +kernel)
theorem i_Reader_advance_33 : m_at k_Reader_advance 33 = some (.getfield 18, 3, 125) := m_at_of r_Reader_advance (by decide +kernel)
theorem i_Reader_advance_36 : m_at k_Reader_advance 36 = some (.iload_n 1, 1, 0) := m_at_of r_Reader_advance (by decide +kernel)
theorem i_Reader_advance_37 : m_at k_Reader_advance 37 = some (.iaload, 1, 0) := m_at_of r_Reader_advance (by decide +kernel)
theorem i_Reader_advance_38 : m_at k_Reader_advance 38 = some (.bipush 10, 2, 0) := m_at_of r_Reader_advance (by decide +kernel)
theorem i_Reader_advance_40 : m_at k_Reader_advance 40 = some (.if_icmp .ne (9), 3, 0) := m_at_of r_Reader_advance (by decide +kernel)
theorem i_Reader_advance_43 : m_at k_Reader_advance 43 = some (.iinc 1 (1), 3, 0) := m_at_of r_Reader_advance (by decide +kernel)
theorem i_Reader_advance_46 : m_at k_Reader_advance 46 = some (.goto (-41), 3, 0) := m_at_of r_Reader_advance (by decide +kernel)
theorem i_Reader_advance_49 : m_at k_Reader_advance 49 = some (.aload_n 0, 1, 0) := m_at_of r_Reader_advance (by decide +kernel)
theorem i_Reader_advance_50 : m_at k_Reader_advance 50 = some (.iload_n 1, 1, 0) := m_at_of r_Reader_advance (by decide +kernel)
theorem i_Reader_advance_51 : m_at k_Reader_advance 51 = some (.putfield 50, 3, 123) := m_at_of r_Reader_advance (by decide +kernel)
theorem i_Reader_advance_54 : m_at k_Reader_advance 54 = some (.aload_n 0, 1, 0) := m_at_of r_Reader_advance (by decide +kernel)
theorem i_Reader_advance_55 : m_at k_Reader_advance 55 = some (.iload_n 1, 1, 0) := m_at_of r_Reader_advance (by decide +kernel)
theorem i_Reader_advance_56 : m_at k_Reader_advance 56 = some (.putfield 35, 3, 118) := m_at_of r_Reader_advance (by decide +kernel)
theorem i_Reader_advance_59 : m_at k_Reader_advance 59 = some (.aload_n 0, 1, 0) := m_at_of r_Reader_advance (by decide +kernel)
theorem i_Reader_advance_60 : m_at k_Reader_advance 60 = some (.aload_n 0, 1, 0) := m_at_of r_Reader_advance (by decide +kernel)
theorem i_Reader_advance_61 : m_at k_Reader_advance 61 = some (.getfield 35, 3, 118) := m_at_of r_Reader_advance (by decide +kernel)
theorem i_Reader_advance_64 : m_at k_Reader_advance 64 = some (.invokevirtual 53, 3, 399) := m_at_of r_Reader_advance (by decide +kernel)
theorem i_Reader_advance_67 : m_at k_Reader_advance 67 = some (.ifCond .ne (20), 3, 0) := m_at_of r_Reader_advance (by decide +kernel)
theorem i_Reader_advance_70 : m_at k_Reader_advance 70 = some (.aload_n 0, 1, 0) := m_at_of r_Reader_advance (by decide +kernel)
theorem i_Reader_advance_71 : m_at k_Reader_advance 71 = some (.bipush 52, 2, 0) := m_at_of r_Reader_advance (by decide +kernel)
theorem i_Reader_advance_73 : m_at k_Reader_advance 73 = some (.putfield 41, 3, 119) := m_at_of r_Reader_advance (by decide +kernel)
theorem i_Reader_advance_76 : m_at k_Reader_advance 76 = some (.aload_n 0, 1, 0) := m_at_of r_Reader_advance (by decide +kernel)
theorem i_Reader_advance_77 : m_at k_Reader_advance 77 = some (.aload_n 0, 1, 0) := m_at_of r_Reader_advance (by decide +kernel)
theorem i_Reader_advance_78 : m_at k_Reader_advance 78 = some (.getfield 29, 3, 124) := m_at_of r_Reader_advance (by decide +kernel)
theorem i_Reader_advance_81 : m_at k_Reader_advance 81 = some (.putfield 50, 3, 123) := m_at_of r_Reader_advance (by decide +kernel)
theorem i_Reader_advance_84 : m_at k_Reader_advance 84 = some (.goto (51), 3, 0) := m_at_of r_Reader_advance (by decide +kernel)
theorem i_Reader_advance_87 : m_at k_Reader_advance 87 = some (.aload_n 0, 1, 0) := m_at_of r_Reader_advance (by decide +kernel)
theorem i_Reader_advance_88 : m_at k_Reader_advance 88 = some (.getfield 18, 3, 125) := m_at_of r_Reader_advance (by decide +kernel)
theorem i_Reader_advance_91 : m_at k_Reader_advance 91 = some (.aload_n 0, 1, 0) := m_at_of r_Reader_advance (by decide +kernel)
theorem i_Reader_advance_92 : m_at k_Reader_advance 92 = some (.getfield 35, 3, 118) := m_at_of r_Reader_advance (by decide +kernel)
theorem i_Reader_advance_95 : m_at k_Reader_advance 95 = some (.iaload, 1, 0) := m_at_of r_Reader_advance (by decide +kernel)
theorem i_Reader_advance_96 : m_at k_Reader_advance 96 = some (.invokestatic 57, 3, 400) := m_at_of r_Reader_advance (by decide +kernel)
theorem i_Reader_advance_99 : m_at k_Reader_advance 99 = some (.ifCond .eq (10), 3, 0) := m_at_of r_Reader_advance (by decide +kernel)
theorem i_Reader_advance_102 : m_at k_Reader_advance 102 = some (.aload_n 0, 1, 0) := m_at_of r_Reader_advance (by decide +kernel)
theorem i_Reader_advance_103 : m_at k_Reader_advance 103 = some (.invokevirtual 60, 3, 401) := m_at_of r_Reader_advance (by decide +kernel)
theorem i_Reader_advance_106 : m_at k_Reader_advance 106 = some (.goto (29), 3, 0) := m_at_of r_Reader_advance (by decide +kernel)
theorem i_Reader_advance_109 : m_at k_Reader_advance 109 = some (.aload_n 0, 1, 0) := m_at_of r_Reader_advance (by decide +kernel)
theorem i_Reader_advance_110 : m_at k_Reader_advance 110 = some (.getfield 18, 3, 125) := m_at_of r_Reader_advance (by decide +kernel)
theorem i_Reader_advance_113 : m_at k_Reader_advance 113 = some (.aload_n 0, 1, 0) := m_at_of r_Reader_advance (by decide +kernel)
theorem i_Reader_advance_114 : m_at k_Reader_advance 114 = some (.getfield 35, 3, 118) := m_at_of r_Reader_advance (by decide +kernel)
theorem i_Reader_advance_117 : m_at k_Reader_advance 117 = some (.iaload, 1, 0) := m_at_of r_Reader_advance (by decide +kernel)
theorem i_Reader_advance_118 : m_at k_Reader_advance 118 = some (.invokestatic 63, 3, 402) := m_at_of r_Reader_advance (by decide +kernel)
theorem i_Reader_advance_121 : m_at k_Reader_advance 121 = some (.ifCond .eq (10), 3, 0) := m_at_of r_Reader_advance (by decide +kernel)
theorem i_Reader_advance_124 : m_at k_Reader_advance 124 = some (.aload_n 0, 1, 0) := m_at_of r_Reader_advance (by decide +kernel)
theorem i_Reader_advance_125 : m_at k_Reader_advance 125 = some (.invokevirtual 66, 3, 403) := m_at_of r_Reader_advance (by decide +kernel)
theorem i_Reader_advance_128 : m_at k_Reader_advance 128 = some (.goto (7), 3, 0) := m_at_of r_Reader_advance (by decide +kernel)
theorem i_Reader_advance_131 : m_at k_Reader_advance 131 = some (.aload_n 0, 1, 0) := m_at_of r_Reader_advance (by decide +kernel)
theorem i_Reader_advance_132 : m_at k_Reader_advance 132 = some (.invokevirtual 69, 3, 404) := m_at_of r_Reader_advance (by decide +kernel)
theorem i_Reader_advance_135 : m_at k_Reader_advance 135 = some (.return_, 1, 0) := m_at_of r_Reader_advance (by decide +kernel)
set_option maxRecDepth 20000 in
set_option maxHeartbeats 1000000 in
theorem E_Reader_advance (x : m_X) (s : m_H) (w : Nat) : m_M x k_Reader_advance [.ref w] s = if m_isO s w 3 = true then ((m_fI s 3 8 w).bind fun v1 => m_D x 7 k_Reader_advance 5 [some (.ref w), some (.int v1)] [] s) else none := by
  refine e_M1 (L0 := [some (.ref w), none]) rfl (by decide +kernel) rfl (q_Reader_advance _) rfl ?_
  refine e_aload_n i_Reader_advance_0 rfl ?_
  refine e_getI i_Reader_advance_1 lf_118 (by decide) (Or.inl ft_3_8) (fun v1 => ?_)
  refine e_istore_n (L' := [some (.ref w), some (.int v1)]) i_Reader_advance_4 (of_decide_eq_true rfl) rfl ?_
  exact rfl
set_option maxRecDepth 20000 in
set_option maxHeartbeats 1000000 in
theorem E_Reader_advance_5 (x : m_X) (ρ : Nat) (hρ : 7 ≤ ρ) (s : m_H) (w : Nat) (n1 : Int32)  : m_D x ρ k_Reader_advance 5 [some (.ref w), some (.int n1)] [] s = (m_fI s 3 2 w).bind fun v7 => if v7 ≤ n1 then (m_D x ρ k_Reader_advance 49 [some (.ref w), some (.int n1)] [] s) else m_bI (m_M x k_Reader_isTapeAt [.ref w, .int n1] s) fun v15 s15 => if v15 = 0 then (m_D x ρ k_Reader_advance 49 [some (.ref w), some (.int n1)] [] s15) else (m_fR s15 3 1 w).bind fun v22 => (m_ia x s15 v22 n1).bind fun v26 => if v26 = 32 then (m_D x ρ k_Reader_advance 5 [some (.ref w), some (.int (n1 + (1 : Int32)))] [] s15) else (m_fR s15 3 1 w).bind fun v33 => (m_ia x s15 v33 n1).bind fun v37 => if v37 = 10 then (m_D x ρ k_Reader_advance 5 [some (.ref w), some (.int (n1 + (1 : Int32)))] [] s15) else m_D x ρ k_Reader_advance 49 [some (.ref w), some (.int n1)] [] s15 := by
  refine e_iload_n i_Reader_advance_5 rfl ?_
  refine e_aload_n i_Reader_advance_6 rfl ?_
  refine e_getI i_Reader_advance_7 lf_124 (by decide) (Or.inl ft_3_2) (fun v7 => ?_)
  refine e_icmpge (t := 49) i_Reader_advance_10 (by decide) ?_ ?_
  · exact rfl
  · refine e_aload_n i_Reader_advance_13 rfl ?_
    refine e_iload_n i_Reader_advance_14 rfl ?_
    refine e_callI (as := [.ref w, .int n1]) (st' := []) i_Reader_advance_15 lm_399 (Or.inr (Or.inl ⟨rfl, rfl⟩)) w_Reader_isTapeAt rfl rfl rfl (Nat.le_of_ble_eq_true rfl) (Nat.le_of_ble_eq_true rfl) (m_rlt (q_Reader_isTapeAt _) (Nat.lt_of_lt_of_le (by decide) hρ)) rfl (fun v15 s15 => ?_)
    refine e_ifeq (t := 49) i_Reader_advance_18 (by decide) ?_ ?_
    · exact rfl
    · refine e_aload_n i_Reader_advance_21 rfl ?_
      refine e_getR i_Reader_advance_22 lf_125 (by decide) ft_3_1 (fun v22 => ?_)
      refine e_iload_n i_Reader_advance_25 rfl ?_
      refine e_iald i_Reader_advance_26 (fun v26 => ?_)
      refine e_bipush (v := 32) i_Reader_advance_27 (by decide) ?_
      refine e_icmpeq (t := 43) i_Reader_advance_29 (by decide) ?_ ?_
      · refine e_iinc (w := 1) (L' := [some (.ref w), some (.int (n1 + (1 : Int32)))]) i_Reader_advance_43 rfl (of_decide_eq_true rfl) (by decide) rfl ?_
        refine e_goto (t := 5) i_Reader_advance_46 (by decide) ?_
        exact rfl
      · refine e_aload_n i_Reader_advance_32 rfl ?_
        refine e_getR i_Reader_advance_33 lf_125 (by decide) ft_3_1 (fun v33 => ?_)
        refine e_iload_n i_Reader_advance_36 rfl ?_
        refine e_iald i_Reader_advance_37 (fun v37 => ?_)
        refine e_bipush (v := 10) i_Reader_advance_38 (by decide) ?_
        refine e_icmpne (t := 49) i_Reader_advance_40 (by decide) ?_ ?_
        · exact rfl
        · refine e_iinc (w := 1) (L' := [some (.ref w), some (.int (n1 + (1 : Int32)))]) i_Reader_advance_43 rfl (of_decide_eq_true rfl) (by decide) rfl ?_
          refine e_goto (t := 5) i_Reader_advance_46 (by decide) ?_
          exact rfl
set_option maxRecDepth 20000 in
set_option maxHeartbeats 1000000 in
theorem E_Reader_advance_49 (x : m_X) (ρ : Nat) (hρ : 7 ≤ ρ) (s : m_H) (w : Nat) (n1 : Int32)  : m_D x ρ k_Reader_advance 49 [some (.ref w), some (.int n1)] [] s = (m_pf s 3 7 w (.int n1)).bind fun s51 => (m_pf s51 3 8 w (.int n1)).bind fun s56 => (m_fI s56 3 8 w).bind fun v61 => m_bI (m_M x k_Reader_isTapeAt [.ref w, .int v61] s56) fun v64 s64 => if v64 = 0 then ((m_pf s64 3 5 w (.int 52)).bind fun s73 => (m_fI s73 3 2 w).bind fun v78 => (m_pf s73 3 7 w (.int v78)).bind fun s81 => some (none, s81)) else (m_fR s64 3 1 w).bind fun v88 => (m_fI s64 3 8 w).bind fun v92 => (m_ia x s64 v88 v92).bind fun v95 => m_bI (m_M x k_Reader_isLetter [.int v95] s64) fun v96 s96 => if v96 = 0 then ((m_fR s96 3 1 w).bind fun v110 => (m_fI s96 3 8 w).bind fun v114 => (m_ia x s96 v110 v114).bind fun v117 => m_bI (m_M x k_Reader_isDigit [.int v117] s96) fun v118 s118 => if v118 = 0 then (m_bV (m_M x k_Reader_advanceOverSymbol [.ref w] s118) fun s132 => some (none, s132)) else m_bV (m_M x k_Reader_advanceOverNumber [.ref w] s118) fun s125 => some (none, s125)) else m_bV (m_M x k_Reader_advanceOverWord [.ref w] s96) fun s103 => some (none, s103) := by
  refine e_aload_n i_Reader_advance_49 rfl ?_
  refine e_iload_n i_Reader_advance_50 rfl ?_
  refine e_putf i_Reader_advance_51 lf_123 ft_3_7 rfl (fun s51 => ?_)
  refine e_aload_n i_Reader_advance_54 rfl ?_
  refine e_iload_n i_Reader_advance_55 rfl ?_
  refine e_putf i_Reader_advance_56 lf_118 ft_3_8 rfl (fun s56 => ?_)
  refine e_aload_n i_Reader_advance_59 rfl ?_
  refine e_aload_n i_Reader_advance_60 rfl ?_
  refine e_getI i_Reader_advance_61 lf_118 (by decide) (Or.inl ft_3_8) (fun v61 => ?_)
  refine e_callI (as := [.ref w, .int v61]) (st' := []) i_Reader_advance_64 lm_399 (Or.inr (Or.inl ⟨rfl, rfl⟩)) w_Reader_isTapeAt rfl rfl rfl (Nat.le_of_ble_eq_true rfl) (Nat.le_of_ble_eq_true rfl) (m_rlt (q_Reader_isTapeAt _) (Nat.lt_of_lt_of_le (by decide) hρ)) rfl (fun v64 s64 => ?_)
  refine e_ifne (t := 87) i_Reader_advance_67 (by decide) ?_ ?_
  · refine e_aload_n i_Reader_advance_87 rfl ?_
    refine e_getR i_Reader_advance_88 lf_125 (by decide) ft_3_1 (fun v88 => ?_)
    refine e_aload_n i_Reader_advance_91 rfl ?_
    refine e_getI i_Reader_advance_92 lf_118 (by decide) (Or.inl ft_3_8) (fun v92 => ?_)
    refine e_iald i_Reader_advance_95 (fun v95 => ?_)
    refine e_callI (as := [.int v95]) (st' := []) i_Reader_advance_96 lm_400 (Or.inl ⟨rfl, rfl⟩) w_Reader_isLetter rfl rfl rfl (Nat.le_of_ble_eq_true rfl) (Nat.le_of_ble_eq_true rfl) (m_rlt (q_Reader_isLetter _) (Nat.lt_of_lt_of_le (by decide) hρ)) rfl (fun v96 s96 => ?_)
    refine e_ifeq (t := 109) i_Reader_advance_99 (by decide) ?_ ?_
    · refine e_aload_n i_Reader_advance_109 rfl ?_
      refine e_getR i_Reader_advance_110 lf_125 (by decide) ft_3_1 (fun v110 => ?_)
      refine e_aload_n i_Reader_advance_113 rfl ?_
      refine e_getI i_Reader_advance_114 lf_118 (by decide) (Or.inl ft_3_8) (fun v114 => ?_)
      refine e_iald i_Reader_advance_117 (fun v117 => ?_)
      refine e_callI (as := [.int v117]) (st' := []) i_Reader_advance_118 lm_402 (Or.inl ⟨rfl, rfl⟩) w_Reader_isDigit rfl rfl rfl (Nat.le_of_ble_eq_true rfl) (Nat.le_of_ble_eq_true rfl) (m_rlt (q_Reader_isDigit _) (Nat.lt_of_lt_of_le (by decide) hρ)) rfl (fun v118 s118 => ?_)
      refine e_ifeq (t := 131) i_Reader_advance_121 (by decide) ?_ ?_
      · refine e_aload_n i_Reader_advance_131 rfl ?_
        refine e_callV (as := [.ref w]) (st' := []) i_Reader_advance_132 lm_404 (Or.inr (Or.inl ⟨rfl, rfl⟩)) w_Reader_advanceOverSymbol rfl rfl rfl (Nat.le_of_ble_eq_true rfl) (Nat.le_of_ble_eq_true rfl) (m_rlt (q_Reader_advanceOverSymbol _) (Nat.lt_of_lt_of_le (by decide) hρ)) rfl (fun s132 => ?_)
        exact e_vret i_Reader_advance_135 rfl
      · refine e_aload_n i_Reader_advance_124 rfl ?_
        refine e_callV (as := [.ref w]) (st' := []) i_Reader_advance_125 lm_403 (Or.inr (Or.inl ⟨rfl, rfl⟩)) w_Reader_advanceOverNumber rfl rfl rfl (Nat.le_of_ble_eq_true rfl) (Nat.le_of_ble_eq_true rfl) (m_rlt (q_Reader_advanceOverNumber _) (Nat.lt_of_lt_of_le (by decide) hρ)) rfl (fun s125 => ?_)
        refine e_goto (t := 135) i_Reader_advance_128 (by decide) ?_
        exact e_vret i_Reader_advance_135 rfl
    · refine e_aload_n i_Reader_advance_102 rfl ?_
      refine e_callV (as := [.ref w]) (st' := []) i_Reader_advance_103 lm_401 (Or.inr (Or.inl ⟨rfl, rfl⟩)) w_Reader_advanceOverWord rfl rfl rfl (Nat.le_of_ble_eq_true rfl) (Nat.le_of_ble_eq_true rfl) (m_rlt (q_Reader_advanceOverWord _) (Nat.lt_of_lt_of_le (by decide) hρ)) rfl (fun s103 => ?_)
      refine e_goto (t := 135) i_Reader_advance_106 (by decide) ?_
      exact e_vret i_Reader_advance_135 rfl
  · refine e_aload_n i_Reader_advance_70 rfl ?_
    refine e_bipush (v := 52) i_Reader_advance_71 (by decide) ?_
    refine e_putf i_Reader_advance_73 lf_119 ft_3_5 rfl (fun s73 => ?_)
    refine e_aload_n i_Reader_advance_76 rfl ?_
    refine e_aload_n i_Reader_advance_77 rfl ?_
    refine e_getI i_Reader_advance_78 lf_124 (by decide) (Or.inl ft_3_2) (fun v78 => ?_)
    refine e_putf i_Reader_advance_81 lf_123 ft_3_7 rfl (fun s81 => ?_)
    refine e_goto (t := 135) i_Reader_advance_84 (by decide) ?_
    exact e_vret i_Reader_advance_135 rfl
theorem i_Reader_advanceOverSymbol_0 : m_at k_Reader_advanceOverSymbol 0 = some (.aload_n 0, 1, 0) := m_at_of r_Reader_advanceOverSymbol (by decide +kernel)
theorem i_Reader_advanceOverSymbol_1 : m_at k_Reader_advanceOverSymbol 1 = some (.aload_n 0, 1, 0) := m_at_of r_Reader_advanceOverSymbol (by decide +kernel)
theorem i_Reader_advanceOverSymbol_2 : m_at k_Reader_advanceOverSymbol 2 = some (.aload_n 0, 1, 0) := m_at_of r_Reader_advanceOverSymbol (by decide +kernel)
theorem i_Reader_advanceOverSymbol_3 : m_at k_Reader_advanceOverSymbol 3 = some (.getfield 35, 3, 118) := m_at_of r_Reader_advanceOverSymbol (by decide +kernel)
theorem i_Reader_advanceOverSymbol_6 : m_at k_Reader_advanceOverSymbol 6 = some (.invokevirtual 53, 3, 399) := m_at_of r_Reader_advanceOverSymbol (by decide +kernel)
theorem i_Reader_advanceOverSymbol_9 : m_at k_Reader_advanceOverSymbol 9 = some (.ifCond .eq (18), 3, 0) := m_at_of r_Reader_advanceOverSymbol (by decide +kernel)
theorem i_Reader_advanceOverSymbol_12 : m_at k_Reader_advanceOverSymbol 12 = some (.aload_n 0, 1, 0) := m_at_of r_Reader_advanceOverSymbol (by decide +kernel)
theorem i_Reader_advanceOverSymbol_13 : m_at k_Reader_advanceOverSymbol 13 = some (.getfield 18, 3, 125) := m_at_of r_Reader_advanceOverSymbol (by decide +kernel)
theorem i_Reader_advanceOverSymbol_16 : m_at k_Reader_advanceOverSymbol 16 = some (.aload_n 0, 1, 0) := m_at_of r_Reader_advanceOverSymbol (by decide +kernel)
theorem i_Reader_advanceOverSymbol_17 : m_at k_Reader_advanceOverSymbol 17 = some (.getfield 35, 3, 118) := m_at_of r_Reader_advanceOverSymbol (by decide +kernel)
theorem i_Reader_advanceOverSymbol_20 : m_at k_Reader_advanceOverSymbol 20 = some (.iaload, 1, 0) := m_at_of r_Reader_advanceOverSymbol (by decide +kernel)
theorem i_Reader_advanceOverSymbol_21 : m_at k_Reader_advanceOverSymbol 21 = some (.invokestatic 85, 3, 405) := m_at_of r_Reader_advanceOverSymbol (by decide +kernel)
theorem i_Reader_advanceOverSymbol_24 : m_at k_Reader_advanceOverSymbol 24 = some (.goto (5), 3, 0) := m_at_of r_Reader_advanceOverSymbol (by decide +kernel)
theorem i_Reader_advanceOverSymbol_27 : m_at k_Reader_advanceOverSymbol 27 = some (.bipush 53, 2, 0) := m_at_of r_Reader_advanceOverSymbol (by decide +kernel)
theorem i_Reader_advanceOverSymbol_29 : m_at k_Reader_advanceOverSymbol 29 = some (.putfield 41, 3, 119) := m_at_of r_Reader_advanceOverSymbol (by decide +kernel)
theorem i_Reader_advanceOverSymbol_32 : m_at k_Reader_advanceOverSymbol 32 = some (.aload_n 0, 1, 0) := m_at_of r_Reader_advanceOverSymbol (by decide +kernel)
theorem i_Reader_advanceOverSymbol_33 : m_at k_Reader_advanceOverSymbol 33 = some (.dup, 1, 0) := m_at_of r_Reader_advanceOverSymbol (by decide +kernel)
theorem i_Reader_advanceOverSymbol_34 : m_at k_Reader_advanceOverSymbol 34 = some (.getfield 35, 3, 118) := m_at_of r_Reader_advanceOverSymbol (by decide +kernel)
theorem i_Reader_advanceOverSymbol_37 : m_at k_Reader_advanceOverSymbol 37 = some (.iconst 1, 1, 0) := m_at_of r_Reader_advanceOverSymbol (by decide +kernel)
theorem i_Reader_advanceOverSymbol_38 : m_at k_Reader_advanceOverSymbol 38 = some (.iadd, 1, 0) := m_at_of r_Reader_advanceOverSymbol (by decide +kernel)
theorem i_Reader_advanceOverSymbol_39 : m_at k_Reader_advanceOverSymbol 39 = some (.putfield 35, 3, 118) := m_at_of r_Reader_advanceOverSymbol (by decide +kernel)
theorem i_Reader_advanceOverSymbol_42 : m_at k_Reader_advanceOverSymbol 42 = some (.aload_n 0, 1, 0) := m_at_of r_Reader_advanceOverSymbol (by decide +kernel)
theorem i_Reader_advanceOverSymbol_43 : m_at k_Reader_advanceOverSymbol 43 = some (.aload_n 0, 1, 0) := m_at_of r_Reader_advanceOverSymbol (by decide +kernel)
theorem i_Reader_advanceOverSymbol_44 : m_at k_Reader_advanceOverSymbol 44 = some (.getfield 35, 3, 118) := m_at_of r_Reader_advanceOverSymbol (by decide +kernel)
theorem i_Reader_advanceOverSymbol_47 : m_at k_Reader_advanceOverSymbol 47 = some (.invokevirtual 53, 3, 399) := m_at_of r_Reader_advanceOverSymbol (by decide +kernel)
theorem i_Reader_advanceOverSymbol_50 : m_at k_Reader_advanceOverSymbol 50 = some (.ifCond .eq (21), 3, 0) := m_at_of r_Reader_advanceOverSymbol (by decide +kernel)
theorem i_Reader_advanceOverSymbol_53 : m_at k_Reader_advanceOverSymbol 53 = some (.aload_n 0, 1, 0) := m_at_of r_Reader_advanceOverSymbol (by decide +kernel)
theorem i_Reader_advanceOverSymbol_54 : m_at k_Reader_advanceOverSymbol 54 = some (.getfield 18, 3, 125) := m_at_of r_Reader_advanceOverSymbol (by decide +kernel)
theorem i_Reader_advanceOverSymbol_57 : m_at k_Reader_advanceOverSymbol 57 = some (.aload_n 0, 1, 0) := m_at_of r_Reader_advanceOverSymbol (by decide +kernel)
theorem i_Reader_advanceOverSymbol_58 : m_at k_Reader_advanceOverSymbol 58 = some (.getfield 35, 3, 118) := m_at_of r_Reader_advanceOverSymbol (by decide +kernel)
theorem i_Reader_advanceOverSymbol_61 : m_at k_Reader_advanceOverSymbol 61 = some (.iaload, 1, 0) := m_at_of r_Reader_advanceOverSymbol (by decide +kernel)
theorem i_Reader_advanceOverSymbol_62 : m_at k_Reader_advanceOverSymbol 62 = some (.bipush 61, 2, 0) := m_at_of r_Reader_advanceOverSymbol (by decide +kernel)
theorem i_Reader_advanceOverSymbol_64 : m_at k_Reader_advanceOverSymbol 64 = some (.if_icmp .ne (7), 3, 0) := m_at_of r_Reader_advanceOverSymbol (by decide +kernel)
theorem i_Reader_advanceOverSymbol_67 : m_at k_Reader_advanceOverSymbol 67 = some (.iconst 1, 1, 0) := m_at_of r_Reader_advanceOverSymbol (by decide +kernel)
theorem i_Reader_advanceOverSymbol_68 : m_at k_Reader_advanceOverSymbol 68 = some (.goto (4), 3, 0) := m_at_of r_Reader_advanceOverSymbol (by decide +kernel)
theorem i_Reader_advanceOverSymbol_71 : m_at k_Reader_advanceOverSymbol 71 = some (.iconst 0, 1, 0) := m_at_of r_Reader_advanceOverSymbol (by decide +kernel)
theorem i_Reader_advanceOverSymbol_72 : m_at k_Reader_advanceOverSymbol 72 = some (.istore_n 1, 1, 0) := m_at_of r_Reader_advanceOverSymbol (by decide +kernel)
theorem i_Reader_advanceOverSymbol_73 : m_at k_Reader_advanceOverSymbol 73 = some (.iload_n 1, 1, 0) := m_at_of r_Reader_advanceOverSymbol (by decide +kernel)
theorem i_Reader_advanceOverSymbol_74 : m_at k_Reader_advanceOverSymbol 74 = some (.ifCond .eq (51), 3, 0) := m_at_of r_Reader_advanceOverSymbol (by decide +kernel)
theorem i_Reader_advanceOverSymbol_77 : m_at k_Reader_advanceOverSymbol 77 = some (.aload_n 0, 1, 0) := m_at_of r_Reader_advanceOverSymbol (by decide +kernel)
theorem i_Reader_advanceOverSymbol_78 : m_at k_Reader_advanceOverSymbol 78 = some (.getfield 41, 3, 119) := m_at_of r_Reader_advanceOverSymbol (by decide +kernel)
theorem i_Reader_advanceOverSymbol_81 : m_at k_Reader_advanceOverSymbol 81 = some (.bipush 37, 2, 0) := m_at_of r_Reader_advanceOverSymbol (by decide +kernel)
theorem i_Reader_advanceOverSymbol_83 : m_at k_Reader_advanceOverSymbol 83 = some (.if_icmp .eq (12), 3, 0) := m_at_of r_Reader_advanceOverSymbol (by decide +kernel)
theorem i_Reader_advanceOverSymbol_86 : m_at k_Reader_advanceOverSymbol 86 = some (.aload_n 0, 1, 0) := m_at_of r_Reader_advanceOverSymbol (by decide +kernel)
theorem i_Reader_advanceOverSymbol_87 : m_at k_Reader_advanceOverSymbol 87 = some (.getfield 41, 3, 119) := m_at_of r_Reader_advanceOverSymbol (by decide +kernel)
theorem i_Reader_advanceOverSymbol_90 : m_at k_Reader_advanceOverSymbol 90 = some (.bipush 38, 2, 0) := m_at_of r_Reader_advanceOverSymbol (by decide +kernel)
theorem i_Reader_advanceOverSymbol_92 : m_at k_Reader_advanceOverSymbol 92 = some (.if_icmp .ne (33), 3, 0) := m_at_of r_Reader_advanceOverSymbol (by decide +kernel)
theorem i_Reader_advanceOverSymbol_95 : m_at k_Reader_advanceOverSymbol 95 = some (.aload_n 0, 1, 0) := m_at_of r_Reader_advanceOverSymbol (by decide +kernel)
theorem i_Reader_advanceOverSymbol_96 : m_at k_Reader_advanceOverSymbol 96 = some (.aload_n 0, 1, 0) := m_at_of r_Reader_advanceOverSymbol (by decide +kernel)
theorem i_Reader_advanceOverSymbol_97 : m_at k_Reader_advanceOverSymbol 97 = some (.getfield 41, 3, 119) := m_at_of r_Reader_advanceOverSymbol (by decide +kernel)
theorem i_Reader_advanceOverSymbol_100 : m_at k_Reader_advanceOverSymbol 100 = some (.bipush 37, 2, 0) := m_at_of r_Reader_advanceOverSymbol (by decide +kernel)
theorem i_Reader_advanceOverSymbol_102 : m_at k_Reader_advanceOverSymbol 102 = some (.if_icmp .ne (8), 3, 0) := m_at_of r_Reader_advanceOverSymbol (by decide +kernel)
theorem i_Reader_advanceOverSymbol_105 : m_at k_Reader_advanceOverSymbol 105 = some (.bipush 48, 2, 0) := m_at_of r_Reader_advanceOverSymbol (by decide +kernel)
theorem i_Reader_advanceOverSymbol_107 : m_at k_Reader_advanceOverSymbol 107 = some (.goto (5), 3, 0) := m_at_of r_Reader_advanceOverSymbol (by decide +kernel)
theorem i_Reader_advanceOverSymbol_110 : m_at k_Reader_advanceOverSymbol 110 = some (.bipush 49, 2, 0) := m_at_of r_Reader_advanceOverSymbol (by decide +kernel)
theorem i_Reader_advanceOverSymbol_112 : m_at k_Reader_advanceOverSymbol 112 = some (.putfield 41, 3, 119) := m_at_of r_Reader_advanceOverSymbol (by decide +kernel)
theorem i_Reader_advanceOverSymbol_115 : m_at k_Reader_advanceOverSymbol 115 = some (.aload_n 0, 1, 0) := m_at_of r_Reader_advanceOverSymbol (by decide +kernel)
theorem i_Reader_advanceOverSymbol_116 : m_at k_Reader_advanceOverSymbol 116 = some (.dup, 1, 0) := m_at_of r_Reader_advanceOverSymbol (by decide +kernel)
theorem i_Reader_advanceOverSymbol_117 : m_at k_Reader_advanceOverSymbol 117 = some (.getfield 35, 3, 118) := m_at_of r_Reader_advanceOverSymbol (by decide +kernel)
theorem i_Reader_advanceOverSymbol_120 : m_at k_Reader_advanceOverSymbol 120 = some (.iconst 1, 1, 0) := m_at_of r_Reader_advanceOverSymbol (by decide +kernel)
theorem i_Reader_advanceOverSymbol_121 : m_at k_Reader_advanceOverSymbol 121 = some (.iadd, 1, 0) := m_at_of r_Reader_advanceOverSymbol (by decide +kernel)
theorem i_Reader_advanceOverSymbol_122 : m_at k_Reader_advanceOverSymbol 122 = some (.putfield 35, 3, 118) := m_at_of r_Reader_advanceOverSymbol (by decide +kernel)
theorem i_Reader_advanceOverSymbol_125 : m_at k_Reader_advanceOverSymbol 125 = some (.return_, 1, 0) := m_at_of r_Reader_advanceOverSymbol (by decide +kernel)
set_option maxRecDepth 20000 in
set_option maxHeartbeats 1000000 in
theorem E_Reader_advanceOverSymbol (x : m_X) (s : m_H) (w : Nat) : m_M x k_Reader_advanceOverSymbol [.ref w] s = if m_isO s w 3 = true then ((m_fI s 3 8 w).bind fun v3 => m_bI (m_M x k_Reader_isTapeAt [.ref w, .int v3] s) fun v6 s6 => if v6 = 0 then (m_D x 6 k_Reader_advanceOverSymbol 29 [some (.ref w), none] [.int 53, .ref w] s6) else (m_fR s6 3 1 w).bind fun v13 => (m_fI s6 3 8 w).bind fun v17 => (m_ia x s6 v13 v17).bind fun v20 => m_bI (m_M x k_Words_symbolOf [.int v20] s6) fun v21 s21 => m_D x 6 k_Reader_advanceOverSymbol 29 [some (.ref w), none] [.int v21, .ref w] s21) else none := by
  refine e_M1 (L0 := [some (.ref w), none]) rfl (by decide +kernel) rfl (q_Reader_advanceOverSymbol _) rfl ?_
  refine e_aload_n i_Reader_advanceOverSymbol_0 rfl ?_
  refine e_aload_n i_Reader_advanceOverSymbol_1 rfl ?_
  refine e_aload_n i_Reader_advanceOverSymbol_2 rfl ?_
  refine e_getI i_Reader_advanceOverSymbol_3 lf_118 (by decide) (Or.inl ft_3_8) (fun v3 => ?_)
  refine e_callI (as := [.ref w, .int v3]) (st' := [.ref w]) i_Reader_advanceOverSymbol_6 lm_399 (Or.inr (Or.inl ⟨rfl, rfl⟩)) w_Reader_isTapeAt rfl rfl rfl (Nat.le_of_ble_eq_true rfl) (Nat.le_of_ble_eq_true rfl) (m_rlt (q_Reader_isTapeAt _) (by decide)) rfl (fun v6 s6 => ?_)
  refine e_ifeq (t := 27) i_Reader_advanceOverSymbol_9 (by decide) ?_ ?_
  · refine e_bipush (v := 53) i_Reader_advanceOverSymbol_27 (by decide) ?_
    exact rfl
  · refine e_aload_n i_Reader_advanceOverSymbol_12 rfl ?_
    refine e_getR i_Reader_advanceOverSymbol_13 lf_125 (by decide) ft_3_1 (fun v13 => ?_)
    refine e_aload_n i_Reader_advanceOverSymbol_16 rfl ?_
    refine e_getI i_Reader_advanceOverSymbol_17 lf_118 (by decide) (Or.inl ft_3_8) (fun v17 => ?_)
    refine e_iald i_Reader_advanceOverSymbol_20 (fun v20 => ?_)
    refine e_callI (as := [.int v20]) (st' := [.ref w]) i_Reader_advanceOverSymbol_21 lm_405 (Or.inl ⟨rfl, rfl⟩) w_Words_symbolOf rfl rfl rfl (Nat.le_of_ble_eq_true rfl) (Nat.le_of_ble_eq_true rfl) (m_rlt (q_Words_symbolOf _) (by decide)) rfl (fun v21 s21 => ?_)
    refine e_goto (t := 29) i_Reader_advanceOverSymbol_24 (by decide) ?_
    exact rfl
set_option maxRecDepth 20000 in
set_option maxHeartbeats 1000000 in
theorem E_Reader_advanceOverSymbol_29 (x : m_X) (ρ : Nat) (hρ : 6 ≤ ρ) (s : m_H) (w : Nat) (nt0 : Int32)  : m_D x ρ k_Reader_advanceOverSymbol 29 [some (.ref w), none] [.int nt0, .ref w] s = (m_pf s 3 5 w (.int nt0)).bind fun s29 => (m_fI s29 3 8 w).bind fun v34 => (m_pf s29 3 8 w (.int (v34 + (1 : Int32)))).bind fun s39 => (m_fI s39 3 8 w).bind fun v44 => m_bI (m_M x k_Reader_isTapeAt [.ref w, .int v44] s39) fun v47 s47 => if v47 = 0 then (some (none, s47)) else (m_fR s47 3 1 w).bind fun v54 => (m_fI s47 3 8 w).bind fun v58 => (m_ia x s47 v54 v58).bind fun v61 => if v61 = 61 then ((m_fI s47 3 5 w).bind fun v78 => if v78 = 37 then (m_D x ρ k_Reader_advanceOverSymbol 95 [some (.ref w), some (.int 1)] [] s47) else (m_fI s47 3 5 w).bind fun v87 => if v87 = 38 then (m_D x ρ k_Reader_advanceOverSymbol 95 [some (.ref w), some (.int 1)] [] s47) else some (none, s47)) else some (none, s47) := by
  refine e_putf i_Reader_advanceOverSymbol_29 lf_119 ft_3_5 rfl (fun s29 => ?_)
  refine e_aload_n i_Reader_advanceOverSymbol_32 rfl ?_
  refine e_dup i_Reader_advanceOverSymbol_33 rfl ?_
  refine e_getI i_Reader_advanceOverSymbol_34 lf_118 (by decide) (Or.inl ft_3_8) (fun v34 => ?_)
  refine e_iconst (v := 1) i_Reader_advanceOverSymbol_37 (by decide) ?_
  refine e_iadd i_Reader_advanceOverSymbol_38 ?_
  refine e_putf i_Reader_advanceOverSymbol_39 lf_118 ft_3_8 rfl (fun s39 => ?_)
  refine e_aload_n i_Reader_advanceOverSymbol_42 rfl ?_
  refine e_aload_n i_Reader_advanceOverSymbol_43 rfl ?_
  refine e_getI i_Reader_advanceOverSymbol_44 lf_118 (by decide) (Or.inl ft_3_8) (fun v44 => ?_)
  refine e_callI (as := [.ref w, .int v44]) (st' := []) i_Reader_advanceOverSymbol_47 lm_399 (Or.inr (Or.inl ⟨rfl, rfl⟩)) w_Reader_isTapeAt rfl rfl rfl (Nat.le_of_ble_eq_true rfl) (Nat.le_of_ble_eq_true rfl) (m_rlt (q_Reader_isTapeAt _) (Nat.lt_of_lt_of_le (by decide) hρ)) rfl (fun v47 s47 => ?_)
  refine e_ifeq (t := 71) i_Reader_advanceOverSymbol_50 (by decide) ?_ ?_
  · refine e_iconst (v := 0) i_Reader_advanceOverSymbol_71 (by decide) ?_
    refine e_istore_n (L' := [some (.ref w), some (.int 0)]) i_Reader_advanceOverSymbol_72 (of_decide_eq_true rfl) rfl ?_
    refine e_iload_n i_Reader_advanceOverSymbol_73 rfl ?_
    refine e_ifT (t := 125) i_Reader_advanceOverSymbol_74 (by decide) (by decide) ?_
    exact e_vret i_Reader_advanceOverSymbol_125 rfl
  · refine e_aload_n i_Reader_advanceOverSymbol_53 rfl ?_
    refine e_getR i_Reader_advanceOverSymbol_54 lf_125 (by decide) ft_3_1 (fun v54 => ?_)
    refine e_aload_n i_Reader_advanceOverSymbol_57 rfl ?_
    refine e_getI i_Reader_advanceOverSymbol_58 lf_118 (by decide) (Or.inl ft_3_8) (fun v58 => ?_)
    refine e_iald i_Reader_advanceOverSymbol_61 (fun v61 => ?_)
    refine e_bipush (v := 61) i_Reader_advanceOverSymbol_62 (by decide) ?_
    refine e_icmpne (t := 71) i_Reader_advanceOverSymbol_64 (by decide) ?_ ?_
    · refine e_iconst (v := 0) i_Reader_advanceOverSymbol_71 (by decide) ?_
      refine e_istore_n (L' := [some (.ref w), some (.int 0)]) i_Reader_advanceOverSymbol_72 (of_decide_eq_true rfl) rfl ?_
      refine e_iload_n i_Reader_advanceOverSymbol_73 rfl ?_
      refine e_ifT (t := 125) i_Reader_advanceOverSymbol_74 (by decide) (by decide) ?_
      exact e_vret i_Reader_advanceOverSymbol_125 rfl
    · refine e_iconst (v := 1) i_Reader_advanceOverSymbol_67 (by decide) ?_
      refine e_goto (t := 72) i_Reader_advanceOverSymbol_68 (by decide) ?_
      refine e_istore_n (L' := [some (.ref w), some (.int 1)]) i_Reader_advanceOverSymbol_72 (of_decide_eq_true rfl) rfl ?_
      refine e_iload_n i_Reader_advanceOverSymbol_73 rfl ?_
      refine e_ifF i_Reader_advanceOverSymbol_74 (by decide) ?_
      refine e_aload_n i_Reader_advanceOverSymbol_77 rfl ?_
      refine e_getI i_Reader_advanceOverSymbol_78 lf_119 (by decide) (Or.inl ft_3_5) (fun v78 => ?_)
      refine e_bipush (v := 37) i_Reader_advanceOverSymbol_81 (by decide) ?_
      refine e_icmpeq (t := 95) i_Reader_advanceOverSymbol_83 (by decide) ?_ ?_
      · exact rfl
      · refine e_aload_n i_Reader_advanceOverSymbol_86 rfl ?_
        refine e_getI i_Reader_advanceOverSymbol_87 lf_119 (by decide) (Or.inl ft_3_5) (fun v87 => ?_)
        refine e_bipush (v := 38) i_Reader_advanceOverSymbol_90 (by decide) ?_
        refine e_icmpne (t := 125) i_Reader_advanceOverSymbol_92 (by decide) ?_ ?_
        · exact e_vret i_Reader_advanceOverSymbol_125 rfl
        · exact rfl
set_option maxRecDepth 20000 in
set_option maxHeartbeats 1000000 in
theorem E_Reader_advanceOverSymbol_95 (x : m_X) (ρ : Nat) (hρ : 6 ≤ ρ) (s : m_H) (w : Nat) (n1 : Int32)  : m_D x ρ k_Reader_advanceOverSymbol 95 [some (.ref w), some (.int n1)] [] s = (m_fI s 3 5 w).bind fun v97 => if v97 = 37 then ((m_pf s 3 5 w (.int 48)).bind fun s112 => (m_fI s112 3 8 w).bind fun v117 => (m_pf s112 3 8 w (.int (v117 + (1 : Int32)))).bind fun s122 => some (none, s122)) else (m_pf s 3 5 w (.int 49)).bind fun s112 => (m_fI s112 3 8 w).bind fun v117 => (m_pf s112 3 8 w (.int (v117 + (1 : Int32)))).bind fun s122 => some (none, s122) := by
  refine e_aload_n i_Reader_advanceOverSymbol_95 rfl ?_
  refine e_aload_n i_Reader_advanceOverSymbol_96 rfl ?_
  refine e_getI i_Reader_advanceOverSymbol_97 lf_119 (by decide) (Or.inl ft_3_5) (fun v97 => ?_)
  refine e_bipush (v := 37) i_Reader_advanceOverSymbol_100 (by decide) ?_
  refine e_icmpne (t := 110) i_Reader_advanceOverSymbol_102 (by decide) ?_ ?_
  · refine e_bipush (v := 49) i_Reader_advanceOverSymbol_110 (by decide) ?_
    refine e_putf i_Reader_advanceOverSymbol_112 lf_119 ft_3_5 rfl (fun s112 => ?_)
    refine e_aload_n i_Reader_advanceOverSymbol_115 rfl ?_
    refine e_dup i_Reader_advanceOverSymbol_116 rfl ?_
    refine e_getI i_Reader_advanceOverSymbol_117 lf_118 (by decide) (Or.inl ft_3_8) (fun v117 => ?_)
    refine e_iconst (v := 1) i_Reader_advanceOverSymbol_120 (by decide) ?_
    refine e_iadd i_Reader_advanceOverSymbol_121 ?_
    refine e_putf i_Reader_advanceOverSymbol_122 lf_118 ft_3_8 rfl (fun s122 => ?_)
    exact e_vret i_Reader_advanceOverSymbol_125 rfl
  · refine e_bipush (v := 48) i_Reader_advanceOverSymbol_105 (by decide) ?_
    refine e_goto (t := 112) i_Reader_advanceOverSymbol_107 (by decide) ?_
    refine e_putf i_Reader_advanceOverSymbol_112 lf_119 ft_3_5 rfl (fun s112 => ?_)
    refine e_aload_n i_Reader_advanceOverSymbol_115 rfl ?_
    refine e_dup i_Reader_advanceOverSymbol_116 rfl ?_
    refine e_getI i_Reader_advanceOverSymbol_117 lf_118 (by decide) (Or.inl ft_3_8) (fun v117 => ?_)
    refine e_iconst (v := 1) i_Reader_advanceOverSymbol_120 (by decide) ?_
    refine e_iadd i_Reader_advanceOverSymbol_121 ?_
    refine e_putf i_Reader_advanceOverSymbol_122 lf_118 ft_3_8 rfl (fun s122 => ?_)
    exact e_vret i_Reader_advanceOverSymbol_125 rfl
theorem i_Reader_advanceOverNumber_0 : m_at k_Reader_advanceOverNumber 0 = some (.aload_n 0, 1, 0) := m_at_of r_Reader_advanceOverNumber (by decide +kernel)
theorem i_Reader_advanceOverNumber_1 : m_at k_Reader_advanceOverNumber 1 = some (.getfield 50, 3, 123) := m_at_of r_Reader_advanceOverNumber (by decide +kernel)
theorem i_Reader_advanceOverNumber_4 : m_at k_Reader_advanceOverNumber 4 = some (.istore_n 1, 1, 0) := m_at_of r_Reader_advanceOverNumber (by decide +kernel)
theorem i_Reader_advanceOverNumber_5 : m_at k_Reader_advanceOverNumber 5 = some (.aload_n 0, 1, 0) := m_at_of r_Reader_advanceOverNumber (by decide +kernel)
theorem i_Reader_advanceOverNumber_6 : m_at k_Reader_advanceOverNumber 6 = some (.iconst 0, 1, 0) := m_at_of r_Reader_advanceOverNumber (by decide +kernel)
theorem i_Reader_advanceOverNumber_7 : m_at k_Reader_advanceOverNumber 7 = some (.putfield 76, 3, 122) := m_at_of r_Reader_advanceOverNumber (by decide +kernel)
theorem i_Reader_advanceOverNumber_10 : m_at k_Reader_advanceOverNumber 10 = some (.iload_n 1, 1, 0) := m_at_of r_Reader_advanceOverNumber (by decide +kernel)
theorem i_Reader_advanceOverNumber_11 : m_at k_Reader_advanceOverNumber 11 = some (.aload_n 0, 1, 0) := m_at_of r_Reader_advanceOverNumber (by decide +kernel)
theorem i_Reader_advanceOverNumber_12 : m_at k_Reader_advanceOverNumber 12 = some (.getfield 29, 3, 124) := m_at_of r_Reader_advanceOverNumber (by decide +kernel)
theorem i_Reader_advanceOverNumber_15 : m_at k_Reader_advanceOverNumber 15 = some (.if_icmp .ge (56), 3, 0) := m_at_of r_Reader_advanceOverNumber (by decide +kernel)
theorem i_Reader_advanceOverNumber_18 : m_at k_Reader_advanceOverNumber 18 = some (.aload_n 0, 1, 0) := m_at_of r_Reader_advanceOverNumber (by decide +kernel)
theorem i_Reader_advanceOverNumber_19 : m_at k_Reader_advanceOverNumber 19 = some (.iload_n 1, 1, 0) := m_at_of r_Reader_advanceOverNumber (by decide +kernel)
theorem i_Reader_advanceOverNumber_20 : m_at k_Reader_advanceOverNumber 20 = some (.invokevirtual 53, 3, 399) := m_at_of r_Reader_advanceOverNumber (by decide +kernel)
theorem i_Reader_advanceOverNumber_23 : m_at k_Reader_advanceOverNumber 23 = some (.ifCond .eq (48), 3, 0) := m_at_of r_Reader_advanceOverNumber (by decide +kernel)
theorem i_Reader_advanceOverNumber_26 : m_at k_Reader_advanceOverNumber 26 = some (.aload_n 0, 1, 0) := m_at_of r_Reader_advanceOverNumber (by decide +kernel)
theorem i_Reader_advanceOverNumber_27 : m_at k_Reader_advanceOverNumber 27 = some (.getfield 18, 3, 125) := m_at_of r_Reader_advanceOverNumber (by decide +kernel)
theorem i_Reader_advanceOverNumber_30 : m_at k_Reader_advanceOverNumber 30 = some (.iload_n 1, 1, 0) := m_at_of r_Reader_advanceOverNumber (by decide +kernel)
theorem i_Reader_advanceOverNumber_31 : m_at k_Reader_advanceOverNumber 31 = some (.iaload, 1, 0) := m_at_of r_Reader_advanceOverNumber (by decide +kernel)
theorem i_Reader_advanceOverNumber_32 : m_at k_Reader_advanceOverNumber 32 = some (.invokestatic 63, 3, 402) := m_at_of r_Reader_advanceOverNumber (by decide +kernel)
theorem i_Reader_advanceOverNumber_35 : m_at k_Reader_advanceOverNumber 35 = some (.ifCond .eq (36), 3, 0) := m_at_of r_Reader_advanceOverNumber (by decide +kernel)
theorem i_Reader_advanceOverNumber_38 : m_at k_Reader_advanceOverNumber 38 = some (.aload_n 0, 1, 0) := m_at_of r_Reader_advanceOverNumber (by decide +kernel)
theorem i_Reader_advanceOverNumber_39 : m_at k_Reader_advanceOverNumber 39 = some (.aload_n 0, 1, 0) := m_at_of r_Reader_advanceOverNumber (by decide +kernel)
theorem i_Reader_advanceOverNumber_40 : m_at k_Reader_advanceOverNumber 40 = some (.getfield 76, 3, 122) := m_at_of r_Reader_advanceOverNumber (by decide +kernel)
theorem i_Reader_advanceOverNumber_43 : m_at k_Reader_advanceOverNumber 43 = some (.bipush 10, 2, 0) := m_at_of r_Reader_advanceOverNumber (by decide +kernel)
theorem i_Reader_advanceOverNumber_45 : m_at k_Reader_advanceOverNumber 45 = some (.imul, 1, 0) := m_at_of r_Reader_advanceOverNumber (by decide +kernel)
theorem i_Reader_advanceOverNumber_46 : m_at k_Reader_advanceOverNumber 46 = some (.aload_n 0, 1, 0) := m_at_of r_Reader_advanceOverNumber (by decide +kernel)
theorem i_Reader_advanceOverNumber_47 : m_at k_Reader_advanceOverNumber 47 = some (.getfield 18, 3, 125) := m_at_of r_Reader_advanceOverNumber (by decide +kernel)
theorem i_Reader_advanceOverNumber_50 : m_at k_Reader_advanceOverNumber 50 = some (.iload_n 1, 1, 0) := m_at_of r_Reader_advanceOverNumber (by decide +kernel)
theorem i_Reader_advanceOverNumber_51 : m_at k_Reader_advanceOverNumber 51 = some (.iaload, 1, 0) := m_at_of r_Reader_advanceOverNumber (by decide +kernel)
theorem i_Reader_advanceOverNumber_52 : m_at k_Reader_advanceOverNumber 52 = some (.iadd, 1, 0) := m_at_of r_Reader_advanceOverNumber (by decide +kernel)
theorem i_Reader_advanceOverNumber_53 : m_at k_Reader_advanceOverNumber 53 = some (.bipush 48, 2, 0) := m_at_of r_Reader_advanceOverNumber (by decide +kernel)
theorem i_Reader_advanceOverNumber_55 : m_at k_Reader_advanceOverNumber 55 = some (.isub, 1, 0) := m_at_of r_Reader_advanceOverNumber (by decide +kernel)
theorem i_Reader_advanceOverNumber_56 : m_at k_Reader_advanceOverNumber 56 = some (.sipush 10000, 3, 0) := m_at_of r_Reader_advanceOverNumber (by decide +kernel)
theorem i_Reader_advanceOverNumber_59 : m_at k_Reader_advanceOverNumber 59 = some (.invokestatic 79, 3, 415) := m_at_of r_Reader_advanceOverNumber (by decide +kernel)
theorem i_Reader_advanceOverNumber_62 : m_at k_Reader_advanceOverNumber 62 = some (.putfield 76, 3, 122) := m_at_of r_Reader_advanceOverNumber (by decide +kernel)
theorem i_Reader_advanceOverNumber_65 : m_at k_Reader_advanceOverNumber 65 = some (.iinc 1 (1), 3, 0) := m_at_of r_Reader_advanceOverNumber (by decide +kernel)
theorem i_Reader_advanceOverNumber_68 : m_at k_Reader_advanceOverNumber 68 = some (.goto (-58), 3, 0) := m_at_of r_Reader_advanceOverNumber (by decide +kernel)
theorem i_Reader_advanceOverNumber_71 : m_at k_Reader_advanceOverNumber 71 = some (.aload_n 0, 1, 0) := m_at_of r_Reader_advanceOverNumber (by decide +kernel)
theorem i_Reader_advanceOverNumber_72 : m_at k_Reader_advanceOverNumber 72 = some (.iload_n 1, 1, 0) := m_at_of r_Reader_advanceOverNumber (by decide +kernel)
theorem i_Reader_advanceOverNumber_73 : m_at k_Reader_advanceOverNumber 73 = some (.putfield 35, 3, 118) := m_at_of r_Reader_advanceOverNumber (by decide +kernel)
theorem i_Reader_advanceOverNumber_76 : m_at k_Reader_advanceOverNumber 76 = some (.aload_n 0, 1, 0) := m_at_of r_Reader_advanceOverNumber (by decide +kernel)
theorem i_Reader_advanceOverNumber_77 : m_at k_Reader_advanceOverNumber 77 = some (.bipush 51, 2, 0) := m_at_of r_Reader_advanceOverNumber (by decide +kernel)
theorem i_Reader_advanceOverNumber_79 : m_at k_Reader_advanceOverNumber 79 = some (.putfield 41, 3, 119) := m_at_of r_Reader_advanceOverNumber (by decide +kernel)
theorem i_Reader_advanceOverNumber_82 : m_at k_Reader_advanceOverNumber 82 = some (.return_, 1, 0) := m_at_of r_Reader_advanceOverNumber (by decide +kernel)
set_option maxRecDepth 20000 in
set_option maxHeartbeats 1000000 in
theorem E_Reader_advanceOverNumber (x : m_X) (s : m_H) (w : Nat) : m_M x k_Reader_advanceOverNumber [.ref w] s = if m_isO s w 3 = true then ((m_fI s 3 7 w).bind fun v1 => (m_pf s 3 6 w (.int 0)).bind fun s7 => m_D x 2 k_Reader_advanceOverNumber 10 [some (.ref w), some (.int v1)] [] s7) else none := by
  refine e_M1 (L0 := [some (.ref w), none]) rfl (by decide +kernel) rfl (q_Reader_advanceOverNumber _) rfl ?_
  refine e_aload_n i_Reader_advanceOverNumber_0 rfl ?_
  refine e_getI i_Reader_advanceOverNumber_1 lf_123 (by decide) (Or.inl ft_3_7) (fun v1 => ?_)
  refine e_istore_n (L' := [some (.ref w), some (.int v1)]) i_Reader_advanceOverNumber_4 (of_decide_eq_true rfl) rfl ?_
  refine e_aload_n i_Reader_advanceOverNumber_5 rfl ?_
  refine e_iconst (v := 0) i_Reader_advanceOverNumber_6 (by decide) ?_
  refine e_putf i_Reader_advanceOverNumber_7 lf_122 ft_3_6 rfl (fun s7 => ?_)
  exact rfl
set_option maxRecDepth 20000 in
set_option maxHeartbeats 1000000 in
theorem E_Reader_advanceOverNumber_10 (x : m_X) (ρ : Nat) (hρ : 2 ≤ ρ) (s : m_H) (w : Nat) (n1 : Int32)  : m_D x ρ k_Reader_advanceOverNumber 10 [some (.ref w), some (.int n1)] [] s = (m_fI s 3 2 w).bind fun v12 => if v12 ≤ n1 then ((m_pf s 3 8 w (.int n1)).bind fun s73 => (m_pf s73 3 5 w (.int 51)).bind fun s79 => some (none, s79)) else m_bI (m_M x k_Reader_isTapeAt [.ref w, .int n1] s) fun v20 s20 => if v20 = 0 then ((m_pf s20 3 8 w (.int n1)).bind fun s73 => (m_pf s73 3 5 w (.int 51)).bind fun s79 => some (none, s79)) else (m_fR s20 3 1 w).bind fun v27 => (m_ia x s20 v27 n1).bind fun v31 => m_bI (m_M x k_Reader_isDigit [.int v31] s20) fun v32 s32 => if v32 = 0 then ((m_pf s32 3 8 w (.int n1)).bind fun s73 => (m_pf s73 3 5 w (.int 51)).bind fun s79 => some (none, s79)) else (m_fI s32 3 6 w).bind fun v40 => (m_fR s32 3 1 w).bind fun v47 => (m_ia x s32 v47 n1).bind fun v51 => m_bI (m_M x k_Math_min_II [.int (((v40 * (10 : Int32)) + v51) - (48 : Int32)), .int 10000] s32) fun v59 s59 => (m_pf s59 3 6 w (.int v59)).bind fun s62 => m_D x ρ k_Reader_advanceOverNumber 10 [some (.ref w), some (.int (n1 + (1 : Int32)))] [] s62 := by
  refine e_iload_n i_Reader_advanceOverNumber_10 rfl ?_
  refine e_aload_n i_Reader_advanceOverNumber_11 rfl ?_
  refine e_getI i_Reader_advanceOverNumber_12 lf_124 (by decide) (Or.inl ft_3_2) (fun v12 => ?_)
  refine e_icmpge (t := 71) i_Reader_advanceOverNumber_15 (by decide) ?_ ?_
  · refine e_aload_n i_Reader_advanceOverNumber_71 rfl ?_
    refine e_iload_n i_Reader_advanceOverNumber_72 rfl ?_
    refine e_putf i_Reader_advanceOverNumber_73 lf_118 ft_3_8 rfl (fun s73 => ?_)
    refine e_aload_n i_Reader_advanceOverNumber_76 rfl ?_
    refine e_bipush (v := 51) i_Reader_advanceOverNumber_77 (by decide) ?_
    refine e_putf i_Reader_advanceOverNumber_79 lf_119 ft_3_5 rfl (fun s79 => ?_)
    exact e_vret i_Reader_advanceOverNumber_82 rfl
  · refine e_aload_n i_Reader_advanceOverNumber_18 rfl ?_
    refine e_iload_n i_Reader_advanceOverNumber_19 rfl ?_
    refine e_callI (as := [.ref w, .int n1]) (st' := []) i_Reader_advanceOverNumber_20 lm_399 (Or.inr (Or.inl ⟨rfl, rfl⟩)) w_Reader_isTapeAt rfl rfl rfl (Nat.le_of_ble_eq_true rfl) (Nat.le_of_ble_eq_true rfl) (m_rlt (q_Reader_isTapeAt _) (Nat.lt_of_lt_of_le (by decide) hρ)) rfl (fun v20 s20 => ?_)
    refine e_ifeq (t := 71) i_Reader_advanceOverNumber_23 (by decide) ?_ ?_
    · refine e_aload_n i_Reader_advanceOverNumber_71 rfl ?_
      refine e_iload_n i_Reader_advanceOverNumber_72 rfl ?_
      refine e_putf i_Reader_advanceOverNumber_73 lf_118 ft_3_8 rfl (fun s73 => ?_)
      refine e_aload_n i_Reader_advanceOverNumber_76 rfl ?_
      refine e_bipush (v := 51) i_Reader_advanceOverNumber_77 (by decide) ?_
      refine e_putf i_Reader_advanceOverNumber_79 lf_119 ft_3_5 rfl (fun s79 => ?_)
      exact e_vret i_Reader_advanceOverNumber_82 rfl
    · refine e_aload_n i_Reader_advanceOverNumber_26 rfl ?_
      refine e_getR i_Reader_advanceOverNumber_27 lf_125 (by decide) ft_3_1 (fun v27 => ?_)
      refine e_iload_n i_Reader_advanceOverNumber_30 rfl ?_
      refine e_iald i_Reader_advanceOverNumber_31 (fun v31 => ?_)
      refine e_callI (as := [.int v31]) (st' := []) i_Reader_advanceOverNumber_32 lm_402 (Or.inl ⟨rfl, rfl⟩) w_Reader_isDigit rfl rfl rfl (Nat.le_of_ble_eq_true rfl) (Nat.le_of_ble_eq_true rfl) (m_rlt (q_Reader_isDigit _) (Nat.lt_of_lt_of_le (by decide) hρ)) rfl (fun v32 s32 => ?_)
      refine e_ifeq (t := 71) i_Reader_advanceOverNumber_35 (by decide) ?_ ?_
      · refine e_aload_n i_Reader_advanceOverNumber_71 rfl ?_
        refine e_iload_n i_Reader_advanceOverNumber_72 rfl ?_
        refine e_putf i_Reader_advanceOverNumber_73 lf_118 ft_3_8 rfl (fun s73 => ?_)
        refine e_aload_n i_Reader_advanceOverNumber_76 rfl ?_
        refine e_bipush (v := 51) i_Reader_advanceOverNumber_77 (by decide) ?_
        refine e_putf i_Reader_advanceOverNumber_79 lf_119 ft_3_5 rfl (fun s79 => ?_)
        exact e_vret i_Reader_advanceOverNumber_82 rfl
      · refine e_aload_n i_Reader_advanceOverNumber_38 rfl ?_
        refine e_aload_n i_Reader_advanceOverNumber_39 rfl ?_
        refine e_getI i_Reader_advanceOverNumber_40 lf_122 (by decide) (Or.inl ft_3_6) (fun v40 => ?_)
        refine e_bipush (v := 10) i_Reader_advanceOverNumber_43 (by decide) ?_
        refine e_imul i_Reader_advanceOverNumber_45 ?_
        refine e_aload_n i_Reader_advanceOverNumber_46 rfl ?_
        refine e_getR i_Reader_advanceOverNumber_47 lf_125 (by decide) ft_3_1 (fun v47 => ?_)
        refine e_iload_n i_Reader_advanceOverNumber_50 rfl ?_
        refine e_iald i_Reader_advanceOverNumber_51 (fun v51 => ?_)
        refine e_iadd i_Reader_advanceOverNumber_52 ?_
        refine e_bipush (v := 48) i_Reader_advanceOverNumber_53 (by decide) ?_
        refine e_isub i_Reader_advanceOverNumber_55 ?_
        refine e_sipush (v := 10000) i_Reader_advanceOverNumber_56 (by decide) ?_
        refine e_callI (as := [.int (((v40 * (10 : Int32)) + v51) - (48 : Int32)), .int 10000]) (st' := [.ref w]) i_Reader_advanceOverNumber_59 lm_415 (Or.inl ⟨rfl, rfl⟩) w_Math_min_II rfl rfl rfl (Nat.le_of_ble_eq_true rfl) (Nat.le_of_ble_eq_true rfl) (m_rlt (q_Math_min_II _) (Nat.lt_of_lt_of_le (by decide) hρ)) rfl (fun v59 s59 => ?_)
        refine e_putf i_Reader_advanceOverNumber_62 lf_122 ft_3_6 rfl (fun s62 => ?_)
        refine e_iinc (w := 1) (L' := [some (.ref w), some (.int (n1 + (1 : Int32)))]) i_Reader_advanceOverNumber_65 rfl (of_decide_eq_true rfl) (by decide) rfl ?_
        refine e_goto (t := 10) i_Reader_advanceOverNumber_68 (by decide) ?_
        exact rfl
theorem i_Reader_isDigit_0 : m_at k_Reader_isDigit 0 = some (.iload_n 0, 1, 0) := m_at_of r_Reader_isDigit (by decide +kernel)
theorem i_Reader_isDigit_1 : m_at k_Reader_isDigit 1 = some (.bipush 48, 2, 0) := m_at_of r_Reader_isDigit (by decide +kernel)
theorem i_Reader_isDigit_3 : m_at k_Reader_isDigit 3 = some (.if_icmp .lt (13), 3, 0) := m_at_of r_Reader_isDigit (by decide +kernel)
theorem i_Reader_isDigit_6 : m_at k_Reader_isDigit 6 = some (.iload_n 0, 1, 0) := m_at_of r_Reader_isDigit (by decide +kernel)
theorem i_Reader_isDigit_7 : m_at k_Reader_isDigit 7 = some (.bipush 57, 2, 0) := m_at_of r_Reader_isDigit (by decide +kernel)
theorem i_Reader_isDigit_9 : m_at k_Reader_isDigit 9 = some (.if_icmp .gt (7), 3, 0) := m_at_of r_Reader_isDigit (by decide +kernel)
theorem i_Reader_isDigit_12 : m_at k_Reader_isDigit 12 = some (.iconst 1, 1, 0) := m_at_of r_Reader_isDigit (by decide +kernel)
theorem i_Reader_isDigit_13 : m_at k_Reader_isDigit 13 = some (.goto (4), 3, 0) := m_at_of r_Reader_isDigit (by decide +kernel)
theorem i_Reader_isDigit_16 : m_at k_Reader_isDigit 16 = some (.iconst 0, 1, 0) := m_at_of r_Reader_isDigit (by decide +kernel)
theorem i_Reader_isDigit_17 : m_at k_Reader_isDigit 17 = some (.ireturn, 1, 0) := m_at_of r_Reader_isDigit (by decide +kernel)
set_option maxRecDepth 20000 in
set_option maxHeartbeats 1000000 in
theorem E_Reader_isDigit (x : m_X) (s : m_H) (n0 : Int32) : m_M x k_Reader_isDigit [.int n0] s = if n0 < 48 then (some (some (.int 0), s)) else if 57 < n0 then (some (some (.int 0), s)) else some (some (.int 1), s) := by
  refine e_M0 (L0 := [some (.int n0)]) rfl (q_Reader_isDigit _) rfl ?_
  refine e_iload_n i_Reader_isDigit_0 rfl ?_
  refine e_bipush (v := 48) i_Reader_isDigit_1 (by decide) ?_
  refine e_icmplt (t := 16) i_Reader_isDigit_3 (by decide) ?_ ?_
  · refine e_iconst (v := 0) i_Reader_isDigit_16 (by decide) ?_
    exact e_iretZ i_Reader_isDigit_17 rfl (by decide)
  · refine e_iload_n i_Reader_isDigit_6 rfl ?_
    refine e_bipush (v := 57) i_Reader_isDigit_7 (by decide) ?_
    refine e_icmpgt (t := 16) i_Reader_isDigit_9 (by decide) ?_ ?_
    · refine e_iconst (v := 0) i_Reader_isDigit_16 (by decide) ?_
      exact e_iretZ i_Reader_isDigit_17 rfl (by decide)
    · refine e_iconst (v := 1) i_Reader_isDigit_12 (by decide) ?_
      refine e_goto (t := 17) i_Reader_isDigit_13 (by decide) ?_
      exact e_iretZ i_Reader_isDigit_17 rfl (by decide)
theorem i_Reader_advanceOverWord_0 : m_at k_Reader_advanceOverWord 0 = some (.aload_n 0, 1, 0) := m_at_of r_Reader_advanceOverWord (by decide +kernel)
theorem i_Reader_advanceOverWord_1 : m_at k_Reader_advanceOverWord 1 = some (.getfield 50, 3, 123) := m_at_of r_Reader_advanceOverWord (by decide +kernel)
theorem i_Reader_advanceOverWord_4 : m_at k_Reader_advanceOverWord 4 = some (.istore_n 1, 1, 0) := m_at_of r_Reader_advanceOverWord (by decide +kernel)
theorem i_Reader_advanceOverWord_5 : m_at k_Reader_advanceOverWord 5 = some (.iload_n 1, 1, 0) := m_at_of r_Reader_advanceOverWord (by decide +kernel)
theorem i_Reader_advanceOverWord_6 : m_at k_Reader_advanceOverWord 6 = some (.aload_n 0, 1, 0) := m_at_of r_Reader_advanceOverWord (by decide +kernel)
theorem i_Reader_advanceOverWord_7 : m_at k_Reader_advanceOverWord 7 = some (.getfield 29, 3, 124) := m_at_of r_Reader_advanceOverWord (by decide +kernel)
theorem i_Reader_advanceOverWord_10 : m_at k_Reader_advanceOverWord 10 = some (.if_icmp .ge (29), 3, 0) := m_at_of r_Reader_advanceOverWord (by decide +kernel)
theorem i_Reader_advanceOverWord_13 : m_at k_Reader_advanceOverWord 13 = some (.aload_n 0, 1, 0) := m_at_of r_Reader_advanceOverWord (by decide +kernel)
theorem i_Reader_advanceOverWord_14 : m_at k_Reader_advanceOverWord 14 = some (.iload_n 1, 1, 0) := m_at_of r_Reader_advanceOverWord (by decide +kernel)
theorem i_Reader_advanceOverWord_15 : m_at k_Reader_advanceOverWord 15 = some (.invokevirtual 53, 3, 399) := m_at_of r_Reader_advanceOverWord (by decide +kernel)
theorem i_Reader_advanceOverWord_18 : m_at k_Reader_advanceOverWord 18 = some (.ifCond .eq (21), 3, 0) := m_at_of r_Reader_advanceOverWord (by decide +kernel)
theorem i_Reader_advanceOverWord_21 : m_at k_Reader_advanceOverWord 21 = some (.aload_n 0, 1, 0) := m_at_of r_Reader_advanceOverWord (by decide +kernel)
theorem i_Reader_advanceOverWord_22 : m_at k_Reader_advanceOverWord 22 = some (.getfield 18, 3, 125) := m_at_of r_Reader_advanceOverWord (by decide +kernel)
theorem i_Reader_advanceOverWord_25 : m_at k_Reader_advanceOverWord 25 = some (.iload_n 1, 1, 0) := m_at_of r_Reader_advanceOverWord (by decide +kernel)
theorem i_Reader_advanceOverWord_26 : m_at k_Reader_advanceOverWord 26 = some (.iaload, 1, 0) := m_at_of r_Reader_advanceOverWord (by decide +kernel)
theorem i_Reader_advanceOverWord_27 : m_at k_Reader_advanceOverWord 27 = some (.invokestatic 57, 3, 400) := m_at_of r_Reader_advanceOverWord (by decide +kernel)
theorem i_Reader_advanceOverWord_30 : m_at k_Reader_advanceOverWord 30 = some (.ifCond .eq (9), 3, 0) := m_at_of r_Reader_advanceOverWord (by decide +kernel)
theorem i_Reader_advanceOverWord_33 : m_at k_Reader_advanceOverWord 33 = some (.iinc 1 (1), 3, 0) := m_at_of r_Reader_advanceOverWord (by decide +kernel)
theorem i_Reader_advanceOverWord_36 : m_at k_Reader_advanceOverWord 36 = some (.goto (-31), 3, 0) := m_at_of r_Reader_advanceOverWord (by decide +kernel)
theorem i_Reader_advanceOverWord_39 : m_at k_Reader_advanceOverWord 39 = some (.aload_n 0, 1, 0) := m_at_of r_Reader_advanceOverWord (by decide +kernel)
theorem i_Reader_advanceOverWord_40 : m_at k_Reader_advanceOverWord 40 = some (.iload_n 1, 1, 0) := m_at_of r_Reader_advanceOverWord (by decide +kernel)
theorem i_Reader_advanceOverWord_41 : m_at k_Reader_advanceOverWord 41 = some (.putfield 35, 3, 118) := m_at_of r_Reader_advanceOverWord (by decide +kernel)
theorem i_Reader_advanceOverWord_44 : m_at k_Reader_advanceOverWord 44 = some (.aload_n 0, 1, 0) := m_at_of r_Reader_advanceOverWord (by decide +kernel)
theorem i_Reader_advanceOverWord_45 : m_at k_Reader_advanceOverWord 45 = some (.aload_n 0, 1, 0) := m_at_of r_Reader_advanceOverWord (by decide +kernel)
theorem i_Reader_advanceOverWord_46 : m_at k_Reader_advanceOverWord 46 = some (.getfield 18, 3, 125) := m_at_of r_Reader_advanceOverWord (by decide +kernel)
theorem i_Reader_advanceOverWord_49 : m_at k_Reader_advanceOverWord 49 = some (.aload_n 0, 1, 0) := m_at_of r_Reader_advanceOverWord (by decide +kernel)
theorem i_Reader_advanceOverWord_50 : m_at k_Reader_advanceOverWord 50 = some (.getfield 50, 3, 123) := m_at_of r_Reader_advanceOverWord (by decide +kernel)
theorem i_Reader_advanceOverWord_53 : m_at k_Reader_advanceOverWord 53 = some (.iload_n 1, 1, 0) := m_at_of r_Reader_advanceOverWord (by decide +kernel)
theorem i_Reader_advanceOverWord_54 : m_at k_Reader_advanceOverWord 54 = some (.invokestatic 72, 3, 416) := m_at_of r_Reader_advanceOverWord (by decide +kernel)
theorem i_Reader_advanceOverWord_57 : m_at k_Reader_advanceOverWord 57 = some (.putfield 41, 3, 119) := m_at_of r_Reader_advanceOverWord (by decide +kernel)
theorem i_Reader_advanceOverWord_60 : m_at k_Reader_advanceOverWord 60 = some (.return_, 1, 0) := m_at_of r_Reader_advanceOverWord (by decide +kernel)
set_option maxRecDepth 20000 in
set_option maxHeartbeats 1000000 in
theorem E_Reader_advanceOverWord (x : m_X) (s : m_H) (w : Nat) : m_M x k_Reader_advanceOverWord [.ref w] s = if m_isO s w 3 = true then ((m_fI s 3 7 w).bind fun v1 => m_D x 6 k_Reader_advanceOverWord 5 [some (.ref w), some (.int v1)] [] s) else none := by
  refine e_M1 (L0 := [some (.ref w), none]) rfl (by decide +kernel) rfl (q_Reader_advanceOverWord _) rfl ?_
  refine e_aload_n i_Reader_advanceOverWord_0 rfl ?_
  refine e_getI i_Reader_advanceOverWord_1 lf_123 (by decide) (Or.inl ft_3_7) (fun v1 => ?_)
  refine e_istore_n (L' := [some (.ref w), some (.int v1)]) i_Reader_advanceOverWord_4 (of_decide_eq_true rfl) rfl ?_
  exact rfl
set_option maxRecDepth 20000 in
set_option maxHeartbeats 1000000 in
theorem E_Reader_advanceOverWord_5 (x : m_X) (ρ : Nat) (hρ : 6 ≤ ρ) (s : m_H) (w : Nat) (n1 : Int32)  : m_D x ρ k_Reader_advanceOverWord 5 [some (.ref w), some (.int n1)] [] s = (m_fI s 3 2 w).bind fun v7 => if v7 ≤ n1 then ((m_pf s 3 8 w (.int n1)).bind fun s41 => (m_fR s41 3 1 w).bind fun v46 => (m_fI s41 3 7 w).bind fun v50 => m_bI (m_M x k_Words_wordOf [.ref v46, .int v50, .int n1] s41) fun v54 s54 => (m_pf s54 3 5 w (.int v54)).bind fun s57 => some (none, s57)) else m_bI (m_M x k_Reader_isTapeAt [.ref w, .int n1] s) fun v15 s15 => if v15 = 0 then ((m_pf s15 3 8 w (.int n1)).bind fun s41 => (m_fR s41 3 1 w).bind fun v46 => (m_fI s41 3 7 w).bind fun v50 => m_bI (m_M x k_Words_wordOf [.ref v46, .int v50, .int n1] s41) fun v54 s54 => (m_pf s54 3 5 w (.int v54)).bind fun s57 => some (none, s57)) else (m_fR s15 3 1 w).bind fun v22 => (m_ia x s15 v22 n1).bind fun v26 => m_bI (m_M x k_Reader_isLetter [.int v26] s15) fun v27 s27 => if v27 = 0 then ((m_pf s27 3 8 w (.int n1)).bind fun s41 => (m_fR s41 3 1 w).bind fun v46 => (m_fI s41 3 7 w).bind fun v50 => m_bI (m_M x k_Words_wordOf [.ref v46, .int v50, .int n1] s41) fun v54 s54 => (m_pf s54 3 5 w (.int v54)).bind fun s57 => some (none, s57)) else m_D x ρ k_Reader_advanceOverWord 5 [some (.ref w), some (.int (n1 + (1 : Int32)))] [] s27 := by
  refine e_iload_n i_Reader_advanceOverWord_5 rfl ?_
  refine e_aload_n i_Reader_advanceOverWord_6 rfl ?_
  refine e_getI i_Reader_advanceOverWord_7 lf_124 (by decide) (Or.inl ft_3_2) (fun v7 => ?_)
  refine e_icmpge (t := 39) i_Reader_advanceOverWord_10 (by decide) ?_ ?_
  · refine e_aload_n i_Reader_advanceOverWord_39 rfl ?_
    refine e_iload_n i_Reader_advanceOverWord_40 rfl ?_
    refine e_putf i_Reader_advanceOverWord_41 lf_118 ft_3_8 rfl (fun s41 => ?_)
    refine e_aload_n i_Reader_advanceOverWord_44 rfl ?_
    refine e_aload_n i_Reader_advanceOverWord_45 rfl ?_
    refine e_getR i_Reader_advanceOverWord_46 lf_125 (by decide) ft_3_1 (fun v46 => ?_)
    refine e_aload_n i_Reader_advanceOverWord_49 rfl ?_
    refine e_getI i_Reader_advanceOverWord_50 lf_123 (by decide) (Or.inl ft_3_7) (fun v50 => ?_)
    refine e_iload_n i_Reader_advanceOverWord_53 rfl ?_
    refine e_callI (as := [.ref v46, .int v50, .int n1]) (st' := [.ref w]) i_Reader_advanceOverWord_54 lm_416 (Or.inl ⟨rfl, rfl⟩) w_Words_wordOf rfl rfl rfl (Nat.le_of_ble_eq_true rfl) (Nat.le_of_ble_eq_true rfl) (m_rlt (q_Words_wordOf _) (Nat.lt_of_lt_of_le (by decide) hρ)) rfl (fun v54 s54 => ?_)
    refine e_putf i_Reader_advanceOverWord_57 lf_119 ft_3_5 rfl (fun s57 => ?_)
    exact e_vret i_Reader_advanceOverWord_60 rfl
  · refine e_aload_n i_Reader_advanceOverWord_13 rfl ?_
    refine e_iload_n i_Reader_advanceOverWord_14 rfl ?_
    refine e_callI (as := [.ref w, .int n1]) (st' := []) i_Reader_advanceOverWord_15 lm_399 (Or.inr (Or.inl ⟨rfl, rfl⟩)) w_Reader_isTapeAt rfl rfl rfl (Nat.le_of_ble_eq_true rfl) (Nat.le_of_ble_eq_true rfl) (m_rlt (q_Reader_isTapeAt _) (Nat.lt_of_lt_of_le (by decide) hρ)) rfl (fun v15 s15 => ?_)
    refine e_ifeq (t := 39) i_Reader_advanceOverWord_18 (by decide) ?_ ?_
    · refine e_aload_n i_Reader_advanceOverWord_39 rfl ?_
      refine e_iload_n i_Reader_advanceOverWord_40 rfl ?_
      refine e_putf i_Reader_advanceOverWord_41 lf_118 ft_3_8 rfl (fun s41 => ?_)
      refine e_aload_n i_Reader_advanceOverWord_44 rfl ?_
      refine e_aload_n i_Reader_advanceOverWord_45 rfl ?_
      refine e_getR i_Reader_advanceOverWord_46 lf_125 (by decide) ft_3_1 (fun v46 => ?_)
      refine e_aload_n i_Reader_advanceOverWord_49 rfl ?_
      refine e_getI i_Reader_advanceOverWord_50 lf_123 (by decide) (Or.inl ft_3_7) (fun v50 => ?_)
      refine e_iload_n i_Reader_advanceOverWord_53 rfl ?_
      refine e_callI (as := [.ref v46, .int v50, .int n1]) (st' := [.ref w]) i_Reader_advanceOverWord_54 lm_416 (Or.inl ⟨rfl, rfl⟩) w_Words_wordOf rfl rfl rfl (Nat.le_of_ble_eq_true rfl) (Nat.le_of_ble_eq_true rfl) (m_rlt (q_Words_wordOf _) (Nat.lt_of_lt_of_le (by decide) hρ)) rfl (fun v54 s54 => ?_)
      refine e_putf i_Reader_advanceOverWord_57 lf_119 ft_3_5 rfl (fun s57 => ?_)
      exact e_vret i_Reader_advanceOverWord_60 rfl
    · refine e_aload_n i_Reader_advanceOverWord_21 rfl ?_
      refine e_getR i_Reader_advanceOverWord_22 lf_125 (by decide) ft_3_1 (fun v22 => ?_)
      refine e_iload_n i_Reader_advanceOverWord_25 rfl ?_
      refine e_iald i_Reader_advanceOverWord_26 (fun v26 => ?_)
      refine e_callI (as := [.int v26]) (st' := []) i_Reader_advanceOverWord_27 lm_400 (Or.inl ⟨rfl, rfl⟩) w_Reader_isLetter rfl rfl rfl (Nat.le_of_ble_eq_true rfl) (Nat.le_of_ble_eq_true rfl) (m_rlt (q_Reader_isLetter _) (Nat.lt_of_lt_of_le (by decide) hρ)) rfl (fun v27 s27 => ?_)
      refine e_ifeq (t := 39) i_Reader_advanceOverWord_30 (by decide) ?_ ?_
      · refine e_aload_n i_Reader_advanceOverWord_39 rfl ?_
        refine e_iload_n i_Reader_advanceOverWord_40 rfl ?_
        refine e_putf i_Reader_advanceOverWord_41 lf_118 ft_3_8 rfl (fun s41 => ?_)
        refine e_aload_n i_Reader_advanceOverWord_44 rfl ?_
        refine e_aload_n i_Reader_advanceOverWord_45 rfl ?_
        refine e_getR i_Reader_advanceOverWord_46 lf_125 (by decide) ft_3_1 (fun v46 => ?_)
        refine e_aload_n i_Reader_advanceOverWord_49 rfl ?_
        refine e_getI i_Reader_advanceOverWord_50 lf_123 (by decide) (Or.inl ft_3_7) (fun v50 => ?_)
        refine e_iload_n i_Reader_advanceOverWord_53 rfl ?_
        refine e_callI (as := [.ref v46, .int v50, .int n1]) (st' := [.ref w]) i_Reader_advanceOverWord_54 lm_416 (Or.inl ⟨rfl, rfl⟩) w_Words_wordOf rfl rfl rfl (Nat.le_of_ble_eq_true rfl) (Nat.le_of_ble_eq_true rfl) (m_rlt (q_Words_wordOf _) (Nat.lt_of_lt_of_le (by decide) hρ)) rfl (fun v54 s54 => ?_)
        refine e_putf i_Reader_advanceOverWord_57 lf_119 ft_3_5 rfl (fun s57 => ?_)
        exact e_vret i_Reader_advanceOverWord_60 rfl
      · refine e_iinc (w := 1) (L' := [some (.ref w), some (.int (n1 + (1 : Int32)))]) i_Reader_advanceOverWord_33 rfl (of_decide_eq_true rfl) (by decide) rfl ?_
        refine e_goto (t := 5) i_Reader_advanceOverWord_36 (by decide) ?_
        exact rfl
theorem i_Reader_isLetter_0 : m_at k_Reader_isLetter 0 = some (.iload_n 0, 1, 0) := m_at_of r_Reader_isLetter (by decide +kernel)
theorem i_Reader_isLetter_1 : m_at k_Reader_isLetter 1 = some (.bipush 97, 2, 0) := m_at_of r_Reader_isLetter (by decide +kernel)
theorem i_Reader_isLetter_3 : m_at k_Reader_isLetter 3 = some (.if_icmp .lt (9), 3, 0) := m_at_of r_Reader_isLetter (by decide +kernel)
theorem i_Reader_isLetter_6 : m_at k_Reader_isLetter 6 = some (.iload_n 0, 1, 0) := m_at_of r_Reader_isLetter (by decide +kernel)
theorem i_Reader_isLetter_7 : m_at k_Reader_isLetter 7 = some (.bipush 122, 2, 0) := m_at_of r_Reader_isLetter (by decide +kernel)
theorem i_Reader_isLetter_9 : m_at k_Reader_isLetter 9 = some (.if_icmp .le (15), 3, 0) := m_at_of r_Reader_isLetter (by decide +kernel)
theorem i_Reader_isLetter_12 : m_at k_Reader_isLetter 12 = some (.iload_n 0, 1, 0) := m_at_of r_Reader_isLetter (by decide +kernel)
theorem i_Reader_isLetter_13 : m_at k_Reader_isLetter 13 = some (.bipush 65, 2, 0) := m_at_of r_Reader_isLetter (by decide +kernel)
theorem i_Reader_isLetter_15 : m_at k_Reader_isLetter 15 = some (.if_icmp .lt (13), 3, 0) := m_at_of r_Reader_isLetter (by decide +kernel)
theorem i_Reader_isLetter_18 : m_at k_Reader_isLetter 18 = some (.iload_n 0, 1, 0) := m_at_of r_Reader_isLetter (by decide +kernel)
theorem i_Reader_isLetter_19 : m_at k_Reader_isLetter 19 = some (.bipush 90, 2, 0) := m_at_of r_Reader_isLetter (by decide +kernel)
theorem i_Reader_isLetter_21 : m_at k_Reader_isLetter 21 = some (.if_icmp .gt (7), 3, 0) := m_at_of r_Reader_isLetter (by decide +kernel)
theorem i_Reader_isLetter_24 : m_at k_Reader_isLetter 24 = some (.iconst 1, 1, 0) := m_at_of r_Reader_isLetter (by decide +kernel)
theorem i_Reader_isLetter_25 : m_at k_Reader_isLetter 25 = some (.goto (4), 3, 0) := m_at_of r_Reader_isLetter (by decide +kernel)
theorem i_Reader_isLetter_28 : m_at k_Reader_isLetter 28 = some (.iconst 0, 1, 0) := m_at_of r_Reader_isLetter (by decide +kernel)
theorem i_Reader_isLetter_29 : m_at k_Reader_isLetter 29 = some (.ireturn, 1, 0) := m_at_of r_Reader_isLetter (by decide +kernel)
set_option maxRecDepth 20000 in
set_option maxHeartbeats 1000000 in
theorem E_Reader_isLetter (x : m_X) (s : m_H) (n0 : Int32) : m_M x k_Reader_isLetter [.int n0] s = if n0 < 97 then (if n0 < 65 then (some (some (.int 0), s)) else if 90 < n0 then (some (some (.int 0), s)) else some (some (.int 1), s)) else if n0 ≤ 122 then (some (some (.int 1), s)) else if n0 < 65 then (some (some (.int 0), s)) else if 90 < n0 then (some (some (.int 0), s)) else some (some (.int 1), s) := by
  refine e_M0 (L0 := [some (.int n0)]) rfl (q_Reader_isLetter _) rfl ?_
  refine e_iload_n i_Reader_isLetter_0 rfl ?_
  refine e_bipush (v := 97) i_Reader_isLetter_1 (by decide) ?_
  refine e_icmplt (t := 12) i_Reader_isLetter_3 (by decide) ?_ ?_
  · refine e_iload_n i_Reader_isLetter_12 rfl ?_
    refine e_bipush (v := 65) i_Reader_isLetter_13 (by decide) ?_
    refine e_icmplt (t := 28) i_Reader_isLetter_15 (by decide) ?_ ?_
    · refine e_iconst (v := 0) i_Reader_isLetter_28 (by decide) ?_
      exact e_iretZ i_Reader_isLetter_29 rfl (by decide)
    · refine e_iload_n i_Reader_isLetter_18 rfl ?_
      refine e_bipush (v := 90) i_Reader_isLetter_19 (by decide) ?_
      refine e_icmpgt (t := 28) i_Reader_isLetter_21 (by decide) ?_ ?_
      · refine e_iconst (v := 0) i_Reader_isLetter_28 (by decide) ?_
        exact e_iretZ i_Reader_isLetter_29 rfl (by decide)
      · refine e_iconst (v := 1) i_Reader_isLetter_24 (by decide) ?_
        refine e_goto (t := 29) i_Reader_isLetter_25 (by decide) ?_
        exact e_iretZ i_Reader_isLetter_29 rfl (by decide)
  · refine e_iload_n i_Reader_isLetter_6 rfl ?_
    refine e_bipush (v := 122) i_Reader_isLetter_7 (by decide) ?_
    refine e_icmple (t := 24) i_Reader_isLetter_9 (by decide) ?_ ?_
    · refine e_iconst (v := 1) i_Reader_isLetter_24 (by decide) ?_
      refine e_goto (t := 29) i_Reader_isLetter_25 (by decide) ?_
      exact e_iretZ i_Reader_isLetter_29 rfl (by decide)
    · refine e_iload_n i_Reader_isLetter_12 rfl ?_
      refine e_bipush (v := 65) i_Reader_isLetter_13 (by decide) ?_
      refine e_icmplt (t := 28) i_Reader_isLetter_15 (by decide) ?_ ?_
      · refine e_iconst (v := 0) i_Reader_isLetter_28 (by decide) ?_
        exact e_iretZ i_Reader_isLetter_29 rfl (by decide)
      · refine e_iload_n i_Reader_isLetter_18 rfl ?_
        refine e_bipush (v := 90) i_Reader_isLetter_19 (by decide) ?_
        refine e_icmpgt (t := 28) i_Reader_isLetter_21 (by decide) ?_ ?_
        · refine e_iconst (v := 0) i_Reader_isLetter_28 (by decide) ?_
          exact e_iretZ i_Reader_isLetter_29 rfl (by decide)
        · refine e_iconst (v := 1) i_Reader_isLetter_24 (by decide) ?_
          refine e_goto (t := 29) i_Reader_isLetter_25 (by decide) ?_
          exact e_iretZ i_Reader_isLetter_29 rfl (by decide)
theorem i_Reader_isTapeAt_0 : m_at k_Reader_isTapeAt 0 = some (.iload_n 1, 1, 0) := m_at_of r_Reader_isTapeAt (by decide +kernel)
theorem i_Reader_isTapeAt_1 : m_at k_Reader_isTapeAt 1 = some (.ifCond .lt (22), 3, 0) := m_at_of r_Reader_isTapeAt (by decide +kernel)
theorem i_Reader_isTapeAt_4 : m_at k_Reader_isTapeAt 4 = some (.iload_n 1, 1, 0) := m_at_of r_Reader_isTapeAt (by decide +kernel)
theorem i_Reader_isTapeAt_5 : m_at k_Reader_isTapeAt 5 = some (.aload_n 0, 1, 0) := m_at_of r_Reader_isTapeAt (by decide +kernel)
theorem i_Reader_isTapeAt_6 : m_at k_Reader_isTapeAt 6 = some (.getfield 29, 3, 124) := m_at_of r_Reader_isTapeAt (by decide +kernel)
theorem i_Reader_isTapeAt_9 : m_at k_Reader_isTapeAt 9 = some (.if_icmp .ge (14), 3, 0) := m_at_of r_Reader_isTapeAt (by decide +kernel)
theorem i_Reader_isTapeAt_12 : m_at k_Reader_isTapeAt 12 = some (.iload_n 1, 1, 0) := m_at_of r_Reader_isTapeAt (by decide +kernel)
theorem i_Reader_isTapeAt_13 : m_at k_Reader_isTapeAt 13 = some (.sipush 300, 3, 0) := m_at_of r_Reader_isTapeAt (by decide +kernel)
theorem i_Reader_isTapeAt_16 : m_at k_Reader_isTapeAt 16 = some (.if_icmp .ge (7), 3, 0) := m_at_of r_Reader_isTapeAt (by decide +kernel)
theorem i_Reader_isTapeAt_19 : m_at k_Reader_isTapeAt 19 = some (.iconst 1, 1, 0) := m_at_of r_Reader_isTapeAt (by decide +kernel)
theorem i_Reader_isTapeAt_20 : m_at k_Reader_isTapeAt 20 = some (.goto (4), 3, 0) := m_at_of r_Reader_isTapeAt (by decide +kernel)
theorem i_Reader_isTapeAt_23 : m_at k_Reader_isTapeAt 23 = some (.iconst 0, 1, 0) := m_at_of r_Reader_isTapeAt (by decide +kernel)
theorem i_Reader_isTapeAt_24 : m_at k_Reader_isTapeAt 24 = some (.ireturn, 1, 0) := m_at_of r_Reader_isTapeAt (by decide +kernel)
set_option maxRecDepth 20000 in
set_option maxHeartbeats 1000000 in
theorem E_Reader_isTapeAt (x : m_X) (s : m_H) (w : Nat) (n1 : Int32) : m_M x k_Reader_isTapeAt [.ref w, .int n1] s = if m_isO s w 3 = true then (if n1 < 0 then (some (some (.int 0), s)) else (m_fI s 3 2 w).bind fun v6 => if v6 ≤ n1 then (some (some (.int 0), s)) else if 300 ≤ n1 then (some (some (.int 0), s)) else some (some (.int 1), s)) else none := by
  refine e_M1 (L0 := [some (.ref w), some (.int n1)]) rfl (by decide +kernel) rfl (q_Reader_isTapeAt _) rfl ?_
  refine e_iload_n i_Reader_isTapeAt_0 rfl ?_
  refine e_iflt (t := 23) i_Reader_isTapeAt_1 (by decide) ?_ ?_
  · refine e_iconst (v := 0) i_Reader_isTapeAt_23 (by decide) ?_
    exact e_iretZ i_Reader_isTapeAt_24 rfl (by decide)
  · refine e_iload_n i_Reader_isTapeAt_4 rfl ?_
    refine e_aload_n i_Reader_isTapeAt_5 rfl ?_
    refine e_getI i_Reader_isTapeAt_6 lf_124 (by decide) (Or.inl ft_3_2) (fun v6 => ?_)
    refine e_icmpge (t := 23) i_Reader_isTapeAt_9 (by decide) ?_ ?_
    · refine e_iconst (v := 0) i_Reader_isTapeAt_23 (by decide) ?_
      exact e_iretZ i_Reader_isTapeAt_24 rfl (by decide)
    · refine e_iload_n i_Reader_isTapeAt_12 rfl ?_
      refine e_sipush (v := 300) i_Reader_isTapeAt_13 (by decide) ?_
      refine e_icmpge (t := 23) i_Reader_isTapeAt_16 (by decide) ?_ ?_
      · refine e_iconst (v := 0) i_Reader_isTapeAt_23 (by decide) ?_
        exact e_iretZ i_Reader_isTapeAt_24 rfl (by decide)
      · refine e_iconst (v := 1) i_Reader_isTapeAt_19 (by decide) ?_
        refine e_goto (t := 24) i_Reader_isTapeAt_20 (by decide) ?_
        exact e_iretZ i_Reader_isTapeAt_24 rfl (by decide)
theorem i_Reader_take_0 : m_at k_Reader_take 0 = some (.bipush 24, 2, 0) := m_at_of r_Reader_take (by decide +kernel)
theorem i_Reader_take_2 : m_at k_Reader_take 2 = some (.istore_n 2, 1, 0) := m_at_of r_Reader_take (by decide +kernel)
theorem i_Reader_take_3 : m_at k_Reader_take 3 = some (.iload_n 2, 1, 0) := m_at_of r_Reader_take (by decide +kernel)
theorem i_Reader_take_4 : m_at k_Reader_take 4 = some (.ifCond .lt (52), 3, 0) := m_at_of r_Reader_take (by decide +kernel)
theorem i_Reader_take_7 : m_at k_Reader_take 7 = some (.aload_n 0, 1, 0) := m_at_of r_Reader_take (by decide +kernel)
theorem i_Reader_take_8 : m_at k_Reader_take 8 = some (.getfield 29, 3, 124) := m_at_of r_Reader_take (by decide +kernel)
theorem i_Reader_take_11 : m_at k_Reader_take 11 = some (.ifCond .lt (39), 3, 0) := m_at_of r_Reader_take (by decide +kernel)
theorem i_Reader_take_14 : m_at k_Reader_take 14 = some (.aload_n 0, 1, 0) := m_at_of r_Reader_take (by decide +kernel)
theorem i_Reader_take_15 : m_at k_Reader_take 15 = some (.getfield 29, 3, 124) := m_at_of r_Reader_take (by decide +kernel)
theorem i_Reader_take_18 : m_at k_Reader_take 18 = some (.sipush 300, 3, 0) := m_at_of r_Reader_take (by decide +kernel)
theorem i_Reader_take_21 : m_at k_Reader_take 21 = some (.if_icmp .ge (29), 3, 0) := m_at_of r_Reader_take (by decide +kernel)
theorem i_Reader_take_24 : m_at k_Reader_take 24 = some (.aload_n 0, 1, 0) := m_at_of r_Reader_take (by decide +kernel)
theorem i_Reader_take_25 : m_at k_Reader_take 25 = some (.getfield 18, 3, 125) := m_at_of r_Reader_take (by decide +kernel)
theorem i_Reader_take_28 : m_at k_Reader_take 28 = some (.aload_n 0, 1, 0) := m_at_of r_Reader_take (by decide +kernel)
theorem i_Reader_take_29 : m_at k_Reader_take 29 = some (.getfield 29, 3, 124) := m_at_of r_Reader_take (by decide +kernel)
theorem i_Reader_take_32 : m_at k_Reader_take 32 = some (.iload_n 1, 1, 0) := m_at_of r_Reader_take (by decide +kernel)
theorem i_Reader_take_33 : m_at k_Reader_take 33 = some (.iload_n 2, 1, 0) := m_at_of r_Reader_take (by decide +kernel)
theorem i_Reader_take_34 : m_at k_Reader_take 34 = some (.ishr, 1, 0) := m_at_of r_Reader_take (by decide +kernel)
theorem i_Reader_take_35 : m_at k_Reader_take 35 = some (.sipush 255, 3, 0) := m_at_of r_Reader_take (by decide +kernel)
theorem i_Reader_take_38 : m_at k_Reader_take 38 = some (.iand, 1, 0) := m_at_of r_Reader_take (by decide +kernel)
theorem i_Reader_take_39 : m_at k_Reader_take 39 = some (.iastore, 1, 0) := m_at_of r_Reader_take (by decide +kernel)
theorem i_Reader_take_40 : m_at k_Reader_take 40 = some (.aload_n 0, 1, 0) := m_at_of r_Reader_take (by decide +kernel)
theorem i_Reader_take_41 : m_at k_Reader_take 41 = some (.dup, 1, 0) := m_at_of r_Reader_take (by decide +kernel)
theorem i_Reader_take_42 : m_at k_Reader_take 42 = some (.getfield 29, 3, 124) := m_at_of r_Reader_take (by decide +kernel)
theorem i_Reader_take_45 : m_at k_Reader_take 45 = some (.iconst 1, 1, 0) := m_at_of r_Reader_take (by decide +kernel)
theorem i_Reader_take_46 : m_at k_Reader_take 46 = some (.iadd, 1, 0) := m_at_of r_Reader_take (by decide +kernel)
theorem i_Reader_take_47 : m_at k_Reader_take 47 = some (.putfield 29, 3, 124) := m_at_of r_Reader_take (by decide +kernel)
theorem i_Reader_take_50 : m_at k_Reader_take 50 = some (.iinc 2 (-8), 3, 0) := m_at_of r_Reader_take (by decide +kernel)
theorem i_Reader_take_53 : m_at k_Reader_take 53 = some (.goto (-50), 3, 0) := m_at_of r_Reader_take (by decide +kernel)
theorem i_Reader_take_56 : m_at k_Reader_take 56 = some (.return_, 1, 0) := m_at_of r_Reader_take (by decide +kernel)
set_option maxRecDepth 20000 in
set_option maxHeartbeats 1000000 in
theorem E_Reader_take (x : m_X) (s : m_H) (w : Nat) (n1 : Int32) : m_M x k_Reader_take [.ref w, .int n1] s = if m_isO s w 3 = true then (m_D x 1 k_Reader_take 3 [some (.ref w), some (.int n1), some (.int 24)] [] s) else none := by
  refine e_M1 (L0 := [some (.ref w), some (.int n1), none]) rfl (by decide +kernel) rfl (q_Reader_take _) rfl ?_
  refine e_bipush (v := 24) i_Reader_take_0 (by decide) ?_
  refine e_istore_n (L' := [some (.ref w), some (.int n1), some (.int 24)]) i_Reader_take_2 (of_decide_eq_true rfl) rfl ?_
  exact rfl
set_option maxRecDepth 20000 in
set_option maxHeartbeats 1000000 in
theorem E_Reader_take_3 (x : m_X) (ρ : Nat) (hρ : 1 ≤ ρ) (s : m_H) (w : Nat) (n1 : Int32) (n2 : Int32)  : m_D x ρ k_Reader_take 3 [some (.ref w), some (.int n1), some (.int n2)] [] s = if n2 < 0 then (some (none, s)) else (m_fI s 3 2 w).bind fun v8 => if v8 < 0 then (m_D x ρ k_Reader_take 3 [some (.ref w), some (.int n1), some (.int (n2 + (-8 : Int32)))] [] s) else (m_fI s 3 2 w).bind fun v15 => if 300 ≤ v15 then (m_D x ρ k_Reader_take 3 [some (.ref w), some (.int n1), some (.int (n2 + (-8 : Int32)))] [] s) else (m_fR s 3 1 w).bind fun v25 => (m_fI s 3 2 w).bind fun v29 => (m_is s v25 v29 ((n1 >>> (n2 &&& (31 : Int32))) &&& (255 : Int32))).bind fun s39 => (m_fI s39 3 2 w).bind fun v42 => (m_pf s39 3 2 w (.int (v42 + (1 : Int32)))).bind fun s47 => m_D x ρ k_Reader_take 3 [some (.ref w), some (.int n1), some (.int (n2 + (-8 : Int32)))] [] s47 := by
  refine e_iload_n i_Reader_take_3 rfl ?_
  refine e_iflt (t := 56) i_Reader_take_4 (by decide) ?_ ?_
  · exact e_vret i_Reader_take_56 rfl
  · refine e_aload_n i_Reader_take_7 rfl ?_
    refine e_getI i_Reader_take_8 lf_124 (by decide) (Or.inl ft_3_2) (fun v8 => ?_)
    refine e_iflt (t := 50) i_Reader_take_11 (by decide) ?_ ?_
    · refine e_iinc (w := (-8)) (L' := [some (.ref w), some (.int n1), some (.int (n2 + (-8 : Int32)))]) i_Reader_take_50 rfl (of_decide_eq_true rfl) (by decide) rfl ?_
      refine e_goto (t := 3) i_Reader_take_53 (by decide) ?_
      exact rfl
    · refine e_aload_n i_Reader_take_14 rfl ?_
      refine e_getI i_Reader_take_15 lf_124 (by decide) (Or.inl ft_3_2) (fun v15 => ?_)
      refine e_sipush (v := 300) i_Reader_take_18 (by decide) ?_
      refine e_icmpge (t := 50) i_Reader_take_21 (by decide) ?_ ?_
      · refine e_iinc (w := (-8)) (L' := [some (.ref w), some (.int n1), some (.int (n2 + (-8 : Int32)))]) i_Reader_take_50 rfl (of_decide_eq_true rfl) (by decide) rfl ?_
        refine e_goto (t := 3) i_Reader_take_53 (by decide) ?_
        exact rfl
      · refine e_aload_n i_Reader_take_24 rfl ?_
        refine e_getR i_Reader_take_25 lf_125 (by decide) ft_3_1 (fun v25 => ?_)
        refine e_aload_n i_Reader_take_28 rfl ?_
        refine e_getI i_Reader_take_29 lf_124 (by decide) (Or.inl ft_3_2) (fun v29 => ?_)
        refine e_iload_n i_Reader_take_32 rfl ?_
        refine e_iload_n i_Reader_take_33 rfl ?_
        refine e_ishr i_Reader_take_34 ?_
        refine e_sipush (v := 255) i_Reader_take_35 (by decide) ?_
        refine e_iand i_Reader_take_38 ?_
        refine e_iast i_Reader_take_39 (fun s39 => ?_)
        refine e_aload_n i_Reader_take_40 rfl ?_
        refine e_dup i_Reader_take_41 rfl ?_
        refine e_getI i_Reader_take_42 lf_124 (by decide) (Or.inl ft_3_2) (fun v42 => ?_)
        refine e_iconst (v := 1) i_Reader_take_45 (by decide) ?_
        refine e_iadd i_Reader_take_46 ?_
        refine e_putf i_Reader_take_47 lf_124 ft_3_2 rfl (fun s47 => ?_)
        refine e_iinc (w := (-8)) (L' := [some (.ref w), some (.int n1), some (.int (n2 + (-8 : Int32)))]) i_Reader_take_50 rfl (of_decide_eq_true rfl) (by decide) rfl ?_
        refine e_goto (t := 3) i_Reader_take_53 (by decide) ?_
        exact rfl
theorem i_Reader_hasRoom_0 : m_at k_Reader_hasRoom 0 = some (.aload_n 0, 1, 0) := m_at_of r_Reader_hasRoom (by decide +kernel)
theorem i_Reader_hasRoom_1 : m_at k_Reader_hasRoom 1 = some (.getfield 29, 3, 124) := m_at_of r_Reader_hasRoom (by decide +kernel)
theorem i_Reader_hasRoom_4 : m_at k_Reader_hasRoom 4 = some (.bipush 20, 2, 0) := m_at_of r_Reader_hasRoom (by decide +kernel)
theorem i_Reader_hasRoom_6 : m_at k_Reader_hasRoom 6 = some (.iadd, 1, 0) := m_at_of r_Reader_hasRoom (by decide +kernel)
theorem i_Reader_hasRoom_7 : m_at k_Reader_hasRoom 7 = some (.sipush 300, 3, 0) := m_at_of r_Reader_hasRoom (by decide +kernel)
theorem i_Reader_hasRoom_10 : m_at k_Reader_hasRoom 10 = some (.if_icmp .gt (7), 3, 0) := m_at_of r_Reader_hasRoom (by decide +kernel)
theorem i_Reader_hasRoom_13 : m_at k_Reader_hasRoom 13 = some (.iconst 1, 1, 0) := m_at_of r_Reader_hasRoom (by decide +kernel)
theorem i_Reader_hasRoom_14 : m_at k_Reader_hasRoom 14 = some (.goto (4), 3, 0) := m_at_of r_Reader_hasRoom (by decide +kernel)
theorem i_Reader_hasRoom_17 : m_at k_Reader_hasRoom 17 = some (.iconst 0, 1, 0) := m_at_of r_Reader_hasRoom (by decide +kernel)
theorem i_Reader_hasRoom_18 : m_at k_Reader_hasRoom 18 = some (.ireturn, 1, 0) := m_at_of r_Reader_hasRoom (by decide +kernel)
set_option maxRecDepth 20000 in
set_option maxHeartbeats 1000000 in
theorem E_Reader_hasRoom (x : m_X) (s : m_H) (w : Nat) : m_M x k_Reader_hasRoom [.ref w] s = if m_isO s w 3 = true then ((m_fI s 3 2 w).bind fun v1 => if 300 < (v1 + (20 : Int32)) then (some (some (.int 0), s)) else some (some (.int 1), s)) else none := by
  refine e_M1 (L0 := [some (.ref w)]) rfl (by decide +kernel) rfl (q_Reader_hasRoom _) rfl ?_
  refine e_aload_n i_Reader_hasRoom_0 rfl ?_
  refine e_getI i_Reader_hasRoom_1 lf_124 (by decide) (Or.inl ft_3_2) (fun v1 => ?_)
  refine e_bipush (v := 20) i_Reader_hasRoom_4 (by decide) ?_
  refine e_iadd i_Reader_hasRoom_6 ?_
  refine e_sipush (v := 300) i_Reader_hasRoom_7 (by decide) ?_
  refine e_icmpgt (t := 17) i_Reader_hasRoom_10 (by decide) ?_ ?_
  · refine e_iconst (v := 0) i_Reader_hasRoom_17 (by decide) ?_
    exact e_iretZ i_Reader_hasRoom_18 rfl (by decide)
  · refine e_iconst (v := 1) i_Reader_hasRoom_13 (by decide) ?_
    refine e_goto (t := 18) i_Reader_hasRoom_14 (by decide) ?_
    exact e_iretZ i_Reader_hasRoom_18 rfl (by decide)
theorem i_Reader_init_0 : m_at k_Reader_init 0 = some (.aload_n 0, 1, 0) := m_at_of r_Reader_init (by decide +kernel)
theorem i_Reader_init_1 : m_at k_Reader_init 1 = some (.invokespecial 3, 3, 443) := m_at_of r_Reader_init (by decide +kernel)
theorem i_Reader_init_4 : m_at k_Reader_init 4 = some (.aload_n 0, 1, 0) := m_at_of r_Reader_init (by decide +kernel)
theorem i_Reader_init_5 : m_at k_Reader_init 5 = some (.new 9, 3, 12) := m_at_of r_Reader_init (by decide +kernel)
theorem i_Reader_init_8 : m_at k_Reader_init 8 = some (.dup, 1, 0) := m_at_of r_Reader_init (by decide +kernel)
theorem i_Reader_init_9 : m_at k_Reader_init 9 = some (.invokespecial 11, 3, 444) := m_at_of r_Reader_init (by decide +kernel)
theorem i_Reader_init_12 : m_at k_Reader_init 12 = some (.putfield 12, 3, 115) := m_at_of r_Reader_init (by decide +kernel)
theorem i_Reader_init_15 : m_at k_Reader_init 15 = some (.aload_n 0, 1, 0) := m_at_of r_Reader_init (by decide +kernel)
theorem i_Reader_init_16 : m_at k_Reader_init 16 = some (.sipush 300, 3, 0) := m_at_of r_Reader_init (by decide +kernel)
theorem i_Reader_init_19 : m_at k_Reader_init 19 = some (.newarray .int, 2, 0) := m_at_of r_Reader_init (by decide +kernel)
theorem i_Reader_init_21 : m_at k_Reader_init 21 = some (.putfield 18, 3, 125) := m_at_of r_Reader_init (by decide +kernel)
theorem i_Reader_init_24 : m_at k_Reader_init 24 = some (.aload_n 0, 1, 0) := m_at_of r_Reader_init (by decide +kernel)
theorem i_Reader_init_25 : m_at k_Reader_init 25 = some (.iconst (-1), 1, 0) := m_at_of r_Reader_init (by decide +kernel)
theorem i_Reader_init_26 : m_at k_Reader_init 26 = some (.putfield 22, 3, 116) := m_at_of r_Reader_init (by decide +kernel)
theorem i_Reader_init_29 : m_at k_Reader_init 29 = some (.aload_n 0, 1, 0) := m_at_of r_Reader_init (by decide +kernel)
theorem i_Reader_init_30 : m_at k_Reader_init 30 = some (.iconst (-1), 1, 0) := m_at_of r_Reader_init (by decide +kernel)
theorem i_Reader_init_31 : m_at k_Reader_init 31 = some (.putfield 26, 3, 117) := m_at_of r_Reader_init (by decide +kernel)
theorem i_Reader_init_34 : m_at k_Reader_init 34 = some (.return_, 1, 0) := m_at_of r_Reader_init (by decide +kernel)
set_option maxRecDepth 20000 in
set_option maxHeartbeats 1000000 in
theorem E_Reader_init (x : m_X) (s : m_H) (w : Nat) : m_M x k_Reader_init [.ref w] s = if s.length < 900 then (m_bV (m_M x k_Script_init [.ref s.length] (s ++ [.inr (5, m_nf 5)])) fun s9 => (m_pf s9 3 0 w (.ref s.length)).bind fun s12 => if s12.length < 900 ∧ ¬ 300 < (0 : Int32) ∧ (300 : Int32).toNatClampNeg ≤ 100000 then ((m_pf (s12 ++ [.inl (0, (300 : Int32).toNatClampNeg, .inl fun _ => 0)]) 3 1 w (.ref s12.length)).bind fun s21 => (m_pf s21 3 3 w (.int (-1))).bind fun s26 => (m_pf s26 3 4 w (.int (-1))).bind fun s31 => some (none, s31)) else none) else none := by
  refine e_M2 (L0 := [some (.ref w)]) rfl (q_Reader_init _) rfl ?_
  refine e_aload_n i_Reader_init_0 rfl ?_
  refine e_oinit i_Reader_init_1 lm_443 (Nat.le_of_ble_eq_true rfl) ?_
  refine e_aload_n i_Reader_init_4 rfl ?_
  refine e_new i_Reader_init_5 rfl ?_
  refine e_dup i_Reader_init_8 rfl ?_
  refine e_callV (as := [.ref s.length]) (st' := [.ref s.length, .ref w]) i_Reader_init_9 lm_444 (Or.inr (Or.inr ⟨rfl, rfl⟩)) w_Script_init rfl rfl rfl (Nat.le_of_ble_eq_true rfl) (Nat.le_of_ble_eq_true rfl) (m_rlt (q_Script_init _) (by decide)) rfl (fun s9 => ?_)
  refine e_putf i_Reader_init_12 lf_115 ft_3_0 rfl (fun s12 => ?_)
  refine e_aload_n i_Reader_init_15 rfl ?_
  refine e_sipush (v := 300) i_Reader_init_16 (by decide) ?_
  refine e_newI i_Reader_init_19 ?_
  refine e_putf i_Reader_init_21 lf_125 ft_3_1 rfl (fun s21 => ?_)
  refine e_aload_n i_Reader_init_24 rfl ?_
  refine e_iconst (v := (-1)) i_Reader_init_25 (by decide) ?_
  refine e_putf i_Reader_init_26 lf_116 ft_3_3 rfl (fun s26 => ?_)
  refine e_aload_n i_Reader_init_29 rfl ?_
  refine e_iconst (v := (-1)) i_Reader_init_30 (by decide) ?_
  refine e_putf i_Reader_init_31 lf_117 ft_3_4 rfl (fun s31 => ?_)
  exact e_vret i_Reader_init_34 rfl
theorem i_Words_isNameOf_0 : m_at k_Words_isNameOf 0 = some (.iload_n 1, 1, 0) := m_at_of r_Words_isNameOf (by decide +kernel)
theorem i_Words_isNameOf_1 : m_at k_Words_isNameOf 1 = some (.bipush 11, 2, 0) := m_at_of r_Words_isNameOf (by decide +kernel)
theorem i_Words_isNameOf_3 : m_at k_Words_isNameOf 3 = some (.if_icmp .eq (9), 3, 0) := m_at_of r_Words_isNameOf (by decide +kernel)
theorem i_Words_isNameOf_6 : m_at k_Words_isNameOf 6 = some (.iload_n 1, 1, 0) := m_at_of r_Words_isNameOf (by decide +kernel)
theorem i_Words_isNameOf_7 : m_at k_Words_isNameOf 7 = some (.bipush 12, 2, 0) := m_at_of r_Words_isNameOf (by decide +kernel)
theorem i_Words_isNameOf_9 : m_at k_Words_isNameOf 9 = some (.if_icmp .ne (5), 3, 0) := m_at_of r_Words_isNameOf (by decide +kernel)
theorem i_Words_isNameOf_12 : m_at k_Words_isNameOf 12 = some (.iconst 1, 1, 0) := m_at_of r_Words_isNameOf (by decide +kernel)
theorem i_Words_isNameOf_13 : m_at k_Words_isNameOf 13 = some (.ireturn, 1, 0) := m_at_of r_Words_isNameOf (by decide +kernel)
theorem i_Words_isNameOf_14 : m_at k_Words_isNameOf 14 = some (.iload_n 1, 1, 0) := m_at_of r_Words_isNameOf (by decide +kernel)
theorem i_Words_isNameOf_15 : m_at k_Words_isNameOf 15 = some (.bipush 13, 2, 0) := m_at_of r_Words_isNameOf (by decide +kernel)
theorem i_Words_isNameOf_17 : m_at k_Words_isNameOf 17 = some (.if_icmp .lt (13), 3, 0) := m_at_of r_Words_isNameOf (by decide +kernel)
theorem i_Words_isNameOf_20 : m_at k_Words_isNameOf 20 = some (.iload_n 1, 1, 0) := m_at_of r_Words_isNameOf (by decide +kernel)
theorem i_Words_isNameOf_21 : m_at k_Words_isNameOf 21 = some (.bipush 18, 2, 0) := m_at_of r_Words_isNameOf (by decide +kernel)
theorem i_Words_isNameOf_23 : m_at k_Words_isNameOf 23 = some (.if_icmp .gt (7), 3, 0) := m_at_of r_Words_isNameOf (by decide +kernel)
theorem i_Words_isNameOf_26 : m_at k_Words_isNameOf 26 = some (.iconst 1, 1, 0) := m_at_of r_Words_isNameOf (by decide +kernel)
theorem i_Words_isNameOf_27 : m_at k_Words_isNameOf 27 = some (.goto (4), 3, 0) := m_at_of r_Words_isNameOf (by decide +kernel)
theorem i_Words_isNameOf_30 : m_at k_Words_isNameOf 30 = some (.iconst 0, 1, 0) := m_at_of r_Words_isNameOf (by decide +kernel)
theorem i_Words_isNameOf_31 : m_at k_Words_isNameOf 31 = some (.istore_n 2, 1, 0) := m_at_of r_Words_isNameOf (by decide +kernel)
theorem i_Words_isNameOf_32 : m_at k_Words_isNameOf 32 = some (.iload_n 0, 1, 0) := m_at_of r_Words_isNameOf (by decide +kernel)
theorem i_Words_isNameOf_33 : m_at k_Words_isNameOf 33 = some (.ifCond .eq (8), 3, 0) := m_at_of r_Words_isNameOf (by decide +kernel)
theorem i_Words_isNameOf_36 : m_at k_Words_isNameOf 36 = some (.iload_n 0, 1, 0) := m_at_of r_Words_isNameOf (by decide +kernel)
theorem i_Words_isNameOf_37 : m_at k_Words_isNameOf 37 = some (.iconst 1, 1, 0) := m_at_of r_Words_isNameOf (by decide +kernel)
theorem i_Words_isNameOf_38 : m_at k_Words_isNameOf 38 = some (.if_icmp .ne (7), 3, 0) := m_at_of r_Words_isNameOf (by decide +kernel)
theorem i_Words_isNameOf_41 : m_at k_Words_isNameOf 41 = some (.iconst 1, 1, 0) := m_at_of r_Words_isNameOf (by decide +kernel)
theorem i_Words_isNameOf_42 : m_at k_Words_isNameOf 42 = some (.goto (4), 3, 0) := m_at_of r_Words_isNameOf (by decide +kernel)
theorem i_Words_isNameOf_45 : m_at k_Words_isNameOf 45 = some (.iconst 0, 1, 0) := m_at_of r_Words_isNameOf (by decide +kernel)
theorem i_Words_isNameOf_46 : m_at k_Words_isNameOf 46 = some (.istore_n 3, 1, 0) := m_at_of r_Words_isNameOf (by decide +kernel)
theorem i_Words_isNameOf_47 : m_at k_Words_isNameOf 47 = some (.iload_n 1, 1, 0) := m_at_of r_Words_isNameOf (by decide +kernel)
theorem i_Words_isNameOf_48 : m_at k_Words_isNameOf 48 = some (.invokestatic 27, 3, 388) := m_at_of r_Words_isNameOf (by decide +kernel)
theorem i_Words_isNameOf_51 : m_at k_Words_isNameOf 51 = some (.ifCond .eq (12), 3, 0) := m_at_of r_Words_isNameOf (by decide +kernel)
theorem i_Words_isNameOf_54 : m_at k_Words_isNameOf 54 = some (.iload_n 2, 1, 0) := m_at_of r_Words_isNameOf (by decide +kernel)
theorem i_Words_isNameOf_55 : m_at k_Words_isNameOf 55 = some (.iload_n 3, 1, 0) := m_at_of r_Words_isNameOf (by decide +kernel)
theorem i_Words_isNameOf_56 : m_at k_Words_isNameOf 56 = some (.if_icmp .ne (7), 3, 0) := m_at_of r_Words_isNameOf (by decide +kernel)
theorem i_Words_isNameOf_59 : m_at k_Words_isNameOf 59 = some (.iconst 1, 1, 0) := m_at_of r_Words_isNameOf (by decide +kernel)
theorem i_Words_isNameOf_60 : m_at k_Words_isNameOf 60 = some (.goto (4), 3, 0) := m_at_of r_Words_isNameOf (by decide +kernel)
theorem i_Words_isNameOf_63 : m_at k_Words_isNameOf 63 = some (.iconst 0, 1, 0) := m_at_of r_Words_isNameOf (by decide +kernel)
theorem i_Words_isNameOf_64 : m_at k_Words_isNameOf 64 = some (.ireturn, 1, 0) := m_at_of r_Words_isNameOf (by decide +kernel)
set_option maxRecDepth 20000 in
set_option maxHeartbeats 1000000 in
theorem E_Words_isNameOf (x : m_X) (s : m_H) (n0 : Int32) (n1 : Int32) : m_M x k_Words_isNameOf [.int n0, .int n1] s = if n1 = 11 then (some (some (.int 1), s)) else if n1 = 12 then (some (some (.int 1), s)) else if n1 < 13 then (m_D x 2 k_Words_isNameOf 31 [some (.int n0), some (.int n1), none, none] [.int 0] s) else if 18 < n1 then (m_D x 2 k_Words_isNameOf 31 [some (.int n0), some (.int n1), none, none] [.int 0] s) else m_D x 2 k_Words_isNameOf 31 [some (.int n0), some (.int n1), none, none] [.int 1] s := by
  refine e_M0 (L0 := [some (.int n0), some (.int n1), none, none]) rfl (q_Words_isNameOf _) rfl ?_
  refine e_iload_n i_Words_isNameOf_0 rfl ?_
  refine e_bipush (v := 11) i_Words_isNameOf_1 (by decide) ?_
  refine e_icmpeq (t := 12) i_Words_isNameOf_3 (by decide) ?_ ?_
  · refine e_iconst (v := 1) i_Words_isNameOf_12 (by decide) ?_
    exact e_iretZ i_Words_isNameOf_13 rfl (by decide)
  · refine e_iload_n i_Words_isNameOf_6 rfl ?_
    refine e_bipush (v := 12) i_Words_isNameOf_7 (by decide) ?_
    refine e_icmpne (t := 14) i_Words_isNameOf_9 (by decide) ?_ ?_
    · refine e_iload_n i_Words_isNameOf_14 rfl ?_
      refine e_bipush (v := 13) i_Words_isNameOf_15 (by decide) ?_
      refine e_icmplt (t := 30) i_Words_isNameOf_17 (by decide) ?_ ?_
      · refine e_iconst (v := 0) i_Words_isNameOf_30 (by decide) ?_
        exact rfl
      · refine e_iload_n i_Words_isNameOf_20 rfl ?_
        refine e_bipush (v := 18) i_Words_isNameOf_21 (by decide) ?_
        refine e_icmpgt (t := 30) i_Words_isNameOf_23 (by decide) ?_ ?_
        · refine e_iconst (v := 0) i_Words_isNameOf_30 (by decide) ?_
          exact rfl
        · refine e_iconst (v := 1) i_Words_isNameOf_26 (by decide) ?_
          refine e_goto (t := 31) i_Words_isNameOf_27 (by decide) ?_
          exact rfl
    · refine e_iconst (v := 1) i_Words_isNameOf_12 (by decide) ?_
      exact e_iretZ i_Words_isNameOf_13 rfl (by decide)
set_option maxRecDepth 20000 in
set_option maxHeartbeats 1000000 in
theorem E_Words_isNameOf_31 (x : m_X) (ρ : Nat) (hρ : 2 ≤ ρ) (s : m_H) (n0 : Int32) (n1 : Int32) (nt0 : Int32)  : m_D x ρ k_Words_isNameOf 31 [some (.int n0), some (.int n1), none, none] [.int nt0] s = if n0 = 0 then (m_bI (m_M x k_Words_isName [.int n1] s) fun v48 s48 => if v48 = 0 then (some (some (.int 0), s48)) else if nt0 = 1 then (some (some (.int 1), s48)) else some (some (.int 0), s48)) else if n0 = 1 then (m_bI (m_M x k_Words_isName [.int n1] s) fun v48 s48 => if v48 = 0 then (some (some (.int 0), s48)) else if nt0 = 1 then (some (some (.int 1), s48)) else some (some (.int 0), s48)) else m_bI (m_M x k_Words_isName [.int n1] s) fun v48 s48 => if v48 = 0 then (some (some (.int 0), s48)) else if nt0 = 0 then (some (some (.int 1), s48)) else some (some (.int 0), s48) := by
  refine e_istore_n (L' := [some (.int n0), some (.int n1), some (.int nt0), none]) i_Words_isNameOf_31 (of_decide_eq_true rfl) rfl ?_
  refine e_iload_n i_Words_isNameOf_32 rfl ?_
  refine e_ifeq (t := 41) i_Words_isNameOf_33 (by decide) ?_ ?_
  · refine e_iconst (v := 1) i_Words_isNameOf_41 (by decide) ?_
    refine e_goto (t := 46) i_Words_isNameOf_42 (by decide) ?_
    refine e_istore_n (L' := [some (.int n0), some (.int n1), some (.int nt0), some (.int 1)]) i_Words_isNameOf_46 (of_decide_eq_true rfl) rfl ?_
    refine e_iload_n i_Words_isNameOf_47 rfl ?_
    refine e_callI (as := [.int n1]) (st' := []) i_Words_isNameOf_48 lm_388 (Or.inl ⟨rfl, rfl⟩) w_Words_isName rfl rfl rfl (Nat.le_of_ble_eq_true rfl) (Nat.le_of_ble_eq_true rfl) (m_rlt (q_Words_isName _) (Nat.lt_of_lt_of_le (by decide) hρ)) rfl (fun v48 s48 => ?_)
    refine e_ifeq (t := 63) i_Words_isNameOf_51 (by decide) ?_ ?_
    · refine e_iconst (v := 0) i_Words_isNameOf_63 (by decide) ?_
      exact e_iretZ i_Words_isNameOf_64 rfl (by decide)
    · refine e_iload_n i_Words_isNameOf_54 rfl ?_
      refine e_iload_n i_Words_isNameOf_55 rfl ?_
      refine e_icmpne (t := 63) i_Words_isNameOf_56 (by decide) ?_ ?_
      · refine e_iconst (v := 0) i_Words_isNameOf_63 (by decide) ?_
        exact e_iretZ i_Words_isNameOf_64 rfl (by decide)
      · refine e_iconst (v := 1) i_Words_isNameOf_59 (by decide) ?_
        refine e_goto (t := 64) i_Words_isNameOf_60 (by decide) ?_
        exact e_iretZ i_Words_isNameOf_64 rfl (by decide)
  · refine e_iload_n i_Words_isNameOf_36 rfl ?_
    refine e_iconst (v := 1) i_Words_isNameOf_37 (by decide) ?_
    refine e_icmpne (t := 45) i_Words_isNameOf_38 (by decide) ?_ ?_
    · refine e_iconst (v := 0) i_Words_isNameOf_45 (by decide) ?_
      refine e_istore_n (L' := [some (.int n0), some (.int n1), some (.int nt0), some (.int 0)]) i_Words_isNameOf_46 (of_decide_eq_true rfl) rfl ?_
      refine e_iload_n i_Words_isNameOf_47 rfl ?_
      refine e_callI (as := [.int n1]) (st' := []) i_Words_isNameOf_48 lm_388 (Or.inl ⟨rfl, rfl⟩) w_Words_isName rfl rfl rfl (Nat.le_of_ble_eq_true rfl) (Nat.le_of_ble_eq_true rfl) (m_rlt (q_Words_isName _) (Nat.lt_of_lt_of_le (by decide) hρ)) rfl (fun v48 s48 => ?_)
      refine e_ifeq (t := 63) i_Words_isNameOf_51 (by decide) ?_ ?_
      · refine e_iconst (v := 0) i_Words_isNameOf_63 (by decide) ?_
        exact e_iretZ i_Words_isNameOf_64 rfl (by decide)
      · refine e_iload_n i_Words_isNameOf_54 rfl ?_
        refine e_iload_n i_Words_isNameOf_55 rfl ?_
        refine e_icmpne (t := 63) i_Words_isNameOf_56 (by decide) ?_ ?_
        · refine e_iconst (v := 0) i_Words_isNameOf_63 (by decide) ?_
          exact e_iretZ i_Words_isNameOf_64 rfl (by decide)
        · refine e_iconst (v := 1) i_Words_isNameOf_59 (by decide) ?_
          refine e_goto (t := 64) i_Words_isNameOf_60 (by decide) ?_
          exact e_iretZ i_Words_isNameOf_64 rfl (by decide)
    · refine e_iconst (v := 1) i_Words_isNameOf_41 (by decide) ?_
      refine e_goto (t := 46) i_Words_isNameOf_42 (by decide) ?_
      refine e_istore_n (L' := [some (.int n0), some (.int n1), some (.int nt0), some (.int 1)]) i_Words_isNameOf_46 (of_decide_eq_true rfl) rfl ?_
      refine e_iload_n i_Words_isNameOf_47 rfl ?_
      refine e_callI (as := [.int n1]) (st' := []) i_Words_isNameOf_48 lm_388 (Or.inl ⟨rfl, rfl⟩) w_Words_isName rfl rfl rfl (Nat.le_of_ble_eq_true rfl) (Nat.le_of_ble_eq_true rfl) (m_rlt (q_Words_isName _) (Nat.lt_of_lt_of_le (by decide) hρ)) rfl (fun v48 s48 => ?_)
      refine e_ifeq (t := 63) i_Words_isNameOf_51 (by decide) ?_ ?_
      · refine e_iconst (v := 0) i_Words_isNameOf_63 (by decide) ?_
        exact e_iretZ i_Words_isNameOf_64 rfl (by decide)
      · refine e_iload_n i_Words_isNameOf_54 rfl ?_
        refine e_iload_n i_Words_isNameOf_55 rfl ?_
        refine e_icmpne (t := 63) i_Words_isNameOf_56 (by decide) ?_ ?_
        · refine e_iconst (v := 0) i_Words_isNameOf_63 (by decide) ?_
          exact e_iretZ i_Words_isNameOf_64 rfl (by decide)
        · refine e_iconst (v := 1) i_Words_isNameOf_59 (by decide) ?_
          refine e_goto (t := 64) i_Words_isNameOf_60 (by decide) ?_
          exact e_iretZ i_Words_isNameOf_64 rfl (by decide)
theorem i_Words_isName_0 : m_at k_Words_isName 0 = some (.iload_n 0, 1, 0) := m_at_of r_Words_isName (by decide +kernel)
theorem i_Words_isName_1 : m_at k_Words_isName 1 = some (.bipush 11, 2, 0) := m_at_of r_Words_isName (by decide +kernel)
theorem i_Words_isName_3 : m_at k_Words_isName 3 = some (.if_icmp .lt (13), 3, 0) := m_at_of r_Words_isName (by decide +kernel)
theorem i_Words_isName_6 : m_at k_Words_isName 6 = some (.iload_n 0, 1, 0) := m_at_of r_Words_isName (by decide +kernel)
theorem i_Words_isName_7 : m_at k_Words_isName 7 = some (.bipush 24, 2, 0) := m_at_of r_Words_isName (by decide +kernel)
theorem i_Words_isName_9 : m_at k_Words_isName 9 = some (.if_icmp .gt (7), 3, 0) := m_at_of r_Words_isName (by decide +kernel)
theorem i_Words_isName_12 : m_at k_Words_isName 12 = some (.iconst 1, 1, 0) := m_at_of r_Words_isName (by decide +kernel)
theorem i_Words_isName_13 : m_at k_Words_isName 13 = some (.goto (4), 3, 0) := m_at_of r_Words_isName (by decide +kernel)
theorem i_Words_isName_16 : m_at k_Words_isName 16 = some (.iconst 0, 1, 0) := m_at_of r_Words_isName (by decide +kernel)
theorem i_Words_isName_17 : m_at k_Words_isName 17 = some (.ireturn, 1, 0) := m_at_of r_Words_isName (by decide +kernel)
set_option maxRecDepth 20000 in
set_option maxHeartbeats 1000000 in
theorem E_Words_isName (x : m_X) (s : m_H) (n0 : Int32) : m_M x k_Words_isName [.int n0] s = if n0 < 11 then (some (some (.int 0), s)) else if 24 < n0 then (some (some (.int 0), s)) else some (some (.int 1), s) := by
  refine e_M0 (L0 := [some (.int n0)]) rfl (q_Words_isName _) rfl ?_
  refine e_iload_n i_Words_isName_0 rfl ?_
  refine e_bipush (v := 11) i_Words_isName_1 (by decide) ?_
  refine e_icmplt (t := 16) i_Words_isName_3 (by decide) ?_ ?_
  · refine e_iconst (v := 0) i_Words_isName_16 (by decide) ?_
    exact e_iretZ i_Words_isName_17 rfl (by decide)
  · refine e_iload_n i_Words_isName_6 rfl ?_
    refine e_bipush (v := 24) i_Words_isName_7 (by decide) ?_
    refine e_icmpgt (t := 16) i_Words_isName_9 (by decide) ?_ ?_
    · refine e_iconst (v := 0) i_Words_isName_16 (by decide) ?_
      exact e_iretZ i_Words_isName_17 rfl (by decide)
    · refine e_iconst (v := 1) i_Words_isName_12 (by decide) ?_
      refine e_goto (t := 17) i_Words_isName_13 (by decide) ?_
      exact e_iretZ i_Words_isName_17 rfl (by decide)
theorem i_Words_compares_0 : m_at k_Words_compares 0 = some (.iload_n 0, 1, 0) := m_at_of r_Words_compares (by decide +kernel)
theorem i_Words_compares_1 : m_at k_Words_compares 1 = some (.bipush 37, 2, 0) := m_at_of r_Words_compares (by decide +kernel)
theorem i_Words_compares_3 : m_at k_Words_compares 3 = some (.if_icmp .lt (9), 3, 0) := m_at_of r_Words_compares (by decide +kernel)
theorem i_Words_compares_6 : m_at k_Words_compares 6 = some (.iload_n 0, 1, 0) := m_at_of r_Words_compares (by decide +kernel)
theorem i_Words_compares_7 : m_at k_Words_compares 7 = some (.bipush 40, 2, 0) := m_at_of r_Words_compares (by decide +kernel)
theorem i_Words_compares_9 : m_at k_Words_compares 9 = some (.if_icmp .le (15), 3, 0) := m_at_of r_Words_compares (by decide +kernel)
theorem i_Words_compares_12 : m_at k_Words_compares 12 = some (.iload_n 0, 1, 0) := m_at_of r_Words_compares (by decide +kernel)
theorem i_Words_compares_13 : m_at k_Words_compares 13 = some (.bipush 48, 2, 0) := m_at_of r_Words_compares (by decide +kernel)
theorem i_Words_compares_15 : m_at k_Words_compares 15 = some (.if_icmp .eq (9), 3, 0) := m_at_of r_Words_compares (by decide +kernel)
theorem i_Words_compares_18 : m_at k_Words_compares 18 = some (.iload_n 0, 1, 0) := m_at_of r_Words_compares (by decide +kernel)
theorem i_Words_compares_19 : m_at k_Words_compares 19 = some (.bipush 49, 2, 0) := m_at_of r_Words_compares (by decide +kernel)
theorem i_Words_compares_21 : m_at k_Words_compares 21 = some (.if_icmp .ne (7), 3, 0) := m_at_of r_Words_compares (by decide +kernel)
theorem i_Words_compares_24 : m_at k_Words_compares 24 = some (.iconst 1, 1, 0) := m_at_of r_Words_compares (by decide +kernel)
theorem i_Words_compares_25 : m_at k_Words_compares 25 = some (.goto (4), 3, 0) := m_at_of r_Words_compares (by decide +kernel)
theorem i_Words_compares_28 : m_at k_Words_compares 28 = some (.iconst 0, 1, 0) := m_at_of r_Words_compares (by decide +kernel)
theorem i_Words_compares_29 : m_at k_Words_compares 29 = some (.ireturn, 1, 0) := m_at_of r_Words_compares (by decide +kernel)
set_option maxRecDepth 20000 in
set_option maxHeartbeats 1000000 in
theorem E_Words_compares (x : m_X) (s : m_H) (n0 : Int32) : m_M x k_Words_compares [.int n0] s = if n0 < 37 then (if n0 = 48 then (some (some (.int 1), s)) else if n0 = 49 then (some (some (.int 1), s)) else some (some (.int 0), s)) else if n0 ≤ 40 then (some (some (.int 1), s)) else if n0 = 48 then (some (some (.int 1), s)) else if n0 = 49 then (some (some (.int 1), s)) else some (some (.int 0), s) := by
  refine e_M0 (L0 := [some (.int n0)]) rfl (q_Words_compares _) rfl ?_
  refine e_iload_n i_Words_compares_0 rfl ?_
  refine e_bipush (v := 37) i_Words_compares_1 (by decide) ?_
  refine e_icmplt (t := 12) i_Words_compares_3 (by decide) ?_ ?_
  · refine e_iload_n i_Words_compares_12 rfl ?_
    refine e_bipush (v := 48) i_Words_compares_13 (by decide) ?_
    refine e_icmpeq (t := 24) i_Words_compares_15 (by decide) ?_ ?_
    · refine e_iconst (v := 1) i_Words_compares_24 (by decide) ?_
      refine e_goto (t := 29) i_Words_compares_25 (by decide) ?_
      exact e_iretZ i_Words_compares_29 rfl (by decide)
    · refine e_iload_n i_Words_compares_18 rfl ?_
      refine e_bipush (v := 49) i_Words_compares_19 (by decide) ?_
      refine e_icmpne (t := 28) i_Words_compares_21 (by decide) ?_ ?_
      · refine e_iconst (v := 0) i_Words_compares_28 (by decide) ?_
        exact e_iretZ i_Words_compares_29 rfl (by decide)
      · refine e_iconst (v := 1) i_Words_compares_24 (by decide) ?_
        refine e_goto (t := 29) i_Words_compares_25 (by decide) ?_
        exact e_iretZ i_Words_compares_29 rfl (by decide)
  · refine e_iload_n i_Words_compares_6 rfl ?_
    refine e_bipush (v := 40) i_Words_compares_7 (by decide) ?_
    refine e_icmple (t := 24) i_Words_compares_9 (by decide) ?_ ?_
    · refine e_iconst (v := 1) i_Words_compares_24 (by decide) ?_
      refine e_goto (t := 29) i_Words_compares_25 (by decide) ?_
      exact e_iretZ i_Words_compares_29 rfl (by decide)
    · refine e_iload_n i_Words_compares_12 rfl ?_
      refine e_bipush (v := 48) i_Words_compares_13 (by decide) ?_
      refine e_icmpeq (t := 24) i_Words_compares_15 (by decide) ?_ ?_
      · refine e_iconst (v := 1) i_Words_compares_24 (by decide) ?_
        refine e_goto (t := 29) i_Words_compares_25 (by decide) ?_
        exact e_iretZ i_Words_compares_29 rfl (by decide)
      · refine e_iload_n i_Words_compares_18 rfl ?_
        refine e_bipush (v := 49) i_Words_compares_19 (by decide) ?_
        refine e_icmpne (t := 28) i_Words_compares_21 (by decide) ?_ ?_
        · refine e_iconst (v := 0) i_Words_compares_28 (by decide) ?_
          exact e_iretZ i_Words_compares_29 rfl (by decide)
        · refine e_iconst (v := 1) i_Words_compares_24 (by decide) ?_
          refine e_goto (t := 29) i_Words_compares_25 (by decide) ?_
          exact e_iretZ i_Words_compares_29 rfl (by decide)
theorem i_Words_isLaw_0 : m_at k_Words_isLaw 0 = some (.iload_n 0, 1, 0) := m_at_of r_Words_isLaw (by decide +kernel)
theorem i_Words_isLaw_1 : m_at k_Words_isLaw 1 = some (.ifCond .lt (12), 3, 0) := m_at_of r_Words_isLaw (by decide +kernel)
theorem i_Words_isLaw_4 : m_at k_Words_isLaw 4 = some (.iload_n 0, 1, 0) := m_at_of r_Words_isLaw (by decide +kernel)
theorem i_Words_isLaw_5 : m_at k_Words_isLaw 5 = some (.iconst 3, 1, 0) := m_at_of r_Words_isLaw (by decide +kernel)
theorem i_Words_isLaw_6 : m_at k_Words_isLaw 6 = some (.if_icmp .gt (7), 3, 0) := m_at_of r_Words_isLaw (by decide +kernel)
theorem i_Words_isLaw_9 : m_at k_Words_isLaw 9 = some (.iconst 1, 1, 0) := m_at_of r_Words_isLaw (by decide +kernel)
theorem i_Words_isLaw_10 : m_at k_Words_isLaw 10 = some (.goto (4), 3, 0) := m_at_of r_Words_isLaw (by decide +kernel)
theorem i_Words_isLaw_13 : m_at k_Words_isLaw 13 = some (.iconst 0, 1, 0) := m_at_of r_Words_isLaw (by decide +kernel)
theorem i_Words_isLaw_14 : m_at k_Words_isLaw 14 = some (.ireturn, 1, 0) := m_at_of r_Words_isLaw (by decide +kernel)
set_option maxRecDepth 20000 in
set_option maxHeartbeats 1000000 in
theorem E_Words_isLaw (x : m_X) (s : m_H) (n0 : Int32) : m_M x k_Words_isLaw [.int n0] s = if n0 < 0 then (some (some (.int 0), s)) else if 3 < n0 then (some (some (.int 0), s)) else some (some (.int 1), s) := by
  refine e_M0 (L0 := [some (.int n0)]) rfl (q_Words_isLaw _) rfl ?_
  refine e_iload_n i_Words_isLaw_0 rfl ?_
  refine e_iflt (t := 13) i_Words_isLaw_1 (by decide) ?_ ?_
  · refine e_iconst (v := 0) i_Words_isLaw_13 (by decide) ?_
    exact e_iretZ i_Words_isLaw_14 rfl (by decide)
  · refine e_iload_n i_Words_isLaw_4 rfl ?_
    refine e_iconst (v := 3) i_Words_isLaw_5 (by decide) ?_
    refine e_icmpgt (t := 13) i_Words_isLaw_6 (by decide) ?_ ?_
    · refine e_iconst (v := 0) i_Words_isLaw_13 (by decide) ?_
      exact e_iretZ i_Words_isLaw_14 rfl (by decide)
    · refine e_iconst (v := 1) i_Words_isLaw_9 (by decide) ?_
      refine e_goto (t := 14) i_Words_isLaw_10 (by decide) ?_
      exact e_iretZ i_Words_isLaw_14 rfl (by decide)
theorem i_Words_isClauseStart_0 : m_at k_Words_isClauseStart 0 = some (.iload_n 0, 1, 0) := m_at_of r_Words_isClauseStart (by decide +kernel)
theorem i_Words_isClauseStart_1 : m_at k_Words_isClauseStart 1 = some (.ifCond .lt (13), 3, 0) := m_at_of r_Words_isClauseStart (by decide +kernel)
theorem i_Words_isClauseStart_4 : m_at k_Words_isClauseStart 4 = some (.iload_n 0, 1, 0) := m_at_of r_Words_isClauseStart (by decide +kernel)
theorem i_Words_isClauseStart_5 : m_at k_Words_isClauseStart 5 = some (.bipush 11, 2, 0) := m_at_of r_Words_isClauseStart (by decide +kernel)
theorem i_Words_isClauseStart_7 : m_at k_Words_isClauseStart 7 = some (.if_icmp .gt (7), 3, 0) := m_at_of r_Words_isClauseStart (by decide +kernel)
theorem i_Words_isClauseStart_10 : m_at k_Words_isClauseStart 10 = some (.iconst 1, 1, 0) := m_at_of r_Words_isClauseStart (by decide +kernel)
theorem i_Words_isClauseStart_11 : m_at k_Words_isClauseStart 11 = some (.goto (4), 3, 0) := m_at_of r_Words_isClauseStart (by decide +kernel)
theorem i_Words_isClauseStart_14 : m_at k_Words_isClauseStart 14 = some (.iconst 0, 1, 0) := m_at_of r_Words_isClauseStart (by decide +kernel)
theorem i_Words_isClauseStart_15 : m_at k_Words_isClauseStart 15 = some (.ireturn, 1, 0) := m_at_of r_Words_isClauseStart (by decide +kernel)
set_option maxRecDepth 20000 in
set_option maxHeartbeats 1000000 in
theorem E_Words_isClauseStart (x : m_X) (s : m_H) (n0 : Int32) : m_M x k_Words_isClauseStart [.int n0] s = if n0 < 0 then (some (some (.int 0), s)) else if 11 < n0 then (some (some (.int 0), s)) else some (some (.int 1), s) := by
  refine e_M0 (L0 := [some (.int n0)]) rfl (q_Words_isClauseStart _) rfl ?_
  refine e_iload_n i_Words_isClauseStart_0 rfl ?_
  refine e_iflt (t := 14) i_Words_isClauseStart_1 (by decide) ?_ ?_
  · refine e_iconst (v := 0) i_Words_isClauseStart_14 (by decide) ?_
    exact e_iretZ i_Words_isClauseStart_15 rfl (by decide)
  · refine e_iload_n i_Words_isClauseStart_4 rfl ?_
    refine e_bipush (v := 11) i_Words_isClauseStart_5 (by decide) ?_
    refine e_icmpgt (t := 14) i_Words_isClauseStart_7 (by decide) ?_ ?_
    · refine e_iconst (v := 0) i_Words_isClauseStart_14 (by decide) ?_
      exact e_iretZ i_Words_isClauseStart_15 rfl (by decide)
    · refine e_iconst (v := 1) i_Words_isClauseStart_10 (by decide) ?_
      refine e_goto (t := 15) i_Words_isClauseStart_11 (by decide) ?_
      exact e_iretZ i_Words_isClauseStart_15 rfl (by decide)
theorem i_Words_symbolOf_0 : m_at k_Words_symbolOf 0 = some (.ldc 21, 2, 100) := m_at_of r_Words_symbolOf (by decide +kernel)
theorem i_Words_symbolOf_2 : m_at k_Words_symbolOf 2 = some (.iload_n 0, 1, 0) := m_at_of r_Words_symbolOf (by decide +kernel)
theorem i_Words_symbolOf_3 : m_at k_Words_symbolOf 3 = some (.i2c, 1, 0) := m_at_of r_Words_symbolOf (by decide +kernel)
theorem i_Words_symbolOf_4 : m_at k_Words_symbolOf 4 = some (.invokevirtual 23, 3, 406) := m_at_of r_Words_symbolOf (by decide +kernel)
theorem i_Words_symbolOf_7 : m_at k_Words_symbolOf 7 = some (.istore_n 1, 1, 0) := m_at_of r_Words_symbolOf (by decide +kernel)
theorem i_Words_symbolOf_8 : m_at k_Words_symbolOf 8 = some (.iload_n 1, 1, 0) := m_at_of r_Words_symbolOf (by decide +kernel)
theorem i_Words_symbolOf_9 : m_at k_Words_symbolOf 9 = some (.ifCond .ge (8), 3, 0) := m_at_of r_Words_symbolOf (by decide +kernel)
theorem i_Words_symbolOf_12 : m_at k_Words_symbolOf 12 = some (.bipush 53, 2, 0) := m_at_of r_Words_symbolOf (by decide +kernel)
theorem i_Words_symbolOf_14 : m_at k_Words_symbolOf 14 = some (.goto (7), 3, 0) := m_at_of r_Words_symbolOf (by decide +kernel)
theorem i_Words_symbolOf_17 : m_at k_Words_symbolOf 17 = some (.bipush 37, 2, 0) := m_at_of r_Words_symbolOf (by decide +kernel)
theorem i_Words_symbolOf_19 : m_at k_Words_symbolOf 19 = some (.iload_n 1, 1, 0) := m_at_of r_Words_symbolOf (by decide +kernel)
theorem i_Words_symbolOf_20 : m_at k_Words_symbolOf 20 = some (.iadd, 1, 0) := m_at_of r_Words_symbolOf (by decide +kernel)
theorem i_Words_symbolOf_21 : m_at k_Words_symbolOf 21 = some (.ireturn, 1, 0) := m_at_of r_Words_symbolOf (by decide +kernel)
set_option maxRecDepth 20000 in
set_option maxHeartbeats 1000000 in
theorem E_Words_symbolOf (x : m_X) (s : m_H) (n0 : Int32) : m_M x k_Words_symbolOf [.int n0] s = m_bI (m_M x k_String_indexOf_I [.ref 1003, .int (n0.toUInt32 % 65536).toInt32] s) fun v4 s4 => if 0 ≤ v4 then (some (some (.int ((37 : Int32) + v4)), s4)) else some (some (.int 53), s4) := by
  refine e_M0 (L0 := [some (.int n0), none]) rfl (q_Words_symbolOf _) rfl ?_
  refine e_ldcs (q := (15, 21, 1)) i_Words_symbolOf_0 (by decide) rfl ?_
  refine e_iload_n i_Words_symbolOf_2 rfl ?_
  refine e_i2c i_Words_symbolOf_3 ?_
  refine e_callI (as := [.ref 1003, .int (n0.toUInt32 % 65536).toInt32]) (st' := []) i_Words_symbolOf_4 lm_406 (Or.inr (Or.inl ⟨rfl, rfl⟩)) w_String_indexOf_I rfl rfl rfl (Nat.le_of_ble_eq_true rfl) (Nat.le_of_ble_eq_true rfl) (m_rlt (q_String_indexOf_I _) (by decide)) rfl (fun v4 s4 => ?_)
  refine e_istore_n (L' := [some (.int n0), some (.int v4)]) i_Words_symbolOf_7 (of_decide_eq_true rfl) rfl ?_
  refine e_iload_n i_Words_symbolOf_8 rfl ?_
  refine e_ifge (t := 17) i_Words_symbolOf_9 (by decide) ?_ ?_
  · refine e_bipush (v := 37) i_Words_symbolOf_17 (by decide) ?_
    refine e_iload_n i_Words_symbolOf_19 rfl ?_
    refine e_iadd i_Words_symbolOf_20 ?_
    exact e_iretI i_Words_symbolOf_21 rfl
  · refine e_bipush (v := 53) i_Words_symbolOf_12 (by decide) ?_
    refine e_goto (t := 21) i_Words_symbolOf_14 (by decide) ?_
    exact e_iretI i_Words_symbolOf_21 rfl
theorem i_Words_wordOf_0 : m_at k_Words_wordOf 0 = some (.iconst 0, 1, 0) := m_at_of r_Words_wordOf (by decide +kernel)
theorem i_Words_wordOf_1 : m_at k_Words_wordOf 1 = some (.istore_n 3, 1, 0) := m_at_of r_Words_wordOf (by decide +kernel)
theorem i_Words_wordOf_2 : m_at k_Words_wordOf 2 = some (.iconst 0, 1, 0) := m_at_of r_Words_wordOf (by decide +kernel)
theorem i_Words_wordOf_3 : m_at k_Words_wordOf 3 = some (.istore 4, 2, 0) := m_at_of r_Words_wordOf (by decide +kernel)
theorem i_Words_wordOf_5 : m_at k_Words_wordOf 5 = some (.iload 4, 2, 0) := m_at_of r_Words_wordOf (by decide +kernel)
theorem i_Words_wordOf_7 : m_at k_Words_wordOf 7 = some (.bipush 37, 2, 0) := m_at_of r_Words_wordOf (by decide +kernel)
theorem i_Words_wordOf_9 : m_at k_Words_wordOf 9 = some (.if_icmp .ge (118), 3, 0) := m_at_of r_Words_wordOf (by decide +kernel)
theorem i_Words_wordOf_12 : m_at k_Words_wordOf 12 = some (.iconst 1, 1, 0) := m_at_of r_Words_wordOf (by decide +kernel)
theorem i_Words_wordOf_13 : m_at k_Words_wordOf 13 = some (.istore 5, 2, 0) := m_at_of r_Words_wordOf (by decide +kernel)
theorem i_Words_wordOf_15 : m_at k_Words_wordOf 15 = some (.iload_n 3, 1, 0) := m_at_of r_Words_wordOf (by decide +kernel)
theorem i_Words_wordOf_16 : m_at k_Words_wordOf 16 = some (.istore 6, 2, 0) := m_at_of r_Words_wordOf (by decide +kernel)
theorem i_Words_wordOf_18 : m_at k_Words_wordOf 18 = some (.iload 6, 2, 0) := m_at_of r_Words_wordOf (by decide +kernel)
theorem i_Words_wordOf_20 : m_at k_Words_wordOf 20 = some (.ldc 9, 2, 101) := m_at_of r_Words_wordOf (by decide +kernel)
theorem i_Words_wordOf_22 : m_at k_Words_wordOf 22 = some (.invokevirtual 11, 3, 417) := m_at_of r_Words_wordOf (by decide +kernel)
theorem i_Words_wordOf_25 : m_at k_Words_wordOf 25 = some (.if_icmp .ge (73), 3, 0) := m_at_of r_Words_wordOf (by decide +kernel)
theorem i_Words_wordOf_28 : m_at k_Words_wordOf 28 = some (.ldc 9, 2, 101) := m_at_of r_Words_wordOf (by decide +kernel)
theorem i_Words_wordOf_30 : m_at k_Words_wordOf 30 = some (.iload 6, 2, 0) := m_at_of r_Words_wordOf (by decide +kernel)
theorem i_Words_wordOf_32 : m_at k_Words_wordOf 32 = some (.invokevirtual 17, 3, 418) := m_at_of r_Words_wordOf (by decide +kernel)
theorem i_Words_wordOf_35 : m_at k_Words_wordOf 35 = some (.bipush 32, 2, 0) := m_at_of r_Words_wordOf (by decide +kernel)
theorem i_Words_wordOf_37 : m_at k_Words_wordOf 37 = some (.if_icmp .eq (61), 3, 0) := m_at_of r_Words_wordOf (by decide +kernel)
theorem i_Words_wordOf_40 : m_at k_Words_wordOf 40 = some (.iload_n 1, 1, 0) := m_at_of r_Words_wordOf (by decide +kernel)
theorem i_Words_wordOf_41 : m_at k_Words_wordOf 41 = some (.iload 6, 2, 0) := m_at_of r_Words_wordOf (by decide +kernel)
theorem i_Words_wordOf_43 : m_at k_Words_wordOf 43 = some (.iadd, 1, 0) := m_at_of r_Words_wordOf (by decide +kernel)
theorem i_Words_wordOf_44 : m_at k_Words_wordOf 44 = some (.iload_n 3, 1, 0) := m_at_of r_Words_wordOf (by decide +kernel)
theorem i_Words_wordOf_45 : m_at k_Words_wordOf 45 = some (.isub, 1, 0) := m_at_of r_Words_wordOf (by decide +kernel)
theorem i_Words_wordOf_46 : m_at k_Words_wordOf 46 = some (.istore 7, 2, 0) := m_at_of r_Words_wordOf (by decide +kernel)
theorem i_Words_wordOf_48 : m_at k_Words_wordOf 48 = some (.iload 5, 2, 0) := m_at_of r_Words_wordOf (by decide +kernel)
theorem i_Words_wordOf_50 : m_at k_Words_wordOf 50 = some (.ifCond .eq (39), 3, 0) := m_at_of r_Words_wordOf (by decide +kernel)
theorem i_Words_wordOf_53 : m_at k_Words_wordOf 53 = some (.iload 7, 2, 0) := m_at_of r_Words_wordOf (by decide +kernel)
theorem i_Words_wordOf_55 : m_at k_Words_wordOf 55 = some (.ifCond .lt (34), 3, 0) := m_at_of r_Words_wordOf (by decide +kernel)
theorem i_Words_wordOf_58 : m_at k_Words_wordOf 58 = some (.iload 7, 2, 0) := m_at_of r_Words_wordOf (by decide +kernel)
theorem i_Words_wordOf_60 : m_at k_Words_wordOf 60 = some (.iload_n 2, 1, 0) := m_at_of r_Words_wordOf (by decide +kernel)
theorem i_Words_wordOf_61 : m_at k_Words_wordOf 61 = some (.if_icmp .ge (28), 3, 0) := m_at_of r_Words_wordOf (by decide +kernel)
theorem i_Words_wordOf_64 : m_at k_Words_wordOf 64 = some (.iload 7, 2, 0) := m_at_of r_Words_wordOf (by decide +kernel)
theorem i_Words_wordOf_66 : m_at k_Words_wordOf 66 = some (.aload_n 0, 1, 0) := m_at_of r_Words_wordOf (by decide +kernel)
theorem i_Words_wordOf_67 : m_at k_Words_wordOf 67 = some (.arraylength, 1, 0) := m_at_of r_Words_wordOf (by decide +kernel)
theorem i_Words_wordOf_68 : m_at k_Words_wordOf 68 = some (.if_icmp .ge (21), 3, 0) := m_at_of r_Words_wordOf (by decide +kernel)
theorem i_Words_wordOf_71 : m_at k_Words_wordOf 71 = some (.aload_n 0, 1, 0) := m_at_of r_Words_wordOf (by decide +kernel)
theorem i_Words_wordOf_72 : m_at k_Words_wordOf 72 = some (.iload 7, 2, 0) := m_at_of r_Words_wordOf (by decide +kernel)
theorem i_Words_wordOf_74 : m_at k_Words_wordOf 74 = some (.iaload, 1, 0) := m_at_of r_Words_wordOf (by decide +kernel)
theorem i_Words_wordOf_75 : m_at k_Words_wordOf 75 = some (.ldc 9, 2, 101) := m_at_of r_Words_wordOf (by decide +kernel)
theorem i_Words_wordOf_77 : m_at k_Words_wordOf 77 = some (.iload 6, 2, 0) := m_at_of r_Words_wordOf (by decide +kernel)
theorem i_Words_wordOf_79 : m_at k_Words_wordOf 79 = some (.invokevirtual 17, 3, 418) := m_at_of r_Words_wordOf (by decide +kernel)
theorem i_Words_wordOf_82 : m_at k_Words_wordOf 82 = some (.if_icmp .ne (7), 3, 0) := m_at_of r_Words_wordOf (by decide +kernel)
theorem i_Words_wordOf_85 : m_at k_Words_wordOf 85 = some (.iconst 1, 1, 0) := m_at_of r_Words_wordOf (by decide +kernel)
theorem i_Words_wordOf_86 : m_at k_Words_wordOf 86 = some (.goto (4), 3, 0) := m_at_of r_Words_wordOf (by decide +kernel)
theorem i_Words_wordOf_89 : m_at k_Words_wordOf 89 = some (.iconst 0, 1, 0) := m_at_of r_Words_wordOf (by decide +kernel)
theorem i_Words_wordOf_90 : m_at k_Words_wordOf 90 = some (.istore 5, 2, 0) := m_at_of r_Words_wordOf (by decide +kernel)
theorem i_Words_wordOf_92 : m_at k_Words_wordOf 92 = some (.iinc 6 (1), 3, 0) := m_at_of r_Words_wordOf (by decide +kernel)
theorem i_Words_wordOf_95 : m_at k_Words_wordOf 95 = some (.goto (-77), 3, 0) := m_at_of r_Words_wordOf (by decide +kernel)
theorem i_Words_wordOf_98 : m_at k_Words_wordOf 98 = some (.iload 5, 2, 0) := m_at_of r_Words_wordOf (by decide +kernel)
theorem i_Words_wordOf_100 : m_at k_Words_wordOf 100 = some (.ifCond .eq (16), 3, 0) := m_at_of r_Words_wordOf (by decide +kernel)
theorem i_Words_wordOf_103 : m_at k_Words_wordOf 103 = some (.iload 6, 2, 0) := m_at_of r_Words_wordOf (by decide +kernel)
theorem i_Words_wordOf_105 : m_at k_Words_wordOf 105 = some (.iload_n 3, 1, 0) := m_at_of r_Words_wordOf (by decide +kernel)
theorem i_Words_wordOf_106 : m_at k_Words_wordOf 106 = some (.isub, 1, 0) := m_at_of r_Words_wordOf (by decide +kernel)
theorem i_Words_wordOf_107 : m_at k_Words_wordOf 107 = some (.iload_n 2, 1, 0) := m_at_of r_Words_wordOf (by decide +kernel)
theorem i_Words_wordOf_108 : m_at k_Words_wordOf 108 = some (.iload_n 1, 1, 0) := m_at_of r_Words_wordOf (by decide +kernel)
theorem i_Words_wordOf_109 : m_at k_Words_wordOf 109 = some (.isub, 1, 0) := m_at_of r_Words_wordOf (by decide +kernel)
theorem i_Words_wordOf_110 : m_at k_Words_wordOf 110 = some (.if_icmp .ne (6), 3, 0) := m_at_of r_Words_wordOf (by decide +kernel)
theorem i_Words_wordOf_113 : m_at k_Words_wordOf 113 = some (.iload 4, 2, 0) := m_at_of r_Words_wordOf (by decide +kernel)
theorem i_Words_wordOf_115 : m_at k_Words_wordOf 115 = some (.ireturn, 1, 0) := m_at_of r_Words_wordOf (by decide +kernel)
theorem i_Words_wordOf_116 : m_at k_Words_wordOf 116 = some (.iload 6, 2, 0) := m_at_of r_Words_wordOf (by decide +kernel)
theorem i_Words_wordOf_118 : m_at k_Words_wordOf 118 = some (.iconst 1, 1, 0) := m_at_of r_Words_wordOf (by decide +kernel)
theorem i_Words_wordOf_119 : m_at k_Words_wordOf 119 = some (.iadd, 1, 0) := m_at_of r_Words_wordOf (by decide +kernel)
theorem i_Words_wordOf_120 : m_at k_Words_wordOf 120 = some (.istore_n 3, 1, 0) := m_at_of r_Words_wordOf (by decide +kernel)
theorem i_Words_wordOf_121 : m_at k_Words_wordOf 121 = some (.iinc 4 (1), 3, 0) := m_at_of r_Words_wordOf (by decide +kernel)
theorem i_Words_wordOf_124 : m_at k_Words_wordOf 124 = some (.goto (-119), 3, 0) := m_at_of r_Words_wordOf (by decide +kernel)
theorem i_Words_wordOf_127 : m_at k_Words_wordOf 127 = some (.bipush 53, 2, 0) := m_at_of r_Words_wordOf (by decide +kernel)
theorem i_Words_wordOf_129 : m_at k_Words_wordOf 129 = some (.ireturn, 1, 0) := m_at_of r_Words_wordOf (by decide +kernel)
set_option maxRecDepth 20000 in
set_option maxHeartbeats 1000000 in
theorem E_Words_wordOf (x : m_X) (s : m_H) (r0 : Nat) (n1 : Int32) (n2 : Int32) : m_M x k_Words_wordOf [.ref r0, .int n1, .int n2] s = m_D x 5 k_Words_wordOf 5 [some (.ref r0), some (.int n1), some (.int n2), some (.int 0), some (.int 0), none, none, none] [] s := by
  refine e_M0 (L0 := [some (.ref r0), some (.int n1), some (.int n2), none, none, none, none, none]) rfl (q_Words_wordOf _) rfl ?_
  refine e_iconst (v := 0) i_Words_wordOf_0 (by decide) ?_
  refine e_istore_n (L' := [some (.ref r0), some (.int n1), some (.int n2), some (.int 0), none, none, none, none]) i_Words_wordOf_1 (of_decide_eq_true rfl) rfl ?_
  refine e_iconst (v := 0) i_Words_wordOf_2 (by decide) ?_
  refine e_istore (L' := [some (.ref r0), some (.int n1), some (.int n2), some (.int 0), some (.int 0), none, none, none]) i_Words_wordOf_3 (of_decide_eq_true rfl) rfl ?_
  exact rfl
set_option maxRecDepth 20000 in
set_option maxHeartbeats 1000000 in
theorem E_Words_wordOf_5 (x : m_X) (ρ : Nat) (hρ : 5 ≤ ρ) (s : m_H) (r0 : Nat) (n1 : Int32) (n2 : Int32) (n3 : Int32) (n4 : Int32) (d5 : Option Value) (d6 : Option Value) (d7 : Option Value) (hd5 : m_nl d5 = true) (hd6 : m_nl d6 = true) (hd7 : m_nl d7 = true) : m_D x ρ k_Words_wordOf 5 [some (.ref r0), some (.int n1), some (.int n2), some (.int n3), some (.int n4), d5, d6, d7] [] s = if 37 ≤ n4 then (some (some (.int 53), s)) else m_D x ρ k_Words_wordOf 18 [some (.ref r0), some (.int n1), some (.int n2), some (.int n3), some (.int n4), some (.int 1), some (.int n3), d7] [] s := by
  refine e_iload i_Words_wordOf_5 rfl ?_
  refine e_bipush (v := 37) i_Words_wordOf_7 (by decide) ?_
  refine e_icmpge (t := 127) i_Words_wordOf_9 (by decide) ?_ ?_
  · refine e_bipush (v := 53) i_Words_wordOf_127 (by decide) ?_
    exact e_iretI i_Words_wordOf_129 rfl
  · refine e_iconst (v := 1) i_Words_wordOf_12 (by decide) ?_
    refine e_istore (L' := [some (.ref r0), some (.int n1), some (.int n2), some (.int n3), some (.int n4), some (.int 1), d6, d7]) i_Words_wordOf_13 (of_decide_eq_true rfl) rfl ?_
    refine e_iload_n i_Words_wordOf_15 rfl ?_
    refine e_istore (L' := [some (.ref r0), some (.int n1), some (.int n2), some (.int n3), some (.int n4), some (.int 1), some (.int n3), d7]) i_Words_wordOf_16 (of_decide_eq_true rfl) rfl ?_
    exact rfl
set_option maxRecDepth 20000 in
set_option maxHeartbeats 1000000 in
theorem E_Words_wordOf_18 (x : m_X) (ρ : Nat) (hρ : 5 ≤ ρ) (s : m_H) (r0 : Nat) (n1 : Int32) (n2 : Int32) (n3 : Int32) (n4 : Int32) (n5 : Int32) (n6 : Int32) (d7 : Option Value) (hd7 : m_nl d7 = true) : m_D x ρ k_Words_wordOf 18 [some (.ref r0), some (.int n1), some (.int n2), some (.int n3), some (.int n4), some (.int n5), some (.int n6), d7] [] s = m_bI (m_M x k_String_length [.ref 1002] s) fun v22 s22 => if v22 ≤ n6 then (m_D x ρ k_Words_wordOf 98 [some (.ref r0), some (.int n1), some (.int n2), some (.int n3), some (.int n4), some (.int n5), some (.int n6), d7] [] s22) else m_bI (m_M x k_String_charAt [.ref 1002, .int n6] s22) fun v32 s32 => if v32 = 32 then (m_D x ρ k_Words_wordOf 98 [some (.ref r0), some (.int n1), some (.int n2), some (.int n3), some (.int n4), some (.int n5), some (.int n6), d7] [] s32) else if n5 = 0 then (m_D x ρ k_Words_wordOf 18 [some (.ref r0), some (.int n1), some (.int n2), some (.int n3), some (.int n4), some (.int 0), some (.int (n6 + (1 : Int32))), some (.int ((n1 + n6) - n3))] [] s32) else if ((n1 + n6) - n3) < 0 then (m_D x ρ k_Words_wordOf 18 [some (.ref r0), some (.int n1), some (.int n2), some (.int n3), some (.int n4), some (.int 0), some (.int (n6 + (1 : Int32))), some (.int ((n1 + n6) - n3))] [] s32) else if n2 ≤ ((n1 + n6) - n3) then (m_D x ρ k_Words_wordOf 18 [some (.ref r0), some (.int n1), some (.int n2), some (.int n3), some (.int n4), some (.int 0), some (.int (n6 + (1 : Int32))), some (.int ((n1 + n6) - n3))] [] s32) else (m_len x s32 r0).bind fun v67 => if v67 ≤ ((n1 + n6) - n3) then (m_D x ρ k_Words_wordOf 18 [some (.ref r0), some (.int n1), some (.int n2), some (.int n3), some (.int n4), some (.int 0), some (.int (n6 + (1 : Int32))), some (.int ((n1 + n6) - n3))] [] s32) else (m_ia x s32 r0 ((n1 + n6) - n3)).bind fun v74 => m_bI (m_M x k_String_charAt [.ref 1002, .int n6] s32) fun v79 s79 => if v74 = v79 then (m_D x ρ k_Words_wordOf 18 [some (.ref r0), some (.int n1), some (.int n2), some (.int n3), some (.int n4), some (.int 1), some (.int (n6 + (1 : Int32))), some (.int ((n1 + n6) - n3))] [] s79) else m_D x ρ k_Words_wordOf 18 [some (.ref r0), some (.int n1), some (.int n2), some (.int n3), some (.int n4), some (.int 0), some (.int (n6 + (1 : Int32))), some (.int ((n1 + n6) - n3))] [] s79 := by
  refine e_iload i_Words_wordOf_18 rfl ?_
  refine e_ldcs (q := (15, 9, 0)) i_Words_wordOf_20 (by decide) rfl ?_
  refine e_callI (as := [.ref 1002]) (st' := [.int n6]) i_Words_wordOf_22 lm_417 (Or.inr (Or.inl ⟨rfl, rfl⟩)) w_String_length rfl rfl rfl (Nat.le_of_ble_eq_true rfl) (Nat.le_of_ble_eq_true rfl) (m_rlt (q_String_length _) (Nat.lt_of_lt_of_le (by decide) hρ)) rfl (fun v22 s22 => ?_)
  refine e_icmpge (t := 98) i_Words_wordOf_25 (by decide) ?_ ?_
  · exact rfl
  · refine e_ldcs (q := (15, 9, 0)) i_Words_wordOf_28 (by decide) rfl ?_
    refine e_iload i_Words_wordOf_30 rfl ?_
    refine e_callI (as := [.ref 1002, .int n6]) (st' := []) i_Words_wordOf_32 lm_418 (Or.inr (Or.inl ⟨rfl, rfl⟩)) w_String_charAt rfl rfl rfl (Nat.le_of_ble_eq_true rfl) (Nat.le_of_ble_eq_true rfl) (m_rlt (q_String_charAt _) (Nat.lt_of_lt_of_le (by decide) hρ)) rfl (fun v32 s32 => ?_)
    refine e_bipush (v := 32) i_Words_wordOf_35 (by decide) ?_
    refine e_icmpeq (t := 98) i_Words_wordOf_37 (by decide) ?_ ?_
    · exact rfl
    · refine e_iload_n i_Words_wordOf_40 rfl ?_
      refine e_iload i_Words_wordOf_41 rfl ?_
      refine e_iadd i_Words_wordOf_43 ?_
      refine e_iload_n i_Words_wordOf_44 rfl ?_
      refine e_isub i_Words_wordOf_45 ?_
      refine e_istore (L' := [some (.ref r0), some (.int n1), some (.int n2), some (.int n3), some (.int n4), some (.int n5), some (.int n6), some (.int ((n1 + n6) - n3))]) i_Words_wordOf_46 (of_decide_eq_true rfl) rfl ?_
      refine e_iload i_Words_wordOf_48 rfl ?_
      refine e_ifeq (t := 89) i_Words_wordOf_50 (by decide) ?_ ?_
      · refine e_iconst (v := 0) i_Words_wordOf_89 (by decide) ?_
        refine e_istore (L' := [some (.ref r0), some (.int n1), some (.int n2), some (.int n3), some (.int n4), some (.int 0), some (.int n6), some (.int ((n1 + n6) - n3))]) i_Words_wordOf_90 (of_decide_eq_true rfl) rfl ?_
        refine e_iinc (w := 1) (L' := [some (.ref r0), some (.int n1), some (.int n2), some (.int n3), some (.int n4), some (.int 0), some (.int (n6 + (1 : Int32))), some (.int ((n1 + n6) - n3))]) i_Words_wordOf_92 rfl (of_decide_eq_true rfl) (by decide) rfl ?_
        refine e_goto (t := 18) i_Words_wordOf_95 (by decide) ?_
        exact rfl
      · refine e_iload i_Words_wordOf_53 rfl ?_
        refine e_iflt (t := 89) i_Words_wordOf_55 (by decide) ?_ ?_
        · refine e_iconst (v := 0) i_Words_wordOf_89 (by decide) ?_
          refine e_istore (L' := [some (.ref r0), some (.int n1), some (.int n2), some (.int n3), some (.int n4), some (.int 0), some (.int n6), some (.int ((n1 + n6) - n3))]) i_Words_wordOf_90 (of_decide_eq_true rfl) rfl ?_
          refine e_iinc (w := 1) (L' := [some (.ref r0), some (.int n1), some (.int n2), some (.int n3), some (.int n4), some (.int 0), some (.int (n6 + (1 : Int32))), some (.int ((n1 + n6) - n3))]) i_Words_wordOf_92 rfl (of_decide_eq_true rfl) (by decide) rfl ?_
          refine e_goto (t := 18) i_Words_wordOf_95 (by decide) ?_
          exact rfl
        · refine e_iload i_Words_wordOf_58 rfl ?_
          refine e_iload_n i_Words_wordOf_60 rfl ?_
          refine e_icmpge (t := 89) i_Words_wordOf_61 (by decide) ?_ ?_
          · refine e_iconst (v := 0) i_Words_wordOf_89 (by decide) ?_
            refine e_istore (L' := [some (.ref r0), some (.int n1), some (.int n2), some (.int n3), some (.int n4), some (.int 0), some (.int n6), some (.int ((n1 + n6) - n3))]) i_Words_wordOf_90 (of_decide_eq_true rfl) rfl ?_
            refine e_iinc (w := 1) (L' := [some (.ref r0), some (.int n1), some (.int n2), some (.int n3), some (.int n4), some (.int 0), some (.int (n6 + (1 : Int32))), some (.int ((n1 + n6) - n3))]) i_Words_wordOf_92 rfl (of_decide_eq_true rfl) (by decide) rfl ?_
            refine e_goto (t := 18) i_Words_wordOf_95 (by decide) ?_
            exact rfl
          · refine e_iload i_Words_wordOf_64 rfl ?_
            refine e_aload_n i_Words_wordOf_66 rfl ?_
            refine e_alen i_Words_wordOf_67 (fun v67 => ?_)
            refine e_icmpge (t := 89) i_Words_wordOf_68 (by decide) ?_ ?_
            · refine e_iconst (v := 0) i_Words_wordOf_89 (by decide) ?_
              refine e_istore (L' := [some (.ref r0), some (.int n1), some (.int n2), some (.int n3), some (.int n4), some (.int 0), some (.int n6), some (.int ((n1 + n6) - n3))]) i_Words_wordOf_90 (of_decide_eq_true rfl) rfl ?_
              refine e_iinc (w := 1) (L' := [some (.ref r0), some (.int n1), some (.int n2), some (.int n3), some (.int n4), some (.int 0), some (.int (n6 + (1 : Int32))), some (.int ((n1 + n6) - n3))]) i_Words_wordOf_92 rfl (of_decide_eq_true rfl) (by decide) rfl ?_
              refine e_goto (t := 18) i_Words_wordOf_95 (by decide) ?_
              exact rfl
            · refine e_aload_n i_Words_wordOf_71 rfl ?_
              refine e_iload i_Words_wordOf_72 rfl ?_
              refine e_iald i_Words_wordOf_74 (fun v74 => ?_)
              refine e_ldcs (q := (15, 9, 0)) i_Words_wordOf_75 (by decide) rfl ?_
              refine e_iload i_Words_wordOf_77 rfl ?_
              refine e_callI (as := [.ref 1002, .int n6]) (st' := [.int v74]) i_Words_wordOf_79 lm_418 (Or.inr (Or.inl ⟨rfl, rfl⟩)) w_String_charAt rfl rfl rfl (Nat.le_of_ble_eq_true rfl) (Nat.le_of_ble_eq_true rfl) (m_rlt (q_String_charAt _) (Nat.lt_of_lt_of_le (by decide) hρ)) rfl (fun v79 s79 => ?_)
              refine e_icmpne (t := 89) i_Words_wordOf_82 (by decide) ?_ ?_
              · refine e_iconst (v := 0) i_Words_wordOf_89 (by decide) ?_
                refine e_istore (L' := [some (.ref r0), some (.int n1), some (.int n2), some (.int n3), some (.int n4), some (.int 0), some (.int n6), some (.int ((n1 + n6) - n3))]) i_Words_wordOf_90 (of_decide_eq_true rfl) rfl ?_
                refine e_iinc (w := 1) (L' := [some (.ref r0), some (.int n1), some (.int n2), some (.int n3), some (.int n4), some (.int 0), some (.int (n6 + (1 : Int32))), some (.int ((n1 + n6) - n3))]) i_Words_wordOf_92 rfl (of_decide_eq_true rfl) (by decide) rfl ?_
                refine e_goto (t := 18) i_Words_wordOf_95 (by decide) ?_
                exact rfl
              · refine e_iconst (v := 1) i_Words_wordOf_85 (by decide) ?_
                refine e_goto (t := 90) i_Words_wordOf_86 (by decide) ?_
                refine e_istore (L' := [some (.ref r0), some (.int n1), some (.int n2), some (.int n3), some (.int n4), some (.int 1), some (.int n6), some (.int ((n1 + n6) - n3))]) i_Words_wordOf_90 (of_decide_eq_true rfl) rfl ?_
                refine e_iinc (w := 1) (L' := [some (.ref r0), some (.int n1), some (.int n2), some (.int n3), some (.int n4), some (.int 1), some (.int (n6 + (1 : Int32))), some (.int ((n1 + n6) - n3))]) i_Words_wordOf_92 rfl (of_decide_eq_true rfl) (by decide) rfl ?_
                refine e_goto (t := 18) i_Words_wordOf_95 (by decide) ?_
                exact rfl
set_option maxRecDepth 20000 in
set_option maxHeartbeats 1000000 in
theorem E_Words_wordOf_98 (x : m_X) (ρ : Nat) (hρ : 5 ≤ ρ) (s : m_H) (r0 : Nat) (n1 : Int32) (n2 : Int32) (n3 : Int32) (n4 : Int32) (n5 : Int32) (n6 : Int32) (d7 : Option Value) (hd7 : m_nl d7 = true) : m_D x ρ k_Words_wordOf 98 [some (.ref r0), some (.int n1), some (.int n2), some (.int n3), some (.int n4), some (.int n5), some (.int n6), d7] [] s = if n5 = 0 then (m_D x ρ k_Words_wordOf 5 [some (.ref r0), some (.int n1), some (.int n2), some (.int (n6 + (1 : Int32))), some (.int (n4 + (1 : Int32))), some (.int n5), some (.int n6), d7] [] s) else if (n6 - n3) = (n2 - n1) then (some (some (.int n4), s)) else m_D x ρ k_Words_wordOf 5 [some (.ref r0), some (.int n1), some (.int n2), some (.int (n6 + (1 : Int32))), some (.int (n4 + (1 : Int32))), some (.int n5), some (.int n6), d7] [] s := by
  refine e_iload i_Words_wordOf_98 rfl ?_
  refine e_ifeq (t := 116) i_Words_wordOf_100 (by decide) ?_ ?_
  · refine e_iload i_Words_wordOf_116 rfl ?_
    refine e_iconst (v := 1) i_Words_wordOf_118 (by decide) ?_
    refine e_iadd i_Words_wordOf_119 ?_
    refine e_istore_n (L' := [some (.ref r0), some (.int n1), some (.int n2), some (.int (n6 + (1 : Int32))), some (.int n4), some (.int n5), some (.int n6), d7]) i_Words_wordOf_120 (of_decide_eq_true rfl) rfl ?_
    refine e_iinc (w := 1) (L' := [some (.ref r0), some (.int n1), some (.int n2), some (.int (n6 + (1 : Int32))), some (.int (n4 + (1 : Int32))), some (.int n5), some (.int n6), d7]) i_Words_wordOf_121 rfl (of_decide_eq_true rfl) (by decide) rfl ?_
    refine e_goto (t := 5) i_Words_wordOf_124 (by decide) ?_
    exact rfl
  · refine e_iload i_Words_wordOf_103 rfl ?_
    refine e_iload_n i_Words_wordOf_105 rfl ?_
    refine e_isub i_Words_wordOf_106 ?_
    refine e_iload_n i_Words_wordOf_107 rfl ?_
    refine e_iload_n i_Words_wordOf_108 rfl ?_
    refine e_isub i_Words_wordOf_109 ?_
    refine e_icmpne (t := 116) i_Words_wordOf_110 (by decide) ?_ ?_
    · refine e_iload i_Words_wordOf_116 rfl ?_
      refine e_iconst (v := 1) i_Words_wordOf_118 (by decide) ?_
      refine e_iadd i_Words_wordOf_119 ?_
      refine e_istore_n (L' := [some (.ref r0), some (.int n1), some (.int n2), some (.int (n6 + (1 : Int32))), some (.int n4), some (.int n5), some (.int n6), d7]) i_Words_wordOf_120 (of_decide_eq_true rfl) rfl ?_
      refine e_iinc (w := 1) (L' := [some (.ref r0), some (.int n1), some (.int n2), some (.int (n6 + (1 : Int32))), some (.int (n4 + (1 : Int32))), some (.int n5), some (.int n6), d7]) i_Words_wordOf_121 rfl (of_decide_eq_true rfl) (by decide) rfl ?_
      refine e_goto (t := 5) i_Words_wordOf_124 (by decide) ?_
      exact rfl
    · refine e_iload i_Words_wordOf_113 rfl ?_
      exact e_iretI i_Words_wordOf_115 rfl
theorem i_String_indexOf_I_0 : m_at k_String_indexOf_I 0 = some (.aload_n 0, 1, 0) := m_at_of r_String_indexOf_I (by decide +kernel)
theorem i_String_indexOf_I_1 : m_at k_String_indexOf_I 1 = some (.iload_n 1, 1, 0) := m_at_of r_String_indexOf_I (by decide +kernel)
theorem i_String_indexOf_I_2 : m_at k_String_indexOf_I 2 = some (.iconst 0, 1, 0) := m_at_of r_String_indexOf_I (by decide +kernel)
theorem i_String_indexOf_I_3 : m_at k_String_indexOf_I 3 = some (.invokevirtual 633, 3, 407) := m_at_of r_String_indexOf_I (by decide +kernel)
theorem i_String_indexOf_I_6 : m_at k_String_indexOf_I 6 = some (.ireturn, 1, 0) := m_at_of r_String_indexOf_I (by decide +kernel)
set_option maxRecDepth 20000 in
set_option maxHeartbeats 1000000 in
theorem E_String_indexOf_I (x : m_X) (s : m_H) (w : Nat) (n1 : Int32) (hw : (w == 1002 || w == 1003) = true) : m_M x k_String_indexOf_I [.ref w, .int n1] s = m_bI (m_M x k_String_indexOf_II [.ref w, .int n1, .int 0] s) fun v3 s3 => some (some (.int v3), s3) := by
  refine e_MT (L0 := [some (.ref w), some (.int n1)]) rfl (by decide +kernel) hw (q_String_indexOf_I _) rfl ?_
  refine e_aload_n i_String_indexOf_I_0 rfl ?_
  refine e_iload_n i_String_indexOf_I_1 rfl ?_
  refine e_iconst (v := 0) i_String_indexOf_I_2 (by decide) ?_
  refine e_callI (as := [.ref w, .int n1, .int 0]) (st' := []) i_String_indexOf_I_3 lm_407 (Or.inr (Or.inl ⟨rfl, rfl⟩)) w_String_indexOf_II rfl rfl rfl (Nat.le_of_ble_eq_true rfl) (Nat.le_of_ble_eq_true rfl) (m_rlt (q_String_indexOf_II _) (by decide)) rfl (fun v3 s3 => ?_)
  exact e_iretI i_String_indexOf_I_6 rfl
theorem i_String_indexOf_II_0 : m_at k_String_indexOf_II 0 = some (.aload_n 0, 1, 0) := m_at_of r_String_indexOf_II (by decide +kernel)
theorem i_String_indexOf_II_1 : m_at k_String_indexOf_II 1 = some (.invokevirtual 492, 3, 408) := m_at_of r_String_indexOf_II (by decide +kernel)
theorem i_String_indexOf_II_4 : m_at k_String_indexOf_II 4 = some (.ifCond .eq (19), 3, 0) := m_at_of r_String_indexOf_II (by decide +kernel)
theorem i_String_indexOf_II_7 : m_at k_String_indexOf_II 7 = some (.aload_n 0, 1, 0) := m_at_of r_String_indexOf_II (by decide +kernel)
theorem i_String_indexOf_II_8 : m_at k_String_indexOf_II 8 = some (.getfield 9, 3, 126) := m_at_of r_String_indexOf_II (by decide +kernel)
theorem i_String_indexOf_II_11 : m_at k_String_indexOf_II 11 = some (.iload_n 1, 1, 0) := m_at_of r_String_indexOf_II (by decide +kernel)
theorem i_String_indexOf_II_12 : m_at k_String_indexOf_II 12 = some (.iload_n 2, 1, 0) := m_at_of r_String_indexOf_II (by decide +kernel)
theorem i_String_indexOf_II_13 : m_at k_String_indexOf_II 13 = some (.aload_n 0, 1, 0) := m_at_of r_String_indexOf_II (by decide +kernel)
theorem i_String_indexOf_II_14 : m_at k_String_indexOf_II 14 = some (.invokevirtual 505, 3, 409) := m_at_of r_String_indexOf_II (by decide +kernel)
theorem i_String_indexOf_II_17 : m_at k_String_indexOf_II 17 = some (.invokestatic 637, 3, 410) := m_at_of r_String_indexOf_II (by decide +kernel)
theorem i_String_indexOf_II_20 : m_at k_String_indexOf_II 20 = some (.goto (16), 3, 0) := m_at_of r_String_indexOf_II (by decide +kernel)
theorem i_String_indexOf_II_23 : m_at k_String_indexOf_II 23 = some (.aload_n 0, 1, 0) := m_at_of r_String_indexOf_II (by decide +kernel)
theorem i_String_indexOf_II_24 : m_at k_String_indexOf_II 24 = some (.getfield 9, 3, 126) := m_at_of r_String_indexOf_II (by decide +kernel)
theorem i_String_indexOf_II_27 : m_at k_String_indexOf_II 27 = some (.iload_n 1, 1, 0) := m_at_of r_String_indexOf_II (by decide +kernel)
theorem i_String_indexOf_II_28 : m_at k_String_indexOf_II 28 = some (.iload_n 2, 1, 0) := m_at_of r_String_indexOf_II (by decide +kernel)
theorem i_String_indexOf_II_29 : m_at k_String_indexOf_II 29 = some (.aload_n 0, 1, 0) := m_at_of r_String_indexOf_II (by decide +kernel)
theorem i_String_indexOf_II_30 : m_at k_String_indexOf_II 30 = some (.invokevirtual 505, 3, 409) := m_at_of r_String_indexOf_II (by decide +kernel)
theorem i_String_indexOf_II_36 : m_at k_String_indexOf_II 36 = some (.ireturn, 1, 0) := m_at_of r_String_indexOf_II (by decide +kernel)
set_option maxRecDepth 20000 in
set_option maxHeartbeats 1000000 in
theorem E_String_indexOf_II (x : m_X) (s : m_H) (w : Nat) (n1 : Int32) (n2 : Int32) (hw : (w == 1002 || w == 1003) = true) : m_M x k_String_indexOf_II [.ref w, .int n1, .int n2] s = m_bI (m_M x k_String_isLatin1 [.ref w] s) fun v1 s1 => if v1 = 0 then (if w = 1002 ∨ w = 1003 then (m_bI (m_M x k_String_length [.ref w] s1) fun v30 s30 => none) else none) else if w = 1002 ∨ w = 1003 then (m_bI (m_M x k_String_length [.ref w] s1) fun v14 s14 => m_bI (m_M x k_Latin1_indexOf [.ref (w + 2), .int n1, .int n2, .int v14] s14) fun v17 s17 => some (some (.int v17), s17)) else none := by
  refine e_MT (L0 := [some (.ref w), some (.int n1), some (.int n2)]) rfl (by decide +kernel) hw (q_String_indexOf_II _) rfl ?_
  refine e_aload_n i_String_indexOf_II_0 rfl ?_
  refine e_callI (as := [.ref w]) (st' := []) i_String_indexOf_II_1 lm_408 (Or.inr (Or.inl ⟨rfl, rfl⟩)) w_String_isLatin1 rfl rfl rfl (Nat.le_of_ble_eq_true rfl) (Nat.le_of_ble_eq_true rfl) (m_rlt (q_String_isLatin1 _) (by decide)) rfl (fun v1 s1 => ?_)
  refine e_ifeq (t := 23) i_String_indexOf_II_4 (by decide) ?_ ?_
  · refine e_aload_n i_String_indexOf_II_23 rfl ?_
    refine e_getTv i_String_indexOf_II_24 lf_126 ?_
    refine e_iload_n i_String_indexOf_II_27 rfl ?_
    refine e_iload_n i_String_indexOf_II_28 rfl ?_
    refine e_aload_n i_String_indexOf_II_29 rfl ?_
    refine e_callI (as := [.ref w]) (st' := [.int n2, .int n1, .ref (w + 2)]) i_String_indexOf_II_30 lm_409 (Or.inr (Or.inl ⟨rfl, rfl⟩)) w_String_length rfl rfl rfl (Nat.le_of_ble_eq_true rfl) (Nat.le_of_ble_eq_true rfl) (m_rlt (q_String_length _) (by decide)) rfl (fun v30 s30 => ?_)
    exact e_miss (by decide +kernel)
  · refine e_aload_n i_String_indexOf_II_7 rfl ?_
    refine e_getTv i_String_indexOf_II_8 lf_126 ?_
    refine e_iload_n i_String_indexOf_II_11 rfl ?_
    refine e_iload_n i_String_indexOf_II_12 rfl ?_
    refine e_aload_n i_String_indexOf_II_13 rfl ?_
    refine e_callI (as := [.ref w]) (st' := [.int n2, .int n1, .ref (w + 2)]) i_String_indexOf_II_14 lm_409 (Or.inr (Or.inl ⟨rfl, rfl⟩)) w_String_length rfl rfl rfl (Nat.le_of_ble_eq_true rfl) (Nat.le_of_ble_eq_true rfl) (m_rlt (q_String_length _) (by decide)) rfl (fun v14 s14 => ?_)
    refine e_callI (as := [.ref (w + 2), .int n1, .int n2, .int v14]) (st' := []) i_String_indexOf_II_17 lm_410 (Or.inl ⟨rfl, rfl⟩) w_Latin1_indexOf rfl rfl rfl (Nat.le_of_ble_eq_true rfl) (Nat.le_of_ble_eq_true rfl) (m_rlt (q_Latin1_indexOf _) (by decide)) rfl (fun v17 s17 => ?_)
    refine e_goto (t := 36) i_String_indexOf_II_20 (by decide) ?_
    exact e_iretI i_String_indexOf_II_36 rfl
theorem i_String_charAt_0 : m_at k_String_charAt 0 = some (.aload_n 0, 1, 0) := m_at_of r_String_charAt (by decide +kernel)
theorem i_String_charAt_1 : m_at k_String_charAt 1 = some (.invokevirtual 492, 3, 408) := m_at_of r_String_charAt (by decide +kernel)
theorem i_String_charAt_4 : m_at k_String_charAt 4 = some (.ifCond .eq (12), 3, 0) := m_at_of r_String_charAt (by decide +kernel)
theorem i_String_charAt_7 : m_at k_String_charAt 7 = some (.aload_n 0, 1, 0) := m_at_of r_String_charAt (by decide +kernel)
theorem i_String_charAt_8 : m_at k_String_charAt 8 = some (.getfield 9, 3, 126) := m_at_of r_String_charAt (by decide +kernel)
theorem i_String_charAt_11 : m_at k_String_charAt 11 = some (.iload_n 1, 1, 0) := m_at_of r_String_charAt (by decide +kernel)
theorem i_String_charAt_12 : m_at k_String_charAt 12 = some (.invokestatic 495, 3, 419) := m_at_of r_String_charAt (by decide +kernel)
theorem i_String_charAt_15 : m_at k_String_charAt 15 = some (.ireturn, 1, 0) := m_at_of r_String_charAt (by decide +kernel)
theorem i_String_charAt_16 : m_at k_String_charAt 16 = some (.aload_n 0, 1, 0) := m_at_of r_String_charAt (by decide +kernel)
theorem i_String_charAt_17 : m_at k_String_charAt 17 = some (.getfield 9, 3, 126) := m_at_of r_String_charAt (by decide +kernel)
theorem i_String_charAt_20 : m_at k_String_charAt 20 = some (.iload_n 1, 1, 0) := m_at_of r_String_charAt (by decide +kernel)
theorem i_String_charAt_24 : m_at k_String_charAt 24 = some (.ireturn, 1, 0) := m_at_of r_String_charAt (by decide +kernel)
set_option maxRecDepth 20000 in
set_option maxHeartbeats 1000000 in
theorem E_String_charAt (x : m_X) (s : m_H) (w : Nat) (n1 : Int32) (hw : (w == 1002 || w == 1003) = true) : m_M x k_String_charAt [.ref w, .int n1] s = m_bI (m_M x k_String_isLatin1 [.ref w] s) fun v1 s1 => if v1 = 0 then (if w = 1002 ∨ w = 1003 then none else none) else if w = 1002 ∨ w = 1003 then (m_bI (m_M x k_Latin1_charAt [.ref (w + 2), .int n1] s1) fun v12 s12 => if m_rk (some .char) (some (.int v12)) = true then some (some (.int v12), s12) else none) else none := by
  refine e_MT (L0 := [some (.ref w), some (.int n1)]) rfl (by decide +kernel) hw (q_String_charAt _) rfl ?_
  refine e_aload_n i_String_charAt_0 rfl ?_
  refine e_callI (as := [.ref w]) (st' := []) i_String_charAt_1 lm_408 (Or.inr (Or.inl ⟨rfl, rfl⟩)) w_String_isLatin1 rfl rfl rfl (Nat.le_of_ble_eq_true rfl) (Nat.le_of_ble_eq_true rfl) (m_rlt (q_String_isLatin1 _) (by decide)) rfl (fun v1 s1 => ?_)
  refine e_ifeq (t := 16) i_String_charAt_4 (by decide) ?_ ?_
  · refine e_aload_n i_String_charAt_16 rfl ?_
    refine e_getTv i_String_charAt_17 lf_126 ?_
    refine e_iload_n i_String_charAt_20 rfl ?_
    exact e_miss (by decide +kernel)
  · refine e_aload_n i_String_charAt_7 rfl ?_
    refine e_getTv i_String_charAt_8 lf_126 ?_
    refine e_iload_n i_String_charAt_11 rfl ?_
    refine e_callI (as := [.ref (w + 2), .int n1]) (st' := []) i_String_charAt_12 lm_419 (Or.inl ⟨rfl, rfl⟩) w_Latin1_charAt rfl rfl rfl (Nat.le_of_ble_eq_true rfl) (Nat.le_of_ble_eq_true rfl) (m_rlt (q_Latin1_charAt _) (by decide)) rfl (fun v12 s12 => ?_)
    exact e_iretG i_String_charAt_15 rfl
theorem i_String_checkIndex_0 : m_at k_String_checkIndex 0 = some (.iload_n 0, 1, 0) := m_at_of r_String_checkIndex (by decide +kernel)
theorem i_String_checkIndex_1 : m_at k_String_checkIndex 1 = some (.iload_n 1, 1, 0) := m_at_of r_String_checkIndex (by decide +kernel)
theorem i_String_checkIndex_2 : m_at k_String_checkIndex 2 = some (.getstatic 1053, 3, 1) := m_at_of r_String_checkIndex (by decide +kernel)
theorem i_String_checkIndex_5 : m_at k_String_checkIndex 5 = some (.invokestatic 1059, 3, 421) := m_at_of r_String_checkIndex (by decide +kernel)
theorem i_String_checkIndex_8 : m_at k_String_checkIndex 8 = some (.pop, 1, 0) := m_at_of r_String_checkIndex (by decide +kernel)
theorem i_String_checkIndex_9 : m_at k_String_checkIndex 9 = some (.return_, 1, 0) := m_at_of r_String_checkIndex (by decide +kernel)
set_option maxRecDepth 20000 in
set_option maxHeartbeats 1000000 in
theorem E_String_checkIndex (x : m_X) (s : m_H) (n0 : Int32) (n1 : Int32) (hX : x.2.2 = .null ∨ ∃ a, x.2.2 = .ref a) : m_M x k_String_checkIndex [.int n0, .int n1] s = m_bI (m_M x k_Prec_checkIndex [.int n0, .int n1, x.2.2] s) fun v5 s5 => some (none, s5) := by
  refine e_M0 (L0 := [some (.int n0), some (.int n1)]) rfl (q_String_checkIndex _) rfl ?_
  refine e_iload_n i_String_checkIndex_0 rfl ?_
  refine e_iload_n i_String_checkIndex_1 rfl ?_
  refine e_gst2 i_String_checkIndex_2 lg_1 ?_
  refine e_callI (as := [.int n0, .int n1, x.2.2]) (st' := []) i_String_checkIndex_5 lm_421 (Or.inl ⟨rfl, rfl⟩) w_Prec_checkIndex rfl rfl rfl (Nat.le_of_ble_eq_true rfl) (by rcases hX with h9 | ⟨a9, h9⟩ <;> rw [h9] <;> exact Nat.le_of_ble_eq_true rfl) (m_rlt (q_Prec_checkIndex _) (by decide)) rfl (fun v5 s5 => ?_)
  refine e_pop i_String_checkIndex_8 rfl ?_
  exact e_vret i_String_checkIndex_9 rfl
theorem i_String_isLatin1_0 : m_at k_String_isLatin1 0 = some (.getstatic 38, 3, 2) := m_at_of r_String_isLatin1 (by decide +kernel)
theorem i_String_isLatin1_3 : m_at k_String_isLatin1 3 = some (.ifCond .eq (14), 3, 0) := m_at_of r_String_isLatin1 (by decide +kernel)
theorem i_String_isLatin1_6 : m_at k_String_isLatin1 6 = some (.aload_n 0, 1, 0) := m_at_of r_String_isLatin1 (by decide +kernel)
theorem i_String_isLatin1_7 : m_at k_String_isLatin1 7 = some (.getfield 15, 3, 127) := m_at_of r_String_isLatin1 (by decide +kernel)
theorem i_String_isLatin1_10 : m_at k_String_isLatin1 10 = some (.ifCond .ne (7), 3, 0) := m_at_of r_String_isLatin1 (by decide +kernel)
theorem i_String_isLatin1_13 : m_at k_String_isLatin1 13 = some (.iconst 1, 1, 0) := m_at_of r_String_isLatin1 (by decide +kernel)
theorem i_String_isLatin1_14 : m_at k_String_isLatin1 14 = some (.goto (4), 3, 0) := m_at_of r_String_isLatin1 (by decide +kernel)
theorem i_String_isLatin1_17 : m_at k_String_isLatin1 17 = some (.iconst 0, 1, 0) := m_at_of r_String_isLatin1 (by decide +kernel)
theorem i_String_isLatin1_18 : m_at k_String_isLatin1 18 = some (.ireturn, 1, 0) := m_at_of r_String_isLatin1 (by decide +kernel)
set_option maxRecDepth 20000 in
set_option maxHeartbeats 1000000 in
theorem E_String_isLatin1 (x : m_X) (s : m_H) (w : Nat) (hw : (w == 1002 || w == 1003) = true) : m_M x k_String_isLatin1 [.ref w] s = if w = 1002 ∨ w = 1003 then (some (some (.int 1), s)) else none := by
  refine e_MT (L0 := [some (.ref w)]) rfl (by decide +kernel) hw (q_String_isLatin1 _) rfl ?_
  refine e_gst0 i_String_isLatin1_0 lg_2 ?_
  refine e_ifF i_String_isLatin1_3 (by decide) ?_
  refine e_aload_n i_String_isLatin1_6 rfl ?_
  refine e_getTc i_String_isLatin1_7 lf_127 ?_
  refine e_ifF i_String_isLatin1_10 (by decide) ?_
  refine e_iconst (v := 1) i_String_isLatin1_13 (by decide) ?_
  refine e_goto (t := 18) i_String_isLatin1_14 (by decide) ?_
  exact e_iretZ i_String_isLatin1_18 rfl (by decide)
theorem i_String_length_0 : m_at k_String_length 0 = some (.aload_n 0, 1, 0) := m_at_of r_String_length (by decide +kernel)
theorem i_String_length_1 : m_at k_String_length 1 = some (.getfield 9, 3, 126) := m_at_of r_String_length (by decide +kernel)
theorem i_String_length_4 : m_at k_String_length 4 = some (.arraylength, 1, 0) := m_at_of r_String_length (by decide +kernel)
theorem i_String_length_5 : m_at k_String_length 5 = some (.aload_n 0, 1, 0) := m_at_of r_String_length (by decide +kernel)
theorem i_String_length_6 : m_at k_String_length 6 = some (.invokevirtual 335, 3, 422) := m_at_of r_String_length (by decide +kernel)
theorem i_String_length_9 : m_at k_String_length 9 = some (.ishr, 1, 0) := m_at_of r_String_length (by decide +kernel)
theorem i_String_length_10 : m_at k_String_length 10 = some (.ireturn, 1, 0) := m_at_of r_String_length (by decide +kernel)
set_option maxRecDepth 20000 in
set_option maxHeartbeats 1000000 in
theorem E_String_length (x : m_X) (s : m_H) (w : Nat) (hw : (w == 1002 || w == 1003) = true) : m_M x k_String_length [.ref w] s = if w = 1002 ∨ w = 1003 then ((m_len x s (w + 2)).bind fun v4 => m_bI (m_M x k_String_coder [.ref w] s) fun v6 s6 => some (some (.int (v4 >>> (v6 &&& (31 : Int32)))), s6)) else none := by
  refine e_MT (L0 := [some (.ref w)]) rfl (by decide +kernel) hw (q_String_length _) rfl ?_
  refine e_aload_n i_String_length_0 rfl ?_
  refine e_getTv i_String_length_1 lf_126 ?_
  refine e_alen i_String_length_4 (fun v4 => ?_)
  refine e_aload_n i_String_length_5 rfl ?_
  refine e_callI (as := [.ref w]) (st' := [.int v4]) i_String_length_6 lm_422 (Or.inr (Or.inl ⟨rfl, rfl⟩)) w_String_coder rfl rfl rfl (Nat.le_of_ble_eq_true rfl) (Nat.le_of_ble_eq_true rfl) (m_rlt (q_String_coder _) (by decide)) rfl (fun v6 s6 => ?_)
  refine e_ishr i_String_length_9 ?_
  exact e_iretI i_String_length_10 rfl
theorem i_String_coder_0 : m_at k_String_coder 0 = some (.getstatic 38, 3, 2) := m_at_of r_String_coder (by decide +kernel)
theorem i_String_coder_3 : m_at k_String_coder 3 = some (.ifCond .eq (10), 3, 0) := m_at_of r_String_coder (by decide +kernel)
theorem i_String_coder_6 : m_at k_String_coder 6 = some (.aload_n 0, 1, 0) := m_at_of r_String_coder (by decide +kernel)
theorem i_String_coder_7 : m_at k_String_coder 7 = some (.getfield 15, 3, 127) := m_at_of r_String_coder (by decide +kernel)
theorem i_String_coder_10 : m_at k_String_coder 10 = some (.goto (4), 3, 0) := m_at_of r_String_coder (by decide +kernel)
theorem i_String_coder_13 : m_at k_String_coder 13 = some (.iconst 1, 1, 0) := m_at_of r_String_coder (by decide +kernel)
theorem i_String_coder_14 : m_at k_String_coder 14 = some (.ireturn, 1, 0) := m_at_of r_String_coder (by decide +kernel)
set_option maxRecDepth 20000 in
set_option maxHeartbeats 1000000 in
theorem E_String_coder (x : m_X) (s : m_H) (w : Nat) (hw : (w == 1002 || w == 1003) = true) : m_M x k_String_coder [.ref w] s = if w = 1002 ∨ w = 1003 then (if m_rk (some .byte) (some (.int 0)) = true then some (some (.int 0), s) else none) else none := by
  refine e_MT (L0 := [some (.ref w)]) rfl (by decide +kernel) hw (q_String_coder _) rfl ?_
  refine e_gst0 i_String_coder_0 lg_2 ?_
  refine e_ifF i_String_coder_3 (by decide) ?_
  refine e_aload_n i_String_coder_6 rfl ?_
  refine e_getTc i_String_coder_7 lf_127 ?_
  refine e_goto (t := 14) i_String_coder_10 (by decide) ?_
  exact e_iretG i_String_coder_14 rfl
theorem i_Latin1_indexOf_0 : m_at k_Latin1_indexOf 0 = some (.iload_n 1, 1, 0) := m_at_of r_Latin1_indexOf (by decide +kernel)
theorem i_Latin1_indexOf_1 : m_at k_Latin1_indexOf 1 = some (.invokestatic 88, 3, 411) := m_at_of r_Latin1_indexOf (by decide +kernel)
theorem i_Latin1_indexOf_4 : m_at k_Latin1_indexOf 4 = some (.ifCond .ne (5), 3, 0) := m_at_of r_Latin1_indexOf (by decide +kernel)
theorem i_Latin1_indexOf_7 : m_at k_Latin1_indexOf 7 = some (.iconst (-1), 1, 0) := m_at_of r_Latin1_indexOf (by decide +kernel)
theorem i_Latin1_indexOf_8 : m_at k_Latin1_indexOf 8 = some (.ireturn, 1, 0) := m_at_of r_Latin1_indexOf (by decide +kernel)
theorem i_Latin1_indexOf_9 : m_at k_Latin1_indexOf 9 = some (.iload_n 2, 1, 0) := m_at_of r_Latin1_indexOf (by decide +kernel)
theorem i_Latin1_indexOf_10 : m_at k_Latin1_indexOf 10 = some (.iconst 0, 1, 0) := m_at_of r_Latin1_indexOf (by decide +kernel)
theorem i_Latin1_indexOf_11 : m_at k_Latin1_indexOf 11 = some (.invokestatic 92, 3, 412) := m_at_of r_Latin1_indexOf (by decide +kernel)
theorem i_Latin1_indexOf_14 : m_at k_Latin1_indexOf 14 = some (.istore_n 2, 1, 0) := m_at_of r_Latin1_indexOf (by decide +kernel)
theorem i_Latin1_indexOf_15 : m_at k_Latin1_indexOf 15 = some (.iload_n 3, 1, 0) := m_at_of r_Latin1_indexOf (by decide +kernel)
theorem i_Latin1_indexOf_16 : m_at k_Latin1_indexOf 16 = some (.aload_n 0, 1, 0) := m_at_of r_Latin1_indexOf (by decide +kernel)
theorem i_Latin1_indexOf_17 : m_at k_Latin1_indexOf 17 = some (.arraylength, 1, 0) := m_at_of r_Latin1_indexOf (by decide +kernel)
theorem i_Latin1_indexOf_18 : m_at k_Latin1_indexOf 18 = some (.invokestatic 38, 3, 413) := m_at_of r_Latin1_indexOf (by decide +kernel)
theorem i_Latin1_indexOf_21 : m_at k_Latin1_indexOf 21 = some (.istore_n 3, 1, 0) := m_at_of r_Latin1_indexOf (by decide +kernel)
theorem i_Latin1_indexOf_22 : m_at k_Latin1_indexOf 22 = some (.iload_n 2, 1, 0) := m_at_of r_Latin1_indexOf (by decide +kernel)
theorem i_Latin1_indexOf_23 : m_at k_Latin1_indexOf 23 = some (.iload_n 3, 1, 0) := m_at_of r_Latin1_indexOf (by decide +kernel)
theorem i_Latin1_indexOf_24 : m_at k_Latin1_indexOf 24 = some (.if_icmp .lt (5), 3, 0) := m_at_of r_Latin1_indexOf (by decide +kernel)
theorem i_Latin1_indexOf_27 : m_at k_Latin1_indexOf 27 = some (.iconst (-1), 1, 0) := m_at_of r_Latin1_indexOf (by decide +kernel)
theorem i_Latin1_indexOf_28 : m_at k_Latin1_indexOf 28 = some (.ireturn, 1, 0) := m_at_of r_Latin1_indexOf (by decide +kernel)
theorem i_Latin1_indexOf_29 : m_at k_Latin1_indexOf 29 = some (.aload_n 0, 1, 0) := m_at_of r_Latin1_indexOf (by decide +kernel)
theorem i_Latin1_indexOf_30 : m_at k_Latin1_indexOf 30 = some (.iload_n 1, 1, 0) := m_at_of r_Latin1_indexOf (by decide +kernel)
theorem i_Latin1_indexOf_31 : m_at k_Latin1_indexOf 31 = some (.iload_n 2, 1, 0) := m_at_of r_Latin1_indexOf (by decide +kernel)
theorem i_Latin1_indexOf_32 : m_at k_Latin1_indexOf 32 = some (.iload_n 3, 1, 0) := m_at_of r_Latin1_indexOf (by decide +kernel)
theorem i_Latin1_indexOf_33 : m_at k_Latin1_indexOf 33 = some (.invokestatic 95, 3, 414) := m_at_of r_Latin1_indexOf (by decide +kernel)
theorem i_Latin1_indexOf_36 : m_at k_Latin1_indexOf 36 = some (.ireturn, 1, 0) := m_at_of r_Latin1_indexOf (by decide +kernel)
set_option maxRecDepth 20000 in
set_option maxHeartbeats 1000000 in
theorem E_Latin1_indexOf (x : m_X) (s : m_H) (r0 : Nat) (n1 : Int32) (n2 : Int32) (n3 : Int32) : m_M x k_Latin1_indexOf [.ref r0, .int n1, .int n2, .int n3] s = m_bI (m_M x k_Latin1_canEncode [.int n1] s) fun v1 s1 => if v1 = 0 then (some (some (.int (-1)), s1)) else m_bI (m_M x k_Math_max_II [.int n2, .int 0] s1) fun v11 s11 => (m_len x s11 r0).bind fun v17 => m_bI (m_M x k_Math_min_II [.int n3, .int v17] s11) fun v18 s18 => if v11 < v18 then (m_bI (m_M x k_Latin1_indexOfChar [.ref r0, .int n1, .int v11, .int v18] s18) fun v33 s33 => some (some (.int v33), s33)) else some (some (.int (-1)), s18) := by
  refine e_M0 (L0 := [some (.ref r0), some (.int n1), some (.int n2), some (.int n3)]) rfl (q_Latin1_indexOf _) rfl ?_
  refine e_iload_n i_Latin1_indexOf_0 rfl ?_
  refine e_callI (as := [.int n1]) (st' := []) i_Latin1_indexOf_1 lm_411 (Or.inl ⟨rfl, rfl⟩) w_Latin1_canEncode rfl rfl rfl (Nat.le_of_ble_eq_true rfl) (Nat.le_of_ble_eq_true rfl) (m_rlt (q_Latin1_canEncode _) (by decide)) rfl (fun v1 s1 => ?_)
  refine e_ifne (t := 9) i_Latin1_indexOf_4 (by decide) ?_ ?_
  · refine e_iload_n i_Latin1_indexOf_9 rfl ?_
    refine e_iconst (v := 0) i_Latin1_indexOf_10 (by decide) ?_
    refine e_callI (as := [.int n2, .int 0]) (st' := []) i_Latin1_indexOf_11 lm_412 (Or.inl ⟨rfl, rfl⟩) w_Math_max_II rfl rfl rfl (Nat.le_of_ble_eq_true rfl) (Nat.le_of_ble_eq_true rfl) (m_rlt (q_Math_max_II _) (by decide)) rfl (fun v11 s11 => ?_)
    refine e_istore_n (L' := [some (.ref r0), some (.int n1), some (.int v11), some (.int n3)]) i_Latin1_indexOf_14 (of_decide_eq_true rfl) rfl ?_
    refine e_iload_n i_Latin1_indexOf_15 rfl ?_
    refine e_aload_n i_Latin1_indexOf_16 rfl ?_
    refine e_alen i_Latin1_indexOf_17 (fun v17 => ?_)
    refine e_callI (as := [.int n3, .int v17]) (st' := []) i_Latin1_indexOf_18 lm_413 (Or.inl ⟨rfl, rfl⟩) w_Math_min_II rfl rfl rfl (Nat.le_of_ble_eq_true rfl) (Nat.le_of_ble_eq_true rfl) (m_rlt (q_Math_min_II _) (by decide)) rfl (fun v18 s18 => ?_)
    refine e_istore_n (L' := [some (.ref r0), some (.int n1), some (.int v11), some (.int v18)]) i_Latin1_indexOf_21 (of_decide_eq_true rfl) rfl ?_
    refine e_iload_n i_Latin1_indexOf_22 rfl ?_
    refine e_iload_n i_Latin1_indexOf_23 rfl ?_
    refine e_icmplt (t := 29) i_Latin1_indexOf_24 (by decide) ?_ ?_
    · refine e_aload_n i_Latin1_indexOf_29 rfl ?_
      refine e_iload_n i_Latin1_indexOf_30 rfl ?_
      refine e_iload_n i_Latin1_indexOf_31 rfl ?_
      refine e_iload_n i_Latin1_indexOf_32 rfl ?_
      refine e_callI (as := [.ref r0, .int n1, .int v11, .int v18]) (st' := []) i_Latin1_indexOf_33 lm_414 (Or.inl ⟨rfl, rfl⟩) w_Latin1_indexOfChar rfl rfl rfl (Nat.le_of_ble_eq_true rfl) (Nat.le_of_ble_eq_true rfl) (m_rlt (q_Latin1_indexOfChar _) (by decide)) rfl (fun v33 s33 => ?_)
      exact e_iretI i_Latin1_indexOf_36 rfl
    · refine e_iconst (v := (-1)) i_Latin1_indexOf_27 (by decide) ?_
      exact e_iretI i_Latin1_indexOf_28 rfl
  · refine e_iconst (v := (-1)) i_Latin1_indexOf_7 (by decide) ?_
    exact e_iretI i_Latin1_indexOf_8 rfl
theorem i_Latin1_indexOfChar_0 : m_at k_Latin1_indexOfChar 0 = some (.iload_n 1, 1, 0) := m_at_of r_Latin1_indexOfChar (by decide +kernel)
theorem i_Latin1_indexOfChar_1 : m_at k_Latin1_indexOfChar 1 = some (.i2b, 1, 0) := m_at_of r_Latin1_indexOfChar (by decide +kernel)
theorem i_Latin1_indexOfChar_2 : m_at k_Latin1_indexOfChar 2 = some (.istore 4, 2, 0) := m_at_of r_Latin1_indexOfChar (by decide +kernel)
theorem i_Latin1_indexOfChar_4 : m_at k_Latin1_indexOfChar 4 = some (.iload_n 2, 1, 0) := m_at_of r_Latin1_indexOfChar (by decide +kernel)
theorem i_Latin1_indexOfChar_5 : m_at k_Latin1_indexOfChar 5 = some (.istore 5, 2, 0) := m_at_of r_Latin1_indexOfChar (by decide +kernel)
theorem i_Latin1_indexOfChar_7 : m_at k_Latin1_indexOfChar 7 = some (.iload 5, 2, 0) := m_at_of r_Latin1_indexOfChar (by decide +kernel)
theorem i_Latin1_indexOfChar_9 : m_at k_Latin1_indexOfChar 9 = some (.iload_n 3, 1, 0) := m_at_of r_Latin1_indexOfChar (by decide +kernel)
theorem i_Latin1_indexOfChar_10 : m_at k_Latin1_indexOfChar 10 = some (.if_icmp .ge (21), 3, 0) := m_at_of r_Latin1_indexOfChar (by decide +kernel)
theorem i_Latin1_indexOfChar_13 : m_at k_Latin1_indexOfChar 13 = some (.aload_n 0, 1, 0) := m_at_of r_Latin1_indexOfChar (by decide +kernel)
theorem i_Latin1_indexOfChar_14 : m_at k_Latin1_indexOfChar 14 = some (.iload 5, 2, 0) := m_at_of r_Latin1_indexOfChar (by decide +kernel)
theorem i_Latin1_indexOfChar_16 : m_at k_Latin1_indexOfChar 16 = some (.baload, 1, 0) := m_at_of r_Latin1_indexOfChar (by decide +kernel)
theorem i_Latin1_indexOfChar_17 : m_at k_Latin1_indexOfChar 17 = some (.iload 4, 2, 0) := m_at_of r_Latin1_indexOfChar (by decide +kernel)
theorem i_Latin1_indexOfChar_19 : m_at k_Latin1_indexOfChar 19 = some (.if_icmp .ne (6), 3, 0) := m_at_of r_Latin1_indexOfChar (by decide +kernel)
theorem i_Latin1_indexOfChar_22 : m_at k_Latin1_indexOfChar 22 = some (.iload 5, 2, 0) := m_at_of r_Latin1_indexOfChar (by decide +kernel)
theorem i_Latin1_indexOfChar_24 : m_at k_Latin1_indexOfChar 24 = some (.ireturn, 1, 0) := m_at_of r_Latin1_indexOfChar (by decide +kernel)
theorem i_Latin1_indexOfChar_25 : m_at k_Latin1_indexOfChar 25 = some (.iinc 5 (1), 3, 0) := m_at_of r_Latin1_indexOfChar (by decide +kernel)
theorem i_Latin1_indexOfChar_28 : m_at k_Latin1_indexOfChar 28 = some (.goto (-21), 3, 0) := m_at_of r_Latin1_indexOfChar (by decide +kernel)
theorem i_Latin1_indexOfChar_31 : m_at k_Latin1_indexOfChar 31 = some (.iconst (-1), 1, 0) := m_at_of r_Latin1_indexOfChar (by decide +kernel)
theorem i_Latin1_indexOfChar_32 : m_at k_Latin1_indexOfChar 32 = some (.ireturn, 1, 0) := m_at_of r_Latin1_indexOfChar (by decide +kernel)
set_option maxRecDepth 20000 in
set_option maxHeartbeats 1000000 in
theorem E_Latin1_indexOfChar (x : m_X) (s : m_H) (r0 : Nat) (n1 : Int32) (n2 : Int32) (n3 : Int32) : m_M x k_Latin1_indexOfChar [.ref r0, .int n1, .int n2, .int n3] s = m_D x 1 k_Latin1_indexOfChar 7 [some (.ref r0), some (.int n1), some (.int n2), some (.int n3), some (.int n1.toInt8.toInt32), some (.int n2)] [] s := by
  refine e_M0 (L0 := [some (.ref r0), some (.int n1), some (.int n2), some (.int n3), none, none]) rfl (q_Latin1_indexOfChar _) rfl ?_
  refine e_iload_n i_Latin1_indexOfChar_0 rfl ?_
  refine e_i2b i_Latin1_indexOfChar_1 ?_
  refine e_istore (L' := [some (.ref r0), some (.int n1), some (.int n2), some (.int n3), some (.int n1.toInt8.toInt32), none]) i_Latin1_indexOfChar_2 (of_decide_eq_true rfl) rfl ?_
  refine e_iload_n i_Latin1_indexOfChar_4 rfl ?_
  refine e_istore (L' := [some (.ref r0), some (.int n1), some (.int n2), some (.int n3), some (.int n1.toInt8.toInt32), some (.int n2)]) i_Latin1_indexOfChar_5 (of_decide_eq_true rfl) rfl ?_
  exact rfl
set_option maxRecDepth 20000 in
set_option maxHeartbeats 1000000 in
theorem E_Latin1_indexOfChar_7 (x : m_X) (ρ : Nat) (hρ : 1 ≤ ρ) (s : m_H) (r0 : Nat) (n1 : Int32) (n2 : Int32) (n3 : Int32) (n4 : Int32) (n5 : Int32)  : m_D x ρ k_Latin1_indexOfChar 7 [some (.ref r0), some (.int n1), some (.int n2), some (.int n3), some (.int n4), some (.int n5)] [] s = if n3 ≤ n5 then (some (some (.int (-1)), s)) else (m_ba x s r0 n5).bind fun v16 => if v16 = n4 then (some (some (.int n5), s)) else m_D x ρ k_Latin1_indexOfChar 7 [some (.ref r0), some (.int n1), some (.int n2), some (.int n3), some (.int n4), some (.int (n5 + (1 : Int32)))] [] s := by
  refine e_iload i_Latin1_indexOfChar_7 rfl ?_
  refine e_iload_n i_Latin1_indexOfChar_9 rfl ?_
  refine e_icmpge (t := 31) i_Latin1_indexOfChar_10 (by decide) ?_ ?_
  · refine e_iconst (v := (-1)) i_Latin1_indexOfChar_31 (by decide) ?_
    exact e_iretI i_Latin1_indexOfChar_32 rfl
  · refine e_aload_n i_Latin1_indexOfChar_13 rfl ?_
    refine e_iload i_Latin1_indexOfChar_14 rfl ?_
    refine e_bald i_Latin1_indexOfChar_16 (fun v16 => ?_)
    refine e_iload i_Latin1_indexOfChar_17 rfl ?_
    refine e_icmpne (t := 25) i_Latin1_indexOfChar_19 (by decide) ?_ ?_
    · refine e_iinc (w := 1) (L' := [some (.ref r0), some (.int n1), some (.int n2), some (.int n3), some (.int n4), some (.int (n5 + (1 : Int32)))]) i_Latin1_indexOfChar_25 rfl (of_decide_eq_true rfl) (by decide) rfl ?_
      refine e_goto (t := 7) i_Latin1_indexOfChar_28 (by decide) ?_
      exact rfl
    · refine e_iload i_Latin1_indexOfChar_22 rfl ?_
      exact e_iretI i_Latin1_indexOfChar_24 rfl
theorem i_Latin1_canEncode_0 : m_at k_Latin1_canEncode 0 = some (.iload_n 0, 1, 0) := m_at_of r_Latin1_canEncode (by decide +kernel)
theorem i_Latin1_canEncode_1 : m_at k_Latin1_canEncode 1 = some (.ifCond .lt (14), 3, 0) := m_at_of r_Latin1_canEncode (by decide +kernel)
theorem i_Latin1_canEncode_4 : m_at k_Latin1_canEncode 4 = some (.iload_n 0, 1, 0) := m_at_of r_Latin1_canEncode (by decide +kernel)
theorem i_Latin1_canEncode_5 : m_at k_Latin1_canEncode 5 = some (.sipush 255, 3, 0) := m_at_of r_Latin1_canEncode (by decide +kernel)
theorem i_Latin1_canEncode_8 : m_at k_Latin1_canEncode 8 = some (.if_icmp .gt (7), 3, 0) := m_at_of r_Latin1_canEncode (by decide +kernel)
theorem i_Latin1_canEncode_11 : m_at k_Latin1_canEncode 11 = some (.iconst 1, 1, 0) := m_at_of r_Latin1_canEncode (by decide +kernel)
theorem i_Latin1_canEncode_12 : m_at k_Latin1_canEncode 12 = some (.goto (4), 3, 0) := m_at_of r_Latin1_canEncode (by decide +kernel)
theorem i_Latin1_canEncode_15 : m_at k_Latin1_canEncode 15 = some (.iconst 0, 1, 0) := m_at_of r_Latin1_canEncode (by decide +kernel)
theorem i_Latin1_canEncode_16 : m_at k_Latin1_canEncode 16 = some (.ireturn, 1, 0) := m_at_of r_Latin1_canEncode (by decide +kernel)
set_option maxRecDepth 20000 in
set_option maxHeartbeats 1000000 in
theorem E_Latin1_canEncode (x : m_X) (s : m_H) (n0 : Int32) : m_M x k_Latin1_canEncode [.int n0] s = if n0 < 0 then (some (some (.int 0), s)) else if 255 < n0 then (some (some (.int 0), s)) else some (some (.int 1), s) := by
  refine e_M0 (L0 := [some (.int n0)]) rfl (q_Latin1_canEncode _) rfl ?_
  refine e_iload_n i_Latin1_canEncode_0 rfl ?_
  refine e_iflt (t := 15) i_Latin1_canEncode_1 (by decide) ?_ ?_
  · refine e_iconst (v := 0) i_Latin1_canEncode_15 (by decide) ?_
    exact e_iretZ i_Latin1_canEncode_16 rfl (by decide)
  · refine e_iload_n i_Latin1_canEncode_4 rfl ?_
    refine e_sipush (v := 255) i_Latin1_canEncode_5 (by decide) ?_
    refine e_icmpgt (t := 15) i_Latin1_canEncode_8 (by decide) ?_ ?_
    · refine e_iconst (v := 0) i_Latin1_canEncode_15 (by decide) ?_
      exact e_iretZ i_Latin1_canEncode_16 rfl (by decide)
    · refine e_iconst (v := 1) i_Latin1_canEncode_11 (by decide) ?_
      refine e_goto (t := 16) i_Latin1_canEncode_12 (by decide) ?_
      exact e_iretZ i_Latin1_canEncode_16 rfl (by decide)
theorem i_Latin1_charAt_0 : m_at k_Latin1_charAt 0 = some (.iload_n 1, 1, 0) := m_at_of r_Latin1_charAt (by decide +kernel)
theorem i_Latin1_charAt_1 : m_at k_Latin1_charAt 1 = some (.aload_n 0, 1, 0) := m_at_of r_Latin1_charAt (by decide +kernel)
theorem i_Latin1_charAt_2 : m_at k_Latin1_charAt 2 = some (.arraylength, 1, 0) := m_at_of r_Latin1_charAt (by decide +kernel)
theorem i_Latin1_charAt_3 : m_at k_Latin1_charAt 3 = some (.invokestatic 9, 3, 420) := m_at_of r_Latin1_charAt (by decide +kernel)
theorem i_Latin1_charAt_6 : m_at k_Latin1_charAt 6 = some (.aload_n 0, 1, 0) := m_at_of r_Latin1_charAt (by decide +kernel)
theorem i_Latin1_charAt_7 : m_at k_Latin1_charAt 7 = some (.iload_n 1, 1, 0) := m_at_of r_Latin1_charAt (by decide +kernel)
theorem i_Latin1_charAt_8 : m_at k_Latin1_charAt 8 = some (.baload, 1, 0) := m_at_of r_Latin1_charAt (by decide +kernel)
theorem i_Latin1_charAt_9 : m_at k_Latin1_charAt 9 = some (.sipush 255, 3, 0) := m_at_of r_Latin1_charAt (by decide +kernel)
theorem i_Latin1_charAt_12 : m_at k_Latin1_charAt 12 = some (.iand, 1, 0) := m_at_of r_Latin1_charAt (by decide +kernel)
theorem i_Latin1_charAt_13 : m_at k_Latin1_charAt 13 = some (.i2c, 1, 0) := m_at_of r_Latin1_charAt (by decide +kernel)
theorem i_Latin1_charAt_14 : m_at k_Latin1_charAt 14 = some (.ireturn, 1, 0) := m_at_of r_Latin1_charAt (by decide +kernel)
set_option maxRecDepth 20000 in
set_option maxHeartbeats 1000000 in
theorem E_Latin1_charAt (x : m_X) (s : m_H) (r0 : Nat) (n1 : Int32) : m_M x k_Latin1_charAt [.ref r0, .int n1] s = (m_len x s r0).bind fun v2 => m_bV (m_M x k_String_checkIndex [.int n1, .int v2] s) fun s3 => (m_ba x s3 r0 n1).bind fun v8 => if m_rk (some .char) (some (.int ((v8 &&& (255 : Int32)).toUInt32 % 65536).toInt32)) = true then some (some (.int ((v8 &&& (255 : Int32)).toUInt32 % 65536).toInt32), s3) else none := by
  refine e_M0 (L0 := [some (.ref r0), some (.int n1)]) rfl (q_Latin1_charAt _) rfl ?_
  refine e_iload_n i_Latin1_charAt_0 rfl ?_
  refine e_aload_n i_Latin1_charAt_1 rfl ?_
  refine e_alen i_Latin1_charAt_2 (fun v2 => ?_)
  refine e_callV (as := [.int n1, .int v2]) (st' := []) i_Latin1_charAt_3 lm_420 (Or.inl ⟨rfl, rfl⟩) w_String_checkIndex rfl rfl rfl (Nat.le_of_ble_eq_true rfl) (Nat.le_of_ble_eq_true rfl) (m_rlt (q_String_checkIndex _) (by decide)) rfl (fun s3 => ?_)
  refine e_aload_n i_Latin1_charAt_6 rfl ?_
  refine e_iload_n i_Latin1_charAt_7 rfl ?_
  refine e_bald i_Latin1_charAt_8 (fun v8 => ?_)
  refine e_sipush (v := 255) i_Latin1_charAt_9 (by decide) ?_
  refine e_iand i_Latin1_charAt_12 ?_
  refine e_i2c i_Latin1_charAt_13 ?_
  exact e_iretG i_Latin1_charAt_14 rfl
theorem i_Prec_checkIndex_0 : m_at k_Prec_checkIndex 0 = some (.iload_n 0, 1, 0) := m_at_of r_Prec_checkIndex (by decide +kernel)
theorem i_Prec_checkIndex_1 : m_at k_Prec_checkIndex 1 = some (.ifCond .lt (8), 3, 0) := m_at_of r_Prec_checkIndex (by decide +kernel)
theorem i_Prec_checkIndex_4 : m_at k_Prec_checkIndex 4 = some (.iload_n 0, 1, 0) := m_at_of r_Prec_checkIndex (by decide +kernel)
theorem i_Prec_checkIndex_5 : m_at k_Prec_checkIndex 5 = some (.iload_n 1, 1, 0) := m_at_of r_Prec_checkIndex (by decide +kernel)
theorem i_Prec_checkIndex_6 : m_at k_Prec_checkIndex 6 = some (.if_icmp .lt (10), 3, 0) := m_at_of r_Prec_checkIndex (by decide +kernel)
theorem i_Prec_checkIndex_9 : m_at k_Prec_checkIndex 9 = some (.aload_n 2, 1, 0) := m_at_of r_Prec_checkIndex (by decide +kernel)
theorem i_Prec_checkIndex_10 : m_at k_Prec_checkIndex 10 = some (.iload_n 0, 1, 0) := m_at_of r_Prec_checkIndex (by decide +kernel)
theorem i_Prec_checkIndex_11 : m_at k_Prec_checkIndex 11 = some (.iload_n 1, 1, 0) := m_at_of r_Prec_checkIndex (by decide +kernel)
theorem i_Prec_checkIndex_16 : m_at k_Prec_checkIndex 16 = some (.iload_n 0, 1, 0) := m_at_of r_Prec_checkIndex (by decide +kernel)
theorem i_Prec_checkIndex_17 : m_at k_Prec_checkIndex 17 = some (.ireturn, 1, 0) := m_at_of r_Prec_checkIndex (by decide +kernel)
set_option maxRecDepth 20000 in
set_option maxHeartbeats 1000000 in
theorem E_Prec_checkIndex (x : m_X) (s : m_H) (n0 : Int32) (n1 : Int32) (v2 : Value) (hv2 : v2 = .null ∨ ∃ a, v2 = .ref a) : m_M x k_Prec_checkIndex [.int n0, .int n1, v2] s = if n0 < 0 then (m_D x 1 k_Prec_checkIndex 9 [some (.int n0), some (.int n1), some (v2)] [] s) else if n0 < n1 then (some (some (.int n0), s)) else m_D x 1 k_Prec_checkIndex 9 [some (.int n0), some (.int n1), some (v2)] [] s := by
  refine e_M0 (L0 := [some (.int n0), some (.int n1), some (v2)]) rfl (q_Prec_checkIndex _) (by rcases hv2 with rfl | ⟨a9, rfl⟩ <;> rfl) ?_
  refine e_iload_n i_Prec_checkIndex_0 rfl ?_
  refine e_iflt (t := 9) i_Prec_checkIndex_1 (by decide) ?_ ?_
  · exact rfl
  · refine e_iload_n i_Prec_checkIndex_4 rfl ?_
    refine e_iload_n i_Prec_checkIndex_5 rfl ?_
    refine e_icmplt (t := 16) i_Prec_checkIndex_6 (by decide) ?_ ?_
    · refine e_iload_n i_Prec_checkIndex_16 rfl ?_
      exact e_iretI i_Prec_checkIndex_17 rfl
    · exact rfl
