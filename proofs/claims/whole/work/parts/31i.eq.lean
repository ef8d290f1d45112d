theorem i_Script_takeOver_0 : m_at k_Script_takeOver 0 = some (.aload_n 1, 1, 0) := m_at_of r_Script_takeOver (by decide +kernel)
theorem i_Script_takeOver_1 : m_at k_Script_takeOver 1 = some (.getfield 9, 3, 81) := m_at_of r_Script_takeOver (by decide +kernel)
theorem i_Script_takeOver_4 : m_at k_Script_takeOver 4 = some (.iconst 0, 1, 0) := m_at_of r_Script_takeOver (by decide +kernel)
theorem i_Script_takeOver_5 : m_at k_Script_takeOver 5 = some (.aload_n 0, 1, 0) := m_at_of r_Script_takeOver (by decide +kernel)
theorem i_Script_takeOver_6 : m_at k_Script_takeOver 6 = some (.getfield 9, 3, 81) := m_at_of r_Script_takeOver (by decide +kernel)
theorem i_Script_takeOver_9 : m_at k_Script_takeOver 9 = some (.iconst 0, 1, 0) := m_at_of r_Script_takeOver (by decide +kernel)
theorem i_Script_takeOver_10 : m_at k_Script_takeOver 10 = some (.bipush 24, 2, 0) := m_at_of r_Script_takeOver (by decide +kernel)
theorem i_Script_takeOver_12 : m_at k_Script_takeOver 12 = some (.invokestatic 57, 3, 365) := m_at_of r_Script_takeOver (by decide +kernel)
theorem i_Script_takeOver_15 : m_at k_Script_takeOver 15 = some (.aload_n 1, 1, 0) := m_at_of r_Script_takeOver (by decide +kernel)
theorem i_Script_takeOver_16 : m_at k_Script_takeOver 16 = some (.getfield 15, 3, 89) := m_at_of r_Script_takeOver (by decide +kernel)
theorem i_Script_takeOver_19 : m_at k_Script_takeOver 19 = some (.iconst 0, 1, 0) := m_at_of r_Script_takeOver (by decide +kernel)
theorem i_Script_takeOver_20 : m_at k_Script_takeOver 20 = some (.aload_n 0, 1, 0) := m_at_of r_Script_takeOver (by decide +kernel)
theorem i_Script_takeOver_21 : m_at k_Script_takeOver 21 = some (.getfield 15, 3, 89) := m_at_of r_Script_takeOver (by decide +kernel)
theorem i_Script_takeOver_24 : m_at k_Script_takeOver 24 = some (.iconst 0, 1, 0) := m_at_of r_Script_takeOver (by decide +kernel)
theorem i_Script_takeOver_25 : m_at k_Script_takeOver 25 = some (.bipush 24, 2, 0) := m_at_of r_Script_takeOver (by decide +kernel)
theorem i_Script_takeOver_27 : m_at k_Script_takeOver 27 = some (.invokestatic 57, 3, 365) := m_at_of r_Script_takeOver (by decide +kernel)
theorem i_Script_takeOver_30 : m_at k_Script_takeOver 30 = some (.aload_n 1, 1, 0) := m_at_of r_Script_takeOver (by decide +kernel)
theorem i_Script_takeOver_31 : m_at k_Script_takeOver 31 = some (.getfield 18, 3, 90) := m_at_of r_Script_takeOver (by decide +kernel)
theorem i_Script_takeOver_34 : m_at k_Script_takeOver 34 = some (.iconst 0, 1, 0) := m_at_of r_Script_takeOver (by decide +kernel)
theorem i_Script_takeOver_35 : m_at k_Script_takeOver 35 = some (.aload_n 0, 1, 0) := m_at_of r_Script_takeOver (by decide +kernel)
theorem i_Script_takeOver_36 : m_at k_Script_takeOver 36 = some (.getfield 18, 3, 90) := m_at_of r_Script_takeOver (by decide +kernel)
theorem i_Script_takeOver_39 : m_at k_Script_takeOver 39 = some (.iconst 0, 1, 0) := m_at_of r_Script_takeOver (by decide +kernel)
theorem i_Script_takeOver_40 : m_at k_Script_takeOver 40 = some (.bipush 24, 2, 0) := m_at_of r_Script_takeOver (by decide +kernel)
theorem i_Script_takeOver_42 : m_at k_Script_takeOver 42 = some (.invokestatic 57, 3, 365) := m_at_of r_Script_takeOver (by decide +kernel)
theorem i_Script_takeOver_45 : m_at k_Script_takeOver 45 = some (.aload_n 1, 1, 0) := m_at_of r_Script_takeOver (by decide +kernel)
theorem i_Script_takeOver_46 : m_at k_Script_takeOver 46 = some (.getfield 21, 3, 88) := m_at_of r_Script_takeOver (by decide +kernel)
theorem i_Script_takeOver_49 : m_at k_Script_takeOver 49 = some (.iconst 0, 1, 0) := m_at_of r_Script_takeOver (by decide +kernel)
theorem i_Script_takeOver_50 : m_at k_Script_takeOver 50 = some (.aload_n 0, 1, 0) := m_at_of r_Script_takeOver (by decide +kernel)
theorem i_Script_takeOver_51 : m_at k_Script_takeOver 51 = some (.getfield 21, 3, 88) := m_at_of r_Script_takeOver (by decide +kernel)
theorem i_Script_takeOver_54 : m_at k_Script_takeOver 54 = some (.iconst 0, 1, 0) := m_at_of r_Script_takeOver (by decide +kernel)
theorem i_Script_takeOver_55 : m_at k_Script_takeOver 55 = some (.sipush 300, 3, 0) := m_at_of r_Script_takeOver (by decide +kernel)
theorem i_Script_takeOver_58 : m_at k_Script_takeOver 58 = some (.invokestatic 57, 3, 365) := m_at_of r_Script_takeOver (by decide +kernel)
theorem i_Script_takeOver_61 : m_at k_Script_takeOver 61 = some (.aload_n 1, 1, 0) := m_at_of r_Script_takeOver (by decide +kernel)
theorem i_Script_takeOver_62 : m_at k_Script_takeOver 62 = some (.getfield 26, 3, 113) := m_at_of r_Script_takeOver (by decide +kernel)
theorem i_Script_takeOver_65 : m_at k_Script_takeOver 65 = some (.iconst 0, 1, 0) := m_at_of r_Script_takeOver (by decide +kernel)
theorem i_Script_takeOver_66 : m_at k_Script_takeOver 66 = some (.aload_n 0, 1, 0) := m_at_of r_Script_takeOver (by decide +kernel)
theorem i_Script_takeOver_67 : m_at k_Script_takeOver 67 = some (.getfield 26, 3, 113) := m_at_of r_Script_takeOver (by decide +kernel)
theorem i_Script_takeOver_70 : m_at k_Script_takeOver 70 = some (.iconst 0, 1, 0) := m_at_of r_Script_takeOver (by decide +kernel)
theorem i_Script_takeOver_71 : m_at k_Script_takeOver 71 = some (.iconst 4, 1, 0) := m_at_of r_Script_takeOver (by decide +kernel)
theorem i_Script_takeOver_72 : m_at k_Script_takeOver 72 = some (.invokestatic 57, 3, 365) := m_at_of r_Script_takeOver (by decide +kernel)
theorem i_Script_takeOver_75 : m_at k_Script_takeOver 75 = some (.aload_n 0, 1, 0) := m_at_of r_Script_takeOver (by decide +kernel)
theorem i_Script_takeOver_76 : m_at k_Script_takeOver 76 = some (.aload_n 1, 1, 0) := m_at_of r_Script_takeOver (by decide +kernel)
theorem i_Script_takeOver_77 : m_at k_Script_takeOver 77 = some (.getfield 29, 3, 91) := m_at_of r_Script_takeOver (by decide +kernel)
theorem i_Script_takeOver_80 : m_at k_Script_takeOver 80 = some (.putfield 29, 3, 91) := m_at_of r_Script_takeOver (by decide +kernel)
theorem i_Script_takeOver_83 : m_at k_Script_takeOver 83 = some (.aload_n 0, 1, 0) := m_at_of r_Script_takeOver (by decide +kernel)
theorem i_Script_takeOver_84 : m_at k_Script_takeOver 84 = some (.aload_n 1, 1, 0) := m_at_of r_Script_takeOver (by decide +kernel)
theorem i_Script_takeOver_85 : m_at k_Script_takeOver 85 = some (.getfield 33, 3, 114) := m_at_of r_Script_takeOver (by decide +kernel)
theorem i_Script_takeOver_88 : m_at k_Script_takeOver 88 = some (.putfield 33, 3, 114) := m_at_of r_Script_takeOver (by decide +kernel)
theorem i_Script_takeOver_91 : m_at k_Script_takeOver 91 = some (.return_, 1, 0) := m_at_of r_Script_takeOver (by decide +kernel)
set_option maxRecDepth 20000 in
set_option maxHeartbeats 1000000 in
theorem E_Script_takeOver (x : m_X) (s : m_H) (w : Nat) (r1 : Nat) : m_M x k_Script_takeOver [.ref w, .ref r1] s = if m_isO s w 5 = true then ((m_fR s 5 0 r1).bind fun v1 => (m_fR s 5 0 w).bind fun v6 => (m_cpy s v1 0 v6 0 24).bind fun s12 => (m_fR s12 5 1 r1).bind fun v16 => (m_fR s12 5 1 w).bind fun v21 => (m_cpy s12 v16 0 v21 0 24).bind fun s27 => (m_fR s27 5 2 r1).bind fun v31 => (m_fR s27 5 2 w).bind fun v36 => (m_cpy s27 v31 0 v36 0 24).bind fun s42 => (m_fR s42 5 3 r1).bind fun v46 => (m_fR s42 5 3 w).bind fun v51 => (m_cpy s42 v46 0 v51 0 300).bind fun s58 => (m_fR s58 5 4 r1).bind fun v62 => (m_fR s58 5 4 w).bind fun v67 => (m_cpy s58 v62 0 v67 0 4).bind fun s72 => (m_fI s72 5 5 r1).bind fun v77 => (m_pf s72 5 5 w (.int v77)).bind fun s80 => (m_fI s80 5 6 r1).bind fun v85 => (m_pf s80 5 6 w (.int v85)).bind fun s88 => some (none, s88)) else none := by
  refine e_M1 (L0 := [some (.ref w), some (.ref r1)]) rfl (by decide +kernel) rfl (q_Script_takeOver _) rfl ?_
  refine e_aload_n i_Script_takeOver_0 rfl ?_
  refine e_getR i_Script_takeOver_1 lf_81 (by decide) ft_5_0 (fun v1 => ?_)
  refine e_iconst (v := 0) i_Script_takeOver_4 (by decide) ?_
  refine e_aload_n i_Script_takeOver_5 rfl ?_
  refine e_getR i_Script_takeOver_6 lf_81 (by decide) ft_5_0 (fun v6 => ?_)
  refine e_iconst (v := 0) i_Script_takeOver_9 (by decide) ?_
  refine e_bipush (v := 24) i_Script_takeOver_10 (by decide) ?_
  refine e_copy i_Script_takeOver_12 lm_365 (Nat.le_of_ble_eq_true rfl) (fun s12 => ?_)
  refine e_aload_n i_Script_takeOver_15 rfl ?_
  refine e_getR i_Script_takeOver_16 lf_89 (by decide) ft_5_1 (fun v16 => ?_)
  refine e_iconst (v := 0) i_Script_takeOver_19 (by decide) ?_
  refine e_aload_n i_Script_takeOver_20 rfl ?_
  refine e_getR i_Script_takeOver_21 lf_89 (by decide) ft_5_1 (fun v21 => ?_)
  refine e_iconst (v := 0) i_Script_takeOver_24 (by decide) ?_
  refine e_bipush (v := 24) i_Script_takeOver_25 (by decide) ?_
  refine e_copy i_Script_takeOver_27 lm_365 (Nat.le_of_ble_eq_true rfl) (fun s27 => ?_)
  refine e_aload_n i_Script_takeOver_30 rfl ?_
  refine e_getR i_Script_takeOver_31 lf_90 (by decide) ft_5_2 (fun v31 => ?_)
  refine e_iconst (v := 0) i_Script_takeOver_34 (by decide) ?_
  refine e_aload_n i_Script_takeOver_35 rfl ?_
  refine e_getR i_Script_takeOver_36 lf_90 (by decide) ft_5_2 (fun v36 => ?_)
  refine e_iconst (v := 0) i_Script_takeOver_39 (by decide) ?_
  refine e_bipush (v := 24) i_Script_takeOver_40 (by decide) ?_
  refine e_copy i_Script_takeOver_42 lm_365 (Nat.le_of_ble_eq_true rfl) (fun s42 => ?_)
  refine e_aload_n i_Script_takeOver_45 rfl ?_
  refine e_getR i_Script_takeOver_46 lf_88 (by decide) ft_5_3 (fun v46 => ?_)
  refine e_iconst (v := 0) i_Script_takeOver_49 (by decide) ?_
  refine e_aload_n i_Script_takeOver_50 rfl ?_
  refine e_getR i_Script_takeOver_51 lf_88 (by decide) ft_5_3 (fun v51 => ?_)
  refine e_iconst (v := 0) i_Script_takeOver_54 (by decide) ?_
  refine e_sipush (v := 300) i_Script_takeOver_55 (by decide) ?_
  refine e_copy i_Script_takeOver_58 lm_365 (Nat.le_of_ble_eq_true rfl) (fun s58 => ?_)
  refine e_aload_n i_Script_takeOver_61 rfl ?_
  refine e_getR i_Script_takeOver_62 lf_113 (by decide) ft_5_4 (fun v62 => ?_)
  refine e_iconst (v := 0) i_Script_takeOver_65 (by decide) ?_
  refine e_aload_n i_Script_takeOver_66 rfl ?_
  refine e_getR i_Script_takeOver_67 lf_113 (by decide) ft_5_4 (fun v67 => ?_)
  refine e_iconst (v := 0) i_Script_takeOver_70 (by decide) ?_
  refine e_iconst (v := 4) i_Script_takeOver_71 (by decide) ?_
  refine e_copy i_Script_takeOver_72 lm_365 (Nat.le_of_ble_eq_true rfl) (fun s72 => ?_)
  refine e_aload_n i_Script_takeOver_75 rfl ?_
  refine e_aload_n i_Script_takeOver_76 rfl ?_
  refine e_getI i_Script_takeOver_77 lf_91 (by decide) (Or.inl ft_5_5) (fun v77 => ?_)
  refine e_putf i_Script_takeOver_80 lf_91 ft_5_5 rfl (fun s80 => ?_)
  refine e_aload_n i_Script_takeOver_83 rfl ?_
  refine e_aload_n i_Script_takeOver_84 rfl ?_
  refine e_getI i_Script_takeOver_85 lf_114 (by decide) (Or.inl ft_5_6) (fun v85 => ?_)
  refine e_putf i_Script_takeOver_88 lf_114 ft_5_6 rfl (fun s88 => ?_)
  exact e_vret i_Script_takeOver_91 rfl
theorem i_Script_endClause_0 : m_at k_Script_endClause 0 = some (.aload_n 0, 1, 0) := m_at_of r_Script_endClause (by decide +kernel)
theorem i_Script_endClause_1 : m_at k_Script_endClause 1 = some (.getfield 29, 3, 91) := m_at_of r_Script_endClause (by decide +kernel)
theorem i_Script_endClause_4 : m_at k_Script_endClause 4 = some (.ifCond .lt (12), 3, 0) := m_at_of r_Script_endClause (by decide +kernel)
theorem i_Script_endClause_7 : m_at k_Script_endClause 7 = some (.aload_n 0, 1, 0) := m_at_of r_Script_endClause (by decide +kernel)
theorem i_Script_endClause_8 : m_at k_Script_endClause 8 = some (.getfield 29, 3, 91) := m_at_of r_Script_endClause (by decide +kernel)
theorem i_Script_endClause_11 : m_at k_Script_endClause 11 = some (.bipush 24, 2, 0) := m_at_of r_Script_endClause (by decide +kernel)
theorem i_Script_endClause_13 : m_at k_Script_endClause 13 = some (.if_icmp .lt (4), 3, 0) := m_at_of r_Script_endClause (by decide +kernel)
theorem i_Script_endClause_16 : m_at k_Script_endClause 16 = some (.return_, 1, 0) := m_at_of r_Script_endClause (by decide +kernel)
theorem i_Script_endClause_17 : m_at k_Script_endClause 17 = some (.aload_n 0, 1, 0) := m_at_of r_Script_endClause (by decide +kernel)
theorem i_Script_endClause_18 : m_at k_Script_endClause 18 = some (.getfield 18, 3, 90) := m_at_of r_Script_endClause (by decide +kernel)
theorem i_Script_endClause_21 : m_at k_Script_endClause 21 = some (.aload_n 0, 1, 0) := m_at_of r_Script_endClause (by decide +kernel)
theorem i_Script_endClause_22 : m_at k_Script_endClause 22 = some (.getfield 29, 3, 91) := m_at_of r_Script_endClause (by decide +kernel)
theorem i_Script_endClause_25 : m_at k_Script_endClause 25 = some (.aload_n 0, 1, 0) := m_at_of r_Script_endClause (by decide +kernel)
theorem i_Script_endClause_26 : m_at k_Script_endClause 26 = some (.getfield 33, 3, 114) := m_at_of r_Script_endClause (by decide +kernel)
theorem i_Script_endClause_29 : m_at k_Script_endClause 29 = some (.iastore, 1, 0) := m_at_of r_Script_endClause (by decide +kernel)
theorem i_Script_endClause_30 : m_at k_Script_endClause 30 = some (.aload_n 0, 1, 0) := m_at_of r_Script_endClause (by decide +kernel)
theorem i_Script_endClause_31 : m_at k_Script_endClause 31 = some (.dup, 1, 0) := m_at_of r_Script_endClause (by decide +kernel)
theorem i_Script_endClause_32 : m_at k_Script_endClause 32 = some (.getfield 29, 3, 91) := m_at_of r_Script_endClause (by decide +kernel)
theorem i_Script_endClause_35 : m_at k_Script_endClause 35 = some (.iconst 1, 1, 0) := m_at_of r_Script_endClause (by decide +kernel)
theorem i_Script_endClause_36 : m_at k_Script_endClause 36 = some (.iadd, 1, 0) := m_at_of r_Script_endClause (by decide +kernel)
theorem i_Script_endClause_37 : m_at k_Script_endClause 37 = some (.putfield 29, 3, 91) := m_at_of r_Script_endClause (by decide +kernel)
theorem i_Script_endClause_40 : m_at k_Script_endClause 40 = some (.return_, 1, 0) := m_at_of r_Script_endClause (by decide +kernel)
set_option maxRecDepth 20000 in
set_option maxHeartbeats 1000000 in
theorem E_Script_endClause (x : m_X) (s : m_H) (w : Nat) : m_M x k_Script_endClause [.ref w] s = if m_isO s w 5 = true then ((m_fI s 5 5 w).bind fun v1 => if v1 < 0 then (some (none, s)) else (m_fI s 5 5 w).bind fun v8 => if v8 < 24 then ((m_fR s 5 2 w).bind fun v18 => (m_fI s 5 5 w).bind fun v22 => (m_fI s 5 6 w).bind fun v26 => (m_is s v18 v22 v26).bind fun s29 => (m_fI s29 5 5 w).bind fun v32 => (m_pf s29 5 5 w (.int (v32 + (1 : Int32)))).bind fun s37 => some (none, s37)) else some (none, s)) else none := by
  refine e_M1 (L0 := [some (.ref w)]) rfl (by decide +kernel) rfl (q_Script_endClause _) rfl ?_
  refine e_aload_n i_Script_endClause_0 rfl ?_
  refine e_getI i_Script_endClause_1 lf_91 (by decide) (Or.inl ft_5_5) (fun v1 => ?_)
  refine e_iflt (t := 16) i_Script_endClause_4 (by decide) ?_ ?_
  · exact e_vret i_Script_endClause_16 rfl
  · refine e_aload_n i_Script_endClause_7 rfl ?_
    refine e_getI i_Script_endClause_8 lf_91 (by decide) (Or.inl ft_5_5) (fun v8 => ?_)
    refine e_bipush (v := 24) i_Script_endClause_11 (by decide) ?_
    refine e_icmplt (t := 17) i_Script_endClause_13 (by decide) ?_ ?_
    · refine e_aload_n i_Script_endClause_17 rfl ?_
      refine e_getR i_Script_endClause_18 lf_90 (by decide) ft_5_2 (fun v18 => ?_)
      refine e_aload_n i_Script_endClause_21 rfl ?_
      refine e_getI i_Script_endClause_22 lf_91 (by decide) (Or.inl ft_5_5) (fun v22 => ?_)
      refine e_aload_n i_Script_endClause_25 rfl ?_
      refine e_getI i_Script_endClause_26 lf_114 (by decide) (Or.inl ft_5_6) (fun v26 => ?_)
      refine e_iast i_Script_endClause_29 (fun s29 => ?_)
      refine e_aload_n i_Script_endClause_30 rfl ?_
      refine e_dup i_Script_endClause_31 rfl ?_
      refine e_getI i_Script_endClause_32 lf_91 (by decide) (Or.inl ft_5_5) (fun v32 => ?_)
      refine e_iconst (v := 1) i_Script_endClause_35 (by decide) ?_
      refine e_iadd i_Script_endClause_36 ?_
      refine e_putf i_Script_endClause_37 lf_91 ft_5_5 rfl (fun s37 => ?_)
      exact e_vret i_Script_endClause_40 rfl
    · exact e_vret i_Script_endClause_16 rfl
theorem i_Script_aimHere_0 : m_at k_Script_aimHere 0 = some (.iload_n 1, 1, 0) := m_at_of r_Script_aimHere (by decide +kernel)
theorem i_Script_aimHere_1 : m_at k_Script_aimHere 1 = some (.ifCond .lt (20), 3, 0) := m_at_of r_Script_aimHere (by decide +kernel)
theorem i_Script_aimHere_4 : m_at k_Script_aimHere 4 = some (.iload_n 1, 1, 0) := m_at_of r_Script_aimHere (by decide +kernel)
theorem i_Script_aimHere_5 : m_at k_Script_aimHere 5 = some (.sipush 300, 3, 0) := m_at_of r_Script_aimHere (by decide +kernel)
theorem i_Script_aimHere_8 : m_at k_Script_aimHere 8 = some (.if_icmp .ge (13), 3, 0) := m_at_of r_Script_aimHere (by decide +kernel)
theorem i_Script_aimHere_11 : m_at k_Script_aimHere 11 = some (.aload_n 0, 1, 0) := m_at_of r_Script_aimHere (by decide +kernel)
theorem i_Script_aimHere_12 : m_at k_Script_aimHere 12 = some (.getfield 21, 3, 88) := m_at_of r_Script_aimHere (by decide +kernel)
theorem i_Script_aimHere_15 : m_at k_Script_aimHere 15 = some (.iload_n 1, 1, 0) := m_at_of r_Script_aimHere (by decide +kernel)
theorem i_Script_aimHere_16 : m_at k_Script_aimHere 16 = some (.aload_n 0, 1, 0) := m_at_of r_Script_aimHere (by decide +kernel)
theorem i_Script_aimHere_17 : m_at k_Script_aimHere 17 = some (.getfield 33, 3, 114) := m_at_of r_Script_aimHere (by decide +kernel)
theorem i_Script_aimHere_20 : m_at k_Script_aimHere 20 = some (.iastore, 1, 0) := m_at_of r_Script_aimHere (by decide +kernel)
theorem i_Script_aimHere_21 : m_at k_Script_aimHere 21 = some (.return_, 1, 0) := m_at_of r_Script_aimHere (by decide +kernel)
set_option maxRecDepth 20000 in
set_option maxHeartbeats 1000000 in
theorem E_Script_aimHere (x : m_X) (s : m_H) (w : Nat) (n1 : Int32) : m_M x k_Script_aimHere [.ref w, .int n1] s = if m_isO s w 5 = true then (if n1 < 0 then (some (none, s)) else if 300 ≤ n1 then (some (none, s)) else (m_fR s 5 3 w).bind fun v12 => (m_fI s 5 6 w).bind fun v17 => (m_is s v12 n1 v17).bind fun s20 => some (none, s20)) else none := by
  refine e_M1 (L0 := [some (.ref w), some (.int n1)]) rfl (by decide +kernel) rfl (q_Script_aimHere _) rfl ?_
  refine e_iload_n i_Script_aimHere_0 rfl ?_
  refine e_iflt (t := 21) i_Script_aimHere_1 (by decide) ?_ ?_
  · exact e_vret i_Script_aimHere_21 rfl
  · refine e_iload_n i_Script_aimHere_4 rfl ?_
    refine e_sipush (v := 300) i_Script_aimHere_5 (by decide) ?_
    refine e_icmpge (t := 21) i_Script_aimHere_8 (by decide) ?_ ?_
    · exact e_vret i_Script_aimHere_21 rfl
    · refine e_aload_n i_Script_aimHere_11 rfl ?_
      refine e_getR i_Script_aimHere_12 lf_88 (by decide) ft_5_3 (fun v12 => ?_)
      refine e_iload_n i_Script_aimHere_15 rfl ?_
      refine e_aload_n i_Script_aimHere_16 rfl ?_
      refine e_getI i_Script_aimHere_17 lf_114 (by decide) (Or.inl ft_5_6) (fun v17 => ?_)
      refine e_iast i_Script_aimHere_20 (fun s20 => ?_)
      exact e_vret i_Script_aimHere_21 rfl
theorem i_Script_addLeap_0 : m_at k_Script_addLeap 0 = some (.aload_n 0, 1, 0) := m_at_of r_Script_addLeap (by decide +kernel)
theorem i_Script_addLeap_1 : m_at k_Script_addLeap 1 = some (.iload_n 1, 1, 0) := m_at_of r_Script_addLeap (by decide +kernel)
theorem i_Script_addLeap_2 : m_at k_Script_addLeap 2 = some (.invokevirtual 40, 3, 392) := m_at_of r_Script_addLeap (by decide +kernel)
theorem i_Script_addLeap_5 : m_at k_Script_addLeap 5 = some (.aload_n 0, 1, 0) := m_at_of r_Script_addLeap (by decide +kernel)
theorem i_Script_addLeap_6 : m_at k_Script_addLeap 6 = some (.iconst 0, 1, 0) := m_at_of r_Script_addLeap (by decide +kernel)
theorem i_Script_addLeap_7 : m_at k_Script_addLeap 7 = some (.invokevirtual 36, 3, 393) := m_at_of r_Script_addLeap (by decide +kernel)
theorem i_Script_addLeap_10 : m_at k_Script_addLeap 10 = some (.aload_n 0, 1, 0) := m_at_of r_Script_addLeap (by decide +kernel)
theorem i_Script_addLeap_11 : m_at k_Script_addLeap 11 = some (.getfield 33, 3, 114) := m_at_of r_Script_addLeap (by decide +kernel)
theorem i_Script_addLeap_14 : m_at k_Script_addLeap 14 = some (.iconst 1, 1, 0) := m_at_of r_Script_addLeap (by decide +kernel)
theorem i_Script_addLeap_15 : m_at k_Script_addLeap 15 = some (.isub, 1, 0) := m_at_of r_Script_addLeap (by decide +kernel)
theorem i_Script_addLeap_16 : m_at k_Script_addLeap 16 = some (.ireturn, 1, 0) := m_at_of r_Script_addLeap (by decide +kernel)
set_option maxRecDepth 20000 in
set_option maxHeartbeats 1000000 in
theorem E_Script_addLeap (x : m_X) (s : m_H) (w : Nat) (n1 : Int32) : m_M x k_Script_addLeap [.ref w, .int n1] s = if m_isO s w 5 = true then (m_bV (m_M x k_Script_addDeed [.ref w, .int n1] s) fun s2 => m_bV (m_M x k_Script_add [.ref w, .int 0] s2) fun s7 => (m_fI s7 5 6 w).bind fun v11 => some (some (.int (v11 - (1 : Int32))), s7)) else none := by
  refine e_M1 (L0 := [some (.ref w), some (.int n1)]) rfl (by decide +kernel) rfl (q_Script_addLeap _) rfl ?_
  refine e_aload_n i_Script_addLeap_0 rfl ?_
  refine e_iload_n i_Script_addLeap_1 rfl ?_
  refine e_callV (as := [.ref w, .int n1]) (st' := []) i_Script_addLeap_2 lm_392 (Or.inr (Or.inl ⟨rfl, rfl⟩)) w_Script_addDeed rfl rfl rfl (Nat.le_of_ble_eq_true rfl) (Nat.le_of_ble_eq_true rfl) (m_rlt (q_Script_addDeed _) (by decide)) rfl (fun s2 => ?_)
  refine e_aload_n i_Script_addLeap_5 rfl ?_
  refine e_iconst (v := 0) i_Script_addLeap_6 (by decide) ?_
  refine e_callV (as := [.ref w, .int 0]) (st' := []) i_Script_addLeap_7 lm_393 (Or.inr (Or.inl ⟨rfl, rfl⟩)) w_Script_add rfl rfl rfl (Nat.le_of_ble_eq_true rfl) (Nat.le_of_ble_eq_true rfl) (m_rlt (q_Script_add _) (by decide)) rfl (fun s7 => ?_)
  refine e_aload_n i_Script_addLeap_10 rfl ?_
  refine e_getI i_Script_addLeap_11 lf_114 (by decide) (Or.inl ft_5_6) (fun v11 => ?_)
  refine e_iconst (v := 1) i_Script_addLeap_14 (by decide) ?_
  refine e_isub i_Script_addLeap_15 ?_
  exact e_iretI i_Script_addLeap_16 rfl
theorem i_Script_addDeed_0 : m_at k_Script_addDeed 0 = some (.aload_n 0, 1, 0) := m_at_of r_Script_addDeed (by decide +kernel)
theorem i_Script_addDeed_1 : m_at k_Script_addDeed 1 = some (.iconst (-1), 1, 0) := m_at_of r_Script_addDeed (by decide +kernel)
theorem i_Script_addDeed_2 : m_at k_Script_addDeed 2 = some (.iload_n 1, 1, 0) := m_at_of r_Script_addDeed (by decide +kernel)
theorem i_Script_addDeed_3 : m_at k_Script_addDeed 3 = some (.isub, 1, 0) := m_at_of r_Script_addDeed (by decide +kernel)
theorem i_Script_addDeed_4 : m_at k_Script_addDeed 4 = some (.invokevirtual 36, 3, 393) := m_at_of r_Script_addDeed (by decide +kernel)
theorem i_Script_addDeed_7 : m_at k_Script_addDeed 7 = some (.return_, 1, 0) := m_at_of r_Script_addDeed (by decide +kernel)
set_option maxRecDepth 20000 in
set_option maxHeartbeats 1000000 in
theorem E_Script_addDeed (x : m_X) (s : m_H) (w : Nat) (n1 : Int32) : m_M x k_Script_addDeed [.ref w, .int n1] s = if m_isO s w 5 = true then (m_bV (m_M x k_Script_add [.ref w, .int ((-1 : Int32) - n1)] s) fun s4 => some (none, s4)) else none := by
  refine e_M1 (L0 := [some (.ref w), some (.int n1)]) rfl (by decide +kernel) rfl (q_Script_addDeed _) rfl ?_
  refine e_aload_n i_Script_addDeed_0 rfl ?_
  refine e_iconst (v := (-1)) i_Script_addDeed_1 (by decide) ?_
  refine e_iload_n i_Script_addDeed_2 rfl ?_
  refine e_isub i_Script_addDeed_3 ?_
  refine e_callV (as := [.ref w, .int ((-1 : Int32) - n1)]) (st' := []) i_Script_addDeed_4 lm_393 (Or.inr (Or.inl ⟨rfl, rfl⟩)) w_Script_add rfl rfl rfl (Nat.le_of_ble_eq_true rfl) (Nat.le_of_ble_eq_true rfl) (m_rlt (q_Script_add _) (by decide)) rfl (fun s4 => ?_)
  exact e_vret i_Script_addDeed_7 rfl
theorem i_Script_add_0 : m_at k_Script_add 0 = some (.aload_n 0, 1, 0) := m_at_of r_Script_add (by decide +kernel)
theorem i_Script_add_1 : m_at k_Script_add 1 = some (.getfield 33, 3, 114) := m_at_of r_Script_add (by decide +kernel)
theorem i_Script_add_4 : m_at k_Script_add 4 = some (.ifCond .lt (33), 3, 0) := m_at_of r_Script_add (by decide +kernel)
theorem i_Script_add_7 : m_at k_Script_add 7 = some (.aload_n 0, 1, 0) := m_at_of r_Script_add (by decide +kernel)
theorem i_Script_add_8 : m_at k_Script_add 8 = some (.getfield 33, 3, 114) := m_at_of r_Script_add (by decide +kernel)
theorem i_Script_add_11 : m_at k_Script_add 11 = some (.sipush 300, 3, 0) := m_at_of r_Script_add (by decide +kernel)
theorem i_Script_add_14 : m_at k_Script_add 14 = some (.if_icmp .ge (23), 3, 0) := m_at_of r_Script_add (by decide +kernel)
theorem i_Script_add_17 : m_at k_Script_add 17 = some (.aload_n 0, 1, 0) := m_at_of r_Script_add (by decide +kernel)
theorem i_Script_add_18 : m_at k_Script_add 18 = some (.getfield 21, 3, 88) := m_at_of r_Script_add (by decide +kernel)
theorem i_Script_add_21 : m_at k_Script_add 21 = some (.aload_n 0, 1, 0) := m_at_of r_Script_add (by decide +kernel)
theorem i_Script_add_22 : m_at k_Script_add 22 = some (.getfield 33, 3, 114) := m_at_of r_Script_add (by decide +kernel)
theorem i_Script_add_25 : m_at k_Script_add 25 = some (.iload_n 1, 1, 0) := m_at_of r_Script_add (by decide +kernel)
theorem i_Script_add_26 : m_at k_Script_add 26 = some (.iastore, 1, 0) := m_at_of r_Script_add (by decide +kernel)
theorem i_Script_add_27 : m_at k_Script_add 27 = some (.aload_n 0, 1, 0) := m_at_of r_Script_add (by decide +kernel)
theorem i_Script_add_28 : m_at k_Script_add 28 = some (.dup, 1, 0) := m_at_of r_Script_add (by decide +kernel)
theorem i_Script_add_29 : m_at k_Script_add 29 = some (.getfield 33, 3, 114) := m_at_of r_Script_add (by decide +kernel)
theorem i_Script_add_32 : m_at k_Script_add 32 = some (.iconst 1, 1, 0) := m_at_of r_Script_add (by decide +kernel)
theorem i_Script_add_33 : m_at k_Script_add 33 = some (.iadd, 1, 0) := m_at_of r_Script_add (by decide +kernel)
theorem i_Script_add_34 : m_at k_Script_add 34 = some (.putfield 33, 3, 114) := m_at_of r_Script_add (by decide +kernel)
theorem i_Script_add_37 : m_at k_Script_add 37 = some (.return_, 1, 0) := m_at_of r_Script_add (by decide +kernel)
set_option maxRecDepth 20000 in
set_option maxHeartbeats 1000000 in
theorem E_Script_add (x : m_X) (s : m_H) (w : Nat) (n1 : Int32) : m_M x k_Script_add [.ref w, .int n1] s = if m_isO s w 5 = true then ((m_fI s 5 6 w).bind fun v1 => if v1 < 0 then (some (none, s)) else (m_fI s 5 6 w).bind fun v8 => if 300 ≤ v8 then (some (none, s)) else (m_fR s 5 3 w).bind fun v18 => (m_fI s 5 6 w).bind fun v22 => (m_is s v18 v22 n1).bind fun s26 => (m_fI s26 5 6 w).bind fun v29 => (m_pf s26 5 6 w (.int (v29 + (1 : Int32)))).bind fun s34 => some (none, s34)) else none := by
  refine e_M1 (L0 := [some (.ref w), some (.int n1)]) rfl (by decide +kernel) rfl (q_Script_add _) rfl ?_
  refine e_aload_n i_Script_add_0 rfl ?_
  refine e_getI i_Script_add_1 lf_114 (by decide) (Or.inl ft_5_6) (fun v1 => ?_)
  refine e_iflt (t := 37) i_Script_add_4 (by decide) ?_ ?_
  · exact e_vret i_Script_add_37 rfl
  · refine e_aload_n i_Script_add_7 rfl ?_
    refine e_getI i_Script_add_8 lf_114 (by decide) (Or.inl ft_5_6) (fun v8 => ?_)
    refine e_sipush (v := 300) i_Script_add_11 (by decide) ?_
    refine e_icmpge (t := 37) i_Script_add_14 (by decide) ?_ ?_
    · exact e_vret i_Script_add_37 rfl
    · refine e_aload_n i_Script_add_17 rfl ?_
      refine e_getR i_Script_add_18 lf_88 (by decide) ft_5_3 (fun v18 => ?_)
      refine e_aload_n i_Script_add_21 rfl ?_
      refine e_getI i_Script_add_22 lf_114 (by decide) (Or.inl ft_5_6) (fun v22 => ?_)
      refine e_iload_n i_Script_add_25 rfl ?_
      refine e_iast i_Script_add_26 (fun s26 => ?_)
      refine e_aload_n i_Script_add_27 rfl ?_
      refine e_dup i_Script_add_28 rfl ?_
      refine e_getI i_Script_add_29 lf_114 (by decide) (Or.inl ft_5_6) (fun v29 => ?_)
      refine e_iconst (v := 1) i_Script_add_32 (by decide) ?_
      refine e_iadd i_Script_add_33 ?_
      refine e_putf i_Script_add_34 lf_114 ft_5_6 rfl (fun s34 => ?_)
      exact e_vret i_Script_add_37 rfl
theorem i_Script_startClause_0 : m_at k_Script_startClause 0 = some (.aload_n 0, 1, 0) := m_at_of r_Script_startClause (by decide +kernel)
theorem i_Script_startClause_1 : m_at k_Script_startClause 1 = some (.getfield 29, 3, 91) := m_at_of r_Script_startClause (by decide +kernel)
theorem i_Script_startClause_4 : m_at k_Script_startClause 4 = some (.ifCond .lt (12), 3, 0) := m_at_of r_Script_startClause (by decide +kernel)
theorem i_Script_startClause_7 : m_at k_Script_startClause 7 = some (.aload_n 0, 1, 0) := m_at_of r_Script_startClause (by decide +kernel)
theorem i_Script_startClause_8 : m_at k_Script_startClause 8 = some (.getfield 29, 3, 91) := m_at_of r_Script_startClause (by decide +kernel)
theorem i_Script_startClause_11 : m_at k_Script_startClause 11 = some (.bipush 24, 2, 0) := m_at_of r_Script_startClause (by decide +kernel)
theorem i_Script_startClause_13 : m_at k_Script_startClause 13 = some (.if_icmp .lt (4), 3, 0) := m_at_of r_Script_startClause (by decide +kernel)
theorem i_Script_startClause_16 : m_at k_Script_startClause 16 = some (.return_, 1, 0) := m_at_of r_Script_startClause (by decide +kernel)
theorem i_Script_startClause_17 : m_at k_Script_startClause 17 = some (.aload_n 0, 1, 0) := m_at_of r_Script_startClause (by decide +kernel)
theorem i_Script_startClause_18 : m_at k_Script_startClause 18 = some (.getfield 9, 3, 81) := m_at_of r_Script_startClause (by decide +kernel)
theorem i_Script_startClause_21 : m_at k_Script_startClause 21 = some (.aload_n 0, 1, 0) := m_at_of r_Script_startClause (by decide +kernel)
theorem i_Script_startClause_22 : m_at k_Script_startClause 22 = some (.getfield 29, 3, 91) := m_at_of r_Script_startClause (by decide +kernel)
theorem i_Script_startClause_25 : m_at k_Script_startClause 25 = some (.iload_n 1, 1, 0) := m_at_of r_Script_startClause (by decide +kernel)
theorem i_Script_startClause_26 : m_at k_Script_startClause 26 = some (.iastore, 1, 0) := m_at_of r_Script_startClause (by decide +kernel)
theorem i_Script_startClause_27 : m_at k_Script_startClause 27 = some (.aload_n 0, 1, 0) := m_at_of r_Script_startClause (by decide +kernel)
theorem i_Script_startClause_28 : m_at k_Script_startClause 28 = some (.getfield 15, 3, 89) := m_at_of r_Script_startClause (by decide +kernel)
theorem i_Script_startClause_31 : m_at k_Script_startClause 31 = some (.aload_n 0, 1, 0) := m_at_of r_Script_startClause (by decide +kernel)
theorem i_Script_startClause_32 : m_at k_Script_startClause 32 = some (.getfield 29, 3, 91) := m_at_of r_Script_startClause (by decide +kernel)
theorem i_Script_startClause_35 : m_at k_Script_startClause 35 = some (.aload_n 0, 1, 0) := m_at_of r_Script_startClause (by decide +kernel)
theorem i_Script_startClause_36 : m_at k_Script_startClause 36 = some (.getfield 33, 3, 114) := m_at_of r_Script_startClause (by decide +kernel)
theorem i_Script_startClause_39 : m_at k_Script_startClause 39 = some (.iastore, 1, 0) := m_at_of r_Script_startClause (by decide +kernel)
theorem i_Script_startClause_40 : m_at k_Script_startClause 40 = some (.iload_n 1, 1, 0) := m_at_of r_Script_startClause (by decide +kernel)
theorem i_Script_startClause_41 : m_at k_Script_startClause 41 = some (.ifCond .lt (18), 3, 0) := m_at_of r_Script_startClause (by decide +kernel)
theorem i_Script_startClause_44 : m_at k_Script_startClause 44 = some (.iload_n 1, 1, 0) := m_at_of r_Script_startClause (by decide +kernel)
theorem i_Script_startClause_45 : m_at k_Script_startClause 45 = some (.iconst 4, 1, 0) := m_at_of r_Script_startClause (by decide +kernel)
theorem i_Script_startClause_46 : m_at k_Script_startClause 46 = some (.if_icmp .ge (13), 3, 0) := m_at_of r_Script_startClause (by decide +kernel)
theorem i_Script_startClause_49 : m_at k_Script_startClause 49 = some (.aload_n 0, 1, 0) := m_at_of r_Script_startClause (by decide +kernel)
theorem i_Script_startClause_50 : m_at k_Script_startClause 50 = some (.getfield 26, 3, 113) := m_at_of r_Script_startClause (by decide +kernel)
theorem i_Script_startClause_53 : m_at k_Script_startClause 53 = some (.iload_n 1, 1, 0) := m_at_of r_Script_startClause (by decide +kernel)
theorem i_Script_startClause_54 : m_at k_Script_startClause 54 = some (.aload_n 0, 1, 0) := m_at_of r_Script_startClause (by decide +kernel)
theorem i_Script_startClause_55 : m_at k_Script_startClause 55 = some (.getfield 29, 3, 91) := m_at_of r_Script_startClause (by decide +kernel)
theorem i_Script_startClause_58 : m_at k_Script_startClause 58 = some (.iastore, 1, 0) := m_at_of r_Script_startClause (by decide +kernel)
theorem i_Script_startClause_59 : m_at k_Script_startClause 59 = some (.return_, 1, 0) := m_at_of r_Script_startClause (by decide +kernel)
set_option maxRecDepth 20000 in
set_option maxHeartbeats 1000000 in
theorem E_Script_startClause (x : m_X) (s : m_H) (w : Nat) (n1 : Int32) : m_M x k_Script_startClause [.ref w, .int n1] s = if m_isO s w 5 = true then ((m_fI s 5 5 w).bind fun v1 => if v1 < 0 then (some (none, s)) else (m_fI s 5 5 w).bind fun v8 => if v8 < 24 then ((m_fR s 5 0 w).bind fun v18 => (m_fI s 5 5 w).bind fun v22 => (m_is s v18 v22 n1).bind fun s26 => (m_fR s26 5 1 w).bind fun v28 => (m_fI s26 5 5 w).bind fun v32 => (m_fI s26 5 6 w).bind fun v36 => (m_is s26 v28 v32 v36).bind fun s39 => if n1 < 0 then (some (none, s39)) else if 4 ≤ n1 then (some (none, s39)) else (m_fR s39 5 4 w).bind fun v50 => (m_fI s39 5 5 w).bind fun v55 => (m_is s39 v50 n1 v55).bind fun s58 => some (none, s58)) else some (none, s)) else none := by
  refine e_M1 (L0 := [some (.ref w), some (.int n1)]) rfl (by decide +kernel) rfl (q_Script_startClause _) rfl ?_
  refine e_aload_n i_Script_startClause_0 rfl ?_
  refine e_getI i_Script_startClause_1 lf_91 (by decide) (Or.inl ft_5_5) (fun v1 => ?_)
  refine e_iflt (t := 16) i_Script_startClause_4 (by decide) ?_ ?_
  · exact e_vret i_Script_startClause_16 rfl
  · refine e_aload_n i_Script_startClause_7 rfl ?_
    refine e_getI i_Script_startClause_8 lf_91 (by decide) (Or.inl ft_5_5) (fun v8 => ?_)
    refine e_bipush (v := 24) i_Script_startClause_11 (by decide) ?_
    refine e_icmplt (t := 17) i_Script_startClause_13 (by decide) ?_ ?_
    · refine e_aload_n i_Script_startClause_17 rfl ?_
      refine e_getR i_Script_startClause_18 lf_81 (by decide) ft_5_0 (fun v18 => ?_)
      refine e_aload_n i_Script_startClause_21 rfl ?_
      refine e_getI i_Script_startClause_22 lf_91 (by decide) (Or.inl ft_5_5) (fun v22 => ?_)
      refine e_iload_n i_Script_startClause_25 rfl ?_
      refine e_iast i_Script_startClause_26 (fun s26 => ?_)
      refine e_aload_n i_Script_startClause_27 rfl ?_
      refine e_getR i_Script_startClause_28 lf_89 (by decide) ft_5_1 (fun v28 => ?_)
      refine e_aload_n i_Script_startClause_31 rfl ?_
      refine e_getI i_Script_startClause_32 lf_91 (by decide) (Or.inl ft_5_5) (fun v32 => ?_)
      refine e_aload_n i_Script_startClause_35 rfl ?_
      refine e_getI i_Script_startClause_36 lf_114 (by decide) (Or.inl ft_5_6) (fun v36 => ?_)
      refine e_iast i_Script_startClause_39 (fun s39 => ?_)
      refine e_iload_n i_Script_startClause_40 rfl ?_
      refine e_iflt (t := 59) i_Script_startClause_41 (by decide) ?_ ?_
      · exact e_vret i_Script_startClause_59 rfl
      · refine e_iload_n i_Script_startClause_44 rfl ?_
        refine e_iconst (v := 4) i_Script_startClause_45 (by decide) ?_
        refine e_icmpge (t := 59) i_Script_startClause_46 (by decide) ?_ ?_
        · exact e_vret i_Script_startClause_59 rfl
        · refine e_aload_n i_Script_startClause_49 rfl ?_
          refine e_getR i_Script_startClause_50 lf_113 (by decide) ft_5_4 (fun v50 => ?_)
          refine e_iload_n i_Script_startClause_53 rfl ?_
          refine e_aload_n i_Script_startClause_54 rfl ?_
          refine e_getI i_Script_startClause_55 lf_91 (by decide) (Or.inl ft_5_5) (fun v55 => ?_)
          refine e_iast i_Script_startClause_58 (fun s58 => ?_)
          exact e_vret i_Script_startClause_59 rfl
    · exact e_vret i_Script_startClause_16 rfl
theorem i_Script_lawAt_0 : m_at k_Script_lawAt 0 = some (.iload_n 1, 1, 0) := m_at_of r_Script_lawAt (by decide +kernel)
theorem i_Script_lawAt_1 : m_at k_Script_lawAt 1 = some (.ifCond .lt (17), 3, 0) := m_at_of r_Script_lawAt (by decide +kernel)
theorem i_Script_lawAt_4 : m_at k_Script_lawAt 4 = some (.iload_n 1, 1, 0) := m_at_of r_Script_lawAt (by decide +kernel)
theorem i_Script_lawAt_5 : m_at k_Script_lawAt 5 = some (.iconst 4, 1, 0) := m_at_of r_Script_lawAt (by decide +kernel)
theorem i_Script_lawAt_6 : m_at k_Script_lawAt 6 = some (.if_icmp .ge (12), 3, 0) := m_at_of r_Script_lawAt (by decide +kernel)
theorem i_Script_lawAt_9 : m_at k_Script_lawAt 9 = some (.aload_n 0, 1, 0) := m_at_of r_Script_lawAt (by decide +kernel)
theorem i_Script_lawAt_10 : m_at k_Script_lawAt 10 = some (.getfield 26, 3, 113) := m_at_of r_Script_lawAt (by decide +kernel)
theorem i_Script_lawAt_13 : m_at k_Script_lawAt 13 = some (.iload_n 1, 1, 0) := m_at_of r_Script_lawAt (by decide +kernel)
theorem i_Script_lawAt_14 : m_at k_Script_lawAt 14 = some (.iaload, 1, 0) := m_at_of r_Script_lawAt (by decide +kernel)
theorem i_Script_lawAt_15 : m_at k_Script_lawAt 15 = some (.goto (4), 3, 0) := m_at_of r_Script_lawAt (by decide +kernel)
theorem i_Script_lawAt_18 : m_at k_Script_lawAt 18 = some (.iconst (-1), 1, 0) := m_at_of r_Script_lawAt (by decide +kernel)
theorem i_Script_lawAt_19 : m_at k_Script_lawAt 19 = some (.ireturn, 1, 0) := m_at_of r_Script_lawAt (by decide +kernel)
set_option maxRecDepth 20000 in
set_option maxHeartbeats 1000000 in
theorem E_Script_lawAt (x : m_X) (s : m_H) (w : Nat) (n1 : Int32) : m_M x k_Script_lawAt [.ref w, .int n1] s = if m_isO s w 5 = true then (if n1 < 0 then (some (some (.int (-1)), s)) else if 4 ≤ n1 then (some (some (.int (-1)), s)) else (m_fR s 5 4 w).bind fun v10 => (m_ia x s v10 n1).bind fun v14 => some (some (.int v14), s)) else none := by
  refine e_M1 (L0 := [some (.ref w), some (.int n1)]) rfl (by decide +kernel) rfl (q_Script_lawAt _) rfl ?_
  refine e_iload_n i_Script_lawAt_0 rfl ?_
  refine e_iflt (t := 18) i_Script_lawAt_1 (by decide) ?_ ?_
  · refine e_iconst (v := (-1)) i_Script_lawAt_18 (by decide) ?_
    exact e_iretI i_Script_lawAt_19 rfl
  · refine e_iload_n i_Script_lawAt_4 rfl ?_
    refine e_iconst (v := 4) i_Script_lawAt_5 (by decide) ?_
    refine e_icmpge (t := 18) i_Script_lawAt_6 (by decide) ?_ ?_
    · refine e_iconst (v := (-1)) i_Script_lawAt_18 (by decide) ?_
      exact e_iretI i_Script_lawAt_19 rfl
    · refine e_aload_n i_Script_lawAt_9 rfl ?_
      refine e_getR i_Script_lawAt_10 lf_113 (by decide) ft_5_4 (fun v10 => ?_)
      refine e_iload_n i_Script_lawAt_13 rfl ?_
      refine e_iald i_Script_lawAt_14 (fun v14 => ?_)
      refine e_goto (t := 19) i_Script_lawAt_15 (by decide) ?_
      exact e_iretI i_Script_lawAt_19 rfl
theorem i_Script_empty_0 : m_at k_Script_empty 0 = some (.aload_n 0, 1, 0) := m_at_of r_Script_empty (by decide +kernel)
theorem i_Script_empty_1 : m_at k_Script_empty 1 = some (.iconst 0, 1, 0) := m_at_of r_Script_empty (by decide +kernel)
theorem i_Script_empty_2 : m_at k_Script_empty 2 = some (.putfield 29, 3, 91) := m_at_of r_Script_empty (by decide +kernel)
theorem i_Script_empty_5 : m_at k_Script_empty 5 = some (.aload_n 0, 1, 0) := m_at_of r_Script_empty (by decide +kernel)
theorem i_Script_empty_6 : m_at k_Script_empty 6 = some (.iconst 0, 1, 0) := m_at_of r_Script_empty (by decide +kernel)
theorem i_Script_empty_7 : m_at k_Script_empty 7 = some (.putfield 33, 3, 114) := m_at_of r_Script_empty (by decide +kernel)
theorem i_Script_empty_10 : m_at k_Script_empty 10 = some (.iconst 0, 1, 0) := m_at_of r_Script_empty (by decide +kernel)
theorem i_Script_empty_11 : m_at k_Script_empty 11 = some (.istore_n 1, 1, 0) := m_at_of r_Script_empty (by decide +kernel)
theorem i_Script_empty_12 : m_at k_Script_empty 12 = some (.iload_n 1, 1, 0) := m_at_of r_Script_empty (by decide +kernel)
theorem i_Script_empty_13 : m_at k_Script_empty 13 = some (.iconst 4, 1, 0) := m_at_of r_Script_empty (by decide +kernel)
theorem i_Script_empty_14 : m_at k_Script_empty 14 = some (.if_icmp .ge (16), 3, 0) := m_at_of r_Script_empty (by decide +kernel)
theorem i_Script_empty_17 : m_at k_Script_empty 17 = some (.aload_n 0, 1, 0) := m_at_of r_Script_empty (by decide +kernel)
theorem i_Script_empty_18 : m_at k_Script_empty 18 = some (.getfield 26, 3, 113) := m_at_of r_Script_empty (by decide +kernel)
theorem i_Script_empty_21 : m_at k_Script_empty 21 = some (.iload_n 1, 1, 0) := m_at_of r_Script_empty (by decide +kernel)
theorem i_Script_empty_22 : m_at k_Script_empty 22 = some (.iconst (-1), 1, 0) := m_at_of r_Script_empty (by decide +kernel)
theorem i_Script_empty_23 : m_at k_Script_empty 23 = some (.iastore, 1, 0) := m_at_of r_Script_empty (by decide +kernel)
theorem i_Script_empty_24 : m_at k_Script_empty 24 = some (.iinc 1 (1), 3, 0) := m_at_of r_Script_empty (by decide +kernel)
theorem i_Script_empty_27 : m_at k_Script_empty 27 = some (.goto (-15), 3, 0) := m_at_of r_Script_empty (by decide +kernel)
theorem i_Script_empty_30 : m_at k_Script_empty 30 = some (.return_, 1, 0) := m_at_of r_Script_empty (by decide +kernel)
set_option maxRecDepth 20000 in
set_option maxHeartbeats 1000000 in
theorem E_Script_empty (x : m_X) (s : m_H) (w : Nat) : m_M x k_Script_empty [.ref w] s = if m_isO s w 5 = true then ((m_pf s 5 5 w (.int 0)).bind fun s2 => (m_pf s2 5 6 w (.int 0)).bind fun s7 => m_D x 1 k_Script_empty 12 [some (.ref w), some (.int 0)] [] s7) else none := by
  refine e_M1 (L0 := [some (.ref w), none]) rfl (by decide +kernel) rfl (q_Script_empty _) rfl ?_
  refine e_aload_n i_Script_empty_0 rfl ?_
  refine e_iconst (v := 0) i_Script_empty_1 (by decide) ?_
  refine e_putf i_Script_empty_2 lf_91 ft_5_5 rfl (fun s2 => ?_)
  refine e_aload_n i_Script_empty_5 rfl ?_
  refine e_iconst (v := 0) i_Script_empty_6 (by decide) ?_
  refine e_putf i_Script_empty_7 lf_114 ft_5_6 rfl (fun s7 => ?_)
  refine e_iconst (v := 0) i_Script_empty_10 (by decide) ?_
  refine e_istore_n (L' := [some (.ref w), some (.int 0)]) i_Script_empty_11 (of_decide_eq_true rfl) rfl ?_
  exact rfl
set_option maxRecDepth 20000 in
set_option maxHeartbeats 1000000 in
theorem E_Script_empty_12 (x : m_X) (ρ : Nat) (hρ : 1 ≤ ρ) (s : m_H) (w : Nat) (n1 : Int32)  : m_D x ρ k_Script_empty 12 [some (.ref w), some (.int n1)] [] s = if 4 ≤ n1 then (some (none, s)) else (m_fR s 5 4 w).bind fun v18 => (m_is s v18 n1 (-1)).bind fun s23 => m_D x ρ k_Script_empty 12 [some (.ref w), some (.int (n1 + (1 : Int32)))] [] s23 := by
  refine e_iload_n i_Script_empty_12 rfl ?_
  refine e_iconst (v := 4) i_Script_empty_13 (by decide) ?_
  refine e_icmpge (t := 30) i_Script_empty_14 (by decide) ?_ ?_
  · exact e_vret i_Script_empty_30 rfl
  · refine e_aload_n i_Script_empty_17 rfl ?_
    refine e_getR i_Script_empty_18 lf_113 (by decide) ft_5_4 (fun v18 => ?_)
    refine e_iload_n i_Script_empty_21 rfl ?_
    refine e_iconst (v := (-1)) i_Script_empty_22 (by decide) ?_
    refine e_iast i_Script_empty_23 (fun s23 => ?_)
    refine e_iinc (w := 1) (L' := [some (.ref w), some (.int (n1 + (1 : Int32)))]) i_Script_empty_24 rfl (of_decide_eq_true rfl) (by decide) rfl ?_
    refine e_goto (t := 12) i_Script_empty_27 (by decide) ?_
    exact rfl
theorem i_Script_init_0 : m_at k_Script_init 0 = some (.aload_n 0, 1, 0) := m_at_of r_Script_init (by decide +kernel)
theorem i_Script_init_1 : m_at k_Script_init 1 = some (.invokespecial 3, 3, 445) := m_at_of r_Script_init (by decide +kernel)
theorem i_Script_init_4 : m_at k_Script_init 4 = some (.aload_n 0, 1, 0) := m_at_of r_Script_init (by decide +kernel)
theorem i_Script_init_5 : m_at k_Script_init 5 = some (.bipush 24, 2, 0) := m_at_of r_Script_init (by decide +kernel)
theorem i_Script_init_7 : m_at k_Script_init 7 = some (.newarray .int, 2, 0) := m_at_of r_Script_init (by decide +kernel)
theorem i_Script_init_9 : m_at k_Script_init 9 = some (.putfield 9, 3, 81) := m_at_of r_Script_init (by decide +kernel)
theorem i_Script_init_12 : m_at k_Script_init 12 = some (.aload_n 0, 1, 0) := m_at_of r_Script_init (by decide +kernel)
theorem i_Script_init_13 : m_at k_Script_init 13 = some (.bipush 24, 2, 0) := m_at_of r_Script_init (by decide +kernel)
theorem i_Script_init_15 : m_at k_Script_init 15 = some (.newarray .int, 2, 0) := m_at_of r_Script_init (by decide +kernel)
theorem i_Script_init_17 : m_at k_Script_init 17 = some (.putfield 15, 3, 89) := m_at_of r_Script_init (by decide +kernel)
theorem i_Script_init_20 : m_at k_Script_init 20 = some (.aload_n 0, 1, 0) := m_at_of r_Script_init (by decide +kernel)
theorem i_Script_init_21 : m_at k_Script_init 21 = some (.bipush 24, 2, 0) := m_at_of r_Script_init (by decide +kernel)
theorem i_Script_init_23 : m_at k_Script_init 23 = some (.newarray .int, 2, 0) := m_at_of r_Script_init (by decide +kernel)
theorem i_Script_init_25 : m_at k_Script_init 25 = some (.putfield 18, 3, 90) := m_at_of r_Script_init (by decide +kernel)
theorem i_Script_init_28 : m_at k_Script_init 28 = some (.aload_n 0, 1, 0) := m_at_of r_Script_init (by decide +kernel)
theorem i_Script_init_29 : m_at k_Script_init 29 = some (.sipush 300, 3, 0) := m_at_of r_Script_init (by decide +kernel)
theorem i_Script_init_32 : m_at k_Script_init 32 = some (.newarray .int, 2, 0) := m_at_of r_Script_init (by decide +kernel)
theorem i_Script_init_34 : m_at k_Script_init 34 = some (.putfield 21, 3, 88) := m_at_of r_Script_init (by decide +kernel)
theorem i_Script_init_37 : m_at k_Script_init 37 = some (.aload_n 0, 1, 0) := m_at_of r_Script_init (by decide +kernel)
theorem i_Script_init_38 : m_at k_Script_init 38 = some (.iconst 4, 1, 0) := m_at_of r_Script_init (by decide +kernel)
theorem i_Script_init_39 : m_at k_Script_init 39 = some (.newarray .int, 2, 0) := m_at_of r_Script_init (by decide +kernel)
theorem i_Script_init_41 : m_at k_Script_init 41 = some (.putfield 26, 3, 113) := m_at_of r_Script_init (by decide +kernel)
theorem i_Script_init_44 : m_at k_Script_init 44 = some (.return_, 1, 0) := m_at_of r_Script_init (by decide +kernel)
set_option maxRecDepth 20000 in
set_option maxHeartbeats 1000000 in
theorem E_Script_init (x : m_X) (s : m_H) (w : Nat) : m_M x k_Script_init [.ref w] s = if s.length < 900 ∧ ¬ 24 < (0 : Int32) ∧ (24 : Int32).toNatClampNeg ≤ 100000 then ((m_pf (s ++ [.inl (0, (24 : Int32).toNatClampNeg, .inl fun _ => 0)]) 5 0 w (.ref s.length)).bind fun s9 => if s9.length < 900 ∧ ¬ 24 < (0 : Int32) ∧ (24 : Int32).toNatClampNeg ≤ 100000 then ((m_pf (s9 ++ [.inl (0, (24 : Int32).toNatClampNeg, .inl fun _ => 0)]) 5 1 w (.ref s9.length)).bind fun s17 => if s17.length < 900 ∧ ¬ 24 < (0 : Int32) ∧ (24 : Int32).toNatClampNeg ≤ 100000 then ((m_pf (s17 ++ [.inl (0, (24 : Int32).toNatClampNeg, .inl fun _ => 0)]) 5 2 w (.ref s17.length)).bind fun s25 => if s25.length < 900 ∧ ¬ 300 < (0 : Int32) ∧ (300 : Int32).toNatClampNeg ≤ 100000 then ((m_pf (s25 ++ [.inl (0, (300 : Int32).toNatClampNeg, .inl fun _ => 0)]) 5 3 w (.ref s25.length)).bind fun s34 => if s34.length < 900 ∧ ¬ 4 < (0 : Int32) ∧ (4 : Int32).toNatClampNeg ≤ 100000 then ((m_pf (s34 ++ [.inl (0, (4 : Int32).toNatClampNeg, .inl fun _ => 0)]) 5 4 w (.ref s34.length)).bind fun s41 => some (none, s41)) else none) else none) else none) else none) else none := by
  refine e_M2 (L0 := [some (.ref w)]) rfl (q_Script_init _) rfl ?_
  refine e_aload_n i_Script_init_0 rfl ?_
  refine e_oinit i_Script_init_1 lm_445 (Nat.le_of_ble_eq_true rfl) ?_
  refine e_aload_n i_Script_init_4 rfl ?_
  refine e_bipush (v := 24) i_Script_init_5 (by decide) ?_
  refine e_newI i_Script_init_7 ?_
  refine e_putf i_Script_init_9 lf_81 ft_5_0 rfl (fun s9 => ?_)
  refine e_aload_n i_Script_init_12 rfl ?_
  refine e_bipush (v := 24) i_Script_init_13 (by decide) ?_
  refine e_newI i_Script_init_15 ?_
  refine e_putf i_Script_init_17 lf_89 ft_5_1 rfl (fun s17 => ?_)
  refine e_aload_n i_Script_init_20 rfl ?_
  refine e_bipush (v := 24) i_Script_init_21 (by decide) ?_
  refine e_newI i_Script_init_23 ?_
  refine e_putf i_Script_init_25 lf_90 ft_5_2 rfl (fun s25 => ?_)
  refine e_aload_n i_Script_init_28 rfl ?_
  refine e_sipush (v := 300) i_Script_init_29 (by decide) ?_
  refine e_newI i_Script_init_32 ?_
  refine e_putf i_Script_init_34 lf_88 ft_5_3 rfl (fun s34 => ?_)
  refine e_aload_n i_Script_init_37 rfl ?_
  refine e_iconst (v := 4) i_Script_init_38 (by decide) ?_
  refine e_newI i_Script_init_39 ?_
  refine e_putf i_Script_init_41 lf_113 ft_5_4 rfl (fun s41 => ?_)
  exact e_vret i_Script_init_44 rfl
theorem i_Law_passDay_0 : m_at k_Law_passDay 0 = some (.aload_n 1, 1, 0) := m_at_of r_Law_passDay (by decide +kernel)
theorem i_Law_passDay_1 : m_at k_Law_passDay 1 = some (.invokevirtual 40, 3, 277) := m_at_of r_Law_passDay (by decide +kernel)
theorem i_Law_passDay_4 : m_at k_Law_passDay 4 = some (.ifCond .ne (5), 3, 0) := m_at_of r_Law_passDay (by decide +kernel)
theorem i_Law_passDay_7 : m_at k_Law_passDay 7 = some (.iconst (-1), 1, 0) := m_at_of r_Law_passDay (by decide +kernel)
theorem i_Law_passDay_8 : m_at k_Law_passDay 8 = some (.ireturn, 1, 0) := m_at_of r_Law_passDay (by decide +kernel)
theorem i_Law_passDay_9 : m_at k_Law_passDay 9 = some (.iconst 0, 1, 0) := m_at_of r_Law_passDay (by decide +kernel)
theorem i_Law_passDay_10 : m_at k_Law_passDay 10 = some (.istore_n 3, 1, 0) := m_at_of r_Law_passDay (by decide +kernel)
theorem i_Law_passDay_11 : m_at k_Law_passDay 11 = some (.iconst 0, 1, 0) := m_at_of r_Law_passDay (by decide +kernel)
theorem i_Law_passDay_12 : m_at k_Law_passDay 12 = some (.istore 4, 2, 0) := m_at_of r_Law_passDay (by decide +kernel)
theorem i_Law_passDay_14 : m_at k_Law_passDay 14 = some (.iload 4, 2, 0) := m_at_of r_Law_passDay (by decide +kernel)
theorem i_Law_passDay_16 : m_at k_Law_passDay 16 = some (.aload_n 1, 1, 0) := m_at_of r_Law_passDay (by decide +kernel)
theorem i_Law_passDay_17 : m_at k_Law_passDay 17 = some (.getfield 46, 3, 83) := m_at_of r_Law_passDay (by decide +kernel)
theorem i_Law_passDay_20 : m_at k_Law_passDay 20 = some (.iconst 0, 1, 0) := m_at_of r_Law_passDay (by decide +kernel)
theorem i_Law_passDay_21 : m_at k_Law_passDay 21 = some (.iaload, 1, 0) := m_at_of r_Law_passDay (by decide +kernel)
theorem i_Law_passDay_22 : m_at k_Law_passDay 22 = some (.if_icmp .ge (134), 3, 0) := m_at_of r_Law_passDay (by decide +kernel)
theorem i_Law_passDay_25 : m_at k_Law_passDay 25 = some (.aload_n 1, 1, 0) := m_at_of r_Law_passDay (by decide +kernel)
theorem i_Law_passDay_26 : m_at k_Law_passDay 26 = some (.bipush 15, 2, 0) := m_at_of r_Law_passDay (by decide +kernel)
theorem i_Law_passDay_28 : m_at k_Law_passDay 28 = some (.iload 4, 2, 0) := m_at_of r_Law_passDay (by decide +kernel)
theorem i_Law_passDay_30 : m_at k_Law_passDay 30 = some (.invokevirtual 49, 3, 278) := m_at_of r_Law_passDay (by decide +kernel)
theorem i_Law_passDay_33 : m_at k_Law_passDay 33 = some (.aload_n 0, 1, 0) := m_at_of r_Law_passDay (by decide +kernel)
theorem i_Law_passDay_34 : m_at k_Law_passDay 34 = some (.iconst 0, 1, 0) := m_at_of r_Law_passDay (by decide +kernel)
theorem i_Law_passDay_35 : m_at k_Law_passDay 35 = some (.aload_n 2, 1, 0) := m_at_of r_Law_passDay (by decide +kernel)
theorem i_Law_passDay_36 : m_at k_Law_passDay 36 = some (.aload_n 1, 1, 0) := m_at_of r_Law_passDay (by decide +kernel)
theorem i_Law_passDay_37 : m_at k_Law_passDay 37 = some (.iload 4, 2, 0) := m_at_of r_Law_passDay (by decide +kernel)
theorem i_Law_passDay_39 : m_at k_Law_passDay 39 = some (.invokevirtual 52, 3, 279) := m_at_of r_Law_passDay (by decide +kernel)
theorem i_Law_passDay_42 : m_at k_Law_passDay 42 = some (.iadd, 1, 0) := m_at_of r_Law_passDay (by decide +kernel)
theorem i_Law_passDay_43 : m_at k_Law_passDay 43 = some (.istore 5, 2, 0) := m_at_of r_Law_passDay (by decide +kernel)
theorem i_Law_passDay_45 : m_at k_Law_passDay 45 = some (.aload_n 1, 1, 0) := m_at_of r_Law_passDay (by decide +kernel)
theorem i_Law_passDay_46 : m_at k_Law_passDay 46 = some (.bipush 15, 2, 0) := m_at_of r_Law_passDay (by decide +kernel)
theorem i_Law_passDay_48 : m_at k_Law_passDay 48 = some (.iload 4, 2, 0) := m_at_of r_Law_passDay (by decide +kernel)
theorem i_Law_passDay_50 : m_at k_Law_passDay 50 = some (.iload 5, 2, 0) := m_at_of r_Law_passDay (by decide +kernel)
theorem i_Law_passDay_52 : m_at k_Law_passDay 52 = some (.sipush 9999, 3, 0) := m_at_of r_Law_passDay (by decide +kernel)
theorem i_Law_passDay_55 : m_at k_Law_passDay 55 = some (.invokestatic 31, 3, 280) := m_at_of r_Law_passDay (by decide +kernel)
theorem i_Law_passDay_58 : m_at k_Law_passDay 58 = some (.invokevirtual 56, 3, 281) := m_at_of r_Law_passDay (by decide +kernel)
theorem i_Law_passDay_61 : m_at k_Law_passDay 61 = some (.aload_n 1, 1, 0) := m_at_of r_Law_passDay (by decide +kernel)
theorem i_Law_passDay_62 : m_at k_Law_passDay 62 = some (.bipush 8, 2, 0) := m_at_of r_Law_passDay (by decide +kernel)
theorem i_Law_passDay_64 : m_at k_Law_passDay 64 = some (.iload 4, 2, 0) := m_at_of r_Law_passDay (by decide +kernel)
theorem i_Law_passDay_66 : m_at k_Law_passDay 66 = some (.invokevirtual 49, 3, 278) := m_at_of r_Law_passDay (by decide +kernel)
theorem i_Law_passDay_69 : m_at k_Law_passDay 69 = some (.istore 6, 2, 0) := m_at_of r_Law_passDay (by decide +kernel)
theorem i_Law_passDay_71 : m_at k_Law_passDay 71 = some (.iload 6, 2, 0) := m_at_of r_Law_passDay (by decide +kernel)
theorem i_Law_passDay_73 : m_at k_Law_passDay 73 = some (.ifCond .le (16), 3, 0) := m_at_of r_Law_passDay (by decide +kernel)
theorem i_Law_passDay_76 : m_at k_Law_passDay 76 = some (.aload_n 1, 1, 0) := m_at_of r_Law_passDay (by decide +kernel)
theorem i_Law_passDay_77 : m_at k_Law_passDay 77 = some (.iload 4, 2, 0) := m_at_of r_Law_passDay (by decide +kernel)
theorem i_Law_passDay_79 : m_at k_Law_passDay 79 = some (.invokevirtual 60, 3, 282) := m_at_of r_Law_passDay (by decide +kernel)
theorem i_Law_passDay_82 : m_at k_Law_passDay 82 = some (.ifCond .le (7), 3, 0) := m_at_of r_Law_passDay (by decide +kernel)
theorem i_Law_passDay_85 : m_at k_Law_passDay 85 = some (.iconst 1, 1, 0) := m_at_of r_Law_passDay (by decide +kernel)
theorem i_Law_passDay_86 : m_at k_Law_passDay 86 = some (.goto (4), 3, 0) := m_at_of r_Law_passDay (by decide +kernel)
theorem i_Law_passDay_89 : m_at k_Law_passDay 89 = some (.iconst 0, 1, 0) := m_at_of r_Law_passDay (by decide +kernel)
theorem i_Law_passDay_90 : m_at k_Law_passDay 90 = some (.istore 7, 2, 0) := m_at_of r_Law_passDay (by decide +kernel)
theorem i_Law_passDay_92 : m_at k_Law_passDay 92 = some (.iload 7, 2, 0) := m_at_of r_Law_passDay (by decide +kernel)
theorem i_Law_passDay_94 : m_at k_Law_passDay 94 = some (.ifCond .eq (20), 3, 0) := m_at_of r_Law_passDay (by decide +kernel)
theorem i_Law_passDay_97 : m_at k_Law_passDay 97 = some (.iload 6, 2, 0) := m_at_of r_Law_passDay (by decide +kernel)
theorem i_Law_passDay_99 : m_at k_Law_passDay 99 = some (.aload_n 0, 1, 0) := m_at_of r_Law_passDay (by decide +kernel)
theorem i_Law_passDay_100 : m_at k_Law_passDay 100 = some (.iconst 1, 1, 0) := m_at_of r_Law_passDay (by decide +kernel)
theorem i_Law_passDay_101 : m_at k_Law_passDay 101 = some (.aload_n 2, 1, 0) := m_at_of r_Law_passDay (by decide +kernel)
theorem i_Law_passDay_102 : m_at k_Law_passDay 102 = some (.aload_n 1, 1, 0) := m_at_of r_Law_passDay (by decide +kernel)
theorem i_Law_passDay_103 : m_at k_Law_passDay 103 = some (.iload 4, 2, 0) := m_at_of r_Law_passDay (by decide +kernel)
theorem i_Law_passDay_105 : m_at k_Law_passDay 105 = some (.invokevirtual 52, 3, 279) := m_at_of r_Law_passDay (by decide +kernel)
theorem i_Law_passDay_108 : m_at k_Law_passDay 108 = some (.invokestatic 31, 3, 280) := m_at_of r_Law_passDay (by decide +kernel)
theorem i_Law_passDay_111 : m_at k_Law_passDay 111 = some (.goto (4), 3, 0) := m_at_of r_Law_passDay (by decide +kernel)
theorem i_Law_passDay_114 : m_at k_Law_passDay 114 = some (.iconst 0, 1, 0) := m_at_of r_Law_passDay (by decide +kernel)
theorem i_Law_passDay_115 : m_at k_Law_passDay 115 = some (.istore 8, 2, 0) := m_at_of r_Law_passDay (by decide +kernel)
theorem i_Law_passDay_117 : m_at k_Law_passDay 117 = some (.iload 8, 2, 0) := m_at_of r_Law_passDay (by decide +kernel)
theorem i_Law_passDay_119 : m_at k_Law_passDay 119 = some (.ifCond .le (31), 3, 0) := m_at_of r_Law_passDay (by decide +kernel)
theorem i_Law_passDay_122 : m_at k_Law_passDay 122 = some (.aload_n 1, 1, 0) := m_at_of r_Law_passDay (by decide +kernel)
theorem i_Law_passDay_123 : m_at k_Law_passDay 123 = some (.bipush 8, 2, 0) := m_at_of r_Law_passDay (by decide +kernel)
theorem i_Law_passDay_125 : m_at k_Law_passDay 125 = some (.iload 4, 2, 0) := m_at_of r_Law_passDay (by decide +kernel)
theorem i_Law_passDay_127 : m_at k_Law_passDay 127 = some (.iload 6, 2, 0) := m_at_of r_Law_passDay (by decide +kernel)
theorem i_Law_passDay_129 : m_at k_Law_passDay 129 = some (.iload 8, 2, 0) := m_at_of r_Law_passDay (by decide +kernel)
theorem i_Law_passDay_131 : m_at k_Law_passDay 131 = some (.isub, 1, 0) := m_at_of r_Law_passDay (by decide +kernel)
theorem i_Law_passDay_132 : m_at k_Law_passDay 132 = some (.invokevirtual 56, 3, 281) := m_at_of r_Law_passDay (by decide +kernel)
theorem i_Law_passDay_135 : m_at k_Law_passDay 135 = some (.aload_n 1, 1, 0) := m_at_of r_Law_passDay (by decide +kernel)
theorem i_Law_passDay_136 : m_at k_Law_passDay 136 = some (.iload 4, 2, 0) := m_at_of r_Law_passDay (by decide +kernel)
theorem i_Law_passDay_138 : m_at k_Law_passDay 138 = some (.iload 8, 2, 0) := m_at_of r_Law_passDay (by decide +kernel)
theorem i_Law_passDay_140 : m_at k_Law_passDay 140 = some (.invokevirtual 63, 3, 283) := m_at_of r_Law_passDay (by decide +kernel)
theorem i_Law_passDay_143 : m_at k_Law_passDay 143 = some (.iload_n 3, 1, 0) := m_at_of r_Law_passDay (by decide +kernel)
theorem i_Law_passDay_144 : m_at k_Law_passDay 144 = some (.iconst 1, 1, 0) := m_at_of r_Law_passDay (by decide +kernel)
theorem i_Law_passDay_145 : m_at k_Law_passDay 145 = some (.iload 4, 2, 0) := m_at_of r_Law_passDay (by decide +kernel)
theorem i_Law_passDay_147 : m_at k_Law_passDay 147 = some (.ishl, 1, 0) := m_at_of r_Law_passDay (by decide +kernel)
theorem i_Law_passDay_148 : m_at k_Law_passDay 148 = some (.ior, 1, 0) := m_at_of r_Law_passDay (by decide +kernel)
theorem i_Law_passDay_149 : m_at k_Law_passDay 149 = some (.istore_n 3, 1, 0) := m_at_of r_Law_passDay (by decide +kernel)
theorem i_Law_passDay_150 : m_at k_Law_passDay 150 = some (.iinc 4 (1), 3, 0) := m_at_of r_Law_passDay (by decide +kernel)
theorem i_Law_passDay_153 : m_at k_Law_passDay 153 = some (.goto (-139), 3, 0) := m_at_of r_Law_passDay (by decide +kernel)
theorem i_Law_passDay_156 : m_at k_Law_passDay 156 = some (.iconst 0, 1, 0) := m_at_of r_Law_passDay (by decide +kernel)
theorem i_Law_passDay_157 : m_at k_Law_passDay 157 = some (.istore 4, 2, 0) := m_at_of r_Law_passDay (by decide +kernel)
theorem i_Law_passDay_159 : m_at k_Law_passDay 159 = some (.iload 4, 2, 0) := m_at_of r_Law_passDay (by decide +kernel)
theorem i_Law_passDay_161 : m_at k_Law_passDay 161 = some (.aload_n 1, 1, 0) := m_at_of r_Law_passDay (by decide +kernel)
theorem i_Law_passDay_162 : m_at k_Law_passDay 162 = some (.getfield 46, 3, 83) := m_at_of r_Law_passDay (by decide +kernel)
theorem i_Law_passDay_165 : m_at k_Law_passDay 165 = some (.bipush 25, 2, 0) := m_at_of r_Law_passDay (by decide +kernel)
theorem i_Law_passDay_167 : m_at k_Law_passDay 167 = some (.iaload, 1, 0) := m_at_of r_Law_passDay (by decide +kernel)
theorem i_Law_passDay_168 : m_at k_Law_passDay 168 = some (.if_icmp .ge (68), 3, 0) := m_at_of r_Law_passDay (by decide +kernel)
theorem i_Law_passDay_171 : m_at k_Law_passDay 171 = some (.aload_n 1, 1, 0) := m_at_of r_Law_passDay (by decide +kernel)
theorem i_Law_passDay_172 : m_at k_Law_passDay 172 = some (.getfield 46, 3, 83) := m_at_of r_Law_passDay (by decide +kernel)
theorem i_Law_passDay_175 : m_at k_Law_passDay 175 = some (.bipush 22, 2, 0) := m_at_of r_Law_passDay (by decide +kernel)
theorem i_Law_passDay_177 : m_at k_Law_passDay 177 = some (.iaload, 1, 0) := m_at_of r_Law_passDay (by decide +kernel)
theorem i_Law_passDay_178 : m_at k_Law_passDay 178 = some (.bipush 7, 2, 0) := m_at_of r_Law_passDay (by decide +kernel)
theorem i_Law_passDay_180 : m_at k_Law_passDay 180 = some (.irem, 1, 0) := m_at_of r_Law_passDay (by decide +kernel)
theorem i_Law_passDay_181 : m_at k_Law_passDay 181 = some (.bipush 6, 2, 0) := m_at_of r_Law_passDay (by decide +kernel)
theorem i_Law_passDay_183 : m_at k_Law_passDay 183 = some (.if_icmp .ne (53), 3, 0) := m_at_of r_Law_passDay (by decide +kernel)
theorem i_Law_passDay_186 : m_at k_Law_passDay 186 = some (.aload_n 1, 1, 0) := m_at_of r_Law_passDay (by decide +kernel)
theorem i_Law_passDay_187 : m_at k_Law_passDay 187 = some (.iload 4, 2, 0) := m_at_of r_Law_passDay (by decide +kernel)
theorem i_Law_passDay_189 : m_at k_Law_passDay 189 = some (.invokevirtual 67, 3, 284) := m_at_of r_Law_passDay (by decide +kernel)
theorem i_Law_passDay_192 : m_at k_Law_passDay 192 = some (.ifCond .eq (38), 3, 0) := m_at_of r_Law_passDay (by decide +kernel)
theorem i_Law_passDay_195 : m_at k_Law_passDay 195 = some (.aload_n 1, 1, 0) := m_at_of r_Law_passDay (by decide +kernel)
theorem i_Law_passDay_196 : m_at k_Law_passDay 196 = some (.bipush 51, 2, 0) := m_at_of r_Law_passDay (by decide +kernel)
theorem i_Law_passDay_198 : m_at k_Law_passDay 198 = some (.iload 4, 2, 0) := m_at_of r_Law_passDay (by decide +kernel)
theorem i_Law_passDay_200 : m_at k_Law_passDay 200 = some (.invokevirtual 49, 3, 278) := m_at_of r_Law_passDay (by decide +kernel)
theorem i_Law_passDay_203 : m_at k_Law_passDay 203 = some (.aload_n 0, 1, 0) := m_at_of r_Law_passDay (by decide +kernel)
theorem i_Law_passDay_204 : m_at k_Law_passDay 204 = some (.iconst 2, 1, 0) := m_at_of r_Law_passDay (by decide +kernel)
theorem i_Law_passDay_205 : m_at k_Law_passDay 205 = some (.aload_n 2, 1, 0) := m_at_of r_Law_passDay (by decide +kernel)
theorem i_Law_passDay_206 : m_at k_Law_passDay 206 = some (.aload_n 1, 1, 0) := m_at_of r_Law_passDay (by decide +kernel)
theorem i_Law_passDay_207 : m_at k_Law_passDay 207 = some (.iload 4, 2, 0) := m_at_of r_Law_passDay (by decide +kernel)
theorem i_Law_passDay_209 : m_at k_Law_passDay 209 = some (.invokevirtual 52, 3, 279) := m_at_of r_Law_passDay (by decide +kernel)
theorem i_Law_passDay_212 : m_at k_Law_passDay 212 = some (.iadd, 1, 0) := m_at_of r_Law_passDay (by decide +kernel)
theorem i_Law_passDay_213 : m_at k_Law_passDay 213 = some (.istore 5, 2, 0) := m_at_of r_Law_passDay (by decide +kernel)
theorem i_Law_passDay_215 : m_at k_Law_passDay 215 = some (.aload_n 1, 1, 0) := m_at_of r_Law_passDay (by decide +kernel)
theorem i_Law_passDay_216 : m_at k_Law_passDay 216 = some (.bipush 51, 2, 0) := m_at_of r_Law_passDay (by decide +kernel)
theorem i_Law_passDay_218 : m_at k_Law_passDay 218 = some (.iload 4, 2, 0) := m_at_of r_Law_passDay (by decide +kernel)
theorem i_Law_passDay_220 : m_at k_Law_passDay 220 = some (.iload 5, 2, 0) := m_at_of r_Law_passDay (by decide +kernel)
theorem i_Law_passDay_222 : m_at k_Law_passDay 222 = some (.bipush 99, 2, 0) := m_at_of r_Law_passDay (by decide +kernel)
theorem i_Law_passDay_224 : m_at k_Law_passDay 224 = some (.invokestatic 31, 3, 280) := m_at_of r_Law_passDay (by decide +kernel)
theorem i_Law_passDay_227 : m_at k_Law_passDay 227 = some (.invokevirtual 56, 3, 281) := m_at_of r_Law_passDay (by decide +kernel)
theorem i_Law_passDay_230 : m_at k_Law_passDay 230 = some (.iinc 4 (1), 3, 0) := m_at_of r_Law_passDay (by decide +kernel)
theorem i_Law_passDay_233 : m_at k_Law_passDay 233 = some (.goto (-74), 3, 0) := m_at_of r_Law_passDay (by decide +kernel)
theorem i_Law_passDay_236 : m_at k_Law_passDay 236 = some (.aload_n 1, 1, 0) := m_at_of r_Law_passDay (by decide +kernel)
theorem i_Law_passDay_237 : m_at k_Law_passDay 237 = some (.getfield 46, 3, 83) := m_at_of r_Law_passDay (by decide +kernel)
theorem i_Law_passDay_240 : m_at k_Law_passDay 240 = some (.bipush 22, 2, 0) := m_at_of r_Law_passDay (by decide +kernel)
theorem i_Law_passDay_242 : m_at k_Law_passDay 242 = some (.dup2, 1, 0) := m_at_of r_Law_passDay (by decide +kernel)
theorem i_Law_passDay_243 : m_at k_Law_passDay 243 = some (.iaload, 1, 0) := m_at_of r_Law_passDay (by decide +kernel)
theorem i_Law_passDay_244 : m_at k_Law_passDay 244 = some (.iconst 1, 1, 0) := m_at_of r_Law_passDay (by decide +kernel)
theorem i_Law_passDay_245 : m_at k_Law_passDay 245 = some (.iadd, 1, 0) := m_at_of r_Law_passDay (by decide +kernel)
theorem i_Law_passDay_246 : m_at k_Law_passDay 246 = some (.iastore, 1, 0) := m_at_of r_Law_passDay (by decide +kernel)
theorem i_Law_passDay_247 : m_at k_Law_passDay 247 = some (.aload_n 1, 1, 0) := m_at_of r_Law_passDay (by decide +kernel)
theorem i_Law_passDay_248 : m_at k_Law_passDay 248 = some (.getfield 46, 3, 83) := m_at_of r_Law_passDay (by decide +kernel)
theorem i_Law_passDay_251 : m_at k_Law_passDay 251 = some (.bipush 23, 2, 0) := m_at_of r_Law_passDay (by decide +kernel)
theorem i_Law_passDay_253 : m_at k_Law_passDay 253 = some (.aload_n 1, 1, 0) := m_at_of r_Law_passDay (by decide +kernel)
theorem i_Law_passDay_254 : m_at k_Law_passDay 254 = some (.invokevirtual 71, 3, 285) := m_at_of r_Law_passDay (by decide +kernel)
theorem i_Law_passDay_257 : m_at k_Law_passDay 257 = some (.bipush 10, 2, 0) := m_at_of r_Law_passDay (by decide +kernel)
theorem i_Law_passDay_259 : m_at k_Law_passDay 259 = some (.irem, 1, 0) := m_at_of r_Law_passDay (by decide +kernel)
theorem i_Law_passDay_260 : m_at k_Law_passDay 260 = some (.iastore, 1, 0) := m_at_of r_Law_passDay (by decide +kernel)
theorem i_Law_passDay_261 : m_at k_Law_passDay 261 = some (.iload_n 3, 1, 0) := m_at_of r_Law_passDay (by decide +kernel)
theorem i_Law_passDay_262 : m_at k_Law_passDay 262 = some (.ireturn, 1, 0) := m_at_of r_Law_passDay (by decide +kernel)
set_option maxRecDepth 20000 in
set_option maxHeartbeats 1000000 in
theorem E_Law_passDay (x : m_X) (s : m_H) (w : Nat) (r1 : Nat) (r2 : Nat) : m_M x k_Law_passDay [.ref w, .ref r1, .ref r2] s = if m_isO s w 1 = true then (m_bI (m_M x k_World_dayCanPass [.ref r1] s) fun v1 s1 => if v1 = 0 then (some (some (.int (-1)), s1)) else m_D x 6 k_Law_passDay 14 [some (.ref w), some (.ref r1), some (.ref r2), some (.int 0), some (.int 0), none, none, none, none] [] s1) else none := by
  refine e_M1 (L0 := [some (.ref w), some (.ref r1), some (.ref r2), none, none, none, none, none, none]) rfl (by decide +kernel) rfl (q_Law_passDay _) rfl ?_
  refine e_aload_n i_Law_passDay_0 rfl ?_
  refine e_callI (as := [.ref r1]) (st' := []) i_Law_passDay_1 lm_277 (Or.inr (Or.inl ⟨rfl, rfl⟩)) w_World_dayCanPass rfl rfl rfl (Nat.le_of_ble_eq_true rfl) (Nat.le_of_ble_eq_true rfl) (m_rlt (q_World_dayCanPass _) (by decide)) rfl (fun v1 s1 => ?_)
  refine e_ifne (t := 9) i_Law_passDay_4 (by decide) ?_ ?_
  · refine e_iconst (v := 0) i_Law_passDay_9 (by decide) ?_
    refine e_istore_n (L' := [some (.ref w), some (.ref r1), some (.ref r2), some (.int 0), none, none, none, none, none]) i_Law_passDay_10 (of_decide_eq_true rfl) rfl ?_
    refine e_iconst (v := 0) i_Law_passDay_11 (by decide) ?_
    refine e_istore (L' := [some (.ref w), some (.ref r1), some (.ref r2), some (.int 0), some (.int 0), none, none, none, none]) i_Law_passDay_12 (of_decide_eq_true rfl) rfl ?_
    exact rfl
  · refine e_iconst (v := (-1)) i_Law_passDay_7 (by decide) ?_
    exact e_iretI i_Law_passDay_8 rfl
set_option maxRecDepth 20000 in
set_option maxHeartbeats 1000000 in
theorem E_Law_passDay_14 (x : m_X) (ρ : Nat) (hρ : 6 ≤ ρ) (s : m_H) (w : Nat) (r1 : Nat) (r2 : Nat) (n3 : Int32) (n4 : Int32) (d5 : Option Value) (d6 : Option Value) (d7 : Option Value) (d8 : Option Value) (hd5 : m_nl d5 = true) (hd6 : m_nl d6 = true) (hd7 : m_nl d7 = true) (hd8 : m_nl d8 = true) : m_D x ρ k_Law_passDay 14 [some (.ref w), some (.ref r1), some (.ref r2), some (.int n3), some (.int n4), d5, d6, d7, d8] [] s = (m_fR s 9 0 r1).bind fun v17 => (m_ia x s v17 0).bind fun v21 => if v21 ≤ n4 then (m_D x ρ k_Law_passDay 159 [some (.ref w), some (.ref r1), some (.ref r2), some (.int n3), some (.int 0), d5, d6, d7, d8] [] s) else m_bI (m_M x k_World_at [.ref r1, .int 15, .int n4] s) fun v30 s30 => m_bI (m_M x k_Law_amount [.ref w, .int 0, .ref r2, .ref r1, .int n4] s30) fun v39 s39 => m_bI (m_M x k_Math_min_II [.int (v30 + v39), .int 9999] s39) fun v55 s55 => m_bV (m_M x k_World_change [.ref r1, .int 15, .int n4, .int v55] s55) fun s58 => m_bI (m_M x k_World_at [.ref r1, .int 8, .int n4] s58) fun v66 s66 => if v66 ≤ 0 then (m_D x ρ k_Law_passDay 115 [some (.ref w), some (.ref r1), some (.ref r2), some (.int n3), some (.int n4), some (.int (v30 + v39)), some (.int v66), some (.int 0), d8] [.int 0] s66) else m_bI (m_M x k_World_rightsOf [.ref r1, .int n4] s66) fun v79 s79 => if v79 ≤ 0 then (m_D x ρ k_Law_passDay 115 [some (.ref w), some (.ref r1), some (.ref r2), some (.int n3), some (.int n4), some (.int (v30 + v39)), some (.int v66), some (.int 0), d8] [.int 0] s79) else m_bI (m_M x k_Law_amount [.ref w, .int 1, .ref r2, .ref r1, .int n4] s79) fun v105 s105 => m_bI (m_M x k_Math_min_II [.int v66, .int v105] s105) fun v108 s108 => m_D x ρ k_Law_passDay 115 [some (.ref w), some (.ref r1), some (.ref r2), some (.int n3), some (.int n4), some (.int (v30 + v39)), some (.int v66), some (.int 1), d8] [.int v108] s108 := by
  refine e_iload i_Law_passDay_14 rfl ?_
  refine e_aload_n i_Law_passDay_16 rfl ?_
  refine e_getR i_Law_passDay_17 lf_83 (by decide) ft_9_0 (fun v17 => ?_)
  refine e_iconst (v := 0) i_Law_passDay_20 (by decide) ?_
  refine e_iald i_Law_passDay_21 (fun v21 => ?_)
  refine e_icmpge (t := 156) i_Law_passDay_22 (by decide) ?_ ?_
  · refine e_iconst (v := 0) i_Law_passDay_156 (by decide) ?_
    refine e_istore (L' := [some (.ref w), some (.ref r1), some (.ref r2), some (.int n3), some (.int 0), d5, d6, d7, d8]) i_Law_passDay_157 (of_decide_eq_true rfl) rfl ?_
    exact rfl
  · refine e_aload_n i_Law_passDay_25 rfl ?_
    refine e_bipush (v := 15) i_Law_passDay_26 (by decide) ?_
    refine e_iload i_Law_passDay_28 rfl ?_
    refine e_callI (as := [.ref r1, .int 15, .int n4]) (st' := []) i_Law_passDay_30 lm_278 (Or.inr (Or.inl ⟨rfl, rfl⟩)) w_World_at rfl rfl rfl (Nat.le_of_ble_eq_true rfl) (Nat.le_of_ble_eq_true rfl) (m_rlt (q_World_at _) (Nat.lt_of_lt_of_le (by decide) hρ)) rfl (fun v30 s30 => ?_)
    refine e_aload_n i_Law_passDay_33 rfl ?_
    refine e_iconst (v := 0) i_Law_passDay_34 (by decide) ?_
    refine e_aload_n i_Law_passDay_35 rfl ?_
    refine e_aload_n i_Law_passDay_36 rfl ?_
    refine e_iload i_Law_passDay_37 rfl ?_
    refine e_callI (as := [.ref w, .int 0, .ref r2, .ref r1, .int n4]) (st' := [.int v30]) i_Law_passDay_39 lm_279 (Or.inr (Or.inl ⟨rfl, rfl⟩)) w_Law_amount rfl rfl rfl (Nat.le_of_ble_eq_true rfl) (Nat.le_of_ble_eq_true rfl) (m_rlt (q_Law_amount _) (Nat.lt_of_lt_of_le (by decide) hρ)) rfl (fun v39 s39 => ?_)
    refine e_iadd i_Law_passDay_42 ?_
    refine e_istore (L' := [some (.ref w), some (.ref r1), some (.ref r2), some (.int n3), some (.int n4), some (.int (v30 + v39)), d6, d7, d8]) i_Law_passDay_43 (of_decide_eq_true rfl) rfl ?_
    refine e_aload_n i_Law_passDay_45 rfl ?_
    refine e_bipush (v := 15) i_Law_passDay_46 (by decide) ?_
    refine e_iload i_Law_passDay_48 rfl ?_
    refine e_iload i_Law_passDay_50 rfl ?_
    refine e_sipush (v := 9999) i_Law_passDay_52 (by decide) ?_
    refine e_callI (as := [.int (v30 + v39), .int 9999]) (st' := [.int n4, .int 15, .ref r1]) i_Law_passDay_55 lm_280 (Or.inl ⟨rfl, rfl⟩) w_Math_min_II rfl rfl rfl (Nat.le_of_ble_eq_true rfl) (Nat.le_of_ble_eq_true rfl) (m_rlt (q_Math_min_II _) (Nat.lt_of_lt_of_le (by decide) hρ)) rfl (fun v55 s55 => ?_)
    refine e_callV (as := [.ref r1, .int 15, .int n4, .int v55]) (st' := []) i_Law_passDay_58 lm_281 (Or.inr (Or.inl ⟨rfl, rfl⟩)) w_World_change rfl rfl rfl (Nat.le_of_ble_eq_true rfl) (Nat.le_of_ble_eq_true rfl) (m_rlt (q_World_change _) (Nat.lt_of_lt_of_le (by decide) hρ)) rfl (fun s58 => ?_)
    refine e_aload_n i_Law_passDay_61 rfl ?_
    refine e_bipush (v := 8) i_Law_passDay_62 (by decide) ?_
    refine e_iload i_Law_passDay_64 rfl ?_
    refine e_callI (as := [.ref r1, .int 8, .int n4]) (st' := []) i_Law_passDay_66 lm_278 (Or.inr (Or.inl ⟨rfl, rfl⟩)) w_World_at rfl rfl rfl (Nat.le_of_ble_eq_true rfl) (Nat.le_of_ble_eq_true rfl) (m_rlt (q_World_at _) (Nat.lt_of_lt_of_le (by decide) hρ)) rfl (fun v66 s66 => ?_)
    refine e_istore (L' := [some (.ref w), some (.ref r1), some (.ref r2), some (.int n3), some (.int n4), some (.int (v30 + v39)), some (.int v66), d7, d8]) i_Law_passDay_69 (of_decide_eq_true rfl) rfl ?_
    refine e_iload i_Law_passDay_71 rfl ?_
    refine e_ifle (t := 89) i_Law_passDay_73 (by decide) ?_ ?_
    · refine e_iconst (v := 0) i_Law_passDay_89 (by decide) ?_
      refine e_istore (L' := [some (.ref w), some (.ref r1), some (.ref r2), some (.int n3), some (.int n4), some (.int (v30 + v39)), some (.int v66), some (.int 0), d8]) i_Law_passDay_90 (of_decide_eq_true rfl) rfl ?_
      refine e_iload i_Law_passDay_92 rfl ?_
      refine e_ifT (t := 114) i_Law_passDay_94 (by decide) (by decide) ?_
      refine e_iconst (v := 0) i_Law_passDay_114 (by decide) ?_
      exact rfl
    · refine e_aload_n i_Law_passDay_76 rfl ?_
      refine e_iload i_Law_passDay_77 rfl ?_
      refine e_callI (as := [.ref r1, .int n4]) (st' := []) i_Law_passDay_79 lm_282 (Or.inr (Or.inl ⟨rfl, rfl⟩)) w_World_rightsOf rfl rfl rfl (Nat.le_of_ble_eq_true rfl) (Nat.le_of_ble_eq_true rfl) (m_rlt (q_World_rightsOf _) (Nat.lt_of_lt_of_le (by decide) hρ)) rfl (fun v79 s79 => ?_)
      refine e_ifle (t := 89) i_Law_passDay_82 (by decide) ?_ ?_
      · refine e_iconst (v := 0) i_Law_passDay_89 (by decide) ?_
        refine e_istore (L' := [some (.ref w), some (.ref r1), some (.ref r2), some (.int n3), some (.int n4), some (.int (v30 + v39)), some (.int v66), some (.int 0), d8]) i_Law_passDay_90 (of_decide_eq_true rfl) rfl ?_
        refine e_iload i_Law_passDay_92 rfl ?_
        refine e_ifT (t := 114) i_Law_passDay_94 (by decide) (by decide) ?_
        refine e_iconst (v := 0) i_Law_passDay_114 (by decide) ?_
        exact rfl
      · refine e_iconst (v := 1) i_Law_passDay_85 (by decide) ?_
        refine e_goto (t := 90) i_Law_passDay_86 (by decide) ?_
        refine e_istore (L' := [some (.ref w), some (.ref r1), some (.ref r2), some (.int n3), some (.int n4), some (.int (v30 + v39)), some (.int v66), some (.int 1), d8]) i_Law_passDay_90 (of_decide_eq_true rfl) rfl ?_
        refine e_iload i_Law_passDay_92 rfl ?_
        refine e_ifF i_Law_passDay_94 (by decide) ?_
        refine e_iload i_Law_passDay_97 rfl ?_
        refine e_aload_n i_Law_passDay_99 rfl ?_
        refine e_iconst (v := 1) i_Law_passDay_100 (by decide) ?_
        refine e_aload_n i_Law_passDay_101 rfl ?_
        refine e_aload_n i_Law_passDay_102 rfl ?_
        refine e_iload i_Law_passDay_103 rfl ?_
        refine e_callI (as := [.ref w, .int 1, .ref r2, .ref r1, .int n4]) (st' := [.int v66]) i_Law_passDay_105 lm_279 (Or.inr (Or.inl ⟨rfl, rfl⟩)) w_Law_amount rfl rfl rfl (Nat.le_of_ble_eq_true rfl) (Nat.le_of_ble_eq_true rfl) (m_rlt (q_Law_amount _) (Nat.lt_of_lt_of_le (by decide) hρ)) rfl (fun v105 s105 => ?_)
        refine e_callI (as := [.int v66, .int v105]) (st' := []) i_Law_passDay_108 lm_280 (Or.inl ⟨rfl, rfl⟩) w_Math_min_II rfl rfl rfl (Nat.le_of_ble_eq_true rfl) (Nat.le_of_ble_eq_true rfl) (m_rlt (q_Math_min_II _) (Nat.lt_of_lt_of_le (by decide) hρ)) rfl (fun v108 s108 => ?_)
        refine e_goto (t := 115) i_Law_passDay_111 (by decide) ?_
        exact rfl
set_option maxRecDepth 20000 in
set_option maxHeartbeats 1000000 in
theorem E_Law_passDay_115 (x : m_X) (ρ : Nat) (hρ : 6 ≤ ρ) (s : m_H) (w : Nat) (r1 : Nat) (r2 : Nat) (n3 : Int32) (n4 : Int32) (n5 : Int32) (n6 : Int32) (n7 : Int32) (d8 : Option Value) (nt0 : Int32) (hd8 : m_nl d8 = true) : m_D x ρ k_Law_passDay 115 [some (.ref w), some (.ref r1), some (.ref r2), some (.int n3), some (.int n4), some (.int n5), some (.int n6), some (.int n7), d8] [.int nt0] s = if nt0 ≤ 0 then (m_D x ρ k_Law_passDay 14 [some (.ref w), some (.ref r1), some (.ref r2), some (.int n3), some (.int (n4 + (1 : Int32))), some (.int n5), some (.int n6), some (.int n7), some (.int nt0)] [] s) else m_bV (m_M x k_World_change [.ref r1, .int 8, .int n4, .int (n6 - nt0)] s) fun s132 => m_bV (m_M x k_World_writeFine [.ref r1, .int n4, .int nt0] s132) fun s140 => m_D x ρ k_Law_passDay 14 [some (.ref w), some (.ref r1), some (.ref r2), some (.int (n3 ||| ((1 : Int32) <<< (n4 &&& (31 : Int32))))), some (.int (n4 + (1 : Int32))), some (.int n5), some (.int n6), some (.int n7), some (.int nt0)] [] s140 := by
  refine e_istore (L' := [some (.ref w), some (.ref r1), some (.ref r2), some (.int n3), some (.int n4), some (.int n5), some (.int n6), some (.int n7), some (.int nt0)]) i_Law_passDay_115 (of_decide_eq_true rfl) rfl ?_
  refine e_iload i_Law_passDay_117 rfl ?_
  refine e_ifle (t := 150) i_Law_passDay_119 (by decide) ?_ ?_
  · refine e_iinc (w := 1) (L' := [some (.ref w), some (.ref r1), some (.ref r2), some (.int n3), some (.int (n4 + (1 : Int32))), some (.int n5), some (.int n6), some (.int n7), some (.int nt0)]) i_Law_passDay_150 rfl (of_decide_eq_true rfl) (by decide) rfl ?_
    refine e_goto (t := 14) i_Law_passDay_153 (by decide) ?_
    exact rfl
  · refine e_aload_n i_Law_passDay_122 rfl ?_
    refine e_bipush (v := 8) i_Law_passDay_123 (by decide) ?_
    refine e_iload i_Law_passDay_125 rfl ?_
    refine e_iload i_Law_passDay_127 rfl ?_
    refine e_iload i_Law_passDay_129 rfl ?_
    refine e_isub i_Law_passDay_131 ?_
    refine e_callV (as := [.ref r1, .int 8, .int n4, .int (n6 - nt0)]) (st' := []) i_Law_passDay_132 lm_281 (Or.inr (Or.inl ⟨rfl, rfl⟩)) w_World_change rfl rfl rfl (Nat.le_of_ble_eq_true rfl) (Nat.le_of_ble_eq_true rfl) (m_rlt (q_World_change _) (Nat.lt_of_lt_of_le (by decide) hρ)) rfl (fun s132 => ?_)
    refine e_aload_n i_Law_passDay_135 rfl ?_
    refine e_iload i_Law_passDay_136 rfl ?_
    refine e_iload i_Law_passDay_138 rfl ?_
    refine e_callV (as := [.ref r1, .int n4, .int nt0]) (st' := []) i_Law_passDay_140 lm_283 (Or.inr (Or.inl ⟨rfl, rfl⟩)) w_World_writeFine rfl rfl rfl (Nat.le_of_ble_eq_true rfl) (Nat.le_of_ble_eq_true rfl) (m_rlt (q_World_writeFine _) (Nat.lt_of_lt_of_le (by decide) hρ)) rfl (fun s140 => ?_)
    refine e_iload_n i_Law_passDay_143 rfl ?_
    refine e_iconst (v := 1) i_Law_passDay_144 (by decide) ?_
    refine e_iload i_Law_passDay_145 rfl ?_
    refine e_ishl i_Law_passDay_147 ?_
    refine e_ior i_Law_passDay_148 ?_
    refine e_istore_n (L' := [some (.ref w), some (.ref r1), some (.ref r2), some (.int (n3 ||| ((1 : Int32) <<< (n4 &&& (31 : Int32))))), some (.int n4), some (.int n5), some (.int n6), some (.int n7), some (.int nt0)]) i_Law_passDay_149 (of_decide_eq_true rfl) rfl ?_
    refine e_iinc (w := 1) (L' := [some (.ref w), some (.ref r1), some (.ref r2), some (.int (n3 ||| ((1 : Int32) <<< (n4 &&& (31 : Int32))))), some (.int (n4 + (1 : Int32))), some (.int n5), some (.int n6), some (.int n7), some (.int nt0)]) i_Law_passDay_150 rfl (of_decide_eq_true rfl) (by decide) rfl ?_
    refine e_goto (t := 14) i_Law_passDay_153 (by decide) ?_
    exact rfl
set_option maxRecDepth 20000 in
set_option maxHeartbeats 1000000 in
theorem E_Law_passDay_159 (x : m_X) (ρ : Nat) (hρ : 6 ≤ ρ) (s : m_H) (w : Nat) (r1 : Nat) (r2 : Nat) (n3 : Int32) (n4 : Int32) (d5 : Option Value) (d6 : Option Value) (d7 : Option Value) (d8 : Option Value) (hd5 : m_nl d5 = true) (hd6 : m_nl d6 = true) (hd7 : m_nl d7 = true) (hd8 : m_nl d8 = true) : m_D x ρ k_Law_passDay 159 [some (.ref w), some (.ref r1), some (.ref r2), some (.int n3), some (.int n4), d5, d6, d7, d8] [] s = (m_fR s 9 0 r1).bind fun v162 => (m_ia x s v162 25).bind fun v167 => if v167 ≤ n4 then (m_D x ρ k_Law_passDay 236 [some (.ref w), some (.ref r1), some (.ref r2), some (.int n3), some (.int n4), d5, d6, d7, d8] [] s) else (m_fR s 9 0 r1).bind fun v172 => (m_ia x s v172 22).bind fun v177 => if (v177 - v177 / (7 : Int32) * (7 : Int32)) = 6 then (m_bI (m_M x k_World_isOpen [.ref r1, .int n4] s) fun v189 s189 => if v189 = 0 then (m_D x ρ k_Law_passDay 159 [some (.ref w), some (.ref r1), some (.ref r2), some (.int n3), some (.int (n4 + (1 : Int32))), d5, d6, d7, d8] [] s189) else m_bI (m_M x k_World_at [.ref r1, .int 51, .int n4] s189) fun v200 s200 => m_bI (m_M x k_Law_amount [.ref w, .int 2, .ref r2, .ref r1, .int n4] s200) fun v209 s209 => m_bI (m_M x k_Math_min_II [.int (v200 + v209), .int 99] s209) fun v224 s224 => m_bV (m_M x k_World_change [.ref r1, .int 51, .int n4, .int v224] s224) fun s227 => m_D x ρ k_Law_passDay 159 [some (.ref w), some (.ref r1), some (.ref r2), some (.int n3), some (.int (n4 + (1 : Int32))), some (.int (v200 + v209)), d6, d7, d8] [] s227) else m_D x ρ k_Law_passDay 236 [some (.ref w), some (.ref r1), some (.ref r2), some (.int n3), some (.int n4), d5, d6, d7, d8] [] s := by
  refine e_iload i_Law_passDay_159 rfl ?_
  refine e_aload_n i_Law_passDay_161 rfl ?_
  refine e_getR i_Law_passDay_162 lf_83 (by decide) ft_9_0 (fun v162 => ?_)
  refine e_bipush (v := 25) i_Law_passDay_165 (by decide) ?_
  refine e_iald i_Law_passDay_167 (fun v167 => ?_)
  refine e_icmpge (t := 236) i_Law_passDay_168 (by decide) ?_ ?_
  · exact rfl
  · refine e_aload_n i_Law_passDay_171 rfl ?_
    refine e_getR i_Law_passDay_172 lf_83 (by decide) ft_9_0 (fun v172 => ?_)
    refine e_bipush (v := 22) i_Law_passDay_175 (by decide) ?_
    refine e_iald i_Law_passDay_177 (fun v177 => ?_)
    refine e_bipush (v := 7) i_Law_passDay_178 (by decide) ?_
    refine e_iremc i_Law_passDay_180 (by decide) ?_
    refine e_bipush (v := 6) i_Law_passDay_181 (by decide) ?_
    refine e_icmpne (t := 236) i_Law_passDay_183 (by decide) ?_ ?_
    · exact rfl
    · refine e_aload_n i_Law_passDay_186 rfl ?_
      refine e_iload i_Law_passDay_187 rfl ?_
      refine e_callI (as := [.ref r1, .int n4]) (st' := []) i_Law_passDay_189 lm_284 (Or.inr (Or.inl ⟨rfl, rfl⟩)) w_World_isOpen rfl rfl rfl (Nat.le_of_ble_eq_true rfl) (Nat.le_of_ble_eq_true rfl) (m_rlt (q_World_isOpen _) (Nat.lt_of_lt_of_le (by decide) hρ)) rfl (fun v189 s189 => ?_)
      refine e_ifeq (t := 230) i_Law_passDay_192 (by decide) ?_ ?_
      · refine e_iinc (w := 1) (L' := [some (.ref w), some (.ref r1), some (.ref r2), some (.int n3), some (.int (n4 + (1 : Int32))), d5, d6, d7, d8]) i_Law_passDay_230 rfl (of_decide_eq_true rfl) (by decide) rfl ?_
        refine e_goto (t := 159) i_Law_passDay_233 (by decide) ?_
        exact rfl
      · refine e_aload_n i_Law_passDay_195 rfl ?_
        refine e_bipush (v := 51) i_Law_passDay_196 (by decide) ?_
        refine e_iload i_Law_passDay_198 rfl ?_
        refine e_callI (as := [.ref r1, .int 51, .int n4]) (st' := []) i_Law_passDay_200 lm_278 (Or.inr (Or.inl ⟨rfl, rfl⟩)) w_World_at rfl rfl rfl (Nat.le_of_ble_eq_true rfl) (Nat.le_of_ble_eq_true rfl) (m_rlt (q_World_at _) (Nat.lt_of_lt_of_le (by decide) hρ)) rfl (fun v200 s200 => ?_)
        refine e_aload_n i_Law_passDay_203 rfl ?_
        refine e_iconst (v := 2) i_Law_passDay_204 (by decide) ?_
        refine e_aload_n i_Law_passDay_205 rfl ?_
        refine e_aload_n i_Law_passDay_206 rfl ?_
        refine e_iload i_Law_passDay_207 rfl ?_
        refine e_callI (as := [.ref w, .int 2, .ref r2, .ref r1, .int n4]) (st' := [.int v200]) i_Law_passDay_209 lm_279 (Or.inr (Or.inl ⟨rfl, rfl⟩)) w_Law_amount rfl rfl rfl (Nat.le_of_ble_eq_true rfl) (Nat.le_of_ble_eq_true rfl) (m_rlt (q_Law_amount _) (Nat.lt_of_lt_of_le (by decide) hρ)) rfl (fun v209 s209 => ?_)
        refine e_iadd i_Law_passDay_212 ?_
        refine e_istore (L' := [some (.ref w), some (.ref r1), some (.ref r2), some (.int n3), some (.int n4), some (.int (v200 + v209)), d6, d7, d8]) i_Law_passDay_213 (of_decide_eq_true rfl) rfl ?_
        refine e_aload_n i_Law_passDay_215 rfl ?_
        refine e_bipush (v := 51) i_Law_passDay_216 (by decide) ?_
        refine e_iload i_Law_passDay_218 rfl ?_
        refine e_iload i_Law_passDay_220 rfl ?_
        refine e_bipush (v := 99) i_Law_passDay_222 (by decide) ?_
        refine e_callI (as := [.int (v200 + v209), .int 99]) (st' := [.int n4, .int 51, .ref r1]) i_Law_passDay_224 lm_280 (Or.inl ⟨rfl, rfl⟩) w_Math_min_II rfl rfl rfl (Nat.le_of_ble_eq_true rfl) (Nat.le_of_ble_eq_true rfl) (m_rlt (q_Math_min_II _) (Nat.lt_of_lt_of_le (by decide) hρ)) rfl (fun v224 s224 => ?_)
        refine e_callV (as := [.ref r1, .int 51, .int n4, .int v224]) (st' := []) i_Law_passDay_227 lm_281 (Or.inr (Or.inl ⟨rfl, rfl⟩)) w_World_change rfl rfl rfl (Nat.le_of_ble_eq_true rfl) (Nat.le_of_ble_eq_true rfl) (m_rlt (q_World_change _) (Nat.lt_of_lt_of_le (by decide) hρ)) rfl (fun s227 => ?_)
        refine e_iinc (w := 1) (L' := [some (.ref w), some (.ref r1), some (.ref r2), some (.int n3), some (.int (n4 + (1 : Int32))), some (.int (v200 + v209)), d6, d7, d8]) i_Law_passDay_230 rfl (of_decide_eq_true rfl) (by decide) rfl ?_
        refine e_goto (t := 159) i_Law_passDay_233 (by decide) ?_
        exact rfl
set_option maxRecDepth 20000 in
set_option maxHeartbeats 1000000 in
theorem E_Law_passDay_236 (x : m_X) (ρ : Nat) (hρ : 6 ≤ ρ) (s : m_H) (w : Nat) (r1 : Nat) (r2 : Nat) (n3 : Int32) (n4 : Int32) (d5 : Option Value) (d6 : Option Value) (d7 : Option Value) (d8 : Option Value) (hd5 : m_nl d5 = true) (hd6 : m_nl d6 = true) (hd7 : m_nl d7 = true) (hd8 : m_nl d8 = true) : m_D x ρ k_Law_passDay 236 [some (.ref w), some (.ref r1), some (.ref r2), some (.int n3), some (.int n4), d5, d6, d7, d8] [] s = (m_fR s 9 0 r1).bind fun v237 => (m_ia x s v237 22).bind fun v243 => (m_is s v237 22 (v243 + (1 : Int32))).bind fun s246 => (m_fR s246 9 0 r1).bind fun v248 => m_bI (m_M x k_World_draw [.ref r1] s246) fun v254 s254 => (m_is s254 v248 23 (v254 - v254 / (10 : Int32) * (10 : Int32))).bind fun s260 => some (some (.int n3), s260) := by
  refine e_aload_n i_Law_passDay_236 rfl ?_
  refine e_getR i_Law_passDay_237 lf_83 (by decide) ft_9_0 (fun v237 => ?_)
  refine e_bipush (v := 22) i_Law_passDay_240 (by decide) ?_
  refine e_dup2 i_Law_passDay_242 ⟨rfl, rfl⟩ ?_
  refine e_iald i_Law_passDay_243 (fun v243 => ?_)
  refine e_iconst (v := 1) i_Law_passDay_244 (by decide) ?_
  refine e_iadd i_Law_passDay_245 ?_
  refine e_iast i_Law_passDay_246 (fun s246 => ?_)
  refine e_aload_n i_Law_passDay_247 rfl ?_
  refine e_getR i_Law_passDay_248 lf_83 (by decide) ft_9_0 (fun v248 => ?_)
  refine e_bipush (v := 23) i_Law_passDay_251 (by decide) ?_
  refine e_aload_n i_Law_passDay_253 rfl ?_
  refine e_callI (as := [.ref r1]) (st' := [.int 23, .ref v248]) i_Law_passDay_254 lm_285 (Or.inr (Or.inl ⟨rfl, rfl⟩)) w_World_draw rfl rfl rfl (Nat.le_of_ble_eq_true rfl) (Nat.le_of_ble_eq_true rfl) (m_rlt (q_World_draw _) (Nat.lt_of_lt_of_le (by decide) hρ)) rfl (fun v254 s254 => ?_)
  refine e_bipush (v := 10) i_Law_passDay_257 (by decide) ?_
  refine e_iremc i_Law_passDay_259 (by decide) ?_
  refine e_iast i_Law_passDay_260 (fun s260 => ?_)
  refine e_iload_n i_Law_passDay_261 rfl ?_
  exact e_iretI i_Law_passDay_262 rfl
set_option maxRecDepth 20000 in
set_option maxHeartbeats 1000000 in
theorem E_Law_passDay_N (x : m_X) (s : m_H) (w : Nat) (r1 : Nat) : m_M x k_Law_passDay [.ref w, .ref r1, .null] s = if m_isO s w 1 = true then (m_bI (m_M x k_World_dayCanPass [.ref r1] s) fun v1 s1 => if v1 = 0 then (some (some (.int (-1)), s1)) else m_D x 6 k_Law_passDay 14 [some (.ref w), some (.ref r1), some (.null), some (.int 0), some (.int 0), none, none, none, none] [] s1) else none := by
  refine e_M1 (L0 := [some (.ref w), some (.ref r1), some (.null), none, none, none, none, none, none]) rfl (by decide +kernel) rfl (q_Law_passDay _) rfl ?_
  refine e_aload_n i_Law_passDay_0 rfl ?_
  refine e_callI (as := [.ref r1]) (st' := []) i_Law_passDay_1 lm_277 (Or.inr (Or.inl ⟨rfl, rfl⟩)) w_World_dayCanPass rfl rfl rfl (Nat.le_of_ble_eq_true rfl) (Nat.le_of_ble_eq_true rfl) (m_rlt (q_World_dayCanPass _) (by decide)) rfl (fun v1 s1 => ?_)
  refine e_ifne (t := 9) i_Law_passDay_4 (by decide) ?_ ?_
  · refine e_iconst (v := 0) i_Law_passDay_9 (by decide) ?_
    refine e_istore_n (L' := [some (.ref w), some (.ref r1), some (.null), some (.int 0), none, none, none, none, none]) i_Law_passDay_10 (of_decide_eq_true rfl) rfl ?_
    refine e_iconst (v := 0) i_Law_passDay_11 (by decide) ?_
    refine e_istore (L' := [some (.ref w), some (.ref r1), some (.null), some (.int 0), some (.int 0), none, none, none, none]) i_Law_passDay_12 (of_decide_eq_true rfl) rfl ?_
    exact rfl
  · refine e_iconst (v := (-1)) i_Law_passDay_7 (by decide) ?_
    exact e_iretI i_Law_passDay_8 rfl
set_option maxRecDepth 20000 in
set_option maxHeartbeats 1000000 in
theorem E_Law_passDay_N_14 (x : m_X) (ρ : Nat) (hρ : 6 ≤ ρ) (s : m_H) (w : Nat) (r1 : Nat) (n3 : Int32) (n4 : Int32) (d5 : Option Value) (d6 : Option Value) (d7 : Option Value) (d8 : Option Value) (hd5 : m_nl d5 = true) (hd6 : m_nl d6 = true) (hd7 : m_nl d7 = true) (hd8 : m_nl d8 = true) : m_D x ρ k_Law_passDay 14 [some (.ref w), some (.ref r1), some (.null), some (.int n3), some (.int n4), d5, d6, d7, d8] [] s = (m_fR s 9 0 r1).bind fun v17 => (m_ia x s v17 0).bind fun v21 => if v21 ≤ n4 then (m_D x ρ k_Law_passDay 159 [some (.ref w), some (.ref r1), some (.null), some (.int n3), some (.int 0), d5, d6, d7, d8] [] s) else m_bI (m_M x k_World_at [.ref r1, .int 15, .int n4] s) fun v30 s30 => m_bI (m_M x k_Law_amount [.ref w, .int 0, .null, .ref r1, .int n4] s30) fun v39 s39 => m_bI (m_M x k_Math_min_II [.int (v30 + v39), .int 9999] s39) fun v55 s55 => m_bV (m_M x k_World_change [.ref r1, .int 15, .int n4, .int v55] s55) fun s58 => m_bI (m_M x k_World_at [.ref r1, .int 8, .int n4] s58) fun v66 s66 => if v66 ≤ 0 then (m_D x ρ k_Law_passDay 115 [some (.ref w), some (.ref r1), some (.null), some (.int n3), some (.int n4), some (.int (v30 + v39)), some (.int v66), some (.int 0), d8] [.int 0] s66) else m_bI (m_M x k_World_rightsOf [.ref r1, .int n4] s66) fun v79 s79 => if v79 ≤ 0 then (m_D x ρ k_Law_passDay 115 [some (.ref w), some (.ref r1), some (.null), some (.int n3), some (.int n4), some (.int (v30 + v39)), some (.int v66), some (.int 0), d8] [.int 0] s79) else m_bI (m_M x k_Law_amount [.ref w, .int 1, .null, .ref r1, .int n4] s79) fun v105 s105 => m_bI (m_M x k_Math_min_II [.int v66, .int v105] s105) fun v108 s108 => m_D x ρ k_Law_passDay 115 [some (.ref w), some (.ref r1), some (.null), some (.int n3), some (.int n4), some (.int (v30 + v39)), some (.int v66), some (.int 1), d8] [.int v108] s108 := by
  refine e_iload i_Law_passDay_14 rfl ?_
  refine e_aload_n i_Law_passDay_16 rfl ?_
  refine e_getR i_Law_passDay_17 lf_83 (by decide) ft_9_0 (fun v17 => ?_)
  refine e_iconst (v := 0) i_Law_passDay_20 (by decide) ?_
  refine e_iald i_Law_passDay_21 (fun v21 => ?_)
  refine e_icmpge (t := 156) i_Law_passDay_22 (by decide) ?_ ?_
  · refine e_iconst (v := 0) i_Law_passDay_156 (by decide) ?_
    refine e_istore (L' := [some (.ref w), some (.ref r1), some (.null), some (.int n3), some (.int 0), d5, d6, d7, d8]) i_Law_passDay_157 (of_decide_eq_true rfl) rfl ?_
    exact rfl
  · refine e_aload_n i_Law_passDay_25 rfl ?_
    refine e_bipush (v := 15) i_Law_passDay_26 (by decide) ?_
    refine e_iload i_Law_passDay_28 rfl ?_
    refine e_callI (as := [.ref r1, .int 15, .int n4]) (st' := []) i_Law_passDay_30 lm_278 (Or.inr (Or.inl ⟨rfl, rfl⟩)) w_World_at rfl rfl rfl (Nat.le_of_ble_eq_true rfl) (Nat.le_of_ble_eq_true rfl) (m_rlt (q_World_at _) (Nat.lt_of_lt_of_le (by decide) hρ)) rfl (fun v30 s30 => ?_)
    refine e_aload_n i_Law_passDay_33 rfl ?_
    refine e_iconst (v := 0) i_Law_passDay_34 (by decide) ?_
    refine e_aload_nN i_Law_passDay_35 rfl ?_
    refine e_aload_n i_Law_passDay_36 rfl ?_
    refine e_iload i_Law_passDay_37 rfl ?_
    refine e_callI (as := [.ref w, .int 0, .null, .ref r1, .int n4]) (st' := [.int v30]) i_Law_passDay_39 lm_279 (Or.inr (Or.inl ⟨rfl, rfl⟩)) w_Law_amount rfl rfl rfl (Nat.le_of_ble_eq_true rfl) (Nat.le_of_ble_eq_true rfl) (m_rlt (q_Law_amount _) (Nat.lt_of_lt_of_le (by decide) hρ)) rfl (fun v39 s39 => ?_)
    refine e_iadd i_Law_passDay_42 ?_
    refine e_istore (L' := [some (.ref w), some (.ref r1), some (.null), some (.int n3), some (.int n4), some (.int (v30 + v39)), d6, d7, d8]) i_Law_passDay_43 (of_decide_eq_true rfl) rfl ?_
    refine e_aload_n i_Law_passDay_45 rfl ?_
    refine e_bipush (v := 15) i_Law_passDay_46 (by decide) ?_
    refine e_iload i_Law_passDay_48 rfl ?_
    refine e_iload i_Law_passDay_50 rfl ?_
    refine e_sipush (v := 9999) i_Law_passDay_52 (by decide) ?_
    refine e_callI (as := [.int (v30 + v39), .int 9999]) (st' := [.int n4, .int 15, .ref r1]) i_Law_passDay_55 lm_280 (Or.inl ⟨rfl, rfl⟩) w_Math_min_II rfl rfl rfl (Nat.le_of_ble_eq_true rfl) (Nat.le_of_ble_eq_true rfl) (m_rlt (q_Math_min_II _) (Nat.lt_of_lt_of_le (by decide) hρ)) rfl (fun v55 s55 => ?_)
    refine e_callV (as := [.ref r1, .int 15, .int n4, .int v55]) (st' := []) i_Law_passDay_58 lm_281 (Or.inr (Or.inl ⟨rfl, rfl⟩)) w_World_change rfl rfl rfl (Nat.le_of_ble_eq_true rfl) (Nat.le_of_ble_eq_true rfl) (m_rlt (q_World_change _) (Nat.lt_of_lt_of_le (by decide) hρ)) rfl (fun s58 => ?_)
    refine e_aload_n i_Law_passDay_61 rfl ?_
    refine e_bipush (v := 8) i_Law_passDay_62 (by decide) ?_
    refine e_iload i_Law_passDay_64 rfl ?_
    refine e_callI (as := [.ref r1, .int 8, .int n4]) (st' := []) i_Law_passDay_66 lm_278 (Or.inr (Or.inl ⟨rfl, rfl⟩)) w_World_at rfl rfl rfl (Nat.le_of_ble_eq_true rfl) (Nat.le_of_ble_eq_true rfl) (m_rlt (q_World_at _) (Nat.lt_of_lt_of_le (by decide) hρ)) rfl (fun v66 s66 => ?_)
    refine e_istore (L' := [some (.ref w), some (.ref r1), some (.null), some (.int n3), some (.int n4), some (.int (v30 + v39)), some (.int v66), d7, d8]) i_Law_passDay_69 (of_decide_eq_true rfl) rfl ?_
    refine e_iload i_Law_passDay_71 rfl ?_
    refine e_ifle (t := 89) i_Law_passDay_73 (by decide) ?_ ?_
    · refine e_iconst (v := 0) i_Law_passDay_89 (by decide) ?_
      refine e_istore (L' := [some (.ref w), some (.ref r1), some (.null), some (.int n3), some (.int n4), some (.int (v30 + v39)), some (.int v66), some (.int 0), d8]) i_Law_passDay_90 (of_decide_eq_true rfl) rfl ?_
      refine e_iload i_Law_passDay_92 rfl ?_
      refine e_ifT (t := 114) i_Law_passDay_94 (by decide) (by decide) ?_
      refine e_iconst (v := 0) i_Law_passDay_114 (by decide) ?_
      exact rfl
    · refine e_aload_n i_Law_passDay_76 rfl ?_
      refine e_iload i_Law_passDay_77 rfl ?_
      refine e_callI (as := [.ref r1, .int n4]) (st' := []) i_Law_passDay_79 lm_282 (Or.inr (Or.inl ⟨rfl, rfl⟩)) w_World_rightsOf rfl rfl rfl (Nat.le_of_ble_eq_true rfl) (Nat.le_of_ble_eq_true rfl) (m_rlt (q_World_rightsOf _) (Nat.lt_of_lt_of_le (by decide) hρ)) rfl (fun v79 s79 => ?_)
      refine e_ifle (t := 89) i_Law_passDay_82 (by decide) ?_ ?_
      · refine e_iconst (v := 0) i_Law_passDay_89 (by decide) ?_
        refine e_istore (L' := [some (.ref w), some (.ref r1), some (.null), some (.int n3), some (.int n4), some (.int (v30 + v39)), some (.int v66), some (.int 0), d8]) i_Law_passDay_90 (of_decide_eq_true rfl) rfl ?_
        refine e_iload i_Law_passDay_92 rfl ?_
        refine e_ifT (t := 114) i_Law_passDay_94 (by decide) (by decide) ?_
        refine e_iconst (v := 0) i_Law_passDay_114 (by decide) ?_
        exact rfl
      · refine e_iconst (v := 1) i_Law_passDay_85 (by decide) ?_
        refine e_goto (t := 90) i_Law_passDay_86 (by decide) ?_
        refine e_istore (L' := [some (.ref w), some (.ref r1), some (.null), some (.int n3), some (.int n4), some (.int (v30 + v39)), some (.int v66), some (.int 1), d8]) i_Law_passDay_90 (of_decide_eq_true rfl) rfl ?_
        refine e_iload i_Law_passDay_92 rfl ?_
        refine e_ifF i_Law_passDay_94 (by decide) ?_
        refine e_iload i_Law_passDay_97 rfl ?_
        refine e_aload_n i_Law_passDay_99 rfl ?_
        refine e_iconst (v := 1) i_Law_passDay_100 (by decide) ?_
        refine e_aload_nN i_Law_passDay_101 rfl ?_
        refine e_aload_n i_Law_passDay_102 rfl ?_
        refine e_iload i_Law_passDay_103 rfl ?_
        refine e_callI (as := [.ref w, .int 1, .null, .ref r1, .int n4]) (st' := [.int v66]) i_Law_passDay_105 lm_279 (Or.inr (Or.inl ⟨rfl, rfl⟩)) w_Law_amount rfl rfl rfl (Nat.le_of_ble_eq_true rfl) (Nat.le_of_ble_eq_true rfl) (m_rlt (q_Law_amount _) (Nat.lt_of_lt_of_le (by decide) hρ)) rfl (fun v105 s105 => ?_)
        refine e_callI (as := [.int v66, .int v105]) (st' := []) i_Law_passDay_108 lm_280 (Or.inl ⟨rfl, rfl⟩) w_Math_min_II rfl rfl rfl (Nat.le_of_ble_eq_true rfl) (Nat.le_of_ble_eq_true rfl) (m_rlt (q_Math_min_II _) (Nat.lt_of_lt_of_le (by decide) hρ)) rfl (fun v108 s108 => ?_)
        refine e_goto (t := 115) i_Law_passDay_111 (by decide) ?_
        exact rfl
set_option maxRecDepth 20000 in
set_option maxHeartbeats 1000000 in
theorem E_Law_passDay_N_115 (x : m_X) (ρ : Nat) (hρ : 6 ≤ ρ) (s : m_H) (w : Nat) (r1 : Nat) (n3 : Int32) (n4 : Int32) (n5 : Int32) (n6 : Int32) (n7 : Int32) (d8 : Option Value) (nt0 : Int32) (hd8 : m_nl d8 = true) : m_D x ρ k_Law_passDay 115 [some (.ref w), some (.ref r1), some (.null), some (.int n3), some (.int n4), some (.int n5), some (.int n6), some (.int n7), d8] [.int nt0] s = if nt0 ≤ 0 then (m_D x ρ k_Law_passDay 14 [some (.ref w), some (.ref r1), some (.null), some (.int n3), some (.int (n4 + (1 : Int32))), some (.int n5), some (.int n6), some (.int n7), some (.int nt0)] [] s) else m_bV (m_M x k_World_change [.ref r1, .int 8, .int n4, .int (n6 - nt0)] s) fun s132 => m_bV (m_M x k_World_writeFine [.ref r1, .int n4, .int nt0] s132) fun s140 => m_D x ρ k_Law_passDay 14 [some (.ref w), some (.ref r1), some (.null), some (.int (n3 ||| ((1 : Int32) <<< (n4 &&& (31 : Int32))))), some (.int (n4 + (1 : Int32))), some (.int n5), some (.int n6), some (.int n7), some (.int nt0)] [] s140 := by
  refine e_istore (L' := [some (.ref w), some (.ref r1), some (.null), some (.int n3), some (.int n4), some (.int n5), some (.int n6), some (.int n7), some (.int nt0)]) i_Law_passDay_115 (of_decide_eq_true rfl) rfl ?_
  refine e_iload i_Law_passDay_117 rfl ?_
  refine e_ifle (t := 150) i_Law_passDay_119 (by decide) ?_ ?_
  · refine e_iinc (w := 1) (L' := [some (.ref w), some (.ref r1), some (.null), some (.int n3), some (.int (n4 + (1 : Int32))), some (.int n5), some (.int n6), some (.int n7), some (.int nt0)]) i_Law_passDay_150 rfl (of_decide_eq_true rfl) (by decide) rfl ?_
    refine e_goto (t := 14) i_Law_passDay_153 (by decide) ?_
    exact rfl
  · refine e_aload_n i_Law_passDay_122 rfl ?_
    refine e_bipush (v := 8) i_Law_passDay_123 (by decide) ?_
    refine e_iload i_Law_passDay_125 rfl ?_
    refine e_iload i_Law_passDay_127 rfl ?_
    refine e_iload i_Law_passDay_129 rfl ?_
    refine e_isub i_Law_passDay_131 ?_
    refine e_callV (as := [.ref r1, .int 8, .int n4, .int (n6 - nt0)]) (st' := []) i_Law_passDay_132 lm_281 (Or.inr (Or.inl ⟨rfl, rfl⟩)) w_World_change rfl rfl rfl (Nat.le_of_ble_eq_true rfl) (Nat.le_of_ble_eq_true rfl) (m_rlt (q_World_change _) (Nat.lt_of_lt_of_le (by decide) hρ)) rfl (fun s132 => ?_)
    refine e_aload_n i_Law_passDay_135 rfl ?_
    refine e_iload i_Law_passDay_136 rfl ?_
    refine e_iload i_Law_passDay_138 rfl ?_
    refine e_callV (as := [.ref r1, .int n4, .int nt0]) (st' := []) i_Law_passDay_140 lm_283 (Or.inr (Or.inl ⟨rfl, rfl⟩)) w_World_writeFine rfl rfl rfl (Nat.le_of_ble_eq_true rfl) (Nat.le_of_ble_eq_true rfl) (m_rlt (q_World_writeFine _) (Nat.lt_of_lt_of_le (by decide) hρ)) rfl (fun s140 => ?_)
    refine e_iload_n i_Law_passDay_143 rfl ?_
    refine e_iconst (v := 1) i_Law_passDay_144 (by decide) ?_
    refine e_iload i_Law_passDay_145 rfl ?_
    refine e_ishl i_Law_passDay_147 ?_
    refine e_ior i_Law_passDay_148 ?_
    refine e_istore_n (L' := [some (.ref w), some (.ref r1), some (.null), some (.int (n3 ||| ((1 : Int32) <<< (n4 &&& (31 : Int32))))), some (.int n4), some (.int n5), some (.int n6), some (.int n7), some (.int nt0)]) i_Law_passDay_149 (of_decide_eq_true rfl) rfl ?_
    refine e_iinc (w := 1) (L' := [some (.ref w), some (.ref r1), some (.null), some (.int (n3 ||| ((1 : Int32) <<< (n4 &&& (31 : Int32))))), some (.int (n4 + (1 : Int32))), some (.int n5), some (.int n6), some (.int n7), some (.int nt0)]) i_Law_passDay_150 rfl (of_decide_eq_true rfl) (by decide) rfl ?_
    refine e_goto (t := 14) i_Law_passDay_153 (by decide) ?_
    exact rfl
set_option maxRecDepth 20000 in
set_option maxHeartbeats 1000000 in
theorem E_Law_passDay_N_159 (x : m_X) (ρ : Nat) (hρ : 6 ≤ ρ) (s : m_H) (w : Nat) (r1 : Nat) (n3 : Int32) (n4 : Int32) (d5 : Option Value) (d6 : Option Value) (d7 : Option Value) (d8 : Option Value) (hd5 : m_nl d5 = true) (hd6 : m_nl d6 = true) (hd7 : m_nl d7 = true) (hd8 : m_nl d8 = true) : m_D x ρ k_Law_passDay 159 [some (.ref w), some (.ref r1), some (.null), some (.int n3), some (.int n4), d5, d6, d7, d8] [] s = (m_fR s 9 0 r1).bind fun v162 => (m_ia x s v162 25).bind fun v167 => if v167 ≤ n4 then (m_D x ρ k_Law_passDay 236 [some (.ref w), some (.ref r1), some (.null), some (.int n3), some (.int n4), d5, d6, d7, d8] [] s) else (m_fR s 9 0 r1).bind fun v172 => (m_ia x s v172 22).bind fun v177 => if (v177 - v177 / (7 : Int32) * (7 : Int32)) = 6 then (m_bI (m_M x k_World_isOpen [.ref r1, .int n4] s) fun v189 s189 => if v189 = 0 then (m_D x ρ k_Law_passDay 159 [some (.ref w), some (.ref r1), some (.null), some (.int n3), some (.int (n4 + (1 : Int32))), d5, d6, d7, d8] [] s189) else m_bI (m_M x k_World_at [.ref r1, .int 51, .int n4] s189) fun v200 s200 => m_bI (m_M x k_Law_amount [.ref w, .int 2, .null, .ref r1, .int n4] s200) fun v209 s209 => m_bI (m_M x k_Math_min_II [.int (v200 + v209), .int 99] s209) fun v224 s224 => m_bV (m_M x k_World_change [.ref r1, .int 51, .int n4, .int v224] s224) fun s227 => m_D x ρ k_Law_passDay 159 [some (.ref w), some (.ref r1), some (.null), some (.int n3), some (.int (n4 + (1 : Int32))), some (.int (v200 + v209)), d6, d7, d8] [] s227) else m_D x ρ k_Law_passDay 236 [some (.ref w), some (.ref r1), some (.null), some (.int n3), some (.int n4), d5, d6, d7, d8] [] s := by
  refine e_iload i_Law_passDay_159 rfl ?_
  refine e_aload_n i_Law_passDay_161 rfl ?_
  refine e_getR i_Law_passDay_162 lf_83 (by decide) ft_9_0 (fun v162 => ?_)
  refine e_bipush (v := 25) i_Law_passDay_165 (by decide) ?_
  refine e_iald i_Law_passDay_167 (fun v167 => ?_)
  refine e_icmpge (t := 236) i_Law_passDay_168 (by decide) ?_ ?_
  · exact rfl
  · refine e_aload_n i_Law_passDay_171 rfl ?_
    refine e_getR i_Law_passDay_172 lf_83 (by decide) ft_9_0 (fun v172 => ?_)
    refine e_bipush (v := 22) i_Law_passDay_175 (by decide) ?_
    refine e_iald i_Law_passDay_177 (fun v177 => ?_)
    refine e_bipush (v := 7) i_Law_passDay_178 (by decide) ?_
    refine e_iremc i_Law_passDay_180 (by decide) ?_
    refine e_bipush (v := 6) i_Law_passDay_181 (by decide) ?_
    refine e_icmpne (t := 236) i_Law_passDay_183 (by decide) ?_ ?_
    · exact rfl
    · refine e_aload_n i_Law_passDay_186 rfl ?_
      refine e_iload i_Law_passDay_187 rfl ?_
      refine e_callI (as := [.ref r1, .int n4]) (st' := []) i_Law_passDay_189 lm_284 (Or.inr (Or.inl ⟨rfl, rfl⟩)) w_World_isOpen rfl rfl rfl (Nat.le_of_ble_eq_true rfl) (Nat.le_of_ble_eq_true rfl) (m_rlt (q_World_isOpen _) (Nat.lt_of_lt_of_le (by decide) hρ)) rfl (fun v189 s189 => ?_)
      refine e_ifeq (t := 230) i_Law_passDay_192 (by decide) ?_ ?_
      · refine e_iinc (w := 1) (L' := [some (.ref w), some (.ref r1), some (.null), some (.int n3), some (.int (n4 + (1 : Int32))), d5, d6, d7, d8]) i_Law_passDay_230 rfl (of_decide_eq_true rfl) (by decide) rfl ?_
        refine e_goto (t := 159) i_Law_passDay_233 (by decide) ?_
        exact rfl
      · refine e_aload_n i_Law_passDay_195 rfl ?_
        refine e_bipush (v := 51) i_Law_passDay_196 (by decide) ?_
        refine e_iload i_Law_passDay_198 rfl ?_
        refine e_callI (as := [.ref r1, .int 51, .int n4]) (st' := []) i_Law_passDay_200 lm_278 (Or.inr (Or.inl ⟨rfl, rfl⟩)) w_World_at rfl rfl rfl (Nat.le_of_ble_eq_true rfl) (Nat.le_of_ble_eq_true rfl) (m_rlt (q_World_at _) (Nat.lt_of_lt_of_le (by decide) hρ)) rfl (fun v200 s200 => ?_)
        refine e_aload_n i_Law_passDay_203 rfl ?_
        refine e_iconst (v := 2) i_Law_passDay_204 (by decide) ?_
        refine e_aload_nN i_Law_passDay_205 rfl ?_
        refine e_aload_n i_Law_passDay_206 rfl ?_
        refine e_iload i_Law_passDay_207 rfl ?_
        refine e_callI (as := [.ref w, .int 2, .null, .ref r1, .int n4]) (st' := [.int v200]) i_Law_passDay_209 lm_279 (Or.inr (Or.inl ⟨rfl, rfl⟩)) w_Law_amount rfl rfl rfl (Nat.le_of_ble_eq_true rfl) (Nat.le_of_ble_eq_true rfl) (m_rlt (q_Law_amount _) (Nat.lt_of_lt_of_le (by decide) hρ)) rfl (fun v209 s209 => ?_)
        refine e_iadd i_Law_passDay_212 ?_
        refine e_istore (L' := [some (.ref w), some (.ref r1), some (.null), some (.int n3), some (.int n4), some (.int (v200 + v209)), d6, d7, d8]) i_Law_passDay_213 (of_decide_eq_true rfl) rfl ?_
        refine e_aload_n i_Law_passDay_215 rfl ?_
        refine e_bipush (v := 51) i_Law_passDay_216 (by decide) ?_
        refine e_iload i_Law_passDay_218 rfl ?_
        refine e_iload i_Law_passDay_220 rfl ?_
        refine e_bipush (v := 99) i_Law_passDay_222 (by decide) ?_
        refine e_callI (as := [.int (v200 + v209), .int 99]) (st' := [.int n4, .int 51, .ref r1]) i_Law_passDay_224 lm_280 (Or.inl ⟨rfl, rfl⟩) w_Math_min_II rfl rfl rfl (Nat.le_of_ble_eq_true rfl) (Nat.le_of_ble_eq_true rfl) (m_rlt (q_Math_min_II _) (Nat.lt_of_lt_of_le (by decide) hρ)) rfl (fun v224 s224 => ?_)
        refine e_callV (as := [.ref r1, .int 51, .int n4, .int v224]) (st' := []) i_Law_passDay_227 lm_281 (Or.inr (Or.inl ⟨rfl, rfl⟩)) w_World_change rfl rfl rfl (Nat.le_of_ble_eq_true rfl) (Nat.le_of_ble_eq_true rfl) (m_rlt (q_World_change _) (Nat.lt_of_lt_of_le (by decide) hρ)) rfl (fun s227 => ?_)
        refine e_iinc (w := 1) (L' := [some (.ref w), some (.ref r1), some (.null), some (.int n3), some (.int (n4 + (1 : Int32))), some (.int (v200 + v209)), d6, d7, d8]) i_Law_passDay_230 rfl (of_decide_eq_true rfl) (by decide) rfl ?_
        refine e_goto (t := 159) i_Law_passDay_233 (by decide) ?_
        exact rfl
set_option maxRecDepth 20000 in
set_option maxHeartbeats 1000000 in
theorem E_Law_passDay_N_236 (x : m_X) (ρ : Nat) (hρ : 6 ≤ ρ) (s : m_H) (w : Nat) (r1 : Nat) (n3 : Int32) (n4 : Int32) (d5 : Option Value) (d6 : Option Value) (d7 : Option Value) (d8 : Option Value) (hd5 : m_nl d5 = true) (hd6 : m_nl d6 = true) (hd7 : m_nl d7 = true) (hd8 : m_nl d8 = true) : m_D x ρ k_Law_passDay 236 [some (.ref w), some (.ref r1), some (.null), some (.int n3), some (.int n4), d5, d6, d7, d8] [] s = (m_fR s 9 0 r1).bind fun v237 => (m_ia x s v237 22).bind fun v243 => (m_is s v237 22 (v243 + (1 : Int32))).bind fun s246 => (m_fR s246 9 0 r1).bind fun v248 => m_bI (m_M x k_World_draw [.ref r1] s246) fun v254 s254 => (m_is s254 v248 23 (v254 - v254 / (10 : Int32) * (10 : Int32))).bind fun s260 => some (some (.int n3), s260) := by
  refine e_aload_n i_Law_passDay_236 rfl ?_
  refine e_getR i_Law_passDay_237 lf_83 (by decide) ft_9_0 (fun v237 => ?_)
  refine e_bipush (v := 22) i_Law_passDay_240 (by decide) ?_
  refine e_dup2 i_Law_passDay_242 ⟨rfl, rfl⟩ ?_
  refine e_iald i_Law_passDay_243 (fun v243 => ?_)
  refine e_iconst (v := 1) i_Law_passDay_244 (by decide) ?_
  refine e_iadd i_Law_passDay_245 ?_
  refine e_iast i_Law_passDay_246 (fun s246 => ?_)
  refine e_aload_n i_Law_passDay_247 rfl ?_
  refine e_getR i_Law_passDay_248 lf_83 (by decide) ft_9_0 (fun v248 => ?_)
  refine e_bipush (v := 23) i_Law_passDay_251 (by decide) ?_
  refine e_aload_n i_Law_passDay_253 rfl ?_
  refine e_callI (as := [.ref r1]) (st' := [.int 23, .ref v248]) i_Law_passDay_254 lm_285 (Or.inr (Or.inl ⟨rfl, rfl⟩)) w_World_draw rfl rfl rfl (Nat.le_of_ble_eq_true rfl) (Nat.le_of_ble_eq_true rfl) (m_rlt (q_World_draw _) (Nat.lt_of_lt_of_le (by decide) hρ)) rfl (fun v254 s254 => ?_)
  refine e_bipush (v := 10) i_Law_passDay_257 (by decide) ?_
  refine e_iremc i_Law_passDay_259 (by decide) ?_
  refine e_iast i_Law_passDay_260 (fun s260 => ?_)
  refine e_iload_n i_Law_passDay_261 rfl ?_
  exact e_iretI i_Law_passDay_262 rfl
theorem i_Law_buyBack_0 : m_at k_Law_buyBack 0 = some (.aload_n 1, 1, 0) := m_at_of r_Law_buyBack (by decide +kernel)
theorem i_Law_buyBack_1 : m_at k_Law_buyBack 1 = some (.iload_n 3, 1, 0) := m_at_of r_Law_buyBack (by decide +kernel)
theorem i_Law_buyBack_2 : m_at k_Law_buyBack 2 = some (.iconst 3, 1, 0) := m_at_of r_Law_buyBack (by decide +kernel)
theorem i_Law_buyBack_3 : m_at k_Law_buyBack 3 = some (.invokevirtual 75, 3, 290) := m_at_of r_Law_buyBack (by decide +kernel)
theorem i_Law_buyBack_6 : m_at k_Law_buyBack 6 = some (.ifCond .ne (5), 3, 0) := m_at_of r_Law_buyBack (by decide +kernel)
theorem i_Law_buyBack_9 : m_at k_Law_buyBack 9 = some (.iconst (-1), 1, 0) := m_at_of r_Law_buyBack (by decide +kernel)
theorem i_Law_buyBack_10 : m_at k_Law_buyBack 10 = some (.ireturn, 1, 0) := m_at_of r_Law_buyBack (by decide +kernel)
theorem i_Law_buyBack_11 : m_at k_Law_buyBack 11 = some (.aload_n 0, 1, 0) := m_at_of r_Law_buyBack (by decide +kernel)
theorem i_Law_buyBack_12 : m_at k_Law_buyBack 12 = some (.iconst 3, 1, 0) := m_at_of r_Law_buyBack (by decide +kernel)
theorem i_Law_buyBack_13 : m_at k_Law_buyBack 13 = some (.aload_n 2, 1, 0) := m_at_of r_Law_buyBack (by decide +kernel)
theorem i_Law_buyBack_14 : m_at k_Law_buyBack 14 = some (.aload_n 1, 1, 0) := m_at_of r_Law_buyBack (by decide +kernel)
theorem i_Law_buyBack_15 : m_at k_Law_buyBack 15 = some (.iload_n 3, 1, 0) := m_at_of r_Law_buyBack (by decide +kernel)
theorem i_Law_buyBack_16 : m_at k_Law_buyBack 16 = some (.invokevirtual 52, 3, 279) := m_at_of r_Law_buyBack (by decide +kernel)
theorem i_Law_buyBack_19 : m_at k_Law_buyBack 19 = some (.istore 4, 2, 0) := m_at_of r_Law_buyBack (by decide +kernel)
theorem i_Law_buyBack_21 : m_at k_Law_buyBack 21 = some (.aload_n 1, 1, 0) := m_at_of r_Law_buyBack (by decide +kernel)
theorem i_Law_buyBack_22 : m_at k_Law_buyBack 22 = some (.bipush 39, 2, 0) := m_at_of r_Law_buyBack (by decide +kernel)
theorem i_Law_buyBack_24 : m_at k_Law_buyBack 24 = some (.iload_n 3, 1, 0) := m_at_of r_Law_buyBack (by decide +kernel)
theorem i_Law_buyBack_25 : m_at k_Law_buyBack 25 = some (.invokevirtual 49, 3, 278) := m_at_of r_Law_buyBack (by decide +kernel)
theorem i_Law_buyBack_28 : m_at k_Law_buyBack 28 = some (.istore 5, 2, 0) := m_at_of r_Law_buyBack (by decide +kernel)
theorem i_Law_buyBack_30 : m_at k_Law_buyBack 30 = some (.aload_n 1, 1, 0) := m_at_of r_Law_buyBack (by decide +kernel)
theorem i_Law_buyBack_31 : m_at k_Law_buyBack 31 = some (.bipush 8, 2, 0) := m_at_of r_Law_buyBack (by decide +kernel)
theorem i_Law_buyBack_33 : m_at k_Law_buyBack 33 = some (.iload 5, 2, 0) := m_at_of r_Law_buyBack (by decide +kernel)
theorem i_Law_buyBack_35 : m_at k_Law_buyBack 35 = some (.invokevirtual 49, 3, 278) := m_at_of r_Law_buyBack (by decide +kernel)
theorem i_Law_buyBack_38 : m_at k_Law_buyBack 38 = some (.istore 6, 2, 0) := m_at_of r_Law_buyBack (by decide +kernel)
theorem i_Law_buyBack_40 : m_at k_Law_buyBack 40 = some (.iload 6, 2, 0) := m_at_of r_Law_buyBack (by decide +kernel)
theorem i_Law_buyBack_42 : m_at k_Law_buyBack 42 = some (.iload 4, 2, 0) := m_at_of r_Law_buyBack (by decide +kernel)
theorem i_Law_buyBack_44 : m_at k_Law_buyBack 44 = some (.if_icmp .ge (5), 3, 0) := m_at_of r_Law_buyBack (by decide +kernel)
theorem i_Law_buyBack_47 : m_at k_Law_buyBack 47 = some (.iconst (-1), 1, 0) := m_at_of r_Law_buyBack (by decide +kernel)
theorem i_Law_buyBack_48 : m_at k_Law_buyBack 48 = some (.ireturn, 1, 0) := m_at_of r_Law_buyBack (by decide +kernel)
theorem i_Law_buyBack_49 : m_at k_Law_buyBack 49 = some (.aload_n 1, 1, 0) := m_at_of r_Law_buyBack (by decide +kernel)
theorem i_Law_buyBack_50 : m_at k_Law_buyBack 50 = some (.bipush 8, 2, 0) := m_at_of r_Law_buyBack (by decide +kernel)
theorem i_Law_buyBack_52 : m_at k_Law_buyBack 52 = some (.iload 5, 2, 0) := m_at_of r_Law_buyBack (by decide +kernel)
theorem i_Law_buyBack_54 : m_at k_Law_buyBack 54 = some (.iload 6, 2, 0) := m_at_of r_Law_buyBack (by decide +kernel)
theorem i_Law_buyBack_56 : m_at k_Law_buyBack 56 = some (.iload 4, 2, 0) := m_at_of r_Law_buyBack (by decide +kernel)
theorem i_Law_buyBack_58 : m_at k_Law_buyBack 58 = some (.isub, 1, 0) := m_at_of r_Law_buyBack (by decide +kernel)
theorem i_Law_buyBack_59 : m_at k_Law_buyBack 59 = some (.invokevirtual 56, 3, 281) := m_at_of r_Law_buyBack (by decide +kernel)
theorem i_Law_buyBack_62 : m_at k_Law_buyBack 62 = some (.aload_n 1, 1, 0) := m_at_of r_Law_buyBack (by decide +kernel)
theorem i_Law_buyBack_63 : m_at k_Law_buyBack 63 = some (.bipush 99, 2, 0) := m_at_of r_Law_buyBack (by decide +kernel)
theorem i_Law_buyBack_65 : m_at k_Law_buyBack 65 = some (.iload_n 3, 1, 0) := m_at_of r_Law_buyBack (by decide +kernel)
theorem i_Law_buyBack_66 : m_at k_Law_buyBack 66 = some (.iconst 0, 1, 0) := m_at_of r_Law_buyBack (by decide +kernel)
theorem i_Law_buyBack_67 : m_at k_Law_buyBack 67 = some (.invokevirtual 56, 3, 281) := m_at_of r_Law_buyBack (by decide +kernel)
theorem i_Law_buyBack_70 : m_at k_Law_buyBack 70 = some (.iload 4, 2, 0) := m_at_of r_Law_buyBack (by decide +kernel)
theorem i_Law_buyBack_72 : m_at k_Law_buyBack 72 = some (.ireturn, 1, 0) := m_at_of r_Law_buyBack (by decide +kernel)
set_option maxRecDepth 20000 in
set_option maxHeartbeats 1000000 in
theorem E_Law_buyBack (x : m_X) (s : m_H) (w : Nat) (r1 : Nat) (r2 : Nat) (n3 : Int32) : m_M x k_Law_buyBack [.ref w, .ref r1, .ref r2, .int n3] s = if m_isO s w 1 = true then (m_bI (m_M x k_World_isHow [.ref r1, .int n3, .int 3] s) fun v3 s3 => if v3 = 0 then (some (some (.int (-1)), s3)) else m_bI (m_M x k_Law_amount [.ref w, .int 3, .ref r2, .ref r1, .int n3] s3) fun v16 s16 => m_bI (m_M x k_World_at [.ref r1, .int 39, .int n3] s16) fun v25 s25 => m_bI (m_M x k_World_at [.ref r1, .int 8, .int v25] s25) fun v35 s35 => if v16 ≤ v35 then (m_bV (m_M x k_World_change [.ref r1, .int 8, .int v25, .int (v35 - v16)] s35) fun s59 => m_bV (m_M x k_World_change [.ref r1, .int 99, .int n3, .int 0] s59) fun s67 => some (some (.int v16), s67)) else some (some (.int (-1)), s35)) else none := by
  refine e_M1 (L0 := [some (.ref w), some (.ref r1), some (.ref r2), some (.int n3), none, none, none]) rfl (by decide +kernel) rfl (q_Law_buyBack _) rfl ?_
  refine e_aload_n i_Law_buyBack_0 rfl ?_
  refine e_iload_n i_Law_buyBack_1 rfl ?_
  refine e_iconst (v := 3) i_Law_buyBack_2 (by decide) ?_
  refine e_callI (as := [.ref r1, .int n3, .int 3]) (st' := []) i_Law_buyBack_3 lm_290 (Or.inr (Or.inl ⟨rfl, rfl⟩)) w_World_isHow rfl rfl rfl (Nat.le_of_ble_eq_true rfl) (Nat.le_of_ble_eq_true rfl) (m_rlt (q_World_isHow _) (by decide)) rfl (fun v3 s3 => ?_)
  refine e_ifne (t := 11) i_Law_buyBack_6 (by decide) ?_ ?_
  · refine e_aload_n i_Law_buyBack_11 rfl ?_
    refine e_iconst (v := 3) i_Law_buyBack_12 (by decide) ?_
    refine e_aload_n i_Law_buyBack_13 rfl ?_
    refine e_aload_n i_Law_buyBack_14 rfl ?_
    refine e_iload_n i_Law_buyBack_15 rfl ?_
    refine e_callI (as := [.ref w, .int 3, .ref r2, .ref r1, .int n3]) (st' := []) i_Law_buyBack_16 lm_279 (Or.inr (Or.inl ⟨rfl, rfl⟩)) w_Law_amount rfl rfl rfl (Nat.le_of_ble_eq_true rfl) (Nat.le_of_ble_eq_true rfl) (m_rlt (q_Law_amount _) (by decide)) rfl (fun v16 s16 => ?_)
    refine e_istore (L' := [some (.ref w), some (.ref r1), some (.ref r2), some (.int n3), some (.int v16), none, none]) i_Law_buyBack_19 (of_decide_eq_true rfl) rfl ?_
    refine e_aload_n i_Law_buyBack_21 rfl ?_
    refine e_bipush (v := 39) i_Law_buyBack_22 (by decide) ?_
    refine e_iload_n i_Law_buyBack_24 rfl ?_
    refine e_callI (as := [.ref r1, .int 39, .int n3]) (st' := []) i_Law_buyBack_25 lm_278 (Or.inr (Or.inl ⟨rfl, rfl⟩)) w_World_at rfl rfl rfl (Nat.le_of_ble_eq_true rfl) (Nat.le_of_ble_eq_true rfl) (m_rlt (q_World_at _) (by decide)) rfl (fun v25 s25 => ?_)
    refine e_istore (L' := [some (.ref w), some (.ref r1), some (.ref r2), some (.int n3), some (.int v16), some (.int v25), none]) i_Law_buyBack_28 (of_decide_eq_true rfl) rfl ?_
    refine e_aload_n i_Law_buyBack_30 rfl ?_
    refine e_bipush (v := 8) i_Law_buyBack_31 (by decide) ?_
    refine e_iload i_Law_buyBack_33 rfl ?_
    refine e_callI (as := [.ref r1, .int 8, .int v25]) (st' := []) i_Law_buyBack_35 lm_278 (Or.inr (Or.inl ⟨rfl, rfl⟩)) w_World_at rfl rfl rfl (Nat.le_of_ble_eq_true rfl) (Nat.le_of_ble_eq_true rfl) (m_rlt (q_World_at _) (by decide)) rfl (fun v35 s35 => ?_)
    refine e_istore (L' := [some (.ref w), some (.ref r1), some (.ref r2), some (.int n3), some (.int v16), some (.int v25), some (.int v35)]) i_Law_buyBack_38 (of_decide_eq_true rfl) rfl ?_
    refine e_iload i_Law_buyBack_40 rfl ?_
    refine e_iload i_Law_buyBack_42 rfl ?_
    refine e_icmpge (t := 49) i_Law_buyBack_44 (by decide) ?_ ?_
    · refine e_aload_n i_Law_buyBack_49 rfl ?_
      refine e_bipush (v := 8) i_Law_buyBack_50 (by decide) ?_
      refine e_iload i_Law_buyBack_52 rfl ?_
      refine e_iload i_Law_buyBack_54 rfl ?_
      refine e_iload i_Law_buyBack_56 rfl ?_
      refine e_isub i_Law_buyBack_58 ?_
      refine e_callV (as := [.ref r1, .int 8, .int v25, .int (v35 - v16)]) (st' := []) i_Law_buyBack_59 lm_281 (Or.inr (Or.inl ⟨rfl, rfl⟩)) w_World_change rfl rfl rfl (Nat.le_of_ble_eq_true rfl) (Nat.le_of_ble_eq_true rfl) (m_rlt (q_World_change _) (by decide)) rfl (fun s59 => ?_)
      refine e_aload_n i_Law_buyBack_62 rfl ?_
      refine e_bipush (v := 99) i_Law_buyBack_63 (by decide) ?_
      refine e_iload_n i_Law_buyBack_65 rfl ?_
      refine e_iconst (v := 0) i_Law_buyBack_66 (by decide) ?_
      refine e_callV (as := [.ref r1, .int 99, .int n3, .int 0]) (st' := []) i_Law_buyBack_67 lm_281 (Or.inr (Or.inl ⟨rfl, rfl⟩)) w_World_change rfl rfl rfl (Nat.le_of_ble_eq_true rfl) (Nat.le_of_ble_eq_true rfl) (m_rlt (q_World_change _) (by decide)) rfl (fun s67 => ?_)
      refine e_iload i_Law_buyBack_70 rfl ?_
      exact e_iretI i_Law_buyBack_72 rfl
    · refine e_iconst (v := (-1)) i_Law_buyBack_47 (by decide) ?_
      exact e_iretI i_Law_buyBack_48 rfl
  · refine e_iconst (v := (-1)) i_Law_buyBack_9 (by decide) ?_
    exact e_iretI i_Law_buyBack_10 rfl
set_option maxRecDepth 20000 in
set_option maxHeartbeats 1000000 in
theorem E_Law_buyBack_N (x : m_X) (s : m_H) (w : Nat) (r1 : Nat) (n3 : Int32) : m_M x k_Law_buyBack [.ref w, .ref r1, .null, .int n3] s = if m_isO s w 1 = true then (m_bI (m_M x k_World_isHow [.ref r1, .int n3, .int 3] s) fun v3 s3 => if v3 = 0 then (some (some (.int (-1)), s3)) else m_bI (m_M x k_Law_amount [.ref w, .int 3, .null, .ref r1, .int n3] s3) fun v16 s16 => m_bI (m_M x k_World_at [.ref r1, .int 39, .int n3] s16) fun v25 s25 => m_bI (m_M x k_World_at [.ref r1, .int 8, .int v25] s25) fun v35 s35 => if v16 ≤ v35 then (m_bV (m_M x k_World_change [.ref r1, .int 8, .int v25, .int (v35 - v16)] s35) fun s59 => m_bV (m_M x k_World_change [.ref r1, .int 99, .int n3, .int 0] s59) fun s67 => some (some (.int v16), s67)) else some (some (.int (-1)), s35)) else none := by
  refine e_M1 (L0 := [some (.ref w), some (.ref r1), some (.null), some (.int n3), none, none, none]) rfl (by decide +kernel) rfl (q_Law_buyBack _) rfl ?_
  refine e_aload_n i_Law_buyBack_0 rfl ?_
  refine e_iload_n i_Law_buyBack_1 rfl ?_
  refine e_iconst (v := 3) i_Law_buyBack_2 (by decide) ?_
  refine e_callI (as := [.ref r1, .int n3, .int 3]) (st' := []) i_Law_buyBack_3 lm_290 (Or.inr (Or.inl ⟨rfl, rfl⟩)) w_World_isHow rfl rfl rfl (Nat.le_of_ble_eq_true rfl) (Nat.le_of_ble_eq_true rfl) (m_rlt (q_World_isHow _) (by decide)) rfl (fun v3 s3 => ?_)
  refine e_ifne (t := 11) i_Law_buyBack_6 (by decide) ?_ ?_
  · refine e_aload_n i_Law_buyBack_11 rfl ?_
    refine e_iconst (v := 3) i_Law_buyBack_12 (by decide) ?_
    refine e_aload_nN i_Law_buyBack_13 rfl ?_
    refine e_aload_n i_Law_buyBack_14 rfl ?_
    refine e_iload_n i_Law_buyBack_15 rfl ?_
    refine e_callI (as := [.ref w, .int 3, .null, .ref r1, .int n3]) (st' := []) i_Law_buyBack_16 lm_279 (Or.inr (Or.inl ⟨rfl, rfl⟩)) w_Law_amount rfl rfl rfl (Nat.le_of_ble_eq_true rfl) (Nat.le_of_ble_eq_true rfl) (m_rlt (q_Law_amount _) (by decide)) rfl (fun v16 s16 => ?_)
    refine e_istore (L' := [some (.ref w), some (.ref r1), some (.null), some (.int n3), some (.int v16), none, none]) i_Law_buyBack_19 (of_decide_eq_true rfl) rfl ?_
    refine e_aload_n i_Law_buyBack_21 rfl ?_
    refine e_bipush (v := 39) i_Law_buyBack_22 (by decide) ?_
    refine e_iload_n i_Law_buyBack_24 rfl ?_
    refine e_callI (as := [.ref r1, .int 39, .int n3]) (st' := []) i_Law_buyBack_25 lm_278 (Or.inr (Or.inl ⟨rfl, rfl⟩)) w_World_at rfl rfl rfl (Nat.le_of_ble_eq_true rfl) (Nat.le_of_ble_eq_true rfl) (m_rlt (q_World_at _) (by decide)) rfl (fun v25 s25 => ?_)
    refine e_istore (L' := [some (.ref w), some (.ref r1), some (.null), some (.int n3), some (.int v16), some (.int v25), none]) i_Law_buyBack_28 (of_decide_eq_true rfl) rfl ?_
    refine e_aload_n i_Law_buyBack_30 rfl ?_
    refine e_bipush (v := 8) i_Law_buyBack_31 (by decide) ?_
    refine e_iload i_Law_buyBack_33 rfl ?_
    refine e_callI (as := [.ref r1, .int 8, .int v25]) (st' := []) i_Law_buyBack_35 lm_278 (Or.inr (Or.inl ⟨rfl, rfl⟩)) w_World_at rfl rfl rfl (Nat.le_of_ble_eq_true rfl) (Nat.le_of_ble_eq_true rfl) (m_rlt (q_World_at _) (by decide)) rfl (fun v35 s35 => ?_)
    refine e_istore (L' := [some (.ref w), some (.ref r1), some (.null), some (.int n3), some (.int v16), some (.int v25), some (.int v35)]) i_Law_buyBack_38 (of_decide_eq_true rfl) rfl ?_
    refine e_iload i_Law_buyBack_40 rfl ?_
    refine e_iload i_Law_buyBack_42 rfl ?_
    refine e_icmpge (t := 49) i_Law_buyBack_44 (by decide) ?_ ?_
    · refine e_aload_n i_Law_buyBack_49 rfl ?_
      refine e_bipush (v := 8) i_Law_buyBack_50 (by decide) ?_
      refine e_iload i_Law_buyBack_52 rfl ?_
      refine e_iload i_Law_buyBack_54 rfl ?_
      refine e_iload i_Law_buyBack_56 rfl ?_
      refine e_isub i_Law_buyBack_58 ?_
      refine e_callV (as := [.ref r1, .int 8, .int v25, .int (v35 - v16)]) (st' := []) i_Law_buyBack_59 lm_281 (Or.inr (Or.inl ⟨rfl, rfl⟩)) w_World_change rfl rfl rfl (Nat.le_of_ble_eq_true rfl) (Nat.le_of_ble_eq_true rfl) (m_rlt (q_World_change _) (by decide)) rfl (fun s59 => ?_)
      refine e_aload_n i_Law_buyBack_62 rfl ?_
      refine e_bipush (v := 99) i_Law_buyBack_63 (by decide) ?_
      refine e_iload_n i_Law_buyBack_65 rfl ?_
      refine e_iconst (v := 0) i_Law_buyBack_66 (by decide) ?_
      refine e_callV (as := [.ref r1, .int 99, .int n3, .int 0]) (st' := []) i_Law_buyBack_67 lm_281 (Or.inr (Or.inl ⟨rfl, rfl⟩)) w_World_change rfl rfl rfl (Nat.le_of_ble_eq_true rfl) (Nat.le_of_ble_eq_true rfl) (m_rlt (q_World_change _) (by decide)) rfl (fun s67 => ?_)
      refine e_iload i_Law_buyBack_70 rfl ?_
      exact e_iretI i_Law_buyBack_72 rfl
    · refine e_iconst (v := (-1)) i_Law_buyBack_47 (by decide) ?_
      exact e_iretI i_Law_buyBack_48 rfl
  · refine e_iconst (v := (-1)) i_Law_buyBack_9 (by decide) ?_
    exact e_iretI i_Law_buyBack_10 rfl
theorem i_Law_pawnOff_0 : m_at k_Law_pawnOff 0 = some (.aload_n 1, 1, 0) := m_at_of r_Law_pawnOff (by decide +kernel)
theorem i_Law_pawnOff_1 : m_at k_Law_pawnOff 1 = some (.iload_n 3, 1, 0) := m_at_of r_Law_pawnOff (by decide +kernel)
theorem i_Law_pawnOff_2 : m_at k_Law_pawnOff 2 = some (.iconst 0, 1, 0) := m_at_of r_Law_pawnOff (by decide +kernel)
theorem i_Law_pawnOff_3 : m_at k_Law_pawnOff 3 = some (.invokevirtual 75, 3, 290) := m_at_of r_Law_pawnOff (by decide +kernel)
theorem i_Law_pawnOff_6 : m_at k_Law_pawnOff 6 = some (.ifCond .eq (14), 3, 0) := m_at_of r_Law_pawnOff (by decide +kernel)
theorem i_Law_pawnOff_9 : m_at k_Law_pawnOff 9 = some (.aload_n 0, 1, 0) := m_at_of r_Law_pawnOff (by decide +kernel)
theorem i_Law_pawnOff_10 : m_at k_Law_pawnOff 10 = some (.iconst 3, 1, 0) := m_at_of r_Law_pawnOff (by decide +kernel)
theorem i_Law_pawnOff_11 : m_at k_Law_pawnOff 11 = some (.aload_n 2, 1, 0) := m_at_of r_Law_pawnOff (by decide +kernel)
theorem i_Law_pawnOff_12 : m_at k_Law_pawnOff 12 = some (.aload_n 1, 1, 0) := m_at_of r_Law_pawnOff (by decide +kernel)
theorem i_Law_pawnOff_13 : m_at k_Law_pawnOff 13 = some (.iload_n 3, 1, 0) := m_at_of r_Law_pawnOff (by decide +kernel)
theorem i_Law_pawnOff_14 : m_at k_Law_pawnOff 14 = some (.invokevirtual 52, 3, 279) := m_at_of r_Law_pawnOff (by decide +kernel)
theorem i_Law_pawnOff_17 : m_at k_Law_pawnOff 17 = some (.goto (4), 3, 0) := m_at_of r_Law_pawnOff (by decide +kernel)
theorem i_Law_pawnOff_20 : m_at k_Law_pawnOff 20 = some (.iconst 0, 1, 0) := m_at_of r_Law_pawnOff (by decide +kernel)
theorem i_Law_pawnOff_21 : m_at k_Law_pawnOff 21 = some (.istore 4, 2, 0) := m_at_of r_Law_pawnOff (by decide +kernel)
theorem i_Law_pawnOff_23 : m_at k_Law_pawnOff 23 = some (.iload 4, 2, 0) := m_at_of r_Law_pawnOff (by decide +kernel)
theorem i_Law_pawnOff_25 : m_at k_Law_pawnOff 25 = some (.iconst 1, 1, 0) := m_at_of r_Law_pawnOff (by decide +kernel)
theorem i_Law_pawnOff_26 : m_at k_Law_pawnOff 26 = some (.if_icmp .ge (5), 3, 0) := m_at_of r_Law_pawnOff (by decide +kernel)
theorem i_Law_pawnOff_29 : m_at k_Law_pawnOff 29 = some (.iconst (-1), 1, 0) := m_at_of r_Law_pawnOff (by decide +kernel)
theorem i_Law_pawnOff_30 : m_at k_Law_pawnOff 30 = some (.ireturn, 1, 0) := m_at_of r_Law_pawnOff (by decide +kernel)
theorem i_Law_pawnOff_31 : m_at k_Law_pawnOff 31 = some (.aload_n 1, 1, 0) := m_at_of r_Law_pawnOff (by decide +kernel)
theorem i_Law_pawnOff_32 : m_at k_Law_pawnOff 32 = some (.bipush 39, 2, 0) := m_at_of r_Law_pawnOff (by decide +kernel)
theorem i_Law_pawnOff_34 : m_at k_Law_pawnOff 34 = some (.iload_n 3, 1, 0) := m_at_of r_Law_pawnOff (by decide +kernel)
theorem i_Law_pawnOff_35 : m_at k_Law_pawnOff 35 = some (.invokevirtual 49, 3, 278) := m_at_of r_Law_pawnOff (by decide +kernel)
theorem i_Law_pawnOff_38 : m_at k_Law_pawnOff 38 = some (.istore 5, 2, 0) := m_at_of r_Law_pawnOff (by decide +kernel)
theorem i_Law_pawnOff_40 : m_at k_Law_pawnOff 40 = some (.aload_n 1, 1, 0) := m_at_of r_Law_pawnOff (by decide +kernel)
theorem i_Law_pawnOff_41 : m_at k_Law_pawnOff 41 = some (.bipush 8, 2, 0) := m_at_of r_Law_pawnOff (by decide +kernel)
theorem i_Law_pawnOff_43 : m_at k_Law_pawnOff 43 = some (.iload 5, 2, 0) := m_at_of r_Law_pawnOff (by decide +kernel)
theorem i_Law_pawnOff_45 : m_at k_Law_pawnOff 45 = some (.aload_n 1, 1, 0) := m_at_of r_Law_pawnOff (by decide +kernel)
theorem i_Law_pawnOff_46 : m_at k_Law_pawnOff 46 = some (.bipush 8, 2, 0) := m_at_of r_Law_pawnOff (by decide +kernel)
theorem i_Law_pawnOff_48 : m_at k_Law_pawnOff 48 = some (.iload 5, 2, 0) := m_at_of r_Law_pawnOff (by decide +kernel)
theorem i_Law_pawnOff_50 : m_at k_Law_pawnOff 50 = some (.invokevirtual 49, 3, 278) := m_at_of r_Law_pawnOff (by decide +kernel)
theorem i_Law_pawnOff_53 : m_at k_Law_pawnOff 53 = some (.iload 4, 2, 0) := m_at_of r_Law_pawnOff (by decide +kernel)
theorem i_Law_pawnOff_55 : m_at k_Law_pawnOff 55 = some (.iadd, 1, 0) := m_at_of r_Law_pawnOff (by decide +kernel)
theorem i_Law_pawnOff_56 : m_at k_Law_pawnOff 56 = some (.sipush 9999, 3, 0) := m_at_of r_Law_pawnOff (by decide +kernel)
theorem i_Law_pawnOff_59 : m_at k_Law_pawnOff 59 = some (.invokestatic 31, 3, 280) := m_at_of r_Law_pawnOff (by decide +kernel)
theorem i_Law_pawnOff_62 : m_at k_Law_pawnOff 62 = some (.invokevirtual 56, 3, 281) := m_at_of r_Law_pawnOff (by decide +kernel)
theorem i_Law_pawnOff_65 : m_at k_Law_pawnOff 65 = some (.aload_n 1, 1, 0) := m_at_of r_Law_pawnOff (by decide +kernel)
theorem i_Law_pawnOff_66 : m_at k_Law_pawnOff 66 = some (.bipush 99, 2, 0) := m_at_of r_Law_pawnOff (by decide +kernel)
theorem i_Law_pawnOff_68 : m_at k_Law_pawnOff 68 = some (.iload_n 3, 1, 0) := m_at_of r_Law_pawnOff (by decide +kernel)
theorem i_Law_pawnOff_69 : m_at k_Law_pawnOff 69 = some (.iconst 3, 1, 0) := m_at_of r_Law_pawnOff (by decide +kernel)
theorem i_Law_pawnOff_70 : m_at k_Law_pawnOff 70 = some (.invokevirtual 56, 3, 281) := m_at_of r_Law_pawnOff (by decide +kernel)
theorem i_Law_pawnOff_73 : m_at k_Law_pawnOff 73 = some (.iload 4, 2, 0) := m_at_of r_Law_pawnOff (by decide +kernel)
theorem i_Law_pawnOff_75 : m_at k_Law_pawnOff 75 = some (.ireturn, 1, 0) := m_at_of r_Law_pawnOff (by decide +kernel)
set_option maxRecDepth 20000 in
set_option maxHeartbeats 1000000 in
theorem E_Law_pawnOff (x : m_X) (s : m_H) (w : Nat) (r1 : Nat) (r2 : Nat) (n3 : Int32) : m_M x k_Law_pawnOff [.ref w, .ref r1, .ref r2, .int n3] s = if m_isO s w 1 = true then (m_bI (m_M x k_World_isHow [.ref r1, .int n3, .int 0] s) fun v3 s3 => if v3 = 0 then (m_D x 6 k_Law_pawnOff 21 [some (.ref w), some (.ref r1), some (.ref r2), some (.int n3), none, none] [.int 0] s3) else m_bI (m_M x k_Law_amount [.ref w, .int 3, .ref r2, .ref r1, .int n3] s3) fun v14 s14 => m_D x 6 k_Law_pawnOff 21 [some (.ref w), some (.ref r1), some (.ref r2), some (.int n3), none, none] [.int v14] s14) else none := by
  refine e_M1 (L0 := [some (.ref w), some (.ref r1), some (.ref r2), some (.int n3), none, none]) rfl (by decide +kernel) rfl (q_Law_pawnOff _) rfl ?_
  refine e_aload_n i_Law_pawnOff_0 rfl ?_
  refine e_iload_n i_Law_pawnOff_1 rfl ?_
  refine e_iconst (v := 0) i_Law_pawnOff_2 (by decide) ?_
  refine e_callI (as := [.ref r1, .int n3, .int 0]) (st' := []) i_Law_pawnOff_3 lm_290 (Or.inr (Or.inl ⟨rfl, rfl⟩)) w_World_isHow rfl rfl rfl (Nat.le_of_ble_eq_true rfl) (Nat.le_of_ble_eq_true rfl) (m_rlt (q_World_isHow _) (by decide)) rfl (fun v3 s3 => ?_)
  refine e_ifeq (t := 20) i_Law_pawnOff_6 (by decide) ?_ ?_
  · refine e_iconst (v := 0) i_Law_pawnOff_20 (by decide) ?_
    exact rfl
  · refine e_aload_n i_Law_pawnOff_9 rfl ?_
    refine e_iconst (v := 3) i_Law_pawnOff_10 (by decide) ?_
    refine e_aload_n i_Law_pawnOff_11 rfl ?_
    refine e_aload_n i_Law_pawnOff_12 rfl ?_
    refine e_iload_n i_Law_pawnOff_13 rfl ?_
    refine e_callI (as := [.ref w, .int 3, .ref r2, .ref r1, .int n3]) (st' := []) i_Law_pawnOff_14 lm_279 (Or.inr (Or.inl ⟨rfl, rfl⟩)) w_Law_amount rfl rfl rfl (Nat.le_of_ble_eq_true rfl) (Nat.le_of_ble_eq_true rfl) (m_rlt (q_Law_amount _) (by decide)) rfl (fun v14 s14 => ?_)
    refine e_goto (t := 21) i_Law_pawnOff_17 (by decide) ?_
    exact rfl
set_option maxRecDepth 20000 in
set_option maxHeartbeats 1000000 in
theorem E_Law_pawnOff_21 (x : m_X) (ρ : Nat) (hρ : 6 ≤ ρ) (s : m_H) (w : Nat) (r1 : Nat) (r2 : Nat) (n3 : Int32) (nt0 : Int32)  : m_D x ρ k_Law_pawnOff 21 [some (.ref w), some (.ref r1), some (.ref r2), some (.int n3), none, none] [.int nt0] s = if 1 ≤ nt0 then (m_bI (m_M x k_World_at [.ref r1, .int 39, .int n3] s) fun v35 s35 => m_bI (m_M x k_World_at [.ref r1, .int 8, .int v35] s35) fun v50 s50 => m_bI (m_M x k_Math_min_II [.int (v50 + nt0), .int 9999] s50) fun v59 s59 => m_bV (m_M x k_World_change [.ref r1, .int 8, .int v35, .int v59] s59) fun s62 => m_bV (m_M x k_World_change [.ref r1, .int 99, .int n3, .int 3] s62) fun s70 => some (some (.int nt0), s70)) else some (some (.int (-1)), s) := by
  refine e_istore (L' := [some (.ref w), some (.ref r1), some (.ref r2), some (.int n3), some (.int nt0), none]) i_Law_pawnOff_21 (of_decide_eq_true rfl) rfl ?_
  refine e_iload i_Law_pawnOff_23 rfl ?_
  refine e_iconst (v := 1) i_Law_pawnOff_25 (by decide) ?_
  refine e_icmpge (t := 31) i_Law_pawnOff_26 (by decide) ?_ ?_
  · refine e_aload_n i_Law_pawnOff_31 rfl ?_
    refine e_bipush (v := 39) i_Law_pawnOff_32 (by decide) ?_
    refine e_iload_n i_Law_pawnOff_34 rfl ?_
    refine e_callI (as := [.ref r1, .int 39, .int n3]) (st' := []) i_Law_pawnOff_35 lm_278 (Or.inr (Or.inl ⟨rfl, rfl⟩)) w_World_at rfl rfl rfl (Nat.le_of_ble_eq_true rfl) (Nat.le_of_ble_eq_true rfl) (m_rlt (q_World_at _) (Nat.lt_of_lt_of_le (by decide) hρ)) rfl (fun v35 s35 => ?_)
    refine e_istore (L' := [some (.ref w), some (.ref r1), some (.ref r2), some (.int n3), some (.int nt0), some (.int v35)]) i_Law_pawnOff_38 (of_decide_eq_true rfl) rfl ?_
    refine e_aload_n i_Law_pawnOff_40 rfl ?_
    refine e_bipush (v := 8) i_Law_pawnOff_41 (by decide) ?_
    refine e_iload i_Law_pawnOff_43 rfl ?_
    refine e_aload_n i_Law_pawnOff_45 rfl ?_
    refine e_bipush (v := 8) i_Law_pawnOff_46 (by decide) ?_
    refine e_iload i_Law_pawnOff_48 rfl ?_
    refine e_callI (as := [.ref r1, .int 8, .int v35]) (st' := [.int v35, .int 8, .ref r1]) i_Law_pawnOff_50 lm_278 (Or.inr (Or.inl ⟨rfl, rfl⟩)) w_World_at rfl rfl rfl (Nat.le_of_ble_eq_true rfl) (Nat.le_of_ble_eq_true rfl) (m_rlt (q_World_at _) (Nat.lt_of_lt_of_le (by decide) hρ)) rfl (fun v50 s50 => ?_)
    refine e_iload i_Law_pawnOff_53 rfl ?_
    refine e_iadd i_Law_pawnOff_55 ?_
    refine e_sipush (v := 9999) i_Law_pawnOff_56 (by decide) ?_
    refine e_callI (as := [.int (v50 + nt0), .int 9999]) (st' := [.int v35, .int 8, .ref r1]) i_Law_pawnOff_59 lm_280 (Or.inl ⟨rfl, rfl⟩) w_Math_min_II rfl rfl rfl (Nat.le_of_ble_eq_true rfl) (Nat.le_of_ble_eq_true rfl) (m_rlt (q_Math_min_II _) (Nat.lt_of_lt_of_le (by decide) hρ)) rfl (fun v59 s59 => ?_)
    refine e_callV (as := [.ref r1, .int 8, .int v35, .int v59]) (st' := []) i_Law_pawnOff_62 lm_281 (Or.inr (Or.inl ⟨rfl, rfl⟩)) w_World_change rfl rfl rfl (Nat.le_of_ble_eq_true rfl) (Nat.le_of_ble_eq_true rfl) (m_rlt (q_World_change _) (Nat.lt_of_lt_of_le (by decide) hρ)) rfl (fun s62 => ?_)
    refine e_aload_n i_Law_pawnOff_65 rfl ?_
    refine e_bipush (v := 99) i_Law_pawnOff_66 (by decide) ?_
    refine e_iload_n i_Law_pawnOff_68 rfl ?_
    refine e_iconst (v := 3) i_Law_pawnOff_69 (by decide) ?_
    refine e_callV (as := [.ref r1, .int 99, .int n3, .int 3]) (st' := []) i_Law_pawnOff_70 lm_281 (Or.inr (Or.inl ⟨rfl, rfl⟩)) w_World_change rfl rfl rfl (Nat.le_of_ble_eq_true rfl) (Nat.le_of_ble_eq_true rfl) (m_rlt (q_World_change _) (Nat.lt_of_lt_of_le (by decide) hρ)) rfl (fun s70 => ?_)
    refine e_iload i_Law_pawnOff_73 rfl ?_
    exact e_iretI i_Law_pawnOff_75 rfl
  · refine e_iconst (v := (-1)) i_Law_pawnOff_29 (by decide) ?_
    exact e_iretI i_Law_pawnOff_30 rfl
set_option maxRecDepth 20000 in
set_option maxHeartbeats 1000000 in
theorem E_Law_pawnOff_N (x : m_X) (s : m_H) (w : Nat) (r1 : Nat) (n3 : Int32) : m_M x k_Law_pawnOff [.ref w, .ref r1, .null, .int n3] s = if m_isO s w 1 = true then (m_bI (m_M x k_World_isHow [.ref r1, .int n3, .int 0] s) fun v3 s3 => if v3 = 0 then (m_D x 6 k_Law_pawnOff 21 [some (.ref w), some (.ref r1), some (.null), some (.int n3), none, none] [.int 0] s3) else m_bI (m_M x k_Law_amount [.ref w, .int 3, .null, .ref r1, .int n3] s3) fun v14 s14 => m_D x 6 k_Law_pawnOff 21 [some (.ref w), some (.ref r1), some (.null), some (.int n3), none, none] [.int v14] s14) else none := by
  refine e_M1 (L0 := [some (.ref w), some (.ref r1), some (.null), some (.int n3), none, none]) rfl (by decide +kernel) rfl (q_Law_pawnOff _) rfl ?_
  refine e_aload_n i_Law_pawnOff_0 rfl ?_
  refine e_iload_n i_Law_pawnOff_1 rfl ?_
  refine e_iconst (v := 0) i_Law_pawnOff_2 (by decide) ?_
  refine e_callI (as := [.ref r1, .int n3, .int 0]) (st' := []) i_Law_pawnOff_3 lm_290 (Or.inr (Or.inl ⟨rfl, rfl⟩)) w_World_isHow rfl rfl rfl (Nat.le_of_ble_eq_true rfl) (Nat.le_of_ble_eq_true rfl) (m_rlt (q_World_isHow _) (by decide)) rfl (fun v3 s3 => ?_)
  refine e_ifeq (t := 20) i_Law_pawnOff_6 (by decide) ?_ ?_
  · refine e_iconst (v := 0) i_Law_pawnOff_20 (by decide) ?_
    exact rfl
  · refine e_aload_n i_Law_pawnOff_9 rfl ?_
    refine e_iconst (v := 3) i_Law_pawnOff_10 (by decide) ?_
    refine e_aload_nN i_Law_pawnOff_11 rfl ?_
    refine e_aload_n i_Law_pawnOff_12 rfl ?_
    refine e_iload_n i_Law_pawnOff_13 rfl ?_
    refine e_callI (as := [.ref w, .int 3, .null, .ref r1, .int n3]) (st' := []) i_Law_pawnOff_14 lm_279 (Or.inr (Or.inl ⟨rfl, rfl⟩)) w_Law_amount rfl rfl rfl (Nat.le_of_ble_eq_true rfl) (Nat.le_of_ble_eq_true rfl) (m_rlt (q_Law_amount _) (by decide)) rfl (fun v14 s14 => ?_)
    refine e_goto (t := 21) i_Law_pawnOff_17 (by decide) ?_
    exact rfl
set_option maxRecDepth 20000 in
set_option maxHeartbeats 1000000 in
theorem E_Law_pawnOff_N_21 (x : m_X) (ρ : Nat) (hρ : 6 ≤ ρ) (s : m_H) (w : Nat) (r1 : Nat) (n3 : Int32) (nt0 : Int32)  : m_D x ρ k_Law_pawnOff 21 [some (.ref w), some (.ref r1), some (.null), some (.int n3), none, none] [.int nt0] s = if 1 ≤ nt0 then (m_bI (m_M x k_World_at [.ref r1, .int 39, .int n3] s) fun v35 s35 => m_bI (m_M x k_World_at [.ref r1, .int 8, .int v35] s35) fun v50 s50 => m_bI (m_M x k_Math_min_II [.int (v50 + nt0), .int 9999] s50) fun v59 s59 => m_bV (m_M x k_World_change [.ref r1, .int 8, .int v35, .int v59] s59) fun s62 => m_bV (m_M x k_World_change [.ref r1, .int 99, .int n3, .int 3] s62) fun s70 => some (some (.int nt0), s70)) else some (some (.int (-1)), s) := by
  refine e_istore (L' := [some (.ref w), some (.ref r1), some (.null), some (.int n3), some (.int nt0), none]) i_Law_pawnOff_21 (of_decide_eq_true rfl) rfl ?_
  refine e_iload i_Law_pawnOff_23 rfl ?_
  refine e_iconst (v := 1) i_Law_pawnOff_25 (by decide) ?_
  refine e_icmpge (t := 31) i_Law_pawnOff_26 (by decide) ?_ ?_
  · refine e_aload_n i_Law_pawnOff_31 rfl ?_
    refine e_bipush (v := 39) i_Law_pawnOff_32 (by decide) ?_
    refine e_iload_n i_Law_pawnOff_34 rfl ?_
    refine e_callI (as := [.ref r1, .int 39, .int n3]) (st' := []) i_Law_pawnOff_35 lm_278 (Or.inr (Or.inl ⟨rfl, rfl⟩)) w_World_at rfl rfl rfl (Nat.le_of_ble_eq_true rfl) (Nat.le_of_ble_eq_true rfl) (m_rlt (q_World_at _) (Nat.lt_of_lt_of_le (by decide) hρ)) rfl (fun v35 s35 => ?_)
    refine e_istore (L' := [some (.ref w), some (.ref r1), some (.null), some (.int n3), some (.int nt0), some (.int v35)]) i_Law_pawnOff_38 (of_decide_eq_true rfl) rfl ?_
    refine e_aload_n i_Law_pawnOff_40 rfl ?_
    refine e_bipush (v := 8) i_Law_pawnOff_41 (by decide) ?_
    refine e_iload i_Law_pawnOff_43 rfl ?_
    refine e_aload_n i_Law_pawnOff_45 rfl ?_
    refine e_bipush (v := 8) i_Law_pawnOff_46 (by decide) ?_
    refine e_iload i_Law_pawnOff_48 rfl ?_
    refine e_callI (as := [.ref r1, .int 8, .int v35]) (st' := [.int v35, .int 8, .ref r1]) i_Law_pawnOff_50 lm_278 (Or.inr (Or.inl ⟨rfl, rfl⟩)) w_World_at rfl rfl rfl (Nat.le_of_ble_eq_true rfl) (Nat.le_of_ble_eq_true rfl) (m_rlt (q_World_at _) (Nat.lt_of_lt_of_le (by decide) hρ)) rfl (fun v50 s50 => ?_)
    refine e_iload i_Law_pawnOff_53 rfl ?_
    refine e_iadd i_Law_pawnOff_55 ?_
    refine e_sipush (v := 9999) i_Law_pawnOff_56 (by decide) ?_
    refine e_callI (as := [.int (v50 + nt0), .int 9999]) (st' := [.int v35, .int 8, .ref r1]) i_Law_pawnOff_59 lm_280 (Or.inl ⟨rfl, rfl⟩) w_Math_min_II rfl rfl rfl (Nat.le_of_ble_eq_true rfl) (Nat.le_of_ble_eq_true rfl) (m_rlt (q_Math_min_II _) (Nat.lt_of_lt_of_le (by decide) hρ)) rfl (fun v59 s59 => ?_)
    refine e_callV (as := [.ref r1, .int 8, .int v35, .int v59]) (st' := []) i_Law_pawnOff_62 lm_281 (Or.inr (Or.inl ⟨rfl, rfl⟩)) w_World_change rfl rfl rfl (Nat.le_of_ble_eq_true rfl) (Nat.le_of_ble_eq_true rfl) (m_rlt (q_World_change _) (Nat.lt_of_lt_of_le (by decide) hρ)) rfl (fun s62 => ?_)
    refine e_aload_n i_Law_pawnOff_65 rfl ?_
    refine e_bipush (v := 99) i_Law_pawnOff_66 (by decide) ?_
    refine e_iload_n i_Law_pawnOff_68 rfl ?_
    refine e_iconst (v := 3) i_Law_pawnOff_69 (by decide) ?_
    refine e_callV (as := [.ref r1, .int 99, .int n3, .int 3]) (st' := []) i_Law_pawnOff_70 lm_281 (Or.inr (Or.inl ⟨rfl, rfl⟩)) w_World_change rfl rfl rfl (Nat.le_of_ble_eq_true rfl) (Nat.le_of_ble_eq_true rfl) (m_rlt (q_World_change _) (Nat.lt_of_lt_of_le (by decide) hρ)) rfl (fun s70 => ?_)
    refine e_iload i_Law_pawnOff_73 rfl ?_
    exact e_iretI i_Law_pawnOff_75 rfl
  · refine e_iconst (v := (-1)) i_Law_pawnOff_29 (by decide) ?_
    exact e_iretI i_Law_pawnOff_30 rfl
theorem i_Law_amount_0 : m_at k_Law_amount 0 = some (.aload_n 2, 1, 0) := m_at_of r_Law_amount (by decide +kernel)
theorem i_Law_amount_1 : m_at k_Law_amount 1 = some (.ifnonnull (7), 3, 0) := m_at_of r_Law_amount (by decide +kernel)
theorem i_Law_amount_4 : m_at k_Law_amount 4 = some (.iconst (-1), 1, 0) := m_at_of r_Law_amount (by decide +kernel)
theorem i_Law_amount_5 : m_at k_Law_amount 5 = some (.goto (8), 3, 0) := m_at_of r_Law_amount (by decide +kernel)
theorem i_Law_amount_8 : m_at k_Law_amount 8 = some (.aload_n 2, 1, 0) := m_at_of r_Law_amount (by decide +kernel)
theorem i_Law_amount_9 : m_at k_Law_amount 9 = some (.iload_n 1, 1, 0) := m_at_of r_Law_amount (by decide +kernel)
theorem i_Law_amount_10 : m_at k_Law_amount 10 = some (.invokevirtual 15, 3, 297) := m_at_of r_Law_amount (by decide +kernel)
theorem i_Law_amount_13 : m_at k_Law_amount 13 = some (.istore 5, 2, 0) := m_at_of r_Law_amount (by decide +kernel)
theorem i_Law_amount_15 : m_at k_Law_amount 15 = some (.iload 5, 2, 0) := m_at_of r_Law_amount (by decide +kernel)
theorem i_Law_amount_17 : m_at k_Law_amount 17 = some (.iconst (-1), 1, 0) := m_at_of r_Law_amount (by decide +kernel)
theorem i_Law_amount_18 : m_at k_Law_amount 18 = some (.if_icmp .ne (13), 3, 0) := m_at_of r_Law_amount (by decide +kernel)
theorem i_Law_amount_21 : m_at k_Law_amount 21 = some (.iload_n 1, 1, 0) := m_at_of r_Law_amount (by decide +kernel)
theorem i_Law_amount_22 : m_at k_Law_amount 22 = some (.aload_n 3, 1, 0) := m_at_of r_Law_amount (by decide +kernel)
theorem i_Law_amount_23 : m_at k_Law_amount 23 = some (.iload 4, 2, 0) := m_at_of r_Law_amount (by decide +kernel)
theorem i_Law_amount_25 : m_at k_Law_amount 25 = some (.invokestatic 21, 3, 298) := m_at_of r_Law_amount (by decide +kernel)
theorem i_Law_amount_28 : m_at k_Law_amount 28 = some (.goto (13), 3, 0) := m_at_of r_Law_amount (by decide +kernel)
theorem i_Law_amount_31 : m_at k_Law_amount 31 = some (.aload_n 0, 1, 0) := m_at_of r_Law_amount (by decide +kernel)
theorem i_Law_amount_32 : m_at k_Law_amount 32 = some (.aload_n 2, 1, 0) := m_at_of r_Law_amount (by decide +kernel)
theorem i_Law_amount_33 : m_at k_Law_amount 33 = some (.iload 5, 2, 0) := m_at_of r_Law_amount (by decide +kernel)
theorem i_Law_amount_35 : m_at k_Law_amount 35 = some (.aload_n 3, 1, 0) := m_at_of r_Law_amount (by decide +kernel)
theorem i_Law_amount_36 : m_at k_Law_amount 36 = some (.iload 4, 2, 0) := m_at_of r_Law_amount (by decide +kernel)
theorem i_Law_amount_38 : m_at k_Law_amount 38 = some (.invokevirtual 25, 3, 299) := m_at_of r_Law_amount (by decide +kernel)
theorem i_Law_amount_41 : m_at k_Law_amount 41 = some (.istore 6, 2, 0) := m_at_of r_Law_amount (by decide +kernel)
theorem i_Law_amount_43 : m_at k_Law_amount 43 = some (.iconst 0, 1, 0) := m_at_of r_Law_amount (by decide +kernel)
theorem i_Law_amount_44 : m_at k_Law_amount 44 = some (.iload 6, 2, 0) := m_at_of r_Law_amount (by decide +kernel)
theorem i_Law_amount_46 : m_at k_Law_amount 46 = some (.iload_n 1, 1, 0) := m_at_of r_Law_amount (by decide +kernel)
theorem i_Law_amount_47 : m_at k_Law_amount 47 = some (.iconst 2, 1, 0) := m_at_of r_Law_amount (by decide +kernel)
theorem i_Law_amount_48 : m_at k_Law_amount 48 = some (.if_icmp .ne (8), 3, 0) := m_at_of r_Law_amount (by decide +kernel)
theorem i_Law_amount_51 : m_at k_Law_amount 51 = some (.bipush 9, 2, 0) := m_at_of r_Law_amount (by decide +kernel)
theorem i_Law_amount_53 : m_at k_Law_amount 53 = some (.goto (5), 3, 0) := m_at_of r_Law_amount (by decide +kernel)
theorem i_Law_amount_56 : m_at k_Law_amount 56 = some (.bipush 99, 2, 0) := m_at_of r_Law_amount (by decide +kernel)
theorem i_Law_amount_58 : m_at k_Law_amount 58 = some (.invokestatic 31, 3, 280) := m_at_of r_Law_amount (by decide +kernel)
theorem i_Law_amount_61 : m_at k_Law_amount 61 = some (.invokestatic 37, 3, 300) := m_at_of r_Law_amount (by decide +kernel)
theorem i_Law_amount_64 : m_at k_Law_amount 64 = some (.ireturn, 1, 0) := m_at_of r_Law_amount (by decide +kernel)
set_option maxRecDepth 20000 in
set_option maxHeartbeats 1000000 in
theorem E_Law_amount (x : m_X) (s : m_H) (w : Nat) (n1 : Int32) (r2 : Nat) (r3 : Nat) (n4 : Int32) : m_M x k_Law_amount [.ref w, .int n1, .ref r2, .ref r3, .int n4] s = if m_isO s w 1 = true then (m_bI (m_M x k_Script_lawAt [.ref r2, .int n1] s) fun v10 s10 => m_D x 5 k_Law_amount 13 [some (.ref w), some (.int n1), some (.ref r2), some (.ref r3), some (.int n4), none, none] [.int v10] s10) else none := by
  refine e_M1 (L0 := [some (.ref w), some (.int n1), some (.ref r2), some (.ref r3), some (.int n4), none, none]) rfl (by decide +kernel) rfl (q_Law_amount _) rfl ?_
  refine e_aload_n i_Law_amount_0 rfl ?_
  refine e_ifnnR (t := 8) i_Law_amount_1 (by decide) ?_
  refine e_aload_n i_Law_amount_8 rfl ?_
  refine e_iload_n i_Law_amount_9 rfl ?_
  refine e_callI (as := [.ref r2, .int n1]) (st' := []) i_Law_amount_10 lm_297 (Or.inr (Or.inl ⟨rfl, rfl⟩)) w_Script_lawAt rfl rfl rfl (Nat.le_of_ble_eq_true rfl) (Nat.le_of_ble_eq_true rfl) (m_rlt (q_Script_lawAt _) (by decide)) rfl (fun v10 s10 => ?_)
  exact rfl
set_option maxRecDepth 20000 in
set_option maxHeartbeats 1000000 in
theorem E_Law_amount_13 (x : m_X) (ρ : Nat) (hρ : 5 ≤ ρ) (s : m_H) (w : Nat) (n1 : Int32) (r2 : Nat) (r3 : Nat) (n4 : Int32) (nt0 : Int32)  : m_D x ρ k_Law_amount 13 [some (.ref w), some (.int n1), some (.ref r2), some (.ref r3), some (.int n4), none, none] [.int nt0] s = if nt0 = (-1) then (m_bI (m_M x k_Law_plainAmount [.int n1, .ref r3, .int n4] s) fun v25 s25 => if n1 = 2 then (m_bI (m_M x k_Math_min_II [.int v25, .int 9] s25) fun v58 s58 => m_bI (m_M x k_Math_max_II [.int 0, .int v58] s58) fun v61 s61 => some (some (.int v61), s61)) else m_bI (m_M x k_Math_min_II [.int v25, .int 99] s25) fun v58 s58 => m_bI (m_M x k_Math_max_II [.int 0, .int v58] s58) fun v61 s61 => some (some (.int v61), s61)) else m_bI (m_M x k_Law_reckoned [.ref w, .ref r2, .int nt0, .ref r3, .int n4] s) fun v38 s38 => if n1 = 2 then (m_bI (m_M x k_Math_min_II [.int v38, .int 9] s38) fun v58 s58 => m_bI (m_M x k_Math_max_II [.int 0, .int v58] s58) fun v61 s61 => some (some (.int v61), s61)) else m_bI (m_M x k_Math_min_II [.int v38, .int 99] s38) fun v58 s58 => m_bI (m_M x k_Math_max_II [.int 0, .int v58] s58) fun v61 s61 => some (some (.int v61), s61) := by
  refine e_istore (L' := [some (.ref w), some (.int n1), some (.ref r2), some (.ref r3), some (.int n4), some (.int nt0), none]) i_Law_amount_13 (of_decide_eq_true rfl) rfl ?_
  refine e_iload i_Law_amount_15 rfl ?_
  refine e_iconst (v := (-1)) i_Law_amount_17 (by decide) ?_
  refine e_icmpne (t := 31) i_Law_amount_18 (by decide) ?_ ?_
  · refine e_aload_n i_Law_amount_31 rfl ?_
    refine e_aload_n i_Law_amount_32 rfl ?_
    refine e_iload i_Law_amount_33 rfl ?_
    refine e_aload_n i_Law_amount_35 rfl ?_
    refine e_iload i_Law_amount_36 rfl ?_
    refine e_callI (as := [.ref w, .ref r2, .int nt0, .ref r3, .int n4]) (st' := []) i_Law_amount_38 lm_299 (Or.inr (Or.inl ⟨rfl, rfl⟩)) w_Law_reckoned rfl rfl rfl (Nat.le_of_ble_eq_true rfl) (Nat.le_of_ble_eq_true rfl) (m_rlt (q_Law_reckoned _) (Nat.lt_of_lt_of_le (by decide) hρ)) rfl (fun v38 s38 => ?_)
    refine e_istore (L' := [some (.ref w), some (.int n1), some (.ref r2), some (.ref r3), some (.int n4), some (.int nt0), some (.int v38)]) i_Law_amount_41 (of_decide_eq_true rfl) rfl ?_
    refine e_iconst (v := 0) i_Law_amount_43 (by decide) ?_
    refine e_iload i_Law_amount_44 rfl ?_
    refine e_iload_n i_Law_amount_46 rfl ?_
    refine e_iconst (v := 2) i_Law_amount_47 (by decide) ?_
    refine e_icmpne (t := 56) i_Law_amount_48 (by decide) ?_ ?_
    · refine e_bipush (v := 99) i_Law_amount_56 (by decide) ?_
      refine e_callI (as := [.int v38, .int 99]) (st' := [.int 0]) i_Law_amount_58 lm_280 (Or.inl ⟨rfl, rfl⟩) w_Math_min_II rfl rfl rfl (Nat.le_of_ble_eq_true rfl) (Nat.le_of_ble_eq_true rfl) (m_rlt (q_Math_min_II _) (Nat.lt_of_lt_of_le (by decide) hρ)) rfl (fun v58 s58 => ?_)
      refine e_callI (as := [.int 0, .int v58]) (st' := []) i_Law_amount_61 lm_300 (Or.inl ⟨rfl, rfl⟩) w_Math_max_II rfl rfl rfl (Nat.le_of_ble_eq_true rfl) (Nat.le_of_ble_eq_true rfl) (m_rlt (q_Math_max_II _) (Nat.lt_of_lt_of_le (by decide) hρ)) rfl (fun v61 s61 => ?_)
      exact e_iretI i_Law_amount_64 rfl
    · refine e_bipush (v := 9) i_Law_amount_51 (by decide) ?_
      refine e_goto (t := 58) i_Law_amount_53 (by decide) ?_
      refine e_callI (as := [.int v38, .int 9]) (st' := [.int 0]) i_Law_amount_58 lm_280 (Or.inl ⟨rfl, rfl⟩) w_Math_min_II rfl rfl rfl (Nat.le_of_ble_eq_true rfl) (Nat.le_of_ble_eq_true rfl) (m_rlt (q_Math_min_II _) (Nat.lt_of_lt_of_le (by decide) hρ)) rfl (fun v58 s58 => ?_)
      refine e_callI (as := [.int 0, .int v58]) (st' := []) i_Law_amount_61 lm_300 (Or.inl ⟨rfl, rfl⟩) w_Math_max_II rfl rfl rfl (Nat.le_of_ble_eq_true rfl) (Nat.le_of_ble_eq_true rfl) (m_rlt (q_Math_max_II _) (Nat.lt_of_lt_of_le (by decide) hρ)) rfl (fun v61 s61 => ?_)
      exact e_iretI i_Law_amount_64 rfl
  · refine e_iload_n i_Law_amount_21 rfl ?_
    refine e_aload_n i_Law_amount_22 rfl ?_
    refine e_iload i_Law_amount_23 rfl ?_
    refine e_callI (as := [.int n1, .ref r3, .int n4]) (st' := []) i_Law_amount_25 lm_298 (Or.inl ⟨rfl, rfl⟩) w_Law_plainAmount rfl rfl rfl (Nat.le_of_ble_eq_true rfl) (Nat.le_of_ble_eq_true rfl) (m_rlt (q_Law_plainAmount _) (Nat.lt_of_lt_of_le (by decide) hρ)) rfl (fun v25 s25 => ?_)
    refine e_goto (t := 41) i_Law_amount_28 (by decide) ?_
    refine e_istore (L' := [some (.ref w), some (.int n1), some (.ref r2), some (.ref r3), some (.int n4), some (.int nt0), some (.int v25)]) i_Law_amount_41 (of_decide_eq_true rfl) rfl ?_
    refine e_iconst (v := 0) i_Law_amount_43 (by decide) ?_
    refine e_iload i_Law_amount_44 rfl ?_
    refine e_iload_n i_Law_amount_46 rfl ?_
    refine e_iconst (v := 2) i_Law_amount_47 (by decide) ?_
    refine e_icmpne (t := 56) i_Law_amount_48 (by decide) ?_ ?_
    · refine e_bipush (v := 99) i_Law_amount_56 (by decide) ?_
      refine e_callI (as := [.int v25, .int 99]) (st' := [.int 0]) i_Law_amount_58 lm_280 (Or.inl ⟨rfl, rfl⟩) w_Math_min_II rfl rfl rfl (Nat.le_of_ble_eq_true rfl) (Nat.le_of_ble_eq_true rfl) (m_rlt (q_Math_min_II _) (Nat.lt_of_lt_of_le (by decide) hρ)) rfl (fun v58 s58 => ?_)
      refine e_callI (as := [.int 0, .int v58]) (st' := []) i_Law_amount_61 lm_300 (Or.inl ⟨rfl, rfl⟩) w_Math_max_II rfl rfl rfl (Nat.le_of_ble_eq_true rfl) (Nat.le_of_ble_eq_true rfl) (m_rlt (q_Math_max_II _) (Nat.lt_of_lt_of_le (by decide) hρ)) rfl (fun v61 s61 => ?_)
      exact e_iretI i_Law_amount_64 rfl
    · refine e_bipush (v := 9) i_Law_amount_51 (by decide) ?_
      refine e_goto (t := 58) i_Law_amount_53 (by decide) ?_
      refine e_callI (as := [.int v25, .int 9]) (st' := [.int 0]) i_Law_amount_58 lm_280 (Or.inl ⟨rfl, rfl⟩) w_Math_min_II rfl rfl rfl (Nat.le_of_ble_eq_true rfl) (Nat.le_of_ble_eq_true rfl) (m_rlt (q_Math_min_II _) (Nat.lt_of_lt_of_le (by decide) hρ)) rfl (fun v58 s58 => ?_)
      refine e_callI (as := [.int 0, .int v58]) (st' := []) i_Law_amount_61 lm_300 (Or.inl ⟨rfl, rfl⟩) w_Math_max_II rfl rfl rfl (Nat.le_of_ble_eq_true rfl) (Nat.le_of_ble_eq_true rfl) (m_rlt (q_Math_max_II _) (Nat.lt_of_lt_of_le (by decide) hρ)) rfl (fun v61 s61 => ?_)
      exact e_iretI i_Law_amount_64 rfl
set_option maxRecDepth 20000 in
set_option maxHeartbeats 1000000 in
theorem E_Law_amount_N (x : m_X) (s : m_H) (w : Nat) (n1 : Int32) (r3 : Nat) (n4 : Int32) : m_M x k_Law_amount [.ref w, .int n1, .null, .ref r3, .int n4] s = if m_isO s w 1 = true then (m_D x 5 k_Law_amount 13 [some (.ref w), some (.int n1), some (.null), some (.ref r3), some (.int n4), none, none] [.int (-1)] s) else none := by
  refine e_M1 (L0 := [some (.ref w), some (.int n1), some (.null), some (.ref r3), some (.int n4), none, none]) rfl (by decide +kernel) rfl (q_Law_amount _) rfl ?_
  refine e_aload_nN i_Law_amount_0 rfl ?_
  refine e_ifnnN i_Law_amount_1 ?_
  refine e_iconst (v := (-1)) i_Law_amount_4 (by decide) ?_
  refine e_goto (t := 13) i_Law_amount_5 (by decide) ?_
  exact rfl
set_option maxRecDepth 20000 in
set_option maxHeartbeats 1000000 in
theorem E_Law_amount_N_13 (x : m_X) (ρ : Nat) (hρ : 5 ≤ ρ) (s : m_H) (w : Nat) (n1 : Int32) (r3 : Nat) (n4 : Int32) (nt0 : Int32)  : m_D x ρ k_Law_amount 13 [some (.ref w), some (.int n1), some (.null), some (.ref r3), some (.int n4), none, none] [.int nt0] s = if nt0 = (-1) then (m_bI (m_M x k_Law_plainAmount [.int n1, .ref r3, .int n4] s) fun v25 s25 => if n1 = 2 then (m_bI (m_M x k_Math_min_II [.int v25, .int 9] s25) fun v58 s58 => m_bI (m_M x k_Math_max_II [.int 0, .int v58] s58) fun v61 s61 => some (some (.int v61), s61)) else m_bI (m_M x k_Math_min_II [.int v25, .int 99] s25) fun v58 s58 => m_bI (m_M x k_Math_max_II [.int 0, .int v58] s58) fun v61 s61 => some (some (.int v61), s61)) else m_bI (m_M x k_Law_reckoned [.ref w, .null, .int nt0, .ref r3, .int n4] s) fun v38 s38 => if n1 = 2 then (m_bI (m_M x k_Math_min_II [.int v38, .int 9] s38) fun v58 s58 => m_bI (m_M x k_Math_max_II [.int 0, .int v58] s58) fun v61 s61 => some (some (.int v61), s61)) else m_bI (m_M x k_Math_min_II [.int v38, .int 99] s38) fun v58 s58 => m_bI (m_M x k_Math_max_II [.int 0, .int v58] s58) fun v61 s61 => some (some (.int v61), s61) := by
  refine e_istore (L' := [some (.ref w), some (.int n1), some (.null), some (.ref r3), some (.int n4), some (.int nt0), none]) i_Law_amount_13 (of_decide_eq_true rfl) rfl ?_
  refine e_iload i_Law_amount_15 rfl ?_
  refine e_iconst (v := (-1)) i_Law_amount_17 (by decide) ?_
  refine e_icmpne (t := 31) i_Law_amount_18 (by decide) ?_ ?_
  · refine e_aload_n i_Law_amount_31 rfl ?_
    refine e_aload_nN i_Law_amount_32 rfl ?_
    refine e_iload i_Law_amount_33 rfl ?_
    refine e_aload_n i_Law_amount_35 rfl ?_
    refine e_iload i_Law_amount_36 rfl ?_
    refine e_callI (as := [.ref w, .null, .int nt0, .ref r3, .int n4]) (st' := []) i_Law_amount_38 lm_299 (Or.inr (Or.inl ⟨rfl, rfl⟩)) w_Law_reckoned rfl rfl rfl (Nat.le_of_ble_eq_true rfl) (Nat.le_of_ble_eq_true rfl) (m_rlt (q_Law_reckoned _) (Nat.lt_of_lt_of_le (by decide) hρ)) rfl (fun v38 s38 => ?_)
    refine e_istore (L' := [some (.ref w), some (.int n1), some (.null), some (.ref r3), some (.int n4), some (.int nt0), some (.int v38)]) i_Law_amount_41 (of_decide_eq_true rfl) rfl ?_
    refine e_iconst (v := 0) i_Law_amount_43 (by decide) ?_
    refine e_iload i_Law_amount_44 rfl ?_
    refine e_iload_n i_Law_amount_46 rfl ?_
    refine e_iconst (v := 2) i_Law_amount_47 (by decide) ?_
    refine e_icmpne (t := 56) i_Law_amount_48 (by decide) ?_ ?_
    · refine e_bipush (v := 99) i_Law_amount_56 (by decide) ?_
      refine e_callI (as := [.int v38, .int 99]) (st' := [.int 0]) i_Law_amount_58 lm_280 (Or.inl ⟨rfl, rfl⟩) w_Math_min_II rfl rfl rfl (Nat.le_of_ble_eq_true rfl) (Nat.le_of_ble_eq_true rfl) (m_rlt (q_Math_min_II _) (Nat.lt_of_lt_of_le (by decide) hρ)) rfl (fun v58 s58 => ?_)
      refine e_callI (as := [.int 0, .int v58]) (st' := []) i_Law_amount_61 lm_300 (Or.inl ⟨rfl, rfl⟩) w_Math_max_II rfl rfl rfl (Nat.le_of_ble_eq_true rfl) (Nat.le_of_ble_eq_true rfl) (m_rlt (q_Math_max_II _) (Nat.lt_of_lt_of_le (by decide) hρ)) rfl (fun v61 s61 => ?_)
      exact e_iretI i_Law_amount_64 rfl
    · refine e_bipush (v := 9) i_Law_amount_51 (by decide) ?_
      refine e_goto (t := 58) i_Law_amount_53 (by decide) ?_
      refine e_callI (as := [.int v38, .int 9]) (st' := [.int 0]) i_Law_amount_58 lm_280 (Or.inl ⟨rfl, rfl⟩) w_Math_min_II rfl rfl rfl (Nat.le_of_ble_eq_true rfl) (Nat.le_of_ble_eq_true rfl) (m_rlt (q_Math_min_II _) (Nat.lt_of_lt_of_le (by decide) hρ)) rfl (fun v58 s58 => ?_)
      refine e_callI (as := [.int 0, .int v58]) (st' := []) i_Law_amount_61 lm_300 (Or.inl ⟨rfl, rfl⟩) w_Math_max_II rfl rfl rfl (Nat.le_of_ble_eq_true rfl) (Nat.le_of_ble_eq_true rfl) (m_rlt (q_Math_max_II _) (Nat.lt_of_lt_of_le (by decide) hρ)) rfl (fun v61 s61 => ?_)
      exact e_iretI i_Law_amount_64 rfl
  · refine e_iload_n i_Law_amount_21 rfl ?_
    refine e_aload_n i_Law_amount_22 rfl ?_
    refine e_iload i_Law_amount_23 rfl ?_
    refine e_callI (as := [.int n1, .ref r3, .int n4]) (st' := []) i_Law_amount_25 lm_298 (Or.inl ⟨rfl, rfl⟩) w_Law_plainAmount rfl rfl rfl (Nat.le_of_ble_eq_true rfl) (Nat.le_of_ble_eq_true rfl) (m_rlt (q_Law_plainAmount _) (Nat.lt_of_lt_of_le (by decide) hρ)) rfl (fun v25 s25 => ?_)
    refine e_goto (t := 41) i_Law_amount_28 (by decide) ?_
    refine e_istore (L' := [some (.ref w), some (.int n1), some (.null), some (.ref r3), some (.int n4), some (.int nt0), some (.int v25)]) i_Law_amount_41 (of_decide_eq_true rfl) rfl ?_
    refine e_iconst (v := 0) i_Law_amount_43 (by decide) ?_
    refine e_iload i_Law_amount_44 rfl ?_
    refine e_iload_n i_Law_amount_46 rfl ?_
    refine e_iconst (v := 2) i_Law_amount_47 (by decide) ?_
    refine e_icmpne (t := 56) i_Law_amount_48 (by decide) ?_ ?_
    · refine e_bipush (v := 99) i_Law_amount_56 (by decide) ?_
      refine e_callI (as := [.int v25, .int 99]) (st' := [.int 0]) i_Law_amount_58 lm_280 (Or.inl ⟨rfl, rfl⟩) w_Math_min_II rfl rfl rfl (Nat.le_of_ble_eq_true rfl) (Nat.le_of_ble_eq_true rfl) (m_rlt (q_Math_min_II _) (Nat.lt_of_lt_of_le (by decide) hρ)) rfl (fun v58 s58 => ?_)
      refine e_callI (as := [.int 0, .int v58]) (st' := []) i_Law_amount_61 lm_300 (Or.inl ⟨rfl, rfl⟩) w_Math_max_II rfl rfl rfl (Nat.le_of_ble_eq_true rfl) (Nat.le_of_ble_eq_true rfl) (m_rlt (q_Math_max_II _) (Nat.lt_of_lt_of_le (by decide) hρ)) rfl (fun v61 s61 => ?_)
      exact e_iretI i_Law_amount_64 rfl
    · refine e_bipush (v := 9) i_Law_amount_51 (by decide) ?_
      refine e_goto (t := 58) i_Law_amount_53 (by decide) ?_
      refine e_callI (as := [.int v25, .int 9]) (st' := [.int 0]) i_Law_amount_58 lm_280 (Or.inl ⟨rfl, rfl⟩) w_Math_min_II rfl rfl rfl (Nat.le_of_ble_eq_true rfl) (Nat.le_of_ble_eq_true rfl) (m_rlt (q_Math_min_II _) (Nat.lt_of_lt_of_le (by decide) hρ)) rfl (fun v58 s58 => ?_)
      refine e_callI (as := [.int 0, .int v58]) (st' := []) i_Law_amount_61 lm_300 (Or.inl ⟨rfl, rfl⟩) w_Math_max_II rfl rfl rfl (Nat.le_of_ble_eq_true rfl) (Nat.le_of_ble_eq_true rfl) (m_rlt (q_Math_max_II _) (Nat.lt_of_lt_of_le (by decide) hρ)) rfl (fun v61 s61 => ?_)
      exact e_iretI i_Law_amount_64 rfl
theorem i_Law_reckoned_0 : m_at k_Law_reckoned 0 = some (.aload_n 0, 1, 0) := m_at_of r_Law_reckoned (by decide +kernel)
theorem i_Law_reckoned_1 : m_at k_Law_reckoned 1 = some (.iconst 0, 1, 0) := m_at_of r_Law_reckoned (by decide +kernel)
theorem i_Law_reckoned_2 : m_at k_Law_reckoned 2 = some (.putfield 82, 3, 86) := m_at_of r_Law_reckoned (by decide +kernel)
theorem i_Law_reckoned_5 : m_at k_Law_reckoned 5 = some (.aload_n 1, 1, 0) := m_at_of r_Law_reckoned (by decide +kernel)
theorem i_Law_reckoned_6 : m_at k_Law_reckoned 6 = some (.iload_n 2, 1, 0) := m_at_of r_Law_reckoned (by decide +kernel)
theorem i_Law_reckoned_7 : m_at k_Law_reckoned 7 = some (.invokevirtual 86, 3, 301) := m_at_of r_Law_reckoned (by decide +kernel)
theorem i_Law_reckoned_10 : m_at k_Law_reckoned 10 = some (.istore 5, 2, 0) := m_at_of r_Law_reckoned (by decide +kernel)
theorem i_Law_reckoned_12 : m_at k_Law_reckoned 12 = some (.aload_n 1, 1, 0) := m_at_of r_Law_reckoned (by decide +kernel)
theorem i_Law_reckoned_13 : m_at k_Law_reckoned 13 = some (.iload_n 2, 1, 0) := m_at_of r_Law_reckoned (by decide +kernel)
theorem i_Law_reckoned_14 : m_at k_Law_reckoned 14 = some (.invokevirtual 89, 3, 302) := m_at_of r_Law_reckoned (by decide +kernel)
theorem i_Law_reckoned_17 : m_at k_Law_reckoned 17 = some (.istore 6, 2, 0) := m_at_of r_Law_reckoned (by decide +kernel)
theorem i_Law_reckoned_19 : m_at k_Law_reckoned 19 = some (.iload 6, 2, 0) := m_at_of r_Law_reckoned (by decide +kernel)
theorem i_Law_reckoned_21 : m_at k_Law_reckoned 21 = some (.iload 5, 2, 0) := m_at_of r_Law_reckoned (by decide +kernel)
theorem i_Law_reckoned_23 : m_at k_Law_reckoned 23 = some (.if_icmp .ge (211), 3, 0) := m_at_of r_Law_reckoned (by decide +kernel)
theorem i_Law_reckoned_26 : m_at k_Law_reckoned 26 = some (.aload_n 1, 1, 0) := m_at_of r_Law_reckoned (by decide +kernel)
theorem i_Law_reckoned_27 : m_at k_Law_reckoned 27 = some (.iload 6, 2, 0) := m_at_of r_Law_reckoned (by decide +kernel)
theorem i_Law_reckoned_29 : m_at k_Law_reckoned 29 = some (.invokevirtual 92, 3, 303) := m_at_of r_Law_reckoned (by decide +kernel)
theorem i_Law_reckoned_32 : m_at k_Law_reckoned 32 = some (.istore 7, 2, 0) := m_at_of r_Law_reckoned (by decide +kernel)
theorem i_Law_reckoned_34 : m_at k_Law_reckoned 34 = some (.iconst (-1), 1, 0) := m_at_of r_Law_reckoned (by decide +kernel)
theorem i_Law_reckoned_35 : m_at k_Law_reckoned 35 = some (.iload 7, 2, 0) := m_at_of r_Law_reckoned (by decide +kernel)
theorem i_Law_reckoned_37 : m_at k_Law_reckoned 37 = some (.isub, 1, 0) := m_at_of r_Law_reckoned (by decide +kernel)
theorem i_Law_reckoned_38 : m_at k_Law_reckoned 38 = some (.istore 8, 2, 0) := m_at_of r_Law_reckoned (by decide +kernel)
theorem i_Law_reckoned_40 : m_at k_Law_reckoned 40 = some (.iload 7, 2, 0) := m_at_of r_Law_reckoned (by decide +kernel)
theorem i_Law_reckoned_42 : m_at k_Law_reckoned 42 = some (.ifCond .lt (12), 3, 0) := m_at_of r_Law_reckoned (by decide +kernel)
theorem i_Law_reckoned_45 : m_at k_Law_reckoned 45 = some (.aload_n 0, 1, 0) := m_at_of r_Law_reckoned (by decide +kernel)
theorem i_Law_reckoned_46 : m_at k_Law_reckoned 46 = some (.iload 7, 2, 0) := m_at_of r_Law_reckoned (by decide +kernel)
theorem i_Law_reckoned_48 : m_at k_Law_reckoned 48 = some (.invokevirtual 95, 3, 304) := m_at_of r_Law_reckoned (by decide +kernel)
theorem i_Law_reckoned_51 : m_at k_Law_reckoned 51 = some (.goto (177), 3, 0) := m_at_of r_Law_reckoned (by decide +kernel)
theorem i_Law_reckoned_54 : m_at k_Law_reckoned 54 = some (.iload 8, 2, 0) := m_at_of r_Law_reckoned (by decide +kernel)
theorem i_Law_reckoned_56 : m_at k_Law_reckoned 56 = some (.invokestatic 99, 3, 305) := m_at_of r_Law_reckoned (by decide +kernel)
theorem i_Law_reckoned_59 : m_at k_Law_reckoned 59 = some (.ifCond .eq (18), 3, 0) := m_at_of r_Law_reckoned (by decide +kernel)
theorem i_Law_reckoned_62 : m_at k_Law_reckoned 62 = some (.aload_n 0, 1, 0) := m_at_of r_Law_reckoned (by decide +kernel)
theorem i_Law_reckoned_63 : m_at k_Law_reckoned 63 = some (.iload 8, 2, 0) := m_at_of r_Law_reckoned (by decide +kernel)
theorem i_Law_reckoned_65 : m_at k_Law_reckoned 65 = some (.aload_n 3, 1, 0) := m_at_of r_Law_reckoned (by decide +kernel)
theorem i_Law_reckoned_66 : m_at k_Law_reckoned 66 = some (.iload 4, 2, 0) := m_at_of r_Law_reckoned (by decide +kernel)
theorem i_Law_reckoned_68 : m_at k_Law_reckoned 68 = some (.invokestatic 102, 3, 306) := m_at_of r_Law_reckoned (by decide +kernel)
theorem i_Law_reckoned_71 : m_at k_Law_reckoned 71 = some (.invokevirtual 95, 3, 304) := m_at_of r_Law_reckoned (by decide +kernel)
theorem i_Law_reckoned_74 : m_at k_Law_reckoned 74 = some (.goto (154), 3, 0) := m_at_of r_Law_reckoned (by decide +kernel)
theorem i_Law_reckoned_77 : m_at k_Law_reckoned 77 = some (.iload 8, 2, 0) := m_at_of r_Law_reckoned (by decide +kernel)
theorem i_Law_reckoned_79 : m_at k_Law_reckoned 79 = some (.bipush 31, 2, 0) := m_at_of r_Law_reckoned (by decide +kernel)
theorem i_Law_reckoned_81 : m_at k_Law_reckoned 81 = some (.if_icmp .eq (10), 3, 0) := m_at_of r_Law_reckoned (by decide +kernel)
theorem i_Law_reckoned_84 : m_at k_Law_reckoned 84 = some (.iload 8, 2, 0) := m_at_of r_Law_reckoned (by decide +kernel)
theorem i_Law_reckoned_86 : m_at k_Law_reckoned 86 = some (.bipush 32, 2, 0) := m_at_of r_Law_reckoned (by decide +kernel)
theorem i_Law_reckoned_88 : m_at k_Law_reckoned 88 = some (.if_icmp .ne (58), 3, 0) := m_at_of r_Law_reckoned (by decide +kernel)
theorem i_Law_reckoned_91 : m_at k_Law_reckoned 91 = some (.iload 8, 2, 0) := m_at_of r_Law_reckoned (by decide +kernel)
theorem i_Law_reckoned_93 : m_at k_Law_reckoned 93 = some (.bipush 32, 2, 0) := m_at_of r_Law_reckoned (by decide +kernel)
theorem i_Law_reckoned_95 : m_at k_Law_reckoned 95 = some (.if_icmp .eq (10), 3, 0) := m_at_of r_Law_reckoned (by decide +kernel)
theorem i_Law_reckoned_98 : m_at k_Law_reckoned 98 = some (.aload_n 0, 1, 0) := m_at_of r_Law_reckoned (by decide +kernel)
theorem i_Law_reckoned_99 : m_at k_Law_reckoned 99 = some (.invokevirtual 105, 3, 307) := m_at_of r_Law_reckoned (by decide +kernel)
theorem i_Law_reckoned_102 : m_at k_Law_reckoned 102 = some (.ifCond .ne (7), 3, 0) := m_at_of r_Law_reckoned (by decide +kernel)
theorem i_Law_reckoned_105 : m_at k_Law_reckoned 105 = some (.iconst 1, 1, 0) := m_at_of r_Law_reckoned (by decide +kernel)
theorem i_Law_reckoned_106 : m_at k_Law_reckoned 106 = some (.goto (4), 3, 0) := m_at_of r_Law_reckoned (by decide +kernel)
theorem i_Law_reckoned_109 : m_at k_Law_reckoned 109 = some (.iconst 0, 1, 0) := m_at_of r_Law_reckoned (by decide +kernel)
theorem i_Law_reckoned_110 : m_at k_Law_reckoned 110 = some (.istore 9, 2, 0) := m_at_of r_Law_reckoned (by decide +kernel)
theorem i_Law_reckoned_112 : m_at k_Law_reckoned 112 = some (.iload 9, 2, 0) := m_at_of r_Law_reckoned (by decide +kernel)
theorem i_Law_reckoned_114 : m_at k_Law_reckoned 114 = some (.ifCond .eq (23), 3, 0) := m_at_of r_Law_reckoned (by decide +kernel)
theorem i_Law_reckoned_117 : m_at k_Law_reckoned 117 = some (.iload 6, 2, 0) := m_at_of r_Law_reckoned (by decide +kernel)
theorem i_Law_reckoned_119 : m_at k_Law_reckoned 119 = some (.iconst 1, 1, 0) := m_at_of r_Law_reckoned (by decide +kernel)
theorem i_Law_reckoned_120 : m_at k_Law_reckoned 120 = some (.iadd, 1, 0) := m_at_of r_Law_reckoned (by decide +kernel)
theorem i_Law_reckoned_121 : m_at k_Law_reckoned 121 = some (.aload_n 1, 1, 0) := m_at_of r_Law_reckoned (by decide +kernel)
theorem i_Law_reckoned_122 : m_at k_Law_reckoned 122 = some (.iload 6, 2, 0) := m_at_of r_Law_reckoned (by decide +kernel)
theorem i_Law_reckoned_124 : m_at k_Law_reckoned 124 = some (.iconst 1, 1, 0) := m_at_of r_Law_reckoned (by decide +kernel)
theorem i_Law_reckoned_125 : m_at k_Law_reckoned 125 = some (.iadd, 1, 0) := m_at_of r_Law_reckoned (by decide +kernel)
theorem i_Law_reckoned_126 : m_at k_Law_reckoned 126 = some (.invokevirtual 92, 3, 303) := m_at_of r_Law_reckoned (by decide +kernel)
theorem i_Law_reckoned_129 : m_at k_Law_reckoned 129 = some (.iconst 1, 1, 0) := m_at_of r_Law_reckoned (by decide +kernel)
theorem i_Law_reckoned_130 : m_at k_Law_reckoned 130 = some (.isub, 1, 0) := m_at_of r_Law_reckoned (by decide +kernel)
theorem i_Law_reckoned_131 : m_at k_Law_reckoned 131 = some (.invokestatic 37, 3, 300) := m_at_of r_Law_reckoned (by decide +kernel)
theorem i_Law_reckoned_134 : m_at k_Law_reckoned 134 = some (.goto (7), 3, 0) := m_at_of r_Law_reckoned (by decide +kernel)
theorem i_Law_reckoned_137 : m_at k_Law_reckoned 137 = some (.iload 6, 2, 0) := m_at_of r_Law_reckoned (by decide +kernel)
theorem i_Law_reckoned_139 : m_at k_Law_reckoned 139 = some (.iconst 1, 1, 0) := m_at_of r_Law_reckoned (by decide +kernel)
theorem i_Law_reckoned_140 : m_at k_Law_reckoned 140 = some (.iadd, 1, 0) := m_at_of r_Law_reckoned (by decide +kernel)
theorem i_Law_reckoned_141 : m_at k_Law_reckoned 141 = some (.istore 6, 2, 0) := m_at_of r_Law_reckoned (by decide +kernel)
theorem i_Law_reckoned_143 : m_at k_Law_reckoned 143 = some (.goto (85), 3, 0) := m_at_of r_Law_reckoned (by decide +kernel)
theorem i_Law_reckoned_146 : m_at k_Law_reckoned 146 = some (.iload 8, 2, 0) := m_at_of r_Law_reckoned (by decide +kernel)
theorem i_Law_reckoned_148 : m_at k_Law_reckoned 148 = some (.bipush 36, 2, 0) := m_at_of r_Law_reckoned (by decide +kernel)
theorem i_Law_reckoned_150 : m_at k_Law_reckoned 150 = some (.if_icmp .ne (16), 3, 0) := m_at_of r_Law_reckoned (by decide +kernel)
theorem i_Law_reckoned_153 : m_at k_Law_reckoned 153 = some (.aload_n 0, 1, 0) := m_at_of r_Law_reckoned (by decide +kernel)
theorem i_Law_reckoned_154 : m_at k_Law_reckoned 154 = some (.iconst 1, 1, 0) := m_at_of r_Law_reckoned (by decide +kernel)
theorem i_Law_reckoned_155 : m_at k_Law_reckoned 155 = some (.aload_n 0, 1, 0) := m_at_of r_Law_reckoned (by decide +kernel)
theorem i_Law_reckoned_156 : m_at k_Law_reckoned 156 = some (.invokevirtual 105, 3, 307) := m_at_of r_Law_reckoned (by decide +kernel)
theorem i_Law_reckoned_159 : m_at k_Law_reckoned 159 = some (.isub, 1, 0) := m_at_of r_Law_reckoned (by decide +kernel)
theorem i_Law_reckoned_160 : m_at k_Law_reckoned 160 = some (.invokevirtual 95, 3, 304) := m_at_of r_Law_reckoned (by decide +kernel)
theorem i_Law_reckoned_163 : m_at k_Law_reckoned 163 = some (.goto (65), 3, 0) := m_at_of r_Law_reckoned (by decide +kernel)
theorem i_Law_reckoned_166 : m_at k_Law_reckoned 166 = some (.iload 8, 2, 0) := m_at_of r_Law_reckoned (by decide +kernel)
theorem i_Law_reckoned_168 : m_at k_Law_reckoned 168 = some (.bipush 50, 2, 0) := m_at_of r_Law_reckoned (by decide +kernel)
theorem i_Law_reckoned_170 : m_at k_Law_reckoned 170 = some (.if_icmp .ne (15), 3, 0) := m_at_of r_Law_reckoned (by decide +kernel)
theorem i_Law_reckoned_173 : m_at k_Law_reckoned 173 = some (.aload_n 0, 1, 0) := m_at_of r_Law_reckoned (by decide +kernel)
theorem i_Law_reckoned_174 : m_at k_Law_reckoned 174 = some (.aload_n 0, 1, 0) := m_at_of r_Law_reckoned (by decide +kernel)
theorem i_Law_reckoned_175 : m_at k_Law_reckoned 175 = some (.invokevirtual 105, 3, 307) := m_at_of r_Law_reckoned (by decide +kernel)
theorem i_Law_reckoned_178 : m_at k_Law_reckoned 178 = some (.ineg, 1, 0) := m_at_of r_Law_reckoned (by decide +kernel)
theorem i_Law_reckoned_179 : m_at k_Law_reckoned 179 = some (.invokevirtual 95, 3, 304) := m_at_of r_Law_reckoned (by decide +kernel)
theorem i_Law_reckoned_182 : m_at k_Law_reckoned 182 = some (.goto (46), 3, 0) := m_at_of r_Law_reckoned (by decide +kernel)
theorem i_Law_reckoned_185 : m_at k_Law_reckoned 185 = some (.iload 8, 2, 0) := m_at_of r_Law_reckoned (by decide +kernel)
theorem i_Law_reckoned_187 : m_at k_Law_reckoned 187 = some (.bipush 29, 2, 0) := m_at_of r_Law_reckoned (by decide +kernel)
theorem i_Law_reckoned_189 : m_at k_Law_reckoned 189 = some (.if_icmp .ne (18), 3, 0) := m_at_of r_Law_reckoned (by decide +kernel)
theorem i_Law_reckoned_192 : m_at k_Law_reckoned 192 = some (.aload_n 0, 1, 0) := m_at_of r_Law_reckoned (by decide +kernel)
theorem i_Law_reckoned_193 : m_at k_Law_reckoned 193 = some (.aload_n 3, 1, 0) := m_at_of r_Law_reckoned (by decide +kernel)
theorem i_Law_reckoned_194 : m_at k_Law_reckoned 194 = some (.aload_n 0, 1, 0) := m_at_of r_Law_reckoned (by decide +kernel)
theorem i_Law_reckoned_195 : m_at k_Law_reckoned 195 = some (.invokevirtual 105, 3, 307) := m_at_of r_Law_reckoned (by decide +kernel)
theorem i_Law_reckoned_198 : m_at k_Law_reckoned 198 = some (.invokevirtual 108, 3, 308) := m_at_of r_Law_reckoned (by decide +kernel)
theorem i_Law_reckoned_201 : m_at k_Law_reckoned 201 = some (.invokevirtual 95, 3, 304) := m_at_of r_Law_reckoned (by decide +kernel)
theorem i_Law_reckoned_204 : m_at k_Law_reckoned 204 = some (.goto (24), 3, 0) := m_at_of r_Law_reckoned (by decide +kernel)
theorem i_Law_reckoned_207 : m_at k_Law_reckoned 207 = some (.aload_n 0, 1, 0) := m_at_of r_Law_reckoned (by decide +kernel)
theorem i_Law_reckoned_208 : m_at k_Law_reckoned 208 = some (.invokevirtual 105, 3, 307) := m_at_of r_Law_reckoned (by decide +kernel)
theorem i_Law_reckoned_211 : m_at k_Law_reckoned 211 = some (.istore 9, 2, 0) := m_at_of r_Law_reckoned (by decide +kernel)
theorem i_Law_reckoned_213 : m_at k_Law_reckoned 213 = some (.aload_n 0, 1, 0) := m_at_of r_Law_reckoned (by decide +kernel)
theorem i_Law_reckoned_214 : m_at k_Law_reckoned 214 = some (.iload 8, 2, 0) := m_at_of r_Law_reckoned (by decide +kernel)
theorem i_Law_reckoned_216 : m_at k_Law_reckoned 216 = some (.aload_n 0, 1, 0) := m_at_of r_Law_reckoned (by decide +kernel)
theorem i_Law_reckoned_217 : m_at k_Law_reckoned 217 = some (.invokevirtual 105, 3, 307) := m_at_of r_Law_reckoned (by decide +kernel)
theorem i_Law_reckoned_220 : m_at k_Law_reckoned 220 = some (.iload 9, 2, 0) := m_at_of r_Law_reckoned (by decide +kernel)
theorem i_Law_reckoned_222 : m_at k_Law_reckoned 222 = some (.invokestatic 111, 3, 309) := m_at_of r_Law_reckoned (by decide +kernel)
theorem i_Law_reckoned_225 : m_at k_Law_reckoned 225 = some (.invokevirtual 95, 3, 304) := m_at_of r_Law_reckoned (by decide +kernel)
theorem i_Law_reckoned_228 : m_at k_Law_reckoned 228 = some (.iinc 6 (1), 3, 0) := m_at_of r_Law_reckoned (by decide +kernel)
theorem i_Law_reckoned_231 : m_at k_Law_reckoned 231 = some (.goto (-212), 3, 0) := m_at_of r_Law_reckoned (by decide +kernel)
theorem i_Law_reckoned_234 : m_at k_Law_reckoned 234 = some (.aload_n 0, 1, 0) := m_at_of r_Law_reckoned (by decide +kernel)
theorem i_Law_reckoned_235 : m_at k_Law_reckoned 235 = some (.invokevirtual 105, 3, 307) := m_at_of r_Law_reckoned (by decide +kernel)
theorem i_Law_reckoned_238 : m_at k_Law_reckoned 238 = some (.ireturn, 1, 0) := m_at_of r_Law_reckoned (by decide +kernel)
set_option maxRecDepth 20000 in
set_option maxHeartbeats 1000000 in
theorem E_Law_reckoned (x : m_X) (s : m_H) (w : Nat) (r1 : Nat) (n2 : Int32) (r3 : Nat) (n4 : Int32) : m_M x k_Law_reckoned [.ref w, .ref r1, .int n2, .ref r3, .int n4] s = if m_isO s w 1 = true then ((m_pf s 1 1 w (.int 0)).bind fun s2 => m_bI (m_M x k_Script_stopOf [.ref r1, .int n2] s2) fun v7 s7 => m_bI (m_M x k_Script_startOf [.ref r1, .int n2] s7) fun v14 s14 => m_D x 4 k_Law_reckoned 19 [some (.ref w), some (.ref r1), some (.int n2), some (.ref r3), some (.int n4), some (.int v7), some (.int v14), none, none, none] [] s14) else none := by
  refine e_M1 (L0 := [some (.ref w), some (.ref r1), some (.int n2), some (.ref r3), some (.int n4), none, none, none, none, none]) rfl (by decide +kernel) rfl (q_Law_reckoned _) rfl ?_
  refine e_aload_n i_Law_reckoned_0 rfl ?_
  refine e_iconst (v := 0) i_Law_reckoned_1 (by decide) ?_
  refine e_putf i_Law_reckoned_2 lf_86 ft_1_1 rfl (fun s2 => ?_)
  refine e_aload_n i_Law_reckoned_5 rfl ?_
  refine e_iload_n i_Law_reckoned_6 rfl ?_
  refine e_callI (as := [.ref r1, .int n2]) (st' := []) i_Law_reckoned_7 lm_301 (Or.inr (Or.inl ⟨rfl, rfl⟩)) w_Script_stopOf rfl rfl rfl (Nat.le_of_ble_eq_true rfl) (Nat.le_of_ble_eq_true rfl) (m_rlt (q_Script_stopOf _) (by decide)) rfl (fun v7 s7 => ?_)
  refine e_istore (L' := [some (.ref w), some (.ref r1), some (.int n2), some (.ref r3), some (.int n4), some (.int v7), none, none, none, none]) i_Law_reckoned_10 (of_decide_eq_true rfl) rfl ?_
  refine e_aload_n i_Law_reckoned_12 rfl ?_
  refine e_iload_n i_Law_reckoned_13 rfl ?_
  refine e_callI (as := [.ref r1, .int n2]) (st' := []) i_Law_reckoned_14 lm_302 (Or.inr (Or.inl ⟨rfl, rfl⟩)) w_Script_startOf rfl rfl rfl (Nat.le_of_ble_eq_true rfl) (Nat.le_of_ble_eq_true rfl) (m_rlt (q_Script_startOf _) (by decide)) rfl (fun v14 s14 => ?_)
  refine e_istore (L' := [some (.ref w), some (.ref r1), some (.int n2), some (.ref r3), some (.int n4), some (.int v7), some (.int v14), none, none, none]) i_Law_reckoned_17 (of_decide_eq_true rfl) rfl ?_
  exact rfl
set_option maxRecDepth 20000 in
set_option maxHeartbeats 1000000 in
theorem E_Law_reckoned_19 (x : m_X) (ρ : Nat) (hρ : 4 ≤ ρ) (s : m_H) (w : Nat) (r1 : Nat) (n2 : Int32) (r3 : Nat) (n4 : Int32) (n5 : Int32) (n6 : Int32) (d7 : Option Value) (d8 : Option Value) (d9 : Option Value) (hd7 : m_nl d7 = true) (hd8 : m_nl d8 = true) (hd9 : m_nl d9 = true) : m_D x ρ k_Law_reckoned 19 [some (.ref w), some (.ref r1), some (.int n2), some (.ref r3), some (.int n4), some (.int n5), some (.int n6), d7, d8, d9] [] s = if n5 ≤ n6 then (m_bI (m_M x k_Law_pop [.ref w] s) fun v235 s235 => some (some (.int v235), s235)) else m_bI (m_M x k_Script_cellAt [.ref r1, .int n6] s) fun v29 s29 => if v29 < 0 then (m_bI (m_M x k_Words_isName [.int ((-1 : Int32) - v29)] s29) fun v56 s56 => if v56 = 0 then (if ((-1 : Int32) - v29) = 31 then (if ((-1 : Int32) - v29) = 32 then (m_D x ρ k_Law_reckoned 110 [some (.ref w), some (.ref r1), some (.int n2), some (.ref r3), some (.int n4), some (.int n5), some (.int n6), some (.int v29), some (.int ((-1 : Int32) - v29)), d9] [.int 1] s56) else m_bI (m_M x k_Law_pop [.ref w] s56) fun v99 s99 => if v99 = 0 then (m_D x ρ k_Law_reckoned 110 [some (.ref w), some (.ref r1), some (.int n2), some (.ref r3), some (.int n4), some (.int n5), some (.int n6), some (.int v29), some (.int ((-1 : Int32) - v29)), d9] [.int 1] s99) else m_D x ρ k_Law_reckoned 110 [some (.ref w), some (.ref r1), some (.int n2), some (.ref r3), some (.int n4), some (.int n5), some (.int n6), some (.int v29), some (.int ((-1 : Int32) - v29)), d9] [.int 0] s99) else if ((-1 : Int32) - v29) = 32 then (if ((-1 : Int32) - v29) = 32 then (m_D x ρ k_Law_reckoned 110 [some (.ref w), some (.ref r1), some (.int n2), some (.ref r3), some (.int n4), some (.int n5), some (.int n6), some (.int v29), some (.int ((-1 : Int32) - v29)), d9] [.int 1] s56) else m_bI (m_M x k_Law_pop [.ref w] s56) fun v99 s99 => if v99 = 0 then (m_D x ρ k_Law_reckoned 110 [some (.ref w), some (.ref r1), some (.int n2), some (.ref r3), some (.int n4), some (.int n5), some (.int n6), some (.int v29), some (.int ((-1 : Int32) - v29)), d9] [.int 1] s99) else m_D x ρ k_Law_reckoned 110 [some (.ref w), some (.ref r1), some (.int n2), some (.ref r3), some (.int n4), some (.int n5), some (.int n6), some (.int v29), some (.int ((-1 : Int32) - v29)), d9] [.int 0] s99) else if ((-1 : Int32) - v29) = 36 then (m_bI (m_M x k_Law_pop [.ref w] s56) fun v156 s156 => m_bV (m_M x k_Law_push [.ref w, .int ((1 : Int32) - v156)] s156) fun s160 => m_D x ρ k_Law_reckoned 19 [some (.ref w), some (.ref r1), some (.int n2), some (.ref r3), some (.int n4), some (.int n5), some (.int (n6 + (1 : Int32))), some (.int v29), some (.int ((-1 : Int32) - v29)), d9] [] s160) else if ((-1 : Int32) - v29) = 50 then (m_bI (m_M x k_Law_pop [.ref w] s56) fun v175 s175 => m_bV (m_M x k_Law_push [.ref w, .int (-v175)] s175) fun s179 => m_D x ρ k_Law_reckoned 19 [some (.ref w), some (.ref r1), some (.int n2), some (.ref r3), some (.int n4), some (.int n5), some (.int (n6 + (1 : Int32))), some (.int v29), some (.int ((-1 : Int32) - v29)), d9] [] s179) else if ((-1 : Int32) - v29) = 29 then (m_bI (m_M x k_Law_pop [.ref w] s56) fun v195 s195 => m_bI (m_M x k_World_leftsOf [.ref r3, .int v195] s195) fun v198 s198 => m_bV (m_M x k_Law_push [.ref w, .int v198] s198) fun s201 => m_D x ρ k_Law_reckoned 19 [some (.ref w), some (.ref r1), some (.int n2), some (.ref r3), some (.int n4), some (.int n5), some (.int (n6 + (1 : Int32))), some (.int v29), some (.int ((-1 : Int32) - v29)), d9] [] s201) else m_bI (m_M x k_Law_pop [.ref w] s56) fun v208 s208 => m_bI (m_M x k_Law_pop [.ref w] s208) fun v217 s217 => m_bI (m_M x k_Law_joined [.int ((-1 : Int32) - v29), .int v217, .int v208] s217) fun v222 s222 => m_bV (m_M x k_Law_push [.ref w, .int v222] s222) fun s225 => m_D x ρ k_Law_reckoned 19 [some (.ref w), some (.ref r1), some (.int n2), some (.ref r3), some (.int n4), some (.int n5), some (.int (n6 + (1 : Int32))), some (.int v29), some (.int ((-1 : Int32) - v29)), some (.int v208)] [] s225) else m_bI (m_M x k_Law_named [.int ((-1 : Int32) - v29), .ref r3, .int n4] s56) fun v68 s68 => m_bV (m_M x k_Law_push [.ref w, .int v68] s68) fun s71 => m_D x ρ k_Law_reckoned 19 [some (.ref w), some (.ref r1), some (.int n2), some (.ref r3), some (.int n4), some (.int n5), some (.int (n6 + (1 : Int32))), some (.int v29), some (.int ((-1 : Int32) - v29)), d9] [] s71) else m_bV (m_M x k_Law_push [.ref w, .int v29] s29) fun s48 => m_D x ρ k_Law_reckoned 19 [some (.ref w), some (.ref r1), some (.int n2), some (.ref r3), some (.int n4), some (.int n5), some (.int (n6 + (1 : Int32))), some (.int v29), some (.int ((-1 : Int32) - v29)), d9] [] s48 := by
  refine e_iload i_Law_reckoned_19 rfl ?_
  refine e_iload i_Law_reckoned_21 rfl ?_
  refine e_icmpge (t := 234) i_Law_reckoned_23 (by decide) ?_ ?_
  · refine e_aload_n i_Law_reckoned_234 rfl ?_
    refine e_callI (as := [.ref w]) (st' := []) i_Law_reckoned_235 lm_307 (Or.inr (Or.inl ⟨rfl, rfl⟩)) w_Law_pop rfl rfl rfl (Nat.le_of_ble_eq_true rfl) (Nat.le_of_ble_eq_true rfl) (m_rlt (q_Law_pop _) (Nat.lt_of_lt_of_le (by decide) hρ)) rfl (fun v235 s235 => ?_)
    exact e_iretI i_Law_reckoned_238 rfl
  · refine e_aload_n i_Law_reckoned_26 rfl ?_
    refine e_iload i_Law_reckoned_27 rfl ?_
    refine e_callI (as := [.ref r1, .int n6]) (st' := []) i_Law_reckoned_29 lm_303 (Or.inr (Or.inl ⟨rfl, rfl⟩)) w_Script_cellAt rfl rfl rfl (Nat.le_of_ble_eq_true rfl) (Nat.le_of_ble_eq_true rfl) (m_rlt (q_Script_cellAt _) (Nat.lt_of_lt_of_le (by decide) hρ)) rfl (fun v29 s29 => ?_)
    refine e_istore (L' := [some (.ref w), some (.ref r1), some (.int n2), some (.ref r3), some (.int n4), some (.int n5), some (.int n6), some (.int v29), d8, d9]) i_Law_reckoned_32 (of_decide_eq_true rfl) rfl ?_
    refine e_iconst (v := (-1)) i_Law_reckoned_34 (by decide) ?_
    refine e_iload i_Law_reckoned_35 rfl ?_
    refine e_isub i_Law_reckoned_37 ?_
    refine e_istore (L' := [some (.ref w), some (.ref r1), some (.int n2), some (.ref r3), some (.int n4), some (.int n5), some (.int n6), some (.int v29), some (.int ((-1 : Int32) - v29)), d9]) i_Law_reckoned_38 (of_decide_eq_true rfl) rfl ?_
    refine e_iload i_Law_reckoned_40 rfl ?_
    refine e_iflt (t := 54) i_Law_reckoned_42 (by decide) ?_ ?_
    · refine e_iload i_Law_reckoned_54 rfl ?_
      refine e_callI (as := [.int ((-1 : Int32) - v29)]) (st' := []) i_Law_reckoned_56 lm_305 (Or.inl ⟨rfl, rfl⟩) w_Words_isName rfl rfl rfl (Nat.le_of_ble_eq_true rfl) (Nat.le_of_ble_eq_true rfl) (m_rlt (q_Words_isName _) (Nat.lt_of_lt_of_le (by decide) hρ)) rfl (fun v56 s56 => ?_)
      refine e_ifeq (t := 77) i_Law_reckoned_59 (by decide) ?_ ?_
      · refine e_iload i_Law_reckoned_77 rfl ?_
        refine e_bipush (v := 31) i_Law_reckoned_79 (by decide) ?_
        refine e_icmpeq (t := 91) i_Law_reckoned_81 (by decide) ?_ ?_
        · refine e_iload i_Law_reckoned_91 rfl ?_
          refine e_bipush (v := 32) i_Law_reckoned_93 (by decide) ?_
          refine e_icmpeq (t := 105) i_Law_reckoned_95 (by decide) ?_ ?_
          · refine e_iconst (v := 1) i_Law_reckoned_105 (by decide) ?_
            refine e_goto (t := 110) i_Law_reckoned_106 (by decide) ?_
            exact rfl
          · refine e_aload_n i_Law_reckoned_98 rfl ?_
            refine e_callI (as := [.ref w]) (st' := []) i_Law_reckoned_99 lm_307 (Or.inr (Or.inl ⟨rfl, rfl⟩)) w_Law_pop rfl rfl rfl (Nat.le_of_ble_eq_true rfl) (Nat.le_of_ble_eq_true rfl) (m_rlt (q_Law_pop _) (Nat.lt_of_lt_of_le (by decide) hρ)) rfl (fun v99 s99 => ?_)
            refine e_ifne (t := 109) i_Law_reckoned_102 (by decide) ?_ ?_
            · refine e_iconst (v := 0) i_Law_reckoned_109 (by decide) ?_
              exact rfl
            · refine e_iconst (v := 1) i_Law_reckoned_105 (by decide) ?_
              refine e_goto (t := 110) i_Law_reckoned_106 (by decide) ?_
              exact rfl
        · refine e_iload i_Law_reckoned_84 rfl ?_
          refine e_bipush (v := 32) i_Law_reckoned_86 (by decide) ?_
          refine e_icmpne (t := 146) i_Law_reckoned_88 (by decide) ?_ ?_
          · refine e_iload i_Law_reckoned_146 rfl ?_
            refine e_bipush (v := 36) i_Law_reckoned_148 (by decide) ?_
            refine e_icmpne (t := 166) i_Law_reckoned_150 (by decide) ?_ ?_
            · refine e_iload i_Law_reckoned_166 rfl ?_
              refine e_bipush (v := 50) i_Law_reckoned_168 (by decide) ?_
              refine e_icmpne (t := 185) i_Law_reckoned_170 (by decide) ?_ ?_
              · refine e_iload i_Law_reckoned_185 rfl ?_
                refine e_bipush (v := 29) i_Law_reckoned_187 (by decide) ?_
                refine e_icmpne (t := 207) i_Law_reckoned_189 (by decide) ?_ ?_
                · refine e_aload_n i_Law_reckoned_207 rfl ?_
                  refine e_callI (as := [.ref w]) (st' := []) i_Law_reckoned_208 lm_307 (Or.inr (Or.inl ⟨rfl, rfl⟩)) w_Law_pop rfl rfl rfl (Nat.le_of_ble_eq_true rfl) (Nat.le_of_ble_eq_true rfl) (m_rlt (q_Law_pop _) (Nat.lt_of_lt_of_le (by decide) hρ)) rfl (fun v208 s208 => ?_)
                  refine e_istore (L' := [some (.ref w), some (.ref r1), some (.int n2), some (.ref r3), some (.int n4), some (.int n5), some (.int n6), some (.int v29), some (.int ((-1 : Int32) - v29)), some (.int v208)]) i_Law_reckoned_211 (of_decide_eq_true rfl) rfl ?_
                  refine e_aload_n i_Law_reckoned_213 rfl ?_
                  refine e_iload i_Law_reckoned_214 rfl ?_
                  refine e_aload_n i_Law_reckoned_216 rfl ?_
                  refine e_callI (as := [.ref w]) (st' := [.int ((-1 : Int32) - v29), .ref w]) i_Law_reckoned_217 lm_307 (Or.inr (Or.inl ⟨rfl, rfl⟩)) w_Law_pop rfl rfl rfl (Nat.le_of_ble_eq_true rfl) (Nat.le_of_ble_eq_true rfl) (m_rlt (q_Law_pop _) (Nat.lt_of_lt_of_le (by decide) hρ)) rfl (fun v217 s217 => ?_)
                  refine e_iload i_Law_reckoned_220 rfl ?_
                  refine e_callI (as := [.int ((-1 : Int32) - v29), .int v217, .int v208]) (st' := [.ref w]) i_Law_reckoned_222 lm_309 (Or.inl ⟨rfl, rfl⟩) w_Law_joined rfl rfl rfl (Nat.le_of_ble_eq_true rfl) (Nat.le_of_ble_eq_true rfl) (m_rlt (q_Law_joined _) (Nat.lt_of_lt_of_le (by decide) hρ)) rfl (fun v222 s222 => ?_)
                  refine e_callV (as := [.ref w, .int v222]) (st' := []) i_Law_reckoned_225 lm_304 (Or.inr (Or.inl ⟨rfl, rfl⟩)) w_Law_push rfl rfl rfl (Nat.le_of_ble_eq_true rfl) (Nat.le_of_ble_eq_true rfl) (m_rlt (q_Law_push _) (Nat.lt_of_lt_of_le (by decide) hρ)) rfl (fun s225 => ?_)
                  refine e_iinc (w := 1) (L' := [some (.ref w), some (.ref r1), some (.int n2), some (.ref r3), some (.int n4), some (.int n5), some (.int (n6 + (1 : Int32))), some (.int v29), some (.int ((-1 : Int32) - v29)), some (.int v208)]) i_Law_reckoned_228 rfl (of_decide_eq_true rfl) (by decide) rfl ?_
                  refine e_goto (t := 19) i_Law_reckoned_231 (by decide) ?_
                  exact rfl
                · refine e_aload_n i_Law_reckoned_192 rfl ?_
                  refine e_aload_n i_Law_reckoned_193 rfl ?_
                  refine e_aload_n i_Law_reckoned_194 rfl ?_
                  refine e_callI (as := [.ref w]) (st' := [.ref r3, .ref w]) i_Law_reckoned_195 lm_307 (Or.inr (Or.inl ⟨rfl, rfl⟩)) w_Law_pop rfl rfl rfl (Nat.le_of_ble_eq_true rfl) (Nat.le_of_ble_eq_true rfl) (m_rlt (q_Law_pop _) (Nat.lt_of_lt_of_le (by decide) hρ)) rfl (fun v195 s195 => ?_)
                  refine e_callI (as := [.ref r3, .int v195]) (st' := [.ref w]) i_Law_reckoned_198 lm_308 (Or.inr (Or.inl ⟨rfl, rfl⟩)) w_World_leftsOf rfl rfl rfl (Nat.le_of_ble_eq_true rfl) (Nat.le_of_ble_eq_true rfl) (m_rlt (q_World_leftsOf _) (Nat.lt_of_lt_of_le (by decide) hρ)) rfl (fun v198 s198 => ?_)
                  refine e_callV (as := [.ref w, .int v198]) (st' := []) i_Law_reckoned_201 lm_304 (Or.inr (Or.inl ⟨rfl, rfl⟩)) w_Law_push rfl rfl rfl (Nat.le_of_ble_eq_true rfl) (Nat.le_of_ble_eq_true rfl) (m_rlt (q_Law_push _) (Nat.lt_of_lt_of_le (by decide) hρ)) rfl (fun s201 => ?_)
                  refine e_goto (t := 228) i_Law_reckoned_204 (by decide) ?_
                  refine e_iinc (w := 1) (L' := [some (.ref w), some (.ref r1), some (.int n2), some (.ref r3), some (.int n4), some (.int n5), some (.int (n6 + (1 : Int32))), some (.int v29), some (.int ((-1 : Int32) - v29)), d9]) i_Law_reckoned_228 rfl (of_decide_eq_true rfl) (by decide) rfl ?_
                  refine e_goto (t := 19) i_Law_reckoned_231 (by decide) ?_
                  exact rfl
              · refine e_aload_n i_Law_reckoned_173 rfl ?_
                refine e_aload_n i_Law_reckoned_174 rfl ?_
                refine e_callI (as := [.ref w]) (st' := [.ref w]) i_Law_reckoned_175 lm_307 (Or.inr (Or.inl ⟨rfl, rfl⟩)) w_Law_pop rfl rfl rfl (Nat.le_of_ble_eq_true rfl) (Nat.le_of_ble_eq_true rfl) (m_rlt (q_Law_pop _) (Nat.lt_of_lt_of_le (by decide) hρ)) rfl (fun v175 s175 => ?_)
                refine e_ineg i_Law_reckoned_178 ?_
                refine e_callV (as := [.ref w, .int (-v175)]) (st' := []) i_Law_reckoned_179 lm_304 (Or.inr (Or.inl ⟨rfl, rfl⟩)) w_Law_push rfl rfl rfl (Nat.le_of_ble_eq_true rfl) (Nat.le_of_ble_eq_true rfl) (m_rlt (q_Law_push _) (Nat.lt_of_lt_of_le (by decide) hρ)) rfl (fun s179 => ?_)
                refine e_goto (t := 228) i_Law_reckoned_182 (by decide) ?_
                refine e_iinc (w := 1) (L' := [some (.ref w), some (.ref r1), some (.int n2), some (.ref r3), some (.int n4), some (.int n5), some (.int (n6 + (1 : Int32))), some (.int v29), some (.int ((-1 : Int32) - v29)), d9]) i_Law_reckoned_228 rfl (of_decide_eq_true rfl) (by decide) rfl ?_
                refine e_goto (t := 19) i_Law_reckoned_231 (by decide) ?_
                exact rfl
            · refine e_aload_n i_Law_reckoned_153 rfl ?_
              refine e_iconst (v := 1) i_Law_reckoned_154 (by decide) ?_
              refine e_aload_n i_Law_reckoned_155 rfl ?_
              refine e_callI (as := [.ref w]) (st' := [.int 1, .ref w]) i_Law_reckoned_156 lm_307 (Or.inr (Or.inl ⟨rfl, rfl⟩)) w_Law_pop rfl rfl rfl (Nat.le_of_ble_eq_true rfl) (Nat.le_of_ble_eq_true rfl) (m_rlt (q_Law_pop _) (Nat.lt_of_lt_of_le (by decide) hρ)) rfl (fun v156 s156 => ?_)
              refine e_isub i_Law_reckoned_159 ?_
              refine e_callV (as := [.ref w, .int ((1 : Int32) - v156)]) (st' := []) i_Law_reckoned_160 lm_304 (Or.inr (Or.inl ⟨rfl, rfl⟩)) w_Law_push rfl rfl rfl (Nat.le_of_ble_eq_true rfl) (Nat.le_of_ble_eq_true rfl) (m_rlt (q_Law_push _) (Nat.lt_of_lt_of_le (by decide) hρ)) rfl (fun s160 => ?_)
              refine e_goto (t := 228) i_Law_reckoned_163 (by decide) ?_
              refine e_iinc (w := 1) (L' := [some (.ref w), some (.ref r1), some (.int n2), some (.ref r3), some (.int n4), some (.int n5), some (.int (n6 + (1 : Int32))), some (.int v29), some (.int ((-1 : Int32) - v29)), d9]) i_Law_reckoned_228 rfl (of_decide_eq_true rfl) (by decide) rfl ?_
              refine e_goto (t := 19) i_Law_reckoned_231 (by decide) ?_
              exact rfl
          · refine e_iload i_Law_reckoned_91 rfl ?_
            refine e_bipush (v := 32) i_Law_reckoned_93 (by decide) ?_
            refine e_icmpeq (t := 105) i_Law_reckoned_95 (by decide) ?_ ?_
            · refine e_iconst (v := 1) i_Law_reckoned_105 (by decide) ?_
              refine e_goto (t := 110) i_Law_reckoned_106 (by decide) ?_
              exact rfl
            · refine e_aload_n i_Law_reckoned_98 rfl ?_
              refine e_callI (as := [.ref w]) (st' := []) i_Law_reckoned_99 lm_307 (Or.inr (Or.inl ⟨rfl, rfl⟩)) w_Law_pop rfl rfl rfl (Nat.le_of_ble_eq_true rfl) (Nat.le_of_ble_eq_true rfl) (m_rlt (q_Law_pop _) (Nat.lt_of_lt_of_le (by decide) hρ)) rfl (fun v99 s99 => ?_)
              refine e_ifne (t := 109) i_Law_reckoned_102 (by decide) ?_ ?_
              · refine e_iconst (v := 0) i_Law_reckoned_109 (by decide) ?_
                exact rfl
              · refine e_iconst (v := 1) i_Law_reckoned_105 (by decide) ?_
                refine e_goto (t := 110) i_Law_reckoned_106 (by decide) ?_
                exact rfl
      · refine e_aload_n i_Law_reckoned_62 rfl ?_
        refine e_iload i_Law_reckoned_63 rfl ?_
        refine e_aload_n i_Law_reckoned_65 rfl ?_
        refine e_iload i_Law_reckoned_66 rfl ?_
        refine e_callI (as := [.int ((-1 : Int32) - v29), .ref r3, .int n4]) (st' := [.ref w]) i_Law_reckoned_68 lm_306 (Or.inl ⟨rfl, rfl⟩) w_Law_named rfl rfl rfl (Nat.le_of_ble_eq_true rfl) (Nat.le_of_ble_eq_true rfl) (m_rlt (q_Law_named _) (Nat.lt_of_lt_of_le (by decide) hρ)) rfl (fun v68 s68 => ?_)
        refine e_callV (as := [.ref w, .int v68]) (st' := []) i_Law_reckoned_71 lm_304 (Or.inr (Or.inl ⟨rfl, rfl⟩)) w_Law_push rfl rfl rfl (Nat.le_of_ble_eq_true rfl) (Nat.le_of_ble_eq_true rfl) (m_rlt (q_Law_push _) (Nat.lt_of_lt_of_le (by decide) hρ)) rfl (fun s71 => ?_)
        refine e_goto (t := 228) i_Law_reckoned_74 (by decide) ?_
        refine e_iinc (w := 1) (L' := [some (.ref w), some (.ref r1), some (.int n2), some (.ref r3), some (.int n4), some (.int n5), some (.int (n6 + (1 : Int32))), some (.int v29), some (.int ((-1 : Int32) - v29)), d9]) i_Law_reckoned_228 rfl (of_decide_eq_true rfl) (by decide) rfl ?_
        refine e_goto (t := 19) i_Law_reckoned_231 (by decide) ?_
        exact rfl
    · refine e_aload_n i_Law_reckoned_45 rfl ?_
      refine e_iload i_Law_reckoned_46 rfl ?_
      refine e_callV (as := [.ref w, .int v29]) (st' := []) i_Law_reckoned_48 lm_304 (Or.inr (Or.inl ⟨rfl, rfl⟩)) w_Law_push rfl rfl rfl (Nat.le_of_ble_eq_true rfl) (Nat.le_of_ble_eq_true rfl) (m_rlt (q_Law_push _) (Nat.lt_of_lt_of_le (by decide) hρ)) rfl (fun s48 => ?_)
      refine e_goto (t := 228) i_Law_reckoned_51 (by decide) ?_
      refine e_iinc (w := 1) (L' := [some (.ref w), some (.ref r1), some (.int n2), some (.ref r3), some (.int n4), some (.int n5), some (.int (n6 + (1 : Int32))), some (.int v29), some (.int ((-1 : Int32) - v29)), d9]) i_Law_reckoned_228 rfl (of_decide_eq_true rfl) (by decide) rfl ?_
      refine e_goto (t := 19) i_Law_reckoned_231 (by decide) ?_
      exact rfl
set_option maxRecDepth 20000 in
set_option maxHeartbeats 1000000 in
theorem E_Law_reckoned_110 (x : m_X) (ρ : Nat) (hρ : 4 ≤ ρ) (s : m_H) (w : Nat) (r1 : Nat) (n2 : Int32) (r3 : Nat) (n4 : Int32) (n5 : Int32) (n6 : Int32) (n7 : Int32) (n8 : Int32) (d9 : Option Value) (nt0 : Int32) (hd9 : m_nl d9 = true) : m_D x ρ k_Law_reckoned 110 [some (.ref w), some (.ref r1), some (.int n2), some (.ref r3), some (.int n4), some (.int n5), some (.int n6), some (.int n7), some (.int n8), d9] [.int nt0] s = if nt0 = 0 then (m_D x ρ k_Law_reckoned 19 [some (.ref w), some (.ref r1), some (.int n2), some (.ref r3), some (.int n4), some (.int n5), some (.int ((n6 + (1 : Int32)) + (1 : Int32))), some (.int n7), some (.int n8), some (.int nt0)] [] s) else m_bI (m_M x k_Script_cellAt [.ref r1, .int (n6 + (1 : Int32))] s) fun v126 s126 => m_bI (m_M x k_Math_max_II [.int (n6 + (1 : Int32)), .int (v126 - (1 : Int32))] s126) fun v131 s131 => m_D x ρ k_Law_reckoned 19 [some (.ref w), some (.ref r1), some (.int n2), some (.ref r3), some (.int n4), some (.int n5), some (.int (v131 + (1 : Int32))), some (.int n7), some (.int n8), some (.int nt0)] [] s131 := by
  refine e_istore (L' := [some (.ref w), some (.ref r1), some (.int n2), some (.ref r3), some (.int n4), some (.int n5), some (.int n6), some (.int n7), some (.int n8), some (.int nt0)]) i_Law_reckoned_110 (of_decide_eq_true rfl) rfl ?_
  refine e_iload i_Law_reckoned_112 rfl ?_
  refine e_ifeq (t := 137) i_Law_reckoned_114 (by decide) ?_ ?_
  · refine e_iload i_Law_reckoned_137 rfl ?_
    refine e_iconst (v := 1) i_Law_reckoned_139 (by decide) ?_
    refine e_iadd i_Law_reckoned_140 ?_
    refine e_istore (L' := [some (.ref w), some (.ref r1), some (.int n2), some (.ref r3), some (.int n4), some (.int n5), some (.int (n6 + (1 : Int32))), some (.int n7), some (.int n8), some (.int nt0)]) i_Law_reckoned_141 (of_decide_eq_true rfl) rfl ?_
    refine e_goto (t := 228) i_Law_reckoned_143 (by decide) ?_
    refine e_iinc (w := 1) (L' := [some (.ref w), some (.ref r1), some (.int n2), some (.ref r3), some (.int n4), some (.int n5), some (.int ((n6 + (1 : Int32)) + (1 : Int32))), some (.int n7), some (.int n8), some (.int nt0)]) i_Law_reckoned_228 rfl (of_decide_eq_true rfl) (by decide) rfl ?_
    refine e_goto (t := 19) i_Law_reckoned_231 (by decide) ?_
    exact rfl
  · refine e_iload i_Law_reckoned_117 rfl ?_
    refine e_iconst (v := 1) i_Law_reckoned_119 (by decide) ?_
    refine e_iadd i_Law_reckoned_120 ?_
    refine e_aload_n i_Law_reckoned_121 rfl ?_
    refine e_iload i_Law_reckoned_122 rfl ?_
    refine e_iconst (v := 1) i_Law_reckoned_124 (by decide) ?_
    refine e_iadd i_Law_reckoned_125 ?_
    refine e_callI (as := [.ref r1, .int (n6 + (1 : Int32))]) (st' := [.int (n6 + (1 : Int32))]) i_Law_reckoned_126 lm_303 (Or.inr (Or.inl ⟨rfl, rfl⟩)) w_Script_cellAt rfl rfl rfl (Nat.le_of_ble_eq_true rfl) (Nat.le_of_ble_eq_true rfl) (m_rlt (q_Script_cellAt _) (Nat.lt_of_lt_of_le (by decide) hρ)) rfl (fun v126 s126 => ?_)
    refine e_iconst (v := 1) i_Law_reckoned_129 (by decide) ?_
    refine e_isub i_Law_reckoned_130 ?_
    refine e_callI (as := [.int (n6 + (1 : Int32)), .int (v126 - (1 : Int32))]) (st' := []) i_Law_reckoned_131 lm_300 (Or.inl ⟨rfl, rfl⟩) w_Math_max_II rfl rfl rfl (Nat.le_of_ble_eq_true rfl) (Nat.le_of_ble_eq_true rfl) (m_rlt (q_Math_max_II _) (Nat.lt_of_lt_of_le (by decide) hρ)) rfl (fun v131 s131 => ?_)
    refine e_goto (t := 141) i_Law_reckoned_134 (by decide) ?_
    refine e_istore (L' := [some (.ref w), some (.ref r1), some (.int n2), some (.ref r3), some (.int n4), some (.int n5), some (.int v131), some (.int n7), some (.int n8), some (.int nt0)]) i_Law_reckoned_141 (of_decide_eq_true rfl) rfl ?_
    refine e_goto (t := 228) i_Law_reckoned_143 (by decide) ?_
    refine e_iinc (w := 1) (L' := [some (.ref w), some (.ref r1), some (.int n2), some (.ref r3), some (.int n4), some (.int n5), some (.int (v131 + (1 : Int32))), some (.int n7), some (.int n8), some (.int nt0)]) i_Law_reckoned_228 rfl (of_decide_eq_true rfl) (by decide) rfl ?_
    refine e_goto (t := 19) i_Law_reckoned_231 (by decide) ?_
    exact rfl
theorem i_Law_joined_0 : m_at k_Law_joined 0 = some (.iload_n 0, 1, 0) := m_at_of r_Law_joined (by decide +kernel)
theorem i_Law_joined_1 : m_at k_Law_joined 1 = some (.tableswitch (140) (27) (44) #[126, 140, 140, 140, 140, 140, 140, 132, 136, 140, 140, 140, 140, 140, 87, 96, 105, 114], 87, 0) := m_at_of r_Law_joined (by decide +kernel)
theorem i_Law_joined_88 : m_at k_Law_joined 88 = some (.iload_n 1, 1, 0) := m_at_of r_Law_joined (by decide +kernel)
theorem i_Law_joined_89 : m_at k_Law_joined 89 = some (.i2l, 1, 0) := m_at_of r_Law_joined (by decide +kernel)
theorem i_Law_joined_90 : m_at k_Law_joined 90 = some (.iload_n 2, 1, 0) := m_at_of r_Law_joined (by decide +kernel)
theorem i_Law_joined_91 : m_at k_Law_joined 91 = some (.i2l, 1, 0) := m_at_of r_Law_joined (by decide +kernel)
theorem i_Law_joined_92 : m_at k_Law_joined 92 = some (.ladd, 1, 0) := m_at_of r_Law_joined (by decide +kernel)
theorem i_Law_joined_93 : m_at k_Law_joined 93 = some (.invokestatic 118, 3, 310) := m_at_of r_Law_joined (by decide +kernel)
theorem i_Law_joined_96 : m_at k_Law_joined 96 = some (.ireturn, 1, 0) := m_at_of r_Law_joined (by decide +kernel)
theorem i_Law_joined_97 : m_at k_Law_joined 97 = some (.iload_n 1, 1, 0) := m_at_of r_Law_joined (by decide +kernel)
theorem i_Law_joined_98 : m_at k_Law_joined 98 = some (.i2l, 1, 0) := m_at_of r_Law_joined (by decide +kernel)
theorem i_Law_joined_99 : m_at k_Law_joined 99 = some (.iload_n 2, 1, 0) := m_at_of r_Law_joined (by decide +kernel)
theorem i_Law_joined_100 : m_at k_Law_joined 100 = some (.i2l, 1, 0) := m_at_of r_Law_joined (by decide +kernel)
theorem i_Law_joined_101 : m_at k_Law_joined 101 = some (.lsub, 1, 0) := m_at_of r_Law_joined (by decide +kernel)
theorem i_Law_joined_102 : m_at k_Law_joined 102 = some (.invokestatic 118, 3, 310) := m_at_of r_Law_joined (by decide +kernel)
theorem i_Law_joined_105 : m_at k_Law_joined 105 = some (.ireturn, 1, 0) := m_at_of r_Law_joined (by decide +kernel)
theorem i_Law_joined_106 : m_at k_Law_joined 106 = some (.iload_n 1, 1, 0) := m_at_of r_Law_joined (by decide +kernel)
theorem i_Law_joined_107 : m_at k_Law_joined 107 = some (.i2l, 1, 0) := m_at_of r_Law_joined (by decide +kernel)
theorem i_Law_joined_108 : m_at k_Law_joined 108 = some (.iload_n 2, 1, 0) := m_at_of r_Law_joined (by decide +kernel)
theorem i_Law_joined_109 : m_at k_Law_joined 109 = some (.i2l, 1, 0) := m_at_of r_Law_joined (by decide +kernel)
theorem i_Law_joined_110 : m_at k_Law_joined 110 = some (.lmul, 1, 0) := m_at_of r_Law_joined (by decide +kernel)
theorem i_Law_joined_111 : m_at k_Law_joined 111 = some (.invokestatic 118, 3, 310) := m_at_of r_Law_joined (by decide +kernel)
theorem i_Law_joined_114 : m_at k_Law_joined 114 = some (.ireturn, 1, 0) := m_at_of r_Law_joined (by decide +kernel)
theorem i_Law_joined_115 : m_at k_Law_joined 115 = some (.iload_n 2, 1, 0) := m_at_of r_Law_joined (by decide +kernel)
theorem i_Law_joined_116 : m_at k_Law_joined 116 = some (.ifCond .ne (7), 3, 0) := m_at_of r_Law_joined (by decide +kernel)
theorem i_Law_joined_119 : m_at k_Law_joined 119 = some (.iconst 0, 1, 0) := m_at_of r_Law_joined (by decide +kernel)
theorem i_Law_joined_120 : m_at k_Law_joined 120 = some (.goto (6), 3, 0) := m_at_of r_Law_joined (by decide +kernel)
theorem i_Law_joined_123 : m_at k_Law_joined 123 = some (.iload_n 1, 1, 0) := m_at_of r_Law_joined (by decide +kernel)
theorem i_Law_joined_124 : m_at k_Law_joined 124 = some (.iload_n 2, 1, 0) := m_at_of r_Law_joined (by decide +kernel)
theorem i_Law_joined_125 : m_at k_Law_joined 125 = some (.idiv, 1, 0) := m_at_of r_Law_joined (by decide +kernel)
theorem i_Law_joined_126 : m_at k_Law_joined 126 = some (.ireturn, 1, 0) := m_at_of r_Law_joined (by decide +kernel)
theorem i_Law_joined_127 : m_at k_Law_joined 127 = some (.iload_n 1, 1, 0) := m_at_of r_Law_joined (by decide +kernel)
theorem i_Law_joined_128 : m_at k_Law_joined 128 = some (.iload_n 2, 1, 0) := m_at_of r_Law_joined (by decide +kernel)
theorem i_Law_joined_129 : m_at k_Law_joined 129 = some (.invokestatic 122, 3, 311) := m_at_of r_Law_joined (by decide +kernel)
theorem i_Law_joined_132 : m_at k_Law_joined 132 = some (.ireturn, 1, 0) := m_at_of r_Law_joined (by decide +kernel)
theorem i_Law_joined_133 : m_at k_Law_joined 133 = some (.iload_n 1, 1, 0) := m_at_of r_Law_joined (by decide +kernel)
theorem i_Law_joined_134 : m_at k_Law_joined 134 = some (.iload_n 2, 1, 0) := m_at_of r_Law_joined (by decide +kernel)
theorem i_Law_joined_135 : m_at k_Law_joined 135 = some (.ior, 1, 0) := m_at_of r_Law_joined (by decide +kernel)
theorem i_Law_joined_136 : m_at k_Law_joined 136 = some (.ireturn, 1, 0) := m_at_of r_Law_joined (by decide +kernel)
theorem i_Law_joined_137 : m_at k_Law_joined 137 = some (.iload_n 1, 1, 0) := m_at_of r_Law_joined (by decide +kernel)
theorem i_Law_joined_138 : m_at k_Law_joined 138 = some (.iload_n 2, 1, 0) := m_at_of r_Law_joined (by decide +kernel)
theorem i_Law_joined_139 : m_at k_Law_joined 139 = some (.iand, 1, 0) := m_at_of r_Law_joined (by decide +kernel)
theorem i_Law_joined_140 : m_at k_Law_joined 140 = some (.ireturn, 1, 0) := m_at_of r_Law_joined (by decide +kernel)
theorem i_Law_joined_141 : m_at k_Law_joined 141 = some (.iload_n 0, 1, 0) := m_at_of r_Law_joined (by decide +kernel)
theorem i_Law_joined_142 : m_at k_Law_joined 142 = some (.iload_n 1, 1, 0) := m_at_of r_Law_joined (by decide +kernel)
theorem i_Law_joined_143 : m_at k_Law_joined 143 = some (.iload_n 2, 1, 0) := m_at_of r_Law_joined (by decide +kernel)
theorem i_Law_joined_144 : m_at k_Law_joined 144 = some (.invokestatic 125, 3, 312) := m_at_of r_Law_joined (by decide +kernel)
theorem i_Law_joined_147 : m_at k_Law_joined 147 = some (.ifCond .eq (7), 3, 0) := m_at_of r_Law_joined (by decide +kernel)
theorem i_Law_joined_150 : m_at k_Law_joined 150 = some (.iconst 1, 1, 0) := m_at_of r_Law_joined (by decide +kernel)
theorem i_Law_joined_151 : m_at k_Law_joined 151 = some (.goto (4), 3, 0) := m_at_of r_Law_joined (by decide +kernel)
theorem i_Law_joined_154 : m_at k_Law_joined 154 = some (.iconst 0, 1, 0) := m_at_of r_Law_joined (by decide +kernel)
theorem i_Law_joined_155 : m_at k_Law_joined 155 = some (.ireturn, 1, 0) := m_at_of r_Law_joined (by decide +kernel)
set_option maxRecDepth 20000 in
set_option maxHeartbeats 1000000 in
theorem E_Law_joined (x : m_X) (s : m_H) (n0 : Int32) (n1 : Int32) (n2 : Int32) : m_M x k_Law_joined [.int n0, .int n1, .int n2] s = if n0 = 27 then (m_bI (m_M x k_G_commonOf [.int n1, .int n2] s) fun v129 s129 => some (some (.int v129), s129)) else if n0 = 28 then (m_bI (m_M x k_Law_holds [.int n0, .int n1, .int n2] s) fun v144 s144 => if v144 = 0 then (some (some (.int 0), s144)) else some (some (.int 1), s144)) else if n0 = 29 then (m_bI (m_M x k_Law_holds [.int n0, .int n1, .int n2] s) fun v144 s144 => if v144 = 0 then (some (some (.int 0), s144)) else some (some (.int 1), s144)) else if n0 = 30 then (m_bI (m_M x k_Law_holds [.int n0, .int n1, .int n2] s) fun v144 s144 => if v144 = 0 then (some (some (.int 0), s144)) else some (some (.int 1), s144)) else if n0 = 31 then (m_bI (m_M x k_Law_holds [.int n0, .int n1, .int n2] s) fun v144 s144 => if v144 = 0 then (some (some (.int 0), s144)) else some (some (.int 1), s144)) else if n0 = 32 then (m_bI (m_M x k_Law_holds [.int n0, .int n1, .int n2] s) fun v144 s144 => if v144 = 0 then (some (some (.int 0), s144)) else some (some (.int 1), s144)) else if n0 = 33 then (m_bI (m_M x k_Law_holds [.int n0, .int n1, .int n2] s) fun v144 s144 => if v144 = 0 then (some (some (.int 0), s144)) else some (some (.int 1), s144)) else if n0 = 34 then (some (some (.int (n1 ||| n2)), s)) else if n0 = 35 then (some (some (.int (n1 &&& n2)), s)) else if n0 = 36 then (m_bI (m_M x k_Law_holds [.int n0, .int n1, .int n2] s) fun v144 s144 => if v144 = 0 then (some (some (.int 0), s144)) else some (some (.int 1), s144)) else if n0 = 37 then (m_bI (m_M x k_Law_holds [.int n0, .int n1, .int n2] s) fun v144 s144 => if v144 = 0 then (some (some (.int 0), s144)) else some (some (.int 1), s144)) else if n0 = 38 then (m_bI (m_M x k_Law_holds [.int n0, .int n1, .int n2] s) fun v144 s144 => if v144 = 0 then (some (some (.int 0), s144)) else some (some (.int 1), s144)) else if n0 = 39 then (m_bI (m_M x k_Law_holds [.int n0, .int n1, .int n2] s) fun v144 s144 => if v144 = 0 then (some (some (.int 0), s144)) else some (some (.int 1), s144)) else if n0 = 40 then (m_bI (m_M x k_Law_holds [.int n0, .int n1, .int n2] s) fun v144 s144 => if v144 = 0 then (some (some (.int 0), s144)) else some (some (.int 1), s144)) else if n0 = 41 then (m_bI (m_M x k_Law_bounded [.long (n1.toInt64 + n2.toInt64)] s) fun v93 s93 => some (some (.int v93), s93)) else if n0 = 42 then (m_bI (m_M x k_Law_bounded [.long (n1.toInt64 - n2.toInt64)] s) fun v102 s102 => some (some (.int v102), s102)) else if n0 = 43 then (m_bI (m_M x k_Law_bounded [.long (n1.toInt64 * n2.toInt64)] s) fun v111 s111 => some (some (.int v111), s111)) else if n0 = 44 then (if n2 = 0 then (some (some (.int 0), s)) else if n2 = 0 then none else some (some (.int (n1 / n2)), s)) else m_bI (m_M x k_Law_holds [.int n0, .int n1, .int n2] s) fun v144 s144 => if v144 = 0 then (some (some (.int 0), s144)) else some (some (.int 1), s144) := by
  refine e_M0 (L0 := [some (.int n0), some (.int n1), some (.int n2)]) rfl (q_Law_joined _) rfl ?_
  refine e_iload_n i_Law_joined_0 rfl ?_
  refine e_tsw (cs := [(27, 127), (28, 141), (29, 141), (30, 141), (31, 141), (32, 141), (33, 141), (34, 133), (35, 137), (36, 141), (37, 141), (38, 141), (39, 141), (40, 141), (41, 88), (42, 97), (43, 106), (44, 115)]) (td := 141) i_Law_joined_1 (by decide +kernel) ?_
  refine m_sw_c ?_ ?_
  · refine e_iload_n i_Law_joined_127 rfl ?_
    refine e_iload_n i_Law_joined_128 rfl ?_
    refine e_callI (as := [.int n1, .int n2]) (st' := []) i_Law_joined_129 lm_311 (Or.inl ⟨rfl, rfl⟩) w_G_commonOf rfl rfl rfl (Nat.le_of_ble_eq_true rfl) (Nat.le_of_ble_eq_true rfl) (m_rlt (q_G_commonOf _) (by decide)) rfl (fun v129 s129 => ?_)
    exact e_iretI i_Law_joined_132 rfl
  refine m_sw_c ?_ ?_
  · refine e_iload_n i_Law_joined_141 rfl ?_
    refine e_iload_n i_Law_joined_142 rfl ?_
    refine e_iload_n i_Law_joined_143 rfl ?_
    refine e_callI (as := [.int n0, .int n1, .int n2]) (st' := []) i_Law_joined_144 lm_312 (Or.inl ⟨rfl, rfl⟩) w_Law_holds rfl rfl rfl (Nat.le_of_ble_eq_true rfl) (Nat.le_of_ble_eq_true rfl) (m_rlt (q_Law_holds _) (by decide)) rfl (fun v144 s144 => ?_)
    refine e_ifeq (t := 154) i_Law_joined_147 (by decide) ?_ ?_
    · refine e_iconst (v := 0) i_Law_joined_154 (by decide) ?_
      exact e_iretI i_Law_joined_155 rfl
    · refine e_iconst (v := 1) i_Law_joined_150 (by decide) ?_
      refine e_goto (t := 155) i_Law_joined_151 (by decide) ?_
      exact e_iretI i_Law_joined_155 rfl
  refine m_sw_c ?_ ?_
  · refine e_iload_n i_Law_joined_141 rfl ?_
    refine e_iload_n i_Law_joined_142 rfl ?_
    refine e_iload_n i_Law_joined_143 rfl ?_
    refine e_callI (as := [.int n0, .int n1, .int n2]) (st' := []) i_Law_joined_144 lm_312 (Or.inl ⟨rfl, rfl⟩) w_Law_holds rfl rfl rfl (Nat.le_of_ble_eq_true rfl) (Nat.le_of_ble_eq_true rfl) (m_rlt (q_Law_holds _) (by decide)) rfl (fun v144 s144 => ?_)
    refine e_ifeq (t := 154) i_Law_joined_147 (by decide) ?_ ?_
    · refine e_iconst (v := 0) i_Law_joined_154 (by decide) ?_
      exact e_iretI i_Law_joined_155 rfl
    · refine e_iconst (v := 1) i_Law_joined_150 (by decide) ?_
      refine e_goto (t := 155) i_Law_joined_151 (by decide) ?_
      exact e_iretI i_Law_joined_155 rfl
  refine m_sw_c ?_ ?_
  · refine e_iload_n i_Law_joined_141 rfl ?_
    refine e_iload_n i_Law_joined_142 rfl ?_
    refine e_iload_n i_Law_joined_143 rfl ?_
    refine e_callI (as := [.int n0, .int n1, .int n2]) (st' := []) i_Law_joined_144 lm_312 (Or.inl ⟨rfl, rfl⟩) w_Law_holds rfl rfl rfl (Nat.le_of_ble_eq_true rfl) (Nat.le_of_ble_eq_true rfl) (m_rlt (q_Law_holds _) (by decide)) rfl (fun v144 s144 => ?_)
    refine e_ifeq (t := 154) i_Law_joined_147 (by decide) ?_ ?_
    · refine e_iconst (v := 0) i_Law_joined_154 (by decide) ?_
      exact e_iretI i_Law_joined_155 rfl
    · refine e_iconst (v := 1) i_Law_joined_150 (by decide) ?_
      refine e_goto (t := 155) i_Law_joined_151 (by decide) ?_
      exact e_iretI i_Law_joined_155 rfl
  refine m_sw_c ?_ ?_
  · refine e_iload_n i_Law_joined_141 rfl ?_
    refine e_iload_n i_Law_joined_142 rfl ?_
    refine e_iload_n i_Law_joined_143 rfl ?_
    refine e_callI (as := [.int n0, .int n1, .int n2]) (st' := []) i_Law_joined_144 lm_312 (Or.inl ⟨rfl, rfl⟩) w_Law_holds rfl rfl rfl (Nat.le_of_ble_eq_true rfl) (Nat.le_of_ble_eq_true rfl) (m_rlt (q_Law_holds _) (by decide)) rfl (fun v144 s144 => ?_)
    refine e_ifeq (t := 154) i_Law_joined_147 (by decide) ?_ ?_
    · refine e_iconst (v := 0) i_Law_joined_154 (by decide) ?_
      exact e_iretI i_Law_joined_155 rfl
    · refine e_iconst (v := 1) i_Law_joined_150 (by decide) ?_
      refine e_goto (t := 155) i_Law_joined_151 (by decide) ?_
      exact e_iretI i_Law_joined_155 rfl
  refine m_sw_c ?_ ?_
  · refine e_iload_n i_Law_joined_141 rfl ?_
    refine e_iload_n i_Law_joined_142 rfl ?_
    refine e_iload_n i_Law_joined_143 rfl ?_
    refine e_callI (as := [.int n0, .int n1, .int n2]) (st' := []) i_Law_joined_144 lm_312 (Or.inl ⟨rfl, rfl⟩) w_Law_holds rfl rfl rfl (Nat.le_of_ble_eq_true rfl) (Nat.le_of_ble_eq_true rfl) (m_rlt (q_Law_holds _) (by decide)) rfl (fun v144 s144 => ?_)
    refine e_ifeq (t := 154) i_Law_joined_147 (by decide) ?_ ?_
    · refine e_iconst (v := 0) i_Law_joined_154 (by decide) ?_
      exact e_iretI i_Law_joined_155 rfl
    · refine e_iconst (v := 1) i_Law_joined_150 (by decide) ?_
      refine e_goto (t := 155) i_Law_joined_151 (by decide) ?_
      exact e_iretI i_Law_joined_155 rfl
  refine m_sw_c ?_ ?_
  · refine e_iload_n i_Law_joined_141 rfl ?_
    refine e_iload_n i_Law_joined_142 rfl ?_
    refine e_iload_n i_Law_joined_143 rfl ?_
    refine e_callI (as := [.int n0, .int n1, .int n2]) (st' := []) i_Law_joined_144 lm_312 (Or.inl ⟨rfl, rfl⟩) w_Law_holds rfl rfl rfl (Nat.le_of_ble_eq_true rfl) (Nat.le_of_ble_eq_true rfl) (m_rlt (q_Law_holds _) (by decide)) rfl (fun v144 s144 => ?_)
    refine e_ifeq (t := 154) i_Law_joined_147 (by decide) ?_ ?_
    · refine e_iconst (v := 0) i_Law_joined_154 (by decide) ?_
      exact e_iretI i_Law_joined_155 rfl
    · refine e_iconst (v := 1) i_Law_joined_150 (by decide) ?_
      refine e_goto (t := 155) i_Law_joined_151 (by decide) ?_
      exact e_iretI i_Law_joined_155 rfl
  refine m_sw_c ?_ ?_
  · refine e_iload_n i_Law_joined_133 rfl ?_
    refine e_iload_n i_Law_joined_134 rfl ?_
    refine e_ior i_Law_joined_135 ?_
    exact e_iretI i_Law_joined_136 rfl
  refine m_sw_c ?_ ?_
  · refine e_iload_n i_Law_joined_137 rfl ?_
    refine e_iload_n i_Law_joined_138 rfl ?_
    refine e_iand i_Law_joined_139 ?_
    exact e_iretI i_Law_joined_140 rfl
  refine m_sw_c ?_ ?_
  · refine e_iload_n i_Law_joined_141 rfl ?_
    refine e_iload_n i_Law_joined_142 rfl ?_
    refine e_iload_n i_Law_joined_143 rfl ?_
    refine e_callI (as := [.int n0, .int n1, .int n2]) (st' := []) i_Law_joined_144 lm_312 (Or.inl ⟨rfl, rfl⟩) w_Law_holds rfl rfl rfl (Nat.le_of_ble_eq_true rfl) (Nat.le_of_ble_eq_true rfl) (m_rlt (q_Law_holds _) (by decide)) rfl (fun v144 s144 => ?_)
    refine e_ifeq (t := 154) i_Law_joined_147 (by decide) ?_ ?_
    · refine e_iconst (v := 0) i_Law_joined_154 (by decide) ?_
      exact e_iretI i_Law_joined_155 rfl
    · refine e_iconst (v := 1) i_Law_joined_150 (by decide) ?_
      refine e_goto (t := 155) i_Law_joined_151 (by decide) ?_
      exact e_iretI i_Law_joined_155 rfl
  refine m_sw_c ?_ ?_
  · refine e_iload_n i_Law_joined_141 rfl ?_
    refine e_iload_n i_Law_joined_142 rfl ?_
    refine e_iload_n i_Law_joined_143 rfl ?_
    refine e_callI (as := [.int n0, .int n1, .int n2]) (st' := []) i_Law_joined_144 lm_312 (Or.inl ⟨rfl, rfl⟩) w_Law_holds rfl rfl rfl (Nat.le_of_ble_eq_true rfl) (Nat.le_of_ble_eq_true rfl) (m_rlt (q_Law_holds _) (by decide)) rfl (fun v144 s144 => ?_)
    refine e_ifeq (t := 154) i_Law_joined_147 (by decide) ?_ ?_
    · refine e_iconst (v := 0) i_Law_joined_154 (by decide) ?_
      exact e_iretI i_Law_joined_155 rfl
    · refine e_iconst (v := 1) i_Law_joined_150 (by decide) ?_
      refine e_goto (t := 155) i_Law_joined_151 (by decide) ?_
      exact e_iretI i_Law_joined_155 rfl
  refine m_sw_c ?_ ?_
  · refine e_iload_n i_Law_joined_141 rfl ?_
    refine e_iload_n i_Law_joined_142 rfl ?_
    refine e_iload_n i_Law_joined_143 rfl ?_
    refine e_callI (as := [.int n0, .int n1, .int n2]) (st' := []) i_Law_joined_144 lm_312 (Or.inl ⟨rfl, rfl⟩) w_Law_holds rfl rfl rfl (Nat.le_of_ble_eq_true rfl) (Nat.le_of_ble_eq_true rfl) (m_rlt (q_Law_holds _) (by decide)) rfl (fun v144 s144 => ?_)
    refine e_ifeq (t := 154) i_Law_joined_147 (by decide) ?_ ?_
    · refine e_iconst (v := 0) i_Law_joined_154 (by decide) ?_
      exact e_iretI i_Law_joined_155 rfl
    · refine e_iconst (v := 1) i_Law_joined_150 (by decide) ?_
      refine e_goto (t := 155) i_Law_joined_151 (by decide) ?_
      exact e_iretI i_Law_joined_155 rfl
  refine m_sw_c ?_ ?_
  · refine e_iload_n i_Law_joined_141 rfl ?_
    refine e_iload_n i_Law_joined_142 rfl ?_
    refine e_iload_n i_Law_joined_143 rfl ?_
    refine e_callI (as := [.int n0, .int n1, .int n2]) (st' := []) i_Law_joined_144 lm_312 (Or.inl ⟨rfl, rfl⟩) w_Law_holds rfl rfl rfl (Nat.le_of_ble_eq_true rfl) (Nat.le_of_ble_eq_true rfl) (m_rlt (q_Law_holds _) (by decide)) rfl (fun v144 s144 => ?_)
    refine e_ifeq (t := 154) i_Law_joined_147 (by decide) ?_ ?_
    · refine e_iconst (v := 0) i_Law_joined_154 (by decide) ?_
      exact e_iretI i_Law_joined_155 rfl
    · refine e_iconst (v := 1) i_Law_joined_150 (by decide) ?_
      refine e_goto (t := 155) i_Law_joined_151 (by decide) ?_
      exact e_iretI i_Law_joined_155 rfl
  refine m_sw_c ?_ ?_
  · refine e_iload_n i_Law_joined_141 rfl ?_
    refine e_iload_n i_Law_joined_142 rfl ?_
    refine e_iload_n i_Law_joined_143 rfl ?_
    refine e_callI (as := [.int n0, .int n1, .int n2]) (st' := []) i_Law_joined_144 lm_312 (Or.inl ⟨rfl, rfl⟩) w_Law_holds rfl rfl rfl (Nat.le_of_ble_eq_true rfl) (Nat.le_of_ble_eq_true rfl) (m_rlt (q_Law_holds _) (by decide)) rfl (fun v144 s144 => ?_)
    refine e_ifeq (t := 154) i_Law_joined_147 (by decide) ?_ ?_
    · refine e_iconst (v := 0) i_Law_joined_154 (by decide) ?_
      exact e_iretI i_Law_joined_155 rfl
    · refine e_iconst (v := 1) i_Law_joined_150 (by decide) ?_
      refine e_goto (t := 155) i_Law_joined_151 (by decide) ?_
      exact e_iretI i_Law_joined_155 rfl
  refine m_sw_c ?_ ?_
  · refine e_iload_n i_Law_joined_88 rfl ?_
    refine e_i2l i_Law_joined_89 ?_
    refine e_iload_n i_Law_joined_90 rfl ?_
    refine e_i2l i_Law_joined_91 ?_
    refine e_ladd i_Law_joined_92 ?_
    refine e_callI (as := [.long (n1.toInt64 + n2.toInt64)]) (st' := []) i_Law_joined_93 lm_310 (Or.inl ⟨rfl, rfl⟩) w_Law_bounded rfl rfl rfl (Nat.le_of_ble_eq_true rfl) (Nat.le_of_ble_eq_true rfl) (m_rlt (q_Law_bounded _) (by decide)) rfl (fun v93 s93 => ?_)
    exact e_iretI i_Law_joined_96 rfl
  refine m_sw_c ?_ ?_
  · refine e_iload_n i_Law_joined_97 rfl ?_
    refine e_i2l i_Law_joined_98 ?_
    refine e_iload_n i_Law_joined_99 rfl ?_
    refine e_i2l i_Law_joined_100 ?_
    refine e_lsub i_Law_joined_101 ?_
    refine e_callI (as := [.long (n1.toInt64 - n2.toInt64)]) (st' := []) i_Law_joined_102 lm_310 (Or.inl ⟨rfl, rfl⟩) w_Law_bounded rfl rfl rfl (Nat.le_of_ble_eq_true rfl) (Nat.le_of_ble_eq_true rfl) (m_rlt (q_Law_bounded _) (by decide)) rfl (fun v102 s102 => ?_)
    exact e_iretI i_Law_joined_105 rfl
  refine m_sw_c ?_ ?_
  · refine e_iload_n i_Law_joined_106 rfl ?_
    refine e_i2l i_Law_joined_107 ?_
    refine e_iload_n i_Law_joined_108 rfl ?_
    refine e_i2l i_Law_joined_109 ?_
    refine e_lmul i_Law_joined_110 ?_
    refine e_callI (as := [.long (n1.toInt64 * n2.toInt64)]) (st' := []) i_Law_joined_111 lm_310 (Or.inl ⟨rfl, rfl⟩) w_Law_bounded rfl rfl rfl (Nat.le_of_ble_eq_true rfl) (Nat.le_of_ble_eq_true rfl) (m_rlt (q_Law_bounded _) (by decide)) rfl (fun v111 s111 => ?_)
    exact e_iretI i_Law_joined_114 rfl
  refine m_sw_c ?_ ?_
  · refine e_iload_n i_Law_joined_115 rfl ?_
    refine e_ifne (t := 123) i_Law_joined_116 (by decide) ?_ ?_
    · refine e_iload_n i_Law_joined_123 rfl ?_
      refine e_iload_n i_Law_joined_124 rfl ?_
      refine e_idiv i_Law_joined_125 ?_
      exact e_iretI i_Law_joined_126 rfl
    · refine e_iconst (v := 0) i_Law_joined_119 (by decide) ?_
      refine e_goto (t := 126) i_Law_joined_120 (by decide) ?_
      exact e_iretI i_Law_joined_126 rfl
  refine m_sw_n ?_
  refine e_iload_n i_Law_joined_141 rfl ?_
  refine e_iload_n i_Law_joined_142 rfl ?_
  refine e_iload_n i_Law_joined_143 rfl ?_
  refine e_callI (as := [.int n0, .int n1, .int n2]) (st' := []) i_Law_joined_144 lm_312 (Or.inl ⟨rfl, rfl⟩) w_Law_holds rfl rfl rfl (Nat.le_of_ble_eq_true rfl) (Nat.le_of_ble_eq_true rfl) (m_rlt (q_Law_holds _) (by decide)) rfl (fun v144 s144 => ?_)
  refine e_ifeq (t := 154) i_Law_joined_147 (by decide) ?_ ?_
  · refine e_iconst (v := 0) i_Law_joined_154 (by decide) ?_
    exact e_iretI i_Law_joined_155 rfl
  · refine e_iconst (v := 1) i_Law_joined_150 (by decide) ?_
    refine e_goto (t := 155) i_Law_joined_151 (by decide) ?_
    exact e_iretI i_Law_joined_155 rfl
theorem i_Law_holds_0 : m_at k_Law_holds 0 = some (.iload_n 0, 1, 0) := m_at_of r_Law_holds (by decide +kernel)
theorem i_Law_holds_1 : m_at k_Law_holds 1 = some (.tableswitch (122) (37) (49) #[67, 89, 111, 122, 122, 122, 122, 122, 122, 122, 122, 78, 100], 67, 0) := m_at_of r_Law_holds (by decide +kernel)
theorem i_Law_holds_68 : m_at k_Law_holds 68 = some (.iload_n 1, 1, 0) := m_at_of r_Law_holds (by decide +kernel)
theorem i_Law_holds_69 : m_at k_Law_holds 69 = some (.iload_n 2, 1, 0) := m_at_of r_Law_holds (by decide +kernel)
theorem i_Law_holds_70 : m_at k_Law_holds 70 = some (.if_icmp .ge (7), 3, 0) := m_at_of r_Law_holds (by decide +kernel)
theorem i_Law_holds_73 : m_at k_Law_holds 73 = some (.iconst 1, 1, 0) := m_at_of r_Law_holds (by decide +kernel)
theorem i_Law_holds_74 : m_at k_Law_holds 74 = some (.goto (4), 3, 0) := m_at_of r_Law_holds (by decide +kernel)
theorem i_Law_holds_77 : m_at k_Law_holds 77 = some (.iconst 0, 1, 0) := m_at_of r_Law_holds (by decide +kernel)
theorem i_Law_holds_78 : m_at k_Law_holds 78 = some (.ireturn, 1, 0) := m_at_of r_Law_holds (by decide +kernel)
theorem i_Law_holds_79 : m_at k_Law_holds 79 = some (.iload_n 1, 1, 0) := m_at_of r_Law_holds (by decide +kernel)
theorem i_Law_holds_80 : m_at k_Law_holds 80 = some (.iload_n 2, 1, 0) := m_at_of r_Law_holds (by decide +kernel)
theorem i_Law_holds_81 : m_at k_Law_holds 81 = some (.if_icmp .gt (7), 3, 0) := m_at_of r_Law_holds (by decide +kernel)
theorem i_Law_holds_84 : m_at k_Law_holds 84 = some (.iconst 1, 1, 0) := m_at_of r_Law_holds (by decide +kernel)
theorem i_Law_holds_85 : m_at k_Law_holds 85 = some (.goto (4), 3, 0) := m_at_of r_Law_holds (by decide +kernel)
theorem i_Law_holds_88 : m_at k_Law_holds 88 = some (.iconst 0, 1, 0) := m_at_of r_Law_holds (by decide +kernel)
theorem i_Law_holds_89 : m_at k_Law_holds 89 = some (.ireturn, 1, 0) := m_at_of r_Law_holds (by decide +kernel)
theorem i_Law_holds_90 : m_at k_Law_holds 90 = some (.iload_n 1, 1, 0) := m_at_of r_Law_holds (by decide +kernel)
theorem i_Law_holds_91 : m_at k_Law_holds 91 = some (.iload_n 2, 1, 0) := m_at_of r_Law_holds (by decide +kernel)
theorem i_Law_holds_92 : m_at k_Law_holds 92 = some (.if_icmp .le (7), 3, 0) := m_at_of r_Law_holds (by decide +kernel)
theorem i_Law_holds_95 : m_at k_Law_holds 95 = some (.iconst 1, 1, 0) := m_at_of r_Law_holds (by decide +kernel)
theorem i_Law_holds_96 : m_at k_Law_holds 96 = some (.goto (4), 3, 0) := m_at_of r_Law_holds (by decide +kernel)
theorem i_Law_holds_99 : m_at k_Law_holds 99 = some (.iconst 0, 1, 0) := m_at_of r_Law_holds (by decide +kernel)
theorem i_Law_holds_100 : m_at k_Law_holds 100 = some (.ireturn, 1, 0) := m_at_of r_Law_holds (by decide +kernel)
theorem i_Law_holds_101 : m_at k_Law_holds 101 = some (.iload_n 1, 1, 0) := m_at_of r_Law_holds (by decide +kernel)
theorem i_Law_holds_102 : m_at k_Law_holds 102 = some (.iload_n 2, 1, 0) := m_at_of r_Law_holds (by decide +kernel)
theorem i_Law_holds_103 : m_at k_Law_holds 103 = some (.if_icmp .lt (7), 3, 0) := m_at_of r_Law_holds (by decide +kernel)
theorem i_Law_holds_106 : m_at k_Law_holds 106 = some (.iconst 1, 1, 0) := m_at_of r_Law_holds (by decide +kernel)
theorem i_Law_holds_107 : m_at k_Law_holds 107 = some (.goto (4), 3, 0) := m_at_of r_Law_holds (by decide +kernel)
theorem i_Law_holds_110 : m_at k_Law_holds 110 = some (.iconst 0, 1, 0) := m_at_of r_Law_holds (by decide +kernel)
theorem i_Law_holds_111 : m_at k_Law_holds 111 = some (.ireturn, 1, 0) := m_at_of r_Law_holds (by decide +kernel)
theorem i_Law_holds_112 : m_at k_Law_holds 112 = some (.iload_n 1, 1, 0) := m_at_of r_Law_holds (by decide +kernel)
theorem i_Law_holds_113 : m_at k_Law_holds 113 = some (.iload_n 2, 1, 0) := m_at_of r_Law_holds (by decide +kernel)
theorem i_Law_holds_114 : m_at k_Law_holds 114 = some (.if_icmp .ne (7), 3, 0) := m_at_of r_Law_holds (by decide +kernel)
theorem i_Law_holds_117 : m_at k_Law_holds 117 = some (.iconst 1, 1, 0) := m_at_of r_Law_holds (by decide +kernel)
theorem i_Law_holds_118 : m_at k_Law_holds 118 = some (.goto (4), 3, 0) := m_at_of r_Law_holds (by decide +kernel)
theorem i_Law_holds_121 : m_at k_Law_holds 121 = some (.iconst 0, 1, 0) := m_at_of r_Law_holds (by decide +kernel)
theorem i_Law_holds_122 : m_at k_Law_holds 122 = some (.ireturn, 1, 0) := m_at_of r_Law_holds (by decide +kernel)
theorem i_Law_holds_123 : m_at k_Law_holds 123 = some (.iload_n 1, 1, 0) := m_at_of r_Law_holds (by decide +kernel)
theorem i_Law_holds_124 : m_at k_Law_holds 124 = some (.iload_n 2, 1, 0) := m_at_of r_Law_holds (by decide +kernel)
theorem i_Law_holds_125 : m_at k_Law_holds 125 = some (.if_icmp .eq (7), 3, 0) := m_at_of r_Law_holds (by decide +kernel)
theorem i_Law_holds_128 : m_at k_Law_holds 128 = some (.iconst 1, 1, 0) := m_at_of r_Law_holds (by decide +kernel)
theorem i_Law_holds_129 : m_at k_Law_holds 129 = some (.goto (4), 3, 0) := m_at_of r_Law_holds (by decide +kernel)
theorem i_Law_holds_132 : m_at k_Law_holds 132 = some (.iconst 0, 1, 0) := m_at_of r_Law_holds (by decide +kernel)
theorem i_Law_holds_133 : m_at k_Law_holds 133 = some (.ireturn, 1, 0) := m_at_of r_Law_holds (by decide +kernel)
set_option maxRecDepth 20000 in
set_option maxHeartbeats 1000000 in
theorem E_Law_holds (x : m_X) (s : m_H) (n0 : Int32) (n1 : Int32) (n2 : Int32) : m_M x k_Law_holds [.int n0, .int n1, .int n2] s = if n0 = 37 then (if n2 ≤ n1 then (some (some (.int 0), s)) else some (some (.int 1), s)) else if n0 = 38 then (if n1 ≤ n2 then (some (some (.int 0), s)) else some (some (.int 1), s)) else if n0 = 39 then (if n1 = n2 then (some (some (.int 1), s)) else some (some (.int 0), s)) else if n0 = 40 then (if n1 = n2 then (some (some (.int 0), s)) else some (some (.int 1), s)) else if n0 = 41 then (if n1 = n2 then (some (some (.int 0), s)) else some (some (.int 1), s)) else if n0 = 42 then (if n1 = n2 then (some (some (.int 0), s)) else some (some (.int 1), s)) else if n0 = 43 then (if n1 = n2 then (some (some (.int 0), s)) else some (some (.int 1), s)) else if n0 = 44 then (if n1 = n2 then (some (some (.int 0), s)) else some (some (.int 1), s)) else if n0 = 45 then (if n1 = n2 then (some (some (.int 0), s)) else some (some (.int 1), s)) else if n0 = 46 then (if n1 = n2 then (some (some (.int 0), s)) else some (some (.int 1), s)) else if n0 = 47 then (if n1 = n2 then (some (some (.int 0), s)) else some (some (.int 1), s)) else if n0 = 48 then (if n2 < n1 then (some (some (.int 0), s)) else some (some (.int 1), s)) else if n0 = 49 then (if n1 < n2 then (some (some (.int 0), s)) else some (some (.int 1), s)) else if n1 = n2 then (some (some (.int 0), s)) else some (some (.int 1), s) := by
  refine e_M0 (L0 := [some (.int n0), some (.int n1), some (.int n2)]) rfl (q_Law_holds _) rfl ?_
  refine e_iload_n i_Law_holds_0 rfl ?_
  refine e_tsw (cs := [(37, 68), (38, 90), (39, 112), (40, 123), (41, 123), (42, 123), (43, 123), (44, 123), (45, 123), (46, 123), (47, 123), (48, 79), (49, 101)]) (td := 123) i_Law_holds_1 (by decide +kernel) ?_
  refine m_sw_c ?_ ?_
  · refine e_iload_n i_Law_holds_68 rfl ?_
    refine e_iload_n i_Law_holds_69 rfl ?_
    refine e_icmpge (t := 77) i_Law_holds_70 (by decide) ?_ ?_
    · refine e_iconst (v := 0) i_Law_holds_77 (by decide) ?_
      exact e_iretZ i_Law_holds_78 rfl (by decide)
    · refine e_iconst (v := 1) i_Law_holds_73 (by decide) ?_
      refine e_goto (t := 78) i_Law_holds_74 (by decide) ?_
      exact e_iretZ i_Law_holds_78 rfl (by decide)
  refine m_sw_c ?_ ?_
  · refine e_iload_n i_Law_holds_90 rfl ?_
    refine e_iload_n i_Law_holds_91 rfl ?_
    refine e_icmple (t := 99) i_Law_holds_92 (by decide) ?_ ?_
    · refine e_iconst (v := 0) i_Law_holds_99 (by decide) ?_
      exact e_iretZ i_Law_holds_100 rfl (by decide)
    · refine e_iconst (v := 1) i_Law_holds_95 (by decide) ?_
      refine e_goto (t := 100) i_Law_holds_96 (by decide) ?_
      exact e_iretZ i_Law_holds_100 rfl (by decide)
  refine m_sw_c ?_ ?_
  · refine e_iload_n i_Law_holds_112 rfl ?_
    refine e_iload_n i_Law_holds_113 rfl ?_
    refine e_icmpne (t := 121) i_Law_holds_114 (by decide) ?_ ?_
    · refine e_iconst (v := 0) i_Law_holds_121 (by decide) ?_
      exact e_iretZ i_Law_holds_122 rfl (by decide)
    · refine e_iconst (v := 1) i_Law_holds_117 (by decide) ?_
      refine e_goto (t := 122) i_Law_holds_118 (by decide) ?_
      exact e_iretZ i_Law_holds_122 rfl (by decide)
  refine m_sw_c ?_ ?_
  · refine e_iload_n i_Law_holds_123 rfl ?_
    refine e_iload_n i_Law_holds_124 rfl ?_
    refine e_icmpeq (t := 132) i_Law_holds_125 (by decide) ?_ ?_
    · refine e_iconst (v := 0) i_Law_holds_132 (by decide) ?_
      exact e_iretZ i_Law_holds_133 rfl (by decide)
    · refine e_iconst (v := 1) i_Law_holds_128 (by decide) ?_
      refine e_goto (t := 133) i_Law_holds_129 (by decide) ?_
      exact e_iretZ i_Law_holds_133 rfl (by decide)
  refine m_sw_c ?_ ?_
  · refine e_iload_n i_Law_holds_123 rfl ?_
    refine e_iload_n i_Law_holds_124 rfl ?_
    refine e_icmpeq (t := 132) i_Law_holds_125 (by decide) ?_ ?_
    · refine e_iconst (v := 0) i_Law_holds_132 (by decide) ?_
      exact e_iretZ i_Law_holds_133 rfl (by decide)
    · refine e_iconst (v := 1) i_Law_holds_128 (by decide) ?_
      refine e_goto (t := 133) i_Law_holds_129 (by decide) ?_
      exact e_iretZ i_Law_holds_133 rfl (by decide)
  refine m_sw_c ?_ ?_
  · refine e_iload_n i_Law_holds_123 rfl ?_
    refine e_iload_n i_Law_holds_124 rfl ?_
    refine e_icmpeq (t := 132) i_Law_holds_125 (by decide) ?_ ?_
    · refine e_iconst (v := 0) i_Law_holds_132 (by decide) ?_
      exact e_iretZ i_Law_holds_133 rfl (by decide)
    · refine e_iconst (v := 1) i_Law_holds_128 (by decide) ?_
      refine e_goto (t := 133) i_Law_holds_129 (by decide) ?_
      exact e_iretZ i_Law_holds_133 rfl (by decide)
  refine m_sw_c ?_ ?_
  · refine e_iload_n i_Law_holds_123 rfl ?_
    refine e_iload_n i_Law_holds_124 rfl ?_
    refine e_icmpeq (t := 132) i_Law_holds_125 (by decide) ?_ ?_
    · refine e_iconst (v := 0) i_Law_holds_132 (by decide) ?_
      exact e_iretZ i_Law_holds_133 rfl (by decide)
    · refine e_iconst (v := 1) i_Law_holds_128 (by decide) ?_
      refine e_goto (t := 133) i_Law_holds_129 (by decide) ?_
      exact e_iretZ i_Law_holds_133 rfl (by decide)
  refine m_sw_c ?_ ?_
  · refine e_iload_n i_Law_holds_123 rfl ?_
    refine e_iload_n i_Law_holds_124 rfl ?_
    refine e_icmpeq (t := 132) i_Law_holds_125 (by decide) ?_ ?_
    · refine e_iconst (v := 0) i_Law_holds_132 (by decide) ?_
      exact e_iretZ i_Law_holds_133 rfl (by decide)
    · refine e_iconst (v := 1) i_Law_holds_128 (by decide) ?_
      refine e_goto (t := 133) i_Law_holds_129 (by decide) ?_
      exact e_iretZ i_Law_holds_133 rfl (by decide)
  refine m_sw_c ?_ ?_
  · refine e_iload_n i_Law_holds_123 rfl ?_
    refine e_iload_n i_Law_holds_124 rfl ?_
    refine e_icmpeq (t := 132) i_Law_holds_125 (by decide) ?_ ?_
    · refine e_iconst (v := 0) i_Law_holds_132 (by decide) ?_
      exact e_iretZ i_Law_holds_133 rfl (by decide)
    · refine e_iconst (v := 1) i_Law_holds_128 (by decide) ?_
      refine e_goto (t := 133) i_Law_holds_129 (by decide) ?_
      exact e_iretZ i_Law_holds_133 rfl (by decide)
  refine m_sw_c ?_ ?_
  · refine e_iload_n i_Law_holds_123 rfl ?_
    refine e_iload_n i_Law_holds_124 rfl ?_
    refine e_icmpeq (t := 132) i_Law_holds_125 (by decide) ?_ ?_
    · refine e_iconst (v := 0) i_Law_holds_132 (by decide) ?_
      exact e_iretZ i_Law_holds_133 rfl (by decide)
    · refine e_iconst (v := 1) i_Law_holds_128 (by decide) ?_
      refine e_goto (t := 133) i_Law_holds_129 (by decide) ?_
      exact e_iretZ i_Law_holds_133 rfl (by decide)
  refine m_sw_c ?_ ?_
  · refine e_iload_n i_Law_holds_123 rfl ?_
    refine e_iload_n i_Law_holds_124 rfl ?_
    refine e_icmpeq (t := 132) i_Law_holds_125 (by decide) ?_ ?_
    · refine e_iconst (v := 0) i_Law_holds_132 (by decide) ?_
      exact e_iretZ i_Law_holds_133 rfl (by decide)
    · refine e_iconst (v := 1) i_Law_holds_128 (by decide) ?_
      refine e_goto (t := 133) i_Law_holds_129 (by decide) ?_
      exact e_iretZ i_Law_holds_133 rfl (by decide)
  refine m_sw_c ?_ ?_
  · refine e_iload_n i_Law_holds_79 rfl ?_
    refine e_iload_n i_Law_holds_80 rfl ?_
    refine e_icmpgt (t := 88) i_Law_holds_81 (by decide) ?_ ?_
    · refine e_iconst (v := 0) i_Law_holds_88 (by decide) ?_
      exact e_iretZ i_Law_holds_89 rfl (by decide)
    · refine e_iconst (v := 1) i_Law_holds_84 (by decide) ?_
      refine e_goto (t := 89) i_Law_holds_85 (by decide) ?_
      exact e_iretZ i_Law_holds_89 rfl (by decide)
  refine m_sw_c ?_ ?_
  · refine e_iload_n i_Law_holds_101 rfl ?_
    refine e_iload_n i_Law_holds_102 rfl ?_
    refine e_icmplt (t := 110) i_Law_holds_103 (by decide) ?_ ?_
    · refine e_iconst (v := 0) i_Law_holds_110 (by decide) ?_
      exact e_iretZ i_Law_holds_111 rfl (by decide)
    · refine e_iconst (v := 1) i_Law_holds_106 (by decide) ?_
      refine e_goto (t := 111) i_Law_holds_107 (by decide) ?_
      exact e_iretZ i_Law_holds_111 rfl (by decide)
  refine m_sw_n ?_
  refine e_iload_n i_Law_holds_123 rfl ?_
  refine e_iload_n i_Law_holds_124 rfl ?_
  refine e_icmpeq (t := 132) i_Law_holds_125 (by decide) ?_ ?_
  · refine e_iconst (v := 0) i_Law_holds_132 (by decide) ?_
    exact e_iretZ i_Law_holds_133 rfl (by decide)
  · refine e_iconst (v := 1) i_Law_holds_128 (by decide) ?_
    refine e_goto (t := 133) i_Law_holds_129 (by decide) ?_
    exact e_iretZ i_Law_holds_133 rfl (by decide)
theorem i_Law_bounded_0 : m_at k_Law_bounded 0 = some (.ldc2_w 129, 3, 8) := m_at_of r_Law_bounded (by decide +kernel)
theorem i_Law_bounded_3 : m_at k_Law_bounded 3 = some (.lload_n 0, 1, 0) := m_at_of r_Law_bounded (by decide +kernel)
theorem i_Law_bounded_4 : m_at k_Law_bounded 4 = some (.ldc2_w 131, 3, 9) := m_at_of r_Law_bounded (by decide +kernel)
theorem i_Law_bounded_7 : m_at k_Law_bounded 7 = some (.invokestatic 133, 3, 314) := m_at_of r_Law_bounded (by decide +kernel)
theorem i_Law_bounded_10 : m_at k_Law_bounded 10 = some (.invokestatic 136, 3, 315) := m_at_of r_Law_bounded (by decide +kernel)
theorem i_Law_bounded_13 : m_at k_Law_bounded 13 = some (.l2i, 1, 0) := m_at_of r_Law_bounded (by decide +kernel)
theorem i_Law_bounded_14 : m_at k_Law_bounded 14 = some (.ireturn, 1, 0) := m_at_of r_Law_bounded (by decide +kernel)
set_option maxRecDepth 20000 in
set_option maxHeartbeats 1000000 in
theorem E_Law_bounded (x : m_X) (s : m_H) (l0 : Int64) : m_M x k_Law_bounded [.long l0] s = m_bL (m_M x k_Math_min_JJ [.long l0, .long 1000000] s) fun v7 s7 => m_bL (m_M x k_Math_max_JJ [.long (-1000000), .long v7] s7) fun v10 s10 => some (some (.int v10.toInt32), s10) := by
  refine e_M0 (L0 := [some (.long l0), none]) rfl (q_Law_bounded _) rfl ?_
  refine e_ldc2 (q := (12, 129, (-1000000))) i_Law_bounded_0 rfl ?_
  refine e_lload_n i_Law_bounded_3 rfl ?_
  refine e_ldc2 (q := (12, 131, 1000000)) i_Law_bounded_4 rfl ?_
  refine e_callL (as := [.long l0, .long 1000000]) (st' := [.long (-1000000)]) i_Law_bounded_7 lm_314 (Or.inl ⟨rfl, rfl⟩) w_Math_min_JJ rfl rfl rfl (Nat.le_of_ble_eq_true rfl) (Nat.le_of_ble_eq_true rfl) (m_rlt (q_Math_min_JJ _) (by decide)) rfl (fun v7 s7 => ?_)
  refine e_callL (as := [.long (-1000000), .long v7]) (st' := []) i_Law_bounded_10 lm_315 (Or.inl ⟨rfl, rfl⟩) w_Math_max_JJ rfl rfl rfl (Nat.le_of_ble_eq_true rfl) (Nat.le_of_ble_eq_true rfl) (m_rlt (q_Math_max_JJ _) (by decide)) rfl (fun v10 s10 => ?_)
  refine e_l2i i_Law_bounded_13 ?_
  exact e_iretI i_Law_bounded_14 rfl
theorem i_Law_pop_0 : m_at k_Law_pop 0 = some (.aload_n 0, 1, 0) := m_at_of r_Law_pop (by decide +kernel)
theorem i_Law_pop_1 : m_at k_Law_pop 1 = some (.getfield 82, 3, 86) := m_at_of r_Law_pop (by decide +kernel)
theorem i_Law_pop_4 : m_at k_Law_pop 4 = some (.ifCond .le (12), 3, 0) := m_at_of r_Law_pop (by decide +kernel)
theorem i_Law_pop_7 : m_at k_Law_pop 7 = some (.aload_n 0, 1, 0) := m_at_of r_Law_pop (by decide +kernel)
theorem i_Law_pop_8 : m_at k_Law_pop 8 = some (.getfield 82, 3, 86) := m_at_of r_Law_pop (by decide +kernel)
theorem i_Law_pop_11 : m_at k_Law_pop 11 = some (.bipush 64, 2, 0) := m_at_of r_Law_pop (by decide +kernel)
theorem i_Law_pop_13 : m_at k_Law_pop 13 = some (.if_icmp .le (5), 3, 0) := m_at_of r_Law_pop (by decide +kernel)
theorem i_Law_pop_16 : m_at k_Law_pop 16 = some (.iconst 0, 1, 0) := m_at_of r_Law_pop (by decide +kernel)
theorem i_Law_pop_17 : m_at k_Law_pop 17 = some (.ireturn, 1, 0) := m_at_of r_Law_pop (by decide +kernel)
theorem i_Law_pop_18 : m_at k_Law_pop 18 = some (.aload_n 0, 1, 0) := m_at_of r_Law_pop (by decide +kernel)
theorem i_Law_pop_19 : m_at k_Law_pop 19 = some (.dup, 1, 0) := m_at_of r_Law_pop (by decide +kernel)
theorem i_Law_pop_20 : m_at k_Law_pop 20 = some (.getfield 82, 3, 86) := m_at_of r_Law_pop (by decide +kernel)
theorem i_Law_pop_23 : m_at k_Law_pop 23 = some (.iconst 1, 1, 0) := m_at_of r_Law_pop (by decide +kernel)
theorem i_Law_pop_24 : m_at k_Law_pop 24 = some (.isub, 1, 0) := m_at_of r_Law_pop (by decide +kernel)
theorem i_Law_pop_25 : m_at k_Law_pop 25 = some (.putfield 82, 3, 86) := m_at_of r_Law_pop (by decide +kernel)
theorem i_Law_pop_28 : m_at k_Law_pop 28 = some (.aload_n 0, 1, 0) := m_at_of r_Law_pop (by decide +kernel)
theorem i_Law_pop_29 : m_at k_Law_pop 29 = some (.getfield 11, 3, 87) := m_at_of r_Law_pop (by decide +kernel)
theorem i_Law_pop_32 : m_at k_Law_pop 32 = some (.aload_n 0, 1, 0) := m_at_of r_Law_pop (by decide +kernel)
theorem i_Law_pop_33 : m_at k_Law_pop 33 = some (.getfield 82, 3, 86) := m_at_of r_Law_pop (by decide +kernel)
theorem i_Law_pop_36 : m_at k_Law_pop 36 = some (.iaload, 1, 0) := m_at_of r_Law_pop (by decide +kernel)
theorem i_Law_pop_37 : m_at k_Law_pop 37 = some (.ireturn, 1, 0) := m_at_of r_Law_pop (by decide +kernel)
set_option maxRecDepth 20000 in
set_option maxHeartbeats 1000000 in
theorem E_Law_pop (x : m_X) (s : m_H) (w : Nat) : m_M x k_Law_pop [.ref w] s = if m_isO s w 1 = true then ((m_fI s 1 1 w).bind fun v1 => if v1 ≤ 0 then (some (some (.int 0), s)) else (m_fI s 1 1 w).bind fun v8 => if v8 ≤ 64 then ((m_fI s 1 1 w).bind fun v20 => (m_pf s 1 1 w (.int (v20 - (1 : Int32)))).bind fun s25 => (m_fR s25 1 0 w).bind fun v29 => (m_fI s25 1 1 w).bind fun v33 => (m_ia x s25 v29 v33).bind fun v36 => some (some (.int v36), s25)) else some (some (.int 0), s)) else none := by
  refine e_M1 (L0 := [some (.ref w)]) rfl (by decide +kernel) rfl (q_Law_pop _) rfl ?_
  refine e_aload_n i_Law_pop_0 rfl ?_
  refine e_getI i_Law_pop_1 lf_86 (by decide) (Or.inl ft_1_1) (fun v1 => ?_)
  refine e_ifle (t := 16) i_Law_pop_4 (by decide) ?_ ?_
  · refine e_iconst (v := 0) i_Law_pop_16 (by decide) ?_
    exact e_iretI i_Law_pop_17 rfl
  · refine e_aload_n i_Law_pop_7 rfl ?_
    refine e_getI i_Law_pop_8 lf_86 (by decide) (Or.inl ft_1_1) (fun v8 => ?_)
    refine e_bipush (v := 64) i_Law_pop_11 (by decide) ?_
    refine e_icmple (t := 18) i_Law_pop_13 (by decide) ?_ ?_
    · refine e_aload_n i_Law_pop_18 rfl ?_
      refine e_dup i_Law_pop_19 rfl ?_
      refine e_getI i_Law_pop_20 lf_86 (by decide) (Or.inl ft_1_1) (fun v20 => ?_)
      refine e_iconst (v := 1) i_Law_pop_23 (by decide) ?_
      refine e_isub i_Law_pop_24 ?_
      refine e_putf i_Law_pop_25 lf_86 ft_1_1 rfl (fun s25 => ?_)
      refine e_aload_n i_Law_pop_28 rfl ?_
      refine e_getR i_Law_pop_29 lf_87 (by decide) ft_1_0 (fun v29 => ?_)
      refine e_aload_n i_Law_pop_32 rfl ?_
      refine e_getI i_Law_pop_33 lf_86 (by decide) (Or.inl ft_1_1) (fun v33 => ?_)
      refine e_iald i_Law_pop_36 (fun v36 => ?_)
      exact e_iretI i_Law_pop_37 rfl
    · refine e_iconst (v := 0) i_Law_pop_16 (by decide) ?_
      exact e_iretI i_Law_pop_17 rfl
theorem i_Law_named_0 : m_at k_Law_named 0 = some (.iload_n 0, 1, 0) := m_at_of r_Law_named (by decide +kernel)
theorem i_Law_named_1 : m_at k_Law_named 1 = some (.tableswitch (77) (11) (18) #[47, 55, 63, 77, 77, 77, 65, 71], 47, 0) := m_at_of r_Law_named (by decide +kernel)
theorem i_Law_named_48 : m_at k_Law_named 48 = some (.aload_n 1, 1, 0) := m_at_of r_Law_named (by decide +kernel)
theorem i_Law_named_49 : m_at k_Law_named 49 = some (.getfield 46, 3, 83) := m_at_of r_Law_named (by decide +kernel)
theorem i_Law_named_52 : m_at k_Law_named 52 = some (.bipush 22, 2, 0) := m_at_of r_Law_named (by decide +kernel)
theorem i_Law_named_54 : m_at k_Law_named 54 = some (.iaload, 1, 0) := m_at_of r_Law_named (by decide +kernel)
theorem i_Law_named_55 : m_at k_Law_named 55 = some (.ireturn, 1, 0) := m_at_of r_Law_named (by decide +kernel)
theorem i_Law_named_56 : m_at k_Law_named 56 = some (.aload_n 1, 1, 0) := m_at_of r_Law_named (by decide +kernel)
theorem i_Law_named_57 : m_at k_Law_named 57 = some (.getfield 46, 3, 83) := m_at_of r_Law_named (by decide +kernel)
theorem i_Law_named_60 : m_at k_Law_named 60 = some (.bipush 23, 2, 0) := m_at_of r_Law_named (by decide +kernel)
theorem i_Law_named_62 : m_at k_Law_named 62 = some (.iaload, 1, 0) := m_at_of r_Law_named (by decide +kernel)
theorem i_Law_named_63 : m_at k_Law_named 63 = some (.ireturn, 1, 0) := m_at_of r_Law_named (by decide +kernel)
theorem i_Law_named_64 : m_at k_Law_named 64 = some (.iload_n 2, 1, 0) := m_at_of r_Law_named (by decide +kernel)
theorem i_Law_named_65 : m_at k_Law_named 65 = some (.ireturn, 1, 0) := m_at_of r_Law_named (by decide +kernel)
theorem i_Law_named_66 : m_at k_Law_named 66 = some (.aload_n 1, 1, 0) := m_at_of r_Law_named (by decide +kernel)
theorem i_Law_named_67 : m_at k_Law_named 67 = some (.iload_n 2, 1, 0) := m_at_of r_Law_named (by decide +kernel)
theorem i_Law_named_68 : m_at k_Law_named 68 = some (.invokevirtual 60, 3, 282) := m_at_of r_Law_named (by decide +kernel)
theorem i_Law_named_71 : m_at k_Law_named 71 = some (.ireturn, 1, 0) := m_at_of r_Law_named (by decide +kernel)
theorem i_Law_named_72 : m_at k_Law_named 72 = some (.aload_n 1, 1, 0) := m_at_of r_Law_named (by decide +kernel)
theorem i_Law_named_73 : m_at k_Law_named 73 = some (.iload_n 2, 1, 0) := m_at_of r_Law_named (by decide +kernel)
theorem i_Law_named_74 : m_at k_Law_named 74 = some (.invokevirtual 79, 3, 316) := m_at_of r_Law_named (by decide +kernel)
theorem i_Law_named_77 : m_at k_Law_named 77 = some (.ireturn, 1, 0) := m_at_of r_Law_named (by decide +kernel)
theorem i_Law_named_78 : m_at k_Law_named 78 = some (.aload_n 1, 1, 0) := m_at_of r_Law_named (by decide +kernel)
theorem i_Law_named_79 : m_at k_Law_named 79 = some (.iload_n 0, 1, 0) := m_at_of r_Law_named (by decide +kernel)
theorem i_Law_named_80 : m_at k_Law_named 80 = some (.invokestatic 115, 3, 317) := m_at_of r_Law_named (by decide +kernel)
theorem i_Law_named_83 : m_at k_Law_named 83 = some (.iload_n 2, 1, 0) := m_at_of r_Law_named (by decide +kernel)
theorem i_Law_named_84 : m_at k_Law_named 84 = some (.invokevirtual 49, 3, 278) := m_at_of r_Law_named (by decide +kernel)
theorem i_Law_named_87 : m_at k_Law_named 87 = some (.ireturn, 1, 0) := m_at_of r_Law_named (by decide +kernel)
set_option maxRecDepth 20000 in
set_option maxHeartbeats 1000000 in
theorem E_Law_named (x : m_X) (s : m_H) (n0 : Int32) (r1 : Nat) (n2 : Int32) : m_M x k_Law_named [.int n0, .ref r1, .int n2] s = if n0 = 11 then ((m_fR s 9 0 r1).bind fun v49 => (m_ia x s v49 22).bind fun v54 => some (some (.int v54), s)) else if n0 = 12 then ((m_fR s 9 0 r1).bind fun v57 => (m_ia x s v57 23).bind fun v62 => some (some (.int v62), s)) else if n0 = 13 then (some (some (.int n2), s)) else if n0 = 14 then (m_bI (m_M x k_Law_cellsOf [.int n0] s) fun v80 s80 => m_bI (m_M x k_World_at [.ref r1, .int v80, .int n2] s80) fun v84 s84 => some (some (.int v84), s84)) else if n0 = 15 then (m_bI (m_M x k_Law_cellsOf [.int n0] s) fun v80 s80 => m_bI (m_M x k_World_at [.ref r1, .int v80, .int n2] s80) fun v84 s84 => some (some (.int v84), s84)) else if n0 = 16 then (m_bI (m_M x k_Law_cellsOf [.int n0] s) fun v80 s80 => m_bI (m_M x k_World_at [.ref r1, .int v80, .int n2] s80) fun v84 s84 => some (some (.int v84), s84)) else if n0 = 17 then (m_bI (m_M x k_World_rightsOf [.ref r1, .int n2] s) fun v68 s68 => some (some (.int v68), s68)) else if n0 = 18 then (m_bI (m_M x k_World_bareHandsOf [.ref r1, .int n2] s) fun v74 s74 => some (some (.int v74), s74)) else m_bI (m_M x k_Law_cellsOf [.int n0] s) fun v80 s80 => m_bI (m_M x k_World_at [.ref r1, .int v80, .int n2] s80) fun v84 s84 => some (some (.int v84), s84) := by
  refine e_M0 (L0 := [some (.int n0), some (.ref r1), some (.int n2)]) rfl (q_Law_named _) rfl ?_
  refine e_iload_n i_Law_named_0 rfl ?_
  refine e_tsw (cs := [(11, 48), (12, 56), (13, 64), (14, 78), (15, 78), (16, 78), (17, 66), (18, 72)]) (td := 78) i_Law_named_1 (by decide +kernel) ?_
  refine m_sw_c ?_ ?_
  · refine e_aload_n i_Law_named_48 rfl ?_
    refine e_getR i_Law_named_49 lf_83 (by decide) ft_9_0 (fun v49 => ?_)
    refine e_bipush (v := 22) i_Law_named_52 (by decide) ?_
    refine e_iald i_Law_named_54 (fun v54 => ?_)
    exact e_iretI i_Law_named_55 rfl
  refine m_sw_c ?_ ?_
  · refine e_aload_n i_Law_named_56 rfl ?_
    refine e_getR i_Law_named_57 lf_83 (by decide) ft_9_0 (fun v57 => ?_)
    refine e_bipush (v := 23) i_Law_named_60 (by decide) ?_
    refine e_iald i_Law_named_62 (fun v62 => ?_)
    exact e_iretI i_Law_named_63 rfl
  refine m_sw_c ?_ ?_
  · refine e_iload_n i_Law_named_64 rfl ?_
    exact e_iretI i_Law_named_65 rfl
  refine m_sw_c ?_ ?_
  · refine e_aload_n i_Law_named_78 rfl ?_
    refine e_iload_n i_Law_named_79 rfl ?_
    refine e_callI (as := [.int n0]) (st' := [.ref r1]) i_Law_named_80 lm_317 (Or.inl ⟨rfl, rfl⟩) w_Law_cellsOf rfl rfl rfl (Nat.le_of_ble_eq_true rfl) (Nat.le_of_ble_eq_true rfl) (m_rlt (q_Law_cellsOf _) (by decide)) rfl (fun v80 s80 => ?_)
    refine e_iload_n i_Law_named_83 rfl ?_
    refine e_callI (as := [.ref r1, .int v80, .int n2]) (st' := []) i_Law_named_84 lm_278 (Or.inr (Or.inl ⟨rfl, rfl⟩)) w_World_at rfl rfl rfl (Nat.le_of_ble_eq_true rfl) (Nat.le_of_ble_eq_true rfl) (m_rlt (q_World_at _) (by decide)) rfl (fun v84 s84 => ?_)
    exact e_iretI i_Law_named_87 rfl
  refine m_sw_c ?_ ?_
  · refine e_aload_n i_Law_named_78 rfl ?_
    refine e_iload_n i_Law_named_79 rfl ?_
    refine e_callI (as := [.int n0]) (st' := [.ref r1]) i_Law_named_80 lm_317 (Or.inl ⟨rfl, rfl⟩) w_Law_cellsOf rfl rfl rfl (Nat.le_of_ble_eq_true rfl) (Nat.le_of_ble_eq_true rfl) (m_rlt (q_Law_cellsOf _) (by decide)) rfl (fun v80 s80 => ?_)
    refine e_iload_n i_Law_named_83 rfl ?_
    refine e_callI (as := [.ref r1, .int v80, .int n2]) (st' := []) i_Law_named_84 lm_278 (Or.inr (Or.inl ⟨rfl, rfl⟩)) w_World_at rfl rfl rfl (Nat.le_of_ble_eq_true rfl) (Nat.le_of_ble_eq_true rfl) (m_rlt (q_World_at _) (by decide)) rfl (fun v84 s84 => ?_)
    exact e_iretI i_Law_named_87 rfl
  refine m_sw_c ?_ ?_
  · refine e_aload_n i_Law_named_78 rfl ?_
    refine e_iload_n i_Law_named_79 rfl ?_
    refine e_callI (as := [.int n0]) (st' := [.ref r1]) i_Law_named_80 lm_317 (Or.inl ⟨rfl, rfl⟩) w_Law_cellsOf rfl rfl rfl (Nat.le_of_ble_eq_true rfl) (Nat.le_of_ble_eq_true rfl) (m_rlt (q_Law_cellsOf _) (by decide)) rfl (fun v80 s80 => ?_)
    refine e_iload_n i_Law_named_83 rfl ?_
    refine e_callI (as := [.ref r1, .int v80, .int n2]) (st' := []) i_Law_named_84 lm_278 (Or.inr (Or.inl ⟨rfl, rfl⟩)) w_World_at rfl rfl rfl (Nat.le_of_ble_eq_true rfl) (Nat.le_of_ble_eq_true rfl) (m_rlt (q_World_at _) (by decide)) rfl (fun v84 s84 => ?_)
    exact e_iretI i_Law_named_87 rfl
  refine m_sw_c ?_ ?_
  · refine e_aload_n i_Law_named_66 rfl ?_
    refine e_iload_n i_Law_named_67 rfl ?_
    refine e_callI (as := [.ref r1, .int n2]) (st' := []) i_Law_named_68 lm_282 (Or.inr (Or.inl ⟨rfl, rfl⟩)) w_World_rightsOf rfl rfl rfl (Nat.le_of_ble_eq_true rfl) (Nat.le_of_ble_eq_true rfl) (m_rlt (q_World_rightsOf _) (by decide)) rfl (fun v68 s68 => ?_)
    exact e_iretI i_Law_named_71 rfl
  refine m_sw_c ?_ ?_
  · refine e_aload_n i_Law_named_72 rfl ?_
    refine e_iload_n i_Law_named_73 rfl ?_
    refine e_callI (as := [.ref r1, .int n2]) (st' := []) i_Law_named_74 lm_316 (Or.inr (Or.inl ⟨rfl, rfl⟩)) w_World_bareHandsOf rfl rfl rfl (Nat.le_of_ble_eq_true rfl) (Nat.le_of_ble_eq_true rfl) (m_rlt (q_World_bareHandsOf _) (by decide)) rfl (fun v74 s74 => ?_)
    exact e_iretI i_Law_named_77 rfl
  refine m_sw_n ?_
  refine e_aload_n i_Law_named_78 rfl ?_
  refine e_iload_n i_Law_named_79 rfl ?_
  refine e_callI (as := [.int n0]) (st' := [.ref r1]) i_Law_named_80 lm_317 (Or.inl ⟨rfl, rfl⟩) w_Law_cellsOf rfl rfl rfl (Nat.le_of_ble_eq_true rfl) (Nat.le_of_ble_eq_true rfl) (m_rlt (q_Law_cellsOf _) (by decide)) rfl (fun v80 s80 => ?_)
  refine e_iload_n i_Law_named_83 rfl ?_
  refine e_callI (as := [.ref r1, .int v80, .int n2]) (st' := []) i_Law_named_84 lm_278 (Or.inr (Or.inl ⟨rfl, rfl⟩)) w_World_at rfl rfl rfl (Nat.le_of_ble_eq_true rfl) (Nat.le_of_ble_eq_true rfl) (m_rlt (q_World_at _) (by decide)) rfl (fun v84 s84 => ?_)
  exact e_iretI i_Law_named_87 rfl
theorem i_Law_cellsOf_0 : m_at k_Law_cellsOf 0 = some (.iload_n 0, 1, 0) := m_at_of r_Law_cellsOf (by decide +kernel)
theorem i_Law_cellsOf_1 : m_at k_Law_cellsOf 1 = some (.tableswitch (85) (14) (24) #[59, 61, 64, 85, 85, 67, 70, 73, 76, 79, 82], 59, 0) := m_at_of r_Law_cellsOf (by decide +kernel)
theorem i_Law_cellsOf_60 : m_at k_Law_cellsOf 60 = some (.iconst 1, 1, 0) := m_at_of r_Law_cellsOf (by decide +kernel)
theorem i_Law_cellsOf_61 : m_at k_Law_cellsOf 61 = some (.ireturn, 1, 0) := m_at_of r_Law_cellsOf (by decide +kernel)
theorem i_Law_cellsOf_62 : m_at k_Law_cellsOf 62 = some (.bipush 8, 2, 0) := m_at_of r_Law_cellsOf (by decide +kernel)
theorem i_Law_cellsOf_64 : m_at k_Law_cellsOf 64 = some (.ireturn, 1, 0) := m_at_of r_Law_cellsOf (by decide +kernel)
theorem i_Law_cellsOf_65 : m_at k_Law_cellsOf 65 = some (.bipush 15, 2, 0) := m_at_of r_Law_cellsOf (by decide +kernel)
theorem i_Law_cellsOf_67 : m_at k_Law_cellsOf 67 = some (.ireturn, 1, 0) := m_at_of r_Law_cellsOf (by decide +kernel)
theorem i_Law_cellsOf_68 : m_at k_Law_cellsOf 68 = some (.bipush 51, 2, 0) := m_at_of r_Law_cellsOf (by decide +kernel)
theorem i_Law_cellsOf_70 : m_at k_Law_cellsOf 70 = some (.ireturn, 1, 0) := m_at_of r_Law_cellsOf (by decide +kernel)
theorem i_Law_cellsOf_71 : m_at k_Law_cellsOf 71 = some (.bipush 63, 2, 0) := m_at_of r_Law_cellsOf (by decide +kernel)
theorem i_Law_cellsOf_73 : m_at k_Law_cellsOf 73 = some (.ireturn, 1, 0) := m_at_of r_Law_cellsOf (by decide +kernel)
theorem i_Law_cellsOf_74 : m_at k_Law_cellsOf 74 = some (.bipush 87, 2, 0) := m_at_of r_Law_cellsOf (by decide +kernel)
theorem i_Law_cellsOf_76 : m_at k_Law_cellsOf 76 = some (.ireturn, 1, 0) := m_at_of r_Law_cellsOf (by decide +kernel)
theorem i_Law_cellsOf_77 : m_at k_Law_cellsOf 77 = some (.bipush 75, 2, 0) := m_at_of r_Law_cellsOf (by decide +kernel)
theorem i_Law_cellsOf_79 : m_at k_Law_cellsOf 79 = some (.ireturn, 1, 0) := m_at_of r_Law_cellsOf (by decide +kernel)
theorem i_Law_cellsOf_80 : m_at k_Law_cellsOf 80 = some (.bipush 27, 2, 0) := m_at_of r_Law_cellsOf (by decide +kernel)
theorem i_Law_cellsOf_82 : m_at k_Law_cellsOf 82 = some (.ireturn, 1, 0) := m_at_of r_Law_cellsOf (by decide +kernel)
theorem i_Law_cellsOf_83 : m_at k_Law_cellsOf 83 = some (.bipush 39, 2, 0) := m_at_of r_Law_cellsOf (by decide +kernel)
theorem i_Law_cellsOf_85 : m_at k_Law_cellsOf 85 = some (.ireturn, 1, 0) := m_at_of r_Law_cellsOf (by decide +kernel)
theorem i_Law_cellsOf_86 : m_at k_Law_cellsOf 86 = some (.sipush 141, 3, 0) := m_at_of r_Law_cellsOf (by decide +kernel)
theorem i_Law_cellsOf_89 : m_at k_Law_cellsOf 89 = some (.ireturn, 1, 0) := m_at_of r_Law_cellsOf (by decide +kernel)
set_option maxRecDepth 20000 in
set_option maxHeartbeats 1000000 in
theorem E_Law_cellsOf (x : m_X) (s : m_H) (n0 : Int32) : m_M x k_Law_cellsOf [.int n0] s = if n0 = 14 then (some (some (.int 1), s)) else if n0 = 15 then (some (some (.int 8), s)) else if n0 = 16 then (some (some (.int 15), s)) else if n0 = 17 then (some (some (.int 141), s)) else if n0 = 18 then (some (some (.int 141), s)) else if n0 = 19 then (some (some (.int 51), s)) else if n0 = 20 then (some (some (.int 63), s)) else if n0 = 21 then (some (some (.int 87), s)) else if n0 = 22 then (some (some (.int 75), s)) else if n0 = 23 then (some (some (.int 27), s)) else if n0 = 24 then (some (some (.int 39), s)) else some (some (.int 141), s) := by
  refine e_M0 (L0 := [some (.int n0)]) rfl (q_Law_cellsOf _) rfl ?_
  refine e_iload_n i_Law_cellsOf_0 rfl ?_
  refine e_tsw (cs := [(14, 60), (15, 62), (16, 65), (17, 86), (18, 86), (19, 68), (20, 71), (21, 74), (22, 77), (23, 80), (24, 83)]) (td := 86) i_Law_cellsOf_1 (by decide +kernel) ?_
  refine m_sw_c ?_ ?_
  · refine e_iconst (v := 1) i_Law_cellsOf_60 (by decide) ?_
    exact e_iretI i_Law_cellsOf_61 rfl
  refine m_sw_c ?_ ?_
  · refine e_bipush (v := 8) i_Law_cellsOf_62 (by decide) ?_
    exact e_iretI i_Law_cellsOf_64 rfl
  refine m_sw_c ?_ ?_
  · refine e_bipush (v := 15) i_Law_cellsOf_65 (by decide) ?_
    exact e_iretI i_Law_cellsOf_67 rfl
  refine m_sw_c ?_ ?_
  · refine e_sipush (v := 141) i_Law_cellsOf_86 (by decide) ?_
    exact e_iretI i_Law_cellsOf_89 rfl
  refine m_sw_c ?_ ?_
  · refine e_sipush (v := 141) i_Law_cellsOf_86 (by decide) ?_
    exact e_iretI i_Law_cellsOf_89 rfl
  refine m_sw_c ?_ ?_
  · refine e_bipush (v := 51) i_Law_cellsOf_68 (by decide) ?_
    exact e_iretI i_Law_cellsOf_70 rfl
  refine m_sw_c ?_ ?_
  · refine e_bipush (v := 63) i_Law_cellsOf_71 (by decide) ?_
    exact e_iretI i_Law_cellsOf_73 rfl
  refine m_sw_c ?_ ?_
  · refine e_bipush (v := 87) i_Law_cellsOf_74 (by decide) ?_
    exact e_iretI i_Law_cellsOf_76 rfl
  refine m_sw_c ?_ ?_
  · refine e_bipush (v := 75) i_Law_cellsOf_77 (by decide) ?_
    exact e_iretI i_Law_cellsOf_79 rfl
  refine m_sw_c ?_ ?_
  · refine e_bipush (v := 27) i_Law_cellsOf_80 (by decide) ?_
    exact e_iretI i_Law_cellsOf_82 rfl
  refine m_sw_c ?_ ?_
  · refine e_bipush (v := 39) i_Law_cellsOf_83 (by decide) ?_
    exact e_iretI i_Law_cellsOf_85 rfl
  refine m_sw_n ?_
  refine e_sipush (v := 141) i_Law_cellsOf_86 (by decide) ?_
  exact e_iretI i_Law_cellsOf_89 rfl
theorem i_Law_push_0 : m_at k_Law_push 0 = some (.aload_n 0, 1, 0) := m_at_of r_Law_push (by decide +kernel)
theorem i_Law_push_1 : m_at k_Law_push 1 = some (.getfield 82, 3, 86) := m_at_of r_Law_push (by decide +kernel)
theorem i_Law_push_4 : m_at k_Law_push 4 = some (.ifCond .lt (32), 3, 0) := m_at_of r_Law_push (by decide +kernel)
theorem i_Law_push_7 : m_at k_Law_push 7 = some (.aload_n 0, 1, 0) := m_at_of r_Law_push (by decide +kernel)
theorem i_Law_push_8 : m_at k_Law_push 8 = some (.getfield 82, 3, 86) := m_at_of r_Law_push (by decide +kernel)
theorem i_Law_push_11 : m_at k_Law_push 11 = some (.bipush 64, 2, 0) := m_at_of r_Law_push (by decide +kernel)
theorem i_Law_push_13 : m_at k_Law_push 13 = some (.if_icmp .ge (23), 3, 0) := m_at_of r_Law_push (by decide +kernel)
theorem i_Law_push_16 : m_at k_Law_push 16 = some (.aload_n 0, 1, 0) := m_at_of r_Law_push (by decide +kernel)
theorem i_Law_push_17 : m_at k_Law_push 17 = some (.getfield 11, 3, 87) := m_at_of r_Law_push (by decide +kernel)
theorem i_Law_push_20 : m_at k_Law_push 20 = some (.aload_n 0, 1, 0) := m_at_of r_Law_push (by decide +kernel)
theorem i_Law_push_21 : m_at k_Law_push 21 = some (.getfield 82, 3, 86) := m_at_of r_Law_push (by decide +kernel)
theorem i_Law_push_24 : m_at k_Law_push 24 = some (.iload_n 1, 1, 0) := m_at_of r_Law_push (by decide +kernel)
theorem i_Law_push_25 : m_at k_Law_push 25 = some (.iastore, 1, 0) := m_at_of r_Law_push (by decide +kernel)
theorem i_Law_push_26 : m_at k_Law_push 26 = some (.aload_n 0, 1, 0) := m_at_of r_Law_push (by decide +kernel)
theorem i_Law_push_27 : m_at k_Law_push 27 = some (.dup, 1, 0) := m_at_of r_Law_push (by decide +kernel)
theorem i_Law_push_28 : m_at k_Law_push 28 = some (.getfield 82, 3, 86) := m_at_of r_Law_push (by decide +kernel)
theorem i_Law_push_31 : m_at k_Law_push 31 = some (.iconst 1, 1, 0) := m_at_of r_Law_push (by decide +kernel)
theorem i_Law_push_32 : m_at k_Law_push 32 = some (.iadd, 1, 0) := m_at_of r_Law_push (by decide +kernel)
theorem i_Law_push_33 : m_at k_Law_push 33 = some (.putfield 82, 3, 86) := m_at_of r_Law_push (by decide +kernel)
theorem i_Law_push_36 : m_at k_Law_push 36 = some (.return_, 1, 0) := m_at_of r_Law_push (by decide +kernel)
set_option maxRecDepth 20000 in
set_option maxHeartbeats 1000000 in
theorem E_Law_push (x : m_X) (s : m_H) (w : Nat) (n1 : Int32) : m_M x k_Law_push [.ref w, .int n1] s = if m_isO s w 1 = true then ((m_fI s 1 1 w).bind fun v1 => if v1 < 0 then (some (none, s)) else (m_fI s 1 1 w).bind fun v8 => if 64 ≤ v8 then (some (none, s)) else (m_fR s 1 0 w).bind fun v17 => (m_fI s 1 1 w).bind fun v21 => (m_is s v17 v21 n1).bind fun s25 => (m_fI s25 1 1 w).bind fun v28 => (m_pf s25 1 1 w (.int (v28 + (1 : Int32)))).bind fun s33 => some (none, s33)) else none := by
  refine e_M1 (L0 := [some (.ref w), some (.int n1)]) rfl (by decide +kernel) rfl (q_Law_push _) rfl ?_
  refine e_aload_n i_Law_push_0 rfl ?_
  refine e_getI i_Law_push_1 lf_86 (by decide) (Or.inl ft_1_1) (fun v1 => ?_)
  refine e_iflt (t := 36) i_Law_push_4 (by decide) ?_ ?_
  · exact e_vret i_Law_push_36 rfl
  · refine e_aload_n i_Law_push_7 rfl ?_
    refine e_getI i_Law_push_8 lf_86 (by decide) (Or.inl ft_1_1) (fun v8 => ?_)
    refine e_bipush (v := 64) i_Law_push_11 (by decide) ?_
    refine e_icmpge (t := 36) i_Law_push_13 (by decide) ?_ ?_
    · exact e_vret i_Law_push_36 rfl
    · refine e_aload_n i_Law_push_16 rfl ?_
      refine e_getR i_Law_push_17 lf_87 (by decide) ft_1_0 (fun v17 => ?_)
      refine e_aload_n i_Law_push_20 rfl ?_
      refine e_getI i_Law_push_21 lf_86 (by decide) (Or.inl ft_1_1) (fun v21 => ?_)
      refine e_iload_n i_Law_push_24 rfl ?_
      refine e_iast i_Law_push_25 (fun s25 => ?_)
      refine e_aload_n i_Law_push_26 rfl ?_
      refine e_dup i_Law_push_27 rfl ?_
      refine e_getI i_Law_push_28 lf_86 (by decide) (Or.inl ft_1_1) (fun v28 => ?_)
      refine e_iconst (v := 1) i_Law_push_31 (by decide) ?_
      refine e_iadd i_Law_push_32 ?_
      refine e_putf i_Law_push_33 lf_86 ft_1_1 rfl (fun s33 => ?_)
      exact e_vret i_Law_push_36 rfl
theorem i_Law_plainAmount_0 : m_at k_Law_plainAmount 0 = some (.iload_n 0, 1, 0) := m_at_of r_Law_plainAmount (by decide +kernel)
theorem i_Law_plainAmount_1 : m_at k_Law_plainAmount 1 = some (.tableswitch (63) (0) (3) #[31, 45, 51, 53], 31, 0) := m_at_of r_Law_plainAmount (by decide +kernel)
theorem i_Law_plainAmount_32 : m_at k_Law_plainAmount 32 = some (.aload_n 1, 1, 0) := m_at_of r_Law_plainAmount (by decide +kernel)
theorem i_Law_plainAmount_33 : m_at k_Law_plainAmount 33 = some (.getfield 46, 3, 83) := m_at_of r_Law_plainAmount (by decide +kernel)
theorem i_Law_plainAmount_36 : m_at k_Law_plainAmount 36 = some (.bipush 23, 2, 0) := m_at_of r_Law_plainAmount (by decide +kernel)
theorem i_Law_plainAmount_38 : m_at k_Law_plainAmount 38 = some (.iaload, 1, 0) := m_at_of r_Law_plainAmount (by decide +kernel)
theorem i_Law_plainAmount_39 : m_at k_Law_plainAmount 39 = some (.aload_n 1, 1, 0) := m_at_of r_Law_plainAmount (by decide +kernel)
theorem i_Law_plainAmount_40 : m_at k_Law_plainAmount 40 = some (.iload_n 2, 1, 0) := m_at_of r_Law_plainAmount (by decide +kernel)
theorem i_Law_plainAmount_41 : m_at k_Law_plainAmount 41 = some (.invokevirtual 79, 3, 316) := m_at_of r_Law_plainAmount (by decide +kernel)
theorem i_Law_plainAmount_44 : m_at k_Law_plainAmount 44 = some (.imul, 1, 0) := m_at_of r_Law_plainAmount (by decide +kernel)
theorem i_Law_plainAmount_45 : m_at k_Law_plainAmount 45 = some (.ireturn, 1, 0) := m_at_of r_Law_plainAmount (by decide +kernel)
theorem i_Law_plainAmount_46 : m_at k_Law_plainAmount 46 = some (.aload_n 1, 1, 0) := m_at_of r_Law_plainAmount (by decide +kernel)
theorem i_Law_plainAmount_47 : m_at k_Law_plainAmount 47 = some (.iload_n 2, 1, 0) := m_at_of r_Law_plainAmount (by decide +kernel)
theorem i_Law_plainAmount_48 : m_at k_Law_plainAmount 48 = some (.invokevirtual 60, 3, 282) := m_at_of r_Law_plainAmount (by decide +kernel)
theorem i_Law_plainAmount_51 : m_at k_Law_plainAmount 51 = some (.ireturn, 1, 0) := m_at_of r_Law_plainAmount (by decide +kernel)
theorem i_Law_plainAmount_52 : m_at k_Law_plainAmount 52 = some (.iconst 1, 1, 0) := m_at_of r_Law_plainAmount (by decide +kernel)
theorem i_Law_plainAmount_53 : m_at k_Law_plainAmount 53 = some (.ireturn, 1, 0) := m_at_of r_Law_plainAmount (by decide +kernel)
theorem i_Law_plainAmount_54 : m_at k_Law_plainAmount 54 = some (.aload_n 1, 1, 0) := m_at_of r_Law_plainAmount (by decide +kernel)
theorem i_Law_plainAmount_55 : m_at k_Law_plainAmount 55 = some (.bipush 51, 2, 0) := m_at_of r_Law_plainAmount (by decide +kernel)
theorem i_Law_plainAmount_57 : m_at k_Law_plainAmount 57 = some (.iload_n 2, 1, 0) := m_at_of r_Law_plainAmount (by decide +kernel)
theorem i_Law_plainAmount_58 : m_at k_Law_plainAmount 58 = some (.invokevirtual 49, 3, 278) := m_at_of r_Law_plainAmount (by decide +kernel)
theorem i_Law_plainAmount_61 : m_at k_Law_plainAmount 61 = some (.iconst 2, 1, 0) := m_at_of r_Law_plainAmount (by decide +kernel)
theorem i_Law_plainAmount_62 : m_at k_Law_plainAmount 62 = some (.idiv, 1, 0) := m_at_of r_Law_plainAmount (by decide +kernel)
theorem i_Law_plainAmount_63 : m_at k_Law_plainAmount 63 = some (.ireturn, 1, 0) := m_at_of r_Law_plainAmount (by decide +kernel)
theorem i_Law_plainAmount_64 : m_at k_Law_plainAmount 64 = some (.iconst 0, 1, 0) := m_at_of r_Law_plainAmount (by decide +kernel)
theorem i_Law_plainAmount_65 : m_at k_Law_plainAmount 65 = some (.ireturn, 1, 0) := m_at_of r_Law_plainAmount (by decide +kernel)
set_option maxRecDepth 20000 in
set_option maxHeartbeats 1000000 in
theorem E_Law_plainAmount (x : m_X) (s : m_H) (n0 : Int32) (r1 : Nat) (n2 : Int32) : m_M x k_Law_plainAmount [.int n0, .ref r1, .int n2] s = if n0 = 0 then ((m_fR s 9 0 r1).bind fun v33 => (m_ia x s v33 23).bind fun v38 => m_bI (m_M x k_World_bareHandsOf [.ref r1, .int n2] s) fun v41 s41 => some (some (.int (v38 * v41)), s41)) else if n0 = 1 then (m_bI (m_M x k_World_rightsOf [.ref r1, .int n2] s) fun v48 s48 => some (some (.int v48), s48)) else if n0 = 2 then (some (some (.int 1), s)) else if n0 = 3 then (m_bI (m_M x k_World_at [.ref r1, .int 51, .int n2] s) fun v58 s58 => some (some (.int (v58 / (2 : Int32))), s58)) else some (some (.int 0), s) := by
  refine e_M0 (L0 := [some (.int n0), some (.ref r1), some (.int n2)]) rfl (q_Law_plainAmount _) rfl ?_
  refine e_iload_n i_Law_plainAmount_0 rfl ?_
  refine e_tsw (cs := [(0, 32), (1, 46), (2, 52), (3, 54)]) (td := 64) i_Law_plainAmount_1 (by decide +kernel) ?_
  refine m_sw_c ?_ ?_
  · refine e_aload_n i_Law_plainAmount_32 rfl ?_
    refine e_getR i_Law_plainAmount_33 lf_83 (by decide) ft_9_0 (fun v33 => ?_)
    refine e_bipush (v := 23) i_Law_plainAmount_36 (by decide) ?_
    refine e_iald i_Law_plainAmount_38 (fun v38 => ?_)
    refine e_aload_n i_Law_plainAmount_39 rfl ?_
    refine e_iload_n i_Law_plainAmount_40 rfl ?_
    refine e_callI (as := [.ref r1, .int n2]) (st' := [.int v38]) i_Law_plainAmount_41 lm_316 (Or.inr (Or.inl ⟨rfl, rfl⟩)) w_World_bareHandsOf rfl rfl rfl (Nat.le_of_ble_eq_true rfl) (Nat.le_of_ble_eq_true rfl) (m_rlt (q_World_bareHandsOf _) (by decide)) rfl (fun v41 s41 => ?_)
    refine e_imul i_Law_plainAmount_44 ?_
    exact e_iretI i_Law_plainAmount_45 rfl
  refine m_sw_c ?_ ?_
  · refine e_aload_n i_Law_plainAmount_46 rfl ?_
    refine e_iload_n i_Law_plainAmount_47 rfl ?_
    refine e_callI (as := [.ref r1, .int n2]) (st' := []) i_Law_plainAmount_48 lm_282 (Or.inr (Or.inl ⟨rfl, rfl⟩)) w_World_rightsOf rfl rfl rfl (Nat.le_of_ble_eq_true rfl) (Nat.le_of_ble_eq_true rfl) (m_rlt (q_World_rightsOf _) (by decide)) rfl (fun v48 s48 => ?_)
    exact e_iretI i_Law_plainAmount_51 rfl
  refine m_sw_c ?_ ?_
  · refine e_iconst (v := 1) i_Law_plainAmount_52 (by decide) ?_
    exact e_iretI i_Law_plainAmount_53 rfl
  refine m_sw_c ?_ ?_
  · refine e_aload_n i_Law_plainAmount_54 rfl ?_
    refine e_bipush (v := 51) i_Law_plainAmount_55 (by decide) ?_
    refine e_iload_n i_Law_plainAmount_57 rfl ?_
    refine e_callI (as := [.ref r1, .int 51, .int n2]) (st' := []) i_Law_plainAmount_58 lm_278 (Or.inr (Or.inl ⟨rfl, rfl⟩)) w_World_at rfl rfl rfl (Nat.le_of_ble_eq_true rfl) (Nat.le_of_ble_eq_true rfl) (m_rlt (q_World_at _) (by decide)) rfl (fun v58 s58 => ?_)
    refine e_iconst (v := 2) i_Law_plainAmount_61 (by decide) ?_
    refine e_idivc i_Law_plainAmount_62 (by decide) ?_
    exact e_iretI i_Law_plainAmount_63 rfl
  refine m_sw_n ?_
  refine e_iconst (v := 0) i_Law_plainAmount_64 (by decide) ?_
  exact e_iretI i_Law_plainAmount_65 rfl
theorem i_Law_init_0 : m_at k_Law_init 0 = some (.aload_n 0, 1, 0) := m_at_of r_Law_init (by decide +kernel)
theorem i_Law_init_1 : m_at k_Law_init 1 = some (.invokespecial 3, 3, 442) := m_at_of r_Law_init (by decide +kernel)
theorem i_Law_init_4 : m_at k_Law_init 4 = some (.aload_n 0, 1, 0) := m_at_of r_Law_init (by decide +kernel)
theorem i_Law_init_5 : m_at k_Law_init 5 = some (.bipush 64, 2, 0) := m_at_of r_Law_init (by decide +kernel)
theorem i_Law_init_7 : m_at k_Law_init 7 = some (.newarray .int, 2, 0) := m_at_of r_Law_init (by decide +kernel)
theorem i_Law_init_9 : m_at k_Law_init 9 = some (.putfield 11, 3, 87) := m_at_of r_Law_init (by decide +kernel)
theorem i_Law_init_12 : m_at k_Law_init 12 = some (.return_, 1, 0) := m_at_of r_Law_init (by decide +kernel)
set_option maxRecDepth 20000 in
set_option maxHeartbeats 1000000 in
theorem E_Law_init (x : m_X) (s : m_H) (w : Nat) : m_M x k_Law_init [.ref w] s = if s.length < 900 ∧ ¬ 64 < (0 : Int32) ∧ (64 : Int32).toNatClampNeg ≤ 100000 then ((m_pf (s ++ [.inl (0, (64 : Int32).toNatClampNeg, .inl fun _ => 0)]) 1 0 w (.ref s.length)).bind fun s9 => some (none, s9)) else none := by
  refine e_M2 (L0 := [some (.ref w)]) rfl (q_Law_init _) rfl ?_
  refine e_aload_n i_Law_init_0 rfl ?_
  refine e_oinit i_Law_init_1 lm_442 (Nat.le_of_ble_eq_true rfl) ?_
  refine e_aload_n i_Law_init_4 rfl ?_
  refine e_bipush (v := 64) i_Law_init_5 (by decide) ?_
  refine e_newI i_Law_init_7 ?_
  refine e_putf i_Law_init_9 lf_87 ft_1_0 rfl (fun s9 => ?_)
  exact e_vret i_Law_init_12 rfl
theorem i_Math_abs_0 : m_at k_Math_abs 0 = some (.iload_n 0, 1, 0) := m_at_of r_Math_abs (by decide +kernel)
theorem i_Math_abs_1 : m_at k_Math_abs 1 = some (.ifCond .ge (8), 3, 0) := m_at_of r_Math_abs (by decide +kernel)
theorem i_Math_abs_4 : m_at k_Math_abs 4 = some (.iload_n 0, 1, 0) := m_at_of r_Math_abs (by decide +kernel)
theorem i_Math_abs_5 : m_at k_Math_abs 5 = some (.ineg, 1, 0) := m_at_of r_Math_abs (by decide +kernel)
theorem i_Math_abs_6 : m_at k_Math_abs 6 = some (.goto (4), 3, 0) := m_at_of r_Math_abs (by decide +kernel)
theorem i_Math_abs_9 : m_at k_Math_abs 9 = some (.iload_n 0, 1, 0) := m_at_of r_Math_abs (by decide +kernel)
theorem i_Math_abs_10 : m_at k_Math_abs 10 = some (.ireturn, 1, 0) := m_at_of r_Math_abs (by decide +kernel)
set_option maxRecDepth 20000 in
set_option maxHeartbeats 1000000 in
theorem E_Math_abs (x : m_X) (s : m_H) (n0 : Int32) : m_M x k_Math_abs [.int n0] s = if 0 ≤ n0 then (some (some (.int n0), s)) else some (some (.int (-n0)), s) := by
  refine e_M0 (L0 := [some (.int n0)]) rfl (q_Math_abs _) rfl ?_
  refine e_iload_n i_Math_abs_0 rfl ?_
  refine e_ifge (t := 9) i_Math_abs_1 (by decide) ?_ ?_
  · refine e_iload_n i_Math_abs_9 rfl ?_
    exact e_iretI i_Math_abs_10 rfl
  · refine e_iload_n i_Math_abs_4 rfl ?_
    refine e_ineg i_Math_abs_5 ?_
    refine e_goto (t := 10) i_Math_abs_6 (by decide) ?_
    exact e_iretI i_Math_abs_10 rfl
theorem i_Math_max_JJ_0 : m_at k_Math_max_JJ 0 = some (.lload_n 0, 1, 0) := m_at_of r_Math_max_JJ (by decide +kernel)
theorem i_Math_max_JJ_1 : m_at k_Math_max_JJ 1 = some (.lload_n 2, 1, 0) := m_at_of r_Math_max_JJ (by decide +kernel)
theorem i_Math_max_JJ_2 : m_at k_Math_max_JJ 2 = some (.lcmp, 1, 0) := m_at_of r_Math_max_JJ (by decide +kernel)
theorem i_Math_max_JJ_3 : m_at k_Math_max_JJ 3 = some (.ifCond .lt (7), 3, 0) := m_at_of r_Math_max_JJ (by decide +kernel)
theorem i_Math_max_JJ_6 : m_at k_Math_max_JJ 6 = some (.lload_n 0, 1, 0) := m_at_of r_Math_max_JJ (by decide +kernel)
theorem i_Math_max_JJ_7 : m_at k_Math_max_JJ 7 = some (.goto (4), 3, 0) := m_at_of r_Math_max_JJ (by decide +kernel)
theorem i_Math_max_JJ_10 : m_at k_Math_max_JJ 10 = some (.lload_n 2, 1, 0) := m_at_of r_Math_max_JJ (by decide +kernel)
theorem i_Math_max_JJ_11 : m_at k_Math_max_JJ 11 = some (.lreturn, 1, 0) := m_at_of r_Math_max_JJ (by decide +kernel)
set_option maxRecDepth 20000 in
set_option maxHeartbeats 1000000 in
theorem E_Math_max_JJ (x : m_X) (s : m_H) (l0 : Int64) (l2 : Int64) : m_M x k_Math_max_JJ [.long l0, .long l2] s = if l0 < l2 then (some (some (.long l2), s)) else some (some (.long l0), s) := by
  refine e_M0 (L0 := [some (.long l0), none, some (.long l2), none]) rfl (q_Math_max_JJ _) rfl ?_
  refine e_lload_n i_Math_max_JJ_0 rfl ?_
  refine e_lload_n i_Math_max_JJ_1 rfl ?_
  refine e_lcmplt (t := 10) i_Math_max_JJ_2 i_Math_max_JJ_3 (by decide) ?_ ?_
  · refine e_lload_n i_Math_max_JJ_10 rfl ?_
    exact e_lret i_Math_max_JJ_11 rfl
  · refine e_lload_n i_Math_max_JJ_6 rfl ?_
    refine e_goto (t := 11) i_Math_max_JJ_7 (by decide) ?_
    exact e_lret i_Math_max_JJ_11 rfl
theorem i_Math_min_JJ_0 : m_at k_Math_min_JJ 0 = some (.lload_n 0, 1, 0) := m_at_of r_Math_min_JJ (by decide +kernel)
theorem i_Math_min_JJ_1 : m_at k_Math_min_JJ 1 = some (.lload_n 2, 1, 0) := m_at_of r_Math_min_JJ (by decide +kernel)
theorem i_Math_min_JJ_2 : m_at k_Math_min_JJ 2 = some (.lcmp, 1, 0) := m_at_of r_Math_min_JJ (by decide +kernel)
theorem i_Math_min_JJ_3 : m_at k_Math_min_JJ 3 = some (.ifCond .gt (7), 3, 0) := m_at_of r_Math_min_JJ (by decide +kernel)
theorem i_Math_min_JJ_6 : m_at k_Math_min_JJ 6 = some (.lload_n 0, 1, 0) := m_at_of r_Math_min_JJ (by decide +kernel)
theorem i_Math_min_JJ_7 : m_at k_Math_min_JJ 7 = some (.goto (4), 3, 0) := m_at_of r_Math_min_JJ (by decide +kernel)
theorem i_Math_min_JJ_10 : m_at k_Math_min_JJ 10 = some (.lload_n 2, 1, 0) := m_at_of r_Math_min_JJ (by decide +kernel)
theorem i_Math_min_JJ_11 : m_at k_Math_min_JJ 11 = some (.lreturn, 1, 0) := m_at_of r_Math_min_JJ (by decide +kernel)
set_option maxRecDepth 20000 in
set_option maxHeartbeats 1000000 in
theorem E_Math_min_JJ (x : m_X) (s : m_H) (l0 : Int64) (l2 : Int64) : m_M x k_Math_min_JJ [.long l0, .long l2] s = if l2 < l0 then (some (some (.long l2), s)) else some (some (.long l0), s) := by
  refine e_M0 (L0 := [some (.long l0), none, some (.long l2), none]) rfl (q_Math_min_JJ _) rfl ?_
  refine e_lload_n i_Math_min_JJ_0 rfl ?_
  refine e_lload_n i_Math_min_JJ_1 rfl ?_
  refine e_lcmpgt (t := 10) i_Math_min_JJ_2 i_Math_min_JJ_3 (by decide) ?_ ?_
  · refine e_lload_n i_Math_min_JJ_10 rfl ?_
    exact e_lret i_Math_min_JJ_11 rfl
  · refine e_lload_n i_Math_min_JJ_6 rfl ?_
    refine e_goto (t := 11) i_Math_min_JJ_7 (by decide) ?_
    exact e_lret i_Math_min_JJ_11 rfl
theorem i_Math_floorMod_0 : m_at k_Math_floorMod 0 = some (.iload_n 0, 1, 0) := m_at_of r_Math_floorMod (by decide +kernel)
theorem i_Math_floorMod_1 : m_at k_Math_floorMod 1 = some (.iload_n 1, 1, 0) := m_at_of r_Math_floorMod (by decide +kernel)
theorem i_Math_floorMod_2 : m_at k_Math_floorMod 2 = some (.irem, 1, 0) := m_at_of r_Math_floorMod (by decide +kernel)
theorem i_Math_floorMod_3 : m_at k_Math_floorMod 3 = some (.istore_n 2, 1, 0) := m_at_of r_Math_floorMod (by decide +kernel)
theorem i_Math_floorMod_4 : m_at k_Math_floorMod 4 = some (.iload_n 0, 1, 0) := m_at_of r_Math_floorMod (by decide +kernel)
theorem i_Math_floorMod_5 : m_at k_Math_floorMod 5 = some (.iload_n 1, 1, 0) := m_at_of r_Math_floorMod (by decide +kernel)
theorem i_Math_floorMod_6 : m_at k_Math_floorMod 6 = some (.ixor, 1, 0) := m_at_of r_Math_floorMod (by decide +kernel)
theorem i_Math_floorMod_7 : m_at k_Math_floorMod 7 = some (.ifCond .ge (11), 3, 0) := m_at_of r_Math_floorMod (by decide +kernel)
theorem i_Math_floorMod_10 : m_at k_Math_floorMod 10 = some (.iload_n 2, 1, 0) := m_at_of r_Math_floorMod (by decide +kernel)
theorem i_Math_floorMod_11 : m_at k_Math_floorMod 11 = some (.ifCond .eq (7), 3, 0) := m_at_of r_Math_floorMod (by decide +kernel)
theorem i_Math_floorMod_14 : m_at k_Math_floorMod 14 = some (.iload_n 2, 1, 0) := m_at_of r_Math_floorMod (by decide +kernel)
theorem i_Math_floorMod_15 : m_at k_Math_floorMod 15 = some (.iload_n 1, 1, 0) := m_at_of r_Math_floorMod (by decide +kernel)
theorem i_Math_floorMod_16 : m_at k_Math_floorMod 16 = some (.iadd, 1, 0) := m_at_of r_Math_floorMod (by decide +kernel)
theorem i_Math_floorMod_17 : m_at k_Math_floorMod 17 = some (.ireturn, 1, 0) := m_at_of r_Math_floorMod (by decide +kernel)
theorem i_Math_floorMod_18 : m_at k_Math_floorMod 18 = some (.iload_n 2, 1, 0) := m_at_of r_Math_floorMod (by decide +kernel)
theorem i_Math_floorMod_19 : m_at k_Math_floorMod 19 = some (.ireturn, 1, 0) := m_at_of r_Math_floorMod (by decide +kernel)
set_option maxRecDepth 20000 in
set_option maxHeartbeats 1000000 in
theorem E_Math_floorMod (x : m_X) (s : m_H) (n0 : Int32) (n1 : Int32) : m_M x k_Math_floorMod [.int n0, .int n1] s = if n1 = 0 then none else if 0 ≤ (n0 ^^^ n1) then (some (some (.int (n0 - n0 / n1 * n1)), s)) else if (n0 - n0 / n1 * n1) = 0 then (some (some (.int (n0 - n0 / n1 * n1)), s)) else some (some (.int ((n0 - n0 / n1 * n1) + n1)), s) := by
  refine e_M0 (L0 := [some (.int n0), some (.int n1), none]) rfl (q_Math_floorMod _) rfl ?_
  refine e_iload_n i_Math_floorMod_0 rfl ?_
  refine e_iload_n i_Math_floorMod_1 rfl ?_
  refine e_irem i_Math_floorMod_2 ?_
  refine e_istore_n (L' := [some (.int n0), some (.int n1), some (.int (n0 - n0 / n1 * n1))]) i_Math_floorMod_3 (of_decide_eq_true rfl) rfl ?_
  refine e_iload_n i_Math_floorMod_4 rfl ?_
  refine e_iload_n i_Math_floorMod_5 rfl ?_
  refine e_ixor i_Math_floorMod_6 ?_
  refine e_ifge (t := 18) i_Math_floorMod_7 (by decide) ?_ ?_
  · refine e_iload_n i_Math_floorMod_18 rfl ?_
    exact e_iretI i_Math_floorMod_19 rfl
  · refine e_iload_n i_Math_floorMod_10 rfl ?_
    refine e_ifeq (t := 18) i_Math_floorMod_11 (by decide) ?_ ?_
    · refine e_iload_n i_Math_floorMod_18 rfl ?_
      exact e_iretI i_Math_floorMod_19 rfl
    · refine e_iload_n i_Math_floorMod_14 rfl ?_
      refine e_iload_n i_Math_floorMod_15 rfl ?_
      refine e_iadd i_Math_floorMod_16 ?_
      exact e_iretI i_Math_floorMod_17 rfl
theorem i_Math_min_II_0 : m_at k_Math_min_II 0 = some (.iload_n 0, 1, 0) := m_at_of r_Math_min_II (by decide +kernel)
theorem i_Math_min_II_1 : m_at k_Math_min_II 1 = some (.iload_n 1, 1, 0) := m_at_of r_Math_min_II (by decide +kernel)
theorem i_Math_min_II_2 : m_at k_Math_min_II 2 = some (.if_icmp .gt (7), 3, 0) := m_at_of r_Math_min_II (by decide +kernel)
theorem i_Math_min_II_5 : m_at k_Math_min_II 5 = some (.iload_n 0, 1, 0) := m_at_of r_Math_min_II (by decide +kernel)
theorem i_Math_min_II_6 : m_at k_Math_min_II 6 = some (.goto (4), 3, 0) := m_at_of r_Math_min_II (by decide +kernel)
theorem i_Math_min_II_9 : m_at k_Math_min_II 9 = some (.iload_n 1, 1, 0) := m_at_of r_Math_min_II (by decide +kernel)
theorem i_Math_min_II_10 : m_at k_Math_min_II 10 = some (.ireturn, 1, 0) := m_at_of r_Math_min_II (by decide +kernel)
set_option maxRecDepth 20000 in
set_option maxHeartbeats 1000000 in
theorem E_Math_min_II (x : m_X) (s : m_H) (n0 : Int32) (n1 : Int32) : m_M x k_Math_min_II [.int n0, .int n1] s = if n1 < n0 then (some (some (.int n1), s)) else some (some (.int n0), s) := by
  refine e_M0 (L0 := [some (.int n0), some (.int n1)]) rfl (q_Math_min_II _) rfl ?_
  refine e_iload_n i_Math_min_II_0 rfl ?_
  refine e_iload_n i_Math_min_II_1 rfl ?_
  refine e_icmpgt (t := 9) i_Math_min_II_2 (by decide) ?_ ?_
  · refine e_iload_n i_Math_min_II_9 rfl ?_
    exact e_iretI i_Math_min_II_10 rfl
  · refine e_iload_n i_Math_min_II_5 rfl ?_
    refine e_goto (t := 10) i_Math_min_II_6 (by decide) ?_
    exact e_iretI i_Math_min_II_10 rfl
theorem i_Math_max_II_0 : m_at k_Math_max_II 0 = some (.iload_n 0, 1, 0) := m_at_of r_Math_max_II (by decide +kernel)
theorem i_Math_max_II_1 : m_at k_Math_max_II 1 = some (.iload_n 1, 1, 0) := m_at_of r_Math_max_II (by decide +kernel)
theorem i_Math_max_II_2 : m_at k_Math_max_II 2 = some (.if_icmp .lt (7), 3, 0) := m_at_of r_Math_max_II (by decide +kernel)
theorem i_Math_max_II_5 : m_at k_Math_max_II 5 = some (.iload_n 0, 1, 0) := m_at_of r_Math_max_II (by decide +kernel)
theorem i_Math_max_II_6 : m_at k_Math_max_II 6 = some (.goto (4), 3, 0) := m_at_of r_Math_max_II (by decide +kernel)
theorem i_Math_max_II_9 : m_at k_Math_max_II 9 = some (.iload_n 1, 1, 0) := m_at_of r_Math_max_II (by decide +kernel)
theorem i_Math_max_II_10 : m_at k_Math_max_II 10 = some (.ireturn, 1, 0) := m_at_of r_Math_max_II (by decide +kernel)
set_option maxRecDepth 20000 in
set_option maxHeartbeats 1000000 in
theorem E_Math_max_II (x : m_X) (s : m_H) (n0 : Int32) (n1 : Int32) : m_M x k_Math_max_II [.int n0, .int n1] s = if n0 < n1 then (some (some (.int n1), s)) else some (some (.int n0), s) := by
  refine e_M0 (L0 := [some (.int n0), some (.int n1)]) rfl (q_Math_max_II _) rfl ?_
  refine e_iload_n i_Math_max_II_0 rfl ?_
  refine e_iload_n i_Math_max_II_1 rfl ?_
  refine e_icmplt (t := 9) i_Math_max_II_2 (by decide) ?_ ?_
  · refine e_iload_n i_Math_max_II_9 rfl ?_
    exact e_iretI i_Math_max_II_10 rfl
  · refine e_iload_n i_Math_max_II_5 rfl ?_
    refine e_goto (t := 10) i_Math_max_II_6 (by decide) ?_
    exact e_iretI i_Math_max_II_10 rfl
theorem i_Reader_readTape_0 : m_at k_Reader_readTape 0 = some (.aload_n 0, 1, 0) := m_at_of r_Reader_readTape (by decide +kernel)
theorem i_Reader_readTape_1 : m_at k_Reader_readTape 1 = some (.getfield 12, 3, 115) := m_at_of r_Reader_readTape (by decide +kernel)
theorem i_Reader_readTape_4 : m_at k_Reader_readTape 4 = some (.invokevirtual 32, 3, 366) := m_at_of r_Reader_readTape (by decide +kernel)
theorem i_Reader_readTape_7 : m_at k_Reader_readTape 7 = some (.aload_n 0, 1, 0) := m_at_of r_Reader_readTape (by decide +kernel)
theorem i_Reader_readTape_8 : m_at k_Reader_readTape 8 = some (.iconst 0, 1, 0) := m_at_of r_Reader_readTape (by decide +kernel)
theorem i_Reader_readTape_9 : m_at k_Reader_readTape 9 = some (.putfield 22, 3, 116) := m_at_of r_Reader_readTape (by decide +kernel)
theorem i_Reader_readTape_12 : m_at k_Reader_readTape 12 = some (.aload_n 0, 1, 0) := m_at_of r_Reader_readTape (by decide +kernel)
theorem i_Reader_readTape_13 : m_at k_Reader_readTape 13 = some (.iconst (-1), 1, 0) := m_at_of r_Reader_readTape (by decide +kernel)
theorem i_Reader_readTape_14 : m_at k_Reader_readTape 14 = some (.putfield 26, 3, 117) := m_at_of r_Reader_readTape (by decide +kernel)
theorem i_Reader_readTape_17 : m_at k_Reader_readTape 17 = some (.aload_n 0, 1, 0) := m_at_of r_Reader_readTape (by decide +kernel)
theorem i_Reader_readTape_18 : m_at k_Reader_readTape 18 = some (.iconst 0, 1, 0) := m_at_of r_Reader_readTape (by decide +kernel)
theorem i_Reader_readTape_19 : m_at k_Reader_readTape 19 = some (.putfield 35, 3, 118) := m_at_of r_Reader_readTape (by decide +kernel)
theorem i_Reader_readTape_22 : m_at k_Reader_readTape 22 = some (.aload_n 0, 1, 0) := m_at_of r_Reader_readTape (by decide +kernel)
theorem i_Reader_readTape_23 : m_at k_Reader_readTape 23 = some (.invokevirtual 38, 3, 367) := m_at_of r_Reader_readTape (by decide +kernel)
theorem i_Reader_readTape_26 : m_at k_Reader_readTape 26 = some (.iconst 0, 1, 0) := m_at_of r_Reader_readTape (by decide +kernel)
theorem i_Reader_readTape_27 : m_at k_Reader_readTape 27 = some (.istore_n 1, 1, 0) := m_at_of r_Reader_readTape (by decide +kernel)
theorem i_Reader_readTape_28 : m_at k_Reader_readTape 28 = some (.iload_n 1, 1, 0) := m_at_of r_Reader_readTape (by decide +kernel)
theorem i_Reader_readTape_29 : m_at k_Reader_readTape 29 = some (.bipush 24, 2, 0) := m_at_of r_Reader_readTape (by decide +kernel)
theorem i_Reader_readTape_31 : m_at k_Reader_readTape 31 = some (.if_icmp .gt (27), 3, 0) := m_at_of r_Reader_readTape (by decide +kernel)
theorem i_Reader_readTape_34 : m_at k_Reader_readTape 34 = some (.aload_n 0, 1, 0) := m_at_of r_Reader_readTape (by decide +kernel)
theorem i_Reader_readTape_35 : m_at k_Reader_readTape 35 = some (.getfield 41, 3, 119) := m_at_of r_Reader_readTape (by decide +kernel)
theorem i_Reader_readTape_38 : m_at k_Reader_readTape 38 = some (.bipush 52, 2, 0) := m_at_of r_Reader_readTape (by decide +kernel)
theorem i_Reader_readTape_40 : m_at k_Reader_readTape 40 = some (.if_icmp .eq (18), 3, 0) := m_at_of r_Reader_readTape (by decide +kernel)
theorem i_Reader_readTape_43 : m_at k_Reader_readTape 43 = some (.aload_n 0, 1, 0) := m_at_of r_Reader_readTape (by decide +kernel)
theorem i_Reader_readTape_44 : m_at k_Reader_readTape 44 = some (.invokevirtual 46, 3, 368) := m_at_of r_Reader_readTape (by decide +kernel)
theorem i_Reader_readTape_47 : m_at k_Reader_readTape 47 = some (.ifCond .ne (5), 3, 0) := m_at_of r_Reader_readTape (by decide +kernel)
theorem i_Reader_readTape_50 : m_at k_Reader_readTape 50 = some (.iconst 0, 1, 0) := m_at_of r_Reader_readTape (by decide +kernel)
theorem i_Reader_readTape_51 : m_at k_Reader_readTape 51 = some (.ireturn, 1, 0) := m_at_of r_Reader_readTape (by decide +kernel)
theorem i_Reader_readTape_52 : m_at k_Reader_readTape 52 = some (.iinc 1 (1), 3, 0) := m_at_of r_Reader_readTape (by decide +kernel)
theorem i_Reader_readTape_55 : m_at k_Reader_readTape 55 = some (.goto (-27), 3, 0) := m_at_of r_Reader_readTape (by decide +kernel)
theorem i_Reader_readTape_58 : m_at k_Reader_readTape 58 = some (.iconst 1, 1, 0) := m_at_of r_Reader_readTape (by decide +kernel)
theorem i_Reader_readTape_59 : m_at k_Reader_readTape 59 = some (.ireturn, 1, 0) := m_at_of r_Reader_readTape (by decide +kernel)
set_option maxRecDepth 20000 in
set_option maxHeartbeats 1000000 in
theorem E_Reader_readTape (x : m_X) (s : m_H) (w : Nat) : m_M x k_Reader_readTape [.ref w] s = if m_isO s w 3 = true then ((m_fR s 3 0 w).bind fun v1 => m_bV (m_M x k_Script_empty [.ref v1] s) fun s4 => (m_pf s4 3 3 w (.int 0)).bind fun s9 => (m_pf s9 3 4 w (.int (-1))).bind fun s14 => (m_pf s14 3 8 w (.int 0)).bind fun s19 => m_bV (m_M x k_Reader_advance [.ref w] s19) fun s23 => m_D x 98 k_Reader_readTape 28 [some (.ref w), some (.int 0)] [] s23) else none := by
  refine e_M1 (L0 := [some (.ref w), none]) rfl (by decide +kernel) rfl (q_Reader_readTape _) rfl ?_
  refine e_aload_n i_Reader_readTape_0 rfl ?_
  refine e_getR i_Reader_readTape_1 lf_115 (by decide) ft_3_0 (fun v1 => ?_)
  refine e_callV (as := [.ref v1]) (st' := []) i_Reader_readTape_4 lm_366 (Or.inr (Or.inl ⟨rfl, rfl⟩)) w_Script_empty rfl rfl rfl (Nat.le_of_ble_eq_true rfl) (Nat.le_of_ble_eq_true rfl) (m_rlt (q_Script_empty _) (by decide)) rfl (fun s4 => ?_)
  refine e_aload_n i_Reader_readTape_7 rfl ?_
  refine e_iconst (v := 0) i_Reader_readTape_8 (by decide) ?_
  refine e_putf i_Reader_readTape_9 lf_116 ft_3_3 rfl (fun s9 => ?_)
  refine e_aload_n i_Reader_readTape_12 rfl ?_
  refine e_iconst (v := (-1)) i_Reader_readTape_13 (by decide) ?_
  refine e_putf i_Reader_readTape_14 lf_117 ft_3_4 rfl (fun s14 => ?_)
  refine e_aload_n i_Reader_readTape_17 rfl ?_
  refine e_iconst (v := 0) i_Reader_readTape_18 (by decide) ?_
  refine e_putf i_Reader_readTape_19 lf_118 ft_3_8 rfl (fun s19 => ?_)
  refine e_aload_n i_Reader_readTape_22 rfl ?_
  refine e_callV (as := [.ref w]) (st' := []) i_Reader_readTape_23 lm_367 (Or.inr (Or.inl ⟨rfl, rfl⟩)) w_Reader_advance rfl rfl rfl (Nat.le_of_ble_eq_true rfl) (Nat.le_of_ble_eq_true rfl) (m_rlt (q_Reader_advance _) (by decide)) rfl (fun s23 => ?_)
  refine e_iconst (v := 0) i_Reader_readTape_26 (by decide) ?_
  refine e_istore_n (L' := [some (.ref w), some (.int 0)]) i_Reader_readTape_27 (of_decide_eq_true rfl) rfl ?_
  exact rfl
set_option maxRecDepth 20000 in
set_option maxHeartbeats 1000000 in
theorem E_Reader_readTape_28 (x : m_X) (ρ : Nat) (hρ : 98 ≤ ρ) (s : m_H) (w : Nat) (n1 : Int32)  : m_D x ρ k_Reader_readTape 28 [some (.ref w), some (.int n1)] [] s = if 24 < n1 then (some (some (.int 1), s)) else (m_fI s 3 5 w).bind fun v35 => if v35 = 52 then (some (some (.int 1), s)) else m_bI (m_M x k_Reader_readClause [.ref w] s) fun v44 s44 => if v44 = 0 then (some (some (.int 0), s44)) else m_D x ρ k_Reader_readTape 28 [some (.ref w), some (.int (n1 + (1 : Int32)))] [] s44 := by
  refine e_iload_n i_Reader_readTape_28 rfl ?_
  refine e_bipush (v := 24) i_Reader_readTape_29 (by decide) ?_
  refine e_icmpgt (t := 58) i_Reader_readTape_31 (by decide) ?_ ?_
  · refine e_iconst (v := 1) i_Reader_readTape_58 (by decide) ?_
    exact e_iretZ i_Reader_readTape_59 rfl (by decide)
  · refine e_aload_n i_Reader_readTape_34 rfl ?_
    refine e_getI i_Reader_readTape_35 lf_119 (by decide) (Or.inl ft_3_5) (fun v35 => ?_)
    refine e_bipush (v := 52) i_Reader_readTape_38 (by decide) ?_
    refine e_icmpeq (t := 58) i_Reader_readTape_40 (by decide) ?_ ?_
    · refine e_iconst (v := 1) i_Reader_readTape_58 (by decide) ?_
      exact e_iretZ i_Reader_readTape_59 rfl (by decide)
    · refine e_aload_n i_Reader_readTape_43 rfl ?_
      refine e_callI (as := [.ref w]) (st' := []) i_Reader_readTape_44 lm_368 (Or.inr (Or.inl ⟨rfl, rfl⟩)) w_Reader_readClause rfl rfl rfl (Nat.le_of_ble_eq_true rfl) (Nat.le_of_ble_eq_true rfl) (m_rlt (q_Reader_readClause _) (Nat.lt_of_lt_of_le (by decide) hρ)) rfl (fun v44 s44 => ?_)
      refine e_ifne (t := 52) i_Reader_readTape_47 (by decide) ?_ ?_
      · refine e_iinc (w := 1) (L' := [some (.ref w), some (.int (n1 + (1 : Int32)))]) i_Reader_readTape_52 rfl (of_decide_eq_true rfl) (by decide) rfl ?_
        refine e_goto (t := 28) i_Reader_readTape_55 (by decide) ?_
        exact rfl
      · refine e_iconst (v := 0) i_Reader_readTape_50 (by decide) ?_
        exact e_iretZ i_Reader_readTape_51 rfl (by decide)
theorem i_Reader_readClause_0 : m_at k_Reader_readClause 0 = some (.aload_n 0, 1, 0) := m_at_of r_Reader_readClause (by decide +kernel)
theorem i_Reader_readClause_1 : m_at k_Reader_readClause 1 = some (.getfield 41, 3, 119) := m_at_of r_Reader_readClause (by decide +kernel)
theorem i_Reader_readClause_4 : m_at k_Reader_readClause 4 = some (.invokestatic 89, 3, 369) := m_at_of r_Reader_readClause (by decide +kernel)
theorem i_Reader_readClause_7 : m_at k_Reader_readClause 7 = some (.ifCond .ne (9), 3, 0) := m_at_of r_Reader_readClause (by decide +kernel)
theorem i_Reader_readClause_10 : m_at k_Reader_readClause 10 = some (.aload_n 0, 1, 0) := m_at_of r_Reader_readClause (by decide +kernel)
theorem i_Reader_readClause_11 : m_at k_Reader_readClause 11 = some (.iconst 1, 1, 0) := m_at_of r_Reader_readClause (by decide +kernel)
theorem i_Reader_readClause_12 : m_at k_Reader_readClause 12 = some (.invokevirtual 92, 3, 370) := m_at_of r_Reader_readClause (by decide +kernel)
theorem i_Reader_readClause_15 : m_at k_Reader_readClause 15 = some (.ireturn, 1, 0) := m_at_of r_Reader_readClause (by decide +kernel)
theorem i_Reader_readClause_16 : m_at k_Reader_readClause 16 = some (.aload_n 0, 1, 0) := m_at_of r_Reader_readClause (by decide +kernel)
theorem i_Reader_readClause_17 : m_at k_Reader_readClause 17 = some (.getfield 41, 3, 119) := m_at_of r_Reader_readClause (by decide +kernel)
theorem i_Reader_readClause_20 : m_at k_Reader_readClause 20 = some (.invokestatic 95, 3, 371) := m_at_of r_Reader_readClause (by decide +kernel)
theorem i_Reader_readClause_23 : m_at k_Reader_readClause 23 = some (.ifCond .eq (24), 3, 0) := m_at_of r_Reader_readClause (by decide +kernel)
theorem i_Reader_readClause_26 : m_at k_Reader_readClause 26 = some (.aload_n 0, 1, 0) := m_at_of r_Reader_readClause (by decide +kernel)
theorem i_Reader_readClause_27 : m_at k_Reader_readClause 27 = some (.getfield 12, 3, 115) := m_at_of r_Reader_readClause (by decide +kernel)
theorem i_Reader_readClause_30 : m_at k_Reader_readClause 30 = some (.aload_n 0, 1, 0) := m_at_of r_Reader_readClause (by decide +kernel)
theorem i_Reader_readClause_31 : m_at k_Reader_readClause 31 = some (.getfield 41, 3, 119) := m_at_of r_Reader_readClause (by decide +kernel)
theorem i_Reader_readClause_34 : m_at k_Reader_readClause 34 = some (.invokevirtual 98, 3, 372) := m_at_of r_Reader_readClause (by decide +kernel)
theorem i_Reader_readClause_37 : m_at k_Reader_readClause 37 = some (.iconst (-1), 1, 0) := m_at_of r_Reader_readClause (by decide +kernel)
theorem i_Reader_readClause_38 : m_at k_Reader_readClause 38 = some (.if_icmp .eq (9), 3, 0) := m_at_of r_Reader_readClause (by decide +kernel)
theorem i_Reader_readClause_41 : m_at k_Reader_readClause 41 = some (.aload_n 0, 1, 0) := m_at_of r_Reader_readClause (by decide +kernel)
theorem i_Reader_readClause_42 : m_at k_Reader_readClause 42 = some (.iconst 4, 1, 0) := m_at_of r_Reader_readClause (by decide +kernel)
theorem i_Reader_readClause_43 : m_at k_Reader_readClause 43 = some (.invokevirtual 92, 3, 370) := m_at_of r_Reader_readClause (by decide +kernel)
theorem i_Reader_readClause_46 : m_at k_Reader_readClause 46 = some (.ireturn, 1, 0) := m_at_of r_Reader_readClause (by decide +kernel)
theorem i_Reader_readClause_47 : m_at k_Reader_readClause 47 = some (.aload_n 0, 1, 0) := m_at_of r_Reader_readClause (by decide +kernel)
theorem i_Reader_readClause_48 : m_at k_Reader_readClause 48 = some (.getfield 12, 3, 115) := m_at_of r_Reader_readClause (by decide +kernel)
theorem i_Reader_readClause_51 : m_at k_Reader_readClause 51 = some (.getfield 101, 3, 120) := m_at_of r_Reader_readClause (by decide +kernel)
theorem i_Reader_readClause_54 : m_at k_Reader_readClause 54 = some (.bipush 24, 2, 0) := m_at_of r_Reader_readClause (by decide +kernel)
theorem i_Reader_readClause_56 : m_at k_Reader_readClause 56 = some (.if_icmp .lt (10), 3, 0) := m_at_of r_Reader_readClause (by decide +kernel)
theorem i_Reader_readClause_59 : m_at k_Reader_readClause 59 = some (.aload_n 0, 1, 0) := m_at_of r_Reader_readClause (by decide +kernel)
theorem i_Reader_readClause_60 : m_at k_Reader_readClause 60 = some (.bipush 6, 2, 0) := m_at_of r_Reader_readClause (by decide +kernel)
theorem i_Reader_readClause_62 : m_at k_Reader_readClause 62 = some (.invokevirtual 92, 3, 370) := m_at_of r_Reader_readClause (by decide +kernel)
theorem i_Reader_readClause_65 : m_at k_Reader_readClause 65 = some (.ireturn, 1, 0) := m_at_of r_Reader_readClause (by decide +kernel)
theorem i_Reader_readClause_66 : m_at k_Reader_readClause 66 = some (.aload_n 0, 1, 0) := m_at_of r_Reader_readClause (by decide +kernel)
theorem i_Reader_readClause_67 : m_at k_Reader_readClause 67 = some (.aload_n 0, 1, 0) := m_at_of r_Reader_readClause (by decide +kernel)
theorem i_Reader_readClause_68 : m_at k_Reader_readClause 68 = some (.getfield 41, 3, 119) := m_at_of r_Reader_readClause (by decide +kernel)
theorem i_Reader_readClause_71 : m_at k_Reader_readClause 71 = some (.putfield 104, 3, 121) := m_at_of r_Reader_readClause (by decide +kernel)
theorem i_Reader_readClause_74 : m_at k_Reader_readClause 74 = some (.aload_n 0, 1, 0) := m_at_of r_Reader_readClause (by decide +kernel)
theorem i_Reader_readClause_75 : m_at k_Reader_readClause 75 = some (.getfield 12, 3, 115) := m_at_of r_Reader_readClause (by decide +kernel)
theorem i_Reader_readClause_78 : m_at k_Reader_readClause 78 = some (.aload_n 0, 1, 0) := m_at_of r_Reader_readClause (by decide +kernel)
theorem i_Reader_readClause_79 : m_at k_Reader_readClause 79 = some (.getfield 41, 3, 119) := m_at_of r_Reader_readClause (by decide +kernel)
theorem i_Reader_readClause_82 : m_at k_Reader_readClause 82 = some (.invokevirtual 107, 3, 373) := m_at_of r_Reader_readClause (by decide +kernel)
theorem i_Reader_readClause_85 : m_at k_Reader_readClause 85 = some (.aload_n 0, 1, 0) := m_at_of r_Reader_readClause (by decide +kernel)
theorem i_Reader_readClause_86 : m_at k_Reader_readClause 86 = some (.invokevirtual 38, 3, 367) := m_at_of r_Reader_readClause (by decide +kernel)
theorem i_Reader_readClause_89 : m_at k_Reader_readClause 89 = some (.aload_n 0, 1, 0) := m_at_of r_Reader_readClause (by decide +kernel)
theorem i_Reader_readClause_90 : m_at k_Reader_readClause 90 = some (.getfield 104, 3, 121) := m_at_of r_Reader_readClause (by decide +kernel)
theorem i_Reader_readClause_93 : m_at k_Reader_readClause 93 = some (.invokestatic 95, 3, 371) := m_at_of r_Reader_readClause (by decide +kernel)
theorem i_Reader_readClause_96 : m_at k_Reader_readClause 96 = some (.ifCond .eq (11), 3, 0) := m_at_of r_Reader_readClause (by decide +kernel)
theorem i_Reader_readClause_99 : m_at k_Reader_readClause 99 = some (.aload_n 0, 1, 0) := m_at_of r_Reader_readClause (by decide +kernel)
theorem i_Reader_readClause_100 : m_at k_Reader_readClause 100 = some (.iconst 0, 1, 0) := m_at_of r_Reader_readClause (by decide +kernel)
theorem i_Reader_readClause_101 : m_at k_Reader_readClause 101 = some (.invokevirtual 111, 3, 374) := m_at_of r_Reader_readClause (by decide +kernel)
theorem i_Reader_readClause_104 : m_at k_Reader_readClause 104 = some (.goto (11), 3, 0) := m_at_of r_Reader_readClause (by decide +kernel)
theorem i_Reader_readClause_107 : m_at k_Reader_readClause 107 = some (.aload_n 0, 1, 0) := m_at_of r_Reader_readClause (by decide +kernel)
theorem i_Reader_readClause_108 : m_at k_Reader_readClause 108 = some (.aload_n 0, 1, 0) := m_at_of r_Reader_readClause (by decide +kernel)
theorem i_Reader_readClause_109 : m_at k_Reader_readClause 109 = some (.getfield 104, 3, 121) := m_at_of r_Reader_readClause (by decide +kernel)
theorem i_Reader_readClause_112 : m_at k_Reader_readClause 112 = some (.invokevirtual 114, 3, 375) := m_at_of r_Reader_readClause (by decide +kernel)
theorem i_Reader_readClause_115 : m_at k_Reader_readClause 115 = some (.istore_n 1, 1, 0) := m_at_of r_Reader_readClause (by decide +kernel)
theorem i_Reader_readClause_116 : m_at k_Reader_readClause 116 = some (.aload_n 0, 1, 0) := m_at_of r_Reader_readClause (by decide +kernel)
theorem i_Reader_readClause_117 : m_at k_Reader_readClause 117 = some (.getfield 12, 3, 115) := m_at_of r_Reader_readClause (by decide +kernel)
theorem i_Reader_readClause_120 : m_at k_Reader_readClause 120 = some (.invokevirtual 117, 3, 376) := m_at_of r_Reader_readClause (by decide +kernel)
theorem i_Reader_readClause_123 : m_at k_Reader_readClause 123 = some (.iload_n 1, 1, 0) := m_at_of r_Reader_readClause (by decide +kernel)
theorem i_Reader_readClause_124 : m_at k_Reader_readClause 124 = some (.ifCond .eq (16), 3, 0) := m_at_of r_Reader_readClause (by decide +kernel)
theorem i_Reader_readClause_127 : m_at k_Reader_readClause 127 = some (.aload_n 0, 1, 0) := m_at_of r_Reader_readClause (by decide +kernel)
theorem i_Reader_readClause_128 : m_at k_Reader_readClause 128 = some (.bipush 47, 2, 0) := m_at_of r_Reader_readClause (by decide +kernel)
theorem i_Reader_readClause_130 : m_at k_Reader_readClause 130 = some (.invokevirtual 120, 3, 377) := m_at_of r_Reader_readClause (by decide +kernel)
theorem i_Reader_readClause_133 : m_at k_Reader_readClause 133 = some (.ifCond .eq (7), 3, 0) := m_at_of r_Reader_readClause (by decide +kernel)
theorem i_Reader_readClause_136 : m_at k_Reader_readClause 136 = some (.iconst 1, 1, 0) := m_at_of r_Reader_readClause (by decide +kernel)
theorem i_Reader_readClause_137 : m_at k_Reader_readClause 137 = some (.goto (4), 3, 0) := m_at_of r_Reader_readClause (by decide +kernel)
theorem i_Reader_readClause_140 : m_at k_Reader_readClause 140 = some (.iconst 0, 1, 0) := m_at_of r_Reader_readClause (by decide +kernel)
theorem i_Reader_readClause_141 : m_at k_Reader_readClause 141 = some (.ireturn, 1, 0) := m_at_of r_Reader_readClause (by decide +kernel)
set_option maxRecDepth 20000 in
set_option maxHeartbeats 1000000 in
theorem E_Reader_readClause (x : m_X) (s : m_H) (w : Nat) : m_M x k_Reader_readClause [.ref w] s = if m_isO s w 3 = true then ((m_fI s 3 5 w).bind fun v1 => m_bI (m_M x k_Words_isClauseStart [.int v1] s) fun v4 s4 => if v4 = 0 then (m_bI (m_M x k_Reader_fails [.ref w, .int 1] s4) fun v12 s12 => if m_rk (some .boolean) (some (.int v12)) = true then some (some (.int v12), s12) else none) else (m_fI s4 3 5 w).bind fun v17 => m_bI (m_M x k_Words_isLaw [.int v17] s4) fun v20 s20 => if v20 = 0 then (m_D x 97 k_Reader_readClause 47 [some (.ref w), none] [] s20) else (m_fR s20 3 0 w).bind fun v27 => (m_fI s20 3 5 w).bind fun v31 => m_bI (m_M x k_Script_lawAt [.ref v27, .int v31] s20) fun v34 s34 => if v34 = (-1) then (m_D x 97 k_Reader_readClause 47 [some (.ref w), none] [] s34) else m_bI (m_M x k_Reader_fails [.ref w, .int 4] s34) fun v43 s43 => if m_rk (some .boolean) (some (.int v43)) = true then some (some (.int v43), s43) else none) else none := by
  refine e_M1 (L0 := [some (.ref w), none]) rfl (by decide +kernel) rfl (q_Reader_readClause _) rfl ?_
  refine e_aload_n i_Reader_readClause_0 rfl ?_
  refine e_getI i_Reader_readClause_1 lf_119 (by decide) (Or.inl ft_3_5) (fun v1 => ?_)
  refine e_callI (as := [.int v1]) (st' := []) i_Reader_readClause_4 lm_369 (Or.inl ⟨rfl, rfl⟩) w_Words_isClauseStart rfl rfl rfl (Nat.le_of_ble_eq_true rfl) (Nat.le_of_ble_eq_true rfl) (m_rlt (q_Words_isClauseStart _) (by decide)) rfl (fun v4 s4 => ?_)
  refine e_ifne (t := 16) i_Reader_readClause_7 (by decide) ?_ ?_
  · refine e_aload_n i_Reader_readClause_16 rfl ?_
    refine e_getI i_Reader_readClause_17 lf_119 (by decide) (Or.inl ft_3_5) (fun v17 => ?_)
    refine e_callI (as := [.int v17]) (st' := []) i_Reader_readClause_20 lm_371 (Or.inl ⟨rfl, rfl⟩) w_Words_isLaw rfl rfl rfl (Nat.le_of_ble_eq_true rfl) (Nat.le_of_ble_eq_true rfl) (m_rlt (q_Words_isLaw _) (by decide)) rfl (fun v20 s20 => ?_)
    refine e_ifeq (t := 47) i_Reader_readClause_23 (by decide) ?_ ?_
    · exact rfl
    · refine e_aload_n i_Reader_readClause_26 rfl ?_
      refine e_getR i_Reader_readClause_27 lf_115 (by decide) ft_3_0 (fun v27 => ?_)
      refine e_aload_n i_Reader_readClause_30 rfl ?_
      refine e_getI i_Reader_readClause_31 lf_119 (by decide) (Or.inl ft_3_5) (fun v31 => ?_)
      refine e_callI (as := [.ref v27, .int v31]) (st' := []) i_Reader_readClause_34 lm_372 (Or.inr (Or.inl ⟨rfl, rfl⟩)) w_Script_lawAt rfl rfl rfl (Nat.le_of_ble_eq_true rfl) (Nat.le_of_ble_eq_true rfl) (m_rlt (q_Script_lawAt _) (by decide)) rfl (fun v34 s34 => ?_)
      refine e_iconst (v := (-1)) i_Reader_readClause_37 (by decide) ?_
      refine e_icmpeq (t := 47) i_Reader_readClause_38 (by decide) ?_ ?_
      · exact rfl
      · refine e_aload_n i_Reader_readClause_41 rfl ?_
        refine e_iconst (v := 4) i_Reader_readClause_42 (by decide) ?_
        refine e_callI (as := [.ref w, .int 4]) (st' := []) i_Reader_readClause_43 lm_370 (Or.inr (Or.inl ⟨rfl, rfl⟩)) w_Reader_fails rfl rfl rfl (Nat.le_of_ble_eq_true rfl) (Nat.le_of_ble_eq_true rfl) (m_rlt (q_Reader_fails _) (by decide)) rfl (fun v43 s43 => ?_)
        exact e_iretG i_Reader_readClause_46 rfl
  · refine e_aload_n i_Reader_readClause_10 rfl ?_
    refine e_iconst (v := 1) i_Reader_readClause_11 (by decide) ?_
    refine e_callI (as := [.ref w, .int 1]) (st' := []) i_Reader_readClause_12 lm_370 (Or.inr (Or.inl ⟨rfl, rfl⟩)) w_Reader_fails rfl rfl rfl (Nat.le_of_ble_eq_true rfl) (Nat.le_of_ble_eq_true rfl) (m_rlt (q_Reader_fails _) (by decide)) rfl (fun v12 s12 => ?_)
    exact e_iretG i_Reader_readClause_15 rfl
set_option maxRecDepth 20000 in
set_option maxHeartbeats 1000000 in
theorem E_Reader_readClause_47 (x : m_X) (ρ : Nat) (hρ : 97 ≤ ρ) (s : m_H) (w : Nat)  : m_D x ρ k_Reader_readClause 47 [some (.ref w), none] [] s = (m_fR s 3 0 w).bind fun v48 => (m_fI s 5 5 v48).bind fun v51 => if v51 < 24 then ((m_fI s 3 5 w).bind fun v68 => (m_pf s 3 9 w (.int v68)).bind fun s71 => (m_fR s71 3 0 w).bind fun v75 => (m_fI s71 3 5 w).bind fun v79 => m_bV (m_M x k_Script_startClause [.ref v75, .int v79] s71) fun s82 => m_bV (m_M x k_Reader_advance [.ref w] s82) fun s86 => (m_fI s86 3 9 w).bind fun v90 => m_bI (m_M x k_Words_isLaw [.int v90] s86) fun v93 s93 => if v93 = 0 then ((m_fI s93 3 9 w).bind fun v109 => m_bI (m_M x k_Reader_readNumbers [.ref w, .int v109] s93) fun v112 s112 => m_D x ρ k_Reader_readClause 115 [some (.ref w), none] [.int v112] s112) else m_bI (m_M x k_Reader_readSum [.ref w, .int 0] s93) fun v101 s101 => m_D x ρ k_Reader_readClause 115 [some (.ref w), none] [.int v101] s101) else m_bI (m_M x k_Reader_fails [.ref w, .int 6] s) fun v62 s62 => if m_rk (some .boolean) (some (.int v62)) = true then some (some (.int v62), s62) else none := by
  refine e_aload_n i_Reader_readClause_47 rfl ?_
  refine e_getR i_Reader_readClause_48 lf_115 (by decide) ft_3_0 (fun v48 => ?_)
  refine e_getI i_Reader_readClause_51 lf_120 (by decide) (Or.inl ft_5_5) (fun v51 => ?_)
  refine e_bipush (v := 24) i_Reader_readClause_54 (by decide) ?_
  refine e_icmplt (t := 66) i_Reader_readClause_56 (by decide) ?_ ?_
  · refine e_aload_n i_Reader_readClause_66 rfl ?_
    refine e_aload_n i_Reader_readClause_67 rfl ?_
    refine e_getI i_Reader_readClause_68 lf_119 (by decide) (Or.inl ft_3_5) (fun v68 => ?_)
    refine e_putf i_Reader_readClause_71 lf_121 ft_3_9 rfl (fun s71 => ?_)
    refine e_aload_n i_Reader_readClause_74 rfl ?_
    refine e_getR i_Reader_readClause_75 lf_115 (by decide) ft_3_0 (fun v75 => ?_)
    refine e_aload_n i_Reader_readClause_78 rfl ?_
    refine e_getI i_Reader_readClause_79 lf_119 (by decide) (Or.inl ft_3_5) (fun v79 => ?_)
    refine e_callV (as := [.ref v75, .int v79]) (st' := []) i_Reader_readClause_82 lm_373 (Or.inr (Or.inl ⟨rfl, rfl⟩)) w_Script_startClause rfl rfl rfl (Nat.le_of_ble_eq_true rfl) (Nat.le_of_ble_eq_true rfl) (m_rlt (q_Script_startClause _) (Nat.lt_of_lt_of_le (by decide) hρ)) rfl (fun s82 => ?_)
    refine e_aload_n i_Reader_readClause_85 rfl ?_
    refine e_callV (as := [.ref w]) (st' := []) i_Reader_readClause_86 lm_367 (Or.inr (Or.inl ⟨rfl, rfl⟩)) w_Reader_advance rfl rfl rfl (Nat.le_of_ble_eq_true rfl) (Nat.le_of_ble_eq_true rfl) (m_rlt (q_Reader_advance _) (Nat.lt_of_lt_of_le (by decide) hρ)) rfl (fun s86 => ?_)
    refine e_aload_n i_Reader_readClause_89 rfl ?_
    refine e_getI i_Reader_readClause_90 lf_121 (by decide) (Or.inl ft_3_9) (fun v90 => ?_)
    refine e_callI (as := [.int v90]) (st' := []) i_Reader_readClause_93 lm_371 (Or.inl ⟨rfl, rfl⟩) w_Words_isLaw rfl rfl rfl (Nat.le_of_ble_eq_true rfl) (Nat.le_of_ble_eq_true rfl) (m_rlt (q_Words_isLaw _) (Nat.lt_of_lt_of_le (by decide) hρ)) rfl (fun v93 s93 => ?_)
    refine e_ifeq (t := 107) i_Reader_readClause_96 (by decide) ?_ ?_
    · refine e_aload_n i_Reader_readClause_107 rfl ?_
      refine e_aload_n i_Reader_readClause_108 rfl ?_
      refine e_getI i_Reader_readClause_109 lf_121 (by decide) (Or.inl ft_3_9) (fun v109 => ?_)
      refine e_callI (as := [.ref w, .int v109]) (st' := []) i_Reader_readClause_112 lm_375 (Or.inr (Or.inl ⟨rfl, rfl⟩)) w_Reader_readNumbers rfl rfl rfl (Nat.le_of_ble_eq_true rfl) (Nat.le_of_ble_eq_true rfl) (m_rlt (q_Reader_readNumbers _) (Nat.lt_of_lt_of_le (by decide) hρ)) rfl (fun v112 s112 => ?_)
      exact rfl
    · refine e_aload_n i_Reader_readClause_99 rfl ?_
      refine e_iconst (v := 0) i_Reader_readClause_100 (by decide) ?_
      refine e_callI (as := [.ref w, .int 0]) (st' := []) i_Reader_readClause_101 lm_374 (Or.inr (Or.inl ⟨rfl, rfl⟩)) w_Reader_readSum rfl rfl rfl (Nat.le_of_ble_eq_true rfl) (Nat.le_of_ble_eq_true rfl) (Nat.lt_of_le_of_lt (m_rk_Reader_readSum _) (Nat.lt_of_lt_of_le (by decide) hρ)) rfl (fun v101 s101 => ?_)
      refine e_goto (t := 115) i_Reader_readClause_104 (by decide) ?_
      exact rfl
  · refine e_aload_n i_Reader_readClause_59 rfl ?_
    refine e_bipush (v := 6) i_Reader_readClause_60 (by decide) ?_
    refine e_callI (as := [.ref w, .int 6]) (st' := []) i_Reader_readClause_62 lm_370 (Or.inr (Or.inl ⟨rfl, rfl⟩)) w_Reader_fails rfl rfl rfl (Nat.le_of_ble_eq_true rfl) (Nat.le_of_ble_eq_true rfl) (m_rlt (q_Reader_fails _) (Nat.lt_of_lt_of_le (by decide) hρ)) rfl (fun v62 s62 => ?_)
    exact e_iretG i_Reader_readClause_65 rfl
set_option maxRecDepth 20000 in
set_option maxHeartbeats 1000000 in
theorem E_Reader_readClause_115 (x : m_X) (ρ : Nat) (hρ : 97 ≤ ρ) (s : m_H) (w : Nat) (nt0 : Int32)  : m_D x ρ k_Reader_readClause 115 [some (.ref w), none] [.int nt0] s = (m_fR s 3 0 w).bind fun v117 => m_bV (m_M x k_Script_endClause [.ref v117] s) fun s120 => if nt0 = 0 then (some (some (.int 0), s120)) else m_bI (m_M x k_Reader_expects [.ref w, .int 47] s120) fun v130 s130 => if v130 = 0 then (some (some (.int 0), s130)) else some (some (.int 1), s130) := by
  refine e_istore_n (L' := [some (.ref w), some (.int nt0)]) i_Reader_readClause_115 (of_decide_eq_true rfl) rfl ?_
  refine e_aload_n i_Reader_readClause_116 rfl ?_
  refine e_getR i_Reader_readClause_117 lf_115 (by decide) ft_3_0 (fun v117 => ?_)
  refine e_callV (as := [.ref v117]) (st' := []) i_Reader_readClause_120 lm_376 (Or.inr (Or.inl ⟨rfl, rfl⟩)) w_Script_endClause rfl rfl rfl (Nat.le_of_ble_eq_true rfl) (Nat.le_of_ble_eq_true rfl) (m_rlt (q_Script_endClause _) (Nat.lt_of_lt_of_le (by decide) hρ)) rfl (fun s120 => ?_)
  refine e_iload_n i_Reader_readClause_123 rfl ?_
  refine e_ifeq (t := 140) i_Reader_readClause_124 (by decide) ?_ ?_
  · refine e_iconst (v := 0) i_Reader_readClause_140 (by decide) ?_
    exact e_iretZ i_Reader_readClause_141 rfl (by decide)
  · refine e_aload_n i_Reader_readClause_127 rfl ?_
    refine e_bipush (v := 47) i_Reader_readClause_128 (by decide) ?_
    refine e_callI (as := [.ref w, .int 47]) (st' := []) i_Reader_readClause_130 lm_377 (Or.inr (Or.inl ⟨rfl, rfl⟩)) w_Reader_expects rfl rfl rfl (Nat.le_of_ble_eq_true rfl) (Nat.le_of_ble_eq_true rfl) (m_rlt (q_Reader_expects _) (Nat.lt_of_lt_of_le (by decide) hρ)) rfl (fun v130 s130 => ?_)
    refine e_ifeq (t := 140) i_Reader_readClause_133 (by decide) ?_ ?_
    · refine e_iconst (v := 0) i_Reader_readClause_140 (by decide) ?_
      exact e_iretZ i_Reader_readClause_141 rfl (by decide)
    · refine e_iconst (v := 1) i_Reader_readClause_136 (by decide) ?_
      refine e_goto (t := 141) i_Reader_readClause_137 (by decide) ?_
      exact e_iretZ i_Reader_readClause_141 rfl (by decide)
theorem i_Reader_readNumbers_0 : m_at k_Reader_readNumbers 0 = some (.iconst 1, 1, 0) := m_at_of r_Reader_readNumbers (by decide +kernel)
theorem i_Reader_readNumbers_1 : m_at k_Reader_readNumbers 1 = some (.istore_n 2, 1, 0) := m_at_of r_Reader_readNumbers (by decide +kernel)
theorem i_Reader_readNumbers_2 : m_at k_Reader_readNumbers 2 = some (.iconst 0, 1, 0) := m_at_of r_Reader_readNumbers (by decide +kernel)
theorem i_Reader_readNumbers_3 : m_at k_Reader_readNumbers 3 = some (.istore_n 3, 1, 0) := m_at_of r_Reader_readNumbers (by decide +kernel)
theorem i_Reader_readNumbers_4 : m_at k_Reader_readNumbers 4 = some (.iload_n 3, 1, 0) := m_at_of r_Reader_readNumbers (by decide +kernel)
theorem i_Reader_readNumbers_5 : m_at k_Reader_readNumbers 5 = some (.iconst 3, 1, 0) := m_at_of r_Reader_readNumbers (by decide +kernel)
theorem i_Reader_readNumbers_6 : m_at k_Reader_readNumbers 6 = some (.iadd, 1, 0) := m_at_of r_Reader_readNumbers (by decide +kernel)
theorem i_Reader_readNumbers_7 : m_at k_Reader_readNumbers 7 = some (.getstatic 123, 3, 0) := m_at_of r_Reader_readNumbers (by decide +kernel)
theorem i_Reader_readNumbers_10 : m_at k_Reader_readNumbers 10 = some (.arraylength, 1, 0) := m_at_of r_Reader_readNumbers (by decide +kernel)
theorem i_Reader_readNumbers_11 : m_at k_Reader_readNumbers 11 = some (.if_icmp .ge (84), 3, 0) := m_at_of r_Reader_readNumbers (by decide +kernel)
theorem i_Reader_readNumbers_14 : m_at k_Reader_readNumbers 14 = some (.iload_n 2, 1, 0) := m_at_of r_Reader_readNumbers (by decide +kernel)
theorem i_Reader_readNumbers_15 : m_at k_Reader_readNumbers 15 = some (.ifCond .eq (80), 3, 0) := m_at_of r_Reader_readNumbers (by decide +kernel)
theorem i_Reader_readNumbers_18 : m_at k_Reader_readNumbers 18 = some (.getstatic 123, 3, 0) := m_at_of r_Reader_readNumbers (by decide +kernel)
theorem i_Reader_readNumbers_21 : m_at k_Reader_readNumbers 21 = some (.iload_n 3, 1, 0) := m_at_of r_Reader_readNumbers (by decide +kernel)
theorem i_Reader_readNumbers_22 : m_at k_Reader_readNumbers 22 = some (.iaload, 1, 0) := m_at_of r_Reader_readNumbers (by decide +kernel)
theorem i_Reader_readNumbers_23 : m_at k_Reader_readNumbers 23 = some (.iload_n 1, 1, 0) := m_at_of r_Reader_readNumbers (by decide +kernel)
theorem i_Reader_readNumbers_24 : m_at k_Reader_readNumbers 24 = some (.if_icmp .ne (65), 3, 0) := m_at_of r_Reader_readNumbers (by decide +kernel)
theorem i_Reader_readNumbers_27 : m_at k_Reader_readNumbers 27 = some (.getstatic 123, 3, 0) := m_at_of r_Reader_readNumbers (by decide +kernel)
theorem i_Reader_readNumbers_30 : m_at k_Reader_readNumbers 30 = some (.iload_n 3, 1, 0) := m_at_of r_Reader_readNumbers (by decide +kernel)
theorem i_Reader_readNumbers_31 : m_at k_Reader_readNumbers 31 = some (.iconst 1, 1, 0) := m_at_of r_Reader_readNumbers (by decide +kernel)
theorem i_Reader_readNumbers_32 : m_at k_Reader_readNumbers 32 = some (.iadd, 1, 0) := m_at_of r_Reader_readNumbers (by decide +kernel)
theorem i_Reader_readNumbers_33 : m_at k_Reader_readNumbers 33 = some (.iaload, 1, 0) := m_at_of r_Reader_readNumbers (by decide +kernel)
theorem i_Reader_readNumbers_34 : m_at k_Reader_readNumbers 34 = some (.iconst (-1), 1, 0) := m_at_of r_Reader_readNumbers (by decide +kernel)
theorem i_Reader_readNumbers_35 : m_at k_Reader_readNumbers 35 = some (.if_icmp .eq (17), 3, 0) := m_at_of r_Reader_readNumbers (by decide +kernel)
theorem i_Reader_readNumbers_38 : m_at k_Reader_readNumbers 38 = some (.aload_n 0, 1, 0) := m_at_of r_Reader_readNumbers (by decide +kernel)
theorem i_Reader_readNumbers_39 : m_at k_Reader_readNumbers 39 = some (.getstatic 123, 3, 0) := m_at_of r_Reader_readNumbers (by decide +kernel)
theorem i_Reader_readNumbers_42 : m_at k_Reader_readNumbers 42 = some (.iload_n 3, 1, 0) := m_at_of r_Reader_readNumbers (by decide +kernel)
theorem i_Reader_readNumbers_43 : m_at k_Reader_readNumbers 43 = some (.iconst 1, 1, 0) := m_at_of r_Reader_readNumbers (by decide +kernel)
theorem i_Reader_readNumbers_44 : m_at k_Reader_readNumbers 44 = some (.iadd, 1, 0) := m_at_of r_Reader_readNumbers (by decide +kernel)
theorem i_Reader_readNumbers_45 : m_at k_Reader_readNumbers 45 = some (.iaload, 1, 0) := m_at_of r_Reader_readNumbers (by decide +kernel)
theorem i_Reader_readNumbers_46 : m_at k_Reader_readNumbers 46 = some (.invokevirtual 120, 3, 377) := m_at_of r_Reader_readNumbers (by decide +kernel)
theorem i_Reader_readNumbers_49 : m_at k_Reader_readNumbers 49 = some (.ifCond .eq (7), 3, 0) := m_at_of r_Reader_readNumbers (by decide +kernel)
theorem i_Reader_readNumbers_52 : m_at k_Reader_readNumbers 52 = some (.iconst 1, 1, 0) := m_at_of r_Reader_readNumbers (by decide +kernel)
theorem i_Reader_readNumbers_53 : m_at k_Reader_readNumbers 53 = some (.goto (4), 3, 0) := m_at_of r_Reader_readNumbers (by decide +kernel)
theorem i_Reader_readNumbers_56 : m_at k_Reader_readNumbers 56 = some (.iconst 0, 1, 0) := m_at_of r_Reader_readNumbers (by decide +kernel)
theorem i_Reader_readNumbers_57 : m_at k_Reader_readNumbers 57 = some (.istore_n 2, 1, 0) := m_at_of r_Reader_readNumbers (by decide +kernel)
theorem i_Reader_readNumbers_58 : m_at k_Reader_readNumbers 58 = some (.iload_n 2, 1, 0) := m_at_of r_Reader_readNumbers (by decide +kernel)
theorem i_Reader_readNumbers_59 : m_at k_Reader_readNumbers 59 = some (.ifCond .eq (28), 3, 0) := m_at_of r_Reader_readNumbers (by decide +kernel)
theorem i_Reader_readNumbers_62 : m_at k_Reader_readNumbers 62 = some (.aload_n 0, 1, 0) := m_at_of r_Reader_readNumbers (by decide +kernel)
theorem i_Reader_readNumbers_63 : m_at k_Reader_readNumbers 63 = some (.getstatic 123, 3, 0) := m_at_of r_Reader_readNumbers (by decide +kernel)
theorem i_Reader_readNumbers_66 : m_at k_Reader_readNumbers 66 = some (.iload_n 3, 1, 0) := m_at_of r_Reader_readNumbers (by decide +kernel)
theorem i_Reader_readNumbers_67 : m_at k_Reader_readNumbers 67 = some (.iconst 2, 1, 0) := m_at_of r_Reader_readNumbers (by decide +kernel)
theorem i_Reader_readNumbers_68 : m_at k_Reader_readNumbers 68 = some (.iadd, 1, 0) := m_at_of r_Reader_readNumbers (by decide +kernel)
theorem i_Reader_readNumbers_69 : m_at k_Reader_readNumbers 69 = some (.iaload, 1, 0) := m_at_of r_Reader_readNumbers (by decide +kernel)
theorem i_Reader_readNumbers_70 : m_at k_Reader_readNumbers 70 = some (.getstatic 123, 3, 0) := m_at_of r_Reader_readNumbers (by decide +kernel)
theorem i_Reader_readNumbers_73 : m_at k_Reader_readNumbers 73 = some (.iload_n 3, 1, 0) := m_at_of r_Reader_readNumbers (by decide +kernel)
theorem i_Reader_readNumbers_74 : m_at k_Reader_readNumbers 74 = some (.iconst 3, 1, 0) := m_at_of r_Reader_readNumbers (by decide +kernel)
theorem i_Reader_readNumbers_75 : m_at k_Reader_readNumbers 75 = some (.iadd, 1, 0) := m_at_of r_Reader_readNumbers (by decide +kernel)
theorem i_Reader_readNumbers_76 : m_at k_Reader_readNumbers 76 = some (.iaload, 1, 0) := m_at_of r_Reader_readNumbers (by decide +kernel)
theorem i_Reader_readNumbers_77 : m_at k_Reader_readNumbers 77 = some (.invokevirtual 126, 3, 378) := m_at_of r_Reader_readNumbers (by decide +kernel)
theorem i_Reader_readNumbers_80 : m_at k_Reader_readNumbers 80 = some (.ifCond .eq (7), 3, 0) := m_at_of r_Reader_readNumbers (by decide +kernel)
theorem i_Reader_readNumbers_83 : m_at k_Reader_readNumbers 83 = some (.iconst 1, 1, 0) := m_at_of r_Reader_readNumbers (by decide +kernel)
theorem i_Reader_readNumbers_84 : m_at k_Reader_readNumbers 84 = some (.goto (4), 3, 0) := m_at_of r_Reader_readNumbers (by decide +kernel)
theorem i_Reader_readNumbers_87 : m_at k_Reader_readNumbers 87 = some (.iconst 0, 1, 0) := m_at_of r_Reader_readNumbers (by decide +kernel)
theorem i_Reader_readNumbers_88 : m_at k_Reader_readNumbers 88 = some (.istore_n 2, 1, 0) := m_at_of r_Reader_readNumbers (by decide +kernel)
theorem i_Reader_readNumbers_89 : m_at k_Reader_readNumbers 89 = some (.iinc 3 (4), 3, 0) := m_at_of r_Reader_readNumbers (by decide +kernel)
theorem i_Reader_readNumbers_92 : m_at k_Reader_readNumbers 92 = some (.goto (-88), 3, 0) := m_at_of r_Reader_readNumbers (by decide +kernel)
theorem i_Reader_readNumbers_95 : m_at k_Reader_readNumbers 95 = some (.iload_n 2, 1, 0) := m_at_of r_Reader_readNumbers (by decide +kernel)
theorem i_Reader_readNumbers_96 : m_at k_Reader_readNumbers 96 = some (.ireturn, 1, 0) := m_at_of r_Reader_readNumbers (by decide +kernel)
set_option maxRecDepth 20000 in
set_option maxHeartbeats 1000000 in
theorem E_Reader_readNumbers (x : m_X) (s : m_H) (w : Nat) (n1 : Int32) : m_M x k_Reader_readNumbers [.ref w, .int n1] s = if m_isO s w 3 = true then (m_D x 9 k_Reader_readNumbers 4 [some (.ref w), some (.int n1), some (.int 1), some (.int 0)] [] s) else none := by
  refine e_M1 (L0 := [some (.ref w), some (.int n1), none, none]) rfl (by decide +kernel) rfl (q_Reader_readNumbers _) rfl ?_
  refine e_iconst (v := 1) i_Reader_readNumbers_0 (by decide) ?_
  refine e_istore_n (L' := [some (.ref w), some (.int n1), some (.int 1), none]) i_Reader_readNumbers_1 (of_decide_eq_true rfl) rfl ?_
  refine e_iconst (v := 0) i_Reader_readNumbers_2 (by decide) ?_
  refine e_istore_n (L' := [some (.ref w), some (.int n1), some (.int 1), some (.int 0)]) i_Reader_readNumbers_3 (of_decide_eq_true rfl) rfl ?_
  exact rfl
set_option maxRecDepth 20000 in
set_option maxHeartbeats 1000000 in
theorem E_Reader_readNumbers_4 (x : m_X) (ρ : Nat) (hρ : 9 ≤ ρ) (s : m_H) (w : Nat) (n1 : Int32) (n2 : Int32) (n3 : Int32)  : m_D x ρ k_Reader_readNumbers 4 [some (.ref w), some (.int n1), some (.int n2), some (.int n3)] [] s = (m_len x s 1001).bind fun v10 => if v10 ≤ (n3 + (3 : Int32)) then (if m_rk (some .boolean) (some (.int n2)) = true then some (some (.int n2), s) else none) else if n2 = 0 then (if m_rk (some .boolean) (some (.int n2)) = true then some (some (.int n2), s) else none) else (m_ia x s 1001 n3).bind fun v22 => if v22 = n1 then ((m_ia x s 1001 (n3 + (1 : Int32))).bind fun v33 => if v33 = (-1) then (m_D x ρ k_Reader_readNumbers 57 [some (.ref w), some (.int n1), some (.int n2), some (.int n3)] [.int 1] s) else (m_ia x s 1001 (n3 + (1 : Int32))).bind fun v45 => m_bI (m_M x k_Reader_expects [.ref w, .int v45] s) fun v46 s46 => if v46 = 0 then (m_D x ρ k_Reader_readNumbers 57 [some (.ref w), some (.int n1), some (.int n2), some (.int n3)] [.int 0] s46) else m_D x ρ k_Reader_readNumbers 57 [some (.ref w), some (.int n1), some (.int n2), some (.int n3)] [.int 1] s46) else m_D x ρ k_Reader_readNumbers 4 [some (.ref w), some (.int n1), some (.int n2), some (.int (n3 + (4 : Int32)))] [] s := by
  refine e_iload_n i_Reader_readNumbers_4 rfl ?_
  refine e_iconst (v := 3) i_Reader_readNumbers_5 (by decide) ?_
  refine e_iadd i_Reader_readNumbers_6 ?_
  refine e_gst1 i_Reader_readNumbers_7 lg_0 ?_
  refine e_alen i_Reader_readNumbers_10 (fun v10 => ?_)
  refine e_icmpge (t := 95) i_Reader_readNumbers_11 (by decide) ?_ ?_
  · refine e_iload_n i_Reader_readNumbers_95 rfl ?_
    exact e_iretG i_Reader_readNumbers_96 rfl
  · refine e_iload_n i_Reader_readNumbers_14 rfl ?_
    refine e_ifeq (t := 95) i_Reader_readNumbers_15 (by decide) ?_ ?_
    · refine e_iload_n i_Reader_readNumbers_95 rfl ?_
      exact e_iretG i_Reader_readNumbers_96 rfl
    · refine e_gst1 i_Reader_readNumbers_18 lg_0 ?_
      refine e_iload_n i_Reader_readNumbers_21 rfl ?_
      refine e_iald i_Reader_readNumbers_22 (fun v22 => ?_)
      refine e_iload_n i_Reader_readNumbers_23 rfl ?_
      refine e_icmpne (t := 89) i_Reader_readNumbers_24 (by decide) ?_ ?_
      · refine e_iinc (w := 4) (L' := [some (.ref w), some (.int n1), some (.int n2), some (.int (n3 + (4 : Int32)))]) i_Reader_readNumbers_89 rfl (of_decide_eq_true rfl) (by decide) rfl ?_
        refine e_goto (t := 4) i_Reader_readNumbers_92 (by decide) ?_
        exact rfl
      · refine e_gst1 i_Reader_readNumbers_27 lg_0 ?_
        refine e_iload_n i_Reader_readNumbers_30 rfl ?_
        refine e_iconst (v := 1) i_Reader_readNumbers_31 (by decide) ?_
        refine e_iadd i_Reader_readNumbers_32 ?_
        refine e_iald i_Reader_readNumbers_33 (fun v33 => ?_)
        refine e_iconst (v := (-1)) i_Reader_readNumbers_34 (by decide) ?_
        refine e_icmpeq (t := 52) i_Reader_readNumbers_35 (by decide) ?_ ?_
        · refine e_iconst (v := 1) i_Reader_readNumbers_52 (by decide) ?_
          refine e_goto (t := 57) i_Reader_readNumbers_53 (by decide) ?_
          exact rfl
        · refine e_aload_n i_Reader_readNumbers_38 rfl ?_
          refine e_gst1 i_Reader_readNumbers_39 lg_0 ?_
          refine e_iload_n i_Reader_readNumbers_42 rfl ?_
          refine e_iconst (v := 1) i_Reader_readNumbers_43 (by decide) ?_
          refine e_iadd i_Reader_readNumbers_44 ?_
          refine e_iald i_Reader_readNumbers_45 (fun v45 => ?_)
          refine e_callI (as := [.ref w, .int v45]) (st' := []) i_Reader_readNumbers_46 lm_377 (Or.inr (Or.inl ⟨rfl, rfl⟩)) w_Reader_expects rfl rfl rfl (Nat.le_of_ble_eq_true rfl) (Nat.le_of_ble_eq_true rfl) (m_rlt (q_Reader_expects _) (Nat.lt_of_lt_of_le (by decide) hρ)) rfl (fun v46 s46 => ?_)
          refine e_ifeq (t := 56) i_Reader_readNumbers_49 (by decide) ?_ ?_
          · refine e_iconst (v := 0) i_Reader_readNumbers_56 (by decide) ?_
            exact rfl
          · refine e_iconst (v := 1) i_Reader_readNumbers_52 (by decide) ?_
            refine e_goto (t := 57) i_Reader_readNumbers_53 (by decide) ?_
            exact rfl
set_option maxRecDepth 20000 in
set_option maxHeartbeats 1000000 in
theorem E_Reader_readNumbers_57 (x : m_X) (ρ : Nat) (hρ : 9 ≤ ρ) (s : m_H) (w : Nat) (n1 : Int32) (n2 : Int32) (n3 : Int32) (nt0 : Int32)  : m_D x ρ k_Reader_readNumbers 57 [some (.ref w), some (.int n1), some (.int n2), some (.int n3)] [.int nt0] s = if nt0 = 0 then (m_D x ρ k_Reader_readNumbers 4 [some (.ref w), some (.int n1), some (.int 0), some (.int (n3 + (4 : Int32)))] [] s) else (m_ia x s 1001 (n3 + (2 : Int32))).bind fun v69 => (m_ia x s 1001 (n3 + (3 : Int32))).bind fun v76 => m_bI (m_M x k_Reader_readNumber [.ref w, .int v69, .int v76] s) fun v77 s77 => if v77 = 0 then (m_D x ρ k_Reader_readNumbers 4 [some (.ref w), some (.int n1), some (.int 0), some (.int (n3 + (4 : Int32)))] [] s77) else m_D x ρ k_Reader_readNumbers 4 [some (.ref w), some (.int n1), some (.int 1), some (.int (n3 + (4 : Int32)))] [] s77 := by
  refine e_istore_n (L' := [some (.ref w), some (.int n1), some (.int nt0), some (.int n3)]) i_Reader_readNumbers_57 (of_decide_eq_true rfl) rfl ?_
  refine e_iload_n i_Reader_readNumbers_58 rfl ?_
  refine e_ifeq (t := 87) i_Reader_readNumbers_59 (by decide) ?_ ?_
  · refine e_iconst (v := 0) i_Reader_readNumbers_87 (by decide) ?_
    refine e_istore_n (L' := [some (.ref w), some (.int n1), some (.int 0), some (.int n3)]) i_Reader_readNumbers_88 (of_decide_eq_true rfl) rfl ?_
    refine e_iinc (w := 4) (L' := [some (.ref w), some (.int n1), some (.int 0), some (.int (n3 + (4 : Int32)))]) i_Reader_readNumbers_89 rfl (of_decide_eq_true rfl) (by decide) rfl ?_
    refine e_goto (t := 4) i_Reader_readNumbers_92 (by decide) ?_
    exact rfl
  · refine e_aload_n i_Reader_readNumbers_62 rfl ?_
    refine e_gst1 i_Reader_readNumbers_63 lg_0 ?_
    refine e_iload_n i_Reader_readNumbers_66 rfl ?_
    refine e_iconst (v := 2) i_Reader_readNumbers_67 (by decide) ?_
    refine e_iadd i_Reader_readNumbers_68 ?_
    refine e_iald i_Reader_readNumbers_69 (fun v69 => ?_)
    refine e_gst1 i_Reader_readNumbers_70 lg_0 ?_
    refine e_iload_n i_Reader_readNumbers_73 rfl ?_
    refine e_iconst (v := 3) i_Reader_readNumbers_74 (by decide) ?_
    refine e_iadd i_Reader_readNumbers_75 ?_
    refine e_iald i_Reader_readNumbers_76 (fun v76 => ?_)
    refine e_callI (as := [.ref w, .int v69, .int v76]) (st' := []) i_Reader_readNumbers_77 lm_378 (Or.inr (Or.inl ⟨rfl, rfl⟩)) w_Reader_readNumber rfl rfl rfl (Nat.le_of_ble_eq_true rfl) (Nat.le_of_ble_eq_true rfl) (m_rlt (q_Reader_readNumber _) (Nat.lt_of_lt_of_le (by decide) hρ)) rfl (fun v77 s77 => ?_)
    refine e_ifeq (t := 87) i_Reader_readNumbers_80 (by decide) ?_ ?_
    · refine e_iconst (v := 0) i_Reader_readNumbers_87 (by decide) ?_
      refine e_istore_n (L' := [some (.ref w), some (.int n1), some (.int 0), some (.int n3)]) i_Reader_readNumbers_88 (of_decide_eq_true rfl) rfl ?_
      refine e_iinc (w := 4) (L' := [some (.ref w), some (.int n1), some (.int 0), some (.int (n3 + (4 : Int32)))]) i_Reader_readNumbers_89 rfl (of_decide_eq_true rfl) (by decide) rfl ?_
      refine e_goto (t := 4) i_Reader_readNumbers_92 (by decide) ?_
      exact rfl
    · refine e_iconst (v := 1) i_Reader_readNumbers_83 (by decide) ?_
      refine e_goto (t := 88) i_Reader_readNumbers_84 (by decide) ?_
      refine e_istore_n (L' := [some (.ref w), some (.int n1), some (.int 1), some (.int n3)]) i_Reader_readNumbers_88 (of_decide_eq_true rfl) rfl ?_
      refine e_iinc (w := 4) (L' := [some (.ref w), some (.int n1), some (.int 1), some (.int (n3 + (4 : Int32)))]) i_Reader_readNumbers_89 rfl (of_decide_eq_true rfl) (by decide) rfl ?_
      refine e_goto (t := 4) i_Reader_readNumbers_92 (by decide) ?_
      exact rfl
theorem i_Reader_readSum_0 : m_at k_Reader_readSum 0 = some (.aload_n 0, 1, 0) := m_at_of r_Reader_readSum (by decide +kernel)
theorem i_Reader_readSum_1 : m_at k_Reader_readSum 1 = some (.iload_n 1, 1, 0) := m_at_of r_Reader_readSum (by decide +kernel)
theorem i_Reader_readSum_2 : m_at k_Reader_readSum 2 = some (.invokevirtual 137, 3, 379) := m_at_of r_Reader_readSum (by decide +kernel)
theorem i_Reader_readSum_5 : m_at k_Reader_readSum 5 = some (.istore_n 2, 1, 0) := m_at_of r_Reader_readSum (by decide +kernel)
theorem i_Reader_readSum_6 : m_at k_Reader_readSum 6 = some (.iconst 0, 1, 0) := m_at_of r_Reader_readSum (by decide +kernel)
theorem i_Reader_readSum_7 : m_at k_Reader_readSum 7 = some (.istore_n 3, 1, 0) := m_at_of r_Reader_readSum (by decide +kernel)
theorem i_Reader_readSum_8 : m_at k_Reader_readSum 8 = some (.iload_n 3, 1, 0) := m_at_of r_Reader_readSum (by decide +kernel)
theorem i_Reader_readSum_9 : m_at k_Reader_readSum 9 = some (.sipush 300, 3, 0) := m_at_of r_Reader_readSum (by decide +kernel)
theorem i_Reader_readSum_12 : m_at k_Reader_readSum 12 = some (.if_icmp .ge (56), 3, 0) := m_at_of r_Reader_readSum (by decide +kernel)
theorem i_Reader_readSum_15 : m_at k_Reader_readSum 15 = some (.iload_n 2, 1, 0) := m_at_of r_Reader_readSum (by decide +kernel)
theorem i_Reader_readSum_16 : m_at k_Reader_readSum 16 = some (.ifCond .eq (52), 3, 0) := m_at_of r_Reader_readSum (by decide +kernel)
theorem i_Reader_readSum_19 : m_at k_Reader_readSum 19 = some (.aload_n 0, 1, 0) := m_at_of r_Reader_readSum (by decide +kernel)
theorem i_Reader_readSum_20 : m_at k_Reader_readSum 20 = some (.getfield 41, 3, 119) := m_at_of r_Reader_readSum (by decide +kernel)
theorem i_Reader_readSum_23 : m_at k_Reader_readSum 23 = some (.bipush 41, 2, 0) := m_at_of r_Reader_readSum (by decide +kernel)
theorem i_Reader_readSum_25 : m_at k_Reader_readSum 25 = some (.if_icmp .eq (12), 3, 0) := m_at_of r_Reader_readSum (by decide +kernel)
theorem i_Reader_readSum_28 : m_at k_Reader_readSum 28 = some (.aload_n 0, 1, 0) := m_at_of r_Reader_readSum (by decide +kernel)
theorem i_Reader_readSum_29 : m_at k_Reader_readSum 29 = some (.getfield 41, 3, 119) := m_at_of r_Reader_readSum (by decide +kernel)
theorem i_Reader_readSum_32 : m_at k_Reader_readSum 32 = some (.bipush 42, 2, 0) := m_at_of r_Reader_readSum (by decide +kernel)
theorem i_Reader_readSum_34 : m_at k_Reader_readSum 34 = some (.if_icmp .ne (34), 3, 0) := m_at_of r_Reader_readSum (by decide +kernel)
theorem i_Reader_readSum_37 : m_at k_Reader_readSum 37 = some (.aload_n 0, 1, 0) := m_at_of r_Reader_readSum (by decide +kernel)
theorem i_Reader_readSum_38 : m_at k_Reader_readSum 38 = some (.getfield 41, 3, 119) := m_at_of r_Reader_readSum (by decide +kernel)
theorem i_Reader_readSum_41 : m_at k_Reader_readSum 41 = some (.istore 4, 2, 0) := m_at_of r_Reader_readSum (by decide +kernel)
theorem i_Reader_readSum_43 : m_at k_Reader_readSum 43 = some (.aload_n 0, 1, 0) := m_at_of r_Reader_readSum (by decide +kernel)
theorem i_Reader_readSum_44 : m_at k_Reader_readSum 44 = some (.invokevirtual 38, 3, 367) := m_at_of r_Reader_readSum (by decide +kernel)
theorem i_Reader_readSum_47 : m_at k_Reader_readSum 47 = some (.aload_n 0, 1, 0) := m_at_of r_Reader_readSum (by decide +kernel)
theorem i_Reader_readSum_48 : m_at k_Reader_readSum 48 = some (.iload_n 1, 1, 0) := m_at_of r_Reader_readSum (by decide +kernel)
theorem i_Reader_readSum_49 : m_at k_Reader_readSum 49 = some (.invokevirtual 137, 3, 379) := m_at_of r_Reader_readSum (by decide +kernel)
theorem i_Reader_readSum_52 : m_at k_Reader_readSum 52 = some (.istore_n 2, 1, 0) := m_at_of r_Reader_readSum (by decide +kernel)
theorem i_Reader_readSum_53 : m_at k_Reader_readSum 53 = some (.aload_n 0, 1, 0) := m_at_of r_Reader_readSum (by decide +kernel)
theorem i_Reader_readSum_54 : m_at k_Reader_readSum 54 = some (.getfield 12, 3, 115) := m_at_of r_Reader_readSum (by decide +kernel)
theorem i_Reader_readSum_57 : m_at k_Reader_readSum 57 = some (.iload 4, 2, 0) := m_at_of r_Reader_readSum (by decide +kernel)
theorem i_Reader_readSum_59 : m_at k_Reader_readSum 59 = some (.invokevirtual 140, 3, 380) := m_at_of r_Reader_readSum (by decide +kernel)
theorem i_Reader_readSum_62 : m_at k_Reader_readSum 62 = some (.iinc 3 (1), 3, 0) := m_at_of r_Reader_readSum (by decide +kernel)
theorem i_Reader_readSum_65 : m_at k_Reader_readSum 65 = some (.goto (-57), 3, 0) := m_at_of r_Reader_readSum (by decide +kernel)
theorem i_Reader_readSum_68 : m_at k_Reader_readSum 68 = some (.iload_n 2, 1, 0) := m_at_of r_Reader_readSum (by decide +kernel)
theorem i_Reader_readSum_69 : m_at k_Reader_readSum 69 = some (.ireturn, 1, 0) := m_at_of r_Reader_readSum (by decide +kernel)
set_option maxRecDepth 20000 in
set_option maxHeartbeats 1000000 in
theorem E_Reader_readSum (x : m_X) (s : m_H) (w : Nat) (n1 : Int32) : m_M x k_Reader_readSum [.ref w, .int n1] s = if m_isO s w 3 = true then (if m_rank k_Reader_readProduct [.ref w, .int n1] < (m_rank k_Reader_readSum [.ref w, .int n1]) then (m_bI (m_M x k_Reader_readProduct [.ref w, .int n1] s) fun v2 s2 => m_D x (m_rank k_Reader_readSum [.ref w, .int n1]) k_Reader_readSum 8 [some (.ref w), some (.int n1), some (.int v2), some (.int 0), none] [] s2) else none) else none := by
  refine e_M1 (L0 := [some (.ref w), some (.int n1), none, none, none]) rfl (by decide +kernel) rfl rfl rfl ?_
  refine e_aload_n i_Reader_readSum_0 rfl ?_
  refine e_iload_n i_Reader_readSum_1 rfl ?_
  refine e_callIg (as := [.ref w, .int n1]) (st' := []) i_Reader_readSum_2 lm_379 (Or.inr (Or.inl ⟨rfl, rfl⟩)) w_Reader_readProduct rfl rfl rfl (Nat.le_of_ble_eq_true rfl) (Nat.le_of_ble_eq_true rfl) rfl (fun v2 s2 => ?_)
  refine e_istore_n (L' := [some (.ref w), some (.int n1), some (.int v2), none, none]) i_Reader_readSum_5 (of_decide_eq_true rfl) rfl ?_
  refine e_iconst (v := 0) i_Reader_readSum_6 (by decide) ?_
  refine e_istore_n (L' := [some (.ref w), some (.int n1), some (.int v2), some (.int 0), none]) i_Reader_readSum_7 (of_decide_eq_true rfl) rfl ?_
  exact rfl
set_option maxRecDepth 20000 in
set_option maxHeartbeats 1000000 in
theorem E_Reader_readSum_8 (x : m_X) (ρ : Nat) (hρ : 9 ≤ ρ) (s : m_H) (w : Nat) (n1 : Int32) (n2 : Int32) (n3 : Int32) (d4 : Option Value) (hd4 : m_nl d4 = true) : m_D x ρ k_Reader_readSum 8 [some (.ref w), some (.int n1), some (.int n2), some (.int n3), d4] [] s = if 300 ≤ n3 then (if m_rk (some .boolean) (some (.int n2)) = true then some (some (.int n2), s) else none) else if n2 = 0 then (if m_rk (some .boolean) (some (.int n2)) = true then some (some (.int n2), s) else none) else (m_fI s 3 5 w).bind fun v20 => if v20 = 41 then ((m_fI s 3 5 w).bind fun v38 => m_bV (m_M x k_Reader_advance [.ref w] s) fun s44 => if m_rank k_Reader_readProduct [.ref w, .int n1] < ρ then (m_bI (m_M x k_Reader_readProduct [.ref w, .int n1] s44) fun v49 s49 => (m_fR s49 3 0 w).bind fun v54 => m_bV (m_M x k_Script_addDeed [.ref v54, .int v38] s49) fun s59 => m_D x ρ k_Reader_readSum 8 [some (.ref w), some (.int n1), some (.int v49), some (.int (n3 + (1 : Int32))), some (.int v38)] [] s59) else none) else (m_fI s 3 5 w).bind fun v29 => if v29 = 42 then ((m_fI s 3 5 w).bind fun v38 => m_bV (m_M x k_Reader_advance [.ref w] s) fun s44 => if m_rank k_Reader_readProduct [.ref w, .int n1] < ρ then (m_bI (m_M x k_Reader_readProduct [.ref w, .int n1] s44) fun v49 s49 => (m_fR s49 3 0 w).bind fun v54 => m_bV (m_M x k_Script_addDeed [.ref v54, .int v38] s49) fun s59 => m_D x ρ k_Reader_readSum 8 [some (.ref w), some (.int n1), some (.int v49), some (.int (n3 + (1 : Int32))), some (.int v38)] [] s59) else none) else if m_rk (some .boolean) (some (.int n2)) = true then some (some (.int n2), s) else none := by
  refine e_iload_n i_Reader_readSum_8 rfl ?_
  refine e_sipush (v := 300) i_Reader_readSum_9 (by decide) ?_
  refine e_icmpge (t := 68) i_Reader_readSum_12 (by decide) ?_ ?_
  · refine e_iload_n i_Reader_readSum_68 rfl ?_
    exact e_iretG i_Reader_readSum_69 rfl
  · refine e_iload_n i_Reader_readSum_15 rfl ?_
    refine e_ifeq (t := 68) i_Reader_readSum_16 (by decide) ?_ ?_
    · refine e_iload_n i_Reader_readSum_68 rfl ?_
      exact e_iretG i_Reader_readSum_69 rfl
    · refine e_aload_n i_Reader_readSum_19 rfl ?_
      refine e_getI i_Reader_readSum_20 lf_119 (by decide) (Or.inl ft_3_5) (fun v20 => ?_)
      refine e_bipush (v := 41) i_Reader_readSum_23 (by decide) ?_
      refine e_icmpeq (t := 37) i_Reader_readSum_25 (by decide) ?_ ?_
      · refine e_aload_n i_Reader_readSum_37 rfl ?_
        refine e_getI i_Reader_readSum_38 lf_119 (by decide) (Or.inl ft_3_5) (fun v38 => ?_)
        refine e_istore (L' := [some (.ref w), some (.int n1), some (.int n2), some (.int n3), some (.int v38)]) i_Reader_readSum_41 (of_decide_eq_true rfl) rfl ?_
        refine e_aload_n i_Reader_readSum_43 rfl ?_
        refine e_callV (as := [.ref w]) (st' := []) i_Reader_readSum_44 lm_367 (Or.inr (Or.inl ⟨rfl, rfl⟩)) w_Reader_advance rfl rfl rfl (Nat.le_of_ble_eq_true rfl) (Nat.le_of_ble_eq_true rfl) (m_rlt (q_Reader_advance _) (Nat.lt_of_lt_of_le (by decide) hρ)) rfl (fun s44 => ?_)
        refine e_aload_n i_Reader_readSum_47 rfl ?_
        refine e_iload_n i_Reader_readSum_48 rfl ?_
        refine e_callIg (as := [.ref w, .int n1]) (st' := []) i_Reader_readSum_49 lm_379 (Or.inr (Or.inl ⟨rfl, rfl⟩)) w_Reader_readProduct rfl rfl rfl (Nat.le_of_ble_eq_true rfl) (Nat.le_of_ble_eq_true rfl) rfl (fun v49 s49 => ?_)
        refine e_istore_n (L' := [some (.ref w), some (.int n1), some (.int v49), some (.int n3), some (.int v38)]) i_Reader_readSum_52 (of_decide_eq_true rfl) rfl ?_
        refine e_aload_n i_Reader_readSum_53 rfl ?_
        refine e_getR i_Reader_readSum_54 lf_115 (by decide) ft_3_0 (fun v54 => ?_)
        refine e_iload i_Reader_readSum_57 rfl ?_
        refine e_callV (as := [.ref v54, .int v38]) (st' := []) i_Reader_readSum_59 lm_380 (Or.inr (Or.inl ⟨rfl, rfl⟩)) w_Script_addDeed rfl rfl rfl (Nat.le_of_ble_eq_true rfl) (Nat.le_of_ble_eq_true rfl) (m_rlt (q_Script_addDeed _) (Nat.lt_of_lt_of_le (by decide) hρ)) rfl (fun s59 => ?_)
        refine e_iinc (w := 1) (L' := [some (.ref w), some (.int n1), some (.int v49), some (.int (n3 + (1 : Int32))), some (.int v38)]) i_Reader_readSum_62 rfl (of_decide_eq_true rfl) (by decide) rfl ?_
        refine e_goto (t := 8) i_Reader_readSum_65 (by decide) ?_
        exact rfl
      · refine e_aload_n i_Reader_readSum_28 rfl ?_
        refine e_getI i_Reader_readSum_29 lf_119 (by decide) (Or.inl ft_3_5) (fun v29 => ?_)
        refine e_bipush (v := 42) i_Reader_readSum_32 (by decide) ?_
        refine e_icmpne (t := 68) i_Reader_readSum_34 (by decide) ?_ ?_
        · refine e_iload_n i_Reader_readSum_68 rfl ?_
          exact e_iretG i_Reader_readSum_69 rfl
        · refine e_aload_n i_Reader_readSum_37 rfl ?_
          refine e_getI i_Reader_readSum_38 lf_119 (by decide) (Or.inl ft_3_5) (fun v38 => ?_)
          refine e_istore (L' := [some (.ref w), some (.int n1), some (.int n2), some (.int n3), some (.int v38)]) i_Reader_readSum_41 (of_decide_eq_true rfl) rfl ?_
          refine e_aload_n i_Reader_readSum_43 rfl ?_
          refine e_callV (as := [.ref w]) (st' := []) i_Reader_readSum_44 lm_367 (Or.inr (Or.inl ⟨rfl, rfl⟩)) w_Reader_advance rfl rfl rfl (Nat.le_of_ble_eq_true rfl) (Nat.le_of_ble_eq_true rfl) (m_rlt (q_Reader_advance _) (Nat.lt_of_lt_of_le (by decide) hρ)) rfl (fun s44 => ?_)
          refine e_aload_n i_Reader_readSum_47 rfl ?_
          refine e_iload_n i_Reader_readSum_48 rfl ?_
          refine e_callIg (as := [.ref w, .int n1]) (st' := []) i_Reader_readSum_49 lm_379 (Or.inr (Or.inl ⟨rfl, rfl⟩)) w_Reader_readProduct rfl rfl rfl (Nat.le_of_ble_eq_true rfl) (Nat.le_of_ble_eq_true rfl) rfl (fun v49 s49 => ?_)
          refine e_istore_n (L' := [some (.ref w), some (.int n1), some (.int v49), some (.int n3), some (.int v38)]) i_Reader_readSum_52 (of_decide_eq_true rfl) rfl ?_
          refine e_aload_n i_Reader_readSum_53 rfl ?_
          refine e_getR i_Reader_readSum_54 lf_115 (by decide) ft_3_0 (fun v54 => ?_)
          refine e_iload i_Reader_readSum_57 rfl ?_
          refine e_callV (as := [.ref v54, .int v38]) (st' := []) i_Reader_readSum_59 lm_380 (Or.inr (Or.inl ⟨rfl, rfl⟩)) w_Script_addDeed rfl rfl rfl (Nat.le_of_ble_eq_true rfl) (Nat.le_of_ble_eq_true rfl) (m_rlt (q_Script_addDeed _) (Nat.lt_of_lt_of_le (by decide) hρ)) rfl (fun s59 => ?_)
          refine e_iinc (w := 1) (L' := [some (.ref w), some (.int n1), some (.int v49), some (.int (n3 + (1 : Int32))), some (.int v38)]) i_Reader_readSum_62 rfl (of_decide_eq_true rfl) (by decide) rfl ?_
          refine e_goto (t := 8) i_Reader_readSum_65 (by decide) ?_
          exact rfl
theorem i_Reader_readProduct_0 : m_at k_Reader_readProduct 0 = some (.aload_n 0, 1, 0) := m_at_of r_Reader_readProduct (by decide +kernel)
theorem i_Reader_readProduct_1 : m_at k_Reader_readProduct 1 = some (.iload_n 1, 1, 0) := m_at_of r_Reader_readProduct (by decide +kernel)
theorem i_Reader_readProduct_2 : m_at k_Reader_readProduct 2 = some (.invokevirtual 143, 3, 381) := m_at_of r_Reader_readProduct (by decide +kernel)
theorem i_Reader_readProduct_5 : m_at k_Reader_readProduct 5 = some (.istore_n 2, 1, 0) := m_at_of r_Reader_readProduct (by decide +kernel)
theorem i_Reader_readProduct_6 : m_at k_Reader_readProduct 6 = some (.iconst 0, 1, 0) := m_at_of r_Reader_readProduct (by decide +kernel)
theorem i_Reader_readProduct_7 : m_at k_Reader_readProduct 7 = some (.istore_n 3, 1, 0) := m_at_of r_Reader_readProduct (by decide +kernel)
theorem i_Reader_readProduct_8 : m_at k_Reader_readProduct 8 = some (.iload_n 3, 1, 0) := m_at_of r_Reader_readProduct (by decide +kernel)
theorem i_Reader_readProduct_9 : m_at k_Reader_readProduct 9 = some (.sipush 300, 3, 0) := m_at_of r_Reader_readProduct (by decide +kernel)
theorem i_Reader_readProduct_12 : m_at k_Reader_readProduct 12 = some (.if_icmp .ge (56), 3, 0) := m_at_of r_Reader_readProduct (by decide +kernel)
theorem i_Reader_readProduct_15 : m_at k_Reader_readProduct 15 = some (.iload_n 2, 1, 0) := m_at_of r_Reader_readProduct (by decide +kernel)
theorem i_Reader_readProduct_16 : m_at k_Reader_readProduct 16 = some (.ifCond .eq (52), 3, 0) := m_at_of r_Reader_readProduct (by decide +kernel)
theorem i_Reader_readProduct_19 : m_at k_Reader_readProduct 19 = some (.aload_n 0, 1, 0) := m_at_of r_Reader_readProduct (by decide +kernel)
theorem i_Reader_readProduct_20 : m_at k_Reader_readProduct 20 = some (.getfield 41, 3, 119) := m_at_of r_Reader_readProduct (by decide +kernel)
theorem i_Reader_readProduct_23 : m_at k_Reader_readProduct 23 = some (.bipush 43, 2, 0) := m_at_of r_Reader_readProduct (by decide +kernel)
theorem i_Reader_readProduct_25 : m_at k_Reader_readProduct 25 = some (.if_icmp .eq (12), 3, 0) := m_at_of r_Reader_readProduct (by decide +kernel)
theorem i_Reader_readProduct_28 : m_at k_Reader_readProduct 28 = some (.aload_n 0, 1, 0) := m_at_of r_Reader_readProduct (by decide +kernel)
theorem i_Reader_readProduct_29 : m_at k_Reader_readProduct 29 = some (.getfield 41, 3, 119) := m_at_of r_Reader_readProduct (by decide +kernel)
theorem i_Reader_readProduct_32 : m_at k_Reader_readProduct 32 = some (.bipush 44, 2, 0) := m_at_of r_Reader_readProduct (by decide +kernel)
theorem i_Reader_readProduct_34 : m_at k_Reader_readProduct 34 = some (.if_icmp .ne (34), 3, 0) := m_at_of r_Reader_readProduct (by decide +kernel)
theorem i_Reader_readProduct_37 : m_at k_Reader_readProduct 37 = some (.aload_n 0, 1, 0) := m_at_of r_Reader_readProduct (by decide +kernel)
theorem i_Reader_readProduct_38 : m_at k_Reader_readProduct 38 = some (.getfield 41, 3, 119) := m_at_of r_Reader_readProduct (by decide +kernel)
theorem i_Reader_readProduct_41 : m_at k_Reader_readProduct 41 = some (.istore 4, 2, 0) := m_at_of r_Reader_readProduct (by decide +kernel)
theorem i_Reader_readProduct_43 : m_at k_Reader_readProduct 43 = some (.aload_n 0, 1, 0) := m_at_of r_Reader_readProduct (by decide +kernel)
theorem i_Reader_readProduct_44 : m_at k_Reader_readProduct 44 = some (.invokevirtual 38, 3, 367) := m_at_of r_Reader_readProduct (by decide +kernel)
theorem i_Reader_readProduct_47 : m_at k_Reader_readProduct 47 = some (.aload_n 0, 1, 0) := m_at_of r_Reader_readProduct (by decide +kernel)
theorem i_Reader_readProduct_48 : m_at k_Reader_readProduct 48 = some (.iload_n 1, 1, 0) := m_at_of r_Reader_readProduct (by decide +kernel)
theorem i_Reader_readProduct_49 : m_at k_Reader_readProduct 49 = some (.invokevirtual 143, 3, 381) := m_at_of r_Reader_readProduct (by decide +kernel)
theorem i_Reader_readProduct_52 : m_at k_Reader_readProduct 52 = some (.istore_n 2, 1, 0) := m_at_of r_Reader_readProduct (by decide +kernel)
theorem i_Reader_readProduct_53 : m_at k_Reader_readProduct 53 = some (.aload_n 0, 1, 0) := m_at_of r_Reader_readProduct (by decide +kernel)
theorem i_Reader_readProduct_54 : m_at k_Reader_readProduct 54 = some (.getfield 12, 3, 115) := m_at_of r_Reader_readProduct (by decide +kernel)
theorem i_Reader_readProduct_57 : m_at k_Reader_readProduct 57 = some (.iload 4, 2, 0) := m_at_of r_Reader_readProduct (by decide +kernel)
theorem i_Reader_readProduct_59 : m_at k_Reader_readProduct 59 = some (.invokevirtual 140, 3, 380) := m_at_of r_Reader_readProduct (by decide +kernel)
theorem i_Reader_readProduct_62 : m_at k_Reader_readProduct 62 = some (.iinc 3 (1), 3, 0) := m_at_of r_Reader_readProduct (by decide +kernel)
theorem i_Reader_readProduct_65 : m_at k_Reader_readProduct 65 = some (.goto (-57), 3, 0) := m_at_of r_Reader_readProduct (by decide +kernel)
theorem i_Reader_readProduct_68 : m_at k_Reader_readProduct 68 = some (.iload_n 2, 1, 0) := m_at_of r_Reader_readProduct (by decide +kernel)
theorem i_Reader_readProduct_69 : m_at k_Reader_readProduct 69 = some (.ireturn, 1, 0) := m_at_of r_Reader_readProduct (by decide +kernel)
set_option maxRecDepth 20000 in
set_option maxHeartbeats 1000000 in
theorem E_Reader_readProduct (x : m_X) (s : m_H) (w : Nat) (n1 : Int32) : m_M x k_Reader_readProduct [.ref w, .int n1] s = if m_isO s w 3 = true then (if m_rank k_Reader_readOne [.ref w, .int n1] < (m_rank k_Reader_readProduct [.ref w, .int n1]) then (m_bI (m_M x k_Reader_readOne [.ref w, .int n1] s) fun v2 s2 => m_D x (m_rank k_Reader_readProduct [.ref w, .int n1]) k_Reader_readProduct 8 [some (.ref w), some (.int n1), some (.int v2), some (.int 0), none] [] s2) else none) else none := by
  refine e_M1 (L0 := [some (.ref w), some (.int n1), none, none, none]) rfl (by decide +kernel) rfl rfl rfl ?_
  refine e_aload_n i_Reader_readProduct_0 rfl ?_
  refine e_iload_n i_Reader_readProduct_1 rfl ?_
  refine e_callIg (as := [.ref w, .int n1]) (st' := []) i_Reader_readProduct_2 lm_381 (Or.inr (Or.inl ⟨rfl, rfl⟩)) w_Reader_readOne rfl rfl rfl (Nat.le_of_ble_eq_true rfl) (Nat.le_of_ble_eq_true rfl) rfl (fun v2 s2 => ?_)
  refine e_istore_n (L' := [some (.ref w), some (.int n1), some (.int v2), none, none]) i_Reader_readProduct_5 (of_decide_eq_true rfl) rfl ?_
  refine e_iconst (v := 0) i_Reader_readProduct_6 (by decide) ?_
  refine e_istore_n (L' := [some (.ref w), some (.int n1), some (.int v2), some (.int 0), none]) i_Reader_readProduct_7 (of_decide_eq_true rfl) rfl ?_
  exact rfl
set_option maxRecDepth 20000 in
set_option maxHeartbeats 1000000 in
theorem E_Reader_readProduct_8 (x : m_X) (ρ : Nat) (hρ : 9 ≤ ρ) (s : m_H) (w : Nat) (n1 : Int32) (n2 : Int32) (n3 : Int32) (d4 : Option Value) (hd4 : m_nl d4 = true) : m_D x ρ k_Reader_readProduct 8 [some (.ref w), some (.int n1), some (.int n2), some (.int n3), d4] [] s = if 300 ≤ n3 then (if m_rk (some .boolean) (some (.int n2)) = true then some (some (.int n2), s) else none) else if n2 = 0 then (if m_rk (some .boolean) (some (.int n2)) = true then some (some (.int n2), s) else none) else (m_fI s 3 5 w).bind fun v20 => if v20 = 43 then ((m_fI s 3 5 w).bind fun v38 => m_bV (m_M x k_Reader_advance [.ref w] s) fun s44 => if m_rank k_Reader_readOne [.ref w, .int n1] < ρ then (m_bI (m_M x k_Reader_readOne [.ref w, .int n1] s44) fun v49 s49 => (m_fR s49 3 0 w).bind fun v54 => m_bV (m_M x k_Script_addDeed [.ref v54, .int v38] s49) fun s59 => m_D x ρ k_Reader_readProduct 8 [some (.ref w), some (.int n1), some (.int v49), some (.int (n3 + (1 : Int32))), some (.int v38)] [] s59) else none) else (m_fI s 3 5 w).bind fun v29 => if v29 = 44 then ((m_fI s 3 5 w).bind fun v38 => m_bV (m_M x k_Reader_advance [.ref w] s) fun s44 => if m_rank k_Reader_readOne [.ref w, .int n1] < ρ then (m_bI (m_M x k_Reader_readOne [.ref w, .int n1] s44) fun v49 s49 => (m_fR s49 3 0 w).bind fun v54 => m_bV (m_M x k_Script_addDeed [.ref v54, .int v38] s49) fun s59 => m_D x ρ k_Reader_readProduct 8 [some (.ref w), some (.int n1), some (.int v49), some (.int (n3 + (1 : Int32))), some (.int v38)] [] s59) else none) else if m_rk (some .boolean) (some (.int n2)) = true then some (some (.int n2), s) else none := by
  refine e_iload_n i_Reader_readProduct_8 rfl ?_
  refine e_sipush (v := 300) i_Reader_readProduct_9 (by decide) ?_
  refine e_icmpge (t := 68) i_Reader_readProduct_12 (by decide) ?_ ?_
  · refine e_iload_n i_Reader_readProduct_68 rfl ?_
    exact e_iretG i_Reader_readProduct_69 rfl
  · refine e_iload_n i_Reader_readProduct_15 rfl ?_
    refine e_ifeq (t := 68) i_Reader_readProduct_16 (by decide) ?_ ?_
    · refine e_iload_n i_Reader_readProduct_68 rfl ?_
      exact e_iretG i_Reader_readProduct_69 rfl
    · refine e_aload_n i_Reader_readProduct_19 rfl ?_
      refine e_getI i_Reader_readProduct_20 lf_119 (by decide) (Or.inl ft_3_5) (fun v20 => ?_)
      refine e_bipush (v := 43) i_Reader_readProduct_23 (by decide) ?_
      refine e_icmpeq (t := 37) i_Reader_readProduct_25 (by decide) ?_ ?_
      · refine e_aload_n i_Reader_readProduct_37 rfl ?_
        refine e_getI i_Reader_readProduct_38 lf_119 (by decide) (Or.inl ft_3_5) (fun v38 => ?_)
        refine e_istore (L' := [some (.ref w), some (.int n1), some (.int n2), some (.int n3), some (.int v38)]) i_Reader_readProduct_41 (of_decide_eq_true rfl) rfl ?_
        refine e_aload_n i_Reader_readProduct_43 rfl ?_
        refine e_callV (as := [.ref w]) (st' := []) i_Reader_readProduct_44 lm_367 (Or.inr (Or.inl ⟨rfl, rfl⟩)) w_Reader_advance rfl rfl rfl (Nat.le_of_ble_eq_true rfl) (Nat.le_of_ble_eq_true rfl) (m_rlt (q_Reader_advance _) (Nat.lt_of_lt_of_le (by decide) hρ)) rfl (fun s44 => ?_)
        refine e_aload_n i_Reader_readProduct_47 rfl ?_
        refine e_iload_n i_Reader_readProduct_48 rfl ?_
        refine e_callIg (as := [.ref w, .int n1]) (st' := []) i_Reader_readProduct_49 lm_381 (Or.inr (Or.inl ⟨rfl, rfl⟩)) w_Reader_readOne rfl rfl rfl (Nat.le_of_ble_eq_true rfl) (Nat.le_of_ble_eq_true rfl) rfl (fun v49 s49 => ?_)
        refine e_istore_n (L' := [some (.ref w), some (.int n1), some (.int v49), some (.int n3), some (.int v38)]) i_Reader_readProduct_52 (of_decide_eq_true rfl) rfl ?_
        refine e_aload_n i_Reader_readProduct_53 rfl ?_
        refine e_getR i_Reader_readProduct_54 lf_115 (by decide) ft_3_0 (fun v54 => ?_)
        refine e_iload i_Reader_readProduct_57 rfl ?_
        refine e_callV (as := [.ref v54, .int v38]) (st' := []) i_Reader_readProduct_59 lm_380 (Or.inr (Or.inl ⟨rfl, rfl⟩)) w_Script_addDeed rfl rfl rfl (Nat.le_of_ble_eq_true rfl) (Nat.le_of_ble_eq_true rfl) (m_rlt (q_Script_addDeed _) (Nat.lt_of_lt_of_le (by decide) hρ)) rfl (fun s59 => ?_)
        refine e_iinc (w := 1) (L' := [some (.ref w), some (.int n1), some (.int v49), some (.int (n3 + (1 : Int32))), some (.int v38)]) i_Reader_readProduct_62 rfl (of_decide_eq_true rfl) (by decide) rfl ?_
        refine e_goto (t := 8) i_Reader_readProduct_65 (by decide) ?_
        exact rfl
      · refine e_aload_n i_Reader_readProduct_28 rfl ?_
        refine e_getI i_Reader_readProduct_29 lf_119 (by decide) (Or.inl ft_3_5) (fun v29 => ?_)
        refine e_bipush (v := 44) i_Reader_readProduct_32 (by decide) ?_
        refine e_icmpne (t := 68) i_Reader_readProduct_34 (by decide) ?_ ?_
        · refine e_iload_n i_Reader_readProduct_68 rfl ?_
          exact e_iretG i_Reader_readProduct_69 rfl
        · refine e_aload_n i_Reader_readProduct_37 rfl ?_
          refine e_getI i_Reader_readProduct_38 lf_119 (by decide) (Or.inl ft_3_5) (fun v38 => ?_)
          refine e_istore (L' := [some (.ref w), some (.int n1), some (.int n2), some (.int n3), some (.int v38)]) i_Reader_readProduct_41 (of_decide_eq_true rfl) rfl ?_
          refine e_aload_n i_Reader_readProduct_43 rfl ?_
          refine e_callV (as := [.ref w]) (st' := []) i_Reader_readProduct_44 lm_367 (Or.inr (Or.inl ⟨rfl, rfl⟩)) w_Reader_advance rfl rfl rfl (Nat.le_of_ble_eq_true rfl) (Nat.le_of_ble_eq_true rfl) (m_rlt (q_Reader_advance _) (Nat.lt_of_lt_of_le (by decide) hρ)) rfl (fun s44 => ?_)
          refine e_aload_n i_Reader_readProduct_47 rfl ?_
          refine e_iload_n i_Reader_readProduct_48 rfl ?_
          refine e_callIg (as := [.ref w, .int n1]) (st' := []) i_Reader_readProduct_49 lm_381 (Or.inr (Or.inl ⟨rfl, rfl⟩)) w_Reader_readOne rfl rfl rfl (Nat.le_of_ble_eq_true rfl) (Nat.le_of_ble_eq_true rfl) rfl (fun v49 s49 => ?_)
          refine e_istore_n (L' := [some (.ref w), some (.int n1), some (.int v49), some (.int n3), some (.int v38)]) i_Reader_readProduct_52 (of_decide_eq_true rfl) rfl ?_
          refine e_aload_n i_Reader_readProduct_53 rfl ?_
          refine e_getR i_Reader_readProduct_54 lf_115 (by decide) ft_3_0 (fun v54 => ?_)
          refine e_iload i_Reader_readProduct_57 rfl ?_
          refine e_callV (as := [.ref v54, .int v38]) (st' := []) i_Reader_readProduct_59 lm_380 (Or.inr (Or.inl ⟨rfl, rfl⟩)) w_Script_addDeed rfl rfl rfl (Nat.le_of_ble_eq_true rfl) (Nat.le_of_ble_eq_true rfl) (m_rlt (q_Script_addDeed _) (Nat.lt_of_lt_of_le (by decide) hρ)) rfl (fun s59 => ?_)
          refine e_iinc (w := 1) (L' := [some (.ref w), some (.int n1), some (.int v49), some (.int (n3 + (1 : Int32))), some (.int v38)]) i_Reader_readProduct_62 rfl (of_decide_eq_true rfl) (by decide) rfl ?_
          refine e_goto (t := 8) i_Reader_readProduct_65 (by decide) ?_
          exact rfl
theorem i_Reader_readOne_0 : m_at k_Reader_readOne 0 = some (.aload_n 0, 1, 0) := m_at_of r_Reader_readOne (by decide +kernel)
theorem i_Reader_readOne_1 : m_at k_Reader_readOne 1 = some (.getfield 41, 3, 119) := m_at_of r_Reader_readOne (by decide +kernel)
theorem i_Reader_readOne_4 : m_at k_Reader_readOne 4 = some (.lookupswitch (244) #[(27, 168), (29, 135), (30, 220), (42, 102), (45, 69), (51, 60)], 60, 0) := m_at_of r_Reader_readOne (by decide +kernel)
theorem i_Reader_readOne_64 : m_at k_Reader_readOne 64 = some (.aload_n 0, 1, 0) := m_at_of r_Reader_readOne (by decide +kernel)
theorem i_Reader_readOne_65 : m_at k_Reader_readOne 65 = some (.iconst 0, 1, 0) := m_at_of r_Reader_readOne (by decide +kernel)
theorem i_Reader_readOne_66 : m_at k_Reader_readOne 66 = some (.sipush 9999, 3, 0) := m_at_of r_Reader_readOne (by decide +kernel)
theorem i_Reader_readOne_69 : m_at k_Reader_readOne 69 = some (.invokevirtual 126, 3, 378) := m_at_of r_Reader_readOne (by decide +kernel)
theorem i_Reader_readOne_72 : m_at k_Reader_readOne 72 = some (.ireturn, 1, 0) := m_at_of r_Reader_readOne (by decide +kernel)
theorem i_Reader_readOne_73 : m_at k_Reader_readOne 73 = some (.aload_n 0, 1, 0) := m_at_of r_Reader_readOne (by decide +kernel)
theorem i_Reader_readOne_74 : m_at k_Reader_readOne 74 = some (.iload_n 1, 1, 0) := m_at_of r_Reader_readOne (by decide +kernel)
theorem i_Reader_readOne_75 : m_at k_Reader_readOne 75 = some (.invokevirtual 146, 3, 382) := m_at_of r_Reader_readOne (by decide +kernel)
theorem i_Reader_readOne_78 : m_at k_Reader_readOne 78 = some (.ifCond .eq (26), 3, 0) := m_at_of r_Reader_readOne (by decide +kernel)
theorem i_Reader_readOne_81 : m_at k_Reader_readOne 81 = some (.aload_n 0, 1, 0) := m_at_of r_Reader_readOne (by decide +kernel)
theorem i_Reader_readOne_82 : m_at k_Reader_readOne 82 = some (.iload_n 1, 1, 0) := m_at_of r_Reader_readOne (by decide +kernel)
theorem i_Reader_readOne_83 : m_at k_Reader_readOne 83 = some (.iconst 1, 1, 0) := m_at_of r_Reader_readOne (by decide +kernel)
theorem i_Reader_readOne_84 : m_at k_Reader_readOne 84 = some (.iadd, 1, 0) := m_at_of r_Reader_readOne (by decide +kernel)
theorem i_Reader_readOne_85 : m_at k_Reader_readOne 85 = some (.invokevirtual 111, 3, 374) := m_at_of r_Reader_readOne (by decide +kernel)
theorem i_Reader_readOne_88 : m_at k_Reader_readOne 88 = some (.ifCond .eq (16), 3, 0) := m_at_of r_Reader_readOne (by decide +kernel)
theorem i_Reader_readOne_91 : m_at k_Reader_readOne 91 = some (.aload_n 0, 1, 0) := m_at_of r_Reader_readOne (by decide +kernel)
theorem i_Reader_readOne_92 : m_at k_Reader_readOne 92 = some (.bipush 46, 2, 0) := m_at_of r_Reader_readOne (by decide +kernel)
theorem i_Reader_readOne_94 : m_at k_Reader_readOne 94 = some (.invokevirtual 120, 3, 377) := m_at_of r_Reader_readOne (by decide +kernel)
theorem i_Reader_readOne_97 : m_at k_Reader_readOne 97 = some (.ifCond .eq (7), 3, 0) := m_at_of r_Reader_readOne (by decide +kernel)
theorem i_Reader_readOne_100 : m_at k_Reader_readOne 100 = some (.iconst 1, 1, 0) := m_at_of r_Reader_readOne (by decide +kernel)
theorem i_Reader_readOne_101 : m_at k_Reader_readOne 101 = some (.goto (4), 3, 0) := m_at_of r_Reader_readOne (by decide +kernel)
theorem i_Reader_readOne_104 : m_at k_Reader_readOne 104 = some (.iconst 0, 1, 0) := m_at_of r_Reader_readOne (by decide +kernel)
theorem i_Reader_readOne_105 : m_at k_Reader_readOne 105 = some (.ireturn, 1, 0) := m_at_of r_Reader_readOne (by decide +kernel)
theorem i_Reader_readOne_106 : m_at k_Reader_readOne 106 = some (.aload_n 0, 1, 0) := m_at_of r_Reader_readOne (by decide +kernel)
theorem i_Reader_readOne_107 : m_at k_Reader_readOne 107 = some (.iload_n 1, 1, 0) := m_at_of r_Reader_readOne (by decide +kernel)
theorem i_Reader_readOne_108 : m_at k_Reader_readOne 108 = some (.invokevirtual 146, 3, 382) := m_at_of r_Reader_readOne (by decide +kernel)
theorem i_Reader_readOne_111 : m_at k_Reader_readOne 111 = some (.ifCond .eq (26), 3, 0) := m_at_of r_Reader_readOne (by decide +kernel)
theorem i_Reader_readOne_114 : m_at k_Reader_readOne 114 = some (.aload_n 0, 1, 0) := m_at_of r_Reader_readOne (by decide +kernel)
theorem i_Reader_readOne_115 : m_at k_Reader_readOne 115 = some (.iload_n 1, 1, 0) := m_at_of r_Reader_readOne (by decide +kernel)
theorem i_Reader_readOne_116 : m_at k_Reader_readOne 116 = some (.iconst 1, 1, 0) := m_at_of r_Reader_readOne (by decide +kernel)
theorem i_Reader_readOne_117 : m_at k_Reader_readOne 117 = some (.iadd, 1, 0) := m_at_of r_Reader_readOne (by decide +kernel)
theorem i_Reader_readOne_118 : m_at k_Reader_readOne 118 = some (.invokevirtual 143, 3, 381) := m_at_of r_Reader_readOne (by decide +kernel)
theorem i_Reader_readOne_121 : m_at k_Reader_readOne 121 = some (.ifCond .eq (16), 3, 0) := m_at_of r_Reader_readOne (by decide +kernel)
theorem i_Reader_readOne_124 : m_at k_Reader_readOne 124 = some (.aload_n 0, 1, 0) := m_at_of r_Reader_readOne (by decide +kernel)
theorem i_Reader_readOne_125 : m_at k_Reader_readOne 125 = some (.bipush 50, 2, 0) := m_at_of r_Reader_readOne (by decide +kernel)
theorem i_Reader_readOne_127 : m_at k_Reader_readOne 127 = some (.invokevirtual 149, 3, 383) := m_at_of r_Reader_readOne (by decide +kernel)
theorem i_Reader_readOne_130 : m_at k_Reader_readOne 130 = some (.ifCond .eq (7), 3, 0) := m_at_of r_Reader_readOne (by decide +kernel)
theorem i_Reader_readOne_133 : m_at k_Reader_readOne 133 = some (.iconst 1, 1, 0) := m_at_of r_Reader_readOne (by decide +kernel)
theorem i_Reader_readOne_134 : m_at k_Reader_readOne 134 = some (.goto (4), 3, 0) := m_at_of r_Reader_readOne (by decide +kernel)
theorem i_Reader_readOne_137 : m_at k_Reader_readOne 137 = some (.iconst 0, 1, 0) := m_at_of r_Reader_readOne (by decide +kernel)
theorem i_Reader_readOne_138 : m_at k_Reader_readOne 138 = some (.ireturn, 1, 0) := m_at_of r_Reader_readOne (by decide +kernel)
theorem i_Reader_readOne_139 : m_at k_Reader_readOne 139 = some (.aload_n 0, 1, 0) := m_at_of r_Reader_readOne (by decide +kernel)
theorem i_Reader_readOne_140 : m_at k_Reader_readOne 140 = some (.iload_n 1, 1, 0) := m_at_of r_Reader_readOne (by decide +kernel)
theorem i_Reader_readOne_141 : m_at k_Reader_readOne 141 = some (.invokevirtual 146, 3, 382) := m_at_of r_Reader_readOne (by decide +kernel)
theorem i_Reader_readOne_144 : m_at k_Reader_readOne 144 = some (.ifCond .eq (26), 3, 0) := m_at_of r_Reader_readOne (by decide +kernel)
theorem i_Reader_readOne_147 : m_at k_Reader_readOne 147 = some (.aload_n 0, 1, 0) := m_at_of r_Reader_readOne (by decide +kernel)
theorem i_Reader_readOne_148 : m_at k_Reader_readOne 148 = some (.iload_n 1, 1, 0) := m_at_of r_Reader_readOne (by decide +kernel)
theorem i_Reader_readOne_149 : m_at k_Reader_readOne 149 = some (.iconst 1, 1, 0) := m_at_of r_Reader_readOne (by decide +kernel)
theorem i_Reader_readOne_150 : m_at k_Reader_readOne 150 = some (.iadd, 1, 0) := m_at_of r_Reader_readOne (by decide +kernel)
theorem i_Reader_readOne_151 : m_at k_Reader_readOne 151 = some (.invokevirtual 143, 3, 381) := m_at_of r_Reader_readOne (by decide +kernel)
theorem i_Reader_readOne_154 : m_at k_Reader_readOne 154 = some (.ifCond .eq (16), 3, 0) := m_at_of r_Reader_readOne (by decide +kernel)
theorem i_Reader_readOne_157 : m_at k_Reader_readOne 157 = some (.aload_n 0, 1, 0) := m_at_of r_Reader_readOne (by decide +kernel)
theorem i_Reader_readOne_158 : m_at k_Reader_readOne 158 = some (.bipush 29, 2, 0) := m_at_of r_Reader_readOne (by decide +kernel)
theorem i_Reader_readOne_160 : m_at k_Reader_readOne 160 = some (.invokevirtual 149, 3, 383) := m_at_of r_Reader_readOne (by decide +kernel)
theorem i_Reader_readOne_163 : m_at k_Reader_readOne 163 = some (.ifCond .eq (7), 3, 0) := m_at_of r_Reader_readOne (by decide +kernel)
theorem i_Reader_readOne_166 : m_at k_Reader_readOne 166 = some (.iconst 1, 1, 0) := m_at_of r_Reader_readOne (by decide +kernel)
theorem i_Reader_readOne_167 : m_at k_Reader_readOne 167 = some (.goto (4), 3, 0) := m_at_of r_Reader_readOne (by decide +kernel)
theorem i_Reader_readOne_170 : m_at k_Reader_readOne 170 = some (.iconst 0, 1, 0) := m_at_of r_Reader_readOne (by decide +kernel)
theorem i_Reader_readOne_171 : m_at k_Reader_readOne 171 = some (.ireturn, 1, 0) := m_at_of r_Reader_readOne (by decide +kernel)
theorem i_Reader_readOne_172 : m_at k_Reader_readOne 172 = some (.aload_n 0, 1, 0) := m_at_of r_Reader_readOne (by decide +kernel)
theorem i_Reader_readOne_173 : m_at k_Reader_readOne 173 = some (.iload_n 1, 1, 0) := m_at_of r_Reader_readOne (by decide +kernel)
theorem i_Reader_readOne_174 : m_at k_Reader_readOne 174 = some (.invokevirtual 146, 3, 382) := m_at_of r_Reader_readOne (by decide +kernel)
theorem i_Reader_readOne_177 : m_at k_Reader_readOne 177 = some (.ifCond .eq (45), 3, 0) := m_at_of r_Reader_readOne (by decide +kernel)
theorem i_Reader_readOne_180 : m_at k_Reader_readOne 180 = some (.aload_n 0, 1, 0) := m_at_of r_Reader_readOne (by decide +kernel)
theorem i_Reader_readOne_181 : m_at k_Reader_readOne 181 = some (.iload_n 1, 1, 0) := m_at_of r_Reader_readOne (by decide +kernel)
theorem i_Reader_readOne_182 : m_at k_Reader_readOne 182 = some (.iconst 1, 1, 0) := m_at_of r_Reader_readOne (by decide +kernel)
theorem i_Reader_readOne_183 : m_at k_Reader_readOne 183 = some (.iadd, 1, 0) := m_at_of r_Reader_readOne (by decide +kernel)
theorem i_Reader_readOne_184 : m_at k_Reader_readOne 184 = some (.invokevirtual 143, 3, 381) := m_at_of r_Reader_readOne (by decide +kernel)
theorem i_Reader_readOne_187 : m_at k_Reader_readOne 187 = some (.ifCond .eq (35), 3, 0) := m_at_of r_Reader_readOne (by decide +kernel)
theorem i_Reader_readOne_190 : m_at k_Reader_readOne 190 = some (.aload_n 0, 1, 0) := m_at_of r_Reader_readOne (by decide +kernel)
theorem i_Reader_readOne_191 : m_at k_Reader_readOne 191 = some (.bipush 28, 2, 0) := m_at_of r_Reader_readOne (by decide +kernel)
theorem i_Reader_readOne_193 : m_at k_Reader_readOne 193 = some (.invokevirtual 120, 3, 377) := m_at_of r_Reader_readOne (by decide +kernel)
theorem i_Reader_readOne_196 : m_at k_Reader_readOne 196 = some (.ifCond .eq (26), 3, 0) := m_at_of r_Reader_readOne (by decide +kernel)
theorem i_Reader_readOne_199 : m_at k_Reader_readOne 199 = some (.aload_n 0, 1, 0) := m_at_of r_Reader_readOne (by decide +kernel)
theorem i_Reader_readOne_200 : m_at k_Reader_readOne 200 = some (.iload_n 1, 1, 0) := m_at_of r_Reader_readOne (by decide +kernel)
theorem i_Reader_readOne_201 : m_at k_Reader_readOne 201 = some (.iconst 1, 1, 0) := m_at_of r_Reader_readOne (by decide +kernel)
theorem i_Reader_readOne_202 : m_at k_Reader_readOne 202 = some (.iadd, 1, 0) := m_at_of r_Reader_readOne (by decide +kernel)
theorem i_Reader_readOne_203 : m_at k_Reader_readOne 203 = some (.invokevirtual 143, 3, 381) := m_at_of r_Reader_readOne (by decide +kernel)
theorem i_Reader_readOne_206 : m_at k_Reader_readOne 206 = some (.ifCond .eq (16), 3, 0) := m_at_of r_Reader_readOne (by decide +kernel)
theorem i_Reader_readOne_209 : m_at k_Reader_readOne 209 = some (.aload_n 0, 1, 0) := m_at_of r_Reader_readOne (by decide +kernel)
theorem i_Reader_readOne_210 : m_at k_Reader_readOne 210 = some (.bipush 27, 2, 0) := m_at_of r_Reader_readOne (by decide +kernel)
theorem i_Reader_readOne_212 : m_at k_Reader_readOne 212 = some (.invokevirtual 149, 3, 383) := m_at_of r_Reader_readOne (by decide +kernel)
theorem i_Reader_readOne_215 : m_at k_Reader_readOne 215 = some (.ifCond .eq (7), 3, 0) := m_at_of r_Reader_readOne (by decide +kernel)
theorem i_Reader_readOne_218 : m_at k_Reader_readOne 218 = some (.iconst 1, 1, 0) := m_at_of r_Reader_readOne (by decide +kernel)
theorem i_Reader_readOne_219 : m_at k_Reader_readOne 219 = some (.goto (4), 3, 0) := m_at_of r_Reader_readOne (by decide +kernel)
theorem i_Reader_readOne_222 : m_at k_Reader_readOne 222 = some (.iconst 0, 1, 0) := m_at_of r_Reader_readOne (by decide +kernel)
theorem i_Reader_readOne_223 : m_at k_Reader_readOne 223 = some (.ireturn, 1, 0) := m_at_of r_Reader_readOne (by decide +kernel)
theorem i_Reader_readOne_224 : m_at k_Reader_readOne 224 = some (.aload_n 0, 1, 0) := m_at_of r_Reader_readOne (by decide +kernel)
theorem i_Reader_readOne_225 : m_at k_Reader_readOne 225 = some (.iload_n 1, 1, 0) := m_at_of r_Reader_readOne (by decide +kernel)
theorem i_Reader_readOne_226 : m_at k_Reader_readOne 226 = some (.invokevirtual 146, 3, 382) := m_at_of r_Reader_readOne (by decide +kernel)
theorem i_Reader_readOne_229 : m_at k_Reader_readOne 229 = some (.ifCond .eq (17), 3, 0) := m_at_of r_Reader_readOne (by decide +kernel)
theorem i_Reader_readOne_232 : m_at k_Reader_readOne 232 = some (.aload_n 0, 1, 0) := m_at_of r_Reader_readOne (by decide +kernel)
theorem i_Reader_readOne_233 : m_at k_Reader_readOne 233 = some (.iload_n 1, 1, 0) := m_at_of r_Reader_readOne (by decide +kernel)
theorem i_Reader_readOne_234 : m_at k_Reader_readOne 234 = some (.iconst 1, 1, 0) := m_at_of r_Reader_readOne (by decide +kernel)
theorem i_Reader_readOne_235 : m_at k_Reader_readOne 235 = some (.iadd, 1, 0) := m_at_of r_Reader_readOne (by decide +kernel)
theorem i_Reader_readOne_236 : m_at k_Reader_readOne 236 = some (.invokevirtual 152, 3, 384) := m_at_of r_Reader_readOne (by decide +kernel)
theorem i_Reader_readOne_239 : m_at k_Reader_readOne 239 = some (.ifCond .eq (7), 3, 0) := m_at_of r_Reader_readOne (by decide +kernel)
theorem i_Reader_readOne_242 : m_at k_Reader_readOne 242 = some (.iconst 1, 1, 0) := m_at_of r_Reader_readOne (by decide +kernel)
theorem i_Reader_readOne_243 : m_at k_Reader_readOne 243 = some (.goto (4), 3, 0) := m_at_of r_Reader_readOne (by decide +kernel)
theorem i_Reader_readOne_246 : m_at k_Reader_readOne 246 = some (.iconst 0, 1, 0) := m_at_of r_Reader_readOne (by decide +kernel)
theorem i_Reader_readOne_247 : m_at k_Reader_readOne 247 = some (.ireturn, 1, 0) := m_at_of r_Reader_readOne (by decide +kernel)
theorem i_Reader_readOne_248 : m_at k_Reader_readOne 248 = some (.aload_n 0, 1, 0) := m_at_of r_Reader_readOne (by decide +kernel)
theorem i_Reader_readOne_249 : m_at k_Reader_readOne 249 = some (.invokevirtual 155, 3, 385) := m_at_of r_Reader_readOne (by decide +kernel)
theorem i_Reader_readOne_252 : m_at k_Reader_readOne 252 = some (.ireturn, 1, 0) := m_at_of r_Reader_readOne (by decide +kernel)
set_option maxRecDepth 20000 in
set_option maxHeartbeats 1000000 in
theorem E_Reader_readOne (x : m_X) (s : m_H) (w : Nat) (n1 : Int32) : m_M x k_Reader_readOne [.ref w, .int n1] s = if m_isO s w 3 = true then ((m_fI s 3 5 w).bind fun v1 => if v1 = 27 then (m_bI (m_M x k_Reader_opens [.ref w, .int n1] s) fun v174 s174 => if v174 = 0 then (some (some (.int 0), s174)) else if m_rank k_Reader_readOne [.ref w, .int (n1 + (1 : Int32))] < (m_rank k_Reader_readOne [.ref w, .int n1]) then (m_bI (m_M x k_Reader_readOne [.ref w, .int (n1 + (1 : Int32))] s174) fun v184 s184 => if v184 = 0 then (some (some (.int 0), s184)) else m_bI (m_M x k_Reader_expects [.ref w, .int 28] s184) fun v193 s193 => if v193 = 0 then (some (some (.int 0), s193)) else if m_rank k_Reader_readOne [.ref w, .int (n1 + (1 : Int32))] < (m_rank k_Reader_readOne [.ref w, .int n1]) then (m_bI (m_M x k_Reader_readOne [.ref w, .int (n1 + (1 : Int32))] s193) fun v203 s203 => if v203 = 0 then (some (some (.int 0), s203)) else m_bI (m_M x k_Reader_does [.ref w, .int 27] s203) fun v212 s212 => if v212 = 0 then (some (some (.int 0), s212)) else some (some (.int 1), s212)) else none) else none) else if v1 = 29 then (m_bI (m_M x k_Reader_opens [.ref w, .int n1] s) fun v141 s141 => if v141 = 0 then (some (some (.int 0), s141)) else if m_rank k_Reader_readOne [.ref w, .int (n1 + (1 : Int32))] < (m_rank k_Reader_readOne [.ref w, .int n1]) then (m_bI (m_M x k_Reader_readOne [.ref w, .int (n1 + (1 : Int32))] s141) fun v151 s151 => if v151 = 0 then (some (some (.int 0), s151)) else m_bI (m_M x k_Reader_does [.ref w, .int 29] s151) fun v160 s160 => if v160 = 0 then (some (some (.int 0), s160)) else some (some (.int 1), s160)) else none) else if v1 = 30 then (m_bI (m_M x k_Reader_opens [.ref w, .int n1] s) fun v226 s226 => if v226 = 0 then (some (some (.int 0), s226)) else if m_rank k_Reader_readChoice [.ref w, .int (n1 + (1 : Int32))] < (m_rank k_Reader_readOne [.ref w, .int n1]) then (m_bI (m_M x k_Reader_readChoice [.ref w, .int (n1 + (1 : Int32))] s226) fun v236 s236 => if v236 = 0 then (some (some (.int 0), s236)) else some (some (.int 1), s236)) else none) else if v1 = 42 then (m_bI (m_M x k_Reader_opens [.ref w, .int n1] s) fun v108 s108 => if v108 = 0 then (some (some (.int 0), s108)) else if m_rank k_Reader_readOne [.ref w, .int (n1 + (1 : Int32))] < (m_rank k_Reader_readOne [.ref w, .int n1]) then (m_bI (m_M x k_Reader_readOne [.ref w, .int (n1 + (1 : Int32))] s108) fun v118 s118 => if v118 = 0 then (some (some (.int 0), s118)) else m_bI (m_M x k_Reader_does [.ref w, .int 50] s118) fun v127 s127 => if v127 = 0 then (some (some (.int 0), s127)) else some (some (.int 1), s127)) else none) else if v1 = 45 then (m_bI (m_M x k_Reader_opens [.ref w, .int n1] s) fun v75 s75 => if v75 = 0 then (some (some (.int 0), s75)) else if m_rank k_Reader_readSum [.ref w, .int (n1 + (1 : Int32))] < (m_rank k_Reader_readOne [.ref w, .int n1]) then (m_bI (m_M x k_Reader_readSum [.ref w, .int (n1 + (1 : Int32))] s75) fun v85 s85 => if v85 = 0 then (some (some (.int 0), s85)) else m_bI (m_M x k_Reader_expects [.ref w, .int 46] s85) fun v94 s94 => if v94 = 0 then (some (some (.int 0), s94)) else some (some (.int 1), s94)) else none) else if v1 = 51 then (m_bI (m_M x k_Reader_readNumber [.ref w, .int 0, .int 9999] s) fun v69 s69 => if m_rk (some .boolean) (some (.int v69)) = true then some (some (.int v69), s69) else none) else m_bI (m_M x k_Reader_readName [.ref w] s) fun v249 s249 => if m_rk (some .boolean) (some (.int v249)) = true then some (some (.int v249), s249) else none) else none := by
  refine e_M1 (L0 := [some (.ref w), some (.int n1)]) rfl (by decide +kernel) rfl rfl rfl ?_
  refine e_aload_n i_Reader_readOne_0 rfl ?_
  refine e_getI i_Reader_readOne_1 lf_119 (by decide) (Or.inl ft_3_5) (fun v1 => ?_)
  refine e_lsw (cs := [(27, 172), (29, 139), (30, 224), (42, 106), (45, 73), (51, 64)]) (td := 248) i_Reader_readOne_4 (by decide +kernel) ?_
  refine m_sw_c ?_ ?_
  · refine e_aload_n i_Reader_readOne_172 rfl ?_
    refine e_iload_n i_Reader_readOne_173 rfl ?_
    refine e_callI (as := [.ref w, .int n1]) (st' := []) i_Reader_readOne_174 lm_382 (Or.inr (Or.inl ⟨rfl, rfl⟩)) w_Reader_opens rfl rfl rfl (Nat.le_of_ble_eq_true rfl) (Nat.le_of_ble_eq_true rfl) (m_rlt (q_Reader_opens _) (Nat.lt_of_lt_of_le (by decide) (q_Reader_readOne_ge _))) rfl (fun v174 s174 => ?_)
    refine e_ifeq (t := 222) i_Reader_readOne_177 (by decide) ?_ ?_
    · refine e_iconst (v := 0) i_Reader_readOne_222 (by decide) ?_
      exact e_iretZ i_Reader_readOne_223 rfl (by decide)
    · refine e_aload_n i_Reader_readOne_180 rfl ?_
      refine e_iload_n i_Reader_readOne_181 rfl ?_
      refine e_iconst (v := 1) i_Reader_readOne_182 (by decide) ?_
      refine e_iadd i_Reader_readOne_183 ?_
      refine e_callIg (as := [.ref w, .int (n1 + (1 : Int32))]) (st' := []) i_Reader_readOne_184 lm_381 (Or.inr (Or.inl ⟨rfl, rfl⟩)) w_Reader_readOne rfl rfl rfl (Nat.le_of_ble_eq_true rfl) (Nat.le_of_ble_eq_true rfl) rfl (fun v184 s184 => ?_)
      refine e_ifeq (t := 222) i_Reader_readOne_187 (by decide) ?_ ?_
      · refine e_iconst (v := 0) i_Reader_readOne_222 (by decide) ?_
        exact e_iretZ i_Reader_readOne_223 rfl (by decide)
      · refine e_aload_n i_Reader_readOne_190 rfl ?_
        refine e_bipush (v := 28) i_Reader_readOne_191 (by decide) ?_
        refine e_callI (as := [.ref w, .int 28]) (st' := []) i_Reader_readOne_193 lm_377 (Or.inr (Or.inl ⟨rfl, rfl⟩)) w_Reader_expects rfl rfl rfl (Nat.le_of_ble_eq_true rfl) (Nat.le_of_ble_eq_true rfl) (m_rlt (q_Reader_expects _) (Nat.lt_of_lt_of_le (by decide) (q_Reader_readOne_ge _))) rfl (fun v193 s193 => ?_)
        refine e_ifeq (t := 222) i_Reader_readOne_196 (by decide) ?_ ?_
        · refine e_iconst (v := 0) i_Reader_readOne_222 (by decide) ?_
          exact e_iretZ i_Reader_readOne_223 rfl (by decide)
        · refine e_aload_n i_Reader_readOne_199 rfl ?_
          refine e_iload_n i_Reader_readOne_200 rfl ?_
          refine e_iconst (v := 1) i_Reader_readOne_201 (by decide) ?_
          refine e_iadd i_Reader_readOne_202 ?_
          refine e_callIg (as := [.ref w, .int (n1 + (1 : Int32))]) (st' := []) i_Reader_readOne_203 lm_381 (Or.inr (Or.inl ⟨rfl, rfl⟩)) w_Reader_readOne rfl rfl rfl (Nat.le_of_ble_eq_true rfl) (Nat.le_of_ble_eq_true rfl) rfl (fun v203 s203 => ?_)
          refine e_ifeq (t := 222) i_Reader_readOne_206 (by decide) ?_ ?_
          · refine e_iconst (v := 0) i_Reader_readOne_222 (by decide) ?_
            exact e_iretZ i_Reader_readOne_223 rfl (by decide)
          · refine e_aload_n i_Reader_readOne_209 rfl ?_
            refine e_bipush (v := 27) i_Reader_readOne_210 (by decide) ?_
            refine e_callI (as := [.ref w, .int 27]) (st' := []) i_Reader_readOne_212 lm_383 (Or.inr (Or.inl ⟨rfl, rfl⟩)) w_Reader_does rfl rfl rfl (Nat.le_of_ble_eq_true rfl) (Nat.le_of_ble_eq_true rfl) (m_rlt (q_Reader_does _) (Nat.lt_of_lt_of_le (by decide) (q_Reader_readOne_ge _))) rfl (fun v212 s212 => ?_)
            refine e_ifeq (t := 222) i_Reader_readOne_215 (by decide) ?_ ?_
            · refine e_iconst (v := 0) i_Reader_readOne_222 (by decide) ?_
              exact e_iretZ i_Reader_readOne_223 rfl (by decide)
            · refine e_iconst (v := 1) i_Reader_readOne_218 (by decide) ?_
              refine e_goto (t := 223) i_Reader_readOne_219 (by decide) ?_
              exact e_iretZ i_Reader_readOne_223 rfl (by decide)
  refine m_sw_c ?_ ?_
  · refine e_aload_n i_Reader_readOne_139 rfl ?_
    refine e_iload_n i_Reader_readOne_140 rfl ?_
    refine e_callI (as := [.ref w, .int n1]) (st' := []) i_Reader_readOne_141 lm_382 (Or.inr (Or.inl ⟨rfl, rfl⟩)) w_Reader_opens rfl rfl rfl (Nat.le_of_ble_eq_true rfl) (Nat.le_of_ble_eq_true rfl) (m_rlt (q_Reader_opens _) (Nat.lt_of_lt_of_le (by decide) (q_Reader_readOne_ge _))) rfl (fun v141 s141 => ?_)
    refine e_ifeq (t := 170) i_Reader_readOne_144 (by decide) ?_ ?_
    · refine e_iconst (v := 0) i_Reader_readOne_170 (by decide) ?_
      exact e_iretZ i_Reader_readOne_171 rfl (by decide)
    · refine e_aload_n i_Reader_readOne_147 rfl ?_
      refine e_iload_n i_Reader_readOne_148 rfl ?_
      refine e_iconst (v := 1) i_Reader_readOne_149 (by decide) ?_
      refine e_iadd i_Reader_readOne_150 ?_
      refine e_callIg (as := [.ref w, .int (n1 + (1 : Int32))]) (st' := []) i_Reader_readOne_151 lm_381 (Or.inr (Or.inl ⟨rfl, rfl⟩)) w_Reader_readOne rfl rfl rfl (Nat.le_of_ble_eq_true rfl) (Nat.le_of_ble_eq_true rfl) rfl (fun v151 s151 => ?_)
      refine e_ifeq (t := 170) i_Reader_readOne_154 (by decide) ?_ ?_
      · refine e_iconst (v := 0) i_Reader_readOne_170 (by decide) ?_
        exact e_iretZ i_Reader_readOne_171 rfl (by decide)
      · refine e_aload_n i_Reader_readOne_157 rfl ?_
        refine e_bipush (v := 29) i_Reader_readOne_158 (by decide) ?_
        refine e_callI (as := [.ref w, .int 29]) (st' := []) i_Reader_readOne_160 lm_383 (Or.inr (Or.inl ⟨rfl, rfl⟩)) w_Reader_does rfl rfl rfl (Nat.le_of_ble_eq_true rfl) (Nat.le_of_ble_eq_true rfl) (m_rlt (q_Reader_does _) (Nat.lt_of_lt_of_le (by decide) (q_Reader_readOne_ge _))) rfl (fun v160 s160 => ?_)
        refine e_ifeq (t := 170) i_Reader_readOne_163 (by decide) ?_ ?_
        · refine e_iconst (v := 0) i_Reader_readOne_170 (by decide) ?_
          exact e_iretZ i_Reader_readOne_171 rfl (by decide)
        · refine e_iconst (v := 1) i_Reader_readOne_166 (by decide) ?_
          refine e_goto (t := 171) i_Reader_readOne_167 (by decide) ?_
          exact e_iretZ i_Reader_readOne_171 rfl (by decide)
  refine m_sw_c ?_ ?_
  · refine e_aload_n i_Reader_readOne_224 rfl ?_
    refine e_iload_n i_Reader_readOne_225 rfl ?_
    refine e_callI (as := [.ref w, .int n1]) (st' := []) i_Reader_readOne_226 lm_382 (Or.inr (Or.inl ⟨rfl, rfl⟩)) w_Reader_opens rfl rfl rfl (Nat.le_of_ble_eq_true rfl) (Nat.le_of_ble_eq_true rfl) (m_rlt (q_Reader_opens _) (Nat.lt_of_lt_of_le (by decide) (q_Reader_readOne_ge _))) rfl (fun v226 s226 => ?_)
    refine e_ifeq (t := 246) i_Reader_readOne_229 (by decide) ?_ ?_
    · refine e_iconst (v := 0) i_Reader_readOne_246 (by decide) ?_
      exact e_iretZ i_Reader_readOne_247 rfl (by decide)
    · refine e_aload_n i_Reader_readOne_232 rfl ?_
      refine e_iload_n i_Reader_readOne_233 rfl ?_
      refine e_iconst (v := 1) i_Reader_readOne_234 (by decide) ?_
      refine e_iadd i_Reader_readOne_235 ?_
      refine e_callIg (as := [.ref w, .int (n1 + (1 : Int32))]) (st' := []) i_Reader_readOne_236 lm_384 (Or.inr (Or.inl ⟨rfl, rfl⟩)) w_Reader_readChoice rfl rfl rfl (Nat.le_of_ble_eq_true rfl) (Nat.le_of_ble_eq_true rfl) rfl (fun v236 s236 => ?_)
      refine e_ifeq (t := 246) i_Reader_readOne_239 (by decide) ?_ ?_
      · refine e_iconst (v := 0) i_Reader_readOne_246 (by decide) ?_
        exact e_iretZ i_Reader_readOne_247 rfl (by decide)
      · refine e_iconst (v := 1) i_Reader_readOne_242 (by decide) ?_
        refine e_goto (t := 247) i_Reader_readOne_243 (by decide) ?_
        exact e_iretZ i_Reader_readOne_247 rfl (by decide)
  refine m_sw_c ?_ ?_
  · refine e_aload_n i_Reader_readOne_106 rfl ?_
    refine e_iload_n i_Reader_readOne_107 rfl ?_
    refine e_callI (as := [.ref w, .int n1]) (st' := []) i_Reader_readOne_108 lm_382 (Or.inr (Or.inl ⟨rfl, rfl⟩)) w_Reader_opens rfl rfl rfl (Nat.le_of_ble_eq_true rfl) (Nat.le_of_ble_eq_true rfl) (m_rlt (q_Reader_opens _) (Nat.lt_of_lt_of_le (by decide) (q_Reader_readOne_ge _))) rfl (fun v108 s108 => ?_)
    refine e_ifeq (t := 137) i_Reader_readOne_111 (by decide) ?_ ?_
    · refine e_iconst (v := 0) i_Reader_readOne_137 (by decide) ?_
      exact e_iretZ i_Reader_readOne_138 rfl (by decide)
    · refine e_aload_n i_Reader_readOne_114 rfl ?_
      refine e_iload_n i_Reader_readOne_115 rfl ?_
      refine e_iconst (v := 1) i_Reader_readOne_116 (by decide) ?_
      refine e_iadd i_Reader_readOne_117 ?_
      refine e_callIg (as := [.ref w, .int (n1 + (1 : Int32))]) (st' := []) i_Reader_readOne_118 lm_381 (Or.inr (Or.inl ⟨rfl, rfl⟩)) w_Reader_readOne rfl rfl rfl (Nat.le_of_ble_eq_true rfl) (Nat.le_of_ble_eq_true rfl) rfl (fun v118 s118 => ?_)
      refine e_ifeq (t := 137) i_Reader_readOne_121 (by decide) ?_ ?_
      · refine e_iconst (v := 0) i_Reader_readOne_137 (by decide) ?_
        exact e_iretZ i_Reader_readOne_138 rfl (by decide)
      · refine e_aload_n i_Reader_readOne_124 rfl ?_
        refine e_bipush (v := 50) i_Reader_readOne_125 (by decide) ?_
        refine e_callI (as := [.ref w, .int 50]) (st' := []) i_Reader_readOne_127 lm_383 (Or.inr (Or.inl ⟨rfl, rfl⟩)) w_Reader_does rfl rfl rfl (Nat.le_of_ble_eq_true rfl) (Nat.le_of_ble_eq_true rfl) (m_rlt (q_Reader_does _) (Nat.lt_of_lt_of_le (by decide) (q_Reader_readOne_ge _))) rfl (fun v127 s127 => ?_)
        refine e_ifeq (t := 137) i_Reader_readOne_130 (by decide) ?_ ?_
        · refine e_iconst (v := 0) i_Reader_readOne_137 (by decide) ?_
          exact e_iretZ i_Reader_readOne_138 rfl (by decide)
        · refine e_iconst (v := 1) i_Reader_readOne_133 (by decide) ?_
          refine e_goto (t := 138) i_Reader_readOne_134 (by decide) ?_
          exact e_iretZ i_Reader_readOne_138 rfl (by decide)
  refine m_sw_c ?_ ?_
  · refine e_aload_n i_Reader_readOne_73 rfl ?_
    refine e_iload_n i_Reader_readOne_74 rfl ?_
    refine e_callI (as := [.ref w, .int n1]) (st' := []) i_Reader_readOne_75 lm_382 (Or.inr (Or.inl ⟨rfl, rfl⟩)) w_Reader_opens rfl rfl rfl (Nat.le_of_ble_eq_true rfl) (Nat.le_of_ble_eq_true rfl) (m_rlt (q_Reader_opens _) (Nat.lt_of_lt_of_le (by decide) (q_Reader_readOne_ge _))) rfl (fun v75 s75 => ?_)
    refine e_ifeq (t := 104) i_Reader_readOne_78 (by decide) ?_ ?_
    · refine e_iconst (v := 0) i_Reader_readOne_104 (by decide) ?_
      exact e_iretZ i_Reader_readOne_105 rfl (by decide)
    · refine e_aload_n i_Reader_readOne_81 rfl ?_
      refine e_iload_n i_Reader_readOne_82 rfl ?_
      refine e_iconst (v := 1) i_Reader_readOne_83 (by decide) ?_
      refine e_iadd i_Reader_readOne_84 ?_
      refine e_callIg (as := [.ref w, .int (n1 + (1 : Int32))]) (st' := []) i_Reader_readOne_85 lm_374 (Or.inr (Or.inl ⟨rfl, rfl⟩)) w_Reader_readSum rfl rfl rfl (Nat.le_of_ble_eq_true rfl) (Nat.le_of_ble_eq_true rfl) rfl (fun v85 s85 => ?_)
      refine e_ifeq (t := 104) i_Reader_readOne_88 (by decide) ?_ ?_
      · refine e_iconst (v := 0) i_Reader_readOne_104 (by decide) ?_
        exact e_iretZ i_Reader_readOne_105 rfl (by decide)
      · refine e_aload_n i_Reader_readOne_91 rfl ?_
        refine e_bipush (v := 46) i_Reader_readOne_92 (by decide) ?_
        refine e_callI (as := [.ref w, .int 46]) (st' := []) i_Reader_readOne_94 lm_377 (Or.inr (Or.inl ⟨rfl, rfl⟩)) w_Reader_expects rfl rfl rfl (Nat.le_of_ble_eq_true rfl) (Nat.le_of_ble_eq_true rfl) (m_rlt (q_Reader_expects _) (Nat.lt_of_lt_of_le (by decide) (q_Reader_readOne_ge _))) rfl (fun v94 s94 => ?_)
        refine e_ifeq (t := 104) i_Reader_readOne_97 (by decide) ?_ ?_
        · refine e_iconst (v := 0) i_Reader_readOne_104 (by decide) ?_
          exact e_iretZ i_Reader_readOne_105 rfl (by decide)
        · refine e_iconst (v := 1) i_Reader_readOne_100 (by decide) ?_
          refine e_goto (t := 105) i_Reader_readOne_101 (by decide) ?_
          exact e_iretZ i_Reader_readOne_105 rfl (by decide)
  refine m_sw_c ?_ ?_
  · refine e_aload_n i_Reader_readOne_64 rfl ?_
    refine e_iconst (v := 0) i_Reader_readOne_65 (by decide) ?_
    refine e_sipush (v := 9999) i_Reader_readOne_66 (by decide) ?_
    refine e_callI (as := [.ref w, .int 0, .int 9999]) (st' := []) i_Reader_readOne_69 lm_378 (Or.inr (Or.inl ⟨rfl, rfl⟩)) w_Reader_readNumber rfl rfl rfl (Nat.le_of_ble_eq_true rfl) (Nat.le_of_ble_eq_true rfl) (m_rlt (q_Reader_readNumber _) (Nat.lt_of_lt_of_le (by decide) (q_Reader_readOne_ge _))) rfl (fun v69 s69 => ?_)
    exact e_iretG i_Reader_readOne_72 rfl
  refine m_sw_n ?_
  refine e_aload_n i_Reader_readOne_248 rfl ?_
  refine e_callI (as := [.ref w]) (st' := []) i_Reader_readOne_249 lm_385 (Or.inr (Or.inl ⟨rfl, rfl⟩)) w_Reader_readName rfl rfl rfl (Nat.le_of_ble_eq_true rfl) (Nat.le_of_ble_eq_true rfl) (m_rlt (q_Reader_readName _) (Nat.lt_of_lt_of_le (by decide) (q_Reader_readOne_ge _))) rfl (fun v249 s249 => ?_)
  exact e_iretG i_Reader_readOne_252 rfl
theorem i_Reader_readName_0 : m_at k_Reader_readName 0 = some (.aload_n 0, 1, 0) := m_at_of r_Reader_readName (by decide +kernel)
theorem i_Reader_readName_1 : m_at k_Reader_readName 1 = some (.getfield 41, 3, 119) := m_at_of r_Reader_readName (by decide +kernel)
theorem i_Reader_readName_4 : m_at k_Reader_readName 4 = some (.invokestatic 158, 3, 386) := m_at_of r_Reader_readName (by decide +kernel)
theorem i_Reader_readName_7 : m_at k_Reader_readName 7 = some (.ifCond .ne (9), 3, 0) := m_at_of r_Reader_readName (by decide +kernel)
theorem i_Reader_readName_10 : m_at k_Reader_readName 10 = some (.aload_n 0, 1, 0) := m_at_of r_Reader_readName (by decide +kernel)
theorem i_Reader_readName_11 : m_at k_Reader_readName 11 = some (.iconst 1, 1, 0) := m_at_of r_Reader_readName (by decide +kernel)
theorem i_Reader_readName_12 : m_at k_Reader_readName 12 = some (.invokevirtual 92, 3, 370) := m_at_of r_Reader_readName (by decide +kernel)
theorem i_Reader_readName_15 : m_at k_Reader_readName 15 = some (.ireturn, 1, 0) := m_at_of r_Reader_readName (by decide +kernel)
theorem i_Reader_readName_16 : m_at k_Reader_readName 16 = some (.aload_n 0, 1, 0) := m_at_of r_Reader_readName (by decide +kernel)
theorem i_Reader_readName_17 : m_at k_Reader_readName 17 = some (.getfield 104, 3, 121) := m_at_of r_Reader_readName (by decide +kernel)
theorem i_Reader_readName_20 : m_at k_Reader_readName 20 = some (.aload_n 0, 1, 0) := m_at_of r_Reader_readName (by decide +kernel)
theorem i_Reader_readName_21 : m_at k_Reader_readName 21 = some (.getfield 41, 3, 119) := m_at_of r_Reader_readName (by decide +kernel)
theorem i_Reader_readName_24 : m_at k_Reader_readName 24 = some (.invokestatic 161, 3, 387) := m_at_of r_Reader_readName (by decide +kernel)
theorem i_Reader_readName_27 : m_at k_Reader_readName 27 = some (.ifCond .ne (9), 3, 0) := m_at_of r_Reader_readName (by decide +kernel)
theorem i_Reader_readName_30 : m_at k_Reader_readName 30 = some (.aload_n 0, 1, 0) := m_at_of r_Reader_readName (by decide +kernel)
theorem i_Reader_readName_31 : m_at k_Reader_readName 31 = some (.iconst 5, 1, 0) := m_at_of r_Reader_readName (by decide +kernel)
theorem i_Reader_readName_32 : m_at k_Reader_readName 32 = some (.invokevirtual 92, 3, 370) := m_at_of r_Reader_readName (by decide +kernel)
theorem i_Reader_readName_35 : m_at k_Reader_readName 35 = some (.ireturn, 1, 0) := m_at_of r_Reader_readName (by decide +kernel)
theorem i_Reader_readName_36 : m_at k_Reader_readName 36 = some (.aload_n 0, 1, 0) := m_at_of r_Reader_readName (by decide +kernel)
theorem i_Reader_readName_37 : m_at k_Reader_readName 37 = some (.getfield 12, 3, 115) := m_at_of r_Reader_readName (by decide +kernel)
theorem i_Reader_readName_40 : m_at k_Reader_readName 40 = some (.aload_n 0, 1, 0) := m_at_of r_Reader_readName (by decide +kernel)
theorem i_Reader_readName_41 : m_at k_Reader_readName 41 = some (.getfield 41, 3, 119) := m_at_of r_Reader_readName (by decide +kernel)
theorem i_Reader_readName_44 : m_at k_Reader_readName 44 = some (.invokevirtual 140, 3, 380) := m_at_of r_Reader_readName (by decide +kernel)
theorem i_Reader_readName_47 : m_at k_Reader_readName 47 = some (.aload_n 0, 1, 0) := m_at_of r_Reader_readName (by decide +kernel)
theorem i_Reader_readName_48 : m_at k_Reader_readName 48 = some (.invokevirtual 38, 3, 367) := m_at_of r_Reader_readName (by decide +kernel)
theorem i_Reader_readName_51 : m_at k_Reader_readName 51 = some (.iconst 1, 1, 0) := m_at_of r_Reader_readName (by decide +kernel)
theorem i_Reader_readName_52 : m_at k_Reader_readName 52 = some (.ireturn, 1, 0) := m_at_of r_Reader_readName (by decide +kernel)
set_option maxRecDepth 20000 in
set_option maxHeartbeats 1000000 in
theorem E_Reader_readName (x : m_X) (s : m_H) (w : Nat) : m_M x k_Reader_readName [.ref w] s = if m_isO s w 3 = true then ((m_fI s 3 5 w).bind fun v1 => m_bI (m_M x k_Words_isName [.int v1] s) fun v4 s4 => if v4 = 0 then (m_bI (m_M x k_Reader_fails [.ref w, .int 1] s4) fun v12 s12 => if m_rk (some .boolean) (some (.int v12)) = true then some (some (.int v12), s12) else none) else (m_fI s4 3 9 w).bind fun v17 => (m_fI s4 3 5 w).bind fun v21 => m_bI (m_M x k_Words_isNameOf [.int v17, .int v21] s4) fun v24 s24 => if v24 = 0 then (m_bI (m_M x k_Reader_fails [.ref w, .int 5] s24) fun v32 s32 => if m_rk (some .boolean) (some (.int v32)) = true then some (some (.int v32), s32) else none) else (m_fR s24 3 0 w).bind fun v37 => (m_fI s24 3 5 w).bind fun v41 => m_bV (m_M x k_Script_addDeed [.ref v37, .int v41] s24) fun s44 => m_bV (m_M x k_Reader_advance [.ref w] s44) fun s48 => some (some (.int 1), s48)) else none := by
  refine e_M1 (L0 := [some (.ref w)]) rfl (by decide +kernel) rfl (q_Reader_readName _) rfl ?_
  refine e_aload_n i_Reader_readName_0 rfl ?_
  refine e_getI i_Reader_readName_1 lf_119 (by decide) (Or.inl ft_3_5) (fun v1 => ?_)
  refine e_callI (as := [.int v1]) (st' := []) i_Reader_readName_4 lm_386 (Or.inl ⟨rfl, rfl⟩) w_Words_isName rfl rfl rfl (Nat.le_of_ble_eq_true rfl) (Nat.le_of_ble_eq_true rfl) (m_rlt (q_Words_isName _) (by decide)) rfl (fun v4 s4 => ?_)
  refine e_ifne (t := 16) i_Reader_readName_7 (by decide) ?_ ?_
  · refine e_aload_n i_Reader_readName_16 rfl ?_
    refine e_getI i_Reader_readName_17 lf_121 (by decide) (Or.inl ft_3_9) (fun v17 => ?_)
    refine e_aload_n i_Reader_readName_20 rfl ?_
    refine e_getI i_Reader_readName_21 lf_119 (by decide) (Or.inl ft_3_5) (fun v21 => ?_)
    refine e_callI (as := [.int v17, .int v21]) (st' := []) i_Reader_readName_24 lm_387 (Or.inl ⟨rfl, rfl⟩) w_Words_isNameOf rfl rfl rfl (Nat.le_of_ble_eq_true rfl) (Nat.le_of_ble_eq_true rfl) (m_rlt (q_Words_isNameOf _) (by decide)) rfl (fun v24 s24 => ?_)
    refine e_ifne (t := 36) i_Reader_readName_27 (by decide) ?_ ?_
    · refine e_aload_n i_Reader_readName_36 rfl ?_
      refine e_getR i_Reader_readName_37 lf_115 (by decide) ft_3_0 (fun v37 => ?_)
      refine e_aload_n i_Reader_readName_40 rfl ?_
      refine e_getI i_Reader_readName_41 lf_119 (by decide) (Or.inl ft_3_5) (fun v41 => ?_)
      refine e_callV (as := [.ref v37, .int v41]) (st' := []) i_Reader_readName_44 lm_380 (Or.inr (Or.inl ⟨rfl, rfl⟩)) w_Script_addDeed rfl rfl rfl (Nat.le_of_ble_eq_true rfl) (Nat.le_of_ble_eq_true rfl) (m_rlt (q_Script_addDeed _) (by decide)) rfl (fun s44 => ?_)
      refine e_aload_n i_Reader_readName_47 rfl ?_
      refine e_callV (as := [.ref w]) (st' := []) i_Reader_readName_48 lm_367 (Or.inr (Or.inl ⟨rfl, rfl⟩)) w_Reader_advance rfl rfl rfl (Nat.le_of_ble_eq_true rfl) (Nat.le_of_ble_eq_true rfl) (m_rlt (q_Reader_advance _) (by decide)) rfl (fun s48 => ?_)
      refine e_iconst (v := 1) i_Reader_readName_51 (by decide) ?_
      exact e_iretZ i_Reader_readName_52 rfl (by decide)
    · refine e_aload_n i_Reader_readName_30 rfl ?_
      refine e_iconst (v := 5) i_Reader_readName_31 (by decide) ?_
      refine e_callI (as := [.ref w, .int 5]) (st' := []) i_Reader_readName_32 lm_370 (Or.inr (Or.inl ⟨rfl, rfl⟩)) w_Reader_fails rfl rfl rfl (Nat.le_of_ble_eq_true rfl) (Nat.le_of_ble_eq_true rfl) (m_rlt (q_Reader_fails _) (by decide)) rfl (fun v32 s32 => ?_)
      exact e_iretG i_Reader_readName_35 rfl
  · refine e_aload_n i_Reader_readName_10 rfl ?_
    refine e_iconst (v := 1) i_Reader_readName_11 (by decide) ?_
    refine e_callI (as := [.ref w, .int 1]) (st' := []) i_Reader_readName_12 lm_370 (Or.inr (Or.inl ⟨rfl, rfl⟩)) w_Reader_fails rfl rfl rfl (Nat.le_of_ble_eq_true rfl) (Nat.le_of_ble_eq_true rfl) (m_rlt (q_Reader_fails _) (by decide)) rfl (fun v12 s12 => ?_)
    exact e_iretG i_Reader_readName_15 rfl
theorem i_Reader_readChoice_0 : m_at k_Reader_readChoice 0 = some (.aload_n 0, 1, 0) := m_at_of r_Reader_readChoice (by decide +kernel)
theorem i_Reader_readChoice_1 : m_at k_Reader_readChoice 1 = some (.iload_n 1, 1, 0) := m_at_of r_Reader_readChoice (by decide +kernel)
theorem i_Reader_readChoice_2 : m_at k_Reader_readChoice 2 = some (.invokevirtual 164, 3, 389) := m_at_of r_Reader_readChoice (by decide +kernel)
theorem i_Reader_readChoice_5 : m_at k_Reader_readChoice 5 = some (.ifCond .eq (12), 3, 0) := m_at_of r_Reader_readChoice (by decide +kernel)
theorem i_Reader_readChoice_8 : m_at k_Reader_readChoice 8 = some (.aload_n 0, 1, 0) := m_at_of r_Reader_readChoice (by decide +kernel)
theorem i_Reader_readChoice_9 : m_at k_Reader_readChoice 9 = some (.bipush 31, 2, 0) := m_at_of r_Reader_readChoice (by decide +kernel)
theorem i_Reader_readChoice_11 : m_at k_Reader_readChoice 11 = some (.invokevirtual 120, 3, 377) := m_at_of r_Reader_readChoice (by decide +kernel)
theorem i_Reader_readChoice_14 : m_at k_Reader_readChoice 14 = some (.ifCond .ne (5), 3, 0) := m_at_of r_Reader_readChoice (by decide +kernel)
theorem i_Reader_readChoice_17 : m_at k_Reader_readChoice 17 = some (.iconst 0, 1, 0) := m_at_of r_Reader_readChoice (by decide +kernel)
theorem i_Reader_readChoice_18 : m_at k_Reader_readChoice 18 = some (.ireturn, 1, 0) := m_at_of r_Reader_readChoice (by decide +kernel)
theorem i_Reader_readChoice_19 : m_at k_Reader_readChoice 19 = some (.aload_n 0, 1, 0) := m_at_of r_Reader_readChoice (by decide +kernel)
theorem i_Reader_readChoice_20 : m_at k_Reader_readChoice 20 = some (.getfield 12, 3, 115) := m_at_of r_Reader_readChoice (by decide +kernel)
theorem i_Reader_readChoice_23 : m_at k_Reader_readChoice 23 = some (.bipush 31, 2, 0) := m_at_of r_Reader_readChoice (by decide +kernel)
theorem i_Reader_readChoice_25 : m_at k_Reader_readChoice 25 = some (.invokevirtual 167, 3, 390) := m_at_of r_Reader_readChoice (by decide +kernel)
theorem i_Reader_readChoice_28 : m_at k_Reader_readChoice 28 = some (.istore_n 2, 1, 0) := m_at_of r_Reader_readChoice (by decide +kernel)
theorem i_Reader_readChoice_29 : m_at k_Reader_readChoice 29 = some (.aload_n 0, 1, 0) := m_at_of r_Reader_readChoice (by decide +kernel)
theorem i_Reader_readChoice_30 : m_at k_Reader_readChoice 30 = some (.iload_n 1, 1, 0) := m_at_of r_Reader_readChoice (by decide +kernel)
theorem i_Reader_readChoice_31 : m_at k_Reader_readChoice 31 = some (.invokevirtual 111, 3, 374) := m_at_of r_Reader_readChoice (by decide +kernel)
theorem i_Reader_readChoice_34 : m_at k_Reader_readChoice 34 = some (.ifCond .eq (12), 3, 0) := m_at_of r_Reader_readChoice (by decide +kernel)
theorem i_Reader_readChoice_37 : m_at k_Reader_readChoice 37 = some (.aload_n 0, 1, 0) := m_at_of r_Reader_readChoice (by decide +kernel)
theorem i_Reader_readChoice_38 : m_at k_Reader_readChoice 38 = some (.bipush 32, 2, 0) := m_at_of r_Reader_readChoice (by decide +kernel)
theorem i_Reader_readChoice_40 : m_at k_Reader_readChoice 40 = some (.invokevirtual 120, 3, 377) := m_at_of r_Reader_readChoice (by decide +kernel)
theorem i_Reader_readChoice_43 : m_at k_Reader_readChoice 43 = some (.ifCond .ne (5), 3, 0) := m_at_of r_Reader_readChoice (by decide +kernel)
theorem i_Reader_readChoice_46 : m_at k_Reader_readChoice 46 = some (.iconst 0, 1, 0) := m_at_of r_Reader_readChoice (by decide +kernel)
theorem i_Reader_readChoice_47 : m_at k_Reader_readChoice 47 = some (.ireturn, 1, 0) := m_at_of r_Reader_readChoice (by decide +kernel)
theorem i_Reader_readChoice_48 : m_at k_Reader_readChoice 48 = some (.aload_n 0, 1, 0) := m_at_of r_Reader_readChoice (by decide +kernel)
theorem i_Reader_readChoice_49 : m_at k_Reader_readChoice 49 = some (.getfield 12, 3, 115) := m_at_of r_Reader_readChoice (by decide +kernel)
theorem i_Reader_readChoice_52 : m_at k_Reader_readChoice 52 = some (.bipush 32, 2, 0) := m_at_of r_Reader_readChoice (by decide +kernel)
theorem i_Reader_readChoice_54 : m_at k_Reader_readChoice 54 = some (.invokevirtual 167, 3, 390) := m_at_of r_Reader_readChoice (by decide +kernel)
theorem i_Reader_readChoice_57 : m_at k_Reader_readChoice 57 = some (.istore_n 3, 1, 0) := m_at_of r_Reader_readChoice (by decide +kernel)
theorem i_Reader_readChoice_58 : m_at k_Reader_readChoice 58 = some (.aload_n 0, 1, 0) := m_at_of r_Reader_readChoice (by decide +kernel)
theorem i_Reader_readChoice_59 : m_at k_Reader_readChoice 59 = some (.getfield 12, 3, 115) := m_at_of r_Reader_readChoice (by decide +kernel)
theorem i_Reader_readChoice_62 : m_at k_Reader_readChoice 62 = some (.iload_n 2, 1, 0) := m_at_of r_Reader_readChoice (by decide +kernel)
theorem i_Reader_readChoice_63 : m_at k_Reader_readChoice 63 = some (.invokevirtual 170, 3, 391) := m_at_of r_Reader_readChoice (by decide +kernel)
theorem i_Reader_readChoice_66 : m_at k_Reader_readChoice 66 = some (.aload_n 0, 1, 0) := m_at_of r_Reader_readChoice (by decide +kernel)
theorem i_Reader_readChoice_67 : m_at k_Reader_readChoice 67 = some (.iload_n 1, 1, 0) := m_at_of r_Reader_readChoice (by decide +kernel)
theorem i_Reader_readChoice_68 : m_at k_Reader_readChoice 68 = some (.invokevirtual 111, 3, 374) := m_at_of r_Reader_readChoice (by decide +kernel)
theorem i_Reader_readChoice_71 : m_at k_Reader_readChoice 71 = some (.ifCond .eq (12), 3, 0) := m_at_of r_Reader_readChoice (by decide +kernel)
theorem i_Reader_readChoice_74 : m_at k_Reader_readChoice 74 = some (.aload_n 0, 1, 0) := m_at_of r_Reader_readChoice (by decide +kernel)
theorem i_Reader_readChoice_75 : m_at k_Reader_readChoice 75 = some (.bipush 33, 2, 0) := m_at_of r_Reader_readChoice (by decide +kernel)
theorem i_Reader_readChoice_77 : m_at k_Reader_readChoice 77 = some (.invokevirtual 120, 3, 377) := m_at_of r_Reader_readChoice (by decide +kernel)
theorem i_Reader_readChoice_80 : m_at k_Reader_readChoice 80 = some (.ifCond .ne (5), 3, 0) := m_at_of r_Reader_readChoice (by decide +kernel)
theorem i_Reader_readChoice_83 : m_at k_Reader_readChoice 83 = some (.iconst 0, 1, 0) := m_at_of r_Reader_readChoice (by decide +kernel)
theorem i_Reader_readChoice_84 : m_at k_Reader_readChoice 84 = some (.ireturn, 1, 0) := m_at_of r_Reader_readChoice (by decide +kernel)
theorem i_Reader_readChoice_85 : m_at k_Reader_readChoice 85 = some (.aload_n 0, 1, 0) := m_at_of r_Reader_readChoice (by decide +kernel)
theorem i_Reader_readChoice_86 : m_at k_Reader_readChoice 86 = some (.getfield 12, 3, 115) := m_at_of r_Reader_readChoice (by decide +kernel)
theorem i_Reader_readChoice_89 : m_at k_Reader_readChoice 89 = some (.iload_n 3, 1, 0) := m_at_of r_Reader_readChoice (by decide +kernel)
theorem i_Reader_readChoice_90 : m_at k_Reader_readChoice 90 = some (.invokevirtual 170, 3, 391) := m_at_of r_Reader_readChoice (by decide +kernel)
theorem i_Reader_readChoice_93 : m_at k_Reader_readChoice 93 = some (.iconst 1, 1, 0) := m_at_of r_Reader_readChoice (by decide +kernel)
theorem i_Reader_readChoice_94 : m_at k_Reader_readChoice 94 = some (.ireturn, 1, 0) := m_at_of r_Reader_readChoice (by decide +kernel)
set_option maxRecDepth 20000 in
set_option maxHeartbeats 1000000 in
theorem E_Reader_readChoice (x : m_X) (s : m_H) (w : Nat) (n1 : Int32) : m_M x k_Reader_readChoice [.ref w, .int n1] s = if m_isO s w 3 = true then (if m_rank k_Reader_readEither [.ref w, .int n1] < (m_rank k_Reader_readChoice [.ref w, .int n1]) then (m_bI (m_M x k_Reader_readEither [.ref w, .int n1] s) fun v2 s2 => if v2 = 0 then (some (some (.int 0), s2)) else m_bI (m_M x k_Reader_expects [.ref w, .int 31] s2) fun v11 s11 => if v11 = 0 then (some (some (.int 0), s11)) else (m_fR s11 3 0 w).bind fun v20 => m_bI (m_M x k_Script_addLeap [.ref v20, .int 31] s11) fun v25 s25 => if m_rank k_Reader_readSum [.ref w, .int n1] < (m_rank k_Reader_readChoice [.ref w, .int n1]) then (m_bI (m_M x k_Reader_readSum [.ref w, .int n1] s25) fun v31 s31 => if v31 = 0 then (some (some (.int 0), s31)) else m_bI (m_M x k_Reader_expects [.ref w, .int 32] s31) fun v40 s40 => if v40 = 0 then (some (some (.int 0), s40)) else (m_fR s40 3 0 w).bind fun v49 => m_bI (m_M x k_Script_addLeap [.ref v49, .int 32] s40) fun v54 s54 => (m_fR s54 3 0 w).bind fun v59 => m_bV (m_M x k_Script_aimHere [.ref v59, .int v25] s54) fun s63 => if m_rank k_Reader_readSum [.ref w, .int n1] < (m_rank k_Reader_readChoice [.ref w, .int n1]) then (m_bI (m_M x k_Reader_readSum [.ref w, .int n1] s63) fun v68 s68 => if v68 = 0 then (some (some (.int 0), s68)) else m_bI (m_M x k_Reader_expects [.ref w, .int 33] s68) fun v77 s77 => if v77 = 0 then (some (some (.int 0), s77)) else (m_fR s77 3 0 w).bind fun v86 => m_bV (m_M x k_Script_aimHere [.ref v86, .int v54] s77) fun s90 => some (some (.int 1), s90)) else none) else none) else none) else none := by
  refine e_M1 (L0 := [some (.ref w), some (.int n1), none, none]) rfl (by decide +kernel) rfl rfl rfl ?_
  refine e_aload_n i_Reader_readChoice_0 rfl ?_
  refine e_iload_n i_Reader_readChoice_1 rfl ?_
  refine e_callIg (as := [.ref w, .int n1]) (st' := []) i_Reader_readChoice_2 lm_389 (Or.inr (Or.inl ⟨rfl, rfl⟩)) w_Reader_readEither rfl rfl rfl (Nat.le_of_ble_eq_true rfl) (Nat.le_of_ble_eq_true rfl) rfl (fun v2 s2 => ?_)
  refine e_ifeq (t := 17) i_Reader_readChoice_5 (by decide) ?_ ?_
  · refine e_iconst (v := 0) i_Reader_readChoice_17 (by decide) ?_
    exact e_iretZ i_Reader_readChoice_18 rfl (by decide)
  · refine e_aload_n i_Reader_readChoice_8 rfl ?_
    refine e_bipush (v := 31) i_Reader_readChoice_9 (by decide) ?_
    refine e_callI (as := [.ref w, .int 31]) (st' := []) i_Reader_readChoice_11 lm_377 (Or.inr (Or.inl ⟨rfl, rfl⟩)) w_Reader_expects rfl rfl rfl (Nat.le_of_ble_eq_true rfl) (Nat.le_of_ble_eq_true rfl) (m_rlt (q_Reader_expects _) (Nat.lt_of_lt_of_le (by decide) (q_Reader_readChoice_ge _))) rfl (fun v11 s11 => ?_)
    refine e_ifne (t := 19) i_Reader_readChoice_14 (by decide) ?_ ?_
    · refine e_aload_n i_Reader_readChoice_19 rfl ?_
      refine e_getR i_Reader_readChoice_20 lf_115 (by decide) ft_3_0 (fun v20 => ?_)
      refine e_bipush (v := 31) i_Reader_readChoice_23 (by decide) ?_
      refine e_callI (as := [.ref v20, .int 31]) (st' := []) i_Reader_readChoice_25 lm_390 (Or.inr (Or.inl ⟨rfl, rfl⟩)) w_Script_addLeap rfl rfl rfl (Nat.le_of_ble_eq_true rfl) (Nat.le_of_ble_eq_true rfl) (m_rlt (q_Script_addLeap _) (Nat.lt_of_lt_of_le (by decide) (q_Reader_readChoice_ge _))) rfl (fun v25 s25 => ?_)
      refine e_istore_n (L' := [some (.ref w), some (.int n1), some (.int v25), none]) i_Reader_readChoice_28 (of_decide_eq_true rfl) rfl ?_
      refine e_aload_n i_Reader_readChoice_29 rfl ?_
      refine e_iload_n i_Reader_readChoice_30 rfl ?_
      refine e_callIg (as := [.ref w, .int n1]) (st' := []) i_Reader_readChoice_31 lm_374 (Or.inr (Or.inl ⟨rfl, rfl⟩)) w_Reader_readSum rfl rfl rfl (Nat.le_of_ble_eq_true rfl) (Nat.le_of_ble_eq_true rfl) rfl (fun v31 s31 => ?_)
      refine e_ifeq (t := 46) i_Reader_readChoice_34 (by decide) ?_ ?_
      · refine e_iconst (v := 0) i_Reader_readChoice_46 (by decide) ?_
        exact e_iretZ i_Reader_readChoice_47 rfl (by decide)
      · refine e_aload_n i_Reader_readChoice_37 rfl ?_
        refine e_bipush (v := 32) i_Reader_readChoice_38 (by decide) ?_
        refine e_callI (as := [.ref w, .int 32]) (st' := []) i_Reader_readChoice_40 lm_377 (Or.inr (Or.inl ⟨rfl, rfl⟩)) w_Reader_expects rfl rfl rfl (Nat.le_of_ble_eq_true rfl) (Nat.le_of_ble_eq_true rfl) (m_rlt (q_Reader_expects _) (Nat.lt_of_lt_of_le (by decide) (q_Reader_readChoice_ge _))) rfl (fun v40 s40 => ?_)
        refine e_ifne (t := 48) i_Reader_readChoice_43 (by decide) ?_ ?_
        · refine e_aload_n i_Reader_readChoice_48 rfl ?_
          refine e_getR i_Reader_readChoice_49 lf_115 (by decide) ft_3_0 (fun v49 => ?_)
          refine e_bipush (v := 32) i_Reader_readChoice_52 (by decide) ?_
          refine e_callI (as := [.ref v49, .int 32]) (st' := []) i_Reader_readChoice_54 lm_390 (Or.inr (Or.inl ⟨rfl, rfl⟩)) w_Script_addLeap rfl rfl rfl (Nat.le_of_ble_eq_true rfl) (Nat.le_of_ble_eq_true rfl) (m_rlt (q_Script_addLeap _) (Nat.lt_of_lt_of_le (by decide) (q_Reader_readChoice_ge _))) rfl (fun v54 s54 => ?_)
          refine e_istore_n (L' := [some (.ref w), some (.int n1), some (.int v25), some (.int v54)]) i_Reader_readChoice_57 (of_decide_eq_true rfl) rfl ?_
          refine e_aload_n i_Reader_readChoice_58 rfl ?_
          refine e_getR i_Reader_readChoice_59 lf_115 (by decide) ft_3_0 (fun v59 => ?_)
          refine e_iload_n i_Reader_readChoice_62 rfl ?_
          refine e_callV (as := [.ref v59, .int v25]) (st' := []) i_Reader_readChoice_63 lm_391 (Or.inr (Or.inl ⟨rfl, rfl⟩)) w_Script_aimHere rfl rfl rfl (Nat.le_of_ble_eq_true rfl) (Nat.le_of_ble_eq_true rfl) (m_rlt (q_Script_aimHere _) (Nat.lt_of_lt_of_le (by decide) (q_Reader_readChoice_ge _))) rfl (fun s63 => ?_)
          refine e_aload_n i_Reader_readChoice_66 rfl ?_
          refine e_iload_n i_Reader_readChoice_67 rfl ?_
          refine e_callIg (as := [.ref w, .int n1]) (st' := []) i_Reader_readChoice_68 lm_374 (Or.inr (Or.inl ⟨rfl, rfl⟩)) w_Reader_readSum rfl rfl rfl (Nat.le_of_ble_eq_true rfl) (Nat.le_of_ble_eq_true rfl) rfl (fun v68 s68 => ?_)
          refine e_ifeq (t := 83) i_Reader_readChoice_71 (by decide) ?_ ?_
          · refine e_iconst (v := 0) i_Reader_readChoice_83 (by decide) ?_
            exact e_iretZ i_Reader_readChoice_84 rfl (by decide)
          · refine e_aload_n i_Reader_readChoice_74 rfl ?_
            refine e_bipush (v := 33) i_Reader_readChoice_75 (by decide) ?_
            refine e_callI (as := [.ref w, .int 33]) (st' := []) i_Reader_readChoice_77 lm_377 (Or.inr (Or.inl ⟨rfl, rfl⟩)) w_Reader_expects rfl rfl rfl (Nat.le_of_ble_eq_true rfl) (Nat.le_of_ble_eq_true rfl) (m_rlt (q_Reader_expects _) (Nat.lt_of_lt_of_le (by decide) (q_Reader_readChoice_ge _))) rfl (fun v77 s77 => ?_)
            refine e_ifne (t := 85) i_Reader_readChoice_80 (by decide) ?_ ?_
            · refine e_aload_n i_Reader_readChoice_85 rfl ?_
              refine e_getR i_Reader_readChoice_86 lf_115 (by decide) ft_3_0 (fun v86 => ?_)
              refine e_iload_n i_Reader_readChoice_89 rfl ?_
              refine e_callV (as := [.ref v86, .int v54]) (st' := []) i_Reader_readChoice_90 lm_391 (Or.inr (Or.inl ⟨rfl, rfl⟩)) w_Script_aimHere rfl rfl rfl (Nat.le_of_ble_eq_true rfl) (Nat.le_of_ble_eq_true rfl) (m_rlt (q_Script_aimHere _) (Nat.lt_of_lt_of_le (by decide) (q_Reader_readChoice_ge _))) rfl (fun s90 => ?_)
              refine e_iconst (v := 1) i_Reader_readChoice_93 (by decide) ?_
              exact e_iretZ i_Reader_readChoice_94 rfl (by decide)
            · refine e_iconst (v := 0) i_Reader_readChoice_83 (by decide) ?_
              exact e_iretZ i_Reader_readChoice_84 rfl (by decide)
        · refine e_iconst (v := 0) i_Reader_readChoice_46 (by decide) ?_
          exact e_iretZ i_Reader_readChoice_47 rfl (by decide)
    · refine e_iconst (v := 0) i_Reader_readChoice_17 (by decide) ?_
      exact e_iretZ i_Reader_readChoice_18 rfl (by decide)
theorem i_Reader_readEither_0 : m_at k_Reader_readEither 0 = some (.aload_n 0, 1, 0) := m_at_of r_Reader_readEither (by decide +kernel)
theorem i_Reader_readEither_1 : m_at k_Reader_readEither 1 = some (.iload_n 1, 1, 0) := m_at_of r_Reader_readEither (by decide +kernel)
theorem i_Reader_readEither_2 : m_at k_Reader_readEither 2 = some (.invokevirtual 173, 3, 394) := m_at_of r_Reader_readEither (by decide +kernel)
theorem i_Reader_readEither_5 : m_at k_Reader_readEither 5 = some (.istore_n 2, 1, 0) := m_at_of r_Reader_readEither (by decide +kernel)
theorem i_Reader_readEither_6 : m_at k_Reader_readEither 6 = some (.iconst 0, 1, 0) := m_at_of r_Reader_readEither (by decide +kernel)
theorem i_Reader_readEither_7 : m_at k_Reader_readEither 7 = some (.istore_n 3, 1, 0) := m_at_of r_Reader_readEither (by decide +kernel)
theorem i_Reader_readEither_8 : m_at k_Reader_readEither 8 = some (.iload_n 3, 1, 0) := m_at_of r_Reader_readEither (by decide +kernel)
theorem i_Reader_readEither_9 : m_at k_Reader_readEither 9 = some (.sipush 300, 3, 0) := m_at_of r_Reader_readEither (by decide +kernel)
theorem i_Reader_readEither_12 : m_at k_Reader_readEither 12 = some (.if_icmp .ge (41), 3, 0) := m_at_of r_Reader_readEither (by decide +kernel)
theorem i_Reader_readEither_15 : m_at k_Reader_readEither 15 = some (.iload_n 2, 1, 0) := m_at_of r_Reader_readEither (by decide +kernel)
theorem i_Reader_readEither_16 : m_at k_Reader_readEither 16 = some (.ifCond .eq (37), 3, 0) := m_at_of r_Reader_readEither (by decide +kernel)
theorem i_Reader_readEither_19 : m_at k_Reader_readEither 19 = some (.aload_n 0, 1, 0) := m_at_of r_Reader_readEither (by decide +kernel)
theorem i_Reader_readEither_20 : m_at k_Reader_readEither 20 = some (.getfield 41, 3, 119) := m_at_of r_Reader_readEither (by decide +kernel)
theorem i_Reader_readEither_23 : m_at k_Reader_readEither 23 = some (.bipush 34, 2, 0) := m_at_of r_Reader_readEither (by decide +kernel)
theorem i_Reader_readEither_25 : m_at k_Reader_readEither 25 = some (.if_icmp .ne (28), 3, 0) := m_at_of r_Reader_readEither (by decide +kernel)
theorem i_Reader_readEither_28 : m_at k_Reader_readEither 28 = some (.aload_n 0, 1, 0) := m_at_of r_Reader_readEither (by decide +kernel)
theorem i_Reader_readEither_29 : m_at k_Reader_readEither 29 = some (.invokevirtual 38, 3, 367) := m_at_of r_Reader_readEither (by decide +kernel)
theorem i_Reader_readEither_32 : m_at k_Reader_readEither 32 = some (.aload_n 0, 1, 0) := m_at_of r_Reader_readEither (by decide +kernel)
theorem i_Reader_readEither_33 : m_at k_Reader_readEither 33 = some (.iload_n 1, 1, 0) := m_at_of r_Reader_readEither (by decide +kernel)
theorem i_Reader_readEither_34 : m_at k_Reader_readEither 34 = some (.invokevirtual 173, 3, 394) := m_at_of r_Reader_readEither (by decide +kernel)
theorem i_Reader_readEither_37 : m_at k_Reader_readEither 37 = some (.istore_n 2, 1, 0) := m_at_of r_Reader_readEither (by decide +kernel)
theorem i_Reader_readEither_38 : m_at k_Reader_readEither 38 = some (.aload_n 0, 1, 0) := m_at_of r_Reader_readEither (by decide +kernel)
theorem i_Reader_readEither_39 : m_at k_Reader_readEither 39 = some (.getfield 12, 3, 115) := m_at_of r_Reader_readEither (by decide +kernel)
theorem i_Reader_readEither_42 : m_at k_Reader_readEither 42 = some (.bipush 34, 2, 0) := m_at_of r_Reader_readEither (by decide +kernel)
theorem i_Reader_readEither_44 : m_at k_Reader_readEither 44 = some (.invokevirtual 140, 3, 380) := m_at_of r_Reader_readEither (by decide +kernel)
theorem i_Reader_readEither_47 : m_at k_Reader_readEither 47 = some (.iinc 3 (1), 3, 0) := m_at_of r_Reader_readEither (by decide +kernel)
theorem i_Reader_readEither_50 : m_at k_Reader_readEither 50 = some (.goto (-42), 3, 0) := m_at_of r_Reader_readEither (by decide +kernel)
theorem i_Reader_readEither_53 : m_at k_Reader_readEither 53 = some (.iload_n 2, 1, 0) := m_at_of r_Reader_readEither (by decide +kernel)
theorem i_Reader_readEither_54 : m_at k_Reader_readEither 54 = some (.ireturn, 1, 0) := m_at_of r_Reader_readEither (by decide +kernel)
set_option maxRecDepth 20000 in
set_option maxHeartbeats 1000000 in
theorem E_Reader_readEither (x : m_X) (s : m_H) (w : Nat) (n1 : Int32) : m_M x k_Reader_readEither [.ref w, .int n1] s = if m_isO s w 3 = true then (if m_rank k_Reader_readBoth [.ref w, .int n1] < (m_rank k_Reader_readEither [.ref w, .int n1]) then (m_bI (m_M x k_Reader_readBoth [.ref w, .int n1] s) fun v2 s2 => m_D x (m_rank k_Reader_readEither [.ref w, .int n1]) k_Reader_readEither 8 [some (.ref w), some (.int n1), some (.int v2), some (.int 0)] [] s2) else none) else none := by
  refine e_M1 (L0 := [some (.ref w), some (.int n1), none, none]) rfl (by decide +kernel) rfl rfl rfl ?_
  refine e_aload_n i_Reader_readEither_0 rfl ?_
  refine e_iload_n i_Reader_readEither_1 rfl ?_
  refine e_callIg (as := [.ref w, .int n1]) (st' := []) i_Reader_readEither_2 lm_394 (Or.inr (Or.inl ⟨rfl, rfl⟩)) w_Reader_readBoth rfl rfl rfl (Nat.le_of_ble_eq_true rfl) (Nat.le_of_ble_eq_true rfl) rfl (fun v2 s2 => ?_)
  refine e_istore_n (L' := [some (.ref w), some (.int n1), some (.int v2), none]) i_Reader_readEither_5 (of_decide_eq_true rfl) rfl ?_
  refine e_iconst (v := 0) i_Reader_readEither_6 (by decide) ?_
  refine e_istore_n (L' := [some (.ref w), some (.int n1), some (.int v2), some (.int 0)]) i_Reader_readEither_7 (of_decide_eq_true rfl) rfl ?_
  exact rfl
set_option maxRecDepth 20000 in
set_option maxHeartbeats 1000000 in
theorem E_Reader_readEither_8 (x : m_X) (ρ : Nat) (hρ : 9 ≤ ρ) (s : m_H) (w : Nat) (n1 : Int32) (n2 : Int32) (n3 : Int32)  : m_D x ρ k_Reader_readEither 8 [some (.ref w), some (.int n1), some (.int n2), some (.int n3)] [] s = if 300 ≤ n3 then (if m_rk (some .boolean) (some (.int n2)) = true then some (some (.int n2), s) else none) else if n2 = 0 then (if m_rk (some .boolean) (some (.int n2)) = true then some (some (.int n2), s) else none) else (m_fI s 3 5 w).bind fun v20 => if v20 = 34 then (m_bV (m_M x k_Reader_advance [.ref w] s) fun s29 => if m_rank k_Reader_readBoth [.ref w, .int n1] < ρ then (m_bI (m_M x k_Reader_readBoth [.ref w, .int n1] s29) fun v34 s34 => (m_fR s34 3 0 w).bind fun v39 => m_bV (m_M x k_Script_addDeed [.ref v39, .int 34] s34) fun s44 => m_D x ρ k_Reader_readEither 8 [some (.ref w), some (.int n1), some (.int v34), some (.int (n3 + (1 : Int32)))] [] s44) else none) else if m_rk (some .boolean) (some (.int n2)) = true then some (some (.int n2), s) else none := by
  refine e_iload_n i_Reader_readEither_8 rfl ?_
  refine e_sipush (v := 300) i_Reader_readEither_9 (by decide) ?_
  refine e_icmpge (t := 53) i_Reader_readEither_12 (by decide) ?_ ?_
  · refine e_iload_n i_Reader_readEither_53 rfl ?_
    exact e_iretG i_Reader_readEither_54 rfl
  · refine e_iload_n i_Reader_readEither_15 rfl ?_
    refine e_ifeq (t := 53) i_Reader_readEither_16 (by decide) ?_ ?_
    · refine e_iload_n i_Reader_readEither_53 rfl ?_
      exact e_iretG i_Reader_readEither_54 rfl
    · refine e_aload_n i_Reader_readEither_19 rfl ?_
      refine e_getI i_Reader_readEither_20 lf_119 (by decide) (Or.inl ft_3_5) (fun v20 => ?_)
      refine e_bipush (v := 34) i_Reader_readEither_23 (by decide) ?_
      refine e_icmpne (t := 53) i_Reader_readEither_25 (by decide) ?_ ?_
      · refine e_iload_n i_Reader_readEither_53 rfl ?_
        exact e_iretG i_Reader_readEither_54 rfl
      · refine e_aload_n i_Reader_readEither_28 rfl ?_
        refine e_callV (as := [.ref w]) (st' := []) i_Reader_readEither_29 lm_367 (Or.inr (Or.inl ⟨rfl, rfl⟩)) w_Reader_advance rfl rfl rfl (Nat.le_of_ble_eq_true rfl) (Nat.le_of_ble_eq_true rfl) (m_rlt (q_Reader_advance _) (Nat.lt_of_lt_of_le (by decide) hρ)) rfl (fun s29 => ?_)
        refine e_aload_n i_Reader_readEither_32 rfl ?_
        refine e_iload_n i_Reader_readEither_33 rfl ?_
        refine e_callIg (as := [.ref w, .int n1]) (st' := []) i_Reader_readEither_34 lm_394 (Or.inr (Or.inl ⟨rfl, rfl⟩)) w_Reader_readBoth rfl rfl rfl (Nat.le_of_ble_eq_true rfl) (Nat.le_of_ble_eq_true rfl) rfl (fun v34 s34 => ?_)
        refine e_istore_n (L' := [some (.ref w), some (.int n1), some (.int v34), some (.int n3)]) i_Reader_readEither_37 (of_decide_eq_true rfl) rfl ?_
        refine e_aload_n i_Reader_readEither_38 rfl ?_
        refine e_getR i_Reader_readEither_39 lf_115 (by decide) ft_3_0 (fun v39 => ?_)
        refine e_bipush (v := 34) i_Reader_readEither_42 (by decide) ?_
        refine e_callV (as := [.ref v39, .int 34]) (st' := []) i_Reader_readEither_44 lm_380 (Or.inr (Or.inl ⟨rfl, rfl⟩)) w_Script_addDeed rfl rfl rfl (Nat.le_of_ble_eq_true rfl) (Nat.le_of_ble_eq_true rfl) (m_rlt (q_Script_addDeed _) (Nat.lt_of_lt_of_le (by decide) hρ)) rfl (fun s44 => ?_)
        refine e_iinc (w := 1) (L' := [some (.ref w), some (.int n1), some (.int v34), some (.int (n3 + (1 : Int32)))]) i_Reader_readEither_47 rfl (of_decide_eq_true rfl) (by decide) rfl ?_
        refine e_goto (t := 8) i_Reader_readEither_50 (by decide) ?_
        exact rfl
theorem i_Reader_readBoth_0 : m_at k_Reader_readBoth 0 = some (.aload_n 0, 1, 0) := m_at_of r_Reader_readBoth (by decide +kernel)
theorem i_Reader_readBoth_1 : m_at k_Reader_readBoth 1 = some (.iload_n 1, 1, 0) := m_at_of r_Reader_readBoth (by decide +kernel)
theorem i_Reader_readBoth_2 : m_at k_Reader_readBoth 2 = some (.invokevirtual 176, 3, 395) := m_at_of r_Reader_readBoth (by decide +kernel)
theorem i_Reader_readBoth_5 : m_at k_Reader_readBoth 5 = some (.istore_n 2, 1, 0) := m_at_of r_Reader_readBoth (by decide +kernel)
theorem i_Reader_readBoth_6 : m_at k_Reader_readBoth 6 = some (.iconst 0, 1, 0) := m_at_of r_Reader_readBoth (by decide +kernel)
theorem i_Reader_readBoth_7 : m_at k_Reader_readBoth 7 = some (.istore_n 3, 1, 0) := m_at_of r_Reader_readBoth (by decide +kernel)
theorem i_Reader_readBoth_8 : m_at k_Reader_readBoth 8 = some (.iload_n 3, 1, 0) := m_at_of r_Reader_readBoth (by decide +kernel)
theorem i_Reader_readBoth_9 : m_at k_Reader_readBoth 9 = some (.sipush 300, 3, 0) := m_at_of r_Reader_readBoth (by decide +kernel)
theorem i_Reader_readBoth_12 : m_at k_Reader_readBoth 12 = some (.if_icmp .ge (41), 3, 0) := m_at_of r_Reader_readBoth (by decide +kernel)
theorem i_Reader_readBoth_15 : m_at k_Reader_readBoth 15 = some (.iload_n 2, 1, 0) := m_at_of r_Reader_readBoth (by decide +kernel)
theorem i_Reader_readBoth_16 : m_at k_Reader_readBoth 16 = some (.ifCond .eq (37), 3, 0) := m_at_of r_Reader_readBoth (by decide +kernel)
theorem i_Reader_readBoth_19 : m_at k_Reader_readBoth 19 = some (.aload_n 0, 1, 0) := m_at_of r_Reader_readBoth (by decide +kernel)
theorem i_Reader_readBoth_20 : m_at k_Reader_readBoth 20 = some (.getfield 41, 3, 119) := m_at_of r_Reader_readBoth (by decide +kernel)
theorem i_Reader_readBoth_23 : m_at k_Reader_readBoth 23 = some (.bipush 35, 2, 0) := m_at_of r_Reader_readBoth (by decide +kernel)
theorem i_Reader_readBoth_25 : m_at k_Reader_readBoth 25 = some (.if_icmp .ne (28), 3, 0) := m_at_of r_Reader_readBoth (by decide +kernel)
theorem i_Reader_readBoth_28 : m_at k_Reader_readBoth 28 = some (.aload_n 0, 1, 0) := m_at_of r_Reader_readBoth (by decide +kernel)
theorem i_Reader_readBoth_29 : m_at k_Reader_readBoth 29 = some (.invokevirtual 38, 3, 367) := m_at_of r_Reader_readBoth (by decide +kernel)
theorem i_Reader_readBoth_32 : m_at k_Reader_readBoth 32 = some (.aload_n 0, 1, 0) := m_at_of r_Reader_readBoth (by decide +kernel)
theorem i_Reader_readBoth_33 : m_at k_Reader_readBoth 33 = some (.iload_n 1, 1, 0) := m_at_of r_Reader_readBoth (by decide +kernel)
theorem i_Reader_readBoth_34 : m_at k_Reader_readBoth 34 = some (.invokevirtual 176, 3, 395) := m_at_of r_Reader_readBoth (by decide +kernel)
theorem i_Reader_readBoth_37 : m_at k_Reader_readBoth 37 = some (.istore_n 2, 1, 0) := m_at_of r_Reader_readBoth (by decide +kernel)
theorem i_Reader_readBoth_38 : m_at k_Reader_readBoth 38 = some (.aload_n 0, 1, 0) := m_at_of r_Reader_readBoth (by decide +kernel)
theorem i_Reader_readBoth_39 : m_at k_Reader_readBoth 39 = some (.getfield 12, 3, 115) := m_at_of r_Reader_readBoth (by decide +kernel)
theorem i_Reader_readBoth_42 : m_at k_Reader_readBoth 42 = some (.bipush 35, 2, 0) := m_at_of r_Reader_readBoth (by decide +kernel)
theorem i_Reader_readBoth_44 : m_at k_Reader_readBoth 44 = some (.invokevirtual 140, 3, 380) := m_at_of r_Reader_readBoth (by decide +kernel)
theorem i_Reader_readBoth_47 : m_at k_Reader_readBoth 47 = some (.iinc 3 (1), 3, 0) := m_at_of r_Reader_readBoth (by decide +kernel)
theorem i_Reader_readBoth_50 : m_at k_Reader_readBoth 50 = some (.goto (-42), 3, 0) := m_at_of r_Reader_readBoth (by decide +kernel)
theorem i_Reader_readBoth_53 : m_at k_Reader_readBoth 53 = some (.iload_n 2, 1, 0) := m_at_of r_Reader_readBoth (by decide +kernel)
theorem i_Reader_readBoth_54 : m_at k_Reader_readBoth 54 = some (.ireturn, 1, 0) := m_at_of r_Reader_readBoth (by decide +kernel)
set_option maxRecDepth 20000 in
set_option maxHeartbeats 1000000 in
theorem E_Reader_readBoth (x : m_X) (s : m_H) (w : Nat) (n1 : Int32) : m_M x k_Reader_readBoth [.ref w, .int n1] s = if m_isO s w 3 = true then (if m_rank k_Reader_readAsk [.ref w, .int n1] < (m_rank k_Reader_readBoth [.ref w, .int n1]) then (m_bI (m_M x k_Reader_readAsk [.ref w, .int n1] s) fun v2 s2 => m_D x (m_rank k_Reader_readBoth [.ref w, .int n1]) k_Reader_readBoth 8 [some (.ref w), some (.int n1), some (.int v2), some (.int 0)] [] s2) else none) else none := by
  refine e_M1 (L0 := [some (.ref w), some (.int n1), none, none]) rfl (by decide +kernel) rfl rfl rfl ?_
  refine e_aload_n i_Reader_readBoth_0 rfl ?_
  refine e_iload_n i_Reader_readBoth_1 rfl ?_
  refine e_callIg (as := [.ref w, .int n1]) (st' := []) i_Reader_readBoth_2 lm_395 (Or.inr (Or.inl ⟨rfl, rfl⟩)) w_Reader_readAsk rfl rfl rfl (Nat.le_of_ble_eq_true rfl) (Nat.le_of_ble_eq_true rfl) rfl (fun v2 s2 => ?_)
  refine e_istore_n (L' := [some (.ref w), some (.int n1), some (.int v2), none]) i_Reader_readBoth_5 (of_decide_eq_true rfl) rfl ?_
  refine e_iconst (v := 0) i_Reader_readBoth_6 (by decide) ?_
  refine e_istore_n (L' := [some (.ref w), some (.int n1), some (.int v2), some (.int 0)]) i_Reader_readBoth_7 (of_decide_eq_true rfl) rfl ?_
  exact rfl
set_option maxRecDepth 20000 in
set_option maxHeartbeats 1000000 in
theorem E_Reader_readBoth_8 (x : m_X) (ρ : Nat) (hρ : 9 ≤ ρ) (s : m_H) (w : Nat) (n1 : Int32) (n2 : Int32) (n3 : Int32)  : m_D x ρ k_Reader_readBoth 8 [some (.ref w), some (.int n1), some (.int n2), some (.int n3)] [] s = if 300 ≤ n3 then (if m_rk (some .boolean) (some (.int n2)) = true then some (some (.int n2), s) else none) else if n2 = 0 then (if m_rk (some .boolean) (some (.int n2)) = true then some (some (.int n2), s) else none) else (m_fI s 3 5 w).bind fun v20 => if v20 = 35 then (m_bV (m_M x k_Reader_advance [.ref w] s) fun s29 => if m_rank k_Reader_readAsk [.ref w, .int n1] < ρ then (m_bI (m_M x k_Reader_readAsk [.ref w, .int n1] s29) fun v34 s34 => (m_fR s34 3 0 w).bind fun v39 => m_bV (m_M x k_Script_addDeed [.ref v39, .int 35] s34) fun s44 => m_D x ρ k_Reader_readBoth 8 [some (.ref w), some (.int n1), some (.int v34), some (.int (n3 + (1 : Int32)))] [] s44) else none) else if m_rk (some .boolean) (some (.int n2)) = true then some (some (.int n2), s) else none := by
  refine e_iload_n i_Reader_readBoth_8 rfl ?_
  refine e_sipush (v := 300) i_Reader_readBoth_9 (by decide) ?_
  refine e_icmpge (t := 53) i_Reader_readBoth_12 (by decide) ?_ ?_
  · refine e_iload_n i_Reader_readBoth_53 rfl ?_
    exact e_iretG i_Reader_readBoth_54 rfl
  · refine e_iload_n i_Reader_readBoth_15 rfl ?_
    refine e_ifeq (t := 53) i_Reader_readBoth_16 (by decide) ?_ ?_
    · refine e_iload_n i_Reader_readBoth_53 rfl ?_
      exact e_iretG i_Reader_readBoth_54 rfl
    · refine e_aload_n i_Reader_readBoth_19 rfl ?_
      refine e_getI i_Reader_readBoth_20 lf_119 (by decide) (Or.inl ft_3_5) (fun v20 => ?_)
      refine e_bipush (v := 35) i_Reader_readBoth_23 (by decide) ?_
      refine e_icmpne (t := 53) i_Reader_readBoth_25 (by decide) ?_ ?_
      · refine e_iload_n i_Reader_readBoth_53 rfl ?_
        exact e_iretG i_Reader_readBoth_54 rfl
      · refine e_aload_n i_Reader_readBoth_28 rfl ?_
        refine e_callV (as := [.ref w]) (st' := []) i_Reader_readBoth_29 lm_367 (Or.inr (Or.inl ⟨rfl, rfl⟩)) w_Reader_advance rfl rfl rfl (Nat.le_of_ble_eq_true rfl) (Nat.le_of_ble_eq_true rfl) (m_rlt (q_Reader_advance _) (Nat.lt_of_lt_of_le (by decide) hρ)) rfl (fun s29 => ?_)
        refine e_aload_n i_Reader_readBoth_32 rfl ?_
        refine e_iload_n i_Reader_readBoth_33 rfl ?_
        refine e_callIg (as := [.ref w, .int n1]) (st' := []) i_Reader_readBoth_34 lm_395 (Or.inr (Or.inl ⟨rfl, rfl⟩)) w_Reader_readAsk rfl rfl rfl (Nat.le_of_ble_eq_true rfl) (Nat.le_of_ble_eq_true rfl) rfl (fun v34 s34 => ?_)
        refine e_istore_n (L' := [some (.ref w), some (.int n1), some (.int v34), some (.int n3)]) i_Reader_readBoth_37 (of_decide_eq_true rfl) rfl ?_
        refine e_aload_n i_Reader_readBoth_38 rfl ?_
        refine e_getR i_Reader_readBoth_39 lf_115 (by decide) ft_3_0 (fun v39 => ?_)
        refine e_bipush (v := 35) i_Reader_readBoth_42 (by decide) ?_
        refine e_callV (as := [.ref v39, .int 35]) (st' := []) i_Reader_readBoth_44 lm_380 (Or.inr (Or.inl ⟨rfl, rfl⟩)) w_Script_addDeed rfl rfl rfl (Nat.le_of_ble_eq_true rfl) (Nat.le_of_ble_eq_true rfl) (m_rlt (q_Script_addDeed _) (Nat.lt_of_lt_of_le (by decide) hρ)) rfl (fun s44 => ?_)
        refine e_iinc (w := 1) (L' := [some (.ref w), some (.int n1), some (.int v34), some (.int (n3 + (1 : Int32)))]) i_Reader_readBoth_47 rfl (of_decide_eq_true rfl) (by decide) rfl ?_
        refine e_goto (t := 8) i_Reader_readBoth_50 (by decide) ?_
        exact rfl
theorem i_Reader_readAsk_0 : m_at k_Reader_readAsk 0 = some (.aload_n 0, 1, 0) := m_at_of r_Reader_readAsk (by decide +kernel)
theorem i_Reader_readAsk_1 : m_at k_Reader_readAsk 1 = some (.getfield 41, 3, 119) := m_at_of r_Reader_readAsk (by decide +kernel)
theorem i_Reader_readAsk_4 : m_at k_Reader_readAsk 4 = some (.bipush 36, 2, 0) := m_at_of r_Reader_readAsk (by decide +kernel)
theorem i_Reader_readAsk_6 : m_at k_Reader_readAsk 6 = some (.if_icmp .ne (36), 3, 0) := m_at_of r_Reader_readAsk (by decide +kernel)
theorem i_Reader_readAsk_9 : m_at k_Reader_readAsk 9 = some (.aload_n 0, 1, 0) := m_at_of r_Reader_readAsk (by decide +kernel)
theorem i_Reader_readAsk_10 : m_at k_Reader_readAsk 10 = some (.iload_n 1, 1, 0) := m_at_of r_Reader_readAsk (by decide +kernel)
theorem i_Reader_readAsk_11 : m_at k_Reader_readAsk 11 = some (.invokevirtual 146, 3, 382) := m_at_of r_Reader_readAsk (by decide +kernel)
theorem i_Reader_readAsk_14 : m_at k_Reader_readAsk 14 = some (.ifCond .eq (26), 3, 0) := m_at_of r_Reader_readAsk (by decide +kernel)
theorem i_Reader_readAsk_17 : m_at k_Reader_readAsk 17 = some (.aload_n 0, 1, 0) := m_at_of r_Reader_readAsk (by decide +kernel)
theorem i_Reader_readAsk_18 : m_at k_Reader_readAsk 18 = some (.iload_n 1, 1, 0) := m_at_of r_Reader_readAsk (by decide +kernel)
theorem i_Reader_readAsk_19 : m_at k_Reader_readAsk 19 = some (.iconst 1, 1, 0) := m_at_of r_Reader_readAsk (by decide +kernel)
theorem i_Reader_readAsk_20 : m_at k_Reader_readAsk 20 = some (.iadd, 1, 0) := m_at_of r_Reader_readAsk (by decide +kernel)
theorem i_Reader_readAsk_21 : m_at k_Reader_readAsk 21 = some (.invokevirtual 176, 3, 395) := m_at_of r_Reader_readAsk (by decide +kernel)
theorem i_Reader_readAsk_24 : m_at k_Reader_readAsk 24 = some (.ifCond .eq (16), 3, 0) := m_at_of r_Reader_readAsk (by decide +kernel)
theorem i_Reader_readAsk_27 : m_at k_Reader_readAsk 27 = some (.aload_n 0, 1, 0) := m_at_of r_Reader_readAsk (by decide +kernel)
theorem i_Reader_readAsk_28 : m_at k_Reader_readAsk 28 = some (.bipush 36, 2, 0) := m_at_of r_Reader_readAsk (by decide +kernel)
theorem i_Reader_readAsk_30 : m_at k_Reader_readAsk 30 = some (.invokevirtual 149, 3, 383) := m_at_of r_Reader_readAsk (by decide +kernel)
theorem i_Reader_readAsk_33 : m_at k_Reader_readAsk 33 = some (.ifCond .eq (7), 3, 0) := m_at_of r_Reader_readAsk (by decide +kernel)
theorem i_Reader_readAsk_36 : m_at k_Reader_readAsk 36 = some (.iconst 1, 1, 0) := m_at_of r_Reader_readAsk (by decide +kernel)
theorem i_Reader_readAsk_37 : m_at k_Reader_readAsk 37 = some (.goto (4), 3, 0) := m_at_of r_Reader_readAsk (by decide +kernel)
theorem i_Reader_readAsk_40 : m_at k_Reader_readAsk 40 = some (.iconst 0, 1, 0) := m_at_of r_Reader_readAsk (by decide +kernel)
theorem i_Reader_readAsk_41 : m_at k_Reader_readAsk 41 = some (.ireturn, 1, 0) := m_at_of r_Reader_readAsk (by decide +kernel)
theorem i_Reader_readAsk_42 : m_at k_Reader_readAsk 42 = some (.aload_n 0, 1, 0) := m_at_of r_Reader_readAsk (by decide +kernel)
theorem i_Reader_readAsk_43 : m_at k_Reader_readAsk 43 = some (.iload_n 1, 1, 0) := m_at_of r_Reader_readAsk (by decide +kernel)
theorem i_Reader_readAsk_44 : m_at k_Reader_readAsk 44 = some (.invokevirtual 111, 3, 374) := m_at_of r_Reader_readAsk (by decide +kernel)
theorem i_Reader_readAsk_47 : m_at k_Reader_readAsk 47 = some (.ifCond .ne (5), 3, 0) := m_at_of r_Reader_readAsk (by decide +kernel)
theorem i_Reader_readAsk_50 : m_at k_Reader_readAsk 50 = some (.iconst 0, 1, 0) := m_at_of r_Reader_readAsk (by decide +kernel)
theorem i_Reader_readAsk_51 : m_at k_Reader_readAsk 51 = some (.ireturn, 1, 0) := m_at_of r_Reader_readAsk (by decide +kernel)
theorem i_Reader_readAsk_52 : m_at k_Reader_readAsk 52 = some (.aload_n 0, 1, 0) := m_at_of r_Reader_readAsk (by decide +kernel)
theorem i_Reader_readAsk_53 : m_at k_Reader_readAsk 53 = some (.getfield 41, 3, 119) := m_at_of r_Reader_readAsk (by decide +kernel)
theorem i_Reader_readAsk_56 : m_at k_Reader_readAsk 56 = some (.istore_n 2, 1, 0) := m_at_of r_Reader_readAsk (by decide +kernel)
theorem i_Reader_readAsk_57 : m_at k_Reader_readAsk 57 = some (.iload_n 2, 1, 0) := m_at_of r_Reader_readAsk (by decide +kernel)
theorem i_Reader_readAsk_58 : m_at k_Reader_readAsk 58 = some (.invokestatic 179, 3, 396) := m_at_of r_Reader_readAsk (by decide +kernel)
theorem i_Reader_readAsk_61 : m_at k_Reader_readAsk 61 = some (.ifCond .ne (9), 3, 0) := m_at_of r_Reader_readAsk (by decide +kernel)
theorem i_Reader_readAsk_64 : m_at k_Reader_readAsk 64 = some (.aload_n 0, 1, 0) := m_at_of r_Reader_readAsk (by decide +kernel)
theorem i_Reader_readAsk_65 : m_at k_Reader_readAsk 65 = some (.iconst 1, 1, 0) := m_at_of r_Reader_readAsk (by decide +kernel)
theorem i_Reader_readAsk_66 : m_at k_Reader_readAsk 66 = some (.invokevirtual 92, 3, 370) := m_at_of r_Reader_readAsk (by decide +kernel)
theorem i_Reader_readAsk_69 : m_at k_Reader_readAsk 69 = some (.ireturn, 1, 0) := m_at_of r_Reader_readAsk (by decide +kernel)
theorem i_Reader_readAsk_70 : m_at k_Reader_readAsk 70 = some (.aload_n 0, 1, 0) := m_at_of r_Reader_readAsk (by decide +kernel)
theorem i_Reader_readAsk_71 : m_at k_Reader_readAsk 71 = some (.invokevirtual 38, 3, 367) := m_at_of r_Reader_readAsk (by decide +kernel)
theorem i_Reader_readAsk_74 : m_at k_Reader_readAsk 74 = some (.aload_n 0, 1, 0) := m_at_of r_Reader_readAsk (by decide +kernel)
theorem i_Reader_readAsk_75 : m_at k_Reader_readAsk 75 = some (.iload_n 1, 1, 0) := m_at_of r_Reader_readAsk (by decide +kernel)
theorem i_Reader_readAsk_76 : m_at k_Reader_readAsk 76 = some (.invokevirtual 111, 3, 374) := m_at_of r_Reader_readAsk (by decide +kernel)
theorem i_Reader_readAsk_79 : m_at k_Reader_readAsk 79 = some (.ifCond .eq (15), 3, 0) := m_at_of r_Reader_readAsk (by decide +kernel)
theorem i_Reader_readAsk_82 : m_at k_Reader_readAsk 82 = some (.aload_n 0, 1, 0) := m_at_of r_Reader_readAsk (by decide +kernel)
theorem i_Reader_readAsk_83 : m_at k_Reader_readAsk 83 = some (.iload_n 2, 1, 0) := m_at_of r_Reader_readAsk (by decide +kernel)
theorem i_Reader_readAsk_84 : m_at k_Reader_readAsk 84 = some (.invokevirtual 149, 3, 383) := m_at_of r_Reader_readAsk (by decide +kernel)
theorem i_Reader_readAsk_87 : m_at k_Reader_readAsk 87 = some (.ifCond .eq (7), 3, 0) := m_at_of r_Reader_readAsk (by decide +kernel)
theorem i_Reader_readAsk_90 : m_at k_Reader_readAsk 90 = some (.iconst 1, 1, 0) := m_at_of r_Reader_readAsk (by decide +kernel)
theorem i_Reader_readAsk_91 : m_at k_Reader_readAsk 91 = some (.goto (4), 3, 0) := m_at_of r_Reader_readAsk (by decide +kernel)
theorem i_Reader_readAsk_94 : m_at k_Reader_readAsk 94 = some (.iconst 0, 1, 0) := m_at_of r_Reader_readAsk (by decide +kernel)
theorem i_Reader_readAsk_95 : m_at k_Reader_readAsk 95 = some (.ireturn, 1, 0) := m_at_of r_Reader_readAsk (by decide +kernel)
set_option maxRecDepth 20000 in
set_option maxHeartbeats 1000000 in
theorem E_Reader_readAsk (x : m_X) (s : m_H) (w : Nat) (n1 : Int32) : m_M x k_Reader_readAsk [.ref w, .int n1] s = if m_isO s w 3 = true then ((m_fI s 3 5 w).bind fun v1 => if v1 = 36 then (m_bI (m_M x k_Reader_opens [.ref w, .int n1] s) fun v11 s11 => if v11 = 0 then (some (some (.int 0), s11)) else if m_rank k_Reader_readAsk [.ref w, .int (n1 + (1 : Int32))] < (m_rank k_Reader_readAsk [.ref w, .int n1]) then (m_bI (m_M x k_Reader_readAsk [.ref w, .int (n1 + (1 : Int32))] s11) fun v21 s21 => if v21 = 0 then (some (some (.int 0), s21)) else m_bI (m_M x k_Reader_does [.ref w, .int 36] s21) fun v30 s30 => if v30 = 0 then (some (some (.int 0), s30)) else some (some (.int 1), s30)) else none) else if m_rank k_Reader_readSum [.ref w, .int n1] < (m_rank k_Reader_readAsk [.ref w, .int n1]) then (m_bI (m_M x k_Reader_readSum [.ref w, .int n1] s) fun v44 s44 => if v44 = 0 then (some (some (.int 0), s44)) else (m_fI s44 3 5 w).bind fun v53 => m_bI (m_M x k_Words_compares [.int v53] s44) fun v58 s58 => if v58 = 0 then (m_bI (m_M x k_Reader_fails [.ref w, .int 1] s58) fun v66 s66 => if m_rk (some .boolean) (some (.int v66)) = true then some (some (.int v66), s66) else none) else m_bV (m_M x k_Reader_advance [.ref w] s58) fun s71 => if m_rank k_Reader_readSum [.ref w, .int n1] < (m_rank k_Reader_readAsk [.ref w, .int n1]) then (m_bI (m_M x k_Reader_readSum [.ref w, .int n1] s71) fun v76 s76 => if v76 = 0 then (some (some (.int 0), s76)) else m_bI (m_M x k_Reader_does [.ref w, .int v53] s76) fun v84 s84 => if v84 = 0 then (some (some (.int 0), s84)) else some (some (.int 1), s84)) else none) else none) else none := by
  refine e_M1 (L0 := [some (.ref w), some (.int n1), none]) rfl (by decide +kernel) rfl rfl rfl ?_
  refine e_aload_n i_Reader_readAsk_0 rfl ?_
  refine e_getI i_Reader_readAsk_1 lf_119 (by decide) (Or.inl ft_3_5) (fun v1 => ?_)
  refine e_bipush (v := 36) i_Reader_readAsk_4 (by decide) ?_
  refine e_icmpne (t := 42) i_Reader_readAsk_6 (by decide) ?_ ?_
  · refine e_aload_n i_Reader_readAsk_42 rfl ?_
    refine e_iload_n i_Reader_readAsk_43 rfl ?_
    refine e_callIg (as := [.ref w, .int n1]) (st' := []) i_Reader_readAsk_44 lm_374 (Or.inr (Or.inl ⟨rfl, rfl⟩)) w_Reader_readSum rfl rfl rfl (Nat.le_of_ble_eq_true rfl) (Nat.le_of_ble_eq_true rfl) rfl (fun v44 s44 => ?_)
    refine e_ifne (t := 52) i_Reader_readAsk_47 (by decide) ?_ ?_
    · refine e_aload_n i_Reader_readAsk_52 rfl ?_
      refine e_getI i_Reader_readAsk_53 lf_119 (by decide) (Or.inl ft_3_5) (fun v53 => ?_)
      refine e_istore_n (L' := [some (.ref w), some (.int n1), some (.int v53)]) i_Reader_readAsk_56 (of_decide_eq_true rfl) rfl ?_
      refine e_iload_n i_Reader_readAsk_57 rfl ?_
      refine e_callI (as := [.int v53]) (st' := []) i_Reader_readAsk_58 lm_396 (Or.inl ⟨rfl, rfl⟩) w_Words_compares rfl rfl rfl (Nat.le_of_ble_eq_true rfl) (Nat.le_of_ble_eq_true rfl) (m_rlt (q_Words_compares _) (Nat.lt_of_lt_of_le (by decide) (q_Reader_readAsk_ge _))) rfl (fun v58 s58 => ?_)
      refine e_ifne (t := 70) i_Reader_readAsk_61 (by decide) ?_ ?_
      · refine e_aload_n i_Reader_readAsk_70 rfl ?_
        refine e_callV (as := [.ref w]) (st' := []) i_Reader_readAsk_71 lm_367 (Or.inr (Or.inl ⟨rfl, rfl⟩)) w_Reader_advance rfl rfl rfl (Nat.le_of_ble_eq_true rfl) (Nat.le_of_ble_eq_true rfl) (m_rlt (q_Reader_advance _) (Nat.lt_of_lt_of_le (by decide) (q_Reader_readAsk_ge _))) rfl (fun s71 => ?_)
        refine e_aload_n i_Reader_readAsk_74 rfl ?_
        refine e_iload_n i_Reader_readAsk_75 rfl ?_
        refine e_callIg (as := [.ref w, .int n1]) (st' := []) i_Reader_readAsk_76 lm_374 (Or.inr (Or.inl ⟨rfl, rfl⟩)) w_Reader_readSum rfl rfl rfl (Nat.le_of_ble_eq_true rfl) (Nat.le_of_ble_eq_true rfl) rfl (fun v76 s76 => ?_)
        refine e_ifeq (t := 94) i_Reader_readAsk_79 (by decide) ?_ ?_
        · refine e_iconst (v := 0) i_Reader_readAsk_94 (by decide) ?_
          exact e_iretZ i_Reader_readAsk_95 rfl (by decide)
        · refine e_aload_n i_Reader_readAsk_82 rfl ?_
          refine e_iload_n i_Reader_readAsk_83 rfl ?_
          refine e_callI (as := [.ref w, .int v53]) (st' := []) i_Reader_readAsk_84 lm_383 (Or.inr (Or.inl ⟨rfl, rfl⟩)) w_Reader_does rfl rfl rfl (Nat.le_of_ble_eq_true rfl) (Nat.le_of_ble_eq_true rfl) (m_rlt (q_Reader_does _) (Nat.lt_of_lt_of_le (by decide) (q_Reader_readAsk_ge _))) rfl (fun v84 s84 => ?_)
          refine e_ifeq (t := 94) i_Reader_readAsk_87 (by decide) ?_ ?_
          · refine e_iconst (v := 0) i_Reader_readAsk_94 (by decide) ?_
            exact e_iretZ i_Reader_readAsk_95 rfl (by decide)
          · refine e_iconst (v := 1) i_Reader_readAsk_90 (by decide) ?_
            refine e_goto (t := 95) i_Reader_readAsk_91 (by decide) ?_
            exact e_iretZ i_Reader_readAsk_95 rfl (by decide)
      · refine e_aload_n i_Reader_readAsk_64 rfl ?_
        refine e_iconst (v := 1) i_Reader_readAsk_65 (by decide) ?_
        refine e_callI (as := [.ref w, .int 1]) (st' := []) i_Reader_readAsk_66 lm_370 (Or.inr (Or.inl ⟨rfl, rfl⟩)) w_Reader_fails rfl rfl rfl (Nat.le_of_ble_eq_true rfl) (Nat.le_of_ble_eq_true rfl) (m_rlt (q_Reader_fails _) (Nat.lt_of_lt_of_le (by decide) (q_Reader_readAsk_ge _))) rfl (fun v66 s66 => ?_)
        exact e_iretG i_Reader_readAsk_69 rfl
    · refine e_iconst (v := 0) i_Reader_readAsk_50 (by decide) ?_
      exact e_iretZ i_Reader_readAsk_51 rfl (by decide)
  · refine e_aload_n i_Reader_readAsk_9 rfl ?_
    refine e_iload_n i_Reader_readAsk_10 rfl ?_
    refine e_callI (as := [.ref w, .int n1]) (st' := []) i_Reader_readAsk_11 lm_382 (Or.inr (Or.inl ⟨rfl, rfl⟩)) w_Reader_opens rfl rfl rfl (Nat.le_of_ble_eq_true rfl) (Nat.le_of_ble_eq_true rfl) (m_rlt (q_Reader_opens _) (Nat.lt_of_lt_of_le (by decide) (q_Reader_readAsk_ge _))) rfl (fun v11 s11 => ?_)
    refine e_ifeq (t := 40) i_Reader_readAsk_14 (by decide) ?_ ?_
    · refine e_iconst (v := 0) i_Reader_readAsk_40 (by decide) ?_
      exact e_iretZ i_Reader_readAsk_41 rfl (by decide)
    · refine e_aload_n i_Reader_readAsk_17 rfl ?_
      refine e_iload_n i_Reader_readAsk_18 rfl ?_
      refine e_iconst (v := 1) i_Reader_readAsk_19 (by decide) ?_
      refine e_iadd i_Reader_readAsk_20 ?_
      refine e_callIg (as := [.ref w, .int (n1 + (1 : Int32))]) (st' := []) i_Reader_readAsk_21 lm_395 (Or.inr (Or.inl ⟨rfl, rfl⟩)) w_Reader_readAsk rfl rfl rfl (Nat.le_of_ble_eq_true rfl) (Nat.le_of_ble_eq_true rfl) rfl (fun v21 s21 => ?_)
      refine e_ifeq (t := 40) i_Reader_readAsk_24 (by decide) ?_ ?_
      · refine e_iconst (v := 0) i_Reader_readAsk_40 (by decide) ?_
        exact e_iretZ i_Reader_readAsk_41 rfl (by decide)
      · refine e_aload_n i_Reader_readAsk_27 rfl ?_
        refine e_bipush (v := 36) i_Reader_readAsk_28 (by decide) ?_
        refine e_callI (as := [.ref w, .int 36]) (st' := []) i_Reader_readAsk_30 lm_383 (Or.inr (Or.inl ⟨rfl, rfl⟩)) w_Reader_does rfl rfl rfl (Nat.le_of_ble_eq_true rfl) (Nat.le_of_ble_eq_true rfl) (m_rlt (q_Reader_does _) (Nat.lt_of_lt_of_le (by decide) (q_Reader_readAsk_ge _))) rfl (fun v30 s30 => ?_)
        refine e_ifeq (t := 40) i_Reader_readAsk_33 (by decide) ?_ ?_
        · refine e_iconst (v := 0) i_Reader_readAsk_40 (by decide) ?_
          exact e_iretZ i_Reader_readAsk_41 rfl (by decide)
        · refine e_iconst (v := 1) i_Reader_readAsk_36 (by decide) ?_
          refine e_goto (t := 41) i_Reader_readAsk_37 (by decide) ?_
          exact e_iretZ i_Reader_readAsk_41 rfl (by decide)
theorem i_Reader_does_0 : m_at k_Reader_does 0 = some (.aload_n 0, 1, 0) := m_at_of r_Reader_does (by decide +kernel)
theorem i_Reader_does_1 : m_at k_Reader_does 1 = some (.getfield 12, 3, 115) := m_at_of r_Reader_does (by decide +kernel)
theorem i_Reader_does_4 : m_at k_Reader_does 4 = some (.iload_n 1, 1, 0) := m_at_of r_Reader_does (by decide +kernel)
theorem i_Reader_does_5 : m_at k_Reader_does 5 = some (.invokevirtual 140, 3, 380) := m_at_of r_Reader_does (by decide +kernel)
theorem i_Reader_does_8 : m_at k_Reader_does 8 = some (.iconst 1, 1, 0) := m_at_of r_Reader_does (by decide +kernel)
theorem i_Reader_does_9 : m_at k_Reader_does 9 = some (.ireturn, 1, 0) := m_at_of r_Reader_does (by decide +kernel)
set_option maxRecDepth 20000 in
set_option maxHeartbeats 1000000 in
theorem E_Reader_does (x : m_X) (s : m_H) (w : Nat) (n1 : Int32) : m_M x k_Reader_does [.ref w, .int n1] s = if m_isO s w 3 = true then ((m_fR s 3 0 w).bind fun v1 => m_bV (m_M x k_Script_addDeed [.ref v1, .int n1] s) fun s5 => some (some (.int 1), s5)) else none := by
  refine e_M1 (L0 := [some (.ref w), some (.int n1)]) rfl (by decide +kernel) rfl (q_Reader_does _) rfl ?_
  refine e_aload_n i_Reader_does_0 rfl ?_
  refine e_getR i_Reader_does_1 lf_115 (by decide) ft_3_0 (fun v1 => ?_)
  refine e_iload_n i_Reader_does_4 rfl ?_
  refine e_callV (as := [.ref v1, .int n1]) (st' := []) i_Reader_does_5 lm_380 (Or.inr (Or.inl ⟨rfl, rfl⟩)) w_Script_addDeed rfl rfl rfl (Nat.le_of_ble_eq_true rfl) (Nat.le_of_ble_eq_true rfl) (m_rlt (q_Script_addDeed _) (by decide)) rfl (fun s5 => ?_)
  refine e_iconst (v := 1) i_Reader_does_8 (by decide) ?_
  exact e_iretZ i_Reader_does_9 rfl (by decide)
theorem i_Reader_expects_0 : m_at k_Reader_expects 0 = some (.aload_n 0, 1, 0) := m_at_of r_Reader_expects (by decide +kernel)
theorem i_Reader_expects_1 : m_at k_Reader_expects 1 = some (.getfield 41, 3, 119) := m_at_of r_Reader_expects (by decide +kernel)
theorem i_Reader_expects_4 : m_at k_Reader_expects 4 = some (.iload_n 1, 1, 0) := m_at_of r_Reader_expects (by decide +kernel)
theorem i_Reader_expects_5 : m_at k_Reader_expects 5 = some (.if_icmp .eq (9), 3, 0) := m_at_of r_Reader_expects (by decide +kernel)
theorem i_Reader_expects_8 : m_at k_Reader_expects 8 = some (.aload_n 0, 1, 0) := m_at_of r_Reader_expects (by decide +kernel)
theorem i_Reader_expects_9 : m_at k_Reader_expects 9 = some (.iconst 1, 1, 0) := m_at_of r_Reader_expects (by decide +kernel)
theorem i_Reader_expects_10 : m_at k_Reader_expects 10 = some (.invokevirtual 92, 3, 370) := m_at_of r_Reader_expects (by decide +kernel)
theorem i_Reader_expects_13 : m_at k_Reader_expects 13 = some (.ireturn, 1, 0) := m_at_of r_Reader_expects (by decide +kernel)
theorem i_Reader_expects_14 : m_at k_Reader_expects 14 = some (.aload_n 0, 1, 0) := m_at_of r_Reader_expects (by decide +kernel)
theorem i_Reader_expects_15 : m_at k_Reader_expects 15 = some (.invokevirtual 38, 3, 367) := m_at_of r_Reader_expects (by decide +kernel)
theorem i_Reader_expects_18 : m_at k_Reader_expects 18 = some (.iconst 1, 1, 0) := m_at_of r_Reader_expects (by decide +kernel)
theorem i_Reader_expects_19 : m_at k_Reader_expects 19 = some (.ireturn, 1, 0) := m_at_of r_Reader_expects (by decide +kernel)
set_option maxRecDepth 20000 in
set_option maxHeartbeats 1000000 in
theorem E_Reader_expects (x : m_X) (s : m_H) (w : Nat) (n1 : Int32) : m_M x k_Reader_expects [.ref w, .int n1] s = if m_isO s w 3 = true then ((m_fI s 3 5 w).bind fun v1 => if v1 = n1 then (m_bV (m_M x k_Reader_advance [.ref w] s) fun s15 => some (some (.int 1), s15)) else m_bI (m_M x k_Reader_fails [.ref w, .int 1] s) fun v10 s10 => if m_rk (some .boolean) (some (.int v10)) = true then some (some (.int v10), s10) else none) else none := by
  refine e_M1 (L0 := [some (.ref w), some (.int n1)]) rfl (by decide +kernel) rfl (q_Reader_expects _) rfl ?_
  refine e_aload_n i_Reader_expects_0 rfl ?_
  refine e_getI i_Reader_expects_1 lf_119 (by decide) (Or.inl ft_3_5) (fun v1 => ?_)
  refine e_iload_n i_Reader_expects_4 rfl ?_
  refine e_icmpeq (t := 14) i_Reader_expects_5 (by decide) ?_ ?_
  · refine e_aload_n i_Reader_expects_14 rfl ?_
    refine e_callV (as := [.ref w]) (st' := []) i_Reader_expects_15 lm_367 (Or.inr (Or.inl ⟨rfl, rfl⟩)) w_Reader_advance rfl rfl rfl (Nat.le_of_ble_eq_true rfl) (Nat.le_of_ble_eq_true rfl) (m_rlt (q_Reader_advance _) (by decide)) rfl (fun s15 => ?_)
    refine e_iconst (v := 1) i_Reader_expects_18 (by decide) ?_
    exact e_iretZ i_Reader_expects_19 rfl (by decide)
  · refine e_aload_n i_Reader_expects_8 rfl ?_
    refine e_iconst (v := 1) i_Reader_expects_9 (by decide) ?_
    refine e_callI (as := [.ref w, .int 1]) (st' := []) i_Reader_expects_10 lm_370 (Or.inr (Or.inl ⟨rfl, rfl⟩)) w_Reader_fails rfl rfl rfl (Nat.le_of_ble_eq_true rfl) (Nat.le_of_ble_eq_true rfl) (m_rlt (q_Reader_fails _) (by decide)) rfl (fun v10 s10 => ?_)
    exact e_iretG i_Reader_expects_13 rfl
theorem i_Reader_opens_0 : m_at k_Reader_opens 0 = some (.iload_n 1, 1, 0) := m_at_of r_Reader_opens (by decide +kernel)
theorem i_Reader_opens_1 : m_at k_Reader_opens 1 = some (.bipush 8, 2, 0) := m_at_of r_Reader_opens (by decide +kernel)
theorem i_Reader_opens_3 : m_at k_Reader_opens 3 = some (.if_icmp .lt (9), 3, 0) := m_at_of r_Reader_opens (by decide +kernel)
theorem i_Reader_opens_6 : m_at k_Reader_opens 6 = some (.aload_n 0, 1, 0) := m_at_of r_Reader_opens (by decide +kernel)
theorem i_Reader_opens_7 : m_at k_Reader_opens 7 = some (.iconst 3, 1, 0) := m_at_of r_Reader_opens (by decide +kernel)
theorem i_Reader_opens_8 : m_at k_Reader_opens 8 = some (.invokevirtual 92, 3, 370) := m_at_of r_Reader_opens (by decide +kernel)
theorem i_Reader_opens_11 : m_at k_Reader_opens 11 = some (.ireturn, 1, 0) := m_at_of r_Reader_opens (by decide +kernel)
theorem i_Reader_opens_12 : m_at k_Reader_opens 12 = some (.aload_n 0, 1, 0) := m_at_of r_Reader_opens (by decide +kernel)
theorem i_Reader_opens_13 : m_at k_Reader_opens 13 = some (.invokevirtual 38, 3, 367) := m_at_of r_Reader_opens (by decide +kernel)
theorem i_Reader_opens_16 : m_at k_Reader_opens 16 = some (.iconst 1, 1, 0) := m_at_of r_Reader_opens (by decide +kernel)
theorem i_Reader_opens_17 : m_at k_Reader_opens 17 = some (.ireturn, 1, 0) := m_at_of r_Reader_opens (by decide +kernel)
set_option maxRecDepth 20000 in
set_option maxHeartbeats 1000000 in
theorem E_Reader_opens (x : m_X) (s : m_H) (w : Nat) (n1 : Int32) : m_M x k_Reader_opens [.ref w, .int n1] s = if m_isO s w 3 = true then (if n1 < 8 then (m_bV (m_M x k_Reader_advance [.ref w] s) fun s13 => some (some (.int 1), s13)) else m_bI (m_M x k_Reader_fails [.ref w, .int 3] s) fun v8 s8 => if m_rk (some .boolean) (some (.int v8)) = true then some (some (.int v8), s8) else none) else none := by
  refine e_M1 (L0 := [some (.ref w), some (.int n1)]) rfl (by decide +kernel) rfl (q_Reader_opens _) rfl ?_
  refine e_iload_n i_Reader_opens_0 rfl ?_
  refine e_bipush (v := 8) i_Reader_opens_1 (by decide) ?_
  refine e_icmplt (t := 12) i_Reader_opens_3 (by decide) ?_ ?_
  · refine e_aload_n i_Reader_opens_12 rfl ?_
    refine e_callV (as := [.ref w]) (st' := []) i_Reader_opens_13 lm_367 (Or.inr (Or.inl ⟨rfl, rfl⟩)) w_Reader_advance rfl rfl rfl (Nat.le_of_ble_eq_true rfl) (Nat.le_of_ble_eq_true rfl) (m_rlt (q_Reader_advance _) (by decide)) rfl (fun s13 => ?_)
    refine e_iconst (v := 1) i_Reader_opens_16 (by decide) ?_
    exact e_iretZ i_Reader_opens_17 rfl (by decide)
  · refine e_aload_n i_Reader_opens_6 rfl ?_
    refine e_iconst (v := 3) i_Reader_opens_7 (by decide) ?_
    refine e_callI (as := [.ref w, .int 3]) (st' := []) i_Reader_opens_8 lm_370 (Or.inr (Or.inl ⟨rfl, rfl⟩)) w_Reader_fails rfl rfl rfl (Nat.le_of_ble_eq_true rfl) (Nat.le_of_ble_eq_true rfl) (m_rlt (q_Reader_fails _) (by decide)) rfl (fun v8 s8 => ?_)
    exact e_iretG i_Reader_opens_11 rfl
theorem i_Reader_readNumber_0 : m_at k_Reader_readNumber 0 = some (.aload_n 0, 1, 0) := m_at_of r_Reader_readNumber (by decide +kernel)
theorem i_Reader_readNumber_1 : m_at k_Reader_readNumber 1 = some (.getfield 41, 3, 119) := m_at_of r_Reader_readNumber (by decide +kernel)
theorem i_Reader_readNumber_4 : m_at k_Reader_readNumber 4 = some (.bipush 51, 2, 0) := m_at_of r_Reader_readNumber (by decide +kernel)
theorem i_Reader_readNumber_6 : m_at k_Reader_readNumber 6 = some (.if_icmp .eq (9), 3, 0) := m_at_of r_Reader_readNumber (by decide +kernel)
theorem i_Reader_readNumber_9 : m_at k_Reader_readNumber 9 = some (.aload_n 0, 1, 0) := m_at_of r_Reader_readNumber (by decide +kernel)
theorem i_Reader_readNumber_10 : m_at k_Reader_readNumber 10 = some (.iconst 1, 1, 0) := m_at_of r_Reader_readNumber (by decide +kernel)
theorem i_Reader_readNumber_11 : m_at k_Reader_readNumber 11 = some (.invokevirtual 92, 3, 370) := m_at_of r_Reader_readNumber (by decide +kernel)
theorem i_Reader_readNumber_14 : m_at k_Reader_readNumber 14 = some (.ireturn, 1, 0) := m_at_of r_Reader_readNumber (by decide +kernel)
theorem i_Reader_readNumber_15 : m_at k_Reader_readNumber 15 = some (.aload_n 0, 1, 0) := m_at_of r_Reader_readNumber (by decide +kernel)
theorem i_Reader_readNumber_16 : m_at k_Reader_readNumber 16 = some (.getfield 76, 3, 122) := m_at_of r_Reader_readNumber (by decide +kernel)
theorem i_Reader_readNumber_19 : m_at k_Reader_readNumber 19 = some (.iload_n 1, 1, 0) := m_at_of r_Reader_readNumber (by decide +kernel)
theorem i_Reader_readNumber_20 : m_at k_Reader_readNumber 20 = some (.iload_n 2, 1, 0) := m_at_of r_Reader_readNumber (by decide +kernel)
theorem i_Reader_readNumber_21 : m_at k_Reader_readNumber 21 = some (.invokestatic 130, 3, 397) := m_at_of r_Reader_readNumber (by decide +kernel)
theorem i_Reader_readNumber_24 : m_at k_Reader_readNumber 24 = some (.ifCond .ne (9), 3, 0) := m_at_of r_Reader_readNumber (by decide +kernel)
theorem i_Reader_readNumber_27 : m_at k_Reader_readNumber 27 = some (.aload_n 0, 1, 0) := m_at_of r_Reader_readNumber (by decide +kernel)
theorem i_Reader_readNumber_28 : m_at k_Reader_readNumber 28 = some (.iconst 2, 1, 0) := m_at_of r_Reader_readNumber (by decide +kernel)
theorem i_Reader_readNumber_29 : m_at k_Reader_readNumber 29 = some (.invokevirtual 92, 3, 370) := m_at_of r_Reader_readNumber (by decide +kernel)
theorem i_Reader_readNumber_32 : m_at k_Reader_readNumber 32 = some (.ireturn, 1, 0) := m_at_of r_Reader_readNumber (by decide +kernel)
theorem i_Reader_readNumber_33 : m_at k_Reader_readNumber 33 = some (.aload_n 0, 1, 0) := m_at_of r_Reader_readNumber (by decide +kernel)
theorem i_Reader_readNumber_34 : m_at k_Reader_readNumber 34 = some (.getfield 12, 3, 115) := m_at_of r_Reader_readNumber (by decide +kernel)
theorem i_Reader_readNumber_37 : m_at k_Reader_readNumber 37 = some (.aload_n 0, 1, 0) := m_at_of r_Reader_readNumber (by decide +kernel)
theorem i_Reader_readNumber_38 : m_at k_Reader_readNumber 38 = some (.getfield 76, 3, 122) := m_at_of r_Reader_readNumber (by decide +kernel)
theorem i_Reader_readNumber_41 : m_at k_Reader_readNumber 41 = some (.invokevirtual 134, 3, 398) := m_at_of r_Reader_readNumber (by decide +kernel)
theorem i_Reader_readNumber_44 : m_at k_Reader_readNumber 44 = some (.aload_n 0, 1, 0) := m_at_of r_Reader_readNumber (by decide +kernel)
theorem i_Reader_readNumber_45 : m_at k_Reader_readNumber 45 = some (.invokevirtual 38, 3, 367) := m_at_of r_Reader_readNumber (by decide +kernel)
theorem i_Reader_readNumber_48 : m_at k_Reader_readNumber 48 = some (.iconst 1, 1, 0) := m_at_of r_Reader_readNumber (by decide +kernel)
theorem i_Reader_readNumber_49 : m_at k_Reader_readNumber 49 = some (.ireturn, 1, 0) := m_at_of r_Reader_readNumber (by decide +kernel)
set_option maxRecDepth 20000 in
set_option maxHeartbeats 1000000 in
theorem E_Reader_readNumber (x : m_X) (s : m_H) (w : Nat) (n1 : Int32) (n2 : Int32) : m_M x k_Reader_readNumber [.ref w, .int n1, .int n2] s = if m_isO s w 3 = true then ((m_fI s 3 5 w).bind fun v1 => if v1 = 51 then ((m_fI s 3 6 w).bind fun v16 => m_bI (m_M x k_G_isIn [.int v16, .int n1, .int n2] s) fun v21 s21 => if v21 = 0 then (m_bI (m_M x k_Reader_fails [.ref w, .int 2] s21) fun v29 s29 => if m_rk (some .boolean) (some (.int v29)) = true then some (some (.int v29), s29) else none) else (m_fR s21 3 0 w).bind fun v34 => (m_fI s21 3 6 w).bind fun v38 => m_bV (m_M x k_Script_add [.ref v34, .int v38] s21) fun s41 => m_bV (m_M x k_Reader_advance [.ref w] s41) fun s45 => some (some (.int 1), s45)) else m_bI (m_M x k_Reader_fails [.ref w, .int 1] s) fun v11 s11 => if m_rk (some .boolean) (some (.int v11)) = true then some (some (.int v11), s11) else none) else none := by
  refine e_M1 (L0 := [some (.ref w), some (.int n1), some (.int n2)]) rfl (by decide +kernel) rfl (q_Reader_readNumber _) rfl ?_
  refine e_aload_n i_Reader_readNumber_0 rfl ?_
  refine e_getI i_Reader_readNumber_1 lf_119 (by decide) (Or.inl ft_3_5) (fun v1 => ?_)
  refine e_bipush (v := 51) i_Reader_readNumber_4 (by decide) ?_
  refine e_icmpeq (t := 15) i_Reader_readNumber_6 (by decide) ?_ ?_
  · refine e_aload_n i_Reader_readNumber_15 rfl ?_
    refine e_getI i_Reader_readNumber_16 lf_122 (by decide) (Or.inl ft_3_6) (fun v16 => ?_)
    refine e_iload_n i_Reader_readNumber_19 rfl ?_
    refine e_iload_n i_Reader_readNumber_20 rfl ?_
    refine e_callI (as := [.int v16, .int n1, .int n2]) (st' := []) i_Reader_readNumber_21 lm_397 (Or.inl ⟨rfl, rfl⟩) w_G_isIn rfl rfl rfl (Nat.le_of_ble_eq_true rfl) (Nat.le_of_ble_eq_true rfl) (m_rlt (q_G_isIn _) (by decide)) rfl (fun v21 s21 => ?_)
    refine e_ifne (t := 33) i_Reader_readNumber_24 (by decide) ?_ ?_
    · refine e_aload_n i_Reader_readNumber_33 rfl ?_
      refine e_getR i_Reader_readNumber_34 lf_115 (by decide) ft_3_0 (fun v34 => ?_)
      refine e_aload_n i_Reader_readNumber_37 rfl ?_
      refine e_getI i_Reader_readNumber_38 lf_122 (by decide) (Or.inl ft_3_6) (fun v38 => ?_)
      refine e_callV (as := [.ref v34, .int v38]) (st' := []) i_Reader_readNumber_41 lm_398 (Or.inr (Or.inl ⟨rfl, rfl⟩)) w_Script_add rfl rfl rfl (Nat.le_of_ble_eq_true rfl) (Nat.le_of_ble_eq_true rfl) (m_rlt (q_Script_add _) (by decide)) rfl (fun s41 => ?_)
      refine e_aload_n i_Reader_readNumber_44 rfl ?_
      refine e_callV (as := [.ref w]) (st' := []) i_Reader_readNumber_45 lm_367 (Or.inr (Or.inl ⟨rfl, rfl⟩)) w_Reader_advance rfl rfl rfl (Nat.le_of_ble_eq_true rfl) (Nat.le_of_ble_eq_true rfl) (m_rlt (q_Reader_advance _) (by decide)) rfl (fun s45 => ?_)
      refine e_iconst (v := 1) i_Reader_readNumber_48 (by decide) ?_
      exact e_iretZ i_Reader_readNumber_49 rfl (by decide)
    · refine e_aload_n i_Reader_readNumber_27 rfl ?_
      refine e_iconst (v := 2) i_Reader_readNumber_28 (by decide) ?_
      refine e_callI (as := [.ref w, .int 2]) (st' := []) i_Reader_readNumber_29 lm_370 (Or.inr (Or.inl ⟨rfl, rfl⟩)) w_Reader_fails rfl rfl rfl (Nat.le_of_ble_eq_true rfl) (Nat.le_of_ble_eq_true rfl) (m_rlt (q_Reader_fails _) (by decide)) rfl (fun v29 s29 => ?_)
      exact e_iretG i_Reader_readNumber_32 rfl
  · refine e_aload_n i_Reader_readNumber_9 rfl ?_
    refine e_iconst (v := 1) i_Reader_readNumber_10 (by decide) ?_
    refine e_callI (as := [.ref w, .int 1]) (st' := []) i_Reader_readNumber_11 lm_370 (Or.inr (Or.inl ⟨rfl, rfl⟩)) w_Reader_fails rfl rfl rfl (Nat.le_of_ble_eq_true rfl) (Nat.le_of_ble_eq_true rfl) (m_rlt (q_Reader_fails _) (by decide)) rfl (fun v11 s11 => ?_)
    exact e_iretG i_Reader_readNumber_14 rfl
theorem i_Reader_fails_0 : m_at k_Reader_fails 0 = some (.aload_n 0, 1, 0) := m_at_of r_Reader_fails (by decide +kernel)
theorem i_Reader_fails_1 : m_at k_Reader_fails 1 = some (.iload_n 1, 1, 0) := m_at_of r_Reader_fails (by decide +kernel)
theorem i_Reader_fails_2 : m_at k_Reader_fails 2 = some (.putfield 22, 3, 116) := m_at_of r_Reader_fails (by decide +kernel)
theorem i_Reader_fails_5 : m_at k_Reader_fails 5 = some (.aload_n 0, 1, 0) := m_at_of r_Reader_fails (by decide +kernel)
theorem i_Reader_fails_6 : m_at k_Reader_fails 6 = some (.aload_n 0, 1, 0) := m_at_of r_Reader_fails (by decide +kernel)
theorem i_Reader_fails_7 : m_at k_Reader_fails 7 = some (.getfield 50, 3, 123) := m_at_of r_Reader_fails (by decide +kernel)
theorem i_Reader_fails_10 : m_at k_Reader_fails 10 = some (.putfield 26, 3, 117) := m_at_of r_Reader_fails (by decide +kernel)
theorem i_Reader_fails_13 : m_at k_Reader_fails 13 = some (.iconst 0, 1, 0) := m_at_of r_Reader_fails (by decide +kernel)
theorem i_Reader_fails_14 : m_at k_Reader_fails 14 = some (.ireturn, 1, 0) := m_at_of r_Reader_fails (by decide +kernel)
set_option maxRecDepth 20000 in
set_option maxHeartbeats 1000000 in
theorem E_Reader_fails (x : m_X) (s : m_H) (w : Nat) (n1 : Int32) : m_M x k_Reader_fails [.ref w, .int n1] s = if m_isO s w 3 = true then ((m_pf s 3 3 w (.int n1)).bind fun s2 => (m_fI s2 3 7 w).bind fun v7 => (m_pf s2 3 4 w (.int v7)).bind fun s10 => some (some (.int 0), s10)) else none := by
  refine e_M1 (L0 := [some (.ref w), some (.int n1)]) rfl (by decide +kernel) rfl (q_Reader_fails _) rfl ?_
  refine e_aload_n i_Reader_fails_0 rfl ?_
  refine e_iload_n i_Reader_fails_1 rfl ?_
  refine e_putf i_Reader_fails_2 lf_116 ft_3_3 rfl (fun s2 => ?_)
  refine e_aload_n i_Reader_fails_5 rfl ?_
  refine e_aload_n i_Reader_fails_6 rfl ?_
  refine e_getI i_Reader_fails_7 lf_123 (by decide) (Or.inl ft_3_7) (fun v7 => ?_)
  refine e_putf i_Reader_fails_10 lf_117 ft_3_4 rfl (fun s10 => ?_)
  refine e_iconst (v := 0) i_Reader_fails_13 (by decide) ?_
  exact e_iretZ i_Reader_fails_14 rfl (by decide)
