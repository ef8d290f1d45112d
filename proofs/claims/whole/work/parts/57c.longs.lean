-- two loop heads where a dead local may hold a long
theorem E_M_common_28L (x : m_X) (ρ : Nat) (hρ : 1 ≤ ρ) (s : m_H) (l0 : Int64) (l2 : Int64) (l4 : Int64) (l6 : Int64) (l8 : Int64) : m_D x ρ k_M_common 28 [some (.long l0), none, some (.long l2), none, some (.long l4), none, some (.long l6), none, some (.long l8), none] [] s = if l6 = 0 then (some (some (.long l4), s)) else if l6 = 0 then none else m_D x ρ k_M_common 28 [some (.long l0), none, some (.long l2), none, some (.long l6), none, some (.long (l4 - l4 / l6 * l6)), none, some (.long (l4 - l4 / l6 * l6)), none] [] s := by
  refine e_lload i_M_common_28 rfl ?_
  refine e_lconst (v := 0) i_M_common_30 (by decide) ?_
  refine e_lcmpeq (t := 53) i_M_common_31 i_M_common_32 (by decide) ?_ ?_
  · refine e_lload i_M_common_53 rfl ?_
    exact e_lret i_M_common_55 rfl
  · refine e_lload i_M_common_35 rfl ?_
    refine e_lload i_M_common_37 rfl ?_
    refine e_lrem i_M_common_39 ?_
    refine e_lstore (L' := [some (.long l0), none, some (.long l2), none, some (.long l4), none, some (.long l6), none, some (.long (l4 - l4 / l6 * l6)), none]) i_M_common_40 (of_decide_eq_true rfl) rfl ?_
    refine e_lload i_M_common_42 rfl ?_
    refine e_lstore (L' := [some (.long l0), none, some (.long l2), none, some (.long l6), none, some (.long l6), none, some (.long (l4 - l4 / l6 * l6)), none]) i_M_common_44 (of_decide_eq_true rfl) rfl ?_
    refine e_lload i_M_common_46 rfl ?_
    refine e_lstore (L' := [some (.long l0), none, some (.long l2), none, some (.long l6), none, some (.long (l4 - l4 / l6 * l6)), none, some (.long (l4 - l4 / l6 * l6)), none]) i_M_common_48 (of_decide_eq_true rfl) rfl ?_
    refine e_goto (t := 28) i_M_common_50 (by decide) ?_
    exact rfl
theorem E_M_frosts_98L (x : m_X) (ρ : Nat) (hρ : 2 ≤ ρ) (s : m_H) (w : Nat) (n1 : Int32) (n2 : Int32) (n3 : Int32) (n4 : Int32) (n5 : Int32) (l6 : Int64) (n8 : Int32) (n9 : Int32) (l10 : Int64) : m_D x ρ k_M_frosts 98 [some (.ref w), some (.int n1), some (.int n2), some (.int n3), some (.int n4), some (.int n5), some (.long l6), none, some (.int n8), some (.int n9), some (.long l10), none] [] s = if n9 < 0 then (m_D x ρ k_M_frosts 89 [some (.ref w), some (.int n1), some (.int n2), some (.int n3), some (.int n4), some (.int n5), some (.long (l6 * (10 : Int64))), none, some (.int (n8 + (1 : Int32))), some (.int n9), some (.long l10), none] [] s) else if n9 = 0 then (m_D x ρ k_M_frosts 137 [some (.ref w), some (.int n1), some (.int n2), some (.int n3), some (.int n4), some (.int n5), some (.long l6), none, some (.int n8), some (.int n9), some (.long l10), none] [.long 0] s) else (m_fR s 11 34 w).bind fun v113 => (m_la s v113 (n9 - (1 : Int32))).bind fun v120 => (m_fR s 11 35 w).bind fun v125 => (m_la s v125 (n9 - (1 : Int32))).bind fun v132 => m_D x ρ k_M_frosts 137 [some (.ref w), some (.int n1), some (.int n2), some (.int n3), some (.int n4), some (.int n5), some (.long l6), none, some (.int n8), some (.int n9), some (.long l10), none] [.long ((v120 * n2.toInt64) + (v132 * n1.toInt64))] s := by
  refine e_iload i_M_frosts_98 rfl ?_
  refine e_iflt (t := 188) i_M_frosts_100 (by decide) ?_ ?_
  · refine e_lload i_M_frosts_188 rfl ?_
    refine e_ldc2 (q := (1, 498, 10)) i_M_frosts_190 rfl ?_
    refine e_lmul i_M_frosts_193 ?_
    refine e_lstore (L' := [some (.ref w), some (.int n1), some (.int n2), some (.int n3), some (.int n4), some (.int n5), some (.long (l6 * (10 : Int64))), none, some (.int n8), some (.int n9), some (.long l10), none]) i_M_frosts_194 (of_decide_eq_true rfl) rfl ?_
    refine e_iinc (w := 1) (L' := [some (.ref w), some (.int n1), some (.int n2), some (.int n3), some (.int n4), some (.int n5), some (.long (l6 * (10 : Int64))), none, some (.int (n8 + (1 : Int32))), some (.int n9), some (.long l10), none]) i_M_frosts_196 rfl (of_decide_eq_true rfl) (by decide) rfl ?_
    refine e_goto (t := 89) i_M_frosts_199 (by decide) ?_
    exact rfl
  · refine e_iload i_M_frosts_103 rfl ?_
    refine e_ifne (t := 112) i_M_frosts_105 (by decide) ?_ ?_
    · refine e_aload_n i_M_frosts_112 rfl ?_
      refine e_getR i_M_frosts_113 lf_41 (by decide) ft_11_34 (fun v113 => ?_)
      refine e_iload i_M_frosts_116 rfl ?_
      refine e_iconst (v := 1) i_M_frosts_118 (by decide) ?_
      refine e_isub i_M_frosts_119 ?_
      refine e_lald i_M_frosts_120 (fun v120 => ?_)
      refine e_iload_n i_M_frosts_121 rfl ?_
      refine e_i2l i_M_frosts_122 ?_
      refine e_lmul i_M_frosts_123 ?_
      refine e_aload_n i_M_frosts_124 rfl ?_
      refine e_getR i_M_frosts_125 lf_42 (by decide) ft_11_35 (fun v125 => ?_)
      refine e_iload i_M_frosts_128 rfl ?_
      refine e_iconst (v := 1) i_M_frosts_130 (by decide) ?_
      refine e_isub i_M_frosts_131 ?_
      refine e_lald i_M_frosts_132 (fun v132 => ?_)
      refine e_iload_n i_M_frosts_133 rfl ?_
      refine e_i2l i_M_frosts_134 ?_
      refine e_lmul i_M_frosts_135 ?_
      refine e_ladd i_M_frosts_136 ?_
      exact rfl
    · refine e_lconst (v := 0) i_M_frosts_108 (by decide) ?_
      refine e_goto (t := 137) i_M_frosts_109 (by decide) ?_
      exact rfl
theorem E_M_frosts_137L (x : m_X) (ρ : Nat) (hρ : 2 ≤ ρ) (s : m_H) (w : Nat) (n1 : Int32) (n2 : Int32) (n3 : Int32) (n4 : Int32) (n5 : Int32) (l6 : Int64) (n8 : Int32) (n9 : Int32) (l10 : Int64) (lt0 : Int64) : m_D x ρ k_M_frosts 137 [some (.ref w), some (.int n1), some (.int n2), some (.int n3), some (.int n4), some (.int n5), some (.long l6), none, some (.int n8), some (.int n9), some (.long l10), none] [.long lt0] s = (m_fR s 11 34 w).bind fun v140 => (m_fR s 11 34 w).bind fun v146 => (m_la s v146 n9).bind fun v151 => (m_fR s 11 35 w).bind fun v159 => (m_la s v159 n9).bind fun v164 => (m_lst s v140 n9 ((v151 * ((10 : Int32) - n2).toInt64) + (v164 * ((10 : Int32) - n1).toInt64))).bind fun s172 => (m_fR s172 11 35 w).bind fun v174 => (m_lst s172 v174 n9 lt0).bind fun s181 => m_D x ρ k_M_frosts 98 [some (.ref w), some (.int n1), some (.int n2), some (.int n3), some (.int n4), some (.int n5), some (.long l6), none, some (.int n8), some (.int (n9 + (-1 : Int32))), some (.long lt0), none] [] s181 := by
  refine e_lstore (L' := [some (.ref w), some (.int n1), some (.int n2), some (.int n3), some (.int n4), some (.int n5), some (.long l6), none, some (.int n8), some (.int n9), some (.long lt0), none]) i_M_frosts_137 (of_decide_eq_true rfl) rfl ?_
  refine e_aload_n i_M_frosts_139 rfl ?_
  refine e_getR i_M_frosts_140 lf_41 (by decide) ft_11_34 (fun v140 => ?_)
  refine e_iload i_M_frosts_143 rfl ?_
  refine e_aload_n i_M_frosts_145 rfl ?_
  refine e_getR i_M_frosts_146 lf_41 (by decide) ft_11_34 (fun v146 => ?_)
  refine e_iload i_M_frosts_149 rfl ?_
  refine e_lald i_M_frosts_151 (fun v151 => ?_)
  refine e_bipush (v := 10) i_M_frosts_152 (by decide) ?_
  refine e_iload_n i_M_frosts_154 rfl ?_
  refine e_isub i_M_frosts_155 ?_
  refine e_i2l i_M_frosts_156 ?_
  refine e_lmul i_M_frosts_157 ?_
  refine e_aload_n i_M_frosts_158 rfl ?_
  refine e_getR i_M_frosts_159 lf_42 (by decide) ft_11_35 (fun v159 => ?_)
  refine e_iload i_M_frosts_162 rfl ?_
  refine e_lald i_M_frosts_164 (fun v164 => ?_)
  refine e_bipush (v := 10) i_M_frosts_165 (by decide) ?_
  refine e_iload_n i_M_frosts_167 rfl ?_
  refine e_isub i_M_frosts_168 ?_
  refine e_i2l i_M_frosts_169 ?_
  refine e_lmul i_M_frosts_170 ?_
  refine e_ladd i_M_frosts_171 ?_
  refine e_last i_M_frosts_172 (fun s172 => ?_)
  refine e_aload_n i_M_frosts_173 rfl ?_
  refine e_getR i_M_frosts_174 lf_42 (by decide) ft_11_35 (fun v174 => ?_)
  refine e_iload i_M_frosts_177 rfl ?_
  refine e_lload i_M_frosts_179 rfl ?_
  refine e_last i_M_frosts_181 (fun s181 => ?_)
  refine e_iinc (w := (-1)) (L' := [some (.ref w), some (.int n1), some (.int n2), some (.int n3), some (.int n4), some (.int n5), some (.long l6), none, some (.int n8), some (.int (n9 + (-1 : Int32))), some (.long lt0), none]) i_M_frosts_182 rfl (of_decide_eq_true rfl) (by decide) rfl ?_
  refine e_goto (t := 98) i_M_frosts_185 (by decide) ?_
  exact rfl
theorem E_M_frosts_89L (x : m_X) (ρ : Nat) (hρ : 2 ≤ ρ) (s : m_H) (w : Nat) (n1 : Int32) (n2 : Int32) (n3 : Int32) (n4 : Int32) (n5 : Int32) (l6 : Int64) (n8 : Int32) (d9 : Option Value) (l10 : Int64) (hd9 : m_nl d9 = true) : m_D x ρ k_M_frosts 89 [some (.ref w), some (.int n1), some (.int n2), some (.int n3), some (.int n4), some (.int n5), some (.long l6), none, some (.int n8), d9, some (.long l10), none] [] s = if n3 ≤ n8 then ((m_fR s 11 34 w).bind fun v203 => (m_la s v203 n4).bind fun v208 => (m_fR s 11 35 w).bind fun v210 => (m_la s v210 n4).bind fun v215 => if n5 = 0 then (m_bL (m_M x k_M_common [.long (v208 + v215), .long l6] s) fun v235 s235 => if v235 = 0 then none else some (some (.int ((v208 + v215) / v235).toInt32), s235)) else m_bL (m_M x k_M_common [.long (v208 + v215), .long l6] s) fun v235 s235 => if v235 = 0 then none else some (some (.int (l6 / v235).toInt32), s235)) else m_D x ρ k_M_frosts 98 [some (.ref w), some (.int n1), some (.int n2), some (.int n3), some (.int n4), some (.int n5), some (.long l6), none, some (.int n8), some (.int n3), some (.long l10), none] [] s := by
  refine e_iload i_M_frosts_89 rfl ?_
  refine e_iload_n i_M_frosts_91 rfl ?_
  refine e_icmpge (t := 202) i_M_frosts_92 (by decide) ?_ ?_
  · refine e_aload_n i_M_frosts_202 rfl ?_
    refine e_getR i_M_frosts_203 lf_41 (by decide) ft_11_34 (fun v203 => ?_)
    refine e_iload i_M_frosts_206 rfl ?_
    refine e_lald i_M_frosts_208 (fun v208 => ?_)
    refine e_aload_n i_M_frosts_209 rfl ?_
    refine e_getR i_M_frosts_210 lf_42 (by decide) ft_11_35 (fun v210 => ?_)
    refine e_iload i_M_frosts_213 rfl ?_
    refine e_lald i_M_frosts_215 (fun v215 => ?_)
    refine e_ladd i_M_frosts_216 ?_
    refine e_lstore (L' := [some (.ref w), some (.int n1), some (.int n2), some (.int n3), some (.int n4), some (.int n5), some (.long l6), none, some (.long (v208 + v215)), none, some (.long l10), none]) i_M_frosts_217 (of_decide_eq_true rfl) rfl ?_
    refine e_iload i_M_frosts_219 rfl ?_
    refine e_ifeq (t := 229) i_M_frosts_221 (by decide) ?_ ?_
    · refine e_lload i_M_frosts_229 rfl ?_
      refine e_lload i_M_frosts_231 rfl ?_
      refine e_lload i_M_frosts_233 rfl ?_
      refine e_callL (as := [.long (v208 + v215), .long l6]) (st' := [.long (v208 + v215)]) i_M_frosts_235 lm_136 (Or.inl ⟨rfl, rfl⟩) w_M_common rfl rfl rfl (Nat.le_of_ble_eq_true rfl) (Nat.le_of_ble_eq_true rfl) (m_rlt (q_M_common _) (Nat.lt_of_lt_of_le (by decide) hρ)) rfl (fun v235 s235 => ?_)
      refine e_ldiv i_M_frosts_238 ?_
      refine e_l2i i_M_frosts_239 ?_
      exact e_iretI i_M_frosts_240 rfl
    · refine e_lload i_M_frosts_224 rfl ?_
      refine e_goto (t := 231) i_M_frosts_226 (by decide) ?_
      refine e_lload i_M_frosts_231 rfl ?_
      refine e_lload i_M_frosts_233 rfl ?_
      refine e_callL (as := [.long (v208 + v215), .long l6]) (st' := [.long l6]) i_M_frosts_235 lm_136 (Or.inl ⟨rfl, rfl⟩) w_M_common rfl rfl rfl (Nat.le_of_ble_eq_true rfl) (Nat.le_of_ble_eq_true rfl) (m_rlt (q_M_common _) (Nat.lt_of_lt_of_le (by decide) hρ)) rfl (fun v235 s235 => ?_)
      refine e_ldiv i_M_frosts_238 ?_
      refine e_l2i i_M_frosts_239 ?_
      exact e_iretI i_M_frosts_240 rfl
  · refine e_iload_n i_M_frosts_95 rfl ?_
    refine e_istore (L' := [some (.ref w), some (.int n1), some (.int n2), some (.int n3), some (.int n4), some (.int n5), some (.long l6), none, some (.int n8), some (.int n3), some (.long l10), none]) i_M_frosts_96 (of_decide_eq_true rfl) rfl ?_
    exact rfl
