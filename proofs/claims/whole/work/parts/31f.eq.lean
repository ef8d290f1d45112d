theorem i_M_init_0 : m_at k_M_init 0 = some (.aload_n 0, 1, 0) := m_at_of r_M_init (by decide +kernel)
theorem i_M_init_1 : m_at k_M_init 1 = some (.invokespecial 1, 3, 427) := m_at_of r_M_init (by decide +kernel)
theorem i_M_init_4 : m_at k_M_init 4 = some (.aload_n 0, 1, 0) := m_at_of r_M_init (by decide +kernel)
theorem i_M_init_5 : m_at k_M_init 5 = some (.sipush 11730, 3, 0) := m_at_of r_M_init (by decide +kernel)
theorem i_M_init_8 : m_at k_M_init 8 = some (.newarray .int, 2, 0) := m_at_of r_M_init (by decide +kernel)
theorem i_M_init_10 : m_at k_M_init 10 = some (.putfield 7, 3, 0) := m_at_of r_M_init (by decide +kernel)
theorem i_M_init_13 : m_at k_M_init 13 = some (.aload_n 0, 1, 0) := m_at_of r_M_init (by decide +kernel)
theorem i_M_init_14 : m_at k_M_init 14 = some (.sipush 11730, 3, 0) := m_at_of r_M_init (by decide +kernel)
theorem i_M_init_17 : m_at k_M_init 17 = some (.newarray .int, 2, 0) := m_at_of r_M_init (by decide +kernel)
theorem i_M_init_19 : m_at k_M_init 19 = some (.putfield 13, 3, 16) := m_at_of r_M_init (by decide +kernel)
theorem i_M_init_22 : m_at k_M_init 22 = some (.aload_n 0, 1, 0) := m_at_of r_M_init (by decide +kernel)
theorem i_M_init_23 : m_at k_M_init 23 = some (.sipush 3012, 3, 0) := m_at_of r_M_init (by decide +kernel)
theorem i_M_init_26 : m_at k_M_init 26 = some (.newarray .int, 2, 0) := m_at_of r_M_init (by decide +kernel)
theorem i_M_init_28 : m_at k_M_init 28 = some (.putfield 16, 3, 79) := m_at_of r_M_init (by decide +kernel)
theorem i_M_init_31 : m_at k_M_init 31 = some (.aload_n 0, 1, 0) := m_at_of r_M_init (by decide +kernel)
theorem i_M_init_32 : m_at k_M_init 32 = some (.sipush 300, 3, 0) := m_at_of r_M_init (by decide +kernel)
theorem i_M_init_35 : m_at k_M_init 35 = some (.newarray .int, 2, 0) := m_at_of r_M_init (by decide +kernel)
theorem i_M_init_37 : m_at k_M_init 37 = some (.putfield 19, 3, 111) := m_at_of r_M_init (by decide +kernel)
theorem i_M_init_40 : m_at k_M_init 40 = some (.aload_n 0, 1, 0) := m_at_of r_M_init (by decide +kernel)
theorem i_M_init_41 : m_at k_M_init 41 = some (.iconst (-1), 1, 0) := m_at_of r_M_init (by decide +kernel)
theorem i_M_init_42 : m_at k_M_init 42 = some (.putfield 22, 3, 94) := m_at_of r_M_init (by decide +kernel)
theorem i_M_init_45 : m_at k_M_init 45 = some (.aload_n 0, 1, 0) := m_at_of r_M_init (by decide +kernel)
theorem i_M_init_46 : m_at k_M_init 46 = some (.iconst (-1), 1, 0) := m_at_of r_M_init (by decide +kernel)
theorem i_M_init_47 : m_at k_M_init 47 = some (.putfield 26, 3, 95) := m_at_of r_M_init (by decide +kernel)
theorem i_M_init_50 : m_at k_M_init 50 = some (.aload_n 0, 1, 0) := m_at_of r_M_init (by decide +kernel)
theorem i_M_init_51 : m_at k_M_init 51 = some (.sipush 160, 3, 0) := m_at_of r_M_init (by decide +kernel)
theorem i_M_init_54 : m_at k_M_init 54 = some (.newarray .int, 2, 0) := m_at_of r_M_init (by decide +kernel)
theorem i_M_init_56 : m_at k_M_init 56 = some (.putfield 29, 3, 109) := m_at_of r_M_init (by decide +kernel)
theorem i_M_init_59 : m_at k_M_init 59 = some (.aload_n 0, 1, 0) := m_at_of r_M_init (by decide +kernel)
theorem i_M_init_60 : m_at k_M_init 60 = some (.bipush 14, 2, 0) := m_at_of r_M_init (by decide +kernel)
theorem i_M_init_62 : m_at k_M_init 62 = some (.newarray .int, 2, 0) := m_at_of r_M_init (by decide +kernel)
theorem i_M_init_64 : m_at k_M_init 64 = some (.putfield 32, 3, 82) := m_at_of r_M_init (by decide +kernel)
theorem i_M_init_67 : m_at k_M_init 67 = some (.aload_n 0, 1, 0) := m_at_of r_M_init (by decide +kernel)
theorem i_M_init_68 : m_at k_M_init 68 = some (.sipush 330, 3, 0) := m_at_of r_M_init (by decide +kernel)
theorem i_M_init_71 : m_at k_M_init 71 = some (.newarray .long, 2, 0) := m_at_of r_M_init (by decide +kernel)
theorem i_M_init_73 : m_at k_M_init 73 = some (.putfield 35, 3, 84) := m_at_of r_M_init (by decide +kernel)
theorem i_M_init_76 : m_at k_M_init 76 = some (.aload_n 0, 1, 0) := m_at_of r_M_init (by decide +kernel)
theorem i_M_init_77 : m_at k_M_init 77 = some (.sipush 330, 3, 0) := m_at_of r_M_init (by decide +kernel)
theorem i_M_init_80 : m_at k_M_init 80 = some (.newarray .boolean, 2, 0) := m_at_of r_M_init (by decide +kernel)
theorem i_M_init_82 : m_at k_M_init 82 = some (.putfield 39, 3, 85) := m_at_of r_M_init (by decide +kernel)
theorem i_M_init_85 : m_at k_M_init 85 = some (.aload_n 0, 1, 0) := m_at_of r_M_init (by decide +kernel)
theorem i_M_init_86 : m_at k_M_init 86 = some (.iconst 1, 1, 0) := m_at_of r_M_init (by decide +kernel)
theorem i_M_init_87 : m_at k_M_init 87 = some (.putfield 43, 3, 78) := m_at_of r_M_init (by decide +kernel)
theorem i_M_init_90 : m_at k_M_init 90 = some (.aload_n 0, 1, 0) := m_at_of r_M_init (by decide +kernel)
theorem i_M_init_91 : m_at k_M_init 91 = some (.bipush 7, 2, 0) := m_at_of r_M_init (by decide +kernel)
theorem i_M_init_93 : m_at k_M_init 93 = some (.newarray .int, 2, 0) := m_at_of r_M_init (by decide +kernel)
theorem i_M_init_95 : m_at k_M_init 95 = some (.putfield 47, 3, 75) := m_at_of r_M_init (by decide +kernel)
theorem i_M_init_98 : m_at k_M_init 98 = some (.aload_n 0, 1, 0) := m_at_of r_M_init (by decide +kernel)
theorem i_M_init_99 : m_at k_M_init 99 = some (.bipush 112, 2, 0) := m_at_of r_M_init (by decide +kernel)
theorem i_M_init_101 : m_at k_M_init 101 = some (.newarray .int, 2, 0) := m_at_of r_M_init (by decide +kernel)
theorem i_M_init_103 : m_at k_M_init 103 = some (.putfield 50, 3, 77) := m_at_of r_M_init (by decide +kernel)
theorem i_M_init_106 : m_at k_M_init 106 = some (.aload_n 0, 1, 0) := m_at_of r_M_init (by decide +kernel)
theorem i_M_init_107 : m_at k_M_init 107 = some (.bipush 12, 2, 0) := m_at_of r_M_init (by decide +kernel)
theorem i_M_init_109 : m_at k_M_init 109 = some (.newarray .int, 2, 0) := m_at_of r_M_init (by decide +kernel)
theorem i_M_init_111 : m_at k_M_init 111 = some (.putfield 53, 3, 70) := m_at_of r_M_init (by decide +kernel)
theorem i_M_init_114 : m_at k_M_init 114 = some (.aload_n 0, 1, 0) := m_at_of r_M_init (by decide +kernel)
theorem i_M_init_115 : m_at k_M_init 115 = some (.sipush 128, 3, 0) := m_at_of r_M_init (by decide +kernel)
theorem i_M_init_118 : m_at k_M_init 118 = some (.newarray .int, 2, 0) := m_at_of r_M_init (by decide +kernel)
theorem i_M_init_120 : m_at k_M_init 120 = some (.putfield 56, 3, 65) := m_at_of r_M_init (by decide +kernel)
theorem i_M_init_123 : m_at k_M_init 123 = some (.aload_n 0, 1, 0) := m_at_of r_M_init (by decide +kernel)
theorem i_M_init_124 : m_at k_M_init 124 = some (.sipush 128, 3, 0) := m_at_of r_M_init (by decide +kernel)
theorem i_M_init_127 : m_at k_M_init 127 = some (.newarray .int, 2, 0) := m_at_of r_M_init (by decide +kernel)
theorem i_M_init_129 : m_at k_M_init 129 = some (.putfield 59, 3, 66) := m_at_of r_M_init (by decide +kernel)
theorem i_M_init_132 : m_at k_M_init 132 = some (.aload_n 0, 1, 0) := m_at_of r_M_init (by decide +kernel)
theorem i_M_init_133 : m_at k_M_init 133 = some (.bipush 7, 2, 0) := m_at_of r_M_init (by decide +kernel)
theorem i_M_init_135 : m_at k_M_init 135 = some (.newarray .int, 2, 0) := m_at_of r_M_init (by decide +kernel)
theorem i_M_init_137 : m_at k_M_init 137 = some (.putfield 62, 3, 59) := m_at_of r_M_init (by decide +kernel)
theorem i_M_init_140 : m_at k_M_init 140 = some (.aload_n 0, 1, 0) := m_at_of r_M_init (by decide +kernel)
theorem i_M_init_141 : m_at k_M_init 141 = some (.bipush 7, 2, 0) := m_at_of r_M_init (by decide +kernel)
theorem i_M_init_143 : m_at k_M_init 143 = some (.newarray .int, 2, 0) := m_at_of r_M_init (by decide +kernel)
theorem i_M_init_145 : m_at k_M_init 145 = some (.putfield 65, 3, 63) := m_at_of r_M_init (by decide +kernel)
theorem i_M_init_148 : m_at k_M_init 148 = some (.aload_n 0, 1, 0) := m_at_of r_M_init (by decide +kernel)
theorem i_M_init_149 : m_at k_M_init 149 = some (.sipush 896, 3, 0) := m_at_of r_M_init (by decide +kernel)
theorem i_M_init_152 : m_at k_M_init 152 = some (.newarray .int, 2, 0) := m_at_of r_M_init (by decide +kernel)
theorem i_M_init_154 : m_at k_M_init 154 = some (.putfield 68, 3, 48) := m_at_of r_M_init (by decide +kernel)
theorem i_M_init_157 : m_at k_M_init 157 = some (.aload_n 0, 1, 0) := m_at_of r_M_init (by decide +kernel)
theorem i_M_init_158 : m_at k_M_init 158 = some (.bipush 10, 2, 0) := m_at_of r_M_init (by decide +kernel)
theorem i_M_init_160 : m_at k_M_init 160 = some (.newarray .long, 2, 0) := m_at_of r_M_init (by decide +kernel)
theorem i_M_init_162 : m_at k_M_init 162 = some (.putfield 71, 3, 41) := m_at_of r_M_init (by decide +kernel)
theorem i_M_init_165 : m_at k_M_init 165 = some (.aload_n 0, 1, 0) := m_at_of r_M_init (by decide +kernel)
theorem i_M_init_166 : m_at k_M_init 166 = some (.bipush 10, 2, 0) := m_at_of r_M_init (by decide +kernel)
theorem i_M_init_168 : m_at k_M_init 168 = some (.newarray .long, 2, 0) := m_at_of r_M_init (by decide +kernel)
theorem i_M_init_170 : m_at k_M_init 170 = some (.putfield 74, 3, 42) := m_at_of r_M_init (by decide +kernel)
theorem i_M_init_173 : m_at k_M_init 173 = some (.aload_n 0, 1, 0) := m_at_of r_M_init (by decide +kernel)
theorem i_M_init_174 : m_at k_M_init 174 = some (.getfield 7, 3, 0) := m_at_of r_M_init (by decide +kernel)
theorem i_M_init_177 : m_at k_M_init 177 = some (.bipush 10, 2, 0) := m_at_of r_M_init (by decide +kernel)
theorem i_M_init_179 : m_at k_M_init 179 = some (.sipush 139, 3, 0) := m_at_of r_M_init (by decide +kernel)
theorem i_M_init_182 : m_at k_M_init 182 = some (.iastore, 1, 0) := m_at_of r_M_init (by decide +kernel)
theorem i_M_init_183 : m_at k_M_init 183 = some (.aload_n 0, 1, 0) := m_at_of r_M_init (by decide +kernel)
theorem i_M_init_184 : m_at k_M_init 184 = some (.getfield 7, 3, 0) := m_at_of r_M_init (by decide +kernel)
theorem i_M_init_187 : m_at k_M_init 187 = some (.iconst 2, 1, 0) := m_at_of r_M_init (by decide +kernel)
theorem i_M_init_188 : m_at k_M_init 188 = some (.iconst (-1), 1, 0) := m_at_of r_M_init (by decide +kernel)
theorem i_M_init_189 : m_at k_M_init 189 = some (.iastore, 1, 0) := m_at_of r_M_init (by decide +kernel)
theorem i_M_init_190 : m_at k_M_init 190 = some (.iconst 0, 1, 0) := m_at_of r_M_init (by decide +kernel)
theorem i_M_init_191 : m_at k_M_init 191 = some (.istore_n 1, 1, 0) := m_at_of r_M_init (by decide +kernel)
theorem i_M_init_192 : m_at k_M_init 192 = some (.iload_n 1, 1, 0) := m_at_of r_M_init (by decide +kernel)
theorem i_M_init_193 : m_at k_M_init 193 = some (.bipush 12, 2, 0) := m_at_of r_M_init (by decide +kernel)
theorem i_M_init_195 : m_at k_M_init 195 = some (.if_icmp .ge (20), 3, 0) := m_at_of r_M_init (by decide +kernel)
theorem i_M_init_198 : m_at k_M_init 198 = some (.aload_n 0, 1, 0) := m_at_of r_M_init (by decide +kernel)
theorem i_M_init_199 : m_at k_M_init 199 = some (.getfield 7, 3, 0) := m_at_of r_M_init (by decide +kernel)
theorem i_M_init_202 : m_at k_M_init 202 = some (.sipush 168, 3, 0) := m_at_of r_M_init (by decide +kernel)
theorem i_M_init_205 : m_at k_M_init 205 = some (.iload_n 1, 1, 0) := m_at_of r_M_init (by decide +kernel)
theorem i_M_init_206 : m_at k_M_init 206 = some (.iadd, 1, 0) := m_at_of r_M_init (by decide +kernel)
theorem i_M_init_207 : m_at k_M_init 207 = some (.iconst 1, 1, 0) := m_at_of r_M_init (by decide +kernel)
theorem i_M_init_208 : m_at k_M_init 208 = some (.iastore, 1, 0) := m_at_of r_M_init (by decide +kernel)
theorem i_M_init_209 : m_at k_M_init 209 = some (.iinc 1 (1), 3, 0) := m_at_of r_M_init (by decide +kernel)
theorem i_M_init_212 : m_at k_M_init 212 = some (.goto (-20), 3, 0) := m_at_of r_M_init (by decide +kernel)
theorem i_M_init_215 : m_at k_M_init 215 = some (.aload_n 0, 1, 0) := m_at_of r_M_init (by decide +kernel)
theorem i_M_init_216 : m_at k_M_init 216 = some (.getfield 7, 3, 0) := m_at_of r_M_init (by decide +kernel)
theorem i_M_init_219 : m_at k_M_init 219 = some (.aload_n 0, 1, 0) := m_at_of r_M_init (by decide +kernel)
theorem i_M_init_220 : m_at k_M_init 220 = some (.getfield 13, 3, 16) := m_at_of r_M_init (by decide +kernel)
theorem i_M_init_223 : m_at k_M_init 223 = some (.invokestatic 77, 3, 97) := m_at_of r_M_init (by decide +kernel)
theorem i_M_init_226 : m_at k_M_init 226 = some (.return_, 1, 0) := m_at_of r_M_init (by decide +kernel)
set_option maxRecDepth 20000 in
set_option maxHeartbeats 1000000 in
theorem E_M_init (x : m_X) (s : m_H) (w : Nat) : m_M x k_M_init [.ref w] s = if s.length < 900 ∧ ¬ 11730 < (0 : Int32) ∧ (11730 : Int32).toNatClampNeg ≤ 100000 then ((m_pf (s ++ [.inl (0, (11730 : Int32).toNatClampNeg, .inl fun _ => 0)]) 11 0 w (.ref s.length)).bind fun s10 => if s10.length < 900 ∧ ¬ 11730 < (0 : Int32) ∧ (11730 : Int32).toNatClampNeg ≤ 100000 then ((m_pf (s10 ++ [.inl (0, (11730 : Int32).toNatClampNeg, .inl fun _ => 0)]) 11 1 w (.ref s10.length)).bind fun s19 => if s19.length < 900 ∧ ¬ 3012 < (0 : Int32) ∧ (3012 : Int32).toNatClampNeg ≤ 100000 then ((m_pf (s19 ++ [.inl (0, (3012 : Int32).toNatClampNeg, .inl fun _ => 0)]) 11 2 w (.ref s19.length)).bind fun s28 => if s28.length < 900 ∧ ¬ 300 < (0 : Int32) ∧ (300 : Int32).toNatClampNeg ≤ 100000 then ((m_pf (s28 ++ [.inl (0, (300 : Int32).toNatClampNeg, .inl fun _ => 0)]) 11 3 w (.ref s28.length)).bind fun s37 => (m_pf s37 11 5 w (.int (-1))).bind fun s42 => (m_pf s42 11 6 w (.int (-1))).bind fun s47 => if s47.length < 900 ∧ ¬ 160 < (0 : Int32) ∧ (160 : Int32).toNatClampNeg ≤ 100000 then ((m_pf (s47 ++ [.inl (0, (160 : Int32).toNatClampNeg, .inl fun _ => 0)]) 11 15 w (.ref s47.length)).bind fun s56 => if s56.length < 900 ∧ ¬ 14 < (0 : Int32) ∧ (14 : Int32).toNatClampNeg ≤ 100000 then ((m_pf (s56 ++ [.inl (0, (14 : Int32).toNatClampNeg, .inl fun _ => 0)]) 11 20 w (.ref s56.length)).bind fun s64 => if s64.length < 900 ∧ ¬ 330 < (0 : Int32) ∧ (330 : Int32).toNatClampNeg ≤ 100000 then ((m_pf (s64 ++ [.inl (1, (330 : Int32).toNatClampNeg, .inr (.inl fun _ => 0))]) 11 21 w (.ref s64.length)).bind fun s73 => if s73.length < 900 ∧ ¬ 330 < (0 : Int32) ∧ (330 : Int32).toNatClampNeg ≤ 100000 then ((m_pf (s73 ++ [.inl (2, (330 : Int32).toNatClampNeg, .inl fun _ => 0)]) 11 22 w (.ref s73.length)).bind fun s82 => (m_pf s82 11 23 w (.int 1)).bind fun s87 => if s87.length < 900 ∧ ¬ 7 < (0 : Int32) ∧ (7 : Int32).toNatClampNeg ≤ 100000 then ((m_pf (s87 ++ [.inl (0, (7 : Int32).toNatClampNeg, .inl fun _ => 0)]) 11 24 w (.ref s87.length)).bind fun s95 => if s95.length < 900 ∧ ¬ 112 < (0 : Int32) ∧ (112 : Int32).toNatClampNeg ≤ 100000 then ((m_pf (s95 ++ [.inl (0, (112 : Int32).toNatClampNeg, .inl fun _ => 0)]) 11 25 w (.ref s95.length)).bind fun s103 => if s103.length < 900 ∧ ¬ 12 < (0 : Int32) ∧ (12 : Int32).toNatClampNeg ≤ 100000 then ((m_pf (s103 ++ [.inl (0, (12 : Int32).toNatClampNeg, .inl fun _ => 0)]) 11 26 w (.ref s103.length)).bind fun s111 => if s111.length < 900 ∧ ¬ 128 < (0 : Int32) ∧ (128 : Int32).toNatClampNeg ≤ 100000 then ((m_pf (s111 ++ [.inl (0, (128 : Int32).toNatClampNeg, .inl fun _ => 0)]) 11 27 w (.ref s111.length)).bind fun s120 => if s120.length < 900 ∧ ¬ 128 < (0 : Int32) ∧ (128 : Int32).toNatClampNeg ≤ 100000 then ((m_pf (s120 ++ [.inl (0, (128 : Int32).toNatClampNeg, .inl fun _ => 0)]) 11 28 w (.ref s120.length)).bind fun s129 => if s129.length < 900 ∧ ¬ 7 < (0 : Int32) ∧ (7 : Int32).toNatClampNeg ≤ 100000 then ((m_pf (s129 ++ [.inl (0, (7 : Int32).toNatClampNeg, .inl fun _ => 0)]) 11 29 w (.ref s129.length)).bind fun s137 => if s137.length < 900 ∧ ¬ 7 < (0 : Int32) ∧ (7 : Int32).toNatClampNeg ≤ 100000 then ((m_pf (s137 ++ [.inl (0, (7 : Int32).toNatClampNeg, .inl fun _ => 0)]) 11 30 w (.ref s137.length)).bind fun s145 => if s145.length < 900 ∧ ¬ 896 < (0 : Int32) ∧ (896 : Int32).toNatClampNeg ≤ 100000 then ((m_pf (s145 ++ [.inl (0, (896 : Int32).toNatClampNeg, .inl fun _ => 0)]) 11 33 w (.ref s145.length)).bind fun s154 => if s154.length < 900 ∧ ¬ 10 < (0 : Int32) ∧ (10 : Int32).toNatClampNeg ≤ 100000 then ((m_pf (s154 ++ [.inl (1, (10 : Int32).toNatClampNeg, .inr (.inl fun _ => 0))]) 11 34 w (.ref s154.length)).bind fun s162 => if s162.length < 900 ∧ ¬ 10 < (0 : Int32) ∧ (10 : Int32).toNatClampNeg ≤ 100000 then ((m_pf (s162 ++ [.inl (1, (10 : Int32).toNatClampNeg, .inr (.inl fun _ => 0))]) 11 35 w (.ref s162.length)).bind fun s170 => (m_fR s170 11 0 w).bind fun v174 => (m_is s170 v174 10 139).bind fun s182 => (m_fR s182 11 0 w).bind fun v184 => (m_is s182 v184 2 (-1)).bind fun s189 => m_D x 2 k_M_init 192 [some (.ref w), some (.int 0)] [] s189) else none) else none) else none) else none) else none) else none) else none) else none) else none) else none) else none) else none) else none) else none) else none) else none) else none) else none := by
  refine e_M2 (L0 := [some (.ref w), none]) rfl (q_M_init _) rfl ?_
  refine e_aload_n i_M_init_0 rfl ?_
  refine e_oinit i_M_init_1 lm_427 (Nat.le_of_ble_eq_true rfl) ?_
  refine e_aload_n i_M_init_4 rfl ?_
  refine e_sipush (v := 11730) i_M_init_5 (by decide) ?_
  refine e_newI i_M_init_8 ?_
  refine e_putf i_M_init_10 lf_0 ft_11_0 rfl (fun s10 => ?_)
  refine e_aload_n i_M_init_13 rfl ?_
  refine e_sipush (v := 11730) i_M_init_14 (by decide) ?_
  refine e_newI i_M_init_17 ?_
  refine e_putf i_M_init_19 lf_16 ft_11_1 rfl (fun s19 => ?_)
  refine e_aload_n i_M_init_22 rfl ?_
  refine e_sipush (v := 3012) i_M_init_23 (by decide) ?_
  refine e_newI i_M_init_26 ?_
  refine e_putf i_M_init_28 lf_79 ft_11_2 rfl (fun s28 => ?_)
  refine e_aload_n i_M_init_31 rfl ?_
  refine e_sipush (v := 300) i_M_init_32 (by decide) ?_
  refine e_newI i_M_init_35 ?_
  refine e_putf i_M_init_37 lf_111 ft_11_3 rfl (fun s37 => ?_)
  refine e_aload_n i_M_init_40 rfl ?_
  refine e_iconst (v := (-1)) i_M_init_41 (by decide) ?_
  refine e_putf i_M_init_42 lf_94 ft_11_5 rfl (fun s42 => ?_)
  refine e_aload_n i_M_init_45 rfl ?_
  refine e_iconst (v := (-1)) i_M_init_46 (by decide) ?_
  refine e_putf i_M_init_47 lf_95 ft_11_6 rfl (fun s47 => ?_)
  refine e_aload_n i_M_init_50 rfl ?_
  refine e_sipush (v := 160) i_M_init_51 (by decide) ?_
  refine e_newI i_M_init_54 ?_
  refine e_putf i_M_init_56 lf_109 ft_11_15 rfl (fun s56 => ?_)
  refine e_aload_n i_M_init_59 rfl ?_
  refine e_bipush (v := 14) i_M_init_60 (by decide) ?_
  refine e_newI i_M_init_62 ?_
  refine e_putf i_M_init_64 lf_82 ft_11_20 rfl (fun s64 => ?_)
  refine e_aload_n i_M_init_67 rfl ?_
  refine e_sipush (v := 330) i_M_init_68 (by decide) ?_
  refine e_newL i_M_init_71 ?_
  refine e_putf i_M_init_73 lf_84 ft_11_21 rfl (fun s73 => ?_)
  refine e_aload_n i_M_init_76 rfl ?_
  refine e_sipush (v := 330) i_M_init_77 (by decide) ?_
  refine e_newZ i_M_init_80 ?_
  refine e_putf i_M_init_82 lf_85 ft_11_22 rfl (fun s82 => ?_)
  refine e_aload_n i_M_init_85 rfl ?_
  refine e_iconst (v := 1) i_M_init_86 (by decide) ?_
  refine e_putf i_M_init_87 lf_78 ft_11_23 (by decide) (fun s87 => ?_)
  refine e_aload_n i_M_init_90 rfl ?_
  refine e_bipush (v := 7) i_M_init_91 (by decide) ?_
  refine e_newI i_M_init_93 ?_
  refine e_putf i_M_init_95 lf_75 ft_11_24 rfl (fun s95 => ?_)
  refine e_aload_n i_M_init_98 rfl ?_
  refine e_bipush (v := 112) i_M_init_99 (by decide) ?_
  refine e_newI i_M_init_101 ?_
  refine e_putf i_M_init_103 lf_77 ft_11_25 rfl (fun s103 => ?_)
  refine e_aload_n i_M_init_106 rfl ?_
  refine e_bipush (v := 12) i_M_init_107 (by decide) ?_
  refine e_newI i_M_init_109 ?_
  refine e_putf i_M_init_111 lf_70 ft_11_26 rfl (fun s111 => ?_)
  refine e_aload_n i_M_init_114 rfl ?_
  refine e_sipush (v := 128) i_M_init_115 (by decide) ?_
  refine e_newI i_M_init_118 ?_
  refine e_putf i_M_init_120 lf_65 ft_11_27 rfl (fun s120 => ?_)
  refine e_aload_n i_M_init_123 rfl ?_
  refine e_sipush (v := 128) i_M_init_124 (by decide) ?_
  refine e_newI i_M_init_127 ?_
  refine e_putf i_M_init_129 lf_66 ft_11_28 rfl (fun s129 => ?_)
  refine e_aload_n i_M_init_132 rfl ?_
  refine e_bipush (v := 7) i_M_init_133 (by decide) ?_
  refine e_newI i_M_init_135 ?_
  refine e_putf i_M_init_137 lf_59 ft_11_29 rfl (fun s137 => ?_)
  refine e_aload_n i_M_init_140 rfl ?_
  refine e_bipush (v := 7) i_M_init_141 (by decide) ?_
  refine e_newI i_M_init_143 ?_
  refine e_putf i_M_init_145 lf_63 ft_11_30 rfl (fun s145 => ?_)
  refine e_aload_n i_M_init_148 rfl ?_
  refine e_sipush (v := 896) i_M_init_149 (by decide) ?_
  refine e_newI i_M_init_152 ?_
  refine e_putf i_M_init_154 lf_48 ft_11_33 rfl (fun s154 => ?_)
  refine e_aload_n i_M_init_157 rfl ?_
  refine e_bipush (v := 10) i_M_init_158 (by decide) ?_
  refine e_newL i_M_init_160 ?_
  refine e_putf i_M_init_162 lf_41 ft_11_34 rfl (fun s162 => ?_)
  refine e_aload_n i_M_init_165 rfl ?_
  refine e_bipush (v := 10) i_M_init_166 (by decide) ?_
  refine e_newL i_M_init_168 ?_
  refine e_putf i_M_init_170 lf_42 ft_11_35 rfl (fun s170 => ?_)
  refine e_aload_n i_M_init_173 rfl ?_
  refine e_getR i_M_init_174 lf_0 (by decide) ft_11_0 (fun v174 => ?_)
  refine e_bipush (v := 10) i_M_init_177 (by decide) ?_
  refine e_sipush (v := 139) i_M_init_179 (by decide) ?_
  refine e_iast i_M_init_182 (fun s182 => ?_)
  refine e_aload_n i_M_init_183 rfl ?_
  refine e_getR i_M_init_184 lf_0 (by decide) ft_11_0 (fun v184 => ?_)
  refine e_iconst (v := 2) i_M_init_187 (by decide) ?_
  refine e_iconst (v := (-1)) i_M_init_188 (by decide) ?_
  refine e_iast i_M_init_189 (fun s189 => ?_)
  refine e_iconst (v := 0) i_M_init_190 (by decide) ?_
  refine e_istore_n (L' := [some (.ref w), some (.int 0)]) i_M_init_191 (of_decide_eq_true rfl) rfl ?_
  exact rfl
set_option maxRecDepth 20000 in
set_option maxHeartbeats 1000000 in
theorem E_M_init_192 (x : m_X) (ρ : Nat) (hρ : 2 ≤ ρ) (s : m_H) (w : Nat) (n1 : Int32)  : m_D x ρ k_M_init 192 [some (.ref w), some (.int n1)] [] s = if 12 ≤ n1 then ((m_fR s 11 0 w).bind fun v216 => (m_fR s 11 1 w).bind fun v220 => m_bV (m_M x k_M_copy [.ref v216, .ref v220] s) fun s223 => some (none, s223)) else (m_fR s 11 0 w).bind fun v199 => (m_is s v199 ((168 : Int32) + n1) 1).bind fun s208 => m_D x ρ k_M_init 192 [some (.ref w), some (.int (n1 + (1 : Int32)))] [] s208 := by
  refine e_iload_n i_M_init_192 rfl ?_
  refine e_bipush (v := 12) i_M_init_193 (by decide) ?_
  refine e_icmpge (t := 215) i_M_init_195 (by decide) ?_ ?_
  · refine e_aload_n i_M_init_215 rfl ?_
    refine e_getR i_M_init_216 lf_0 (by decide) ft_11_0 (fun v216 => ?_)
    refine e_aload_n i_M_init_219 rfl ?_
    refine e_getR i_M_init_220 lf_16 (by decide) ft_11_1 (fun v220 => ?_)
    refine e_callV (as := [.ref v216, .ref v220]) (st' := []) i_M_init_223 lm_97 (Or.inl ⟨rfl, rfl⟩) w_M_copy rfl rfl rfl (Nat.le_of_ble_eq_true rfl) (Nat.le_of_ble_eq_true rfl) (m_rlt (q_M_copy _) (Nat.lt_of_lt_of_le (by decide) hρ)) rfl (fun s223 => ?_)
    exact e_vret i_M_init_226 rfl
  · refine e_aload_n i_M_init_198 rfl ?_
    refine e_getR i_M_init_199 lf_0 (by decide) ft_11_0 (fun v199 => ?_)
    refine e_sipush (v := 168) i_M_init_202 (by decide) ?_
    refine e_iload_n i_M_init_205 rfl ?_
    refine e_iadd i_M_init_206 ?_
    refine e_iconst (v := 1) i_M_init_207 (by decide) ?_
    refine e_iast i_M_init_208 (fun s208 => ?_)
    refine e_iinc (w := 1) (L' := [some (.ref w), some (.int (n1 + (1 : Int32)))]) i_M_init_209 rfl (of_decide_eq_true rfl) (by decide) rfl ?_
    refine e_goto (t := 192) i_M_init_212 (by decide) ?_
    exact rfl
theorem i_M_copy_0 : m_at k_M_copy 0 = some (.iconst 0, 1, 0) := m_at_of r_M_copy (by decide +kernel)
theorem i_M_copy_1 : m_at k_M_copy 1 = some (.istore_n 2, 1, 0) := m_at_of r_M_copy (by decide +kernel)
theorem i_M_copy_2 : m_at k_M_copy 2 = some (.iload_n 2, 1, 0) := m_at_of r_M_copy (by decide +kernel)
theorem i_M_copy_3 : m_at k_M_copy 3 = some (.sipush 11730, 3, 0) := m_at_of r_M_copy (by decide +kernel)
theorem i_M_copy_6 : m_at k_M_copy 6 = some (.if_icmp .ge (15), 3, 0) := m_at_of r_M_copy (by decide +kernel)
theorem i_M_copy_9 : m_at k_M_copy 9 = some (.aload_n 1, 1, 0) := m_at_of r_M_copy (by decide +kernel)
theorem i_M_copy_10 : m_at k_M_copy 10 = some (.iload_n 2, 1, 0) := m_at_of r_M_copy (by decide +kernel)
theorem i_M_copy_11 : m_at k_M_copy 11 = some (.aload_n 0, 1, 0) := m_at_of r_M_copy (by decide +kernel)
theorem i_M_copy_12 : m_at k_M_copy 12 = some (.iload_n 2, 1, 0) := m_at_of r_M_copy (by decide +kernel)
theorem i_M_copy_13 : m_at k_M_copy 13 = some (.iaload, 1, 0) := m_at_of r_M_copy (by decide +kernel)
theorem i_M_copy_14 : m_at k_M_copy 14 = some (.iastore, 1, 0) := m_at_of r_M_copy (by decide +kernel)
theorem i_M_copy_15 : m_at k_M_copy 15 = some (.iinc 2 (1), 3, 0) := m_at_of r_M_copy (by decide +kernel)
theorem i_M_copy_18 : m_at k_M_copy 18 = some (.goto (-16), 3, 0) := m_at_of r_M_copy (by decide +kernel)
theorem i_M_copy_21 : m_at k_M_copy 21 = some (.return_, 1, 0) := m_at_of r_M_copy (by decide +kernel)
set_option maxRecDepth 20000 in
set_option maxHeartbeats 1000000 in
theorem E_M_copy (x : m_X) (s : m_H) (r0 : Nat) (r1 : Nat) : m_M x k_M_copy [.ref r0, .ref r1] s = m_D x 1 k_M_copy 2 [some (.ref r0), some (.ref r1), some (.int 0)] [] s := by
  refine e_M0 (L0 := [some (.ref r0), some (.ref r1), none]) rfl (q_M_copy _) rfl ?_
  refine e_iconst (v := 0) i_M_copy_0 (by decide) ?_
  refine e_istore_n (L' := [some (.ref r0), some (.ref r1), some (.int 0)]) i_M_copy_1 (of_decide_eq_true rfl) rfl ?_
  exact rfl
set_option maxRecDepth 20000 in
set_option maxHeartbeats 1000000 in
theorem E_M_copy_2 (x : m_X) (ρ : Nat) (hρ : 1 ≤ ρ) (s : m_H) (r0 : Nat) (r1 : Nat) (n2 : Int32)  : m_D x ρ k_M_copy 2 [some (.ref r0), some (.ref r1), some (.int n2)] [] s = if 11730 ≤ n2 then (some (none, s)) else (m_ia x s r0 n2).bind fun v13 => (m_is s r1 n2 v13).bind fun s14 => m_D x ρ k_M_copy 2 [some (.ref r0), some (.ref r1), some (.int (n2 + (1 : Int32)))] [] s14 := by
  refine e_iload_n i_M_copy_2 rfl ?_
  refine e_sipush (v := 11730) i_M_copy_3 (by decide) ?_
  refine e_icmpge (t := 21) i_M_copy_6 (by decide) ?_ ?_
  · exact e_vret i_M_copy_21 rfl
  · refine e_aload_n i_M_copy_9 rfl ?_
    refine e_iload_n i_M_copy_10 rfl ?_
    refine e_aload_n i_M_copy_11 rfl ?_
    refine e_iload_n i_M_copy_12 rfl ?_
    refine e_iald i_M_copy_13 (fun v13 => ?_)
    refine e_iast i_M_copy_14 (fun s14 => ?_)
    refine e_iinc (w := 1) (L' := [some (.ref r0), some (.ref r1), some (.int (n2 + (1 : Int32)))]) i_M_copy_15 rfl (of_decide_eq_true rfl) (by decide) rfl ?_
    refine e_goto (t := 2) i_M_copy_18 (by decide) ?_
    exact rfl
theorem i_G_about_0 : m_at k_G_about 0 = some (.iload_n 1, 1, 0) := m_at_of r_G_about (by decide +kernel)
theorem i_G_about_1 : m_at k_G_about 1 = some (.tableswitch (137) (0) (8) #[51, 61, 69, 77, 85, 96, 107, 118, 129], 51, 0) := m_at_of r_G_about (by decide +kernel)
theorem i_G_about_52 : m_at k_G_about 52 = some (.aload_n 0, 1, 0) := m_at_of r_G_about (by decide +kernel)
theorem i_G_about_53 : m_at k_G_about 53 = some (.getfield 10, 3, 2) := m_at_of r_G_about (by decide +kernel)
theorem i_G_about_56 : m_at k_G_about 56 = some (.getfield 170, 3, 3) := m_at_of r_G_about (by decide +kernel)
theorem i_G_about_59 : m_at k_G_about 59 = some (.iconst 0, 1, 0) := m_at_of r_G_about (by decide +kernel)
theorem i_G_about_60 : m_at k_G_about 60 = some (.iaload, 1, 0) := m_at_of r_G_about (by decide +kernel)
theorem i_G_about_61 : m_at k_G_about 61 = some (.ireturn, 1, 0) := m_at_of r_G_about (by decide +kernel)
theorem i_G_about_62 : m_at k_G_about 62 = some (.aload_n 0, 1, 0) := m_at_of r_G_about (by decide +kernel)
theorem i_G_about_63 : m_at k_G_about 63 = some (.getfield 26, 3, 4) := m_at_of r_G_about (by decide +kernel)
theorem i_G_about_66 : m_at k_G_about 66 = some (.getfield 104, 3, 5) := m_at_of r_G_about (by decide +kernel)
theorem i_G_about_69 : m_at k_G_about 69 = some (.ireturn, 1, 0) := m_at_of r_G_about (by decide +kernel)
theorem i_G_about_70 : m_at k_G_about 70 = some (.aload_n 0, 1, 0) := m_at_of r_G_about (by decide +kernel)
theorem i_G_about_71 : m_at k_G_about 71 = some (.getfield 26, 3, 4) := m_at_of r_G_about (by decide +kernel)
theorem i_G_about_74 : m_at k_G_about 74 = some (.getfield 128, 3, 6) := m_at_of r_G_about (by decide +kernel)
theorem i_G_about_77 : m_at k_G_about 77 = some (.ireturn, 1, 0) := m_at_of r_G_about (by decide +kernel)
theorem i_G_about_78 : m_at k_G_about 78 = some (.aload_n 0, 1, 0) := m_at_of r_G_about (by decide +kernel)
theorem i_G_about_79 : m_at k_G_about 79 = some (.getfield 19, 3, 7) := m_at_of r_G_about (by decide +kernel)
theorem i_G_about_82 : m_at k_G_about 82 = some (.getfield 205, 3, 8) := m_at_of r_G_about (by decide +kernel)
theorem i_G_about_85 : m_at k_G_about 85 = some (.ireturn, 1, 0) := m_at_of r_G_about (by decide +kernel)
theorem i_G_about_86 : m_at k_G_about 86 = some (.aload_n 0, 1, 0) := m_at_of r_G_about (by decide +kernel)
theorem i_G_about_87 : m_at k_G_about 87 = some (.getfield 26, 3, 4) := m_at_of r_G_about (by decide +kernel)
theorem i_G_about_90 : m_at k_G_about 90 = some (.getfield 282, 3, 9) := m_at_of r_G_about (by decide +kernel)
theorem i_G_about_93 : m_at k_G_about 93 = some (.getfield 275, 3, 10) := m_at_of r_G_about (by decide +kernel)
theorem i_G_about_96 : m_at k_G_about 96 = some (.ireturn, 1, 0) := m_at_of r_G_about (by decide +kernel)
theorem i_G_about_97 : m_at k_G_about 97 = some (.aload_n 0, 1, 0) := m_at_of r_G_about (by decide +kernel)
theorem i_G_about_98 : m_at k_G_about 98 = some (.getfield 26, 3, 4) := m_at_of r_G_about (by decide +kernel)
theorem i_G_about_101 : m_at k_G_about 101 = some (.getfield 317, 3, 11) := m_at_of r_G_about (by decide +kernel)
theorem i_G_about_104 : m_at k_G_about 104 = some (.getfield 275, 3, 10) := m_at_of r_G_about (by decide +kernel)
theorem i_G_about_107 : m_at k_G_about 107 = some (.ireturn, 1, 0) := m_at_of r_G_about (by decide +kernel)
theorem i_G_about_108 : m_at k_G_about 108 = some (.aload_n 0, 1, 0) := m_at_of r_G_about (by decide +kernel)
theorem i_G_about_109 : m_at k_G_about 109 = some (.getfield 26, 3, 4) := m_at_of r_G_about (by decide +kernel)
theorem i_G_about_112 : m_at k_G_about 112 = some (.getfield 339, 3, 12) := m_at_of r_G_about (by decide +kernel)
theorem i_G_about_115 : m_at k_G_about 115 = some (.getfield 275, 3, 10) := m_at_of r_G_about (by decide +kernel)
theorem i_G_about_118 : m_at k_G_about 118 = some (.ireturn, 1, 0) := m_at_of r_G_about (by decide +kernel)
theorem i_G_about_119 : m_at k_G_about 119 = some (.aload_n 0, 1, 0) := m_at_of r_G_about (by decide +kernel)
theorem i_G_about_120 : m_at k_G_about 120 = some (.getfield 26, 3, 4) := m_at_of r_G_about (by decide +kernel)
theorem i_G_about_123 : m_at k_G_about 123 = some (.getfield 370, 3, 13) := m_at_of r_G_about (by decide +kernel)
theorem i_G_about_126 : m_at k_G_about 126 = some (.getfield 275, 3, 10) := m_at_of r_G_about (by decide +kernel)
theorem i_G_about_129 : m_at k_G_about 129 = some (.ireturn, 1, 0) := m_at_of r_G_about (by decide +kernel)
theorem i_G_about_130 : m_at k_G_about 130 = some (.aload_n 0, 1, 0) := m_at_of r_G_about (by decide +kernel)
theorem i_G_about_131 : m_at k_G_about 131 = some (.getfield 52, 3, 14) := m_at_of r_G_about (by decide +kernel)
theorem i_G_about_134 : m_at k_G_about 134 = some (.getfield 96, 3, 15) := m_at_of r_G_about (by decide +kernel)
theorem i_G_about_137 : m_at k_G_about 137 = some (.ireturn, 1, 0) := m_at_of r_G_about (by decide +kernel)
theorem i_G_about_138 : m_at k_G_about 138 = some (.bipush (-2), 2, 0) := m_at_of r_G_about (by decide +kernel)
theorem i_G_about_140 : m_at k_G_about 140 = some (.ireturn, 1, 0) := m_at_of r_G_about (by decide +kernel)
set_option maxRecDepth 20000 in
set_option maxHeartbeats 1000000 in
theorem E_G_about (x : m_X) (s : m_H) (w : Nat) (n1 : Int32) : m_M x k_G_about [.ref w, .int n1] s = if m_isO s w 10 = true then (if n1 = 0 then ((m_fR s 10 0 w).bind fun v53 => (m_fR s 9 0 v53).bind fun v56 => (m_ia x s v56 0).bind fun v60 => some (some (.int v60), s)) else if n1 = 1 then ((m_fR s 10 2 w).bind fun v63 => (m_fI s 7 7 v63).bind fun v66 => some (some (.int v66), s)) else if n1 = 2 then ((m_fR s 10 2 w).bind fun v71 => (m_fI s 7 8 v71).bind fun v74 => some (some (.int v74), s)) else if n1 = 3 then ((m_fR s 10 1 w).bind fun v79 => (m_fI s 6 2 v79).bind fun v82 => some (some (.int v82), s)) else if n1 = 4 then ((m_fR s 10 2 w).bind fun v87 => (m_fR s 7 1 v87).bind fun v90 => (m_fI s 4 1 v90).bind fun v93 => some (some (.int v93), s)) else if n1 = 5 then ((m_fR s 10 2 w).bind fun v98 => (m_fR s 7 2 v98).bind fun v101 => (m_fI s 4 1 v101).bind fun v104 => some (some (.int v104), s)) else if n1 = 6 then ((m_fR s 10 2 w).bind fun v109 => (m_fR s 7 3 v109).bind fun v112 => (m_fI s 4 1 v112).bind fun v115 => some (some (.int v115), s)) else if n1 = 7 then ((m_fR s 10 2 w).bind fun v120 => (m_fR s 7 5 v120).bind fun v123 => (m_fI s 4 1 v123).bind fun v126 => some (some (.int v126), s)) else if n1 = 8 then ((m_fR s 10 8 w).bind fun v131 => (m_fI s 3 2 v131).bind fun v134 => some (some (.int v134), s)) else some (some (.int (-2)), s)) else none := by
  refine e_M1 (L0 := [some (.ref w), some (.int n1)]) rfl (by decide +kernel) rfl (q_G_about _) rfl ?_
  refine e_iload_n i_G_about_0 rfl ?_
  refine e_tsw (cs := [(0, 52), (1, 62), (2, 70), (3, 78), (4, 86), (5, 97), (6, 108), (7, 119), (8, 130)]) (td := 138) i_G_about_1 (by decide +kernel) ?_
  refine m_sw_c ?_ ?_
  · refine e_aload_n i_G_about_52 rfl ?_
    refine e_getR i_G_about_53 lf_2 (by decide) ft_10_0 (fun v53 => ?_)
    refine e_getR i_G_about_56 lf_3 (by decide) ft_9_0 (fun v56 => ?_)
    refine e_iconst (v := 0) i_G_about_59 (by decide) ?_
    refine e_iald i_G_about_60 (fun v60 => ?_)
    exact e_iretI i_G_about_61 rfl
  refine m_sw_c ?_ ?_
  · refine e_aload_n i_G_about_62 rfl ?_
    refine e_getR i_G_about_63 lf_4 (by decide) ft_10_2 (fun v63 => ?_)
    refine e_getI i_G_about_66 lf_5 (by decide) (Or.inl ft_7_7) (fun v66 => ?_)
    exact e_iretI i_G_about_69 rfl
  refine m_sw_c ?_ ?_
  · refine e_aload_n i_G_about_70 rfl ?_
    refine e_getR i_G_about_71 lf_4 (by decide) ft_10_2 (fun v71 => ?_)
    refine e_getI i_G_about_74 lf_6 (by decide) (Or.inl ft_7_8) (fun v74 => ?_)
    exact e_iretI i_G_about_77 rfl
  refine m_sw_c ?_ ?_
  · refine e_aload_n i_G_about_78 rfl ?_
    refine e_getR i_G_about_79 lf_7 (by decide) ft_10_1 (fun v79 => ?_)
    refine e_getI i_G_about_82 lf_8 (by decide) (Or.inl ft_6_2) (fun v82 => ?_)
    exact e_iretI i_G_about_85 rfl
  refine m_sw_c ?_ ?_
  · refine e_aload_n i_G_about_86 rfl ?_
    refine e_getR i_G_about_87 lf_4 (by decide) ft_10_2 (fun v87 => ?_)
    refine e_getR i_G_about_90 lf_9 (by decide) ft_7_1 (fun v90 => ?_)
    refine e_getI i_G_about_93 lf_10 (by decide) (Or.inl ft_4_1) (fun v93 => ?_)
    exact e_iretI i_G_about_96 rfl
  refine m_sw_c ?_ ?_
  · refine e_aload_n i_G_about_97 rfl ?_
    refine e_getR i_G_about_98 lf_4 (by decide) ft_10_2 (fun v98 => ?_)
    refine e_getR i_G_about_101 lf_11 (by decide) ft_7_2 (fun v101 => ?_)
    refine e_getI i_G_about_104 lf_10 (by decide) (Or.inl ft_4_1) (fun v104 => ?_)
    exact e_iretI i_G_about_107 rfl
  refine m_sw_c ?_ ?_
  · refine e_aload_n i_G_about_108 rfl ?_
    refine e_getR i_G_about_109 lf_4 (by decide) ft_10_2 (fun v109 => ?_)
    refine e_getR i_G_about_112 lf_12 (by decide) ft_7_3 (fun v112 => ?_)
    refine e_getI i_G_about_115 lf_10 (by decide) (Or.inl ft_4_1) (fun v115 => ?_)
    exact e_iretI i_G_about_118 rfl
  refine m_sw_c ?_ ?_
  · refine e_aload_n i_G_about_119 rfl ?_
    refine e_getR i_G_about_120 lf_4 (by decide) ft_10_2 (fun v120 => ?_)
    refine e_getR i_G_about_123 lf_13 (by decide) ft_7_5 (fun v123 => ?_)
    refine e_getI i_G_about_126 lf_10 (by decide) (Or.inl ft_4_1) (fun v126 => ?_)
    exact e_iretI i_G_about_129 rfl
  refine m_sw_c ?_ ?_
  · refine e_aload_n i_G_about_130 rfl ?_
    refine e_getR i_G_about_131 lf_14 (by decide) ft_10_8 (fun v131 => ?_)
    refine e_getI i_G_about_134 lf_15 (by decide) (Or.inl ft_3_2) (fun v134 => ?_)
    exact e_iretI i_G_about_137 rfl
  refine m_sw_n ?_
  refine e_bipush (v := (-2)) i_G_about_138 (by decide) ?_
  exact e_iretI i_G_about_140 rfl
theorem i_G_back_0 : m_at k_G_back 0 = some (.aload_n 0, 1, 0) := m_at_of r_G_back (by decide +kernel)
theorem i_G_back_1 : m_at k_G_back 1 = some (.getfield 10, 3, 2) := m_at_of r_G_back (by decide +kernel)
theorem i_G_back_4 : m_at k_G_back 4 = some (.aload_n 0, 1, 0) := m_at_of r_G_back (by decide +kernel)
theorem i_G_back_5 : m_at k_G_back 5 = some (.getfield 30, 3, 17) := m_at_of r_G_back (by decide +kernel)
theorem i_G_back_8 : m_at k_G_back 8 = some (.invokevirtual 245, 3, 98) := m_at_of r_G_back (by decide +kernel)
theorem i_G_back_11 : m_at k_G_back 11 = some (.aload_n 0, 1, 0) := m_at_of r_G_back (by decide +kernel)
theorem i_G_back_12 : m_at k_G_back 12 = some (.getfield 19, 3, 7) := m_at_of r_G_back (by decide +kernel)
theorem i_G_back_15 : m_at k_G_back 15 = some (.aload_n 0, 1, 0) := m_at_of r_G_back (by decide +kernel)
theorem i_G_back_16 : m_at k_G_back 16 = some (.getfield 33, 3, 18) := m_at_of r_G_back (by decide +kernel)
theorem i_G_back_19 : m_at k_G_back 19 = some (.invokevirtual 383, 3, 99) := m_at_of r_G_back (by decide +kernel)
theorem i_G_back_22 : m_at k_G_back 22 = some (.aload_n 0, 1, 0) := m_at_of r_G_back (by decide +kernel)
theorem i_G_back_23 : m_at k_G_back 23 = some (.getfield 26, 3, 4) := m_at_of r_G_back (by decide +kernel)
theorem i_G_back_26 : m_at k_G_back 26 = some (.aload_n 0, 1, 0) := m_at_of r_G_back (by decide +kernel)
theorem i_G_back_27 : m_at k_G_back 27 = some (.getfield 36, 3, 19) := m_at_of r_G_back (by decide +kernel)
theorem i_G_back_30 : m_at k_G_back 30 = some (.invokevirtual 386, 3, 100) := m_at_of r_G_back (by decide +kernel)
theorem i_G_back_33 : m_at k_G_back 33 = some (.aload_n 0, 1, 0) := m_at_of r_G_back (by decide +kernel)
theorem i_G_back_34 : m_at k_G_back 34 = some (.getfield 10, 3, 2) := m_at_of r_G_back (by decide +kernel)
theorem i_G_back_37 : m_at k_G_back 37 = some (.getfield 170, 3, 3) := m_at_of r_G_back (by decide +kernel)
theorem i_G_back_40 : m_at k_G_back 40 = some (.bipush 22, 2, 0) := m_at_of r_G_back (by decide +kernel)
theorem i_G_back_42 : m_at k_G_back 42 = some (.iaload, 1, 0) := m_at_of r_G_back (by decide +kernel)
theorem i_G_back_43 : m_at k_G_back 43 = some (.ireturn, 1, 0) := m_at_of r_G_back (by decide +kernel)
set_option maxRecDepth 20000 in
set_option maxHeartbeats 1000000 in
theorem E_G_back (x : m_X) (s : m_H) (w : Nat) : m_M x k_G_back [.ref w] s = if m_isO s w 10 = true then ((m_fR s 10 0 w).bind fun v1 => (m_fR s 10 3 w).bind fun v5 => m_bV (m_M x k_World_takeOver [.ref v1, .ref v5] s) fun s8 => (m_fR s8 10 1 w).bind fun v12 => (m_fR s8 10 4 w).bind fun v16 => m_bV (m_M x k_Steps_takeOver [.ref v12, .ref v16] s8) fun s19 => (m_fR s19 10 2 w).bind fun v23 => (m_fR s19 10 5 w).bind fun v27 => m_bV (m_M x k_Told_takeOver [.ref v23, .ref v27] s19) fun s30 => (m_fR s30 10 0 w).bind fun v34 => (m_fR s30 9 0 v34).bind fun v37 => (m_ia x s30 v37 22).bind fun v42 => some (some (.int v42), s30)) else none := by
  refine e_M1 (L0 := [some (.ref w)]) rfl (by decide +kernel) rfl (q_G_back _) rfl ?_
  refine e_aload_n i_G_back_0 rfl ?_
  refine e_getR i_G_back_1 lf_2 (by decide) ft_10_0 (fun v1 => ?_)
  refine e_aload_n i_G_back_4 rfl ?_
  refine e_getR i_G_back_5 lf_17 (by decide) ft_10_3 (fun v5 => ?_)
  refine e_callV (as := [.ref v1, .ref v5]) (st' := []) i_G_back_8 lm_98 (Or.inr (Or.inl ⟨rfl, rfl⟩)) w_World_takeOver rfl rfl rfl (Nat.le_of_ble_eq_true rfl) (Nat.le_of_ble_eq_true rfl) (m_rlt (q_World_takeOver _) (by decide)) rfl (fun s8 => ?_)
  refine e_aload_n i_G_back_11 rfl ?_
  refine e_getR i_G_back_12 lf_7 (by decide) ft_10_1 (fun v12 => ?_)
  refine e_aload_n i_G_back_15 rfl ?_
  refine e_getR i_G_back_16 lf_18 (by decide) ft_10_4 (fun v16 => ?_)
  refine e_callV (as := [.ref v12, .ref v16]) (st' := []) i_G_back_19 lm_99 (Or.inr (Or.inl ⟨rfl, rfl⟩)) w_Steps_takeOver rfl rfl rfl (Nat.le_of_ble_eq_true rfl) (Nat.le_of_ble_eq_true rfl) (m_rlt (q_Steps_takeOver _) (by decide)) rfl (fun s19 => ?_)
  refine e_aload_n i_G_back_22 rfl ?_
  refine e_getR i_G_back_23 lf_4 (by decide) ft_10_2 (fun v23 => ?_)
  refine e_aload_n i_G_back_26 rfl ?_
  refine e_getR i_G_back_27 lf_19 (by decide) ft_10_5 (fun v27 => ?_)
  refine e_callV (as := [.ref v23, .ref v27]) (st' := []) i_G_back_30 lm_100 (Or.inr (Or.inl ⟨rfl, rfl⟩)) w_Told_takeOver rfl rfl rfl (Nat.le_of_ble_eq_true rfl) (Nat.le_of_ble_eq_true rfl) (m_rlt (q_Told_takeOver _) (by decide)) rfl (fun s30 => ?_)
  refine e_aload_n i_G_back_33 rfl ?_
  refine e_getR i_G_back_34 lf_2 (by decide) ft_10_0 (fun v34 => ?_)
  refine e_getR i_G_back_37 lf_3 (by decide) ft_9_0 (fun v37 => ?_)
  refine e_bipush (v := 22) i_G_back_40 (by decide) ?_
  refine e_iald i_G_back_42 (fun v42 => ?_)
  exact e_iretI i_G_back_43 rfl
theorem i_G_image_0 : m_at k_G_image 0 = some (.aload_n 0, 1, 0) := m_at_of r_G_image (by decide +kernel)
theorem i_G_image_1 : m_at k_G_image 1 = some (.getfield 30, 3, 17) := m_at_of r_G_image (by decide +kernel)
theorem i_G_image_4 : m_at k_G_image 4 = some (.aload_n 0, 1, 0) := m_at_of r_G_image (by decide +kernel)
theorem i_G_image_5 : m_at k_G_image 5 = some (.getfield 10, 3, 2) := m_at_of r_G_image (by decide +kernel)
theorem i_G_image_8 : m_at k_G_image 8 = some (.invokevirtual 245, 3, 98) := m_at_of r_G_image (by decide +kernel)
theorem i_G_image_11 : m_at k_G_image 11 = some (.aload_n 0, 1, 0) := m_at_of r_G_image (by decide +kernel)
theorem i_G_image_12 : m_at k_G_image 12 = some (.getfield 33, 3, 18) := m_at_of r_G_image (by decide +kernel)
theorem i_G_image_15 : m_at k_G_image 15 = some (.aload_n 0, 1, 0) := m_at_of r_G_image (by decide +kernel)
theorem i_G_image_16 : m_at k_G_image 16 = some (.getfield 19, 3, 7) := m_at_of r_G_image (by decide +kernel)
theorem i_G_image_19 : m_at k_G_image 19 = some (.invokevirtual 383, 3, 99) := m_at_of r_G_image (by decide +kernel)
theorem i_G_image_22 : m_at k_G_image 22 = some (.aload_n 0, 1, 0) := m_at_of r_G_image (by decide +kernel)
theorem i_G_image_23 : m_at k_G_image 23 = some (.getfield 36, 3, 19) := m_at_of r_G_image (by decide +kernel)
theorem i_G_image_26 : m_at k_G_image 26 = some (.aload_n 0, 1, 0) := m_at_of r_G_image (by decide +kernel)
theorem i_G_image_27 : m_at k_G_image 27 = some (.getfield 26, 3, 4) := m_at_of r_G_image (by decide +kernel)
theorem i_G_image_30 : m_at k_G_image 30 = some (.invokevirtual 386, 3, 100) := m_at_of r_G_image (by decide +kernel)
theorem i_G_image_33 : m_at k_G_image 33 = some (.aload_n 0, 1, 0) := m_at_of r_G_image (by decide +kernel)
theorem i_G_image_34 : m_at k_G_image 34 = some (.getfield 10, 3, 2) := m_at_of r_G_image (by decide +kernel)
theorem i_G_image_37 : m_at k_G_image 37 = some (.getfield 170, 3, 3) := m_at_of r_G_image (by decide +kernel)
theorem i_G_image_40 : m_at k_G_image 40 = some (.bipush 22, 2, 0) := m_at_of r_G_image (by decide +kernel)
theorem i_G_image_42 : m_at k_G_image 42 = some (.iaload, 1, 0) := m_at_of r_G_image (by decide +kernel)
theorem i_G_image_43 : m_at k_G_image 43 = some (.ireturn, 1, 0) := m_at_of r_G_image (by decide +kernel)
set_option maxRecDepth 20000 in
set_option maxHeartbeats 1000000 in
theorem E_G_image (x : m_X) (s : m_H) (w : Nat) : m_M x k_G_image [.ref w] s = if m_isO s w 10 = true then ((m_fR s 10 3 w).bind fun v1 => (m_fR s 10 0 w).bind fun v5 => m_bV (m_M x k_World_takeOver [.ref v1, .ref v5] s) fun s8 => (m_fR s8 10 4 w).bind fun v12 => (m_fR s8 10 1 w).bind fun v16 => m_bV (m_M x k_Steps_takeOver [.ref v12, .ref v16] s8) fun s19 => (m_fR s19 10 5 w).bind fun v23 => (m_fR s19 10 2 w).bind fun v27 => m_bV (m_M x k_Told_takeOver [.ref v23, .ref v27] s19) fun s30 => (m_fR s30 10 0 w).bind fun v34 => (m_fR s30 9 0 v34).bind fun v37 => (m_ia x s30 v37 22).bind fun v42 => some (some (.int v42), s30)) else none := by
  refine e_M1 (L0 := [some (.ref w)]) rfl (by decide +kernel) rfl (q_G_image _) rfl ?_
  refine e_aload_n i_G_image_0 rfl ?_
  refine e_getR i_G_image_1 lf_17 (by decide) ft_10_3 (fun v1 => ?_)
  refine e_aload_n i_G_image_4 rfl ?_
  refine e_getR i_G_image_5 lf_2 (by decide) ft_10_0 (fun v5 => ?_)
  refine e_callV (as := [.ref v1, .ref v5]) (st' := []) i_G_image_8 lm_98 (Or.inr (Or.inl ⟨rfl, rfl⟩)) w_World_takeOver rfl rfl rfl (Nat.le_of_ble_eq_true rfl) (Nat.le_of_ble_eq_true rfl) (m_rlt (q_World_takeOver _) (by decide)) rfl (fun s8 => ?_)
  refine e_aload_n i_G_image_11 rfl ?_
  refine e_getR i_G_image_12 lf_18 (by decide) ft_10_4 (fun v12 => ?_)
  refine e_aload_n i_G_image_15 rfl ?_
  refine e_getR i_G_image_16 lf_7 (by decide) ft_10_1 (fun v16 => ?_)
  refine e_callV (as := [.ref v12, .ref v16]) (st' := []) i_G_image_19 lm_99 (Or.inr (Or.inl ⟨rfl, rfl⟩)) w_Steps_takeOver rfl rfl rfl (Nat.le_of_ble_eq_true rfl) (Nat.le_of_ble_eq_true rfl) (m_rlt (q_Steps_takeOver _) (by decide)) rfl (fun s19 => ?_)
  refine e_aload_n i_G_image_22 rfl ?_
  refine e_getR i_G_image_23 lf_19 (by decide) ft_10_5 (fun v23 => ?_)
  refine e_aload_n i_G_image_26 rfl ?_
  refine e_getR i_G_image_27 lf_4 (by decide) ft_10_2 (fun v27 => ?_)
  refine e_callV (as := [.ref v23, .ref v27]) (st' := []) i_G_image_30 lm_100 (Or.inr (Or.inl ⟨rfl, rfl⟩)) w_Told_takeOver rfl rfl rfl (Nat.le_of_ble_eq_true rfl) (Nat.le_of_ble_eq_true rfl) (m_rlt (q_Told_takeOver _) (by decide)) rfl (fun s30 => ?_)
  refine e_aload_n i_G_image_33 rfl ?_
  refine e_getR i_G_image_34 lf_2 (by decide) ft_10_0 (fun v34 => ?_)
  refine e_getR i_G_image_37 lf_3 (by decide) ft_9_0 (fun v37 => ?_)
  refine e_bipush (v := 22) i_G_image_40 (by decide) ?_
  refine e_iald i_G_image_42 (fun v42 => ?_)
  exact e_iretI i_G_image_43 rfl
theorem i_G_coldest_0 : m_at k_G_coldest 0 = some (.iconst (-1), 1, 0) := m_at_of r_G_coldest (by decide +kernel)
theorem i_G_coldest_1 : m_at k_G_coldest 1 = some (.istore_n 1, 1, 0) := m_at_of r_G_coldest (by decide +kernel)
theorem i_G_coldest_2 : m_at k_G_coldest 2 = some (.iconst 0, 1, 0) := m_at_of r_G_coldest (by decide +kernel)
theorem i_G_coldest_3 : m_at k_G_coldest 3 = some (.istore_n 2, 1, 0) := m_at_of r_G_coldest (by decide +kernel)
theorem i_G_coldest_4 : m_at k_G_coldest 4 = some (.iload_n 2, 1, 0) := m_at_of r_G_coldest (by decide +kernel)
theorem i_G_coldest_5 : m_at k_G_coldest 5 = some (.aload_n 0, 1, 0) := m_at_of r_G_coldest (by decide +kernel)
theorem i_G_coldest_6 : m_at k_G_coldest 6 = some (.getfield 10, 3, 2) := m_at_of r_G_coldest (by decide +kernel)
theorem i_G_coldest_9 : m_at k_G_coldest 9 = some (.getfield 170, 3, 3) := m_at_of r_G_coldest (by decide +kernel)
theorem i_G_coldest_12 : m_at k_G_coldest 12 = some (.iconst 0, 1, 0) := m_at_of r_G_coldest (by decide +kernel)
theorem i_G_coldest_13 : m_at k_G_coldest 13 = some (.iaload, 1, 0) := m_at_of r_G_coldest (by decide +kernel)
theorem i_G_coldest_14 : m_at k_G_coldest 14 = some (.if_icmp .ge (39), 3, 0) := m_at_of r_G_coldest (by decide +kernel)
theorem i_G_coldest_17 : m_at k_G_coldest 17 = some (.iload_n 1, 1, 0) := m_at_of r_G_coldest (by decide +kernel)
theorem i_G_coldest_18 : m_at k_G_coldest 18 = some (.iconst (-1), 1, 0) := m_at_of r_G_coldest (by decide +kernel)
theorem i_G_coldest_19 : m_at k_G_coldest 19 = some (.if_icmp .eq (26), 3, 0) := m_at_of r_G_coldest (by decide +kernel)
theorem i_G_coldest_22 : m_at k_G_coldest 22 = some (.aload_n 0, 1, 0) := m_at_of r_G_coldest (by decide +kernel)
theorem i_G_coldest_23 : m_at k_G_coldest 23 = some (.getfield 10, 3, 2) := m_at_of r_G_coldest (by decide +kernel)
theorem i_G_coldest_26 : m_at k_G_coldest 26 = some (.bipush 15, 2, 0) := m_at_of r_G_coldest (by decide +kernel)
theorem i_G_coldest_28 : m_at k_G_coldest 28 = some (.iload_n 2, 1, 0) := m_at_of r_G_coldest (by decide +kernel)
theorem i_G_coldest_29 : m_at k_G_coldest 29 = some (.invokevirtual 212, 3, 104) := m_at_of r_G_coldest (by decide +kernel)
theorem i_G_coldest_32 : m_at k_G_coldest 32 = some (.aload_n 0, 1, 0) := m_at_of r_G_coldest (by decide +kernel)
theorem i_G_coldest_33 : m_at k_G_coldest 33 = some (.getfield 10, 3, 2) := m_at_of r_G_coldest (by decide +kernel)
theorem i_G_coldest_36 : m_at k_G_coldest 36 = some (.bipush 15, 2, 0) := m_at_of r_G_coldest (by decide +kernel)
theorem i_G_coldest_38 : m_at k_G_coldest 38 = some (.iload_n 1, 1, 0) := m_at_of r_G_coldest (by decide +kernel)
theorem i_G_coldest_39 : m_at k_G_coldest 39 = some (.invokevirtual 212, 3, 104) := m_at_of r_G_coldest (by decide +kernel)
theorem i_G_coldest_42 : m_at k_G_coldest 42 = some (.if_icmp .le (5), 3, 0) := m_at_of r_G_coldest (by decide +kernel)
theorem i_G_coldest_45 : m_at k_G_coldest 45 = some (.iload_n 2, 1, 0) := m_at_of r_G_coldest (by decide +kernel)
theorem i_G_coldest_46 : m_at k_G_coldest 46 = some (.istore_n 1, 1, 0) := m_at_of r_G_coldest (by decide +kernel)
theorem i_G_coldest_47 : m_at k_G_coldest 47 = some (.iinc 2 (1), 3, 0) := m_at_of r_G_coldest (by decide +kernel)
theorem i_G_coldest_50 : m_at k_G_coldest 50 = some (.goto (-46), 3, 0) := m_at_of r_G_coldest (by decide +kernel)
theorem i_G_coldest_53 : m_at k_G_coldest 53 = some (.iload_n 1, 1, 0) := m_at_of r_G_coldest (by decide +kernel)
theorem i_G_coldest_54 : m_at k_G_coldest 54 = some (.ireturn, 1, 0) := m_at_of r_G_coldest (by decide +kernel)
set_option maxRecDepth 20000 in
set_option maxHeartbeats 1000000 in
theorem E_G_coldest (x : m_X) (s : m_H) (w : Nat) : m_M x k_G_coldest [.ref w] s = if m_isO s w 10 = true then (m_D x 2 k_G_coldest 4 [some (.ref w), some (.int (-1)), some (.int 0)] [] s) else none := by
  refine e_M1 (L0 := [some (.ref w), none, none]) rfl (by decide +kernel) rfl (q_G_coldest _) rfl ?_
  refine e_iconst (v := (-1)) i_G_coldest_0 (by decide) ?_
  refine e_istore_n (L' := [some (.ref w), some (.int (-1)), none]) i_G_coldest_1 (of_decide_eq_true rfl) rfl ?_
  refine e_iconst (v := 0) i_G_coldest_2 (by decide) ?_
  refine e_istore_n (L' := [some (.ref w), some (.int (-1)), some (.int 0)]) i_G_coldest_3 (of_decide_eq_true rfl) rfl ?_
  exact rfl
set_option maxRecDepth 20000 in
set_option maxHeartbeats 1000000 in
theorem E_G_coldest_4 (x : m_X) (ρ : Nat) (hρ : 2 ≤ ρ) (s : m_H) (w : Nat) (n1 : Int32) (n2 : Int32)  : m_D x ρ k_G_coldest 4 [some (.ref w), some (.int n1), some (.int n2)] [] s = (m_fR s 10 0 w).bind fun v6 => (m_fR s 9 0 v6).bind fun v9 => (m_ia x s v9 0).bind fun v13 => if v13 ≤ n2 then (some (some (.int n1), s)) else if n1 = (-1) then (m_D x ρ k_G_coldest 4 [some (.ref w), some (.int n2), some (.int (n2 + (1 : Int32)))] [] s) else (m_fR s 10 0 w).bind fun v23 => m_bI (m_M x k_World_at [.ref v23, .int 15, .int n2] s) fun v29 s29 => (m_fR s29 10 0 w).bind fun v33 => m_bI (m_M x k_World_at [.ref v33, .int 15, .int n1] s29) fun v39 s39 => if v29 ≤ v39 then (m_D x ρ k_G_coldest 4 [some (.ref w), some (.int n1), some (.int (n2 + (1 : Int32)))] [] s39) else m_D x ρ k_G_coldest 4 [some (.ref w), some (.int n2), some (.int (n2 + (1 : Int32)))] [] s39 := by
  refine e_iload_n i_G_coldest_4 rfl ?_
  refine e_aload_n i_G_coldest_5 rfl ?_
  refine e_getR i_G_coldest_6 lf_2 (by decide) ft_10_0 (fun v6 => ?_)
  refine e_getR i_G_coldest_9 lf_3 (by decide) ft_9_0 (fun v9 => ?_)
  refine e_iconst (v := 0) i_G_coldest_12 (by decide) ?_
  refine e_iald i_G_coldest_13 (fun v13 => ?_)
  refine e_icmpge (t := 53) i_G_coldest_14 (by decide) ?_ ?_
  · refine e_iload_n i_G_coldest_53 rfl ?_
    exact e_iretI i_G_coldest_54 rfl
  · refine e_iload_n i_G_coldest_17 rfl ?_
    refine e_iconst (v := (-1)) i_G_coldest_18 (by decide) ?_
    refine e_icmpeq (t := 45) i_G_coldest_19 (by decide) ?_ ?_
    · refine e_iload_n i_G_coldest_45 rfl ?_
      refine e_istore_n (L' := [some (.ref w), some (.int n2), some (.int n2)]) i_G_coldest_46 (of_decide_eq_true rfl) rfl ?_
      refine e_iinc (w := 1) (L' := [some (.ref w), some (.int n2), some (.int (n2 + (1 : Int32)))]) i_G_coldest_47 rfl (of_decide_eq_true rfl) (by decide) rfl ?_
      refine e_goto (t := 4) i_G_coldest_50 (by decide) ?_
      exact rfl
    · refine e_aload_n i_G_coldest_22 rfl ?_
      refine e_getR i_G_coldest_23 lf_2 (by decide) ft_10_0 (fun v23 => ?_)
      refine e_bipush (v := 15) i_G_coldest_26 (by decide) ?_
      refine e_iload_n i_G_coldest_28 rfl ?_
      refine e_callI (as := [.ref v23, .int 15, .int n2]) (st' := []) i_G_coldest_29 lm_104 (Or.inr (Or.inl ⟨rfl, rfl⟩)) w_World_at rfl rfl rfl (Nat.le_of_ble_eq_true rfl) (Nat.le_of_ble_eq_true rfl) (m_rlt (q_World_at _) (Nat.lt_of_lt_of_le (by decide) hρ)) rfl (fun v29 s29 => ?_)
      refine e_aload_n i_G_coldest_32 rfl ?_
      refine e_getR i_G_coldest_33 lf_2 (by decide) ft_10_0 (fun v33 => ?_)
      refine e_bipush (v := 15) i_G_coldest_36 (by decide) ?_
      refine e_iload_n i_G_coldest_38 rfl ?_
      refine e_callI (as := [.ref v33, .int 15, .int n1]) (st' := [.int v29]) i_G_coldest_39 lm_104 (Or.inr (Or.inl ⟨rfl, rfl⟩)) w_World_at rfl rfl rfl (Nat.le_of_ble_eq_true rfl) (Nat.le_of_ble_eq_true rfl) (m_rlt (q_World_at _) (Nat.lt_of_lt_of_le (by decide) hρ)) rfl (fun v39 s39 => ?_)
      refine e_icmple (t := 47) i_G_coldest_42 (by decide) ?_ ?_
      · refine e_iinc (w := 1) (L' := [some (.ref w), some (.int n1), some (.int (n2 + (1 : Int32)))]) i_G_coldest_47 rfl (of_decide_eq_true rfl) (by decide) rfl ?_
        refine e_goto (t := 4) i_G_coldest_50 (by decide) ?_
        exact rfl
      · refine e_iload_n i_G_coldest_45 rfl ?_
        refine e_istore_n (L' := [some (.ref w), some (.int n2), some (.int n2)]) i_G_coldest_46 (of_decide_eq_true rfl) rfl ?_
        refine e_iinc (w := 1) (L' := [some (.ref w), some (.int n2), some (.int (n2 + (1 : Int32)))]) i_G_coldest_47 rfl (of_decide_eq_true rfl) (by decide) rfl ?_
        refine e_goto (t := 4) i_G_coldest_50 (by decide) ?_
        exact rfl
theorem i_G_pairs_0 : m_at k_G_pairs 0 = some (.iconst 0, 1, 0) := m_at_of r_G_pairs (by decide +kernel)
theorem i_G_pairs_1 : m_at k_G_pairs 1 = some (.istore_n 1, 1, 0) := m_at_of r_G_pairs (by decide +kernel)
theorem i_G_pairs_2 : m_at k_G_pairs 2 = some (.iconst 1, 1, 0) := m_at_of r_G_pairs (by decide +kernel)
theorem i_G_pairs_3 : m_at k_G_pairs 3 = some (.istore_n 2, 1, 0) := m_at_of r_G_pairs (by decide +kernel)
theorem i_G_pairs_4 : m_at k_G_pairs 4 = some (.iload_n 2, 1, 0) := m_at_of r_G_pairs (by decide +kernel)
theorem i_G_pairs_5 : m_at k_G_pairs 5 = some (.aload_n 0, 1, 0) := m_at_of r_G_pairs (by decide +kernel)
theorem i_G_pairs_6 : m_at k_G_pairs 6 = some (.getfield 10, 3, 2) := m_at_of r_G_pairs (by decide +kernel)
theorem i_G_pairs_9 : m_at k_G_pairs 9 = some (.getfield 170, 3, 3) := m_at_of r_G_pairs (by decide +kernel)
theorem i_G_pairs_12 : m_at k_G_pairs 12 = some (.bipush 25, 2, 0) := m_at_of r_G_pairs (by decide +kernel)
theorem i_G_pairs_14 : m_at k_G_pairs 14 = some (.iaload, 1, 0) := m_at_of r_G_pairs (by decide +kernel)
theorem i_G_pairs_15 : m_at k_G_pairs 15 = some (.if_icmp .ge (37), 3, 0) := m_at_of r_G_pairs (by decide +kernel)
theorem i_G_pairs_18 : m_at k_G_pairs 18 = some (.iconst 0, 1, 0) := m_at_of r_G_pairs (by decide +kernel)
theorem i_G_pairs_19 : m_at k_G_pairs 19 = some (.istore_n 3, 1, 0) := m_at_of r_G_pairs (by decide +kernel)
theorem i_G_pairs_20 : m_at k_G_pairs 20 = some (.iload_n 3, 1, 0) := m_at_of r_G_pairs (by decide +kernel)
theorem i_G_pairs_21 : m_at k_G_pairs 21 = some (.iload_n 2, 1, 0) := m_at_of r_G_pairs (by decide +kernel)
theorem i_G_pairs_22 : m_at k_G_pairs 22 = some (.if_icmp .ge (24), 3, 0) := m_at_of r_G_pairs (by decide +kernel)
theorem i_G_pairs_25 : m_at k_G_pairs 25 = some (.aload_n 0, 1, 0) := m_at_of r_G_pairs (by decide +kernel)
theorem i_G_pairs_26 : m_at k_G_pairs 26 = some (.getfield 10, 3, 2) := m_at_of r_G_pairs (by decide +kernel)
theorem i_G_pairs_29 : m_at k_G_pairs 29 = some (.iload_n 3, 1, 0) := m_at_of r_G_pairs (by decide +kernel)
theorem i_G_pairs_30 : m_at k_G_pairs 30 = some (.iload_n 2, 1, 0) := m_at_of r_G_pairs (by decide +kernel)
theorem i_G_pairs_31 : m_at k_G_pairs 31 = some (.invokevirtual 380, 3, 107) := m_at_of r_G_pairs (by decide +kernel)
theorem i_G_pairs_34 : m_at k_G_pairs 34 = some (.ifCond .eq (6), 3, 0) := m_at_of r_G_pairs (by decide +kernel)
theorem i_G_pairs_37 : m_at k_G_pairs 37 = some (.iinc 1 (1), 3, 0) := m_at_of r_G_pairs (by decide +kernel)
theorem i_G_pairs_40 : m_at k_G_pairs 40 = some (.iinc 3 (1), 3, 0) := m_at_of r_G_pairs (by decide +kernel)
theorem i_G_pairs_43 : m_at k_G_pairs 43 = some (.goto (-23), 3, 0) := m_at_of r_G_pairs (by decide +kernel)
theorem i_G_pairs_46 : m_at k_G_pairs 46 = some (.iinc 2 (1), 3, 0) := m_at_of r_G_pairs (by decide +kernel)
theorem i_G_pairs_49 : m_at k_G_pairs 49 = some (.goto (-45), 3, 0) := m_at_of r_G_pairs (by decide +kernel)
theorem i_G_pairs_52 : m_at k_G_pairs 52 = some (.iload_n 1, 1, 0) := m_at_of r_G_pairs (by decide +kernel)
theorem i_G_pairs_53 : m_at k_G_pairs 53 = some (.ireturn, 1, 0) := m_at_of r_G_pairs (by decide +kernel)
set_option maxRecDepth 20000 in
set_option maxHeartbeats 1000000 in
theorem E_G_pairs (x : m_X) (s : m_H) (w : Nat) : m_M x k_G_pairs [.ref w] s = if m_isO s w 10 = true then (m_D x 5 k_G_pairs 4 [some (.ref w), some (.int 0), some (.int 1), none] [] s) else none := by
  refine e_M1 (L0 := [some (.ref w), none, none, none]) rfl (by decide +kernel) rfl (q_G_pairs _) rfl ?_
  refine e_iconst (v := 0) i_G_pairs_0 (by decide) ?_
  refine e_istore_n (L' := [some (.ref w), some (.int 0), none, none]) i_G_pairs_1 (of_decide_eq_true rfl) rfl ?_
  refine e_iconst (v := 1) i_G_pairs_2 (by decide) ?_
  refine e_istore_n (L' := [some (.ref w), some (.int 0), some (.int 1), none]) i_G_pairs_3 (of_decide_eq_true rfl) rfl ?_
  exact rfl
set_option maxRecDepth 20000 in
set_option maxHeartbeats 1000000 in
theorem E_G_pairs_4 (x : m_X) (ρ : Nat) (hρ : 5 ≤ ρ) (s : m_H) (w : Nat) (n1 : Int32) (n2 : Int32) (d3 : Option Value) (hd3 : m_nl d3 = true) : m_D x ρ k_G_pairs 4 [some (.ref w), some (.int n1), some (.int n2), d3] [] s = (m_fR s 10 0 w).bind fun v6 => (m_fR s 9 0 v6).bind fun v9 => (m_ia x s v9 25).bind fun v14 => if v14 ≤ n2 then (some (some (.int n1), s)) else m_D x ρ k_G_pairs 20 [some (.ref w), some (.int n1), some (.int n2), some (.int 0)] [] s := by
  refine e_iload_n i_G_pairs_4 rfl ?_
  refine e_aload_n i_G_pairs_5 rfl ?_
  refine e_getR i_G_pairs_6 lf_2 (by decide) ft_10_0 (fun v6 => ?_)
  refine e_getR i_G_pairs_9 lf_3 (by decide) ft_9_0 (fun v9 => ?_)
  refine e_bipush (v := 25) i_G_pairs_12 (by decide) ?_
  refine e_iald i_G_pairs_14 (fun v14 => ?_)
  refine e_icmpge (t := 52) i_G_pairs_15 (by decide) ?_ ?_
  · refine e_iload_n i_G_pairs_52 rfl ?_
    exact e_iretI i_G_pairs_53 rfl
  · refine e_iconst (v := 0) i_G_pairs_18 (by decide) ?_
    refine e_istore_n (L' := [some (.ref w), some (.int n1), some (.int n2), some (.int 0)]) i_G_pairs_19 (of_decide_eq_true rfl) rfl ?_
    exact rfl
set_option maxRecDepth 20000 in
set_option maxHeartbeats 1000000 in
theorem E_G_pairs_20 (x : m_X) (ρ : Nat) (hρ : 5 ≤ ρ) (s : m_H) (w : Nat) (n1 : Int32) (n2 : Int32) (n3 : Int32)  : m_D x ρ k_G_pairs 20 [some (.ref w), some (.int n1), some (.int n2), some (.int n3)] [] s = if n2 ≤ n3 then (m_D x ρ k_G_pairs 4 [some (.ref w), some (.int n1), some (.int (n2 + (1 : Int32))), some (.int n3)] [] s) else (m_fR s 10 0 w).bind fun v26 => m_bI (m_M x k_World_isPair [.ref v26, .int n3, .int n2] s) fun v31 s31 => if v31 = 0 then (m_D x ρ k_G_pairs 20 [some (.ref w), some (.int n1), some (.int n2), some (.int (n3 + (1 : Int32)))] [] s31) else m_D x ρ k_G_pairs 20 [some (.ref w), some (.int (n1 + (1 : Int32))), some (.int n2), some (.int (n3 + (1 : Int32)))] [] s31 := by
  refine e_iload_n i_G_pairs_20 rfl ?_
  refine e_iload_n i_G_pairs_21 rfl ?_
  refine e_icmpge (t := 46) i_G_pairs_22 (by decide) ?_ ?_
  · refine e_iinc (w := 1) (L' := [some (.ref w), some (.int n1), some (.int (n2 + (1 : Int32))), some (.int n3)]) i_G_pairs_46 rfl (of_decide_eq_true rfl) (by decide) rfl ?_
    refine e_goto (t := 4) i_G_pairs_49 (by decide) ?_
    exact rfl
  · refine e_aload_n i_G_pairs_25 rfl ?_
    refine e_getR i_G_pairs_26 lf_2 (by decide) ft_10_0 (fun v26 => ?_)
    refine e_iload_n i_G_pairs_29 rfl ?_
    refine e_iload_n i_G_pairs_30 rfl ?_
    refine e_callI (as := [.ref v26, .int n3, .int n2]) (st' := []) i_G_pairs_31 lm_107 (Or.inr (Or.inl ⟨rfl, rfl⟩)) w_World_isPair rfl rfl rfl (Nat.le_of_ble_eq_true rfl) (Nat.le_of_ble_eq_true rfl) (m_rlt (q_World_isPair _) (Nat.lt_of_lt_of_le (by decide) hρ)) rfl (fun v31 s31 => ?_)
    refine e_ifeq (t := 40) i_G_pairs_34 (by decide) ?_ ?_
    · refine e_iinc (w := 1) (L' := [some (.ref w), some (.int n1), some (.int n2), some (.int (n3 + (1 : Int32)))]) i_G_pairs_40 rfl (of_decide_eq_true rfl) (by decide) rfl ?_
      refine e_goto (t := 20) i_G_pairs_43 (by decide) ?_
      exact rfl
    · refine e_iinc (w := 1) (L' := [some (.ref w), some (.int (n1 + (1 : Int32))), some (.int n2), some (.int n3)]) i_G_pairs_37 rfl (of_decide_eq_true rfl) (by decide) rfl ?_
      refine e_iinc (w := 1) (L' := [some (.ref w), some (.int (n1 + (1 : Int32))), some (.int n2), some (.int (n3 + (1 : Int32)))]) i_G_pairs_40 rfl (of_decide_eq_true rfl) (by decide) rfl ?_
      refine e_goto (t := 20) i_G_pairs_43 (by decide) ?_
      exact rfl
theorem i_G_fined_0 : m_at k_G_fined 0 = some (.iload_n 1, 1, 0) := m_at_of r_G_fined (by decide +kernel)
theorem i_G_fined_1 : m_at k_G_fined 1 = some (.iconst (-1), 1, 0) := m_at_of r_G_fined (by decide +kernel)
theorem i_G_fined_2 : m_at k_G_fined 2 = some (.if_icmp .eq (17), 3, 0) := m_at_of r_G_fined (by decide +kernel)
theorem i_G_fined_5 : m_at k_G_fined 5 = some (.aload_n 0, 1, 0) := m_at_of r_G_fined (by decide +kernel)
theorem i_G_fined_6 : m_at k_G_fined 6 = some (.getfield 10, 3, 2) := m_at_of r_G_fined (by decide +kernel)
theorem i_G_fined_9 : m_at k_G_fined 9 = some (.iload_n 1, 1, 0) := m_at_of r_G_fined (by decide +kernel)
theorem i_G_fined_10 : m_at k_G_fined 10 = some (.invokevirtual 208, 3, 113) := m_at_of r_G_fined (by decide +kernel)
theorem i_G_fined_13 : m_at k_G_fined 13 = some (.ifCond .ne (6), 3, 0) := m_at_of r_G_fined (by decide +kernel)
theorem i_G_fined_16 : m_at k_G_fined 16 = some (.bipush (-2), 2, 0) := m_at_of r_G_fined (by decide +kernel)
theorem i_G_fined_18 : m_at k_G_fined 18 = some (.ireturn, 1, 0) := m_at_of r_G_fined (by decide +kernel)
theorem i_G_fined_19 : m_at k_G_fined 19 = some (.iconst 0, 1, 0) := m_at_of r_G_fined (by decide +kernel)
theorem i_G_fined_20 : m_at k_G_fined 20 = some (.istore_n 2, 1, 0) := m_at_of r_G_fined (by decide +kernel)
theorem i_G_fined_21 : m_at k_G_fined 21 = some (.iconst 0, 1, 0) := m_at_of r_G_fined (by decide +kernel)
theorem i_G_fined_22 : m_at k_G_fined 22 = some (.istore_n 3, 1, 0) := m_at_of r_G_fined (by decide +kernel)
theorem i_G_fined_23 : m_at k_G_fined 23 = some (.iload_n 3, 1, 0) := m_at_of r_G_fined (by decide +kernel)
theorem i_G_fined_24 : m_at k_G_fined 24 = some (.aload_n 0, 1, 0) := m_at_of r_G_fined (by decide +kernel)
theorem i_G_fined_25 : m_at k_G_fined 25 = some (.getfield 10, 3, 2) := m_at_of r_G_fined (by decide +kernel)
theorem i_G_fined_28 : m_at k_G_fined 28 = some (.getfield 170, 3, 3) := m_at_of r_G_fined (by decide +kernel)
theorem i_G_fined_31 : m_at k_G_fined 31 = some (.bipush 26, 2, 0) := m_at_of r_G_fined (by decide +kernel)
theorem i_G_fined_33 : m_at k_G_fined 33 = some (.iaload, 1, 0) := m_at_of r_G_fined (by decide +kernel)
theorem i_G_fined_34 : m_at k_G_fined 34 = some (.if_icmp .ge (37), 3, 0) := m_at_of r_G_fined (by decide +kernel)
theorem i_G_fined_37 : m_at k_G_fined 37 = some (.iload_n 1, 1, 0) := m_at_of r_G_fined (by decide +kernel)
theorem i_G_fined_38 : m_at k_G_fined 38 = some (.iconst (-1), 1, 0) := m_at_of r_G_fined (by decide +kernel)
theorem i_G_fined_39 : m_at k_G_fined 39 = some (.if_icmp .eq (15), 3, 0) := m_at_of r_G_fined (by decide +kernel)
theorem i_G_fined_42 : m_at k_G_fined 42 = some (.aload_n 0, 1, 0) := m_at_of r_G_fined (by decide +kernel)
theorem i_G_fined_43 : m_at k_G_fined 43 = some (.getfield 10, 3, 2) := m_at_of r_G_fined (by decide +kernel)
theorem i_G_fined_46 : m_at k_G_fined 46 = some (.iload_n 3, 1, 0) := m_at_of r_G_fined (by decide +kernel)
theorem i_G_fined_47 : m_at k_G_fined 47 = some (.invokevirtual 239, 3, 114) := m_at_of r_G_fined (by decide +kernel)
theorem i_G_fined_50 : m_at k_G_fined 50 = some (.iload_n 1, 1, 0) := m_at_of r_G_fined (by decide +kernel)
theorem i_G_fined_51 : m_at k_G_fined 51 = some (.if_icmp .ne (14), 3, 0) := m_at_of r_G_fined (by decide +kernel)
theorem i_G_fined_54 : m_at k_G_fined 54 = some (.iload_n 2, 1, 0) := m_at_of r_G_fined (by decide +kernel)
theorem i_G_fined_55 : m_at k_G_fined 55 = some (.aload_n 0, 1, 0) := m_at_of r_G_fined (by decide +kernel)
theorem i_G_fined_56 : m_at k_G_fined 56 = some (.getfield 10, 3, 2) := m_at_of r_G_fined (by decide +kernel)
theorem i_G_fined_59 : m_at k_G_fined 59 = some (.iload_n 3, 1, 0) := m_at_of r_G_fined (by decide +kernel)
theorem i_G_fined_60 : m_at k_G_fined 60 = some (.invokevirtual 242, 3, 115) := m_at_of r_G_fined (by decide +kernel)
theorem i_G_fined_63 : m_at k_G_fined 63 = some (.iadd, 1, 0) := m_at_of r_G_fined (by decide +kernel)
theorem i_G_fined_64 : m_at k_G_fined 64 = some (.istore_n 2, 1, 0) := m_at_of r_G_fined (by decide +kernel)
theorem i_G_fined_65 : m_at k_G_fined 65 = some (.iinc 3 (1), 3, 0) := m_at_of r_G_fined (by decide +kernel)
theorem i_G_fined_68 : m_at k_G_fined 68 = some (.goto (-45), 3, 0) := m_at_of r_G_fined (by decide +kernel)
theorem i_G_fined_71 : m_at k_G_fined 71 = some (.iload_n 2, 1, 0) := m_at_of r_G_fined (by decide +kernel)
theorem i_G_fined_72 : m_at k_G_fined 72 = some (.ireturn, 1, 0) := m_at_of r_G_fined (by decide +kernel)
set_option maxRecDepth 20000 in
set_option maxHeartbeats 1000000 in
theorem E_G_fined (x : m_X) (s : m_H) (w : Nat) (n1 : Int32) : m_M x k_G_fined [.ref w, .int n1] s = if m_isO s w 10 = true then (if n1 = (-1) then (m_D x 3 k_G_fined 23 [some (.ref w), some (.int n1), some (.int 0), some (.int 0)] [] s) else (m_fR s 10 0 w).bind fun v6 => m_bI (m_M x k_World_hasOne [.ref v6, .int n1] s) fun v10 s10 => if v10 = 0 then (some (some (.int (-2)), s10)) else m_D x 3 k_G_fined 23 [some (.ref w), some (.int n1), some (.int 0), some (.int 0)] [] s10) else none := by
  refine e_M1 (L0 := [some (.ref w), some (.int n1), none, none]) rfl (by decide +kernel) rfl (q_G_fined _) rfl ?_
  refine e_iload_n i_G_fined_0 rfl ?_
  refine e_iconst (v := (-1)) i_G_fined_1 (by decide) ?_
  refine e_icmpeq (t := 19) i_G_fined_2 (by decide) ?_ ?_
  · refine e_iconst (v := 0) i_G_fined_19 (by decide) ?_
    refine e_istore_n (L' := [some (.ref w), some (.int n1), some (.int 0), none]) i_G_fined_20 (of_decide_eq_true rfl) rfl ?_
    refine e_iconst (v := 0) i_G_fined_21 (by decide) ?_
    refine e_istore_n (L' := [some (.ref w), some (.int n1), some (.int 0), some (.int 0)]) i_G_fined_22 (of_decide_eq_true rfl) rfl ?_
    exact rfl
  · refine e_aload_n i_G_fined_5 rfl ?_
    refine e_getR i_G_fined_6 lf_2 (by decide) ft_10_0 (fun v6 => ?_)
    refine e_iload_n i_G_fined_9 rfl ?_
    refine e_callI (as := [.ref v6, .int n1]) (st' := []) i_G_fined_10 lm_113 (Or.inr (Or.inl ⟨rfl, rfl⟩)) w_World_hasOne rfl rfl rfl (Nat.le_of_ble_eq_true rfl) (Nat.le_of_ble_eq_true rfl) (m_rlt (q_World_hasOne _) (by decide)) rfl (fun v10 s10 => ?_)
    refine e_ifne (t := 19) i_G_fined_13 (by decide) ?_ ?_
    · refine e_iconst (v := 0) i_G_fined_19 (by decide) ?_
      refine e_istore_n (L' := [some (.ref w), some (.int n1), some (.int 0), none]) i_G_fined_20 (of_decide_eq_true rfl) rfl ?_
      refine e_iconst (v := 0) i_G_fined_21 (by decide) ?_
      refine e_istore_n (L' := [some (.ref w), some (.int n1), some (.int 0), some (.int 0)]) i_G_fined_22 (of_decide_eq_true rfl) rfl ?_
      exact rfl
    · refine e_bipush (v := (-2)) i_G_fined_16 (by decide) ?_
      exact e_iretI i_G_fined_18 rfl
set_option maxRecDepth 20000 in
set_option maxHeartbeats 1000000 in
theorem E_G_fined_23 (x : m_X) (ρ : Nat) (hρ : 3 ≤ ρ) (s : m_H) (w : Nat) (n1 : Int32) (n2 : Int32) (n3 : Int32)  : m_D x ρ k_G_fined 23 [some (.ref w), some (.int n1), some (.int n2), some (.int n3)] [] s = (m_fR s 10 0 w).bind fun v25 => (m_fR s 9 0 v25).bind fun v28 => (m_ia x s v28 26).bind fun v33 => if v33 ≤ n3 then (some (some (.int n2), s)) else if n1 = (-1) then ((m_fR s 10 0 w).bind fun v56 => m_bI (m_M x k_World_fineCoins [.ref v56, .int n3] s) fun v60 s60 => m_D x ρ k_G_fined 23 [some (.ref w), some (.int n1), some (.int (n2 + v60)), some (.int (n3 + (1 : Int32)))] [] s60) else (m_fR s 10 0 w).bind fun v43 => m_bI (m_M x k_World_fineWho [.ref v43, .int n3] s) fun v47 s47 => if v47 = n1 then ((m_fR s47 10 0 w).bind fun v56 => m_bI (m_M x k_World_fineCoins [.ref v56, .int n3] s47) fun v60 s60 => m_D x ρ k_G_fined 23 [some (.ref w), some (.int n1), some (.int (n2 + v60)), some (.int (n3 + (1 : Int32)))] [] s60) else m_D x ρ k_G_fined 23 [some (.ref w), some (.int n1), some (.int n2), some (.int (n3 + (1 : Int32)))] [] s47 := by
  refine e_iload_n i_G_fined_23 rfl ?_
  refine e_aload_n i_G_fined_24 rfl ?_
  refine e_getR i_G_fined_25 lf_2 (by decide) ft_10_0 (fun v25 => ?_)
  refine e_getR i_G_fined_28 lf_3 (by decide) ft_9_0 (fun v28 => ?_)
  refine e_bipush (v := 26) i_G_fined_31 (by decide) ?_
  refine e_iald i_G_fined_33 (fun v33 => ?_)
  refine e_icmpge (t := 71) i_G_fined_34 (by decide) ?_ ?_
  · refine e_iload_n i_G_fined_71 rfl ?_
    exact e_iretI i_G_fined_72 rfl
  · refine e_iload_n i_G_fined_37 rfl ?_
    refine e_iconst (v := (-1)) i_G_fined_38 (by decide) ?_
    refine e_icmpeq (t := 54) i_G_fined_39 (by decide) ?_ ?_
    · refine e_iload_n i_G_fined_54 rfl ?_
      refine e_aload_n i_G_fined_55 rfl ?_
      refine e_getR i_G_fined_56 lf_2 (by decide) ft_10_0 (fun v56 => ?_)
      refine e_iload_n i_G_fined_59 rfl ?_
      refine e_callI (as := [.ref v56, .int n3]) (st' := [.int n2]) i_G_fined_60 lm_115 (Or.inr (Or.inl ⟨rfl, rfl⟩)) w_World_fineCoins rfl rfl rfl (Nat.le_of_ble_eq_true rfl) (Nat.le_of_ble_eq_true rfl) (m_rlt (q_World_fineCoins _) (Nat.lt_of_lt_of_le (by decide) hρ)) rfl (fun v60 s60 => ?_)
      refine e_iadd i_G_fined_63 ?_
      refine e_istore_n (L' := [some (.ref w), some (.int n1), some (.int (n2 + v60)), some (.int n3)]) i_G_fined_64 (of_decide_eq_true rfl) rfl ?_
      refine e_iinc (w := 1) (L' := [some (.ref w), some (.int n1), some (.int (n2 + v60)), some (.int (n3 + (1 : Int32)))]) i_G_fined_65 rfl (of_decide_eq_true rfl) (by decide) rfl ?_
      refine e_goto (t := 23) i_G_fined_68 (by decide) ?_
      exact rfl
    · refine e_aload_n i_G_fined_42 rfl ?_
      refine e_getR i_G_fined_43 lf_2 (by decide) ft_10_0 (fun v43 => ?_)
      refine e_iload_n i_G_fined_46 rfl ?_
      refine e_callI (as := [.ref v43, .int n3]) (st' := []) i_G_fined_47 lm_114 (Or.inr (Or.inl ⟨rfl, rfl⟩)) w_World_fineWho rfl rfl rfl (Nat.le_of_ble_eq_true rfl) (Nat.le_of_ble_eq_true rfl) (m_rlt (q_World_fineWho _) (Nat.lt_of_lt_of_le (by decide) hρ)) rfl (fun v47 s47 => ?_)
      refine e_iload_n i_G_fined_50 rfl ?_
      refine e_icmpne (t := 65) i_G_fined_51 (by decide) ?_ ?_
      · refine e_iinc (w := 1) (L' := [some (.ref w), some (.int n1), some (.int n2), some (.int (n3 + (1 : Int32)))]) i_G_fined_65 rfl (of_decide_eq_true rfl) (by decide) rfl ?_
        refine e_goto (t := 23) i_G_fined_68 (by decide) ?_
        exact rfl
      · refine e_iload_n i_G_fined_54 rfl ?_
        refine e_aload_n i_G_fined_55 rfl ?_
        refine e_getR i_G_fined_56 lf_2 (by decide) ft_10_0 (fun v56 => ?_)
        refine e_iload_n i_G_fined_59 rfl ?_
        refine e_callI (as := [.ref v56, .int n3]) (st' := [.int n2]) i_G_fined_60 lm_115 (Or.inr (Or.inl ⟨rfl, rfl⟩)) w_World_fineCoins rfl rfl rfl (Nat.le_of_ble_eq_true rfl) (Nat.le_of_ble_eq_true rfl) (m_rlt (q_World_fineCoins _) (Nat.lt_of_lt_of_le (by decide) hρ)) rfl (fun v60 s60 => ?_)
        refine e_iadd i_G_fined_63 ?_
        refine e_istore_n (L' := [some (.ref w), some (.int n1), some (.int (n2 + v60)), some (.int n3)]) i_G_fined_64 (of_decide_eq_true rfl) rfl ?_
        refine e_iinc (w := 1) (L' := [some (.ref w), some (.int n1), some (.int (n2 + v60)), some (.int (n3 + (1 : Int32)))]) i_G_fined_65 rfl (of_decide_eq_true rfl) (by decide) rfl ?_
        refine e_goto (t := 23) i_G_fined_68 (by decide) ?_
        exact rfl
theorem i_G_whoseLaw_0 : m_at k_G_whoseLaw 0 = some (.iconst 0, 1, 0) := m_at_of r_G_whoseLaw (by decide +kernel)
theorem i_G_whoseLaw_1 : m_at k_G_whoseLaw 1 = some (.istore_n 1, 1, 0) := m_at_of r_G_whoseLaw (by decide +kernel)
theorem i_G_whoseLaw_2 : m_at k_G_whoseLaw 2 = some (.iconst 0, 1, 0) := m_at_of r_G_whoseLaw (by decide +kernel)
theorem i_G_whoseLaw_3 : m_at k_G_whoseLaw 3 = some (.istore_n 2, 1, 0) := m_at_of r_G_whoseLaw (by decide +kernel)
theorem i_G_whoseLaw_4 : m_at k_G_whoseLaw 4 = some (.iload_n 2, 1, 0) := m_at_of r_G_whoseLaw (by decide +kernel)
theorem i_G_whoseLaw_5 : m_at k_G_whoseLaw 5 = some (.aload_n 0, 1, 0) := m_at_of r_G_whoseLaw (by decide +kernel)
theorem i_G_whoseLaw_6 : m_at k_G_whoseLaw 6 = some (.getfield 26, 3, 4) := m_at_of r_G_whoseLaw (by decide +kernel)
theorem i_G_whoseLaw_9 : m_at k_G_whoseLaw 9 = some (.getfield 104, 3, 5) := m_at_of r_G_whoseLaw (by decide +kernel)
theorem i_G_whoseLaw_12 : m_at k_G_whoseLaw 12 = some (.if_icmp .ge (27), 3, 0) := m_at_of r_G_whoseLaw (by decide +kernel)
theorem i_G_whoseLaw_15 : m_at k_G_whoseLaw 15 = some (.aload_n 0, 1, 0) := m_at_of r_G_whoseLaw (by decide +kernel)
theorem i_G_whoseLaw_16 : m_at k_G_whoseLaw 16 = some (.aload_n 0, 1, 0) := m_at_of r_G_whoseLaw (by decide +kernel)
theorem i_G_whoseLaw_17 : m_at k_G_whoseLaw 17 = some (.iload_n 2, 1, 0) := m_at_of r_G_whoseLaw (by decide +kernel)
theorem i_G_whoseLaw_18 : m_at k_G_whoseLaw 18 = some (.invokevirtual 177, 3, 118) := m_at_of r_G_whoseLaw (by decide +kernel)
theorem i_G_whoseLaw_21 : m_at k_G_whoseLaw 21 = some (.invokevirtual 376, 3, 119) := m_at_of r_G_whoseLaw (by decide +kernel)
theorem i_G_whoseLaw_24 : m_at k_G_whoseLaw 24 = some (.ifCond .eq (9), 3, 0) := m_at_of r_G_whoseLaw (by decide +kernel)
theorem i_G_whoseLaw_27 : m_at k_G_whoseLaw 27 = some (.iload_n 1, 1, 0) := m_at_of r_G_whoseLaw (by decide +kernel)
theorem i_G_whoseLaw_28 : m_at k_G_whoseLaw 28 = some (.iconst 1, 1, 0) := m_at_of r_G_whoseLaw (by decide +kernel)
theorem i_G_whoseLaw_29 : m_at k_G_whoseLaw 29 = some (.iload_n 2, 1, 0) := m_at_of r_G_whoseLaw (by decide +kernel)
theorem i_G_whoseLaw_30 : m_at k_G_whoseLaw 30 = some (.ishl, 1, 0) := m_at_of r_G_whoseLaw (by decide +kernel)
theorem i_G_whoseLaw_31 : m_at k_G_whoseLaw 31 = some (.ior, 1, 0) := m_at_of r_G_whoseLaw (by decide +kernel)
theorem i_G_whoseLaw_32 : m_at k_G_whoseLaw 32 = some (.istore_n 1, 1, 0) := m_at_of r_G_whoseLaw (by decide +kernel)
theorem i_G_whoseLaw_33 : m_at k_G_whoseLaw 33 = some (.iinc 2 (1), 3, 0) := m_at_of r_G_whoseLaw (by decide +kernel)
theorem i_G_whoseLaw_36 : m_at k_G_whoseLaw 36 = some (.goto (-32), 3, 0) := m_at_of r_G_whoseLaw (by decide +kernel)
theorem i_G_whoseLaw_39 : m_at k_G_whoseLaw 39 = some (.iload_n 1, 1, 0) := m_at_of r_G_whoseLaw (by decide +kernel)
theorem i_G_whoseLaw_40 : m_at k_G_whoseLaw 40 = some (.ireturn, 1, 0) := m_at_of r_G_whoseLaw (by decide +kernel)
set_option maxRecDepth 20000 in
set_option maxHeartbeats 1000000 in
theorem E_G_whoseLaw (x : m_X) (s : m_H) (w : Nat) : m_M x k_G_whoseLaw [.ref w] s = if m_isO s w 10 = true then (m_D x 7 k_G_whoseLaw 4 [some (.ref w), some (.int 0), some (.int 0)] [] s) else none := by
  refine e_M1 (L0 := [some (.ref w), none, none]) rfl (by decide +kernel) rfl (q_G_whoseLaw _) rfl ?_
  refine e_iconst (v := 0) i_G_whoseLaw_0 (by decide) ?_
  refine e_istore_n (L' := [some (.ref w), some (.int 0), none]) i_G_whoseLaw_1 (of_decide_eq_true rfl) rfl ?_
  refine e_iconst (v := 0) i_G_whoseLaw_2 (by decide) ?_
  refine e_istore_n (L' := [some (.ref w), some (.int 0), some (.int 0)]) i_G_whoseLaw_3 (of_decide_eq_true rfl) rfl ?_
  exact rfl
set_option maxRecDepth 20000 in
set_option maxHeartbeats 1000000 in
theorem E_G_whoseLaw_4 (x : m_X) (ρ : Nat) (hρ : 7 ≤ ρ) (s : m_H) (w : Nat) (n1 : Int32) (n2 : Int32)  : m_D x ρ k_G_whoseLaw 4 [some (.ref w), some (.int n1), some (.int n2)] [] s = (m_fR s 10 2 w).bind fun v6 => (m_fI s 7 7 v6).bind fun v9 => if v9 ≤ n2 then (some (some (.int n1), s)) else m_bN (m_M x k_G_scriptAt [.ref w, .int n2] s) (fun v18 s18 => m_bI (m_M x k_G_explainsGrowth [.ref w, .ref v18] s18) fun v21 s21 => if v21 = 0 then (m_D x ρ k_G_whoseLaw 4 [some (.ref w), some (.int n1), some (.int (n2 + (1 : Int32)))] [] s21) else m_D x ρ k_G_whoseLaw 4 [some (.ref w), some (.int (n1 ||| ((1 : Int32) <<< (n2 &&& (31 : Int32))))), some (.int (n2 + (1 : Int32)))] [] s21) fun s18 => m_bI (m_M x k_G_explainsGrowth [.ref w, .null] s18) fun v21 s21 => if v21 = 0 then (m_D x ρ k_G_whoseLaw 4 [some (.ref w), some (.int n1), some (.int (n2 + (1 : Int32)))] [] s21) else m_D x ρ k_G_whoseLaw 4 [some (.ref w), some (.int (n1 ||| ((1 : Int32) <<< (n2 &&& (31 : Int32))))), some (.int (n2 + (1 : Int32)))] [] s21 := by
  refine e_iload_n i_G_whoseLaw_4 rfl ?_
  refine e_aload_n i_G_whoseLaw_5 rfl ?_
  refine e_getR i_G_whoseLaw_6 lf_4 (by decide) ft_10_2 (fun v6 => ?_)
  refine e_getI i_G_whoseLaw_9 lf_5 (by decide) (Or.inl ft_7_7) (fun v9 => ?_)
  refine e_icmpge (t := 39) i_G_whoseLaw_12 (by decide) ?_ ?_
  · refine e_iload_n i_G_whoseLaw_39 rfl ?_
    exact e_iretI i_G_whoseLaw_40 rfl
  · refine e_aload_n i_G_whoseLaw_15 rfl ?_
    refine e_aload_n i_G_whoseLaw_16 rfl ?_
    refine e_iload_n i_G_whoseLaw_17 rfl ?_
    refine e_callN (as := [.ref w, .int n2]) (st' := [.ref w]) i_G_whoseLaw_18 lm_118 (Or.inr (Or.inl ⟨rfl, rfl⟩)) w_G_scriptAt rfl rfl rfl (Nat.le_of_ble_eq_true rfl) (Nat.le_of_ble_eq_true rfl) (m_rlt (q_G_scriptAt _) (Nat.lt_of_lt_of_le (by decide) hρ)) rfl (fun v18 s18 => ?_) (fun s18 => ?_)
    · refine e_callI (as := [.ref w, .ref v18]) (st' := []) i_G_whoseLaw_21 lm_119 (Or.inr (Or.inl ⟨rfl, rfl⟩)) w_G_explainsGrowth rfl rfl rfl (Nat.le_of_ble_eq_true rfl) (Nat.le_of_ble_eq_true rfl) (m_rlt (q_G_explainsGrowth _) (Nat.lt_of_lt_of_le (by decide) hρ)) rfl (fun v21 s21 => ?_)
      refine e_ifeq (t := 33) i_G_whoseLaw_24 (by decide) ?_ ?_
      · refine e_iinc (w := 1) (L' := [some (.ref w), some (.int n1), some (.int (n2 + (1 : Int32)))]) i_G_whoseLaw_33 rfl (of_decide_eq_true rfl) (by decide) rfl ?_
        refine e_goto (t := 4) i_G_whoseLaw_36 (by decide) ?_
        exact rfl
      · refine e_iload_n i_G_whoseLaw_27 rfl ?_
        refine e_iconst (v := 1) i_G_whoseLaw_28 (by decide) ?_
        refine e_iload_n i_G_whoseLaw_29 rfl ?_
        refine e_ishl i_G_whoseLaw_30 ?_
        refine e_ior i_G_whoseLaw_31 ?_
        refine e_istore_n (L' := [some (.ref w), some (.int (n1 ||| ((1 : Int32) <<< (n2 &&& (31 : Int32))))), some (.int n2)]) i_G_whoseLaw_32 (of_decide_eq_true rfl) rfl ?_
        refine e_iinc (w := 1) (L' := [some (.ref w), some (.int (n1 ||| ((1 : Int32) <<< (n2 &&& (31 : Int32))))), some (.int (n2 + (1 : Int32)))]) i_G_whoseLaw_33 rfl (of_decide_eq_true rfl) (by decide) rfl ?_
        refine e_goto (t := 4) i_G_whoseLaw_36 (by decide) ?_
        exact rfl
    · refine e_callI (as := [.ref w, .null]) (st' := []) i_G_whoseLaw_21 lm_119 (Or.inr (Or.inl ⟨rfl, rfl⟩)) w_G_explainsGrowth rfl rfl rfl (Nat.le_of_ble_eq_true rfl) (Nat.le_of_ble_eq_true rfl) (m_rlt (q_G_explainsGrowth _) (Nat.lt_of_lt_of_le (by decide) hρ)) rfl (fun v21 s21 => ?_)
      refine e_ifeq (t := 33) i_G_whoseLaw_24 (by decide) ?_ ?_
      · refine e_iinc (w := 1) (L' := [some (.ref w), some (.int n1), some (.int (n2 + (1 : Int32)))]) i_G_whoseLaw_33 rfl (of_decide_eq_true rfl) (by decide) rfl ?_
        refine e_goto (t := 4) i_G_whoseLaw_36 (by decide) ?_
        exact rfl
      · refine e_iload_n i_G_whoseLaw_27 rfl ?_
        refine e_iconst (v := 1) i_G_whoseLaw_28 (by decide) ?_
        refine e_iload_n i_G_whoseLaw_29 rfl ?_
        refine e_ishl i_G_whoseLaw_30 ?_
        refine e_ior i_G_whoseLaw_31 ?_
        refine e_istore_n (L' := [some (.ref w), some (.int (n1 ||| ((1 : Int32) <<< (n2 &&& (31 : Int32))))), some (.int n2)]) i_G_whoseLaw_32 (of_decide_eq_true rfl) rfl ?_
        refine e_iinc (w := 1) (L' := [some (.ref w), some (.int (n1 ||| ((1 : Int32) <<< (n2 &&& (31 : Int32))))), some (.int (n2 + (1 : Int32)))]) i_G_whoseLaw_33 rfl (of_decide_eq_true rfl) (by decide) rfl ?_
        refine e_goto (t := 4) i_G_whoseLaw_36 (by decide) ?_
        exact rfl
theorem i_G_explainsGrowth_0 : m_at k_G_explainsGrowth 0 = some (.iconst 0, 1, 0) := m_at_of r_G_explainsGrowth (by decide +kernel)
theorem i_G_explainsGrowth_1 : m_at k_G_explainsGrowth 1 = some (.istore_n 2, 1, 0) := m_at_of r_G_explainsGrowth (by decide +kernel)
theorem i_G_explainsGrowth_2 : m_at k_G_explainsGrowth 2 = some (.iload_n 2, 1, 0) := m_at_of r_G_explainsGrowth (by decide +kernel)
theorem i_G_explainsGrowth_3 : m_at k_G_explainsGrowth 3 = some (.aload_n 0, 1, 0) := m_at_of r_G_explainsGrowth (by decide +kernel)
theorem i_G_explainsGrowth_4 : m_at k_G_explainsGrowth 4 = some (.getfield 26, 3, 4) := m_at_of r_G_explainsGrowth (by decide +kernel)
theorem i_G_explainsGrowth_7 : m_at k_G_explainsGrowth 7 = some (.getfield 370, 3, 13) := m_at_of r_G_explainsGrowth (by decide +kernel)
theorem i_G_explainsGrowth_10 : m_at k_G_explainsGrowth 10 = some (.getfield 275, 3, 10) := m_at_of r_G_explainsGrowth (by decide +kernel)
theorem i_G_explainsGrowth_13 : m_at k_G_explainsGrowth 13 = some (.if_icmp .ge (66), 3, 0) := m_at_of r_G_explainsGrowth (by decide +kernel)
theorem i_G_explainsGrowth_16 : m_at k_G_explainsGrowth 16 = some (.aload_n 0, 1, 0) := m_at_of r_G_explainsGrowth (by decide +kernel)
theorem i_G_explainsGrowth_17 : m_at k_G_explainsGrowth 17 = some (.getfield 26, 3, 4) := m_at_of r_G_explainsGrowth (by decide +kernel)
theorem i_G_explainsGrowth_20 : m_at k_G_explainsGrowth 20 = some (.getfield 370, 3, 13) := m_at_of r_G_explainsGrowth (by decide +kernel)
theorem i_G_explainsGrowth_23 : m_at k_G_explainsGrowth 23 = some (.iload_n 2, 1, 0) := m_at_of r_G_explainsGrowth (by decide +kernel)
theorem i_G_explainsGrowth_24 : m_at k_G_explainsGrowth 24 = some (.invokevirtual 276, 3, 120) := m_at_of r_G_explainsGrowth (by decide +kernel)
theorem i_G_explainsGrowth_27 : m_at k_G_explainsGrowth 27 = some (.istore_n 3, 1, 0) := m_at_of r_G_explainsGrowth (by decide +kernel)
theorem i_G_explainsGrowth_28 : m_at k_G_explainsGrowth 28 = some (.aload_n 0, 1, 0) := m_at_of r_G_explainsGrowth (by decide +kernel)
theorem i_G_explainsGrowth_29 : m_at k_G_explainsGrowth 29 = some (.getfield 10, 3, 2) := m_at_of r_G_explainsGrowth (by decide +kernel)
theorem i_G_explainsGrowth_32 : m_at k_G_explainsGrowth 32 = some (.iload_n 3, 1, 0) := m_at_of r_G_explainsGrowth (by decide +kernel)
theorem i_G_explainsGrowth_33 : m_at k_G_explainsGrowth 33 = some (.invokevirtual 230, 3, 121) := m_at_of r_G_explainsGrowth (by decide +kernel)
theorem i_G_explainsGrowth_36 : m_at k_G_explainsGrowth 36 = some (.istore 4, 2, 0) := m_at_of r_G_explainsGrowth (by decide +kernel)
theorem i_G_explainsGrowth_38 : m_at k_G_explainsGrowth 38 = some (.iload 4, 2, 0) := m_at_of r_G_explainsGrowth (by decide +kernel)
theorem i_G_explainsGrowth_40 : m_at k_G_explainsGrowth 40 = some (.ifCond .eq (33), 3, 0) := m_at_of r_G_explainsGrowth (by decide +kernel)
theorem i_G_explainsGrowth_43 : m_at k_G_explainsGrowth 43 = some (.aload_n 0, 1, 0) := m_at_of r_G_explainsGrowth (by decide +kernel)
theorem i_G_explainsGrowth_44 : m_at k_G_explainsGrowth 44 = some (.getfield 59, 3, 34) := m_at_of r_G_explainsGrowth (by decide +kernel)
theorem i_G_explainsGrowth_47 : m_at k_G_explainsGrowth 47 = some (.iconst 2, 1, 0) := m_at_of r_G_explainsGrowth (by decide +kernel)
theorem i_G_explainsGrowth_48 : m_at k_G_explainsGrowth 48 = some (.aload_n 1, 1, 0) := m_at_of r_G_explainsGrowth (by decide +kernel)
theorem i_G_explainsGrowth_49 : m_at k_G_explainsGrowth 49 = some (.aload_n 0, 1, 0) := m_at_of r_G_explainsGrowth (by decide +kernel)
theorem i_G_explainsGrowth_50 : m_at k_G_explainsGrowth 50 = some (.getfield 10, 3, 2) := m_at_of r_G_explainsGrowth (by decide +kernel)
theorem i_G_explainsGrowth_53 : m_at k_G_explainsGrowth 53 = some (.iload_n 3, 1, 0) := m_at_of r_G_explainsGrowth (by decide +kernel)
theorem i_G_explainsGrowth_54 : m_at k_G_explainsGrowth 54 = some (.invokevirtual 223, 3, 122) := m_at_of r_G_explainsGrowth (by decide +kernel)
theorem i_G_explainsGrowth_57 : m_at k_G_explainsGrowth 57 = some (.aload_n 0, 1, 0) := m_at_of r_G_explainsGrowth (by decide +kernel)
theorem i_G_explainsGrowth_58 : m_at k_G_explainsGrowth 58 = some (.getfield 26, 3, 4) := m_at_of r_G_explainsGrowth (by decide +kernel)
theorem i_G_explainsGrowth_61 : m_at k_G_explainsGrowth 61 = some (.getfield 373, 3, 35) := m_at_of r_G_explainsGrowth (by decide +kernel)
theorem i_G_explainsGrowth_64 : m_at k_G_explainsGrowth 64 = some (.iload_n 2, 1, 0) := m_at_of r_G_explainsGrowth (by decide +kernel)
theorem i_G_explainsGrowth_65 : m_at k_G_explainsGrowth 65 = some (.invokevirtual 276, 3, 120) := m_at_of r_G_explainsGrowth (by decide +kernel)
theorem i_G_explainsGrowth_68 : m_at k_G_explainsGrowth 68 = some (.if_icmp .eq (5), 3, 0) := m_at_of r_G_explainsGrowth (by decide +kernel)
theorem i_G_explainsGrowth_71 : m_at k_G_explainsGrowth 71 = some (.iconst 0, 1, 0) := m_at_of r_G_explainsGrowth (by decide +kernel)
theorem i_G_explainsGrowth_72 : m_at k_G_explainsGrowth 72 = some (.ireturn, 1, 0) := m_at_of r_G_explainsGrowth (by decide +kernel)
theorem i_G_explainsGrowth_73 : m_at k_G_explainsGrowth 73 = some (.iinc 2 (1), 3, 0) := m_at_of r_G_explainsGrowth (by decide +kernel)
theorem i_G_explainsGrowth_76 : m_at k_G_explainsGrowth 76 = some (.goto (-74), 3, 0) := m_at_of r_G_explainsGrowth (by decide +kernel)
theorem i_G_explainsGrowth_79 : m_at k_G_explainsGrowth 79 = some (.iconst 1, 1, 0) := m_at_of r_G_explainsGrowth (by decide +kernel)
theorem i_G_explainsGrowth_80 : m_at k_G_explainsGrowth 80 = some (.ireturn, 1, 0) := m_at_of r_G_explainsGrowth (by decide +kernel)
set_option maxRecDepth 20000 in
set_option maxHeartbeats 1000000 in
theorem E_G_explainsGrowth (x : m_X) (s : m_H) (w : Nat) (r1 : Nat) : m_M x k_G_explainsGrowth [.ref w, .ref r1] s = if m_isO s w 10 = true then (m_D x 6 k_G_explainsGrowth 2 [some (.ref w), some (.ref r1), some (.int 0), none, none] [] s) else none := by
  refine e_M1 (L0 := [some (.ref w), some (.ref r1), none, none, none]) rfl (by decide +kernel) rfl (q_G_explainsGrowth _) rfl ?_
  refine e_iconst (v := 0) i_G_explainsGrowth_0 (by decide) ?_
  refine e_istore_n (L' := [some (.ref w), some (.ref r1), some (.int 0), none, none]) i_G_explainsGrowth_1 (of_decide_eq_true rfl) rfl ?_
  exact rfl
set_option maxRecDepth 20000 in
set_option maxHeartbeats 1000000 in
theorem E_G_explainsGrowth_2 (x : m_X) (ρ : Nat) (hρ : 6 ≤ ρ) (s : m_H) (w : Nat) (r1 : Nat) (n2 : Int32) (d3 : Option Value) (d4 : Option Value) (hd3 : m_nl d3 = true) (hd4 : m_nl d4 = true) : m_D x ρ k_G_explainsGrowth 2 [some (.ref w), some (.ref r1), some (.int n2), d3, d4] [] s = (m_fR s 10 2 w).bind fun v4 => (m_fR s 7 5 v4).bind fun v7 => (m_fI s 4 1 v7).bind fun v10 => if v10 ≤ n2 then (some (some (.int 1), s)) else (m_fR s 10 2 w).bind fun v17 => (m_fR s 7 5 v17).bind fun v20 => m_bI (m_M x k_Row_itemAt [.ref v20, .int n2] s) fun v24 s24 => (m_fR s24 10 0 w).bind fun v29 => m_bI (m_M x k_World_hasGlove [.ref v29, .int v24] s24) fun v33 s33 => if v33 = 0 then (m_D x ρ k_G_explainsGrowth 2 [some (.ref w), some (.ref r1), some (.int (n2 + (1 : Int32))), some (.int v24), some (.int v33)] [] s33) else (m_fR s33 10 9 w).bind fun v44 => (m_fR s33 10 0 w).bind fun v50 => m_bI (m_M x k_Law_amount [.ref v44, .int 2, .ref r1, .ref v50, .int v24] s33) fun v54 s54 => (m_fR s54 10 2 w).bind fun v58 => (m_fR s54 7 6 v58).bind fun v61 => m_bI (m_M x k_Row_itemAt [.ref v61, .int n2] s54) fun v65 s65 => if v54 = v65 then (m_D x ρ k_G_explainsGrowth 2 [some (.ref w), some (.ref r1), some (.int (n2 + (1 : Int32))), some (.int v24), some (.int v33)] [] s65) else some (some (.int 0), s65) := by
  refine e_iload_n i_G_explainsGrowth_2 rfl ?_
  refine e_aload_n i_G_explainsGrowth_3 rfl ?_
  refine e_getR i_G_explainsGrowth_4 lf_4 (by decide) ft_10_2 (fun v4 => ?_)
  refine e_getR i_G_explainsGrowth_7 lf_13 (by decide) ft_7_5 (fun v7 => ?_)
  refine e_getI i_G_explainsGrowth_10 lf_10 (by decide) (Or.inl ft_4_1) (fun v10 => ?_)
  refine e_icmpge (t := 79) i_G_explainsGrowth_13 (by decide) ?_ ?_
  · refine e_iconst (v := 1) i_G_explainsGrowth_79 (by decide) ?_
    exact e_iretZ i_G_explainsGrowth_80 rfl (by decide)
  · refine e_aload_n i_G_explainsGrowth_16 rfl ?_
    refine e_getR i_G_explainsGrowth_17 lf_4 (by decide) ft_10_2 (fun v17 => ?_)
    refine e_getR i_G_explainsGrowth_20 lf_13 (by decide) ft_7_5 (fun v20 => ?_)
    refine e_iload_n i_G_explainsGrowth_23 rfl ?_
    refine e_callI (as := [.ref v20, .int n2]) (st' := []) i_G_explainsGrowth_24 lm_120 (Or.inr (Or.inl ⟨rfl, rfl⟩)) w_Row_itemAt rfl rfl rfl (Nat.le_of_ble_eq_true rfl) (Nat.le_of_ble_eq_true rfl) (m_rlt (q_Row_itemAt _) (Nat.lt_of_lt_of_le (by decide) hρ)) rfl (fun v24 s24 => ?_)
    refine e_istore_n (L' := [some (.ref w), some (.ref r1), some (.int n2), some (.int v24), d4]) i_G_explainsGrowth_27 (of_decide_eq_true rfl) rfl ?_
    refine e_aload_n i_G_explainsGrowth_28 rfl ?_
    refine e_getR i_G_explainsGrowth_29 lf_2 (by decide) ft_10_0 (fun v29 => ?_)
    refine e_iload_n i_G_explainsGrowth_32 rfl ?_
    refine e_callI (as := [.ref v29, .int v24]) (st' := []) i_G_explainsGrowth_33 lm_121 (Or.inr (Or.inl ⟨rfl, rfl⟩)) w_World_hasGlove rfl rfl rfl (Nat.le_of_ble_eq_true rfl) (Nat.le_of_ble_eq_true rfl) (m_rlt (q_World_hasGlove _) (Nat.lt_of_lt_of_le (by decide) hρ)) rfl (fun v33 s33 => ?_)
    refine e_istore (L' := [some (.ref w), some (.ref r1), some (.int n2), some (.int v24), some (.int v33)]) i_G_explainsGrowth_36 (of_decide_eq_true rfl) rfl ?_
    refine e_iload i_G_explainsGrowth_38 rfl ?_
    refine e_ifeq (t := 73) i_G_explainsGrowth_40 (by decide) ?_ ?_
    · refine e_iinc (w := 1) (L' := [some (.ref w), some (.ref r1), some (.int (n2 + (1 : Int32))), some (.int v24), some (.int v33)]) i_G_explainsGrowth_73 rfl (of_decide_eq_true rfl) (by decide) rfl ?_
      refine e_goto (t := 2) i_G_explainsGrowth_76 (by decide) ?_
      exact rfl
    · refine e_aload_n i_G_explainsGrowth_43 rfl ?_
      refine e_getR i_G_explainsGrowth_44 lf_34 (by decide) ft_10_9 (fun v44 => ?_)
      refine e_iconst (v := 2) i_G_explainsGrowth_47 (by decide) ?_
      refine e_aload_n i_G_explainsGrowth_48 rfl ?_
      refine e_aload_n i_G_explainsGrowth_49 rfl ?_
      refine e_getR i_G_explainsGrowth_50 lf_2 (by decide) ft_10_0 (fun v50 => ?_)
      refine e_iload_n i_G_explainsGrowth_53 rfl ?_
      refine e_callI (as := [.ref v44, .int 2, .ref r1, .ref v50, .int v24]) (st' := []) i_G_explainsGrowth_54 lm_122 (Or.inr (Or.inl ⟨rfl, rfl⟩)) w_Law_amount rfl rfl rfl (Nat.le_of_ble_eq_true rfl) (Nat.le_of_ble_eq_true rfl) (m_rlt (q_Law_amount _) (Nat.lt_of_lt_of_le (by decide) hρ)) rfl (fun v54 s54 => ?_)
      refine e_aload_n i_G_explainsGrowth_57 rfl ?_
      refine e_getR i_G_explainsGrowth_58 lf_4 (by decide) ft_10_2 (fun v58 => ?_)
      refine e_getR i_G_explainsGrowth_61 lf_35 (by decide) ft_7_6 (fun v61 => ?_)
      refine e_iload_n i_G_explainsGrowth_64 rfl ?_
      refine e_callI (as := [.ref v61, .int n2]) (st' := [.int v54]) i_G_explainsGrowth_65 lm_120 (Or.inr (Or.inl ⟨rfl, rfl⟩)) w_Row_itemAt rfl rfl rfl (Nat.le_of_ble_eq_true rfl) (Nat.le_of_ble_eq_true rfl) (m_rlt (q_Row_itemAt _) (Nat.lt_of_lt_of_le (by decide) hρ)) rfl (fun v65 s65 => ?_)
      refine e_icmpeq (t := 73) i_G_explainsGrowth_68 (by decide) ?_ ?_
      · refine e_iinc (w := 1) (L' := [some (.ref w), some (.ref r1), some (.int (n2 + (1 : Int32))), some (.int v24), some (.int v33)]) i_G_explainsGrowth_73 rfl (of_decide_eq_true rfl) (by decide) rfl ?_
        refine e_goto (t := 2) i_G_explainsGrowth_76 (by decide) ?_
        exact rfl
      · refine e_iconst (v := 0) i_G_explainsGrowth_71 (by decide) ?_
        exact e_iretZ i_G_explainsGrowth_72 rfl (by decide)
theorem i_G_grown_0 : m_at k_G_grown 0 = some (.iload_n 1, 1, 0) := m_at_of r_G_grown (by decide +kernel)
theorem i_G_grown_1 : m_at k_G_grown 1 = some (.iconst (-1), 1, 0) := m_at_of r_G_grown (by decide +kernel)
theorem i_G_grown_2 : m_at k_G_grown 2 = some (.if_icmp .ne (25), 3, 0) := m_at_of r_G_grown (by decide +kernel)
theorem i_G_grown_5 : m_at k_G_grown 5 = some (.aload_n 0, 1, 0) := m_at_of r_G_grown (by decide +kernel)
theorem i_G_grown_6 : m_at k_G_grown 6 = some (.getfield 26, 3, 4) := m_at_of r_G_grown (by decide +kernel)
theorem i_G_grown_9 : m_at k_G_grown 9 = some (.getfield 370, 3, 13) := m_at_of r_G_grown (by decide +kernel)
theorem i_G_grown_12 : m_at k_G_grown 12 = some (.invokevirtual 342, 3, 123) := m_at_of r_G_grown (by decide +kernel)
theorem i_G_grown_15 : m_at k_G_grown 15 = some (.aload_n 0, 1, 0) := m_at_of r_G_grown (by decide +kernel)
theorem i_G_grown_16 : m_at k_G_grown 16 = some (.getfield 26, 3, 4) := m_at_of r_G_grown (by decide +kernel)
theorem i_G_grown_19 : m_at k_G_grown 19 = some (.getfield 373, 3, 35) := m_at_of r_G_grown (by decide +kernel)
theorem i_G_grown_22 : m_at k_G_grown 22 = some (.invokevirtual 342, 3, 123) := m_at_of r_G_grown (by decide +kernel)
theorem i_G_grown_25 : m_at k_G_grown 25 = some (.iconst 0, 1, 0) := m_at_of r_G_grown (by decide +kernel)
theorem i_G_grown_26 : m_at k_G_grown 26 = some (.ireturn, 1, 0) := m_at_of r_G_grown (by decide +kernel)
theorem i_G_grown_27 : m_at k_G_grown 27 = some (.aload_n 0, 1, 0) := m_at_of r_G_grown (by decide +kernel)
theorem i_G_grown_28 : m_at k_G_grown 28 = some (.getfield 10, 3, 2) := m_at_of r_G_grown (by decide +kernel)
theorem i_G_grown_31 : m_at k_G_grown 31 = some (.iload_n 1, 1, 0) := m_at_of r_G_grown (by decide +kernel)
theorem i_G_grown_32 : m_at k_G_grown 32 = some (.invokevirtual 230, 3, 121) := m_at_of r_G_grown (by decide +kernel)
theorem i_G_grown_35 : m_at k_G_grown 35 = some (.ifCond .eq (17), 3, 0) := m_at_of r_G_grown (by decide +kernel)
theorem i_G_grown_38 : m_at k_G_grown 38 = some (.iload_n 2, 1, 0) := m_at_of r_G_grown (by decide +kernel)
theorem i_G_grown_39 : m_at k_G_grown 39 = some (.iconst 0, 1, 0) := m_at_of r_G_grown (by decide +kernel)
theorem i_G_grown_40 : m_at k_G_grown 40 = some (.bipush 9, 2, 0) := m_at_of r_G_grown (by decide +kernel)
theorem i_G_grown_42 : m_at k_G_grown 42 = some (.invokestatic 100, 3, 124) := m_at_of r_G_grown (by decide +kernel)
theorem i_G_grown_45 : m_at k_G_grown 45 = some (.ifCond .eq (7), 3, 0) := m_at_of r_G_grown (by decide +kernel)
theorem i_G_grown_48 : m_at k_G_grown 48 = some (.iconst 1, 1, 0) := m_at_of r_G_grown (by decide +kernel)
theorem i_G_grown_49 : m_at k_G_grown 49 = some (.goto (4), 3, 0) := m_at_of r_G_grown (by decide +kernel)
theorem i_G_grown_52 : m_at k_G_grown 52 = some (.iconst 0, 1, 0) := m_at_of r_G_grown (by decide +kernel)
theorem i_G_grown_53 : m_at k_G_grown 53 = some (.istore_n 3, 1, 0) := m_at_of r_G_grown (by decide +kernel)
theorem i_G_grown_54 : m_at k_G_grown 54 = some (.iload_n 3, 1, 0) := m_at_of r_G_grown (by decide +kernel)
theorem i_G_grown_55 : m_at k_G_grown 55 = some (.ifCond .eq (31), 3, 0) := m_at_of r_G_grown (by decide +kernel)
theorem i_G_grown_58 : m_at k_G_grown 58 = some (.aload_n 0, 1, 0) := m_at_of r_G_grown (by decide +kernel)
theorem i_G_grown_59 : m_at k_G_grown 59 = some (.getfield 26, 3, 4) := m_at_of r_G_grown (by decide +kernel)
theorem i_G_grown_62 : m_at k_G_grown 62 = some (.getfield 370, 3, 13) := m_at_of r_G_grown (by decide +kernel)
theorem i_G_grown_65 : m_at k_G_grown 65 = some (.iload_n 1, 1, 0) := m_at_of r_G_grown (by decide +kernel)
theorem i_G_grown_66 : m_at k_G_grown 66 = some (.invokevirtual 348, 3, 125) := m_at_of r_G_grown (by decide +kernel)
theorem i_G_grown_69 : m_at k_G_grown 69 = some (.ifCond .eq (17), 3, 0) := m_at_of r_G_grown (by decide +kernel)
theorem i_G_grown_72 : m_at k_G_grown 72 = some (.aload_n 0, 1, 0) := m_at_of r_G_grown (by decide +kernel)
theorem i_G_grown_73 : m_at k_G_grown 73 = some (.getfield 26, 3, 4) := m_at_of r_G_grown (by decide +kernel)
theorem i_G_grown_76 : m_at k_G_grown 76 = some (.getfield 373, 3, 35) := m_at_of r_G_grown (by decide +kernel)
theorem i_G_grown_79 : m_at k_G_grown 79 = some (.iload_n 2, 1, 0) := m_at_of r_G_grown (by decide +kernel)
theorem i_G_grown_80 : m_at k_G_grown 80 = some (.invokevirtual 348, 3, 125) := m_at_of r_G_grown (by decide +kernel)
theorem i_G_grown_83 : m_at k_G_grown 83 = some (.ifCond .ne (6), 3, 0) := m_at_of r_G_grown (by decide +kernel)
theorem i_G_grown_86 : m_at k_G_grown 86 = some (.bipush (-2), 2, 0) := m_at_of r_G_grown (by decide +kernel)
theorem i_G_grown_88 : m_at k_G_grown 88 = some (.ireturn, 1, 0) := m_at_of r_G_grown (by decide +kernel)
theorem i_G_grown_89 : m_at k_G_grown 89 = some (.aload_n 0, 1, 0) := m_at_of r_G_grown (by decide +kernel)
theorem i_G_grown_90 : m_at k_G_grown 90 = some (.getfield 26, 3, 4) := m_at_of r_G_grown (by decide +kernel)
theorem i_G_grown_93 : m_at k_G_grown 93 = some (.getfield 370, 3, 13) := m_at_of r_G_grown (by decide +kernel)
theorem i_G_grown_96 : m_at k_G_grown 96 = some (.getfield 275, 3, 10) := m_at_of r_G_grown (by decide +kernel)
theorem i_G_grown_99 : m_at k_G_grown 99 = some (.ireturn, 1, 0) := m_at_of r_G_grown (by decide +kernel)
set_option maxRecDepth 20000 in
set_option maxHeartbeats 1000000 in
theorem E_G_grown (x : m_X) (s : m_H) (w : Nat) (n1 : Int32) (n2 : Int32) : m_M x k_G_grown [.ref w, .int n1, .int n2] s = if m_isO s w 10 = true then (if n1 = (-1) then ((m_fR s 10 2 w).bind fun v6 => (m_fR s 7 5 v6).bind fun v9 => m_bV (m_M x k_Row_empty [.ref v9] s) fun s12 => (m_fR s12 10 2 w).bind fun v16 => (m_fR s12 7 6 v16).bind fun v19 => m_bV (m_M x k_Row_empty [.ref v19] s12) fun s22 => some (some (.int 0), s22)) else (m_fR s 10 0 w).bind fun v28 => m_bI (m_M x k_World_hasGlove [.ref v28, .int n1] s) fun v32 s32 => if v32 = 0 then (m_D x 2 k_G_grown 53 [some (.ref w), some (.int n1), some (.int n2), none] [.int 0] s32) else m_bI (m_M x k_G_isIn [.int n2, .int 0, .int 9] s32) fun v42 s42 => if v42 = 0 then (m_D x 2 k_G_grown 53 [some (.ref w), some (.int n1), some (.int n2), none] [.int 0] s42) else m_D x 2 k_G_grown 53 [some (.ref w), some (.int n1), some (.int n2), none] [.int 1] s42) else none := by
  refine e_M1 (L0 := [some (.ref w), some (.int n1), some (.int n2), none]) rfl (by decide +kernel) rfl (q_G_grown _) rfl ?_
  refine e_iload_n i_G_grown_0 rfl ?_
  refine e_iconst (v := (-1)) i_G_grown_1 (by decide) ?_
  refine e_icmpne (t := 27) i_G_grown_2 (by decide) ?_ ?_
  · refine e_aload_n i_G_grown_27 rfl ?_
    refine e_getR i_G_grown_28 lf_2 (by decide) ft_10_0 (fun v28 => ?_)
    refine e_iload_n i_G_grown_31 rfl ?_
    refine e_callI (as := [.ref v28, .int n1]) (st' := []) i_G_grown_32 lm_121 (Or.inr (Or.inl ⟨rfl, rfl⟩)) w_World_hasGlove rfl rfl rfl (Nat.le_of_ble_eq_true rfl) (Nat.le_of_ble_eq_true rfl) (m_rlt (q_World_hasGlove _) (by decide)) rfl (fun v32 s32 => ?_)
    refine e_ifeq (t := 52) i_G_grown_35 (by decide) ?_ ?_
    · refine e_iconst (v := 0) i_G_grown_52 (by decide) ?_
      exact rfl
    · refine e_iload_n i_G_grown_38 rfl ?_
      refine e_iconst (v := 0) i_G_grown_39 (by decide) ?_
      refine e_bipush (v := 9) i_G_grown_40 (by decide) ?_
      refine e_callI (as := [.int n2, .int 0, .int 9]) (st' := []) i_G_grown_42 lm_124 (Or.inl ⟨rfl, rfl⟩) w_G_isIn rfl rfl rfl (Nat.le_of_ble_eq_true rfl) (Nat.le_of_ble_eq_true rfl) (m_rlt (q_G_isIn _) (by decide)) rfl (fun v42 s42 => ?_)
      refine e_ifeq (t := 52) i_G_grown_45 (by decide) ?_ ?_
      · refine e_iconst (v := 0) i_G_grown_52 (by decide) ?_
        exact rfl
      · refine e_iconst (v := 1) i_G_grown_48 (by decide) ?_
        refine e_goto (t := 53) i_G_grown_49 (by decide) ?_
        exact rfl
  · refine e_aload_n i_G_grown_5 rfl ?_
    refine e_getR i_G_grown_6 lf_4 (by decide) ft_10_2 (fun v6 => ?_)
    refine e_getR i_G_grown_9 lf_13 (by decide) ft_7_5 (fun v9 => ?_)
    refine e_callV (as := [.ref v9]) (st' := []) i_G_grown_12 lm_123 (Or.inr (Or.inl ⟨rfl, rfl⟩)) w_Row_empty rfl rfl rfl (Nat.le_of_ble_eq_true rfl) (Nat.le_of_ble_eq_true rfl) (m_rlt (q_Row_empty _) (by decide)) rfl (fun s12 => ?_)
    refine e_aload_n i_G_grown_15 rfl ?_
    refine e_getR i_G_grown_16 lf_4 (by decide) ft_10_2 (fun v16 => ?_)
    refine e_getR i_G_grown_19 lf_35 (by decide) ft_7_6 (fun v19 => ?_)
    refine e_callV (as := [.ref v19]) (st' := []) i_G_grown_22 lm_123 (Or.inr (Or.inl ⟨rfl, rfl⟩)) w_Row_empty rfl rfl rfl (Nat.le_of_ble_eq_true rfl) (Nat.le_of_ble_eq_true rfl) (m_rlt (q_Row_empty _) (by decide)) rfl (fun s22 => ?_)
    refine e_iconst (v := 0) i_G_grown_25 (by decide) ?_
    exact e_iretI i_G_grown_26 rfl
set_option maxRecDepth 20000 in
set_option maxHeartbeats 1000000 in
theorem E_G_grown_53 (x : m_X) (ρ : Nat) (hρ : 2 ≤ ρ) (s : m_H) (w : Nat) (n1 : Int32) (n2 : Int32) (nt0 : Int32)  : m_D x ρ k_G_grown 53 [some (.ref w), some (.int n1), some (.int n2), none] [.int nt0] s = if nt0 = 0 then (some (some (.int (-2)), s)) else (m_fR s 10 2 w).bind fun v59 => (m_fR s 7 5 v59).bind fun v62 => m_bI (m_M x k_Row_put [.ref v62, .int n1] s) fun v66 s66 => if v66 = 0 then (some (some (.int (-2)), s66)) else (m_fR s66 10 2 w).bind fun v73 => (m_fR s66 7 6 v73).bind fun v76 => m_bI (m_M x k_Row_put [.ref v76, .int n2] s66) fun v80 s80 => if v80 = 0 then (some (some (.int (-2)), s80)) else (m_fR s80 10 2 w).bind fun v90 => (m_fR s80 7 5 v90).bind fun v93 => (m_fI s80 4 1 v93).bind fun v96 => some (some (.int v96), s80) := by
  refine e_istore_n (L' := [some (.ref w), some (.int n1), some (.int n2), some (.int nt0)]) i_G_grown_53 (of_decide_eq_true rfl) rfl ?_
  refine e_iload_n i_G_grown_54 rfl ?_
  refine e_ifeq (t := 86) i_G_grown_55 (by decide) ?_ ?_
  · refine e_bipush (v := (-2)) i_G_grown_86 (by decide) ?_
    exact e_iretI i_G_grown_88 rfl
  · refine e_aload_n i_G_grown_58 rfl ?_
    refine e_getR i_G_grown_59 lf_4 (by decide) ft_10_2 (fun v59 => ?_)
    refine e_getR i_G_grown_62 lf_13 (by decide) ft_7_5 (fun v62 => ?_)
    refine e_iload_n i_G_grown_65 rfl ?_
    refine e_callI (as := [.ref v62, .int n1]) (st' := []) i_G_grown_66 lm_125 (Or.inr (Or.inl ⟨rfl, rfl⟩)) w_Row_put rfl rfl rfl (Nat.le_of_ble_eq_true rfl) (Nat.le_of_ble_eq_true rfl) (m_rlt (q_Row_put _) (Nat.lt_of_lt_of_le (by decide) hρ)) rfl (fun v66 s66 => ?_)
    refine e_ifeq (t := 86) i_G_grown_69 (by decide) ?_ ?_
    · refine e_bipush (v := (-2)) i_G_grown_86 (by decide) ?_
      exact e_iretI i_G_grown_88 rfl
    · refine e_aload_n i_G_grown_72 rfl ?_
      refine e_getR i_G_grown_73 lf_4 (by decide) ft_10_2 (fun v73 => ?_)
      refine e_getR i_G_grown_76 lf_35 (by decide) ft_7_6 (fun v76 => ?_)
      refine e_iload_n i_G_grown_79 rfl ?_
      refine e_callI (as := [.ref v76, .int n2]) (st' := []) i_G_grown_80 lm_125 (Or.inr (Or.inl ⟨rfl, rfl⟩)) w_Row_put rfl rfl rfl (Nat.le_of_ble_eq_true rfl) (Nat.le_of_ble_eq_true rfl) (m_rlt (q_Row_put _) (Nat.lt_of_lt_of_le (by decide) hρ)) rfl (fun v80 s80 => ?_)
      refine e_ifne (t := 89) i_G_grown_83 (by decide) ?_ ?_
      · refine e_aload_n i_G_grown_89 rfl ?_
        refine e_getR i_G_grown_90 lf_4 (by decide) ft_10_2 (fun v90 => ?_)
        refine e_getR i_G_grown_93 lf_13 (by decide) ft_7_5 (fun v93 => ?_)
        refine e_getI i_G_grown_96 lf_10 (by decide) (Or.inl ft_4_1) (fun v96 => ?_)
        exact e_iretI i_G_grown_99 rfl
      · refine e_bipush (v := (-2)) i_G_grown_86 (by decide) ?_
        exact e_iretI i_G_grown_88 rfl
theorem i_G_richest_0 : m_at k_G_richest 0 = some (.iconst (-1), 1, 0) := m_at_of r_G_richest (by decide +kernel)
theorem i_G_richest_1 : m_at k_G_richest 1 = some (.istore_n 1, 1, 0) := m_at_of r_G_richest (by decide +kernel)
theorem i_G_richest_2 : m_at k_G_richest 2 = some (.iconst 0, 1, 0) := m_at_of r_G_richest (by decide +kernel)
theorem i_G_richest_3 : m_at k_G_richest 3 = some (.istore_n 2, 1, 0) := m_at_of r_G_richest (by decide +kernel)
theorem i_G_richest_4 : m_at k_G_richest 4 = some (.iconst 0, 1, 0) := m_at_of r_G_richest (by decide +kernel)
theorem i_G_richest_5 : m_at k_G_richest 5 = some (.istore_n 3, 1, 0) := m_at_of r_G_richest (by decide +kernel)
theorem i_G_richest_6 : m_at k_G_richest 6 = some (.iload_n 3, 1, 0) := m_at_of r_G_richest (by decide +kernel)
theorem i_G_richest_7 : m_at k_G_richest 7 = some (.aload_n 0, 1, 0) := m_at_of r_G_richest (by decide +kernel)
theorem i_G_richest_8 : m_at k_G_richest 8 = some (.getfield 10, 3, 2) := m_at_of r_G_richest (by decide +kernel)
theorem i_G_richest_11 : m_at k_G_richest 11 = some (.getfield 170, 3, 3) := m_at_of r_G_richest (by decide +kernel)
theorem i_G_richest_14 : m_at k_G_richest 14 = some (.iconst 0, 1, 0) := m_at_of r_G_richest (by decide +kernel)
theorem i_G_richest_15 : m_at k_G_richest 15 = some (.iaload, 1, 0) := m_at_of r_G_richest (by decide +kernel)
theorem i_G_richest_16 : m_at k_G_richest 16 = some (.if_icmp .ge (30), 3, 0) := m_at_of r_G_richest (by decide +kernel)
theorem i_G_richest_19 : m_at k_G_richest 19 = some (.aload_n 0, 1, 0) := m_at_of r_G_richest (by decide +kernel)
theorem i_G_richest_20 : m_at k_G_richest 20 = some (.getfield 10, 3, 2) := m_at_of r_G_richest (by decide +kernel)
theorem i_G_richest_23 : m_at k_G_richest 23 = some (.iload_n 3, 1, 0) := m_at_of r_G_richest (by decide +kernel)
theorem i_G_richest_24 : m_at k_G_richest 24 = some (.invokevirtual 367, 3, 126) := m_at_of r_G_richest (by decide +kernel)
theorem i_G_richest_27 : m_at k_G_richest 27 = some (.istore 4, 2, 0) := m_at_of r_G_richest (by decide +kernel)
theorem i_G_richest_29 : m_at k_G_richest 29 = some (.iload 4, 2, 0) := m_at_of r_G_richest (by decide +kernel)
theorem i_G_richest_31 : m_at k_G_richest 31 = some (.iload_n 2, 1, 0) := m_at_of r_G_richest (by decide +kernel)
theorem i_G_richest_32 : m_at k_G_richest 32 = some (.if_icmp .le (8), 3, 0) := m_at_of r_G_richest (by decide +kernel)
theorem i_G_richest_35 : m_at k_G_richest 35 = some (.iload 4, 2, 0) := m_at_of r_G_richest (by decide +kernel)
theorem i_G_richest_37 : m_at k_G_richest 37 = some (.istore_n 2, 1, 0) := m_at_of r_G_richest (by decide +kernel)
theorem i_G_richest_38 : m_at k_G_richest 38 = some (.iload_n 3, 1, 0) := m_at_of r_G_richest (by decide +kernel)
theorem i_G_richest_39 : m_at k_G_richest 39 = some (.istore_n 1, 1, 0) := m_at_of r_G_richest (by decide +kernel)
theorem i_G_richest_40 : m_at k_G_richest 40 = some (.iinc 3 (1), 3, 0) := m_at_of r_G_richest (by decide +kernel)
theorem i_G_richest_43 : m_at k_G_richest 43 = some (.goto (-37), 3, 0) := m_at_of r_G_richest (by decide +kernel)
theorem i_G_richest_46 : m_at k_G_richest 46 = some (.iload_n 1, 1, 0) := m_at_of r_G_richest (by decide +kernel)
theorem i_G_richest_47 : m_at k_G_richest 47 = some (.ireturn, 1, 0) := m_at_of r_G_richest (by decide +kernel)
set_option maxRecDepth 20000 in
set_option maxHeartbeats 1000000 in
theorem E_G_richest (x : m_X) (s : m_H) (w : Nat) : m_M x k_G_richest [.ref w] s = if m_isO s w 10 = true then (m_D x 4 k_G_richest 6 [some (.ref w), some (.int (-1)), some (.int 0), some (.int 0), none] [] s) else none := by
  refine e_M1 (L0 := [some (.ref w), none, none, none, none]) rfl (by decide +kernel) rfl (q_G_richest _) rfl ?_
  refine e_iconst (v := (-1)) i_G_richest_0 (by decide) ?_
  refine e_istore_n (L' := [some (.ref w), some (.int (-1)), none, none, none]) i_G_richest_1 (of_decide_eq_true rfl) rfl ?_
  refine e_iconst (v := 0) i_G_richest_2 (by decide) ?_
  refine e_istore_n (L' := [some (.ref w), some (.int (-1)), some (.int 0), none, none]) i_G_richest_3 (of_decide_eq_true rfl) rfl ?_
  refine e_iconst (v := 0) i_G_richest_4 (by decide) ?_
  refine e_istore_n (L' := [some (.ref w), some (.int (-1)), some (.int 0), some (.int 0), none]) i_G_richest_5 (of_decide_eq_true rfl) rfl ?_
  exact rfl
set_option maxRecDepth 20000 in
set_option maxHeartbeats 1000000 in
theorem E_G_richest_6 (x : m_X) (ρ : Nat) (hρ : 4 ≤ ρ) (s : m_H) (w : Nat) (n1 : Int32) (n2 : Int32) (n3 : Int32) (d4 : Option Value) (hd4 : m_nl d4 = true) : m_D x ρ k_G_richest 6 [some (.ref w), some (.int n1), some (.int n2), some (.int n3), d4] [] s = (m_fR s 10 0 w).bind fun v8 => (m_fR s 9 0 v8).bind fun v11 => (m_ia x s v11 0).bind fun v15 => if v15 ≤ n3 then (some (some (.int n1), s)) else (m_fR s 10 0 w).bind fun v20 => m_bI (m_M x k_World_workOfLefts [.ref v20, .int n3] s) fun v24 s24 => if v24 ≤ n2 then (m_D x ρ k_G_richest 6 [some (.ref w), some (.int n1), some (.int n2), some (.int (n3 + (1 : Int32))), some (.int v24)] [] s24) else m_D x ρ k_G_richest 6 [some (.ref w), some (.int n3), some (.int v24), some (.int (n3 + (1 : Int32))), some (.int v24)] [] s24 := by
  refine e_iload_n i_G_richest_6 rfl ?_
  refine e_aload_n i_G_richest_7 rfl ?_
  refine e_getR i_G_richest_8 lf_2 (by decide) ft_10_0 (fun v8 => ?_)
  refine e_getR i_G_richest_11 lf_3 (by decide) ft_9_0 (fun v11 => ?_)
  refine e_iconst (v := 0) i_G_richest_14 (by decide) ?_
  refine e_iald i_G_richest_15 (fun v15 => ?_)
  refine e_icmpge (t := 46) i_G_richest_16 (by decide) ?_ ?_
  · refine e_iload_n i_G_richest_46 rfl ?_
    exact e_iretI i_G_richest_47 rfl
  · refine e_aload_n i_G_richest_19 rfl ?_
    refine e_getR i_G_richest_20 lf_2 (by decide) ft_10_0 (fun v20 => ?_)
    refine e_iload_n i_G_richest_23 rfl ?_
    refine e_callI (as := [.ref v20, .int n3]) (st' := []) i_G_richest_24 lm_126 (Or.inr (Or.inl ⟨rfl, rfl⟩)) w_World_workOfLefts rfl rfl rfl (Nat.le_of_ble_eq_true rfl) (Nat.le_of_ble_eq_true rfl) (m_rlt (q_World_workOfLefts _) (Nat.lt_of_lt_of_le (by decide) hρ)) rfl (fun v24 s24 => ?_)
    refine e_istore (L' := [some (.ref w), some (.int n1), some (.int n2), some (.int n3), some (.int v24)]) i_G_richest_27 (of_decide_eq_true rfl) rfl ?_
    refine e_iload i_G_richest_29 rfl ?_
    refine e_iload_n i_G_richest_31 rfl ?_
    refine e_icmple (t := 40) i_G_richest_32 (by decide) ?_ ?_
    · refine e_iinc (w := 1) (L' := [some (.ref w), some (.int n1), some (.int n2), some (.int (n3 + (1 : Int32))), some (.int v24)]) i_G_richest_40 rfl (of_decide_eq_true rfl) (by decide) rfl ?_
      refine e_goto (t := 6) i_G_richest_43 (by decide) ?_
      exact rfl
    · refine e_iload i_G_richest_35 rfl ?_
      refine e_istore_n (L' := [some (.ref w), some (.int n1), some (.int v24), some (.int n3), some (.int v24)]) i_G_richest_37 (of_decide_eq_true rfl) rfl ?_
      refine e_iload_n i_G_richest_38 rfl ?_
      refine e_istore_n (L' := [some (.ref w), some (.int n3), some (.int v24), some (.int n3), some (.int v24)]) i_G_richest_39 (of_decide_eq_true rfl) rfl ?_
      refine e_iinc (w := 1) (L' := [some (.ref w), some (.int n3), some (.int v24), some (.int (n3 + (1 : Int32))), some (.int v24)]) i_G_richest_40 rfl (of_decide_eq_true rfl) (by decide) rfl ?_
      refine e_goto (t := 6) i_G_richest_43 (by decide) ?_
      exact rfl
theorem i_G_ring_0 : m_at k_G_ring 0 = some (.aload_n 0, 1, 0) := m_at_of r_G_ring (by decide +kernel)
theorem i_G_ring_1 : m_at k_G_ring 1 = some (.getfield 73, 3, 37) := m_at_of r_G_ring (by decide +kernel)
theorem i_G_ring_4 : m_at k_G_ring 4 = some (.aload_n 0, 1, 0) := m_at_of r_G_ring (by decide +kernel)
theorem i_G_ring_5 : m_at k_G_ring 5 = some (.getfield 10, 3, 2) := m_at_of r_G_ring (by decide +kernel)
theorem i_G_ring_8 : m_at k_G_ring 8 = some (.invokevirtual 363, 3, 131) := m_at_of r_G_ring (by decide +kernel)
theorem i_G_ring_11 : m_at k_G_ring 11 = some (.ireturn, 1, 0) := m_at_of r_G_ring (by decide +kernel)
set_option maxRecDepth 20000 in
set_option maxHeartbeats 1000000 in
theorem E_G_ring (x : m_X) (s : m_H) (w : Nat) : m_M x k_G_ring [.ref w] s = if m_isO s w 10 = true then ((m_fR s 10 11 w).bind fun v1 => (m_fR s 10 0 w).bind fun v5 => m_bI (m_M x k_Duties_shortestRing [.ref v1, .ref v5] s) fun v8 s8 => some (some (.int v8), s8)) else none := by
  refine e_M1 (L0 := [some (.ref w)]) rfl (by decide +kernel) rfl (q_G_ring _) rfl ?_
  refine e_aload_n i_G_ring_0 rfl ?_
  refine e_getR i_G_ring_1 lf_37 (by decide) ft_10_11 (fun v1 => ?_)
  refine e_aload_n i_G_ring_4 rfl ?_
  refine e_getR i_G_ring_5 lf_2 (by decide) ft_10_0 (fun v5 => ?_)
  refine e_callI (as := [.ref v1, .ref v5]) (st' := []) i_G_ring_8 lm_131 (Or.inr (Or.inl ⟨rfl, rfl⟩)) w_Duties_shortestRing rfl rfl rfl (Nat.le_of_ble_eq_true rfl) (Nat.le_of_ble_eq_true rfl) (m_rlt (q_Duties_shortestRing _) (by decide)) rfl (fun v8 s8 => ?_)
  exact e_iretI i_G_ring_11 rfl
theorem i_G_frosts_0 : m_at k_G_frosts 0 = some (.iload_n 1, 1, 0) := m_at_of r_G_frosts (by decide +kernel)
theorem i_G_frosts_1 : m_at k_G_frosts 1 = some (.iconst 0, 1, 0) := m_at_of r_G_frosts (by decide +kernel)
theorem i_G_frosts_2 : m_at k_G_frosts 2 = some (.bipush 10, 2, 0) := m_at_of r_G_frosts (by decide +kernel)
theorem i_G_frosts_4 : m_at k_G_frosts 4 = some (.invokestatic 100, 3, 124) := m_at_of r_G_frosts (by decide +kernel)
theorem i_G_frosts_7 : m_at k_G_frosts 7 = some (.ifCond .eq (13), 3, 0) := m_at_of r_G_frosts (by decide +kernel)
theorem i_G_frosts_10 : m_at k_G_frosts 10 = some (.iload_n 2, 1, 0) := m_at_of r_G_frosts (by decide +kernel)
theorem i_G_frosts_11 : m_at k_G_frosts 11 = some (.iconst 0, 1, 0) := m_at_of r_G_frosts (by decide +kernel)
theorem i_G_frosts_12 : m_at k_G_frosts 12 = some (.bipush 10, 2, 0) := m_at_of r_G_frosts (by decide +kernel)
theorem i_G_frosts_14 : m_at k_G_frosts 14 = some (.invokestatic 100, 3, 124) := m_at_of r_G_frosts (by decide +kernel)
theorem i_G_frosts_17 : m_at k_G_frosts 17 = some (.ifCond .ne (5), 3, 0) := m_at_of r_G_frosts (by decide +kernel)
theorem i_G_frosts_20 : m_at k_G_frosts 20 = some (.iconst (-1), 1, 0) := m_at_of r_G_frosts (by decide +kernel)
theorem i_G_frosts_21 : m_at k_G_frosts 21 = some (.ireturn, 1, 0) := m_at_of r_G_frosts (by decide +kernel)
theorem i_G_frosts_22 : m_at k_G_frosts 22 = some (.iload_n 3, 1, 0) := m_at_of r_G_frosts (by decide +kernel)
theorem i_G_frosts_23 : m_at k_G_frosts 23 = some (.iconst 1, 1, 0) := m_at_of r_G_frosts (by decide +kernel)
theorem i_G_frosts_24 : m_at k_G_frosts 24 = some (.bipush 8, 2, 0) := m_at_of r_G_frosts (by decide +kernel)
theorem i_G_frosts_26 : m_at k_G_frosts 26 = some (.invokestatic 100, 3, 124) := m_at_of r_G_frosts (by decide +kernel)
theorem i_G_frosts_29 : m_at k_G_frosts 29 = some (.ifCond .eq (13), 3, 0) := m_at_of r_G_frosts (by decide +kernel)
theorem i_G_frosts_32 : m_at k_G_frosts 32 = some (.iload 4, 2, 0) := m_at_of r_G_frosts (by decide +kernel)
theorem i_G_frosts_34 : m_at k_G_frosts 34 = some (.iconst 0, 1, 0) := m_at_of r_G_frosts (by decide +kernel)
theorem i_G_frosts_35 : m_at k_G_frosts 35 = some (.iload_n 3, 1, 0) := m_at_of r_G_frosts (by decide +kernel)
theorem i_G_frosts_36 : m_at k_G_frosts 36 = some (.invokestatic 100, 3, 124) := m_at_of r_G_frosts (by decide +kernel)
theorem i_G_frosts_39 : m_at k_G_frosts 39 = some (.ifCond .ne (5), 3, 0) := m_at_of r_G_frosts (by decide +kernel)
theorem i_G_frosts_42 : m_at k_G_frosts 42 = some (.iconst (-1), 1, 0) := m_at_of r_G_frosts (by decide +kernel)
theorem i_G_frosts_43 : m_at k_G_frosts 43 = some (.ireturn, 1, 0) := m_at_of r_G_frosts (by decide +kernel)
theorem i_G_frosts_44 : m_at k_G_frosts 44 = some (.aload_n 0, 1, 0) := m_at_of r_G_frosts (by decide +kernel)
theorem i_G_frosts_45 : m_at k_G_frosts 45 = some (.getfield 80, 3, 43) := m_at_of r_G_frosts (by decide +kernel)
theorem i_G_frosts_48 : m_at k_G_frosts 48 = some (.iload_n 1, 1, 0) := m_at_of r_G_frosts (by decide +kernel)
theorem i_G_frosts_49 : m_at k_G_frosts 49 = some (.iload_n 2, 1, 0) := m_at_of r_G_frosts (by decide +kernel)
theorem i_G_frosts_50 : m_at k_G_frosts 50 = some (.iload_n 3, 1, 0) := m_at_of r_G_frosts (by decide +kernel)
theorem i_G_frosts_51 : m_at k_G_frosts 51 = some (.iload 4, 2, 0) := m_at_of r_G_frosts (by decide +kernel)
theorem i_G_frosts_53 : m_at k_G_frosts 53 = some (.invokevirtual 359, 3, 137) := m_at_of r_G_frosts (by decide +kernel)
theorem i_G_frosts_56 : m_at k_G_frosts 56 = some (.iload 5, 2, 0) := m_at_of r_G_frosts (by decide +kernel)
theorem i_G_frosts_58 : m_at k_G_frosts 58 = some (.ifCond .eq (13), 3, 0) := m_at_of r_G_frosts (by decide +kernel)
theorem i_G_frosts_61 : m_at k_G_frosts 61 = some (.aload_n 0, 1, 0) := m_at_of r_G_frosts (by decide +kernel)
theorem i_G_frosts_62 : m_at k_G_frosts 62 = some (.getfield 80, 3, 43) := m_at_of r_G_frosts (by decide +kernel)
theorem i_G_frosts_65 : m_at k_G_frosts 65 = some (.getfield 324, 3, 44) := m_at_of r_G_frosts (by decide +kernel)
theorem i_G_frosts_68 : m_at k_G_frosts 68 = some (.goto (10), 3, 0) := m_at_of r_G_frosts (by decide +kernel)
theorem i_G_frosts_71 : m_at k_G_frosts 71 = some (.aload_n 0, 1, 0) := m_at_of r_G_frosts (by decide +kernel)
theorem i_G_frosts_72 : m_at k_G_frosts 72 = some (.getfield 80, 3, 43) := m_at_of r_G_frosts (by decide +kernel)
theorem i_G_frosts_75 : m_at k_G_frosts 75 = some (.getfield 327, 3, 45) := m_at_of r_G_frosts (by decide +kernel)
theorem i_G_frosts_78 : m_at k_G_frosts 78 = some (.ireturn, 1, 0) := m_at_of r_G_frosts (by decide +kernel)
set_option maxRecDepth 20000 in
set_option maxHeartbeats 1000000 in
theorem E_G_frosts (x : m_X) (s : m_H) (w : Nat) (n1 : Int32) (n2 : Int32) (n3 : Int32) (n4 : Int32) (n5 : Int32) : m_M x k_G_frosts [.ref w, .int n1, .int n2, .int n3, .int n4, .int n5] s = if m_isO s w 10 = true then (m_bI (m_M x k_G_isIn [.int n1, .int 0, .int 10] s) fun v4 s4 => if v4 = 0 then (some (some (.int (-1)), s4)) else m_bI (m_M x k_G_isIn [.int n2, .int 0, .int 10] s4) fun v14 s14 => if v14 = 0 then (some (some (.int (-1)), s14)) else m_bI (m_M x k_G_isIn [.int n3, .int 1, .int 8] s14) fun v26 s26 => if v26 = 0 then (some (some (.int (-1)), s26)) else m_bI (m_M x k_G_isIn [.int n4, .int 0, .int n3] s26) fun v36 s36 => if v36 = 0 then (some (some (.int (-1)), s36)) else (m_fR s36 10 12 w).bind fun v45 => m_bV (m_M x k_Puzzles_oddsOfFrosts [.ref v45, .int n1, .int n2, .int n3, .int n4] s36) fun s53 => if n5 = 0 then ((m_fR s53 10 12 w).bind fun v72 => (m_fI s53 2 1 v72).bind fun v75 => some (some (.int v75), s53)) else (m_fR s53 10 12 w).bind fun v62 => (m_fI s53 2 2 v62).bind fun v65 => some (some (.int v65), s53)) else none := by
  refine e_M1 (L0 := [some (.ref w), some (.int n1), some (.int n2), some (.int n3), some (.int n4), some (.int n5)]) rfl (by decide +kernel) rfl (q_G_frosts _) rfl ?_
  refine e_iload_n i_G_frosts_0 rfl ?_
  refine e_iconst (v := 0) i_G_frosts_1 (by decide) ?_
  refine e_bipush (v := 10) i_G_frosts_2 (by decide) ?_
  refine e_callI (as := [.int n1, .int 0, .int 10]) (st' := []) i_G_frosts_4 lm_124 (Or.inl ⟨rfl, rfl⟩) w_G_isIn rfl rfl rfl (Nat.le_of_ble_eq_true rfl) (Nat.le_of_ble_eq_true rfl) (m_rlt (q_G_isIn _) (by decide)) rfl (fun v4 s4 => ?_)
  refine e_ifeq (t := 20) i_G_frosts_7 (by decide) ?_ ?_
  · refine e_iconst (v := (-1)) i_G_frosts_20 (by decide) ?_
    exact e_iretI i_G_frosts_21 rfl
  · refine e_iload_n i_G_frosts_10 rfl ?_
    refine e_iconst (v := 0) i_G_frosts_11 (by decide) ?_
    refine e_bipush (v := 10) i_G_frosts_12 (by decide) ?_
    refine e_callI (as := [.int n2, .int 0, .int 10]) (st' := []) i_G_frosts_14 lm_124 (Or.inl ⟨rfl, rfl⟩) w_G_isIn rfl rfl rfl (Nat.le_of_ble_eq_true rfl) (Nat.le_of_ble_eq_true rfl) (m_rlt (q_G_isIn _) (by decide)) rfl (fun v14 s14 => ?_)
    refine e_ifne (t := 22) i_G_frosts_17 (by decide) ?_ ?_
    · refine e_iload_n i_G_frosts_22 rfl ?_
      refine e_iconst (v := 1) i_G_frosts_23 (by decide) ?_
      refine e_bipush (v := 8) i_G_frosts_24 (by decide) ?_
      refine e_callI (as := [.int n3, .int 1, .int 8]) (st' := []) i_G_frosts_26 lm_124 (Or.inl ⟨rfl, rfl⟩) w_G_isIn rfl rfl rfl (Nat.le_of_ble_eq_true rfl) (Nat.le_of_ble_eq_true rfl) (m_rlt (q_G_isIn _) (by decide)) rfl (fun v26 s26 => ?_)
      refine e_ifeq (t := 42) i_G_frosts_29 (by decide) ?_ ?_
      · refine e_iconst (v := (-1)) i_G_frosts_42 (by decide) ?_
        exact e_iretI i_G_frosts_43 rfl
      · refine e_iload i_G_frosts_32 rfl ?_
        refine e_iconst (v := 0) i_G_frosts_34 (by decide) ?_
        refine e_iload_n i_G_frosts_35 rfl ?_
        refine e_callI (as := [.int n4, .int 0, .int n3]) (st' := []) i_G_frosts_36 lm_124 (Or.inl ⟨rfl, rfl⟩) w_G_isIn rfl rfl rfl (Nat.le_of_ble_eq_true rfl) (Nat.le_of_ble_eq_true rfl) (m_rlt (q_G_isIn _) (by decide)) rfl (fun v36 s36 => ?_)
        refine e_ifne (t := 44) i_G_frosts_39 (by decide) ?_ ?_
        · refine e_aload_n i_G_frosts_44 rfl ?_
          refine e_getR i_G_frosts_45 lf_43 (by decide) ft_10_12 (fun v45 => ?_)
          refine e_iload_n i_G_frosts_48 rfl ?_
          refine e_iload_n i_G_frosts_49 rfl ?_
          refine e_iload_n i_G_frosts_50 rfl ?_
          refine e_iload i_G_frosts_51 rfl ?_
          refine e_callV (as := [.ref v45, .int n1, .int n2, .int n3, .int n4]) (st' := []) i_G_frosts_53 lm_137 (Or.inr (Or.inl ⟨rfl, rfl⟩)) w_Puzzles_oddsOfFrosts rfl rfl rfl (Nat.le_of_ble_eq_true rfl) (Nat.le_of_ble_eq_true rfl) (m_rlt (q_Puzzles_oddsOfFrosts _) (by decide)) rfl (fun s53 => ?_)
          refine e_iload i_G_frosts_56 rfl ?_
          refine e_ifeq (t := 71) i_G_frosts_58 (by decide) ?_ ?_
          · refine e_aload_n i_G_frosts_71 rfl ?_
            refine e_getR i_G_frosts_72 lf_43 (by decide) ft_10_12 (fun v72 => ?_)
            refine e_getI i_G_frosts_75 lf_45 (by decide) (Or.inl ft_2_1) (fun v75 => ?_)
            exact e_iretI i_G_frosts_78 rfl
          · refine e_aload_n i_G_frosts_61 rfl ?_
            refine e_getR i_G_frosts_62 lf_43 (by decide) ft_10_12 (fun v62 => ?_)
            refine e_getI i_G_frosts_65 lf_44 (by decide) (Or.inl ft_2_2) (fun v65 => ?_)
            refine e_goto (t := 78) i_G_frosts_68 (by decide) ?_
            exact e_iretI i_G_frosts_78 rfl
        · refine e_iconst (v := (-1)) i_G_frosts_42 (by decide) ?_
          exact e_iretI i_G_frosts_43 rfl
    · refine e_iconst (v := (-1)) i_G_frosts_20 (by decide) ?_
      exact e_iretI i_G_frosts_21 rfl
theorem i_G_lives_0 : m_at k_G_lives 0 = some (.iload_n 1, 1, 0) := m_at_of r_G_lives (by decide +kernel)
theorem i_G_lives_1 : m_at k_G_lives 1 = some (.iconst (-1), 1, 0) := m_at_of r_G_lives (by decide +kernel)
theorem i_G_lives_2 : m_at k_G_lives 2 = some (.if_icmp .ne (21), 3, 0) := m_at_of r_G_lives (by decide +kernel)
theorem i_G_lives_5 : m_at k_G_lives 5 = some (.aload_n 0, 1, 0) := m_at_of r_G_lives (by decide +kernel)
theorem i_G_lives_6 : m_at k_G_lives 6 = some (.getfield 80, 3, 43) := m_at_of r_G_lives (by decide +kernel)
theorem i_G_lives_9 : m_at k_G_lives 9 = some (.aload_n 0, 1, 0) := m_at_of r_G_lives (by decide +kernel)
theorem i_G_lives_10 : m_at k_G_lives 10 = some (.getfield 10, 3, 2) := m_at_of r_G_lives (by decide +kernel)
theorem i_G_lives_13 : m_at k_G_lives 13 = some (.aload_n 0, 1, 0) := m_at_of r_G_lives (by decide +kernel)
theorem i_G_lives_14 : m_at k_G_lives 14 = some (.getfield 26, 3, 4) := m_at_of r_G_lives (by decide +kernel)
theorem i_G_lives_17 : m_at k_G_lives 17 = some (.iconst (-1), 1, 0) := m_at_of r_G_lives (by decide +kernel)
theorem i_G_lives_18 : m_at k_G_lives 18 = some (.iconst (-1), 1, 0) := m_at_of r_G_lives (by decide +kernel)
theorem i_G_lives_19 : m_at k_G_lives 19 = some (.invokevirtual 351, 3, 142) := m_at_of r_G_lives (by decide +kernel)
theorem i_G_lives_22 : m_at k_G_lives 22 = some (.ireturn, 1, 0) := m_at_of r_G_lives (by decide +kernel)
theorem i_G_lives_23 : m_at k_G_lives 23 = some (.iload_n 1, 1, 0) := m_at_of r_G_lives (by decide +kernel)
theorem i_G_lives_24 : m_at k_G_lives 24 = some (.iconst 0, 1, 0) := m_at_of r_G_lives (by decide +kernel)
theorem i_G_lives_25 : m_at k_G_lives 25 = some (.aload_n 0, 1, 0) := m_at_of r_G_lives (by decide +kernel)
theorem i_G_lives_26 : m_at k_G_lives 26 = some (.getfield 26, 3, 4) := m_at_of r_G_lives (by decide +kernel)
theorem i_G_lives_29 : m_at k_G_lives 29 = some (.getfield 339, 3, 12) := m_at_of r_G_lives (by decide +kernel)
theorem i_G_lives_32 : m_at k_G_lives 32 = some (.getfield 275, 3, 10) := m_at_of r_G_lives (by decide +kernel)
theorem i_G_lives_35 : m_at k_G_lives 35 = some (.iconst 1, 1, 0) := m_at_of r_G_lives (by decide +kernel)
theorem i_G_lives_36 : m_at k_G_lives 36 = some (.isub, 1, 0) := m_at_of r_G_lives (by decide +kernel)
theorem i_G_lives_37 : m_at k_G_lives 37 = some (.invokestatic 100, 3, 124) := m_at_of r_G_lives (by decide +kernel)
theorem i_G_lives_40 : m_at k_G_lives 40 = some (.ifCond .eq (22), 3, 0) := m_at_of r_G_lives (by decide +kernel)
theorem i_G_lives_43 : m_at k_G_lives 43 = some (.aload_n 0, 1, 0) := m_at_of r_G_lives (by decide +kernel)
theorem i_G_lives_44 : m_at k_G_lives 44 = some (.getfield 80, 3, 43) := m_at_of r_G_lives (by decide +kernel)
theorem i_G_lives_47 : m_at k_G_lives 47 = some (.aload_n 0, 1, 0) := m_at_of r_G_lives (by decide +kernel)
theorem i_G_lives_48 : m_at k_G_lives 48 = some (.getfield 10, 3, 2) := m_at_of r_G_lives (by decide +kernel)
theorem i_G_lives_51 : m_at k_G_lives 51 = some (.aload_n 0, 1, 0) := m_at_of r_G_lives (by decide +kernel)
theorem i_G_lives_52 : m_at k_G_lives 52 = some (.getfield 26, 3, 4) := m_at_of r_G_lives (by decide +kernel)
theorem i_G_lives_55 : m_at k_G_lives 55 = some (.iload_n 1, 1, 0) := m_at_of r_G_lives (by decide +kernel)
theorem i_G_lives_56 : m_at k_G_lives 56 = some (.invokevirtual 355, 3, 143) := m_at_of r_G_lives (by decide +kernel)
theorem i_G_lives_59 : m_at k_G_lives 59 = some (.goto (5), 3, 0) := m_at_of r_G_lives (by decide +kernel)
theorem i_G_lives_62 : m_at k_G_lives 62 = some (.bipush (-2), 2, 0) := m_at_of r_G_lives (by decide +kernel)
theorem i_G_lives_64 : m_at k_G_lives 64 = some (.ireturn, 1, 0) := m_at_of r_G_lives (by decide +kernel)
set_option maxRecDepth 20000 in
set_option maxHeartbeats 1000000 in
theorem E_G_lives (x : m_X) (s : m_H) (w : Nat) (n1 : Int32) : m_M x k_G_lives [.ref w, .int n1] s = if m_isO s w 10 = true then (if n1 = (-1) then ((m_fR s 10 12 w).bind fun v6 => (m_fR s 10 0 w).bind fun v10 => (m_fR s 10 2 w).bind fun v14 => m_bI (m_M x k_Puzzles_waysOf [.ref v6, .ref v10, .ref v14, .int (-1), .int (-1)] s) fun v19 s19 => some (some (.int v19), s19)) else (m_fR s 10 2 w).bind fun v26 => (m_fR s 7 3 v26).bind fun v29 => (m_fI s 4 1 v29).bind fun v32 => m_bI (m_M x k_G_isIn [.int n1, .int 0, .int (v32 - (1 : Int32))] s) fun v37 s37 => if v37 = 0 then (some (some (.int (-2)), s37)) else (m_fR s37 10 12 w).bind fun v44 => (m_fR s37 10 0 w).bind fun v48 => (m_fR s37 10 2 w).bind fun v52 => m_bI (m_M x k_Puzzles_sureOwner [.ref v44, .ref v48, .ref v52, .int n1] s37) fun v56 s56 => some (some (.int v56), s56)) else none := by
  refine e_M1 (L0 := [some (.ref w), some (.int n1)]) rfl (by decide +kernel) rfl (q_G_lives _) rfl ?_
  refine e_iload_n i_G_lives_0 rfl ?_
  refine e_iconst (v := (-1)) i_G_lives_1 (by decide) ?_
  refine e_icmpne (t := 23) i_G_lives_2 (by decide) ?_ ?_
  · refine e_iload_n i_G_lives_23 rfl ?_
    refine e_iconst (v := 0) i_G_lives_24 (by decide) ?_
    refine e_aload_n i_G_lives_25 rfl ?_
    refine e_getR i_G_lives_26 lf_4 (by decide) ft_10_2 (fun v26 => ?_)
    refine e_getR i_G_lives_29 lf_12 (by decide) ft_7_3 (fun v29 => ?_)
    refine e_getI i_G_lives_32 lf_10 (by decide) (Or.inl ft_4_1) (fun v32 => ?_)
    refine e_iconst (v := 1) i_G_lives_35 (by decide) ?_
    refine e_isub i_G_lives_36 ?_
    refine e_callI (as := [.int n1, .int 0, .int (v32 - (1 : Int32))]) (st' := []) i_G_lives_37 lm_124 (Or.inl ⟨rfl, rfl⟩) w_G_isIn rfl rfl rfl (Nat.le_of_ble_eq_true rfl) (Nat.le_of_ble_eq_true rfl) (m_rlt (q_G_isIn _) (by decide)) rfl (fun v37 s37 => ?_)
    refine e_ifeq (t := 62) i_G_lives_40 (by decide) ?_ ?_
    · refine e_bipush (v := (-2)) i_G_lives_62 (by decide) ?_
      exact e_iretI i_G_lives_64 rfl
    · refine e_aload_n i_G_lives_43 rfl ?_
      refine e_getR i_G_lives_44 lf_43 (by decide) ft_10_12 (fun v44 => ?_)
      refine e_aload_n i_G_lives_47 rfl ?_
      refine e_getR i_G_lives_48 lf_2 (by decide) ft_10_0 (fun v48 => ?_)
      refine e_aload_n i_G_lives_51 rfl ?_
      refine e_getR i_G_lives_52 lf_4 (by decide) ft_10_2 (fun v52 => ?_)
      refine e_iload_n i_G_lives_55 rfl ?_
      refine e_callI (as := [.ref v44, .ref v48, .ref v52, .int n1]) (st' := []) i_G_lives_56 lm_143 (Or.inr (Or.inl ⟨rfl, rfl⟩)) w_Puzzles_sureOwner rfl rfl rfl (Nat.le_of_ble_eq_true rfl) (Nat.le_of_ble_eq_true rfl) (m_rlt (q_Puzzles_sureOwner _) (by decide)) rfl (fun v56 s56 => ?_)
      refine e_goto (t := 64) i_G_lives_59 (by decide) ?_
      exact e_iretI i_G_lives_64 rfl
  · refine e_aload_n i_G_lives_5 rfl ?_
    refine e_getR i_G_lives_6 lf_43 (by decide) ft_10_12 (fun v6 => ?_)
    refine e_aload_n i_G_lives_9 rfl ?_
    refine e_getR i_G_lives_10 lf_2 (by decide) ft_10_0 (fun v10 => ?_)
    refine e_aload_n i_G_lives_13 rfl ?_
    refine e_getR i_G_lives_14 lf_4 (by decide) ft_10_2 (fun v14 => ?_)
    refine e_iconst (v := (-1)) i_G_lives_17 (by decide) ?_
    refine e_iconst (v := (-1)) i_G_lives_18 (by decide) ?_
    refine e_callI (as := [.ref v6, .ref v10, .ref v14, .int (-1), .int (-1)]) (st' := []) i_G_lives_19 lm_142 (Or.inr (Or.inl ⟨rfl, rfl⟩)) w_Puzzles_waysOf rfl rfl rfl (Nat.le_of_ble_eq_true rfl) (Nat.le_of_ble_eq_true rfl) (m_rlt (q_Puzzles_waysOf _) (by decide)) rfl (fun v19 s19 => ?_)
    exact e_iretI i_G_lives_22 rfl
theorem i_G_chest_0 : m_at k_G_chest 0 = some (.iload_n 1, 1, 0) := m_at_of r_G_chest (by decide +kernel)
theorem i_G_chest_1 : m_at k_G_chest 1 = some (.iconst (-1), 1, 0) := m_at_of r_G_chest (by decide +kernel)
theorem i_G_chest_2 : m_at k_G_chest 2 = some (.if_icmp .ne (25), 3, 0) := m_at_of r_G_chest (by decide +kernel)
theorem i_G_chest_5 : m_at k_G_chest 5 = some (.aload_n 0, 1, 0) := m_at_of r_G_chest (by decide +kernel)
theorem i_G_chest_6 : m_at k_G_chest 6 = some (.getfield 26, 3, 4) := m_at_of r_G_chest (by decide +kernel)
theorem i_G_chest_9 : m_at k_G_chest 9 = some (.getfield 339, 3, 12) := m_at_of r_G_chest (by decide +kernel)
theorem i_G_chest_12 : m_at k_G_chest 12 = some (.invokevirtual 342, 3, 123) := m_at_of r_G_chest (by decide +kernel)
theorem i_G_chest_15 : m_at k_G_chest 15 = some (.aload_n 0, 1, 0) := m_at_of r_G_chest (by decide +kernel)
theorem i_G_chest_16 : m_at k_G_chest 16 = some (.getfield 26, 3, 4) := m_at_of r_G_chest (by decide +kernel)
theorem i_G_chest_19 : m_at k_G_chest 19 = some (.getfield 345, 3, 54) := m_at_of r_G_chest (by decide +kernel)
theorem i_G_chest_22 : m_at k_G_chest 22 = some (.invokevirtual 342, 3, 123) := m_at_of r_G_chest (by decide +kernel)
theorem i_G_chest_25 : m_at k_G_chest 25 = some (.iconst 0, 1, 0) := m_at_of r_G_chest (by decide +kernel)
theorem i_G_chest_26 : m_at k_G_chest 26 = some (.ireturn, 1, 0) := m_at_of r_G_chest (by decide +kernel)
theorem i_G_chest_27 : m_at k_G_chest 27 = some (.iload_n 1, 1, 0) := m_at_of r_G_chest (by decide +kernel)
theorem i_G_chest_28 : m_at k_G_chest 28 = some (.iconst 1, 1, 0) := m_at_of r_G_chest (by decide +kernel)
theorem i_G_chest_29 : m_at k_G_chest 29 = some (.bipush 9, 2, 0) := m_at_of r_G_chest (by decide +kernel)
theorem i_G_chest_31 : m_at k_G_chest 31 = some (.invokestatic 100, 3, 124) := m_at_of r_G_chest (by decide +kernel)
theorem i_G_chest_34 : m_at k_G_chest 34 = some (.ifCond .eq (17), 3, 0) := m_at_of r_G_chest (by decide +kernel)
theorem i_G_chest_37 : m_at k_G_chest 37 = some (.iload_n 2, 1, 0) := m_at_of r_G_chest (by decide +kernel)
theorem i_G_chest_38 : m_at k_G_chest 38 = some (.iconst 0, 1, 0) := m_at_of r_G_chest (by decide +kernel)
theorem i_G_chest_39 : m_at k_G_chest 39 = some (.bipush 8, 2, 0) := m_at_of r_G_chest (by decide +kernel)
theorem i_G_chest_41 : m_at k_G_chest 41 = some (.invokestatic 100, 3, 124) := m_at_of r_G_chest (by decide +kernel)
theorem i_G_chest_44 : m_at k_G_chest 44 = some (.ifCond .eq (7), 3, 0) := m_at_of r_G_chest (by decide +kernel)
theorem i_G_chest_47 : m_at k_G_chest 47 = some (.iconst 1, 1, 0) := m_at_of r_G_chest (by decide +kernel)
theorem i_G_chest_48 : m_at k_G_chest 48 = some (.goto (4), 3, 0) := m_at_of r_G_chest (by decide +kernel)
theorem i_G_chest_51 : m_at k_G_chest 51 = some (.iconst 0, 1, 0) := m_at_of r_G_chest (by decide +kernel)
theorem i_G_chest_52 : m_at k_G_chest 52 = some (.istore_n 3, 1, 0) := m_at_of r_G_chest (by decide +kernel)
theorem i_G_chest_53 : m_at k_G_chest 53 = some (.iload_n 3, 1, 0) := m_at_of r_G_chest (by decide +kernel)
theorem i_G_chest_54 : m_at k_G_chest 54 = some (.ifCond .eq (31), 3, 0) := m_at_of r_G_chest (by decide +kernel)
theorem i_G_chest_57 : m_at k_G_chest 57 = some (.aload_n 0, 1, 0) := m_at_of r_G_chest (by decide +kernel)
theorem i_G_chest_58 : m_at k_G_chest 58 = some (.getfield 26, 3, 4) := m_at_of r_G_chest (by decide +kernel)
theorem i_G_chest_61 : m_at k_G_chest 61 = some (.getfield 339, 3, 12) := m_at_of r_G_chest (by decide +kernel)
theorem i_G_chest_64 : m_at k_G_chest 64 = some (.iload_n 1, 1, 0) := m_at_of r_G_chest (by decide +kernel)
theorem i_G_chest_65 : m_at k_G_chest 65 = some (.invokevirtual 348, 3, 125) := m_at_of r_G_chest (by decide +kernel)
theorem i_G_chest_68 : m_at k_G_chest 68 = some (.ifCond .eq (17), 3, 0) := m_at_of r_G_chest (by decide +kernel)
theorem i_G_chest_71 : m_at k_G_chest 71 = some (.aload_n 0, 1, 0) := m_at_of r_G_chest (by decide +kernel)
theorem i_G_chest_72 : m_at k_G_chest 72 = some (.getfield 26, 3, 4) := m_at_of r_G_chest (by decide +kernel)
theorem i_G_chest_75 : m_at k_G_chest 75 = some (.getfield 345, 3, 54) := m_at_of r_G_chest (by decide +kernel)
theorem i_G_chest_78 : m_at k_G_chest 78 = some (.iload_n 2, 1, 0) := m_at_of r_G_chest (by decide +kernel)
theorem i_G_chest_79 : m_at k_G_chest 79 = some (.invokevirtual 348, 3, 125) := m_at_of r_G_chest (by decide +kernel)
theorem i_G_chest_82 : m_at k_G_chest 82 = some (.ifCond .ne (6), 3, 0) := m_at_of r_G_chest (by decide +kernel)
theorem i_G_chest_85 : m_at k_G_chest 85 = some (.bipush (-2), 2, 0) := m_at_of r_G_chest (by decide +kernel)
theorem i_G_chest_87 : m_at k_G_chest 87 = some (.ireturn, 1, 0) := m_at_of r_G_chest (by decide +kernel)
theorem i_G_chest_88 : m_at k_G_chest 88 = some (.aload_n 0, 1, 0) := m_at_of r_G_chest (by decide +kernel)
theorem i_G_chest_89 : m_at k_G_chest 89 = some (.getfield 26, 3, 4) := m_at_of r_G_chest (by decide +kernel)
theorem i_G_chest_92 : m_at k_G_chest 92 = some (.getfield 339, 3, 12) := m_at_of r_G_chest (by decide +kernel)
theorem i_G_chest_95 : m_at k_G_chest 95 = some (.getfield 275, 3, 10) := m_at_of r_G_chest (by decide +kernel)
theorem i_G_chest_98 : m_at k_G_chest 98 = some (.ireturn, 1, 0) := m_at_of r_G_chest (by decide +kernel)
set_option maxRecDepth 20000 in
set_option maxHeartbeats 1000000 in
theorem E_G_chest (x : m_X) (s : m_H) (w : Nat) (n1 : Int32) (n2 : Int32) : m_M x k_G_chest [.ref w, .int n1, .int n2] s = if m_isO s w 10 = true then (if n1 = (-1) then ((m_fR s 10 2 w).bind fun v6 => (m_fR s 7 3 v6).bind fun v9 => m_bV (m_M x k_Row_empty [.ref v9] s) fun s12 => (m_fR s12 10 2 w).bind fun v16 => (m_fR s12 7 4 v16).bind fun v19 => m_bV (m_M x k_Row_empty [.ref v19] s12) fun s22 => some (some (.int 0), s22)) else m_bI (m_M x k_G_isIn [.int n1, .int 1, .int 9] s) fun v31 s31 => if v31 = 0 then (m_D x 2 k_G_chest 52 [some (.ref w), some (.int n1), some (.int n2), none] [.int 0] s31) else m_bI (m_M x k_G_isIn [.int n2, .int 0, .int 8] s31) fun v41 s41 => if v41 = 0 then (m_D x 2 k_G_chest 52 [some (.ref w), some (.int n1), some (.int n2), none] [.int 0] s41) else m_D x 2 k_G_chest 52 [some (.ref w), some (.int n1), some (.int n2), none] [.int 1] s41) else none := by
  refine e_M1 (L0 := [some (.ref w), some (.int n1), some (.int n2), none]) rfl (by decide +kernel) rfl (q_G_chest _) rfl ?_
  refine e_iload_n i_G_chest_0 rfl ?_
  refine e_iconst (v := (-1)) i_G_chest_1 (by decide) ?_
  refine e_icmpne (t := 27) i_G_chest_2 (by decide) ?_ ?_
  · refine e_iload_n i_G_chest_27 rfl ?_
    refine e_iconst (v := 1) i_G_chest_28 (by decide) ?_
    refine e_bipush (v := 9) i_G_chest_29 (by decide) ?_
    refine e_callI (as := [.int n1, .int 1, .int 9]) (st' := []) i_G_chest_31 lm_124 (Or.inl ⟨rfl, rfl⟩) w_G_isIn rfl rfl rfl (Nat.le_of_ble_eq_true rfl) (Nat.le_of_ble_eq_true rfl) (m_rlt (q_G_isIn _) (by decide)) rfl (fun v31 s31 => ?_)
    refine e_ifeq (t := 51) i_G_chest_34 (by decide) ?_ ?_
    · refine e_iconst (v := 0) i_G_chest_51 (by decide) ?_
      exact rfl
    · refine e_iload_n i_G_chest_37 rfl ?_
      refine e_iconst (v := 0) i_G_chest_38 (by decide) ?_
      refine e_bipush (v := 8) i_G_chest_39 (by decide) ?_
      refine e_callI (as := [.int n2, .int 0, .int 8]) (st' := []) i_G_chest_41 lm_124 (Or.inl ⟨rfl, rfl⟩) w_G_isIn rfl rfl rfl (Nat.le_of_ble_eq_true rfl) (Nat.le_of_ble_eq_true rfl) (m_rlt (q_G_isIn _) (by decide)) rfl (fun v41 s41 => ?_)
      refine e_ifeq (t := 51) i_G_chest_44 (by decide) ?_ ?_
      · refine e_iconst (v := 0) i_G_chest_51 (by decide) ?_
        exact rfl
      · refine e_iconst (v := 1) i_G_chest_47 (by decide) ?_
        refine e_goto (t := 52) i_G_chest_48 (by decide) ?_
        exact rfl
  · refine e_aload_n i_G_chest_5 rfl ?_
    refine e_getR i_G_chest_6 lf_4 (by decide) ft_10_2 (fun v6 => ?_)
    refine e_getR i_G_chest_9 lf_12 (by decide) ft_7_3 (fun v9 => ?_)
    refine e_callV (as := [.ref v9]) (st' := []) i_G_chest_12 lm_123 (Or.inr (Or.inl ⟨rfl, rfl⟩)) w_Row_empty rfl rfl rfl (Nat.le_of_ble_eq_true rfl) (Nat.le_of_ble_eq_true rfl) (m_rlt (q_Row_empty _) (by decide)) rfl (fun s12 => ?_)
    refine e_aload_n i_G_chest_15 rfl ?_
    refine e_getR i_G_chest_16 lf_4 (by decide) ft_10_2 (fun v16 => ?_)
    refine e_getR i_G_chest_19 lf_54 (by decide) ft_7_4 (fun v19 => ?_)
    refine e_callV (as := [.ref v19]) (st' := []) i_G_chest_22 lm_123 (Or.inr (Or.inl ⟨rfl, rfl⟩)) w_Row_empty rfl rfl rfl (Nat.le_of_ble_eq_true rfl) (Nat.le_of_ble_eq_true rfl) (m_rlt (q_Row_empty _) (by decide)) rfl (fun s22 => ?_)
    refine e_iconst (v := 0) i_G_chest_25 (by decide) ?_
    exact e_iretI i_G_chest_26 rfl
set_option maxRecDepth 20000 in
set_option maxHeartbeats 1000000 in
theorem E_G_chest_52 (x : m_X) (ρ : Nat) (hρ : 2 ≤ ρ) (s : m_H) (w : Nat) (n1 : Int32) (n2 : Int32) (nt0 : Int32)  : m_D x ρ k_G_chest 52 [some (.ref w), some (.int n1), some (.int n2), none] [.int nt0] s = if nt0 = 0 then (some (some (.int (-2)), s)) else (m_fR s 10 2 w).bind fun v58 => (m_fR s 7 3 v58).bind fun v61 => m_bI (m_M x k_Row_put [.ref v61, .int n1] s) fun v65 s65 => if v65 = 0 then (some (some (.int (-2)), s65)) else (m_fR s65 10 2 w).bind fun v72 => (m_fR s65 7 4 v72).bind fun v75 => m_bI (m_M x k_Row_put [.ref v75, .int n2] s65) fun v79 s79 => if v79 = 0 then (some (some (.int (-2)), s79)) else (m_fR s79 10 2 w).bind fun v89 => (m_fR s79 7 3 v89).bind fun v92 => (m_fI s79 4 1 v92).bind fun v95 => some (some (.int v95), s79) := by
  refine e_istore_n (L' := [some (.ref w), some (.int n1), some (.int n2), some (.int nt0)]) i_G_chest_52 (of_decide_eq_true rfl) rfl ?_
  refine e_iload_n i_G_chest_53 rfl ?_
  refine e_ifeq (t := 85) i_G_chest_54 (by decide) ?_ ?_
  · refine e_bipush (v := (-2)) i_G_chest_85 (by decide) ?_
    exact e_iretI i_G_chest_87 rfl
  · refine e_aload_n i_G_chest_57 rfl ?_
    refine e_getR i_G_chest_58 lf_4 (by decide) ft_10_2 (fun v58 => ?_)
    refine e_getR i_G_chest_61 lf_12 (by decide) ft_7_3 (fun v61 => ?_)
    refine e_iload_n i_G_chest_64 rfl ?_
    refine e_callI (as := [.ref v61, .int n1]) (st' := []) i_G_chest_65 lm_125 (Or.inr (Or.inl ⟨rfl, rfl⟩)) w_Row_put rfl rfl rfl (Nat.le_of_ble_eq_true rfl) (Nat.le_of_ble_eq_true rfl) (m_rlt (q_Row_put _) (Nat.lt_of_lt_of_le (by decide) hρ)) rfl (fun v65 s65 => ?_)
    refine e_ifeq (t := 85) i_G_chest_68 (by decide) ?_ ?_
    · refine e_bipush (v := (-2)) i_G_chest_85 (by decide) ?_
      exact e_iretI i_G_chest_87 rfl
    · refine e_aload_n i_G_chest_71 rfl ?_
      refine e_getR i_G_chest_72 lf_4 (by decide) ft_10_2 (fun v72 => ?_)
      refine e_getR i_G_chest_75 lf_54 (by decide) ft_7_4 (fun v75 => ?_)
      refine e_iload_n i_G_chest_78 rfl ?_
      refine e_callI (as := [.ref v75, .int n2]) (st' := []) i_G_chest_79 lm_125 (Or.inr (Or.inl ⟨rfl, rfl⟩)) w_Row_put rfl rfl rfl (Nat.le_of_ble_eq_true rfl) (Nat.le_of_ble_eq_true rfl) (m_rlt (q_Row_put _) (Nat.lt_of_lt_of_le (by decide) hρ)) rfl (fun v79 s79 => ?_)
      refine e_ifne (t := 88) i_G_chest_82 (by decide) ?_ ?_
      · refine e_aload_n i_G_chest_88 rfl ?_
        refine e_getR i_G_chest_89 lf_4 (by decide) ft_10_2 (fun v89 => ?_)
        refine e_getR i_G_chest_92 lf_12 (by decide) ft_7_3 (fun v92 => ?_)
        refine e_getI i_G_chest_95 lf_10 (by decide) (Or.inl ft_4_1) (fun v95 => ?_)
        exact e_iretI i_G_chest_98 rfl
      · refine e_bipush (v := (-2)) i_G_chest_85 (by decide) ?_
        exact e_iretI i_G_chest_87 rfl
theorem i_G_auction_0 : m_at k_G_auction 0 = some (.aload_n 0, 1, 0) := m_at_of r_G_auction (by decide +kernel)
theorem i_G_auction_1 : m_at k_G_auction 1 = some (.getfield 10, 3, 2) := m_at_of r_G_auction (by decide +kernel)
theorem i_G_auction_4 : m_at k_G_auction 4 = some (.iload_n 1, 1, 0) := m_at_of r_G_auction (by decide +kernel)
theorem i_G_auction_5 : m_at k_G_auction 5 = some (.iconst 2, 1, 0) := m_at_of r_G_auction (by decide +kernel)
theorem i_G_auction_6 : m_at k_G_auction 6 = some (.invokevirtual 330, 3, 150) := m_at_of r_G_auction (by decide +kernel)
theorem i_G_auction_9 : m_at k_G_auction 9 = some (.ifCond .ne (5), 3, 0) := m_at_of r_G_auction (by decide +kernel)
theorem i_G_auction_12 : m_at k_G_auction 12 = some (.iconst (-1), 1, 0) := m_at_of r_G_auction (by decide +kernel)
theorem i_G_auction_13 : m_at k_G_auction 13 = some (.ireturn, 1, 0) := m_at_of r_G_auction (by decide +kernel)
theorem i_G_auction_14 : m_at k_G_auction 14 = some (.aload_n 0, 1, 0) := m_at_of r_G_auction (by decide +kernel)
theorem i_G_auction_15 : m_at k_G_auction 15 = some (.getfield 10, 3, 2) := m_at_of r_G_auction (by decide +kernel)
theorem i_G_auction_18 : m_at k_G_auction 18 = some (.iload_n 1, 1, 0) := m_at_of r_G_auction (by decide +kernel)
theorem i_G_auction_19 : m_at k_G_auction 19 = some (.iconst (-1), 1, 0) := m_at_of r_G_auction (by decide +kernel)
theorem i_G_auction_20 : m_at k_G_auction 20 = some (.invokevirtual 333, 3, 151) := m_at_of r_G_auction (by decide +kernel)
theorem i_G_auction_23 : m_at k_G_auction 23 = some (.istore_n 3, 1, 0) := m_at_of r_G_auction (by decide +kernel)
theorem i_G_auction_24 : m_at k_G_auction 24 = some (.iload_n 3, 1, 0) := m_at_of r_G_auction (by decide +kernel)
theorem i_G_auction_25 : m_at k_G_auction 25 = some (.iconst (-1), 1, 0) := m_at_of r_G_auction (by decide +kernel)
theorem i_G_auction_26 : m_at k_G_auction 26 = some (.if_icmp .eq (7), 3, 0) := m_at_of r_G_auction (by decide +kernel)
theorem i_G_auction_29 : m_at k_G_auction 29 = some (.iload_n 2, 1, 0) := m_at_of r_G_auction (by decide +kernel)
theorem i_G_auction_30 : m_at k_G_auction 30 = some (.ifCond .ne (5), 3, 0) := m_at_of r_G_auction (by decide +kernel)
theorem i_G_auction_33 : m_at k_G_auction 33 = some (.iload_n 3, 1, 0) := m_at_of r_G_auction (by decide +kernel)
theorem i_G_auction_34 : m_at k_G_auction 34 = some (.ireturn, 1, 0) := m_at_of r_G_auction (by decide +kernel)
theorem i_G_auction_35 : m_at k_G_auction 35 = some (.aload_n 0, 1, 0) := m_at_of r_G_auction (by decide +kernel)
theorem i_G_auction_36 : m_at k_G_auction 36 = some (.getfield 10, 3, 2) := m_at_of r_G_auction (by decide +kernel)
theorem i_G_auction_39 : m_at k_G_auction 39 = some (.iload_n 1, 1, 0) := m_at_of r_G_auction (by decide +kernel)
theorem i_G_auction_40 : m_at k_G_auction 40 = some (.iload_n 3, 1, 0) := m_at_of r_G_auction (by decide +kernel)
theorem i_G_auction_41 : m_at k_G_auction 41 = some (.invokevirtual 333, 3, 151) := m_at_of r_G_auction (by decide +kernel)
theorem i_G_auction_44 : m_at k_G_auction 44 = some (.istore 4, 2, 0) := m_at_of r_G_auction (by decide +kernel)
theorem i_G_auction_46 : m_at k_G_auction 46 = some (.iload 4, 2, 0) := m_at_of r_G_auction (by decide +kernel)
theorem i_G_auction_48 : m_at k_G_auction 48 = some (.iconst (-1), 1, 0) := m_at_of r_G_auction (by decide +kernel)
theorem i_G_auction_49 : m_at k_G_auction 49 = some (.if_icmp .ne (7), 3, 0) := m_at_of r_G_auction (by decide +kernel)
theorem i_G_auction_52 : m_at k_G_auction 52 = some (.iconst 0, 1, 0) := m_at_of r_G_auction (by decide +kernel)
theorem i_G_auction_53 : m_at k_G_auction 53 = some (.goto (13), 3, 0) := m_at_of r_G_auction (by decide +kernel)
theorem i_G_auction_56 : m_at k_G_auction 56 = some (.aload_n 0, 1, 0) := m_at_of r_G_auction (by decide +kernel)
theorem i_G_auction_57 : m_at k_G_auction 57 = some (.getfield 10, 3, 2) := m_at_of r_G_auction (by decide +kernel)
theorem i_G_auction_60 : m_at k_G_auction 60 = some (.iload 4, 2, 0) := m_at_of r_G_auction (by decide +kernel)
theorem i_G_auction_62 : m_at k_G_auction 62 = some (.iload_n 1, 1, 0) := m_at_of r_G_auction (by decide +kernel)
theorem i_G_auction_63 : m_at k_G_auction 63 = some (.invokevirtual 336, 3, 152) := m_at_of r_G_auction (by decide +kernel)
theorem i_G_auction_66 : m_at k_G_auction 66 = some (.ireturn, 1, 0) := m_at_of r_G_auction (by decide +kernel)
set_option maxRecDepth 20000 in
set_option maxHeartbeats 1000000 in
theorem E_G_auction (x : m_X) (s : m_H) (w : Nat) (n1 : Int32) (n2 : Int32) : m_M x k_G_auction [.ref w, .int n1, .int n2] s = if m_isO s w 10 = true then ((m_fR s 10 0 w).bind fun v1 => m_bI (m_M x k_World_isHow [.ref v1, .int n1, .int 2] s) fun v6 s6 => if v6 = 0 then (some (some (.int (-1)), s6)) else (m_fR s6 10 0 w).bind fun v15 => m_bI (m_M x k_World_highestBidder [.ref v15, .int n1, .int (-1)] s6) fun v20 s20 => if v20 = (-1) then (some (some (.int v20), s20)) else if n2 = 0 then (some (some (.int v20), s20)) else (m_fR s20 10 0 w).bind fun v36 => m_bI (m_M x k_World_highestBidder [.ref v36, .int n1, .int v20] s20) fun v41 s41 => if v41 = (-1) then (some (some (.int 0), s41)) else (m_fR s41 10 0 w).bind fun v57 => m_bI (m_M x k_World_bidOf [.ref v57, .int v41, .int n1] s41) fun v63 s63 => some (some (.int v63), s63)) else none := by
  refine e_M1 (L0 := [some (.ref w), some (.int n1), some (.int n2), none, none]) rfl (by decide +kernel) rfl (q_G_auction _) rfl ?_
  refine e_aload_n i_G_auction_0 rfl ?_
  refine e_getR i_G_auction_1 lf_2 (by decide) ft_10_0 (fun v1 => ?_)
  refine e_iload_n i_G_auction_4 rfl ?_
  refine e_iconst (v := 2) i_G_auction_5 (by decide) ?_
  refine e_callI (as := [.ref v1, .int n1, .int 2]) (st' := []) i_G_auction_6 lm_150 (Or.inr (Or.inl ⟨rfl, rfl⟩)) w_World_isHow rfl rfl rfl (Nat.le_of_ble_eq_true rfl) (Nat.le_of_ble_eq_true rfl) (m_rlt (q_World_isHow _) (by decide)) rfl (fun v6 s6 => ?_)
  refine e_ifne (t := 14) i_G_auction_9 (by decide) ?_ ?_
  · refine e_aload_n i_G_auction_14 rfl ?_
    refine e_getR i_G_auction_15 lf_2 (by decide) ft_10_0 (fun v15 => ?_)
    refine e_iload_n i_G_auction_18 rfl ?_
    refine e_iconst (v := (-1)) i_G_auction_19 (by decide) ?_
    refine e_callI (as := [.ref v15, .int n1, .int (-1)]) (st' := []) i_G_auction_20 lm_151 (Or.inr (Or.inl ⟨rfl, rfl⟩)) w_World_highestBidder rfl rfl rfl (Nat.le_of_ble_eq_true rfl) (Nat.le_of_ble_eq_true rfl) (m_rlt (q_World_highestBidder _) (by decide)) rfl (fun v20 s20 => ?_)
    refine e_istore_n (L' := [some (.ref w), some (.int n1), some (.int n2), some (.int v20), none]) i_G_auction_23 (of_decide_eq_true rfl) rfl ?_
    refine e_iload_n i_G_auction_24 rfl ?_
    refine e_iconst (v := (-1)) i_G_auction_25 (by decide) ?_
    refine e_icmpeq (t := 33) i_G_auction_26 (by decide) ?_ ?_
    · refine e_iload_n i_G_auction_33 rfl ?_
      exact e_iretI i_G_auction_34 rfl
    · refine e_iload_n i_G_auction_29 rfl ?_
      refine e_ifne (t := 35) i_G_auction_30 (by decide) ?_ ?_
      · refine e_aload_n i_G_auction_35 rfl ?_
        refine e_getR i_G_auction_36 lf_2 (by decide) ft_10_0 (fun v36 => ?_)
        refine e_iload_n i_G_auction_39 rfl ?_
        refine e_iload_n i_G_auction_40 rfl ?_
        refine e_callI (as := [.ref v36, .int n1, .int v20]) (st' := []) i_G_auction_41 lm_151 (Or.inr (Or.inl ⟨rfl, rfl⟩)) w_World_highestBidder rfl rfl rfl (Nat.le_of_ble_eq_true rfl) (Nat.le_of_ble_eq_true rfl) (m_rlt (q_World_highestBidder _) (by decide)) rfl (fun v41 s41 => ?_)
        refine e_istore (L' := [some (.ref w), some (.int n1), some (.int n2), some (.int v20), some (.int v41)]) i_G_auction_44 (of_decide_eq_true rfl) rfl ?_
        refine e_iload i_G_auction_46 rfl ?_
        refine e_iconst (v := (-1)) i_G_auction_48 (by decide) ?_
        refine e_icmpne (t := 56) i_G_auction_49 (by decide) ?_ ?_
        · refine e_aload_n i_G_auction_56 rfl ?_
          refine e_getR i_G_auction_57 lf_2 (by decide) ft_10_0 (fun v57 => ?_)
          refine e_iload i_G_auction_60 rfl ?_
          refine e_iload_n i_G_auction_62 rfl ?_
          refine e_callI (as := [.ref v57, .int v41, .int n1]) (st' := []) i_G_auction_63 lm_152 (Or.inr (Or.inl ⟨rfl, rfl⟩)) w_World_bidOf rfl rfl rfl (Nat.le_of_ble_eq_true rfl) (Nat.le_of_ble_eq_true rfl) (m_rlt (q_World_bidOf _) (by decide)) rfl (fun v63 s63 => ?_)
          exact e_iretI i_G_auction_66 rfl
        · refine e_iconst (v := 0) i_G_auction_52 (by decide) ?_
          refine e_goto (t := 66) i_G_auction_53 (by decide) ?_
          exact e_iretI i_G_auction_66 rfl
      · refine e_iload_n i_G_auction_33 rfl ?_
        exact e_iretI i_G_auction_34 rfl
  · refine e_iconst (v := (-1)) i_G_auction_12 (by decide) ?_
    exact e_iretI i_G_auction_13 rfl
theorem i_G_estate_0 : m_at k_G_estate 0 = some (.iload_n 1, 1, 0) := m_at_of r_G_estate (by decide +kernel)
theorem i_G_estate_1 : m_at k_G_estate 1 = some (.iconst 0, 1, 0) := m_at_of r_G_estate (by decide +kernel)
theorem i_G_estate_2 : m_at k_G_estate 2 = some (.sipush 9999, 3, 0) := m_at_of r_G_estate (by decide +kernel)
theorem i_G_estate_5 : m_at k_G_estate 5 = some (.invokestatic 100, 3, 124) := m_at_of r_G_estate (by decide +kernel)
theorem i_G_estate_8 : m_at k_G_estate 8 = some (.ifCond .eq (23), 3, 0) := m_at_of r_G_estate (by decide +kernel)
theorem i_G_estate_11 : m_at k_G_estate 11 = some (.iload_n 2, 1, 0) := m_at_of r_G_estate (by decide +kernel)
theorem i_G_estate_12 : m_at k_G_estate 12 = some (.iconst 0, 1, 0) := m_at_of r_G_estate (by decide +kernel)
theorem i_G_estate_13 : m_at k_G_estate 13 = some (.aload_n 0, 1, 0) := m_at_of r_G_estate (by decide +kernel)
theorem i_G_estate_14 : m_at k_G_estate 14 = some (.getfield 26, 3, 4) := m_at_of r_G_estate (by decide +kernel)
theorem i_G_estate_17 : m_at k_G_estate 17 = some (.getfield 317, 3, 11) := m_at_of r_G_estate (by decide +kernel)
theorem i_G_estate_20 : m_at k_G_estate 20 = some (.getfield 275, 3, 10) := m_at_of r_G_estate (by decide +kernel)
theorem i_G_estate_23 : m_at k_G_estate 23 = some (.iconst 1, 1, 0) := m_at_of r_G_estate (by decide +kernel)
theorem i_G_estate_24 : m_at k_G_estate 24 = some (.isub, 1, 0) := m_at_of r_G_estate (by decide +kernel)
theorem i_G_estate_25 : m_at k_G_estate 25 = some (.invokestatic 100, 3, 124) := m_at_of r_G_estate (by decide +kernel)
theorem i_G_estate_28 : m_at k_G_estate 28 = some (.ifCond .ne (5), 3, 0) := m_at_of r_G_estate (by decide +kernel)
theorem i_G_estate_31 : m_at k_G_estate 31 = some (.iconst (-1), 1, 0) := m_at_of r_G_estate (by decide +kernel)
theorem i_G_estate_32 : m_at k_G_estate 32 = some (.ireturn, 1, 0) := m_at_of r_G_estate (by decide +kernel)
theorem i_G_estate_33 : m_at k_G_estate 33 = some (.aload_n 0, 1, 0) := m_at_of r_G_estate (by decide +kernel)
theorem i_G_estate_34 : m_at k_G_estate 34 = some (.getfield 80, 3, 43) := m_at_of r_G_estate (by decide +kernel)
theorem i_G_estate_37 : m_at k_G_estate 37 = some (.aload_n 0, 1, 0) := m_at_of r_G_estate (by decide +kernel)
theorem i_G_estate_38 : m_at k_G_estate 38 = some (.getfield 26, 3, 4) := m_at_of r_G_estate (by decide +kernel)
theorem i_G_estate_41 : m_at k_G_estate 41 = some (.getfield 317, 3, 11) := m_at_of r_G_estate (by decide +kernel)
theorem i_G_estate_44 : m_at k_G_estate 44 = some (.iload_n 1, 1, 0) := m_at_of r_G_estate (by decide +kernel)
theorem i_G_estate_45 : m_at k_G_estate 45 = some (.iload_n 2, 1, 0) := m_at_of r_G_estate (by decide +kernel)
theorem i_G_estate_46 : m_at k_G_estate 46 = some (.invokevirtual 320, 3, 156) := m_at_of r_G_estate (by decide +kernel)
theorem i_G_estate_49 : m_at k_G_estate 49 = some (.iload_n 3, 1, 0) := m_at_of r_G_estate (by decide +kernel)
theorem i_G_estate_50 : m_at k_G_estate 50 = some (.ifCond .eq (13), 3, 0) := m_at_of r_G_estate (by decide +kernel)
theorem i_G_estate_53 : m_at k_G_estate 53 = some (.aload_n 0, 1, 0) := m_at_of r_G_estate (by decide +kernel)
theorem i_G_estate_54 : m_at k_G_estate 54 = some (.getfield 80, 3, 43) := m_at_of r_G_estate (by decide +kernel)
theorem i_G_estate_57 : m_at k_G_estate 57 = some (.getfield 324, 3, 44) := m_at_of r_G_estate (by decide +kernel)
theorem i_G_estate_60 : m_at k_G_estate 60 = some (.goto (10), 3, 0) := m_at_of r_G_estate (by decide +kernel)
theorem i_G_estate_63 : m_at k_G_estate 63 = some (.aload_n 0, 1, 0) := m_at_of r_G_estate (by decide +kernel)
theorem i_G_estate_64 : m_at k_G_estate 64 = some (.getfield 80, 3, 43) := m_at_of r_G_estate (by decide +kernel)
theorem i_G_estate_67 : m_at k_G_estate 67 = some (.getfield 327, 3, 45) := m_at_of r_G_estate (by decide +kernel)
theorem i_G_estate_70 : m_at k_G_estate 70 = some (.ireturn, 1, 0) := m_at_of r_G_estate (by decide +kernel)
set_option maxRecDepth 20000 in
set_option maxHeartbeats 1000000 in
theorem E_G_estate (x : m_X) (s : m_H) (w : Nat) (n1 : Int32) (n2 : Int32) (n3 : Int32) : m_M x k_G_estate [.ref w, .int n1, .int n2, .int n3] s = if m_isO s w 10 = true then (m_bI (m_M x k_G_isIn [.int n1, .int 0, .int 9999] s) fun v5 s5 => if v5 = 0 then (some (some (.int (-1)), s5)) else (m_fR s5 10 2 w).bind fun v14 => (m_fR s5 7 2 v14).bind fun v17 => (m_fI s5 4 1 v17).bind fun v20 => m_bI (m_M x k_G_isIn [.int n2, .int 0, .int (v20 - (1 : Int32))] s5) fun v25 s25 => if v25 = 0 then (some (some (.int (-1)), s25)) else (m_fR s25 10 12 w).bind fun v34 => (m_fR s25 10 2 w).bind fun v38 => (m_fR s25 7 2 v38).bind fun v41 => m_bV (m_M x k_Puzzles_share [.ref v34, .ref v41, .int n1, .int n2] s25) fun s46 => if n3 = 0 then ((m_fR s46 10 12 w).bind fun v64 => (m_fI s46 2 1 v64).bind fun v67 => some (some (.int v67), s46)) else (m_fR s46 10 12 w).bind fun v54 => (m_fI s46 2 2 v54).bind fun v57 => some (some (.int v57), s46)) else none := by
  refine e_M1 (L0 := [some (.ref w), some (.int n1), some (.int n2), some (.int n3)]) rfl (by decide +kernel) rfl (q_G_estate _) rfl ?_
  refine e_iload_n i_G_estate_0 rfl ?_
  refine e_iconst (v := 0) i_G_estate_1 (by decide) ?_
  refine e_sipush (v := 9999) i_G_estate_2 (by decide) ?_
  refine e_callI (as := [.int n1, .int 0, .int 9999]) (st' := []) i_G_estate_5 lm_124 (Or.inl ⟨rfl, rfl⟩) w_G_isIn rfl rfl rfl (Nat.le_of_ble_eq_true rfl) (Nat.le_of_ble_eq_true rfl) (m_rlt (q_G_isIn _) (by decide)) rfl (fun v5 s5 => ?_)
  refine e_ifeq (t := 31) i_G_estate_8 (by decide) ?_ ?_
  · refine e_iconst (v := (-1)) i_G_estate_31 (by decide) ?_
    exact e_iretI i_G_estate_32 rfl
  · refine e_iload_n i_G_estate_11 rfl ?_
    refine e_iconst (v := 0) i_G_estate_12 (by decide) ?_
    refine e_aload_n i_G_estate_13 rfl ?_
    refine e_getR i_G_estate_14 lf_4 (by decide) ft_10_2 (fun v14 => ?_)
    refine e_getR i_G_estate_17 lf_11 (by decide) ft_7_2 (fun v17 => ?_)
    refine e_getI i_G_estate_20 lf_10 (by decide) (Or.inl ft_4_1) (fun v20 => ?_)
    refine e_iconst (v := 1) i_G_estate_23 (by decide) ?_
    refine e_isub i_G_estate_24 ?_
    refine e_callI (as := [.int n2, .int 0, .int (v20 - (1 : Int32))]) (st' := []) i_G_estate_25 lm_124 (Or.inl ⟨rfl, rfl⟩) w_G_isIn rfl rfl rfl (Nat.le_of_ble_eq_true rfl) (Nat.le_of_ble_eq_true rfl) (m_rlt (q_G_isIn _) (by decide)) rfl (fun v25 s25 => ?_)
    refine e_ifne (t := 33) i_G_estate_28 (by decide) ?_ ?_
    · refine e_aload_n i_G_estate_33 rfl ?_
      refine e_getR i_G_estate_34 lf_43 (by decide) ft_10_12 (fun v34 => ?_)
      refine e_aload_n i_G_estate_37 rfl ?_
      refine e_getR i_G_estate_38 lf_4 (by decide) ft_10_2 (fun v38 => ?_)
      refine e_getR i_G_estate_41 lf_11 (by decide) ft_7_2 (fun v41 => ?_)
      refine e_iload_n i_G_estate_44 rfl ?_
      refine e_iload_n i_G_estate_45 rfl ?_
      refine e_callV (as := [.ref v34, .ref v41, .int n1, .int n2]) (st' := []) i_G_estate_46 lm_156 (Or.inr (Or.inl ⟨rfl, rfl⟩)) w_Puzzles_share rfl rfl rfl (Nat.le_of_ble_eq_true rfl) (Nat.le_of_ble_eq_true rfl) (m_rlt (q_Puzzles_share _) (by decide)) rfl (fun s46 => ?_)
      refine e_iload_n i_G_estate_49 rfl ?_
      refine e_ifeq (t := 63) i_G_estate_50 (by decide) ?_ ?_
      · refine e_aload_n i_G_estate_63 rfl ?_
        refine e_getR i_G_estate_64 lf_43 (by decide) ft_10_12 (fun v64 => ?_)
        refine e_getI i_G_estate_67 lf_45 (by decide) (Or.inl ft_2_1) (fun v67 => ?_)
        exact e_iretI i_G_estate_70 rfl
      · refine e_aload_n i_G_estate_53 rfl ?_
        refine e_getR i_G_estate_54 lf_43 (by decide) ft_10_12 (fun v54 => ?_)
        refine e_getI i_G_estate_57 lf_44 (by decide) (Or.inl ft_2_2) (fun v57 => ?_)
        refine e_goto (t := 70) i_G_estate_60 (by decide) ?_
        exact e_iretI i_G_estate_70 rfl
    · refine e_iconst (v := (-1)) i_G_estate_31 (by decide) ?_
      exact e_iretI i_G_estate_32 rfl
theorem i_G_claim_0 : m_at k_G_claim 0 = some (.aload_n 0, 1, 0) := m_at_of r_G_claim (by decide +kernel)
theorem i_G_claim_1 : m_at k_G_claim 1 = some (.getfield 26, 3, 4) := m_at_of r_G_claim (by decide +kernel)
theorem i_G_claim_4 : m_at k_G_claim 4 = some (.getfield 317, 3, 11) := m_at_of r_G_claim (by decide +kernel)
theorem i_G_claim_7 : m_at k_G_claim 7 = some (.iload_n 1, 1, 0) := m_at_of r_G_claim (by decide +kernel)
theorem i_G_claim_8 : m_at k_G_claim 8 = some (.sipush 9999, 3, 0) := m_at_of r_G_claim (by decide +kernel)
theorem i_G_claim_11 : m_at k_G_claim 11 = some (.invokestatic 285, 3, 160) := m_at_of r_G_claim (by decide +kernel)
theorem i_G_claim_14 : m_at k_G_claim 14 = some (.ireturn, 1, 0) := m_at_of r_G_claim (by decide +kernel)
set_option maxRecDepth 20000 in
set_option maxHeartbeats 1000000 in
theorem E_G_claim (x : m_X) (s : m_H) (w : Nat) (n1 : Int32) : m_M x k_G_claim [.ref w, .int n1] s = if m_isO s w 10 = true then ((m_fR s 10 2 w).bind fun v1 => (m_fR s 7 2 v1).bind fun v4 => m_bI (m_M x k_G_toldInto [.ref v4, .int n1, .int 9999] s) fun v11 s11 => some (some (.int v11), s11)) else none := by
  refine e_M1 (L0 := [some (.ref w), some (.int n1)]) rfl (by decide +kernel) rfl (q_G_claim _) rfl ?_
  refine e_aload_n i_G_claim_0 rfl ?_
  refine e_getR i_G_claim_1 lf_4 (by decide) ft_10_2 (fun v1 => ?_)
  refine e_getR i_G_claim_4 lf_11 (by decide) ft_7_2 (fun v4 => ?_)
  refine e_iload_n i_G_claim_7 rfl ?_
  refine e_sipush (v := 9999) i_G_claim_8 (by decide) ?_
  refine e_callI (as := [.ref v4, .int n1, .int 9999]) (st' := []) i_G_claim_11 lm_160 (Or.inl ⟨rfl, rfl⟩) w_G_toldInto rfl rfl rfl (Nat.le_of_ble_eq_true rfl) (Nat.le_of_ble_eq_true rfl) (m_rlt (q_G_toldInto _) (by decide)) rfl (fun v11 s11 => ?_)
  exact e_iretI i_G_claim_14 rfl
theorem i_G_unrest_0 : m_at k_G_unrest 0 = some (.aload_n 0, 1, 0) := m_at_of r_G_unrest (by decide +kernel)
theorem i_G_unrest_1 : m_at k_G_unrest 1 = some (.iload_n 1, 1, 0) := m_at_of r_G_unrest (by decide +kernel)
theorem i_G_unrest_2 : m_at k_G_unrest 2 = some (.invokevirtual 296, 3, 165) := m_at_of r_G_unrest (by decide +kernel)
theorem i_G_unrest_5 : m_at k_G_unrest 5 = some (.ifCond .ne (5), 3, 0) := m_at_of r_G_unrest (by decide +kernel)
theorem i_G_unrest_8 : m_at k_G_unrest 8 = some (.iconst (-1), 1, 0) := m_at_of r_G_unrest (by decide +kernel)
theorem i_G_unrest_9 : m_at k_G_unrest 9 = some (.ireturn, 1, 0) := m_at_of r_G_unrest (by decide +kernel)
theorem i_G_unrest_10 : m_at k_G_unrest 10 = some (.aload_n 0, 1, 0) := m_at_of r_G_unrest (by decide +kernel)
theorem i_G_unrest_11 : m_at k_G_unrest 11 = some (.getfield 66, 3, 60) := m_at_of r_G_unrest (by decide +kernel)
theorem i_G_unrest_14 : m_at k_G_unrest 14 = some (.invokevirtual 306, 3, 166) := m_at_of r_G_unrest (by decide +kernel)
theorem i_G_unrest_17 : m_at k_G_unrest 17 = some (.aload_n 0, 1, 0) := m_at_of r_G_unrest (by decide +kernel)
theorem i_G_unrest_18 : m_at k_G_unrest 18 = some (.getfield 66, 3, 60) := m_at_of r_G_unrest (by decide +kernel)
theorem i_G_unrest_21 : m_at k_G_unrest 21 = some (.aload_n 0, 1, 0) := m_at_of r_G_unrest (by decide +kernel)
theorem i_G_unrest_22 : m_at k_G_unrest 22 = some (.getfield 10, 3, 2) := m_at_of r_G_unrest (by decide +kernel)
theorem i_G_unrest_25 : m_at k_G_unrest 25 = some (.iload_n 1, 1, 0) := m_at_of r_G_unrest (by decide +kernel)
theorem i_G_unrest_26 : m_at k_G_unrest 26 = some (.iconst 0, 1, 0) := m_at_of r_G_unrest (by decide +kernel)
theorem i_G_unrest_27 : m_at k_G_unrest 27 = some (.iload_n 2, 1, 0) := m_at_of r_G_unrest (by decide +kernel)
theorem i_G_unrest_28 : m_at k_G_unrest 28 = some (.invokevirtual 309, 3, 167) := m_at_of r_G_unrest (by decide +kernel)
theorem i_G_unrest_31 : m_at k_G_unrest 31 = some (.ifCond .eq (96), 3, 0) := m_at_of r_G_unrest (by decide +kernel)
theorem i_G_unrest_34 : m_at k_G_unrest 34 = some (.aload_n 0, 1, 0) := m_at_of r_G_unrest (by decide +kernel)
theorem i_G_unrest_35 : m_at k_G_unrest 35 = some (.getfield 66, 3, 60) := m_at_of r_G_unrest (by decide +kernel)
theorem i_G_unrest_38 : m_at k_G_unrest 38 = some (.aload_n 0, 1, 0) := m_at_of r_G_unrest (by decide +kernel)
theorem i_G_unrest_39 : m_at k_G_unrest 39 = some (.getfield 10, 3, 2) := m_at_of r_G_unrest (by decide +kernel)
theorem i_G_unrest_42 : m_at k_G_unrest 42 = some (.iload_n 1, 1, 0) := m_at_of r_G_unrest (by decide +kernel)
theorem i_G_unrest_43 : m_at k_G_unrest 43 = some (.iconst 1, 1, 0) := m_at_of r_G_unrest (by decide +kernel)
theorem i_G_unrest_44 : m_at k_G_unrest 44 = some (.iload_n 3, 1, 0) := m_at_of r_G_unrest (by decide +kernel)
theorem i_G_unrest_45 : m_at k_G_unrest 45 = some (.invokevirtual 309, 3, 167) := m_at_of r_G_unrest (by decide +kernel)
theorem i_G_unrest_48 : m_at k_G_unrest 48 = some (.ifCond .eq (79), 3, 0) := m_at_of r_G_unrest (by decide +kernel)
theorem i_G_unrest_51 : m_at k_G_unrest 51 = some (.aload_n 0, 1, 0) := m_at_of r_G_unrest (by decide +kernel)
theorem i_G_unrest_52 : m_at k_G_unrest 52 = some (.getfield 66, 3, 60) := m_at_of r_G_unrest (by decide +kernel)
theorem i_G_unrest_55 : m_at k_G_unrest 55 = some (.aload_n 0, 1, 0) := m_at_of r_G_unrest (by decide +kernel)
theorem i_G_unrest_56 : m_at k_G_unrest 56 = some (.getfield 10, 3, 2) := m_at_of r_G_unrest (by decide +kernel)
theorem i_G_unrest_59 : m_at k_G_unrest 59 = some (.iload_n 1, 1, 0) := m_at_of r_G_unrest (by decide +kernel)
theorem i_G_unrest_60 : m_at k_G_unrest 60 = some (.iconst 2, 1, 0) := m_at_of r_G_unrest (by decide +kernel)
theorem i_G_unrest_61 : m_at k_G_unrest 61 = some (.iload 4, 2, 0) := m_at_of r_G_unrest (by decide +kernel)
theorem i_G_unrest_63 : m_at k_G_unrest 63 = some (.invokevirtual 309, 3, 167) := m_at_of r_G_unrest (by decide +kernel)
theorem i_G_unrest_66 : m_at k_G_unrest 66 = some (.ifCond .eq (61), 3, 0) := m_at_of r_G_unrest (by decide +kernel)
theorem i_G_unrest_69 : m_at k_G_unrest 69 = some (.aload_n 0, 1, 0) := m_at_of r_G_unrest (by decide +kernel)
theorem i_G_unrest_70 : m_at k_G_unrest 70 = some (.getfield 66, 3, 60) := m_at_of r_G_unrest (by decide +kernel)
theorem i_G_unrest_73 : m_at k_G_unrest 73 = some (.aload_n 0, 1, 0) := m_at_of r_G_unrest (by decide +kernel)
theorem i_G_unrest_74 : m_at k_G_unrest 74 = some (.getfield 10, 3, 2) := m_at_of r_G_unrest (by decide +kernel)
theorem i_G_unrest_77 : m_at k_G_unrest 77 = some (.iload_n 1, 1, 0) := m_at_of r_G_unrest (by decide +kernel)
theorem i_G_unrest_78 : m_at k_G_unrest 78 = some (.iconst 3, 1, 0) := m_at_of r_G_unrest (by decide +kernel)
theorem i_G_unrest_79 : m_at k_G_unrest 79 = some (.iload 5, 2, 0) := m_at_of r_G_unrest (by decide +kernel)
theorem i_G_unrest_81 : m_at k_G_unrest 81 = some (.invokevirtual 309, 3, 167) := m_at_of r_G_unrest (by decide +kernel)
theorem i_G_unrest_84 : m_at k_G_unrest 84 = some (.ifCond .eq (43), 3, 0) := m_at_of r_G_unrest (by decide +kernel)
theorem i_G_unrest_87 : m_at k_G_unrest 87 = some (.aload_n 0, 1, 0) := m_at_of r_G_unrest (by decide +kernel)
theorem i_G_unrest_88 : m_at k_G_unrest 88 = some (.getfield 66, 3, 60) := m_at_of r_G_unrest (by decide +kernel)
theorem i_G_unrest_91 : m_at k_G_unrest 91 = some (.aload_n 0, 1, 0) := m_at_of r_G_unrest (by decide +kernel)
theorem i_G_unrest_92 : m_at k_G_unrest 92 = some (.getfield 10, 3, 2) := m_at_of r_G_unrest (by decide +kernel)
theorem i_G_unrest_95 : m_at k_G_unrest 95 = some (.iload_n 1, 1, 0) := m_at_of r_G_unrest (by decide +kernel)
theorem i_G_unrest_96 : m_at k_G_unrest 96 = some (.iconst 4, 1, 0) := m_at_of r_G_unrest (by decide +kernel)
theorem i_G_unrest_97 : m_at k_G_unrest 97 = some (.iload 6, 2, 0) := m_at_of r_G_unrest (by decide +kernel)
theorem i_G_unrest_99 : m_at k_G_unrest 99 = some (.invokevirtual 309, 3, 167) := m_at_of r_G_unrest (by decide +kernel)
theorem i_G_unrest_102 : m_at k_G_unrest 102 = some (.ifCond .eq (25), 3, 0) := m_at_of r_G_unrest (by decide +kernel)
theorem i_G_unrest_105 : m_at k_G_unrest 105 = some (.aload_n 0, 1, 0) := m_at_of r_G_unrest (by decide +kernel)
theorem i_G_unrest_106 : m_at k_G_unrest 106 = some (.getfield 66, 3, 60) := m_at_of r_G_unrest (by decide +kernel)
theorem i_G_unrest_109 : m_at k_G_unrest 109 = some (.aload_n 0, 1, 0) := m_at_of r_G_unrest (by decide +kernel)
theorem i_G_unrest_110 : m_at k_G_unrest 110 = some (.getfield 10, 3, 2) := m_at_of r_G_unrest (by decide +kernel)
theorem i_G_unrest_113 : m_at k_G_unrest 113 = some (.iload_n 1, 1, 0) := m_at_of r_G_unrest (by decide +kernel)
theorem i_G_unrest_114 : m_at k_G_unrest 114 = some (.iconst 5, 1, 0) := m_at_of r_G_unrest (by decide +kernel)
theorem i_G_unrest_115 : m_at k_G_unrest 115 = some (.iload 7, 2, 0) := m_at_of r_G_unrest (by decide +kernel)
theorem i_G_unrest_117 : m_at k_G_unrest 117 = some (.invokevirtual 309, 3, 167) := m_at_of r_G_unrest (by decide +kernel)
theorem i_G_unrest_120 : m_at k_G_unrest 120 = some (.ifCond .eq (7), 3, 0) := m_at_of r_G_unrest (by decide +kernel)
theorem i_G_unrest_123 : m_at k_G_unrest 123 = some (.iconst 1, 1, 0) := m_at_of r_G_unrest (by decide +kernel)
theorem i_G_unrest_124 : m_at k_G_unrest 124 = some (.goto (4), 3, 0) := m_at_of r_G_unrest (by decide +kernel)
theorem i_G_unrest_127 : m_at k_G_unrest 127 = some (.iconst 0, 1, 0) := m_at_of r_G_unrest (by decide +kernel)
theorem i_G_unrest_128 : m_at k_G_unrest 128 = some (.istore 8, 2, 0) := m_at_of r_G_unrest (by decide +kernel)
theorem i_G_unrest_130 : m_at k_G_unrest 130 = some (.iload 8, 2, 0) := m_at_of r_G_unrest (by decide +kernel)
theorem i_G_unrest_132 : m_at k_G_unrest 132 = some (.ifCond .eq (18), 3, 0) := m_at_of r_G_unrest (by decide +kernel)
theorem i_G_unrest_135 : m_at k_G_unrest 135 = some (.aload_n 0, 1, 0) := m_at_of r_G_unrest (by decide +kernel)
theorem i_G_unrest_136 : m_at k_G_unrest 136 = some (.getfield 66, 3, 60) := m_at_of r_G_unrest (by decide +kernel)
theorem i_G_unrest_139 : m_at k_G_unrest 139 = some (.aload_n 0, 1, 0) := m_at_of r_G_unrest (by decide +kernel)
theorem i_G_unrest_140 : m_at k_G_unrest 140 = some (.getfield 10, 3, 2) := m_at_of r_G_unrest (by decide +kernel)
theorem i_G_unrest_143 : m_at k_G_unrest 143 = some (.iload_n 1, 1, 0) := m_at_of r_G_unrest (by decide +kernel)
theorem i_G_unrest_144 : m_at k_G_unrest 144 = some (.invokevirtual 313, 3, 168) := m_at_of r_G_unrest (by decide +kernel)
theorem i_G_unrest_147 : m_at k_G_unrest 147 = some (.goto (4), 3, 0) := m_at_of r_G_unrest (by decide +kernel)
theorem i_G_unrest_150 : m_at k_G_unrest 150 = some (.iconst (-1), 1, 0) := m_at_of r_G_unrest (by decide +kernel)
theorem i_G_unrest_151 : m_at k_G_unrest 151 = some (.ireturn, 1, 0) := m_at_of r_G_unrest (by decide +kernel)
set_option maxRecDepth 20000 in
set_option maxHeartbeats 1000000 in
theorem E_G_unrest (x : m_X) (s : m_H) (w : Nat) (n1 : Int32) (n2 : Int32) (n3 : Int32) (n4 : Int32) (n5 : Int32) (n6 : Int32) (n7 : Int32) : m_M x k_G_unrest [.ref w, .int n1, .int n2, .int n3, .int n4, .int n5, .int n6, .int n7] s = if m_isO s w 10 = true then (m_bI (m_M x k_G_canWed [.ref w, .int n1] s) fun v2 s2 => if v2 = 0 then (some (some (.int (-1)), s2)) else (m_fR s2 10 10 w).bind fun v11 => m_bV (m_M x k_Weddings_leaveAll [.ref v11] s2) fun s14 => (m_fR s14 10 10 w).bind fun v18 => (m_fR s14 10 0 w).bind fun v22 => m_bI (m_M x k_Weddings_takes [.ref v18, .ref v22, .int n1, .int 0, .int n2] s14) fun v28 s28 => if v28 = 0 then (some (some (.int (-1)), s28)) else (m_fR s28 10 10 w).bind fun v35 => (m_fR s28 10 0 w).bind fun v39 => m_bI (m_M x k_Weddings_takes [.ref v35, .ref v39, .int n1, .int 1, .int n3] s28) fun v45 s45 => if v45 = 0 then (some (some (.int (-1)), s45)) else (m_fR s45 10 10 w).bind fun v52 => (m_fR s45 10 0 w).bind fun v56 => m_bI (m_M x k_Weddings_takes [.ref v52, .ref v56, .int n1, .int 2, .int n4] s45) fun v63 s63 => if v63 = 0 then (some (some (.int (-1)), s63)) else (m_fR s63 10 10 w).bind fun v70 => (m_fR s63 10 0 w).bind fun v74 => m_bI (m_M x k_Weddings_takes [.ref v70, .ref v74, .int n1, .int 3, .int n5] s63) fun v81 s81 => if v81 = 0 then (some (some (.int (-1)), s81)) else (m_fR s81 10 10 w).bind fun v88 => (m_fR s81 10 0 w).bind fun v92 => m_bI (m_M x k_Weddings_takes [.ref v88, .ref v92, .int n1, .int 4, .int n6] s81) fun v99 s99 => if v99 = 0 then (some (some (.int (-1)), s99)) else (m_fR s99 10 10 w).bind fun v106 => (m_fR s99 10 0 w).bind fun v110 => m_bI (m_M x k_Weddings_takes [.ref v106, .ref v110, .int n1, .int 5, .int n7] s99) fun v117 s117 => if v117 = 0 then (some (some (.int (-1)), s117)) else (m_fR s117 10 10 w).bind fun v136 => (m_fR s117 10 0 w).bind fun v140 => m_bI (m_M x k_Weddings_restless [.ref v136, .ref v140, .int n1] s117) fun v144 s144 => some (some (.int v144), s144)) else none := by
  refine e_M1 (L0 := [some (.ref w), some (.int n1), some (.int n2), some (.int n3), some (.int n4), some (.int n5), some (.int n6), some (.int n7), none]) rfl (by decide +kernel) rfl (q_G_unrest _) rfl ?_
  refine e_aload_n i_G_unrest_0 rfl ?_
  refine e_iload_n i_G_unrest_1 rfl ?_
  refine e_callI (as := [.ref w, .int n1]) (st' := []) i_G_unrest_2 lm_165 (Or.inr (Or.inl ⟨rfl, rfl⟩)) w_G_canWed rfl rfl rfl (Nat.le_of_ble_eq_true rfl) (Nat.le_of_ble_eq_true rfl) (m_rlt (q_G_canWed _) (by decide)) rfl (fun v2 s2 => ?_)
  refine e_ifne (t := 10) i_G_unrest_5 (by decide) ?_ ?_
  · refine e_aload_n i_G_unrest_10 rfl ?_
    refine e_getR i_G_unrest_11 lf_60 (by decide) ft_10_10 (fun v11 => ?_)
    refine e_callV (as := [.ref v11]) (st' := []) i_G_unrest_14 lm_166 (Or.inr (Or.inl ⟨rfl, rfl⟩)) w_Weddings_leaveAll rfl rfl rfl (Nat.le_of_ble_eq_true rfl) (Nat.le_of_ble_eq_true rfl) (m_rlt (q_Weddings_leaveAll _) (by decide)) rfl (fun s14 => ?_)
    refine e_aload_n i_G_unrest_17 rfl ?_
    refine e_getR i_G_unrest_18 lf_60 (by decide) ft_10_10 (fun v18 => ?_)
    refine e_aload_n i_G_unrest_21 rfl ?_
    refine e_getR i_G_unrest_22 lf_2 (by decide) ft_10_0 (fun v22 => ?_)
    refine e_iload_n i_G_unrest_25 rfl ?_
    refine e_iconst (v := 0) i_G_unrest_26 (by decide) ?_
    refine e_iload_n i_G_unrest_27 rfl ?_
    refine e_callI (as := [.ref v18, .ref v22, .int n1, .int 0, .int n2]) (st' := []) i_G_unrest_28 lm_167 (Or.inr (Or.inl ⟨rfl, rfl⟩)) w_Weddings_takes rfl rfl rfl (Nat.le_of_ble_eq_true rfl) (Nat.le_of_ble_eq_true rfl) (m_rlt (q_Weddings_takes _) (by decide)) rfl (fun v28 s28 => ?_)
    refine e_ifeq (t := 127) i_G_unrest_31 (by decide) ?_ ?_
    · refine e_iconst (v := 0) i_G_unrest_127 (by decide) ?_
      refine e_istore (L' := [some (.ref w), some (.int n1), some (.int n2), some (.int n3), some (.int n4), some (.int n5), some (.int n6), some (.int n7), some (.int 0)]) i_G_unrest_128 (of_decide_eq_true rfl) rfl ?_
      refine e_iload i_G_unrest_130 rfl ?_
      refine e_ifT (t := 150) i_G_unrest_132 (by decide) (by decide) ?_
      refine e_iconst (v := (-1)) i_G_unrest_150 (by decide) ?_
      exact e_iretI i_G_unrest_151 rfl
    · refine e_aload_n i_G_unrest_34 rfl ?_
      refine e_getR i_G_unrest_35 lf_60 (by decide) ft_10_10 (fun v35 => ?_)
      refine e_aload_n i_G_unrest_38 rfl ?_
      refine e_getR i_G_unrest_39 lf_2 (by decide) ft_10_0 (fun v39 => ?_)
      refine e_iload_n i_G_unrest_42 rfl ?_
      refine e_iconst (v := 1) i_G_unrest_43 (by decide) ?_
      refine e_iload_n i_G_unrest_44 rfl ?_
      refine e_callI (as := [.ref v35, .ref v39, .int n1, .int 1, .int n3]) (st' := []) i_G_unrest_45 lm_167 (Or.inr (Or.inl ⟨rfl, rfl⟩)) w_Weddings_takes rfl rfl rfl (Nat.le_of_ble_eq_true rfl) (Nat.le_of_ble_eq_true rfl) (m_rlt (q_Weddings_takes _) (by decide)) rfl (fun v45 s45 => ?_)
      refine e_ifeq (t := 127) i_G_unrest_48 (by decide) ?_ ?_
      · refine e_iconst (v := 0) i_G_unrest_127 (by decide) ?_
        refine e_istore (L' := [some (.ref w), some (.int n1), some (.int n2), some (.int n3), some (.int n4), some (.int n5), some (.int n6), some (.int n7), some (.int 0)]) i_G_unrest_128 (of_decide_eq_true rfl) rfl ?_
        refine e_iload i_G_unrest_130 rfl ?_
        refine e_ifT (t := 150) i_G_unrest_132 (by decide) (by decide) ?_
        refine e_iconst (v := (-1)) i_G_unrest_150 (by decide) ?_
        exact e_iretI i_G_unrest_151 rfl
      · refine e_aload_n i_G_unrest_51 rfl ?_
        refine e_getR i_G_unrest_52 lf_60 (by decide) ft_10_10 (fun v52 => ?_)
        refine e_aload_n i_G_unrest_55 rfl ?_
        refine e_getR i_G_unrest_56 lf_2 (by decide) ft_10_0 (fun v56 => ?_)
        refine e_iload_n i_G_unrest_59 rfl ?_
        refine e_iconst (v := 2) i_G_unrest_60 (by decide) ?_
        refine e_iload i_G_unrest_61 rfl ?_
        refine e_callI (as := [.ref v52, .ref v56, .int n1, .int 2, .int n4]) (st' := []) i_G_unrest_63 lm_167 (Or.inr (Or.inl ⟨rfl, rfl⟩)) w_Weddings_takes rfl rfl rfl (Nat.le_of_ble_eq_true rfl) (Nat.le_of_ble_eq_true rfl) (m_rlt (q_Weddings_takes _) (by decide)) rfl (fun v63 s63 => ?_)
        refine e_ifeq (t := 127) i_G_unrest_66 (by decide) ?_ ?_
        · refine e_iconst (v := 0) i_G_unrest_127 (by decide) ?_
          refine e_istore (L' := [some (.ref w), some (.int n1), some (.int n2), some (.int n3), some (.int n4), some (.int n5), some (.int n6), some (.int n7), some (.int 0)]) i_G_unrest_128 (of_decide_eq_true rfl) rfl ?_
          refine e_iload i_G_unrest_130 rfl ?_
          refine e_ifT (t := 150) i_G_unrest_132 (by decide) (by decide) ?_
          refine e_iconst (v := (-1)) i_G_unrest_150 (by decide) ?_
          exact e_iretI i_G_unrest_151 rfl
        · refine e_aload_n i_G_unrest_69 rfl ?_
          refine e_getR i_G_unrest_70 lf_60 (by decide) ft_10_10 (fun v70 => ?_)
          refine e_aload_n i_G_unrest_73 rfl ?_
          refine e_getR i_G_unrest_74 lf_2 (by decide) ft_10_0 (fun v74 => ?_)
          refine e_iload_n i_G_unrest_77 rfl ?_
          refine e_iconst (v := 3) i_G_unrest_78 (by decide) ?_
          refine e_iload i_G_unrest_79 rfl ?_
          refine e_callI (as := [.ref v70, .ref v74, .int n1, .int 3, .int n5]) (st' := []) i_G_unrest_81 lm_167 (Or.inr (Or.inl ⟨rfl, rfl⟩)) w_Weddings_takes rfl rfl rfl (Nat.le_of_ble_eq_true rfl) (Nat.le_of_ble_eq_true rfl) (m_rlt (q_Weddings_takes _) (by decide)) rfl (fun v81 s81 => ?_)
          refine e_ifeq (t := 127) i_G_unrest_84 (by decide) ?_ ?_
          · refine e_iconst (v := 0) i_G_unrest_127 (by decide) ?_
            refine e_istore (L' := [some (.ref w), some (.int n1), some (.int n2), some (.int n3), some (.int n4), some (.int n5), some (.int n6), some (.int n7), some (.int 0)]) i_G_unrest_128 (of_decide_eq_true rfl) rfl ?_
            refine e_iload i_G_unrest_130 rfl ?_
            refine e_ifT (t := 150) i_G_unrest_132 (by decide) (by decide) ?_
            refine e_iconst (v := (-1)) i_G_unrest_150 (by decide) ?_
            exact e_iretI i_G_unrest_151 rfl
          · refine e_aload_n i_G_unrest_87 rfl ?_
            refine e_getR i_G_unrest_88 lf_60 (by decide) ft_10_10 (fun v88 => ?_)
            refine e_aload_n i_G_unrest_91 rfl ?_
            refine e_getR i_G_unrest_92 lf_2 (by decide) ft_10_0 (fun v92 => ?_)
            refine e_iload_n i_G_unrest_95 rfl ?_
            refine e_iconst (v := 4) i_G_unrest_96 (by decide) ?_
            refine e_iload i_G_unrest_97 rfl ?_
            refine e_callI (as := [.ref v88, .ref v92, .int n1, .int 4, .int n6]) (st' := []) i_G_unrest_99 lm_167 (Or.inr (Or.inl ⟨rfl, rfl⟩)) w_Weddings_takes rfl rfl rfl (Nat.le_of_ble_eq_true rfl) (Nat.le_of_ble_eq_true rfl) (m_rlt (q_Weddings_takes _) (by decide)) rfl (fun v99 s99 => ?_)
            refine e_ifeq (t := 127) i_G_unrest_102 (by decide) ?_ ?_
            · refine e_iconst (v := 0) i_G_unrest_127 (by decide) ?_
              refine e_istore (L' := [some (.ref w), some (.int n1), some (.int n2), some (.int n3), some (.int n4), some (.int n5), some (.int n6), some (.int n7), some (.int 0)]) i_G_unrest_128 (of_decide_eq_true rfl) rfl ?_
              refine e_iload i_G_unrest_130 rfl ?_
              refine e_ifT (t := 150) i_G_unrest_132 (by decide) (by decide) ?_
              refine e_iconst (v := (-1)) i_G_unrest_150 (by decide) ?_
              exact e_iretI i_G_unrest_151 rfl
            · refine e_aload_n i_G_unrest_105 rfl ?_
              refine e_getR i_G_unrest_106 lf_60 (by decide) ft_10_10 (fun v106 => ?_)
              refine e_aload_n i_G_unrest_109 rfl ?_
              refine e_getR i_G_unrest_110 lf_2 (by decide) ft_10_0 (fun v110 => ?_)
              refine e_iload_n i_G_unrest_113 rfl ?_
              refine e_iconst (v := 5) i_G_unrest_114 (by decide) ?_
              refine e_iload i_G_unrest_115 rfl ?_
              refine e_callI (as := [.ref v106, .ref v110, .int n1, .int 5, .int n7]) (st' := []) i_G_unrest_117 lm_167 (Or.inr (Or.inl ⟨rfl, rfl⟩)) w_Weddings_takes rfl rfl rfl (Nat.le_of_ble_eq_true rfl) (Nat.le_of_ble_eq_true rfl) (m_rlt (q_Weddings_takes _) (by decide)) rfl (fun v117 s117 => ?_)
              refine e_ifeq (t := 127) i_G_unrest_120 (by decide) ?_ ?_
              · refine e_iconst (v := 0) i_G_unrest_127 (by decide) ?_
                refine e_istore (L' := [some (.ref w), some (.int n1), some (.int n2), some (.int n3), some (.int n4), some (.int n5), some (.int n6), some (.int n7), some (.int 0)]) i_G_unrest_128 (of_decide_eq_true rfl) rfl ?_
                refine e_iload i_G_unrest_130 rfl ?_
                refine e_ifT (t := 150) i_G_unrest_132 (by decide) (by decide) ?_
                refine e_iconst (v := (-1)) i_G_unrest_150 (by decide) ?_
                exact e_iretI i_G_unrest_151 rfl
              · refine e_iconst (v := 1) i_G_unrest_123 (by decide) ?_
                refine e_goto (t := 128) i_G_unrest_124 (by decide) ?_
                refine e_istore (L' := [some (.ref w), some (.int n1), some (.int n2), some (.int n3), some (.int n4), some (.int n5), some (.int n6), some (.int n7), some (.int 1)]) i_G_unrest_128 (of_decide_eq_true rfl) rfl ?_
                refine e_iload i_G_unrest_130 rfl ?_
                refine e_ifF i_G_unrest_132 (by decide) ?_
                refine e_aload_n i_G_unrest_135 rfl ?_
                refine e_getR i_G_unrest_136 lf_60 (by decide) ft_10_10 (fun v136 => ?_)
                refine e_aload_n i_G_unrest_139 rfl ?_
                refine e_getR i_G_unrest_140 lf_2 (by decide) ft_10_0 (fun v140 => ?_)
                refine e_iload_n i_G_unrest_143 rfl ?_
                refine e_callI (as := [.ref v136, .ref v140, .int n1]) (st' := []) i_G_unrest_144 lm_168 (Or.inr (Or.inl ⟨rfl, rfl⟩)) w_Weddings_restless rfl rfl rfl (Nat.le_of_ble_eq_true rfl) (Nat.le_of_ble_eq_true rfl) (m_rlt (q_Weddings_restless _) (by decide)) rfl (fun v144 s144 => ?_)
                refine e_goto (t := 151) i_G_unrest_147 (by decide) ?_
                exact e_iretI i_G_unrest_151 rfl
  · refine e_iconst (v := (-1)) i_G_unrest_8 (by decide) ?_
    exact e_iretI i_G_unrest_9 rfl
theorem i_G_weds_0 : m_at k_G_weds 0 = some (.aload_n 0, 1, 0) := m_at_of r_G_weds (by decide +kernel)
theorem i_G_weds_1 : m_at k_G_weds 1 = some (.iload_n 1, 1, 0) := m_at_of r_G_weds (by decide +kernel)
theorem i_G_weds_2 : m_at k_G_weds 2 = some (.invokevirtual 296, 3, 165) := m_at_of r_G_weds (by decide +kernel)
theorem i_G_weds_5 : m_at k_G_weds 5 = some (.ifCond .eq (14), 3, 0) := m_at_of r_G_weds (by decide +kernel)
theorem i_G_weds_8 : m_at k_G_weds 8 = some (.aload_n 0, 1, 0) := m_at_of r_G_weds (by decide +kernel)
theorem i_G_weds_9 : m_at k_G_weds 9 = some (.getfield 10, 3, 2) := m_at_of r_G_weds (by decide +kernel)
theorem i_G_weds_12 : m_at k_G_weds 12 = some (.iload_n 2, 1, 0) := m_at_of r_G_weds (by decide +kernel)
theorem i_G_weds_13 : m_at k_G_weds 13 = some (.invokevirtual 208, 3, 113) := m_at_of r_G_weds (by decide +kernel)
theorem i_G_weds_16 : m_at k_G_weds 16 = some (.ifCond .ne (5), 3, 0) := m_at_of r_G_weds (by decide +kernel)
theorem i_G_weds_19 : m_at k_G_weds 19 = some (.iconst (-1), 1, 0) := m_at_of r_G_weds (by decide +kernel)
theorem i_G_weds_20 : m_at k_G_weds 20 = some (.ireturn, 1, 0) := m_at_of r_G_weds (by decide +kernel)
theorem i_G_weds_21 : m_at k_G_weds 21 = some (.aload_n 0, 1, 0) := m_at_of r_G_weds (by decide +kernel)
theorem i_G_weds_22 : m_at k_G_weds 22 = some (.getfield 66, 3, 60) := m_at_of r_G_weds (by decide +kernel)
theorem i_G_weds_25 : m_at k_G_weds 25 = some (.aload_n 0, 1, 0) := m_at_of r_G_weds (by decide +kernel)
theorem i_G_weds_26 : m_at k_G_weds 26 = some (.getfield 10, 3, 2) := m_at_of r_G_weds (by decide +kernel)
theorem i_G_weds_29 : m_at k_G_weds 29 = some (.iload_n 1, 1, 0) := m_at_of r_G_weds (by decide +kernel)
theorem i_G_weds_30 : m_at k_G_weds 30 = some (.invokevirtual 299, 3, 176) := m_at_of r_G_weds (by decide +kernel)
theorem i_G_weds_33 : m_at k_G_weds 33 = some (.aload_n 0, 1, 0) := m_at_of r_G_weds (by decide +kernel)
theorem i_G_weds_34 : m_at k_G_weds 34 = some (.getfield 66, 3, 60) := m_at_of r_G_weds (by decide +kernel)
theorem i_G_weds_37 : m_at k_G_weds 37 = some (.iload_n 2, 1, 0) := m_at_of r_G_weds (by decide +kernel)
theorem i_G_weds_38 : m_at k_G_weds 38 = some (.invokevirtual 303, 3, 177) := m_at_of r_G_weds (by decide +kernel)
theorem i_G_weds_41 : m_at k_G_weds 41 = some (.ireturn, 1, 0) := m_at_of r_G_weds (by decide +kernel)
set_option maxRecDepth 20000 in
set_option maxHeartbeats 1000000 in
theorem E_G_weds (x : m_X) (s : m_H) (w : Nat) (n1 : Int32) (n2 : Int32) : m_M x k_G_weds [.ref w, .int n1, .int n2] s = if m_isO s w 10 = true then (m_bI (m_M x k_G_canWed [.ref w, .int n1] s) fun v2 s2 => if v2 = 0 then (some (some (.int (-1)), s2)) else (m_fR s2 10 0 w).bind fun v9 => m_bI (m_M x k_World_hasOne [.ref v9, .int n2] s2) fun v13 s13 => if v13 = 0 then (some (some (.int (-1)), s13)) else (m_fR s13 10 10 w).bind fun v22 => (m_fR s13 10 0 w).bind fun v26 => m_bV (m_M x k_Weddings_wedAll [.ref v22, .ref v26, .int n1] s13) fun s30 => (m_fR s30 10 10 w).bind fun v34 => m_bI (m_M x k_Weddings_mateOf [.ref v34, .int n2] s30) fun v38 s38 => some (some (.int v38), s38)) else none := by
  refine e_M1 (L0 := [some (.ref w), some (.int n1), some (.int n2)]) rfl (by decide +kernel) rfl (q_G_weds _) rfl ?_
  refine e_aload_n i_G_weds_0 rfl ?_
  refine e_iload_n i_G_weds_1 rfl ?_
  refine e_callI (as := [.ref w, .int n1]) (st' := []) i_G_weds_2 lm_165 (Or.inr (Or.inl ⟨rfl, rfl⟩)) w_G_canWed rfl rfl rfl (Nat.le_of_ble_eq_true rfl) (Nat.le_of_ble_eq_true rfl) (m_rlt (q_G_canWed _) (by decide)) rfl (fun v2 s2 => ?_)
  refine e_ifeq (t := 19) i_G_weds_5 (by decide) ?_ ?_
  · refine e_iconst (v := (-1)) i_G_weds_19 (by decide) ?_
    exact e_iretI i_G_weds_20 rfl
  · refine e_aload_n i_G_weds_8 rfl ?_
    refine e_getR i_G_weds_9 lf_2 (by decide) ft_10_0 (fun v9 => ?_)
    refine e_iload_n i_G_weds_12 rfl ?_
    refine e_callI (as := [.ref v9, .int n2]) (st' := []) i_G_weds_13 lm_113 (Or.inr (Or.inl ⟨rfl, rfl⟩)) w_World_hasOne rfl rfl rfl (Nat.le_of_ble_eq_true rfl) (Nat.le_of_ble_eq_true rfl) (m_rlt (q_World_hasOne _) (by decide)) rfl (fun v13 s13 => ?_)
    refine e_ifne (t := 21) i_G_weds_16 (by decide) ?_ ?_
    · refine e_aload_n i_G_weds_21 rfl ?_
      refine e_getR i_G_weds_22 lf_60 (by decide) ft_10_10 (fun v22 => ?_)
      refine e_aload_n i_G_weds_25 rfl ?_
      refine e_getR i_G_weds_26 lf_2 (by decide) ft_10_0 (fun v26 => ?_)
      refine e_iload_n i_G_weds_29 rfl ?_
      refine e_callV (as := [.ref v22, .ref v26, .int n1]) (st' := []) i_G_weds_30 lm_176 (Or.inr (Or.inl ⟨rfl, rfl⟩)) w_Weddings_wedAll rfl rfl rfl (Nat.le_of_ble_eq_true rfl) (Nat.le_of_ble_eq_true rfl) (m_rlt (q_Weddings_wedAll _) (by decide)) rfl (fun s30 => ?_)
      refine e_aload_n i_G_weds_33 rfl ?_
      refine e_getR i_G_weds_34 lf_60 (by decide) ft_10_10 (fun v34 => ?_)
      refine e_iload_n i_G_weds_37 rfl ?_
      refine e_callI (as := [.ref v34, .int n2]) (st' := []) i_G_weds_38 lm_177 (Or.inr (Or.inl ⟨rfl, rfl⟩)) w_Weddings_mateOf rfl rfl rfl (Nat.le_of_ble_eq_true rfl) (Nat.le_of_ble_eq_true rfl) (m_rlt (q_Weddings_mateOf _) (by decide)) rfl (fun v38 s38 => ?_)
      exact e_iretI i_G_weds_41 rfl
    · refine e_iconst (v := (-1)) i_G_weds_19 (by decide) ?_
      exact e_iretI i_G_weds_20 rfl
theorem i_G_canWed_0 : m_at k_G_canWed 0 = some (.iload_n 1, 1, 0) := m_at_of r_G_canWed (by decide +kernel)
theorem i_G_canWed_1 : m_at k_G_canWed 1 = some (.iconst 1, 1, 0) := m_at_of r_G_canWed (by decide +kernel)
theorem i_G_canWed_2 : m_at k_G_canWed 2 = some (.bipush 6, 2, 0) := m_at_of r_G_canWed (by decide +kernel)
theorem i_G_canWed_4 : m_at k_G_canWed 4 = some (.invokestatic 100, 3, 124) := m_at_of r_G_canWed (by decide +kernel)
theorem i_G_canWed_7 : m_at k_G_canWed 7 = some (.ifCond .eq (20), 3, 0) := m_at_of r_G_canWed (by decide +kernel)
theorem i_G_canWed_10 : m_at k_G_canWed 10 = some (.aload_n 0, 1, 0) := m_at_of r_G_canWed (by decide +kernel)
theorem i_G_canWed_11 : m_at k_G_canWed 11 = some (.getfield 10, 3, 2) := m_at_of r_G_canWed (by decide +kernel)
theorem i_G_canWed_14 : m_at k_G_canWed 14 = some (.getfield 170, 3, 3) := m_at_of r_G_canWed (by decide +kernel)
theorem i_G_canWed_17 : m_at k_G_canWed 17 = some (.iconst 0, 1, 0) := m_at_of r_G_canWed (by decide +kernel)
theorem i_G_canWed_18 : m_at k_G_canWed 18 = some (.iaload, 1, 0) := m_at_of r_G_canWed (by decide +kernel)
theorem i_G_canWed_19 : m_at k_G_canWed 19 = some (.iload_n 1, 1, 0) := m_at_of r_G_canWed (by decide +kernel)
theorem i_G_canWed_20 : m_at k_G_canWed 20 = some (.if_icmp .le (7), 3, 0) := m_at_of r_G_canWed (by decide +kernel)
theorem i_G_canWed_23 : m_at k_G_canWed 23 = some (.iconst 1, 1, 0) := m_at_of r_G_canWed (by decide +kernel)
theorem i_G_canWed_24 : m_at k_G_canWed 24 = some (.goto (4), 3, 0) := m_at_of r_G_canWed (by decide +kernel)
theorem i_G_canWed_27 : m_at k_G_canWed 27 = some (.iconst 0, 1, 0) := m_at_of r_G_canWed (by decide +kernel)
theorem i_G_canWed_28 : m_at k_G_canWed 28 = some (.ireturn, 1, 0) := m_at_of r_G_canWed (by decide +kernel)
set_option maxRecDepth 20000 in
set_option maxHeartbeats 1000000 in
theorem E_G_canWed (x : m_X) (s : m_H) (w : Nat) (n1 : Int32) : m_M x k_G_canWed [.ref w, .int n1] s = if m_isO s w 10 = true then (m_bI (m_M x k_G_isIn [.int n1, .int 1, .int 6] s) fun v4 s4 => if v4 = 0 then (some (some (.int 0), s4)) else (m_fR s4 10 0 w).bind fun v11 => (m_fR s4 9 0 v11).bind fun v14 => (m_ia x s4 v14 0).bind fun v18 => if v18 ≤ n1 then (some (some (.int 0), s4)) else some (some (.int 1), s4)) else none := by
  refine e_M1 (L0 := [some (.ref w), some (.int n1)]) rfl (by decide +kernel) rfl (q_G_canWed _) rfl ?_
  refine e_iload_n i_G_canWed_0 rfl ?_
  refine e_iconst (v := 1) i_G_canWed_1 (by decide) ?_
  refine e_bipush (v := 6) i_G_canWed_2 (by decide) ?_
  refine e_callI (as := [.int n1, .int 1, .int 6]) (st' := []) i_G_canWed_4 lm_124 (Or.inl ⟨rfl, rfl⟩) w_G_isIn rfl rfl rfl (Nat.le_of_ble_eq_true rfl) (Nat.le_of_ble_eq_true rfl) (m_rlt (q_G_isIn _) (by decide)) rfl (fun v4 s4 => ?_)
  refine e_ifeq (t := 27) i_G_canWed_7 (by decide) ?_ ?_
  · refine e_iconst (v := 0) i_G_canWed_27 (by decide) ?_
    exact e_iretZ i_G_canWed_28 rfl (by decide)
  · refine e_aload_n i_G_canWed_10 rfl ?_
    refine e_getR i_G_canWed_11 lf_2 (by decide) ft_10_0 (fun v11 => ?_)
    refine e_getR i_G_canWed_14 lf_3 (by decide) ft_9_0 (fun v14 => ?_)
    refine e_iconst (v := 0) i_G_canWed_17 (by decide) ?_
    refine e_iald i_G_canWed_18 (fun v18 => ?_)
    refine e_iload_n i_G_canWed_19 rfl ?_
    refine e_icmple (t := 27) i_G_canWed_20 (by decide) ?_ ?_
    · refine e_iconst (v := 0) i_G_canWed_27 (by decide) ?_
      exact e_iretZ i_G_canWed_28 rfl (by decide)
    · refine e_iconst (v := 1) i_G_canWed_23 (by decide) ?_
      refine e_goto (t := 28) i_G_canWed_24 (by decide) ?_
      exact e_iretZ i_G_canWed_28 rfl (by decide)
theorem i_G_tries_0 : m_at k_G_tries 0 = some (.iconst 1, 1, 0) := m_at_of r_G_tries (by decide +kernel)
theorem i_G_tries_1 : m_at k_G_tries 1 = some (.aload_n 0, 1, 0) := m_at_of r_G_tries (by decide +kernel)
theorem i_G_tries_2 : m_at k_G_tries 2 = some (.getfield 10, 3, 2) := m_at_of r_G_tries (by decide +kernel)
theorem i_G_tries_5 : m_at k_G_tries 5 = some (.getfield 170, 3, 3) := m_at_of r_G_tries (by decide +kernel)
theorem i_G_tries_8 : m_at k_G_tries 8 = some (.iconst 0, 1, 0) := m_at_of r_G_tries (by decide +kernel)
theorem i_G_tries_9 : m_at k_G_tries 9 = some (.iaload, 1, 0) := m_at_of r_G_tries (by decide +kernel)
theorem i_G_tries_10 : m_at k_G_tries 10 = some (.ishl, 1, 0) := m_at_of r_G_tries (by decide +kernel)
theorem i_G_tries_11 : m_at k_G_tries 11 = some (.iconst 1, 1, 0) := m_at_of r_G_tries (by decide +kernel)
theorem i_G_tries_12 : m_at k_G_tries 12 = some (.isub, 1, 0) := m_at_of r_G_tries (by decide +kernel)
theorem i_G_tries_13 : m_at k_G_tries 13 = some (.istore_n 3, 1, 0) := m_at_of r_G_tries (by decide +kernel)
theorem i_G_tries_14 : m_at k_G_tries 14 = some (.iload_n 1, 1, 0) := m_at_of r_G_tries (by decide +kernel)
theorem i_G_tries_15 : m_at k_G_tries 15 = some (.ifCond .le (11), 3, 0) := m_at_of r_G_tries (by decide +kernel)
theorem i_G_tries_18 : m_at k_G_tries 18 = some (.iload_n 1, 1, 0) := m_at_of r_G_tries (by decide +kernel)
theorem i_G_tries_19 : m_at k_G_tries 19 = some (.iload_n 3, 1, 0) := m_at_of r_G_tries (by decide +kernel)
theorem i_G_tries_20 : m_at k_G_tries 20 = some (.iconst (-1), 1, 0) := m_at_of r_G_tries (by decide +kernel)
theorem i_G_tries_21 : m_at k_G_tries 21 = some (.ixor, 1, 0) := m_at_of r_G_tries (by decide +kernel)
theorem i_G_tries_22 : m_at k_G_tries 22 = some (.iand, 1, 0) := m_at_of r_G_tries (by decide +kernel)
theorem i_G_tries_23 : m_at k_G_tries 23 = some (.ifCond .eq (6), 3, 0) := m_at_of r_G_tries (by decide +kernel)
theorem i_G_tries_26 : m_at k_G_tries 26 = some (.bipush (-2), 2, 0) := m_at_of r_G_tries (by decide +kernel)
theorem i_G_tries_28 : m_at k_G_tries 28 = some (.ireturn, 1, 0) := m_at_of r_G_tries (by decide +kernel)
theorem i_G_tries_29 : m_at k_G_tries 29 = some (.aload_n 0, 1, 0) := m_at_of r_G_tries (by decide +kernel)
theorem i_G_tries_30 : m_at k_G_tries 30 = some (.getfield 80, 3, 43) := m_at_of r_G_tries (by decide +kernel)
theorem i_G_tries_33 : m_at k_G_tries 33 = some (.aload_n 0, 1, 0) := m_at_of r_G_tries (by decide +kernel)
theorem i_G_tries_34 : m_at k_G_tries 34 = some (.getfield 26, 3, 4) := m_at_of r_G_tries (by decide +kernel)
theorem i_G_tries_37 : m_at k_G_tries 37 = some (.getfield 282, 3, 9) := m_at_of r_G_tries (by decide +kernel)
theorem i_G_tries_40 : m_at k_G_tries 40 = some (.iload_n 1, 1, 0) := m_at_of r_G_tries (by decide +kernel)
theorem i_G_tries_41 : m_at k_G_tries 41 = some (.invokevirtual 289, 3, 186) := m_at_of r_G_tries (by decide +kernel)
theorem i_G_tries_44 : m_at k_G_tries 44 = some (.istore 4, 2, 0) := m_at_of r_G_tries (by decide +kernel)
theorem i_G_tries_46 : m_at k_G_tries 46 = some (.iload 4, 2, 0) := m_at_of r_G_tries (by decide +kernel)
theorem i_G_tries_48 : m_at k_G_tries 48 = some (.sipush 1000, 3, 0) := m_at_of r_G_tries (by decide +kernel)
theorem i_G_tries_51 : m_at k_G_tries 51 = some (.if_icmp .ne (6), 3, 0) := m_at_of r_G_tries (by decide +kernel)
theorem i_G_tries_54 : m_at k_G_tries 54 = some (.bipush (-2), 2, 0) := m_at_of r_G_tries (by decide +kernel)
theorem i_G_tries_56 : m_at k_G_tries 56 = some (.ireturn, 1, 0) := m_at_of r_G_tries (by decide +kernel)
theorem i_G_tries_57 : m_at k_G_tries 57 = some (.iload_n 2, 1, 0) := m_at_of r_G_tries (by decide +kernel)
theorem i_G_tries_58 : m_at k_G_tries 58 = some (.ifCond .eq (13), 3, 0) := m_at_of r_G_tries (by decide +kernel)
theorem i_G_tries_61 : m_at k_G_tries 61 = some (.aload_n 0, 1, 0) := m_at_of r_G_tries (by decide +kernel)
theorem i_G_tries_62 : m_at k_G_tries 62 = some (.getfield 80, 3, 43) := m_at_of r_G_tries (by decide +kernel)
theorem i_G_tries_65 : m_at k_G_tries 65 = some (.getfield 293, 3, 67) := m_at_of r_G_tries (by decide +kernel)
theorem i_G_tries_68 : m_at k_G_tries 68 = some (.goto (5), 3, 0) := m_at_of r_G_tries (by decide +kernel)
theorem i_G_tries_71 : m_at k_G_tries 71 = some (.iload 4, 2, 0) := m_at_of r_G_tries (by decide +kernel)
theorem i_G_tries_73 : m_at k_G_tries 73 = some (.ireturn, 1, 0) := m_at_of r_G_tries (by decide +kernel)
set_option maxRecDepth 20000 in
set_option maxHeartbeats 1000000 in
theorem E_G_tries (x : m_X) (s : m_H) (w : Nat) (n1 : Int32) (n2 : Int32) : m_M x k_G_tries [.ref w, .int n1, .int n2] s = if m_isO s w 10 = true then ((m_fR s 10 0 w).bind fun v2 => (m_fR s 9 0 v2).bind fun v5 => (m_ia x s v5 0).bind fun v9 => if n1 ≤ 0 then (some (some (.int (-2)), s)) else if (n1 &&& ((((1 : Int32) <<< (v9 &&& (31 : Int32))) - (1 : Int32)) ^^^ (-1 : Int32))) = 0 then ((m_fR s 10 12 w).bind fun v30 => (m_fR s 10 2 w).bind fun v34 => (m_fR s 7 1 v34).bind fun v37 => m_bI (m_M x k_Puzzles_fewestTries [.ref v30, .ref v37, .int n1] s) fun v41 s41 => if v41 = 1000 then (some (some (.int (-2)), s41)) else if n2 = 0 then (some (some (.int v41), s41)) else (m_fR s41 10 12 w).bind fun v62 => (m_fI s41 2 0 v62).bind fun v65 => some (some (.int v65), s41)) else some (some (.int (-2)), s)) else none := by
  refine e_M1 (L0 := [some (.ref w), some (.int n1), some (.int n2), none, none]) rfl (by decide +kernel) rfl (q_G_tries _) rfl ?_
  refine e_iconst (v := 1) i_G_tries_0 (by decide) ?_
  refine e_aload_n i_G_tries_1 rfl ?_
  refine e_getR i_G_tries_2 lf_2 (by decide) ft_10_0 (fun v2 => ?_)
  refine e_getR i_G_tries_5 lf_3 (by decide) ft_9_0 (fun v5 => ?_)
  refine e_iconst (v := 0) i_G_tries_8 (by decide) ?_
  refine e_iald i_G_tries_9 (fun v9 => ?_)
  refine e_ishl i_G_tries_10 ?_
  refine e_iconst (v := 1) i_G_tries_11 (by decide) ?_
  refine e_isub i_G_tries_12 ?_
  refine e_istore_n (L' := [some (.ref w), some (.int n1), some (.int n2), some (.int (((1 : Int32) <<< (v9 &&& (31 : Int32))) - (1 : Int32))), none]) i_G_tries_13 (of_decide_eq_true rfl) rfl ?_
  refine e_iload_n i_G_tries_14 rfl ?_
  refine e_ifle (t := 26) i_G_tries_15 (by decide) ?_ ?_
  · refine e_bipush (v := (-2)) i_G_tries_26 (by decide) ?_
    exact e_iretI i_G_tries_28 rfl
  · refine e_iload_n i_G_tries_18 rfl ?_
    refine e_iload_n i_G_tries_19 rfl ?_
    refine e_iconst (v := (-1)) i_G_tries_20 (by decide) ?_
    refine e_ixor i_G_tries_21 ?_
    refine e_iand i_G_tries_22 ?_
    refine e_ifeq (t := 29) i_G_tries_23 (by decide) ?_ ?_
    · refine e_aload_n i_G_tries_29 rfl ?_
      refine e_getR i_G_tries_30 lf_43 (by decide) ft_10_12 (fun v30 => ?_)
      refine e_aload_n i_G_tries_33 rfl ?_
      refine e_getR i_G_tries_34 lf_4 (by decide) ft_10_2 (fun v34 => ?_)
      refine e_getR i_G_tries_37 lf_9 (by decide) ft_7_1 (fun v37 => ?_)
      refine e_iload_n i_G_tries_40 rfl ?_
      refine e_callI (as := [.ref v30, .ref v37, .int n1]) (st' := []) i_G_tries_41 lm_186 (Or.inr (Or.inl ⟨rfl, rfl⟩)) w_Puzzles_fewestTries rfl rfl rfl (Nat.le_of_ble_eq_true rfl) (Nat.le_of_ble_eq_true rfl) (m_rlt (q_Puzzles_fewestTries _) (by decide)) rfl (fun v41 s41 => ?_)
      refine e_istore (L' := [some (.ref w), some (.int n1), some (.int n2), some (.int (((1 : Int32) <<< (v9 &&& (31 : Int32))) - (1 : Int32))), some (.int v41)]) i_G_tries_44 (of_decide_eq_true rfl) rfl ?_
      refine e_iload i_G_tries_46 rfl ?_
      refine e_sipush (v := 1000) i_G_tries_48 (by decide) ?_
      refine e_icmpne (t := 57) i_G_tries_51 (by decide) ?_ ?_
      · refine e_iload_n i_G_tries_57 rfl ?_
        refine e_ifeq (t := 71) i_G_tries_58 (by decide) ?_ ?_
        · refine e_iload i_G_tries_71 rfl ?_
          exact e_iretI i_G_tries_73 rfl
        · refine e_aload_n i_G_tries_61 rfl ?_
          refine e_getR i_G_tries_62 lf_43 (by decide) ft_10_12 (fun v62 => ?_)
          refine e_getI i_G_tries_65 lf_67 (by decide) (Or.inl ft_2_0) (fun v65 => ?_)
          refine e_goto (t := 73) i_G_tries_68 (by decide) ?_
          exact e_iretI i_G_tries_73 rfl
      · refine e_bipush (v := (-2)) i_G_tries_54 (by decide) ?_
        exact e_iretI i_G_tries_56 rfl
    · refine e_bipush (v := (-2)) i_G_tries_26 (by decide) ?_
      exact e_iretI i_G_tries_28 rfl
theorem i_G_test_0 : m_at k_G_test 0 = some (.aload_n 0, 1, 0) := m_at_of r_G_test (by decide +kernel)
theorem i_G_test_1 : m_at k_G_test 1 = some (.getfield 26, 3, 4) := m_at_of r_G_test (by decide +kernel)
theorem i_G_test_4 : m_at k_G_test 4 = some (.getfield 282, 3, 9) := m_at_of r_G_test (by decide +kernel)
theorem i_G_test_7 : m_at k_G_test 7 = some (.iload_n 1, 1, 0) := m_at_of r_G_test (by decide +kernel)
theorem i_G_test_8 : m_at k_G_test 8 = some (.bipush 127, 2, 0) := m_at_of r_G_test (by decide +kernel)
theorem i_G_test_10 : m_at k_G_test 10 = some (.invokestatic 285, 3, 160) := m_at_of r_G_test (by decide +kernel)
theorem i_G_test_13 : m_at k_G_test 13 = some (.ireturn, 1, 0) := m_at_of r_G_test (by decide +kernel)
set_option maxRecDepth 20000 in
set_option maxHeartbeats 1000000 in
theorem E_G_test (x : m_X) (s : m_H) (w : Nat) (n1 : Int32) : m_M x k_G_test [.ref w, .int n1] s = if m_isO s w 10 = true then ((m_fR s 10 2 w).bind fun v1 => (m_fR s 7 1 v1).bind fun v4 => m_bI (m_M x k_G_toldInto [.ref v4, .int n1, .int 127] s) fun v10 s10 => some (some (.int v10), s10)) else none := by
  refine e_M1 (L0 := [some (.ref w), some (.int n1)]) rfl (by decide +kernel) rfl (q_G_test _) rfl ?_
  refine e_aload_n i_G_test_0 rfl ?_
  refine e_getR i_G_test_1 lf_4 (by decide) ft_10_2 (fun v1 => ?_)
  refine e_getR i_G_test_4 lf_9 (by decide) ft_7_1 (fun v4 => ?_)
  refine e_iload_n i_G_test_7 rfl ?_
  refine e_bipush (v := 127) i_G_test_8 (by decide) ?_
  refine e_callI (as := [.ref v4, .int n1, .int 127]) (st' := []) i_G_test_10 lm_160 (Or.inl ⟨rfl, rfl⟩) w_G_toldInto rfl rfl rfl (Nat.le_of_ble_eq_true rfl) (Nat.le_of_ble_eq_true rfl) (m_rlt (q_G_toldInto _) (by decide)) rfl (fun v10 s10 => ?_)
  exact e_iretI i_G_test_13 rfl
theorem i_G_toldInto_0 : m_at k_G_toldInto 0 = some (.iload_n 1, 1, 0) := m_at_of r_G_toldInto (by decide +kernel)
theorem i_G_toldInto_1 : m_at k_G_toldInto 1 = some (.iconst (-1), 1, 0) := m_at_of r_G_toldInto (by decide +kernel)
theorem i_G_toldInto_2 : m_at k_G_toldInto 2 = some (.if_icmp .ne (9), 3, 0) := m_at_of r_G_toldInto (by decide +kernel)
theorem i_G_toldInto_5 : m_at k_G_toldInto 5 = some (.aload_n 0, 1, 0) := m_at_of r_G_toldInto (by decide +kernel)
theorem i_G_toldInto_6 : m_at k_G_toldInto 6 = some (.invokevirtual 342, 3, 123) := m_at_of r_G_toldInto (by decide +kernel)
theorem i_G_toldInto_9 : m_at k_G_toldInto 9 = some (.iconst 0, 1, 0) := m_at_of r_G_toldInto (by decide +kernel)
theorem i_G_toldInto_10 : m_at k_G_toldInto 10 = some (.ireturn, 1, 0) := m_at_of r_G_toldInto (by decide +kernel)
theorem i_G_toldInto_11 : m_at k_G_toldInto 11 = some (.iload_n 1, 1, 0) := m_at_of r_G_toldInto (by decide +kernel)
theorem i_G_toldInto_12 : m_at k_G_toldInto 12 = some (.iconst 0, 1, 0) := m_at_of r_G_toldInto (by decide +kernel)
theorem i_G_toldInto_13 : m_at k_G_toldInto 13 = some (.iload_n 2, 1, 0) := m_at_of r_G_toldInto (by decide +kernel)
theorem i_G_toldInto_14 : m_at k_G_toldInto 14 = some (.invokestatic 100, 3, 124) := m_at_of r_G_toldInto (by decide +kernel)
theorem i_G_toldInto_17 : m_at k_G_toldInto 17 = some (.ifCond .eq (18), 3, 0) := m_at_of r_G_toldInto (by decide +kernel)
theorem i_G_toldInto_20 : m_at k_G_toldInto 20 = some (.aload_n 0, 1, 0) := m_at_of r_G_toldInto (by decide +kernel)
theorem i_G_toldInto_21 : m_at k_G_toldInto 21 = some (.iload_n 1, 1, 0) := m_at_of r_G_toldInto (by decide +kernel)
theorem i_G_toldInto_22 : m_at k_G_toldInto 22 = some (.invokevirtual 348, 3, 125) := m_at_of r_G_toldInto (by decide +kernel)
theorem i_G_toldInto_25 : m_at k_G_toldInto 25 = some (.ifCond .eq (10), 3, 0) := m_at_of r_G_toldInto (by decide +kernel)
theorem i_G_toldInto_28 : m_at k_G_toldInto 28 = some (.aload_n 0, 1, 0) := m_at_of r_G_toldInto (by decide +kernel)
theorem i_G_toldInto_29 : m_at k_G_toldInto 29 = some (.getfield 275, 3, 10) := m_at_of r_G_toldInto (by decide +kernel)
theorem i_G_toldInto_32 : m_at k_G_toldInto 32 = some (.goto (5), 3, 0) := m_at_of r_G_toldInto (by decide +kernel)
theorem i_G_toldInto_35 : m_at k_G_toldInto 35 = some (.bipush (-2), 2, 0) := m_at_of r_G_toldInto (by decide +kernel)
theorem i_G_toldInto_37 : m_at k_G_toldInto 37 = some (.ireturn, 1, 0) := m_at_of r_G_toldInto (by decide +kernel)
set_option maxRecDepth 20000 in
set_option maxHeartbeats 1000000 in
theorem E_G_toldInto (x : m_X) (s : m_H) (r0 : Nat) (n1 : Int32) (n2 : Int32) : m_M x k_G_toldInto [.ref r0, .int n1, .int n2] s = if n1 = (-1) then (m_bV (m_M x k_Row_empty [.ref r0] s) fun s6 => some (some (.int 0), s6)) else m_bI (m_M x k_G_isIn [.int n1, .int 0, .int n2] s) fun v14 s14 => if v14 = 0 then (some (some (.int (-2)), s14)) else m_bI (m_M x k_Row_put [.ref r0, .int n1] s14) fun v22 s22 => if v22 = 0 then (some (some (.int (-2)), s22)) else (m_fI s22 4 1 r0).bind fun v29 => some (some (.int v29), s22) := by
  refine e_M0 (L0 := [some (.ref r0), some (.int n1), some (.int n2)]) rfl (q_G_toldInto _) rfl ?_
  refine e_iload_n i_G_toldInto_0 rfl ?_
  refine e_iconst (v := (-1)) i_G_toldInto_1 (by decide) ?_
  refine e_icmpne (t := 11) i_G_toldInto_2 (by decide) ?_ ?_
  · refine e_iload_n i_G_toldInto_11 rfl ?_
    refine e_iconst (v := 0) i_G_toldInto_12 (by decide) ?_
    refine e_iload_n i_G_toldInto_13 rfl ?_
    refine e_callI (as := [.int n1, .int 0, .int n2]) (st' := []) i_G_toldInto_14 lm_124 (Or.inl ⟨rfl, rfl⟩) w_G_isIn rfl rfl rfl (Nat.le_of_ble_eq_true rfl) (Nat.le_of_ble_eq_true rfl) (m_rlt (q_G_isIn _) (by decide)) rfl (fun v14 s14 => ?_)
    refine e_ifeq (t := 35) i_G_toldInto_17 (by decide) ?_ ?_
    · refine e_bipush (v := (-2)) i_G_toldInto_35 (by decide) ?_
      exact e_iretI i_G_toldInto_37 rfl
    · refine e_aload_n i_G_toldInto_20 rfl ?_
      refine e_iload_n i_G_toldInto_21 rfl ?_
      refine e_callI (as := [.ref r0, .int n1]) (st' := []) i_G_toldInto_22 lm_125 (Or.inr (Or.inl ⟨rfl, rfl⟩)) w_Row_put rfl rfl rfl (Nat.le_of_ble_eq_true rfl) (Nat.le_of_ble_eq_true rfl) (m_rlt (q_Row_put _) (by decide)) rfl (fun v22 s22 => ?_)
      refine e_ifeq (t := 35) i_G_toldInto_25 (by decide) ?_ ?_
      · refine e_bipush (v := (-2)) i_G_toldInto_35 (by decide) ?_
        exact e_iretI i_G_toldInto_37 rfl
      · refine e_aload_n i_G_toldInto_28 rfl ?_
        refine e_getI i_G_toldInto_29 lf_10 (by decide) (Or.inl ft_4_1) (fun v29 => ?_)
        refine e_goto (t := 37) i_G_toldInto_32 (by decide) ?_
        exact e_iretI i_G_toldInto_37 rfl
  · refine e_aload_n i_G_toldInto_5 rfl ?_
    refine e_callV (as := [.ref r0]) (st' := []) i_G_toldInto_6 lm_123 (Or.inr (Or.inl ⟨rfl, rfl⟩)) w_Row_empty rfl rfl rfl (Nat.le_of_ble_eq_true rfl) (Nat.le_of_ble_eq_true rfl) (m_rlt (q_Row_empty _) (by decide)) rfl (fun s6 => ?_)
    refine e_iconst (v := 0) i_G_toldInto_9 (by decide) ?_
    exact e_iretI i_G_toldInto_10 rfl
theorem i_G_whose_0 : m_at k_G_whose 0 = some (.iload_n 1, 1, 0) := m_at_of r_G_whose (by decide +kernel)
theorem i_G_whose_1 : m_at k_G_whose 1 = some (.iconst 1, 1, 0) := m_at_of r_G_whose (by decide +kernel)
theorem i_G_whose_2 : m_at k_G_whose 2 = some (.bipush 9, 2, 0) := m_at_of r_G_whose (by decide +kernel)
theorem i_G_whose_4 : m_at k_G_whose 4 = some (.invokestatic 100, 3, 124) := m_at_of r_G_whose (by decide +kernel)
theorem i_G_whose_7 : m_at k_G_whose 7 = some (.ifCond .eq (13), 3, 0) := m_at_of r_G_whose (by decide +kernel)
theorem i_G_whose_10 : m_at k_G_whose 10 = some (.iload_n 2, 1, 0) := m_at_of r_G_whose (by decide +kernel)
theorem i_G_whose_11 : m_at k_G_whose 11 = some (.iconst 0, 1, 0) := m_at_of r_G_whose (by decide +kernel)
theorem i_G_whose_12 : m_at k_G_whose 12 = some (.bipush 8, 2, 0) := m_at_of r_G_whose (by decide +kernel)
theorem i_G_whose_14 : m_at k_G_whose 14 = some (.invokestatic 100, 3, 124) := m_at_of r_G_whose (by decide +kernel)
theorem i_G_whose_17 : m_at k_G_whose 17 = some (.ifCond .ne (5), 3, 0) := m_at_of r_G_whose (by decide +kernel)
theorem i_G_whose_20 : m_at k_G_whose 20 = some (.iconst (-1), 1, 0) := m_at_of r_G_whose (by decide +kernel)
theorem i_G_whose_21 : m_at k_G_whose 21 = some (.ireturn, 1, 0) := m_at_of r_G_whose (by decide +kernel)
theorem i_G_whose_22 : m_at k_G_whose 22 = some (.aload_n 0, 1, 0) := m_at_of r_G_whose (by decide +kernel)
theorem i_G_whose_23 : m_at k_G_whose 23 = some (.getfield 10, 3, 2) := m_at_of r_G_whose (by decide +kernel)
theorem i_G_whose_26 : m_at k_G_whose 26 = some (.iload_n 1, 1, 0) := m_at_of r_G_whose (by decide +kernel)
theorem i_G_whose_27 : m_at k_G_whose 27 = some (.iload_n 2, 1, 0) := m_at_of r_G_whose (by decide +kernel)
theorem i_G_whose_28 : m_at k_G_whose 28 = some (.invokevirtual 279, 3, 189) := m_at_of r_G_whose (by decide +kernel)
theorem i_G_whose_31 : m_at k_G_whose 31 = some (.ireturn, 1, 0) := m_at_of r_G_whose (by decide +kernel)
set_option maxRecDepth 20000 in
set_option maxHeartbeats 1000000 in
theorem E_G_whose (x : m_X) (s : m_H) (w : Nat) (n1 : Int32) (n2 : Int32) : m_M x k_G_whose [.ref w, .int n1, .int n2] s = if m_isO s w 10 = true then (m_bI (m_M x k_G_isIn [.int n1, .int 1, .int 9] s) fun v4 s4 => if v4 = 0 then (some (some (.int (-1)), s4)) else m_bI (m_M x k_G_isIn [.int n2, .int 0, .int 8] s4) fun v14 s14 => if v14 = 0 then (some (some (.int (-1)), s14)) else (m_fR s14 10 0 w).bind fun v23 => m_bI (m_M x k_World_whomFits [.ref v23, .int n1, .int n2] s14) fun v28 s28 => some (some (.int v28), s28)) else none := by
  refine e_M1 (L0 := [some (.ref w), some (.int n1), some (.int n2)]) rfl (by decide +kernel) rfl (q_G_whose _) rfl ?_
  refine e_iload_n i_G_whose_0 rfl ?_
  refine e_iconst (v := 1) i_G_whose_1 (by decide) ?_
  refine e_bipush (v := 9) i_G_whose_2 (by decide) ?_
  refine e_callI (as := [.int n1, .int 1, .int 9]) (st' := []) i_G_whose_4 lm_124 (Or.inl ⟨rfl, rfl⟩) w_G_isIn rfl rfl rfl (Nat.le_of_ble_eq_true rfl) (Nat.le_of_ble_eq_true rfl) (m_rlt (q_G_isIn _) (by decide)) rfl (fun v4 s4 => ?_)
  refine e_ifeq (t := 20) i_G_whose_7 (by decide) ?_ ?_
  · refine e_iconst (v := (-1)) i_G_whose_20 (by decide) ?_
    exact e_iretI i_G_whose_21 rfl
  · refine e_iload_n i_G_whose_10 rfl ?_
    refine e_iconst (v := 0) i_G_whose_11 (by decide) ?_
    refine e_bipush (v := 8) i_G_whose_12 (by decide) ?_
    refine e_callI (as := [.int n2, .int 0, .int 8]) (st' := []) i_G_whose_14 lm_124 (Or.inl ⟨rfl, rfl⟩) w_G_isIn rfl rfl rfl (Nat.le_of_ble_eq_true rfl) (Nat.le_of_ble_eq_true rfl) (m_rlt (q_G_isIn _) (by decide)) rfl (fun v14 s14 => ?_)
    refine e_ifne (t := 22) i_G_whose_17 (by decide) ?_ ?_
    · refine e_aload_n i_G_whose_22 rfl ?_
      refine e_getR i_G_whose_23 lf_2 (by decide) ft_10_0 (fun v23 => ?_)
      refine e_iload_n i_G_whose_26 rfl ?_
      refine e_iload_n i_G_whose_27 rfl ?_
      refine e_callI (as := [.ref v23, .int n1, .int n2]) (st' := []) i_G_whose_28 lm_189 (Or.inr (Or.inl ⟨rfl, rfl⟩)) w_World_whomFits rfl rfl rfl (Nat.le_of_ble_eq_true rfl) (Nat.le_of_ble_eq_true rfl) (m_rlt (q_World_whomFits _) (by decide)) rfl (fun v28 s28 => ?_)
      exact e_iretI i_G_whose_31 rfl
    · refine e_iconst (v := (-1)) i_G_whose_20 (by decide) ?_
      exact e_iretI i_G_whose_21 rfl
theorem i_G_order_0 : m_at k_G_order 0 = some (.aload_n 0, 1, 0) := m_at_of r_G_order (by decide +kernel)
theorem i_G_order_1 : m_at k_G_order 1 = some (.getfield 10, 3, 2) := m_at_of r_G_order (by decide +kernel)
theorem i_G_order_4 : m_at k_G_order 4 = some (.iload_n 1, 1, 0) := m_at_of r_G_order (by decide +kernel)
theorem i_G_order_5 : m_at k_G_order 5 = some (.invokevirtual 208, 3, 113) := m_at_of r_G_order (by decide +kernel)
theorem i_G_order_8 : m_at k_G_order 8 = some (.ifCond .ne (6), 3, 0) := m_at_of r_G_order (by decide +kernel)
theorem i_G_order_11 : m_at k_G_order 11 = some (.bipush (-2), 2, 0) := m_at_of r_G_order (by decide +kernel)
theorem i_G_order_13 : m_at k_G_order 13 = some (.ireturn, 1, 0) := m_at_of r_G_order (by decide +kernel)
theorem i_G_order_14 : m_at k_G_order 14 = some (.aload_n 0, 1, 0) := m_at_of r_G_order (by decide +kernel)
theorem i_G_order_15 : m_at k_G_order 15 = some (.getfield 73, 3, 37) := m_at_of r_G_order (by decide +kernel)
theorem i_G_order_18 : m_at k_G_order 18 = some (.aload_n 0, 1, 0) := m_at_of r_G_order (by decide +kernel)
theorem i_G_order_19 : m_at k_G_order 19 = some (.getfield 10, 3, 2) := m_at_of r_G_order (by decide +kernel)
theorem i_G_order_22 : m_at k_G_order 22 = some (.aload_n 0, 1, 0) := m_at_of r_G_order (by decide +kernel)
theorem i_G_order_23 : m_at k_G_order 23 = some (.getfield 26, 3, 4) := m_at_of r_G_order (by decide +kernel)
theorem i_G_order_26 : m_at k_G_order 26 = some (.getfield 254, 3, 71) := m_at_of r_G_order (by decide +kernel)
theorem i_G_order_29 : m_at k_G_order 29 = some (.iload_n 1, 1, 0) := m_at_of r_G_order (by decide +kernel)
theorem i_G_order_30 : m_at k_G_order 30 = some (.invokevirtual 264, 3, 195) := m_at_of r_G_order (by decide +kernel)
theorem i_G_order_33 : m_at k_G_order 33 = some (.iload_n 2, 1, 0) := m_at_of r_G_order (by decide +kernel)
theorem i_G_order_34 : m_at k_G_order 34 = some (.iconst (-1), 1, 0) := m_at_of r_G_order (by decide +kernel)
theorem i_G_order_35 : m_at k_G_order 35 = some (.if_icmp .ne (22), 3, 0) := m_at_of r_G_order (by decide +kernel)
theorem i_G_order_38 : m_at k_G_order 38 = some (.aload_n 0, 1, 0) := m_at_of r_G_order (by decide +kernel)
theorem i_G_order_39 : m_at k_G_order 39 = some (.getfield 73, 3, 37) := m_at_of r_G_order (by decide +kernel)
theorem i_G_order_42 : m_at k_G_order 42 = some (.aload_n 0, 1, 0) := m_at_of r_G_order (by decide +kernel)
theorem i_G_order_43 : m_at k_G_order 43 = some (.getfield 10, 3, 2) := m_at_of r_G_order (by decide +kernel)
theorem i_G_order_46 : m_at k_G_order 46 = some (.aload_n 0, 1, 0) := m_at_of r_G_order (by decide +kernel)
theorem i_G_order_47 : m_at k_G_order 47 = some (.getfield 26, 3, 4) := m_at_of r_G_order (by decide +kernel)
theorem i_G_order_50 : m_at k_G_order 50 = some (.getfield 254, 3, 71) := m_at_of r_G_order (by decide +kernel)
theorem i_G_order_53 : m_at k_G_order 53 = some (.invokevirtual 268, 3, 196) := m_at_of r_G_order (by decide +kernel)
theorem i_G_order_56 : m_at k_G_order 56 = some (.ireturn, 1, 0) := m_at_of r_G_order (by decide +kernel)
theorem i_G_order_57 : m_at k_G_order 57 = some (.iload_n 2, 1, 0) := m_at_of r_G_order (by decide +kernel)
theorem i_G_order_58 : m_at k_G_order 58 = some (.iconst 0, 1, 0) := m_at_of r_G_order (by decide +kernel)
theorem i_G_order_59 : m_at k_G_order 59 = some (.aload_n 0, 1, 0) := m_at_of r_G_order (by decide +kernel)
theorem i_G_order_60 : m_at k_G_order 60 = some (.getfield 73, 3, 37) := m_at_of r_G_order (by decide +kernel)
theorem i_G_order_63 : m_at k_G_order 63 = some (.getfield 272, 3, 72) := m_at_of r_G_order (by decide +kernel)
theorem i_G_order_66 : m_at k_G_order 66 = some (.getfield 275, 3, 10) := m_at_of r_G_order (by decide +kernel)
theorem i_G_order_69 : m_at k_G_order 69 = some (.iconst 1, 1, 0) := m_at_of r_G_order (by decide +kernel)
theorem i_G_order_70 : m_at k_G_order 70 = some (.isub, 1, 0) := m_at_of r_G_order (by decide +kernel)
theorem i_G_order_71 : m_at k_G_order 71 = some (.invokestatic 100, 3, 124) := m_at_of r_G_order (by decide +kernel)
theorem i_G_order_74 : m_at k_G_order 74 = some (.ifCond .eq (17), 3, 0) := m_at_of r_G_order (by decide +kernel)
theorem i_G_order_77 : m_at k_G_order 77 = some (.aload_n 0, 1, 0) := m_at_of r_G_order (by decide +kernel)
theorem i_G_order_78 : m_at k_G_order 78 = some (.getfield 73, 3, 37) := m_at_of r_G_order (by decide +kernel)
theorem i_G_order_81 : m_at k_G_order 81 = some (.getfield 272, 3, 72) := m_at_of r_G_order (by decide +kernel)
theorem i_G_order_84 : m_at k_G_order 84 = some (.iload_n 2, 1, 0) := m_at_of r_G_order (by decide +kernel)
theorem i_G_order_85 : m_at k_G_order 85 = some (.invokevirtual 276, 3, 120) := m_at_of r_G_order (by decide +kernel)
theorem i_G_order_88 : m_at k_G_order 88 = some (.goto (5), 3, 0) := m_at_of r_G_order (by decide +kernel)
theorem i_G_order_91 : m_at k_G_order 91 = some (.bipush (-2), 2, 0) := m_at_of r_G_order (by decide +kernel)
theorem i_G_order_93 : m_at k_G_order 93 = some (.ireturn, 1, 0) := m_at_of r_G_order (by decide +kernel)
set_option maxRecDepth 20000 in
set_option maxHeartbeats 1000000 in
theorem E_G_order (x : m_X) (s : m_H) (w : Nat) (n1 : Int32) (n2 : Int32) : m_M x k_G_order [.ref w, .int n1, .int n2] s = if m_isO s w 10 = true then ((m_fR s 10 0 w).bind fun v1 => m_bI (m_M x k_World_hasOne [.ref v1, .int n1] s) fun v5 s5 => if v5 = 0 then (some (some (.int (-2)), s5)) else (m_fR s5 10 11 w).bind fun v15 => (m_fR s5 10 0 w).bind fun v19 => (m_fR s5 10 2 w).bind fun v23 => (m_fR s5 7 0 v23).bind fun v26 => m_bV (m_M x k_Duties_arrange [.ref v15, .ref v19, .ref v26, .int n1] s5) fun s30 => if n2 = (-1) then ((m_fR s30 10 11 w).bind fun v39 => (m_fR s30 10 0 w).bind fun v43 => (m_fR s30 10 2 w).bind fun v47 => (m_fR s30 7 0 v47).bind fun v50 => m_bI (m_M x k_Duties_cost [.ref v39, .ref v43, .ref v50] s30) fun v53 s53 => some (some (.int v53), s53)) else (m_fR s30 10 11 w).bind fun v60 => (m_fR s30 0 0 v60).bind fun v63 => (m_fI s30 4 1 v63).bind fun v66 => m_bI (m_M x k_G_isIn [.int n2, .int 0, .int (v66 - (1 : Int32))] s30) fun v71 s71 => if v71 = 0 then (some (some (.int (-2)), s71)) else (m_fR s71 10 11 w).bind fun v78 => (m_fR s71 0 0 v78).bind fun v81 => m_bI (m_M x k_Row_itemAt [.ref v81, .int n2] s71) fun v85 s85 => some (some (.int v85), s85)) else none := by
  refine e_M1 (L0 := [some (.ref w), some (.int n1), some (.int n2)]) rfl (by decide +kernel) rfl (q_G_order _) rfl ?_
  refine e_aload_n i_G_order_0 rfl ?_
  refine e_getR i_G_order_1 lf_2 (by decide) ft_10_0 (fun v1 => ?_)
  refine e_iload_n i_G_order_4 rfl ?_
  refine e_callI (as := [.ref v1, .int n1]) (st' := []) i_G_order_5 lm_113 (Or.inr (Or.inl ⟨rfl, rfl⟩)) w_World_hasOne rfl rfl rfl (Nat.le_of_ble_eq_true rfl) (Nat.le_of_ble_eq_true rfl) (m_rlt (q_World_hasOne _) (by decide)) rfl (fun v5 s5 => ?_)
  refine e_ifne (t := 14) i_G_order_8 (by decide) ?_ ?_
  · refine e_aload_n i_G_order_14 rfl ?_
    refine e_getR i_G_order_15 lf_37 (by decide) ft_10_11 (fun v15 => ?_)
    refine e_aload_n i_G_order_18 rfl ?_
    refine e_getR i_G_order_19 lf_2 (by decide) ft_10_0 (fun v19 => ?_)
    refine e_aload_n i_G_order_22 rfl ?_
    refine e_getR i_G_order_23 lf_4 (by decide) ft_10_2 (fun v23 => ?_)
    refine e_getR i_G_order_26 lf_71 (by decide) ft_7_0 (fun v26 => ?_)
    refine e_iload_n i_G_order_29 rfl ?_
    refine e_callV (as := [.ref v15, .ref v19, .ref v26, .int n1]) (st' := []) i_G_order_30 lm_195 (Or.inr (Or.inl ⟨rfl, rfl⟩)) w_Duties_arrange rfl rfl rfl (Nat.le_of_ble_eq_true rfl) (Nat.le_of_ble_eq_true rfl) (m_rlt (q_Duties_arrange _) (by decide)) rfl (fun s30 => ?_)
    refine e_iload_n i_G_order_33 rfl ?_
    refine e_iconst (v := (-1)) i_G_order_34 (by decide) ?_
    refine e_icmpne (t := 57) i_G_order_35 (by decide) ?_ ?_
    · refine e_iload_n i_G_order_57 rfl ?_
      refine e_iconst (v := 0) i_G_order_58 (by decide) ?_
      refine e_aload_n i_G_order_59 rfl ?_
      refine e_getR i_G_order_60 lf_37 (by decide) ft_10_11 (fun v60 => ?_)
      refine e_getR i_G_order_63 lf_72 (by decide) ft_0_0 (fun v63 => ?_)
      refine e_getI i_G_order_66 lf_10 (by decide) (Or.inl ft_4_1) (fun v66 => ?_)
      refine e_iconst (v := 1) i_G_order_69 (by decide) ?_
      refine e_isub i_G_order_70 ?_
      refine e_callI (as := [.int n2, .int 0, .int (v66 - (1 : Int32))]) (st' := []) i_G_order_71 lm_124 (Or.inl ⟨rfl, rfl⟩) w_G_isIn rfl rfl rfl (Nat.le_of_ble_eq_true rfl) (Nat.le_of_ble_eq_true rfl) (m_rlt (q_G_isIn _) (by decide)) rfl (fun v71 s71 => ?_)
      refine e_ifeq (t := 91) i_G_order_74 (by decide) ?_ ?_
      · refine e_bipush (v := (-2)) i_G_order_91 (by decide) ?_
        exact e_iretI i_G_order_93 rfl
      · refine e_aload_n i_G_order_77 rfl ?_
        refine e_getR i_G_order_78 lf_37 (by decide) ft_10_11 (fun v78 => ?_)
        refine e_getR i_G_order_81 lf_72 (by decide) ft_0_0 (fun v81 => ?_)
        refine e_iload_n i_G_order_84 rfl ?_
        refine e_callI (as := [.ref v81, .int n2]) (st' := []) i_G_order_85 lm_120 (Or.inr (Or.inl ⟨rfl, rfl⟩)) w_Row_itemAt rfl rfl rfl (Nat.le_of_ble_eq_true rfl) (Nat.le_of_ble_eq_true rfl) (m_rlt (q_Row_itemAt _) (by decide)) rfl (fun v85 s85 => ?_)
        refine e_goto (t := 93) i_G_order_88 (by decide) ?_
        exact e_iretI i_G_order_93 rfl
    · refine e_aload_n i_G_order_38 rfl ?_
      refine e_getR i_G_order_39 lf_37 (by decide) ft_10_11 (fun v39 => ?_)
      refine e_aload_n i_G_order_42 rfl ?_
      refine e_getR i_G_order_43 lf_2 (by decide) ft_10_0 (fun v43 => ?_)
      refine e_aload_n i_G_order_46 rfl ?_
      refine e_getR i_G_order_47 lf_4 (by decide) ft_10_2 (fun v47 => ?_)
      refine e_getR i_G_order_50 lf_71 (by decide) ft_7_0 (fun v50 => ?_)
      refine e_callI (as := [.ref v39, .ref v43, .ref v50]) (st' := []) i_G_order_53 lm_196 (Or.inr (Or.inl ⟨rfl, rfl⟩)) w_Duties_cost rfl rfl rfl (Nat.le_of_ble_eq_true rfl) (Nat.le_of_ble_eq_true rfl) (m_rlt (q_Duties_cost _) (by decide)) rfl (fun v53 s53 => ?_)
      exact e_iretI i_G_order_56 rfl
  · refine e_bipush (v := (-2)) i_G_order_11 (by decide) ?_
    exact e_iretI i_G_order_13 rfl
theorem i_G_price_0 : m_at k_G_price 0 = some (.iload_n 1, 1, 0) := m_at_of r_G_price (by decide +kernel)
theorem i_G_price_1 : m_at k_G_price 1 = some (.iconst 0, 1, 0) := m_at_of r_G_price (by decide +kernel)
theorem i_G_price_2 : m_at k_G_price 2 = some (.bipush 11, 2, 0) := m_at_of r_G_price (by decide +kernel)
theorem i_G_price_4 : m_at k_G_price 4 = some (.invokestatic 100, 3, 124) := m_at_of r_G_price (by decide +kernel)
theorem i_G_price_7 : m_at k_G_price 7 = some (.ifCond .eq (13), 3, 0) := m_at_of r_G_price (by decide +kernel)
theorem i_G_price_10 : m_at k_G_price 10 = some (.iload_n 2, 1, 0) := m_at_of r_G_price (by decide +kernel)
theorem i_G_price_11 : m_at k_G_price 11 = some (.iconst 0, 1, 0) := m_at_of r_G_price (by decide +kernel)
theorem i_G_price_12 : m_at k_G_price 12 = some (.bipush 9, 2, 0) := m_at_of r_G_price (by decide +kernel)
theorem i_G_price_14 : m_at k_G_price 14 = some (.invokestatic 100, 3, 124) := m_at_of r_G_price (by decide +kernel)
theorem i_G_price_17 : m_at k_G_price 17 = some (.ifCond .ne (5), 3, 0) := m_at_of r_G_price (by decide +kernel)
theorem i_G_price_20 : m_at k_G_price 20 = some (.iconst 0, 1, 0) := m_at_of r_G_price (by decide +kernel)
theorem i_G_price_21 : m_at k_G_price 21 = some (.ireturn, 1, 0) := m_at_of r_G_price (by decide +kernel)
theorem i_G_price_22 : m_at k_G_price 22 = some (.aload_n 0, 1, 0) := m_at_of r_G_price (by decide +kernel)
theorem i_G_price_23 : m_at k_G_price 23 = some (.getfield 26, 3, 4) := m_at_of r_G_price (by decide +kernel)
theorem i_G_price_26 : m_at k_G_price 26 = some (.getfield 254, 3, 71) := m_at_of r_G_price (by decide +kernel)
theorem i_G_price_29 : m_at k_G_price 29 = some (.iload_n 1, 1, 0) := m_at_of r_G_price (by decide +kernel)
theorem i_G_price_30 : m_at k_G_price 30 = some (.iload_n 2, 1, 0) := m_at_of r_G_price (by decide +kernel)
theorem i_G_price_31 : m_at k_G_price 31 = some (.invokevirtual 258, 3, 204) := m_at_of r_G_price (by decide +kernel)
theorem i_G_price_34 : m_at k_G_price 34 = some (.iconst 1, 1, 0) := m_at_of r_G_price (by decide +kernel)
theorem i_G_price_35 : m_at k_G_price 35 = some (.ireturn, 1, 0) := m_at_of r_G_price (by decide +kernel)
set_option maxRecDepth 20000 in
set_option maxHeartbeats 1000000 in
theorem E_G_price (x : m_X) (s : m_H) (w : Nat) (n1 : Int32) (n2 : Int32) : m_M x k_G_price [.ref w, .int n1, .int n2] s = if m_isO s w 10 = true then (m_bI (m_M x k_G_isIn [.int n1, .int 0, .int 11] s) fun v4 s4 => if v4 = 0 then (some (some (.int 0), s4)) else m_bI (m_M x k_G_isIn [.int n2, .int 0, .int 9] s4) fun v14 s14 => if v14 = 0 then (some (some (.int 0), s14)) else (m_fR s14 10 2 w).bind fun v23 => (m_fR s14 7 0 v23).bind fun v26 => m_bV (m_M x k_Row_change [.ref v26, .int n1, .int n2] s14) fun s31 => some (some (.int 1), s31)) else none := by
  refine e_M1 (L0 := [some (.ref w), some (.int n1), some (.int n2)]) rfl (by decide +kernel) rfl (q_G_price _) rfl ?_
  refine e_iload_n i_G_price_0 rfl ?_
  refine e_iconst (v := 0) i_G_price_1 (by decide) ?_
  refine e_bipush (v := 11) i_G_price_2 (by decide) ?_
  refine e_callI (as := [.int n1, .int 0, .int 11]) (st' := []) i_G_price_4 lm_124 (Or.inl ⟨rfl, rfl⟩) w_G_isIn rfl rfl rfl (Nat.le_of_ble_eq_true rfl) (Nat.le_of_ble_eq_true rfl) (m_rlt (q_G_isIn _) (by decide)) rfl (fun v4 s4 => ?_)
  refine e_ifeq (t := 20) i_G_price_7 (by decide) ?_ ?_
  · refine e_iconst (v := 0) i_G_price_20 (by decide) ?_
    exact e_iretZ i_G_price_21 rfl (by decide)
  · refine e_iload_n i_G_price_10 rfl ?_
    refine e_iconst (v := 0) i_G_price_11 (by decide) ?_
    refine e_bipush (v := 9) i_G_price_12 (by decide) ?_
    refine e_callI (as := [.int n2, .int 0, .int 9]) (st' := []) i_G_price_14 lm_124 (Or.inl ⟨rfl, rfl⟩) w_G_isIn rfl rfl rfl (Nat.le_of_ble_eq_true rfl) (Nat.le_of_ble_eq_true rfl) (m_rlt (q_G_isIn _) (by decide)) rfl (fun v14 s14 => ?_)
    refine e_ifne (t := 22) i_G_price_17 (by decide) ?_ ?_
    · refine e_aload_n i_G_price_22 rfl ?_
      refine e_getR i_G_price_23 lf_4 (by decide) ft_10_2 (fun v23 => ?_)
      refine e_getR i_G_price_26 lf_71 (by decide) ft_7_0 (fun v26 => ?_)
      refine e_iload_n i_G_price_29 rfl ?_
      refine e_iload_n i_G_price_30 rfl ?_
      refine e_callV (as := [.ref v26, .int n1, .int n2]) (st' := []) i_G_price_31 lm_204 (Or.inr (Or.inl ⟨rfl, rfl⟩)) w_Row_change rfl rfl rfl (Nat.le_of_ble_eq_true rfl) (Nat.le_of_ble_eq_true rfl) (m_rlt (q_Row_change _) (by decide)) rfl (fun s31 => ?_)
      refine e_iconst (v := 1) i_G_price_34 (by decide) ?_
      exact e_iretZ i_G_price_35 rfl (by decide)
    · refine e_iconst (v := 0) i_G_price_20 (by decide) ?_
      exact e_iretZ i_G_price_21 rfl (by decide)
theorem i_G_free_0 : m_at k_G_free 0 = some (.iconst 0, 1, 0) := m_at_of r_G_free (by decide +kernel)
theorem i_G_free_1 : m_at k_G_free 1 = some (.istore_n 1, 1, 0) := m_at_of r_G_free (by decide +kernel)
theorem i_G_free_2 : m_at k_G_free 2 = some (.iconst 0, 1, 0) := m_at_of r_G_free (by decide +kernel)
theorem i_G_free_3 : m_at k_G_free 3 = some (.istore_n 2, 1, 0) := m_at_of r_G_free (by decide +kernel)
theorem i_G_free_4 : m_at k_G_free 4 = some (.iload_n 2, 1, 0) := m_at_of r_G_free (by decide +kernel)
theorem i_G_free_5 : m_at k_G_free 5 = some (.aload_n 0, 1, 0) := m_at_of r_G_free (by decide +kernel)
theorem i_G_free_6 : m_at k_G_free 6 = some (.getfield 10, 3, 2) := m_at_of r_G_free (by decide +kernel)
theorem i_G_free_9 : m_at k_G_free 9 = some (.getfield 170, 3, 3) := m_at_of r_G_free (by decide +kernel)
theorem i_G_free_12 : m_at k_G_free 12 = some (.iconst 0, 1, 0) := m_at_of r_G_free (by decide +kernel)
theorem i_G_free_13 : m_at k_G_free 13 = some (.iaload, 1, 0) := m_at_of r_G_free (by decide +kernel)
theorem i_G_free_14 : m_at k_G_free 14 = some (.if_icmp .ge (26), 3, 0) := m_at_of r_G_free (by decide +kernel)
theorem i_G_free_17 : m_at k_G_free 17 = some (.aload_n 0, 1, 0) := m_at_of r_G_free (by decide +kernel)
theorem i_G_free_18 : m_at k_G_free 18 = some (.getfield 10, 3, 2) := m_at_of r_G_free (by decide +kernel)
theorem i_G_free_21 : m_at k_G_free 21 = some (.iload_n 2, 1, 0) := m_at_of r_G_free (by decide +kernel)
theorem i_G_free_22 : m_at k_G_free 22 = some (.invokevirtual 215, 3, 206) := m_at_of r_G_free (by decide +kernel)
theorem i_G_free_25 : m_at k_G_free 25 = some (.ifCond .ne (9), 3, 0) := m_at_of r_G_free (by decide +kernel)
theorem i_G_free_28 : m_at k_G_free 28 = some (.iload_n 1, 1, 0) := m_at_of r_G_free (by decide +kernel)
theorem i_G_free_29 : m_at k_G_free 29 = some (.iconst 1, 1, 0) := m_at_of r_G_free (by decide +kernel)
theorem i_G_free_30 : m_at k_G_free 30 = some (.iload_n 2, 1, 0) := m_at_of r_G_free (by decide +kernel)
theorem i_G_free_31 : m_at k_G_free 31 = some (.ishl, 1, 0) := m_at_of r_G_free (by decide +kernel)
theorem i_G_free_32 : m_at k_G_free 32 = some (.ior, 1, 0) := m_at_of r_G_free (by decide +kernel)
theorem i_G_free_33 : m_at k_G_free 33 = some (.istore_n 1, 1, 0) := m_at_of r_G_free (by decide +kernel)
theorem i_G_free_34 : m_at k_G_free 34 = some (.iinc 2 (1), 3, 0) := m_at_of r_G_free (by decide +kernel)
theorem i_G_free_37 : m_at k_G_free 37 = some (.goto (-33), 3, 0) := m_at_of r_G_free (by decide +kernel)
theorem i_G_free_40 : m_at k_G_free 40 = some (.iload_n 1, 1, 0) := m_at_of r_G_free (by decide +kernel)
theorem i_G_free_41 : m_at k_G_free 41 = some (.ireturn, 1, 0) := m_at_of r_G_free (by decide +kernel)
set_option maxRecDepth 20000 in
set_option maxHeartbeats 1000000 in
theorem E_G_free (x : m_X) (s : m_H) (w : Nat) : m_M x k_G_free [.ref w] s = if m_isO s w 10 = true then (m_D x 2 k_G_free 4 [some (.ref w), some (.int 0), some (.int 0)] [] s) else none := by
  refine e_M1 (L0 := [some (.ref w), none, none]) rfl (by decide +kernel) rfl (q_G_free _) rfl ?_
  refine e_iconst (v := 0) i_G_free_0 (by decide) ?_
  refine e_istore_n (L' := [some (.ref w), some (.int 0), none]) i_G_free_1 (of_decide_eq_true rfl) rfl ?_
  refine e_iconst (v := 0) i_G_free_2 (by decide) ?_
  refine e_istore_n (L' := [some (.ref w), some (.int 0), some (.int 0)]) i_G_free_3 (of_decide_eq_true rfl) rfl ?_
  exact rfl
set_option maxRecDepth 20000 in
set_option maxHeartbeats 1000000 in
theorem E_G_free_4 (x : m_X) (ρ : Nat) (hρ : 2 ≤ ρ) (s : m_H) (w : Nat) (n1 : Int32) (n2 : Int32)  : m_D x ρ k_G_free 4 [some (.ref w), some (.int n1), some (.int n2)] [] s = (m_fR s 10 0 w).bind fun v6 => (m_fR s 9 0 v6).bind fun v9 => (m_ia x s v9 0).bind fun v13 => if v13 ≤ n2 then (some (some (.int n1), s)) else (m_fR s 10 0 w).bind fun v18 => m_bI (m_M x k_World_rightsOf [.ref v18, .int n2] s) fun v22 s22 => if v22 = 0 then (m_D x ρ k_G_free 4 [some (.ref w), some (.int (n1 ||| ((1 : Int32) <<< (n2 &&& (31 : Int32))))), some (.int (n2 + (1 : Int32)))] [] s22) else m_D x ρ k_G_free 4 [some (.ref w), some (.int n1), some (.int (n2 + (1 : Int32)))] [] s22 := by
  refine e_iload_n i_G_free_4 rfl ?_
  refine e_aload_n i_G_free_5 rfl ?_
  refine e_getR i_G_free_6 lf_2 (by decide) ft_10_0 (fun v6 => ?_)
  refine e_getR i_G_free_9 lf_3 (by decide) ft_9_0 (fun v9 => ?_)
  refine e_iconst (v := 0) i_G_free_12 (by decide) ?_
  refine e_iald i_G_free_13 (fun v13 => ?_)
  refine e_icmpge (t := 40) i_G_free_14 (by decide) ?_ ?_
  · refine e_iload_n i_G_free_40 rfl ?_
    exact e_iretI i_G_free_41 rfl
  · refine e_aload_n i_G_free_17 rfl ?_
    refine e_getR i_G_free_18 lf_2 (by decide) ft_10_0 (fun v18 => ?_)
    refine e_iload_n i_G_free_21 rfl ?_
    refine e_callI (as := [.ref v18, .int n2]) (st' := []) i_G_free_22 lm_206 (Or.inr (Or.inl ⟨rfl, rfl⟩)) w_World_rightsOf rfl rfl rfl (Nat.le_of_ble_eq_true rfl) (Nat.le_of_ble_eq_true rfl) (m_rlt (q_World_rightsOf _) (Nat.lt_of_lt_of_le (by decide) hρ)) rfl (fun v22 s22 => ?_)
    refine e_ifne (t := 34) i_G_free_25 (by decide) ?_ ?_
    · refine e_iinc (w := 1) (L' := [some (.ref w), some (.int n1), some (.int (n2 + (1 : Int32)))]) i_G_free_34 rfl (of_decide_eq_true rfl) (by decide) rfl ?_
      refine e_goto (t := 4) i_G_free_37 (by decide) ?_
      exact rfl
    · refine e_iload_n i_G_free_28 rfl ?_
      refine e_iconst (v := 1) i_G_free_29 (by decide) ?_
      refine e_iload_n i_G_free_30 rfl ?_
      refine e_ishl i_G_free_31 ?_
      refine e_ior i_G_free_32 ?_
      refine e_istore_n (L' := [some (.ref w), some (.int (n1 ||| ((1 : Int32) <<< (n2 &&& (31 : Int32))))), some (.int n2)]) i_G_free_33 (of_decide_eq_true rfl) rfl ?_
      refine e_iinc (w := 1) (L' := [some (.ref w), some (.int (n1 ||| ((1 : Int32) <<< (n2 &&& (31 : Int32))))), some (.int (n2 + (1 : Int32)))]) i_G_free_34 rfl (of_decide_eq_true rfl) (by decide) rfl ?_
      refine e_goto (t := 4) i_G_free_37 (by decide) ?_
      exact rfl
theorem i_G_firstFine_0 : m_at k_G_firstFine 0 = some (.aload_n 0, 1, 0) := m_at_of r_G_firstFine (by decide +kernel)
theorem i_G_firstFine_1 : m_at k_G_firstFine 1 = some (.getfield 10, 3, 2) := m_at_of r_G_firstFine (by decide +kernel)
theorem i_G_firstFine_4 : m_at k_G_firstFine 4 = some (.iload_n 1, 1, 0) := m_at_of r_G_firstFine (by decide +kernel)
theorem i_G_firstFine_5 : m_at k_G_firstFine 5 = some (.invokevirtual 208, 3, 113) := m_at_of r_G_firstFine (by decide +kernel)
theorem i_G_firstFine_8 : m_at k_G_firstFine 8 = some (.ifCond .ne (5), 3, 0) := m_at_of r_G_firstFine (by decide +kernel)
theorem i_G_firstFine_11 : m_at k_G_firstFine 11 = some (.iconst (-1), 1, 0) := m_at_of r_G_firstFine (by decide +kernel)
theorem i_G_firstFine_12 : m_at k_G_firstFine 12 = some (.ireturn, 1, 0) := m_at_of r_G_firstFine (by decide +kernel)
theorem i_G_firstFine_13 : m_at k_G_firstFine 13 = some (.aload_n 0, 1, 0) := m_at_of r_G_firstFine (by decide +kernel)
theorem i_G_firstFine_14 : m_at k_G_firstFine 14 = some (.getfield 39, 3, 76) := m_at_of r_G_firstFine (by decide +kernel)
theorem i_G_firstFine_17 : m_at k_G_firstFine 17 = some (.aload_n 0, 1, 0) := m_at_of r_G_firstFine (by decide +kernel)
theorem i_G_firstFine_18 : m_at k_G_firstFine 18 = some (.getfield 10, 3, 2) := m_at_of r_G_firstFine (by decide +kernel)
theorem i_G_firstFine_21 : m_at k_G_firstFine 21 = some (.invokevirtual 245, 3, 98) := m_at_of r_G_firstFine (by decide +kernel)
theorem i_G_firstFine_24 : m_at k_G_firstFine 24 = some (.iconst 1, 1, 0) := m_at_of r_G_firstFine (by decide +kernel)
theorem i_G_firstFine_25 : m_at k_G_firstFine 25 = some (.istore_n 2, 1, 0) := m_at_of r_G_firstFine (by decide +kernel)
theorem i_G_firstFine_26 : m_at k_G_firstFine 26 = some (.iload_n 2, 1, 0) := m_at_of r_G_firstFine (by decide +kernel)
theorem i_G_firstFine_27 : m_at k_G_firstFine 27 = some (.bipush 60, 2, 0) := m_at_of r_G_firstFine (by decide +kernel)
theorem i_G_firstFine_29 : m_at k_G_firstFine 29 = some (.if_icmp .gt (46), 3, 0) := m_at_of r_G_firstFine (by decide +kernel)
theorem i_G_firstFine_32 : m_at k_G_firstFine 32 = some (.aload_n 0, 1, 0) := m_at_of r_G_firstFine (by decide +kernel)
theorem i_G_firstFine_33 : m_at k_G_firstFine 33 = some (.getfield 39, 3, 76) := m_at_of r_G_firstFine (by decide +kernel)
theorem i_G_firstFine_36 : m_at k_G_firstFine 36 = some (.invokevirtual 251, 3, 210) := m_at_of r_G_firstFine (by decide +kernel)
theorem i_G_firstFine_39 : m_at k_G_firstFine 39 = some (.ifCond .eq (36), 3, 0) := m_at_of r_G_firstFine (by decide +kernel)
theorem i_G_firstFine_42 : m_at k_G_firstFine 42 = some (.aload_n 0, 1, 0) := m_at_of r_G_firstFine (by decide +kernel)
theorem i_G_firstFine_43 : m_at k_G_firstFine 43 = some (.getfield 59, 3, 34) := m_at_of r_G_firstFine (by decide +kernel)
theorem i_G_firstFine_46 : m_at k_G_firstFine 46 = some (.aload_n 0, 1, 0) := m_at_of r_G_firstFine (by decide +kernel)
theorem i_G_firstFine_47 : m_at k_G_firstFine 47 = some (.getfield 39, 3, 76) := m_at_of r_G_firstFine (by decide +kernel)
theorem i_G_firstFine_50 : m_at k_G_firstFine 50 = some (.aload_n 0, 1, 0) := m_at_of r_G_firstFine (by decide +kernel)
theorem i_G_firstFine_51 : m_at k_G_firstFine 51 = some (.invokevirtual 160, 3, 211) := m_at_of r_G_firstFine (by decide +kernel)
theorem i_G_firstFine_54 : m_at k_G_firstFine 54 = some (.invokevirtual 247, 3, 212) := m_at_of r_G_firstFine (by decide +kernel)
theorem i_G_firstFine_57 : m_at k_G_firstFine 57 = some (.istore_n 3, 1, 0) := m_at_of r_G_firstFine (by decide +kernel)
theorem i_G_firstFine_58 : m_at k_G_firstFine 58 = some (.iload_n 3, 1, 0) := m_at_of r_G_firstFine (by decide +kernel)
theorem i_G_firstFine_59 : m_at k_G_firstFine 59 = some (.iload_n 1, 1, 0) := m_at_of r_G_firstFine (by decide +kernel)
theorem i_G_firstFine_60 : m_at k_G_firstFine 60 = some (.ishr, 1, 0) := m_at_of r_G_firstFine (by decide +kernel)
theorem i_G_firstFine_61 : m_at k_G_firstFine 61 = some (.iconst 1, 1, 0) := m_at_of r_G_firstFine (by decide +kernel)
theorem i_G_firstFine_62 : m_at k_G_firstFine 62 = some (.iand, 1, 0) := m_at_of r_G_firstFine (by decide +kernel)
theorem i_G_firstFine_63 : m_at k_G_firstFine 63 = some (.iconst 1, 1, 0) := m_at_of r_G_firstFine (by decide +kernel)
theorem i_G_firstFine_64 : m_at k_G_firstFine 64 = some (.if_icmp .ne (5), 3, 0) := m_at_of r_G_firstFine (by decide +kernel)
theorem i_G_firstFine_67 : m_at k_G_firstFine 67 = some (.iload_n 2, 1, 0) := m_at_of r_G_firstFine (by decide +kernel)
theorem i_G_firstFine_68 : m_at k_G_firstFine 68 = some (.ireturn, 1, 0) := m_at_of r_G_firstFine (by decide +kernel)
theorem i_G_firstFine_69 : m_at k_G_firstFine 69 = some (.iinc 2 (1), 3, 0) := m_at_of r_G_firstFine (by decide +kernel)
theorem i_G_firstFine_72 : m_at k_G_firstFine 72 = some (.goto (-46), 3, 0) := m_at_of r_G_firstFine (by decide +kernel)
theorem i_G_firstFine_75 : m_at k_G_firstFine 75 = some (.iconst (-1), 1, 0) := m_at_of r_G_firstFine (by decide +kernel)
theorem i_G_firstFine_76 : m_at k_G_firstFine 76 = some (.ireturn, 1, 0) := m_at_of r_G_firstFine (by decide +kernel)
set_option maxRecDepth 20000 in
set_option maxHeartbeats 1000000 in
theorem E_G_firstFine (x : m_X) (s : m_H) (w : Nat) (n1 : Int32) : m_M x k_G_firstFine [.ref w, .int n1] s = if m_isO s w 10 = true then ((m_fR s 10 0 w).bind fun v1 => m_bI (m_M x k_World_hasOne [.ref v1, .int n1] s) fun v5 s5 => if v5 = 0 then (some (some (.int (-1)), s5)) else (m_fR s5 10 6 w).bind fun v14 => (m_fR s5 10 0 w).bind fun v18 => m_bV (m_M x k_World_takeOver [.ref v14, .ref v18] s5) fun s21 => m_D x 7 k_G_firstFine 26 [some (.ref w), some (.int n1), some (.int 1), none] [] s21) else none := by
  refine e_M1 (L0 := [some (.ref w), some (.int n1), none, none]) rfl (by decide +kernel) rfl (q_G_firstFine _) rfl ?_
  refine e_aload_n i_G_firstFine_0 rfl ?_
  refine e_getR i_G_firstFine_1 lf_2 (by decide) ft_10_0 (fun v1 => ?_)
  refine e_iload_n i_G_firstFine_4 rfl ?_
  refine e_callI (as := [.ref v1, .int n1]) (st' := []) i_G_firstFine_5 lm_113 (Or.inr (Or.inl ⟨rfl, rfl⟩)) w_World_hasOne rfl rfl rfl (Nat.le_of_ble_eq_true rfl) (Nat.le_of_ble_eq_true rfl) (m_rlt (q_World_hasOne _) (by decide)) rfl (fun v5 s5 => ?_)
  refine e_ifne (t := 13) i_G_firstFine_8 (by decide) ?_ ?_
  · refine e_aload_n i_G_firstFine_13 rfl ?_
    refine e_getR i_G_firstFine_14 lf_76 (by decide) ft_10_6 (fun v14 => ?_)
    refine e_aload_n i_G_firstFine_17 rfl ?_
    refine e_getR i_G_firstFine_18 lf_2 (by decide) ft_10_0 (fun v18 => ?_)
    refine e_callV (as := [.ref v14, .ref v18]) (st' := []) i_G_firstFine_21 lm_98 (Or.inr (Or.inl ⟨rfl, rfl⟩)) w_World_takeOver rfl rfl rfl (Nat.le_of_ble_eq_true rfl) (Nat.le_of_ble_eq_true rfl) (m_rlt (q_World_takeOver _) (by decide)) rfl (fun s21 => ?_)
    refine e_iconst (v := 1) i_G_firstFine_24 (by decide) ?_
    refine e_istore_n (L' := [some (.ref w), some (.int n1), some (.int 1), none]) i_G_firstFine_25 (of_decide_eq_true rfl) rfl ?_
    exact rfl
  · refine e_iconst (v := (-1)) i_G_firstFine_11 (by decide) ?_
    exact e_iretI i_G_firstFine_12 rfl
set_option maxRecDepth 20000 in
set_option maxHeartbeats 1000000 in
theorem E_G_firstFine_26 (x : m_X) (ρ : Nat) (hρ : 7 ≤ ρ) (s : m_H) (w : Nat) (n1 : Int32) (n2 : Int32) (d3 : Option Value) (hd3 : m_nl d3 = true) : m_D x ρ k_G_firstFine 26 [some (.ref w), some (.int n1), some (.int n2), d3] [] s = if 60 < n2 then (some (some (.int (-1)), s)) else (m_fR s 10 6 w).bind fun v33 => m_bI (m_M x k_World_dayCanPass [.ref v33] s) fun v36 s36 => if v36 = 0 then (some (some (.int (-1)), s36)) else (m_fR s36 10 9 w).bind fun v43 => (m_fR s36 10 6 w).bind fun v47 => m_bN (m_M x k_G_ruling [.ref w] s36) (fun v51 s51 => m_bI (m_M x k_Law_passDay [.ref v43, .ref v47, .ref v51] s51) fun v54 s54 => if ((v54 >>> (n1 &&& (31 : Int32))) &&& (1 : Int32)) = 1 then (some (some (.int n2), s54)) else m_D x ρ k_G_firstFine 26 [some (.ref w), some (.int n1), some (.int (n2 + (1 : Int32))), some (.int v54)] [] s54) fun s51 => m_bI (m_M x k_Law_passDay [.ref v43, .ref v47, .null] s51) fun v54 s54 => if ((v54 >>> (n1 &&& (31 : Int32))) &&& (1 : Int32)) = 1 then (some (some (.int n2), s54)) else m_D x ρ k_G_firstFine 26 [some (.ref w), some (.int n1), some (.int (n2 + (1 : Int32))), some (.int v54)] [] s54 := by
  refine e_iload_n i_G_firstFine_26 rfl ?_
  refine e_bipush (v := 60) i_G_firstFine_27 (by decide) ?_
  refine e_icmpgt (t := 75) i_G_firstFine_29 (by decide) ?_ ?_
  · refine e_iconst (v := (-1)) i_G_firstFine_75 (by decide) ?_
    exact e_iretI i_G_firstFine_76 rfl
  · refine e_aload_n i_G_firstFine_32 rfl ?_
    refine e_getR i_G_firstFine_33 lf_76 (by decide) ft_10_6 (fun v33 => ?_)
    refine e_callI (as := [.ref v33]) (st' := []) i_G_firstFine_36 lm_210 (Or.inr (Or.inl ⟨rfl, rfl⟩)) w_World_dayCanPass rfl rfl rfl (Nat.le_of_ble_eq_true rfl) (Nat.le_of_ble_eq_true rfl) (m_rlt (q_World_dayCanPass _) (Nat.lt_of_lt_of_le (by decide) hρ)) rfl (fun v36 s36 => ?_)
    refine e_ifeq (t := 75) i_G_firstFine_39 (by decide) ?_ ?_
    · refine e_iconst (v := (-1)) i_G_firstFine_75 (by decide) ?_
      exact e_iretI i_G_firstFine_76 rfl
    · refine e_aload_n i_G_firstFine_42 rfl ?_
      refine e_getR i_G_firstFine_43 lf_34 (by decide) ft_10_9 (fun v43 => ?_)
      refine e_aload_n i_G_firstFine_46 rfl ?_
      refine e_getR i_G_firstFine_47 lf_76 (by decide) ft_10_6 (fun v47 => ?_)
      refine e_aload_n i_G_firstFine_50 rfl ?_
      refine e_callN (as := [.ref w]) (st' := [.ref v47, .ref v43]) i_G_firstFine_51 lm_211 (Or.inr (Or.inl ⟨rfl, rfl⟩)) w_G_ruling rfl rfl rfl (Nat.le_of_ble_eq_true rfl) (Nat.le_of_ble_eq_true rfl) (m_rlt (q_G_ruling _) (Nat.lt_of_lt_of_le (by decide) hρ)) rfl (fun v51 s51 => ?_) (fun s51 => ?_)
      · refine e_callI (as := [.ref v43, .ref v47, .ref v51]) (st' := []) i_G_firstFine_54 lm_212 (Or.inr (Or.inl ⟨rfl, rfl⟩)) w_Law_passDay rfl rfl rfl (Nat.le_of_ble_eq_true rfl) (Nat.le_of_ble_eq_true rfl) (m_rlt (q_Law_passDay _) (Nat.lt_of_lt_of_le (by decide) hρ)) rfl (fun v54 s54 => ?_)
        refine e_istore_n (L' := [some (.ref w), some (.int n1), some (.int n2), some (.int v54)]) i_G_firstFine_57 (of_decide_eq_true rfl) rfl ?_
        refine e_iload_n i_G_firstFine_58 rfl ?_
        refine e_iload_n i_G_firstFine_59 rfl ?_
        refine e_ishr i_G_firstFine_60 ?_
        refine e_iconst (v := 1) i_G_firstFine_61 (by decide) ?_
        refine e_iand i_G_firstFine_62 ?_
        refine e_iconst (v := 1) i_G_firstFine_63 (by decide) ?_
        refine e_icmpne (t := 69) i_G_firstFine_64 (by decide) ?_ ?_
        · refine e_iinc (w := 1) (L' := [some (.ref w), some (.int n1), some (.int (n2 + (1 : Int32))), some (.int v54)]) i_G_firstFine_69 rfl (of_decide_eq_true rfl) (by decide) rfl ?_
          refine e_goto (t := 26) i_G_firstFine_72 (by decide) ?_
          exact rfl
        · refine e_iload_n i_G_firstFine_67 rfl ?_
          exact e_iretI i_G_firstFine_68 rfl
      · refine e_callI (as := [.ref v43, .ref v47, .null]) (st' := []) i_G_firstFine_54 lm_212 (Or.inr (Or.inl ⟨rfl, rfl⟩)) w_Law_passDay rfl rfl rfl (Nat.le_of_ble_eq_true rfl) (Nat.le_of_ble_eq_true rfl) (m_rlt (q_Law_passDay _) (Nat.lt_of_lt_of_le (by decide) hρ)) rfl (fun v54 s54 => ?_)
        refine e_istore_n (L' := [some (.ref w), some (.int n1), some (.int n2), some (.int v54)]) i_G_firstFine_57 (of_decide_eq_true rfl) rfl ?_
        refine e_iload_n i_G_firstFine_58 rfl ?_
        refine e_iload_n i_G_firstFine_59 rfl ?_
        refine e_ishr i_G_firstFine_60 ?_
        refine e_iconst (v := 1) i_G_firstFine_61 (by decide) ?_
        refine e_iand i_G_firstFine_62 ?_
        refine e_iconst (v := 1) i_G_firstFine_63 (by decide) ?_
        refine e_icmpne (t := 69) i_G_firstFine_64 (by decide) ?_ ?_
        · refine e_iinc (w := 1) (L' := [some (.ref w), some (.int n1), some (.int (n2 + (1 : Int32))), some (.int v54)]) i_G_firstFine_69 rfl (of_decide_eq_true rfl) (by decide) rfl ?_
          refine e_goto (t := 26) i_G_firstFine_72 (by decide) ?_
          exact rfl
        · refine e_iload_n i_G_firstFine_67 rfl ?_
          exact e_iretI i_G_firstFine_68 rfl
theorem i_G_foretold_0 : m_at k_G_foretold 0 = some (.iload_n 1, 1, 0) := m_at_of r_G_foretold (by decide +kernel)
theorem i_G_foretold_1 : m_at k_G_foretold 1 = some (.iconst 1, 1, 0) := m_at_of r_G_foretold (by decide +kernel)
theorem i_G_foretold_2 : m_at k_G_foretold 2 = some (.bipush 60, 2, 0) := m_at_of r_G_foretold (by decide +kernel)
theorem i_G_foretold_4 : m_at k_G_foretold 4 = some (.invokestatic 100, 3, 124) := m_at_of r_G_foretold (by decide +kernel)
theorem i_G_foretold_7 : m_at k_G_foretold 7 = some (.ifCond .eq (31), 3, 0) := m_at_of r_G_foretold (by decide +kernel)
theorem i_G_foretold_10 : m_at k_G_foretold 10 = some (.iload_n 3, 1, 0) := m_at_of r_G_foretold (by decide +kernel)
theorem i_G_foretold_11 : m_at k_G_foretold 11 = some (.ifCond .eq (23), 3, 0) := m_at_of r_G_foretold (by decide +kernel)
theorem i_G_foretold_14 : m_at k_G_foretold 14 = some (.iload_n 3, 1, 0) := m_at_of r_G_foretold (by decide +kernel)
theorem i_G_foretold_15 : m_at k_G_foretold 15 = some (.iconst 1, 1, 0) := m_at_of r_G_foretold (by decide +kernel)
theorem i_G_foretold_16 : m_at k_G_foretold 16 = some (.iconst 2, 1, 0) := m_at_of r_G_foretold (by decide +kernel)
theorem i_G_foretold_17 : m_at k_G_foretold 17 = some (.invokestatic 100, 3, 124) := m_at_of r_G_foretold (by decide +kernel)
theorem i_G_foretold_20 : m_at k_G_foretold 20 = some (.ifCond .eq (18), 3, 0) := m_at_of r_G_foretold (by decide +kernel)
theorem i_G_foretold_23 : m_at k_G_foretold 23 = some (.aload_n 0, 1, 0) := m_at_of r_G_foretold (by decide +kernel)
theorem i_G_foretold_24 : m_at k_G_foretold 24 = some (.getfield 10, 3, 2) := m_at_of r_G_foretold (by decide +kernel)
theorem i_G_foretold_27 : m_at k_G_foretold 27 = some (.iload_n 2, 1, 0) := m_at_of r_G_foretold (by decide +kernel)
theorem i_G_foretold_28 : m_at k_G_foretold 28 = some (.invokevirtual 208, 3, 113) := m_at_of r_G_foretold (by decide +kernel)
theorem i_G_foretold_31 : m_at k_G_foretold 31 = some (.ifCond .eq (7), 3, 0) := m_at_of r_G_foretold (by decide +kernel)
theorem i_G_foretold_34 : m_at k_G_foretold 34 = some (.iconst 1, 1, 0) := m_at_of r_G_foretold (by decide +kernel)
theorem i_G_foretold_35 : m_at k_G_foretold 35 = some (.goto (4), 3, 0) := m_at_of r_G_foretold (by decide +kernel)
theorem i_G_foretold_38 : m_at k_G_foretold 38 = some (.iconst 0, 1, 0) := m_at_of r_G_foretold (by decide +kernel)
theorem i_G_foretold_39 : m_at k_G_foretold 39 = some (.istore 4, 2, 0) := m_at_of r_G_foretold (by decide +kernel)
theorem i_G_foretold_41 : m_at k_G_foretold 41 = some (.iload 4, 2, 0) := m_at_of r_G_foretold (by decide +kernel)
theorem i_G_foretold_43 : m_at k_G_foretold 43 = some (.ifCond .ne (5), 3, 0) := m_at_of r_G_foretold (by decide +kernel)
theorem i_G_foretold_46 : m_at k_G_foretold 46 = some (.iconst (-1), 1, 0) := m_at_of r_G_foretold (by decide +kernel)
theorem i_G_foretold_47 : m_at k_G_foretold 47 = some (.ireturn, 1, 0) := m_at_of r_G_foretold (by decide +kernel)
theorem i_G_foretold_48 : m_at k_G_foretold 48 = some (.aload_n 0, 1, 0) := m_at_of r_G_foretold (by decide +kernel)
theorem i_G_foretold_49 : m_at k_G_foretold 49 = some (.getfield 39, 3, 76) := m_at_of r_G_foretold (by decide +kernel)
theorem i_G_foretold_52 : m_at k_G_foretold 52 = some (.aload_n 0, 1, 0) := m_at_of r_G_foretold (by decide +kernel)
theorem i_G_foretold_53 : m_at k_G_foretold 53 = some (.getfield 10, 3, 2) := m_at_of r_G_foretold (by decide +kernel)
theorem i_G_foretold_56 : m_at k_G_foretold 56 = some (.invokevirtual 245, 3, 98) := m_at_of r_G_foretold (by decide +kernel)
theorem i_G_foretold_59 : m_at k_G_foretold 59 = some (.iconst 0, 1, 0) := m_at_of r_G_foretold (by decide +kernel)
theorem i_G_foretold_60 : m_at k_G_foretold 60 = some (.istore 5, 2, 0) := m_at_of r_G_foretold (by decide +kernel)
theorem i_G_foretold_62 : m_at k_G_foretold 62 = some (.iload 5, 2, 0) := m_at_of r_G_foretold (by decide +kernel)
theorem i_G_foretold_64 : m_at k_G_foretold 64 = some (.iload_n 1, 1, 0) := m_at_of r_G_foretold (by decide +kernel)
theorem i_G_foretold_65 : m_at k_G_foretold 65 = some (.if_icmp .ge (25), 3, 0) := m_at_of r_G_foretold (by decide +kernel)
theorem i_G_foretold_68 : m_at k_G_foretold 68 = some (.aload_n 0, 1, 0) := m_at_of r_G_foretold (by decide +kernel)
theorem i_G_foretold_69 : m_at k_G_foretold 69 = some (.getfield 59, 3, 34) := m_at_of r_G_foretold (by decide +kernel)
theorem i_G_foretold_72 : m_at k_G_foretold 72 = some (.aload_n 0, 1, 0) := m_at_of r_G_foretold (by decide +kernel)
theorem i_G_foretold_73 : m_at k_G_foretold 73 = some (.getfield 39, 3, 76) := m_at_of r_G_foretold (by decide +kernel)
theorem i_G_foretold_76 : m_at k_G_foretold 76 = some (.aload_n 0, 1, 0) := m_at_of r_G_foretold (by decide +kernel)
theorem i_G_foretold_77 : m_at k_G_foretold 77 = some (.invokevirtual 160, 3, 211) := m_at_of r_G_foretold (by decide +kernel)
theorem i_G_foretold_80 : m_at k_G_foretold 80 = some (.invokevirtual 247, 3, 212) := m_at_of r_G_foretold (by decide +kernel)
theorem i_G_foretold_83 : m_at k_G_foretold 83 = some (.pop, 1, 0) := m_at_of r_G_foretold (by decide +kernel)
theorem i_G_foretold_84 : m_at k_G_foretold 84 = some (.iinc 5 (1), 3, 0) := m_at_of r_G_foretold (by decide +kernel)
theorem i_G_foretold_87 : m_at k_G_foretold 87 = some (.goto (-25), 3, 0) := m_at_of r_G_foretold (by decide +kernel)
theorem i_G_foretold_90 : m_at k_G_foretold 90 = some (.iload_n 3, 1, 0) := m_at_of r_G_foretold (by decide +kernel)
theorem i_G_foretold_91 : m_at k_G_foretold 91 = some (.ifCond .ne (14), 3, 0) := m_at_of r_G_foretold (by decide +kernel)
theorem i_G_foretold_94 : m_at k_G_foretold 94 = some (.aload_n 0, 1, 0) := m_at_of r_G_foretold (by decide +kernel)
theorem i_G_foretold_95 : m_at k_G_foretold 95 = some (.getfield 39, 3, 76) := m_at_of r_G_foretold (by decide +kernel)
theorem i_G_foretold_98 : m_at k_G_foretold 98 = some (.getfield 170, 3, 3) := m_at_of r_G_foretold (by decide +kernel)
theorem i_G_foretold_101 : m_at k_G_foretold 101 = some (.bipush 23, 2, 0) := m_at_of r_G_foretold (by decide +kernel)
theorem i_G_foretold_103 : m_at k_G_foretold 103 = some (.iaload, 1, 0) := m_at_of r_G_foretold (by decide +kernel)
theorem i_G_foretold_104 : m_at k_G_foretold 104 = some (.ireturn, 1, 0) := m_at_of r_G_foretold (by decide +kernel)
theorem i_G_foretold_105 : m_at k_G_foretold 105 = some (.aload_n 0, 1, 0) := m_at_of r_G_foretold (by decide +kernel)
theorem i_G_foretold_106 : m_at k_G_foretold 106 = some (.getfield 39, 3, 76) := m_at_of r_G_foretold (by decide +kernel)
theorem i_G_foretold_109 : m_at k_G_foretold 109 = some (.iload_n 3, 1, 0) := m_at_of r_G_foretold (by decide +kernel)
theorem i_G_foretold_110 : m_at k_G_foretold 110 = some (.iconst 1, 1, 0) := m_at_of r_G_foretold (by decide +kernel)
theorem i_G_foretold_111 : m_at k_G_foretold 111 = some (.if_icmp .ne (8), 3, 0) := m_at_of r_G_foretold (by decide +kernel)
theorem i_G_foretold_114 : m_at k_G_foretold 114 = some (.bipush 15, 2, 0) := m_at_of r_G_foretold (by decide +kernel)
theorem i_G_foretold_116 : m_at k_G_foretold 116 = some (.goto (5), 3, 0) := m_at_of r_G_foretold (by decide +kernel)
theorem i_G_foretold_119 : m_at k_G_foretold 119 = some (.bipush 8, 2, 0) := m_at_of r_G_foretold (by decide +kernel)
theorem i_G_foretold_121 : m_at k_G_foretold 121 = some (.iload_n 2, 1, 0) := m_at_of r_G_foretold (by decide +kernel)
theorem i_G_foretold_122 : m_at k_G_foretold 122 = some (.invokevirtual 212, 3, 104) := m_at_of r_G_foretold (by decide +kernel)
theorem i_G_foretold_125 : m_at k_G_foretold 125 = some (.ireturn, 1, 0) := m_at_of r_G_foretold (by decide +kernel)
set_option maxRecDepth 20000 in
set_option maxHeartbeats 1000000 in
theorem E_G_foretold (x : m_X) (s : m_H) (w : Nat) (n1 : Int32) (n2 : Int32) (n3 : Int32) : m_M x k_G_foretold [.ref w, .int n1, .int n2, .int n3] s = if m_isO s w 10 = true then (m_bI (m_M x k_G_isIn [.int n1, .int 1, .int 60] s) fun v4 s4 => if v4 = 0 then (some (some (.int (-1)), s4)) else if n3 = 0 then ((m_fR s4 10 6 w).bind fun v49 => (m_fR s4 10 0 w).bind fun v53 => m_bV (m_M x k_World_takeOver [.ref v49, .ref v53] s4) fun s56 => m_D x 7 k_G_foretold 62 [some (.ref w), some (.int n1), some (.int n2), some (.int n3), some (.int 1), some (.int 0)] [] s56) else m_bI (m_M x k_G_isIn [.int n3, .int 1, .int 2] s4) fun v17 s17 => if v17 = 0 then (some (some (.int (-1)), s17)) else (m_fR s17 10 0 w).bind fun v24 => m_bI (m_M x k_World_hasOne [.ref v24, .int n2] s17) fun v28 s28 => if v28 = 0 then (some (some (.int (-1)), s28)) else (m_fR s28 10 6 w).bind fun v49 => (m_fR s28 10 0 w).bind fun v53 => m_bV (m_M x k_World_takeOver [.ref v49, .ref v53] s28) fun s56 => m_D x 7 k_G_foretold 62 [some (.ref w), some (.int n1), some (.int n2), some (.int n3), some (.int 1), some (.int 0)] [] s56) else none := by
  refine e_M1 (L0 := [some (.ref w), some (.int n1), some (.int n2), some (.int n3), none, none]) rfl (by decide +kernel) rfl (q_G_foretold _) rfl ?_
  refine e_iload_n i_G_foretold_0 rfl ?_
  refine e_iconst (v := 1) i_G_foretold_1 (by decide) ?_
  refine e_bipush (v := 60) i_G_foretold_2 (by decide) ?_
  refine e_callI (as := [.int n1, .int 1, .int 60]) (st' := []) i_G_foretold_4 lm_124 (Or.inl ⟨rfl, rfl⟩) w_G_isIn rfl rfl rfl (Nat.le_of_ble_eq_true rfl) (Nat.le_of_ble_eq_true rfl) (m_rlt (q_G_isIn _) (by decide)) rfl (fun v4 s4 => ?_)
  refine e_ifeq (t := 38) i_G_foretold_7 (by decide) ?_ ?_
  · refine e_iconst (v := 0) i_G_foretold_38 (by decide) ?_
    refine e_istore (L' := [some (.ref w), some (.int n1), some (.int n2), some (.int n3), some (.int 0), none]) i_G_foretold_39 (of_decide_eq_true rfl) rfl ?_
    refine e_iload i_G_foretold_41 rfl ?_
    refine e_ifF i_G_foretold_43 (by decide) ?_
    refine e_iconst (v := (-1)) i_G_foretold_46 (by decide) ?_
    exact e_iretI i_G_foretold_47 rfl
  · refine e_iload_n i_G_foretold_10 rfl ?_
    refine e_ifeq (t := 34) i_G_foretold_11 (by decide) ?_ ?_
    · refine e_iconst (v := 1) i_G_foretold_34 (by decide) ?_
      refine e_goto (t := 39) i_G_foretold_35 (by decide) ?_
      refine e_istore (L' := [some (.ref w), some (.int n1), some (.int n2), some (.int n3), some (.int 1), none]) i_G_foretold_39 (of_decide_eq_true rfl) rfl ?_
      refine e_iload i_G_foretold_41 rfl ?_
      refine e_ifT (t := 48) i_G_foretold_43 (by decide) (by decide) ?_
      refine e_aload_n i_G_foretold_48 rfl ?_
      refine e_getR i_G_foretold_49 lf_76 (by decide) ft_10_6 (fun v49 => ?_)
      refine e_aload_n i_G_foretold_52 rfl ?_
      refine e_getR i_G_foretold_53 lf_2 (by decide) ft_10_0 (fun v53 => ?_)
      refine e_callV (as := [.ref v49, .ref v53]) (st' := []) i_G_foretold_56 lm_98 (Or.inr (Or.inl ⟨rfl, rfl⟩)) w_World_takeOver rfl rfl rfl (Nat.le_of_ble_eq_true rfl) (Nat.le_of_ble_eq_true rfl) (m_rlt (q_World_takeOver _) (by decide)) rfl (fun s56 => ?_)
      refine e_iconst (v := 0) i_G_foretold_59 (by decide) ?_
      refine e_istore (L' := [some (.ref w), some (.int n1), some (.int n2), some (.int n3), some (.int 1), some (.int 0)]) i_G_foretold_60 (of_decide_eq_true rfl) rfl ?_
      exact rfl
    · refine e_iload_n i_G_foretold_14 rfl ?_
      refine e_iconst (v := 1) i_G_foretold_15 (by decide) ?_
      refine e_iconst (v := 2) i_G_foretold_16 (by decide) ?_
      refine e_callI (as := [.int n3, .int 1, .int 2]) (st' := []) i_G_foretold_17 lm_124 (Or.inl ⟨rfl, rfl⟩) w_G_isIn rfl rfl rfl (Nat.le_of_ble_eq_true rfl) (Nat.le_of_ble_eq_true rfl) (m_rlt (q_G_isIn _) (by decide)) rfl (fun v17 s17 => ?_)
      refine e_ifeq (t := 38) i_G_foretold_20 (by decide) ?_ ?_
      · refine e_iconst (v := 0) i_G_foretold_38 (by decide) ?_
        refine e_istore (L' := [some (.ref w), some (.int n1), some (.int n2), some (.int n3), some (.int 0), none]) i_G_foretold_39 (of_decide_eq_true rfl) rfl ?_
        refine e_iload i_G_foretold_41 rfl ?_
        refine e_ifF i_G_foretold_43 (by decide) ?_
        refine e_iconst (v := (-1)) i_G_foretold_46 (by decide) ?_
        exact e_iretI i_G_foretold_47 rfl
      · refine e_aload_n i_G_foretold_23 rfl ?_
        refine e_getR i_G_foretold_24 lf_2 (by decide) ft_10_0 (fun v24 => ?_)
        refine e_iload_n i_G_foretold_27 rfl ?_
        refine e_callI (as := [.ref v24, .int n2]) (st' := []) i_G_foretold_28 lm_113 (Or.inr (Or.inl ⟨rfl, rfl⟩)) w_World_hasOne rfl rfl rfl (Nat.le_of_ble_eq_true rfl) (Nat.le_of_ble_eq_true rfl) (m_rlt (q_World_hasOne _) (by decide)) rfl (fun v28 s28 => ?_)
        refine e_ifeq (t := 38) i_G_foretold_31 (by decide) ?_ ?_
        · refine e_iconst (v := 0) i_G_foretold_38 (by decide) ?_
          refine e_istore (L' := [some (.ref w), some (.int n1), some (.int n2), some (.int n3), some (.int 0), none]) i_G_foretold_39 (of_decide_eq_true rfl) rfl ?_
          refine e_iload i_G_foretold_41 rfl ?_
          refine e_ifF i_G_foretold_43 (by decide) ?_
          refine e_iconst (v := (-1)) i_G_foretold_46 (by decide) ?_
          exact e_iretI i_G_foretold_47 rfl
        · refine e_iconst (v := 1) i_G_foretold_34 (by decide) ?_
          refine e_goto (t := 39) i_G_foretold_35 (by decide) ?_
          refine e_istore (L' := [some (.ref w), some (.int n1), some (.int n2), some (.int n3), some (.int 1), none]) i_G_foretold_39 (of_decide_eq_true rfl) rfl ?_
          refine e_iload i_G_foretold_41 rfl ?_
          refine e_ifT (t := 48) i_G_foretold_43 (by decide) (by decide) ?_
          refine e_aload_n i_G_foretold_48 rfl ?_
          refine e_getR i_G_foretold_49 lf_76 (by decide) ft_10_6 (fun v49 => ?_)
          refine e_aload_n i_G_foretold_52 rfl ?_
          refine e_getR i_G_foretold_53 lf_2 (by decide) ft_10_0 (fun v53 => ?_)
          refine e_callV (as := [.ref v49, .ref v53]) (st' := []) i_G_foretold_56 lm_98 (Or.inr (Or.inl ⟨rfl, rfl⟩)) w_World_takeOver rfl rfl rfl (Nat.le_of_ble_eq_true rfl) (Nat.le_of_ble_eq_true rfl) (m_rlt (q_World_takeOver _) (by decide)) rfl (fun s56 => ?_)
          refine e_iconst (v := 0) i_G_foretold_59 (by decide) ?_
          refine e_istore (L' := [some (.ref w), some (.int n1), some (.int n2), some (.int n3), some (.int 1), some (.int 0)]) i_G_foretold_60 (of_decide_eq_true rfl) rfl ?_
          exact rfl
set_option maxRecDepth 20000 in
set_option maxHeartbeats 1000000 in
theorem E_G_foretold_62 (x : m_X) (ρ : Nat) (hρ : 7 ≤ ρ) (s : m_H) (w : Nat) (n1 : Int32) (n2 : Int32) (n3 : Int32) (n4 : Int32) (n5 : Int32)  : m_D x ρ k_G_foretold 62 [some (.ref w), some (.int n1), some (.int n2), some (.int n3), some (.int n4), some (.int n5)] [] s = if n1 ≤ n5 then (if n3 = 0 then ((m_fR s 10 6 w).bind fun v95 => (m_fR s 9 0 v95).bind fun v98 => (m_ia x s v98 23).bind fun v103 => some (some (.int v103), s)) else (m_fR s 10 6 w).bind fun v106 => if n3 = 1 then (m_bI (m_M x k_World_at [.ref v106, .int 15, .int n2] s) fun v122 s122 => some (some (.int v122), s122)) else m_bI (m_M x k_World_at [.ref v106, .int 8, .int n2] s) fun v122 s122 => some (some (.int v122), s122)) else (m_fR s 10 9 w).bind fun v69 => (m_fR s 10 6 w).bind fun v73 => m_bN (m_M x k_G_ruling [.ref w] s) (fun v77 s77 => m_bI (m_M x k_Law_passDay [.ref v69, .ref v73, .ref v77] s77) fun v80 s80 => m_D x ρ k_G_foretold 62 [some (.ref w), some (.int n1), some (.int n2), some (.int n3), some (.int n4), some (.int (n5 + (1 : Int32)))] [] s80) fun s77 => m_bI (m_M x k_Law_passDay [.ref v69, .ref v73, .null] s77) fun v80 s80 => m_D x ρ k_G_foretold 62 [some (.ref w), some (.int n1), some (.int n2), some (.int n3), some (.int n4), some (.int (n5 + (1 : Int32)))] [] s80 := by
  refine e_iload i_G_foretold_62 rfl ?_
  refine e_iload_n i_G_foretold_64 rfl ?_
  refine e_icmpge (t := 90) i_G_foretold_65 (by decide) ?_ ?_
  · refine e_iload_n i_G_foretold_90 rfl ?_
    refine e_ifne (t := 105) i_G_foretold_91 (by decide) ?_ ?_
    · refine e_aload_n i_G_foretold_105 rfl ?_
      refine e_getR i_G_foretold_106 lf_76 (by decide) ft_10_6 (fun v106 => ?_)
      refine e_iload_n i_G_foretold_109 rfl ?_
      refine e_iconst (v := 1) i_G_foretold_110 (by decide) ?_
      refine e_icmpne (t := 119) i_G_foretold_111 (by decide) ?_ ?_
      · refine e_bipush (v := 8) i_G_foretold_119 (by decide) ?_
        refine e_iload_n i_G_foretold_121 rfl ?_
        refine e_callI (as := [.ref v106, .int 8, .int n2]) (st' := []) i_G_foretold_122 lm_104 (Or.inr (Or.inl ⟨rfl, rfl⟩)) w_World_at rfl rfl rfl (Nat.le_of_ble_eq_true rfl) (Nat.le_of_ble_eq_true rfl) (m_rlt (q_World_at _) (Nat.lt_of_lt_of_le (by decide) hρ)) rfl (fun v122 s122 => ?_)
        exact e_iretI i_G_foretold_125 rfl
      · refine e_bipush (v := 15) i_G_foretold_114 (by decide) ?_
        refine e_goto (t := 121) i_G_foretold_116 (by decide) ?_
        refine e_iload_n i_G_foretold_121 rfl ?_
        refine e_callI (as := [.ref v106, .int 15, .int n2]) (st' := []) i_G_foretold_122 lm_104 (Or.inr (Or.inl ⟨rfl, rfl⟩)) w_World_at rfl rfl rfl (Nat.le_of_ble_eq_true rfl) (Nat.le_of_ble_eq_true rfl) (m_rlt (q_World_at _) (Nat.lt_of_lt_of_le (by decide) hρ)) rfl (fun v122 s122 => ?_)
        exact e_iretI i_G_foretold_125 rfl
    · refine e_aload_n i_G_foretold_94 rfl ?_
      refine e_getR i_G_foretold_95 lf_76 (by decide) ft_10_6 (fun v95 => ?_)
      refine e_getR i_G_foretold_98 lf_3 (by decide) ft_9_0 (fun v98 => ?_)
      refine e_bipush (v := 23) i_G_foretold_101 (by decide) ?_
      refine e_iald i_G_foretold_103 (fun v103 => ?_)
      exact e_iretI i_G_foretold_104 rfl
  · refine e_aload_n i_G_foretold_68 rfl ?_
    refine e_getR i_G_foretold_69 lf_34 (by decide) ft_10_9 (fun v69 => ?_)
    refine e_aload_n i_G_foretold_72 rfl ?_
    refine e_getR i_G_foretold_73 lf_76 (by decide) ft_10_6 (fun v73 => ?_)
    refine e_aload_n i_G_foretold_76 rfl ?_
    refine e_callN (as := [.ref w]) (st' := [.ref v73, .ref v69]) i_G_foretold_77 lm_211 (Or.inr (Or.inl ⟨rfl, rfl⟩)) w_G_ruling rfl rfl rfl (Nat.le_of_ble_eq_true rfl) (Nat.le_of_ble_eq_true rfl) (m_rlt (q_G_ruling _) (Nat.lt_of_lt_of_le (by decide) hρ)) rfl (fun v77 s77 => ?_) (fun s77 => ?_)
    · refine e_callI (as := [.ref v69, .ref v73, .ref v77]) (st' := []) i_G_foretold_80 lm_212 (Or.inr (Or.inl ⟨rfl, rfl⟩)) w_Law_passDay rfl rfl rfl (Nat.le_of_ble_eq_true rfl) (Nat.le_of_ble_eq_true rfl) (m_rlt (q_Law_passDay _) (Nat.lt_of_lt_of_le (by decide) hρ)) rfl (fun v80 s80 => ?_)
      refine e_pop i_G_foretold_83 rfl ?_
      refine e_iinc (w := 1) (L' := [some (.ref w), some (.int n1), some (.int n2), some (.int n3), some (.int n4), some (.int (n5 + (1 : Int32)))]) i_G_foretold_84 rfl (of_decide_eq_true rfl) (by decide) rfl ?_
      refine e_goto (t := 62) i_G_foretold_87 (by decide) ?_
      exact rfl
    · refine e_callI (as := [.ref v69, .ref v73, .null]) (st' := []) i_G_foretold_80 lm_212 (Or.inr (Or.inl ⟨rfl, rfl⟩)) w_Law_passDay rfl rfl rfl (Nat.le_of_ble_eq_true rfl) (Nat.le_of_ble_eq_true rfl) (m_rlt (q_Law_passDay _) (Nat.lt_of_lt_of_le (by decide) hρ)) rfl (fun v80 s80 => ?_)
      refine e_pop i_G_foretold_83 rfl ?_
      refine e_iinc (w := 1) (L' := [some (.ref w), some (.int n1), some (.int n2), some (.int n3), some (.int n4), some (.int (n5 + (1 : Int32)))]) i_G_foretold_84 rfl (of_decide_eq_true rfl) (by decide) rfl ?_
      refine e_goto (t := 62) i_G_foretold_87 (by decide) ?_
      exact rfl
theorem i_G_book_0 : m_at k_G_book 0 = some (.iload_n 1, 1, 0) := m_at_of r_G_book (by decide +kernel)
theorem i_G_book_1 : m_at k_G_book 1 = some (.iconst (-1), 1, 0) := m_at_of r_G_book (by decide +kernel)
theorem i_G_book_2 : m_at k_G_book 2 = some (.if_icmp .ne (14), 3, 0) := m_at_of r_G_book (by decide +kernel)
theorem i_G_book_5 : m_at k_G_book 5 = some (.aload_n 0, 1, 0) := m_at_of r_G_book (by decide +kernel)
theorem i_G_book_6 : m_at k_G_book 6 = some (.getfield 10, 3, 2) := m_at_of r_G_book (by decide +kernel)
theorem i_G_book_9 : m_at k_G_book 9 = some (.getfield 170, 3, 3) := m_at_of r_G_book (by decide +kernel)
theorem i_G_book_12 : m_at k_G_book 12 = some (.bipush 26, 2, 0) := m_at_of r_G_book (by decide +kernel)
theorem i_G_book_14 : m_at k_G_book 14 = some (.iaload, 1, 0) := m_at_of r_G_book (by decide +kernel)
theorem i_G_book_15 : m_at k_G_book 15 = some (.ireturn, 1, 0) := m_at_of r_G_book (by decide +kernel)
theorem i_G_book_16 : m_at k_G_book 16 = some (.aload_n 0, 1, 0) := m_at_of r_G_book (by decide +kernel)
theorem i_G_book_17 : m_at k_G_book 17 = some (.getfield 10, 3, 2) := m_at_of r_G_book (by decide +kernel)
theorem i_G_book_20 : m_at k_G_book 20 = some (.iload_n 1, 1, 0) := m_at_of r_G_book (by decide +kernel)
theorem i_G_book_21 : m_at k_G_book 21 = some (.invokevirtual 233, 3, 214) := m_at_of r_G_book (by decide +kernel)
theorem i_G_book_24 : m_at k_G_book 24 = some (.ifCond .ne (6), 3, 0) := m_at_of r_G_book (by decide +kernel)
theorem i_G_book_27 : m_at k_G_book 27 = some (.bipush (-2), 2, 0) := m_at_of r_G_book (by decide +kernel)
theorem i_G_book_29 : m_at k_G_book 29 = some (.ireturn, 1, 0) := m_at_of r_G_book (by decide +kernel)
theorem i_G_book_30 : m_at k_G_book 30 = some (.iload_n 2, 1, 0) := m_at_of r_G_book (by decide +kernel)
theorem i_G_book_31 : m_at k_G_book 31 = some (.tableswitch (52) (0) (2) #[25, 34, 43], 25, 0) := m_at_of r_G_book (by decide +kernel)
theorem i_G_book_56 : m_at k_G_book 56 = some (.aload_n 0, 1, 0) := m_at_of r_G_book (by decide +kernel)
theorem i_G_book_57 : m_at k_G_book 57 = some (.getfield 10, 3, 2) := m_at_of r_G_book (by decide +kernel)
theorem i_G_book_60 : m_at k_G_book 60 = some (.iload_n 1, 1, 0) := m_at_of r_G_book (by decide +kernel)
theorem i_G_book_61 : m_at k_G_book 61 = some (.invokevirtual 236, 3, 215) := m_at_of r_G_book (by decide +kernel)
theorem i_G_book_64 : m_at k_G_book 64 = some (.ireturn, 1, 0) := m_at_of r_G_book (by decide +kernel)
theorem i_G_book_65 : m_at k_G_book 65 = some (.aload_n 0, 1, 0) := m_at_of r_G_book (by decide +kernel)
theorem i_G_book_66 : m_at k_G_book 66 = some (.getfield 10, 3, 2) := m_at_of r_G_book (by decide +kernel)
theorem i_G_book_69 : m_at k_G_book 69 = some (.iload_n 1, 1, 0) := m_at_of r_G_book (by decide +kernel)
theorem i_G_book_70 : m_at k_G_book 70 = some (.invokevirtual 239, 3, 114) := m_at_of r_G_book (by decide +kernel)
theorem i_G_book_73 : m_at k_G_book 73 = some (.ireturn, 1, 0) := m_at_of r_G_book (by decide +kernel)
theorem i_G_book_74 : m_at k_G_book 74 = some (.aload_n 0, 1, 0) := m_at_of r_G_book (by decide +kernel)
theorem i_G_book_75 : m_at k_G_book 75 = some (.getfield 10, 3, 2) := m_at_of r_G_book (by decide +kernel)
theorem i_G_book_78 : m_at k_G_book 78 = some (.iload_n 1, 1, 0) := m_at_of r_G_book (by decide +kernel)
theorem i_G_book_79 : m_at k_G_book 79 = some (.invokevirtual 242, 3, 115) := m_at_of r_G_book (by decide +kernel)
theorem i_G_book_82 : m_at k_G_book 82 = some (.ireturn, 1, 0) := m_at_of r_G_book (by decide +kernel)
theorem i_G_book_83 : m_at k_G_book 83 = some (.bipush (-2), 2, 0) := m_at_of r_G_book (by decide +kernel)
theorem i_G_book_85 : m_at k_G_book 85 = some (.ireturn, 1, 0) := m_at_of r_G_book (by decide +kernel)
set_option maxRecDepth 20000 in
set_option maxHeartbeats 1000000 in
theorem E_G_book (x : m_X) (s : m_H) (w : Nat) (n1 : Int32) (n2 : Int32) : m_M x k_G_book [.ref w, .int n1, .int n2] s = if m_isO s w 10 = true then (if n1 = (-1) then ((m_fR s 10 0 w).bind fun v6 => (m_fR s 9 0 v6).bind fun v9 => (m_ia x s v9 26).bind fun v14 => some (some (.int v14), s)) else (m_fR s 10 0 w).bind fun v17 => m_bI (m_M x k_World_hasFine [.ref v17, .int n1] s) fun v21 s21 => if v21 = 0 then (some (some (.int (-2)), s21)) else if n2 = 0 then ((m_fR s21 10 0 w).bind fun v57 => m_bI (m_M x k_World_fineDay [.ref v57, .int n1] s21) fun v61 s61 => some (some (.int v61), s61)) else if n2 = 1 then ((m_fR s21 10 0 w).bind fun v66 => m_bI (m_M x k_World_fineWho [.ref v66, .int n1] s21) fun v70 s70 => some (some (.int v70), s70)) else if n2 = 2 then ((m_fR s21 10 0 w).bind fun v75 => m_bI (m_M x k_World_fineCoins [.ref v75, .int n1] s21) fun v79 s79 => some (some (.int v79), s79)) else some (some (.int (-2)), s21)) else none := by
  refine e_M1 (L0 := [some (.ref w), some (.int n1), some (.int n2)]) rfl (by decide +kernel) rfl (q_G_book _) rfl ?_
  refine e_iload_n i_G_book_0 rfl ?_
  refine e_iconst (v := (-1)) i_G_book_1 (by decide) ?_
  refine e_icmpne (t := 16) i_G_book_2 (by decide) ?_ ?_
  · refine e_aload_n i_G_book_16 rfl ?_
    refine e_getR i_G_book_17 lf_2 (by decide) ft_10_0 (fun v17 => ?_)
    refine e_iload_n i_G_book_20 rfl ?_
    refine e_callI (as := [.ref v17, .int n1]) (st' := []) i_G_book_21 lm_214 (Or.inr (Or.inl ⟨rfl, rfl⟩)) w_World_hasFine rfl rfl rfl (Nat.le_of_ble_eq_true rfl) (Nat.le_of_ble_eq_true rfl) (m_rlt (q_World_hasFine _) (by decide)) rfl (fun v21 s21 => ?_)
    refine e_ifne (t := 30) i_G_book_24 (by decide) ?_ ?_
    · refine e_iload_n i_G_book_30 rfl ?_
      refine e_tsw (cs := [(0, 56), (1, 65), (2, 74)]) (td := 83) i_G_book_31 (by decide +kernel) ?_
      refine m_sw_c ?_ ?_
      · refine e_aload_n i_G_book_56 rfl ?_
        refine e_getR i_G_book_57 lf_2 (by decide) ft_10_0 (fun v57 => ?_)
        refine e_iload_n i_G_book_60 rfl ?_
        refine e_callI (as := [.ref v57, .int n1]) (st' := []) i_G_book_61 lm_215 (Or.inr (Or.inl ⟨rfl, rfl⟩)) w_World_fineDay rfl rfl rfl (Nat.le_of_ble_eq_true rfl) (Nat.le_of_ble_eq_true rfl) (m_rlt (q_World_fineDay _) (by decide)) rfl (fun v61 s61 => ?_)
        exact e_iretI i_G_book_64 rfl
      refine m_sw_c ?_ ?_
      · refine e_aload_n i_G_book_65 rfl ?_
        refine e_getR i_G_book_66 lf_2 (by decide) ft_10_0 (fun v66 => ?_)
        refine e_iload_n i_G_book_69 rfl ?_
        refine e_callI (as := [.ref v66, .int n1]) (st' := []) i_G_book_70 lm_114 (Or.inr (Or.inl ⟨rfl, rfl⟩)) w_World_fineWho rfl rfl rfl (Nat.le_of_ble_eq_true rfl) (Nat.le_of_ble_eq_true rfl) (m_rlt (q_World_fineWho _) (by decide)) rfl (fun v70 s70 => ?_)
        exact e_iretI i_G_book_73 rfl
      refine m_sw_c ?_ ?_
      · refine e_aload_n i_G_book_74 rfl ?_
        refine e_getR i_G_book_75 lf_2 (by decide) ft_10_0 (fun v75 => ?_)
        refine e_iload_n i_G_book_78 rfl ?_
        refine e_callI (as := [.ref v75, .int n1]) (st' := []) i_G_book_79 lm_115 (Or.inr (Or.inl ⟨rfl, rfl⟩)) w_World_fineCoins rfl rfl rfl (Nat.le_of_ble_eq_true rfl) (Nat.le_of_ble_eq_true rfl) (m_rlt (q_World_fineCoins _) (by decide)) rfl (fun v79 s79 => ?_)
        exact e_iretI i_G_book_82 rfl
      refine m_sw_n ?_
      refine e_bipush (v := (-2)) i_G_book_83 (by decide) ?_
      exact e_iretI i_G_book_85 rfl
    · refine e_bipush (v := (-2)) i_G_book_27 (by decide) ?_
      exact e_iretI i_G_book_29 rfl
  · refine e_aload_n i_G_book_5 rfl ?_
    refine e_getR i_G_book_6 lf_2 (by decide) ft_10_0 (fun v6 => ?_)
    refine e_getR i_G_book_9 lf_3 (by decide) ft_9_0 (fun v9 => ?_)
    refine e_bipush (v := 26) i_G_book_12 (by decide) ?_
    refine e_iald i_G_book_14 (fun v14 => ?_)
    exact e_iretI i_G_book_15 rfl
theorem i_G_is_0 : m_at k_G_is 0 = some (.iload_n 1, 1, 0) := m_at_of r_G_is (by decide +kernel)
theorem i_G_is_1 : m_at k_G_is 1 = some (.tableswitch (75) (0) (3) #[31, 42, 53, 64], 31, 0) := m_at_of r_G_is (by decide +kernel)
theorem i_G_is_32 : m_at k_G_is 32 = some (.aload_n 0, 1, 0) := m_at_of r_G_is (by decide +kernel)
theorem i_G_is_33 : m_at k_G_is 33 = some (.getfield 10, 3, 2) := m_at_of r_G_is (by decide +kernel)
theorem i_G_is_36 : m_at k_G_is 36 = some (.getfield 170, 3, 3) := m_at_of r_G_is (by decide +kernel)
theorem i_G_is_39 : m_at k_G_is 39 = some (.bipush 22, 2, 0) := m_at_of r_G_is (by decide +kernel)
theorem i_G_is_41 : m_at k_G_is 41 = some (.iaload, 1, 0) := m_at_of r_G_is (by decide +kernel)
theorem i_G_is_42 : m_at k_G_is 42 = some (.ireturn, 1, 0) := m_at_of r_G_is (by decide +kernel)
theorem i_G_is_43 : m_at k_G_is 43 = some (.aload_n 0, 1, 0) := m_at_of r_G_is (by decide +kernel)
theorem i_G_is_44 : m_at k_G_is 44 = some (.getfield 10, 3, 2) := m_at_of r_G_is (by decide +kernel)
theorem i_G_is_47 : m_at k_G_is 47 = some (.getfield 170, 3, 3) := m_at_of r_G_is (by decide +kernel)
theorem i_G_is_50 : m_at k_G_is 50 = some (.bipush 23, 2, 0) := m_at_of r_G_is (by decide +kernel)
theorem i_G_is_52 : m_at k_G_is 52 = some (.iaload, 1, 0) := m_at_of r_G_is (by decide +kernel)
theorem i_G_is_53 : m_at k_G_is 53 = some (.ireturn, 1, 0) := m_at_of r_G_is (by decide +kernel)
theorem i_G_is_54 : m_at k_G_is 54 = some (.aload_n 0, 1, 0) := m_at_of r_G_is (by decide +kernel)
theorem i_G_is_55 : m_at k_G_is 55 = some (.getfield 10, 3, 2) := m_at_of r_G_is (by decide +kernel)
theorem i_G_is_58 : m_at k_G_is 58 = some (.getfield 170, 3, 3) := m_at_of r_G_is (by decide +kernel)
theorem i_G_is_61 : m_at k_G_is 61 = some (.bipush 24, 2, 0) := m_at_of r_G_is (by decide +kernel)
theorem i_G_is_63 : m_at k_G_is 63 = some (.iaload, 1, 0) := m_at_of r_G_is (by decide +kernel)
theorem i_G_is_64 : m_at k_G_is 64 = some (.ireturn, 1, 0) := m_at_of r_G_is (by decide +kernel)
theorem i_G_is_65 : m_at k_G_is 65 = some (.aload_n 0, 1, 0) := m_at_of r_G_is (by decide +kernel)
theorem i_G_is_66 : m_at k_G_is 66 = some (.getfield 10, 3, 2) := m_at_of r_G_is (by decide +kernel)
theorem i_G_is_69 : m_at k_G_is 69 = some (.getfield 170, 3, 3) := m_at_of r_G_is (by decide +kernel)
theorem i_G_is_72 : m_at k_G_is 72 = some (.bipush 25, 2, 0) := m_at_of r_G_is (by decide +kernel)
theorem i_G_is_74 : m_at k_G_is 74 = some (.iaload, 1, 0) := m_at_of r_G_is (by decide +kernel)
theorem i_G_is_75 : m_at k_G_is 75 = some (.ireturn, 1, 0) := m_at_of r_G_is (by decide +kernel)
theorem i_G_is_76 : m_at k_G_is 76 = some (.bipush (-2), 2, 0) := m_at_of r_G_is (by decide +kernel)
theorem i_G_is_78 : m_at k_G_is 78 = some (.ireturn, 1, 0) := m_at_of r_G_is (by decide +kernel)
set_option maxRecDepth 20000 in
set_option maxHeartbeats 1000000 in
theorem E_G_is (x : m_X) (s : m_H) (w : Nat) (n1 : Int32) : m_M x k_G_is [.ref w, .int n1] s = if m_isO s w 10 = true then (if n1 = 0 then ((m_fR s 10 0 w).bind fun v33 => (m_fR s 9 0 v33).bind fun v36 => (m_ia x s v36 22).bind fun v41 => some (some (.int v41), s)) else if n1 = 1 then ((m_fR s 10 0 w).bind fun v44 => (m_fR s 9 0 v44).bind fun v47 => (m_ia x s v47 23).bind fun v52 => some (some (.int v52), s)) else if n1 = 2 then ((m_fR s 10 0 w).bind fun v55 => (m_fR s 9 0 v55).bind fun v58 => (m_ia x s v58 24).bind fun v63 => some (some (.int v63), s)) else if n1 = 3 then ((m_fR s 10 0 w).bind fun v66 => (m_fR s 9 0 v66).bind fun v69 => (m_ia x s v69 25).bind fun v74 => some (some (.int v74), s)) else some (some (.int (-2)), s)) else none := by
  refine e_M1 (L0 := [some (.ref w), some (.int n1)]) rfl (by decide +kernel) rfl (q_G_is _) rfl ?_
  refine e_iload_n i_G_is_0 rfl ?_
  refine e_tsw (cs := [(0, 32), (1, 43), (2, 54), (3, 65)]) (td := 76) i_G_is_1 (by decide +kernel) ?_
  refine m_sw_c ?_ ?_
  · refine e_aload_n i_G_is_32 rfl ?_
    refine e_getR i_G_is_33 lf_2 (by decide) ft_10_0 (fun v33 => ?_)
    refine e_getR i_G_is_36 lf_3 (by decide) ft_9_0 (fun v36 => ?_)
    refine e_bipush (v := 22) i_G_is_39 (by decide) ?_
    refine e_iald i_G_is_41 (fun v41 => ?_)
    exact e_iretI i_G_is_42 rfl
  refine m_sw_c ?_ ?_
  · refine e_aload_n i_G_is_43 rfl ?_
    refine e_getR i_G_is_44 lf_2 (by decide) ft_10_0 (fun v44 => ?_)
    refine e_getR i_G_is_47 lf_3 (by decide) ft_9_0 (fun v47 => ?_)
    refine e_bipush (v := 23) i_G_is_50 (by decide) ?_
    refine e_iald i_G_is_52 (fun v52 => ?_)
    exact e_iretI i_G_is_53 rfl
  refine m_sw_c ?_ ?_
  · refine e_aload_n i_G_is_54 rfl ?_
    refine e_getR i_G_is_55 lf_2 (by decide) ft_10_0 (fun v55 => ?_)
    refine e_getR i_G_is_58 lf_3 (by decide) ft_9_0 (fun v58 => ?_)
    refine e_bipush (v := 24) i_G_is_61 (by decide) ?_
    refine e_iald i_G_is_63 (fun v63 => ?_)
    exact e_iretI i_G_is_64 rfl
  refine m_sw_c ?_ ?_
  · refine e_aload_n i_G_is_65 rfl ?_
    refine e_getR i_G_is_66 lf_2 (by decide) ft_10_0 (fun v66 => ?_)
    refine e_getR i_G_is_69 lf_3 (by decide) ft_9_0 (fun v69 => ?_)
    refine e_bipush (v := 25) i_G_is_72 (by decide) ?_
    refine e_iald i_G_is_74 (fun v74 => ?_)
    exact e_iretI i_G_is_75 rfl
  refine m_sw_n ?_
  refine e_bipush (v := (-2)) i_G_is_76 (by decide) ?_
  exact e_iretI i_G_is_78 rfl
theorem i_G_ofGlove_0 : m_at k_G_ofGlove 0 = some (.aload_n 0, 1, 0) := m_at_of r_G_ofGlove (by decide +kernel)
theorem i_G_ofGlove_1 : m_at k_G_ofGlove 1 = some (.getfield 10, 3, 2) := m_at_of r_G_ofGlove (by decide +kernel)
theorem i_G_ofGlove_4 : m_at k_G_ofGlove 4 = some (.iload_n 1, 1, 0) := m_at_of r_G_ofGlove (by decide +kernel)
theorem i_G_ofGlove_5 : m_at k_G_ofGlove 5 = some (.invokevirtual 230, 3, 121) := m_at_of r_G_ofGlove (by decide +kernel)
theorem i_G_ofGlove_8 : m_at k_G_ofGlove 8 = some (.ifCond .ne (5), 3, 0) := m_at_of r_G_ofGlove (by decide +kernel)
theorem i_G_ofGlove_11 : m_at k_G_ofGlove 11 = some (.iconst (-1), 1, 0) := m_at_of r_G_ofGlove (by decide +kernel)
theorem i_G_ofGlove_12 : m_at k_G_ofGlove 12 = some (.ireturn, 1, 0) := m_at_of r_G_ofGlove (by decide +kernel)
theorem i_G_ofGlove_13 : m_at k_G_ofGlove 13 = some (.iload_n 2, 1, 0) := m_at_of r_G_ofGlove (by decide +kernel)
theorem i_G_ofGlove_14 : m_at k_G_ofGlove 14 = some (.tableswitch (163) (0) (8) #[50, 61, 72, 83, 94, 105, 116, 127, 145], 50, 0) := m_at_of r_G_ofGlove (by decide +kernel)
theorem i_G_ofGlove_64 : m_at k_G_ofGlove 64 = some (.aload_n 0, 1, 0) := m_at_of r_G_ofGlove (by decide +kernel)
theorem i_G_ofGlove_65 : m_at k_G_ofGlove 65 = some (.getfield 10, 3, 2) := m_at_of r_G_ofGlove (by decide +kernel)
theorem i_G_ofGlove_68 : m_at k_G_ofGlove 68 = some (.bipush 27, 2, 0) := m_at_of r_G_ofGlove (by decide +kernel)
theorem i_G_ofGlove_70 : m_at k_G_ofGlove 70 = some (.iload_n 1, 1, 0) := m_at_of r_G_ofGlove (by decide +kernel)
theorem i_G_ofGlove_71 : m_at k_G_ofGlove 71 = some (.invokevirtual 212, 3, 104) := m_at_of r_G_ofGlove (by decide +kernel)
theorem i_G_ofGlove_74 : m_at k_G_ofGlove 74 = some (.ireturn, 1, 0) := m_at_of r_G_ofGlove (by decide +kernel)
theorem i_G_ofGlove_75 : m_at k_G_ofGlove 75 = some (.aload_n 0, 1, 0) := m_at_of r_G_ofGlove (by decide +kernel)
theorem i_G_ofGlove_76 : m_at k_G_ofGlove 76 = some (.getfield 10, 3, 2) := m_at_of r_G_ofGlove (by decide +kernel)
theorem i_G_ofGlove_79 : m_at k_G_ofGlove 79 = some (.bipush 39, 2, 0) := m_at_of r_G_ofGlove (by decide +kernel)
theorem i_G_ofGlove_81 : m_at k_G_ofGlove 81 = some (.iload_n 1, 1, 0) := m_at_of r_G_ofGlove (by decide +kernel)
theorem i_G_ofGlove_82 : m_at k_G_ofGlove 82 = some (.invokevirtual 212, 3, 104) := m_at_of r_G_ofGlove (by decide +kernel)
theorem i_G_ofGlove_85 : m_at k_G_ofGlove 85 = some (.ireturn, 1, 0) := m_at_of r_G_ofGlove (by decide +kernel)
theorem i_G_ofGlove_86 : m_at k_G_ofGlove 86 = some (.aload_n 0, 1, 0) := m_at_of r_G_ofGlove (by decide +kernel)
theorem i_G_ofGlove_87 : m_at k_G_ofGlove 87 = some (.getfield 10, 3, 2) := m_at_of r_G_ofGlove (by decide +kernel)
theorem i_G_ofGlove_90 : m_at k_G_ofGlove 90 = some (.bipush 51, 2, 0) := m_at_of r_G_ofGlove (by decide +kernel)
theorem i_G_ofGlove_92 : m_at k_G_ofGlove 92 = some (.iload_n 1, 1, 0) := m_at_of r_G_ofGlove (by decide +kernel)
theorem i_G_ofGlove_93 : m_at k_G_ofGlove 93 = some (.invokevirtual 212, 3, 104) := m_at_of r_G_ofGlove (by decide +kernel)
theorem i_G_ofGlove_96 : m_at k_G_ofGlove 96 = some (.ireturn, 1, 0) := m_at_of r_G_ofGlove (by decide +kernel)
theorem i_G_ofGlove_97 : m_at k_G_ofGlove 97 = some (.aload_n 0, 1, 0) := m_at_of r_G_ofGlove (by decide +kernel)
theorem i_G_ofGlove_98 : m_at k_G_ofGlove 98 = some (.getfield 10, 3, 2) := m_at_of r_G_ofGlove (by decide +kernel)
theorem i_G_ofGlove_101 : m_at k_G_ofGlove 101 = some (.bipush 63, 2, 0) := m_at_of r_G_ofGlove (by decide +kernel)
theorem i_G_ofGlove_103 : m_at k_G_ofGlove 103 = some (.iload_n 1, 1, 0) := m_at_of r_G_ofGlove (by decide +kernel)
theorem i_G_ofGlove_104 : m_at k_G_ofGlove 104 = some (.invokevirtual 212, 3, 104) := m_at_of r_G_ofGlove (by decide +kernel)
theorem i_G_ofGlove_107 : m_at k_G_ofGlove 107 = some (.ireturn, 1, 0) := m_at_of r_G_ofGlove (by decide +kernel)
theorem i_G_ofGlove_108 : m_at k_G_ofGlove 108 = some (.aload_n 0, 1, 0) := m_at_of r_G_ofGlove (by decide +kernel)
theorem i_G_ofGlove_109 : m_at k_G_ofGlove 109 = some (.getfield 10, 3, 2) := m_at_of r_G_ofGlove (by decide +kernel)
theorem i_G_ofGlove_112 : m_at k_G_ofGlove 112 = some (.bipush 75, 2, 0) := m_at_of r_G_ofGlove (by decide +kernel)
theorem i_G_ofGlove_114 : m_at k_G_ofGlove 114 = some (.iload_n 1, 1, 0) := m_at_of r_G_ofGlove (by decide +kernel)
theorem i_G_ofGlove_115 : m_at k_G_ofGlove 115 = some (.invokevirtual 212, 3, 104) := m_at_of r_G_ofGlove (by decide +kernel)
theorem i_G_ofGlove_118 : m_at k_G_ofGlove 118 = some (.ireturn, 1, 0) := m_at_of r_G_ofGlove (by decide +kernel)
theorem i_G_ofGlove_119 : m_at k_G_ofGlove 119 = some (.aload_n 0, 1, 0) := m_at_of r_G_ofGlove (by decide +kernel)
theorem i_G_ofGlove_120 : m_at k_G_ofGlove 120 = some (.getfield 10, 3, 2) := m_at_of r_G_ofGlove (by decide +kernel)
theorem i_G_ofGlove_123 : m_at k_G_ofGlove 123 = some (.bipush 87, 2, 0) := m_at_of r_G_ofGlove (by decide +kernel)
theorem i_G_ofGlove_125 : m_at k_G_ofGlove 125 = some (.iload_n 1, 1, 0) := m_at_of r_G_ofGlove (by decide +kernel)
theorem i_G_ofGlove_126 : m_at k_G_ofGlove 126 = some (.invokevirtual 212, 3, 104) := m_at_of r_G_ofGlove (by decide +kernel)
theorem i_G_ofGlove_129 : m_at k_G_ofGlove 129 = some (.ireturn, 1, 0) := m_at_of r_G_ofGlove (by decide +kernel)
theorem i_G_ofGlove_130 : m_at k_G_ofGlove 130 = some (.aload_n 0, 1, 0) := m_at_of r_G_ofGlove (by decide +kernel)
theorem i_G_ofGlove_131 : m_at k_G_ofGlove 131 = some (.getfield 10, 3, 2) := m_at_of r_G_ofGlove (by decide +kernel)
theorem i_G_ofGlove_134 : m_at k_G_ofGlove 134 = some (.bipush 99, 2, 0) := m_at_of r_G_ofGlove (by decide +kernel)
theorem i_G_ofGlove_136 : m_at k_G_ofGlove 136 = some (.iload_n 1, 1, 0) := m_at_of r_G_ofGlove (by decide +kernel)
theorem i_G_ofGlove_137 : m_at k_G_ofGlove 137 = some (.invokevirtual 212, 3, 104) := m_at_of r_G_ofGlove (by decide +kernel)
theorem i_G_ofGlove_140 : m_at k_G_ofGlove 140 = some (.ireturn, 1, 0) := m_at_of r_G_ofGlove (by decide +kernel)
theorem i_G_ofGlove_141 : m_at k_G_ofGlove 141 = some (.aload_n 0, 1, 0) := m_at_of r_G_ofGlove (by decide +kernel)
theorem i_G_ofGlove_142 : m_at k_G_ofGlove 142 = some (.getfield 59, 3, 34) := m_at_of r_G_ofGlove (by decide +kernel)
theorem i_G_ofGlove_145 : m_at k_G_ofGlove 145 = some (.iconst 2, 1, 0) := m_at_of r_G_ofGlove (by decide +kernel)
theorem i_G_ofGlove_146 : m_at k_G_ofGlove 146 = some (.aload_n 0, 1, 0) := m_at_of r_G_ofGlove (by decide +kernel)
theorem i_G_ofGlove_147 : m_at k_G_ofGlove 147 = some (.invokevirtual 160, 3, 211) := m_at_of r_G_ofGlove (by decide +kernel)
theorem i_G_ofGlove_150 : m_at k_G_ofGlove 150 = some (.aload_n 0, 1, 0) := m_at_of r_G_ofGlove (by decide +kernel)
theorem i_G_ofGlove_151 : m_at k_G_ofGlove 151 = some (.getfield 10, 3, 2) := m_at_of r_G_ofGlove (by decide +kernel)
theorem i_G_ofGlove_154 : m_at k_G_ofGlove 154 = some (.iload_n 1, 1, 0) := m_at_of r_G_ofGlove (by decide +kernel)
theorem i_G_ofGlove_155 : m_at k_G_ofGlove 155 = some (.invokevirtual 223, 3, 122) := m_at_of r_G_ofGlove (by decide +kernel)
theorem i_G_ofGlove_158 : m_at k_G_ofGlove 158 = some (.ireturn, 1, 0) := m_at_of r_G_ofGlove (by decide +kernel)
theorem i_G_ofGlove_159 : m_at k_G_ofGlove 159 = some (.aload_n 0, 1, 0) := m_at_of r_G_ofGlove (by decide +kernel)
theorem i_G_ofGlove_160 : m_at k_G_ofGlove 160 = some (.getfield 59, 3, 34) := m_at_of r_G_ofGlove (by decide +kernel)
theorem i_G_ofGlove_163 : m_at k_G_ofGlove 163 = some (.iconst 3, 1, 0) := m_at_of r_G_ofGlove (by decide +kernel)
theorem i_G_ofGlove_164 : m_at k_G_ofGlove 164 = some (.aload_n 0, 1, 0) := m_at_of r_G_ofGlove (by decide +kernel)
theorem i_G_ofGlove_165 : m_at k_G_ofGlove 165 = some (.invokevirtual 160, 3, 211) := m_at_of r_G_ofGlove (by decide +kernel)
theorem i_G_ofGlove_168 : m_at k_G_ofGlove 168 = some (.aload_n 0, 1, 0) := m_at_of r_G_ofGlove (by decide +kernel)
theorem i_G_ofGlove_169 : m_at k_G_ofGlove 169 = some (.getfield 10, 3, 2) := m_at_of r_G_ofGlove (by decide +kernel)
theorem i_G_ofGlove_172 : m_at k_G_ofGlove 172 = some (.iload_n 1, 1, 0) := m_at_of r_G_ofGlove (by decide +kernel)
theorem i_G_ofGlove_173 : m_at k_G_ofGlove 173 = some (.invokevirtual 223, 3, 122) := m_at_of r_G_ofGlove (by decide +kernel)
theorem i_G_ofGlove_176 : m_at k_G_ofGlove 176 = some (.ireturn, 1, 0) := m_at_of r_G_ofGlove (by decide +kernel)
theorem i_G_ofGlove_177 : m_at k_G_ofGlove 177 = some (.iconst (-1), 1, 0) := m_at_of r_G_ofGlove (by decide +kernel)
theorem i_G_ofGlove_178 : m_at k_G_ofGlove 178 = some (.ireturn, 1, 0) := m_at_of r_G_ofGlove (by decide +kernel)
set_option maxRecDepth 20000 in
set_option maxHeartbeats 1000000 in
theorem E_G_ofGlove (x : m_X) (s : m_H) (w : Nat) (n1 : Int32) (n2 : Int32) : m_M x k_G_ofGlove [.ref w, .int n1, .int n2] s = if m_isO s w 10 = true then ((m_fR s 10 0 w).bind fun v1 => m_bI (m_M x k_World_hasGlove [.ref v1, .int n1] s) fun v5 s5 => if v5 = 0 then (some (some (.int (-1)), s5)) else if n2 = 0 then ((m_fR s5 10 0 w).bind fun v65 => m_bI (m_M x k_World_at [.ref v65, .int 27, .int n1] s5) fun v71 s71 => some (some (.int v71), s71)) else if n2 = 1 then ((m_fR s5 10 0 w).bind fun v76 => m_bI (m_M x k_World_at [.ref v76, .int 39, .int n1] s5) fun v82 s82 => some (some (.int v82), s82)) else if n2 = 2 then ((m_fR s5 10 0 w).bind fun v87 => m_bI (m_M x k_World_at [.ref v87, .int 51, .int n1] s5) fun v93 s93 => some (some (.int v93), s93)) else if n2 = 3 then ((m_fR s5 10 0 w).bind fun v98 => m_bI (m_M x k_World_at [.ref v98, .int 63, .int n1] s5) fun v104 s104 => some (some (.int v104), s104)) else if n2 = 4 then ((m_fR s5 10 0 w).bind fun v109 => m_bI (m_M x k_World_at [.ref v109, .int 75, .int n1] s5) fun v115 s115 => some (some (.int v115), s115)) else if n2 = 5 then ((m_fR s5 10 0 w).bind fun v120 => m_bI (m_M x k_World_at [.ref v120, .int 87, .int n1] s5) fun v126 s126 => some (some (.int v126), s126)) else if n2 = 6 then ((m_fR s5 10 0 w).bind fun v131 => m_bI (m_M x k_World_at [.ref v131, .int 99, .int n1] s5) fun v137 s137 => some (some (.int v137), s137)) else if n2 = 7 then ((m_fR s5 10 9 w).bind fun v142 => m_bN (m_M x k_G_ruling [.ref w] s5) (fun v147 s147 => (m_fR s147 10 0 w).bind fun v151 => m_bI (m_M x k_Law_amount [.ref v142, .int 2, .ref v147, .ref v151, .int n1] s147) fun v155 s155 => some (some (.int v155), s155)) fun s147 => (m_fR s147 10 0 w).bind fun v151 => m_bI (m_M x k_Law_amount [.ref v142, .int 2, .null, .ref v151, .int n1] s147) fun v155 s155 => some (some (.int v155), s155)) else if n2 = 8 then ((m_fR s5 10 9 w).bind fun v160 => m_bN (m_M x k_G_ruling [.ref w] s5) (fun v165 s165 => (m_fR s165 10 0 w).bind fun v169 => m_bI (m_M x k_Law_amount [.ref v160, .int 3, .ref v165, .ref v169, .int n1] s165) fun v173 s173 => some (some (.int v173), s173)) fun s165 => (m_fR s165 10 0 w).bind fun v169 => m_bI (m_M x k_Law_amount [.ref v160, .int 3, .null, .ref v169, .int n1] s165) fun v173 s173 => some (some (.int v173), s173)) else some (some (.int (-1)), s5)) else none := by
  refine e_M1 (L0 := [some (.ref w), some (.int n1), some (.int n2)]) rfl (by decide +kernel) rfl (q_G_ofGlove _) rfl ?_
  refine e_aload_n i_G_ofGlove_0 rfl ?_
  refine e_getR i_G_ofGlove_1 lf_2 (by decide) ft_10_0 (fun v1 => ?_)
  refine e_iload_n i_G_ofGlove_4 rfl ?_
  refine e_callI (as := [.ref v1, .int n1]) (st' := []) i_G_ofGlove_5 lm_121 (Or.inr (Or.inl ⟨rfl, rfl⟩)) w_World_hasGlove rfl rfl rfl (Nat.le_of_ble_eq_true rfl) (Nat.le_of_ble_eq_true rfl) (m_rlt (q_World_hasGlove _) (by decide)) rfl (fun v5 s5 => ?_)
  refine e_ifne (t := 13) i_G_ofGlove_8 (by decide) ?_ ?_
  · refine e_iload_n i_G_ofGlove_13 rfl ?_
    refine e_tsw (cs := [(0, 64), (1, 75), (2, 86), (3, 97), (4, 108), (5, 119), (6, 130), (7, 141), (8, 159)]) (td := 177) i_G_ofGlove_14 (by decide +kernel) ?_
    refine m_sw_c ?_ ?_
    · refine e_aload_n i_G_ofGlove_64 rfl ?_
      refine e_getR i_G_ofGlove_65 lf_2 (by decide) ft_10_0 (fun v65 => ?_)
      refine e_bipush (v := 27) i_G_ofGlove_68 (by decide) ?_
      refine e_iload_n i_G_ofGlove_70 rfl ?_
      refine e_callI (as := [.ref v65, .int 27, .int n1]) (st' := []) i_G_ofGlove_71 lm_104 (Or.inr (Or.inl ⟨rfl, rfl⟩)) w_World_at rfl rfl rfl (Nat.le_of_ble_eq_true rfl) (Nat.le_of_ble_eq_true rfl) (m_rlt (q_World_at _) (by decide)) rfl (fun v71 s71 => ?_)
      exact e_iretI i_G_ofGlove_74 rfl
    refine m_sw_c ?_ ?_
    · refine e_aload_n i_G_ofGlove_75 rfl ?_
      refine e_getR i_G_ofGlove_76 lf_2 (by decide) ft_10_0 (fun v76 => ?_)
      refine e_bipush (v := 39) i_G_ofGlove_79 (by decide) ?_
      refine e_iload_n i_G_ofGlove_81 rfl ?_
      refine e_callI (as := [.ref v76, .int 39, .int n1]) (st' := []) i_G_ofGlove_82 lm_104 (Or.inr (Or.inl ⟨rfl, rfl⟩)) w_World_at rfl rfl rfl (Nat.le_of_ble_eq_true rfl) (Nat.le_of_ble_eq_true rfl) (m_rlt (q_World_at _) (by decide)) rfl (fun v82 s82 => ?_)
      exact e_iretI i_G_ofGlove_85 rfl
    refine m_sw_c ?_ ?_
    · refine e_aload_n i_G_ofGlove_86 rfl ?_
      refine e_getR i_G_ofGlove_87 lf_2 (by decide) ft_10_0 (fun v87 => ?_)
      refine e_bipush (v := 51) i_G_ofGlove_90 (by decide) ?_
      refine e_iload_n i_G_ofGlove_92 rfl ?_
      refine e_callI (as := [.ref v87, .int 51, .int n1]) (st' := []) i_G_ofGlove_93 lm_104 (Or.inr (Or.inl ⟨rfl, rfl⟩)) w_World_at rfl rfl rfl (Nat.le_of_ble_eq_true rfl) (Nat.le_of_ble_eq_true rfl) (m_rlt (q_World_at _) (by decide)) rfl (fun v93 s93 => ?_)
      exact e_iretI i_G_ofGlove_96 rfl
    refine m_sw_c ?_ ?_
    · refine e_aload_n i_G_ofGlove_97 rfl ?_
      refine e_getR i_G_ofGlove_98 lf_2 (by decide) ft_10_0 (fun v98 => ?_)
      refine e_bipush (v := 63) i_G_ofGlove_101 (by decide) ?_
      refine e_iload_n i_G_ofGlove_103 rfl ?_
      refine e_callI (as := [.ref v98, .int 63, .int n1]) (st' := []) i_G_ofGlove_104 lm_104 (Or.inr (Or.inl ⟨rfl, rfl⟩)) w_World_at rfl rfl rfl (Nat.le_of_ble_eq_true rfl) (Nat.le_of_ble_eq_true rfl) (m_rlt (q_World_at _) (by decide)) rfl (fun v104 s104 => ?_)
      exact e_iretI i_G_ofGlove_107 rfl
    refine m_sw_c ?_ ?_
    · refine e_aload_n i_G_ofGlove_108 rfl ?_
      refine e_getR i_G_ofGlove_109 lf_2 (by decide) ft_10_0 (fun v109 => ?_)
      refine e_bipush (v := 75) i_G_ofGlove_112 (by decide) ?_
      refine e_iload_n i_G_ofGlove_114 rfl ?_
      refine e_callI (as := [.ref v109, .int 75, .int n1]) (st' := []) i_G_ofGlove_115 lm_104 (Or.inr (Or.inl ⟨rfl, rfl⟩)) w_World_at rfl rfl rfl (Nat.le_of_ble_eq_true rfl) (Nat.le_of_ble_eq_true rfl) (m_rlt (q_World_at _) (by decide)) rfl (fun v115 s115 => ?_)
      exact e_iretI i_G_ofGlove_118 rfl
    refine m_sw_c ?_ ?_
    · refine e_aload_n i_G_ofGlove_119 rfl ?_
      refine e_getR i_G_ofGlove_120 lf_2 (by decide) ft_10_0 (fun v120 => ?_)
      refine e_bipush (v := 87) i_G_ofGlove_123 (by decide) ?_
      refine e_iload_n i_G_ofGlove_125 rfl ?_
      refine e_callI (as := [.ref v120, .int 87, .int n1]) (st' := []) i_G_ofGlove_126 lm_104 (Or.inr (Or.inl ⟨rfl, rfl⟩)) w_World_at rfl rfl rfl (Nat.le_of_ble_eq_true rfl) (Nat.le_of_ble_eq_true rfl) (m_rlt (q_World_at _) (by decide)) rfl (fun v126 s126 => ?_)
      exact e_iretI i_G_ofGlove_129 rfl
    refine m_sw_c ?_ ?_
    · refine e_aload_n i_G_ofGlove_130 rfl ?_
      refine e_getR i_G_ofGlove_131 lf_2 (by decide) ft_10_0 (fun v131 => ?_)
      refine e_bipush (v := 99) i_G_ofGlove_134 (by decide) ?_
      refine e_iload_n i_G_ofGlove_136 rfl ?_
      refine e_callI (as := [.ref v131, .int 99, .int n1]) (st' := []) i_G_ofGlove_137 lm_104 (Or.inr (Or.inl ⟨rfl, rfl⟩)) w_World_at rfl rfl rfl (Nat.le_of_ble_eq_true rfl) (Nat.le_of_ble_eq_true rfl) (m_rlt (q_World_at _) (by decide)) rfl (fun v137 s137 => ?_)
      exact e_iretI i_G_ofGlove_140 rfl
    refine m_sw_c ?_ ?_
    · refine e_aload_n i_G_ofGlove_141 rfl ?_
      refine e_getR i_G_ofGlove_142 lf_34 (by decide) ft_10_9 (fun v142 => ?_)
      refine e_iconst (v := 2) i_G_ofGlove_145 (by decide) ?_
      refine e_aload_n i_G_ofGlove_146 rfl ?_
      refine e_callN (as := [.ref w]) (st' := [.int 2, .ref v142]) i_G_ofGlove_147 lm_211 (Or.inr (Or.inl ⟨rfl, rfl⟩)) w_G_ruling rfl rfl rfl (Nat.le_of_ble_eq_true rfl) (Nat.le_of_ble_eq_true rfl) (m_rlt (q_G_ruling _) (by decide)) rfl (fun v147 s147 => ?_) (fun s147 => ?_)
      · refine e_aload_n i_G_ofGlove_150 rfl ?_
        refine e_getR i_G_ofGlove_151 lf_2 (by decide) ft_10_0 (fun v151 => ?_)
        refine e_iload_n i_G_ofGlove_154 rfl ?_
        refine e_callI (as := [.ref v142, .int 2, .ref v147, .ref v151, .int n1]) (st' := []) i_G_ofGlove_155 lm_122 (Or.inr (Or.inl ⟨rfl, rfl⟩)) w_Law_amount rfl rfl rfl (Nat.le_of_ble_eq_true rfl) (Nat.le_of_ble_eq_true rfl) (m_rlt (q_Law_amount _) (by decide)) rfl (fun v155 s155 => ?_)
        exact e_iretI i_G_ofGlove_158 rfl
      · refine e_aload_n i_G_ofGlove_150 rfl ?_
        refine e_getR i_G_ofGlove_151 lf_2 (by decide) ft_10_0 (fun v151 => ?_)
        refine e_iload_n i_G_ofGlove_154 rfl ?_
        refine e_callI (as := [.ref v142, .int 2, .null, .ref v151, .int n1]) (st' := []) i_G_ofGlove_155 lm_122 (Or.inr (Or.inl ⟨rfl, rfl⟩)) w_Law_amount rfl rfl rfl (Nat.le_of_ble_eq_true rfl) (Nat.le_of_ble_eq_true rfl) (m_rlt (q_Law_amount _) (by decide)) rfl (fun v155 s155 => ?_)
        exact e_iretI i_G_ofGlove_158 rfl
    refine m_sw_c ?_ ?_
    · refine e_aload_n i_G_ofGlove_159 rfl ?_
      refine e_getR i_G_ofGlove_160 lf_34 (by decide) ft_10_9 (fun v160 => ?_)
      refine e_iconst (v := 3) i_G_ofGlove_163 (by decide) ?_
      refine e_aload_n i_G_ofGlove_164 rfl ?_
      refine e_callN (as := [.ref w]) (st' := [.int 3, .ref v160]) i_G_ofGlove_165 lm_211 (Or.inr (Or.inl ⟨rfl, rfl⟩)) w_G_ruling rfl rfl rfl (Nat.le_of_ble_eq_true rfl) (Nat.le_of_ble_eq_true rfl) (m_rlt (q_G_ruling _) (by decide)) rfl (fun v165 s165 => ?_) (fun s165 => ?_)
      · refine e_aload_n i_G_ofGlove_168 rfl ?_
        refine e_getR i_G_ofGlove_169 lf_2 (by decide) ft_10_0 (fun v169 => ?_)
        refine e_iload_n i_G_ofGlove_172 rfl ?_
        refine e_callI (as := [.ref v160, .int 3, .ref v165, .ref v169, .int n1]) (st' := []) i_G_ofGlove_173 lm_122 (Or.inr (Or.inl ⟨rfl, rfl⟩)) w_Law_amount rfl rfl rfl (Nat.le_of_ble_eq_true rfl) (Nat.le_of_ble_eq_true rfl) (m_rlt (q_Law_amount _) (by decide)) rfl (fun v173 s173 => ?_)
        exact e_iretI i_G_ofGlove_176 rfl
      · refine e_aload_n i_G_ofGlove_168 rfl ?_
        refine e_getR i_G_ofGlove_169 lf_2 (by decide) ft_10_0 (fun v169 => ?_)
        refine e_iload_n i_G_ofGlove_172 rfl ?_
        refine e_callI (as := [.ref v160, .int 3, .null, .ref v169, .int n1]) (st' := []) i_G_ofGlove_173 lm_122 (Or.inr (Or.inl ⟨rfl, rfl⟩)) w_Law_amount rfl rfl rfl (Nat.le_of_ble_eq_true rfl) (Nat.le_of_ble_eq_true rfl) (m_rlt (q_Law_amount _) (by decide)) rfl (fun v173 s173 => ?_)
        exact e_iretI i_G_ofGlove_176 rfl
    refine m_sw_n ?_
    refine e_iconst (v := (-1)) i_G_ofGlove_177 (by decide) ?_
    exact e_iretI i_G_ofGlove_178 rfl
  · refine e_iconst (v := (-1)) i_G_ofGlove_11 (by decide) ?_
    exact e_iretI i_G_ofGlove_12 rfl
theorem i_G_of_0 : m_at k_G_of 0 = some (.aload_n 0, 1, 0) := m_at_of r_G_of (by decide +kernel)
theorem i_G_of_1 : m_at k_G_of 1 = some (.getfield 10, 3, 2) := m_at_of r_G_of (by decide +kernel)
theorem i_G_of_4 : m_at k_G_of 4 = some (.iload_n 1, 1, 0) := m_at_of r_G_of (by decide +kernel)
theorem i_G_of_5 : m_at k_G_of 5 = some (.invokevirtual 208, 3, 113) := m_at_of r_G_of (by decide +kernel)
theorem i_G_of_8 : m_at k_G_of 8 = some (.ifCond .ne (6), 3, 0) := m_at_of r_G_of (by decide +kernel)
theorem i_G_of_11 : m_at k_G_of 11 = some (.ldc 211, 2, 5) := m_at_of r_G_of (by decide +kernel)
theorem i_G_of_13 : m_at k_G_of 13 = some (.ireturn, 1, 0) := m_at_of r_G_of (by decide +kernel)
theorem i_G_of_14 : m_at k_G_of 14 = some (.iload_n 2, 1, 0) := m_at_of r_G_of (by decide +kernel)
theorem i_G_of_15 : m_at k_G_of 15 = some (.tableswitch (140) (0) (7) #[45, 55, 66, 77, 86, 95, 113, 131], 45, 0) := m_at_of r_G_of (by decide +kernel)
theorem i_G_of_60 : m_at k_G_of 60 = some (.aload_n 0, 1, 0) := m_at_of r_G_of (by decide +kernel)
theorem i_G_of_61 : m_at k_G_of 61 = some (.getfield 10, 3, 2) := m_at_of r_G_of (by decide +kernel)
theorem i_G_of_64 : m_at k_G_of 64 = some (.iconst 1, 1, 0) := m_at_of r_G_of (by decide +kernel)
theorem i_G_of_65 : m_at k_G_of 65 = some (.iload_n 1, 1, 0) := m_at_of r_G_of (by decide +kernel)
theorem i_G_of_66 : m_at k_G_of 66 = some (.invokevirtual 212, 3, 104) := m_at_of r_G_of (by decide +kernel)
theorem i_G_of_69 : m_at k_G_of 69 = some (.ireturn, 1, 0) := m_at_of r_G_of (by decide +kernel)
theorem i_G_of_70 : m_at k_G_of 70 = some (.aload_n 0, 1, 0) := m_at_of r_G_of (by decide +kernel)
theorem i_G_of_71 : m_at k_G_of 71 = some (.getfield 10, 3, 2) := m_at_of r_G_of (by decide +kernel)
theorem i_G_of_74 : m_at k_G_of 74 = some (.bipush 8, 2, 0) := m_at_of r_G_of (by decide +kernel)
theorem i_G_of_76 : m_at k_G_of 76 = some (.iload_n 1, 1, 0) := m_at_of r_G_of (by decide +kernel)
theorem i_G_of_77 : m_at k_G_of 77 = some (.invokevirtual 212, 3, 104) := m_at_of r_G_of (by decide +kernel)
theorem i_G_of_80 : m_at k_G_of 80 = some (.ireturn, 1, 0) := m_at_of r_G_of (by decide +kernel)
theorem i_G_of_81 : m_at k_G_of 81 = some (.aload_n 0, 1, 0) := m_at_of r_G_of (by decide +kernel)
theorem i_G_of_82 : m_at k_G_of 82 = some (.getfield 10, 3, 2) := m_at_of r_G_of (by decide +kernel)
theorem i_G_of_85 : m_at k_G_of 85 = some (.bipush 15, 2, 0) := m_at_of r_G_of (by decide +kernel)
theorem i_G_of_87 : m_at k_G_of 87 = some (.iload_n 1, 1, 0) := m_at_of r_G_of (by decide +kernel)
theorem i_G_of_88 : m_at k_G_of 88 = some (.invokevirtual 212, 3, 104) := m_at_of r_G_of (by decide +kernel)
theorem i_G_of_91 : m_at k_G_of 91 = some (.ireturn, 1, 0) := m_at_of r_G_of (by decide +kernel)
theorem i_G_of_92 : m_at k_G_of 92 = some (.aload_n 0, 1, 0) := m_at_of r_G_of (by decide +kernel)
theorem i_G_of_93 : m_at k_G_of 93 = some (.getfield 10, 3, 2) := m_at_of r_G_of (by decide +kernel)
theorem i_G_of_96 : m_at k_G_of 96 = some (.iload_n 1, 1, 0) := m_at_of r_G_of (by decide +kernel)
theorem i_G_of_97 : m_at k_G_of 97 = some (.invokevirtual 215, 3, 206) := m_at_of r_G_of (by decide +kernel)
theorem i_G_of_100 : m_at k_G_of 100 = some (.ireturn, 1, 0) := m_at_of r_G_of (by decide +kernel)
theorem i_G_of_101 : m_at k_G_of 101 = some (.aload_n 0, 1, 0) := m_at_of r_G_of (by decide +kernel)
theorem i_G_of_102 : m_at k_G_of 102 = some (.getfield 10, 3, 2) := m_at_of r_G_of (by decide +kernel)
theorem i_G_of_105 : m_at k_G_of 105 = some (.iload_n 1, 1, 0) := m_at_of r_G_of (by decide +kernel)
theorem i_G_of_106 : m_at k_G_of 106 = some (.invokevirtual 218, 3, 221) := m_at_of r_G_of (by decide +kernel)
theorem i_G_of_109 : m_at k_G_of 109 = some (.ireturn, 1, 0) := m_at_of r_G_of (by decide +kernel)
theorem i_G_of_110 : m_at k_G_of 110 = some (.aload_n 0, 1, 0) := m_at_of r_G_of (by decide +kernel)
theorem i_G_of_111 : m_at k_G_of 111 = some (.getfield 59, 3, 34) := m_at_of r_G_of (by decide +kernel)
theorem i_G_of_114 : m_at k_G_of 114 = some (.iconst 0, 1, 0) := m_at_of r_G_of (by decide +kernel)
theorem i_G_of_115 : m_at k_G_of 115 = some (.aload_n 0, 1, 0) := m_at_of r_G_of (by decide +kernel)
theorem i_G_of_116 : m_at k_G_of 116 = some (.invokevirtual 160, 3, 211) := m_at_of r_G_of (by decide +kernel)
theorem i_G_of_119 : m_at k_G_of 119 = some (.aload_n 0, 1, 0) := m_at_of r_G_of (by decide +kernel)
theorem i_G_of_120 : m_at k_G_of 120 = some (.getfield 10, 3, 2) := m_at_of r_G_of (by decide +kernel)
theorem i_G_of_123 : m_at k_G_of 123 = some (.iload_n 1, 1, 0) := m_at_of r_G_of (by decide +kernel)
theorem i_G_of_124 : m_at k_G_of 124 = some (.invokevirtual 223, 3, 122) := m_at_of r_G_of (by decide +kernel)
theorem i_G_of_127 : m_at k_G_of 127 = some (.ireturn, 1, 0) := m_at_of r_G_of (by decide +kernel)
theorem i_G_of_128 : m_at k_G_of 128 = some (.aload_n 0, 1, 0) := m_at_of r_G_of (by decide +kernel)
theorem i_G_of_129 : m_at k_G_of 129 = some (.getfield 59, 3, 34) := m_at_of r_G_of (by decide +kernel)
theorem i_G_of_132 : m_at k_G_of 132 = some (.iconst 1, 1, 0) := m_at_of r_G_of (by decide +kernel)
theorem i_G_of_133 : m_at k_G_of 133 = some (.aload_n 0, 1, 0) := m_at_of r_G_of (by decide +kernel)
theorem i_G_of_134 : m_at k_G_of 134 = some (.invokevirtual 160, 3, 211) := m_at_of r_G_of (by decide +kernel)
theorem i_G_of_137 : m_at k_G_of 137 = some (.aload_n 0, 1, 0) := m_at_of r_G_of (by decide +kernel)
theorem i_G_of_138 : m_at k_G_of 138 = some (.getfield 10, 3, 2) := m_at_of r_G_of (by decide +kernel)
theorem i_G_of_141 : m_at k_G_of 141 = some (.iload_n 1, 1, 0) := m_at_of r_G_of (by decide +kernel)
theorem i_G_of_142 : m_at k_G_of 142 = some (.invokevirtual 223, 3, 122) := m_at_of r_G_of (by decide +kernel)
theorem i_G_of_145 : m_at k_G_of 145 = some (.ireturn, 1, 0) := m_at_of r_G_of (by decide +kernel)
theorem i_G_of_146 : m_at k_G_of 146 = some (.aload_n 0, 1, 0) := m_at_of r_G_of (by decide +kernel)
theorem i_G_of_147 : m_at k_G_of 147 = some (.getfield 10, 3, 2) := m_at_of r_G_of (by decide +kernel)
theorem i_G_of_150 : m_at k_G_of 150 = some (.iload_n 1, 1, 0) := m_at_of r_G_of (by decide +kernel)
theorem i_G_of_151 : m_at k_G_of 151 = some (.invokevirtual 227, 3, 222) := m_at_of r_G_of (by decide +kernel)
theorem i_G_of_154 : m_at k_G_of 154 = some (.ireturn, 1, 0) := m_at_of r_G_of (by decide +kernel)
theorem i_G_of_155 : m_at k_G_of 155 = some (.ldc 211, 2, 5) := m_at_of r_G_of (by decide +kernel)
theorem i_G_of_157 : m_at k_G_of 157 = some (.ireturn, 1, 0) := m_at_of r_G_of (by decide +kernel)
set_option maxRecDepth 20000 in
set_option maxHeartbeats 1000000 in
theorem E_G_of (x : m_X) (s : m_H) (w : Nat) (n1 : Int32) (n2 : Int32) : m_M x k_G_of [.ref w, .int n1, .int n2] s = if m_isO s w 10 = true then ((m_fR s 10 0 w).bind fun v1 => m_bI (m_M x k_World_hasOne [.ref v1, .int n1] s) fun v5 s5 => if v5 = 0 then (some (some (.int (-100000)), s5)) else if n2 = 0 then ((m_fR s5 10 0 w).bind fun v61 => m_bI (m_M x k_World_at [.ref v61, .int 1, .int n1] s5) fun v66 s66 => some (some (.int v66), s66)) else if n2 = 1 then ((m_fR s5 10 0 w).bind fun v71 => m_bI (m_M x k_World_at [.ref v71, .int 8, .int n1] s5) fun v77 s77 => some (some (.int v77), s77)) else if n2 = 2 then ((m_fR s5 10 0 w).bind fun v82 => m_bI (m_M x k_World_at [.ref v82, .int 15, .int n1] s5) fun v88 s88 => some (some (.int v88), s88)) else if n2 = 3 then ((m_fR s5 10 0 w).bind fun v93 => m_bI (m_M x k_World_rightsOf [.ref v93, .int n1] s5) fun v97 s97 => some (some (.int v97), s97)) else if n2 = 4 then ((m_fR s5 10 0 w).bind fun v102 => m_bI (m_M x k_World_leftsOf [.ref v102, .int n1] s5) fun v106 s106 => some (some (.int v106), s106)) else if n2 = 5 then ((m_fR s5 10 9 w).bind fun v111 => m_bN (m_M x k_G_ruling [.ref w] s5) (fun v116 s116 => (m_fR s116 10 0 w).bind fun v120 => m_bI (m_M x k_Law_amount [.ref v111, .int 0, .ref v116, .ref v120, .int n1] s116) fun v124 s124 => some (some (.int v124), s124)) fun s116 => (m_fR s116 10 0 w).bind fun v120 => m_bI (m_M x k_Law_amount [.ref v111, .int 0, .null, .ref v120, .int n1] s116) fun v124 s124 => some (some (.int v124), s124)) else if n2 = 6 then ((m_fR s5 10 9 w).bind fun v129 => m_bN (m_M x k_G_ruling [.ref w] s5) (fun v134 s134 => (m_fR s134 10 0 w).bind fun v138 => m_bI (m_M x k_Law_amount [.ref v129, .int 1, .ref v134, .ref v138, .int n1] s134) fun v142 s142 => some (some (.int v142), s142)) fun s134 => (m_fR s134 10 0 w).bind fun v138 => m_bI (m_M x k_Law_amount [.ref v129, .int 1, .null, .ref v138, .int n1] s134) fun v142 s142 => some (some (.int v142), s142)) else if n2 = 7 then ((m_fR s5 10 0 w).bind fun v147 => m_bI (m_M x k_World_balanceOf [.ref v147, .int n1] s5) fun v151 s151 => some (some (.int v151), s151)) else some (some (.int (-100000)), s5)) else none := by
  refine e_M1 (L0 := [some (.ref w), some (.int n1), some (.int n2)]) rfl (by decide +kernel) rfl (q_G_of _) rfl ?_
  refine e_aload_n i_G_of_0 rfl ?_
  refine e_getR i_G_of_1 lf_2 (by decide) ft_10_0 (fun v1 => ?_)
  refine e_iload_n i_G_of_4 rfl ?_
  refine e_callI (as := [.ref v1, .int n1]) (st' := []) i_G_of_5 lm_113 (Or.inr (Or.inl ⟨rfl, rfl⟩)) w_World_hasOne rfl rfl rfl (Nat.le_of_ble_eq_true rfl) (Nat.le_of_ble_eq_true rfl) (m_rlt (q_World_hasOne _) (by decide)) rfl (fun v5 s5 => ?_)
  refine e_ifne (t := 14) i_G_of_8 (by decide) ?_ ?_
  · refine e_iload_n i_G_of_14 rfl ?_
    refine e_tsw (cs := [(0, 60), (1, 70), (2, 81), (3, 92), (4, 101), (5, 110), (6, 128), (7, 146)]) (td := 155) i_G_of_15 (by decide +kernel) ?_
    refine m_sw_c ?_ ?_
    · refine e_aload_n i_G_of_60 rfl ?_
      refine e_getR i_G_of_61 lf_2 (by decide) ft_10_0 (fun v61 => ?_)
      refine e_iconst (v := 1) i_G_of_64 (by decide) ?_
      refine e_iload_n i_G_of_65 rfl ?_
      refine e_callI (as := [.ref v61, .int 1, .int n1]) (st' := []) i_G_of_66 lm_104 (Or.inr (Or.inl ⟨rfl, rfl⟩)) w_World_at rfl rfl rfl (Nat.le_of_ble_eq_true rfl) (Nat.le_of_ble_eq_true rfl) (m_rlt (q_World_at _) (by decide)) rfl (fun v66 s66 => ?_)
      exact e_iretI i_G_of_69 rfl
    refine m_sw_c ?_ ?_
    · refine e_aload_n i_G_of_70 rfl ?_
      refine e_getR i_G_of_71 lf_2 (by decide) ft_10_0 (fun v71 => ?_)
      refine e_bipush (v := 8) i_G_of_74 (by decide) ?_
      refine e_iload_n i_G_of_76 rfl ?_
      refine e_callI (as := [.ref v71, .int 8, .int n1]) (st' := []) i_G_of_77 lm_104 (Or.inr (Or.inl ⟨rfl, rfl⟩)) w_World_at rfl rfl rfl (Nat.le_of_ble_eq_true rfl) (Nat.le_of_ble_eq_true rfl) (m_rlt (q_World_at _) (by decide)) rfl (fun v77 s77 => ?_)
      exact e_iretI i_G_of_80 rfl
    refine m_sw_c ?_ ?_
    · refine e_aload_n i_G_of_81 rfl ?_
      refine e_getR i_G_of_82 lf_2 (by decide) ft_10_0 (fun v82 => ?_)
      refine e_bipush (v := 15) i_G_of_85 (by decide) ?_
      refine e_iload_n i_G_of_87 rfl ?_
      refine e_callI (as := [.ref v82, .int 15, .int n1]) (st' := []) i_G_of_88 lm_104 (Or.inr (Or.inl ⟨rfl, rfl⟩)) w_World_at rfl rfl rfl (Nat.le_of_ble_eq_true rfl) (Nat.le_of_ble_eq_true rfl) (m_rlt (q_World_at _) (by decide)) rfl (fun v88 s88 => ?_)
      exact e_iretI i_G_of_91 rfl
    refine m_sw_c ?_ ?_
    · refine e_aload_n i_G_of_92 rfl ?_
      refine e_getR i_G_of_93 lf_2 (by decide) ft_10_0 (fun v93 => ?_)
      refine e_iload_n i_G_of_96 rfl ?_
      refine e_callI (as := [.ref v93, .int n1]) (st' := []) i_G_of_97 lm_206 (Or.inr (Or.inl ⟨rfl, rfl⟩)) w_World_rightsOf rfl rfl rfl (Nat.le_of_ble_eq_true rfl) (Nat.le_of_ble_eq_true rfl) (m_rlt (q_World_rightsOf _) (by decide)) rfl (fun v97 s97 => ?_)
      exact e_iretI i_G_of_100 rfl
    refine m_sw_c ?_ ?_
    · refine e_aload_n i_G_of_101 rfl ?_
      refine e_getR i_G_of_102 lf_2 (by decide) ft_10_0 (fun v102 => ?_)
      refine e_iload_n i_G_of_105 rfl ?_
      refine e_callI (as := [.ref v102, .int n1]) (st' := []) i_G_of_106 lm_221 (Or.inr (Or.inl ⟨rfl, rfl⟩)) w_World_leftsOf rfl rfl rfl (Nat.le_of_ble_eq_true rfl) (Nat.le_of_ble_eq_true rfl) (m_rlt (q_World_leftsOf _) (by decide)) rfl (fun v106 s106 => ?_)
      exact e_iretI i_G_of_109 rfl
    refine m_sw_c ?_ ?_
    · refine e_aload_n i_G_of_110 rfl ?_
      refine e_getR i_G_of_111 lf_34 (by decide) ft_10_9 (fun v111 => ?_)
      refine e_iconst (v := 0) i_G_of_114 (by decide) ?_
      refine e_aload_n i_G_of_115 rfl ?_
      refine e_callN (as := [.ref w]) (st' := [.int 0, .ref v111]) i_G_of_116 lm_211 (Or.inr (Or.inl ⟨rfl, rfl⟩)) w_G_ruling rfl rfl rfl (Nat.le_of_ble_eq_true rfl) (Nat.le_of_ble_eq_true rfl) (m_rlt (q_G_ruling _) (by decide)) rfl (fun v116 s116 => ?_) (fun s116 => ?_)
      · refine e_aload_n i_G_of_119 rfl ?_
        refine e_getR i_G_of_120 lf_2 (by decide) ft_10_0 (fun v120 => ?_)
        refine e_iload_n i_G_of_123 rfl ?_
        refine e_callI (as := [.ref v111, .int 0, .ref v116, .ref v120, .int n1]) (st' := []) i_G_of_124 lm_122 (Or.inr (Or.inl ⟨rfl, rfl⟩)) w_Law_amount rfl rfl rfl (Nat.le_of_ble_eq_true rfl) (Nat.le_of_ble_eq_true rfl) (m_rlt (q_Law_amount _) (by decide)) rfl (fun v124 s124 => ?_)
        exact e_iretI i_G_of_127 rfl
      · refine e_aload_n i_G_of_119 rfl ?_
        refine e_getR i_G_of_120 lf_2 (by decide) ft_10_0 (fun v120 => ?_)
        refine e_iload_n i_G_of_123 rfl ?_
        refine e_callI (as := [.ref v111, .int 0, .null, .ref v120, .int n1]) (st' := []) i_G_of_124 lm_122 (Or.inr (Or.inl ⟨rfl, rfl⟩)) w_Law_amount rfl rfl rfl (Nat.le_of_ble_eq_true rfl) (Nat.le_of_ble_eq_true rfl) (m_rlt (q_Law_amount _) (by decide)) rfl (fun v124 s124 => ?_)
        exact e_iretI i_G_of_127 rfl
    refine m_sw_c ?_ ?_
    · refine e_aload_n i_G_of_128 rfl ?_
      refine e_getR i_G_of_129 lf_34 (by decide) ft_10_9 (fun v129 => ?_)
      refine e_iconst (v := 1) i_G_of_132 (by decide) ?_
      refine e_aload_n i_G_of_133 rfl ?_
      refine e_callN (as := [.ref w]) (st' := [.int 1, .ref v129]) i_G_of_134 lm_211 (Or.inr (Or.inl ⟨rfl, rfl⟩)) w_G_ruling rfl rfl rfl (Nat.le_of_ble_eq_true rfl) (Nat.le_of_ble_eq_true rfl) (m_rlt (q_G_ruling _) (by decide)) rfl (fun v134 s134 => ?_) (fun s134 => ?_)
      · refine e_aload_n i_G_of_137 rfl ?_
        refine e_getR i_G_of_138 lf_2 (by decide) ft_10_0 (fun v138 => ?_)
        refine e_iload_n i_G_of_141 rfl ?_
        refine e_callI (as := [.ref v129, .int 1, .ref v134, .ref v138, .int n1]) (st' := []) i_G_of_142 lm_122 (Or.inr (Or.inl ⟨rfl, rfl⟩)) w_Law_amount rfl rfl rfl (Nat.le_of_ble_eq_true rfl) (Nat.le_of_ble_eq_true rfl) (m_rlt (q_Law_amount _) (by decide)) rfl (fun v142 s142 => ?_)
        exact e_iretI i_G_of_145 rfl
      · refine e_aload_n i_G_of_137 rfl ?_
        refine e_getR i_G_of_138 lf_2 (by decide) ft_10_0 (fun v138 => ?_)
        refine e_iload_n i_G_of_141 rfl ?_
        refine e_callI (as := [.ref v129, .int 1, .null, .ref v138, .int n1]) (st' := []) i_G_of_142 lm_122 (Or.inr (Or.inl ⟨rfl, rfl⟩)) w_Law_amount rfl rfl rfl (Nat.le_of_ble_eq_true rfl) (Nat.le_of_ble_eq_true rfl) (m_rlt (q_Law_amount _) (by decide)) rfl (fun v142 s142 => ?_)
        exact e_iretI i_G_of_145 rfl
    refine m_sw_c ?_ ?_
    · refine e_aload_n i_G_of_146 rfl ?_
      refine e_getR i_G_of_147 lf_2 (by decide) ft_10_0 (fun v147 => ?_)
      refine e_iload_n i_G_of_150 rfl ?_
      refine e_callI (as := [.ref v147, .int n1]) (st' := []) i_G_of_151 lm_222 (Or.inr (Or.inl ⟨rfl, rfl⟩)) w_World_balanceOf rfl rfl rfl (Nat.le_of_ble_eq_true rfl) (Nat.le_of_ble_eq_true rfl) (m_rlt (q_World_balanceOf _) (by decide)) rfl (fun v151 s151 => ?_)
      exact e_iretI i_G_of_154 rfl
    refine m_sw_n ?_
    refine e_ldc (q := (2, 211, (-100000))) i_G_of_155 (by decide) rfl ?_
    exact e_iretI i_G_of_157 rfl
  · refine e_ldc (q := (2, 211, (-100000))) i_G_of_11 (by decide) rfl ?_
    exact e_iretI i_G_of_13 rfl
theorem i_G_undo_0 : m_at k_G_undo 0 = some (.aload_n 0, 1, 0) := m_at_of r_G_undo (by decide +kernel)
theorem i_G_undo_1 : m_at k_G_undo 1 = some (.getfield 19, 3, 7) := m_at_of r_G_undo (by decide +kernel)
theorem i_G_undo_4 : m_at k_G_undo 4 = some (.aload_n 0, 1, 0) := m_at_of r_G_undo (by decide +kernel)
theorem i_G_undo_5 : m_at k_G_undo 5 = some (.getfield 10, 3, 2) := m_at_of r_G_undo (by decide +kernel)
theorem i_G_undo_8 : m_at k_G_undo 8 = some (.invokevirtual 201, 3, 223) := m_at_of r_G_undo (by decide +kernel)
theorem i_G_undo_11 : m_at k_G_undo 11 = some (.ifCond .eq (13), 3, 0) := m_at_of r_G_undo (by decide +kernel)
theorem i_G_undo_14 : m_at k_G_undo 14 = some (.aload_n 0, 1, 0) := m_at_of r_G_undo (by decide +kernel)
theorem i_G_undo_15 : m_at k_G_undo 15 = some (.getfield 19, 3, 7) := m_at_of r_G_undo (by decide +kernel)
theorem i_G_undo_18 : m_at k_G_undo 18 = some (.getfield 205, 3, 8) := m_at_of r_G_undo (by decide +kernel)
theorem i_G_undo_21 : m_at k_G_undo 21 = some (.goto (4), 3, 0) := m_at_of r_G_undo (by decide +kernel)
theorem i_G_undo_24 : m_at k_G_undo 24 = some (.iconst (-1), 1, 0) := m_at_of r_G_undo (by decide +kernel)
theorem i_G_undo_25 : m_at k_G_undo 25 = some (.ireturn, 1, 0) := m_at_of r_G_undo (by decide +kernel)
set_option maxRecDepth 20000 in
set_option maxHeartbeats 1000000 in
theorem E_G_undo (x : m_X) (s : m_H) (w : Nat) : m_M x k_G_undo [.ref w] s = if m_isO s w 10 = true then ((m_fR s 10 1 w).bind fun v1 => (m_fR s 10 0 w).bind fun v5 => m_bI (m_M x k_Steps_takeBack [.ref v1, .ref v5] s) fun v8 s8 => if v8 = 0 then (some (some (.int (-1)), s8)) else (m_fR s8 10 1 w).bind fun v15 => (m_fI s8 6 2 v15).bind fun v18 => some (some (.int v18), s8)) else none := by
  refine e_M1 (L0 := [some (.ref w)]) rfl (by decide +kernel) rfl (q_G_undo _) rfl ?_
  refine e_aload_n i_G_undo_0 rfl ?_
  refine e_getR i_G_undo_1 lf_7 (by decide) ft_10_1 (fun v1 => ?_)
  refine e_aload_n i_G_undo_4 rfl ?_
  refine e_getR i_G_undo_5 lf_2 (by decide) ft_10_0 (fun v5 => ?_)
  refine e_callI (as := [.ref v1, .ref v5]) (st' := []) i_G_undo_8 lm_223 (Or.inr (Or.inl ⟨rfl, rfl⟩)) w_Steps_takeBack rfl rfl rfl (Nat.le_of_ble_eq_true rfl) (Nat.le_of_ble_eq_true rfl) (m_rlt (q_Steps_takeBack _) (by decide)) rfl (fun v8 s8 => ?_)
  refine e_ifeq (t := 24) i_G_undo_11 (by decide) ?_ ?_
  · refine e_iconst (v := (-1)) i_G_undo_24 (by decide) ?_
    exact e_iretI i_G_undo_25 rfl
  · refine e_aload_n i_G_undo_14 rfl ?_
    refine e_getR i_G_undo_15 lf_7 (by decide) ft_10_1 (fun v15 => ?_)
    refine e_getI i_G_undo_18 lf_8 (by decide) (Or.inl ft_6_2) (fun v18 => ?_)
    refine e_goto (t := 25) i_G_undo_21 (by decide) ?_
    exact e_iretI i_G_undo_25 rfl
theorem i_G_winters_0 : m_at k_G_winters 0 = some (.iload_n 1, 1, 0) := m_at_of r_G_winters (by decide +kernel)
theorem i_G_winters_1 : m_at k_G_winters 1 = some (.iconst 0, 1, 0) := m_at_of r_G_winters (by decide +kernel)
theorem i_G_winters_2 : m_at k_G_winters 2 = some (.sipush 9999, 3, 0) := m_at_of r_G_winters (by decide +kernel)
theorem i_G_winters_5 : m_at k_G_winters 5 = some (.invokestatic 100, 3, 124) := m_at_of r_G_winters (by decide +kernel)
theorem i_G_winters_8 : m_at k_G_winters 8 = some (.ifCond .eq (17), 3, 0) := m_at_of r_G_winters (by decide +kernel)
theorem i_G_winters_11 : m_at k_G_winters 11 = some (.iload_n 2, 1, 0) := m_at_of r_G_winters (by decide +kernel)
theorem i_G_winters_12 : m_at k_G_winters 12 = some (.iconst 1, 1, 0) := m_at_of r_G_winters (by decide +kernel)
theorem i_G_winters_13 : m_at k_G_winters 13 = some (.bipush 40, 2, 0) := m_at_of r_G_winters (by decide +kernel)
theorem i_G_winters_15 : m_at k_G_winters 15 = some (.invokestatic 100, 3, 124) := m_at_of r_G_winters (by decide +kernel)
theorem i_G_winters_18 : m_at k_G_winters 18 = some (.ifCond .eq (7), 3, 0) := m_at_of r_G_winters (by decide +kernel)
theorem i_G_winters_21 : m_at k_G_winters 21 = some (.iconst 1, 1, 0) := m_at_of r_G_winters (by decide +kernel)
theorem i_G_winters_22 : m_at k_G_winters 22 = some (.goto (4), 3, 0) := m_at_of r_G_winters (by decide +kernel)
theorem i_G_winters_25 : m_at k_G_winters 25 = some (.iconst 0, 1, 0) := m_at_of r_G_winters (by decide +kernel)
theorem i_G_winters_26 : m_at k_G_winters 26 = some (.istore_n 3, 1, 0) := m_at_of r_G_winters (by decide +kernel)
theorem i_G_winters_27 : m_at k_G_winters 27 = some (.iload_n 3, 1, 0) := m_at_of r_G_winters (by decide +kernel)
theorem i_G_winters_28 : m_at k_G_winters 28 = some (.ifCond .eq (15), 3, 0) := m_at_of r_G_winters (by decide +kernel)
theorem i_G_winters_31 : m_at k_G_winters 31 = some (.aload_n 0, 1, 0) := m_at_of r_G_winters (by decide +kernel)
theorem i_G_winters_32 : m_at k_G_winters 32 = some (.getfield 10, 3, 2) := m_at_of r_G_winters (by decide +kernel)
theorem i_G_winters_35 : m_at k_G_winters 35 = some (.getfield 170, 3, 3) := m_at_of r_G_winters (by decide +kernel)
theorem i_G_winters_38 : m_at k_G_winters 38 = some (.iconst 0, 1, 0) := m_at_of r_G_winters (by decide +kernel)
theorem i_G_winters_39 : m_at k_G_winters 39 = some (.iaload, 1, 0) := m_at_of r_G_winters (by decide +kernel)
theorem i_G_winters_40 : m_at k_G_winters 40 = some (.ifCond .ne (5), 3, 0) := m_at_of r_G_winters (by decide +kernel)
theorem i_G_winters_43 : m_at k_G_winters 43 = some (.iconst (-1), 1, 0) := m_at_of r_G_winters (by decide +kernel)
theorem i_G_winters_44 : m_at k_G_winters 44 = some (.ireturn, 1, 0) := m_at_of r_G_winters (by decide +kernel)
theorem i_G_winters_45 : m_at k_G_winters 45 = some (.aload_n 0, 1, 0) := m_at_of r_G_winters (by decide +kernel)
theorem i_G_winters_46 : m_at k_G_winters 46 = some (.getfield 19, 3, 7) := m_at_of r_G_winters (by decide +kernel)
theorem i_G_winters_49 : m_at k_G_winters 49 = some (.aload_n 0, 1, 0) := m_at_of r_G_winters (by decide +kernel)
theorem i_G_winters_50 : m_at k_G_winters 50 = some (.getfield 10, 3, 2) := m_at_of r_G_winters (by decide +kernel)
theorem i_G_winters_53 : m_at k_G_winters 53 = some (.invokevirtual 131, 3, 237) := m_at_of r_G_winters (by decide +kernel)
theorem i_G_winters_56 : m_at k_G_winters 56 = some (.aload_n 0, 1, 0) := m_at_of r_G_winters (by decide +kernel)
theorem i_G_winters_57 : m_at k_G_winters 57 = some (.getfield 10, 3, 2) := m_at_of r_G_winters (by decide +kernel)
theorem i_G_winters_60 : m_at k_G_winters 60 = some (.iload_n 1, 1, 0) := m_at_of r_G_winters (by decide +kernel)
theorem i_G_winters_61 : m_at k_G_winters 61 = some (.invokevirtual 188, 3, 238) := m_at_of r_G_winters (by decide +kernel)
theorem i_G_winters_64 : m_at k_G_winters 64 = some (.iconst 0, 1, 0) := m_at_of r_G_winters (by decide +kernel)
theorem i_G_winters_65 : m_at k_G_winters 65 = some (.istore 4, 2, 0) := m_at_of r_G_winters (by decide +kernel)
theorem i_G_winters_67 : m_at k_G_winters 67 = some (.iload 4, 2, 0) := m_at_of r_G_winters (by decide +kernel)
theorem i_G_winters_69 : m_at k_G_winters 69 = some (.iload_n 2, 1, 0) := m_at_of r_G_winters (by decide +kernel)
theorem i_G_winters_70 : m_at k_G_winters 70 = some (.if_icmp .ge (20), 3, 0) := m_at_of r_G_winters (by decide +kernel)
theorem i_G_winters_73 : m_at k_G_winters 73 = some (.aload_n 0, 1, 0) := m_at_of r_G_winters (by decide +kernel)
theorem i_G_winters_74 : m_at k_G_winters 74 = some (.aload_n 0, 1, 0) := m_at_of r_G_winters (by decide +kernel)
theorem i_G_winters_75 : m_at k_G_winters 75 = some (.getfield 10, 3, 2) := m_at_of r_G_winters (by decide +kernel)
theorem i_G_winters_78 : m_at k_G_winters 78 = some (.invokevirtual 191, 3, 239) := m_at_of r_G_winters (by decide +kernel)
theorem i_G_winters_81 : m_at k_G_winters 81 = some (.invokevirtual 195, 3, 240) := m_at_of r_G_winters (by decide +kernel)
theorem i_G_winters_84 : m_at k_G_winters 84 = some (.iinc 4 (1), 3, 0) := m_at_of r_G_winters (by decide +kernel)
theorem i_G_winters_87 : m_at k_G_winters 87 = some (.goto (-20), 3, 0) := m_at_of r_G_winters (by decide +kernel)
theorem i_G_winters_90 : m_at k_G_winters 90 = some (.aload_n 0, 1, 0) := m_at_of r_G_winters (by decide +kernel)
theorem i_G_winters_91 : m_at k_G_winters 91 = some (.getfield 19, 3, 7) := m_at_of r_G_winters (by decide +kernel)
theorem i_G_winters_94 : m_at k_G_winters 94 = some (.invokevirtual 198, 3, 241) := m_at_of r_G_winters (by decide +kernel)
theorem i_G_winters_97 : m_at k_G_winters 97 = some (.aload_n 0, 1, 0) := m_at_of r_G_winters (by decide +kernel)
theorem i_G_winters_98 : m_at k_G_winters 98 = some (.getfield 10, 3, 2) := m_at_of r_G_winters (by decide +kernel)
theorem i_G_winters_101 : m_at k_G_winters 101 = some (.getfield 170, 3, 3) := m_at_of r_G_winters (by decide +kernel)
theorem i_G_winters_104 : m_at k_G_winters 104 = some (.bipush 22, 2, 0) := m_at_of r_G_winters (by decide +kernel)
theorem i_G_winters_106 : m_at k_G_winters 106 = some (.iaload, 1, 0) := m_at_of r_G_winters (by decide +kernel)
theorem i_G_winters_107 : m_at k_G_winters 107 = some (.ireturn, 1, 0) := m_at_of r_G_winters (by decide +kernel)
set_option maxRecDepth 20000 in
set_option maxHeartbeats 1000000 in
theorem E_G_winters (x : m_X) (s : m_H) (w : Nat) (n1 : Int32) (n2 : Int32) : m_M x k_G_winters [.ref w, .int n1, .int n2] s = if m_isO s w 10 = true then (m_bI (m_M x k_G_isIn [.int n1, .int 0, .int 9999] s) fun v5 s5 => if v5 = 0 then (m_D x 9 k_G_winters 26 [some (.ref w), some (.int n1), some (.int n2), none, none] [.int 0] s5) else m_bI (m_M x k_G_isIn [.int n2, .int 1, .int 40] s5) fun v15 s15 => if v15 = 0 then (m_D x 9 k_G_winters 26 [some (.ref w), some (.int n1), some (.int n2), none, none] [.int 0] s15) else m_D x 9 k_G_winters 26 [some (.ref w), some (.int n1), some (.int n2), none, none] [.int 1] s15) else none := by
  refine e_M1 (L0 := [some (.ref w), some (.int n1), some (.int n2), none, none]) rfl (by decide +kernel) rfl (q_G_winters _) rfl ?_
  refine e_iload_n i_G_winters_0 rfl ?_
  refine e_iconst (v := 0) i_G_winters_1 (by decide) ?_
  refine e_sipush (v := 9999) i_G_winters_2 (by decide) ?_
  refine e_callI (as := [.int n1, .int 0, .int 9999]) (st' := []) i_G_winters_5 lm_124 (Or.inl ⟨rfl, rfl⟩) w_G_isIn rfl rfl rfl (Nat.le_of_ble_eq_true rfl) (Nat.le_of_ble_eq_true rfl) (m_rlt (q_G_isIn _) (by decide)) rfl (fun v5 s5 => ?_)
  refine e_ifeq (t := 25) i_G_winters_8 (by decide) ?_ ?_
  · refine e_iconst (v := 0) i_G_winters_25 (by decide) ?_
    exact rfl
  · refine e_iload_n i_G_winters_11 rfl ?_
    refine e_iconst (v := 1) i_G_winters_12 (by decide) ?_
    refine e_bipush (v := 40) i_G_winters_13 (by decide) ?_
    refine e_callI (as := [.int n2, .int 1, .int 40]) (st' := []) i_G_winters_15 lm_124 (Or.inl ⟨rfl, rfl⟩) w_G_isIn rfl rfl rfl (Nat.le_of_ble_eq_true rfl) (Nat.le_of_ble_eq_true rfl) (m_rlt (q_G_isIn _) (by decide)) rfl (fun v15 s15 => ?_)
    refine e_ifeq (t := 25) i_G_winters_18 (by decide) ?_ ?_
    · refine e_iconst (v := 0) i_G_winters_25 (by decide) ?_
      exact rfl
    · refine e_iconst (v := 1) i_G_winters_21 (by decide) ?_
      refine e_goto (t := 26) i_G_winters_22 (by decide) ?_
      exact rfl
set_option maxRecDepth 20000 in
set_option maxHeartbeats 1000000 in
theorem E_G_winters_26 (x : m_X) (ρ : Nat) (hρ : 9 ≤ ρ) (s : m_H) (w : Nat) (n1 : Int32) (n2 : Int32) (nt0 : Int32)  : m_D x ρ k_G_winters 26 [some (.ref w), some (.int n1), some (.int n2), none, none] [.int nt0] s = if nt0 = 0 then (some (some (.int (-1)), s)) else (m_fR s 10 0 w).bind fun v32 => (m_fR s 9 0 v32).bind fun v35 => (m_ia x s v35 0).bind fun v39 => if v39 = 0 then (some (some (.int (-1)), s)) else (m_fR s 10 1 w).bind fun v46 => (m_fR s 10 0 w).bind fun v50 => m_bV (m_M x k_Steps_mark [.ref v46, .ref v50] s) fun s53 => (m_fR s53 10 0 w).bind fun v57 => m_bV (m_M x k_World_sow [.ref v57, .int n1] s53) fun s61 => m_D x ρ k_G_winters 67 [some (.ref w), some (.int n1), some (.int n2), some (.int nt0), some (.int 0)] [] s61 := by
  refine e_istore_n (L' := [some (.ref w), some (.int n1), some (.int n2), some (.int nt0), none]) i_G_winters_26 (of_decide_eq_true rfl) rfl ?_
  refine e_iload_n i_G_winters_27 rfl ?_
  refine e_ifeq (t := 43) i_G_winters_28 (by decide) ?_ ?_
  · refine e_iconst (v := (-1)) i_G_winters_43 (by decide) ?_
    exact e_iretI i_G_winters_44 rfl
  · refine e_aload_n i_G_winters_31 rfl ?_
    refine e_getR i_G_winters_32 lf_2 (by decide) ft_10_0 (fun v32 => ?_)
    refine e_getR i_G_winters_35 lf_3 (by decide) ft_9_0 (fun v35 => ?_)
    refine e_iconst (v := 0) i_G_winters_38 (by decide) ?_
    refine e_iald i_G_winters_39 (fun v39 => ?_)
    refine e_ifne (t := 45) i_G_winters_40 (by decide) ?_ ?_
    · refine e_aload_n i_G_winters_45 rfl ?_
      refine e_getR i_G_winters_46 lf_7 (by decide) ft_10_1 (fun v46 => ?_)
      refine e_aload_n i_G_winters_49 rfl ?_
      refine e_getR i_G_winters_50 lf_2 (by decide) ft_10_0 (fun v50 => ?_)
      refine e_callV (as := [.ref v46, .ref v50]) (st' := []) i_G_winters_53 lm_237 (Or.inr (Or.inl ⟨rfl, rfl⟩)) w_Steps_mark rfl rfl rfl (Nat.le_of_ble_eq_true rfl) (Nat.le_of_ble_eq_true rfl) (m_rlt (q_Steps_mark _) (Nat.lt_of_lt_of_le (by decide) hρ)) rfl (fun s53 => ?_)
      refine e_aload_n i_G_winters_56 rfl ?_
      refine e_getR i_G_winters_57 lf_2 (by decide) ft_10_0 (fun v57 => ?_)
      refine e_iload_n i_G_winters_60 rfl ?_
      refine e_callV (as := [.ref v57, .int n1]) (st' := []) i_G_winters_61 lm_238 (Or.inr (Or.inl ⟨rfl, rfl⟩)) w_World_sow rfl rfl rfl (Nat.le_of_ble_eq_true rfl) (Nat.le_of_ble_eq_true rfl) (m_rlt (q_World_sow _) (Nat.lt_of_lt_of_le (by decide) hρ)) rfl (fun s61 => ?_)
      refine e_iconst (v := 0) i_G_winters_64 (by decide) ?_
      refine e_istore (L' := [some (.ref w), some (.int n1), some (.int n2), some (.int nt0), some (.int 0)]) i_G_winters_65 (of_decide_eq_true rfl) rfl ?_
      exact rfl
    · refine e_iconst (v := (-1)) i_G_winters_43 (by decide) ?_
      exact e_iretI i_G_winters_44 rfl
set_option maxRecDepth 20000 in
set_option maxHeartbeats 1000000 in
theorem E_G_winters_67 (x : m_X) (ρ : Nat) (hρ : 9 ≤ ρ) (s : m_H) (w : Nat) (n1 : Int32) (n2 : Int32) (n3 : Int32) (n4 : Int32)  : m_D x ρ k_G_winters 67 [some (.ref w), some (.int n1), some (.int n2), some (.int n3), some (.int n4)] [] s = if n2 ≤ n4 then ((m_fR s 10 1 w).bind fun v91 => m_bV (m_M x k_Steps_keep [.ref v91] s) fun s94 => (m_fR s94 10 0 w).bind fun v98 => (m_fR s94 9 0 v98).bind fun v101 => (m_ia x s94 v101 22).bind fun v106 => some (some (.int v106), s94)) else (m_fR s 10 0 w).bind fun v75 => m_bI (m_M x k_World_draw [.ref v75] s) fun v78 s78 => m_bV (m_M x k_G_drawDeed [.ref w, .int v78] s78) fun s81 => m_D x ρ k_G_winters 67 [some (.ref w), some (.int n1), some (.int n2), some (.int n3), some (.int (n4 + (1 : Int32)))] [] s81 := by
  refine e_iload i_G_winters_67 rfl ?_
  refine e_iload_n i_G_winters_69 rfl ?_
  refine e_icmpge (t := 90) i_G_winters_70 (by decide) ?_ ?_
  · refine e_aload_n i_G_winters_90 rfl ?_
    refine e_getR i_G_winters_91 lf_7 (by decide) ft_10_1 (fun v91 => ?_)
    refine e_callV (as := [.ref v91]) (st' := []) i_G_winters_94 lm_241 (Or.inr (Or.inl ⟨rfl, rfl⟩)) w_Steps_keep rfl rfl rfl (Nat.le_of_ble_eq_true rfl) (Nat.le_of_ble_eq_true rfl) (m_rlt (q_Steps_keep _) (Nat.lt_of_lt_of_le (by decide) hρ)) rfl (fun s94 => ?_)
    refine e_aload_n i_G_winters_97 rfl ?_
    refine e_getR i_G_winters_98 lf_2 (by decide) ft_10_0 (fun v98 => ?_)
    refine e_getR i_G_winters_101 lf_3 (by decide) ft_9_0 (fun v101 => ?_)
    refine e_bipush (v := 22) i_G_winters_104 (by decide) ?_
    refine e_iald i_G_winters_106 (fun v106 => ?_)
    exact e_iretI i_G_winters_107 rfl
  · refine e_aload_n i_G_winters_73 rfl ?_
    refine e_aload_n i_G_winters_74 rfl ?_
    refine e_getR i_G_winters_75 lf_2 (by decide) ft_10_0 (fun v75 => ?_)
    refine e_callI (as := [.ref v75]) (st' := [.ref w]) i_G_winters_78 lm_239 (Or.inr (Or.inl ⟨rfl, rfl⟩)) w_World_draw rfl rfl rfl (Nat.le_of_ble_eq_true rfl) (Nat.le_of_ble_eq_true rfl) (m_rlt (q_World_draw _) (Nat.lt_of_lt_of_le (by decide) hρ)) rfl (fun v78 s78 => ?_)
    refine e_callV (as := [.ref w, .int v78]) (st' := []) i_G_winters_81 lm_240 (Or.inr (Or.inl ⟨rfl, rfl⟩)) w_G_drawDeed rfl rfl rfl (Nat.le_of_ble_eq_true rfl) (Nat.le_of_ble_eq_true rfl) (m_rlt (q_G_drawDeed _) (Nat.lt_of_lt_of_le (by decide) hρ)) rfl (fun s81 => ?_)
    refine e_iinc (w := 1) (L' := [some (.ref w), some (.int n1), some (.int n2), some (.int n3), some (.int (n4 + (1 : Int32)))]) i_G_winters_84 rfl (of_decide_eq_true rfl) (by decide) rfl ?_
    refine e_goto (t := 67) i_G_winters_87 (by decide) ?_
    exact rfl
theorem i_G_drawDeed_0 : m_at k_G_drawDeed 0 = some (.aload_n 0, 1, 0) := m_at_of r_G_drawDeed (by decide +kernel)
theorem i_G_drawDeed_1 : m_at k_G_drawDeed 1 = some (.getfield 10, 3, 2) := m_at_of r_G_drawDeed (by decide +kernel)
theorem i_G_drawDeed_4 : m_at k_G_drawDeed 4 = some (.getfield 170, 3, 3) := m_at_of r_G_drawDeed (by decide +kernel)
theorem i_G_drawDeed_7 : m_at k_G_drawDeed 7 = some (.iconst 0, 1, 0) := m_at_of r_G_drawDeed (by decide +kernel)
theorem i_G_drawDeed_8 : m_at k_G_drawDeed 8 = some (.iaload, 1, 0) := m_at_of r_G_drawDeed (by decide +kernel)
theorem i_G_drawDeed_9 : m_at k_G_drawDeed 9 = some (.istore_n 2, 1, 0) := m_at_of r_G_drawDeed (by decide +kernel)
theorem i_G_drawDeed_10 : m_at k_G_drawDeed 10 = some (.aload_n 0, 1, 0) := m_at_of r_G_drawDeed (by decide +kernel)
theorem i_G_drawDeed_11 : m_at k_G_drawDeed 11 = some (.getfield 10, 3, 2) := m_at_of r_G_drawDeed (by decide +kernel)
theorem i_G_drawDeed_14 : m_at k_G_drawDeed 14 = some (.getfield 170, 3, 3) := m_at_of r_G_drawDeed (by decide +kernel)
theorem i_G_drawDeed_17 : m_at k_G_drawDeed 17 = some (.bipush 25, 2, 0) := m_at_of r_G_drawDeed (by decide +kernel)
theorem i_G_drawDeed_19 : m_at k_G_drawDeed 19 = some (.iaload, 1, 0) := m_at_of r_G_drawDeed (by decide +kernel)
theorem i_G_drawDeed_20 : m_at k_G_drawDeed 20 = some (.istore_n 3, 1, 0) := m_at_of r_G_drawDeed (by decide +kernel)
theorem i_G_drawDeed_21 : m_at k_G_drawDeed 21 = some (.iload_n 2, 1, 0) := m_at_of r_G_drawDeed (by decide +kernel)
theorem i_G_drawDeed_22 : m_at k_G_drawDeed 22 = some (.ifCond .gt (4), 3, 0) := m_at_of r_G_drawDeed (by decide +kernel)
theorem i_G_drawDeed_25 : m_at k_G_drawDeed 25 = some (.return_, 1, 0) := m_at_of r_G_drawDeed (by decide +kernel)
theorem i_G_drawDeed_26 : m_at k_G_drawDeed 26 = some (.iload_n 1, 1, 0) := m_at_of r_G_drawDeed (by decide +kernel)
theorem i_G_drawDeed_27 : m_at k_G_drawDeed 27 = some (.bipush 7, 2, 0) := m_at_of r_G_drawDeed (by decide +kernel)
theorem i_G_drawDeed_29 : m_at k_G_drawDeed 29 = some (.irem, 1, 0) := m_at_of r_G_drawDeed (by decide +kernel)
theorem i_G_drawDeed_30 : m_at k_G_drawDeed 30 = some (.istore 4, 2, 0) := m_at_of r_G_drawDeed (by decide +kernel)
theorem i_G_drawDeed_32 : m_at k_G_drawDeed 32 = some (.iload 4, 2, 0) := m_at_of r_G_drawDeed (by decide +kernel)
theorem i_G_drawDeed_34 : m_at k_G_drawDeed 34 = some (.ifCond .ne (36), 3, 0) := m_at_of r_G_drawDeed (by decide +kernel)
theorem i_G_drawDeed_37 : m_at k_G_drawDeed 37 = some (.aload_n 0, 1, 0) := m_at_of r_G_drawDeed (by decide +kernel)
theorem i_G_drawDeed_38 : m_at k_G_drawDeed 38 = some (.getfield 10, 3, 2) := m_at_of r_G_drawDeed (by decide +kernel)
theorem i_G_drawDeed_41 : m_at k_G_drawDeed 41 = some (.iload_n 1, 1, 0) := m_at_of r_G_drawDeed (by decide +kernel)
theorem i_G_drawDeed_42 : m_at k_G_drawDeed 42 = some (.iload_n 2, 1, 0) := m_at_of r_G_drawDeed (by decide +kernel)
theorem i_G_drawDeed_43 : m_at k_G_drawDeed 43 = some (.irem, 1, 0) := m_at_of r_G_drawDeed (by decide +kernel)
theorem i_G_drawDeed_44 : m_at k_G_drawDeed 44 = some (.iload_n 1, 1, 0) := m_at_of r_G_drawDeed (by decide +kernel)
theorem i_G_drawDeed_45 : m_at k_G_drawDeed 45 = some (.bipush 7, 2, 0) := m_at_of r_G_drawDeed (by decide +kernel)
theorem i_G_drawDeed_47 : m_at k_G_drawDeed 47 = some (.idiv, 1, 0) := m_at_of r_G_drawDeed (by decide +kernel)
theorem i_G_drawDeed_48 : m_at k_G_drawDeed 48 = some (.iload_n 2, 1, 0) := m_at_of r_G_drawDeed (by decide +kernel)
theorem i_G_drawDeed_49 : m_at k_G_drawDeed 49 = some (.irem, 1, 0) := m_at_of r_G_drawDeed (by decide +kernel)
theorem i_G_drawDeed_50 : m_at k_G_drawDeed 50 = some (.iconst 1, 1, 0) := m_at_of r_G_drawDeed (by decide +kernel)
theorem i_G_drawDeed_51 : m_at k_G_drawDeed 51 = some (.iload_n 1, 1, 0) := m_at_of r_G_drawDeed (by decide +kernel)
theorem i_G_drawDeed_52 : m_at k_G_drawDeed 52 = some (.bipush 20, 2, 0) := m_at_of r_G_drawDeed (by decide +kernel)
theorem i_G_drawDeed_54 : m_at k_G_drawDeed 54 = some (.irem, 1, 0) := m_at_of r_G_drawDeed (by decide +kernel)
theorem i_G_drawDeed_55 : m_at k_G_drawDeed 55 = some (.iadd, 1, 0) := m_at_of r_G_drawDeed (by decide +kernel)
theorem i_G_drawDeed_56 : m_at k_G_drawDeed 56 = some (.iload_n 1, 1, 0) := m_at_of r_G_drawDeed (by decide +kernel)
theorem i_G_drawDeed_57 : m_at k_G_drawDeed 57 = some (.iconst 3, 1, 0) := m_at_of r_G_drawDeed (by decide +kernel)
theorem i_G_drawDeed_58 : m_at k_G_drawDeed 58 = some (.irem, 1, 0) := m_at_of r_G_drawDeed (by decide +kernel)
theorem i_G_drawDeed_59 : m_at k_G_drawDeed 59 = some (.iload_n 1, 1, 0) := m_at_of r_G_drawDeed (by decide +kernel)
theorem i_G_drawDeed_60 : m_at k_G_drawDeed 60 = some (.bipush 10, 2, 0) := m_at_of r_G_drawDeed (by decide +kernel)
theorem i_G_drawDeed_62 : m_at k_G_drawDeed 62 = some (.irem, 1, 0) := m_at_of r_G_drawDeed (by decide +kernel)
theorem i_G_drawDeed_63 : m_at k_G_drawDeed 63 = some (.invokevirtual 135, 3, 242) := m_at_of r_G_drawDeed (by decide +kernel)
theorem i_G_drawDeed_66 : m_at k_G_drawDeed 66 = some (.pop, 1, 0) := m_at_of r_G_drawDeed (by decide +kernel)
theorem i_G_drawDeed_67 : m_at k_G_drawDeed 67 = some (.goto (47), 3, 0) := m_at_of r_G_drawDeed (by decide +kernel)
theorem i_G_drawDeed_70 : m_at k_G_drawDeed 70 = some (.iload 4, 2, 0) := m_at_of r_G_drawDeed (by decide +kernel)
theorem i_G_drawDeed_72 : m_at k_G_drawDeed 72 = some (.iconst 4, 1, 0) := m_at_of r_G_drawDeed (by decide +kernel)
theorem i_G_drawDeed_73 : m_at k_G_drawDeed 73 = some (.if_icmp .le (22), 3, 0) := m_at_of r_G_drawDeed (by decide +kernel)
theorem i_G_drawDeed_76 : m_at k_G_drawDeed 76 = some (.aload_n 0, 1, 0) := m_at_of r_G_drawDeed (by decide +kernel)
theorem i_G_drawDeed_77 : m_at k_G_drawDeed 77 = some (.getfield 59, 3, 34) := m_at_of r_G_drawDeed (by decide +kernel)
theorem i_G_drawDeed_80 : m_at k_G_drawDeed 80 = some (.aload_n 0, 1, 0) := m_at_of r_G_drawDeed (by decide +kernel)
theorem i_G_drawDeed_81 : m_at k_G_drawDeed 81 = some (.getfield 10, 3, 2) := m_at_of r_G_drawDeed (by decide +kernel)
theorem i_G_drawDeed_84 : m_at k_G_drawDeed 84 = some (.aload_n 0, 1, 0) := m_at_of r_G_drawDeed (by decide +kernel)
theorem i_G_drawDeed_85 : m_at k_G_drawDeed 85 = some (.invokevirtual 160, 3, 211) := m_at_of r_G_drawDeed (by decide +kernel)
theorem i_G_drawDeed_88 : m_at k_G_drawDeed 88 = some (.invokevirtual 247, 3, 212) := m_at_of r_G_drawDeed (by decide +kernel)
theorem i_G_drawDeed_91 : m_at k_G_drawDeed 91 = some (.pop, 1, 0) := m_at_of r_G_drawDeed (by decide +kernel)
theorem i_G_drawDeed_92 : m_at k_G_drawDeed 92 = some (.goto (22), 3, 0) := m_at_of r_G_drawDeed (by decide +kernel)
theorem i_G_drawDeed_95 : m_at k_G_drawDeed 95 = some (.iload_n 3, 1, 0) := m_at_of r_G_drawDeed (by decide +kernel)
theorem i_G_drawDeed_96 : m_at k_G_drawDeed 96 = some (.ifCond .le (18), 3, 0) := m_at_of r_G_drawDeed (by decide +kernel)
theorem i_G_drawDeed_99 : m_at k_G_drawDeed 99 = some (.aload_n 0, 1, 0) := m_at_of r_G_drawDeed (by decide +kernel)
theorem i_G_drawDeed_100 : m_at k_G_drawDeed 100 = some (.iload 4, 2, 0) := m_at_of r_G_drawDeed (by decide +kernel)
theorem i_G_drawDeed_102 : m_at k_G_drawDeed 102 = some (.iload_n 1, 1, 0) := m_at_of r_G_drawDeed (by decide +kernel)
theorem i_G_drawDeed_103 : m_at k_G_drawDeed 103 = some (.iload_n 1, 1, 0) := m_at_of r_G_drawDeed (by decide +kernel)
theorem i_G_drawDeed_104 : m_at k_G_drawDeed 104 = some (.iload_n 3, 1, 0) := m_at_of r_G_drawDeed (by decide +kernel)
theorem i_G_drawDeed_105 : m_at k_G_drawDeed 105 = some (.irem, 1, 0) := m_at_of r_G_drawDeed (by decide +kernel)
theorem i_G_drawDeed_106 : m_at k_G_drawDeed 106 = some (.iload_n 1, 1, 0) := m_at_of r_G_drawDeed (by decide +kernel)
theorem i_G_drawDeed_107 : m_at k_G_drawDeed 107 = some (.iconst 5, 1, 0) := m_at_of r_G_drawDeed (by decide +kernel)
theorem i_G_drawDeed_108 : m_at k_G_drawDeed 108 = some (.idiv, 1, 0) := m_at_of r_G_drawDeed (by decide +kernel)
theorem i_G_drawDeed_109 : m_at k_G_drawDeed 109 = some (.iload_n 2, 1, 0) := m_at_of r_G_drawDeed (by decide +kernel)
theorem i_G_drawDeed_110 : m_at k_G_drawDeed 110 = some (.irem, 1, 0) := m_at_of r_G_drawDeed (by decide +kernel)
theorem i_G_drawDeed_111 : m_at k_G_drawDeed 111 = some (.invokevirtual 421, 3, 243) := m_at_of r_G_drawDeed (by decide +kernel)
theorem i_G_drawDeed_114 : m_at k_G_drawDeed 114 = some (.return_, 1, 0) := m_at_of r_G_drawDeed (by decide +kernel)
set_option maxRecDepth 20000 in
set_option maxHeartbeats 1000000 in
theorem E_G_drawDeed (x : m_X) (s : m_H) (w : Nat) (n1 : Int32) : m_M x k_G_drawDeed [.ref w, .int n1] s = if m_isO s w 10 = true then ((m_fR s 10 0 w).bind fun v1 => (m_fR s 9 0 v1).bind fun v4 => (m_ia x s v4 0).bind fun v8 => (m_fR s 10 0 w).bind fun v11 => (m_fR s 9 0 v11).bind fun v14 => (m_ia x s v14 25).bind fun v19 => if 0 < v8 then (if (n1 - n1 / (7 : Int32) * (7 : Int32)) = 0 then ((m_fR s 10 0 w).bind fun v38 => if v8 = 0 then none else if v8 = 0 then none else m_bI (m_M x k_World_strike [.ref v38, .int (n1 - n1 / v8 * v8), .int ((n1 / (7 : Int32)) - (n1 / (7 : Int32)) / v8 * v8), .int ((1 : Int32) + (n1 - n1 / (20 : Int32) * (20 : Int32))), .int (n1 - n1 / (3 : Int32) * (3 : Int32)), .int (n1 - n1 / (10 : Int32) * (10 : Int32))] s) fun v63 s63 => some (none, s63)) else if (n1 - n1 / (7 : Int32) * (7 : Int32)) ≤ 4 then (if v19 ≤ 0 then (some (none, s)) else if v19 = 0 then none else if v8 = 0 then none else m_bV (m_M x k_G_drawOnGlove [.ref w, .int (n1 - n1 / (7 : Int32) * (7 : Int32)), .int n1, .int (n1 - n1 / v19 * v19), .int ((n1 / (5 : Int32)) - (n1 / (5 : Int32)) / v8 * v8)] s) fun s111 => some (none, s111)) else (m_fR s 10 9 w).bind fun v77 => (m_fR s 10 0 w).bind fun v81 => m_bN (m_M x k_G_ruling [.ref w] s) (fun v85 s85 => m_bI (m_M x k_Law_passDay [.ref v77, .ref v81, .ref v85] s85) fun v88 s88 => some (none, s88)) fun s85 => m_bI (m_M x k_Law_passDay [.ref v77, .ref v81, .null] s85) fun v88 s88 => some (none, s88)) else some (none, s)) else none := by
  refine e_M1 (L0 := [some (.ref w), some (.int n1), none, none, none]) rfl (by decide +kernel) rfl (q_G_drawDeed _) rfl ?_
  refine e_aload_n i_G_drawDeed_0 rfl ?_
  refine e_getR i_G_drawDeed_1 lf_2 (by decide) ft_10_0 (fun v1 => ?_)
  refine e_getR i_G_drawDeed_4 lf_3 (by decide) ft_9_0 (fun v4 => ?_)
  refine e_iconst (v := 0) i_G_drawDeed_7 (by decide) ?_
  refine e_iald i_G_drawDeed_8 (fun v8 => ?_)
  refine e_istore_n (L' := [some (.ref w), some (.int n1), some (.int v8), none, none]) i_G_drawDeed_9 (of_decide_eq_true rfl) rfl ?_
  refine e_aload_n i_G_drawDeed_10 rfl ?_
  refine e_getR i_G_drawDeed_11 lf_2 (by decide) ft_10_0 (fun v11 => ?_)
  refine e_getR i_G_drawDeed_14 lf_3 (by decide) ft_9_0 (fun v14 => ?_)
  refine e_bipush (v := 25) i_G_drawDeed_17 (by decide) ?_
  refine e_iald i_G_drawDeed_19 (fun v19 => ?_)
  refine e_istore_n (L' := [some (.ref w), some (.int n1), some (.int v8), some (.int v19), none]) i_G_drawDeed_20 (of_decide_eq_true rfl) rfl ?_
  refine e_iload_n i_G_drawDeed_21 rfl ?_
  refine e_ifgt (t := 26) i_G_drawDeed_22 (by decide) ?_ ?_
  · refine e_iload_n i_G_drawDeed_26 rfl ?_
    refine e_bipush (v := 7) i_G_drawDeed_27 (by decide) ?_
    refine e_iremc i_G_drawDeed_29 (by decide) ?_
    refine e_istore (L' := [some (.ref w), some (.int n1), some (.int v8), some (.int v19), some (.int (n1 - n1 / (7 : Int32) * (7 : Int32)))]) i_G_drawDeed_30 (of_decide_eq_true rfl) rfl ?_
    refine e_iload i_G_drawDeed_32 rfl ?_
    refine e_ifne (t := 70) i_G_drawDeed_34 (by decide) ?_ ?_
    · refine e_iload i_G_drawDeed_70 rfl ?_
      refine e_iconst (v := 4) i_G_drawDeed_72 (by decide) ?_
      refine e_icmple (t := 95) i_G_drawDeed_73 (by decide) ?_ ?_
      · refine e_iload_n i_G_drawDeed_95 rfl ?_
        refine e_ifle (t := 114) i_G_drawDeed_96 (by decide) ?_ ?_
        · exact e_vret i_G_drawDeed_114 rfl
        · refine e_aload_n i_G_drawDeed_99 rfl ?_
          refine e_iload i_G_drawDeed_100 rfl ?_
          refine e_iload_n i_G_drawDeed_102 rfl ?_
          refine e_iload_n i_G_drawDeed_103 rfl ?_
          refine e_iload_n i_G_drawDeed_104 rfl ?_
          refine e_irem i_G_drawDeed_105 ?_
          refine e_iload_n i_G_drawDeed_106 rfl ?_
          refine e_iconst (v := 5) i_G_drawDeed_107 (by decide) ?_
          refine e_idivc i_G_drawDeed_108 (by decide) ?_
          refine e_iload_n i_G_drawDeed_109 rfl ?_
          refine e_irem i_G_drawDeed_110 ?_
          refine e_callV (as := [.ref w, .int (n1 - n1 / (7 : Int32) * (7 : Int32)), .int n1, .int (n1 - n1 / v19 * v19), .int ((n1 / (5 : Int32)) - (n1 / (5 : Int32)) / v8 * v8)]) (st' := []) i_G_drawDeed_111 lm_243 (Or.inr (Or.inl ⟨rfl, rfl⟩)) w_G_drawOnGlove rfl rfl rfl (Nat.le_of_ble_eq_true rfl) (Nat.le_of_ble_eq_true rfl) (m_rlt (q_G_drawOnGlove _) (by decide)) rfl (fun s111 => ?_)
          exact e_vret i_G_drawDeed_114 rfl
      · refine e_aload_n i_G_drawDeed_76 rfl ?_
        refine e_getR i_G_drawDeed_77 lf_34 (by decide) ft_10_9 (fun v77 => ?_)
        refine e_aload_n i_G_drawDeed_80 rfl ?_
        refine e_getR i_G_drawDeed_81 lf_2 (by decide) ft_10_0 (fun v81 => ?_)
        refine e_aload_n i_G_drawDeed_84 rfl ?_
        refine e_callN (as := [.ref w]) (st' := [.ref v81, .ref v77]) i_G_drawDeed_85 lm_211 (Or.inr (Or.inl ⟨rfl, rfl⟩)) w_G_ruling rfl rfl rfl (Nat.le_of_ble_eq_true rfl) (Nat.le_of_ble_eq_true rfl) (m_rlt (q_G_ruling _) (by decide)) rfl (fun v85 s85 => ?_) (fun s85 => ?_)
        · refine e_callI (as := [.ref v77, .ref v81, .ref v85]) (st' := []) i_G_drawDeed_88 lm_212 (Or.inr (Or.inl ⟨rfl, rfl⟩)) w_Law_passDay rfl rfl rfl (Nat.le_of_ble_eq_true rfl) (Nat.le_of_ble_eq_true rfl) (m_rlt (q_Law_passDay _) (by decide)) rfl (fun v88 s88 => ?_)
          refine e_pop i_G_drawDeed_91 rfl ?_
          refine e_goto (t := 114) i_G_drawDeed_92 (by decide) ?_
          exact e_vret i_G_drawDeed_114 rfl
        · refine e_callI (as := [.ref v77, .ref v81, .null]) (st' := []) i_G_drawDeed_88 lm_212 (Or.inr (Or.inl ⟨rfl, rfl⟩)) w_Law_passDay rfl rfl rfl (Nat.le_of_ble_eq_true rfl) (Nat.le_of_ble_eq_true rfl) (m_rlt (q_Law_passDay _) (by decide)) rfl (fun v88 s88 => ?_)
          refine e_pop i_G_drawDeed_91 rfl ?_
          refine e_goto (t := 114) i_G_drawDeed_92 (by decide) ?_
          exact e_vret i_G_drawDeed_114 rfl
    · refine e_aload_n i_G_drawDeed_37 rfl ?_
      refine e_getR i_G_drawDeed_38 lf_2 (by decide) ft_10_0 (fun v38 => ?_)
      refine e_iload_n i_G_drawDeed_41 rfl ?_
      refine e_iload_n i_G_drawDeed_42 rfl ?_
      refine e_irem i_G_drawDeed_43 ?_
      refine e_iload_n i_G_drawDeed_44 rfl ?_
      refine e_bipush (v := 7) i_G_drawDeed_45 (by decide) ?_
      refine e_idivc i_G_drawDeed_47 (by decide) ?_
      refine e_iload_n i_G_drawDeed_48 rfl ?_
      refine e_irem i_G_drawDeed_49 ?_
      refine e_iconst (v := 1) i_G_drawDeed_50 (by decide) ?_
      refine e_iload_n i_G_drawDeed_51 rfl ?_
      refine e_bipush (v := 20) i_G_drawDeed_52 (by decide) ?_
      refine e_iremc i_G_drawDeed_54 (by decide) ?_
      refine e_iadd i_G_drawDeed_55 ?_
      refine e_iload_n i_G_drawDeed_56 rfl ?_
      refine e_iconst (v := 3) i_G_drawDeed_57 (by decide) ?_
      refine e_iremc i_G_drawDeed_58 (by decide) ?_
      refine e_iload_n i_G_drawDeed_59 rfl ?_
      refine e_bipush (v := 10) i_G_drawDeed_60 (by decide) ?_
      refine e_iremc i_G_drawDeed_62 (by decide) ?_
      refine e_callI (as := [.ref v38, .int (n1 - n1 / v8 * v8), .int ((n1 / (7 : Int32)) - (n1 / (7 : Int32)) / v8 * v8), .int ((1 : Int32) + (n1 - n1 / (20 : Int32) * (20 : Int32))), .int (n1 - n1 / (3 : Int32) * (3 : Int32)), .int (n1 - n1 / (10 : Int32) * (10 : Int32))]) (st' := []) i_G_drawDeed_63 lm_242 (Or.inr (Or.inl ⟨rfl, rfl⟩)) w_World_strike rfl rfl rfl (Nat.le_of_ble_eq_true rfl) (Nat.le_of_ble_eq_true rfl) (m_rlt (q_World_strike _) (by decide)) rfl (fun v63 s63 => ?_)
      refine e_pop i_G_drawDeed_66 rfl ?_
      refine e_goto (t := 114) i_G_drawDeed_67 (by decide) ?_
      exact e_vret i_G_drawDeed_114 rfl
  · exact e_vret i_G_drawDeed_25 rfl
theorem i_G_drawOnGlove_0 : m_at k_G_drawOnGlove 0 = some (.iload_n 1, 1, 0) := m_at_of r_G_drawOnGlove (by decide +kernel)
theorem i_G_drawOnGlove_1 : m_at k_G_drawOnGlove 1 = some (.iconst 1, 1, 0) := m_at_of r_G_drawOnGlove (by decide +kernel)
theorem i_G_drawOnGlove_2 : m_at k_G_drawOnGlove 2 = some (.if_icmp .ne (21), 3, 0) := m_at_of r_G_drawOnGlove (by decide +kernel)
theorem i_G_drawOnGlove_5 : m_at k_G_drawOnGlove 5 = some (.aload_n 0, 1, 0) := m_at_of r_G_drawOnGlove (by decide +kernel)
theorem i_G_drawOnGlove_6 : m_at k_G_drawOnGlove 6 = some (.getfield 10, 3, 2) := m_at_of r_G_drawOnGlove (by decide +kernel)
theorem i_G_drawOnGlove_9 : m_at k_G_drawOnGlove 9 = some (.iload_n 3, 1, 0) := m_at_of r_G_drawOnGlove (by decide +kernel)
theorem i_G_drawOnGlove_10 : m_at k_G_drawOnGlove 10 = some (.iconst 1, 1, 0) := m_at_of r_G_drawOnGlove (by decide +kernel)
theorem i_G_drawOnGlove_11 : m_at k_G_drawOnGlove 11 = some (.iload_n 2, 1, 0) := m_at_of r_G_drawOnGlove (by decide +kernel)
theorem i_G_drawOnGlove_12 : m_at k_G_drawOnGlove 12 = some (.bipush 9, 2, 0) := m_at_of r_G_drawOnGlove (by decide +kernel)
theorem i_G_drawOnGlove_14 : m_at k_G_drawOnGlove 14 = some (.irem, 1, 0) := m_at_of r_G_drawOnGlove (by decide +kernel)
theorem i_G_drawOnGlove_15 : m_at k_G_drawOnGlove 15 = some (.iadd, 1, 0) := m_at_of r_G_drawOnGlove (by decide +kernel)
theorem i_G_drawOnGlove_16 : m_at k_G_drawOnGlove 16 = some (.invokevirtual 143, 3, 244) := m_at_of r_G_drawOnGlove (by decide +kernel)
theorem i_G_drawOnGlove_19 : m_at k_G_drawOnGlove 19 = some (.pop, 1, 0) := m_at_of r_G_drawOnGlove (by decide +kernel)
theorem i_G_drawOnGlove_20 : m_at k_G_drawOnGlove 20 = some (.goto (67), 3, 0) := m_at_of r_G_drawOnGlove (by decide +kernel)
theorem i_G_drawOnGlove_23 : m_at k_G_drawOnGlove 23 = some (.iload_n 1, 1, 0) := m_at_of r_G_drawOnGlove (by decide +kernel)
theorem i_G_drawOnGlove_24 : m_at k_G_drawOnGlove 24 = some (.iconst 2, 1, 0) := m_at_of r_G_drawOnGlove (by decide +kernel)
theorem i_G_drawOnGlove_25 : m_at k_G_drawOnGlove 25 = some (.if_icmp .ne (17), 3, 0) := m_at_of r_G_drawOnGlove (by decide +kernel)
theorem i_G_drawOnGlove_28 : m_at k_G_drawOnGlove 28 = some (.aload_n 0, 1, 0) := m_at_of r_G_drawOnGlove (by decide +kernel)
theorem i_G_drawOnGlove_29 : m_at k_G_drawOnGlove 29 = some (.getfield 10, 3, 2) := m_at_of r_G_drawOnGlove (by decide +kernel)
theorem i_G_drawOnGlove_32 : m_at k_G_drawOnGlove 32 = some (.iload_n 3, 1, 0) := m_at_of r_G_drawOnGlove (by decide +kernel)
theorem i_G_drawOnGlove_33 : m_at k_G_drawOnGlove 33 = some (.iload 4, 2, 0) := m_at_of r_G_drawOnGlove (by decide +kernel)
theorem i_G_drawOnGlove_35 : m_at k_G_drawOnGlove 35 = some (.invokevirtual 146, 3, 245) := m_at_of r_G_drawOnGlove (by decide +kernel)
theorem i_G_drawOnGlove_38 : m_at k_G_drawOnGlove 38 = some (.pop, 1, 0) := m_at_of r_G_drawOnGlove (by decide +kernel)
theorem i_G_drawOnGlove_39 : m_at k_G_drawOnGlove 39 = some (.goto (48), 3, 0) := m_at_of r_G_drawOnGlove (by decide +kernel)
theorem i_G_drawOnGlove_42 : m_at k_G_drawOnGlove 42 = some (.iload_n 1, 1, 0) := m_at_of r_G_drawOnGlove (by decide +kernel)
theorem i_G_drawOnGlove_43 : m_at k_G_drawOnGlove 43 = some (.iconst 3, 1, 0) := m_at_of r_G_drawOnGlove (by decide +kernel)
theorem i_G_drawOnGlove_44 : m_at k_G_drawOnGlove 44 = some (.if_icmp .ne (21), 3, 0) := m_at_of r_G_drawOnGlove (by decide +kernel)
theorem i_G_drawOnGlove_47 : m_at k_G_drawOnGlove 47 = some (.iload_n 2, 1, 0) := m_at_of r_G_drawOnGlove (by decide +kernel)
theorem i_G_drawOnGlove_48 : m_at k_G_drawOnGlove 48 = some (.iconst 3, 1, 0) := m_at_of r_G_drawOnGlove (by decide +kernel)
theorem i_G_drawOnGlove_49 : m_at k_G_drawOnGlove 49 = some (.irem, 1, 0) := m_at_of r_G_drawOnGlove (by decide +kernel)
theorem i_G_drawOnGlove_50 : m_at k_G_drawOnGlove 50 = some (.ifCond .ne (15), 3, 0) := m_at_of r_G_drawOnGlove (by decide +kernel)
theorem i_G_drawOnGlove_53 : m_at k_G_drawOnGlove 53 = some (.aload_n 0, 1, 0) := m_at_of r_G_drawOnGlove (by decide +kernel)
theorem i_G_drawOnGlove_54 : m_at k_G_drawOnGlove 54 = some (.getfield 10, 3, 2) := m_at_of r_G_drawOnGlove (by decide +kernel)
theorem i_G_drawOnGlove_57 : m_at k_G_drawOnGlove 57 = some (.iload_n 3, 1, 0) := m_at_of r_G_drawOnGlove (by decide +kernel)
theorem i_G_drawOnGlove_58 : m_at k_G_drawOnGlove 58 = some (.invokevirtual 154, 3, 246) := m_at_of r_G_drawOnGlove (by decide +kernel)
theorem i_G_drawOnGlove_61 : m_at k_G_drawOnGlove 61 = some (.pop, 1, 0) := m_at_of r_G_drawOnGlove (by decide +kernel)
theorem i_G_drawOnGlove_62 : m_at k_G_drawOnGlove 62 = some (.goto (25), 3, 0) := m_at_of r_G_drawOnGlove (by decide +kernel)
theorem i_G_drawOnGlove_65 : m_at k_G_drawOnGlove 65 = some (.iload_n 1, 1, 0) := m_at_of r_G_drawOnGlove (by decide +kernel)
theorem i_G_drawOnGlove_66 : m_at k_G_drawOnGlove 66 = some (.iconst 4, 1, 0) := m_at_of r_G_drawOnGlove (by decide +kernel)
theorem i_G_drawOnGlove_67 : m_at k_G_drawOnGlove 67 = some (.if_icmp .ne (20), 3, 0) := m_at_of r_G_drawOnGlove (by decide +kernel)
theorem i_G_drawOnGlove_70 : m_at k_G_drawOnGlove 70 = some (.aload_n 0, 1, 0) := m_at_of r_G_drawOnGlove (by decide +kernel)
theorem i_G_drawOnGlove_71 : m_at k_G_drawOnGlove 71 = some (.getfield 59, 3, 34) := m_at_of r_G_drawOnGlove (by decide +kernel)
theorem i_G_drawOnGlove_74 : m_at k_G_drawOnGlove 74 = some (.aload_n 0, 1, 0) := m_at_of r_G_drawOnGlove (by decide +kernel)
theorem i_G_drawOnGlove_75 : m_at k_G_drawOnGlove 75 = some (.getfield 10, 3, 2) := m_at_of r_G_drawOnGlove (by decide +kernel)
theorem i_G_drawOnGlove_78 : m_at k_G_drawOnGlove 78 = some (.aload_n 0, 1, 0) := m_at_of r_G_drawOnGlove (by decide +kernel)
theorem i_G_drawOnGlove_79 : m_at k_G_drawOnGlove 79 = some (.invokevirtual 160, 3, 211) := m_at_of r_G_drawOnGlove (by decide +kernel)
theorem i_G_drawOnGlove_82 : m_at k_G_drawOnGlove 82 = some (.iload_n 3, 1, 0) := m_at_of r_G_drawOnGlove (by decide +kernel)
theorem i_G_drawOnGlove_83 : m_at k_G_drawOnGlove 83 = some (.invokevirtual 163, 3, 247) := m_at_of r_G_drawOnGlove (by decide +kernel)
theorem i_G_drawOnGlove_86 : m_at k_G_drawOnGlove 86 = some (.pop, 1, 0) := m_at_of r_G_drawOnGlove (by decide +kernel)
theorem i_G_drawOnGlove_87 : m_at k_G_drawOnGlove 87 = some (.return_, 1, 0) := m_at_of r_G_drawOnGlove (by decide +kernel)
set_option maxRecDepth 20000 in
set_option maxHeartbeats 1000000 in
theorem E_G_drawOnGlove (x : m_X) (s : m_H) (w : Nat) (n1 : Int32) (n2 : Int32) (n3 : Int32) (n4 : Int32) : m_M x k_G_drawOnGlove [.ref w, .int n1, .int n2, .int n3, .int n4] s = if m_isO s w 10 = true then (if n1 = 1 then ((m_fR s 10 0 w).bind fun v6 => m_bI (m_M x k_World_labour [.ref v6, .int n3, .int ((1 : Int32) + (n2 - n2 / (9 : Int32) * (9 : Int32)))] s) fun v16 s16 => some (none, s16)) else if n1 = 2 then ((m_fR s 10 0 w).bind fun v29 => m_bI (m_M x k_World_handOn [.ref v29, .int n3, .int n4] s) fun v35 s35 => some (none, s35)) else if n1 = 3 then (if (n2 - n2 / (3 : Int32) * (3 : Int32)) = 0 then ((m_fR s 10 0 w).bind fun v54 => m_bI (m_M x k_World_drop [.ref v54, .int n3] s) fun v58 s58 => some (none, s58)) else if n1 = 4 then ((m_fR s 10 9 w).bind fun v71 => (m_fR s 10 0 w).bind fun v75 => m_bN (m_M x k_G_ruling [.ref w] s) (fun v79 s79 => m_bI (m_M x k_Law_pawnOff [.ref v71, .ref v75, .ref v79, .int n3] s79) fun v83 s83 => some (none, s83)) fun s79 => m_bI (m_M x k_Law_pawnOff [.ref v71, .ref v75, .null, .int n3] s79) fun v83 s83 => some (none, s83)) else some (none, s)) else if n1 = 4 then ((m_fR s 10 9 w).bind fun v71 => (m_fR s 10 0 w).bind fun v75 => m_bN (m_M x k_G_ruling [.ref w] s) (fun v79 s79 => m_bI (m_M x k_Law_pawnOff [.ref v71, .ref v75, .ref v79, .int n3] s79) fun v83 s83 => some (none, s83)) fun s79 => m_bI (m_M x k_Law_pawnOff [.ref v71, .ref v75, .null, .int n3] s79) fun v83 s83 => some (none, s83)) else some (none, s)) else none := by
  refine e_M1 (L0 := [some (.ref w), some (.int n1), some (.int n2), some (.int n3), some (.int n4)]) rfl (by decide +kernel) rfl (q_G_drawOnGlove _) rfl ?_
  refine e_iload_n i_G_drawOnGlove_0 rfl ?_
  refine e_iconst (v := 1) i_G_drawOnGlove_1 (by decide) ?_
  refine e_icmpne (t := 23) i_G_drawOnGlove_2 (by decide) ?_ ?_
  · refine e_iload_n i_G_drawOnGlove_23 rfl ?_
    refine e_iconst (v := 2) i_G_drawOnGlove_24 (by decide) ?_
    refine e_icmpne (t := 42) i_G_drawOnGlove_25 (by decide) ?_ ?_
    · refine e_iload_n i_G_drawOnGlove_42 rfl ?_
      refine e_iconst (v := 3) i_G_drawOnGlove_43 (by decide) ?_
      refine e_icmpne (t := 65) i_G_drawOnGlove_44 (by decide) ?_ ?_
      · refine e_iload_n i_G_drawOnGlove_65 rfl ?_
        refine e_iconst (v := 4) i_G_drawOnGlove_66 (by decide) ?_
        refine e_icmpne (t := 87) i_G_drawOnGlove_67 (by decide) ?_ ?_
        · exact e_vret i_G_drawOnGlove_87 rfl
        · refine e_aload_n i_G_drawOnGlove_70 rfl ?_
          refine e_getR i_G_drawOnGlove_71 lf_34 (by decide) ft_10_9 (fun v71 => ?_)
          refine e_aload_n i_G_drawOnGlove_74 rfl ?_
          refine e_getR i_G_drawOnGlove_75 lf_2 (by decide) ft_10_0 (fun v75 => ?_)
          refine e_aload_n i_G_drawOnGlove_78 rfl ?_
          refine e_callN (as := [.ref w]) (st' := [.ref v75, .ref v71]) i_G_drawOnGlove_79 lm_211 (Or.inr (Or.inl ⟨rfl, rfl⟩)) w_G_ruling rfl rfl rfl (Nat.le_of_ble_eq_true rfl) (Nat.le_of_ble_eq_true rfl) (m_rlt (q_G_ruling _) (by decide)) rfl (fun v79 s79 => ?_) (fun s79 => ?_)
          · refine e_iload_n i_G_drawOnGlove_82 rfl ?_
            refine e_callI (as := [.ref v71, .ref v75, .ref v79, .int n3]) (st' := []) i_G_drawOnGlove_83 lm_247 (Or.inr (Or.inl ⟨rfl, rfl⟩)) w_Law_pawnOff rfl rfl rfl (Nat.le_of_ble_eq_true rfl) (Nat.le_of_ble_eq_true rfl) (m_rlt (q_Law_pawnOff _) (by decide)) rfl (fun v83 s83 => ?_)
            refine e_pop i_G_drawOnGlove_86 rfl ?_
            exact e_vret i_G_drawOnGlove_87 rfl
          · refine e_iload_n i_G_drawOnGlove_82 rfl ?_
            refine e_callI (as := [.ref v71, .ref v75, .null, .int n3]) (st' := []) i_G_drawOnGlove_83 lm_247 (Or.inr (Or.inl ⟨rfl, rfl⟩)) w_Law_pawnOff rfl rfl rfl (Nat.le_of_ble_eq_true rfl) (Nat.le_of_ble_eq_true rfl) (m_rlt (q_Law_pawnOff _) (by decide)) rfl (fun v83 s83 => ?_)
            refine e_pop i_G_drawOnGlove_86 rfl ?_
            exact e_vret i_G_drawOnGlove_87 rfl
      · refine e_iload_n i_G_drawOnGlove_47 rfl ?_
        refine e_iconst (v := 3) i_G_drawOnGlove_48 (by decide) ?_
        refine e_iremc i_G_drawOnGlove_49 (by decide) ?_
        refine e_ifne (t := 65) i_G_drawOnGlove_50 (by decide) ?_ ?_
        · refine e_iload_n i_G_drawOnGlove_65 rfl ?_
          refine e_iconst (v := 4) i_G_drawOnGlove_66 (by decide) ?_
          refine e_icmpne (t := 87) i_G_drawOnGlove_67 (by decide) ?_ ?_
          · exact e_vret i_G_drawOnGlove_87 rfl
          · refine e_aload_n i_G_drawOnGlove_70 rfl ?_
            refine e_getR i_G_drawOnGlove_71 lf_34 (by decide) ft_10_9 (fun v71 => ?_)
            refine e_aload_n i_G_drawOnGlove_74 rfl ?_
            refine e_getR i_G_drawOnGlove_75 lf_2 (by decide) ft_10_0 (fun v75 => ?_)
            refine e_aload_n i_G_drawOnGlove_78 rfl ?_
            refine e_callN (as := [.ref w]) (st' := [.ref v75, .ref v71]) i_G_drawOnGlove_79 lm_211 (Or.inr (Or.inl ⟨rfl, rfl⟩)) w_G_ruling rfl rfl rfl (Nat.le_of_ble_eq_true rfl) (Nat.le_of_ble_eq_true rfl) (m_rlt (q_G_ruling _) (by decide)) rfl (fun v79 s79 => ?_) (fun s79 => ?_)
            · refine e_iload_n i_G_drawOnGlove_82 rfl ?_
              refine e_callI (as := [.ref v71, .ref v75, .ref v79, .int n3]) (st' := []) i_G_drawOnGlove_83 lm_247 (Or.inr (Or.inl ⟨rfl, rfl⟩)) w_Law_pawnOff rfl rfl rfl (Nat.le_of_ble_eq_true rfl) (Nat.le_of_ble_eq_true rfl) (m_rlt (q_Law_pawnOff _) (by decide)) rfl (fun v83 s83 => ?_)
              refine e_pop i_G_drawOnGlove_86 rfl ?_
              exact e_vret i_G_drawOnGlove_87 rfl
            · refine e_iload_n i_G_drawOnGlove_82 rfl ?_
              refine e_callI (as := [.ref v71, .ref v75, .null, .int n3]) (st' := []) i_G_drawOnGlove_83 lm_247 (Or.inr (Or.inl ⟨rfl, rfl⟩)) w_Law_pawnOff rfl rfl rfl (Nat.le_of_ble_eq_true rfl) (Nat.le_of_ble_eq_true rfl) (m_rlt (q_Law_pawnOff _) (by decide)) rfl (fun v83 s83 => ?_)
              refine e_pop i_G_drawOnGlove_86 rfl ?_
              exact e_vret i_G_drawOnGlove_87 rfl
        · refine e_aload_n i_G_drawOnGlove_53 rfl ?_
          refine e_getR i_G_drawOnGlove_54 lf_2 (by decide) ft_10_0 (fun v54 => ?_)
          refine e_iload_n i_G_drawOnGlove_57 rfl ?_
          refine e_callI (as := [.ref v54, .int n3]) (st' := []) i_G_drawOnGlove_58 lm_246 (Or.inr (Or.inl ⟨rfl, rfl⟩)) w_World_drop rfl rfl rfl (Nat.le_of_ble_eq_true rfl) (Nat.le_of_ble_eq_true rfl) (m_rlt (q_World_drop _) (by decide)) rfl (fun v58 s58 => ?_)
          refine e_pop i_G_drawOnGlove_61 rfl ?_
          refine e_goto (t := 87) i_G_drawOnGlove_62 (by decide) ?_
          exact e_vret i_G_drawOnGlove_87 rfl
    · refine e_aload_n i_G_drawOnGlove_28 rfl ?_
      refine e_getR i_G_drawOnGlove_29 lf_2 (by decide) ft_10_0 (fun v29 => ?_)
      refine e_iload_n i_G_drawOnGlove_32 rfl ?_
      refine e_iload i_G_drawOnGlove_33 rfl ?_
      refine e_callI (as := [.ref v29, .int n3, .int n4]) (st' := []) i_G_drawOnGlove_35 lm_245 (Or.inr (Or.inl ⟨rfl, rfl⟩)) w_World_handOn rfl rfl rfl (Nat.le_of_ble_eq_true rfl) (Nat.le_of_ble_eq_true rfl) (m_rlt (q_World_handOn _) (by decide)) rfl (fun v35 s35 => ?_)
      refine e_pop i_G_drawOnGlove_38 rfl ?_
      refine e_goto (t := 87) i_G_drawOnGlove_39 (by decide) ?_
      exact e_vret i_G_drawOnGlove_87 rfl
  · refine e_aload_n i_G_drawOnGlove_5 rfl ?_
    refine e_getR i_G_drawOnGlove_6 lf_2 (by decide) ft_10_0 (fun v6 => ?_)
    refine e_iload_n i_G_drawOnGlove_9 rfl ?_
    refine e_iconst (v := 1) i_G_drawOnGlove_10 (by decide) ?_
    refine e_iload_n i_G_drawOnGlove_11 rfl ?_
    refine e_bipush (v := 9) i_G_drawOnGlove_12 (by decide) ?_
    refine e_iremc i_G_drawOnGlove_14 (by decide) ?_
    refine e_iadd i_G_drawOnGlove_15 ?_
    refine e_callI (as := [.ref v6, .int n3, .int ((1 : Int32) + (n2 - n2 / (9 : Int32) * (9 : Int32)))]) (st' := []) i_G_drawOnGlove_16 lm_244 (Or.inr (Or.inl ⟨rfl, rfl⟩)) w_World_labour rfl rfl rfl (Nat.le_of_ble_eq_true rfl) (Nat.le_of_ble_eq_true rfl) (m_rlt (q_World_labour _) (by decide)) rfl (fun v16 s16 => ?_)
    refine e_pop i_G_drawOnGlove_19 rfl ?_
    refine e_goto (t := 87) i_G_drawOnGlove_20 (by decide) ?_
    exact e_vret i_G_drawOnGlove_87 rfl
theorem i_G_played_0 : m_at k_G_played 0 = some (.aload_n 0, 1, 0) := m_at_of r_G_played (by decide +kernel)
theorem i_G_played_1 : m_at k_G_played 1 = some (.iload_n 1, 1, 0) := m_at_of r_G_played (by decide +kernel)
theorem i_G_played_2 : m_at k_G_played 2 = some (.invokevirtual 177, 3, 118) := m_at_of r_G_played (by decide +kernel)
theorem i_G_played_5 : m_at k_G_played 5 = some (.astore_n 2, 1, 0) := m_at_of r_G_played (by decide +kernel)
theorem i_G_played_6 : m_at k_G_played 6 = some (.aload_n 2, 1, 0) := m_at_of r_G_played (by decide +kernel)
theorem i_G_played_7 : m_at k_G_played 7 = some (.ifnonnull (6), 3, 0) := m_at_of r_G_played (by decide +kernel)
theorem i_G_played_10 : m_at k_G_played 10 = some (.bipush (-2), 2, 0) := m_at_of r_G_played (by decide +kernel)
theorem i_G_played_12 : m_at k_G_played 12 = some (.ireturn, 1, 0) := m_at_of r_G_played (by decide +kernel)
theorem i_G_played_13 : m_at k_G_played 13 = some (.iconst 0, 1, 0) := m_at_of r_G_played (by decide +kernel)
theorem i_G_played_14 : m_at k_G_played 14 = some (.istore_n 3, 1, 0) := m_at_of r_G_played (by decide +kernel)
theorem i_G_played_15 : m_at k_G_played 15 = some (.iload_n 3, 1, 0) := m_at_of r_G_played (by decide +kernel)
theorem i_G_played_16 : m_at k_G_played 16 = some (.aload_n 2, 1, 0) := m_at_of r_G_played (by decide +kernel)
theorem i_G_played_17 : m_at k_G_played 17 = some (.getfield 181, 3, 80) := m_at_of r_G_played (by decide +kernel)
theorem i_G_played_20 : m_at k_G_played 20 = some (.if_icmp .ge (20), 3, 0) := m_at_of r_G_played (by decide +kernel)
theorem i_G_played_23 : m_at k_G_played 23 = some (.aload_n 0, 1, 0) := m_at_of r_G_played (by decide +kernel)
theorem i_G_played_24 : m_at k_G_played 24 = some (.aload_n 2, 1, 0) := m_at_of r_G_played (by decide +kernel)
theorem i_G_played_25 : m_at k_G_played 25 = some (.iload_n 3, 1, 0) := m_at_of r_G_played (by decide +kernel)
theorem i_G_played_26 : m_at k_G_played 26 = some (.invokevirtual 184, 3, 257) := m_at_of r_G_played (by decide +kernel)
theorem i_G_played_29 : m_at k_G_played 29 = some (.ifCond .ne (5), 3, 0) := m_at_of r_G_played (by decide +kernel)
theorem i_G_played_32 : m_at k_G_played 32 = some (.iload_n 3, 1, 0) := m_at_of r_G_played (by decide +kernel)
theorem i_G_played_33 : m_at k_G_played 33 = some (.ireturn, 1, 0) := m_at_of r_G_played (by decide +kernel)
theorem i_G_played_34 : m_at k_G_played 34 = some (.iinc 3 (1), 3, 0) := m_at_of r_G_played (by decide +kernel)
theorem i_G_played_37 : m_at k_G_played 37 = some (.goto (-22), 3, 0) := m_at_of r_G_played (by decide +kernel)
theorem i_G_played_40 : m_at k_G_played 40 = some (.iconst (-1), 1, 0) := m_at_of r_G_played (by decide +kernel)
theorem i_G_played_41 : m_at k_G_played 41 = some (.ireturn, 1, 0) := m_at_of r_G_played (by decide +kernel)
set_option maxRecDepth 20000 in
set_option maxHeartbeats 1000000 in
theorem E_G_played (x : m_X) (s : m_H) (w : Nat) (n1 : Int32) : m_M x k_G_played [.ref w, .int n1] s = if m_isO s w 10 = true then (m_bN (m_M x k_G_scriptAt [.ref w, .int n1] s) (fun v2 s2 => m_D x 9 k_G_played 15 [some (.ref w), some (.int n1), some (.ref v2), some (.int 0)] [] s2) fun s2 => some (some (.int (-2)), s2)) else none := by
  refine e_M1 (L0 := [some (.ref w), some (.int n1), none, none]) rfl (by decide +kernel) rfl (q_G_played _) rfl ?_
  refine e_aload_n i_G_played_0 rfl ?_
  refine e_iload_n i_G_played_1 rfl ?_
  refine e_callN (as := [.ref w, .int n1]) (st' := []) i_G_played_2 lm_118 (Or.inr (Or.inl ⟨rfl, rfl⟩)) w_G_scriptAt rfl rfl rfl (Nat.le_of_ble_eq_true rfl) (Nat.le_of_ble_eq_true rfl) (m_rlt (q_G_scriptAt _) (by decide)) rfl (fun v2 s2 => ?_) (fun s2 => ?_)
  · refine e_astore_n (L' := [some (.ref w), some (.int n1), some (.ref v2), none]) i_G_played_5 (of_decide_eq_true rfl) rfl ?_
    refine e_aload_n i_G_played_6 rfl ?_
    refine e_ifnnR (t := 13) i_G_played_7 (by decide) ?_
    refine e_iconst (v := 0) i_G_played_13 (by decide) ?_
    refine e_istore_n (L' := [some (.ref w), some (.int n1), some (.ref v2), some (.int 0)]) i_G_played_14 (of_decide_eq_true rfl) rfl ?_
    exact rfl
  · refine e_astore_nN (L' := [some (.ref w), some (.int n1), some (.null), none]) i_G_played_5 (of_decide_eq_true rfl) rfl ?_
    refine e_aload_nN i_G_played_6 rfl ?_
    refine e_ifnnN i_G_played_7 ?_
    refine e_bipush (v := (-2)) i_G_played_10 (by decide) ?_
    exact e_iretI i_G_played_12 rfl
set_option maxRecDepth 20000 in
set_option maxHeartbeats 1000000 in
theorem E_G_played_15 (x : m_X) (ρ : Nat) (hρ : 9 ≤ ρ) (s : m_H) (w : Nat) (n1 : Int32) (r2 : Nat) (n3 : Int32)  : m_D x ρ k_G_played 15 [some (.ref w), some (.int n1), some (.ref r2), some (.int n3)] [] s = (m_fI s 5 5 r2).bind fun v17 => if v17 ≤ n3 then (some (some (.int (-1)), s)) else m_bI (m_M x k_G_isDone [.ref w, .ref r2, .int n3] s) fun v26 s26 => if v26 = 0 then (some (some (.int n3), s26)) else m_D x ρ k_G_played 15 [some (.ref w), some (.int n1), some (.ref r2), some (.int (n3 + (1 : Int32)))] [] s26 := by
  refine e_iload_n i_G_played_15 rfl ?_
  refine e_aload_n i_G_played_16 rfl ?_
  refine e_getI i_G_played_17 lf_80 (by decide) (Or.inl ft_5_5) (fun v17 => ?_)
  refine e_icmpge (t := 40) i_G_played_20 (by decide) ?_ ?_
  · refine e_iconst (v := (-1)) i_G_played_40 (by decide) ?_
    exact e_iretI i_G_played_41 rfl
  · refine e_aload_n i_G_played_23 rfl ?_
    refine e_aload_n i_G_played_24 rfl ?_
    refine e_iload_n i_G_played_25 rfl ?_
    refine e_callI (as := [.ref w, .ref r2, .int n3]) (st' := []) i_G_played_26 lm_257 (Or.inr (Or.inl ⟨rfl, rfl⟩)) w_G_isDone rfl rfl rfl (Nat.le_of_ble_eq_true rfl) (Nat.le_of_ble_eq_true rfl) (m_rlt (q_G_isDone _) (Nat.lt_of_lt_of_le (by decide) hρ)) rfl (fun v26 s26 => ?_)
    refine e_ifne (t := 34) i_G_played_29 (by decide) ?_ ?_
    · refine e_iinc (w := 1) (L' := [some (.ref w), some (.int n1), some (.ref r2), some (.int (n3 + (1 : Int32)))]) i_G_played_34 rfl (of_decide_eq_true rfl) (by decide) rfl ?_
      refine e_goto (t := 15) i_G_played_37 (by decide) ?_
      exact rfl
    · refine e_iload_n i_G_played_32 rfl ?_
      exact e_iretI i_G_played_33 rfl
