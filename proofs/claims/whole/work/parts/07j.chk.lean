set_option maxRecDepth 100000 in
theorem m_t8_174_1 : ∀ e ∈ m_i174_1, decode prog_14_method_68_code e.1 = .ok (e.2.1, e.2.2.1) ∧ m_okI 174 e.1 e.2.1 e.2.2.1 e.2.2.2 = true := by decide +kernel
set_option maxRecDepth 100000 in
theorem m_t8_174_2 : ∀ e ∈ m_i174_2, decode prog_14_method_68_code e.1 = .ok (e.2.1, e.2.2.1) ∧ m_okI 174 e.1 e.2.1 e.2.2.1 e.2.2.2 = true := by decide +kernel
set_option maxRecDepth 100000 in
theorem m_t8_174_3 : ∀ e ∈ m_i174_3, decode prog_14_method_68_code e.1 = .ok (e.2.1, e.2.2.1) ∧ m_okI 174 e.1 e.2.1 e.2.2.1 e.2.2.2 = true := by decide +kernel
theorem m_t8_174 : ∀ e ∈ m_i174, decode prog_14_method_68_code e.1 = .ok (e.2.1, e.2.2.1) ∧ m_okI 174 e.1 e.2.1 e.2.2.1 e.2.2.2 = true := List.forall_mem_append.mpr ⟨m_t8_174_0, List.forall_mem_append.mpr ⟨m_t8_174_1, List.forall_mem_append.mpr ⟨m_t8_174_2, m_t8_174_3⟩⟩⟩
set_option maxRecDepth 100000 in
theorem m_t8_175 : ∀ e ∈ m_i175, decode prog_14_method_67_code e.1 = .ok (e.2.1, e.2.2.1) ∧ m_okI 175 e.1 e.2.1 e.2.2.1 e.2.2.2 = true := by decide +kernel
set_option maxRecDepth 100000 in
theorem m_t8_176_0 : ∀ e ∈ m_i176_0, decode prog_14_method_64_code e.1 = .ok (e.2.1, e.2.2.1) ∧ m_okI 176 e.1 e.2.1 e.2.2.1 e.2.2.2 = true := by decide +kernel
set_option maxRecDepth 100000 in
theorem m_t8_176_1 : ∀ e ∈ m_i176_1, decode prog_14_method_64_code e.1 = .ok (e.2.1, e.2.2.1) ∧ m_okI 176 e.1 e.2.1 e.2.2.1 e.2.2.2 = true := by decide +kernel
theorem m_t8_176 : ∀ e ∈ m_i176, decode prog_14_method_64_code e.1 = .ok (e.2.1, e.2.2.1) ∧ m_okI 176 e.1 e.2.1 e.2.2.1 e.2.2.2 = true := List.forall_mem_append.mpr ⟨m_t8_176_0, m_t8_176_1⟩
set_option maxRecDepth 100000 in
theorem m_t8_177 : ∀ e ∈ m_i177, decode prog_14_method_63_code e.1 = .ok (e.2.1, e.2.2.1) ∧ m_okI 177 e.1 e.2.1 e.2.2.1 e.2.2.2 = true := by decide +kernel
set_option maxRecDepth 100000 in
theorem m_t8_178 : ∀ e ∈ m_i178, decode prog_14_method_62_code e.1 = .ok (e.2.1, e.2.2.1) ∧ m_okI 178 e.1 e.2.1 e.2.2.1 e.2.2.2 = true := by decide +kernel
set_option maxRecDepth 100000 in
theorem m_t8_179 : ∀ e ∈ m_i179, decode prog_14_method_65_code e.1 = .ok (e.2.1, e.2.2.1) ∧ m_okI 179 e.1 e.2.1 e.2.2.1 e.2.2.2 = true := by decide +kernel
set_option maxRecDepth 100000 in
theorem m_t8_180 : ∀ e ∈ m_i180, decode prog_14_method_66_code e.1 = .ok (e.2.1, e.2.2.1) ∧ m_okI 180 e.1 e.2.1 e.2.2.1 e.2.2.2 = true := by decide +kernel
set_option maxRecDepth 100000 in
theorem m_t8_181 : ∀ e ∈ m_i181, decode prog_14_method_14_code e.1 = .ok (e.2.1, e.2.2.1) ∧ m_okI 181 e.1 e.2.1 e.2.2.1 e.2.2.2 = true := by decide +kernel
set_option maxRecDepth 100000 in
theorem m_t8_182_0 : ∀ e ∈ m_i182_0, decode prog_14_method_73_code e.1 = .ok (e.2.1, e.2.2.1) ∧ m_okI 182 e.1 e.2.1 e.2.2.1 e.2.2.2 = true := by decide +kernel
set_option maxRecDepth 100000 in
theorem m_t8_182_1 : ∀ e ∈ m_i182_1, decode prog_14_method_73_code e.1 = .ok (e.2.1, e.2.2.1) ∧ m_okI 182 e.1 e.2.1 e.2.2.1 e.2.2.2 = true := by decide +kernel
theorem m_t8_182 : ∀ e ∈ m_i182, decode prog_14_method_73_code e.1 = .ok (e.2.1, e.2.2.1) ∧ m_okI 182 e.1 e.2.1 e.2.2.1 e.2.2.2 = true := List.forall_mem_append.mpr ⟨m_t8_182_0, m_t8_182_1⟩
set_option maxRecDepth 100000 in
theorem m_t8_183 : ∀ e ∈ m_i183, decode prog_1_method_13_code e.1 = .ok (e.2.1, e.2.2.1) ∧ m_okI 183 e.1 e.2.1 e.2.2.1 e.2.2.2 = true := by decide +kernel
set_option maxRecDepth 100000 in
theorem m_t8_184 : ∀ e ∈ m_i184, decode prog_3_method_4_code e.1 = .ok (e.2.1, e.2.2.1) ∧ m_okI 184 e.1 e.2.1 e.2.2.1 e.2.2.2 = true := by decide +kernel
set_option maxRecDepth 100000 in
theorem m_t8_185 : ∀ e ∈ m_i185, decode prog_3_method_2_code e.1 = .ok (e.2.1, e.2.2.1) ∧ m_okI 185 e.1 e.2.1 e.2.2.1 e.2.2.2 = true := by decide +kernel
set_option maxRecDepth 100000 in
theorem m_t8_186_0 : ∀ e ∈ m_i186_0, decode prog_3_method_9_code e.1 = .ok (e.2.1, e.2.2.1) ∧ m_okI 186 e.1 e.2.1 e.2.2.1 e.2.2.2 = true := by decide +kernel
set_option maxRecDepth 100000 in
theorem m_t8_186_1 : ∀ e ∈ m_i186_1, decode prog_3_method_9_code e.1 = .ok (e.2.1, e.2.2.1) ∧ m_okI 186 e.1 e.2.1 e.2.2.1 e.2.2.2 = true := by decide +kernel
theorem m_t8_186 : ∀ e ∈ m_i186, decode prog_3_method_9_code e.1 = .ok (e.2.1, e.2.2.1) ∧ m_okI 186 e.1 e.2.1 e.2.2.1 e.2.2.2 = true := List.forall_mem_append.mpr ⟨m_t8_186_0, m_t8_186_1⟩
set_option maxRecDepth 100000 in
theorem m_t8_187 : ∀ e ∈ m_i187, decode prog_3_method_12_code e.1 = .ok (e.2.1, e.2.2.1) ∧ m_okI 187 e.1 e.2.1 e.2.2.1 e.2.2.2 = true := by decide +kernel
set_option maxRecDepth 100000 in
theorem m_t8_188 : ∀ e ∈ m_i188, decode prog_3_method_14_code e.1 = .ok (e.2.1, e.2.2.1) ∧ m_okI 188 e.1 e.2.1 e.2.2.1 e.2.2.2 = true := by decide +kernel
set_option maxRecDepth 100000 in
theorem m_t8_189 : ∀ e ∈ m_i189, decode prog_1_method_50_code e.1 = .ok (e.2.1, e.2.2.1) ∧ m_okI 189 e.1 e.2.1 e.2.2.1 e.2.2.2 = true := by decide +kernel
set_option maxRecDepth 100000 in
theorem m_t8_190 : ∀ e ∈ m_i190, decode prog_17_method_59_code e.1 = .ok (e.2.1, e.2.2.1) ∧ m_okI 190 e.1 e.2.1 e.2.2.1 e.2.2.2 = true := by decide +kernel
set_option maxRecDepth 100000 in
theorem m_t8_191 : ∀ e ∈ m_i191, decode prog_3_method_13_code e.1 = .ok (e.2.1, e.2.2.1) ∧ m_okI 191 e.1 e.2.1 e.2.2.1 e.2.2.2 = true := by decide +kernel
set_option maxRecDepth 100000 in
theorem m_t8_192 : ∀ e ∈ m_i192, decode prog_17_method_66_code e.1 = .ok (e.2.1, e.2.2.1) ∧ m_okI 192 e.1 e.2.1 e.2.2.1 e.2.2.2 = true := by decide +kernel
set_option maxRecDepth 100000 in
theorem m_t8_193 : ∀ e ∈ m_i193, decode prog_17_method_70_code e.1 = .ok (e.2.1, e.2.2.1) ∧ m_okI 193 e.1 e.2.1 e.2.2.1 e.2.2.2 = true := by decide +kernel
set_option maxRecDepth 100000 in
theorem m_t8_194 : ∀ e ∈ m_i194, decode prog_12_method_21_code e.1 = .ok (e.2.1, e.2.2.1) ∧ m_okI 194 e.1 e.2.1 e.2.2.1 e.2.2.2 = true := by decide +kernel
set_option maxRecDepth 100000 in
theorem m_t8_195 : ∀ e ∈ m_i195, decode prog_3_method_8_code e.1 = .ok (e.2.1, e.2.2.1) ∧ m_okI 195 e.1 e.2.1 e.2.2.1 e.2.2.2 = true := by decide +kernel
set_option maxRecDepth 100000 in
theorem m_t8_196 : ∀ e ∈ m_i196, decode prog_3_method_10_code e.1 = .ok (e.2.1, e.2.2.1) ∧ m_okI 196 e.1 e.2.1 e.2.2.1 e.2.2.2 = true := by decide +kernel
set_option maxRecDepth 100000 in
theorem m_t8_197 : ∀ e ∈ m_i197, decode prog_3_method_11_code e.1 = .ok (e.2.1, e.2.2.1) ∧ m_okI 197 e.1 e.2.1 e.2.2.1 e.2.2.2 = true := by decide +kernel
set_option maxRecDepth 100000 in
theorem m_t8_198 : ∀ e ∈ m_i198, decode prog_3_method_7_code e.1 = .ok (e.2.1, e.2.2.1) ∧ m_okI 198 e.1 e.2.1 e.2.2.1 e.2.2.2 = true := by decide +kernel
set_option maxRecDepth 100000 in
theorem m_t8_199 : ∀ e ∈ m_i199, decode prog_7_method_14_code e.1 = .ok (e.2.1, e.2.2.1) ∧ m_okI 199 e.1 e.2.1 e.2.2.1 e.2.2.2 = true := by decide +kernel
set_option maxRecDepth 100000 in
theorem m_a8_4 : m_all8 160 [m_i160, m_i161, m_i162, m_i163, m_i164, m_i165, m_i166, m_i167, m_i168, m_i169, m_i170, m_i171, m_i172, m_i173, m_i174, m_i175, m_i176, m_i177, m_i178, m_i179, m_i180, m_i181, m_i182, m_i183, m_i184, m_i185, m_i186, m_i187, m_i188, m_i189, m_i190, m_i191, m_i192, m_i193, m_i194, m_i195, m_i196, m_i197, m_i198, m_i199] := ⟨m_t8_160, m_t8_161, m_t8_162, m_t8_163, m_t8_164, m_t8_165, m_t8_166, m_t8_167, m_t8_168, m_t8_169, m_t8_170, m_t8_171, m_t8_172, m_t8_173, m_t8_174, m_t8_175, m_t8_176, m_t8_177, m_t8_178, m_t8_179, m_t8_180, m_t8_181, m_t8_182, m_t8_183, m_t8_184, m_t8_185, m_t8_186, m_t8_187, m_t8_188, m_t8_189, m_t8_190, m_t8_191, m_t8_192, m_t8_193, m_t8_194, m_t8_195, m_t8_196, m_t8_197, m_t8_198, m_t8_199, trivial⟩
set_option maxRecDepth 100000 in
theorem m_t8_200 : ∀ e ∈ m_i200, decode prog_7_method_12_code e.1 = .ok (e.2.1, e.2.2.1) ∧ m_okI 200 e.1 e.2.1 e.2.2.1 e.2.2.2 = true := by decide +kernel
set_option maxRecDepth 100000 in
theorem m_t8_201 : ∀ e ∈ m_i201, decode prog_7_method_13_code e.1 = .ok (e.2.1, e.2.2.1) ∧ m_okI 201 e.1 e.2.1 e.2.2.1 e.2.2.2 = true := by decide +kernel
set_option maxRecDepth 100000 in
theorem m_t8_202 : ∀ e ∈ m_i202, decode prog_7_method_10_code e.1 = .ok (e.2.1, e.2.2.1) ∧ m_okI 202 e.1 e.2.1 e.2.2.1 e.2.2.2 = true := by decide +kernel
set_option maxRecDepth 100000 in
theorem m_t8_203 : ∀ e ∈ m_i203, decode prog_3_method_6_code e.1 = .ok (e.2.1, e.2.2.1) ∧ m_okI 203 e.1 e.2.1 e.2.2.1 e.2.2.2 = true := by decide +kernel
set_option maxRecDepth 100000 in
theorem m_t8_204 : ∀ e ∈ m_i204, decode prog_12_method_20_code e.1 = .ok (e.2.1, e.2.2.1) ∧ m_okI 204 e.1 e.2.1 e.2.2.1 e.2.2.2 = true := by decide +kernel
set_option maxRecDepth 100000 in
theorem m_t8_205_0 : ∀ e ∈ m_i205_0, decode prog_12_method_22_code e.1 = .ok (e.2.1, e.2.2.1) ∧ m_okI 205 e.1 e.2.1 e.2.2.1 e.2.2.2 = true := by decide +kernel
set_option maxRecDepth 100000 in
theorem m_t8_205_1 : ∀ e ∈ m_i205_1, decode prog_12_method_22_code e.1 = .ok (e.2.1, e.2.2.1) ∧ m_okI 205 e.1 e.2.1 e.2.2.1 e.2.2.2 = true := by decide +kernel
theorem m_t8_205 : ∀ e ∈ m_i205, decode prog_12_method_22_code e.1 = .ok (e.2.1, e.2.2.1) ∧ m_okI 205 e.1 e.2.1 e.2.2.1 e.2.2.2 = true := List.forall_mem_append.mpr ⟨m_t8_205_0, m_t8_205_1⟩
set_option maxRecDepth 100000 in
theorem m_t8_206 : ∀ e ∈ m_i206, decode prog_1_method_54_code e.1 = .ok (e.2.1, e.2.2.1) ∧ m_okI 206 e.1 e.2.1 e.2.2.1 e.2.2.2 = true := by decide +kernel
set_option maxRecDepth 100000 in
theorem m_t8_207 : ∀ e ∈ m_i207, decode prog_1_method_53_code e.1 = .ok (e.2.1, e.2.2.1) ∧ m_okI 207 e.1 e.2.1 e.2.2.1 e.2.2.2 = true := by decide +kernel
set_option maxRecDepth 100000 in
theorem m_t8_208 : ∀ e ∈ m_i208, decode prog_14_method_90_code e.1 = .ok (e.2.1, e.2.2.1) ∧ m_okI 208 e.1 e.2.1 e.2.2.1 e.2.2.2 = true := by decide +kernel
set_option maxRecDepth 100000 in
theorem m_t8_209 : ∀ e ∈ m_i209, decode prog_1_method_12_code e.1 = .ok (e.2.1, e.2.2.1) ∧ m_okI 209 e.1 e.2.1 e.2.2.1 e.2.2.2 = true := by decide +kernel
set_option maxRecDepth 100000 in
theorem m_t8_210 : ∀ e ∈ m_i210, decode prog_12_method_17_code e.1 = .ok (e.2.1, e.2.2.1) ∧ m_okI 210 e.1 e.2.1 e.2.2.1 e.2.2.2 = true := by decide +kernel
set_option maxRecDepth 100000 in
theorem m_t8_211 : ∀ e ∈ m_i211, decode prog_14_method_89_code e.1 = .ok (e.2.1, e.2.2.1) ∧ m_okI 211 e.1 e.2.1 e.2.2.1 e.2.2.2 = true := by decide +kernel
set_option maxRecDepth 100000 in
theorem m_t8_212 : ∀ e ∈ m_i212, decode prog_1_method_11_code e.1 = .ok (e.2.1, e.2.2.1) ∧ m_okI 212 e.1 e.2.1 e.2.2.1 e.2.2.2 = true := by decide +kernel
set_option maxRecDepth 100000 in
theorem m_t8_213 : ∀ e ∈ m_i213, decode prog_12_method_16_code e.1 = .ok (e.2.1, e.2.2.1) ∧ m_okI 213 e.1 e.2.1 e.2.2.1 e.2.2.2 = true := by decide +kernel
set_option maxRecDepth 100000 in
theorem m_t8_214 : ∀ e ∈ m_i214, decode prog_14_method_88_code e.1 = .ok (e.2.1, e.2.2.1) ∧ m_okI 214 e.1 e.2.1 e.2.2.1 e.2.2.2 = true := by decide +kernel
set_option maxRecDepth 100000 in
theorem m_t8_215 : ∀ e ∈ m_i215, decode prog_14_method_87_code e.1 = .ok (e.2.1, e.2.2.1) ∧ m_okI 215 e.1 e.2.1 e.2.2.1 e.2.2.2 = true := by decide +kernel
set_option maxRecDepth 100000 in
theorem m_t8_216 : ∀ e ∈ m_i216, decode prog_14_method_86_code e.1 = .ok (e.2.1, e.2.2.1) ∧ m_okI 216 e.1 e.2.1 e.2.2.1 e.2.2.2 = true := by decide +kernel
set_option maxRecDepth 100000 in
theorem m_t8_217 : ∀ e ∈ m_i217, decode prog_1_method_10_code e.1 = .ok (e.2.1, e.2.2.1) ∧ m_okI 217 e.1 e.2.1 e.2.2.1 e.2.2.2 = true := by decide +kernel
set_option maxRecDepth 100000 in
theorem m_t8_218 : ∀ e ∈ m_i218, decode prog_1_method_56_code e.1 = .ok (e.2.1, e.2.2.1) ∧ m_okI 218 e.1 e.2.1 e.2.2.1 e.2.2.2 = true := by decide +kernel
set_option maxRecDepth 100000 in
theorem m_t8_219 : ∀ e ∈ m_i219, decode prog_12_method_15_code e.1 = .ok (e.2.1, e.2.2.1) ∧ m_okI 219 e.1 e.2.1 e.2.2.1 e.2.2.2 = true := by decide +kernel
set_option maxRecDepth 100000 in
theorem m_t8_220 : ∀ e ∈ m_i220, decode prog_14_method_85_code e.1 = .ok (e.2.1, e.2.2.1) ∧ m_okI 220 e.1 e.2.1 e.2.2.1 e.2.2.2 = true := by decide +kernel
set_option maxRecDepth 100000 in
theorem m_t8_221 : ∀ e ∈ m_i221, decode prog_14_method_84_code e.1 = .ok (e.2.1, e.2.2.1) ∧ m_okI 221 e.1 e.2.1 e.2.2.1 e.2.2.2 = true := by decide +kernel
set_option maxRecDepth 100000 in
theorem m_t8_222 : ∀ e ∈ m_i222, decode prog_14_method_4_code e.1 = .ok (e.2.1, e.2.2.1) ∧ m_okI 222 e.1 e.2.1 e.2.2.1 e.2.2.2 = true := by decide +kernel
set_option maxRecDepth 100000 in
theorem m_t8_223 : ∀ e ∈ m_i223, decode prog_14_method_12_code e.1 = .ok (e.2.1, e.2.2.1) ∧ m_okI 223 e.1 e.2.1 e.2.2.1 e.2.2.2 = true := by decide +kernel
set_option maxRecDepth 100000 in
theorem m_t8_224 : ∀ e ∈ m_i224, decode prog_14_method_10_code e.1 = .ok (e.2.1, e.2.2.1) ∧ m_okI 224 e.1 e.2.1 e.2.2.1 e.2.2.2 = true := by decide +kernel
set_option maxRecDepth 100000 in
theorem m_t8_225 : ∀ e ∈ m_i225, decode prog_14_method_9_code e.1 = .ok (e.2.1, e.2.2.1) ∧ m_okI 225 e.1 e.2.1 e.2.2.1 e.2.2.2 = true := by decide +kernel
set_option maxRecDepth 100000 in
theorem m_t8_226 : ∀ e ∈ m_i226, decode prog_1_method_9_code e.1 = .ok (e.2.1, e.2.2.1) ∧ m_okI 226 e.1 e.2.1 e.2.2.1 e.2.2.2 = true := by decide +kernel
set_option maxRecDepth 100000 in
theorem m_t8_227 : ∀ e ∈ m_i227, decode prog_12_method_14_code e.1 = .ok (e.2.1, e.2.2.1) ∧ m_okI 227 e.1 e.2.1 e.2.2.1 e.2.2.2 = true := by decide +kernel
set_option maxRecDepth 100000 in
theorem m_t8_228 : ∀ e ∈ m_i228, decode prog_12_method_10_code e.1 = .ok (e.2.1, e.2.2.1) ∧ m_okI 228 e.1 e.2.1 e.2.2.1 e.2.2.2 = true := by decide +kernel
set_option maxRecDepth 100000 in
theorem m_t8_229 : ∀ e ∈ m_i229, decode prog_12_method_9_code e.1 = .ok (e.2.1, e.2.2.1) ∧ m_okI 229 e.1 e.2.1 e.2.2.1 e.2.2.2 = true := by decide +kernel
set_option maxRecDepth 100000 in
theorem m_t8_230 : ∀ e ∈ m_i230, decode prog_12_method_7_code e.1 = .ok (e.2.1, e.2.2.1) ∧ m_okI 230 e.1 e.2.1 e.2.2.1 e.2.2.2 = true := by decide +kernel
set_option maxRecDepth 100000 in
theorem m_t8_231 : ∀ e ∈ m_i231, decode prog_14_method_83_code e.1 = .ok (e.2.1, e.2.2.1) ∧ m_okI 231 e.1 e.2.1 e.2.2.1 e.2.2.2 = true := by decide +kernel
set_option maxRecDepth 100000 in
theorem m_t8_232 : ∀ e ∈ m_i232, decode prog_14_method_82_code e.1 = .ok (e.2.1, e.2.2.1) ∧ m_okI 232 e.1 e.2.1 e.2.2.1 e.2.2.2 = true := by decide +kernel
set_option maxRecDepth 100000 in
theorem m_t8_233 : ∀ e ∈ m_i233, decode prog_14_method_11_code e.1 = .ok (e.2.1, e.2.2.1) ∧ m_okI 233 e.1 e.2.1 e.2.2.1 e.2.2.2 = true := by decide +kernel
set_option maxRecDepth 100000 in
theorem m_t8_234_0 : ∀ e ∈ m_i234_0, decode prog_14_method_79_code e.1 = .ok (e.2.1, e.2.2.1) ∧ m_okI 234 e.1 e.2.1 e.2.2.1 e.2.2.2 = true := by decide +kernel
set_option maxRecDepth 100000 in
theorem m_t8_234_1 : ∀ e ∈ m_i234_1, decode prog_14_method_79_code e.1 = .ok (e.2.1, e.2.2.1) ∧ m_okI 234 e.1 e.2.1 e.2.2.1 e.2.2.2 = true := by decide +kernel
theorem m_t8_234 : ∀ e ∈ m_i234, decode prog_14_method_79_code e.1 = .ok (e.2.1, e.2.2.1) ∧ m_okI 234 e.1 e.2.1 e.2.2.1 e.2.2.2 = true := List.forall_mem_append.mpr ⟨m_t8_234_0, m_t8_234_1⟩
set_option maxRecDepth 100000 in
theorem m_t8_235 : ∀ e ∈ m_i235, decode prog_14_method_81_code e.1 = .ok (e.2.1, e.2.2.1) ∧ m_okI 235 e.1 e.2.1 e.2.2.1 e.2.2.2 = true := by decide +kernel
set_option maxRecDepth 100000 in
theorem m_t8_236 : ∀ e ∈ m_i236, decode prog_14_method_8_code e.1 = .ok (e.2.1, e.2.2.1) ∧ m_okI 236 e.1 e.2.1 e.2.2.1 e.2.2.2 = true := by decide +kernel
set_option maxRecDepth 100000 in
theorem m_t8_237 : ∀ e ∈ m_i237, decode prog_1_method_8_code e.1 = .ok (e.2.1, e.2.2.1) ∧ m_okI 237 e.1 e.2.1 e.2.2.1 e.2.2.2 = true := by decide +kernel
set_option maxRecDepth 100000 in
theorem m_t8_238 : ∀ e ∈ m_i238, decode prog_1_method_55_code e.1 = .ok (e.2.1, e.2.2.1) ∧ m_okI 238 e.1 e.2.1 e.2.2.1 e.2.2.2 = true := by decide +kernel
set_option maxRecDepth 100000 in
theorem m_t8_239 : ∀ e ∈ m_i239, decode prog_8_method_3_code e.1 = .ok (e.2.1, e.2.2.1) ∧ m_okI 239 e.1 e.2.1 e.2.2.1 e.2.2.2 = true := by decide +kernel
set_option maxRecDepth 100000 in
theorem m_a8_5 : m_all8 200 [m_i200, m_i201, m_i202, m_i203, m_i204, m_i205, m_i206, m_i207, m_i208, m_i209, m_i210, m_i211, m_i212, m_i213, m_i214, m_i215, m_i216, m_i217, m_i218, m_i219, m_i220, m_i221, m_i222, m_i223, m_i224, m_i225, m_i226, m_i227, m_i228, m_i229, m_i230, m_i231, m_i232, m_i233, m_i234, m_i235, m_i236, m_i237, m_i238, m_i239] := ⟨m_t8_200, m_t8_201, m_t8_202, m_t8_203, m_t8_204, m_t8_205, m_t8_206, m_t8_207, m_t8_208, m_t8_209, m_t8_210, m_t8_211, m_t8_212, m_t8_213, m_t8_214, m_t8_215, m_t8_216, m_t8_217, m_t8_218, m_t8_219, m_t8_220, m_t8_221, m_t8_222, m_t8_223, m_t8_224, m_t8_225, m_t8_226, m_t8_227, m_t8_228, m_t8_229, m_t8_230, m_t8_231, m_t8_232, m_t8_233, m_t8_234, m_t8_235, m_t8_236, m_t8_237, m_t8_238, m_t8_239, trivial⟩
set_option maxRecDepth 100000 in
theorem m_t8_240_0 : ∀ e ∈ m_i240_0, decode prog_12_method_13_code e.1 = .ok (e.2.1, e.2.2.1) ∧ m_okI 240 e.1 e.2.1 e.2.2.1 e.2.2.2 = true := by decide +kernel
set_option maxRecDepth 100000 in
theorem m_t8_240_1 : ∀ e ∈ m_i240_1, decode prog_12_method_13_code e.1 = .ok (e.2.1, e.2.2.1) ∧ m_okI 240 e.1 e.2.1 e.2.2.1 e.2.2.2 = true := by decide +kernel
theorem m_t8_240 : ∀ e ∈ m_i240, decode prog_12_method_13_code e.1 = .ok (e.2.1, e.2.2.1) ∧ m_okI 240 e.1 e.2.1 e.2.2.1 e.2.2.2 = true := List.forall_mem_append.mpr ⟨m_t8_240_0, m_t8_240_1⟩
set_option maxRecDepth 100000 in
theorem m_t8_241 : ∀ e ∈ m_i241, decode prog_12_method_2_code e.1 = .ok (e.2.1, e.2.2.1) ∧ m_okI 241 e.1 e.2.1 e.2.2.1 e.2.2.2 = true := by decide +kernel
set_option maxRecDepth 100000 in
theorem m_t8_242 : ∀ e ∈ m_i242, decode prog_12_method_6_code e.1 = .ok (e.2.1, e.2.2.1) ∧ m_okI 242 e.1 e.2.1 e.2.2.1 e.2.2.2 = true := by decide +kernel
set_option maxRecDepth 100000 in
theorem m_t8_243 : ∀ e ∈ m_i243, decode prog_8_method_2_code e.1 = .ok (e.2.1, e.2.2.1) ∧ m_okI 243 e.1 e.2.1 e.2.2.1 e.2.2.2 = true := by decide +kernel
set_option maxRecDepth 100000 in
theorem m_t8_244 : ∀ e ∈ m_i244, decode prog_17_method_50_code e.1 = .ok (e.2.1, e.2.2.1) ∧ m_okI 244 e.1 e.2.1 e.2.2.1 e.2.2.2 = true := by decide +kernel
set_option maxRecDepth 100000 in
theorem m_t8_245 : ∀ e ∈ m_i245, decode prog_14_method_61_code e.1 = .ok (e.2.1, e.2.2.1) ∧ m_okI 245 e.1 e.2.1 e.2.2.1 e.2.2.2 = true := by decide +kernel
set_option maxRecDepth 100000 in
theorem m_t8_246 : ∀ e ∈ m_i246, decode prog_1_method_7_code e.1 = .ok (e.2.1, e.2.2.1) ∧ m_okI 246 e.1 e.2.1 e.2.2.1 e.2.2.2 = true := by decide +kernel
set_option maxRecDepth 100000 in
theorem m_t8_247 : ∀ e ∈ m_i247, decode prog_1_method_52_code e.1 = .ok (e.2.1, e.2.2.1) ∧ m_okI 247 e.1 e.2.1 e.2.2.1 e.2.2.2 = true := by decide +kernel
set_option maxRecDepth 100000 in
theorem m_t8_248 : ∀ e ∈ m_i248, decode prog_14_method_60_code e.1 = .ok (e.2.1, e.2.2.1) ∧ m_okI 248 e.1 e.2.1 e.2.2.1 e.2.2.2 = true := by decide +kernel
set_option maxRecDepth 100000 in
theorem m_t8_249 : ∀ e ∈ m_i249, decode prog_1_method_6_code e.1 = .ok (e.2.1, e.2.2.1) ∧ m_okI 249 e.1 e.2.1 e.2.2.1 e.2.2.2 = true := by decide +kernel
set_option maxRecDepth 100000 in
theorem m_t8_250 : ∀ e ∈ m_i250, decode prog_14_method_59_code e.1 = .ok (e.2.1, e.2.2.1) ∧ m_okI 250 e.1 e.2.1 e.2.2.1 e.2.2.2 = true := by decide +kernel
set_option maxRecDepth 100000 in
theorem m_t8_251 : ∀ e ∈ m_i251, decode prog_14_method_58_code e.1 = .ok (e.2.1, e.2.2.1) ∧ m_okI 251 e.1 e.2.1 e.2.2.1 e.2.2.2 = true := by decide +kernel
set_option maxRecDepth 100000 in
theorem m_t8_252_0 : ∀ e ∈ m_i252_0, decode prog_14_method_57_code e.1 = .ok (e.2.1, e.2.2.1) ∧ m_okI 252 e.1 e.2.1 e.2.2.1 e.2.2.2 = true := by decide +kernel
set_option maxRecDepth 100000 in
theorem m_t8_252_1 : ∀ e ∈ m_i252_1, decode prog_14_method_57_code e.1 = .ok (e.2.1, e.2.2.1) ∧ m_okI 252 e.1 e.2.1 e.2.2.1 e.2.2.2 = true := by decide +kernel
theorem m_t8_252 : ∀ e ∈ m_i252, decode prog_14_method_57_code e.1 = .ok (e.2.1, e.2.2.1) ∧ m_okI 252 e.1 e.2.1 e.2.2.1 e.2.2.2 = true := List.forall_mem_append.mpr ⟨m_t8_252_0, m_t8_252_1⟩
set_option maxRecDepth 100000 in
theorem m_t8_253_0 : ∀ e ∈ m_i253_0, decode prog_14_method_55_code e.1 = .ok (e.2.1, e.2.2.1) ∧ m_okI 253 e.1 e.2.1 e.2.2.1 e.2.2.2 = true := by decide +kernel
set_option maxRecDepth 100000 in
theorem m_t8_253_1 : ∀ e ∈ m_i253_1, decode prog_14_method_55_code e.1 = .ok (e.2.1, e.2.2.1) ∧ m_okI 253 e.1 e.2.1 e.2.2.1 e.2.2.2 = true := by decide +kernel
theorem m_t8_253 : ∀ e ∈ m_i253, decode prog_14_method_55_code e.1 = .ok (e.2.1, e.2.2.1) ∧ m_okI 253 e.1 e.2.1 e.2.2.1 e.2.2.2 = true := List.forall_mem_append.mpr ⟨m_t8_253_0, m_t8_253_1⟩
set_option maxRecDepth 100000 in
theorem m_t8_254 : ∀ e ∈ m_i254, decode prog_14_method_52_code e.1 = .ok (e.2.1, e.2.2.1) ∧ m_okI 254 e.1 e.2.1 e.2.2.1 e.2.2.2 = true := by decide +kernel
set_option maxRecDepth 100000 in
theorem m_t8_255 : ∀ e ∈ m_i255, decode prog_14_method_49_code e.1 = .ok (e.2.1, e.2.2.1) ∧ m_okI 255 e.1 e.2.1 e.2.2.1 e.2.2.2 = true := by decide +kernel
set_option maxRecDepth 100000 in
theorem m_t8_256_0 : ∀ e ∈ m_i256_0, decode prog_14_method_43_code e.1 = .ok (e.2.1, e.2.2.1) ∧ m_okI 256 e.1 e.2.1 e.2.2.1 e.2.2.2 = true := by decide +kernel
set_option maxRecDepth 100000 in
theorem m_t8_256_1 : ∀ e ∈ m_i256_1, decode prog_14_method_43_code e.1 = .ok (e.2.1, e.2.2.1) ∧ m_okI 256 e.1 e.2.1 e.2.2.1 e.2.2.2 = true := by decide +kernel
theorem m_t8_256 : ∀ e ∈ m_i256, decode prog_14_method_43_code e.1 = .ok (e.2.1, e.2.2.1) ∧ m_okI 256 e.1 e.2.1 e.2.2.1 e.2.2.2 = true := List.forall_mem_append.mpr ⟨m_t8_256_0, m_t8_256_1⟩
set_option maxRecDepth 100000 in
theorem m_t8_257 : ∀ e ∈ m_i257, decode prog_14_method_41_code e.1 = .ok (e.2.1, e.2.2.1) ∧ m_okI 257 e.1 e.2.1 e.2.2.1 e.2.2.2 = true := by decide +kernel
set_option maxRecDepth 100000 in
theorem m_t8_258 : ∀ e ∈ m_i258, decode prog_14_method_42_code e.1 = .ok (e.2.1, e.2.2.1) ∧ m_okI 258 e.1 e.2.1 e.2.2.1 e.2.2.2 = true := by decide +kernel
set_option maxRecDepth 100000 in
theorem m_t8_259 : ∀ e ∈ m_i259, decode prog_14_method_34_code e.1 = .ok (e.2.1, e.2.2.1) ∧ m_okI 259 e.1 e.2.1 e.2.2.1 e.2.2.2 = true := by decide +kernel
set_option maxRecDepth 100000 in
theorem m_t8_260_0 : ∀ e ∈ m_i260_0, decode prog_14_method_33_code e.1 = .ok (e.2.1, e.2.2.1) ∧ m_okI 260 e.1 e.2.1 e.2.2.1 e.2.2.2 = true := by decide +kernel
set_option maxRecDepth 100000 in
theorem m_t8_260_1 : ∀ e ∈ m_i260_1, decode prog_14_method_33_code e.1 = .ok (e.2.1, e.2.2.1) ∧ m_okI 260 e.1 e.2.1 e.2.2.1 e.2.2.2 = true := by decide +kernel
set_option maxRecDepth 100000 in
theorem m_t8_260_2 : ∀ e ∈ m_i260_2, decode prog_14_method_33_code e.1 = .ok (e.2.1, e.2.2.1) ∧ m_okI 260 e.1 e.2.1 e.2.2.1 e.2.2.2 = true := by decide +kernel
theorem m_t8_260 : ∀ e ∈ m_i260, decode prog_14_method_33_code e.1 = .ok (e.2.1, e.2.2.1) ∧ m_okI 260 e.1 e.2.1 e.2.2.1 e.2.2.2 = true := List.forall_mem_append.mpr ⟨m_t8_260_0, List.forall_mem_append.mpr ⟨m_t8_260_1, m_t8_260_2⟩⟩
set_option maxRecDepth 100000 in
theorem m_t8_261_0 : ∀ e ∈ m_i261_0, decode prog_14_method_48_code e.1 = .ok (e.2.1, e.2.2.1) ∧ m_okI 261 e.1 e.2.1 e.2.2.1 e.2.2.2 = true := by decide +kernel
set_option maxRecDepth 100000 in
theorem m_t8_261_1 : ∀ e ∈ m_i261_1, decode prog_14_method_48_code e.1 = .ok (e.2.1, e.2.2.1) ∧ m_okI 261 e.1 e.2.1 e.2.2.1 e.2.2.2 = true := by decide +kernel
theorem m_t8_261 : ∀ e ∈ m_i261, decode prog_14_method_48_code e.1 = .ok (e.2.1, e.2.2.1) ∧ m_okI 261 e.1 e.2.1 e.2.2.1 e.2.2.2 = true := List.forall_mem_append.mpr ⟨m_t8_261_0, m_t8_261_1⟩
set_option maxRecDepth 100000 in
theorem m_t8_262 : ∀ e ∈ m_i262, decode prog_14_method_44_code e.1 = .ok (e.2.1, e.2.2.1) ∧ m_okI 262 e.1 e.2.1 e.2.2.1 e.2.2.2 = true := by decide +kernel
set_option maxRecDepth 100000 in
theorem m_t8_263 : ∀ e ∈ m_i263, decode prog_14_method_47_code e.1 = .ok (e.2.1, e.2.2.1) ∧ m_okI 263 e.1 e.2.1 e.2.2.1 e.2.2.2 = true := by decide +kernel
set_option maxRecDepth 100000 in
theorem m_t8_264 : ∀ e ∈ m_i264, decode prog_14_method_36_code e.1 = .ok (e.2.1, e.2.2.1) ∧ m_okI 264 e.1 e.2.1 e.2.2.1 e.2.2.2 = true := by decide +kernel
set_option maxRecDepth 100000 in
theorem m_t8_265 : ∀ e ∈ m_i265, decode prog_14_method_31_code e.1 = .ok (e.2.1, e.2.2.1) ∧ m_okI 265 e.1 e.2.1 e.2.2.1 e.2.2.2 = true := by decide +kernel
set_option maxRecDepth 100000 in
theorem m_t8_266 : ∀ e ∈ m_i266, decode prog_14_method_46_code e.1 = .ok (e.2.1, e.2.2.1) ∧ m_okI 266 e.1 e.2.1 e.2.2.1 e.2.2.2 = true := by decide +kernel
set_option maxRecDepth 100000 in
theorem m_t8_267 : ∀ e ∈ m_i267, decode prog_14_method_45_code e.1 = .ok (e.2.1, e.2.2.1) ∧ m_okI 267 e.1 e.2.1 e.2.2.1 e.2.2.2 = true := by decide +kernel
set_option maxRecDepth 100000 in
theorem m_t8_268 : ∀ e ∈ m_i268, decode prog_14_method_39_code e.1 = .ok (e.2.1, e.2.2.1) ∧ m_okI 268 e.1 e.2.1 e.2.2.1 e.2.2.2 = true := by decide +kernel
set_option maxRecDepth 100000 in
theorem m_t8_269 : ∀ e ∈ m_i269, decode prog_14_method_35_code e.1 = .ok (e.2.1, e.2.2.1) ∧ m_okI 269 e.1 e.2.1 e.2.2.1 e.2.2.2 = true := by decide +kernel
set_option maxRecDepth 100000 in
theorem m_t8_270 : ∀ e ∈ m_i270, decode prog_14_method_40_code e.1 = .ok (e.2.1, e.2.2.1) ∧ m_okI 270 e.1 e.2.1 e.2.2.1 e.2.2.2 = true := by decide +kernel
set_option maxRecDepth 100000 in
theorem m_t8_271 : ∀ e ∈ m_i271, decode prog_14_method_38_code e.1 = .ok (e.2.1, e.2.2.1) ∧ m_okI 271 e.1 e.2.1 e.2.2.1 e.2.2.2 = true := by decide +kernel
set_option maxRecDepth 100000 in
theorem m_t8_272 : ∀ e ∈ m_i272, decode prog_14_method_37_code e.1 = .ok (e.2.1, e.2.2.1) ∧ m_okI 272 e.1 e.2.1 e.2.2.1 e.2.2.2 = true := by decide +kernel
set_option maxRecDepth 100000 in
theorem m_t8_273_0 : ∀ e ∈ m_i273_0, decode prog_14_method_53_code e.1 = .ok (e.2.1, e.2.2.1) ∧ m_okI 273 e.1 e.2.1 e.2.2.1 e.2.2.2 = true := by decide +kernel
set_option maxRecDepth 100000 in
theorem m_t8_273_1 : ∀ e ∈ m_i273_1, decode prog_14_method_53_code e.1 = .ok (e.2.1, e.2.2.1) ∧ m_okI 273 e.1 e.2.1 e.2.2.1 e.2.2.2 = true := by decide +kernel
theorem m_t8_273 : ∀ e ∈ m_i273, decode prog_14_method_53_code e.1 = .ok (e.2.1, e.2.2.1) ∧ m_okI 273 e.1 e.2.1 e.2.2.1 e.2.2.2 = true := List.forall_mem_append.mpr ⟨m_t8_273_0, m_t8_273_1⟩
set_option maxRecDepth 100000 in
theorem m_t8_274_0 : ∀ e ∈ m_i274_0, decode prog_14_method_32_code e.1 = .ok (e.2.1, e.2.2.1) ∧ m_okI 274 e.1 e.2.1 e.2.2.1 e.2.2.2 = true := by decide +kernel
set_option maxRecDepth 100000 in
theorem m_t8_274_1 : ∀ e ∈ m_i274_1, decode prog_14_method_32_code e.1 = .ok (e.2.1, e.2.2.1) ∧ m_okI 274 e.1 e.2.1 e.2.2.1 e.2.2.2 = true := by decide +kernel
theorem m_t8_274 : ∀ e ∈ m_i274, decode prog_14_method_32_code e.1 = .ok (e.2.1, e.2.2.1) ∧ m_okI 274 e.1 e.2.1 e.2.2.1 e.2.2.2 = true := List.forall_mem_append.mpr ⟨m_t8_274_0, m_t8_274_1⟩
set_option maxRecDepth 100000 in
theorem m_t8_275 : ∀ e ∈ m_i275, decode prog_14_method_54_code e.1 = .ok (e.2.1, e.2.2.1) ∧ m_okI 275 e.1 e.2.1 e.2.2.1 e.2.2.2 = true := by decide +kernel
set_option maxRecDepth 100000 in
theorem m_t8_276 : ∀ e ∈ m_i276, decode prog_14_method_51_code e.1 = .ok (e.2.1, e.2.2.1) ∧ m_okI 276 e.1 e.2.1 e.2.2.1 e.2.2.2 = true := by decide +kernel
set_option maxRecDepth 100000 in
theorem m_t8_277 : ∀ e ∈ m_i277, decode prog_14_method_50_code e.1 = .ok (e.2.1, e.2.2.1) ∧ m_okI 277 e.1 e.2.1 e.2.2.1 e.2.2.2 = true := by decide +kernel
set_option maxRecDepth 100000 in
theorem m_t8_278 : ∀ e ∈ m_i278, decode prog_14_method_5_code e.1 = .ok (e.2.1, e.2.2.1) ∧ m_okI 278 e.1 e.2.1 e.2.2.1 e.2.2.2 = true := by decide +kernel
