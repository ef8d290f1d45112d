set_option maxRecDepth 100000 in
theorem m_t8_279_0 : ∀ e ∈ m_i279_0, decode prog_14_method_56_code e.1 = .ok (e.2.1, e.2.2.1) ∧ m_okI 279 e.1 e.2.1 e.2.2.1 e.2.2.2 = true := by decide +kernel
set_option maxRecDepth 100000 in
theorem m_t8_279_1 : ∀ e ∈ m_i279_1, decode prog_14_method_56_code e.1 = .ok (e.2.1, e.2.2.1) ∧ m_okI 279 e.1 e.2.1 e.2.2.1 e.2.2.2 = true := by decide +kernel
set_option maxRecDepth 100000 in
theorem m_t8_279_2 : ∀ e ∈ m_i279_2, decode prog_14_method_56_code e.1 = .ok (e.2.1, e.2.2.1) ∧ m_okI 279 e.1 e.2.1 e.2.2.1 e.2.2.2 = true := by decide +kernel
theorem m_t8_279 : ∀ e ∈ m_i279, decode prog_14_method_56_code e.1 = .ok (e.2.1, e.2.2.1) ∧ m_okI 279 e.1 e.2.1 e.2.2.1 e.2.2.2 = true := List.forall_mem_append.mpr ⟨m_t8_279_0, List.forall_mem_append.mpr ⟨m_t8_279_1, m_t8_279_2⟩⟩
set_option maxRecDepth 100000 in
theorem m_a8_6 : m_all8 240 [m_i240, m_i241, m_i242, m_i243, m_i244, m_i245, m_i246, m_i247, m_i248, m_i249, m_i250, m_i251, m_i252, m_i253, m_i254, m_i255, m_i256, m_i257, m_i258, m_i259, m_i260, m_i261, m_i262, m_i263, m_i264, m_i265, m_i266, m_i267, m_i268, m_i269, m_i270, m_i271, m_i272, m_i273, m_i274, m_i275, m_i276, m_i277, m_i278, m_i279] := ⟨m_t8_240, m_t8_241, m_t8_242, m_t8_243, m_t8_244, m_t8_245, m_t8_246, m_t8_247, m_t8_248, m_t8_249, m_t8_250, m_t8_251, m_t8_252, m_t8_253, m_t8_254, m_t8_255, m_t8_256, m_t8_257, m_t8_258, m_t8_259, m_t8_260, m_t8_261, m_t8_262, m_t8_263, m_t8_264, m_t8_265, m_t8_266, m_t8_267, m_t8_268, m_t8_269, m_t8_270, m_t8_271, m_t8_272, m_t8_273, m_t8_274, m_t8_275, m_t8_276, m_t8_277, m_t8_278, m_t8_279, trivial⟩
set_option maxRecDepth 100000 in
theorem m_t8_280 : ∀ e ∈ m_i280, decode prog_14_method_29_code e.1 = .ok (e.2.1, e.2.2.1) ∧ m_okI 280 e.1 e.2.1 e.2.2.1 e.2.2.2 = true := by decide +kernel
set_option maxRecDepth 100000 in
theorem m_t8_281 : ∀ e ∈ m_i281, decode prog_14_method_30_code e.1 = .ok (e.2.1, e.2.2.1) ∧ m_okI 281 e.1 e.2.1 e.2.2.1 e.2.2.2 = true := by decide +kernel
set_option maxRecDepth 100000 in
theorem m_t8_282 : ∀ e ∈ m_i282, decode prog_14_method_28_code e.1 = .ok (e.2.1, e.2.2.1) ∧ m_okI 282 e.1 e.2.1 e.2.2.1 e.2.2.2 = true := by decide +kernel
set_option maxRecDepth 100000 in
theorem m_t8_283 : ∀ e ∈ m_i283, decode prog_14_method_27_code e.1 = .ok (e.2.1, e.2.2.1) ∧ m_okI 283 e.1 e.2.1 e.2.2.1 e.2.2.2 = true := by decide +kernel
set_option maxRecDepth 100000 in
theorem m_t8_284 : ∀ e ∈ m_i284, decode prog_14_method_26_code e.1 = .ok (e.2.1, e.2.2.1) ∧ m_okI 284 e.1 e.2.1 e.2.2.1 e.2.2.2 = true := by decide +kernel
set_option maxRecDepth 100000 in
theorem m_t8_285 : ∀ e ∈ m_i285, decode prog_14_method_25_code e.1 = .ok (e.2.1, e.2.2.1) ∧ m_okI 285 e.1 e.2.1 e.2.2.1 e.2.2.2 = true := by decide +kernel
set_option maxRecDepth 100000 in
theorem m_t8_286_0 : ∀ e ∈ m_i286_0, decode prog_14_method_24_code e.1 = .ok (e.2.1, e.2.2.1) ∧ m_okI 286 e.1 e.2.1 e.2.2.1 e.2.2.2 = true := by decide +kernel
set_option maxRecDepth 100000 in
theorem m_t8_286_1 : ∀ e ∈ m_i286_1, decode prog_14_method_24_code e.1 = .ok (e.2.1, e.2.2.1) ∧ m_okI 286 e.1 e.2.1 e.2.2.1 e.2.2.2 = true := by decide +kernel
set_option maxRecDepth 100000 in
theorem m_t8_286_2 : ∀ e ∈ m_i286_2, decode prog_14_method_24_code e.1 = .ok (e.2.1, e.2.2.1) ∧ m_okI 286 e.1 e.2.1 e.2.2.1 e.2.2.2 = true := by decide +kernel
theorem m_t8_286 : ∀ e ∈ m_i286, decode prog_14_method_24_code e.1 = .ok (e.2.1, e.2.2.1) ∧ m_okI 286 e.1 e.2.1 e.2.2.1 e.2.2.2 = true := List.forall_mem_append.mpr ⟨m_t8_286_0, List.forall_mem_append.mpr ⟨m_t8_286_1, m_t8_286_2⟩⟩
set_option maxRecDepth 100000 in
theorem m_t8_287 : ∀ e ∈ m_i287, decode prog_14_method_23_code e.1 = .ok (e.2.1, e.2.2.1) ∧ m_okI 287 e.1 e.2.1 e.2.2.1 e.2.2.2 = true := by decide +kernel
set_option maxRecDepth 100000 in
theorem m_t8_288 : ∀ e ∈ m_i288, decode prog_14_method_21_code e.1 = .ok (e.2.1, e.2.2.1) ∧ m_okI 288 e.1 e.2.1 e.2.2.1 e.2.2.2 = true := by decide +kernel
set_option maxRecDepth 100000 in
theorem m_t8_289 : ∀ e ∈ m_i289, decode prog_14_method_22_code e.1 = .ok (e.2.1, e.2.2.1) ∧ m_okI 289 e.1 e.2.1 e.2.2.1 e.2.2.2 = true := by decide +kernel
set_option maxRecDepth 100000 in
theorem m_t8_290 : ∀ e ∈ m_i290, decode prog_14_method_20_code e.1 = .ok (e.2.1, e.2.2.1) ∧ m_okI 290 e.1 e.2.1 e.2.2.1 e.2.2.2 = true := by decide +kernel
set_option maxRecDepth 100000 in
theorem m_t8_291 : ∀ e ∈ m_i291, decode prog_1_method_5_code e.1 = .ok (e.2.1, e.2.2.1) ∧ m_okI 291 e.1 e.2.1 e.2.2.1 e.2.2.2 = true := by decide +kernel
set_option maxRecDepth 100000 in
theorem m_t8_292 : ∀ e ∈ m_i292, decode prog_7_method_16_code e.1 = .ok (e.2.1, e.2.2.1) ∧ m_okI 292 e.1 e.2.1 e.2.2.1 e.2.2.2 = true := by decide +kernel
set_option maxRecDepth 100000 in
theorem m_t8_293 : ∀ e ∈ m_i293, decode prog_5_method_4_code e.1 = .ok (e.2.1, e.2.2.1) ∧ m_okI 293 e.1 e.2.1 e.2.2.1 e.2.2.2 = true := by decide +kernel
set_option maxRecDepth 100000 in
theorem m_t8_294_0 : ∀ e ∈ m_i294_0, decode prog_5_method_13_code e.1 = .ok (e.2.1, e.2.2.1) ∧ m_okI 294 e.1 e.2.1 e.2.2.1 e.2.2.2 = true := by decide +kernel
set_option maxRecDepth 100000 in
theorem m_t8_294_1 : ∀ e ∈ m_i294_1, decode prog_5_method_13_code e.1 = .ok (e.2.1, e.2.2.1) ∧ m_okI 294 e.1 e.2.1 e.2.2.1 e.2.2.2 = true := by decide +kernel
theorem m_t8_294 : ∀ e ∈ m_i294, decode prog_5_method_13_code e.1 = .ok (e.2.1, e.2.2.1) ∧ m_okI 294 e.1 e.2.1 e.2.2.1 e.2.2.2 = true := List.forall_mem_append.mpr ⟨m_t8_294_0, m_t8_294_1⟩
set_option maxRecDepth 100000 in
theorem m_t8_295 : ∀ e ∈ m_i295, decode prog_7_method_4_code e.1 = .ok (e.2.1, e.2.2.1) ∧ m_okI 295 e.1 e.2.1 e.2.2.1 e.2.2.2 = true := by decide +kernel
set_option maxRecDepth 100000 in
theorem m_t8_296 : ∀ e ∈ m_i296, decode prog_5_method_14_code e.1 = .ok (e.2.1, e.2.2.1) ∧ m_okI 296 e.1 e.2.1 e.2.2.1 e.2.2.2 = true := by decide +kernel
set_option maxRecDepth 100000 in
theorem m_t8_297 : ∀ e ∈ m_i297, decode prog_5_method_18_code e.1 = .ok (e.2.1, e.2.2.1) ∧ m_okI 297 e.1 e.2.1 e.2.2.1 e.2.2.2 = true := by decide +kernel
set_option maxRecDepth 100000 in
theorem m_t8_298 : ∀ e ∈ m_i298, decode prog_5_method_19_code e.1 = .ok (e.2.1, e.2.2.1) ∧ m_okI 298 e.1 e.2.1 e.2.2.1 e.2.2.2 = true := by decide +kernel
set_option maxRecDepth 100000 in
theorem m_t8_299_0 : ∀ e ∈ m_i299_0, decode prog_5_method_20_code e.1 = .ok (e.2.1, e.2.2.1) ∧ m_okI 299 e.1 e.2.1 e.2.2.1 e.2.2.2 = true := by decide +kernel
set_option maxRecDepth 100000 in
theorem m_t8_299_1 : ∀ e ∈ m_i299_1, decode prog_5_method_20_code e.1 = .ok (e.2.1, e.2.2.1) ∧ m_okI 299 e.1 e.2.1 e.2.2.1 e.2.2.2 = true := by decide +kernel
theorem m_t8_299 : ∀ e ∈ m_i299, decode prog_5_method_20_code e.1 = .ok (e.2.1, e.2.2.1) ∧ m_okI 299 e.1 e.2.1 e.2.2.1 e.2.2.2 = true := List.forall_mem_append.mpr ⟨m_t8_299_0, m_t8_299_1⟩
set_option maxRecDepth 100000 in
theorem m_t8_300 : ∀ e ∈ m_i300, decode prog_5_method_22_code e.1 = .ok (e.2.1, e.2.2.1) ∧ m_okI 300 e.1 e.2.1 e.2.2.1 e.2.2.2 = true := by decide +kernel
set_option maxRecDepth 100000 in
theorem m_t8_301 : ∀ e ∈ m_i301, decode prog_11_method_7_code e.1 = .ok (e.2.1, e.2.2.1) ∧ m_okI 301 e.1 e.2.1 e.2.2.1 e.2.2.2 = true := by decide +kernel
set_option maxRecDepth 100000 in
theorem m_t8_302 : ∀ e ∈ m_i302, decode prog_11_method_6_code e.1 = .ok (e.2.1, e.2.2.1) ∧ m_okI 302 e.1 e.2.1 e.2.2.1 e.2.2.2 = true := by decide +kernel
set_option maxRecDepth 100000 in
theorem m_t8_303 : ∀ e ∈ m_i303, decode prog_5_method_23_code e.1 = .ok (e.2.1, e.2.2.1) ∧ m_okI 303 e.1 e.2.1 e.2.2.1 e.2.2.2 = true := by decide +kernel
set_option maxRecDepth 100000 in
theorem m_t8_304 : ∀ e ∈ m_i304, decode prog_7_method_8_code e.1 = .ok (e.2.1, e.2.2.1) ∧ m_okI 304 e.1 e.2.1 e.2.2.1 e.2.2.2 = true := by decide +kernel
set_option maxRecDepth 100000 in
theorem m_t8_305 : ∀ e ∈ m_i305, decode prog_7_method_7_code e.1 = .ok (e.2.1, e.2.2.1) ∧ m_okI 305 e.1 e.2.1 e.2.2.1 e.2.2.2 = true := by decide +kernel
set_option maxRecDepth 100000 in
theorem m_t8_306 : ∀ e ∈ m_i306, decode prog_5_method_24_code e.1 = .ok (e.2.1, e.2.2.1) ∧ m_okI 306 e.1 e.2.1 e.2.2.1 e.2.2.2 = true := by decide +kernel
set_option maxRecDepth 100000 in
theorem m_t8_307 : ∀ e ∈ m_i307, decode prog_5_method_25_code e.1 = .ok (e.2.1, e.2.2.1) ∧ m_okI 307 e.1 e.2.1 e.2.2.1 e.2.2.2 = true := by decide +kernel
set_option maxRecDepth 100000 in
theorem m_t8_308 : ∀ e ∈ m_i308, decode prog_5_method_26_code e.1 = .ok (e.2.1, e.2.2.1) ∧ m_okI 308 e.1 e.2.1 e.2.2.1 e.2.2.2 = true := by decide +kernel
set_option maxRecDepth 100000 in
theorem m_t8_309 : ∀ e ∈ m_i309, decode prog_11_method_8_code e.1 = .ok (e.2.1, e.2.2.1) ∧ m_okI 309 e.1 e.2.1 e.2.2.1 e.2.2.2 = true := by decide +kernel
set_option maxRecDepth 100000 in
theorem m_t8_310 : ∀ e ∈ m_i310, decode prog_5_method_21_code e.1 = .ok (e.2.1, e.2.2.1) ∧ m_okI 310 e.1 e.2.1 e.2.2.1 e.2.2.2 = true := by decide +kernel
set_option maxRecDepth 100000 in
theorem m_t8_311 : ∀ e ∈ m_i311, decode prog_7_method_6_code e.1 = .ok (e.2.1, e.2.2.1) ∧ m_okI 311 e.1 e.2.1 e.2.2.1 e.2.2.2 = true := by decide +kernel
set_option maxRecDepth 100000 in
theorem m_t8_312 : ∀ e ∈ m_i312, decode prog_5_method_16_code e.1 = .ok (e.2.1, e.2.2.1) ∧ m_okI 312 e.1 e.2.1 e.2.2.1 e.2.2.2 = true := by decide +kernel
set_option maxRecDepth 100000 in
theorem m_t8_313 : ∀ e ∈ m_i313, decode prog_5_method_17_code e.1 = .ok (e.2.1, e.2.2.1) ∧ m_okI 313 e.1 e.2.1 e.2.2.1 e.2.2.2 = true := by decide +kernel
set_option maxRecDepth 100000 in
theorem m_t8_314 : ∀ e ∈ m_i314, decode prog_5_method_15_code e.1 = .ok (e.2.1, e.2.2.1) ∧ m_okI 314 e.1 e.2.1 e.2.2.1 e.2.2.2 = true := by decide +kernel
set_option maxRecDepth 100000 in
theorem m_t8_315 : ∀ e ∈ m_i315, decode prog_7_method_5_code e.1 = .ok (e.2.1, e.2.2.1) ∧ m_okI 315 e.1 e.2.1 e.2.2.1 e.2.2.2 = true := by decide +kernel
set_option maxRecDepth 100000 in
theorem m_t8_316 : ∀ e ∈ m_i316, decode prog_7_method_3_code e.1 = .ok (e.2.1, e.2.2.1) ∧ m_okI 316 e.1 e.2.1 e.2.2.1 e.2.2.2 = true := by decide +kernel
set_option maxRecDepth 100000 in
theorem m_t8_317 : ∀ e ∈ m_i317, decode prog_7_method_9_code e.1 = .ok (e.2.1, e.2.2.1) ∧ m_okI 317 e.1 e.2.1 e.2.2.1 e.2.2.2 = true := by decide +kernel
set_option maxRecDepth 100000 in
theorem m_t8_318 : ∀ e ∈ m_i318, decode prog_11_method_5_code e.1 = .ok (e.2.1, e.2.2.1) ∧ m_okI 318 e.1 e.2.1 e.2.2.1 e.2.2.2 = true := by decide +kernel
set_option maxRecDepth 100000 in
theorem m_t8_319 : ∀ e ∈ m_i319, decode prog_5_method_5_code e.1 = .ok (e.2.1, e.2.2.1) ∧ m_okI 319 e.1 e.2.1 e.2.2.1 e.2.2.2 = true := by decide +kernel
set_option maxRecDepth 100000 in
theorem m_a8_7 : m_all8 280 [m_i280, m_i281, m_i282, m_i283, m_i284, m_i285, m_i286, m_i287, m_i288, m_i289, m_i290, m_i291, m_i292, m_i293, m_i294, m_i295, m_i296, m_i297, m_i298, m_i299, m_i300, m_i301, m_i302, m_i303, m_i304, m_i305, m_i306, m_i307, m_i308, m_i309, m_i310, m_i311, m_i312, m_i313, m_i314, m_i315, m_i316, m_i317, m_i318, m_i319] := ⟨m_t8_280, m_t8_281, m_t8_282, m_t8_283, m_t8_284, m_t8_285, m_t8_286, m_t8_287, m_t8_288, m_t8_289, m_t8_290, m_t8_291, m_t8_292, m_t8_293, m_t8_294, m_t8_295, m_t8_296, m_t8_297, m_t8_298, m_t8_299, m_t8_300, m_t8_301, m_t8_302, m_t8_303, m_t8_304, m_t8_305, m_t8_306, m_t8_307, m_t8_308, m_t8_309, m_t8_310, m_t8_311, m_t8_312, m_t8_313, m_t8_314, m_t8_315, m_t8_316, m_t8_317, m_t8_318, m_t8_319, trivial⟩
set_option maxRecDepth 100000 in
theorem m_t8_320 : ∀ e ∈ m_i320, decode prog_11_method_4_code e.1 = .ok (e.2.1, e.2.2.1) ∧ m_okI 320 e.1 e.2.1 e.2.2.1 e.2.2.2 = true := by decide +kernel
set_option maxRecDepth 100000 in
theorem m_t8_321_0 : ∀ e ∈ m_i321_0, decode prog_5_method_7_code e.1 = .ok (e.2.1, e.2.2.1) ∧ m_okI 321 e.1 e.2.1 e.2.2.1 e.2.2.2 = true := by decide +kernel
set_option maxRecDepth 100000 in
theorem m_t8_321_1 : ∀ e ∈ m_i321_1, decode prog_5_method_7_code e.1 = .ok (e.2.1, e.2.2.1) ∧ m_okI 321 e.1 e.2.1 e.2.2.1 e.2.2.2 = true := by decide +kernel
theorem m_t8_321 : ∀ e ∈ m_i321, decode prog_5_method_7_code e.1 = .ok (e.2.1, e.2.2.1) ∧ m_okI 321 e.1 e.2.1 e.2.2.1 e.2.2.2 = true := List.forall_mem_append.mpr ⟨m_t8_321_0, m_t8_321_1⟩
set_option maxRecDepth 100000 in
theorem m_t8_322_0 : ∀ e ∈ m_i322_0, decode prog_5_method_10_code e.1 = .ok (e.2.1, e.2.2.1) ∧ m_okI 322 e.1 e.2.1 e.2.2.1 e.2.2.2 = true := by decide +kernel
set_option maxRecDepth 100000 in
theorem m_t8_322_1 : ∀ e ∈ m_i322_1, decode prog_5_method_10_code e.1 = .ok (e.2.1, e.2.2.1) ∧ m_okI 322 e.1 e.2.1 e.2.2.1 e.2.2.2 = true := by decide +kernel
theorem m_t8_322 : ∀ e ∈ m_i322, decode prog_5_method_10_code e.1 = .ok (e.2.1, e.2.2.1) ∧ m_okI 322 e.1 e.2.1 e.2.2.1 e.2.2.2 = true := List.forall_mem_append.mpr ⟨m_t8_322_0, m_t8_322_1⟩
set_option maxRecDepth 100000 in
theorem m_t8_323 : ∀ e ∈ m_i323, decode prog_11_method_3_code e.1 = .ok (e.2.1, e.2.2.1) ∧ m_okI 323 e.1 e.2.1 e.2.2.1 e.2.2.2 = true := by decide +kernel
set_option maxRecDepth 100000 in
theorem m_t8_324 : ∀ e ∈ m_i324, decode prog_18_method_79_code e.1 = .ok (e.2.1, e.2.2.1) ∧ m_okI 324 e.1 e.2.1 e.2.2.1 e.2.2.2 = true := by decide +kernel
set_option maxRecDepth 100000 in
theorem m_t8_325 : ∀ e ∈ m_i325, decode prog_18_method_80_code e.1 = .ok (e.2.1, e.2.2.1) ∧ m_okI 325 e.1 e.2.1 e.2.2.1 e.2.2.2 = true := by decide +kernel
set_option maxRecDepth 100000 in
theorem m_t8_326 : ∀ e ∈ m_i326, decode prog_19_method_22_code e.1 = .ok (e.2.1, e.2.2.1) ∧ m_okI 326 e.1 e.2.1 e.2.2.1 e.2.2.2 = true := by decide +kernel
set_option maxRecDepth 100000 in
theorem m_t8_327 : ∀ e ∈ m_i327, decode prog_19_method_23_code e.1 = .ok (e.2.1, e.2.2.1) ∧ m_okI 327 e.1 e.2.1 e.2.2.1 e.2.2.2 = true := by decide +kernel
set_option maxRecDepth 100000 in
theorem m_t8_328 : ∀ e ∈ m_i328, decode prog_19_method_4_code e.1 = .ok (e.2.1, e.2.2.1) ∧ m_okI 328 e.1 e.2.1 e.2.2.1 e.2.2.2 = true := by decide +kernel
set_option maxRecDepth 100000 in
theorem m_t8_329 : ∀ e ∈ m_i329, decode prog_5_method_9_code e.1 = .ok (e.2.1, e.2.2.1) ∧ m_okI 329 e.1 e.2.1 e.2.2.1 e.2.2.2 = true := by decide +kernel
set_option maxRecDepth 100000 in
theorem m_t8_330 : ∀ e ∈ m_i330, decode prog_17_method_69_code e.1 = .ok (e.2.1, e.2.2.1) ∧ m_okI 330 e.1 e.2.1 e.2.2.1 e.2.2.2 = true := by decide +kernel
set_option maxRecDepth 100000 in
theorem m_t8_331 : ∀ e ∈ m_i331, decode prog_5_method_12_code e.1 = .ok (e.2.1, e.2.2.1) ∧ m_okI 331 e.1 e.2.1 e.2.2.1 e.2.2.2 = true := by decide +kernel
set_option maxRecDepth 100000 in
theorem m_t8_332 : ∀ e ∈ m_i332, decode prog_5_method_8_code e.1 = .ok (e.2.1, e.2.2.1) ∧ m_okI 332 e.1 e.2.1 e.2.2.1 e.2.2.2 = true := by decide +kernel
set_option maxRecDepth 100000 in
theorem m_t8_333_0 : ∀ e ∈ m_i333_0, decode prog_11_method_2_code e.1 = .ok (e.2.1, e.2.2.1) ∧ m_okI 333 e.1 e.2.1 e.2.2.1 e.2.2.2 = true := by decide +kernel
set_option maxRecDepth 100000 in
theorem m_t8_333_1 : ∀ e ∈ m_i333_1, decode prog_11_method_2_code e.1 = .ok (e.2.1, e.2.2.1) ∧ m_okI 333 e.1 e.2.1 e.2.2.1 e.2.2.2 = true := by decide +kernel
theorem m_t8_333 : ∀ e ∈ m_i333, decode prog_11_method_2_code e.1 = .ok (e.2.1, e.2.2.1) ∧ m_okI 333 e.1 e.2.1 e.2.2.1 e.2.2.2 = true := List.forall_mem_append.mpr ⟨m_t8_333_0, m_t8_333_1⟩
set_option maxRecDepth 100000 in
theorem m_t8_334 : ∀ e ∈ m_i334, decode prog_18_method_56_code e.1 = .ok (e.2.1, e.2.2.1) ∧ m_okI 334 e.1 e.2.1 e.2.2.1 e.2.2.2 = true := by decide +kernel
set_option maxRecDepth 100000 in
theorem m_t8_335 : ∀ e ∈ m_i335, decode prog_19_method_2_code e.1 = .ok (e.2.1, e.2.2.1) ∧ m_okI 335 e.1 e.2.1 e.2.2.1 e.2.2.2 = true := by decide +kernel
set_option maxRecDepth 100000 in
theorem m_t8_336 : ∀ e ∈ m_i336, decode prog_18_method_155_code e.1 = .ok (e.2.1, e.2.2.1) ∧ m_okI 336 e.1 e.2.1 e.2.2.1 e.2.2.2 = true := by decide +kernel
set_option maxRecDepth 100000 in
theorem m_t8_337 : ∀ e ∈ m_i337, decode prog_22_method_11_code e.1 = .ok (e.2.1, e.2.2.1) ∧ m_okI 337 e.1 e.2.1 e.2.2.1 e.2.2.2 = true := by decide +kernel
set_option maxRecDepth 100000 in
theorem m_t8_338 : ∀ e ∈ m_i338, decode prog_18_method_154_code e.1 = .ok (e.2.1, e.2.2.1) ∧ m_okI 338 e.1 e.2.1 e.2.2.1 e.2.2.2 = true := by decide +kernel
set_option maxRecDepth 100000 in
theorem m_t8_339 : ∀ e ∈ m_i339, decode prog_18_method_54_code e.1 = .ok (e.2.1, e.2.2.1) ∧ m_okI 339 e.1 e.2.1 e.2.2.1 e.2.2.2 = true := by decide +kernel
set_option maxRecDepth 100000 in
theorem m_t8_340 : ∀ e ∈ m_i340, decode prog_18_method_152_code e.1 = .ok (e.2.1, e.2.2.1) ∧ m_okI 340 e.1 e.2.1 e.2.2.1 e.2.2.2 = true := by decide +kernel
set_option maxRecDepth 100000 in
theorem m_t8_341 : ∀ e ∈ m_i341, decode prog_5_method_11_code e.1 = .ok (e.2.1, e.2.2.1) ∧ m_okI 341 e.1 e.2.1 e.2.2.1 e.2.2.2 = true := by decide +kernel
set_option maxRecDepth 100000 in
theorem m_t8_342 : ∀ e ∈ m_i342, decode prog_5_method_6_code e.1 = .ok (e.2.1, e.2.2.1) ∧ m_okI 342 e.1 e.2.1 e.2.2.1 e.2.2.2 = true := by decide +kernel
set_option maxRecDepth 100000 in
theorem m_t8_343 : ∀ e ∈ m_i343, decode prog_7_method_2_code e.1 = .ok (e.2.1, e.2.2.1) ∧ m_okI 343 e.1 e.2.1 e.2.2.1 e.2.2.2 = true := by decide +kernel
set_option maxRecDepth 100000 in
theorem m_t8_344 : ∀ e ∈ m_i344, decode prog_14_method_19_code e.1 = .ok (e.2.1, e.2.2.1) ∧ m_okI 344 e.1 e.2.1 e.2.2.1 e.2.2.2 = true := by decide +kernel
set_option maxRecDepth 100000 in
theorem m_t8_345 : ∀ e ∈ m_i345, decode prog_1_method_4_code e.1 = .ok (e.2.1, e.2.2.1) ∧ m_okI 345 e.1 e.2.1 e.2.2.1 e.2.2.2 = true := by decide +kernel
set_option maxRecDepth 100000 in
theorem m_t8_346 : ∀ e ∈ m_i346, decode prog_14_method_18_code e.1 = .ok (e.2.1, e.2.2.1) ∧ m_okI 346 e.1 e.2.1 e.2.2.1 e.2.2.2 = true := by decide +kernel
set_option maxRecDepth 100000 in
theorem m_t8_347 : ∀ e ∈ m_i347, decode prog_14_method_17_code e.1 = .ok (e.2.1, e.2.2.1) ∧ m_okI 347 e.1 e.2.1 e.2.2.1 e.2.2.2 = true := by decide +kernel
set_option maxRecDepth 100000 in
theorem m_t8_348 : ∀ e ∈ m_i348, decode prog_1_method_3_code e.1 = .ok (e.2.1, e.2.2.1) ∧ m_okI 348 e.1 e.2.1 e.2.2.1 e.2.2.2 = true := by decide +kernel
set_option maxRecDepth 100000 in
theorem m_t8_349 : ∀ e ∈ m_i349, decode prog_5_method_3_code e.1 = .ok (e.2.1, e.2.2.1) ∧ m_okI 349 e.1 e.2.1 e.2.2.1 e.2.2.2 = true := by decide +kernel
set_option maxRecDepth 100000 in
theorem m_t8_350 : ∀ e ∈ m_i350, decode prog_5_method_2_code e.1 = .ok (e.2.1, e.2.2.1) ∧ m_okI 350 e.1 e.2.1 e.2.2.1 e.2.2.2 = true := by decide +kernel
set_option maxRecDepth 100000 in
theorem m_t8_351_0 : ∀ e ∈ m_i351_0, decode prog_14_method_16_code e.1 = .ok (e.2.1, e.2.2.1) ∧ m_okI 351 e.1 e.2.1 e.2.2.1 e.2.2.2 = true := by decide +kernel
set_option maxRecDepth 100000 in
theorem m_t8_351_1 : ∀ e ∈ m_i351_1, decode prog_14_method_16_code e.1 = .ok (e.2.1, e.2.2.1) ∧ m_okI 351 e.1 e.2.1 e.2.2.1 e.2.2.2 = true := by decide +kernel
theorem m_t8_351 : ∀ e ∈ m_i351, decode prog_14_method_16_code e.1 = .ok (e.2.1, e.2.2.1) ∧ m_okI 351 e.1 e.2.1 e.2.2.1 e.2.2.2 = true := List.forall_mem_append.mpr ⟨m_t8_351_0, m_t8_351_1⟩
set_option maxRecDepth 100000 in
theorem m_t8_352 : ∀ e ∈ m_i352, decode prog_14_method_3_code e.1 = .ok (e.2.1, e.2.2.1) ∧ m_okI 352 e.1 e.2.1 e.2.2.1 e.2.2.2 = true := by decide +kernel
set_option maxRecDepth 100000 in
theorem m_t8_353 : ∀ e ∈ m_i353, decode prog_1_method_2_code e.1 = .ok (e.2.1, e.2.2.1) ∧ m_okI 353 e.1 e.2.1 e.2.2.1 e.2.2.2 = true := by decide +kernel
set_option maxRecDepth 100000 in
theorem m_t8_354 : ∀ e ∈ m_i354, decode prog_12_method_12_code e.1 = .ok (e.2.1, e.2.2.1) ∧ m_okI 354 e.1 e.2.1 e.2.2.1 e.2.2.2 = true := by decide +kernel
set_option maxRecDepth 100000 in
theorem m_t8_355 : ∀ e ∈ m_i355, decode prog_12_method_3_code e.1 = .ok (e.2.1, e.2.2.1) ∧ m_okI 355 e.1 e.2.1 e.2.2.1 e.2.2.2 = true := by decide +kernel
set_option maxRecDepth 100000 in
theorem m_t8_356 : ∀ e ∈ m_i356, decode prog_1_method_49_code e.1 = .ok (e.2.1, e.2.2.1) ∧ m_okI 356 e.1 e.2.1 e.2.2.1 e.2.2.2 = true := by decide +kernel
set_option maxRecDepth 100000 in
theorem m_t8_357_0 : ∀ e ∈ m_i357_0, decode prog_14_method_1_code e.1 = .ok (e.2.1, e.2.2.1) ∧ m_okI 357 e.1 e.2.1 e.2.2.1 e.2.2.2 = true := by decide +kernel
set_option maxRecDepth 100000 in
theorem m_t8_357_1 : ∀ e ∈ m_i357_1, decode prog_14_method_1_code e.1 = .ok (e.2.1, e.2.2.1) ∧ m_okI 357 e.1 e.2.1 e.2.2.1 e.2.2.2 = true := by decide +kernel
theorem m_t8_357 : ∀ e ∈ m_i357, decode prog_14_method_1_code e.1 = .ok (e.2.1, e.2.2.1) ∧ m_okI 357 e.1 e.2.1 e.2.2.1 e.2.2.2 = true := List.forall_mem_append.mpr ⟨m_t8_357_0, m_t8_357_1⟩
set_option maxRecDepth 100000 in
theorem m_t8_358 : ∀ e ∈ m_i358, decode prog_14_method_2_code e.1 = .ok (e.2.1, e.2.2.1) ∧ m_okI 358 e.1 e.2.1 e.2.2.1 e.2.2.2 = true := by decide +kernel
set_option maxRecDepth 100000 in
theorem m_t8_359_0 : ∀ e ∈ m_i359_0, decode prog_1_method_1_code e.1 = .ok (e.2.1, e.2.2.1) ∧ m_okI 359 e.1 e.2.1 e.2.2.1 e.2.2.2 = true := by decide +kernel
set_option maxRecDepth 100000 in
theorem m_t8_359_1 : ∀ e ∈ m_i359_1, decode prog_1_method_1_code e.1 = .ok (e.2.1, e.2.2.1) ∧ m_okI 359 e.1 e.2.1 e.2.2.1 e.2.2.2 = true := by decide +kernel
theorem m_t8_359 : ∀ e ∈ m_i359, decode prog_1_method_1_code e.1 = .ok (e.2.1, e.2.2.1) ∧ m_okI 359 e.1 e.2.1 e.2.2.1 e.2.2.2 = true := List.forall_mem_append.mpr ⟨m_t8_359_0, m_t8_359_1⟩
set_option maxRecDepth 100000 in
theorem m_a8_8 : m_all8 320 [m_i320, m_i321, m_i322, m_i323, m_i324, m_i325, m_i326, m_i327, m_i328, m_i329, m_i330, m_i331, m_i332, m_i333, m_i334, m_i335, m_i336, m_i337, m_i338, m_i339, m_i340, m_i341, m_i342, m_i343, m_i344, m_i345, m_i346, m_i347, m_i348, m_i349, m_i350, m_i351, m_i352, m_i353, m_i354, m_i355, m_i356, m_i357, m_i358, m_i359] := ⟨m_t8_320, m_t8_321, m_t8_322, m_t8_323, m_t8_324, m_t8_325, m_t8_326, m_t8_327, m_t8_328, m_t8_329, m_t8_330, m_t8_331, m_t8_332, m_t8_333, m_t8_334, m_t8_335, m_t8_336, m_t8_337, m_t8_338, m_t8_339, m_t8_340, m_t8_341, m_t8_342, m_t8_343, m_t8_344, m_t8_345, m_t8_346, m_t8_347, m_t8_348, m_t8_349, m_t8_350, m_t8_351, m_t8_352, m_t8_353, m_t8_354, m_t8_355, m_t8_356, m_t8_357, m_t8_358, m_t8_359, trivial⟩
set_option maxRecDepth 100000 in
theorem m_t8_360 : ∀ e ∈ m_i360, decode prog_4_method_1_code e.1 = .ok (e.2.1, e.2.2.1) ∧ m_okI 360 e.1 e.2.1 e.2.2.1 e.2.2.2 = true := by decide +kernel
set_option maxRecDepth 100000 in
theorem m_t8_361 : ∀ e ∈ m_i361, decode prog_2_method_1_code e.1 = .ok (e.2.1, e.2.2.1) ∧ m_okI 361 e.1 e.2.1 e.2.2.1 e.2.2.2 = true := by decide +kernel
set_option maxRecDepth 100000 in
theorem m_t8_362 : ∀ e ∈ m_i362, decode prog_10_method_1_code e.1 = .ok (e.2.1, e.2.2.1) ∧ m_okI 362 e.1 e.2.1 e.2.2.1 e.2.2.2 = true := by decide +kernel
set_option maxRecDepth 100000 in
theorem m_t8_363 : ∀ e ∈ m_i363, decode prog_3_method_1_code e.1 = .ok (e.2.1, e.2.2.1) ∧ m_okI 363 e.1 e.2.1 e.2.2.1 e.2.2.2 = true := by decide +kernel
set_option maxRecDepth 100000 in
theorem m_t8_364 : ∀ e ∈ m_i364, decode prog_5_method_1_code e.1 = .ok (e.2.1, e.2.2.1) ∧ m_okI 364 e.1 e.2.1 e.2.2.1 e.2.2.2 = true := by decide +kernel
set_option maxRecDepth 100000 in
theorem m_t8_365 : ∀ e ∈ m_i365, decode prog_7_method_1_code e.1 = .ok (e.2.1, e.2.2.1) ∧ m_okI 365 e.1 e.2.1 e.2.2.1 e.2.2.2 = true := by decide +kernel
set_option maxRecDepth 100000 in
theorem m_t8_366 : ∀ e ∈ m_i366, decode prog_9_method_1_code e.1 = .ok (e.2.1, e.2.2.1) ∧ m_okI 366 e.1 e.2.1 e.2.2.1 e.2.2.2 = true := by decide +kernel
set_option maxRecDepth 100000 in
theorem m_t8_367 : ∀ e ∈ m_i367, decode prog_6_method_2_code e.1 = .ok (e.2.1, e.2.2.1) ∧ m_okI 367 e.1 e.2.1 e.2.2.1 e.2.2.2 = true := by decide +kernel
set_option maxRecDepth 100000 in
theorem m_t8_368 : ∀ e ∈ m_i368, decode prog_6_method_1_code e.1 = .ok (e.2.1, e.2.2.1) ∧ m_okI 368 e.1 e.2.1 e.2.2.1 e.2.2.2 = true := by decide +kernel
set_option maxRecDepth 100000 in
theorem m_t8_369 : ∀ e ∈ m_i369, decode prog_17_method_65_code e.1 = .ok (e.2.1, e.2.2.1) ∧ m_okI 369 e.1 e.2.1 e.2.2.1 e.2.2.2 = true := by decide +kernel
set_option maxRecDepth 100000 in
theorem m_t8_370 : ∀ e ∈ m_i370, decode prog_8_method_1_code e.1 = .ok (e.2.1, e.2.2.1) ∧ m_okI 370 e.1 e.2.1 e.2.2.1 e.2.2.2 = true := by decide +kernel
set_option maxRecDepth 100000 in
theorem m_t8_371 : ∀ e ∈ m_i371, decode prog_12_method_1_code e.1 = .ok (e.2.1, e.2.2.1) ∧ m_okI 371 e.1 e.2.1 e.2.2.1 e.2.2.2 = true := by decide +kernel
set_option maxRecDepth 100000 in
theorem m_a8_9 : m_all8 360 [m_i360, m_i361, m_i362, m_i363, m_i364, m_i365, m_i366, m_i367, m_i368, m_i369, m_i370, m_i371] := ⟨m_t8_360, m_t8_361, m_t8_362, m_t8_363, m_t8_364, m_t8_365, m_t8_366, m_t8_367, m_t8_368, m_t8_369, m_t8_370, m_t8_371, trivial⟩
