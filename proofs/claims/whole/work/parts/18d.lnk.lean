set_option maxRecDepth 100000 in
theorem m_ok_249 : m_okM 249 := ⟨m_in3 (i := 148) rfl rfl, by decide +kernel, ⟨by decide +kernel, by decide +kernel⟩, by decide +kernel, m_in1 (i := 1) rfl rfl, by decide +kernel, by decide +kernel, by decide +kernel, Or.inr (Or.inl ⟨rfl, m_in3 (i := 146) rfl rfl, m_in3 (i := 147) rfl rfl, Or.inr ⟨by decide +kernel, (RX11, TX11, 13), (by rw [show m_ci 249 = 10 by decide +kernel]; rfl), rfl⟩⟩)⟩
set_option maxRecDepth 100000 in
theorem m_ok_250 : m_okM 250 := ⟨m_in6 (i := 194) rfl rfl, by decide +kernel, ⟨by decide +kernel, by decide +kernel⟩, by decide +kernel, m_in1 (i := 13) rfl rfl, by decide +kernel, by decide +kernel, by decide +kernel, Or.inr (Or.inl ⟨rfl, m_in6 (i := 192) rfl rfl, m_in6 (i := 193) rfl rfl, Or.inr ⟨by decide +kernel, (RX12, TX12, 36), (by rw [show m_ci 250 = 11 by decide +kernel]; rfl), rfl⟩⟩)⟩
set_option maxRecDepth 100000 in
theorem m_ok_251 : m_okM 251 := ⟨m_in6 (i := 198) rfl rfl, by decide +kernel, ⟨by decide +kernel, by decide +kernel⟩, by decide +kernel, m_in1 (i := 13) rfl rfl, by decide +kernel, by decide +kernel, by decide +kernel, Or.inr (Or.inl ⟨rfl, m_in6 (i := 197) rfl rfl, m_inP (i := 47) rfl rfl, Or.inr ⟨by decide +kernel, (RX12, TX12, 36), (by rw [show m_ci 251 = 11 by decide +kernel]; rfl), rfl⟩⟩)⟩
set_option maxRecDepth 100000 in
theorem m_ok_252 : m_okM 252 := ⟨m_in6 (i := 221) rfl rfl, by decide +kernel, ⟨by decide +kernel, by decide +kernel⟩, by decide +kernel, m_in1 (i := 13) rfl rfl, by decide +kernel, by decide +kernel, by decide +kernel, Or.inr (Or.inl ⟨rfl, m_in6 (i := 220) rfl rfl, m_inP (i := 50) rfl rfl, Or.inr ⟨by decide +kernel, (RX12, TX12, 36), (by rw [show m_ci 252 = 11 by decide +kernel]; rfl), rfl⟩⟩)⟩
set_option maxRecDepth 100000 in
theorem m_ok_253 : m_okM 253 := ⟨m_in7 (i := 11) rfl rfl, by decide +kernel, ⟨by decide +kernel, by decide +kernel⟩, by decide +kernel, m_in1 (i := 13) rfl rfl, by decide +kernel, by decide +kernel, by decide +kernel, Or.inr (Or.inl ⟨rfl, m_in7 (i := 10) rfl rfl, m_inP (i := 53) rfl rfl, Or.inr ⟨by decide +kernel, (RX12, TX12, 36), (by rw [show m_ci 253 = 11 by decide +kernel]; rfl), rfl⟩⟩)⟩
set_option maxRecDepth 100000 in
theorem m_ok_254 : m_okM 254 := ⟨m_in7 (i := 35) rfl rfl, by decide +kernel, ⟨by decide +kernel, by decide +kernel⟩, by decide +kernel, m_in1 (i := 13) rfl rfl, by decide +kernel, by decide +kernel, by decide +kernel, Or.inr (Or.inl ⟨rfl, m_in7 (i := 34) rfl rfl, m_inP (i := 59) rfl rfl, Or.inr ⟨by decide +kernel, (RX12, TX12, 36), (by rw [show m_ci 254 = 11 by decide +kernel]; rfl), rfl⟩⟩)⟩
set_option maxRecDepth 100000 in
theorem m_ok_255 : m_okM 255 := ⟨m_in7 (i := 39) rfl rfl, by decide +kernel, ⟨by decide +kernel, by decide +kernel⟩, by decide +kernel, m_in1 (i := 13) rfl rfl, by decide +kernel, by decide +kernel, by decide +kernel, Or.inr (Or.inl ⟨rfl, m_in7 (i := 38) rfl rfl, m_inP (i := 60) rfl rfl, Or.inr ⟨by decide +kernel, (RX12, TX12, 36), (by rw [show m_ci 255 = 11 by decide +kernel]; rfl), rfl⟩⟩)⟩
set_option maxRecDepth 100000 in
theorem m_ok_256 : m_okM 256 := ⟨m_in7 (i := 90) rfl rfl, by decide +kernel, ⟨by decide +kernel, by decide +kernel⟩, by decide +kernel, m_in1 (i := 13) rfl rfl, by decide +kernel, by decide +kernel, by decide +kernel, Or.inr (Or.inl ⟨rfl, m_in7 (i := 89) rfl rfl, m_inP (i := 72) rfl rfl, Or.inr ⟨by decide +kernel, (RX12, TX12, 36), (by rw [show m_ci 256 = 11 by decide +kernel]; rfl), rfl⟩⟩)⟩
set_option maxRecDepth 100000 in
theorem m_ok_257 : m_okM 257 := ⟨m_in7 (i := 106) rfl rfl, by decide +kernel, ⟨by decide +kernel, by decide +kernel⟩, by decide +kernel, m_in1 (i := 13) rfl rfl, by decide +kernel, by decide +kernel, by decide +kernel, Or.inr (Or.inl ⟨rfl, m_in7 (i := 105) rfl rfl, m_inP (i := 76) rfl rfl, Or.inr ⟨by decide +kernel, (RX12, TX12, 36), (by rw [show m_ci 257 = 11 by decide +kernel]; rfl), rfl⟩⟩)⟩
set_option maxRecDepth 100000 in
theorem m_ok_258 : m_okM 258 := ⟨m_in7 (i := 102) rfl rfl, by decide +kernel, ⟨by decide +kernel, by decide +kernel⟩, by decide +kernel, m_in1 (i := 13) rfl rfl, by decide +kernel, by decide +kernel, by decide +kernel, Or.inr (Or.inl ⟨rfl, m_in7 (i := 101) rfl rfl, m_inP (i := 75) rfl rfl, Or.inr ⟨by decide +kernel, (RX12, TX12, 36), (by rw [show m_ci 258 = 11 by decide +kernel]; rfl), rfl⟩⟩)⟩
set_option maxRecDepth 100000 in
theorem m_ok_259 : m_okM 259 := ⟨m_in7 (i := 98) rfl rfl, by decide +kernel, ⟨by decide +kernel, by decide +kernel⟩, by decide +kernel, m_in1 (i := 13) rfl rfl, by decide +kernel, by decide +kernel, by decide +kernel, Or.inr (Or.inl ⟨rfl, m_in7 (i := 97) rfl rfl, m_inP (i := 74) rfl rfl, Or.inr ⟨by decide +kernel, (RX12, TX12, 36), (by rw [show m_ci 259 = 11 by decide +kernel]; rfl), rfl⟩⟩)⟩
set_option maxRecDepth 100000 in
theorem m_ok_260 : m_okM 260 := ⟨m_in7 (i := 94) rfl rfl, by decide +kernel, ⟨by decide +kernel, by decide +kernel⟩, by decide +kernel, m_in1 (i := 13) rfl rfl, by decide +kernel, by decide +kernel, by decide +kernel, Or.inr (Or.inl ⟨rfl, m_in7 (i := 93) rfl rfl, m_inP (i := 73) rfl rfl, Or.inr ⟨by decide +kernel, (RX12, TX12, 36), (by rw [show m_ci 260 = 11 by decide +kernel]; rfl), rfl⟩⟩)⟩
set_option maxRecDepth 100000 in
theorem m_ok_261 : m_okM 261 := ⟨m_in7 (i := 43) rfl rfl, by decide +kernel, ⟨by decide +kernel, by decide +kernel⟩, by decide +kernel, m_in1 (i := 13) rfl rfl, by decide +kernel, by decide +kernel, by decide +kernel, Or.inr (Or.inl ⟨rfl, m_in7 (i := 42) rfl rfl, m_inP (i := 61) rfl rfl, Or.inr ⟨by decide +kernel, (RX12, TX12, 36), (by rw [show m_ci 261 = 11 by decide +kernel]; rfl), rfl⟩⟩)⟩
set_option maxRecDepth 100000 in
theorem m_ok_262 : m_okM 262 := ⟨m_in7 (i := 86) rfl rfl, by decide +kernel, ⟨by decide +kernel, by decide +kernel⟩, by decide +kernel, m_in1 (i := 13) rfl rfl, by decide +kernel, by decide +kernel, by decide +kernel, Or.inr (Or.inl ⟨rfl, m_in7 (i := 85) rfl rfl, m_inP (i := 71) rfl rfl, Or.inr ⟨by decide +kernel, (RX12, TX12, 36), (by rw [show m_ci 262 = 11 by decide +kernel]; rfl), rfl⟩⟩)⟩
set_option maxRecDepth 100000 in
theorem m_ok_263 : m_okM 263 := ⟨m_in7 (i := 82) rfl rfl, by decide +kernel, ⟨by decide +kernel, by decide +kernel⟩, by decide +kernel, m_in1 (i := 13) rfl rfl, by decide +kernel, by decide +kernel, by decide +kernel, Or.inr (Or.inl ⟨rfl, m_in7 (i := 81) rfl rfl, m_inP (i := 70) rfl rfl, Or.inr ⟨by decide +kernel, (RX12, TX12, 36), (by rw [show m_ci 263 = 11 by decide +kernel]; rfl), rfl⟩⟩)⟩
set_option maxRecDepth 100000 in
theorem m_ok_264 : m_okM 264 := ⟨m_in7 (i := 74) rfl rfl, by decide +kernel, ⟨by decide +kernel, by decide +kernel⟩, by decide +kernel, m_in1 (i := 13) rfl rfl, by decide +kernel, by decide +kernel, by decide +kernel, Or.inr (Or.inl ⟨rfl, m_in7 (i := 73) rfl rfl, m_inP (i := 68) rfl rfl, Or.inr ⟨by decide +kernel, (RX12, TX12, 36), (by rw [show m_ci 264 = 11 by decide +kernel]; rfl), rfl⟩⟩)⟩
set_option maxRecDepth 100000 in
theorem m_ok_265 : m_okM 265 := ⟨m_in7 (i := 78) rfl rfl, by decide +kernel, ⟨by decide +kernel, by decide +kernel⟩, by decide +kernel, m_in1 (i := 13) rfl rfl, by decide +kernel, by decide +kernel, by decide +kernel, Or.inr (Or.inl ⟨rfl, m_in7 (i := 77) rfl rfl, m_inP (i := 69) rfl rfl, Or.inr ⟨by decide +kernel, (RX12, TX12, 36), (by rw [show m_ci 265 = 11 by decide +kernel]; rfl), rfl⟩⟩)⟩
set_option maxRecDepth 100000 in
theorem m_ok_266 : m_okM 266 := ⟨m_in7 (i := 47) rfl rfl, by decide +kernel, ⟨by decide +kernel, by decide +kernel⟩, by decide +kernel, m_in1 (i := 13) rfl rfl, by decide +kernel, by decide +kernel, by decide +kernel, Or.inr (Or.inl ⟨rfl, m_in7 (i := 46) rfl rfl, m_inP (i := 62) rfl rfl, Or.inr ⟨by decide +kernel, (RX12, TX12, 36), (by rw [show m_ci 266 = 11 by decide +kernel]; rfl), rfl⟩⟩)⟩
set_option maxRecDepth 100000 in
theorem m_ok_267 : m_okM 267 := ⟨m_in7 (i := 70) rfl rfl, by decide +kernel, ⟨by decide +kernel, by decide +kernel⟩, by decide +kernel, m_in1 (i := 13) rfl rfl, by decide +kernel, by decide +kernel, by decide +kernel, Or.inr (Or.inl ⟨rfl, m_in7 (i := 69) rfl rfl, m_inP (i := 67) rfl rfl, Or.inr ⟨by decide +kernel, (RX12, TX12, 36), (by rw [show m_ci 267 = 11 by decide +kernel]; rfl), rfl⟩⟩)⟩
set_option maxRecDepth 100000 in
theorem m_ok_268 : m_okM 268 := ⟨m_in7 (i := 63) rfl rfl, by decide +kernel, ⟨by decide +kernel, by decide +kernel⟩, by decide +kernel, m_in1 (i := 13) rfl rfl, by decide +kernel, by decide +kernel, by decide +kernel, Or.inr (Or.inl ⟨rfl, m_in7 (i := 62) rfl rfl, m_inP (i := 66) rfl rfl, Or.inr ⟨by decide +kernel, (RX12, TX12, 36), (by rw [show m_ci 268 = 11 by decide +kernel]; rfl), rfl⟩⟩)⟩
set_option maxRecDepth 100000 in
theorem m_ok_269 : m_okM 269 := ⟨m_in7 (i := 66) rfl rfl, by decide +kernel, ⟨by decide +kernel, by decide +kernel⟩, by decide +kernel, m_in1 (i := 13) rfl rfl, by decide +kernel, by decide +kernel, by decide +kernel, Or.inl ⟨rfl, m_in7 (i := 65) rfl rfl⟩⟩
set_option maxRecDepth 100000 in
theorem m_ok_270 : m_okM 270 := ⟨m_in7 (i := 51) rfl rfl, by decide +kernel, ⟨by decide +kernel, by decide +kernel⟩, by decide +kernel, m_in1 (i := 13) rfl rfl, by decide +kernel, by decide +kernel, by decide +kernel, Or.inr (Or.inl ⟨rfl, m_in7 (i := 50) rfl rfl, m_inP (i := 63) rfl rfl, Or.inr ⟨by decide +kernel, (RX12, TX12, 36), (by rw [show m_ci 270 = 11 by decide +kernel]; rfl), rfl⟩⟩)⟩
set_option maxRecDepth 100000 in
theorem m_ok_271 : m_okM 271 := ⟨m_in7 (i := 55) rfl rfl, by decide +kernel, ⟨by decide +kernel, by decide +kernel⟩, by decide +kernel, m_in1 (i := 13) rfl rfl, by decide +kernel, by decide +kernel, by decide +kernel, Or.inr (Or.inl ⟨rfl, m_in7 (i := 54) rfl rfl, m_inP (i := 64) rfl rfl, Or.inr ⟨by decide +kernel, (RX12, TX12, 36), (by rw [show m_ci 271 = 11 by decide +kernel]; rfl), rfl⟩⟩)⟩
set_option maxRecDepth 100000 in
theorem m_ok_272 : m_okM 272 := ⟨m_in7 (i := 59) rfl rfl, by decide +kernel, ⟨by decide +kernel, by decide +kernel⟩, by decide +kernel, m_in1 (i := 13) rfl rfl, by decide +kernel, by decide +kernel, by decide +kernel, Or.inr (Or.inl ⟨rfl, m_in7 (i := 58) rfl rfl, m_inP (i := 65) rfl rfl, Or.inr ⟨by decide +kernel, (RX12, TX12, 36), (by rw [show m_ci 272 = 11 by decide +kernel]; rfl), rfl⟩⟩)⟩
set_option maxRecDepth 100000 in
theorem m_ok_273 : m_okM 273 := ⟨m_in7 (i := 27) rfl rfl, by decide +kernel, ⟨by decide +kernel, by decide +kernel⟩, by decide +kernel, m_in1 (i := 13) rfl rfl, by decide +kernel, by decide +kernel, by decide +kernel, Or.inr (Or.inl ⟨rfl, m_in7 (i := 26) rfl rfl, m_inP (i := 57) rfl rfl, Or.inr ⟨by decide +kernel, (RX12, TX12, 36), (by rw [show m_ci 273 = 11 by decide +kernel]; rfl), rfl⟩⟩)⟩
set_option maxRecDepth 100000 in
theorem m_ok_274 : m_okM 274 := ⟨m_in7 (i := 31) rfl rfl, by decide +kernel, ⟨by decide +kernel, by decide +kernel⟩, by decide +kernel, m_in1 (i := 13) rfl rfl, by decide +kernel, by decide +kernel, by decide +kernel, Or.inr (Or.inl ⟨rfl, m_in7 (i := 30) rfl rfl, m_inP (i := 58) rfl rfl, Or.inr ⟨by decide +kernel, (RX12, TX12, 36), (by rw [show m_ci 274 = 11 by decide +kernel]; rfl), rfl⟩⟩)⟩
set_option maxRecDepth 100000 in
theorem m_ok_275 : m_okM 275 := ⟨m_in7 (i := 15) rfl rfl, by decide +kernel, ⟨by decide +kernel, by decide +kernel⟩, by decide +kernel, m_in1 (i := 13) rfl rfl, by decide +kernel, by decide +kernel, by decide +kernel, Or.inr (Or.inl ⟨rfl, m_in7 (i := 14) rfl rfl, m_inP (i := 54) rfl rfl, Or.inr ⟨by decide +kernel, (RX12, TX12, 36), (by rw [show m_ci 275 = 11 by decide +kernel]; rfl), rfl⟩⟩)⟩
set_option maxRecDepth 100000 in
theorem m_ok_276 : m_okM 276 := ⟨m_in7 (i := 23) rfl rfl, by decide +kernel, ⟨by decide +kernel, by decide +kernel⟩, by decide +kernel, m_in1 (i := 13) rfl rfl, by decide +kernel, by decide +kernel, by decide +kernel, Or.inr (Or.inl ⟨rfl, m_in7 (i := 22) rfl rfl, m_inP (i := 56) rfl rfl, Or.inr ⟨by decide +kernel, (RX12, TX12, 36), (by rw [show m_ci 276 = 11 by decide +kernel]; rfl), rfl⟩⟩)⟩
set_option maxRecDepth 100000 in
theorem m_ok_277 : m_okM 277 := ⟨m_in7 (i := 19) rfl rfl, by decide +kernel, ⟨by decide +kernel, by decide +kernel⟩, by decide +kernel, m_in1 (i := 13) rfl rfl, by decide +kernel, by decide +kernel, by decide +kernel, Or.inr (Or.inl ⟨rfl, m_in7 (i := 18) rfl rfl, m_inP (i := 55) rfl rfl, Or.inr ⟨by decide +kernel, (RX12, TX12, 36), (by rw [show m_ci 277 = 11 by decide +kernel]; rfl), rfl⟩⟩)⟩
set_option maxRecDepth 100000 in
theorem m_ok_278 : m_okM 278 := ⟨m_in7 (i := 7) rfl rfl, by decide +kernel, ⟨by decide +kernel, by decide +kernel⟩, by decide +kernel, m_in1 (i := 13) rfl rfl, by decide +kernel, by decide +kernel, by decide +kernel, Or.inl ⟨rfl, m_in7 (i := 6) rfl rfl⟩⟩
set_option maxRecDepth 100000 in
theorem m_ok_279 : m_okM 279 := ⟨m_in6 (i := 225) rfl rfl, by decide +kernel, ⟨by decide +kernel, by decide +kernel⟩, by decide +kernel, m_in1 (i := 13) rfl rfl, by decide +kernel, by decide +kernel, by decide +kernel, Or.inr (Or.inl ⟨rfl, m_in6 (i := 224) rfl rfl, m_inP (i := 51) rfl rfl, Or.inr ⟨by decide +kernel, (RX12, TX12, 36), (by rw [show m_ci 279 = 11 by decide +kernel]; rfl), rfl⟩⟩)⟩
set_option maxRecDepth 100000 in
theorem m_ok_280 : m_okM 280 := ⟨m_in7 (i := 4) rfl rfl, by decide +kernel, ⟨by decide +kernel, by decide +kernel⟩, by decide +kernel, m_in1 (i := 13) rfl rfl, by decide +kernel, by decide +kernel, by decide +kernel, Or.inl ⟨rfl, m_in7 (i := 3) rfl rfl⟩⟩
set_option maxRecDepth 100000 in
theorem m_ok_281 : m_okM 281 := ⟨m_in7 (i := 1) rfl rfl, by decide +kernel, ⟨by decide +kernel, by decide +kernel⟩, by decide +kernel, m_in1 (i := 13) rfl rfl, by decide +kernel, by decide +kernel, by decide +kernel, Or.inr (Or.inl ⟨rfl, m_in7 (i := 0) rfl rfl, m_inP (i := 52) rfl rfl, Or.inr ⟨by decide +kernel, (RX12, TX12, 36), (by rw [show m_ci 281 = 11 by decide +kernel]; rfl), rfl⟩⟩)⟩
set_option maxRecDepth 100000 in
theorem m_ok_282 : m_okM 282 := ⟨m_in6 (i := 228) rfl rfl, by decide +kernel, ⟨by decide +kernel, by decide +kernel⟩, by decide +kernel, m_in1 (i := 13) rfl rfl, by decide +kernel, by decide +kernel, by decide +kernel, Or.inl ⟨rfl, m_in6 (i := 227) rfl rfl⟩⟩
set_option maxRecDepth 100000 in
theorem m_ok_283 : m_okM 283 := ⟨m_in6 (i := 231) rfl rfl, by decide +kernel, ⟨by decide +kernel, by decide +kernel⟩, by decide +kernel, m_in1 (i := 13) rfl rfl, by decide +kernel, by decide +kernel, by decide +kernel, Or.inl ⟨rfl, m_in6 (i := 230) rfl rfl⟩⟩
set_option maxRecDepth 100000 in
theorem m_ok_284 : m_okM 284 := ⟨m_in6 (i := 234) rfl rfl, by decide +kernel, ⟨by decide +kernel, by decide +kernel⟩, by decide +kernel, m_in1 (i := 13) rfl rfl, by decide +kernel, by decide +kernel, by decide +kernel, Or.inl ⟨rfl, m_in6 (i := 233) rfl rfl⟩⟩
set_option maxRecDepth 100000 in
theorem m_ok_285 : m_okM 285 := ⟨m_in6 (i := 237) rfl rfl, by decide +kernel, ⟨by decide +kernel, by decide +kernel⟩, by decide +kernel, m_in1 (i := 13) rfl rfl, by decide +kernel, by decide +kernel, by decide +kernel, Or.inl ⟨rfl, m_in6 (i := 236) rfl rfl⟩⟩
set_option maxRecDepth 100000 in
theorem m_ok_286 : m_okM 286 := ⟨m_in6 (i := 202) rfl rfl, by decide +kernel, ⟨by decide +kernel, by decide +kernel⟩, by decide +kernel, m_in1 (i := 13) rfl rfl, by decide +kernel, by decide +kernel, by decide +kernel, Or.inr (Or.inl ⟨rfl, m_in6 (i := 201) rfl rfl, m_inP (i := 48) rfl rfl, Or.inr ⟨by decide +kernel, (RX12, TX12, 36), (by rw [show m_ci 286 = 11 by decide +kernel]; rfl), rfl⟩⟩)⟩
set_option maxRecDepth 100000 in
theorem m_ok_287 : m_okM 287 := ⟨m_in6 (i := 217) rfl rfl, by decide +kernel, ⟨by decide +kernel, by decide +kernel⟩, by decide +kernel, m_in1 (i := 13) rfl rfl, by decide +kernel, by decide +kernel, by decide +kernel, Or.inl ⟨rfl, m_in6 (i := 216) rfl rfl⟩⟩
set_option maxRecDepth 100000 in
theorem m_ok_288 : m_okM 288 := ⟨m_in6 (i := 213) rfl rfl, by decide +kernel, ⟨by decide +kernel, by decide +kernel⟩, by decide +kernel, m_in1 (i := 13) rfl rfl, by decide +kernel, by decide +kernel, by decide +kernel, Or.inl ⟨rfl, m_in6 (i := 212) rfl rfl⟩⟩
set_option maxRecDepth 100000 in
theorem m_ok_289 : m_okM 289 := ⟨m_in6 (i := 209) rfl rfl, by decide +kernel, ⟨by decide +kernel, by decide +kernel⟩, by decide +kernel, m_in1 (i := 13) rfl rfl, by decide +kernel, by decide +kernel, by decide +kernel, Or.inl ⟨rfl, m_in6 (i := 208) rfl rfl⟩⟩
set_option maxRecDepth 100000 in
theorem m_ok_290 : m_okM 290 := ⟨m_in6 (i := 206) rfl rfl, by decide +kernel, ⟨by decide +kernel, by decide +kernel⟩, by decide +kernel, m_in1 (i := 13) rfl rfl, by decide +kernel, by decide +kernel, by decide +kernel, Or.inr (Or.inl ⟨rfl, m_in6 (i := 205) rfl rfl, m_inP (i := 49) rfl rfl, Or.inr ⟨by decide +kernel, (RX12, TX12, 36), (by rw [show m_ci 290 = 11 by decide +kernel]; rfl), rfl⟩⟩)⟩
set_option maxRecDepth 100000 in
theorem m_ok_291 : m_okM 291 := ⟨m_in2 (i := 119) rfl rfl, by decide +kernel, ⟨by decide +kernel, by decide +kernel⟩, by decide +kernel, m_in1 (i := 1) rfl rfl, by decide +kernel, by decide +kernel, by decide +kernel, Or.inr (Or.inl ⟨rfl, m_in2 (i := 117) rfl rfl, m_in2 (i := 118) rfl rfl, Or.inr ⟨by decide +kernel, (RX11, TX11, 13), (by rw [show m_ci 291 = 10 by decide +kernel]; rfl), rfl⟩⟩)⟩
set_option maxRecDepth 100000 in
theorem m_ok_292 : m_okM 292 := ⟨m_in3 (i := 140) rfl rfl, by decide +kernel, ⟨by decide +kernel, by decide +kernel⟩, by decide +kernel, m_in1 (i := 7) rfl rfl, by decide +kernel, by decide +kernel, by decide +kernel, Or.inr (Or.inl ⟨rfl, m_in3 (i := 138) rfl rfl, m_in3 (i := 139) rfl rfl, Or.inr ⟨by decide +kernel, (RX5, TX5, 7), (by rw [show m_ci 292 = 5 by decide +kernel]; rfl), rfl⟩⟩)⟩
set_option maxRecDepth 100000 in
theorem m_ok_293 : m_okM 293 := ⟨m_in2 (i := 123) rfl rfl, by decide +kernel, ⟨by decide +kernel, by decide +kernel⟩, by decide +kernel, m_in1 (i := 8) rfl rfl, by decide +kernel, by decide +kernel, by decide +kernel, Or.inr (Or.inl ⟨rfl, m_in2 (i := 121) rfl rfl, m_in2 (i := 122) rfl rfl, Or.inr ⟨by decide +kernel, (RX3, TX3, 10), (by rw [show m_ci 293 = 3 by decide +kernel]; rfl), rfl⟩⟩)⟩
set_option maxRecDepth 100000 in
theorem m_ok_294 : m_okM 294 := ⟨m_in3 (i := 31) rfl rfl, by decide +kernel, ⟨by decide +kernel, by decide +kernel⟩, by decide +kernel, m_in1 (i := 8) rfl rfl, by decide +kernel, by decide +kernel, by decide +kernel, Or.inr (Or.inl ⟨rfl, m_in3 (i := 30) rfl rfl, m_inP (i := 5) rfl rfl, Or.inr ⟨by decide +kernel, (RX3, TX3, 10), (by rw [show m_ci 294 = 3 by decide +kernel]; rfl), rfl⟩⟩)⟩
set_option maxRecDepth 100000 in
theorem m_ok_295 : m_okM 295 := ⟨m_in3 (i := 136) rfl rfl, by decide +kernel, ⟨by decide +kernel, by decide +kernel⟩, by decide +kernel, m_in1 (i := 7) rfl rfl, by decide +kernel, by decide +kernel, by decide +kernel, Or.inr (Or.inl ⟨rfl, m_in3 (i := 134) rfl rfl, m_in3 (i := 135) rfl rfl, Or.inr ⟨by decide +kernel, (RX5, TX5, 7), (by rw [show m_ci 295 = 5 by decide +kernel]; rfl), rfl⟩⟩)⟩
set_option maxRecDepth 100000 in
theorem m_ok_296 : m_okM 296 := ⟨m_in3 (i := 130) rfl rfl, by decide +kernel, ⟨by decide +kernel, by decide +kernel⟩, by decide +kernel, m_in1 (i := 8) rfl rfl, by decide +kernel, by decide +kernel, by decide +kernel, Or.inr (Or.inl ⟨rfl, m_in3 (i := 129) rfl rfl, m_inP (i := 19) rfl rfl, Or.inr ⟨by decide +kernel, (RX3, TX3, 10), (by rw [show m_ci 296 = 3 by decide +kernel]; rfl), rfl⟩⟩)⟩
set_option maxRecDepth 100000 in
theorem m_ok_297 : m_okM 297 := ⟨m_in3 (i := 53) rfl rfl, by decide +kernel, ⟨by decide +kernel, by decide +kernel⟩, by decide +kernel, m_in1 (i := 8) rfl rfl, by decide +kernel, by decide +kernel, by decide +kernel, Or.inr (Or.inl ⟨rfl, m_in3 (i := 52) rfl rfl, m_inP (i := 7) rfl rfl, Or.inr ⟨by decide +kernel, (RX3, TX3, 10), (by rw [show m_ci 297 = 3 by decide +kernel]; rfl), rfl⟩⟩)⟩
set_option maxRecDepth 100000 in
theorem m_ok_298 : m_okM 298 := ⟨m_in3 (i := 57) rfl rfl, by decide +kernel, ⟨by decide +kernel, by decide +kernel⟩, by decide +kernel, m_in1 (i := 8) rfl rfl, by decide +kernel, by decide +kernel, by decide +kernel, Or.inr (Or.inl ⟨rfl, m_in3 (i := 56) rfl rfl, m_inP (i := 8) rfl rfl, Or.inr ⟨by decide +kernel, (RX3, TX3, 10), (by rw [show m_ci 298 = 3 by decide +kernel]; rfl), rfl⟩⟩)⟩
set_option maxRecDepth 100000 in
theorem m_ok_299 : m_okM 299 := ⟨m_in3 (i := 61) rfl rfl, by decide +kernel, ⟨by decide +kernel, by decide +kernel⟩, by decide +kernel, m_in1 (i := 8) rfl rfl, by decide +kernel, by decide +kernel, by decide +kernel, Or.inr (Or.inl ⟨rfl, m_in3 (i := 60) rfl rfl, m_inP (i := 9) rfl rfl, Or.inr ⟨by decide +kernel, (RX3, TX3, 10), (by rw [show m_ci 299 = 3 by decide +kernel]; rfl), rfl⟩⟩)⟩
set_option maxRecDepth 100000 in
theorem m_ok_300 : m_okM 300 := ⟨m_in3 (i := 119) rfl rfl, by decide +kernel, ⟨by decide +kernel, by decide +kernel⟩, by decide +kernel, m_in1 (i := 8) rfl rfl, by decide +kernel, by decide +kernel, by decide +kernel, Or.inr (Or.inl ⟨rfl, m_in3 (i := 118) rfl rfl, m_inP (i := 18) rfl rfl, Or.inr ⟨by decide +kernel, (RX3, TX3, 10), (by rw [show m_ci 300 = 3 by decide +kernel]; rfl), rfl⟩⟩)⟩
set_option maxRecDepth 100000 in
theorem m_ok_301 : m_okM 301 := ⟨m_in3 (i := 125) rfl rfl, by decide +kernel, ⟨by decide +kernel, by decide +kernel⟩, by decide +kernel, m_in1 (i := 14) rfl rfl, by decide +kernel, by decide +kernel, by decide +kernel, Or.inl ⟨rfl, m_in3 (i := 124) rfl rfl⟩⟩
set_option maxRecDepth 100000 in
theorem m_ok_302 : m_okM 302 := ⟨m_in3 (i := 122) rfl rfl, by decide +kernel, ⟨by decide +kernel, by decide +kernel⟩, by decide +kernel, m_in1 (i := 14) rfl rfl, by decide +kernel, by decide +kernel, by decide +kernel, Or.inl ⟨rfl, m_in3 (i := 121) rfl rfl⟩⟩
set_option maxRecDepth 100000 in
theorem m_ok_303 : m_okM 303 := ⟨m_in3 (i := 91) rfl rfl, by decide +kernel, ⟨by decide +kernel, by decide +kernel⟩, by decide +kernel, m_in1 (i := 8) rfl rfl, by decide +kernel, by decide +kernel, by decide +kernel, Or.inr (Or.inl ⟨rfl, m_in3 (i := 90) rfl rfl, m_inP (i := 14) rfl rfl, Or.inr ⟨by decide +kernel, (RX3, TX3, 10), (by rw [show m_ci 303 = 3 by decide +kernel]; rfl), rfl⟩⟩)⟩
set_option maxRecDepth 100000 in
theorem m_ok_304 : m_okM 304 := ⟨m_in3 (i := 115) rfl rfl, by decide +kernel, ⟨by decide +kernel, by decide +kernel⟩, by decide +kernel, m_in1 (i := 7) rfl rfl, by decide +kernel, by decide +kernel, by decide +kernel, Or.inr (Or.inl ⟨rfl, m_in3 (i := 113) rfl rfl, m_in3 (i := 114) rfl rfl, Or.inr ⟨by decide +kernel, (RX5, TX5, 7), (by rw [show m_ci 304 = 5 by decide +kernel]; rfl), rfl⟩⟩)⟩
set_option maxRecDepth 100000 in
theorem m_ok_305 : m_okM 305 := ⟨m_in3 (i := 110) rfl rfl, by decide +kernel, ⟨by decide +kernel, by decide +kernel⟩, by decide +kernel, m_in1 (i := 7) rfl rfl, by decide +kernel, by decide +kernel, by decide +kernel, Or.inr (Or.inl ⟨rfl, m_in3 (i := 108) rfl rfl, m_in3 (i := 109) rfl rfl, Or.inr ⟨by decide +kernel, (RX5, TX5, 7), (by rw [show m_ci 305 = 5 by decide +kernel]; rfl), rfl⟩⟩)⟩
set_option maxRecDepth 100000 in
theorem m_ok_306 : m_okM 306 := ⟨m_in3 (i := 95) rfl rfl, by decide +kernel, ⟨by decide +kernel, by decide +kernel⟩, by decide +kernel, m_in1 (i := 8) rfl rfl, by decide +kernel, by decide +kernel, by decide +kernel, Or.inr (Or.inl ⟨rfl, m_in3 (i := 94) rfl rfl, m_inP (i := 15) rfl rfl, Or.inr ⟨by decide +kernel, (RX3, TX3, 10), (by rw [show m_ci 306 = 3 by decide +kernel]; rfl), rfl⟩⟩)⟩
set_option maxRecDepth 100000 in
theorem m_ok_307 : m_okM 307 := ⟨m_in3 (i := 99) rfl rfl, by decide +kernel, ⟨by decide +kernel, by decide +kernel⟩, by decide +kernel, m_in1 (i := 8) rfl rfl, by decide +kernel, by decide +kernel, by decide +kernel, Or.inr (Or.inl ⟨rfl, m_in3 (i := 98) rfl rfl, m_inP (i := 16) rfl rfl, Or.inr ⟨by decide +kernel, (RX3, TX3, 10), (by rw [show m_ci 307 = 3 by decide +kernel]; rfl), rfl⟩⟩)⟩
set_option maxRecDepth 100000 in
theorem m_ok_308 : m_okM 308 := ⟨m_in3 (i := 103) rfl rfl, by decide +kernel, ⟨by decide +kernel, by decide +kernel⟩, by decide +kernel, m_in1 (i := 8) rfl rfl, by decide +kernel, by decide +kernel, by decide +kernel, Or.inr (Or.inl ⟨rfl, m_in3 (i := 102) rfl rfl, m_inP (i := 17) rfl rfl, Or.inr ⟨by decide +kernel, (RX3, TX3, 10), (by rw [show m_ci 308 = 3 by decide +kernel]; rfl), rfl⟩⟩)⟩
set_option maxRecDepth 100000 in
theorem m_ok_309 : m_okM 309 := ⟨m_in3 (i := 106) rfl rfl, by decide +kernel, ⟨by decide +kernel, by decide +kernel⟩, by decide +kernel, m_in1 (i := 14) rfl rfl, by decide +kernel, by decide +kernel, by decide +kernel, Or.inl ⟨rfl, m_in3 (i := 105) rfl rfl⟩⟩
set_option maxRecDepth 100000 in
theorem m_ok_310 : m_okM 310 := ⟨m_in3 (i := 82) rfl rfl, by decide +kernel, ⟨by decide +kernel, by decide +kernel⟩, by decide +kernel, m_in1 (i := 8) rfl rfl, by decide +kernel, by decide +kernel, by decide +kernel, Or.inr (Or.inl ⟨rfl, m_in3 (i := 81) rfl rfl, m_inP (i := 13) rfl rfl, Or.inr ⟨by decide +kernel, (RX3, TX3, 10), (by rw [show m_ci 310 = 3 by decide +kernel]; rfl), rfl⟩⟩)⟩
set_option maxRecDepth 100000 in
theorem m_ok_311 : m_okM 311 := ⟨m_in3 (i := 86) rfl rfl, by decide +kernel, ⟨by decide +kernel, by decide +kernel⟩, by decide +kernel, m_in1 (i := 7) rfl rfl, by decide +kernel, by decide +kernel, by decide +kernel, Or.inr (Or.inl ⟨rfl, m_in3 (i := 84) rfl rfl, m_in3 (i := 85) rfl rfl, Or.inr ⟨by decide +kernel, (RX5, TX5, 7), (by rw [show m_ci 311 = 5 by decide +kernel]; rfl), rfl⟩⟩)⟩
set_option maxRecDepth 100000 in
theorem m_ok_312 : m_okM 312 := ⟨m_in3 (i := 78) rfl rfl, by decide +kernel, ⟨by decide +kernel, by decide +kernel⟩, by decide +kernel, m_in1 (i := 8) rfl rfl, by decide +kernel, by decide +kernel, by decide +kernel, Or.inr (Or.inl ⟨rfl, m_in3 (i := 77) rfl rfl, m_inP (i := 12) rfl rfl, Or.inr ⟨by decide +kernel, (RX3, TX3, 10), (by rw [show m_ci 312 = 3 by decide +kernel]; rfl), rfl⟩⟩)⟩
set_option maxRecDepth 100000 in
theorem m_ok_313 : m_okM 313 := ⟨m_in3 (i := 74) rfl rfl, by decide +kernel, ⟨by decide +kernel, by decide +kernel⟩, by decide +kernel, m_in1 (i := 8) rfl rfl, by decide +kernel, by decide +kernel, by decide +kernel, Or.inr (Or.inl ⟨rfl, m_in3 (i := 73) rfl rfl, m_inP (i := 11) rfl rfl, Or.inr ⟨by decide +kernel, (RX3, TX3, 10), (by rw [show m_ci 313 = 3 by decide +kernel]; rfl), rfl⟩⟩)⟩
set_option maxRecDepth 100000 in
theorem m_ok_314 : m_okM 314 := ⟨m_in3 (i := 65) rfl rfl, by decide +kernel, ⟨by decide +kernel, by decide +kernel⟩, by decide +kernel, m_in1 (i := 8) rfl rfl, by decide +kernel, by decide +kernel, by decide +kernel, Or.inr (Or.inl ⟨rfl, m_in3 (i := 64) rfl rfl, m_inP (i := 10) rfl rfl, Or.inr ⟨by decide +kernel, (RX3, TX3, 10), (by rw [show m_ci 314 = 3 by decide +kernel]; rfl), rfl⟩⟩)⟩
set_option maxRecDepth 100000 in
theorem m_ok_315 : m_okM 315 := ⟨m_in3 (i := 70) rfl rfl, by decide +kernel, ⟨by decide +kernel, by decide +kernel⟩, by decide +kernel, m_in1 (i := 7) rfl rfl, by decide +kernel, by decide +kernel, by decide +kernel, Or.inr (Or.inl ⟨rfl, m_in3 (i := 68) rfl rfl, m_in3 (i := 69) rfl rfl, Or.inr ⟨by decide +kernel, (RX5, TX5, 7), (by rw [show m_ci 315 = 5 by decide +kernel]; rfl), rfl⟩⟩)⟩
set_option maxRecDepth 100000 in
theorem m_ok_316 : m_okM 316 := ⟨m_in3 (i := 49) rfl rfl, by decide +kernel, ⟨by decide +kernel, by decide +kernel⟩, by decide +kernel, m_in1 (i := 7) rfl rfl, by decide +kernel, by decide +kernel, by decide +kernel, Or.inr (Or.inl ⟨rfl, m_in3 (i := 47) rfl rfl, m_in3 (i := 48) rfl rfl, Or.inr ⟨by decide +kernel, (RX5, TX5, 7), (by rw [show m_ci 316 = 5 by decide +kernel]; rfl), rfl⟩⟩)⟩
set_option maxRecDepth 100000 in
theorem m_ok_317 : m_okM 317 := ⟨m_in3 (i := 45) rfl rfl, by decide +kernel, ⟨by decide +kernel, by decide +kernel⟩, by decide +kernel, m_in1 (i := 7) rfl rfl, by decide +kernel, by decide +kernel, by decide +kernel, Or.inr (Or.inl ⟨rfl, m_in3 (i := 43) rfl rfl, m_in3 (i := 44) rfl rfl, Or.inr ⟨by decide +kernel, (RX5, TX5, 7), (by rw [show m_ci 317 = 5 by decide +kernel]; rfl), rfl⟩⟩)⟩
set_option maxRecDepth 100000 in
theorem m_ok_318 : m_okM 318 := ⟨m_in3 (i := 41) rfl rfl, by decide +kernel, ⟨by decide +kernel, by decide +kernel⟩, by decide +kernel, m_in1 (i := 14) rfl rfl, by decide +kernel, by decide +kernel, by decide +kernel, Or.inl ⟨rfl, m_in3 (i := 40) rfl rfl⟩⟩
set_option maxRecDepth 100000 in
theorem m_ok_319 : m_okM 319 := ⟨m_in3 (i := 38) rfl rfl, by decide +kernel, ⟨by decide +kernel, by decide +kernel⟩, by decide +kernel, m_in1 (i := 8) rfl rfl, by decide +kernel, by decide +kernel, by decide +kernel, Or.inr (Or.inl ⟨rfl, m_in3 (i := 37) rfl rfl, m_inP (i := 6) rfl rfl, Or.inr ⟨by decide +kernel, (RX3, TX3, 10), (by rw [show m_ci 319 = 3 by decide +kernel]; rfl), rfl⟩⟩)⟩
set_option maxRecDepth 100000 in
theorem m_ok_320 : m_okM 320 := ⟨m_in3 (i := 34) rfl rfl, by decide +kernel, ⟨by decide +kernel, by decide +kernel⟩, by decide +kernel, m_in1 (i := 14) rfl rfl, by decide +kernel, by decide +kernel, by decide +kernel, Or.inl ⟨rfl, m_in3 (i := 33) rfl rfl⟩⟩
set_option maxRecDepth 100000 in
theorem m_ok_321 : m_okM 321 := ⟨m_in2 (i := 131) rfl rfl, by decide +kernel, ⟨by decide +kernel, by decide +kernel⟩, by decide +kernel, m_in1 (i := 8) rfl rfl, by decide +kernel, by decide +kernel, by decide +kernel, Or.inr (Or.inl ⟨rfl, m_in2 (i := 130) rfl rfl, m_inP (i := 0) rfl rfl, Or.inr ⟨by decide +kernel, (RX3, TX3, 10), (by rw [show m_ci 321 = 3 by decide +kernel]; rfl), rfl⟩⟩)⟩
set_option maxRecDepth 100000 in
theorem m_ok_322 : m_okM 322 := ⟨m_in2 (i := 208) rfl rfl, by decide +kernel, ⟨by decide +kernel, by decide +kernel⟩, by decide +kernel, m_in1 (i := 8) rfl rfl, by decide +kernel, by decide +kernel, by decide +kernel, Or.inr (Or.inl ⟨rfl, m_in2 (i := 207) rfl rfl, m_inP (i := 4) rfl rfl, Or.inr ⟨by decide +kernel, (RX3, TX3, 10), (by rw [show m_ci 322 = 3 by decide +kernel]; rfl), rfl⟩⟩)⟩
set_option maxRecDepth 100000 in
theorem m_ok_323 : m_okM 323 := ⟨m_in2 (i := 211) rfl rfl, by decide +kernel, ⟨by decide +kernel, by decide +kernel⟩, by decide +kernel, m_in1 (i := 14) rfl rfl, by decide +kernel, by decide +kernel, by decide +kernel, Or.inl ⟨rfl, m_in2 (i := 210) rfl rfl⟩⟩
set_option maxRecDepth 100000 in
theorem m_ok_324 : m_okM 324 := ⟨m_in2 (i := 216) rfl rfl, by decide +kernel, ⟨by decide +kernel, by decide +kernel⟩, by decide +kernel, m_in1 (i := 15) rfl rfl, by decide +kernel, by decide +kernel, by decide +kernel, Or.inr (Or.inl ⟨rfl, m_in2 (i := 214) rfl rfl, m_in2 (i := 215) rfl rfl, Or.inl ⟨by decide +kernel, rfl⟩⟩)⟩
set_option maxRecDepth 100000 in
theorem m_ok_325 : m_okM 325 := ⟨m_in2 (i := 220) rfl rfl, by decide +kernel, ⟨by decide +kernel, by decide +kernel⟩, by decide +kernel, m_in1 (i := 15) rfl rfl, by decide +kernel, by decide +kernel, by decide +kernel, Or.inr (Or.inl ⟨rfl, m_in2 (i := 218) rfl rfl, m_in2 (i := 219) rfl rfl, Or.inl ⟨by decide +kernel, rfl⟩⟩)⟩
set_option maxRecDepth 100000 in
theorem m_ok_326 : m_okM 326 := ⟨m_in2 (i := 224) rfl rfl, by decide +kernel, ⟨by decide +kernel, by decide +kernel⟩, by decide +kernel, m_in1 (i := 16) rfl rfl, by decide +kernel, by decide +kernel, by decide +kernel, Or.inl ⟨rfl, m_in2 (i := 223) rfl rfl⟩⟩
set_option maxRecDepth 100000 in
theorem m_ok_327 : m_okM 327 := ⟨m_in2 (i := 232) rfl rfl, by decide +kernel, ⟨by decide +kernel, by decide +kernel⟩, by decide +kernel, m_in1 (i := 16) rfl rfl, by decide +kernel, by decide +kernel, by decide +kernel, Or.inl ⟨rfl, m_in2 (i := 231) rfl rfl⟩⟩
set_option maxRecDepth 100000 in
theorem m_ok_328 : m_okM 328 := ⟨m_in2 (i := 227) rfl rfl, by decide +kernel, ⟨by decide +kernel, by decide +kernel⟩, by decide +kernel, m_in1 (i := 16) rfl rfl, by decide +kernel, by decide +kernel, by decide +kernel, Or.inl ⟨rfl, m_in2 (i := 226) rfl rfl⟩⟩
set_option maxRecDepth 100000 in
theorem m_ok_329 : m_okM 329 := ⟨m_in2 (i := 201) rfl rfl, by decide +kernel, ⟨by decide +kernel, by decide +kernel⟩, by decide +kernel, m_in1 (i := 8) rfl rfl, by decide +kernel, by decide +kernel, by decide +kernel, Or.inr (Or.inl ⟨rfl, m_in2 (i := 200) rfl rfl, m_inP (i := 3) rfl rfl, Or.inr ⟨by decide +kernel, (RX3, TX3, 10), (by rw [show m_ci 329 = 3 by decide +kernel]; rfl), rfl⟩⟩)⟩
set_option maxRecDepth 100000 in
theorem m_ok_330 : m_okM 330 := ⟨m_in2 (i := 204) rfl rfl, by decide +kernel, ⟨by decide +kernel, by decide +kernel⟩, by decide +kernel, m_in1 (i := 6) rfl rfl, by decide +kernel, by decide +kernel, by decide +kernel, Or.inl ⟨rfl, m_in2 (i := 203) rfl rfl⟩⟩
set_option maxRecDepth 100000 in
theorem m_ok_331 : m_okM 331 := ⟨m_in2 (i := 197) rfl rfl, by decide +kernel, ⟨by decide +kernel, by decide +kernel⟩, by decide +kernel, m_in1 (i := 8) rfl rfl, by decide +kernel, by decide +kernel, by decide +kernel, Or.inl ⟨rfl, m_in2 (i := 196) rfl rfl⟩⟩
set_option maxRecDepth 100000 in
theorem m_ok_332 : m_okM 332 := ⟨m_in2 (i := 142) rfl rfl, by decide +kernel, ⟨by decide +kernel, by decide +kernel⟩, by decide +kernel, m_in1 (i := 8) rfl rfl, by decide +kernel, by decide +kernel, by decide +kernel, Or.inr (Or.inl ⟨rfl, m_in2 (i := 141) rfl rfl, m_inP (i := 2) rfl rfl, Or.inr ⟨by decide +kernel, (RX3, TX3, 10), (by rw [show m_ci 332 = 3 by decide +kernel]; rfl), rfl⟩⟩)⟩
set_option maxRecDepth 100000 in
theorem m_ok_333 : m_okM 333 := ⟨m_in2 (i := 145) rfl rfl, by decide +kernel, ⟨by decide +kernel, by decide +kernel⟩, by decide +kernel, m_in1 (i := 14) rfl rfl, by decide +kernel, by decide +kernel, by decide +kernel, Or.inl ⟨rfl, m_in2 (i := 144) rfl rfl⟩⟩
set_option maxRecDepth 100000 in
theorem m_ok_334 : m_okM 334 := ⟨m_in2 (i := 160) rfl rfl, by decide +kernel, ⟨by decide +kernel, by decide +kernel⟩, by decide +kernel, m_in1 (i := 15) rfl rfl, by decide +kernel, by decide +kernel, by decide +kernel, Or.inr (Or.inl ⟨rfl, m_in2 (i := 158) rfl rfl, m_in2 (i := 159) rfl rfl, Or.inl ⟨by decide +kernel, rfl⟩⟩)⟩
set_option maxRecDepth 100000 in
theorem m_ok_335 : m_okM 335 := ⟨m_in2 (i := 167) rfl rfl, by decide +kernel, ⟨by decide +kernel, by decide +kernel⟩, by decide +kernel, m_in1 (i := 16) rfl rfl, by decide +kernel, by decide +kernel, by decide +kernel, Or.inl ⟨rfl, m_in2 (i := 166) rfl rfl⟩⟩
set_option maxRecDepth 100000 in
theorem m_ok_336 : m_okM 336 := ⟨m_in2 (i := 170) rfl rfl, by decide +kernel, ⟨by decide +kernel, by decide +kernel⟩, by decide +kernel, m_in1 (i := 15) rfl rfl, by decide +kernel, by decide +kernel, by decide +kernel, Or.inl ⟨rfl, m_in2 (i := 169) rfl rfl⟩⟩
set_option maxRecDepth 100000 in
theorem m_ok_337 : m_okM 337 := ⟨m_in2 (i := 175) rfl rfl, by decide +kernel, ⟨by decide +kernel, by decide +kernel⟩, by decide +kernel, m_in1 (i := 17) rfl rfl, by decide +kernel, by decide +kernel, by decide +kernel, Or.inl ⟨rfl, m_in2 (i := 174) rfl rfl⟩⟩
set_option maxRecDepth 100000 in
theorem m_ok_338 : m_okM 338 := ⟨m_in2 (i := 164) rfl rfl, by decide +kernel, ⟨by decide +kernel, by decide +kernel⟩, by decide +kernel, m_in1 (i := 15) rfl rfl, by decide +kernel, by decide +kernel, by decide +kernel, Or.inr (Or.inl ⟨rfl, m_in2 (i := 162) rfl rfl, m_in2 (i := 163) rfl rfl, Or.inl ⟨by decide +kernel, rfl⟩⟩)⟩
set_option maxRecDepth 100000 in
theorem m_ok_339 : m_okM 339 := ⟨m_in2 (i := 150) rfl rfl, by decide +kernel, ⟨by decide +kernel, by decide +kernel⟩, by decide +kernel, m_in1 (i := 15) rfl rfl, by decide +kernel, by decide +kernel, by decide +kernel, Or.inr (Or.inl ⟨rfl, m_in2 (i := 148) rfl rfl, m_in2 (i := 149) rfl rfl, Or.inl ⟨by decide +kernel, rfl⟩⟩)⟩
set_option maxRecDepth 100000 in
theorem m_ok_340 : m_okM 340 := ⟨m_in2 (i := 154) rfl rfl, by decide +kernel, ⟨by decide +kernel, by decide +kernel⟩, by decide +kernel, m_in1 (i := 15) rfl rfl, by decide +kernel, by decide +kernel, by decide +kernel, Or.inr (Or.inl ⟨rfl, m_in2 (i := 152) rfl rfl, m_in2 (i := 153) rfl rfl, Or.inl ⟨by decide +kernel, rfl⟩⟩)⟩
set_option maxRecDepth 100000 in
theorem m_ok_341 : m_okM 341 := ⟨m_in2 (i := 138) rfl rfl, by decide +kernel, ⟨by decide +kernel, by decide +kernel⟩, by decide +kernel, m_in1 (i := 8) rfl rfl, by decide +kernel, by decide +kernel, by decide +kernel, Or.inl ⟨rfl, m_in2 (i := 137) rfl rfl⟩⟩
set_option maxRecDepth 100000 in
theorem m_ok_342 : m_okM 342 := ⟨m_in2 (i := 135) rfl rfl, by decide +kernel, ⟨by decide +kernel, by decide +kernel⟩, by decide +kernel, m_in1 (i := 8) rfl rfl, by decide +kernel, by decide +kernel, by decide +kernel, Or.inr (Or.inl ⟨rfl, m_in2 (i := 134) rfl rfl, m_inP (i := 1) rfl rfl, Or.inr ⟨by decide +kernel, (RX3, TX3, 10), (by rw [show m_ci 342 = 3 by decide +kernel]; rfl), rfl⟩⟩)⟩
set_option maxRecDepth 100000 in
theorem m_ok_343 : m_okM 343 := ⟨m_in2 (i := 127) rfl rfl, by decide +kernel, ⟨by decide +kernel, by decide +kernel⟩, by decide +kernel, m_in1 (i := 7) rfl rfl, by decide +kernel, by decide +kernel, by decide +kernel, Or.inr (Or.inl ⟨rfl, m_in2 (i := 125) rfl rfl, m_in2 (i := 126) rfl rfl, Or.inr ⟨by decide +kernel, (RX5, TX5, 7), (by rw [show m_ci 343 = 5 by decide +kernel]; rfl), rfl⟩⟩)⟩
set_option maxRecDepth 100000 in
theorem m_ok_344 : m_okM 344 := ⟨m_in6 (i := 190) rfl rfl, by decide +kernel, ⟨by decide +kernel, by decide +kernel⟩, by decide +kernel, m_in1 (i := 13) rfl rfl, by decide +kernel, by decide +kernel, by decide +kernel, Or.inr (Or.inl ⟨rfl, m_in6 (i := 188) rfl rfl, m_in6 (i := 189) rfl rfl, Or.inr ⟨by decide +kernel, (RX12, TX12, 36), (by rw [show m_ci 344 = 11 by decide +kernel]; rfl), rfl⟩⟩)⟩
set_option maxRecDepth 100000 in
theorem m_ok_345 : m_okM 345 := ⟨m_in2 (i := 114) rfl rfl, by decide +kernel, ⟨by decide +kernel, by decide +kernel⟩, by decide +kernel, m_in1 (i := 1) rfl rfl, by decide +kernel, by decide +kernel, by decide +kernel, Or.inr (Or.inl ⟨rfl, m_in2 (i := 112) rfl rfl, m_in2 (i := 113) rfl rfl, Or.inr ⟨by decide +kernel, (RX11, TX11, 13), (by rw [show m_ci 345 = 10 by decide +kernel]; rfl), rfl⟩⟩)⟩
set_option maxRecDepth 100000 in
theorem m_ok_346 : m_okM 346 := ⟨m_in6 (i := 182) rfl rfl, by decide +kernel, ⟨by decide +kernel, by decide +kernel⟩, by decide +kernel, m_in1 (i := 13) rfl rfl, by decide +kernel, by decide +kernel, by decide +kernel, Or.inr (Or.inl ⟨rfl, m_in6 (i := 180) rfl rfl, m_in6 (i := 181) rfl rfl, Or.inr ⟨by decide +kernel, (RX12, TX12, 36), (by rw [show m_ci 346 = 11 by decide +kernel]; rfl), rfl⟩⟩)⟩
set_option maxRecDepth 100000 in
theorem m_ok_347 : m_okM 347 := ⟨m_in6 (i := 186) rfl rfl, by decide +kernel, ⟨by decide +kernel, by decide +kernel⟩, by decide +kernel, m_in1 (i := 13) rfl rfl, by decide +kernel, by decide +kernel, by decide +kernel, Or.inr (Or.inl ⟨rfl, m_in6 (i := 185) rfl rfl, m_inP (i := 46) rfl rfl, Or.inr ⟨by decide +kernel, (RX12, TX12, 36), (by rw [show m_ci 347 = 11 by decide +kernel]; rfl), rfl⟩⟩)⟩
set_option maxRecDepth 100000 in
theorem m_ok_348 : m_okM 348 := ⟨m_in2 (i := 102) rfl rfl, by decide +kernel, ⟨by decide +kernel, by decide +kernel⟩, by decide +kernel, m_in1 (i := 1) rfl rfl, by decide +kernel, by decide +kernel, by decide +kernel, Or.inr (Or.inl ⟨rfl, m_in2 (i := 100) rfl rfl, m_in2 (i := 101) rfl rfl, Or.inr ⟨by decide +kernel, (RX11, TX11, 13), (by rw [show m_ci 348 = 10 by decide +kernel]; rfl), rfl⟩⟩)⟩
set_option maxRecDepth 100000 in
theorem m_ok_349 : m_okM 349 := ⟨m_in2 (i := 110) rfl rfl, by decide +kernel, ⟨by decide +kernel, by decide +kernel⟩, by decide +kernel, m_in1 (i := 8) rfl rfl, by decide +kernel, by decide +kernel, by decide +kernel, Or.inr (Or.inl ⟨rfl, m_in2 (i := 108) rfl rfl, m_in2 (i := 109) rfl rfl, Or.inr ⟨by decide +kernel, (RX3, TX3, 10), (by rw [show m_ci 349 = 3 by decide +kernel]; rfl), rfl⟩⟩)⟩
set_option maxRecDepth 100000 in
theorem m_ok_350 : m_okM 350 := ⟨m_in2 (i := 106) rfl rfl, by decide +kernel, ⟨by decide +kernel, by decide +kernel⟩, by decide +kernel, m_in1 (i := 8) rfl rfl, by decide +kernel, by decide +kernel, by decide +kernel, Or.inr (Or.inl ⟨rfl, m_in2 (i := 104) rfl rfl, m_in2 (i := 105) rfl rfl, Or.inr ⟨by decide +kernel, (RX3, TX3, 10), (by rw [show m_ci 350 = 3 by decide +kernel]; rfl), rfl⟩⟩)⟩
set_option maxRecDepth 100000 in
theorem m_ok_351 : m_okM 351 := ⟨m_in6 (i := 175) rfl rfl, by decide +kernel, ⟨by decide +kernel, by decide +kernel⟩, by decide +kernel, m_in1 (i := 13) rfl rfl, by decide +kernel, by decide +kernel, by decide +kernel, Or.inr (Or.inl ⟨rfl, m_in6 (i := 173) rfl rfl, m_in6 (i := 174) rfl rfl, Or.inr ⟨by decide +kernel, (RX12, TX12, 36), (by rw [show m_ci 351 = 11 by decide +kernel]; rfl), rfl⟩⟩)⟩
set_option maxRecDepth 100000 in
theorem m_ok_352 : m_okM 352 := ⟨m_in6 (i := 178) rfl rfl, by decide +kernel, ⟨by decide +kernel, by decide +kernel⟩, by decide +kernel, m_in1 (i := 13) rfl rfl, by decide +kernel, by decide +kernel, by decide +kernel, Or.inl ⟨rfl, m_in6 (i := 177) rfl rfl⟩⟩
set_option maxRecDepth 100000 in
theorem m_ok_353 : m_okM 353 := ⟨m_in2 (i := 87) rfl rfl, by decide +kernel, ⟨by decide +kernel, by decide +kernel⟩, by decide +kernel, m_in1 (i := 1) rfl rfl, by decide +kernel, by decide +kernel, by decide +kernel, Or.inr (Or.inl ⟨rfl, m_in2 (i := 85) rfl rfl, m_in2 (i := 86) rfl rfl, Or.inr ⟨by decide +kernel, (RX11, TX11, 13), (by rw [show m_ci 353 = 10 by decide +kernel]; rfl), rfl⟩⟩)⟩
set_option maxRecDepth 100000 in
theorem m_ok_354 : m_okM 354 := ⟨m_in2 (i := 91) rfl rfl, by decide +kernel, ⟨by decide +kernel, by decide +kernel⟩, by decide +kernel, m_in1 (i := 2) rfl rfl, by decide +kernel, by decide +kernel, by decide +kernel, Or.inr (Or.inl ⟨rfl, m_in2 (i := 89) rfl rfl, m_in2 (i := 90) rfl rfl, Or.inr ⟨by decide +kernel, (RX10, TX10, 1), (by rw [show m_ci 354 = 9 by decide +kernel]; rfl), rfl⟩⟩)⟩
set_option maxRecDepth 100000 in
theorem m_ok_355 : m_okM 355 := ⟨m_in2 (i := 98) rfl rfl, by decide +kernel, ⟨by decide +kernel, by decide +kernel⟩, by decide +kernel, m_in1 (i := 2) rfl rfl, by decide +kernel, by decide +kernel, by decide +kernel, Or.inr (Or.inl ⟨rfl, m_in2 (i := 96) rfl rfl, m_in2 (i := 97) rfl rfl, Or.inr ⟨by decide +kernel, (RX10, TX10, 1), (by rw [show m_ci 355 = 9 by decide +kernel]; rfl), rfl⟩⟩)⟩
set_option maxRecDepth 100000 in
theorem m_ok_356 : m_okM 356 := ⟨m_in2 (i := 94) rfl rfl, by decide +kernel, ⟨by decide +kernel, by decide +kernel⟩, by decide +kernel, m_in1 (i := 1) rfl rfl, by decide +kernel, by decide +kernel, by decide +kernel, Or.inl ⟨rfl, m_in2 (i := 93) rfl rfl⟩⟩
set_option maxRecDepth 100000 in
theorem m_ok_357 : m_okM 357 := ⟨m_in6 (i := 56) rfl rfl, by decide +kernel, ⟨by decide +kernel, by decide +kernel⟩, by decide +kernel, m_in1 (i := 13) rfl rfl, by decide +kernel, by decide +kernel, by decide +kernel, Or.inr (Or.inr ⟨rfl, m_in6 (i := 55) rfl rfl, rfl, rfl⟩)⟩
set_option maxRecDepth 100000 in
theorem m_ok_358 : m_okM 358 := ⟨m_in6 (i := 60) rfl rfl, by decide +kernel, ⟨by decide +kernel, by decide +kernel⟩, by decide +kernel, m_in1 (i := 13) rfl rfl, by decide +kernel, by decide +kernel, by decide +kernel, Or.inl ⟨rfl, m_in6 (i := 59) rfl rfl⟩⟩
set_option maxRecDepth 100000 in
theorem m_ok_359 : m_okM 359 := ⟨m_in1 (i := 26) rfl rfl, by decide +kernel, ⟨by decide +kernel, by decide +kernel⟩, by decide +kernel, m_in1 (i := 1) rfl rfl, by decide +kernel, by decide +kernel, by decide +kernel, Or.inr (Or.inr ⟨rfl, m_in1 (i := 25) rfl rfl, rfl, rfl⟩)⟩
set_option maxRecDepth 100000 in
theorem m_ok_360 : m_okM 360 := ⟨m_in2 (i := 17) rfl rfl, by decide +kernel, ⟨by decide +kernel, by decide +kernel⟩, by decide +kernel, m_in1 (i := 12) rfl rfl, by decide +kernel, by decide +kernel, by decide +kernel, Or.inr (Or.inr ⟨rfl, m_in2 (i := 16) rfl rfl, rfl, rfl⟩)⟩
set_option maxRecDepth 100000 in
theorem m_ok_361 : m_okM 361 := ⟨m_in1 (i := 238) rfl rfl, by decide +kernel, ⟨by decide +kernel, by decide +kernel⟩, by decide +kernel, m_in1 (i := 11) rfl rfl, by decide +kernel, by decide +kernel, by decide +kernel, Or.inr (Or.inr ⟨rfl, m_in1 (i := 237) rfl rfl, rfl, rfl⟩)⟩
set_option maxRecDepth 100000 in
theorem m_ok_362 : m_okM 362 := ⟨m_in1 (i := 225) rfl rfl, by decide +kernel, ⟨by decide +kernel, by decide +kernel⟩, by decide +kernel, m_in1 (i := 10) rfl rfl, by decide +kernel, by decide +kernel, by decide +kernel, Or.inr (Or.inr ⟨rfl, m_in1 (i := 224) rfl rfl, rfl, rfl⟩)⟩
set_option maxRecDepth 100000 in
theorem m_ok_363 : m_okM 363 := ⟨m_in1 (i := 212) rfl rfl, by decide +kernel, ⟨by decide +kernel, by decide +kernel⟩, by decide +kernel, m_in1 (i := 9) rfl rfl, by decide +kernel, by decide +kernel, by decide +kernel, Or.inr (Or.inr ⟨rfl, m_in1 (i := 211) rfl rfl, rfl, rfl⟩)⟩
set_option maxRecDepth 100000 in
theorem m_ok_364 : m_okM 364 := ⟨m_in1 (i := 169) rfl rfl, by decide +kernel, ⟨by decide +kernel, by decide +kernel⟩, by decide +kernel, m_in1 (i := 8) rfl rfl, by decide +kernel, by decide +kernel, by decide +kernel, Or.inr (Or.inr ⟨rfl, m_in1 (i := 168) rfl rfl, rfl, rfl⟩)⟩
set_option maxRecDepth 100000 in
theorem m_ok_365 : m_okM 365 := ⟨m_in1 (i := 139) rfl rfl, by decide +kernel, ⟨by decide +kernel, by decide +kernel⟩, by decide +kernel, m_in1 (i := 7) rfl rfl, by decide +kernel, by decide +kernel, by decide +kernel, Or.inr (Or.inr ⟨rfl, m_in1 (i := 138) rfl rfl, rfl, rfl⟩)⟩
set_option maxRecDepth 100000 in
theorem m_ok_366 : m_okM 366 := ⟨m_in1 (i := 70) rfl rfl, by decide +kernel, ⟨by decide +kernel, by decide +kernel⟩, by decide +kernel, m_in1 (i := 4) rfl rfl, by decide +kernel, by decide +kernel, by decide +kernel, Or.inr (Or.inr ⟨rfl, m_in1 (i := 69) rfl rfl, rfl, rfl⟩)⟩
set_option maxRecDepth 100000 in
theorem m_ok_367 : m_okM 367 := ⟨m_in1 (i := 94) rfl rfl, by decide +kernel, ⟨by decide +kernel, by decide +kernel⟩, by decide +kernel, m_in1 (i := 5) rfl rfl, by decide +kernel, by decide +kernel, by decide +kernel, Or.inr (Or.inl ⟨rfl, m_in1 (i := 92) rfl rfl, m_in1 (i := 93) rfl rfl, Or.inr ⟨by decide +kernel, (RX4, TX4, 2), (by rw [show m_ci 367 = 4 by decide +kernel]; rfl), rfl⟩⟩)⟩
set_option maxRecDepth 100000 in
theorem m_ok_368 : m_okM 368 := ⟨m_in1 (i := 76) rfl rfl, by decide +kernel, ⟨by decide +kernel, by decide +kernel⟩, by decide +kernel, m_in1 (i := 5) rfl rfl, by decide +kernel, by decide +kernel, by decide +kernel, Or.inr (Or.inr ⟨rfl, m_in1 (i := 75) rfl rfl, rfl, rfl⟩)⟩
set_option maxRecDepth 100000 in
theorem m_ok_369 : m_okM 369 := ⟨m_in1 (i := 80) rfl rfl, by decide +kernel, ⟨by decide +kernel, by decide +kernel⟩, by decide +kernel, m_in1 (i := 6) rfl rfl, by decide +kernel, by decide +kernel, by decide +kernel, Or.inl ⟨rfl, m_in1 (i := 79) rfl rfl⟩⟩
set_option maxRecDepth 100000 in
theorem m_ok_370 : m_okM 370 := ⟨m_in1 (i := 51) rfl rfl, by decide +kernel, ⟨by decide +kernel, by decide +kernel⟩, by decide +kernel, m_in1 (i := 3) rfl rfl, by decide +kernel, by decide +kernel, by decide +kernel, Or.inr (Or.inr ⟨rfl, m_in1 (i := 50) rfl rfl, rfl, rfl⟩)⟩
set_option maxRecDepth 100000 in
theorem m_ok_371 : m_okM 371 := ⟨m_in1 (i := 34) rfl rfl, by decide +kernel, ⟨by decide +kernel, by decide +kernel⟩, by decide +kernel, m_in1 (i := 2) rfl rfl, by decide +kernel, by decide +kernel, by decide +kernel, Or.inr (Or.inr ⟨rfl, m_in1 (i := 33) rfl rfl, rfl, rfl⟩)⟩
