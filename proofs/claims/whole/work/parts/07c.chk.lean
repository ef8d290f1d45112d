set_option maxRecDepth 100000 in
theorem m_t8_0_3 : ∀ e ∈ m_i0_3, decode code e.1 = .ok (e.2.1, e.2.2.1) ∧ m_okI 0 e.1 e.2.1 e.2.2.1 e.2.2.2 = true := by decide +kernel
set_option maxRecDepth 100000 in
theorem m_t8_0_4 : ∀ e ∈ m_i0_4, decode code e.1 = .ok (e.2.1, e.2.2.1) ∧ m_okI 0 e.1 e.2.1 e.2.2.1 e.2.2.2 = true := by decide +kernel
set_option maxRecDepth 100000 in
theorem m_t8_0_5 : ∀ e ∈ m_i0_5, decode code e.1 = .ok (e.2.1, e.2.2.1) ∧ m_okI 0 e.1 e.2.1 e.2.2.1 e.2.2.2 = true := by decide +kernel
