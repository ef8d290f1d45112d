set_option maxRecDepth 100000 in
theorem m_t8_0_0 : ∀ e ∈ m_i0_0, decode code e.1 = .ok (e.2.1, e.2.2.1) ∧ m_okI 0 e.1 e.2.1 e.2.2.1 e.2.2.2 = true := by decide +kernel
set_option maxRecDepth 100000 in
theorem m_t8_0_1 : ∀ e ∈ m_i0_1, decode code e.1 = .ok (e.2.1, e.2.2.1) ∧ m_okI 0 e.1 e.2.1 e.2.2.1 e.2.2.2 = true := by decide +kernel
set_option maxRecDepth 100000 in
theorem m_t8_0_2 : ∀ e ∈ m_i0_2, decode code e.1 = .ok (e.2.1, e.2.2.1) ∧ m_okI 0 e.1 e.2.1 e.2.2.1 e.2.2.2 = true := by decide +kernel
