set_option maxRecDepth 100000 in
theorem m_t8_0_12 : ∀ e ∈ m_i0_12, decode code e.1 = .ok (e.2.1, e.2.2.1) ∧ m_okI 0 e.1 e.2.1 e.2.2.1 e.2.2.2 = true := by decide +kernel
set_option maxRecDepth 100000 in
theorem m_t8_0_13 : ∀ e ∈ m_i0_13, decode code e.1 = .ok (e.2.1, e.2.2.1) ∧ m_okI 0 e.1 e.2.1 e.2.2.1 e.2.2.2 = true := by decide +kernel
set_option maxRecDepth 100000 in
theorem m_t8_0_14 : ∀ e ∈ m_i0_14, decode code e.1 = .ok (e.2.1, e.2.2.1) ∧ m_okI 0 e.1 e.2.1 e.2.2.1 e.2.2.2 = true := by decide +kernel
