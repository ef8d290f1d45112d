set_option maxRecDepth 100000 in
theorem m_t8_0_9 : ∀ e ∈ m_i0_9, decode code e.1 = .ok (e.2.1, e.2.2.1) ∧ m_okI 0 e.1 e.2.1 e.2.2.1 e.2.2.2 = true := by decide +kernel
set_option maxRecDepth 100000 in
theorem m_t8_0_10 : ∀ e ∈ m_i0_10, decode code e.1 = .ok (e.2.1, e.2.2.1) ∧ m_okI 0 e.1 e.2.1 e.2.2.1 e.2.2.2 = true := by decide +kernel
set_option maxRecDepth 100000 in
theorem m_t8_0_11 : ∀ e ∈ m_i0_11, decode code e.1 = .ok (e.2.1, e.2.2.1) ∧ m_okI 0 e.1 e.2.1 e.2.2.1 e.2.2.2 = true := by decide +kernel
