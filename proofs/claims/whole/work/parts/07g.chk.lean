set_option maxRecDepth 100000 in
theorem m_t8_0_15 : ∀ e ∈ m_i0_15, decode code e.1 = .ok (e.2.1, e.2.2.1) ∧ m_okI 0 e.1 e.2.1 e.2.2.1 e.2.2.2 = true := by decide +kernel
set_option maxRecDepth 100000 in
theorem m_t8_0_16 : ∀ e ∈ m_i0_16, decode code e.1 = .ok (e.2.1, e.2.2.1) ∧ m_okI 0 e.1 e.2.1 e.2.2.1 e.2.2.2 = true := by decide +kernel
set_option maxRecDepth 100000 in
theorem m_t8_0_17 : ∀ e ∈ m_i0_17, decode code e.1 = .ok (e.2.1, e.2.2.1) ∧ m_okI 0 e.1 e.2.1 e.2.2.1 e.2.2.2 = true := by decide +kernel
set_option maxRecDepth 100000 in
theorem m_t8_0_18 : ∀ e ∈ m_i0_18, decode code e.1 = .ok (e.2.1, e.2.2.1) ∧ m_okI 0 e.1 e.2.1 e.2.2.1 e.2.2.2 = true := by decide +kernel
theorem m_t8_0 : ∀ e ∈ m_i0, decode code e.1 = .ok (e.2.1, e.2.2.1) ∧ m_okI 0 e.1 e.2.1 e.2.2.1 e.2.2.2 = true := List.forall_mem_append.mpr ⟨m_t8_0_0, List.forall_mem_append.mpr ⟨m_t8_0_1, List.forall_mem_append.mpr ⟨m_t8_0_2, List.forall_mem_append.mpr ⟨m_t8_0_3, List.forall_mem_append.mpr ⟨m_t8_0_4, List.forall_mem_append.mpr ⟨m_t8_0_5, List.forall_mem_append.mpr ⟨m_t8_0_6, List.forall_mem_append.mpr ⟨m_t8_0_7, List.forall_mem_append.mpr ⟨m_t8_0_8, List.forall_mem_append.mpr ⟨m_t8_0_9, List.forall_mem_append.mpr ⟨m_t8_0_10, List.forall_mem_append.mpr ⟨m_t8_0_11, List.forall_mem_append.mpr ⟨m_t8_0_12, List.forall_mem_append.mpr ⟨m_t8_0_13, List.forall_mem_append.mpr ⟨m_t8_0_14, List.forall_mem_append.mpr ⟨m_t8_0_15, List.forall_mem_append.mpr ⟨m_t8_0_16, List.forall_mem_append.mpr ⟨m_t8_0_17, m_t8_0_18⟩⟩⟩⟩⟩⟩⟩⟩⟩⟩⟩⟩⟩⟩⟩⟩⟩⟩
set_option maxRecDepth 100000 in
theorem m_t8_1 : ∀ e ∈ m_i1, decode prog_14_method_151_code e.1 = .ok (e.2.1, e.2.2.1) ∧ m_okI 1 e.1 e.2.1 e.2.2.1 e.2.2.2 = true := by decide +kernel
