set_option maxRecDepth 100000 in
theorem m_a8 : m_all8 0 m_ins := m_all8_app _ _ _ m_a8_0 (m_all8_app _ _ _ m_a8_1 (m_all8_app _ _ _ m_a8_2 (m_all8_app _ _ _ m_a8_3 (m_all8_app _ _ _ m_a8_4 (m_all8_app _ _ _ m_a8_5 (m_all8_app _ _ _ m_a8_6 (m_all8_app _ _ _ m_a8_7 (m_all8_app _ _ _ m_a8_8 (m_a8_9)))))))))
theorem m_T8_ok : m_T8 := by
  intro k pc i len j h
  have h1 := m_lk_mem _ _ _ h
  have h2 := m_all8_get _ 0 k m_a8 _ h1
  rw [Nat.zero_add] at h2
  exact h2
