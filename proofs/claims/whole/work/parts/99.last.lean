theorem zz_probe : m_ci 2 = 10 := by decide +kernel
