-- what the Statement gives of the start
def m_strm (i : Nat) : Term := if i = 0 then .string "LeftGlove$Words" 9 else .string "LeftGlove$Words" 21
theorem m_fl_ex : ∀ i, i < 2 → Cond.exactly (m_strm i) "java/lang/String" ∈ flatC (Jvm.Cond.and given_1 narrow_1) := by decide +kernel
theorem m_fl_co : ∀ i, i < 2 → Cond.eq (.field (m_strm i) "java/lang/String" "coder" "B") (.int 0) ∈ flatC (Jvm.Cond.and given_1 narrow_1) := by decide +kernel
theorem m_fl_ar : ∀ i, i < 2 → Cond.arrayOf (.field (m_strm i) "java/lang/String" "value" "[B") .byte ∈ flatC (Jvm.Cond.and given_1 narrow_1) := by decide +kernel
theorem m_fl_le : ∀ i, i < 2 → Cond.eq (.length (.field (m_strm i) "java/lang/String" "value" "[B")) (.int (Int32.ofNat (m_tln.getD i 0))) ∈ flatC (Jvm.Cond.and given_1 narrow_1) := by decide +kernel
theorem m_fl_el0_0 : ∀ j, j < 16 → 0 ≤ j → Cond.eq (.elem (.field (m_strm 0) "java/lang/String" "value" "[B") (.int (Int32.ofNat j))) (.int ((m_txt.getD 0 []).getD j 0)) ∈ flatC (Jvm.Cond.and given_1 narrow_1) := by decide +kernel
theorem m_fl_el0_16 : ∀ j, j < 32 → 16 ≤ j → Cond.eq (.elem (.field (m_strm 0) "java/lang/String" "value" "[B") (.int (Int32.ofNat j))) (.int ((m_txt.getD 0 []).getD j 0)) ∈ flatC (Jvm.Cond.and given_1 narrow_1) := by decide +kernel
theorem m_fl_el0_32 : ∀ j, j < 48 → 32 ≤ j → Cond.eq (.elem (.field (m_strm 0) "java/lang/String" "value" "[B") (.int (Int32.ofNat j))) (.int ((m_txt.getD 0 []).getD j 0)) ∈ flatC (Jvm.Cond.and given_1 narrow_1) := by decide +kernel
theorem m_fl_el0_48 : ∀ j, j < 64 → 48 ≤ j → Cond.eq (.elem (.field (m_strm 0) "java/lang/String" "value" "[B") (.int (Int32.ofNat j))) (.int ((m_txt.getD 0 []).getD j 0)) ∈ flatC (Jvm.Cond.and given_1 narrow_1) := by decide +kernel
theorem m_fl_el0_64 : ∀ j, j < 80 → 64 ≤ j → Cond.eq (.elem (.field (m_strm 0) "java/lang/String" "value" "[B") (.int (Int32.ofNat j))) (.int ((m_txt.getD 0 []).getD j 0)) ∈ flatC (Jvm.Cond.and given_1 narrow_1) := by decide +kernel
theorem m_fl_el0_80 : ∀ j, j < 96 → 80 ≤ j → Cond.eq (.elem (.field (m_strm 0) "java/lang/String" "value" "[B") (.int (Int32.ofNat j))) (.int ((m_txt.getD 0 []).getD j 0)) ∈ flatC (Jvm.Cond.and given_1 narrow_1) := by decide +kernel
theorem m_fl_el0_96 : ∀ j, j < 112 → 96 ≤ j → Cond.eq (.elem (.field (m_strm 0) "java/lang/String" "value" "[B") (.int (Int32.ofNat j))) (.int ((m_txt.getD 0 []).getD j 0)) ∈ flatC (Jvm.Cond.and given_1 narrow_1) := by decide +kernel
theorem m_fl_el0_112 : ∀ j, j < 128 → 112 ≤ j → Cond.eq (.elem (.field (m_strm 0) "java/lang/String" "value" "[B") (.int (Int32.ofNat j))) (.int ((m_txt.getD 0 []).getD j 0)) ∈ flatC (Jvm.Cond.and given_1 narrow_1) := by decide +kernel
theorem m_fl_el0_128 : ∀ j, j < 144 → 128 ≤ j → Cond.eq (.elem (.field (m_strm 0) "java/lang/String" "value" "[B") (.int (Int32.ofNat j))) (.int ((m_txt.getD 0 []).getD j 0)) ∈ flatC (Jvm.Cond.and given_1 narrow_1) := by decide +kernel
theorem m_fl_el0_144 : ∀ j, j < 160 → 144 ≤ j → Cond.eq (.elem (.field (m_strm 0) "java/lang/String" "value" "[B") (.int (Int32.ofNat j))) (.int ((m_txt.getD 0 []).getD j 0)) ∈ flatC (Jvm.Cond.and given_1 narrow_1) := by decide +kernel
theorem m_fl_el0_160 : ∀ j, j < 176 → 160 ≤ j → Cond.eq (.elem (.field (m_strm 0) "java/lang/String" "value" "[B") (.int (Int32.ofNat j))) (.int ((m_txt.getD 0 []).getD j 0)) ∈ flatC (Jvm.Cond.and given_1 narrow_1) := by decide +kernel
theorem m_fl_el0_176 : ∀ j, j < 185 → 176 ≤ j → Cond.eq (.elem (.field (m_strm 0) "java/lang/String" "value" "[B") (.int (Int32.ofNat j))) (.int ((m_txt.getD 0 []).getD j 0)) ∈ flatC (Jvm.Cond.and given_1 narrow_1) := by decide +kernel
theorem m_fl_el0 : ∀ j, j < 185 → Cond.eq (.elem (.field (m_strm 0) "java/lang/String" "value" "[B") (.int (Int32.ofNat j))) (.int ((m_txt.getD 0 []).getD j 0)) ∈ flatC (Jvm.Cond.and given_1 narrow_1) := by
  intro j hj
  by_cases h16 : j < 16
  · exact m_fl_el0_0 j h16 (by omega)
  by_cases h32 : j < 32
  · exact m_fl_el0_16 j h32 (by omega)
  by_cases h48 : j < 48
  · exact m_fl_el0_32 j h48 (by omega)
  by_cases h64 : j < 64
  · exact m_fl_el0_48 j h64 (by omega)
  by_cases h80 : j < 80
  · exact m_fl_el0_64 j h80 (by omega)
  by_cases h96 : j < 96
  · exact m_fl_el0_80 j h96 (by omega)
  by_cases h112 : j < 112
  · exact m_fl_el0_96 j h112 (by omega)
  by_cases h128 : j < 128
  · exact m_fl_el0_112 j h128 (by omega)
  by_cases h144 : j < 144
  · exact m_fl_el0_128 j h144 (by omega)
  by_cases h160 : j < 160
  · exact m_fl_el0_144 j h160 (by omega)
  by_cases h176 : j < 176
  · exact m_fl_el0_160 j h176 (by omega)
  by_cases h185 : j < 185
  · exact m_fl_el0_176 j h185 (by omega)
  · omega
theorem m_fl_el1 : ∀ j, j < 11 → Cond.eq (.elem (.field (m_strm 1) "java/lang/String" "value" "[B") (.int (Int32.ofNat j))) (.int ((m_txt.getD 1 []).getD j 0)) ∈ flatC (Jvm.Cond.and given_1 narrow_1) := by decide +kernel
theorem m_fl_ne : Cond.not (Cond.eq (m_strm 0) (m_strm 1)) ∈ flatC (Jvm.Cond.and given_1 narrow_1) ∨ Cond.not (Cond.eq (m_strm 1) (m_strm 0)) ∈ flatC (Jvm.Cond.and given_1 narrow_1) := by decide +kernel
theorem m_fl_fa : Cond.arrayOf (.static "LeftGlove$Reader" "FORMS" "[I") .int ∈ flatC (Jvm.Cond.and given_1 narrow_1) := by decide +kernel
theorem m_fl_fl : Cond.eq (.length (.static "LeftGlove$Reader" "FORMS" "[I")) (.int (Int32.ofNat 60)) ∈ flatC (Jvm.Cond.and given_1 narrow_1) := by decide +kernel
theorem m_fl_fe : ∀ j, j < 60 → Cond.eq (.elem (.static "LeftGlove$Reader" "FORMS" "[I") (.int (Int32.ofNat j))) (.int (m_forms.getD j 0)) ∈ flatC (Jvm.Cond.and given_1 narrow_1) := by decide +kernel
theorem m_fl_cs : Cond.eq (.static "java/lang/String" "COMPACT_STRINGS" "Z") (.int 1) ∈ flatC (Jvm.Cond.and given_1 narrow_1) := by decide +kernel
theorem m_fl_si : Cond.isRef (.static "jdk/internal/util/Preconditions" "SIOOBE_FORMATTER" "Ljava/util/function/BiFunction;") ∈ flatC (Jvm.Cond.and given_1 narrow_1) := by decide +kernel
