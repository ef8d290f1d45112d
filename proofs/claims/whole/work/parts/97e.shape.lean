-- the heap that the constructors lay, cell by cell
theorem lRC : RC.length = 148 := by
  unfold RC
  simp only [List.length_append, lR8, nlQ, nlL, nlE, nlD, nlZ]
def hC : m_H := .inr (10, fC) :: RC
theorem lhC : hC.length = 149 := by
  unfold hC
  rw [List.length_cons, lRC]
def zl (n : Nat) : m_E := .inl (1, n, .inr (.inl fun _ => 0))
def zb (n : Nat) : m_E := .inl (2, n, .inl fun _ => 0)
def fi (a : Nat) : Fn := if a = 2 ∨ a = 52 ∨ a = 102 then u Z0 24 139 else if a = 36 ∨ a = 86 then u Z0 8 (-1) else if a = 37 ∨ a = 87 then u Z0 1 12 else if a = 38 ∨ a = 88 then pr 12 else if a = 128 then u (u Z0 3 (-1)) 4 (-1) else if a = 149 then u (u (u Z0 5 (-1)) 6 (-1)) 23 1 else Z0
def gi (_ : Nat) : Fn := Z0
theorem fi_z {a : Nat} (h : ¬ (a = 2 ∨ a = 52 ∨ a = 102 ∨ a = 36 ∨ a = 86 ∨ a = 37 ∨ a = 87 ∨ a = 38 ∨ a = 88 ∨ a = 128 ∨ a = 149)) : fi a = Z0 := by
  unfold fi
  rw [if_neg (by omega), if_neg (by omega), if_neg (by omega), if_neg (by omega), if_neg (by omega), if_neg (by omega)]
theorem cell_0 {F G : Nat → Fn} {a n : Nat} (hs : shp a = (0, n, [])) : mkc F G a = .inl (0, n, .inl fun k : Nat => jI (F a (k : Int))) := by
  unfold mkc
  rw [hs]
  rfl
theorem cell_1 {F G : Nat → Fn} {a n : Nat} (hs : shp a = (1, n, [])) : mkc F G a = .inl (1, n, .inr (.inl fun k : Nat => jL (G a (k : Int)))) := by
  unfold mkc
  rw [hs]
  rfl
theorem cell_2 {F G : Nat → Fn} {a n : Nat} (hs : shp a = (2, n, [])) : mkc F G a = .inl (2, n, .inl fun k : Nat => jI (F a (k : Int))) := by
  unfold mkc
  rw [hs]
  rfl
theorem cell_o {F G : Nat → Fn} {a t : Nat} {qs : List (Nat × Nat)} (hs : shp a = (t, 0, qs)) (h : 10 ≤ t) : mkc F G a = .inr (t - 10, qs.mapIdx fun k q => fcell F G a k q) := by
  unfold mkc
  rw [hs]
  dsimp only
  rw [if_neg (by omega), if_neg (by omega), if_neg (by omega), if_neg (by omega)]
theorem kz {a n : Nat} (hs : shp a = (0, n, [])) (hz : fi a = Z0) : mkc fi gi a = zr n := by
  rw [cell_0 hs, hz]
  rfl
def sg (a n : Nat) : m_H := (List.range' a n).map (mkc fi gi)
theorem sg_app {a n b m : Nat} (h : a + n = b) : sg a n ++ sg b m = sg a (n + m) := by
  subst h
  unfold sg
  rw [← List.map_append, List.range'_append_1]
theorem sg_rep {a n m : Nat} (hs : ∀ i ∈ List.range' a n, shp i = (0, m, [])) (hz : ∀ i, a ≤ i → i < a + n → fi i = Z0) : List.replicate n (zr m) = sg a n := by
  unfold sg
  symm
  rw [List.eq_replicate_iff]
  refine ⟨by rw [List.length_map, List.length_range'], ?_⟩
  intro b hb
  obtain ⟨i, hi, rfl⟩ := List.mem_map.mp hb
  have q := List.mem_range'_1.mp hi
  exact kz (hs i hi) (hz i q.1 q.2)
theorem kc_mrow {a : Nat} (hs : shp a = (4, 31, [(a + 1, 1)])) : mkc fi gi a = m_mrow 31 a := by
  unfold mkc
  rw [hs]
  show (.inl (4, 31, .inr (.inr (.inr (.inr fun k => if k < 31 then some (a + 1 + 1 * k) else none)))) : m_E) = _
  unfold m_mrow
  simp only [Nat.one_mul]
theorem kc_103 : mkc fi gi 103 = rw3 4 := by
  unfold mkc
  rw [show shp 103 = (3, 4, [(104, 6)]) from rfl]
  rfl
theorem fi_W {a : Nat} (h : a = 2 ∨ a = 52 ∨ a = 102) : fi a = u Z0 24 139 := by
  unfold fi
  rw [if_pos h]
theorem fi_T {a : Nat} (h : a = 36 ∨ a = 86) : fi a = u Z0 8 (-1) := by
  unfold fi
  rw [if_neg (by omega), if_pos h]
theorem fi_R {a : Nat} (h : a = 37 ∨ a = 87) : fi a = u Z0 1 12 := by
  unfold fi
  rw [if_neg (by omega), if_neg (by omega), if_pos h]
theorem fi_H {a : Nat} (h : a = 38 ∨ a = 88) : fi a = pr 12 := by
  unfold fi
  rw [if_neg (by omega), if_neg (by omega), if_neg (by omega), if_pos h]
theorem fi_128 : fi 128 = u (u Z0 3 (-1)) 4 (-1) := by
  unfold fi
  rw [if_neg (by omega), if_neg (by omega), if_neg (by omega), if_neg (by omega), if_pos rfl]
theorem fi_149 : fi 149 = u (u (u Z0 5 (-1)) 6 (-1)) 23 1 := by
  unfold fi
  rw [if_neg (by omega), if_neg (by omega), if_neg (by omega), if_neg (by omega), if_neg (by omega), if_pos rfl]
theorem kc_0 : mkc fi gi 0 = .inr (10, [.ref 1, .ref 3, .ref 36, .ref 51, .ref 53, .ref 86, .ref 101, .ref 103, .ref 128, .ref 136, .ref 138, .ref 141, .ref 144]) := by
  rw [cell_o (a := 0) (t := 20) (qs := [(2, 1), (2, 3), (2, 36), (2, 51), (2, 53), (2, 86), (2, 101), (2, 103), (2, 128), (2, 136), (2, 138), (2, 141), (2, 144)]) rfl (by omega)]
  rfl
theorem kc_1 : mkc fi gi 1 = .inr (9, [.ref 2]) := by
  rw [cell_o (a := 1) (t := 19) (qs := [(2, 2)]) rfl (by omega)]
  rfl
theorem kc_2 : mkc fi gi 2 = .inl (0, 141, .inl fun k : Nat => jI (u Z0 24 139 (k : Int))) := by
  rw [cell_0 (a := 2) (n := 141) rfl, fi_W (by omega)]
theorem kc_3 : mkc fi gi 3 = .inr (6, [.ref 4, .int 0, .int 0]) := by
  rw [cell_o (a := 3) (t := 16) (qs := [(2, 4), (0, 0), (0, 0)]) rfl (by omega)]
  rfl
theorem kc_4 : mkc fi gi 4 = m_mrow 31 4 := kc_mrow rfl
theorem kc_36 : mkc fi gi 36 = .inr (7, [.ref 37, .ref 39, .ref 41, .ref 43, .ref 45, .ref 47, .ref 49, .int 0, .int (jI (-1))]) := by
  rw [cell_o (a := 36) (t := 17) (qs := [(2, 37), (2, 39), (2, 41), (2, 43), (2, 45), (2, 47), (2, 49), (0, 0), (0, 0)]) rfl (by omega)]
  rfl
theorem kc_37 : mkc fi gi 37 = .inr (4, [.ref 38, .int (jI (12))]) := by
  rw [cell_o (a := 37) (t := 14) (qs := [(2, 38), (0, 0)]) rfl (by omega)]
  rfl
theorem kc_38 : mkc fi gi 38 = .inl (0, 12, .inl fun k : Nat => jI (pr 12 (k : Int))) := by
  rw [cell_0 (a := 38) (n := 12) rfl, fi_H (by omega)]
theorem kc_39 : mkc fi gi 39 = .inr (4, [.ref 40, .int 0]) := by
  rw [cell_o (a := 39) (t := 14) (qs := [(2, 40), (0, 0)]) rfl (by omega)]
  rfl
theorem kc_40 : mkc fi gi 40 = zr 8 := kz (a := 40) (n := 8) rfl (fi_z (by decide))
theorem kc_41 : mkc fi gi 41 = .inr (4, [.ref 42, .int 0]) := by
  rw [cell_o (a := 41) (t := 14) (qs := [(2, 42), (0, 0)]) rfl (by omega)]
  rfl
theorem kc_42 : mkc fi gi 42 = zr 6 := kz (a := 42) (n := 6) rfl (fi_z (by decide))
theorem kc_43 : mkc fi gi 43 = .inr (4, [.ref 44, .int 0]) := by
  rw [cell_o (a := 43) (t := 14) (qs := [(2, 44), (0, 0)]) rfl (by omega)]
  rfl
theorem kc_44 : mkc fi gi 44 = zr 6 := kz (a := 44) (n := 6) rfl (fi_z (by decide))
theorem kc_45 : mkc fi gi 45 = .inr (4, [.ref 46, .int 0]) := by
  rw [cell_o (a := 45) (t := 14) (qs := [(2, 46), (0, 0)]) rfl (by omega)]
  rfl
theorem kc_46 : mkc fi gi 46 = zr 6 := kz (a := 46) (n := 6) rfl (fi_z (by decide))
theorem kc_47 : mkc fi gi 47 = .inr (4, [.ref 48, .int 0]) := by
  rw [cell_o (a := 47) (t := 14) (qs := [(2, 48), (0, 0)]) rfl (by omega)]
  rfl
theorem kc_48 : mkc fi gi 48 = zr 8 := kz (a := 48) (n := 8) rfl (fi_z (by decide))
theorem kc_49 : mkc fi gi 49 = .inr (4, [.ref 50, .int 0]) := by
  rw [cell_o (a := 49) (t := 14) (qs := [(2, 50), (0, 0)]) rfl (by omega)]
  rfl
theorem kc_50 : mkc fi gi 50 = zr 8 := kz (a := 50) (n := 8) rfl (fi_z (by decide))
theorem kc_51 : mkc fi gi 51 = .inr (9, [.ref 52]) := by
  rw [cell_o (a := 51) (t := 19) (qs := [(2, 52)]) rfl (by omega)]
  rfl
theorem kc_52 : mkc fi gi 52 = .inl (0, 141, .inl fun k : Nat => jI (u Z0 24 139 (k : Int))) := by
  rw [cell_0 (a := 52) (n := 141) rfl, fi_W (by omega)]
theorem kc_53 : mkc fi gi 53 = .inr (6, [.ref 54, .int 0, .int 0]) := by
  rw [cell_o (a := 53) (t := 16) (qs := [(2, 54), (0, 0), (0, 0)]) rfl (by omega)]
  rfl
theorem kc_54 : mkc fi gi 54 = m_mrow 31 54 := kc_mrow rfl
theorem kc_86 : mkc fi gi 86 = .inr (7, [.ref 87, .ref 89, .ref 91, .ref 93, .ref 95, .ref 97, .ref 99, .int 0, .int (jI (-1))]) := by
  rw [cell_o (a := 86) (t := 17) (qs := [(2, 87), (2, 89), (2, 91), (2, 93), (2, 95), (2, 97), (2, 99), (0, 0), (0, 0)]) rfl (by omega)]
  rfl
theorem kc_87 : mkc fi gi 87 = .inr (4, [.ref 88, .int (jI (12))]) := by
  rw [cell_o (a := 87) (t := 14) (qs := [(2, 88), (0, 0)]) rfl (by omega)]
  rfl
theorem kc_88 : mkc fi gi 88 = .inl (0, 12, .inl fun k : Nat => jI (pr 12 (k : Int))) := by
  rw [cell_0 (a := 88) (n := 12) rfl, fi_H (by omega)]
theorem kc_89 : mkc fi gi 89 = .inr (4, [.ref 90, .int 0]) := by
  rw [cell_o (a := 89) (t := 14) (qs := [(2, 90), (0, 0)]) rfl (by omega)]
  rfl
theorem kc_90 : mkc fi gi 90 = zr 8 := kz (a := 90) (n := 8) rfl (fi_z (by decide))
theorem kc_91 : mkc fi gi 91 = .inr (4, [.ref 92, .int 0]) := by
  rw [cell_o (a := 91) (t := 14) (qs := [(2, 92), (0, 0)]) rfl (by omega)]
  rfl
theorem kc_92 : mkc fi gi 92 = zr 6 := kz (a := 92) (n := 6) rfl (fi_z (by decide))
theorem kc_93 : mkc fi gi 93 = .inr (4, [.ref 94, .int 0]) := by
  rw [cell_o (a := 93) (t := 14) (qs := [(2, 94), (0, 0)]) rfl (by omega)]
  rfl
theorem kc_94 : mkc fi gi 94 = zr 6 := kz (a := 94) (n := 6) rfl (fi_z (by decide))
theorem kc_95 : mkc fi gi 95 = .inr (4, [.ref 96, .int 0]) := by
  rw [cell_o (a := 95) (t := 14) (qs := [(2, 96), (0, 0)]) rfl (by omega)]
  rfl
theorem kc_96 : mkc fi gi 96 = zr 6 := kz (a := 96) (n := 6) rfl (fi_z (by decide))
theorem kc_97 : mkc fi gi 97 = .inr (4, [.ref 98, .int 0]) := by
  rw [cell_o (a := 97) (t := 14) (qs := [(2, 98), (0, 0)]) rfl (by omega)]
  rfl
theorem kc_98 : mkc fi gi 98 = zr 8 := kz (a := 98) (n := 8) rfl (fi_z (by decide))
theorem kc_99 : mkc fi gi 99 = .inr (4, [.ref 100, .int 0]) := by
  rw [cell_o (a := 99) (t := 14) (qs := [(2, 100), (0, 0)]) rfl (by omega)]
  rfl
theorem kc_100 : mkc fi gi 100 = zr 8 := kz (a := 100) (n := 8) rfl (fi_z (by decide))
theorem kc_101 : mkc fi gi 101 = .inr (9, [.ref 102]) := by
  rw [cell_o (a := 101) (t := 19) (qs := [(2, 102)]) rfl (by omega)]
  rfl
theorem kc_102 : mkc fi gi 102 = .inl (0, 141, .inl fun k : Nat => jI (u Z0 24 139 (k : Int))) := by
  rw [cell_0 (a := 102) (n := 141) rfl, fi_W (by omega)]
theorem kc_104 : mkc fi gi 104 = .inr (5, [.ref 105, .ref 106, .ref 107, .ref 108, .ref 109, .int 0, .int 0]) := by
  rw [cell_o (a := 104) (t := 15) (qs := [(2, 105), (2, 106), (2, 107), (2, 108), (2, 109), (0, 0), (0, 0)]) rfl (by omega)]
  rfl
theorem kc_105 : mkc fi gi 105 = zr 24 := kz (a := 105) (n := 24) rfl (fi_z (by decide))
theorem kc_106 : mkc fi gi 106 = zr 24 := kz (a := 106) (n := 24) rfl (fi_z (by decide))
theorem kc_107 : mkc fi gi 107 = zr 24 := kz (a := 107) (n := 24) rfl (fi_z (by decide))
theorem kc_108 : mkc fi gi 108 = zr 300 := kz (a := 108) (n := 300) rfl (fi_z (by decide))
theorem kc_109 : mkc fi gi 109 = zr 4 := kz (a := 109) (n := 4) rfl (fi_z (by decide))
theorem kc_110 : mkc fi gi 110 = .inr (5, [.ref 111, .ref 112, .ref 113, .ref 114, .ref 115, .int 0, .int 0]) := by
  rw [cell_o (a := 110) (t := 15) (qs := [(2, 111), (2, 112), (2, 113), (2, 114), (2, 115), (0, 0), (0, 0)]) rfl (by omega)]
  rfl
theorem kc_111 : mkc fi gi 111 = zr 24 := kz (a := 111) (n := 24) rfl (fi_z (by decide))
theorem kc_112 : mkc fi gi 112 = zr 24 := kz (a := 112) (n := 24) rfl (fi_z (by decide))
theorem kc_113 : mkc fi gi 113 = zr 24 := kz (a := 113) (n := 24) rfl (fi_z (by decide))
theorem kc_114 : mkc fi gi 114 = zr 300 := kz (a := 114) (n := 300) rfl (fi_z (by decide))
theorem kc_115 : mkc fi gi 115 = zr 4 := kz (a := 115) (n := 4) rfl (fi_z (by decide))
theorem kc_116 : mkc fi gi 116 = .inr (5, [.ref 117, .ref 118, .ref 119, .ref 120, .ref 121, .int 0, .int 0]) := by
  rw [cell_o (a := 116) (t := 15) (qs := [(2, 117), (2, 118), (2, 119), (2, 120), (2, 121), (0, 0), (0, 0)]) rfl (by omega)]
  rfl
theorem kc_117 : mkc fi gi 117 = zr 24 := kz (a := 117) (n := 24) rfl (fi_z (by decide))
theorem kc_118 : mkc fi gi 118 = zr 24 := kz (a := 118) (n := 24) rfl (fi_z (by decide))
theorem kc_119 : mkc fi gi 119 = zr 24 := kz (a := 119) (n := 24) rfl (fi_z (by decide))
theorem kc_120 : mkc fi gi 120 = zr 300 := kz (a := 120) (n := 300) rfl (fi_z (by decide))
theorem kc_121 : mkc fi gi 121 = zr 4 := kz (a := 121) (n := 4) rfl (fi_z (by decide))
theorem kc_122 : mkc fi gi 122 = .inr (5, [.ref 123, .ref 124, .ref 125, .ref 126, .ref 127, .int 0, .int 0]) := by
  rw [cell_o (a := 122) (t := 15) (qs := [(2, 123), (2, 124), (2, 125), (2, 126), (2, 127), (0, 0), (0, 0)]) rfl (by omega)]
  rfl
theorem kc_123 : mkc fi gi 123 = zr 24 := kz (a := 123) (n := 24) rfl (fi_z (by decide))
theorem kc_124 : mkc fi gi 124 = zr 24 := kz (a := 124) (n := 24) rfl (fi_z (by decide))
theorem kc_125 : mkc fi gi 125 = zr 24 := kz (a := 125) (n := 24) rfl (fi_z (by decide))
theorem kc_126 : mkc fi gi 126 = zr 300 := kz (a := 126) (n := 300) rfl (fi_z (by decide))
theorem kc_127 : mkc fi gi 127 = zr 4 := kz (a := 127) (n := 4) rfl (fi_z (by decide))
theorem kc_128 : mkc fi gi 128 = .inr (3, [.ref 129, .ref 135, .int 0, .int (jI (-1)), .int (jI (-1)), .int 0, .int 0, .int 0, .int 0, .int 0]) := by
  rw [cell_o (a := 128) (t := 13) (qs := [(2, 129), (2, 135), (0, 0), (0, 0), (0, 0), (0, 0), (0, 0), (0, 0), (0, 0), (0, 0)]) rfl (by omega)]
  rfl
theorem kc_129 : mkc fi gi 129 = .inr (5, [.ref 130, .ref 131, .ref 132, .ref 133, .ref 134, .int 0, .int 0]) := by
  rw [cell_o (a := 129) (t := 15) (qs := [(2, 130), (2, 131), (2, 132), (2, 133), (2, 134), (0, 0), (0, 0)]) rfl (by omega)]
  rfl
theorem kc_130 : mkc fi gi 130 = zr 24 := kz (a := 130) (n := 24) rfl (fi_z (by decide))
theorem kc_131 : mkc fi gi 131 = zr 24 := kz (a := 131) (n := 24) rfl (fi_z (by decide))
theorem kc_132 : mkc fi gi 132 = zr 24 := kz (a := 132) (n := 24) rfl (fi_z (by decide))
theorem kc_133 : mkc fi gi 133 = zr 300 := kz (a := 133) (n := 300) rfl (fi_z (by decide))
theorem kc_134 : mkc fi gi 134 = zr 4 := kz (a := 134) (n := 4) rfl (fi_z (by decide))
theorem kc_135 : mkc fi gi 135 = zr 300 := kz (a := 135) (n := 300) rfl (fi_z (by decide))
theorem kc_136 : mkc fi gi 136 = .inr (1, [.ref 137, .int 0]) := by
  rw [cell_o (a := 136) (t := 11) (qs := [(2, 137), (0, 0)]) rfl (by omega)]
  rfl
theorem kc_137 : mkc fi gi 137 = zr 64 := kz (a := 137) (n := 64) rfl (fi_z (by decide))
theorem kc_138 : mkc fi gi 138 = .inr (8, [.ref 139, .ref 140]) := by
  rw [cell_o (a := 138) (t := 18) (qs := [(2, 139), (2, 140)]) rfl (by omega)]
  rfl
theorem kc_139 : mkc fi gi 139 = zr 7 := kz (a := 139) (n := 7) rfl (fi_z (by decide))
theorem kc_140 : mkc fi gi 140 = zr 7 := kz (a := 140) (n := 7) rfl (fi_z (by decide))
theorem kc_141 : mkc fi gi 141 = .inr (0, [.ref 142, .int 0, .int 0]) := by
  rw [cell_o (a := 141) (t := 10) (qs := [(2, 142), (0, 0), (0, 0)]) rfl (by omega)]
  rfl
theorem kc_142 : mkc fi gi 142 = .inr (4, [.ref 143, .int 0]) := by
  rw [cell_o (a := 142) (t := 14) (qs := [(2, 143), (0, 0)]) rfl (by omega)]
  rfl
theorem kc_143 : mkc fi gi 143 = zr 12 := kz (a := 143) (n := 12) rfl (fi_z (by decide))
theorem kc_144 : mkc fi gi 144 = .inr (2, [.int 0, .int 0, .int 0, .ref 145, .ref 146, .ref 147, .ref 148]) := by
  rw [cell_o (a := 144) (t := 12) (qs := [(0, 0), (0, 0), (0, 0), (2, 145), (2, 146), (2, 147), (2, 148)]) rfl (by omega)]
  rfl
theorem kc_145 : mkc fi gi 145 = zr 128 := kz (a := 145) (n := 128) rfl (fi_z (by decide))
theorem kc_146 : mkc fi gi 146 = zr 128 := kz (a := 146) (n := 128) rfl (fi_z (by decide))
theorem kc_147 : mkc fi gi 147 = zr 9 := kz (a := 147) (n := 9) rfl (fi_z (by decide))
theorem kc_148 : mkc fi gi 148 = zr 9 := kz (a := 148) (n := 9) rfl (fi_z (by decide))
theorem kc_149 : mkc fi gi 149 = .inr (11, [.ref 150, .ref 151, .ref 152, .ref 153, .int 0, .int (jI (-1)), .int (jI (-1)), .int 0, .int 0, .int 0, .int 0, .long 0, .int 0, .int 0, .int 0, .ref 154, .int 0, .int 0, .int 0, .int 0, .ref 155, .ref 156, .ref 157, .int (jI (1)), .ref 158, .ref 159, .ref 160, .ref 161, .ref 162, .ref 163, .ref 164, .long 0, .long 0, .ref 165, .ref 166, .ref 167]) := by
  rw [cell_o (a := 149) (t := 21) (qs := [(2, 150), (2, 151), (2, 152), (2, 153), (0, 0), (0, 0), (0, 0), (0, 0), (0, 0), (0, 0), (0, 0), (1, 0), (0, 0), (0, 0), (0, 0), (2, 154), (0, 0), (0, 0), (0, 0), (0, 0), (2, 155), (2, 156), (2, 157), (0, 0), (2, 158), (2, 159), (2, 160), (2, 161), (2, 162), (2, 163), (2, 164), (1, 0), (1, 0), (2, 165), (2, 166), (2, 167)]) rfl (by omega)]
  rfl
theorem kc_150 : mkc fi gi 150 = zr 11730 := kz (a := 150) (n := 11730) rfl (fi_z (by decide))
theorem kc_151 : mkc fi gi 151 = zr 11730 := kz (a := 151) (n := 11730) rfl (fi_z (by decide))
theorem kc_152 : mkc fi gi 152 = zr 3012 := kz (a := 152) (n := 3012) rfl (fi_z (by decide))
theorem kc_153 : mkc fi gi 153 = zr 300 := kz (a := 153) (n := 300) rfl (fi_z (by decide))
theorem kc_154 : mkc fi gi 154 = zr 160 := kz (a := 154) (n := 160) rfl (fi_z (by decide))
theorem kc_155 : mkc fi gi 155 = zr 14 := kz (a := 155) (n := 14) rfl (fi_z (by decide))
theorem kc_156 : mkc fi gi 156 = zl 330 := by
  rw [cell_1 (a := 156) (n := 330) rfl]
  rfl
theorem kc_157 : mkc fi gi 157 = zb 330 := by
  rw [cell_2 (a := 157) (n := 330) rfl, fi_z (by decide)]
  rfl
theorem kc_158 : mkc fi gi 158 = zr 7 := kz (a := 158) (n := 7) rfl (fi_z (by decide))
theorem kc_159 : mkc fi gi 159 = zr 112 := kz (a := 159) (n := 112) rfl (fi_z (by decide))
theorem kc_160 : mkc fi gi 160 = zr 12 := kz (a := 160) (n := 12) rfl (fi_z (by decide))
theorem kc_161 : mkc fi gi 161 = zr 128 := kz (a := 161) (n := 128) rfl (fi_z (by decide))
theorem kc_162 : mkc fi gi 162 = zr 128 := kz (a := 162) (n := 128) rfl (fi_z (by decide))
theorem kc_163 : mkc fi gi 163 = zr 7 := kz (a := 163) (n := 7) rfl (fi_z (by decide))
theorem kc_164 : mkc fi gi 164 = zr 7 := kz (a := 164) (n := 7) rfl (fi_z (by decide))
theorem kc_165 : mkc fi gi 165 = zr 896 := kz (a := 165) (n := 896) rfl (fi_z (by decide))
theorem kc_166 : mkc fi gi 166 = zl 10 := by
  rw [cell_1 (a := 166) (n := 10) rfl]
  rfl
theorem kc_167 : mkc fi gi 167 = zl 10 := by
  rw [cell_1 (a := 167) (n := 10) rfl]
  rfl
theorem s_0 : ([.inr (10, fC)] : m_H) = sg 0 1 := by
  rw [show sg 0 1 = [mkc fi gi 0] from rfl, kc_0]
  rfl
theorem sW1 : cW 1 = sg 1 2 := by
  rw [show sg 1 2 = [mkc fi gi 1, mkc fi gi 2] from rfl, kc_1, kc_2]
  rfl
theorem sW51 : cW 51 = sg 51 2 := by
  rw [show sg 51 2 = [mkc fi gi 51, mkc fi gi 52] from rfl, kc_51, kc_52]
  rfl
theorem sW101 : cW 101 = sg 101 2 := by
  rw [show sg 101 2 = [mkc fi gi 101, mkc fi gi 102] from rfl, kc_101, kc_102]
  rfl
theorem sS3 : cS 3 = sg 3 33 := by
  have r : List.replicate 31 (zr 141) = sg 5 31 := sg_rep (by decide +kernel) (fun i h1 h2 => fi_z (by omega))
  unfold cS
  rw [r, show sg 3 33 = sg 3 2 ++ sg 5 31 from (sg_app (a := 3) (n := 2) (b := 5) (m := 31) rfl).symm, show sg 3 2 = [mkc fi gi 3, mkc fi gi 4] from rfl, kc_3, kc_4]
  rfl
theorem sS53 : cS 53 = sg 53 33 := by
  have r : List.replicate 31 (zr 141) = sg 55 31 := sg_rep (by decide +kernel) (fun i h1 h2 => fi_z (by omega))
  unfold cS
  rw [r, show sg 53 33 = sg 53 2 ++ sg 55 31 from (sg_app (a := 53) (n := 2) (b := 55) (m := 31) rfl).symm, show sg 53 2 = [mkc fi gi 53, mkc fi gi 54] from rfl, kc_53, kc_54]
  rfl
theorem sT36 : cT 36 = sg 36 15 := by
  rw [show sg 36 15 = [mkc fi gi 36, mkc fi gi 37, mkc fi gi 38, mkc fi gi 39, mkc fi gi 40, mkc fi gi 41, mkc fi gi 42, mkc fi gi 43, mkc fi gi 44, mkc fi gi 45, mkc fi gi 46, mkc fi gi 47, mkc fi gi 48, mkc fi gi 49, mkc fi gi 50] from rfl, kc_36, kc_37, kc_38, kc_39, kc_40, kc_41, kc_42, kc_43, kc_44, kc_45, kc_46, kc_47, kc_48, kc_49, kc_50]
  rfl
theorem sT86 : cT 86 = sg 86 15 := by
  rw [show sg 86 15 = [mkc fi gi 86, mkc fi gi 87, mkc fi gi 88, mkc fi gi 89, mkc fi gi 90, mkc fi gi 91, mkc fi gi 92, mkc fi gi 93, mkc fi gi 94, mkc fi gi 95, mkc fi gi 96, mkc fi gi 97, mkc fi gi 98, mkc fi gi 99, mkc fi gi 100] from rfl, kc_86, kc_87, kc_88, kc_89, kc_90, kc_91, kc_92, kc_93, kc_94, kc_95, kc_96, kc_97, kc_98, kc_99, kc_100]
  rfl
theorem s_103 : ([rw3 4] : m_H) = sg 103 1 := by
  rw [show sg 103 1 = [mkc fi gi 103] from rfl, kc_103]
theorem sP104 : cP 104 = sg 104 6 := by
  rw [show sg 104 6 = [mkc fi gi 104, mkc fi gi 105, mkc fi gi 106, mkc fi gi 107, mkc fi gi 108, mkc fi gi 109] from rfl, kc_104, kc_105, kc_106, kc_107, kc_108, kc_109]
  rfl
theorem sP110 : cP 110 = sg 110 6 := by
  rw [show sg 110 6 = [mkc fi gi 110, mkc fi gi 111, mkc fi gi 112, mkc fi gi 113, mkc fi gi 114, mkc fi gi 115] from rfl, kc_110, kc_111, kc_112, kc_113, kc_114, kc_115]
  rfl
theorem sP116 : cP 116 = sg 116 6 := by
  rw [show sg 116 6 = [mkc fi gi 116, mkc fi gi 117, mkc fi gi 118, mkc fi gi 119, mkc fi gi 120, mkc fi gi 121] from rfl, kc_116, kc_117, kc_118, kc_119, kc_120, kc_121]
  rfl
theorem sP122 : cP 122 = sg 122 6 := by
  rw [show sg 122 6 = [mkc fi gi 122, mkc fi gi 123, mkc fi gi 124, mkc fi gi 125, mkc fi gi 126, mkc fi gi 127] from rfl, kc_122, kc_123, kc_124, kc_125, kc_126, kc_127]
  rfl
theorem sQ : cQ 128 = sg 128 8 := by
  rw [show sg 128 8 = [mkc fi gi 128, mkc fi gi 129, mkc fi gi 130, mkc fi gi 131, mkc fi gi 132, mkc fi gi 133, mkc fi gi 134, mkc fi gi 135] from rfl, kc_128, kc_129, kc_130, kc_131, kc_132, kc_133, kc_134, kc_135]
  rfl
theorem sL : cL 136 = sg 136 2 := by
  rw [show sg 136 2 = [mkc fi gi 136, mkc fi gi 137] from rfl, kc_136, kc_137]
  rfl
theorem sE : cE 138 = sg 138 3 := by
  rw [show sg 138 3 = [mkc fi gi 138, mkc fi gi 139, mkc fi gi 140] from rfl, kc_138, kc_139, kc_140]
  rfl
theorem sD : cD 141 = sg 141 3 := by
  rw [show sg 141 3 = [mkc fi gi 141, mkc fi gi 142, mkc fi gi 143] from rfl, kc_141, kc_142, kc_143]
  rfl
theorem sZ : cZ 144 = sg 144 5 := by
  rw [show sg 144 5 = [mkc fi gi 144, mkc fi gi 145, mkc fi gi 146, mkc fi gi 147, mkc fi gi 148] from rfl, kc_144, kc_145, kc_146, kc_147, kc_148]
  rfl
def fM : List Value := [.ref 150, .ref 151, .ref 152, .ref 153, .int 0, .int (-1), .int (-1), .int 0, .int 0, .int 0, .int 0, .long 0, .int 0, .int 0, .int 0, .ref 154, .int 0, .int 0, .int 0, .int 0, .ref 155, .ref 156, .ref 157, .int 1, .ref 158, .ref 159, .ref 160, .ref 161, .ref 162, .ref 163, .ref 164, .long 0, .long 0, .ref 165, .ref 166, .ref 167]
def RM : m_H := [zr 11730, zr 11730, zr 3012, zr 300, zr 160, zr 14, zl 330, zb 330, zr 7, zr 112, zr 12, zr 128, zr 128, zr 7, zr 7, zr 896, zl 10, zl 10]
theorem sM : (.inr (11, fM) :: RM : m_H) = sg 149 19 := by
  rw [show sg 149 19 = [mkc fi gi 149, mkc fi gi 150, mkc fi gi 151, mkc fi gi 152, mkc fi gi 153, mkc fi gi 154, mkc fi gi 155, mkc fi gi 156, mkc fi gi 157, mkc fi gi 158, mkc fi gi 159, mkc fi gi 160, mkc fi gi 161, mkc fi gi 162, mkc fi gi 163, mkc fi gi 164, mkc fi gi 165, mkc fi gi 166, mkc fi gi 167] from rfl, kc_149, kc_150, kc_151, kc_152, kc_153, kc_154, kc_155, kc_156, kc_157, kc_158, kc_159, kc_160, kc_161, kc_162, kc_163, kc_164, kc_165, kc_166, kc_167]
  rfl
theorem sR7 : R7 = sg 1 102 := by
  unfold R7
  rw [sW1, sS3, sT36, sW51, sS53, sT86, sW101, sg_app (a := 1) (n := 2) (b := 3) (m := 33) rfl, sg_app (a := 1) (n := 2 + 33) (b := 36) (m := 15) rfl, sg_app (a := 1) (n := 2 + 33 + 15) (b := 51) (m := 2) rfl, sg_app (a := 1) (n := 2 + 33 + 15 + 2) (b := 53) (m := 33) rfl, sg_app (a := 1) (n := 2 + 33 + 15 + 2 + 33) (b := 86) (m := 15) rfl, sg_app (a := 1) (n := 2 + 33 + 15 + 2 + 33 + 15) (b := 101) (m := 2) rfl] <;> rfl
theorem sSc : Sc 4 = sg 104 24 := by
  show [] ++ cP 104 ++ cP 110 ++ cP 116 ++ cP 122 = _
  rw [List.nil_append, sP104, sP110, sP116, sP122, sg_app (a := 104) (n := 6) (b := 110) (m := 6) rfl, sg_app (a := 104) (n := 6 + 6) (b := 116) (m := 6) rfl, sg_app (a := 104) (n := 6 + 6 + 6) (b := 122) (m := 6) rfl] <;> rfl
theorem sR8 : R8 = sg 1 127 := by
  unfold R8
  rw [show (rw3 4 :: Sc 4 : m_H) = [rw3 4] ++ Sc 4 from rfl, sR7, sSc, s_103, sg_app (a := 103) (n := 1) (b := 104) (m := 24) rfl, sg_app (a := 1) (n := 102) (b := 103) (m := 1 + 24) rfl] <;> rfl
theorem sRC : RC = sg 1 148 := by
  unfold RC
  rw [sR8, sQ, sL, sE, sD, sZ, sg_app (a := 1) (n := 127) (b := 128) (m := 8) rfl, sg_app (a := 1) (n := 127 + 8) (b := 136) (m := 2) rfl, sg_app (a := 1) (n := 127 + 8 + 2) (b := 138) (m := 3) rfl, sg_app (a := 1) (n := 127 + 8 + 2 + 3) (b := 141) (m := 3) rfl, sg_app (a := 1) (n := 127 + 8 + 2 + 3 + 3) (b := 144) (m := 5) rfl] <;> rfl
theorem H_mk : hC ++ (.inr (11, fM) :: RM) = mk fi gi := by
  unfold hC
  rw [show (.inr (10, fC) :: RC : m_H) = [.inr (10, fC)] ++ RC from rfl, s_0, sRC, sM, sg_app (a := 0) (n := 1) (b := 1) (m := 148) rfl, sg_app (a := 0) (n := 1 + 148) (b := 149) (m := 19) rfl]
  unfold mk sg
  rw [List.range_eq_range'] <;> rfl
