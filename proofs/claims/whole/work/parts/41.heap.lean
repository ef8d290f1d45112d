-- the heap after construction: a fixed shape, its ints as functions (F of int cells, G of long cells)
abbrev Fn : Type := Int → Int
/-- the shape: (0 | 1 | 2, length) a row of ints, longs, booleans; (3 | 4, length, first, step) a row of references; (10 + class, 0, fields: 0 int, 1 long, 2 reference) -/
def shT : List (Nat × Nat × List (Nat × Nat)) := [(20, 0, [(2, 1), (2, 3), (2, 36), (2, 51), (2, 53), (2, 86), (2, 101), (2, 103), (2, 128), (2, 136), (2, 138), (2, 141), (2, 144)]), (19, 0, [(2, 2)]), (0, 141, []), (16, 0, [(2, 4), (0, 0), (0, 0)]), (4, 31, [(5, 1)]), (0, 141, []), (0, 141, []), (0, 141, []), (0, 141, []), (0, 141, []), (0, 141, []), (0, 141, []), (0, 141, []), (0, 141, []), (0, 141, []), (0, 141, []), (0, 141, []), (0, 141, []), (0, 141, []), (0, 141, []), (0, 141, []), (0, 141, []), (0, 141, []), (0, 141, []), (0, 141, []), (0, 141, []), (0, 141, []), (0, 141, []), (0, 141, []), (0, 141, []), (0, 141, []), (0, 141, []), (0, 141, []), (0, 141, []), (0, 141, []), (0, 141, []), (17, 0, [(2, 37), (2, 39), (2, 41), (2, 43), (2, 45), (2, 47), (2, 49), (0, 0), (0, 0)]), (14, 0, [(2, 38), (0, 0)]), (0, 12, []), (14, 0, [(2, 40), (0, 0)]), (0, 8, []), (14, 0, [(2, 42), (0, 0)]), (0, 6, []), (14, 0, [(2, 44), (0, 0)]), (0, 6, []), (14, 0, [(2, 46), (0, 0)]), (0, 6, []), (14, 0, [(2, 48), (0, 0)]), (0, 8, []), (14, 0, [(2, 50), (0, 0)]), (0, 8, []), (19, 0, [(2, 52)]), (0, 141, []), (16, 0, [(2, 54), (0, 0), (0, 0)]), (4, 31, [(55, 1)]), (0, 141, []), (0, 141, []), (0, 141, []), (0, 141, []), (0, 141, []), (0, 141, []), (0, 141, []), (0, 141, []), (0, 141, []), (0, 141, []), (0, 141, []), (0, 141, []), (0, 141, []), (0, 141, []), (0, 141, []), (0, 141, []), (0, 141, []), (0, 141, []), (0, 141, []), (0, 141, []), (0, 141, []), (0, 141, []), (0, 141, []), (0, 141, []), (0, 141, []), (0, 141, []), (0, 141, []), (0, 141, []), (0, 141, []), (0, 141, []), (0, 141, []), (17, 0, [(2, 87), (2, 89), (2, 91), (2, 93), (2, 95), (2, 97), (2, 99), (0, 0), (0, 0)]), (14, 0, [(2, 88), (0, 0)]), (0, 12, []), (14, 0, [(2, 90), (0, 0)]), (0, 8, []), (14, 0, [(2, 92), (0, 0)]), (0, 6, []), (14, 0, [(2, 94), (0, 0)]), (0, 6, []), (14, 0, [(2, 96), (0, 0)]), (0, 6, []), (14, 0, [(2, 98), (0, 0)]), (0, 8, []), (14, 0, [(2, 100), (0, 0)]), (0, 8, []), (19, 0, [(2, 102)]), (0, 141, []), (3, 4, [(104, 6)]), (15, 0, [(2, 105), (2, 106), (2, 107), (2, 108), (2, 109), (0, 0), (0, 0)]), (0, 24, []), (0, 24, []), (0, 24, []), (0, 300, []), (0, 4, []), (15, 0, [(2, 111), (2, 112), (2, 113), (2, 114), (2, 115), (0, 0), (0, 0)]), (0, 24, []), (0, 24, []), (0, 24, []), (0, 300, []), (0, 4, []), (15, 0, [(2, 117), (2, 118), (2, 119), (2, 120), (2, 121), (0, 0), (0, 0)]), (0, 24, []), (0, 24, []), (0, 24, []), (0, 300, []), (0, 4, []), (15, 0, [(2, 123), (2, 124), (2, 125), (2, 126), (2, 127), (0, 0), (0, 0)]), (0, 24, []), (0, 24, []), (0, 24, []), (0, 300, []), (0, 4, []), (13, 0, [(2, 129), (2, 135), (0, 0), (0, 0), (0, 0), (0, 0), (0, 0), (0, 0), (0, 0), (0, 0)]), (15, 0, [(2, 130), (2, 131), (2, 132), (2, 133), (2, 134), (0, 0), (0, 0)]), (0, 24, []), (0, 24, []), (0, 24, []), (0, 300, []), (0, 4, []), (0, 300, []), (11, 0, [(2, 137), (0, 0)]), (0, 64, []), (18, 0, [(2, 139), (2, 140)]), (0, 7, []), (0, 7, []), (10, 0, [(2, 142), (0, 0), (0, 0)]), (14, 0, [(2, 143), (0, 0)]), (0, 12, []), (12, 0, [(0, 0), (0, 0), (0, 0), (2, 145), (2, 146), (2, 147), (2, 148)]), (0, 128, []), (0, 128, []), (0, 9, []), (0, 9, []), (21, 0, [(2, 150), (2, 151), (2, 152), (2, 153), (0, 0), (0, 0), (0, 0), (0, 0), (0, 0), (0, 0), (0, 0), (1, 0), (0, 0), (0, 0), (0, 0), (2, 154), (0, 0), (0, 0), (0, 0), (0, 0), (2, 155), (2, 156), (2, 157), (0, 0), (2, 158), (2, 159), (2, 160), (2, 161), (2, 162), (2, 163), (2, 164), (1, 0), (1, 0), (2, 165), (2, 166), (2, 167)]), (0, 11730, []), (0, 11730, []), (0, 3012, []), (0, 300, []), (0, 160, []), (0, 14, []), (1, 330, []), (2, 330, []), (0, 7, []), (0, 112, []), (0, 12, []), (0, 128, []), (0, 128, []), (0, 7, []), (0, 7, []), (0, 896, []), (1, 10, []), (1, 10, [])]
def shp (a : Nat) : Nat × Nat × List (Nat × Nat) := shT.getD a (9, 0, [])
def fcell (F G : Nat → Fn) (a k : Nat) (q : Nat × Nat) : Value := if q.1 = 0 then .int (jI (F a k)) else if q.1 = 1 then .long (jL (G a k)) else .ref q.2
def mkc (F G : Nat → Fn) (a : Nat) : m_E :=
  if (shp a).1 = 0 then .inl (0, (shp a).2.1, .inl (fun k => jI (F a k)))
  else if (shp a).1 = 1 then .inl (1, (shp a).2.1, .inr (.inl (fun k => jL (G a k))))
  else if (shp a).1 = 2 then .inl (2, (shp a).2.1, .inl (fun k => jI (F a k)))
  else if (shp a).1 < 10 then .inl ((shp a).1, (shp a).2.1, .inr (.inr (.inr (.inr (fun k => if k < (shp a).2.1 then some (((shp a).2.2.getD 0 (0, 0)).1 + ((shp a).2.2.getD 0 (0, 0)).2 * k) else none)))))
  else .inr ((shp a).1 - 10, (shp a).2.2.mapIdx (fun k q => fcell F G a k q))
def mk (F G : Nat → Fn) : m_H := (List.range 168).map (mkc F G)
def u (f : Fn) (z v : Int) : Fn := fun k => if k = z then v else f k
def sA (F : Nat → Fn) (a : Nat) (f : Fn) : Nat → Fn := fun b => if b = a then f else F b
def cp (f g : Fn) (p q n : Int) : Fn := fun k => if q ≤ k ∧ k < q + n then f (p + (k - q)) else g k
theorem u_eq (f : Fn) (z v : Int) : u f z v z = v := by simp [u]
theorem u_ne (f : Fn) {z k : Int} (v : Int) (h : ¬ k = z) : u f z v k = f k := by simp [u, h]
theorem sA_eq (F : Nat → Fn) (a : Nat) (f : Fn) : sA F a f a = f := by simp [sA]
theorem sA_ne (F : Nat → Fn) {a b : Nat} (f : Fn) (h : ¬ b = a) : sA F a f b = F b := by simp [sA, h]
theorem sA_sA (F : Nat → Fn) (a : Nat) (f g : Fn) : sA (sA F a f) a g = sA F a g := by
  funext b
  simp only [sA]
  split <;> rfl
theorem sA_self (F : Nat → Fn) (a : Nat) : sA F a (F a) = F := by
  funext b
  simp only [sA]
  split
  · rename_i h; rw [h]
  · rfl
theorem mk_o (F G : Nat → Fn) {a : Nat} (h : a < 168) : m_o (mk F G) a = some (mkc F G a) := by
  unfold m_o mk
  rw [if_pos (by omega), List.getElem?_map, List.getElem?_range h]
  rfl
theorem cell_congr {F F' G G' : Nat → Fn} {a : Nat} (h : F a = F' a) (h' : G a = G' a) : mkc F G a = mkc F' G' a := by
  unfold mkc fcell
  rw [h, h']
theorem mk_set {F F' G G' : Nat → Fn} {a : Nat} {e : m_E} (ha : a < 168) (h : ∀ b, b ≠ a → F b = F' b) (h' : ∀ b, b ≠ a → G b = G' b) (he : mkc F' G' a = e) : (mk F G).set a e = mk F' G' := by
  apply List.ext_getElem?
  intro b
  unfold mk
  rw [List.getElem?_set]
  by_cases hb : a = b
  · subst hb
    simp [ha, he]
  · rw [if_neg hb]
    by_cases hb2 : b < 168
    · rw [List.getElem?_map, List.getElem?_map, List.getElem?_range hb2]
      simp only [Option.map_some]
      rw [cell_congr (h b (fun z => hb z.symm)) (h' b (fun z => hb z.symm))]
    · simp [List.getElem?_map, hb2]
theorem mk_ri (F G : Nat → Fn) {a n : Nat} (h : a < 168) (hs : shp a = (0, n, [])) : m_ri (mk F G) 0 a = some (n, fun k : Nat => jI (F a k)) := by
  unfold m_ri
  rw [mk_o F G h]
  unfold mkc
  rw [hs]
  rfl
theorem mk_rb (F G : Nat → Fn) {a n : Nat} (h : a < 168) (hs : shp a = (2, n, [])) : m_ri (mk F G) 2 a = some (n, fun k : Nat => jI (F a k)) := by
  unfold m_ri
  rw [mk_o F G h]
  unfold mkc
  rw [hs]
  rfl
theorem mk_rl (F G : Nat → Fn) {a n : Nat} (h : a < 168) (hs : shp a = (1, n, [])) : m_rl (mk F G) a = some (n, fun k : Nat => jL (G a k)) := by
  unfold m_rl
  rw [mk_o F G h]
  unfold mkc
  rw [hs]
  rfl
theorem mk_ia (x : m_X) (F G : Nat → Fn) {a n : Nat} {z : Int} (h : a < 168) (hs : shp a = (0, n, [])) (hn : n < 2147483648) (h0 : 0 ≤ z) (h1 : z < n) : m_ia x (mk F G) a (jI z) = some (jI (F a z)) := by
  unfold m_ia
  rw [if_pos (by omega), mk_ri F G h hs]
  show (m_ix (jI z) n).map (fun k : Nat => jI (F a k)) = _
  rw [jI_ix h0 h1 hn]
  simp [Int.toNat_of_nonneg h0]
theorem mk_ba (x : m_X) (F G : Nat → Fn) {a n : Nat} {z : Int} (h : a < 168) (hs : shp a = (2, n, [])) (hn : n < 2147483648) (h0 : 0 ≤ z) (h1 : z < n) : m_ba x (mk F G) a (jI z) = some (jI (F a z)) := by
  unfold m_ba
  rw [if_pos (by omega), mk_rb F G h hs]
  show (m_ix (jI z) n).map (fun k : Nat => jI (F a k)) = _
  rw [jI_ix h0 h1 hn]
  simp [Int.toNat_of_nonneg h0]
theorem mk_la (F G : Nat → Fn) {a n : Nat} {z : Int} (h : a < 168) (hs : shp a = (1, n, [])) (hn : n < 2147483648) (h0 : 0 ≤ z) (h1 : z < n) : m_la (mk F G) a (jI z) = some (jL (G a z)) := by
  unfold m_la
  rw [mk_rl F G h hs]
  show (m_ix (jI z) n).map (fun k : Nat => jL (G a k)) = _
  rw [jI_ix h0 h1 hn]
  simp [Int.toNat_of_nonneg h0]
theorem u_upd (f : Fn) (z v : Int) (h0 : 0 ≤ z) : upd (fun k : Nat => jI (f k)) z.toNat (jI v) = fun k : Nat => jI (u f z v k) := by
  funext k
  unfold upd u
  by_cases h : k = z.toNat
  · rw [if_pos h, if_pos (by omega)]
  · rw [if_neg h, if_neg (by omega)]
theorem u_updL (f : Fn) (z v : Int) (h0 : 0 ≤ z) : vp_updL (fun k : Nat => jL (f k)) z.toNat (jL v) = fun k : Nat => jL (u f z v k) := by
  funext k
  unfold vp_updL u
  by_cases h : k = z.toNat
  · rw [if_pos h, if_pos (by omega)]
  · rw [if_neg h, if_neg (by omega)]
theorem mk_is (F G : Nat → Fn) {a n : Nat} {z : Int} (v : Int) (h : a < 168) (hs : shp a = (0, n, [])) (hn : n < 2147483648) (h0 : 0 ≤ z) (h1 : z < n) : m_is (mk F G) a (jI z) (jI v) = some (mk (sA F a (u (F a) z v)) G) := by
  unfold m_is
  rw [mk_ri F G h hs]
  show (m_ix (jI z) n).map (fun j => (mk F G).set a (.inl (0, n, .inl (upd (fun k : Nat => jI (F a k)) j (jI v))))) = _
  rw [jI_ix h0 h1 hn, Option.map_some, u_upd _ _ _ h0]
  congr 1
  apply mk_set h
  · intro b hb; rw [sA_ne _ _ hb]
  · intro b hb; rfl
  · unfold mkc
    rw [hs, sA_eq]
    rfl
theorem mk_bs (F G : Nat → Fn) {a n : Nat} {z : Int} (v : Int) (h : a < 168) (hs : shp a = (2, n, [])) (hn : n < 2147483648) (h0 : 0 ≤ z) (h1 : z < n) (hv : v = 0 ∨ v = 1) : m_bs (mk F G) a (jI z) (jI v) = some (mk (sA F a (u (F a) z v)) G) := by
  unfold m_bs
  rw [if_pos (by rcases hv with h | h <;> subst h <;> decide), mk_rb F G h hs]
  show (m_ix (jI z) n).map (fun j => (mk F G).set a (.inl (2, n, .inl (upd (fun k : Nat => jI (F a k)) j (jI v))))) = _
  rw [jI_ix h0 h1 hn, Option.map_some, u_upd _ _ _ h0]
  congr 1
  apply mk_set h
  · intro b hb; rw [sA_ne _ _ hb]
  · intro b hb; rfl
  · unfold mkc
    rw [hs, sA_eq]
    rfl
theorem mk_lst (F G : Nat → Fn) {a n : Nat} {z : Int} (v : Int) (h : a < 168) (hs : shp a = (1, n, [])) (hn : n < 2147483648) (h0 : 0 ≤ z) (h1 : z < n) : m_lst (mk F G) a (jI z) (jL v) = some (mk F (sA G a (u (G a) z v))) := by
  unfold m_lst
  rw [mk_rl F G h hs]
  show (m_ix (jI z) n).map (fun j => (mk F G).set a (.inl (1, n, .inr (.inl (vp_updL (fun k : Nat => jL (G a k)) j (jL v)))))) = _
  rw [jI_ix h0 h1 hn, Option.map_some, u_updL _ _ _ h0]
  congr 1
  apply mk_set h
  · intro b hb; rfl
  · intro b hb; rw [sA_ne _ _ hb]
  · unfold mkc
    rw [hs, sA_eq]
    rfl
theorem mk_aa (F G : Nat → Fn) {a t n p q : Nat} {z : Int} (h : a < 168) (hs : shp a = (t, n, [(p, q)])) (ht : t = 3 ∨ t = 4) (hn : n < 2147483648) (h0 : 0 ≤ z) (h1 : z < n) : m_aa (mk F G) a (jI z) = some (p + q * z.toNat) := by
  have e : m_o (mk F G) a = some (.inl (t, n, .inr (.inr (.inr (.inr (fun k => if k < n then some (p + q * k) else none)))))) := by
    rw [mk_o F G h]
    unfold mkc
    rw [hs]
    rcases ht with rfl | rfl <;> rfl
  have e2 : m_ix (jI z) n = some z.toNat := jI_ix h0 h1 hn
  have e3 : z.toNat < n := by omega
  unfold m_aa m_rr
  rw [e]
  rcases ht with rfl | rfl
  · simp [e2, e3]
  · simp [e2, e3]
theorem mk_len (x : m_X) (F G : Nat → Fn) {a t n : Nat} (h : a < 168) (hs : shp a = (t, n, [])) (ht : t < 3) : m_len x (mk F G) a = some (jI n) := by
  unfold m_len
  rw [if_pos (by omega), mk_o F G h]
  unfold mkc
  rw [hs]
  have e : Int32.ofNat n = jI n := by unfold jI; rw [Int32.ofInt_eq_ofNat]
  have : t = 0 ∨ t = 1 ∨ t = 2 := by omega
  rcases this with rfl | rfl | rfl <;> simp [e]
theorem mk_fv (F G : Nat → Fn) {o ci k : Nat} {fs : List (Nat × Nat)} {q : Nat × Nat} (h : o < 168) (hs : shp o = (10 + ci, 0, fs)) (hq : fs[k]? = some q) : m_fv (mk F G) ci k o = some (fcell F G o k q) := by
  unfold m_fv
  rw [mk_o F G h]
  unfold mkc
  rw [hs]
  have e1 : ¬ (10 + ci = 0) := by omega
  have e2 : ¬ (10 + ci = 1) := by omega
  have e3 : ¬ (10 + ci = 2) := by omega
  have e4 : ¬ (10 + ci < 10) := by omega
  simp only [if_neg e1, if_neg e2, if_neg e3, if_neg e4, Nat.add_sub_cancel_left, if_true, List.getElem?_mapIdx, hq, Option.map_some]
theorem mk_fI (F G : Nat → Fn) {o ci k r : Nat} {fs : List (Nat × Nat)} (h : o < 168) (hs : shp o = (10 + ci, 0, fs)) (hq : fs[k]? = some (0, r)) : m_fI (mk F G) ci k o = some (jI (F o k)) := by
  unfold m_fI
  rw [mk_fv F G h hs hq]
  rfl
theorem mk_fL (F G : Nat → Fn) {o ci k r : Nat} {fs : List (Nat × Nat)} (h : o < 168) (hs : shp o = (10 + ci, 0, fs)) (hq : fs[k]? = some (1, r)) : m_fL (mk F G) ci k o = some (jL (G o k)) := by
  unfold m_fL
  rw [mk_fv F G h hs hq]
  rfl
theorem mk_fR (F G : Nat → Fn) {o ci k r : Nat} {fs : List (Nat × Nat)} (h : o < 168) (hs : shp o = (10 + ci, 0, fs)) (hq : fs[k]? = some (2, r)) : m_fR (mk F G) ci k o = some r := by
  unfold m_fR
  rw [mk_fv F G h hs hq]
  rfl
theorem mk_isO (F G : Nat → Fn) {o ci : Nat} {fs : List (Nat × Nat)} (h : o < 168) (hs : shp o = (10 + ci, 0, fs)) : m_isO (mk F G) o ci = true := by
  unfold m_isO
  rw [mk_o F G h]
  unfold mkc
  rw [hs]
  have e1 : ¬ (10 + ci = 0) := by omega
  have e2 : ¬ (10 + ci = 1) := by omega
  have e3 : ¬ (10 + ci = 2) := by omega
  have e4 : ¬ (10 + ci < 10) := by omega
  simp only [if_neg e1, if_neg e2, if_neg e3, if_neg e4, Nat.add_sub_cancel_left, beq_self_eq_true]
theorem mk_obj (F G : Nat → Fn) {o ci : Nat} {fs : List (Nat × Nat)} (h : o < 168) (hs : shp o = (10 + ci, 0, fs)) : m_o (mk F G) o = some (.inr (ci, fs.mapIdx (fun k q => fcell F G o k q))) := by
  rw [mk_o F G h]
  unfold mkc
  rw [hs]
  have e1 : ¬ (10 + ci = 0) := by omega
  have e2 : ¬ (10 + ci = 1) := by omega
  have e3 : ¬ (10 + ci = 2) := by omega
  have e4 : ¬ (10 + ci < 10) := by omega
  simp only [if_neg e1, if_neg e2, if_neg e3, if_neg e4, Nat.add_sub_cancel_left]
theorem cell_obj (F G : Nat → Fn) {o ci : Nat} {fs : List (Nat × Nat)} (hs : shp o = (10 + ci, 0, fs)) : mkc F G o = .inr (ci, fs.mapIdx (fun k q => fcell F G o k q)) := by
  unfold mkc
  rw [hs]
  have e1 : ¬ (10 + ci = 0) := by omega
  have e2 : ¬ (10 + ci = 1) := by omega
  have e3 : ¬ (10 + ci = 2) := by omega
  have e4 : ¬ (10 + ci < 10) := by omega
  simp only [if_neg e1, if_neg e2, if_neg e3, if_neg e4, Nat.add_sub_cancel_left]
theorem mk_pfI (F G : Nat → Fn) {o ci k r : Nat} {fs : List (Nat × Nat)} (v : Int) (h : o < 168) (hs : shp o = (10 + ci, 0, fs)) (hq : fs[k]? = some (0, r)) : m_pf (mk F G) ci k o (.int (jI v)) = some (mk (sA F o (u (F o) k v)) G) := by
  have hk : k < fs.length := by
    obtain ⟨h1, h2⟩ := List.getElem?_eq_some_iff.mp hq
    exact h1
  unfold m_pf
  rw [mk_obj F G h hs]
  simp only [List.length_mapIdx, hk, and_self, if_true]
  congr 1
  apply mk_set h
  · intro b hb; rw [sA_ne _ _ hb]
  · intro b hb; rfl
  · rw [cell_obj _ _ hs]
    congr 2
    apply List.ext_getElem?
    intro j
    rw [List.getElem?_set, List.getElem?_mapIdx, List.getElem?_mapIdx]
    by_cases hj : k = j
    · subst hj
      rw [if_pos rfl, List.length_mapIdx, if_pos hk, hq]
      simp [fcell, sA_eq, u_eq]
    · rw [if_neg hj]
      congr 1
      funext q
      unfold fcell
      rw [sA_eq, u_ne _ _ (by omega)]
theorem mk_pfL (F G : Nat → Fn) {o ci k r : Nat} {fs : List (Nat × Nat)} (v : Int) (h : o < 168) (hs : shp o = (10 + ci, 0, fs)) (hq : fs[k]? = some (1, r)) : m_pf (mk F G) ci k o (.long (jL v)) = some (mk F (sA G o (u (G o) k v))) := by
  have hk : k < fs.length := by
    obtain ⟨h1, h2⟩ := List.getElem?_eq_some_iff.mp hq
    exact h1
  unfold m_pf
  rw [mk_obj F G h hs]
  simp only [List.length_mapIdx, hk, and_self, if_true]
  congr 1
  apply mk_set h
  · intro b hb; rfl
  · intro b hb; rw [sA_ne _ _ hb]
  · rw [cell_obj _ _ hs]
    congr 2
    apply List.ext_getElem?
    intro j
    rw [List.getElem?_set, List.getElem?_mapIdx, List.getElem?_mapIdx]
    by_cases hj : k = j
    · subst hj
      rw [if_pos rfl, List.length_mapIdx, if_pos hk, hq]
      simp [fcell, sA_eq, u_eq]
    · rw [if_neg hj]
      congr 1
      funext q
      unfold fcell
      rw [sA_eq, u_ne _ _ (by omega)]
theorem mk_cpy (F G : Nat → Fn) {a b n m : Nat} {p q l : Int} (ha : a < 168) (hb : b < 168) (hsa : shp a = (0, n, [])) (hsb : shp b = (0, m, [])) (hn : n < 2147483648) (hm : m < 2147483648) (hp : 0 ≤ p) (hq : 0 ≤ q) (hl : 0 ≤ l) (h1 : p + l ≤ n) (h2 : q + l ≤ m) : m_cpy (mk F G) a (jI p) b (jI q) (jI l) = some (mk (sA F b (cp (F a) (F b) p q l)) G) := by
  have z0 : (0 : Int32) = jI 0 := rfl
  unfold m_cpy
  rw [mk_ri F G ha hsa, mk_ri F G hb hsb]
  dsimp only
  rw [z0, jI_clamp (by omega) (by omega), jI_clamp (by omega) (by omega), jI_clamp (by omega) (by omega), if_pos (by
    refine ⟨?_, ?_, ?_, ?_, ?_⟩
    · rw [jI_lt (by omega) (by omega) (by omega) (by omega)]; omega
    · rw [jI_lt (by omega) (by omega) (by omega) (by omega)]; omega
    · rw [jI_lt (by omega) (by omega) (by omega) (by omega)]; omega
    · omega
    · omega)]
  congr 1
  apply mk_set hb
  · intro c hc; rw [sA_ne _ _ hc]
  · intro c hc; rfl
  · unfold mkc
    rw [hsb, sA_eq]
    show (Sum.inl (0, m, Sum.inl (fun k : Nat => jI (cp (F a) (F b) p q l k))) : m_E) = _
    congr 3
    congr 1
    funext k
    unfold va_cpy cp
    by_cases hk : q ≤ (k : Int) ∧ (k : Int) < q + l
    · rw [if_pos hk, if_pos (by omega)]
      congr 2
      omega
    · rw [if_neg hk, if_neg (by omega)]
