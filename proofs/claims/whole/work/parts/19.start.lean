-- the law's start: the claim out of one run of the small machine (begun as kit/laws/SKELETON.whole prints it)
-- ===== end of PART A; then your names; then what follows =====
/-! THE CLAIM OUT OF ONE WALK OF THE LAW'S BODY. Your part is whole_start (and what it stands on); all else here is the same for every law, but numbers. -/
def R_law : String := "LeftGloveLaw"
def lw_P (b : Addr) (xs : List Int32) (args : Array Value) (s : State) : Prop := args = #[.ref b] ∧ s.IntsAt b xs ∧ xs.length ≤ 4096 ∧ (Jvm.Cond.and given_1 narrow_1).before args s = true
def lw_Q (_ : Array Value) (s : State) (o : Outcome) (t : State) : Prop := o = .returned (some (.int 1)) ∧ Framed s o t [] 600000 7302250
def lw_Z (below : List Frame) (a : Array Value) (s : State) : State → Prop := fun t => ∃ o, t.status = .running ∧ Ended t below o ∧ lw_Q a s o t
/-- the law's own end, with 1 on the stack, nothing written that was there before, its room as the claim has it -/
theorem lw_ret {p : Program} {l : Launch} {e : Env} {s : State} {m : MethodId} {below : List Frame} {meth : Method} {c : Code} {b : Nat} (hx : p.tables.exec = Jvm.exec) (hb : c.code = code) (hr : meth.sig.returnType = ret) (hlocks : meth.locks = false) {pc : Nat} {H : Heap} {ls : Array Slot} (hdg : decode code pc = .ok (.ireturn, 1)) : W p l e room_1 s m #[Value.ref b] below meth c H [] 600000 7302250 (lw_Z below #[Value.ref b] s) (F0 m pc ls [.int 1]) := by
  intro T hT X
  obtain ⟨fs, hret, hrun, hended, hW, hframe⟩ := X.leave (v := some (.int 1)) (hlocks := hlocks) (fun h => by rw [hr] at h; cases h)
  have hmeth' : T.vm.method? m = some meth := X.method'
  refine ⟨T.setFrames fs, ?_, .returned (some (.int 1)), hrun, hended, rfl, ⟨_, rfl⟩, hW, hframe⟩
  jvm_step X.here [X.here.top, hx, hb, hdg, hmeth', hr, ret, narrow_b1]
  (try refine ⟨rfl, ?_⟩); (try refine ⟨rfl, ?_⟩)
  first | (intro acts; rw [hret _ acts rfl rfl rfl]) | rw [hret _ _ rfl rfl rfl]
  exact Steps.refl _
/-- what holds at the law's entry: the machine, the code, the tables' words (any of lw_tbl by 'hts w (by decide +kernel)'), the script of L ints xs at the cell b, what the Statement gives of the start (any of its parts by flat_of_before) -/
def lw_At (p : Program) (s : State) (m : MethodId) (meth : Method) (c : Code) (b L : Nat) (xs : Nat → Int32) : Prop :=
  p.tables.exec = Jvm.exec ∧ c.code = code ∧ meth.sig.returnType = ret ∧ c.maxLocals = 4 ∧ s.vm.findClass R_law = some m.cls ∧ (∀ w ∈ lw_tbl, w.before #[Value.ref b] s = true) ∧ va_X b L xs s s.heap ∧ b < s.heap.size ∧ meth.locks = false ∧ (Jvm.Cond.and given_1 narrow_1).before #[Value.ref b] s = true

theorem m_wd_ls : Cond.laysStatic "java/lang/String" "COMPACT_STRINGS" "Z" ∈ lw_tbl ∧ Cond.laysStatic "LeftGlove$Reader" "FORMS" "[I" ∈ lw_tbl ∧ Cond.laysStatic "jdk/internal/util/Preconditions" "SIOOBE_FORMATTER" "Ljava/util/function/BiFunction;" ∈ lw_tbl := by decide +kernel
theorem m_wd_in : Cond.initialized "java/lang/String" ∈ lw_tbl ∧ Cond.initialized "LeftGlove$Reader" ∈ lw_tbl ∧ Cond.initialized "jdk/internal/util/Preconditions" ∈ lw_tbl := by decide +kernel
theorem m_wd_sr : Cond.stringRef "LeftGlove$Words" 9 m_str0 ∈ lw_tbl ∧ Cond.stringRef "LeftGlove$Words" 21 m_str1 ∈ lw_tbl := by decide +kernel
theorem m_wd_ne : ∀ w ∈ m_nests, Cond.methodLinkNest w.1 w.2.1 w.2.2 "LeftGlove" ∈ lw_tbl := by decide +kernel
theorem m_wd_ao : Cond.arrayOver (.object "LeftGlove$Script") ∈ lw_tbl ∧ Cond.arrayOver (.array .int) ∈ lw_tbl := by decide +kernel
theorem m_wd_ac : Cond.arrayClass .int ∈ lw_tbl ∧ Cond.arrayClass .long ∈ lw_tbl ∧ Cond.arrayClass .boolean ∈ lw_tbl := by decide +kernel
theorem m_arrC {args : Array Value} {s : State} {ty : FieldType} (hp : ∀ C, ty ≠ .object C) (h : (Cond.arrayClass ty).before args s = true) : ∃ cA, ArrOfT s cA ty ∧ va_RA s cA ty := by
  obtain ⟨c, k, comp, h1, h2, h3⟩ := Cond.arrayClass_spec h
  refine ⟨c, fun n z => ⟨fun k h => (by cases h), k, h2, comp, h3⟩, ?_⟩
  unfold va_RA
  cases ty with
  | object C => exact absurd rfl (hp C)
  | _ => exact h1
theorem m_arrO {args : Array Value} {s : State} {C : String} (h : (Cond.arrayOver (.object C)).before args s = true) : ∃ cA, ArrOfT s cA (.object C) ∧ va_RA s cA (.object C) := by
  obtain ⟨comp, c, k, h1, h2, h3, h4, h5⟩ := Cond.arrayOver_spec h
  exact ⟨c, fun n z => ⟨fun k h => (by cases h), k, h3, comp, h4⟩, k, comp, h3, h4, h1, h5⟩
theorem m_arrA {args : Array Value} {s : State} {t : FieldType} (h : (Cond.arrayOver (.array t)).before args s = true) : ∃ cA, ArrOfT s cA (.array t) ∧ va_RA s cA (.array t) := by
  obtain ⟨comp, c, k, h1, -, h3, h4, h5⟩ := arrayOverA_spec h
  exact ⟨c, fun n z => ⟨fun k h => (by cases h), k, h3, comp, h4⟩, h5⟩
theorem m_isRef {args : Array Value} {s : State} {t : Term} (h : (Cond.isRef t).before args s = true) : ∃ v, t.eval args s none [] s = some v ∧ (v = .null ∨ ∃ a, v = .ref a) := by
  cases hv : t.eval args s none [] s with
  | none => simp [Cond.before, Cond.holds, Cond.value, hv] at h
  | some w =>
    refine ⟨w, rfl, ?_⟩
    cases w with
    | null => exact Or.inl rfl
    | ref a => exact Or.inr ⟨a, rfl⟩
    | _ => simp [Cond.before, Cond.holds, Cond.value, hv] at h
set_option maxHeartbeats 1000000 in
/-- what stands there at the law's entry -/
theorem m_start {p : Program} {s : State} {m : MethodId} {meth : Method} {c : Code} {b L : Nat} {xs : Nat → Int32} (C0 : lw_At p s m meth c b L xs) : ∃ (w : Value) (eA : Nat → Nat) (D : va_G) (cA : Nat → ClassId), eA 0 = b ∧ (w = .null ∨ ∃ a, w = .ref a) ∧ m_Ex (L, xs, w) s.heap.size eA D cA s := by
  obtain ⟨hx, hb, hr, hml, hown, hts, hX, hbl, hlocks, hgv⟩ := C0
  have hA : ∀ a : Nat, a < s.heap.size → ¬ m_A0 s.heap.size a := fun a h1 h2 => by unfold m_A0 at h2; omega
  have hs := flat_of_before _ hgv
  -- classes
  have hD : ∀ k : Nat, ∃ q : ClassId × (Nat → Nat), ∀ r, vwCl[k]? = some r → u_Kn s r.1 r.2.1 r.2.2 q.1 q.2 := by
    intro k
    cases hk : vwCl[k]? with
    | none => exact ⟨(0, fun _ => 0), fun r h => by cases h⟩
    | some r =>
      obtain ⟨C, T, N⟩ := r
      obtain ⟨g1, -, -, -, g5, -⟩ := m_TC_ok _ _ _ _ hk
      obtain ⟨cC, iS, h⟩ := u_known (C := C) (T := T) (N := N) (n := N) hts (fun w hw => (List.mem_filter.mp (g1 w hw)).1) (hts _ (List.mem_filter.mp g5).1)
      exact ⟨(cC, iS), fun r h9 => by cases h9; exact h⟩
  obtain ⟨dd, hdd⟩ := Classical.axiomOfChoice hD
  -- arrays
  obtain ⟨c0, k0⟩ := m_arrC (ty := .int) (fun C h => by cases h) (hts _ m_wd_ac.1)
  obtain ⟨c1, k1⟩ := m_arrC (ty := .long) (fun C h => by cases h) (hts _ m_wd_ac.2.1)
  obtain ⟨c2, k2⟩ := m_arrC (ty := .boolean) (fun C h => by cases h) (hts _ m_wd_ac.2.2)
  obtain ⟨c3, k3⟩ := m_arrO (hts _ m_wd_ao.1)
  obtain ⟨c4, k4⟩ := m_arrA (hts _ m_wd_ao.2)
  -- texts
  obtain ⟨adK, adV, hS, hSe⟩ := vk_Sof (N := 2) (tm := m_strm) (len := m_tln) (byt := m_txt) (A := m_A0 s.heap.size) (s := s) (args := #[Value.ref b]) (by decide) (fun i hi => hs _ (m_fl_ex i hi)) (fun i hi => hs _ (m_fl_co i hi)) (fun i hi => hs _ (m_fl_ar i hi)) (fun i hi => hs _ (m_fl_le i hi)) (fun i hi j hj => by
      rcases (show i = 0 ∨ i = 1 by omega) with rfl | rfl
      · exact hs _ (m_fl_el0 j hj)
      · exact hs _ (m_fl_el1 j hj)) (fun i j hi hj hij => by
      rcases (show (i = 0 ∧ j = 1) ∨ (i = 1 ∧ j = 0) by omega) with ⟨rfl, rfl⟩ | ⟨rfl, rfl⟩
      · rcases m_fl_ne with h | h
        · exact Or.inl (hs _ h)
        · exact Or.inr (hs _ h)
      · rcases m_fl_ne with h | h
        · exact Or.inr (hs _ h)
        · exact Or.inl (hs _ h)) hA
  -- forms
  obtain ⟨fa, hfe, hfT⟩ := va_Tof (f := fun j => .int (m_forms.getD j 0)) (A := m_A0 s.heap.size) (N := 60) (by decide) (hs _ m_fl_fa) (va_eqt (hs _ m_fl_fl)) (fun j hj => va_eqt (hs _ (m_fl_fe j hj))) hA
  obtain ⟨sv, hsv, hsr⟩ := m_isRef (hs _ m_fl_si)
  have hz1 := va_Zof (A := m_A0 s.heap.size) (hts _ m_wd_ls.1) (hts _ m_wd_in.1) (va_eqt (hs _ m_fl_cs)) hA
  have hz2 := va_Zof (A := m_A0 s.heap.size) (hts _ m_wd_ls.2.1) (hts _ m_wd_in.2.1) hfe hA
  have hz3 := va_Zof (A := m_A0 s.heap.size) (hts _ m_wd_ls.2.2) (hts _ m_wd_in.2.2) hsv hA
  have hxT : va_T .int b L (fun j => .int (xs j)) (m_A0 s.heap.size) s s.heap := by
    obtain ⟨scr, s1, s2, s3, s4, s5⟩ := hX
    exact ⟨scr, s1, s2, s3, by omega, by rw [s4], s5, hA b hbl⟩
  obtain ⟨w, sa, hwn, hw⟩ : ∃ (w : Value) (sa : Nat), (w = .null ∨ ∃ a, w = .ref a) ∧ ∀ eA : Nat → Nat, eA 6 = sa → m_tv (m_ad s.heap.size eA) w = sv := by
    rcases hsr with rfl | ⟨a, rfl⟩
    · exact ⟨.null, 0, Or.inl rfl, fun _ _ => rfl⟩
    · refine ⟨.ref 1006, a, Or.inr ⟨_, rfl⟩, fun eA h => ?_⟩
      show Value.ref (m_ad s.heap.size eA (1000 + 6)) = _
      rw [m_ad_ge, h]
  have hk : va_K (fun k => (dd k).1, fun k => (dd k).2) vwCl (m_tys (fun t => if t = 0 then c0 else if t = 1 then c1 else if t = 2 then c2 else if t = 3 then c3 else c4)) s := by
    refine ⟨fun k q h => hdd k q h, fun k q h => ?_⟩
    match k, h with
    | 0, h => cases h; exact k0
    | 1, h => cases h; exact k1
    | 2, h => cases h; exact k2
    | 3, h => cases h; exact k3
    | 4, h => cases h; exact k4
    | k + 5, h => simp [m_tys] at h
  refine ⟨w, fun i => if i = 0 then b else if i = 1 then fa else if i = 2 then adK 0 else if i = 3 then adK 1 else if i = 4 then adV 0 else if i = 5 then adV 1 else sa, _, _, rfl, hwn, hk, hxT, hfT, ⟨fun i hi => ?_, fun i j hi hj e => ?_⟩, ⟨vk_R.of (hts _ m_wd_sr.1) (hSe 0 (by omega)), vk_R.of (hts _ m_wd_sr.2) (hSe 1 (by omega))⟩, ⟨hz1, hz2, ?_⟩, fun z hz => va_Nw.of rfl (hts _ (m_wd_ne z hz)), va_AO.of (hts _ m_wd_ao.1), hts _ m_wd_ao.2⟩
  · rcases (show i = 0 ∨ i = 1 by omega) with rfl | rfl
    · exact hS.1 0 (by omega)
    · exact hS.1 1 (by omega)
  · rcases (show i = 0 ∨ i = 1 by omega) with rfl | rfl <;> rcases (show j = 0 ∨ j = 1 by omega) with rfl | rfl
    · rfl
    · exact hS.2 0 1 hi hj e
    · exact hS.2 1 0 hi hj e
    · rfl
  · rw [hw _ rfl]
    exact hz3
/-- the small machine at the law's entry -/
def m_law (x : m_X) : Prop := ∃ (n : Nat) (σ' : m_H), m_run x n 100 0 0 [some (.ref 1000), none, none, none] [] [] = some (some (.int 1), σ') ∧ m_slt σ' ≤ 7302250
set_option maxHeartbeats 1000000 in
theorem m_whole (hlaw : ∀ x : m_X, x.1 ≤ 4096 → (x.2.2 = .null ∨ ∃ a, x.2.2 = .ref a) → m_law x) {p : Program} {e : Env} {s : State} {m : MethodId} {below : List Frame} {meth : Method} {c : Code} (l : Launch) {b L : Nat} {xs : Nat → Int32} (hL : L ≤ 4096) (C0 : lw_At p s m meth c b L xs) : W p l e room_1 s m #[Value.ref b] below meth c s.heap [] 0 0 (lw_Z below #[Value.ref b] s) (entryFrame m ([Value.ref b] : List Value).toArray 4) := by
  obtain ⟨w, eA, D, cA, he0, hwn, hEx⟩ := m_start C0
  obtain ⟨hx, hb, hr, hml, hown, hts, hX, hbl, hlocks, hgv⟩ := C0
  obtain ⟨n, σ', hrun, hsl⟩ := hlaw (L, xs, w) hL hwn
  have hF : m_F 0 p s m #[Value.ref b] meth c := ⟨hx, hb, hml, hown, fun w hw => hts w (List.mem_filter.mp hw).1, hr, hlocks, fun h => absurd h (by decide)⟩
  have hI : m_I s.heap.size eA D cA 0 0 [] s s.heap [] 0 0 := ⟨fun k q h => by simp [m_w] at h, rfl, by decide, rfl, va_S.rf, rfl, rfl⟩
  have hle : m_le [] σ' := m_run_grow _ _ _ _ _ _ _ _ _ hrun
  have hlen : σ'.length ≤ 1000 := hle.2.2 (by decide)
  have hlr := m_en_lr (m_ad s.heap.size eA) 0 [.ref 1000] (by decide)
  have e9 : ([.ref 1000] : List Value).map (m_tv (m_ad s.heap.size eA)) = [Value.ref b] := by
    show [Value.ref (m_ad s.heap.size eA (1000 + 0))] = _
    rw [m_ad_ge, he0]
  rw [e9] at hlr
  rw [lg_entry_eq]
  refine m_sound m_Tab_ok m_T2_ok n (L, xs, w) s.heap.size eA D cA 100 0 0 _ [] [] (some (.int 1)) σ' hrun l p e room_1 s m _ below meth c s.heap [] 0 0 _ _ 0 0 hF hEx hI hlr (by decide) (by decide) (by decide) (by show _ ≤ 0 + 600000; omega) (by show _ ≤ 0 + 7302250; omega) ?_
  intro pc9 i9 ls9 H9 locs9 cells9 slots9 hR hd hI9 hrk
  have hi9 : i9 = .ireturn := by
    rcases hR with ⟨h, -⟩ | ⟨-, v, h⟩ | ⟨-, ⟨v, h⟩ | h⟩ | ⟨-, h⟩
    · exact h
    · cases h
    · cases h
    · cases h
    · cases h
  subst hi9
  obtain ⟨j1, j2, j3, j4, j5, j6, j7⟩ := hI9
  refine va_forget (fun q hq => ?_) ?_
  · have := j5.2.2 q hq
    exact this
  · refine W.widen (k := 600000) (n := 7302250) (by omega) (by omega) ?_
    exact lw_ret hx hb hr hlocks hd
