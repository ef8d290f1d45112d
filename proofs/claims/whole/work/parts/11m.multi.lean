-- the step of multianewarray with two counts, of ints: the rows are made one by one
/-- the outer row at place h, when i of the rows behind it stand -/
def m_mro (c : ClassId) (N h i : Nat) : Cell := arrV c N (fun j => va_rf (if j < i then some (h + 1 + j) else none))
theorem m_mro_new (c : ClassId) (N h : Nat) : ({ cls := c, slots := Array.replicate N .null, vm := .none } : Cell) = m_mro c N h 0 := by
  rw [arrV_new]
  unfold m_mro
  refine congrArg (arrV c N) (funext fun j => ?_)
  rw [if_neg (Nat.not_lt_zero j)]
  rfl
theorem m_mro_set (c : ClassId) (N h i : Nat) : (m_mro c N h i).setSlot i (.ref (h + 1 + i)) = m_mro c N h (i + 1) := by
  unfold m_mro
  rw [arrV_store]
  refine congrArg (arrV c N) (funext fun j => ?_)
  show (if j = i then Value.ref (h + 1 + i) else va_rf (if j < i then some (h + 1 + j) else none)) = _
  rcases Nat.lt_trichotomy j i with hc | hc | hc
  · rw [if_neg (by omega), if_pos hc, if_pos (by omega)]
  · rw [if_pos hc, if_pos (by omega), hc]
    rfl
  · rw [if_neg (by omega), if_neg (by omega), if_neg (by omega)]
theorem m_mro_size (c : ClassId) (N h i : Nat) : (m_mro c N h i).slots.size = N := arrV_size _ _ _
/-- the state when i rows of M zeros are made -/
def m_mst (U : State) (c4 c0 : ClassId) (N M : Nat) : Nat → State
  | 0 => U.pushCell (m_mro c4 N U.heap.size 0)
  | i + 1 => ((m_mst U c4 c0 N M i).pushCell (arrV c0 M fun _ => .int 0)).setCell U.heap.size (m_mro c4 N U.heap.size (i + 1))
theorem m_mst_f (U : State) (c4 c0 : ClassId) (N M : Nat) : ∀ i : Nat,
    (m_mst U c4 c0 N M i).heap.size = U.heap.size + 1 + i ∧ (m_mst U c4 c0 N M i).heap[U.heap.size]? = some (m_mro c4 N U.heap.size i) ∧
    (∀ z : Nat, z < U.heap.size → (m_mst U c4 c0 N M i).heap[z]? = U.heap[z]?) ∧ (∀ j : Nat, j < i → (m_mst U c4 c0 N M i).heap[U.heap.size + 1 + j]? = some (arrV c0 M fun _ => .int 0)) ∧
    (m_mst U c4 c0 N M i).vm = U.vm ∧ (m_mst U c4 c0 N M i).slotsUsed = U.slotsUsed + N + i * M
  | 0 => by
    refine ⟨?_, ?_, fun z hz => ?_, fun j hj => absurd hj (Nat.not_lt_zero j), rfl, ?_⟩
    · show (U.heap.push _).size = _
      rw [Array.size_push]
    · show (U.heap.push _)[_]? = _
      exact Array.getElem?_push_size
    · show (U.heap.push _)[_]? = _
      rw [Array.getElem?_push, if_neg (Nat.ne_of_lt hz)]
    · show U.slotsUsed + (m_mro c4 N U.heap.size 0).slots.size = _
      rw [m_mro_size]
      omega
  | i + 1 => by
    obtain ⟨h1, h2, h3, h4, h5, h6⟩ := m_mst_f U c4 c0 N M i
    refine ⟨?_, ?_, fun z hz => ?_, fun j hj => ?_, h5, ?_⟩
    · show (((m_mst U c4 c0 N M i).heap.push _).setIfInBounds _ _).size = _
      rw [Array.size_setIfInBounds, Array.size_push, h1]
      omega
    · show (((m_mst U c4 c0 N M i).heap.push _).setIfInBounds _ _)[_]? = _
      rw [Array.getElem?_setIfInBounds_self_of_lt (by rw [Array.size_push, h1]; omega)]
    · show (((m_mst U c4 c0 N M i).heap.push _).setIfInBounds _ _)[_]? = _
      rw [Array.getElem?_setIfInBounds_ne (by omega), Array.getElem?_push, if_neg (by rw [h1]; omega)]
      exact h3 z hz
    · show (((m_mst U c4 c0 N M i).heap.push _).setIfInBounds _ _)[_]? = _
      rw [Array.getElem?_setIfInBounds_ne (by omega), Array.getElem?_push, h1]
      by_cases hc : j = i
      · rw [if_pos (by rw [hc])]
      · rw [if_neg (by omega)]
        exact h4 j (by omega)
    · show (m_mst U c4 c0 N M i).slotsUsed + (arrV c0 M fun _ => .int 0).slots.size = _
      rw [arrV_size, h6, Nat.succ_mul]
      omega
theorem m_mst_top (U : State) (g : JFrame) (c4 c0 : ClassId) (N M : Nat) : ∀ i : Nat, m_mst (U.setTop g) c4 c0 N M i = (m_mst U c4 c0 N M i).setTop g
  | 0 => rfl
  | i + 1 => by
    show ((m_mst (U.setTop g) c4 c0 N M i).pushCell _).setCell _ _ = _
    rw [m_mst_top U g c4 c0 N M i]
    rfl
section MW1
variable {E : CtlPost} {e : Env} {d : Bool} {acts : List Action} {U : State}
/-- one row of ints -/
theorem m_mone {c0 cc : ClassId} {k0 : Class} {w : Int32} {Q : Addr → Pre} (h0 : U.vm.classes[c0]? = some k0) (hk0 : k0.kind = .array cc .int) (hw : ¬ w < 0)
    (hb1 : w.toNatClampNeg ≤ e.platform.arrayLengthLimit) (hb2 : w.toNatClampNeg * 4 ≤ e.platform.maxHeapBytes) (hr1 : U.heap.size < e.platform.maxCells) (hr2 : U.slotsUsed + w.toNatClampNeg ≤ e.platform.maxSlots)
    (hq : ∀ acts', Q U.heap.size d acts' (U.pushCell (arrV c0 w.toNatClampNeg fun _ => .int 0))) : wp (Op.multianewarray.make c0 [w]) Q E e d acts U := by
  rw [Op.multianewarray.make, if_neg hw]
  show wp (theClass c0 >>= _) Q E e d acts U
  rw [wp_bind', Jvm.W.theClass]
  refine ⟨k0, h0, ?_⟩
  rw [hk0]
  show wp (newArray c0 w.toNatClampNeg (defaultValue .int)) Q E e d acts U
  refine Jvm.W.newArray_of h0 hk0 (Nat.not_lt.mpr hb1) (Nat.not_lt.mpr hb2) hr1 hr2 rfl (fun acts' => ?_)
  have h := hq acts'
  rw [← arrV_new] at h
  exact h
/-- the outer row and its rows -/
theorem m_mmake {c4 c0 cc : ClassId} {k4 k0 : Class} {n w : Int32} {N M : Nat} {Q : Addr → Pre} (h4 : U.vm.classes[c4]? = some k4) (hk4 : k4.kind = .array c0 (.array .int)) (h0 : U.vm.classes[c0]? = some k0) (hk0 : k0.kind = .array cc .int)
    (hn : ¬ n < 0) (hw : ¬ w < 0) (hN : n.toNatClampNeg = N) (hM : w.toNatClampNeg = M)
    (ha1 : N ≤ e.platform.arrayLengthLimit) (ha2 : N * 4 ≤ e.platform.maxHeapBytes) (hb1 : M ≤ e.platform.arrayLengthLimit) (hb2 : M * 4 ≤ e.platform.maxHeapBytes)
    (hr1 : U.heap.size + 1 + N ≤ e.platform.maxCells) (hr2 : U.slotsUsed + N + N * M ≤ e.platform.maxSlots)
    (hq : ∀ d' acts', Q U.heap.size d' acts' (m_mst U c4 c0 N M N)) : wp (Op.multianewarray.make c4 [n, w]) Q E e d acts U := by
  rw [Op.multianewarray.make, if_neg hn]
  show wp (theClass c4 >>= _) Q E e d acts U
  rw [wp_bind', Jvm.W.theClass]
  refine ⟨k4, h4, ?_⟩
  rw [hk4]
  show wp (newArray c4 n.toNatClampNeg .null >>= _) Q E e d acts U
  rw [wp_bind', hN]
  refine Jvm.W.newArray_of h4 hk4 (Nat.not_lt.mpr ha1) (Nat.not_lt.mpr ha2) (by omega) (by omega) rfl (fun acts1 => ?_)
  rw [m_mro_new c4 N U.heap.size]
  have hf : List.find? (fun x : Int32 => decide (x < 0)) [w] = none := by simp [hw]
  simp only [hf, ite_self]
  rw [wp_bind', Std.Legacy.Range.forIn_eq_forIn_range']
  refine wp_forIn_inv (fun r V => ∃ i, i ≤ N ∧ r = List.range' i (N - i) ∧ V = m_mst U c4 c0 N M i) _ _ ⟨0, Nat.zero_le _, by simp [Std.Legacy.Range.size], rfl⟩ ?_ ?_
  · rintro i0 r V d1 acts2 Q1 ⟨i, hi, hr, rfl⟩ hk
    obtain ⟨t, ht⟩ : ∃ t, N - i = t + 1 := by
      rcases hz : N - i with _ | t
      · rw [hz] at hr
        cases hr
      · exact ⟨t, rfl⟩
    rw [ht, List.range'_succ] at hr
    obtain ⟨rfl, rfl⟩ := List.cons.inj hr
    obtain ⟨f1, f2, f3, f4, f5, f6⟩ := m_mst_f U c4 c0 N M i0
    have hmul : i0 * M + M ≤ N * M := by
      rw [← Nat.succ_mul]
      exact Nat.mul_le_mul_right M (by omega)
    rw [wp_bind']
    refine m_mone (by rw [f5]; exact h0) hk0 hw (by rw [hM]; exact hb1) (by rw [hM]; exact hb2) (by rw [f1]; omega) (by rw [f6, hM]; omega) (fun acts3 => ?_)
    rw [wp_bind', Jvm.W.writeLoc, hM]
    refine ⟨m_mro c4 N U.heap.size i0, ?_, (fun h => by cases h), by rw [m_mro_size]; omega, ?_, ?_⟩
    · show ((m_mst U c4 c0 N M i0).heap.push _)[_]? = _
      rw [Array.getElem?_push, if_neg (by rw [f1]; omega)]
      exact f2
    · show (m_mst U c4 c0 N M i0).fitsSlot c4 .none i0 _ = true
      simp [State.fitsSlot, State.slotType?, f5, h4, hk4, fits]
    · rw [wp_pure', f1, m_mro_set]
      refine hk _ _ _ ⟨i0 + 1, by omega, ?_, rfl⟩
      rw [show N - (i0 + 1) = t by omega]
  · rintro V d1 acts2 ⟨i, hi, hr, rfl⟩
    have hz : N - i = 0 := by
      rcases hz : N - i with _ | t
      · rfl
      · rw [hz, List.range'_succ] at hr
        cases hr
    rw [wp_pure', show i = N by omega]
    exact hq _ _
theorem m_mst_tj (U : State) (c4 c0 : ClassId) (N M : Nat) : ∀ i : Nat, (m_mst U c4 c0 N M i).topJava? = U.topJava?
  | 0 => rfl
  | i + 1 => m_mst_tj U c4 c0 N M i
theorem m_msem {f : JFrame} {index : Nat} {c4 c0 cc : ClassId} {k4 k0 : Class} {n w : Int32} {N M : Nat} {rest : List Value} {Q : Unit → Pre} (hs : U.topJava?.isSome) (hr : U.vm.classReady f.method.cls index c4)
    (h4 : U.vm.classes[c4]? = some k4) (hk4 : k4.kind = .array c0 (.array .int)) (h0 : U.vm.classes[c0]? = some k0) (hk0 : k0.kind = .array cc .int)
    (hstack : f.stack = .int w :: .int n :: rest) (hn : ¬ n < 0) (hw : ¬ w < 0) (hN : n.toNatClampNeg = N) (hM : w.toNatClampNeg = M)
    (ha1 : N ≤ e.platform.arrayLengthLimit) (ha2 : N * 4 ≤ e.platform.maxHeapBytes) (hb1 : M ≤ e.platform.arrayLengthLimit) (hb2 : M * 4 ≤ e.platform.maxHeapBytes)
    (hr1 : U.heap.size + 1 + N ≤ e.platform.maxCells) (hr2 : U.slotsUsed + N + N * M ≤ e.platform.maxSlots)
    (hq : ∀ d' acts', Q () d' acts' ((m_mst U c4 c0 N M N).setTop { f with stack := .ref U.heap.size :: rest })) : wp (Op.multianewarray.sem index 2) Q E e d acts (U.setTop f) := by
  unfold Op.multianewarray.sem
  rw [wp_bind', Jvm.W.resolveClassAt_ready (s := U.setTop f) (m := f.method) (State.method?_setTop f hs) hr, wp_bind']
  refine (Op.popN_top (s := U) (f := f) hs (args := [.int n, .int w]) (rest := rest) hstack).mpr ?_
  rw [wp_bind']
  simp only [List.mapM_cons, List.mapM_nil, wp_bind', wp_pure']
  refine m_mmake (U := U.setTop { f with stack := rest }) (N := N) (M := M) h4 hk4 h0 hk0 hn hw hN hM ha1 ha2 hb1 hb2 hr1 hr2 (fun d1 acts1 => ?_)
  rw [wp_bind', Jvm.W.mark, Jvm.W.pushRef]
  refine ⟨{ f with stack := rest }, ?_, ?_⟩
  · rw [m_mst_top]
    exact State.topJava?_setTop' _ (by rw [m_mst_tj]; exact hs)
  · rw [m_mst_top, State.setTop_setTop]
    exact hq _ _
end MW1
theorem m_mcold {f : JFrame} {index c4 : Nat} {e : Env} {d : Bool} {acts : List Action} {U : State} {E : CtlPost} {Q : Unit → Pre} {vm1 : Vm} (hs : U.topJava?.isSome) (hg : (Jvm.resolveClass f.method.cls index).Gives e.toSetting U.vm (.ok c4) vm1) (hr : vm1.classReady f.method.cls index c4) (hz : vm1.classes.size ≤ U.vm.classes.size) :
    wp (Op.multianewarray.sem index 2) Q E e d acts (U.setTop f) ↔ wp (Op.multianewarray.sem index 2) Q E e d acts ((U.setVm vm1).setTop f) := by
  unfold Op.multianewarray.sem
  rw [wp_bind', wp_bind']
  exact Jvm.W.resolveClassAt_transfer (s := U.setTop f) (State.method?_setTop f hs) hg hr hz
section MW2
variable {p : Program} {l : Launch} {e : Env} {R : Room} {s : State} {m : MethodId} {args : Array Value} {below : List Frame} {meth : Method} {c : Code} {H : Heap} {locs : List Loc} {cells slots : Nat} {Q : State → Prop}
/-- the walk stands there -/
theorem m_mst_X {U : State} (X : Stand p l e R s m args below meth c U locs cells slots) (c4 c0 : ClassId) (N M : Nat) : ∀ i : Nat,
    Stand p l e R s m args below meth c (m_mst U c4 c0 N M i) (locs ++ (List.range i).map fun j => ⟨U.heap.size, j⟩) (cells + 1 + i) (slots + N + i * M)
  | 0 => by
    have h := X.pushed (m_mro c4 N U.heap.size 0)
    rw [m_mro_size] at h
    rw [show (List.range 0).map (fun j => (⟨U.heap.size, j⟩ : Loc)) = [] from rfl, List.append_nil, Nat.zero_mul]
    exact h
  | i + 1 => by
    obtain ⟨f1, f2, -⟩ := m_mst_f U c4 c0 N M i
    have h1 := (m_mst_X X c4 c0 N M i).pushed (arrV c0 M fun _ => .int 0)
    rw [arrV_size] at h1
    have hc : ((m_mst U c4 c0 N M i).pushCell (arrV c0 M fun _ => .int 0)).heap[U.heap.size]? = some (m_mro c4 N U.heap.size i) := by
      show ((m_mst U c4 c0 N M i).heap.push _)[_]? = _
      rw [Array.getElem?_push, if_neg (by rw [f1]; omega)]
      exact f2
    have h2 := h1.stored hc i (.ref (U.heap.size + 1 + i))
    rw [m_mro_set, List.append_assoc] at h2
    rw [List.range_succ, List.map_append, show slots + N + (i + 1) * M = slots + N + i * M + M by rw [Nat.succ_mul]; omega]
    exact h2
/-- multianewarray of two counts, of ints -/
theorem m_mulW (hexec : p.tables.exec = Jvm.exec) {own : String} {index : Nat} (hown : s.vm.findClass own = some m.cls) (hlink : (Cond.classLink own index "[[I").before args s = true) (hover : (Cond.arrayOver (.array .int)).before args s = true) (harr : (Cond.arrayClass .int).before args s = true)
    {g : JFrame} (hg : g.method = m) (hd : decode c.code g.pc = .ok (.multianewarray index 2, 4)) {n w : Int32} {N M : Nat} {rest : List Value} (hstack : g.stack = .int w :: .int n :: rest) (hn : ¬ n < 0) (hw : ¬ w < 0) (hN : n.toNatClampNeg = N) (hM : w.toNatClampNeg = M)
    (hb1 : N * 4 ≤ 536870912) (hb2 : M * 4 ≤ 536870912) (hcells : cells + (1 + N) ≤ R.cells) (hslots : slots + (N + N * M) ≤ R.slots)
    (kk : ∀ (c4 c0 : ClassId) (H1 : Heap), s.vm.findClass "[[I" = some c4 → s.vm.findClass "[I" = some c0 → H1.size = H.size + 1 + N → H1[H.size]? = some (m_mro c4 N H.size N) → (∀ z : Nat, z < H.size → H1[z]? = H[z]?) → (∀ j : Nat, j < N → H1[H.size + 1 + j]? = some (arrV c0 M fun _ => .int 0)) →
      W p l e R s m args below meth c H1 (locs ++ (List.range N).map fun j => ⟨H.size, j⟩) (cells + 1 + N) (slots + N + N * M) Q { g with pc := g.pc + 4, stack := .ref H.size :: rest }) : W p l e R s m args below meth c H locs cells slots Q g := by
  intro T hT X
  subst hT
  subst hg
  have hpl : e.platform.magicAccessors = ({} : Platform).magicAccessors := by rw [X.admits.platform]
  obtain ⟨c0, c4, k4, n0, -, e4, hk4, n4⟩ := arrayOverA_spec hover
  obtain ⟨c0', k0, cc, n0', e0, hk0⟩ := Cond.arrayClass_spec harr
  have h00 : c0' = c0 := Option.some.inj (n0'.symm.trans n0)
  subst h00
  obtain ⟨c4', n4', hcl⟩ := Cond.classLink_spec hown hlink e.platform hpl
  have h44 : c4' = c4 := Option.some.inj (n4'.symm.trans n4)
  subst h44
  obtain ⟨hgv, hwarm, hready⟩ := State.classEntry (e := e) X.warmed hcl
  generalize T.vm.noted g.method.cls index (.cls c4') = vm1 at hgv hwarm hready
  have hal : s.vm.Alike vm1 := hwarm.alike
  have hsz1 : vm1.classes.size = s.vm.classes.size := hal.2.1
  have hsz2 : T.vm.classes.size = s.vm.classes.size := X.warmed.alike.2.1
  obtain ⟨k4', e4', q4⟩ := hal.2.2 _ _ e4
  obtain ⟨k0', e0', q0⟩ := hal.2.2 _ _ e0
  have hk4' : k4'.kind = .array c0' (.array .int) := by rw [q4]; exact hk4
  have hk0' : k0'.kind = .array cc .int := by rw [q0]; exact hk0
  have X1 := m_mst_X (X.noted hwarm) c4' c0' N M N
  obtain ⟨f1, f2, f3, f4, -, -⟩ := m_mst_f (T.setVm vm1) c4' c0' N M N
  obtain ⟨r1, r2⟩ := X.roomAbove hcells hslots
  obtain ⟨t, b1, b2⟩ := kk c4' c0' _ n4' n0' f1 f2 f3 f4 _ rfl X1
  refine ⟨t, ?_, b2⟩
  have hL : e.platform.arrayLengthLimit = 2147483645 := Launch.admits_arrayLengthLimit X.admits
  have hB : e.platform.maxHeapBytes = 536870912 := Launch.admits_maxHeapBytes X.admits
  refine Steps.instr (c := c) (by simpa using X.here) ?_
  rw [hd]
  show wp (p.tables.exec (.multianewarray index 2)) _ _ e false [] (T.setTop g)
  rw [hexec]
  show wp (Op.multianewarray.sem index 2) _ _ e false [] (T.setTop g)
  refine (m_mcold X.here.top hgv hready (by rw [hsz1, hsz2]; exact Nat.le_refl _)).mpr ?_
  refine m_msem (U := T.setVm vm1) X.here.top hready e4' hk4' e0' hk0' hstack hn hw hN hM (by omega) (by omega) (by omega) (by omega) (by show T.heap.size + 1 + N ≤ _; omega) (by show T.slotsUsed + N + N * M ≤ _; omega) (fun d1 acts1 acts2 => ?_)
  rw [afterInstr_ok]
  exact b1
end MW2
