-- what the tables must say of the instruction lists (proved in the check parts), and a frame of a method
abbrev m_Y (k : Nat) : MethodName := m_y.getD k ⟨"", "", ""⟩
abbrev m_CD (k : Nat) : ByteArray := m_cd.getD k ByteArray.empty
abbrev m_ML (k : Nat) : Nat := m_ml.getD k 0
abbrev m_RT (k : Nat) : Option FieldType := m_rt.getD k none
abbrev m_AR (k : Nat) : Nat := m_ar.getD k 0
abbrev m_KD (k : Nat) : Nat := m_kd.getD k 0
abbrev m_CN (k : Nat) : String := m_cn.getD (m_cl.getD k 0) ""
def m_ws0 : List Cond := lw_tbl.filter goodWord
/-- an instruction's length -/
def m_ln (i : Instr) (len : Nat) : Nat := match i with
  | .bipush _ | .iload _ | .lload _ | .aload _ | .istore _ | .lstore _ | .astore _ | .ldc _ | .newarray _ => 2
  | .sipush _ | .iinc .. | .ifCond .. | .if_icmp .. | .goto _ | .ifnull _ | .ifnonnull _ | .getfield _ | .putfield _ | .getstatic _ | .new _ | .anewarray _ | .ldc_w _ | .ldc2_w _ | .invokestatic _ | .invokevirtual _ | .invokespecial _ => 3
  | .multianewarray .. => 4
  | .tableswitch .. | .lookupswitch .. => len
  | _ => 1
/-- a link's owner and its entry -/
def m_own (k idx : Nat) (c i : Nat) : Bool := c == m_cl.getD k 0 && i == idx
def m_pos (pc : Nat) (off : Int) : Bool := decide (0 ≤ (pc : Int) + off)
def m_okI (k pc : Nat) (i : Instr) (len j : Nat) : Bool := len == m_ln i len && (match i with
  | .ifCond _ o | .if_icmp _ o | .goto o | .ifnull o | .ifnonnull o => m_pos pc o
  | .tableswitch d _ _ os => m_pos pc d && os.toList.all (m_pos pc)
  | .lookupswitch d ps => m_pos pc d && ps.toList.all (fun q => m_pos pc q.2) && (ps.toList.zip (ps.toList.drop 1)).all (fun (a, next) => a.1 < next.1)
  | .getfield x => (m_lf[j]?).any fun q => m_own k x q.1 q.2.1
  | .putfield x => (m_lf[j]?).any fun q => m_own k x q.1 q.2.1 && q.2.2.1 != 100 && ((vwCl[q.2.2.1]?).any fun r => !(r.2.1 q.2.2.2).2.2.2 || (m_KD k == 2 && (r.2.1 q.2.2.2).1 == m_CN k))
  | .getstatic x => (m_lg[j]?).any fun q => m_own k x q.1 q.2.1
  | .new x => (m_lc[j]?).any fun q => m_own k x q.1 q.2.1
  | .ldc x => if j < 100 then (m_ld[j]?).any fun q => m_own k x q.1 q.2.1 else (m_ls[j - 100]?).any fun q => m_own k x q.1 q.2.1
  | .ldc_w x => (m_ld[j]?).any fun q => m_own k x q.1 q.2.1
  | .ldc2_w x => (m_ll[j]?).any fun q => m_own k x q.1 q.2.1
  | .invokestatic x => (m_lm[j]?).any fun q => m_own k x q.1 q.2.1 && (q.2.2.1 == 9001 || m_KD q.2.2.1 == 0)
  | .invokevirtual x => (m_lm[j]?).any fun q => m_own k x q.1 q.2.1 && m_KD q.2.2.1 == 1
  | .invokespecial x => (m_lm[j]?).any fun q => m_own k x q.1 q.2.1 && (q.2.2.1 == 9000 || m_KD q.2.2.1 == 2)
  | .newarray t => match t with
    | .int | .long | .boolean => true
    | _ => false
  | .anewarray x => m_CN k == "LeftGlove" && x == 42
  | .multianewarray x d => m_CN k == "LeftGlove$Steps" && x == 13 && d == 2
  | _ => true)
/-- T8: the lists are the code's instructions -/
def m_T8 : Prop := ∀ k pc i len j, m_at k pc = some (i, len, j) → decode (m_CD k) pc = .ok (i, len) ∧ m_okI k pc i len j = true
theorem m_T8.dec (h : m_T8) {k pc : Nat} {i : Instr} {len j : Nat} (ha : m_at k pc = some (i, len, j)) : decode (m_CD k) pc = .ok (i, m_ln i len) := by
  obtain ⟨h1, h2⟩ := h _ _ _ _ _ ha
  simp only [m_okI, Bool.and_eq_true, beq_iff_eq] at h2
  rw [← h2.1]
  exact h1
/-- a frame of the method k -/
def m_F (k : Nat) (p : Program) (s : State) (m : MethodId) (args : Array Value) (meth : Method) (c : Code) : Prop :=
  p.tables.exec = Jvm.exec ∧ c.code = m_CD k ∧ c.maxLocals = m_ML k ∧ s.vm.findClass (m_CN k) = some m.cls ∧ (∀ w ∈ m_ws0, w.before args s = true) ∧ meth.sig.returnType = m_RT k ∧ meth.locks = false ∧ (m_KD k = 2 → meth.name = "<init>")
theorem m_go_eq {pc : Nat} {L : m_L} {st : List Value} {σ : m_H} {pc' : Nat} {L' : m_L} {st' : List Value} {σ' : m_H} (h : m_go pc L st σ = some (.inl (pc', L', st', σ'))) : pc' = pc ∧ L' = L ∧ st' = st ∧ σ' = σ := by
  simp only [m_go, Option.some.injEq, Sum.inl.injEq, Prod.mk.injEq] at h
  obtain ⟨h1, h2, h3, h4⟩ := h
  exact ⟨h1.symm, h2.symm, h3.symm, h4.symm⟩
section SD1
variable {p : Program} {l : Launch} {e : Env} {R : Room} {s : State} {m : MethodId} {args : Array Value} {below : List Frame} {meth : Method} {c : Code} {H : Heap} {locs : List Loc} {cells slots : Nat} {Q : State → Prop} {ad : Nat → Nat}
set_option maxHeartbeats 4000000 in
theorem m_sd1 {k pc : Nat} {i : Instr} {len : Nat} {L : m_L} {st : List Value} {σ : m_H} {pc' : Nat} {L' : m_L} {st' : List Value} {σ' : m_H} {ls : Array Slot} (hF : m_F k p s m args meth c) (hd : decode (m_CD k) pc = .ok (i, m_ln i len))
    (h : m_d1 i pc L st σ = some (.inl (pc', L', st', σ'))) (hL : m_lr ad (m_ML k) L ls) :
    σ' = σ ∧ ((∀ ls', m_lr ad (m_ML k) L' ls' → W p l e R s m args below meth c H locs cells slots Q (F0 m pc' ls' (st'.map (m_tv ad)))) → W p l e R s m args below meth c H locs cells slots Q (F0 m pc ls (st.map (m_tv ad)))) := by
  obtain ⟨hx, hb, -, -, -, -, -, -⟩ := hF
  unfold m_d1 at h
  split at h
  case h_1 => obtain ⟨rfl, rfl, rfl, rfl⟩ := m_go_eq h; exact ⟨rfl, fun kk => lv_iconst hx hb hd rfl (kk _ hL)⟩
  case h_2 => obtain ⟨rfl, rfl, rfl, rfl⟩ := m_go_eq h; exact ⟨rfl, fun kk => lv_bipush hx hb hd rfl (kk _ hL)⟩
  case h_3 => obtain ⟨rfl, rfl, rfl, rfl⟩ := m_go_eq h; exact ⟨rfl, fun kk => lv_sipush hx hb hd rfl (kk _ hL)⟩
  case h_4 => obtain ⟨rfl, rfl, rfl, rfl⟩ := m_go_eq h; exact ⟨rfl, fun kk => lv_lconst hx hb hd rfl (kk _ hL)⟩
  case h_5 => obtain ⟨rfl, rfl, rfl, rfl⟩ := m_go_eq h; exact ⟨rfl, fun kk => lv_null hx hb hd (kk _ hL)⟩
  case h_6 =>
    split at h
    · rename_i q
      obtain ⟨rfl, rfl, rfl, rfl⟩ := m_go_eq h
      exact ⟨rfl, fun kk => lv_iload hx hb hd (hL.2.2.2 _ _ q) (kk _ hL)⟩
    · cases h
  case h_7 =>
    split at h
    · rename_i q
      obtain ⟨rfl, rfl, rfl, rfl⟩ := m_go_eq h
      exact ⟨rfl, fun kk => lv_iload_n hx hb hd rfl (hL.2.2.2 _ _ q) (kk _ hL)⟩
    · cases h
  case h_8 =>
    split at h
    · rename_i q
      obtain ⟨rfl, rfl, rfl, rfl⟩ := m_go_eq h
      exact ⟨rfl, fun kk => lv_lload hx hb hd (hL.2.2.2 _ _ q) (kk _ hL)⟩
    · cases h
  case h_9 =>
    split at h
    · rename_i q
      obtain ⟨rfl, rfl, rfl, rfl⟩ := m_go_eq h
      exact ⟨rfl, fun kk => lv_lload_n hx hb hd rfl (hL.2.2.2 _ _ q) (kk _ hL)⟩
    · cases h
  case h_10 =>
    split at h
    · rename_i q
      obtain ⟨rfl, rfl, rfl, rfl⟩ := m_go_eq h
      exact ⟨rfl, fun kk => lv_aload hx hb hd (hL.2.2.2 _ _ q) (kk _ hL)⟩
    · rename_i q
      obtain ⟨rfl, rfl, rfl, rfl⟩ := m_go_eq h
      exact ⟨rfl, fun kk => lv_aloadN hx hb hd (hL.2.2.2 _ _ q) (kk _ hL)⟩
    · cases h
  case h_11 =>
    split at h
    · rename_i q
      obtain ⟨rfl, rfl, rfl, rfl⟩ := m_go_eq h
      exact ⟨rfl, fun kk => lv_aload_n hx hb hd rfl (hL.2.2.2 _ _ q) (kk _ hL)⟩
    · rename_i q
      obtain ⟨rfl, rfl, rfl, rfl⟩ := m_go_eq h
      exact ⟨rfl, fun kk => lv_aload_nN hx hb hd rfl (hL.2.2.2 _ _ q) (kk _ hL)⟩
    · cases h
  case h_12 =>
    split at h
    · rename_i q
      obtain ⟨rfl, rfl, rfl, rfl⟩ := m_go_eq h
      exact ⟨rfl, fun kk => lv_istore hx hb hd (m_lr_has hL) (by rw [← hL.1]; exact q) rfl (fun ls' hl' => kk ls' (m_s1_lr hL hl'))⟩
    · cases h
  case h_13 =>
    split at h
    · rename_i q
      obtain ⟨rfl, rfl, rfl, rfl⟩ := m_go_eq h
      exact ⟨rfl, fun kk => lv_istore_n hx hb hd rfl (m_lr_has hL) (by rw [← hL.1]; exact q) rfl (fun ls' hl' => kk ls' (m_s1_lr hL hl'))⟩
    · cases h
  case h_14 =>
    split at h
    · rename_i q
      obtain ⟨rfl, rfl, rfl, rfl⟩ := m_go_eq h
      exact ⟨rfl, fun kk => lv_lstore hx hb hd (m_lr_has hL) (by rw [← hL.1]; exact q) rfl (fun ls' hl' => kk ls' (m_s2_lr hL hl'))⟩
    · cases h
  case h_15 =>
    split at h
    · rename_i q
      obtain ⟨rfl, rfl, rfl, rfl⟩ := m_go_eq h
      exact ⟨rfl, fun kk => lv_lstore_n hx hb hd rfl (m_lr_has hL) (by rw [← hL.1]; exact q) rfl (fun ls' hl' => kk ls' (m_s2_lr hL hl'))⟩
    · cases h
  case h_16 =>
    split at h
    · rename_i q
      obtain ⟨rfl, rfl, rfl, rfl⟩ := m_go_eq h
      exact ⟨rfl, fun kk => lv_astore_n hx hb hd rfl (m_lr_has hL) (by rw [← hL.1]; exact q) rfl (fun ls' hl' => kk ls' (m_s1_lr hL hl'))⟩
    · cases h
  case h_17 =>
    split at h
    · rename_i q
      obtain ⟨rfl, rfl, rfl, rfl⟩ := m_go_eq h
      exact ⟨rfl, fun kk => lv_astore_nN hx hb hd rfl (m_lr_has hL) (by rw [← hL.1]; exact q) rfl (fun ls' hl' => kk ls' (m_s1_lr hL hl'))⟩
    · cases h
  case h_18 =>
    split at h
    · rename_i v q
      split at h
      · rename_i q2
        obtain ⟨rfl, rfl, rfl, rfl⟩ := m_go_eq h
        obtain ⟨n9, h9⟩ := List.getElem?_of_mem (m_la1_mem (ad := ad) q)
        exact ⟨rfl, fun kk => lv_iinc (k := n9) hx hb hd (m_lr_has hL) h9 rfl (by rw [← hL.1]; exact q2) rfl (fun ls' hl' => kk ls' (m_s1_lr hL hl'))⟩
      · cases h
    · cases h
  case h_19 => obtain ⟨rfl, rfl, rfl, rfl⟩ := m_go_eq h; exact ⟨rfl, fun kk => lv_iadd hx hb hd (kk _ hL)⟩
  case h_20 => obtain ⟨rfl, rfl, rfl, rfl⟩ := m_go_eq h; exact ⟨rfl, fun kk => lv_isub hx hb hd (kk _ hL)⟩
  case h_21 => obtain ⟨rfl, rfl, rfl, rfl⟩ := m_go_eq h; exact ⟨rfl, fun kk => lv_imul hx hb hd (kk _ hL)⟩
  case h_22 => obtain ⟨rfl, rfl, rfl, rfl⟩ := m_go_eq h; exact ⟨rfl, fun kk => lv_iand hx hb hd (kk _ hL)⟩
  case h_23 => obtain ⟨rfl, rfl, rfl, rfl⟩ := m_go_eq h; exact ⟨rfl, fun kk => lv_ior hx hb hd (kk _ hL)⟩
  case h_24 => obtain ⟨rfl, rfl, rfl, rfl⟩ := m_go_eq h; exact ⟨rfl, fun kk => lv_ixor hx hb hd (kk _ hL)⟩
  case h_27 => obtain ⟨rfl, rfl, rfl, rfl⟩ := m_go_eq h; exact ⟨rfl, fun kk => lv_ineg hx hb hd (kk _ hL)⟩
  case h_28 => obtain ⟨rfl, rfl, rfl, rfl⟩ := m_go_eq h; exact ⟨rfl, fun kk => lv_ishl hx hb hd (kk _ hL)⟩
  case h_29 => obtain ⟨rfl, rfl, rfl, rfl⟩ := m_go_eq h; exact ⟨rfl, fun kk => lv_ishr hx hb hd (kk _ hL)⟩
  case h_35 => obtain ⟨rfl, rfl, rfl, rfl⟩ := m_go_eq h; exact ⟨rfl, fun kk => lv_ladd hx hb hd (kk _ hL)⟩
  case h_36 => obtain ⟨rfl, rfl, rfl, rfl⟩ := m_go_eq h; exact ⟨rfl, fun kk => lv_lsub hx hb hd (kk _ hL)⟩
  case h_37 => obtain ⟨rfl, rfl, rfl, rfl⟩ := m_go_eq h; exact ⟨rfl, fun kk => lv_lmul hx hb hd (kk _ hL)⟩
  case h_38 => obtain ⟨rfl, rfl, rfl, rfl⟩ := m_go_eq h; exact ⟨rfl, fun kk => lv_lor hx hb hd (kk _ hL)⟩
  case h_41 => obtain ⟨rfl, rfl, rfl, rfl⟩ := m_go_eq h; exact ⟨rfl, fun kk => lv_lneg hx hb hd (kk _ hL)⟩
  case h_44 => obtain ⟨rfl, rfl, rfl, rfl⟩ := m_go_eq h; exact ⟨rfl, fun kk => W.lcmp hx hb hd (kk _ hL)⟩
  case h_30 => obtain ⟨rfl, rfl, rfl, rfl⟩ := m_go_eq h; exact ⟨rfl, fun kk => lv_iushr hx hb hd rfl (kk _ hL)⟩
  case h_31 => obtain ⟨rfl, rfl, rfl, rfl⟩ := m_go_eq h; exact ⟨rfl, fun kk => lv_i2b hx hb hd rfl (kk _ hL)⟩
  case h_32 => obtain ⟨rfl, rfl, rfl, rfl⟩ := m_go_eq h; exact ⟨rfl, fun kk => lv_i2c hx hb hd rfl (kk _ hL)⟩
  case h_33 => obtain ⟨rfl, rfl, rfl, rfl⟩ := m_go_eq h; exact ⟨rfl, fun kk => lv_i2l hx hb hd rfl (kk _ hL)⟩
  case h_34 => obtain ⟨rfl, rfl, rfl, rfl⟩ := m_go_eq h; exact ⟨rfl, fun kk => lv_l2i hx hb hd rfl (kk _ hL)⟩
  case h_42 => obtain ⟨rfl, rfl, rfl, rfl⟩ := m_go_eq h; exact ⟨rfl, fun kk => lv_lshl hx hb hd rfl (kk _ hL)⟩
  case h_43 => obtain ⟨rfl, rfl, rfl, rfl⟩ := m_go_eq h; exact ⟨rfl, fun kk => lv_lshr hx hb hd rfl (kk _ hL)⟩
  case h_25 =>
    split at h
    · cases h
    · rename_i q
      obtain ⟨rfl, rfl, rfl, rfl⟩ := m_go_eq h
      exact ⟨rfl, fun kk => lv_idiv hx hb hd q (kk _ hL)⟩
  case h_26 =>
    split at h
    · cases h
    · rename_i q
      obtain ⟨rfl, rfl, rfl, rfl⟩ := m_go_eq h
      exact ⟨rfl, fun kk => lv_irem hx hb hd q (kk _ hL)⟩
  case h_39 =>
    split at h
    · cases h
    · rename_i q
      obtain ⟨rfl, rfl, rfl, rfl⟩ := m_go_eq h
      exact ⟨rfl, fun kk => lv_ldiv hx hb hd q (kk _ hL)⟩
  case h_40 =>
    split at h
    · cases h
    · rename_i q
      obtain ⟨rfl, rfl, rfl, rfl⟩ := m_go_eq h
      exact ⟨rfl, fun kk => lv_lrem hx hb hd q (kk _ hL)⟩
  case h_45 =>
    split at h
    · rename_i q
      obtain ⟨rfl, rfl, rfl, rfl⟩ := m_go_eq h
      exact ⟨rfl, fun kk => lv_dup hx hb hd (by rw [m_tv_cat]; exact q) (kk _ hL)⟩
    · cases h
  case h_46 =>
    split at h
    · rename_i q
      obtain ⟨rfl, rfl, rfl, rfl⟩ := m_go_eq h
      exact ⟨rfl, fun kk => lv_pop hx hb hd (by rw [m_tv_cat]; exact q) (kk _ hL)⟩
    · cases h
  case h_47 =>
    split at h
    · rename_i q
      obtain ⟨rfl, rfl, rfl, rfl⟩ := m_go_eq h
      exact ⟨rfl, fun kk => lv_dup2_11 hx hb hd (by rw [m_tv_cat]; exact q.1) (by rw [m_tv_cat]; exact q.2) (kk _ hL)⟩
    · cases h
  case h_48 => cases h
end SD1
