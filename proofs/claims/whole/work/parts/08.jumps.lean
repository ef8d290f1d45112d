theorem m_tg_pos {pc : Nat} {off : Int} (h : m_pos pc off = true) : (pc : Int) + off = (m_tg pc off : Int) := by
  have h : 0 ≤ (pc : Int) + off := of_decide_eq_true h
  unfold m_tg
  omega
section SD2
variable {p : Program} {l : Launch} {e : Env} {R : Room} {s : State} {m : MethodId} {args : Array Value} {below : List Frame} {meth : Method} {c : Code} {H : Heap} {locs : List Loc} {cells slots : Nat} {Q : State → Prop} {ad : Nat → Nat}
theorem m_off_mem {d : Int} : ∀ (ps : List (Int × Int)) (v : Int), Op.lookupswitch.offset ps d v = d ∨ ∃ q ∈ ps, Op.lookupswitch.offset ps d v = q.2 := by
  intro ps v
  induction ps with
  | nil => left; rfl
  | cons q ps ih =>
    obtain ⟨a, o⟩ := q
    rw [Op.lookupswitch.offset_cons]
    by_cases h : a = v
    · rw [if_pos h]
      exact Or.inr ⟨(a, o), List.mem_cons_self, rfl⟩
    · rw [if_neg h]
      rcases ih with q | ⟨z, q1, q2⟩
      · exact Or.inl q
      · exact Or.inr ⟨z, List.mem_cons_of_mem _ q1, q2⟩
set_option maxHeartbeats 4000000 in
theorem m_sd2 {k pc : Nat} {i : Instr} {len j : Nat} {L : m_L} {st : List Value} {σ : m_H} {pc' : Nat} {L' : m_L} {st' : List Value} {σ' : m_H} {ls : Array Slot} (hF : m_F k p s m args meth c) (hd : decode (m_CD k) pc = .ok (i, m_ln i len)) (hok : m_okI k pc i len j = true)
    (h : m_d2 i pc L st σ = some (.inl (pc', L', st', σ'))) (hL : m_lr ad (m_ML k) L ls) :
    σ' = σ ∧ ((∀ ls', m_lr ad (m_ML k) L' ls' → W p l e R s m args below meth c H locs cells slots Q (F0 m pc' ls' (st'.map (m_tv ad)))) → W p l e R s m args below meth c H locs cells slots Q (F0 m pc ls (st.map (m_tv ad)))) := by
  obtain ⟨hx, hb, -, -, -, -, -, -⟩ := hF
  simp only [m_okI, Bool.and_eq_true] at hok
  obtain ⟨-, hok⟩ := hok
  unfold m_d2 at h
  split at h
  case h_1 =>
    rename_i cc off x st
    obtain ⟨rfl, rfl, rfl, rfl⟩ := m_go_eq h
    have ht := m_tg_pos hok
    refine ⟨rfl, fun kk => ?_⟩
    have kk := kk _ hL
    cases cc
    · exact lv_if_eq hx hb hd ht (fun q => by simpa [m_cd1, q] using kk) (fun q => by simpa [m_cd1, q] using kk)
    · exact lv_if_ne hx hb hd ht (fun q => by simpa [m_cd1, q] using kk) (fun q => by simpa [m_cd1, q] using kk)
    · exact lv_if_lt hx hb hd ht (fun q => by simpa only [m_cd1, decide_eq_true q, if_true] using kk) (fun q => by simpa only [m_cd1, decide_eq_false q, Bool.false_eq_true, if_false] using kk)
    · exact lv_if_ge hx hb hd ht (fun q => by simpa only [m_cd1, decide_eq_true q, if_true] using kk) (fun q => by simpa only [m_cd1, decide_eq_false q, Bool.false_eq_true, if_false] using kk)
    · exact lv_if_gt hx hb hd ht (fun q => by simpa only [m_cd1, decide_eq_true q, if_true] using kk) (fun q => by simpa only [m_cd1, decide_eq_false q, Bool.false_eq_true, if_false] using kk)
    · exact lv_if_le hx hb hd ht (fun q => by simpa only [m_cd1, decide_eq_true q, if_true] using kk) (fun q => by simpa only [m_cd1, decide_eq_false q, Bool.false_eq_true, if_false] using kk)
  case h_2 =>
    rename_i cc off y x st
    obtain ⟨rfl, rfl, rfl, rfl⟩ := m_go_eq h
    have ht := m_tg_pos hok
    refine ⟨rfl, fun kk => ?_⟩
    have kk := kk _ hL
    cases cc
    · exact lv_icmp_eq hx hb hd ht (fun q => by simpa [m_cd1, q] using kk) (fun q => by simpa [m_cd1, q] using kk)
    · exact lv_icmp_ne hx hb hd ht (fun q => by simpa [m_cd1, q] using kk) (fun q => by simpa [m_cd1, q] using kk)
    · exact lv_icmp_lt hx hb hd ht (fun q => by simpa only [m_cd1, decide_eq_true q, if_true] using kk) (fun q => by simpa only [m_cd1, decide_eq_false q, Bool.false_eq_true, if_false] using kk)
    · exact lv_icmp_ge hx hb hd ht (fun q => by simpa only [m_cd1, decide_eq_true q, if_true] using kk) (fun q => by simpa only [m_cd1, decide_eq_false q, Bool.false_eq_true, if_false] using kk)
    · exact lv_icmp_gt hx hb hd ht (fun q => by simpa only [m_cd1, decide_eq_true q, if_true] using kk) (fun q => by simpa only [m_cd1, decide_eq_false q, Bool.false_eq_true, if_false] using kk)
    · exact lv_icmp_le hx hb hd ht (fun q => by simpa only [m_cd1, decide_eq_true q, if_true] using kk) (fun q => by simpa only [m_cd1, decide_eq_false q, Bool.false_eq_true, if_false] using kk)
  case h_3 => obtain ⟨rfl, rfl, rfl, rfl⟩ := m_go_eq h; exact ⟨rfl, fun kk => lv_goto hx hb hd (m_tg_pos hok) (kk _ hL)⟩
  case h_4 => obtain ⟨rfl, rfl, rfl, rfl⟩ := m_go_eq h; exact ⟨rfl, fun kk => lv_ifnullN hx hb hd (m_tg_pos hok) (kk _ hL)⟩
  case h_5 => obtain ⟨rfl, rfl, rfl, rfl⟩ := m_go_eq h; exact ⟨rfl, fun kk => lv_ifnull hx hb hd (kk _ hL)⟩
  case h_6 => obtain ⟨rfl, rfl, rfl, rfl⟩ := m_go_eq h; exact ⟨rfl, fun kk => lv_ifnonnullN hx hb hd (kk _ hL)⟩
  case h_7 => obtain ⟨rfl, rfl, rfl, rfl⟩ := m_go_eq h; exact ⟨rfl, fun kk => lv_ifnonnull hx hb hd (m_tg_pos hok) (kk _ hL)⟩
  case h_8 =>
    rename_i d lo hi offs x st
    obtain ⟨t, h1, h2⟩ := Option.bind_eq_some_iff.mp h
    obtain ⟨rfl, rfl, rfl, rfl⟩ := m_go_eq h2
    simp only [Bool.and_eq_true] at hok
    refine ⟨rfl, fun kk => ?_⟩
    unfold m_ts at h1
    split at h1
    · rename_i q
      cases h1
      exact lv_tableOut hx hb hd q (m_tg_pos hok.1) (kk _ hL)
    · rename_i q
      obtain ⟨off, e1, rfl⟩ := Option.map_eq_some_iff.mp h1
      have hm : off ∈ offs.toList := by
        obtain ⟨e2, e3⟩ := Array.getElem?_eq_some_iff.mp e1
        rw [← e3]
        exact Array.getElem_mem_toList ..
      exact lv_tableIn hx hb hd (fun z => q (Or.inl z)) (fun z => q (Or.inr z)) e1 (m_tg_pos (List.all_eq_true.mp hok.2 off hm)) (kk _ hL)
  case h_9 =>
    rename_i d ps x st
    obtain ⟨rfl, rfl, rfl, rfl⟩ := m_go_eq h
    simp only [Bool.and_eq_true] at hok
    obtain ⟨⟨hok1, hok2⟩, hok3⟩ := hok
    refine ⟨rfl, fun kk => ?_⟩
    refine lv_lookup hx hb hd hok3 rfl (m_tg_pos ?_) (kk _ hL)
    rcases m_off_mem (d := d) ps.toList x.toInt with q | ⟨z, q1, q2⟩
    · rw [q]; exact hok1
    · rw [q2]; exact List.all_eq_true.mp hok2 z q1
  case h_10 => cases h
end SD2
