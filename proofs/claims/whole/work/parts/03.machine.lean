-- A SMALL MACHINE over the decoded instructions: cells numbered from 0 on, references are these numbers (1000 and on: what stood there before)
/-- a cell: an array (its kind: 0 int, 1 long, 2 boolean, 3 of scripts, 4 of int rows), or an object (its place in vwCl, its fields) -/
abbrev m_E : Type := (Nat × vp_A) ⊕ (Nat × List Value)
abbrev m_H : Type := List m_E
abbrev m_L : Type := List (Option Value)
/-- from outside: the script's length, its ints, a static that is passed on -/
abbrev m_X : Type := Nat × (Nat → Int32) × Value
abbrev m_R : Type := Option Value × m_H
/-- what comes next: a place of the same frame; a call (whom, with what, where to go on, with what stack); an answer -/
abbrev m_A : Type := (Nat × m_L × List Value × m_H) ⊕ ((Nat × List Value × Nat × List Value) ⊕ Option Value)
def m_lk {α : Type} : List (Nat × α) → Nat → Option α
  | [], _ => none
  | (p, a) :: l, q => if p = q then some a else m_lk l q
def m_at (k pc : Nat) : Option m_N := m_lk (m_ins.getD k []) pc
def m_forms : List Int32 := [4, -1, 1, 9, 4, 15, 0, 9999, 5, -1, 0, 6, 5, 25, 0, 6, 5, 19, 1, 99, 5, 20, 0, 2, 5, 22, 0, 9, 6, -1, 0, 11, 6, 26, 1, 9, 7, -1, 0, 11, 7, 25, 0, 6, 8, -1, 0, 11, 9, -1, 0, 11, 10, -1, 0, 11, 11, -1, 1, 60]
def m_txt : List (List Int32) := [[99, 104, 105, 108, 108, 32, 102, 105, 110, 101, 32, 103, 114, 111, 119, 115, 32, 112, 97, 119, 110, 32, 111, 110, 101, 32, 111, 119, 101, 32, 100, 111, 32, 112, 97, 115, 115, 32, 108, 111, 115, 101, 32, 112, 108, 101, 100, 103, 101, 32, 114, 101, 100, 101, 101, 109, 32, 100, 97, 121, 32, 102, 114, 111, 115, 116, 32, 119, 104, 111, 32, 104, 97, 110, 100, 32, 99, 111, 105, 110, 115, 32, 99, 111, 108, 100, 32, 114, 105, 103, 104, 116, 115, 32, 98, 97, 114, 101, 32, 119, 111, 114, 107, 32, 108, 101, 97, 116, 104, 101, 114, 32, 115, 105, 122, 101, 32, 109, 97, 114, 107, 32, 102, 114, 111, 109, 32, 98, 121, 32, 116, 111, 32, 104, 111, 117, 114, 115, 32, 99, 111, 109, 109, 111, 110, 32, 119, 105, 116, 104, 32, 108, 101, 102, 116, 115, 32, 105, 102, 32, 116, 104, 101, 110, 32, 101, 108, 115, 101, 32, 101, 110, 100, 32, 111, 114, 32, 97, 110, 100, 32, 110, 111, 116, 32], [60, 62, 61, 35, 43, 45, 42, 47, 40, 41, 59]]
def m_tln : List Nat := [185, 11]
/-- arrays from outside: kind (0 int, 5 byte), length, ints -/
def m_xa (x : m_X) (a : Nat) : Option (Nat × Nat × (Nat → Int32)) :=
  if a = 1000 then some (0, x.1, x.2.1)
  else if a = 1001 then some (0, 60, fun j => m_forms.getD j 0)
  else if a = 1004 then some (5, m_tln.getD 0 0, fun j => (m_txt.getD 0 []).getD j 0)
  else if a = 1005 then some (5, m_tln.getD 1 0, fun j => (m_txt.getD 1 []).getD j 0)
  else none
/-- own cells -/
def m_o (σ : m_H) (a : Nat) : Option m_E := if a < 1000 then σ[a]? else none
def m_ix (i : Int32) (n : Nat) : Option Nat := if i < 0 ∨ n ≤ i.toNatClampNeg then none else some i.toNatClampNeg
/-- an own row of ints of a kind -/
def m_ri (σ : m_H) (t a : Nat) : Option (Nat × (Nat → Int32)) := match m_o σ a with
  | some (.inl (t', n, .inl f)) => if t' = t then some (n, f) else none
  | _ => none
def m_rl (σ : m_H) (a : Nat) : Option (Nat × (Nat → Int64)) := match m_o σ a with
  | some (.inl (t', n, .inr (.inl f))) => if t' = 1 then some (n, f) else none
  | _ => none
def m_rr (σ : m_H) (t a : Nat) : Option (Nat × (Nat → Option Nat)) := match m_o σ a with
  | some (.inl (t', n, .inr (.inr (.inr (.inr f))))) => if t' = t then some (n, f) else none
  | _ => none
/-- reads: an int row's place (own or from outside), a boolean or byte row's, a long row's, a row of references' -/
def m_ia (x : m_X) (σ : m_H) (a : Nat) (i : Int32) : Option Int32 :=
  if a < 1000 then (m_ri σ 0 a).bind fun r => (m_ix i r.1).map r.2
  else (m_xa x a).bind fun r => if r.1 = 0 then (m_ix i r.2.1).map r.2.2 else none
def m_ba (x : m_X) (σ : m_H) (a : Nat) (i : Int32) : Option Int32 :=
  if a < 1000 then (m_ri σ 2 a).bind fun r => (m_ix i r.1).map r.2
  else (m_xa x a).bind fun r => if r.1 = 5 then (m_ix i r.2.1).map r.2.2 else none
def m_la (σ : m_H) (a : Nat) (i : Int32) : Option Int64 := (m_rl σ a).bind fun r => (m_ix i r.1).map r.2
def m_aa (σ : m_H) (a : Nat) (i : Int32) : Option Nat := match m_rr σ 3 a with
  | some r => (m_ix i r.1).bind r.2
  | none => (m_rr σ 4 a).bind fun r => (m_ix i r.1).bind r.2
def m_len (x : m_X) (σ : m_H) (a : Nat) : Option Int32 :=
  if a < 1000 then match m_o σ a with
    | some (.inl (t, n, _)) => if t < 5 then some (Int32.ofNat n) else none
    | _ => none
  else (m_xa x a).map fun r => Int32.ofNat r.2.1
/-- writes -/
def m_is (σ : m_H) (a : Nat) (i v : Int32) : Option m_H := (m_ri σ 0 a).bind fun r => (m_ix i r.1).map fun j => σ.set a (.inl (0, r.1, .inl (upd r.2 j v)))
def m_bs (σ : m_H) (a : Nat) (i v : Int32) : Option m_H := if v = 0 ∨ v = 1 then (m_ri σ 2 a).bind fun r => (m_ix i r.1).map fun j => σ.set a (.inl (2, r.1, .inl (upd r.2 j v))) else none
def m_lst (σ : m_H) (a : Nat) (i : Int32) (v : Int64) : Option m_H := (m_rl σ a).bind fun r => (m_ix i r.1).map fun j => σ.set a (.inl (1, r.1, .inr (.inl (vp_updL r.2 j v))))
/-- a script into its row: the value is an own object of the class 5 of vwCl -/
def m_as (σ : m_H) (a : Nat) (i : Int32) (v : Nat) : Option m_H := match m_o σ v with
  | some (.inr (5, _)) => (m_rr σ 3 a).bind fun r => (m_ix i r.1).map fun j => σ.set a (.inl (3, r.1, .inr (.inr (.inr (.inr (va_up r.2 j (some v)))))))
  | _ => none
/-- fields: kinds 0 int, 1 long, 2 reference, 3 boolean -/
def m_fk (d : String) : Nat := if d = "I" then 0 else if d = "J" then 1 else if d = "Z" then 3 else 2
def m_ft (ci k : Nat) : Nat := match vwCl[ci]? with
  | some (_, T, _) => m_fk (T k).2.2.1
  | none => 9
def m_fv (σ : m_H) (ci k o : Nat) : Option Value := match m_o σ o with
  | some (.inr (c, fs)) => if c = ci then fs[k]? else none
  | _ => none
def m_fI (σ : m_H) (ci k o : Nat) : Option Int32 := match m_fv σ ci k o with
  | some (.int v) => some v
  | _ => none
def m_fL (σ : m_H) (ci k o : Nat) : Option Int64 := match m_fv σ ci k o with
  | some (.long v) => some v
  | _ => none
def m_fR (σ : m_H) (ci k o : Nat) : Option Nat := match m_fv σ ci k o with
  | some (.ref v) => some v
  | _ => none
def m_pf (σ : m_H) (ci k o : Nat) (v : Value) : Option m_H := match m_o σ o with
  | some (.inr (c, fs)) => if c = ci ∧ k < fs.length then some (σ.set o (.inr (c, fs.set k v))) else none
  | _ => none
/-- what a field of that kind takes -/
def m_tk (t : Nat) : Value → Bool
  | .int v => t == 0 || (t == 3 && (v == 0 || v == 1))
  | .long _ => t == 1
  | .ref _ => t == 2
  | _ => false
def m_dv (t : Nat) : Value := if t = 1 then .long 0 else if t = 2 then .null else .int 0
/-- a new object's fields -/
def m_nf (ci : Nat) : List Value := match vwCl[ci]? with
  | some (_, T, N) => (List.range N).map fun k => m_dv (m_fk (T k).2.2.1)
  | none => []
/-- locals -/
def m_gl (L : m_L) (n : Nat) : Option Value := match L[n]? with
  | some (some v) => some v
  | _ => none
def m_kl (L : m_L) (n : Nat) : m_L := match n with
  | 0 => L
  | j + 1 => match L[j]? with
    | some (some (.long _)) => L.set j none
    | some (some (.double _)) => L.set j none
    | _ => L
def m_s1 (L : m_L) (n : Nat) (v : Value) : m_L := (m_kl L n).set n (some v)
def m_s2 (L : m_L) (n : Nat) (v : Value) : m_L := ((m_kl L n).set n (some v)).set (n + 1) none
/-- the locals at a method's entry -/
def m_sl : List Value → m_L
  | [] => []
  | .long v :: r => some (.long v) :: none :: m_sl r
  | .double v :: r => some (.double v) :: none :: m_sl r
  | .int v :: r => some (.int v) :: m_sl r
  | .float v :: r => some (.float v) :: m_sl r
  | .null :: r => some .null :: m_sl r
  | .ref v :: r => some (.ref v) :: m_sl r
  | .retAddr v :: r => some (.retAddr v) :: m_sl r
def m_en (k : Nat) (as : List Value) : m_L := m_sl as ++ List.replicate (m_ml.getD k 0 - (m_sl as).length) none
/-- is that an answer of that type? -/
def m_rk (t : Option FieldType) (r : Option Value) : Bool := match t, r with
  | none, none => true
  | some .int, some (.int _) => true
  | some .boolean, some (.int v) => v == 0 || v == 1
  | some .byte, some (.int v) => narrow .byte (.int v) == .int v
  | some .char, some (.int v) => narrow .char (.int v) == .int v
  | some .long, some (.long _) => true
  | some (.object _), some (.ref _) => true
  | some (.object _), some .null => true
  | some (.array _), some (.ref _) => true
  | some (.array _), some .null => true
  | _, _ => false
def m_cat (st : List Value) : Nat := (st.map fun v => v.category).sum
def m_go (pc : Nat) (L : m_L) (st : List Value) (σ : m_H) : Option m_A := some (.inl (pc, L, st, σ))
def m_tg (pc : Nat) (off : Int) : Nat := ((pc : Int) + off).toNat
/-- a call: n values are on the stack, the last one first -/
def m_cl1 (k' n pc : Nat) (st : List Value) : Option m_A :=
  if n ≤ st.length ∧ k' < m_ins.length ∧ m_cat (st.drop n) ≤ 8 ∧ (m_sl (st.take n).reverse).length ≤ m_ml.getD k' 0 then some (.inr (.inl (k', (st.take n).reverse, pc + 3, st.drop n))) else none
def m_isO (σ : m_H) (b ci : Nat) : Bool := match m_o σ b with
  | some (.inr (c, _)) => c == ci
  | _ => false
/-- the class of an instance method's receiver, by its place in vwCl; 100: a text -/
def m_ci (k : Nat) : Nat := let c := m_cn.getD (m_cl.getD k 0) ""
  if c = "java/lang/String" then 100 else (vwCl.findIdx? (fun q => q.1 == c)).getD 99
/-- does the receiver fit? -/
def m_rc (k : Nat) (as : List Value) (σ : m_H) : Bool := if m_kd.getD k 0 = 0 then true else match as with
    | .ref b :: _ => m_kd.getD k 0 == 2 || m_isO σ b (m_ci k) || (m_ci k == 100 && (b == 1002 || b == 1003))
    | _ => false
def m_cpy (σ : m_H) (a : Nat) (sp : Int32) (b : Nat) (dp n : Int32) : Option m_H := match m_ri σ 0 a, m_ri σ 0 b with
  | some r, some t => if ¬ sp < 0 ∧ ¬ dp < 0 ∧ ¬ n < 0 ∧ sp.toNatClampNeg + n.toNatClampNeg ≤ r.1 ∧ dp.toNatClampNeg + n.toNatClampNeg ≤ t.1 then some (σ.set b (.inl (0, t.1, .inl (va_cpy r.2 t.2 sp.toNatClampNeg dp.toNatClampNeg n.toNatClampNeg)))) else none
  | _, _ => none
/-- conditions -/
def m_cd1 (c : Jvm.ClassFile.Cond) (x y : Int32) : Bool := match c with
  | .eq => x = y
  | .ne => ¬ x = y
  | .lt => x < y
  | .ge => y ≤ x
  | .gt => y < x
  | .le => x ≤ y
/-- switches -/
def m_ts (pc : Nat) (dflt lo hi : Int) (offs : Array Int) (x : Int32) : Option Nat :=
  if x.toInt < lo ∨ hi < x.toInt then some (m_tg pc dflt) else (offs[(x.toInt - lo).toNat]?).map (m_tg pc)
/-- constants, locals, the stack, arithmetic -/
def m_d1 (i : Instr) (pc : Nat) (L : m_L) (st : List Value) (σ : m_H) : Option m_A := match i, st with
  | .iconst n, st => m_go (pc + 1) L (.int (Int32.ofInt n) :: st) σ
  | .bipush n, st => m_go (pc + 2) L (.int (Int8.ofInt n).toInt32 :: st) σ
  | .sipush n, st => m_go (pc + 3) L (.int (Int16.ofInt n).toInt32 :: st) σ
  | .lconst n, st => m_go (pc + 1) L (.long (Int64.ofNat (n : Nat)) :: st) σ
  | .aconst_null, st => m_go (pc + 1) L (.null :: st) σ
  | .iload n, st => match m_gl L n with
    | some (.int v) => m_go (pc + 2) L (.int v :: st) σ
    | _ => none
  | .iload_n n, st => match m_gl L n with
    | some (.int v) => m_go (pc + 1) L (.int v :: st) σ
    | _ => none
  | .lload n, st => match m_gl L n with
    | some (.long v) => m_go (pc + 2) L (.long v :: st) σ
    | _ => none
  | .lload_n n, st => match m_gl L n with
    | some (.long v) => m_go (pc + 1) L (.long v :: st) σ
    | _ => none
  | .aload n, st => match m_gl L n with
    | some (.ref v) => m_go (pc + 2) L (.ref v :: st) σ
    | some .null => m_go (pc + 2) L (.null :: st) σ
    | _ => none
  | .aload_n n, st => match m_gl L n with
    | some (.ref v) => m_go (pc + 1) L (.ref v :: st) σ
    | some .null => m_go (pc + 1) L (.null :: st) σ
    | _ => none
  | .istore n, .int v :: st => if n < L.length then m_go (pc + 2) (m_s1 L n (.int v)) st σ else none
  | .istore_n n, .int v :: st => if n < L.length then m_go (pc + 1) (m_s1 L n (.int v)) st σ else none
  | .lstore n, .long v :: st => if n + 1 < L.length then m_go (pc + 2) (m_s2 L n (.long v)) st σ else none
  | .lstore_n n, .long v :: st => if n + 1 < L.length then m_go (pc + 1) (m_s2 L n (.long v)) st σ else none
  | .astore_n n, .ref v :: st => if n < L.length then m_go (pc + 1) (m_s1 L n (.ref v)) st σ else none
  | .astore_n n, .null :: st => if n < L.length then m_go (pc + 1) (m_s1 L n .null) st σ else none
  | .iinc n d, st => match m_gl L n with
    | some (.int v) => if n < L.length then m_go (pc + 3) (m_s1 L n (.int (v + Int32.ofInt d))) st σ else none
    | _ => none
  | .iadd, .int y :: .int x :: st => m_go (pc + 1) L (.int (x + y) :: st) σ
  | .isub, .int y :: .int x :: st => m_go (pc + 1) L (.int (x - y) :: st) σ
  | .imul, .int y :: .int x :: st => m_go (pc + 1) L (.int (x * y) :: st) σ
  | .iand, .int y :: .int x :: st => m_go (pc + 1) L (.int (x &&& y) :: st) σ
  | .ior, .int y :: .int x :: st => m_go (pc + 1) L (.int (x ||| y) :: st) σ
  | .ixor, .int y :: .int x :: st => m_go (pc + 1) L (.int (x ^^^ y) :: st) σ
  | .idiv, .int y :: .int x :: st => if y = 0 then none else m_go (pc + 1) L (.int (x / y) :: st) σ
  | .irem, .int y :: .int x :: st => if y = 0 then none else m_go (pc + 1) L (.int (x - x / y * y) :: st) σ
  | .ineg, .int x :: st => m_go (pc + 1) L (.int (-x) :: st) σ
  | .ishl, .int y :: .int x :: st => m_go (pc + 1) L (.int (x <<< (y &&& 31)) :: st) σ
  | .ishr, .int y :: .int x :: st => m_go (pc + 1) L (.int (x >>> (y &&& 31)) :: st) σ
  | .iushr, .int y :: .int x :: st => m_go (pc + 1) L (.int (x.toUInt32 >>> (y.toUInt32 &&& Int32.toUInt32 31)).toInt32 :: st) σ
  | .i2b, .int x :: st => m_go (pc + 1) L (.int x.toInt8.toInt32 :: st) σ
  | .i2c, .int x :: st => m_go (pc + 1) L (.int (x.toUInt32 % 65536).toInt32 :: st) σ
  | .i2l, .int x :: st => m_go (pc + 1) L (.long x.toInt64 :: st) σ
  | .l2i, .long x :: st => m_go (pc + 1) L (.int x.toInt32 :: st) σ
  | .ladd, .long y :: .long x :: st => m_go (pc + 1) L (.long (x + y) :: st) σ
  | .lsub, .long y :: .long x :: st => m_go (pc + 1) L (.long (x - y) :: st) σ
  | .lmul, .long y :: .long x :: st => m_go (pc + 1) L (.long (x * y) :: st) σ
  | .lor, .long y :: .long x :: st => m_go (pc + 1) L (.long (x ||| y) :: st) σ
  | .ldiv, .long y :: .long x :: st => if y = 0 then none else m_go (pc + 1) L (.long (x / y) :: st) σ
  | .lrem, .long y :: .long x :: st => if y = 0 then none else m_go (pc + 1) L (.long (x - x / y * y) :: st) σ
  | .lneg, .long x :: st => m_go (pc + 1) L (.long (-x) :: st) σ
  | .lshl, .int y :: .long x :: st => m_go (pc + 1) L (.long (x <<< (y.toInt64 &&& 63)) :: st) σ
  | .lshr, .int y :: .long x :: st => m_go (pc + 1) L (.long (x >>> (y.toInt64 &&& 63)) :: st) σ
  | .lcmp, .long y :: .long x :: st => m_go (pc + 1) L (.int (lg_cmp x y) :: st) σ
  | .dup, v :: st => if v.category = 1 then m_go (pc + 1) L (v :: v :: st) σ else none
  | .pop, v :: st => if v.category = 1 then m_go (pc + 1) L st σ else none
  | .dup2, v :: w :: st => if v.category = 1 ∧ w.category = 1 then m_go (pc + 1) L (v :: w :: v :: w :: st) σ else none
  | _, _ => none
/-- jumps -/
def m_d2 (i : Instr) (pc : Nat) (L : m_L) (st : List Value) (σ : m_H) : Option m_A := match i, st with
  | .ifCond c off, .int x :: st => m_go (if m_cd1 c x 0 then m_tg pc off else pc + 3) L st σ
  | .if_icmp c off, .int y :: .int x :: st => m_go (if m_cd1 c x y then m_tg pc off else pc + 3) L st σ
  | .goto off, st => m_go (m_tg pc off) L st σ
  | .ifnull off, .null :: st => m_go (m_tg pc off) L st σ
  | .ifnull _, .ref _ :: st => m_go (pc + 3) L st σ
  | .ifnonnull _, .null :: st => m_go (pc + 3) L st σ
  | .ifnonnull off, .ref _ :: st => m_go (m_tg pc off) L st σ
  | .tableswitch d lo hi offs, .int x :: st => (m_ts pc d lo hi offs x).bind fun t => m_go t L st σ
  | .lookupswitch d ps, .int x :: st => m_go (m_tg pc (Op.lookupswitch.offset ps.toList d x.toInt)) L st σ
  | _, _ => none
/-- cells -/
def m_d3 (x : m_X) (i : Instr) (j pc : Nat) (L : m_L) (st : List Value) (σ : m_H) : Option m_A := match i, st with
  | .getfield _, .ref o :: st => (m_lf[j]?).bind fun q =>
      if q.2.2.1 = 100 then
        if o = 1002 ∨ o = 1003 then (if q.2.2.2 = 0 then m_go (pc + 3) L (.ref (o + 2) :: st) σ else m_go (pc + 3) L (.int 0 :: st) σ) else none
      else match m_ft q.2.2.1 q.2.2.2 with
        | 1 => (m_fL σ q.2.2.1 q.2.2.2 o).bind fun v => m_go (pc + 3) L (.long v :: st) σ
        | 2 => (m_fR σ q.2.2.1 q.2.2.2 o).bind fun v => m_go (pc + 3) L (.ref v :: st) σ
        | _ => (m_fI σ q.2.2.1 q.2.2.2 o).bind fun v => m_go (pc + 3) L (.int v :: st) σ
  | .putfield _, v :: .ref o :: st => (m_lf[j]?).bind fun q =>
      if m_tk (m_ft q.2.2.1 q.2.2.2) v then (m_pf σ q.2.2.1 q.2.2.2 o v).bind fun σ => m_go (pc + 3) L st σ else none
  | .getstatic _, st => (m_lg[j]?).bind fun q => match q.2.2 with
      | 0 => m_go (pc + 3) L (.int 1 :: st) σ
      | 1 => m_go (pc + 3) L (.ref 1001 :: st) σ
      | _ => m_go (pc + 3) L (x.2.2 :: st) σ
  | .iaload, .int i :: .ref a :: st => (m_ia x σ a i).bind fun v => m_go (pc + 1) L (.int v :: st) σ
  | .baload, .int i :: .ref a :: st => (m_ba x σ a i).bind fun v => m_go (pc + 1) L (.int v :: st) σ
  | .laload, .int i :: .ref a :: st => (m_la σ a i).bind fun v => m_go (pc + 1) L (.long v :: st) σ
  | .aaload, .int i :: .ref a :: st => (m_aa σ a i).bind fun v => m_go (pc + 1) L (.ref v :: st) σ
  | .arraylength, .ref a :: st => (m_len x σ a).bind fun v => m_go (pc + 1) L (.int v :: st) σ
  | .iastore, .int v :: .int i :: .ref a :: st => (m_is σ a i v).bind fun σ => m_go (pc + 1) L st σ
  | .bastore, .int v :: .int i :: .ref a :: st => (m_bs σ a i v).bind fun σ => m_go (pc + 1) L st σ
  | .lastore, .long v :: .int i :: .ref a :: st => (m_lst σ a i v).bind fun σ => m_go (pc + 1) L st σ
  | .aastore, .ref v :: .int i :: .ref a :: st => (m_as σ a i v).bind fun σ => m_go (pc + 1) L st σ
  | .new _, st => (m_lc[j]?).bind fun q => if σ.length < 900 then m_go (pc + 3) L (.ref σ.length :: st) (σ ++ [.inr (q.2.2, m_nf q.2.2)]) else none
  | .newarray t, .int n :: st => if σ.length < 900 ∧ ¬ n < 0 ∧ n.toNatClampNeg ≤ 100000 then (match t with
      | .int => m_go (pc + 2) L (.ref σ.length :: st) (σ ++ [.inl (0, n.toNatClampNeg, .inl fun _ => 0)])
      | .long => m_go (pc + 2) L (.ref σ.length :: st) (σ ++ [.inl (1, n.toNatClampNeg, .inr (.inl fun _ => 0))])
      | .boolean => m_go (pc + 2) L (.ref σ.length :: st) (σ ++ [.inl (2, n.toNatClampNeg, .inl fun _ => 0)])
      | _ => none) else none
  | .anewarray _, .int n :: st => if σ.length < 900 ∧ ¬ n < 0 ∧ n.toNatClampNeg ≤ 100000 then m_go (pc + 3) L (.ref σ.length :: st) (σ ++ [.inl (3, n.toNatClampNeg, .inr (.inr (.inr (.inr fun _ => none))))]) else none
  | .multianewarray _ _, .int k :: .int n :: st => if σ.length + n.toNatClampNeg < 900 ∧ ¬ n < 0 ∧ ¬ k < 0 ∧ k.toNatClampNeg ≤ 100000 then
      m_go (pc + 4) L (.ref σ.length :: st) (σ ++ .inl (4, n.toNatClampNeg, .inr (.inr (.inr (.inr fun i => if i < n.toNatClampNeg then some (σ.length + 1 + i) else none)))) :: List.replicate n.toNatClampNeg (.inl (0, k.toNatClampNeg, .inl fun _ => 0))) else none
  | .ldc _, st => if j < 100 then (m_ld[j]?).bind fun q => m_go (pc + 2) L (.int q.2.2 :: st) σ else (m_ls[j - 100]?).bind fun q => m_go (pc + 2) L (.ref (1002 + q.2.2) :: st) σ
  | .ldc_w _, st => if j < 100 then (m_ld[j]?).bind fun q => m_go (pc + 3) L (.int q.2.2 :: st) σ else none
  | .ldc2_w _, st => (m_ll[j]?).bind fun q => m_go (pc + 3) L (.long q.2.2 :: st) σ
  | _, _ => none
/-- calls and returns -/
def m_d4 (k : Nat) (i : Instr) (j pc : Nat) (L : m_L) (st : List Value) (σ : m_H) : Option m_A := match i, st with
  | .invokestatic _, st => (m_lm[j]?).bind fun q =>
      if q.2.2.1 = 9001 then match st with
        | .int n :: .int dp :: .ref b :: .int sp :: .ref a :: st => if m_cat st ≤ 8 then (m_cpy σ a sp b dp n).bind fun σ => m_go (pc + 3) L st σ else none
        | _ => none
      else m_cl1 q.2.2.1 (m_ar.getD q.2.2.1 0) pc st
  | .invokevirtual _, st => (m_lm[j]?).bind fun q => m_cl1 q.2.2.1 (m_ar.getD q.2.2.1 0 + 1) pc st
  | .invokespecial _, st => (m_lm[j]?).bind fun q =>
      if q.2.2.1 = 9000 then match st with
        | .ref _ :: st => if m_cat st ≤ 8 then m_go (pc + 3) L st σ else none
        | _ => none
      else m_cl1 q.2.2.1 (m_ar.getD q.2.2.1 0 + 1) pc st
  | .ireturn, [.int v] => if m_rk (m_rt.getD k none) (some (.int v)) then some (.inr (.inr (some (.int v)))) else none
  | .lreturn, [.long v] => if m_rk (m_rt.getD k none) (some (.long v)) then some (.inr (.inr (some (.long v)))) else none
  | .areturn, [.ref v] => if m_rk (m_rt.getD k none) (some (.ref v)) then some (.inr (.inr (some (.ref v)))) else none
  | .areturn, [.null] => if m_rk (m_rt.getD k none) (some .null) then some (.inr (.inr (some .null))) else none
  | .return_, [] => if m_rk (m_rt.getD k none) none then some (.inr (.inr none)) else none
  | _, _ => none
/-- which of the four -/
def m_cs : Instr → Nat
  | .ifCond .. | .if_icmp .. | .goto _ | .ifnull _ | .ifnonnull _ | .tableswitch .. | .lookupswitch .. => 2
  | .getfield _ | .putfield _ | .getstatic _ | .iaload | .baload | .laload | .aaload | .arraylength | .iastore | .bastore | .lastore | .aastore | .new _ | .newarray _ | .anewarray _ | .multianewarray .. | .ldc _ | .ldc_w _ | .ldc2_w _ => 3
  | .invokestatic _ | .invokevirtual _ | .invokespecial _ | .ireturn | .lreturn | .areturn | .return_ => 4
  | _ => 1
def m_nxt (x : m_X) (k pc : Nat) (L : m_L) (st : List Value) (σ : m_H) : Option m_A := match m_at k pc with
  | none => none
  | some (i, _, j) => match m_cs i with
    | 1 => m_d1 i pc L st σ
    | 2 => m_d2 i pc L st σ
    | 3 => m_d3 x i j pc L st σ
    | _ => m_d4 k i j pc L st σ
