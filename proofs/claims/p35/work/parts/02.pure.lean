noncomputable section
/-! A PURE MACHINE: cells, methods, one step, runs. A reference in it is a number: 0 the script, 1 + j and 17 + j the j-th text and its bytes, 33 a static, 64 + k the k-th cell that was made since the law's entry. -/
abbrev px_E : Type := List Int32 ⊕ (List Int64 ⊕ (Nat × List Value))
abbrev px_W : Type := List px_E
/-- a pool: fields (index, kind of object, field), calls (index, sort, method), made kinds (index, kind), ints, longs, texts, statics (0, 1), fields of texts (0 bytes, 1 coder) -/
abbrev px_L : Type := List (Nat × Nat × Nat) × List (Nat × Nat × Nat) × List (Nat × Nat) × List (Nat × Int32) × List (Nat × Int64) × List (Nat × Nat) × List (Nat × Nat) × List (Nat × Nat)
/-- a method's head: name, bytes, locals, what it returns, how many arguments beside the receiver -/
abbrev px_Hd : Type := MethodName × ByteArray × Nat × Option FieldType × Nat
abbrev px_M : Type := px_Hd × List (Nat × Instr × Nat) × px_L
abbrev px_N : Type := Nat × List (Nat × Value) × List Value × px_W × Nat × Nat
abbrev px_R : Type := px_N ⊕ (Option Value ⊕ (Nat × List Value × List Value))
def px_look {α : Type} (l : List (Nat × α)) (k : Nat) : Option α := List.rec (motive := fun _ => Option α) none (fun q _ ih => cond (Nat.beq q.1 k) (some q.2) ih) l
theorem px_look_cons {α : Type} {q : Nat × α} {r : List (Nat × α)} {k : Nat} : px_look (q :: r) k = if q.1 = k then some q.2 else px_look r k := by
  show cond (Nat.beq q.1 k) (some q.2) (px_look r k) = _
  cases hb : Nat.beq q.1 k with
  | true => rw [if_pos (Nat.eq_of_beq_eq_true hb)]; rfl
  | false => rw [if_neg (Nat.ne_of_beq_eq_false hb)]; rfl
theorem px_look_mem {α : Type} : ∀ {l : List (Nat × α)} {k : Nat} {a : α}, px_look l k = some a → (k, a) ∈ l
  | [], _, _, h => by cases h
  | q :: r, k, a, h => by
    rw [px_look_cons] at h
    split at h
    · rename_i e
      cases h
      subst e
      exact List.mem_cons_self
    · exact List.mem_cons_of_mem _ (px_look_mem h)
def px_or {α : Type} (a b : Option α) : Option α := match a with
  | some x => some x
  | none => b
theorem px_or_some {α : Type} {a b : Option α} {x : α} (h : px_or a b = some x) : a = some x ∨ b = some x := by
  cases a with
  | none => exact Or.inr h
  | some y => exact Or.inl h
def px_sto (lv : List (Nat × Value)) (i : Nat) (v : Value) : List (Nat × Value) := (i, v) :: lv.filter (fun q => !(q.1 == i) && !(q.1 + 1 == i && q.2.category == 2))
def px_ix (i : Int32) (n : Nat) : Bool := !(decide (i < 0)) && decide (i.toNatClampNeg < n)
theorem px_ix_in {i : Int32} {n : Nat} (h : px_ix i n = true) : vp_in i n ∧ i.toNatClampNeg < n := by
  unfold px_ix at h
  simp only [Bool.and_eq_true, Bool.not_eq_true', decide_eq_false_iff_not, decide_eq_true_eq] at h
  exact ⟨fun q => q.elim h.1 (fun z => by omega), h.2⟩
/-- int and int give an int -/
def px_bin (i : Instr) (x y : Int32) : Option Int32 := match i with
  | .iadd => some (x + y)
  | .isub => some (x - y)
  | .imul => some (x * y)
  | .iand => some (x &&& y)
  | .ior => some (x ||| y)
  | .ixor => some (x ^^^ y)
  | .ishl => some (x <<< (y &&& 31))
  | .ishr => some (x >>> (y &&& 31))
  | .iushr => some ((x.toUInt32 >>> (y.toUInt32 &&& Int32.toUInt32 31)).toInt32)
  | .idiv => if y = 0 then none else some (x / y)
  | .irem => if y = 0 then none else some (x - x / y * y)
  | _ => none
/-- a value gives a value -/
def px_un (i : Instr) (v : Value) : Option Value := match i, v with
  | .ineg, .int x => some (.int (-x))
  | .i2l, .int x => some (.long x.toInt64)
  | .i2b, .int x => some (.int x.toInt8.toInt32)
  | .i2s, .int x => some (.int x.toInt16.toInt32)
  | .i2c, .int x => some (.int (x.toUInt32 % 65536).toInt32)
  | .l2i, .long x => some (.int x.toInt32)
  | _, _ => none
def px_lb (i : Instr) (x : Int64) (v : Value) : Option Int64 := match i, v with
  | .land, .long y => some (x &&& y)
  | .lor, .long y => some (x ||| y)
  | .lshl, .int y => some (x <<< (y.toInt64 &&& 63))
  | .lshr, .int y => some (x >>> (y.toInt64 &&& 63))
  | _, _ => none
def px_cst (i : Instr) : Option (Value × Nat) := match i with
  | .iconst n => some (.int (Int32.ofInt n), 1)
  | .bipush n => some (.int (Int8.ofInt n).toInt32, 2)
  | .sipush n => some (.int (Int16.ofInt n).toInt32, 3)
  | .lconst n => some (.long (Int64.ofNat (n : Nat)), 1)
  | _ => none
/-- loads: place, length, sort (0 int, 1 long, 2 reference) -/
def px_ld (i : Instr) : Option (Nat × Nat × Nat) := match i with
  | .iload_n k => some ((k : Nat), 1, 0)
  | .iload k => some (k, 2, 0)
  | .lload_n k => some ((k : Nat), 1, 1)
  | .lload k => some (k, 2, 1)
  | .aload_n k => some ((k : Nat), 1, 2)
  | .aload k => some (k, 2, 2)
  | _ => none
def px_so (v : Value) : Nat := match v with
  | .int _ => 0
  | .long _ => 1
  | .ref _ => 2
  | _ => 3
def px_st (i : Instr) : Option (Nat × Nat × Nat) := match i with
  | .istore_n k => some ((k : Nat), 1, 0)
  | .istore k => some (k, 2, 0)
  | .astore_n k => some ((k : Nat), 1, 2)
  | .astore k => some (k, 2, 2)
  | _ => none
def px_stk (i : Instr) (st : List Value) : Option (List Value) := match i, st with
  | .dup, a :: r => if a.category = 1 then some (a :: a :: r) else none
  | .pop, a :: r => if a.category = 1 then some r else none
  | .dup_x1, a :: b :: r => if a.category = 1 ∧ b.category = 1 then some (a :: b :: a :: r) else none
  | .dup2, a :: b :: r => if a.category = 1 ∧ b.category = 1 then some (a :: b :: a :: b :: r) else none
  | _, _ => none
def px_cnd (k : Jvm.ClassFile.Cond) (x y : Int32) : Bool := match k with
  | .eq => decide (x = y)
  | .ne => decide (¬ x = y)
  | .lt => decide (x < y)
  | .ge => decide (y ≤ x)
  | .gt => decide (y < x)
  | .le => decide (x ≤ y)
def px_tgt (pc : Nat) (off : Int) : Option Nat := if 0 ≤ (pc : Int) + off then some ((pc : Int) + off).toNat else none
def px_br (i : Instr) (pc len : Nat) (st : List Value) : Option (Nat × List Value) := match i, st with
  | .goto off, r => if len = 3 then (px_tgt pc off).map (fun t => (t, r)) else none
  | .ifCond k off, .int x :: r => if len = 3 then (px_tgt pc off).map (fun t => (if px_cnd k x 0 = true then t else pc + 3, r)) else none
  | .if_icmp k off, .int y :: .int x :: r => if len = 3 then (px_tgt pc off).map (fun t => (if px_cnd k x y = true then t else pc + 3, r)) else none
  | .tableswitch dflt lo hi offs, .int x :: r => if x.toInt < lo ∨ hi < x.toInt then (px_tgt pc dflt).map (fun t => (t, r)) else (offs[(x.toInt - lo).toNat]?.bind (fun o => px_tgt pc o)).map (fun t => (t, r))
  | _, _ => none
/-- what needs neither cells nor the pool -/
def px_s1 (i : Instr) (len pc : Nat) (mx : Nat) (lv : List (Nat × Value)) (st : List Value) : Option (Nat × List (Nat × Value) × List Value) :=
  px_or (match st with
    | .int y :: .int x :: r => if len = 1 then (px_bin i x y).map (fun z => (pc + 1, lv, .int z :: r)) else none
    | _ => none)
  (px_or ((px_ld i).bind (fun q => (px_look lv q.1).bind (fun v => if len = q.2.1 ∧ px_so v = q.2.2 then some (pc + len, lv, v :: st) else none)))
  (px_or ((px_cst i).bind (fun q => if len = q.2 then some (pc + len, lv, q.1 :: st) else none))
  (px_or ((px_br i pc len st).map (fun q => (q.1, lv, q.2)))
  (px_or (match st with
    | v :: r => (px_st i).bind (fun q => if len = q.2.1 ∧ px_so v = q.2.2 ∧ q.1 < mx then some (pc + len, px_sto lv q.1 v, r) else none)
    | _ => none)
  (px_or (match i with
    | .iinc k n => (px_look lv k).bind (fun v => match v with
      | .int x => if len = 3 ∧ k < mx then some (pc + 3, px_sto lv k (.int (x + Int32.ofInt n)), st) else none
      | _ => none)
    | _ => none)
  (px_or (if len = 1 then (px_stk i st).map (fun r => (pc + 1, lv, r)) else none)
  (px_or (match st with
    | v :: r => if len = 1 then (px_un i v).map (fun z => (pc + 1, lv, z :: r)) else none
    | _ => none)
  (match st with
    | v :: .long x :: r => if len = 1 then (px_lb i x v).map (fun z => (pc + 1, lv, .long z :: r)) else none
    | _ => none))))))))
def px_ty (T : u_T) (k : Nat) : FieldType := (parseFieldDescriptor (T k).2.2.1).getD .int
def px_rt (t : FieldType) : Bool := match t with
  | .object _ => true
  | .array _ => true
  | _ => false
/-- may a value stand in a field of this type -/
def px_fit (t : FieldType) (v : Value) : Bool := match v with
  | .int x => decide (narrow t (.int x) = .int x) && fits t (.int x)
  | .ref _ => px_rt t
  | _ => false
def px_cpy (a b : List Int32) (sp dp n : Nat) : List Int32 := b.take dp ++ ((a.drop sp).take n ++ b.drop (dp + n))
/-- what reads and writes cells, or the pool: stack, cells, how many cells and slots are new -/
def px_s2 (cl : List vw_C) (lt : List (List Int32)) (i : Instr) (len : Nat) (scr : Option (List Int32)) (nm : String) (own : String) (L : px_L) (st : List Value) (w : px_W) : Option (List Value × px_W × Nat × Nat) := match i, st with
  | .getfield x, .ref a :: r => if len = 3 ∧ 64 ≤ a then (match px_look L.1 x, w[a - 64]? with
    | some q, some (.inr (.inr o)) => if q.1 = o.1 then (o.2[q.2]?).map (fun v => (v :: r, w, 0, 0)) else none
    | _, _ => none) else if len = 3 ∧ 1 ≤ a ∧ a ≤ 16 then (px_look L.2.2.2.2.2.2.2 x).bind (fun k => if k = 0 then some (.ref (a + 16) :: r, w, 0, 0) else if k = 1 then some (.int 0 :: r, w, 0, 0) else none) else none
  | .iaload, .int j :: .ref a :: r => if len = 1 then (if a = 0 then (match scr with
      | some xs => if px_ix j xs.length = true then some (.int (xs.getD j.toNatClampNeg 0) :: r, w, 0, 0) else none
      | none => none) else if 64 ≤ a then (match w[a - 64]? with
      | some (.inl l) => if px_ix j l.length = true then some (.int (l.getD j.toNatClampNeg 0) :: r, w, 0, 0) else none
      | _ => none) else none) else none
  | .iastore, .int z :: .int j :: .ref a :: r => if len = 1 ∧ 64 ≤ a then (match w[a - 64]? with
      | some (.inl l) => if px_ix j l.length = true then some (r, w.set (a - 64) (.inl (l.set j.toNatClampNeg z)), 0, 0) else none
      | _ => none) else none
  | .putfield x, v :: .ref a :: r => if len = 3 ∧ 64 ≤ a then (match px_look L.1 x, w[a - 64]? with
    | some q, some (.inr (.inr o)) => (match cl[q.1]? with
      | some k => if q.1 = o.1 ∧ q.2 < o.2.length ∧ px_fit (px_ty k.2.1 q.2) v = true ∧ ((k.2.1 q.2).2.2.2 = true → nm = "<init>" ∧ (k.2.1 q.2).1 = own) then some (r, w.set (a - 64) (.inr (.inr (o.1, o.2.set q.2 v))), 0, 0) else none
      | none => none)
    | _, _ => none) else none
  | .ldc x, r => if len = 2 then px_or ((px_look L.2.2.2.1 x).map (fun v => (.int v :: r, w, 0, 0))) ((px_look L.2.2.2.2.2.1 x).map (fun j => (.ref (1 + j) :: r, w, 0, 0))) else none
  | .getstatic x, r => if len = 3 then (px_look L.2.2.2.2.2.2.1 x).bind (fun k => if k = 0 then some (.int 1 :: r, w, 0, 0) else if k = 1 then some (.ref 33 :: r, w, 0, 0) else none) else none
  | .baload, .int j :: .ref a :: r => if len = 1 ∧ 17 ≤ a ∧ a ≤ 32 ∧ px_ix j ((lt.map List.length).getD (a - 17) 0) = true then some (.int ((lt.getD (a - 17) []).getD j.toNatClampNeg 0) :: r, w, 0, 0) else none
  | .ldc_w x, r => if len = 3 then (px_look L.2.2.2.1 x).map (fun v => (.int v :: r, w, 0, 0)) else none
  | .ldc2_w x, r => if len = 3 then (px_look L.2.2.2.2.1 x).map (fun v => (.long v :: r, w, 0, 0)) else none
  | .arraylength, .ref a :: r => if len = 1 then (if a = 0 then (match scr with
      | some xs => some (.int (Int32.ofNat xs.length) :: r, w, 0, 0)
      | none => none) else if 64 ≤ a then (match w[a - 64]? with
      | some (.inl l) => some (.int (Int32.ofNat l.length) :: r, w, 0, 0)
      | _ => none) else if 17 ≤ a ∧ a ≤ 32 then some (.int (Int32.ofNat ((lt.map List.length).getD (a - 17) 0)) :: r, w, 0, 0) else none) else none
  | .laload, .int j :: .ref a :: r => if len = 1 ∧ 64 ≤ a then (match w[a - 64]? with
      | some (.inr (.inl l)) => if px_ix j l.length = true then some (.long (l.getD j.toNatClampNeg 0) :: r, w, 0, 0) else none
      | _ => none) else none
  | .lastore, .long z :: .int j :: .ref a :: r => if len = 1 ∧ 64 ≤ a then (match w[a - 64]? with
      | some (.inr (.inl l)) => if px_ix j l.length = true then some (r, w.set (a - 64) (.inr (.inl (l.set j.toNatClampNeg z))), 0, 0) else none
      | _ => none) else none
  | .new x, r => if len = 3 then (px_look L.2.2.1 x).bind (fun ci => (cl[ci]?).map (fun k => (.ref (64 + w.length) :: r, w ++ [.inr (.inr (ci, (List.range k.2.2).map (fun j => defaultValue (px_ty k.2.1 j))))], 1, k.2.2))) else none
  | .newarray .int, .int n :: r => if len = 2 ∧ ¬ n < 0 ∧ n.toNatClampNeg ≤ 100000 then some (.ref (64 + w.length) :: r, w ++ [.inl (List.replicate n.toNatClampNeg 0)], 1, n.toNatClampNeg) else none
  | .newarray .long, .int n :: r => if len = 2 ∧ ¬ n < 0 ∧ n.toNatClampNeg ≤ 100000 then some (.ref (64 + w.length) :: r, w ++ [.inr (.inl (List.replicate n.toNatClampNeg 0))], 1, n.toNatClampNeg) else none
  | _, _ => none
/-- native and empty callees -/
def px_s3 (i : Instr) (len : Nat) (d : Nat) (L : px_L) (st : List Value) (w : px_W) : Option (List Value × px_W) := match i, st with
  | .invokestatic x, .int n :: .int dp :: .ref b :: .int sp :: .ref a :: r => if len = 3 ∧ 1 ≤ d ∧ 64 ≤ a ∧ 64 ≤ b ∧ ¬ sp < 0 ∧ ¬ dp < 0 ∧ ¬ n < 0 ∧ (r.map (fun v => v.category)).sum ≤ 8 then (match px_look L.2.1 x, w[a - 64]?, w[b - 64]? with
    | some q, some (.inl la), some (.inl lb) => if q.1 = 6 ∧ sp.toNatClampNeg + n.toNatClampNeg ≤ la.length ∧ dp.toNatClampNeg + n.toNatClampNeg ≤ lb.length then some (r, w.set (b - 64) (.inl (px_cpy la lb sp.toNatClampNeg dp.toNatClampNeg n.toNatClampNeg))) else none
    | _, _, _ => none) else none
  | .invokespecial x, .ref a :: r => if len = 3 ∧ 1 ≤ d ∧ 64 ≤ a ∧ (r.map (fun v => v.category)).sum ≤ 8 then (match px_look L.2.1 x with
    | some q => if q.1 = 7 then some (r, w) else none
    | none => none) else none
  | _, _ => none
/-- greatest, least, amount -/
def px_s6 (i : Instr) (len : Nat) (d : Nat) (L : px_L) (st : List Value) : Option (List Value) := match i with
  | .invokestatic x => if len = 3 ∧ 1 ≤ d then (px_look L.2.1 x).bind (fun q => match st with
    | .int y :: r => if q.1 = 10 then (if (r.map (fun v => v.category)).sum ≤ 8 then some (.int (if 0 ≤ y then y else 0 - y) :: r) else none) else (match r with
      | .int x :: r2 => if (r2.map (fun v => v.category)).sum ≤ 8 then (if q.1 = 8 then some (.int (if x < y then y else x) :: r2) else if q.1 = 9 then some (.int (if y < x then y else x) :: r2) else none) else none
      | _ => none)
    | _ => none) else none
  | _ => none
/-- an own callee: its number, its arguments, what stays on the stack -/
def px_s4 (cl : List vw_C) (P : List px_M) (i : Instr) (len : Nat) (L : px_L) (st : List Value) (w : px_W) : Option (Nat × List Value × List Value) := match i with
  | .invokevirtual x => if len = 3 then (px_look L.2.1 x).bind (fun q => (P[q.2]?).bind (fun M => match st.drop M.1.2.2.2.2 with
    | .ref b :: r => if q.1 = 0 ∧ M.1.2.2.2.2 ≤ st.length ∧ 64 ≤ b ∧ (r.map (fun v => v.category)).sum ≤ 8 then (match w[b - 64]? with
      | some (.inr (.inr o)) => (match cl[o.1]? with
        | some k => if k.1 = M.1.1.cls then some (q.2, .ref b :: (st.take M.1.2.2.2.2).reverse, r) else none
        | none => none)
      | _ => none) else if q.1 = 0 ∧ M.1.2.2.2.2 ≤ st.length ∧ 1 ≤ b ∧ b ≤ 16 ∧ M.1.1.cls = "java/lang/String" ∧ (r.map (fun v => v.category)).sum ≤ 8 then some (q.2, .ref b :: (st.take M.1.2.2.2.2).reverse, r) else none
    | _ => none)) else none
  | .invokestatic x => if len = 3 then (px_look L.2.1 x).bind (fun q => (P[q.2]?).bind (fun M => if (q.1 = 1 ∨ q.1 = 4) ∧ M.1.2.2.2.2 ≤ st.length ∧ ((st.drop M.1.2.2.2.2).map (fun v => v.category)).sum ≤ 8 then some (q.2, (st.take M.1.2.2.2.2).reverse, st.drop M.1.2.2.2.2) else none)) else none
  | .invokespecial x => if len = 3 then (px_look L.2.1 x).bind (fun q => (P[q.2]?).bind (fun M => match st.drop M.1.2.2.2.2 with
    | .ref b :: r => if (q.1 = 2 ∨ q.1 = 5) ∧ M.1.2.2.2.2 ≤ st.length ∧ 64 ≤ b ∧ (r.map (fun v => v.category)).sum ≤ 8 then some (q.2, .ref b :: (st.take M.1.2.2.2.2).reverse, r) else none
    | _ => none)) else none
  | _ => none
def px_s5 (i : Instr) (len : Nat) (ret : Option FieldType) (st : List Value) : Option (Option Value) := match i, st with
  | .ireturn, [.int x] => (match ret with
    | some t => if len = 1 ∧ narrow t (.int x) = .int x then some (some (.int x)) else none
    | none => none)
  | .lreturn, [.long x] => if len = 1 ∧ ret = some .long then some (some (.long x)) else none
  | .return_, [] => if len = 1 ∧ ret = none then some none else none
  | _, _ => none
def px_step (cl : List vw_C) (lt : List (List Int32)) (P : List px_M) (d : Nat) (scr : Option (List Int32)) (M : px_M) (pc : Nat) (lv : List (Nat × Value)) (st : List Value) (w : px_W) : Option px_R :=
  (px_look M.2.1 pc).bind (fun q =>
    px_or ((px_s1 q.1 q.2 pc M.1.2.2.1 lv st).map (fun z => .inl (z.1, z.2.1, z.2.2, w, 0, 0)))
    (px_or ((px_s2 cl lt q.1 q.2 scr M.1.1.name M.1.1.cls M.2.2 st w).map (fun z => .inl (pc + q.2, lv, z.1, z.2.1, z.2.2)))
    (px_or ((px_s5 q.1 q.2 M.1.2.2.2.1 st).map (fun z => .inr (.inl z)))
    (px_or ((px_s3 q.1 q.2 d M.2.2 st w).map (fun z => .inl (pc + 3, lv, z.1, z.2, 0, 0)))
    (px_or ((px_s6 q.1 q.2 d M.2.2 st).map (fun z => .inl (pc + 3, lv, z, w, 0, 0)))
    ((px_s4 cl P q.1 q.2 M.2.2 st w).map (fun z => .inr (.inr z))))))))
def px_exec (cl : List vw_C) (lt : List (List Int32)) (P : List px_M) : Nat → Nat → Option (List Int32) → px_M → Nat → List (Nat × Value) → List Value → px_W → Nat × Nat → Option (Option Value × px_W × (Nat × Nat))
  | 0, _, _, _, _, _, _, _, _ => none
  | n + 1, d, scr, M, pc, lv, st, w, b => match px_step cl lt P d scr M pc lv st w with
    | none => none
    | some (.inl z) => if z.2.2.2.2.1 ≤ b.1 ∧ z.2.2.2.2.2 ≤ b.2 then px_exec cl lt P n d scr M z.1 z.2.1 z.2.2.1 z.2.2.2.1 (b.1 - z.2.2.2.2.1, b.2 - z.2.2.2.2.2) else none
    | some (.inr (.inl v)) => some (v, w, b)
    | some (.inr (.inr q)) => match d, P[q.1]? with
      | d' + 1, some M' => if (lg_sl q.2.1).length ≤ M'.1.2.2.1 then (match px_exec cl lt P n d' none M' 0 (lv_args 0 q.2.1) [] w b with
        | none => none
        | some r => px_exec cl lt P n d scr M (pc + 3) lv (r.1.toList ++ q.2.2) r.2.1 r.2.2) else none
      | _, _ => none
theorem px_mono {cl : List vw_C} {lt : List (List Int32)} {P : List px_M} : ∀ (n d : Nat) (scr : Option (List Int32)) (M : px_M) (pc : Nat) (lv : List (Nat × Value)) (st : List Value) (w : px_W) (b : Nat × Nat) (r : Option Value × px_W × (Nat × Nat)), px_exec cl lt P n d scr M pc lv st w b = some r → r.2.2.1 ≤ b.1 ∧ r.2.2.2 ≤ b.2
  | 0, _, _, _, _, _, _, _, _, _, h => by simp [px_exec] at h
  | n + 1, d, scr, M, pc, lv, st, w, b, r, h => by
    unfold px_exec at h
    split at h
    · cases h
    · split at h
      · have := px_mono n d scr M _ _ _ _ _ r h
        simp only at this
        omega
      · cases h
    · cases h
      exact ⟨Nat.le_refl _, Nat.le_refl _⟩
    · split at h
      · split at h
        · split at h
          · cases h
          · rename_i r2 h2
            have h3 := px_mono n _ none _ _ _ _ _ _ r2 h2
            have h4 := px_mono n _ scr M _ _ _ _ _ r h
            omega
        · cases h
      · cases h

end
