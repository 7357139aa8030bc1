noncomputable section
/-! a run from here on ends with r: class tables, texts, methods that are called, methods that run, shape, script -/
abbrev ec_X : Type := List vw_C × List (List Int32) × List px_M × List px_M × List sy_Ce × Option (List Int32)
def ec_E (X : ec_X) (n j pc : Nat) (L : List (Nat × ec_V)) (st : List ec_V) (w : px_W) (r : Option Value × px_W) : Prop := ec_W X.2.2.2.2.1 w ∧ ∃ (M : px_M) (lc : List (Nat × Value)) (d : Nat) (b b' : Nat × Nat), X.2.2.2.1[j]? = some M ∧ ec_ok L lc ∧ px_exec X.1 X.2.1 X.2.2.1 n d X.2.2.2.2.2 M pc lc (st.map ec_v) w b = some (r.1, r.2, b')
def ec_cl (X : ec_X) : ec_X := (X.1, X.2.1, X.2.2.1, X.2.2.1, X.2.2.2.2.1, none)
/-- a call that ends, from its arguments alone -/
def ec_F (X : ec_X) (n j : Nat) (as : List ec_V) (w : px_W) (r : Option Value × px_W) : Prop := ec_W X.2.2.2.2.1 w ∧ ∃ (M : px_M) (d : Nat) (b b' : Nat × Nat), X.2.2.1[j]? = some M ∧ px_exec X.1 X.2.1 X.2.2.1 n d none M 0 (lv_args 0 (as.map ec_v)) [] w b = some (r.1, r.2, b')
theorem ec_FE {X : ec_X} {n j : Nat} {as : List ec_V} {w : px_W} {r : Option Value × px_W} (h : ec_F X n j as w r) : ec_E (ec_cl X) n j 0 (ec_args 0 as) [] w r := by
  obtain ⟨hW, M, d, b, b', h1, h2⟩ := h
  exact ⟨hW, M, _, d, b, b', h1, ec_args_ok as 0, h2⟩
section EC2
variable {X : ec_X} {n m j pc : Nat} {L : List (Nat × ec_V)} {st : List ec_V} {w : px_W} {r : Option Value × px_W}
theorem ec_mono (h : ec_E X n j pc L st w r) (hm : n ≤ m) : ec_E X m j pc L st w r := by
  obtain ⟨hW, M, lc, d, b, b', h1, h2, h3⟩ := h
  exact ⟨hW, M, lc, d, b, b', h1, h2, px_more h3 hm⟩
theorem ec_zero (h : ec_E X 0 j pc L st w r) : False := by
  obtain ⟨_, M, lc, d, b, b', _, _, h3⟩ := h
  cases h3
theorem ec_sub {L' : List (Nat × ec_V)} (h : ec_E X n j pc L st w r) (hs : ∀ q ∈ L', q ∈ L) : ec_E X n j pc L' st w r := by
  obtain ⟨hW, M, lc, d, b, b', h1, h2, h3⟩ := h
  exact ⟨hW, M, lc, d, b, b', h1, fun q hq => h2 q (hs q hq), h3⟩
/-- a step there must be -/
theorem ec_step (h : ec_E X n j pc L st w r) : ∃ (n' : Nat) (M : px_M) (lc : List (Nat × Value)) (d : Nat) (b b' : Nat × Nat) (z : px_R), n = n' + 1 ∧ ec_W X.2.2.2.2.1 w ∧ X.2.2.2.1[j]? = some M ∧ ec_ok L lc ∧ px_exec X.1 X.2.1 X.2.2.1 (n' + 1) d X.2.2.2.2.2 M pc lc (st.map ec_v) w b = some (r.1, r.2, b') ∧ px_step X.1 X.2.1 X.2.2.1 d X.2.2.2.2.2 M pc lc (st.map ec_v) w = some z := by
  obtain ⟨hW, M, lc, d, b, b', h1, h2, h3⟩ := h
  cases n with
  | zero => cases h3
  | succ n =>
    cases hs : px_step X.1 X.2.1 X.2.2.1 d X.2.2.2.2.2 M pc lc (st.map ec_v) w with
    | none =>
      rw [px_exec_succ, hs] at h3
      cases h3
    | some z => exact ⟨n, M, lc, d, b, b', z, rfl, hW, h1, h2, h3, hs⟩
theorem ec_after {M : px_M} {lc lc' : List (Nat × Value)} {d pc' : Nat} {b b' : Nat × Nat} {L' : List (Nat × ec_V)} {st' : List ec_V} {w' : px_W} (hM : X.2.2.2.1[j]? = some M) (hx : px_exec X.1 X.2.1 X.2.2.1 (n + 1) d X.2.2.2.2.2 M pc lc (st.map ec_v) w b = some (r.1, r.2, b')) (hs : px_step X.1 X.2.1 X.2.2.1 d X.2.2.2.2.2 M pc lc (st.map ec_v) w = some (.inl (pc', lc', st'.map ec_v, w', 0, 0))) (hl : ec_ok L' lc') (hw : ec_W X.2.2.2.2.1 w') : ec_E X n j pc' L' st' w' r := by
  rw [px_exec_succ, hs] at hx
  simp only [Nat.zero_le, and_self, if_true, Nat.sub_zero] at hx
  exact ⟨hw, M, lc', d, b, b', hM, hl, hx⟩
end EC2
/-! what instructions do with numbers -/
def ec_and (a b : Int) : Int := (Int32.ofInt a &&& Int32.ofInt b).toInt
def ec_or (a b : Int) : Int := (Int32.ofInt a ||| Int32.ofInt b).toInt
def ec_xor (a b : Int) : Int := (Int32.ofInt a ^^^ Int32.ofInt b).toInt
def ec_shl (a b : Int) : Int := (Int32.ofInt a <<< (Int32.ofInt b &&& 31)).toInt
def ec_shr (a b : Int) : Int := (Int32.ofInt a >>> (Int32.ofInt b &&& 31)).toInt
def ec_ush (a b : Int) : Int := ((Int32.ofInt a).toUInt32 >>> ((Int32.ofInt b).toUInt32 &&& Int32.toUInt32 31)).toInt32.toInt
def ec_dv (a b : Int) : Int := (Int32.ofInt a / Int32.ofInt b).toInt
def ec_rm (a b : Int) : Int := (Int32.ofInt a - Int32.ofInt a / Int32.ofInt b * Int32.ofInt b).toInt
def ec_bn (s : Nat) (a b : Int) : Int := match s with
  | 0 => a + b
  | 1 => a - b
  | 2 => a * b
  | 3 => ec_and a b
  | 4 => ec_or a b
  | 5 => ec_xor a b
  | 6 => ec_shl a b
  | 7 => ec_shr a b
  | _ => ec_ush a b
def ec_bq (i : Instr) (s : Nat) : Bool := match i with
  | .iadd => s == 0
  | .isub => s == 1
  | .imul => s == 2
  | .iand => s == 3
  | .ior => s == 4
  | .ixor => s == 5
  | .ishl => s == 6
  | .ishr => s == 7
  | .iushr => s == 8
  | _ => false
theorem ec_bq_ok {i : Instr} {s : Nat} (h : ec_bq i s = true) (a b : Int) : px_so1 i = 1 ∧ px_bin i (Int32.ofInt a) (Int32.ofInt b) = some (Int32.ofInt (ec_bn s a b)) := by
  unfold ec_bq at h
  split at h
  all_goals first | (cases h; done) | skip
  all_goals have e := eq_of_beq h
  all_goals subst e
  all_goals refine ⟨rfl, ?_⟩
  · show some _ = some (Int32.ofInt (a + b))
    rw [Int32.ofInt_add]
  · show some _ = some (Int32.ofInt (a - b))
    rw [Int32.ofInt_sub]
  · show some _ = some (Int32.ofInt (a * b))
    rw [Int32.ofInt_mul]
  · show some _ = some (Int32.ofInt (ec_and a b))
    exact congrArg some (Int32.ofInt_toInt _).symm
  · show some _ = some (Int32.ofInt (ec_or a b))
    exact congrArg some (Int32.ofInt_toInt _).symm
  · show some _ = some (Int32.ofInt (ec_xor a b))
    exact congrArg some (Int32.ofInt_toInt _).symm
  · show some _ = some (Int32.ofInt (ec_shl a b))
    exact congrArg some (Int32.ofInt_toInt _).symm
  · show some _ = some (Int32.ofInt (ec_shr a b))
    exact congrArg some (Int32.ofInt_toInt _).symm
  · show some _ = some (Int32.ofInt (ec_ush a b))
    exact congrArg some (Int32.ofInt_toInt _).symm
def ec_cd (k : Nat) (a b : Int) : Prop := match k with
  | 0 => ec_tw a = ec_tw b
  | 1 => ec_tw a ≠ ec_tw b
  | 2 => ec_tw a < ec_tw b
  | 3 => ec_tw b ≤ ec_tw a
  | 4 => ec_tw b < ec_tw a
  | _ => ec_tw a ≤ ec_tw b
def ec_cc (k : Jvm.ClassFile.Cond) : Nat := match k with
  | .eq => 0
  | .ne => 1
  | .lt => 2
  | .ge => 3
  | .gt => 4
  | .le => 5
def ec_cn (k : Jvm.ClassFile.Cond) : Nat := match k with
  | .eq => 1
  | .ne => 0
  | .lt => 3
  | .ge => 2
  | .gt => 5
  | .le => 4
theorem ec_cd_ok (k : Jvm.ClassFile.Cond) (a b : Int) : (px_cnd k (Int32.ofInt a) (Int32.ofInt b) = true ↔ ec_cd (ec_cc k) a b) ∧ (ec_cd (ec_cn k) a b ↔ ¬ ec_cd (ec_cc k) a b) := by
  have e1 : Int32.ofInt a = Int32.ofInt b ↔ ec_tw a = ec_tw b := by
    unfold ec_tw
    rw [Int32.toInt_inj]
  have e2 : ∀ x y : Int, Int32.ofInt x < Int32.ofInt y ↔ ec_tw x < ec_tw y := fun x y => Int32.lt_iff_toInt_lt
  have e3 : ∀ x y : Int, Int32.ofInt x ≤ Int32.ofInt y ↔ ec_tw x ≤ ec_tw y := fun x y => Int32.le_iff_toInt_le
  cases k with
  | eq => exact ⟨decide_eq_true_iff.trans e1, Iff.rfl⟩
  | ne => exact ⟨decide_eq_true_iff.trans (not_congr e1), by show ec_tw a = ec_tw b ↔ ¬ ec_tw a ≠ ec_tw b; omega⟩
  | lt => exact ⟨decide_eq_true_iff.trans (e2 a b), by show ec_tw b ≤ ec_tw a ↔ ¬ ec_tw a < ec_tw b; omega⟩
  | ge => exact ⟨decide_eq_true_iff.trans (e3 b a), by show ec_tw a < ec_tw b ↔ ¬ ec_tw b ≤ ec_tw a; omega⟩
  | gt => exact ⟨decide_eq_true_iff.trans (e2 b a), by show ec_tw a ≤ ec_tw b ↔ ¬ ec_tw b < ec_tw a; omega⟩
  | le => exact ⟨decide_eq_true_iff.trans (e3 a b), by show ec_tw b < ec_tw a ↔ ¬ ec_tw a ≤ ec_tw b; omega⟩
def ec_mx (a b : Int) : Int := if ec_tw a < ec_tw b then b else a
def ec_mn (a b : Int) : Int := if ec_tw b < ec_tw a then b else a
def ec_ab (a : Int) : Int := if 0 ≤ ec_tw a then a else 0 - a
/-! ops: sort, what, numbers -/
abbrev ec_O : Type := Nat × Nat × Nat × Nat × Int
abbrev ec_I : Type := List (Nat × ec_V) → List ec_V → px_W → Prop → Prop
/-- locals and constants -/
def ec_c0 (o : ec_O) (ih : ec_I) (L : List (Nat × ec_V)) (st : List ec_V) (w : px_W) (F : Prop) : Prop := match o.2.1 with
  | 0 => (match ec_lk L o.2.2.1 with
    | some (.inl a) => ih L (.inl a :: st) w F
    | _ => True)
  | 1 => (match ec_lk L o.2.2.1 with
    | some (.inr (.inl b)) => ih L (.inr (.inl b) :: st) w F
    | _ => True)
  | 2 => ih L (.inl o.2.2.2.2 :: st) w F
  | 3 => (match st with
    | .inl a :: s => ih (ec_set L o.2.2.1 (.inl a)) s w F
    | _ => True)
  | 4 => (match st with
    | .inr (.inl b) :: s => ih (ec_set L o.2.2.1 (.inr (.inl b))) s w F
    | _ => True)
  | 5 => (match ec_lk L o.2.2.1 with
    | some (.inl a) => ih (ec_set L o.2.2.1 (.inl (a + o.2.2.2.2))) st w F
    | _ => True)
  | 6 => (match ec_lk L o.2.2.1 with
    | some (.inr (.inr x)) => ih L (.inr (.inr x) :: st) w F
    | _ => True)
  | 7 => ih L (.inr (.inr (Int64.ofInt o.2.2.2.2)) :: st) w F
  | _ => True
def ec_m0 (M : px_M) (pc : Nat) (o : ec_O) (i : Instr) (len : Nat) : Option Nat := match o.2.1 with
  | 0 => if px_ld i = some (o.2.2.1, len, 0) then some (pc + len) else none
  | 1 => if px_ld i = some (o.2.2.1, len, 2) then some (pc + len) else none
  | 2 => (match i with
    | .ldc x => (match px_look M.2.2.2.2.2.1 x with
      | some v => if len = 2 ∧ v.toInt = o.2.2.2.2 then some (pc + len) else none
      | none => none)
    | .ldc_w x => (match px_look M.2.2.2.2.2.1 x with
      | some v => if len = 3 ∧ v.toInt = o.2.2.2.2 then some (pc + len) else none
      | none => none)
    | _ => (match px_cst i with
      | some (.int x, l) => if l = len ∧ x.toInt = o.2.2.2.2 then some (pc + len) else none
      | _ => none))
  | 3 => if px_st i = some (o.2.2.1, len, 0) ∧ o.2.2.1 < M.1.2.2.1 then some (pc + len) else none
  | 4 => if px_st i = some (o.2.2.1, len, 2) ∧ o.2.2.1 < M.1.2.2.1 then some (pc + len) else none
  | 5 => (match i with
    | .iinc k c => if k = o.2.2.1 ∧ c = o.2.2.2.2 ∧ len = 3 ∧ o.2.2.1 < M.1.2.2.1 then some (pc + 3) else none
    | _ => none)
  | 6 => if px_ld i = some (o.2.2.1, len, 1) then some (pc + len) else none
  | 7 => (match i with
    | .ldc2_w x => (match px_look M.2.2.2.2.2.2.1 x with
      | some v => if len = 3 ∧ v.toInt = o.2.2.2.2 then some (pc + 3) else none
      | none => none)
    | _ => none)
  | _ => none
/-- two ints; division -/
def ec_c1 (o : ec_O) (ih : ec_I) (L : List (Nat × ec_V)) (st : List ec_V) (w : px_W) (F : Prop) : Prop := match st with
  | .inl b :: .inl a :: s => ih L (.inl (ec_bn o.2.1 a b) :: s) w F
  | _ => True
def ec_m1 (pc : Nat) (o : ec_O) (i : Instr) (len : Nat) : Option Nat := if ec_bq i o.2.1 = true ∧ len = 1 then some (pc + 1) else none
def ec_c2 (o : ec_O) (ih : ec_I) (L : List (Nat × ec_V)) (st : List ec_V) (w : px_W) (F : Prop) : Prop := match st with
  | .inl b :: .inl a :: s => (match o.2.1 with
    | 0 => ih L (.inl (ec_dv a b) :: s) w (F ∧ ec_tw b ≠ 0)
    | 1 => ih L (.inl (ec_rm a b) :: s) w (F ∧ ec_tw b ≠ 0)
    | _ => True)
  | _ => True
def ec_m2 (pc : Nat) (o : ec_O) (i : Instr) (len : Nat) : Option Nat := match i, o.2.1 with
  | .idiv, 0 => if len = 1 then some (pc + 1) else none
  | .irem, 1 => if len = 1 then some (pc + 1) else none
  | _, _ => none
/-- the stack, greatest, least -/
def ec_c3 (o : ec_O) (ih : ec_I) (L : List (Nat × ec_V)) (st : List ec_V) (w : px_W) (F : Prop) : Prop := match o.2.1 with
  | 0 => (match st with
    | a :: s => cond (Nat.beq (ec_ct a) 1) (ih L (a :: a :: s) w F) True
    | _ => True)
  | 1 => (match st with
    | a :: s => cond (Nat.beq (ec_ct a) 1) (ih L s w F) True
    | _ => True)
  | 2 => (match st with
    | a :: b :: s => cond (Nat.beq (ec_ct a) 1 && Nat.beq (ec_ct b) 1) (ih L (a :: b :: a :: s) w F) True
    | _ => True)
  | 3 => (match st with
    | a :: b :: s => cond (Nat.beq (ec_ct a) 1 && Nat.beq (ec_ct b) 1) (ih L (a :: b :: a :: b :: s) w F) True
    | _ => True)
  | 4 => (match st with
    | .inl a :: s => ih L (.inl (-a) :: s) w F
    | _ => True)
  | 5 => (match st with
    | .inl b :: .inl a :: s => ih L (.inl (ec_mx a b) :: s) w F
    | _ => True)
  | 6 => (match st with
    | .inl b :: .inl a :: s => ih L (.inl (ec_mn a b) :: s) w F
    | _ => True)
  | 7 => (match st with
    | .inl a :: s => ih L (.inl (ec_ab a) :: s) w F
    | _ => True)
  | 8 => (match st with
    | .inl a :: s => ih L (.inr (.inr (Int32.ofInt a).toInt64) :: s) w F
    | _ => True)
  | 9 => (match st with
    | .inr (.inr x) :: s => ih L (.inl x.toInt32.toInt :: s) w F
    | _ => True)
  | 10 => (match st with
    | .inr (.inr y) :: .inr (.inr x) :: s => ih L (.inr (.inr (x &&& y)) :: s) w F
    | _ => True)
  | 11 => (match st with
    | .inr (.inr y) :: .inr (.inr x) :: s => ih L (.inr (.inr (x ||| y)) :: s) w F
    | _ => True)
  | 12 => (match st with
    | .inl b :: .inr (.inr x) :: s => ih L (.inr (.inr (x <<< ((Int32.ofInt b).toInt64 &&& 63))) :: s) w F
    | _ => True)
  | 13 => (match st with
    | .inl b :: .inr (.inr x) :: s => ih L (.inr (.inr (x >>> ((Int32.ofInt b).toInt64 &&& 63))) :: s) w F
    | _ => True)
  | _ => True
def ec_m3 (M : px_M) (pc : Nat) (o : ec_O) (i : Instr) (len : Nat) : Option Nat := match i, o.2.1 with
  | .dup, 0 => if len = 1 then some (pc + 1) else none
  | .pop, 1 => if len = 1 then some (pc + 1) else none
  | .dup_x1, 2 => if len = 1 then some (pc + 1) else none
  | .dup2, 3 => if len = 1 then some (pc + 1) else none
  | .ineg, 4 => if len = 1 then some (pc + 1) else none
  | .i2l, 8 => if len = 1 then some (pc + 1) else none
  | .l2i, 9 => if len = 1 then some (pc + 1) else none
  | .land, 10 => if len = 1 then some (pc + 1) else none
  | .lor, 11 => if len = 1 then some (pc + 1) else none
  | .lshl, 12 => if len = 1 then some (pc + 1) else none
  | .lshr, 13 => if len = 1 then some (pc + 1) else none
  | .invokestatic x, k => (match px_look M.2.2.2.1 x with
    | some q => if len = 3 ∧ (k = 5 ∧ q.1 = 8 ∨ k = 6 ∧ q.1 = 9 ∨ k = 7 ∧ q.1 = 10) then some (pc + 3) else none
    | none => none)
  | _, _ => none
/-- branches -/
def ec_c4 (o : ec_O) (ih : ec_I) (L : List (Nat × ec_V)) (st : List ec_V) (w : px_W) (F : Prop) : Prop := match o.2.1 with
  | 0 => ih L st w F
  | 1 => (match st with
    | .inl a :: s => ec_cd o.2.2.1 a 0 → ih L s w F
    | _ => True)
  | 2 => (match st with
    | .inl b :: .inl a :: s => ec_cd o.2.2.1 a b → ih L s w F
    | _ => True)
  | 3 => (match st with
    | .inl a :: s => ec_tw a = o.2.2.2.2 → ih L s w F
    | _ => True)
  | 4 => (match st with
    | .inl a :: s => (ec_tw a < o.2.2.2.2 ∨ o.2.2.2.2 + o.2.2.1 < ec_tw a) → ih L s w F
    | _ => True)
  | _ => True
def ec_m4 (pc : Nat) (o : ec_O) (i : Instr) (len : Nat) : Option Nat := match i, o.2.1 with
  | .goto off, 0 => if len = 3 then px_tgt pc off else none
  | .ifCond k off, 1 => if len = 3 then (match px_tgt pc off with
    | some t => if o.2.2.2.1 = 1 then (if o.2.2.1 = ec_cc k then some t else none) else (if o.2.2.1 = ec_cn k then some (pc + 3) else none)
    | none => none) else none
  | .if_icmp k off, 2 => if len = 3 then (match px_tgt pc off with
    | some t => if o.2.2.2.1 = 1 then (if o.2.2.1 = ec_cc k then some t else none) else (if o.2.2.1 = ec_cn k then some (pc + 3) else none)
    | none => none) else none
  | .tableswitch _ lo hi offs, 3 => if lo ≤ o.2.2.2.2 ∧ o.2.2.2.2 ≤ hi then (match offs[(o.2.2.2.2 - lo).toNat]? with
    | some f => px_tgt pc f
    | none => none) else none
  | .tableswitch df lo hi _, 4 => if lo = o.2.2.2.2 ∧ hi = o.2.2.2.2 + o.2.2.1 then px_tgt pc df else none
  | _, _ => none
/-- cells: what, the cell, a number -/
def ec_c5 (scr : Option (List Int32)) (o : ec_O) (ih : ec_I) (L : List (Nat × ec_V)) (st : List ec_V) (w : px_W) (F : Prop) : Prop := match o.2.1 with
  | 0 => (match st with
    | .inr (.inl b) :: s => cond (Nat.beq b (64 + o.2.2.1)) (ih L (.inl (ec_fd w o.2.2.1 o.2.2.2.1) :: s) w F) True
    | _ => True)
  | 1 => (match st with
    | .inr (.inl b) :: s => cond (Nat.beq b (64 + o.2.2.1)) (ih L (.inr (.inl o.2.2.2.1) :: s) w F) True
    | _ => True)
  | 2 => (match st with
    | .inl i :: .inr (.inl b) :: s => cond (Nat.beq b (64 + o.2.2.1)) (ih L (.inl (ec_rd w o.2.2.1 (ec_tw i)) :: s) w (F ∧ 0 ≤ ec_tw i ∧ ec_tw i < o.2.2.2.2)) True
    | _ => True)
  | 3 => (match st with
    | .inl z :: .inl i :: .inr (.inl b) :: s => cond (Nat.beq b (64 + o.2.2.1)) (ih L s (ec_wr w o.2.2.1 (ec_tw i) z) (F ∧ 0 ≤ ec_tw i ∧ ec_tw i < o.2.2.2.2)) True
    | _ => True)
  | 4 => (match st with
    | .inl z :: .inr (.inl b) :: s => cond (Nat.beq b (64 + o.2.2.1)) (ih L s (ec_pf w o.2.2.1 o.2.2.2.1 z) F) True
    | _ => True)
  | 5 => (match st with
    | .inr (.inl b) :: s => cond (Nat.beq b (64 + o.2.2.1)) (ih L (.inl o.2.2.2.2 :: s) w F) True
    | _ => True)
  | 6 => (match st with
    | .inl n :: .inl dp :: .inr (.inl b) :: .inl sp :: .inr (.inl a) :: s => cond (Nat.beq a (64 + o.2.2.1)) (cond (Nat.beq b (64 + o.2.2.2.1)) (ih L s (ec_cp w o.2.2.1 o.2.2.2.1 (ec_tw sp) (ec_tw dp) (ec_tw n)) F) True) True
    | _ => True)
  | 7 => (match st, scr with
    | .inl i :: .inr (.inl b) :: s, some xs => cond (Nat.beq b 0) (ih L (.inl (xs.getD (ec_tw i).toNat 0).toInt :: s) w (F ∧ 0 ≤ ec_tw i ∧ ec_tw i < (xs.length : Int))) True
    | _, _ => True)
  | 8 => (match st, scr with
    | .inr (.inl b) :: s, some xs => cond (Nat.beq b 0) (ih L (.inl (xs.length : Int) :: s) w F) True
    | _, _ => True)
  | _ => True
def ec_m5 (A : List sy_Ce) (M : px_M) (pc : Nat) (o : ec_O) (i : Instr) (len : Nat) : Option Nat := match i, o.2.1 with
  | .getfield x, 0 => (match px_look M.2.2.1 x, A[o.2.2.1]? with
    | some q, some (.inr (.inr (ci, sl))) => (match sl[o.2.2.2.1]? with
      | some (.inl _) => if len = 3 ∧ q.1 = ci ∧ q.2 = o.2.2.2.1 then some (pc + 3) else none
      | _ => none)
    | _, _ => none)
  | .getfield x, 1 => (match px_look M.2.2.1 x, A[o.2.2.1]? with
    | some q, some (.inr (.inr (ci, sl))) => (match sl[q.2]? with
      | some (.inr b) => if len = 3 ∧ q.1 = ci ∧ b = o.2.2.2.1 then some (pc + 3) else none
      | _ => none)
    | _, _ => none)
  | .iaload, 2 => (match A[o.2.2.1]? with
    | some (.inl (n, _)) => if len = 1 ∧ (n : Int) = o.2.2.2.2 then some (pc + 1) else none
    | _ => none)
  | .iastore, 3 => (match A[o.2.2.1]? with
    | some (.inl (n, _)) => if len = 1 ∧ (n : Int) = o.2.2.2.2 then some (pc + 1) else none
    | _ => none)
  | .putfield x, 4 => (match px_look M.2.2.1 x, A[o.2.2.1]? with
    | some q, some (.inr (.inr (ci, sl))) => (match sl[o.2.2.2.1]? with
      | some (.inl _) => if len = 3 ∧ q.1 = ci ∧ q.2 = o.2.2.2.1 then some (pc + 3) else none
      | _ => none)
    | _, _ => none)
  | .arraylength, 5 => (match A[o.2.2.1]? with
    | some (.inl (n, _)) => if len = 1 ∧ (n : Int) = o.2.2.2.2 ∧ n < 2147483648 then some (pc + 1) else none
    | _ => none)
  | .invokestatic x, 6 => (match px_look M.2.2.2.1 x, A[o.2.2.1]?, A[o.2.2.2.1]? with
    | some q, some (.inl _), some (.inl _) => if len = 3 ∧ q.1 = 6 then some (pc + 3) else none
    | _, _, _ => none)
  | .iaload, 7 => if len = 1 then some (pc + 1) else none
  | .arraylength, 8 => if len = 1 then some (pc + 1) else none
  | _, _ => none
def ec_m (A : List sy_Ce) (M : px_M) (pc : Nat) (o : ec_O) (i : Instr) (len : Nat) : Option Nat := match o.1 with
  | 0 => ec_m0 M pc o i len
  | 1 => ec_m1 pc o i len
  | 2 => ec_m2 pc o i len
  | 3 => ec_m3 M pc o i len
  | 4 => ec_m4 pc o i len
  | 5 => ec_m5 A M pc o i len
  | _ => none
/-- ends: a cut (pc, how many locals go on), a call of an int (method, how many arguments, where it goes on), of nothing, a return of an int, of nothing -/
def ec_c6 (X : ec_X) (n j : Nat) (r : Option Value × px_W) (o : ec_O) (L : List (Nat × ec_V)) (st : List ec_V) (w : px_W) (F : Prop) : Prop := match o.2.1 with
  | 0 => F ∧ ec_E X n j o.2.2.1 (L.filter (fun q => decide (q.1 < o.2.2.2.1))) st w r
  | 1 => F ∧ ∃ (v : Option Value) (w1 : px_W), ec_E (ec_cl X) n o.2.2.1 0 (ec_args 0 (st.take o.2.2.2.1).reverse) [] w (v, w1) ∧ ∀ x : Int, v = ec_R x → ec_W X.2.2.2.2.1 w1 → ec_E X n j o.2.2.2.2.toNat L (.inl x :: st.drop o.2.2.2.1) w1 r
  | 2 => F ∧ ∃ (v : Option Value) (w1 : px_W), ec_E (ec_cl X) n o.2.2.1 0 (ec_args 0 (st.take o.2.2.2.1).reverse) [] w (v, w1) ∧ (v = none → ec_W X.2.2.2.2.1 w1 → ec_E X n j o.2.2.2.2.toNat L (st.drop o.2.2.2.1) w1 r)
  | 3 => (match st with
    | [.inl a] => F ∧ r = (ec_R a, w) ∧ ec_W X.2.2.2.2.1 w
    | _ => True)
  | 4 => F ∧ r = (none, w) ∧ ec_W X.2.2.2.2.1 w
  | 5 => F ∧ ∃ (v : Option Value) (w1 : px_W), ec_F X n o.2.2.1 (st.take o.2.2.2.1).reverse w (v, w1) ∧ ∀ x : Int, v = ec_R x → ec_W X.2.2.2.2.1 w1 → ec_E X n j o.2.2.2.2.toNat L (.inl x :: st.drop o.2.2.2.1) w1 r
  | 6 => F ∧ ∃ (v : Option Value) (w1 : px_W), ec_F X n o.2.2.1 (st.take o.2.2.2.1).reverse w (v, w1) ∧ (v = none → ec_W X.2.2.2.2.1 w1 → ec_E X n j o.2.2.2.2.toNat L (st.drop o.2.2.2.1) w1 r)
  | _ => True
def ec_m6 (P : List px_M) (M : px_M) (pc : Nat) (o : ec_O) (i : Instr) (len : Nat) : Bool := match i, o.2.1 with
  | .ireturn, 3 => true
  | .return_, 4 => true
  | .invokevirtual x, k => (match px_look M.2.2.2.1 x with
    | some q => (match P[q.2]? with
      | some M' => (k == 1 || k == 2 || k == 5 || k == 6) && (q.1 == 0 && (q.2 == o.2.2.1 && (M'.1.2.2.2.2 + 1 == o.2.2.2.1 && (o.2.2.2.2 == ((pc + 3 : Nat) : Int) && len == 3))))
      | none => false)
    | none => false)
  | .invokestatic x, k => (match px_look M.2.2.2.1 x with
    | some q => (match P[q.2]? with
      | some M' => (k == 1 || k == 2 || k == 5 || k == 6) && ((q.1 == 1 || q.1 == 4) && (q.2 == o.2.2.1 && (M'.1.2.2.2.2 == o.2.2.2.1 && (o.2.2.2.2 == ((pc + 3 : Nat) : Int) && len == 3))))
      | none => false)
    | none => false)
  | .invokespecial x, k => (match px_look M.2.2.2.1 x with
    | some q => (match P[q.2]? with
      | some M' => (k == 1 || k == 2 || k == 5 || k == 6) && ((q.1 == 2 || q.1 == 5) && (q.2 == o.2.2.1 && (M'.1.2.2.2.2 + 1 == o.2.2.2.1 && (o.2.2.2.2 == ((pc + 3 : Nat) : Int) && len == 3))))
      | none => false)
    | none => false)
  | _, _ => false
/-- what a path says -/
def ec_p (X : ec_X) (n j : Nat) (r : Option Value × px_W) : List ec_O → List (Nat × ec_V) → List ec_V → px_W → Prop → Prop
  | [], _, _, _, _ => True
  | o :: t, L, st, w, F => match o.1 with
    | 0 => ec_c0 o (ec_p X n j r t) L st w F
    | 1 => ec_c1 o (ec_p X n j r t) L st w F
    | 2 => ec_c2 o (ec_p X n j r t) L st w F
    | 3 => ec_c3 o (ec_p X n j r t) L st w F
    | 4 => ec_c4 o (ec_p X n j r t) L st w F
    | 5 => ec_c5 X.2.2.2.2.2 o (ec_p X n j r t) L st w F
    | _ => ec_c6 X n j r o L st w F
/-- is it a path of the method -/
def ec_k (P : List px_M) (G : Nat → Nat → Option (px_M × Instr × Nat)) (A : List sy_Ce) (j : Nat) : List ec_O → Nat → Bool
  | [], _ => false
  | o :: t, pc => if o.1 < 6 then (match G j pc with
      | some (M, i, len) => (match ec_m A M pc o i len with
        | some pc' => ec_k P G A j t pc'
        | none => false)
      | none => false)
    else if o.2.1 = 0 then decide (o.2.2.1 = pc) else (match G j pc with
      | some (M, i, len) => ec_m6 P M pc o i len
      | none => false)

end
