noncomputable section
/-! ONE STEP: the pure step, by parts -/
def px_a1 (i : Instr) (len pc : Nat) (lv : List (Nat × Value)) (st : List Value) : Option (Nat × List (Nat × Value) × List Value) := match st with
    | .int y :: .int x :: r => if len = 1 then (px_bin i x y).map (fun z => (pc + 1, lv, .int z :: r)) else none
    | _ => none
def px_a2 (i : Instr) (len pc : Nat) (lv : List (Nat × Value)) (st : List Value) : Option (Nat × List (Nat × Value) × List Value) := (px_ld i).bind (fun q => (px_look lv q.1).bind (fun v => if len = q.2.1 ∧ px_so v = q.2.2 then some (pc + len, lv, v :: st) else none))
def px_a3 (i : Instr) (len pc : Nat) (lv : List (Nat × Value)) (st : List Value) : Option (Nat × List (Nat × Value) × List Value) := (px_cst i).bind (fun q => if len = q.2 then some (pc + len, lv, q.1 :: st) else none)
def px_a4 (i : Instr) (len pc : Nat) (lv : List (Nat × Value)) (st : List Value) : Option (Nat × List (Nat × Value) × List Value) := (px_br i pc len st).map (fun q => (q.1, lv, q.2))
def px_a5 (i : Instr) (len pc mx : Nat) (lv : List (Nat × Value)) (st : List Value) : Option (Nat × List (Nat × Value) × List Value) := match st with
    | v :: r => (px_st i).bind (fun q => if len = q.2.1 ∧ px_so v = q.2.2 ∧ q.1 < mx then some (pc + len, px_sto lv q.1 v, r) else none)
    | _ => none
def px_a6 (i : Instr) (len pc mx : Nat) (lv : List (Nat × Value)) (st : List Value) : Option (Nat × List (Nat × Value) × List Value) := match i with
    | .iinc k n => (px_look lv k).bind (fun v => match v with
      | .int x => if len = 3 ∧ k < mx then some (pc + 3, px_sto lv k (.int (x + Int32.ofInt n)), st) else none
      | _ => none)
    | _ => none
def px_a7 (i : Instr) (len pc : Nat) (lv : List (Nat × Value)) (st : List Value) : Option (Nat × List (Nat × Value) × List Value) := if len = 1 then (px_stk i st).map (fun r => (pc + 1, lv, r)) else none
def px_a8 (i : Instr) (len pc : Nat) (lv : List (Nat × Value)) (st : List Value) : Option (Nat × List (Nat × Value) × List Value) := match st with
    | v :: r => if len = 1 then (px_un i v).map (fun z => (pc + 1, lv, z :: r)) else none
    | _ => none
def px_a9 (i : Instr) (len pc : Nat) (lv : List (Nat × Value)) (st : List Value) : Option (Nat × List (Nat × Value) × List Value) := match st with
    | v :: .long x :: r => if len = 1 then (px_lb i x v).map (fun z => (pc + 1, lv, .long z :: r)) else none
    | _ => none
theorem px_s1_eq (i : Instr) (len pc mx : Nat) (lv : List (Nat × Value)) (st : List Value) : px_s1 i len pc mx lv st = px_or (px_a1 i len pc lv st) (px_or (px_a2 i len pc lv st) (px_or (px_a3 i len pc lv st) (px_or (px_a4 i len pc lv st) (px_or (px_a5 i len pc mx lv st) (px_or (px_a6 i len pc mx lv st) (px_or (px_a7 i len pc lv st) (px_or (px_a8 i len pc lv st) (px_a9 i len pc lv st)))))))) := rfl
/-- sorts of instructions: 1 two ints, 2 loads, 3 constants, 4 branches, 5 stores, 6 iinc, 7 stack, 8 one value, 9 two longs, 0 all else -/
def px_so1 (i : Instr) : Nat := match i with
  | .iadd | .isub | .imul | .iand | .ior | .ixor | .ishl | .ishr | .iushr | .idiv | .irem => 1
  | .iload_n _ | .iload _ | .lload_n _ | .lload _ | .aload_n _ | .aload _ => 2
  | .iconst _ | .bipush _ | .sipush _ | .lconst _ => 3
  | .goto _ | .ifCond _ _ | .if_icmp _ _ | .tableswitch _ _ _ _ => 4
  | .istore_n _ | .istore _ | .astore_n _ | .astore _ => 5
  | .iinc _ _ => 6
  | .dup | .pop | .dup_x1 | .dup2 => 7
  | .ineg | .i2l | .i2b | .i2s | .i2c | .l2i => 8
  | .land | .lor | .lshl | .lshr => 9
  | _ => 0
section ONE
variable {i : Instr} {len pc mx : Nat} {lv : List (Nat × Value)} {st : List Value}
theorem px_a1_no (h : px_so1 i ≠ 1) : px_a1 i len pc lv st = none := by
  have h1 : ∀ x y, px_bin i x y = none := by
    intro x y
    unfold px_bin
    split <;> first | rfl | exact absurd rfl h
  unfold px_a1
  split
  · split
    · rw [h1]; rfl
    · rfl
  · rfl
theorem px_a2_no (h : px_so1 i ≠ 2) : px_a2 i len pc lv st = none := by
  have h1 : px_ld i = none := by
    unfold px_ld
    split <;> first | rfl | exact absurd rfl h
  unfold px_a2
  rw [h1]
  rfl
theorem px_a3_no (h : px_so1 i ≠ 3) : px_a3 i len pc lv st = none := by
  have h1 : px_cst i = none := by
    unfold px_cst
    split <;> first | rfl | exact absurd rfl h
  unfold px_a3
  rw [h1]
  rfl
theorem px_a4_no (h : px_so1 i ≠ 4) : px_a4 i len pc lv st = none := by
  have h1 : px_br i pc len st = none := by
    unfold px_br
    split <;> first | rfl | exact absurd rfl h
  unfold px_a4
  rw [h1]
  rfl
theorem px_a5_no (h : px_so1 i ≠ 5) : px_a5 i len pc mx lv st = none := by
  have h1 : px_st i = none := by
    unfold px_st
    split <;> first | rfl | exact absurd rfl h
  unfold px_a5
  split
  · rw [h1]; rfl
  · rfl
theorem px_a6_no (h : px_so1 i ≠ 6) : px_a6 i len pc mx lv st = none := by
  unfold px_a6
  split
  · exact absurd rfl h
  · rfl
theorem px_a7_no (h : px_so1 i ≠ 7) : px_a7 i len pc lv st = none := by
  have h1 : px_stk i st = none := by
    unfold px_stk
    split <;> first | rfl | exact absurd rfl h
  unfold px_a7
  rw [h1]
  split <;> rfl
theorem px_a8_no (h : px_so1 i ≠ 8) : px_a8 i len pc lv st = none := by
  have h1 : ∀ v, px_un i v = none := by
    intro v
    unfold px_un
    split <;> first | rfl | exact absurd rfl h
  unfold px_a8
  split
  · rw [h1]; split <;> rfl
  · rfl
theorem px_a9_no (h : px_so1 i ≠ 9) : px_a9 i len pc lv st = none := by
  have h1 : ∀ x v, px_lb i x v = none := by
    intro x v
    unfold px_lb
    split <;> first | rfl | exact absurd rfl h
  unfold px_a9
  split
  · rw [h1]; split <;> rfl
  · rfl
theorem px_or_n {α : Type} {a b : Option α} (h : a = none) : px_or a b = b := by rw [h]; rfl
theorem px_or_s {α : Type} {a b : Option α} {x : α} (h : a = some x) : px_or a b = some x := by rw [h]; rfl
theorem px_s1_0 (h : px_so1 i = 0) : px_s1 i len pc mx lv st = none := by
  rw [px_s1_eq, px_or_n (px_a1_no (by omega)), px_or_n (px_a2_no (by omega)), px_or_n (px_a3_no (by omega)), px_or_n (px_a4_no (by omega)), px_or_n (px_a5_no (by omega)), px_or_n (px_a6_no (by omega)), px_or_n (px_a7_no (by omega)), px_or_n (px_a8_no (by omega)), px_a9_no (by omega)]
theorem px_s1_1 (h : px_so1 i = 1) {z : Nat × List (Nat × Value) × List Value} (hz : px_a1 i len pc lv st = some z) : px_s1 i len pc mx lv st = some z := by
  rw [px_s1_eq, px_or_s hz]
theorem px_s1_2 (h : px_so1 i = 2) {z : Nat × List (Nat × Value) × List Value} (hz : px_a2 i len pc lv st = some z) : px_s1 i len pc mx lv st = some z := by
  rw [px_s1_eq, px_or_n (px_a1_no (by omega)), px_or_s hz]
theorem px_s1_3 (h : px_so1 i = 3) {z : Nat × List (Nat × Value) × List Value} (hz : px_a3 i len pc lv st = some z) : px_s1 i len pc mx lv st = some z := by
  rw [px_s1_eq, px_or_n (px_a1_no (by omega)), px_or_n (px_a2_no (by omega)), px_or_s hz]
theorem px_s1_4 (h : px_so1 i = 4) {z : Nat × List (Nat × Value) × List Value} (hz : px_a4 i len pc lv st = some z) : px_s1 i len pc mx lv st = some z := by
  rw [px_s1_eq, px_or_n (px_a1_no (by omega)), px_or_n (px_a2_no (by omega)), px_or_n (px_a3_no (by omega)), px_or_s hz]
theorem px_s1_5 (h : px_so1 i = 5) {z : Nat × List (Nat × Value) × List Value} (hz : px_a5 i len pc mx lv st = some z) : px_s1 i len pc mx lv st = some z := by
  rw [px_s1_eq, px_or_n (px_a1_no (by omega)), px_or_n (px_a2_no (by omega)), px_or_n (px_a3_no (by omega)), px_or_n (px_a4_no (by omega)), px_or_s hz]
theorem px_s1_6 (h : px_so1 i = 6) {z : Nat × List (Nat × Value) × List Value} (hz : px_a6 i len pc mx lv st = some z) : px_s1 i len pc mx lv st = some z := by
  rw [px_s1_eq, px_or_n (px_a1_no (by omega)), px_or_n (px_a2_no (by omega)), px_or_n (px_a3_no (by omega)), px_or_n (px_a4_no (by omega)), px_or_n (px_a5_no (by omega)), px_or_s hz]
theorem px_s1_7 (h : px_so1 i = 7) {z : Nat × List (Nat × Value) × List Value} (hz : px_a7 i len pc lv st = some z) : px_s1 i len pc mx lv st = some z := by
  rw [px_s1_eq, px_or_n (px_a1_no (by omega)), px_or_n (px_a2_no (by omega)), px_or_n (px_a3_no (by omega)), px_or_n (px_a4_no (by omega)), px_or_n (px_a5_no (by omega)), px_or_n (px_a6_no (by omega)), px_or_s hz]
theorem px_s1_8 (h : px_so1 i = 8) {z : Nat × List (Nat × Value) × List Value} (hz : px_a8 i len pc lv st = some z) : px_s1 i len pc mx lv st = some z := by
  rw [px_s1_eq, px_or_n (px_a1_no (by omega)), px_or_n (px_a2_no (by omega)), px_or_n (px_a3_no (by omega)), px_or_n (px_a4_no (by omega)), px_or_n (px_a5_no (by omega)), px_or_n (px_a6_no (by omega)), px_or_n (px_a7_no (by omega)), px_or_s hz]
theorem px_s1_9 (h : px_so1 i = 9) {z : Nat × List (Nat × Value) × List Value} (hz : px_a9 i len pc lv st = some z) : px_s1 i len pc mx lv st = some z := by
  rw [px_s1_eq, px_or_n (px_a1_no (by omega)), px_or_n (px_a2_no (by omega)), px_or_n (px_a3_no (by omega)), px_or_n (px_a4_no (by omega)), px_or_n (px_a5_no (by omega)), px_or_n (px_a6_no (by omega)), px_or_n (px_a7_no (by omega)), px_or_n (px_a8_no (by omega))]
  exact hz
end ONE
section ONE2
variable {cl : List vw_C} {lt : List (List Int32)} {P : List px_M} {d : Nat} {scr : Option (List Int32)} {M : px_M} {pc : Nat} {lv : List (Nat × Value)} {st : List Value} {w : px_W} {i : Instr} {len : Nat}
theorem px_step_1 (hq : px_look M.2.1 pc = some (i, len)) {z : Nat × List (Nat × Value) × List Value} (hz : px_s1 i len pc M.1.2.2.1 lv st = some z) : px_step cl lt P d scr M pc lv st w = some (.inl (z.1, z.2.1, z.2.2, w, 0, 0)) := by
  unfold px_step
  rw [hq]
  show px_or ((px_s1 i len pc M.1.2.2.1 lv st).map _) _ = _
  rw [hz]
  rfl
theorem px_step_2 (hq : px_look M.2.1 pc = some (i, len)) (h0 : px_so1 i = 0) {z : List Value × px_W × Nat × Nat} (hz : px_s2 cl lt i len scr M.1.1.name M.1.1.cls M.2.2 st w = some z) : px_step cl lt P d scr M pc lv st w = some (.inl (pc + len, lv, z.1, z.2.1, z.2.2)) := by
  unfold px_step
  rw [hq]
  show px_or ((px_s1 i len pc M.1.2.2.1 lv st).map _) (px_or ((px_s2 cl lt i len scr M.1.1.name M.1.1.cls M.2.2 st w).map _) _) = _
  rw [px_s1_0 h0, hz]
  rfl
/-- calls and returns: 1 returns, 2 static, 3 virtual, 4 special -/
def px_so2 (i : Instr) : Nat := match i with
  | .ireturn | .lreturn | .return_ => 1
  | .invokestatic _ => 2
  | .invokevirtual _ => 3
  | .invokespecial _ => 4
  | _ => 0
theorem px_so2_0 (h : px_so2 i ≠ 0) : px_so1 i = 0 := by
  unfold px_so2 at h
  split at h <;> first | rfl | exact absurd rfl h
theorem px_s2_no (h : px_so2 i ≠ 0) {nm own : String} {L : px_L} : px_s2 cl lt i len scr nm own L st w = none := by
  unfold px_s2
  split <;> first | rfl | exact absurd rfl h
theorem px_s5_no (h : px_so2 i ≠ 1) {ret : Option FieldType} : px_s5 i len ret st = none := by
  unfold px_s5
  split <;> first | rfl | exact absurd rfl h
theorem px_step_5 (hq : px_look M.2.1 pc = some (i, len)) (h0 : px_so2 i = 1) {z : Option Value} (hz : px_s5 i len M.1.2.2.2.1 st = some z) : px_step cl lt P d scr M pc lv st w = some (.inr (.inl z)) := by
  unfold px_step
  rw [hq]
  show px_or ((px_s1 i len pc M.1.2.2.1 lv st).map _) (px_or ((px_s2 cl lt i len scr M.1.1.name M.1.1.cls M.2.2 st w).map _) (px_or ((px_s5 i len M.1.2.2.2.1 st).map _) _)) = _
  rw [px_s1_0 (px_so2_0 (by omega)), px_s2_no (by omega), hz]
  rfl
theorem px_step_3 (hq : px_look M.2.1 pc = some (i, len)) (h0 : 2 ≤ px_so2 i) {z : List Value × px_W} (hz : px_s3 i len d M.2.2 st w = some z) : px_step cl lt P d scr M pc lv st w = some (.inl (pc + 3, lv, z.1, z.2, 0, 0)) := by
  unfold px_step
  rw [hq]
  show px_or ((px_s1 i len pc M.1.2.2.1 lv st).map _) (px_or ((px_s2 cl lt i len scr M.1.1.name M.1.1.cls M.2.2 st w).map _) (px_or ((px_s5 i len M.1.2.2.2.1 st).map _) (px_or ((px_s3 i len d M.2.2 st w).map _) _))) = _
  rw [px_s1_0 (px_so2_0 (by omega)), px_s2_no (by omega), px_s5_no (by omega), hz]
  rfl
theorem px_step_6 (hq : px_look M.2.1 pc = some (i, len)) (h0 : 2 ≤ px_so2 i) (h3 : px_s3 i len d M.2.2 st w = none) {z : List Value} (hz : px_s6 i len d M.2.2 st = some z) : px_step cl lt P d scr M pc lv st w = some (.inl (pc + 3, lv, z, w, 0, 0)) := by
  unfold px_step
  rw [hq]
  show px_or ((px_s1 i len pc M.1.2.2.1 lv st).map _) (px_or ((px_s2 cl lt i len scr M.1.1.name M.1.1.cls M.2.2 st w).map _) (px_or ((px_s5 i len M.1.2.2.2.1 st).map _) (px_or ((px_s3 i len d M.2.2 st w).map _) (px_or ((px_s6 i len d M.2.2 st).map _) _)))) = _
  rw [px_s1_0 (px_so2_0 (by omega)), px_s2_no (by omega), px_s5_no (by omega), h3, hz]
  rfl
theorem px_step_4 (hq : px_look M.2.1 pc = some (i, len)) (h0 : 2 ≤ px_so2 i) (h3 : px_s3 i len d M.2.2 st w = none) (h6 : px_s6 i len d M.2.2 st = none) {z : Nat × List Value × List Value} (hz : px_s4 cl P i len M.2.2 st w = some z) : px_step cl lt P d scr M pc lv st w = some (.inr (.inr z)) := by
  unfold px_step
  rw [hq]
  show px_or ((px_s1 i len pc M.1.2.2.1 lv st).map _) (px_or ((px_s2 cl lt i len scr M.1.1.name M.1.1.cls M.2.2 st w).map _) (px_or ((px_s5 i len M.1.2.2.2.1 st).map _) (px_or ((px_s3 i len d M.2.2 st w).map _) (px_or ((px_s6 i len d M.2.2 st).map _) ((px_s4 cl P i len M.2.2 st w).map _))))) = _
  rw [px_s1_0 (px_so2_0 (by omega)), px_s2_no (by omega), px_s5_no (by omega), h3, h6, hz]
  rfl
end ONE2

end
