noncomputable section
/-! ROWS BY THEIR BYTES: what most instructions are, without decode's long table -/
section DE
def px_cd (k : Jvm.ClassFile.Cond) : Nat := match k with
  | .eq => 0
  | .ne => 1
  | .lt => 2
  | .ge => 3
  | .gt => 4
  | .le => 5
/-- sort (0 alone, 1 a byte, 2 a signed byte, 3 two bytes, 4 two signed bytes, 5 a byte and a signed one, 9 another), first byte, operands -/
def px_sp (i : Instr) : Nat × Nat × Int × Int := match i with
  | .aload_n n => (0, 42 + n.val, 0, 0)
  | .iload_n n => (0, 26 + n.val, 0, 0)
  | .istore_n n => (0, 59 + n.val, 0, 0)
  | .dup => (0, 89, 0, 0)
  | .dup2 => (0, 92, 0, 0)
  | .pop => (0, 87, 0, 0)
  | .iadd => (0, 96, 0, 0)
  | .isub => (0, 100, 0, 0)
  | .imul => (0, 104, 0, 0)
  | .idiv => (0, 108, 0, 0)
  | .irem => (0, 112, 0, 0)
  | .ishl => (0, 120, 0, 0)
  | .ishr => (0, 122, 0, 0)
  | .iand => (0, 126, 0, 0)
  | .ior => (0, 128, 0, 0)
  | .ixor => (0, 130, 0, 0)
  | .iaload => (0, 46, 0, 0)
  | .iastore => (0, 79, 0, 0)
  | .ireturn => (0, 172, 0, 0)
  | .return_ => (0, 177, 0, 0)
  | .iload k => (1, 21, k, 0)
  | .istore k => (1, 54, k, 0)
  | .ldc k => (1, 18, k, 0)
  | .bipush v => (2, 16, v, 0)
  | .getfield k => (3, 180, k, 0)
  | .putfield k => (3, 181, k, 0)
  | .invokevirtual k => (3, 182, k, 0)
  | .invokespecial k => (3, 183, k, 0)
  | .invokestatic k => (3, 184, k, 0)
  | .sipush v => (4, 17, v, 0)
  | .goto v => (4, 167, v, 0)
  | .ifCond c v => (4, 153 + px_cd c, v, 0)
  | .if_icmp c v => (4, 159 + px_cd c, v, 0)
  | .iinc k v => (5, 132, k, v)
  | .iconst v => if -1 ≤ v ∧ v ≤ 5 then (0, (v + 3).toNat, 0, 0) else (9, 0, 0, 0)
  | _ => (9, 0, 0, 0)
abbrev px_De : Type → Type := Jvm.ClassFile.Decoder
def px_Dc (i : Instr) : Prop := match px_sp i with
  | (0, op, _, _) => ∀ pc, ∃ F : Nat → px_De Instr, Jvm.ClassFile.Decoder.instr pc = (Jvm.ClassFile.Reader.u1 >>= F) ∧ F op = Pure.pure i
  | (1, op, v, _) => ∀ pc, ∃ F : Nat → px_De Instr, Jvm.ClassFile.Decoder.instr pc = (Jvm.ClassFile.Reader.u1 >>= F) ∧ ∃ f : Nat → Instr, F op = (Jvm.ClassFile.Reader.u1 >>= fun x => Pure.pure (f x)) ∧ ∀ x : Nat, (x : Int) = v → f x = i
  | (2, op, v, _) => ∀ pc, ∃ F : Nat → px_De Instr, Jvm.ClassFile.Decoder.instr pc = (Jvm.ClassFile.Reader.u1 >>= F) ∧ ∃ f : Int → Instr, F op = (Jvm.ClassFile.Reader.s1 >>= fun x => Pure.pure (f x)) ∧ f v = i
  | (3, op, v, _) => ∀ pc, ∃ F : Nat → px_De Instr, Jvm.ClassFile.Decoder.instr pc = (Jvm.ClassFile.Reader.u1 >>= F) ∧ ∃ f : Nat → Instr, F op = (Jvm.ClassFile.Reader.u2 >>= fun x => Pure.pure (f x)) ∧ ∀ x : Nat, (x : Int) = v → f x = i
  | (4, op, v, _) => ∀ pc, ∃ F : Nat → px_De Instr, Jvm.ClassFile.Decoder.instr pc = (Jvm.ClassFile.Reader.u1 >>= F) ∧ ∃ f : Int → Instr, F op = (Jvm.ClassFile.Reader.s2 >>= fun x => Pure.pure (f x)) ∧ f v = i
  | (5, op, v, u) => ∀ pc, ∃ F : Nat → px_De Instr, Jvm.ClassFile.Decoder.instr pc = (Jvm.ClassFile.Reader.u1 >>= F) ∧ ∃ f : Nat → Int → Instr, F op = (Jvm.ClassFile.Reader.u1 >>= fun x => Jvm.ClassFile.Reader.s1 >>= fun y => Pure.pure (f x y)) ∧ ∀ x : Nat, (x : Int) = v → f x u = i
  | _ => True
set_option maxRecDepth 100000 in
theorem px_Dc_all (i : Instr) : px_Dc i := by
  cases i
  case aload_n n => exact match n with
    | 0 => fun pc => ⟨_, rfl, rfl⟩
    | 1 => fun pc => ⟨_, rfl, rfl⟩
    | 2 => fun pc => ⟨_, rfl, rfl⟩
    | 3 => fun pc => ⟨_, rfl, rfl⟩
  case iload_n n => exact match n with
    | 0 => fun pc => ⟨_, rfl, rfl⟩
    | 1 => fun pc => ⟨_, rfl, rfl⟩
    | 2 => fun pc => ⟨_, rfl, rfl⟩
    | 3 => fun pc => ⟨_, rfl, rfl⟩
  case istore_n n => exact match n with
    | 0 => fun pc => ⟨_, rfl, rfl⟩
    | 1 => fun pc => ⟨_, rfl, rfl⟩
    | 2 => fun pc => ⟨_, rfl, rfl⟩
    | 3 => fun pc => ⟨_, rfl, rfl⟩
  case iconst v =>
    by_cases h : -1 ≤ v ∧ v ≤ 5
    · have hs : px_sp (.iconst v) = (0, (v + 3).toNat, 0, 0) := if_pos h
      unfold px_Dc
      rw [hs]
      have h2 : v = -1 ∨ v = 0 ∨ v = 1 ∨ v = 2 ∨ v = 3 ∨ v = 4 ∨ v = 5 := by omega
      rcases h2 with rfl | rfl | rfl | rfl | rfl | rfl | rfl <;> exact fun pc => ⟨_, rfl, rfl⟩
    · have hs : px_sp (.iconst v) = (9, 0, 0, 0) := if_neg h
      unfold px_Dc
      rw [hs]
      exact trivial
  case ifCond c v => cases c <;> exact fun pc => ⟨_, rfl, _, rfl, rfl⟩
  case if_icmp c v => cases c <;> exact fun pc => ⟨_, rfl, _, rfl, rfl⟩
  case iload k => exact fun pc => ⟨_, rfl, _, rfl, fun x hx => by rw [Int.ofNat_inj.mp hx]⟩
  case istore k => exact fun pc => ⟨_, rfl, _, rfl, fun x hx => by rw [Int.ofNat_inj.mp hx]⟩
  case ldc k => exact fun pc => ⟨_, rfl, _, rfl, fun x hx => by rw [Int.ofNat_inj.mp hx]⟩
  case getfield k => exact fun pc => ⟨_, rfl, _, rfl, fun x hx => by rw [Int.ofNat_inj.mp hx]⟩
  case putfield k => exact fun pc => ⟨_, rfl, _, rfl, fun x hx => by rw [Int.ofNat_inj.mp hx]⟩
  case invokevirtual k => exact fun pc => ⟨_, rfl, _, rfl, fun x hx => by rw [Int.ofNat_inj.mp hx]⟩
  case invokespecial k => exact fun pc => ⟨_, rfl, _, rfl, fun x hx => by rw [Int.ofNat_inj.mp hx]⟩
  case invokestatic k => exact fun pc => ⟨_, rfl, _, rfl, fun x hx => by rw [Int.ofNat_inj.mp hx]⟩
  case iinc k v => exact fun pc => ⟨_, rfl, _, rfl, fun x hx => by rw [Int.ofNat_inj.mp hx]⟩
  case bipush v => exact fun pc => ⟨_, rfl, _, rfl, rfl⟩
  case sipush v => exact fun pc => ⟨_, rfl, _, rfl, rfl⟩
  case goto v => exact fun pc => ⟨_, rfl, _, rfl, rfl⟩
  case dup => exact fun pc => ⟨_, rfl, rfl⟩
  case dup2 => exact fun pc => ⟨_, rfl, rfl⟩
  case pop => exact fun pc => ⟨_, rfl, rfl⟩
  case iadd => exact fun pc => ⟨_, rfl, rfl⟩
  case isub => exact fun pc => ⟨_, rfl, rfl⟩
  case imul => exact fun pc => ⟨_, rfl, rfl⟩
  case idiv => exact fun pc => ⟨_, rfl, rfl⟩
  case irem => exact fun pc => ⟨_, rfl, rfl⟩
  case ishl => exact fun pc => ⟨_, rfl, rfl⟩
  case ishr => exact fun pc => ⟨_, rfl, rfl⟩
  case iand => exact fun pc => ⟨_, rfl, rfl⟩
  case ior => exact fun pc => ⟨_, rfl, rfl⟩
  case ixor => exact fun pc => ⟨_, rfl, rfl⟩
  case iaload => exact fun pc => ⟨_, rfl, rfl⟩
  case iastore => exact fun pc => ⟨_, rfl, rfl⟩
  case ireturn => exact fun pc => ⟨_, rfl, rfl⟩
  case return_ => exact fun pc => ⟨_, rfl, rfl⟩
  all_goals exact trivial
theorem px_ru1 {code : ByteArray} {p : Nat} {b : UInt8} (h : code.data.toList[p]? = some b) : Jvm.ClassFile.Reader.runAt (ε := Jvm.ClassFile.DecodeError) Jvm.ClassFile.Reader.u1 code p = .ok (b.toNat, p + 1) := by
  obtain ⟨hlt, hb⟩ := List.getElem?_eq_some_iff.mp h
  have h1 : p < code.size := hlt
  have h2 : code[p] = b := hb
  show ((if h : p < code.size then (do set (p + 1); Pure.pure code[p].toNat) else throw (Jvm.ClassFile.HasTruncated.truncated p) : px_De Nat) code p) = _
  rw [dif_pos h1, h2]
  rfl
theorem px_bind {α β : Type} {r : px_De α} {f : α → px_De β} {code : ByteArray} {p p' : Nat} {a : α} (h : Jvm.ClassFile.Reader.runAt r code p = .ok (a, p')) : Jvm.ClassFile.Reader.runAt (r >>= f) code p = Jvm.ClassFile.Reader.runAt (f a) code p' := by
  show (Jvm.ClassFile.Reader.runAt r code p >>= fun q => Jvm.ClassFile.Reader.runAt (f q.1) code q.2) = _
  rw [h]
  rfl
theorem px_ru2 {code : ByteArray} {p : Nat} {a b : UInt8} (h : code.data.toList[p]? = some a) (h' : code.data.toList[p + 1]? = some b) : Jvm.ClassFile.Reader.runAt (ε := Jvm.ClassFile.DecodeError) Jvm.ClassFile.Reader.u2 code p = .ok (a.toNat * 256 + b.toNat, p + 2) := by
  unfold Jvm.ClassFile.Reader.u2
  rw [px_bind (px_ru1 h), px_bind (px_ru1 h')]
  rfl
theorem px_rs1 {code : ByteArray} {p : Nat} {a : UInt8} (h : code.data.toList[p]? = some a) : Jvm.ClassFile.Reader.runAt (ε := Jvm.ClassFile.DecodeError) Jvm.ClassFile.Reader.s1 code p = .ok (Jvm.ClassFile.Reader.signed 8 a.toNat, p + 1) := by
  show (Jvm.ClassFile.Reader.runAt (ε := Jvm.ClassFile.DecodeError) Jvm.ClassFile.Reader.u1 code p >>= fun q => .ok (Jvm.ClassFile.Reader.signed 8 q.1, q.2)) = _
  rw [px_ru1 h]
  rfl
theorem px_rs2 {code : ByteArray} {p : Nat} {a b : UInt8} (h : code.data.toList[p]? = some a) (h' : code.data.toList[p + 1]? = some b) : Jvm.ClassFile.Reader.runAt (ε := Jvm.ClassFile.DecodeError) Jvm.ClassFile.Reader.s2 code p = .ok (Jvm.ClassFile.Reader.signed 16 (a.toNat * 256 + b.toNat), p + 2) := by
  show (Jvm.ClassFile.Reader.runAt (ε := Jvm.ClassFile.DecodeError) Jvm.ClassFile.Reader.u2 code p >>= fun q => .ok (Jvm.ClassFile.Reader.signed 16 q.1, q.2)) = _
  rw [px_ru2 h h']
  rfl
theorem px_decE {code : ByteArray} {pc n : Nat} {i : Instr} (h : Jvm.ClassFile.Reader.runAt (Jvm.ClassFile.Decoder.instr pc) code pc = .ok (i, pc + n)) : decode code pc = .ok (i, n) := by
  show (Jvm.ClassFile.Reader.runAt (Jvm.ClassFile.Decoder.instr pc) code pc >>= fun q => Pure.pure (q.1, q.2 - pc)) = _
  rw [h]
  show Except.ok (i, pc + n - pc) = _
  rw [Nat.add_sub_cancel_left]
/-- the bytes from here on, and a row -/
def px_rw (L : List UInt8) (i : Instr) (len : Nat) : Bool := match px_sp i, L with
  | (0, op, _, _), a :: _ => Nat.beq a.toNat op && Nat.beq len 1
  | (1, op, v, _), a :: b :: _ => Nat.beq a.toNat op && (Nat.beq len 2 && decide ((b.toNat : Int) = v))
  | (2, op, v, _), a :: b :: _ => Nat.beq a.toNat op && (Nat.beq len 2 && decide (Jvm.ClassFile.Reader.signed 8 b.toNat = v))
  | (3, op, v, _), a :: b :: c :: _ => Nat.beq a.toNat op && (Nat.beq len 3 && decide (((b.toNat * 256 + c.toNat : Nat) : Int) = v))
  | (4, op, v, _), a :: b :: c :: _ => Nat.beq a.toNat op && (Nat.beq len 3 && decide (Jvm.ClassFile.Reader.signed 16 (b.toNat * 256 + c.toNat) = v))
  | (5, op, v, u), a :: b :: c :: _ => Nat.beq a.toNat op && (Nat.beq len 3 && (decide ((b.toNat : Int) = v) && decide (Jvm.ClassFile.Reader.signed 8 c.toNat = u)))
  | _, _ => false
theorem px_rw_ok {code : ByteArray} {L : List UInt8} {pc len : Nat} {i : Instr} (h : px_rw L i len = true) (hL : code.data.toList.drop pc = L) : decode code pc = .ok (i, len) := by
  have hg : ∀ k, code.data.toList[pc + k]? = L[k]? := fun k => by rw [← hL, List.getElem?_drop]
  have hD := px_Dc_all i
  unfold px_Dc at hD
  unfold px_rw at h
  split at h
  · rename_i op x1 x2 a r hs
    rw [hs] at hD
    rw [Bool.and_eq_true] at h
    obtain ⟨F, h1, h2⟩ := hD pc
    have e1 := Nat.eq_of_beq_eq_true h.1
    have e2 := Nat.eq_of_beq_eq_true h.2
    refine px_decE ?_
    rw [h1, px_bind (px_ru1 (p := pc) (hg 0)), e1, h2, e2]
    rfl
  · rename_i op v x2 a b r hs
    rw [hs] at hD
    simp only [Bool.and_eq_true, decide_eq_true_eq] at h
    obtain ⟨F, h1, f, h2, h3⟩ := hD pc
    have e1 := Nat.eq_of_beq_eq_true h.1
    have e2 := Nat.eq_of_beq_eq_true h.2.1
    refine px_decE ?_
    rw [h1, px_bind (px_ru1 (p := pc) (hg 0)), e1, h2, px_bind (px_ru1 (p := pc + 1) (hg 1)), h3 _ h.2.2, e2]
    rfl
  · rename_i op v x2 a b r hs
    rw [hs] at hD
    simp only [Bool.and_eq_true, decide_eq_true_eq] at h
    obtain ⟨F, h1, f, h2, h3⟩ := hD pc
    have e1 := Nat.eq_of_beq_eq_true h.1
    have e2 := Nat.eq_of_beq_eq_true h.2.1
    refine px_decE ?_
    rw [h1, px_bind (px_ru1 (p := pc) (hg 0)), e1, h2, px_bind (px_rs1 (p := pc + 1) (hg 1)), h.2.2, h3, e2]
    rfl
  · rename_i op v x2 a b c r hs
    rw [hs] at hD
    simp only [Bool.and_eq_true, decide_eq_true_eq] at h
    obtain ⟨F, h1, f, h2, h3⟩ := hD pc
    have e1 := Nat.eq_of_beq_eq_true h.1
    have e2 := Nat.eq_of_beq_eq_true h.2.1
    refine px_decE ?_
    rw [h1, px_bind (px_ru1 (p := pc) (hg 0)), e1, h2, px_bind (px_ru2 (p := pc + 1) (hg 1) (hg 2)), h3 _ h.2.2, e2]
    rfl
  · rename_i op v x2 a b c r hs
    rw [hs] at hD
    simp only [Bool.and_eq_true, decide_eq_true_eq] at h
    obtain ⟨F, h1, f, h2, h3⟩ := hD pc
    have e1 := Nat.eq_of_beq_eq_true h.1
    have e2 := Nat.eq_of_beq_eq_true h.2.1
    refine px_decE ?_
    rw [h1, px_bind (px_ru1 (p := pc) (hg 0)), e1, h2, px_bind (px_rs2 (p := pc + 1) (hg 1) (hg 2)), h.2.2, h3, e2]
    rfl
  · rename_i op v u a b c r hs
    rw [hs] at hD
    simp only [Bool.and_eq_true, decide_eq_true_eq] at h
    obtain ⟨F, h1, f, h2, h3⟩ := hD pc
    have e1 := Nat.eq_of_beq_eq_true h.1
    have e2 := Nat.eq_of_beq_eq_true h.2.1
    refine px_decE ?_
    rw [h1, px_bind (px_ru1 (p := pc) (hg 0)), e1, h2, px_bind (px_ru1 (p := pc + 1) (hg 1)), px_bind (px_rs1 (p := pc + 1 + 1) (hg 2)), h.2.2.2, h3 _ h.2.2.1, e2]
    rfl
  · cases h
/-- some rows, one behind the other; a row that is none of these is decoded -/
def px_rws (code : ByteArray) : List UInt8 → Nat → List (Nat × Instr × Nat) → Bool
  | _, _, [] => true
  | L, p, q :: r => Nat.beq q.1 p && ((px_rw L q.2.1 q.2.2 || decide (decode code q.1 = .ok q.2)) && px_rws code (L.drop q.2.2) (p + q.2.2) r)
theorem px_rws_ok {code : ByteArray} : ∀ {rows : List (Nat × Instr × Nat)} {L : List UInt8} {p : Nat}, px_rws code L p rows = true → code.data.toList.drop p = L → ∀ q ∈ rows, decode code q.1 = .ok q.2
  | [], _, _, _, _ => fun q hq => absurd hq List.not_mem_nil
  | q0 :: r, L, p, h, hL => by
    have h' : (Nat.beq q0.1 p && ((px_rw L q0.2.1 q0.2.2 || decide (decode code q0.1 = .ok q0.2)) && px_rws code (L.drop q0.2.2) (p + q0.2.2) r)) = true := h
    rw [Bool.and_eq_true, Bool.and_eq_true, Bool.or_eq_true] at h'
    obtain ⟨h1, h2, h3⟩ := h'
    have e1 := Nat.eq_of_beq_eq_true h1
    intro q hq
    rcases List.mem_cons.mp hq with rfl | hq
    · rcases h2 with h2 | h2
      · rw [e1]
        exact px_rw_ok h2 hL
      · exact of_decide_eq_true h2
    · exact px_rws_ok h3 (by rw [← hL, List.drop_drop]) q hq
def px_rwc (code : ByteArray) (rows : List (Nat × Instr × Nat)) : Bool := match rows with
  | [] => true
  | q :: r => px_rws code (code.data.toList.drop q.1) q.1 (q :: r)
theorem px_rwc_ok {code : ByteArray} {rows : List (Nat × Instr × Nat)} (h : px_rwc code rows = true) : ∀ q ∈ rows, decode code q.1 = .ok q.2 := by
  unfold px_rwc at h
  split at h
  · exact fun q hq => absurd hq List.not_mem_nil
  · exact px_rws_ok h rfl
end DE

end
