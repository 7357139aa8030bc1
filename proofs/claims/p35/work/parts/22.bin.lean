noncomputable section
/-! TWO INTS, BY RANGES -/
theorem sy_dv0 {x y a b : Int} (h0 : 0 ≤ x) (h : x ≤ a) (hb : 0 < b) (hy : b ≤ y) : 0 ≤ x.tdiv y ∧ x.tdiv y ≤ a / b := by
  rw [Int.tdiv_eq_ediv_of_nonneg h0]
  have h1 : 0 ≤ x / y := Int.ediv_nonneg h0 (by omega)
  refine ⟨h1, (Int.le_ediv_iff_mul_le hb).mpr ?_⟩
  have h2 := Int.mul_le_mul_of_nonneg_left hy h1
  have h3 := Int.ediv_mul_le x (show y ≠ 0 by omega)
  omega
theorem sy_dv {x y a1 a2 b1 : Int} (h1 : a1 ≤ x) (h2 : x ≤ a2) (hb : 0 < b1) (hy : b1 ≤ y) : (if 0 ≤ a1 then 0 else -((-a1) / b1)) ≤ x.tdiv y ∧ x.tdiv y ≤ (if 0 ≤ a2 then a2 / b1 else 0) := by
  by_cases hx : 0 ≤ x
  · obtain ⟨h3, h4⟩ := sy_dv0 hx h2 hb hy
    rw [if_pos (show 0 ≤ a2 by omega)]
    refine ⟨?_, h4⟩
    split
    · exact h3
    · have := Int.ediv_nonneg (show 0 ≤ -a1 by omega) (Int.le_of_lt hb)
      omega
  · obtain ⟨h3, h4⟩ := sy_dv0 (x := -x) (by omega) (show -x ≤ -a1 by omega) hb hy
    rw [Int.neg_tdiv] at h3 h4
    rw [if_neg (show ¬ 0 ≤ a1 by omega)]
    refine ⟨by omega, ?_⟩
    split
    · have := Int.ediv_nonneg (show 0 ≤ a2 by assumption) (Int.le_of_lt hb)
      omega
    · omega
theorem sy_ne0 {b : Int × Int} {Y : Int32} (h : 0 < b.1 ∨ b.2 < 0) (hb : b.1 ≤ Y.toInt ∧ Y.toInt ≤ b.2) : ¬ Y = 0 := by
  intro e
  rw [e] at hb
  have : (0 : Int32).toInt = 0 := rfl
  omega
theorem sy_rl_ok {i : Instr} {a b r : Int × Int} {X Y : Int32} (h : sy_rl i a b = some r) (ha : a.1 ≤ X.toInt ∧ X.toInt ≤ a.2) (hb : b.1 ≤ Y.toInt ∧ Y.toInt ≤ b.2) : ∃ Z, px_bin i X Y = some Z ∧ r.1 ≤ Z.toInt ∧ Z.toInt ≤ r.2 := by
  unfold sy_rl at h
  split at h
  · split at h
    · cases h
      have := sy_and_r X Y (by omega)
      exact ⟨_, rfl, by show 0 ≤ _; omega, by show _ ≤ b.2; omega⟩
    · split at h
      · cases h
        have := sy_and_l X Y (by omega)
        exact ⟨_, rfl, by show 0 ≤ _; omega, by show _ ≤ a.2; omega⟩
      · cases h
        exact ⟨_, rfl, sy_full_in _⟩
  · split at h
    · cases h
      have := sy_or_lim X Y (by omega) (by omega) (max a.2 b.2) (by omega) (by omega)
      exact ⟨_, rfl, this.1, this.2⟩
    · cases h
      exact ⟨_, rfl, sy_full_in _⟩
  · split at h
    · rename_i hn
      have hne := sy_ne0 hn hb
      have hp : px_bin .idiv X Y = some (X / Y) := if_neg hne
      split at h
      · rename_i hc
        cases h
        have hm1 : Y ≠ -1 := by
          intro e
          rw [e] at hb
          have : (-1 : Int32).toInt = -1 := rfl
          omega
        have e1 := Int32.toInt_div_of_ne_right X Y hm1
        refine ⟨_, hp, ?_⟩
        rw [e1]
        exact sy_dv ha.1 ha.2 hc hb.1
      · cases h
        exact ⟨_, hp, sy_full_in _⟩
    · cases h
  · split at h
    · rename_i hn
      have hne := sy_ne0 hn hb
      have hp : px_bin .irem X Y = some (X - X / Y * Y) := if_neg hne
      split at h
      · rename_i hc
        cases h
        have hm1 : Y ≠ -1 := by
          intro e
          rw [e] at hb
          have : (-1 : Int32).toInt = -1 := rfl
          omega
        have e1 := Int32.toInt_div_of_ne_right X Y hm1
        have e2 : X - X / Y * Y = Int32.ofInt (X.toInt.tmod Y.toInt) := by
          rw [Int.tmod_def, Int32.ofInt_sub, Int32.ofInt_toInt, Int32.ofInt_mul, ← e1, Int32.ofInt_toInt, Int32.ofInt_toInt, Int32.mul_comm]
        have h1 := Int.tmod_nonneg (a := X.toInt) Y.toInt (by omega)
        have h2 := Int.tmod_lt_of_pos X.toInt (b := Y.toInt) (by omega)
        have hY := sy_int_bounds Y
        have e3 : (X - X / Y * Y).toInt = X.toInt.tmod Y.toInt := by
          rw [e2]
          exact Int32.toInt_ofInt_of_le (by omega) (by omega)
        exact ⟨_, hp, by show 0 ≤ (X - X / Y * Y).toInt; omega, by show (X - X / Y * Y).toInt ≤ b.2 - 1; omega⟩
      · cases h
        exact ⟨_, hp, sy_full_in _⟩
    · cases h
  all_goals first
    | (cases h; exact ⟨_, rfl, sy_full_in _⟩)
    | cases h
def sy_enY (i : Instr) (X : Int32) (lo : Int) : Nat → Option (Int × Int)
  | 0 => (px_bin i X (Int32.ofInt lo)).map (fun z => (z.toInt, z.toInt))
  | n + 1 => match px_bin i X (Int32.ofInt (lo + ((n + 1 : Nat) : Int))), sy_enY i X lo n with
    | some z, some r => some (min r.1 z.toInt, max r.2 z.toInt)
    | _, _ => none
theorem sy_enY_ok {i : Instr} {X : Int32} {lo : Int} : ∀ (n : Nat) (r : Int × Int), sy_enY i X lo n = some r → ∀ k : Nat, k ≤ n → ∃ Z, px_bin i X (Int32.ofInt (lo + (k : Int))) = some Z ∧ r.1 ≤ Z.toInt ∧ Z.toInt ≤ r.2
  | 0, r, h, k, hk => by
    obtain ⟨z, hz, rfl⟩ := Option.map_eq_some_iff.mp h
    have hk0 : k = 0 := by omega
    subst hk0
    refine ⟨z, ?_, Int.le_refl _, Int.le_refl _⟩
    rw [show lo + ((0 : Nat) : Int) = lo by omega]
    exact hz
  | n + 1, r, h, k, hk => by
    unfold sy_enY at h
    split at h
    · rename_i z r' hz hr
      cases h
      rcases Nat.lt_or_ge n k with hk1 | hk1
      · have hk2 : k = n + 1 := by omega
        subst hk2
        exact ⟨z, hz, by show min _ _ ≤ _; omega, by show _ ≤ max _ _; omega⟩
      · obtain ⟨Z, h1, h2, h3⟩ := sy_enY_ok n r' hr k hk1
        exact ⟨Z, h1, by show min _ _ ≤ _; omega, by show _ ≤ max _ _; omega⟩
    · cases h
def sy_enX (i : Instr) (Y : Int32) (lo : Int) : Nat → Option (Int × Int)
  | 0 => (px_bin i (Int32.ofInt lo) Y).map (fun z => (z.toInt, z.toInt))
  | n + 1 => match px_bin i (Int32.ofInt (lo + ((n + 1 : Nat) : Int))) Y, sy_enX i Y lo n with
    | some z, some r => some (min r.1 z.toInt, max r.2 z.toInt)
    | _, _ => none
theorem sy_enX_ok {i : Instr} {Y : Int32} {lo : Int} : ∀ (n : Nat) (r : Int × Int), sy_enX i Y lo n = some r → ∀ k : Nat, k ≤ n → ∃ Z, px_bin i (Int32.ofInt (lo + (k : Int))) Y = some Z ∧ r.1 ≤ Z.toInt ∧ Z.toInt ≤ r.2
  | 0, r, h, k, hk => by
    obtain ⟨z, hz, rfl⟩ := Option.map_eq_some_iff.mp h
    have hk0 : k = 0 := by omega
    subst hk0
    refine ⟨z, ?_, Int.le_refl _, Int.le_refl _⟩
    rw [show lo + ((0 : Nat) : Int) = lo by omega]
    exact hz
  | n + 1, r, h, k, hk => by
    unfold sy_enX at h
    split at h
    · rename_i z r' hz hr
      cases h
      rcases Nat.lt_or_ge n k with hk1 | hk1
      · have hk2 : k = n + 1 := by omega
        subst hk2
        exact ⟨z, hz, by show min _ _ ≤ _; omega, by show _ ≤ max _ _; omega⟩
      · obtain ⟨Z, h1, h2, h3⟩ := sy_enX_ok n r' hr k hk1
        exact ⟨Z, h1, by show min _ _ ≤ _; omega, by show _ ≤ max _ _; omega⟩
    · cases h
def sy_tot (i : Instr) : Bool := match i with
  | .iadd | .isub | .imul | .iand | .ior | .ixor | .ishl | .ishr | .iushr => true
  | _ => false
theorem sy_tot_ok {i : Instr} (h : sy_tot i = true) (X Y : Int32) : ∃ Z, px_bin i X Y = some Z := by
  unfold sy_tot at h
  split at h <;> first | exact ⟨_, rfl⟩ | cases h
/-- a range for what two ints give -/
def sy_bn (R : sy_T) (i : Instr) (x y : sy_L) : Option (Int × Int) := match sy_b R x, sy_b R y with
  | some a, some b => if sy_fit a = true ∧ sy_fit b = true then
      (if a.1 = a.2 ∧ b.2 - b.1 ≤ 200 then sy_enY i (Int32.ofInt a.1) b.1 (b.2 - b.1).toNat
      else if b.1 = b.2 ∧ a.2 - a.1 ≤ 200 then sy_enX i (Int32.ofInt b.1) a.1 (a.2 - a.1).toNat
      else sy_rl i a b)
    else if sy_tot i = true then some sy_full else none
  | _, _ => if sy_tot i = true then some sy_full else none
theorem sy_bn_ok {ρ : Nat → Int} {R : sy_T} (h : sy_ok ρ R) {i : Instr} {x y : sy_L} {r : Int × Int} (hr : sy_bn R i x y = some r) : ∃ Z, px_bin i (Int32.ofInt (sy_e ρ x)) (Int32.ofInt (sy_e ρ y)) = some Z ∧ r.1 ≤ Z.toInt ∧ Z.toInt ≤ r.2 := by
  have tot : sy_tot i = true → r = sy_full → ∃ Z, px_bin i (Int32.ofInt (sy_e ρ x)) (Int32.ofInt (sy_e ρ y)) = some Z ∧ r.1 ≤ Z.toInt ∧ Z.toInt ≤ r.2 := fun ht e => by
    obtain ⟨Z, hZ⟩ := sy_tot_ok ht (Int32.ofInt (sy_e ρ x)) (Int32.ofInt (sy_e ρ y))
    subst e
    exact ⟨Z, hZ, sy_full_in Z⟩
  unfold sy_bn at hr
  split at hr
  · rename_i a b ha hb
    obtain ⟨a1, a2⟩ := sy_b_e h ha
    obtain ⟨b1, b2⟩ := sy_b_e h hb
    split at hr
    · rename_i hf
      have ex := sy_fit_e hf.1 a1 a2
      have ey := sy_fit_e hf.2 b1 b2
      split at hr
      · rename_i hc
        obtain ⟨Z, h1, h2⟩ := sy_enY_ok _ _ hr (sy_e ρ y - b.1).toNat (by omega)
        rw [show b.1 + (((sy_e ρ y - b.1).toNat : Nat) : Int) = sy_e ρ y by omega, show a.1 = sy_e ρ x by omega] at h1
        exact ⟨Z, h1, h2⟩
      · split at hr
        · rename_i hc
          obtain ⟨Z, h1, h2⟩ := sy_enX_ok _ _ hr (sy_e ρ x - a.1).toNat (by omega)
          rw [show a.1 + (((sy_e ρ x - a.1).toNat : Nat) : Int) = sy_e ρ x by omega, show b.1 = sy_e ρ y by omega] at h1
          exact ⟨Z, h1, h2⟩
        · exact sy_rl_ok hr (by omega) (by omega)
    · split at hr
      · rename_i ht
        exact tot ht (Option.some.inj hr).symm
      · cases hr
  · split at hr
    · rename_i ht
      exact tot ht (Option.some.inj hr).symm
    · cases hr
section BN
variable {x : sy_X} {q : sy_Q} {S : sy_S} {M : px_M} {i : Instr}
theorem sy_goBin {a b : sy_L} {r : List sy_A} {rg : Int × Int} (hw : sy_wS S = true) (hM : q.1[S.2.1.1]? = some M) (hq : px_look M.2.1 S.2.1.2.1 = some (i, 1)) (h1 : px_so1 i = 1) (hst : S.2.1.2.2.2 = .inl b :: .inl a :: r) (hr : sy_bn S.1.1 i a b = some rg)
    (hG : sy_Good x q (sy_at S (sy_new S.1 rg) (S.2.1.2.1 + 1) S.2.1.2.2.1 (.inl (sy_x S.1.1.length) :: r))) : sy_Good x q S := by
  refine sy_goF (pre := [.inl b, .inl a]) hw hM hst (fun ρ τ w lc cf d hm _ => ?_) hG
  obtain ⟨Z, h2, h3, h4⟩ := sy_bn_ok hm.2.1 hr
  refine (fun hs : px_s1 i 1 S.2.1.2.1 M.1.2.2.1 lc (S.2.1.2.2.2.map (sy_v ρ τ)) = some (S.2.1.2.1 + 1, lc, .int Z :: r.map (sy_v ρ τ)) => ⟨Z, h3, h4, px_step_1 hq hs⟩) ?_
  refine px_s1_1 h1 ?_
  rw [hst]
  show (if 1 = 1 then (px_bin i (Int32.ofInt (sy_e ρ a)) (Int32.ofInt (sy_e ρ b))).map _ else none) = _
  rw [if_pos rfl, h2]
  rfl
/-- narrowing and widening: 1 to a byte, 2 to a short, 3 to a char, 4 to a long; of a long 5 to an int -/
theorem sy_ch0 {z : UInt32} (h : z.toNat < 65536) : 0 ≤ z.toInt32.toInt ∧ z.toInt32.toInt ≤ 65535 := by
  have h1 : z.toInt32.toInt = z.toBitVec.toInt := rfl
  rw [BitVec.toInt_eq_toNat_cond] at h1
  have hn : z.toBitVec.toNat = z.toNat := rfl
  rw [hn] at h1
  split at h1 <;> omega
theorem sy_ch1 {x : Int32} (h0 : 0 ≤ x.toInt) (h1 : x.toInt ≤ 65535) : x.toUInt32.toUInt16.toUInt32.toInt32 = x := by
  have h2 : x.toInt = x.toUInt32.toBitVec.toInt := rfl
  rw [BitVec.toInt_eq_toNat_cond] at h2
  have hn : x.toUInt32.toBitVec.toNat = x.toUInt32.toNat := rfl
  rw [hn] at h2
  have h3 := x.toUInt32.toNat_lt
  have h4 : x.toUInt32.toNat < 65536 := by split at h2 <;> omega
  have h5 : x.toUInt32.toUInt16.toUInt32 = x.toUInt32 := by
    apply UInt32.toNat_inj.mp
    rw [UInt16.toNat_toUInt32, UInt32.toNat_toUInt16]
    exact Nat.mod_eq_of_lt h4
  rw [h5]
  rfl
def sy_u (i : Instr) (a : sy_A) : Option (Int × Int) := match i, a with
  | .i2b, .inl _ => some (-128, 127)
  | .i2s, .inl _ => some (-32768, 32767)
  | .i2c, .inl _ => some (0, 65535)
  | .l2i, .inr (.inr _) => some sy_full
  | _, _ => none
theorem sy_u_ok {ρ : Nat → Int} {τ : Nat → Int64} {i : Instr} {a : sy_A} {r : Int × Int} (h : sy_u i a = some r) : px_so1 i = 8 ∧ ∃ Z : Int32, px_un i (sy_v ρ τ a) = some (.int Z) ∧ r.1 ≤ Z.toInt ∧ Z.toInt ≤ r.2 := by
  unfold sy_u at h
  split at h
  · rename_i e
    cases h
    refine ⟨rfl, _, rfl, ?_, ?_⟩
    · rw [Int8.toInt_toInt32]
      have := Int8.le_toInt (Int32.ofInt (sy_e ρ e)).toInt8
      show (-128 : Int) ≤ _
      omega
    · rw [Int8.toInt_toInt32]
      have := Int8.toInt_lt (Int32.ofInt (sy_e ρ e)).toInt8
      show _ ≤ (127 : Int)
      omega
  · rename_i e
    cases h
    refine ⟨rfl, _, rfl, ?_, ?_⟩
    · rw [Int16.toInt_toInt32]
      have := Int16.le_toInt (Int32.ofInt (sy_e ρ e)).toInt16
      show (-32768 : Int) ≤ _
      omega
    · rw [Int16.toInt_toInt32]
      have := Int16.toInt_lt (Int32.ofInt (sy_e ρ e)).toInt16
      show _ ≤ (32767 : Int)
      omega
  · rename_i e
    cases h
    refine ⟨rfl, _, rfl, sy_ch0 ?_⟩
    rw [UInt32.toNat_mod]
    exact Nat.mod_lt _ (by decide)
  · cases h
    exact ⟨rfl, _, rfl, sy_full_in _⟩
  · cases h
theorem sy_goU {a : sy_A} {r : List sy_A} {rg : Int × Int} (hw : sy_wS S = true) (hM : q.1[S.2.1.1]? = some M) (hq : px_look M.2.1 S.2.1.2.1 = some (i, 1)) (hst : S.2.1.2.2.2 = a :: r) (hr : sy_u i a = some rg)
    (hG : sy_Good x q (sy_at S (sy_new S.1 rg) (S.2.1.2.1 + 1) S.2.1.2.2.1 (.inl (sy_x S.1.1.length) :: r))) : sy_Good x q S := by
  refine sy_goF (pre := [a]) hw hM hst (fun ρ τ w lc cf d hm _ => ?_) hG
  obtain ⟨h8, Z, h2, h3, h4⟩ := sy_u_ok (ρ := ρ) (τ := τ) hr
  refine (fun hs : px_s1 i 1 S.2.1.2.1 M.1.2.2.1 lc (S.2.1.2.2.2.map (sy_v ρ τ)) = some (S.2.1.2.1 + 1, lc, .int Z :: r.map (sy_v ρ τ)) => ⟨Z, h3, h4, px_step_1 hq hs⟩) ?_
  refine px_s1_8 h8 ?_
  rw [hst]
  show (if 1 = 1 then (px_un i (sy_v ρ τ a)).map _ else none) = _
  rw [if_pos rfl, h2]
  rfl
/-- what gives a long: 1 taken from the stack, or 2 -/
def sy_ul (i : Instr) (st : List sy_A) : Option (List sy_A × List sy_A) := match i, st with
  | .lconst _, r => some ([], r)
  | .i2l, .inl a :: r => some ([.inl a], r)
  | .land, .inr (.inr b) :: .inr (.inr a) :: r => some ([.inr (.inr b), .inr (.inr a)], r)
  | .lor, .inr (.inr b) :: .inr (.inr a) :: r => some ([.inr (.inr b), .inr (.inr a)], r)
  | .lshl, .inl b :: .inr (.inr a) :: r => some ([.inl b, .inr (.inr a)], r)
  | .lshr, .inl b :: .inr (.inr a) :: r => some ([.inl b, .inr (.inr a)], r)
  | _, _ => none
theorem sy_ul_ok {ρ : Nat → Int} {τ : Nat → Int64} {i : Instr} {st : List sy_A} {z : List sy_A × List sy_A} {pc mx : Nat} {lc : List (Nat × Value)} (h : sy_ul i st = some z) : st = z.1 ++ z.2 ∧ ∃ Z : Int64, px_s1 i 1 pc mx lc (st.map (sy_v ρ τ)) = some (pc + 1, lc, .long Z :: z.2.map (sy_v ρ τ)) := by
  unfold sy_ul at h
  split at h
  · cases h
    exact ⟨rfl, _, px_s1_3 rfl rfl⟩
  · cases h
    exact ⟨rfl, _, px_s1_8 rfl rfl⟩
  · cases h
    exact ⟨rfl, _, px_s1_9 rfl rfl⟩
  · cases h
    exact ⟨rfl, _, px_s1_9 rfl rfl⟩
  · cases h
    exact ⟨rfl, _, px_s1_9 rfl rfl⟩
  · cases h
    exact ⟨rfl, _, px_s1_9 rfl rfl⟩
  · cases h
theorem sy_goUL {z : List sy_A × List sy_A} (hw : sy_wS S = true) (hM : q.1[S.2.1.1]? = some M) (hq : px_look M.2.1 S.2.1.2.1 = some (i, 1)) (hz : sy_ul i S.2.1.2.2.2 = some z)
    (hG : sy_Good x q (sy_at S (S.1.1, S.1.2.1 + 1, S.1.2.2) (S.2.1.2.1 + 1) S.2.1.2.2.1 (.inr (.inr S.1.2.1) :: z.2))) : sy_Good x q S := by
  refine sy_goFL (pre := z.1) hw hM (sy_ul_ok (ρ := fun _ => 0) (τ := fun _ => 0) (pc := 0) (mx := 0) (lc := []) hz).1 (fun ρ τ w lc cf d hm _ => ?_) hG
  obtain ⟨-, Z, h⟩ := sy_ul_ok (ρ := ρ) (τ := τ) (pc := S.2.1.2.1) (mx := M.1.2.2.1) (lc := lc) hz
  exact ⟨Z, px_step_1 hq h⟩
end BN

end
