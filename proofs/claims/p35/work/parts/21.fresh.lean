noncomputable section
/-! STEPS THAT GIVE A NEW NUMBER -/
section FR
variable {x : sy_X} {q : sy_Q} {S : sy_S} {M : px_M} {i : Instr} {len : Nat}
theorem sy_goF {rg : Int × Int} {pc' : Nat} {pre r : List sy_A} (hw : sy_wS S = true) (hM : q.1[S.2.1.1]? = some M) (hst : S.2.1.2.2.2 = pre ++ r)
    (hs : ∀ (ρ : Nat → Int) (τ : Nat → Int64) (w : px_W) (lc : List (Nat × Value)) (cf : List pf_F) (d : Nat), sy_mem q S.1 ρ τ w → d + cf.length = x.2.2.2.2.2.2 → ∃ Z : Int32, rg.1 ≤ Z.toInt ∧ Z.toInt ≤ rg.2 ∧ px_step x.1 x.2.1 x.2.2.1 d (pf_scr x.2.2.2.1 cf) M S.2.1.2.1 lc (S.2.1.2.2.2.map (sy_v ρ τ)) w = some (.inl (pc', lc, .int Z :: r.map (sy_v ρ τ), w, 0, 0)))
    (hG : sy_Good x q (sy_at S (sy_new S.1 rg) pc' S.2.1.2.2.1 (.inl (sy_x S.1.1.length) :: r))) : sy_Good x q S := by
  refine sy_open (fun ρ τ w lc cf d hm hl hf hd => ?_) hM
  obtain ⟨Z, h1, h2, h3⟩ := hs ρ τ w lc cf d hm hd
  obtain ⟨ρ', e1, e2, hm', ⟨f1, f2, f3, f4⟩, hf'⟩ := sy_fresh (c := (M, S.2.1.2.1, lc, S.2.1.2.2.2.map (sy_v ρ τ))) hw ⟨hm, ⟨hM, rfl, hl, rfl⟩, hf⟩ h1 h2
  refine pf_next h3 ?_
  have f4' : S.2.1.2.2.2.map (sy_v ρ τ) = S.2.1.2.2.2.map (sy_v ρ' τ) := f4
  rw [hst, List.map_append, List.map_append] at f4'
  have hr := (List.append_inj' f4' (by rw [List.length_map, List.length_map])).2
  have hu := sy_use hG hM hm' f3 hf' hd
  have e3 : (.inl (sy_x S.1.1.length) :: r : List sy_A).map (sy_v ρ' τ) = .int Z :: r.map (sy_v ρ τ) := by
    show Value.int (Int32.ofInt (sy_e ρ' (sy_x S.1.1.length))) :: r.map (sy_v ρ' τ) = _
    rw [sy_x_e, e2, Int32.ofInt_toInt, hr]
  rw [e3] at hu
  exact hu
theorem sy_goFL {pc' : Nat} {pre r : List sy_A} (hw : sy_wS S = true) (hM : q.1[S.2.1.1]? = some M) (hst : S.2.1.2.2.2 = pre ++ r)
    (hs : ∀ (ρ : Nat → Int) (τ : Nat → Int64) (w : px_W) (lc : List (Nat × Value)) (cf : List pf_F) (d : Nat), sy_mem q S.1 ρ τ w → d + cf.length = x.2.2.2.2.2.2 → ∃ Z : Int64, px_step x.1 x.2.1 x.2.2.1 d (pf_scr x.2.2.2.1 cf) M S.2.1.2.1 lc (S.2.1.2.2.2.map (sy_v ρ τ)) w = some (.inl (pc', lc, .long Z :: r.map (sy_v ρ τ), w, 0, 0)))
    (hG : sy_Good x q (sy_at S (S.1.1, S.1.2.1 + 1, S.1.2.2) pc' S.2.1.2.2.1 (.inr (.inr S.1.2.1) :: r))) : sy_Good x q S := by
  refine sy_open (fun ρ τ w lc cf d hm hl hf hd => ?_) hM
  obtain ⟨Z, h3⟩ := hs ρ τ w lc cf d hm hd
  obtain ⟨τ', e2, -, hm', ⟨f1, f2, f3, f4⟩, hf'⟩ := sy_freshL (c := (M, S.2.1.2.1, lc, S.2.1.2.2.2.map (sy_v ρ τ))) hw ⟨hm, ⟨hM, rfl, hl, rfl⟩, hf⟩ Z
  refine pf_next h3 ?_
  have f4' : S.2.1.2.2.2.map (sy_v ρ τ) = S.2.1.2.2.2.map (sy_v ρ τ') := f4
  rw [hst, List.map_append, List.map_append] at f4'
  have hr := (List.append_inj' f4' (by rw [List.length_map, List.length_map])).2
  have hu := sy_use hG hM hm' f3 hf' hd
  have e3 : (.inr (.inr S.1.2.1) :: r : List sy_A).map (sy_v ρ τ') = .long Z :: r.map (sy_v ρ τ) := by
    show Value.long (τ' S.1.2.1) :: r.map (sy_v ρ τ') = _
    rw [e2, hr]
  rw [e3] at hu
  exact hu
end FR
/-! forms with known symbols put in -/
def sy_nml (R : sy_T) (l : List (Nat × Int)) : sy_L := List.rec (motive := fun _ => sy_L) (0, []) (fun t _ ih => Option.rec (motive := fun _ => sy_L) (ih.1, t :: ih.2) (fun p => cond (qi_eq p.1 p.2) (qi_add ih.1 (qi_mul t.2 p.1), ih.2) (ih.1, t :: ih.2)) (qx_nth R t.1)) l
def sy_nm (R : sy_T) (e : sy_L) : sy_L := (qi_add e.1 (sy_nml R e.2).1, (sy_nml R e.2).2)
theorem sy_nml_e {ρ : Nat → Int} {R : sy_T} (h : sy_ok ρ R) : ∀ l : List (Nat × Int), sy_e ρ (sy_nml R l) = sy_s ρ l
  | [] => by simp [sy_nml, sy_e, sy_s]
  | t :: r => by
    have ih := sy_nml_e h r
    unfold sy_e at ih
    have keep : sy_e ρ ((sy_nml R r).1, t :: (sy_nml R r).2) = sy_s ρ (t :: r) := by
      show (sy_nml R r).1 + (t.2 * ρ t.1 + sy_s ρ (sy_nml R r).2) = t.2 * ρ t.1 + sy_s ρ r
      rw [← ih]
      omega
    show sy_e ρ (Option.rec (motive := fun _ => sy_L) ((sy_nml R r).1, t :: (sy_nml R r).2) (fun p => cond (qi_eq p.1 p.2) (qi_add (sy_nml R r).1 (qi_mul t.2 p.1), (sy_nml R r).2) ((sy_nml R r).1, t :: (sy_nml R r).2)) (qx_nth R t.1)) = _
    cases hp : qx_nth R t.1 with
    | none => exact keep
    | some p =>
      show sy_e ρ (cond (qi_eq p.1 p.2) (qi_add (sy_nml R r).1 (qi_mul t.2 p.1), (sy_nml R r).2) ((sy_nml R r).1, t :: (sy_nml R r).2)) = _
      cases he : qi_eq p.1 p.2 with
      | false => exact keep
      | true =>
        rw [qx_nth_ok] at hp
        have h1 := h _ _ hp
        have h2 := qi_eq_e.mp he
        show qi_add (sy_nml R r).1 (qi_mul t.2 p.1) + sy_s ρ (sy_nml R r).2 = t.2 * ρ t.1 + sy_s ρ r
        have h3 : ρ t.1 = p.1 := by omega
        rw [qi_add_e, qi_mul_e, h3, ← ih]
        omega
theorem sy_nm_e {ρ : Nat → Int} {R : sy_T} (h : sy_ok ρ R) (e : sy_L) : sy_e ρ (sy_nm R e) = sy_e ρ e := by
  have := sy_nml_e h e.2
  unfold sy_e at this ⊢
  show qi_add e.1 (sy_nml R e.2).1 + sy_s ρ (sy_nml R e.2).2 = _
  rw [qi_add_e]
  omega
/-! what two ints give: a range -/
def sy_lim (p : Int) : Int := if p ≤ 1 then 1 else if p ≤ 3 then 3 else if p ≤ 7 then 7 else if p ≤ 15 then 15 else if p ≤ 31 then 31 else if p ≤ 63 then 63 else if p ≤ 127 then 127 else if p ≤ 255 then 255 else if p ≤ 511 then 511 else if p ≤ 1023 then 1023 else if p ≤ 2047 then 2047 else if p ≤ 4095 then 4095 else 2147483647
def sy_rl (i : Instr) (a b : Int × Int) : Option (Int × Int) := match i with
  | .iand => if 0 ≤ b.1 then some (0, b.2) else if 0 ≤ a.1 then some (0, a.2) else some sy_full
  | .ior => if 0 ≤ a.1 ∧ 0 ≤ b.1 then some (0, sy_lim (max a.2 b.2)) else some sy_full
  | .idiv => if 0 < b.1 ∨ b.2 < 0 then (if 0 < b.1 then some (if 0 ≤ a.1 then 0 else -((-a.1) / b.1), if 0 ≤ a.2 then a.2 / b.1 else 0) else some sy_full) else none
  | .irem => if 0 < b.1 ∨ b.2 < 0 then (if 0 ≤ a.1 ∧ 0 < b.1 then some (0, b.2 - 1) else some sy_full) else none
  | .imul | .ixor | .ishl | .ishr | .iushr => some sy_full
  | _ => none
theorem sy_full_in (z : Int32) : sy_full.1 ≤ z.toInt ∧ z.toInt ≤ sy_full.2 := sy_int_bounds z
theorem sy_nn {v : BitVec 32} (h : 0 ≤ v.toInt) : v.msb = false := by
  rw [BitVec.msb_eq_toInt]
  simp
  omega
theorem sy_and_r (a b : Int32) (h : 0 ≤ b.toInt) : 0 ≤ (a &&& b).toInt ∧ (a &&& b).toInt ≤ b.toInt := by
  have hb : b.toBitVec.msb = false := sy_nn h
  have hm : (a.toBitVec &&& b.toBitVec).msb = false := by rw [BitVec.msb_and, hb, Bool.and_false]
  have e1 : (a &&& b).toInt = ((a.toBitVec &&& b.toBitVec).toNat : Int) := BitVec.toInt_eq_toNat_of_msb hm
  have e2 : b.toInt = (b.toBitVec.toNat : Int) := BitVec.toInt_eq_toNat_of_msb hb
  rw [e1, e2, BitVec.toNat_and]
  have := Nat.and_le_right (n := a.toBitVec.toNat) (m := b.toBitVec.toNat)
  omega
theorem sy_and_l (a b : Int32) (h : 0 ≤ a.toInt) : 0 ≤ (a &&& b).toInt ∧ (a &&& b).toInt ≤ a.toInt := by
  rw [Int32.and_comm]
  exact sy_and_r b a h
theorem sy_or_b (a b : Int32) (ha : 0 ≤ a.toInt) (hb : 0 ≤ b.toInt) (n : Nat) (h1 : a.toInt < (2 ^ n : Nat)) (h2 : b.toInt < (2 ^ n : Nat)) : 0 ≤ (a ||| b).toInt ∧ (a ||| b).toInt < (2 ^ n : Nat) := by
  have ma : a.toBitVec.msb = false := sy_nn ha
  have mb : b.toBitVec.msb = false := sy_nn hb
  have hm : (a.toBitVec ||| b.toBitVec).msb = false := by rw [BitVec.msb_or, ma, mb]; rfl
  have e1 : (a ||| b).toInt = ((a.toBitVec ||| b.toBitVec).toNat : Int) := BitVec.toInt_eq_toNat_of_msb hm
  have e2 : b.toInt = (b.toBitVec.toNat : Int) := BitVec.toInt_eq_toNat_of_msb mb
  have e3 : a.toInt = (a.toBitVec.toNat : Int) := BitVec.toInt_eq_toNat_of_msb ma
  rw [e1, BitVec.toNat_or]
  have := Nat.or_lt_two_pow (x := a.toBitVec.toNat) (y := b.toBitVec.toNat) (n := n) (by omega) (by omega)
  omega
theorem sy_or_lim (a b : Int32) (ha : 0 ≤ a.toInt) (hb : 0 ≤ b.toInt) (p : Int) (h1 : a.toInt ≤ p) (h2 : b.toInt ≤ p) : 0 ≤ (a ||| b).toInt ∧ (a ||| b).toInt ≤ sy_lim p := by
  have key : ∀ n : Nat, p < (2 ^ n : Nat) → 0 ≤ (a ||| b).toInt ∧ (a ||| b).toInt < (2 ^ n : Nat) := fun n h => sy_or_b a b ha hb n (by omega) (by omega)
  have hb2 := sy_int_bounds (a ||| b)
  unfold sy_lim
  split
  · have := key 1 (by omega); omega
  split
  · have := key 2 (by omega); omega
  split
  · have := key 3 (by omega); omega
  split
  · have := key 4 (by omega); omega
  split
  · have := key 5 (by omega); omega
  split
  · have := key 6 (by omega); omega
  split
  · have := key 7 (by omega); omega
  split
  · have := key 8 (by omega); omega
  split
  · have := key 9 (by omega); omega
  split
  · have := key 10 (by omega); omega
  split
  · have := key 11 (by omega); omega
  split
  · have := key 12 (by omega); omega
  · refine ⟨?_, by omega⟩
    have ma : a.toBitVec.msb = false := sy_nn ha
    have mb : b.toBitVec.msb = false := sy_nn hb
    have hm : (a.toBitVec ||| b.toBitVec).msb = false := by rw [BitVec.msb_or, ma, mb]; rfl
    have e1 : (a ||| b).toInt = ((a.toBitVec ||| b.toBitVec).toNat : Int) := BitVec.toInt_eq_toNat_of_msb hm
    omega

end
