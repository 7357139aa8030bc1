noncomputable section
/-! A NEW NUMBER WITH WHAT IT TELLS -/
theorem sy_sh31 : ∀ y : Fin 31, ((Int32.ofInt (y.val : Int) &&& 31).toBitVec.smod 32).toNat = y.val := by decide
theorem sy_sh {X : Int32} {z : Int} (h0 : 0 ≤ z) (h1 : z ≤ 30) : (X >>> (Int32.ofInt z &&& 31)).toInt = X.toInt / ((2 ^ z.toNat : Nat) : Int) := by
  have h2 := sy_sh31 ⟨z.toNat, by omega⟩
  dsimp only at h2
  rw [show ((z.toNat : Nat) : Int) = z by omega] at h2
  have h3 : (X >>> (Int32.ofInt z &&& 31)).toInt = (X.toBitVec.sshiftRight ((Int32.ofInt z &&& 31).toBitVec.smod 32).toNat).toInt := rfl
  rw [h3, h2, BitVec.toInt_sshiftRight, Int.shiftRight_eq_div_pow]
  rfl
theorem sy_sh2 {X q : Int} {a b : Nat} (h : q = X / ((2 ^ a : Nat) : Int)) (hX : 0 ≤ X) (hab : a ≤ b) : 0 ≤ q ∧ q ≤ X ∧ 0 ≤ ((2 ^ b : Nat) : Int) * q + (((2 ^ b : Nat) : Int) - 1) - X := by
  have hp : 0 < 2 ^ a := Nat.pow_pos (by omega)
  have hp2 : (2 ^ a : Nat) ≤ 2 ^ b := Nat.pow_le_pow_right (by omega) hab
  have hq : 0 ≤ q := by rw [h]; exact Int.ediv_nonneg hX (by omega)
  have h1 : X < ((2 ^ a : Nat) : Int) * (q + 1) := by
    rw [h]
    have := Int.lt_mul_ediv_self_add (x := X) (k := ((2 ^ a : Nat) : Int)) (by omega)
    rw [Int.mul_add, Int.mul_one]
    exact this
  have h2 : ((2 ^ a : Nat) : Int) * (q + 1) ≤ ((2 ^ b : Nat) : Int) * (q + 1) := Int.mul_le_mul_of_nonneg_right (by omega) (by omega)
  have h3 : q ≤ X := by
    rw [h]
    exact Int.ediv_le_self _ hX
  have h4 : ((2 ^ b : Nat) : Int) * (q + 1) = ((2 ^ b : Nat) : Int) * q + ((2 ^ b : Nat) : Int) := by rw [Int.mul_add, Int.mul_one]
  rw [h4] at h2
  generalize ((2 ^ b : Nat) : Int) * q = B at *
  generalize ((2 ^ a : Nat) : Int) * (q + 1) = C at *
  generalize ((2 ^ b : Nat) : Int) = E at *
  omega
def sy_oc (i : Instr) : Nat := match i with
  | .ishr => 1
  | .iand => 2
  | .iushr => 3
  | .idiv => 5
  | .irem => 6
  | _ => 0
section RE
variable {x : sy_X} {q : sy_Q} {S : sy_S} {M : px_M} {i : Instr} {len : Nat} {l : List sy_S}
theorem sy_goFc {rg : Int × Int} {pc' : Nat} {pre r : List sy_A} {cs : List sy_L} (hw : sy_wS S = true) (hM : q.1[S.2.1.1]? = some M) (hst : S.2.1.2.2.2 = pre ++ r)
    (hs : ∀ (ρ : Nat → Int) (τ : Nat → Int64) (w : px_W) (lc : List (Nat × Value)) (cf : List pf_F) (d : Nat), sy_mem q S.1 ρ τ w → d + cf.length = x.2.2.2.2.2.2 → ∃ Z : Int32, rg.1 ≤ Z.toInt ∧ Z.toInt ≤ rg.2 ∧ (∀ ρ' : Nat → Int, (∀ i, i < S.1.1.length → ρ' i = ρ i) → ρ' S.1.1.length = Z.toInt → sy_cok ρ' cs) ∧ px_step x.1 x.2.1 x.2.2.1 d (pf_scr x.2.2.2.1 cf) M S.2.1.2.1 lc (S.2.1.2.2.2.map (sy_v ρ τ)) w = some (.inl (pc', lc, .int Z :: r.map (sy_v ρ τ), w, 0, 0)))
    (hG : sy_Good x q (sy_at S (S.1.1 ++ [rg], S.1.2.1, cs ++ S.1.2.2.1, S.1.2.2.2) pc' S.2.1.2.2.1 (.inl (sy_x S.1.1.length) :: r))) : sy_Good x q S := by
  refine sy_open (fun ρ τ w lc cf d hm hl hf hd => ?_) hM
  obtain ⟨Z, h1, h2, h2a, h3⟩ := hs ρ τ w lc cf d hm hd
  obtain ⟨ρ', e1, e2, ⟨m1, m2, m3, m4⟩, ⟨f1, f2, f3, f4⟩, hf'⟩ := sy_fresh (c := (M, S.2.1.2.1, lc, S.2.1.2.2.2.map (sy_v ρ τ))) hw ⟨hm, ⟨hM, rfl, hl, rfl⟩, hf⟩ h1 h2
  refine pf_next h3 ?_
  have f4' : S.2.1.2.2.2.map (sy_v ρ τ) = S.2.1.2.2.2.map (sy_v ρ' τ) := f4
  rw [hst, List.map_append, List.map_append] at f4'
  have hr := (List.append_inj' f4' (by rw [List.length_map, List.length_map])).2
  have hm' : sy_mem q (S.1.1 ++ [rg], S.1.2.1, cs ++ S.1.2.2.1, S.1.2.2.2) ρ' τ w := ⟨m1, m2, fun z hz => by
    rcases List.mem_append.mp hz with hz | hz
    · exact h2a ρ' e1 e2 z hz
    · exact m3 z hz, m4⟩
  have hu := sy_use hG hM hm' f3 hf' hd
  have e3 : (.inl (sy_x S.1.1.length) :: r : List sy_A).map (sy_v ρ' τ) = .int Z :: r.map (sy_v ρ τ) := by
    show Value.int (Int32.ofInt (sy_e ρ' (sy_x S.1.1.length))) :: r.map (sy_v ρ' τ) = _
    rw [sy_x_e, e2, Int32.ofInt_toInt, hr]
  rw [e3] at hu
  exact hu
theorem sy_bstep {a b : sy_L} {r : List sy_A} {Z : Int32} {ρ : Nat → Int} {τ : Nat → Int64} {w : px_W} {lc : List (Nat × Value)} {scr : Option (List Int32)} {d : Nat} (hq : px_look M.2.1 S.2.1.2.1 = some (i, 1)) (h1 : px_so1 i = 1) (hst : S.2.1.2.2.2 = .inl b :: .inl a :: r) (h2 : px_bin i (Int32.ofInt (sy_e ρ a)) (Int32.ofInt (sy_e ρ b)) = some Z) : px_step x.1 x.2.1 x.2.2.1 d scr M S.2.1.2.1 lc (S.2.1.2.2.2.map (sy_v ρ τ)) w = some (.inl (S.2.1.2.1 + 1, lc, .int Z :: r.map (sy_v ρ τ), w, 0, 0)) := by
  refine (fun hs : px_s1 i 1 S.2.1.2.1 M.1.2.2.1 lc (S.2.1.2.2.2.map (sy_v ρ τ)) = some (S.2.1.2.1 + 1, lc, .int Z :: r.map (sy_v ρ τ)) => px_step_1 hq hs) ?_
  refine px_s1_1 h1 ?_
  rw [hst]
  show (if 1 = 1 then (px_bin i (Int32.ofInt (sy_e ρ a)) (Int32.ofInt (sy_e ρ b))).map _ else none) = _
  rw [if_pos rfl, h2]
  rfl
theorem sy_wst {e : sy_L} (hw : sy_wS S = true) (he : .inl e ∈ S.2.1.2.2.2) : sy_wl S.1.1.length e = true := by
  rw [sy_wS_eq] at hw
  unfold sy_wS0 sy_wf at hw
  simp only [Bool.and_eq_true] at hw
  exact List.all_eq_true.mp hw.2.1.2 (.inl e) he
/-- a half -/
def sy_n1 (i : Instr) (len : Nat) (S : sy_S) : Option (List sy_S) := match i, S.2.1.2.2.2 with
  | .idiv, .inl b :: .inl a :: r => if len = 1 ∧ sy_wS S = true ∧ b = sy_c 2 ∧ a.2.isEmpty = false then (match sy_b S.1.1 a, sy_bn S.1.1 .idiv a b with
    | some p, some rg => if sy_fit p = true ∧ 0 ≤ p.1 then some [sy_at S (S.1.1 ++ [rg], S.1.2.1, [sy_sub a (sy_scl 2 (sy_x S.1.1.length)), sy_add (sy_sub (sy_scl 2 (sy_x S.1.1.length)) a) (sy_c 1)] ++ S.1.2.2.1, S.1.2.2.2) (S.2.1.2.1 + 1) S.2.1.2.2.1 (.inl (sy_x S.1.1.length) :: r)] else none
    | _, _ => none) else none
  | _, _ => none
theorem sy_n1_ok (hM : q.1[S.2.1.1]? = some M) (hq : px_look M.2.1 S.2.1.2.1 = some (i, len)) (h : sy_n1 i len S = some l) : sy_S1 x q S l := by
  intro hG
  unfold sy_n1 at h
  split at h
  · rename_i b a r hst
    split at h
    · rename_i hc
      obtain ⟨c1, c2, c3, c4⟩ := hc
      subst c1
      split at h
      · rename_i p rg hp hrg
        split at h
        · rename_i hc
          cases h
          refine sy_goFc (pre := [.inl b, .inl a]) c2 hM hst (fun ρ τ w lc cf d hm _ => ?_) (hG _ List.mem_cons_self)
          obtain ⟨Z, z1, z2, z3⟩ := sy_bn_ok hm.2.1 hrg
          have hwa := sy_wst (S := S) (e := a) c2 (by rw [hst]; exact List.mem_cons_of_mem _ List.mem_cons_self)
          obtain ⟨p1, p2⟩ := sy_b_e hm.2.1 hp
          have ex := sy_fit_e hc.1 p1 p2
          refine ⟨Z, z2, z3, fun ρ' a1 a2 => ?_, sy_bstep hq rfl hst z1⟩
          have he := sy_ext_l a1 hwa
          subst c3
          rw [sy_c_e] at z1
          have hz : Z = Int32.ofInt (sy_e ρ a) / Int32.ofInt 2 := by
            have hne : ¬ Int32.ofInt 2 = 0 := by decide
            have : px_bin .idiv (Int32.ofInt (sy_e ρ a)) (Int32.ofInt 2) = some (Int32.ofInt (sy_e ρ a) / Int32.ofInt 2) := by
              show (if Int32.ofInt 2 = 0 then (none : Option Int32) else some (Int32.ofInt (sy_e ρ a) / Int32.ofInt 2)) = _
              rw [if_neg hne]
            rw [this] at z1
            exact (Option.some.inj z1).symm
          have hd2 := Int32.toInt_div_of_ne_right (Int32.ofInt (sy_e ρ a)) (Int32.ofInt 2) (by decide)
          rw [← hz, ex, show (Int32.ofInt 2).toInt = 2 by decide, Int.tdiv_eq_ediv_of_nonneg (by omega)] at hd2
          intro z hz2
          rcases List.mem_cons.mp hz2 with rfl | hz2
          · rw [sy_sub_e, sy_scl_e, sy_x_e, a2, he]; omega
          · rw [List.mem_singleton.mp hz2, sy_add_e, sy_sub_e, sy_scl_e, sy_x_e, sy_c_e, a2, he]; omega
        · cases h
      · cases h
    · cases h
  · cases h
/-- a shift to the right -/
def sy_n2 (i : Instr) (len : Nat) (S : sy_S) : Option (List sy_S) := if sy_pt S.2.1.1 S.2.1.2.1 = 3 then (match i, S.2.1.2.2.2 with
  | .ishr, .inl b :: .inl a :: r => if len = 1 ∧ sy_wS S = true then (match sy_b S.1.1 a, sy_b S.1.1 b with
    | some p, some s => if sy_fit p = true ∧ 0 ≤ p.1 ∧ 0 ≤ s.1 ∧ s.2 ≤ 30 then some [sy_at S (S.1.1 ++ [(0, p.2)], S.1.2.1, [sy_sub (sy_add (sy_scl ((2 ^ s.2.toNat : Nat) : Int) (sy_x S.1.1.length)) (sy_c (((2 ^ s.2.toNat : Nat) : Int) - 1))) a] ++ S.1.2.2.1, S.1.2.2.2) (S.2.1.2.1 + 1) S.2.1.2.2.1 (.inl (sy_x S.1.1.length) :: r)] else none
    | _, _ => none) else none
  | _, _ => none) else none
theorem sy_n2_ok (hM : q.1[S.2.1.1]? = some M) (hq : px_look M.2.1 S.2.1.2.1 = some (i, len)) (h : sy_n2 i len S = some l) : sy_S1 x q S l := by
  intro hG
  unfold sy_n2 at h
  split at h
  · split at h
    · rename_i b a r hst
      split at h
      · rename_i hc
        obtain ⟨c1, c2⟩ := hc
        subst c1
        split at h
        · rename_i p s hp hs
          split at h
          · rename_i hc
            obtain ⟨d1, d2, d3, d4⟩ := hc
            cases h
            refine sy_goFc (pre := [.inl b, .inl a]) c2 hM hst (fun ρ τ w lc cf d hm _ => ?_) (hG _ List.mem_cons_self)
            have hwa := sy_wst (S := S) (e := a) c2 (by rw [hst]; exact List.mem_cons_of_mem _ List.mem_cons_self)
            obtain ⟨p1, p2⟩ := sy_b_e hm.2.1 hp
            obtain ⟨s1, s2⟩ := sy_b_e hm.2.1 hs
            have ex := sy_fit_e d1 p1 p2
            have hz := sy_sh (X := Int32.ofInt (sy_e ρ a)) (z := sy_e ρ b) (by omega) (by omega)
            rw [ex] at hz
            obtain ⟨k1, k2, k3⟩ := sy_sh2 (b := s.2.toNat) hz (by omega) (by omega)
            refine ⟨_, k1, by show _ ≤ p.2; omega, fun ρ' a1 a2 => ?_, sy_bstep hq rfl hst rfl⟩
            have he := sy_ext_l a1 hwa
            intro z hz2
            rw [List.mem_singleton.mp hz2, sy_sub_e, sy_add_e, sy_scl_e, sy_x_e, sy_c_e, a2, he]
            exact k3
          · cases h
        · cases h
      · cases h
    · cases h
  · cases h
/-- the same number and constant as before -/
def sy_n3 (A : List sy_Ce) (i : Instr) (len : Nat) (S : sy_S) : Option (List sy_S) := if sy_mm S.2.1.1 = true ∧ 1 ≤ sy_oc i then (match S.2.1.2.2.2 with
  | .inl b :: .inl a :: r => if len = 1 ∧ sy_wS S = true ∧ px_so1 i = 1 ∧ b.2.isEmpty = true ∧ a.2.isEmpty = false ∧ -2147483648 ≤ b.1 ∧ b.1 ≤ 2147483647 ∧ A.length ≤ 8589934592 then (match sy_b S.1.1 a, sy_bn S.1.1 i a b with
    | some p, some rg => if sy_fit p = true ∧ sy_wl S.1.1.length (sy_add a (sy_c 2147483648)) = true then (match S.1.2.2.2.find? (fun f => f.1 == sy_oc i * 8589934592 + (b.1 + 2147483648).toNat && sy_eq S.1.1 f.2.1 (sy_add a (sy_c 2147483648))) with
      | some (_, _, .inl e) => some [sy_at S S.1 (S.2.1.2.1 + 1) S.2.1.2.2.1 (.inl e :: r)]
      | _ => some [sy_at S (S.1.1 ++ [rg], S.1.2.1, S.1.2.2.1, (sy_oc i * 8589934592 + (b.1 + 2147483648).toNat, sy_add a (sy_c 2147483648), .inl (sy_x S.1.1.length)) :: S.1.2.2.2) (S.2.1.2.1 + 1) S.2.1.2.2.1 (.inl (sy_x S.1.1.length) :: r)]) else none
    | _, _ => none) else none
  | _ => none) else none
theorem sy_px_ok {i : Instr} {z c : Int} {Z : Int32} (ho : 1 ≤ sy_oc i) (hz : -2147483648 ≤ z ∧ z ≤ 2147483647) (hc : -2147483648 ≤ c ∧ c ≤ 2147483647) (h : px_bin i (Int32.ofInt z) (Int32.ofInt c) = some Z) : sy_px (sy_oc i * 8589934592 + (c + 2147483648).toNat) (z + 2147483648).toNat = some (.int Z) := by
  have e1 : (((z + 2147483648).toNat : Nat) : Int) - 2147483648 = z := by omega
  have e2 : ∀ n : Nat, (n * 8589934592 + (c + 2147483648).toNat) / 8589934592 = n := fun n => by omega
  have e3 : ∀ n : Nat, (((n * 8589934592 + (c + 2147483648).toNat) % 8589934592 : Nat) : Int) - 2147483648 = c := fun n => by omega
  unfold sy_px
  rw [e2, e3, e1]
  unfold sy_oc at *
  split at ho
  · show (px_bin .ishr _ _).map Value.int = _
    rw [h]; rfl
  · show (px_bin .iand _ _).map Value.int = _
    rw [h]; rfl
  · show (px_bin .iushr _ _).map Value.int = _
    rw [h]; rfl
  · show (px_bin .idiv _ _).map Value.int = _
    rw [h]; rfl
  · show (px_bin .irem _ _).map Value.int = _
    rw [h]; rfl
  · omega
theorem sy_n3_ok (hM : q.1[S.2.1.1]? = some M) (hq : px_look M.2.1 S.2.1.2.1 = some (i, len)) (h : sy_n3 q.2.1 i len S = some l) : sy_S1 x q S l := by
  intro hG
  unfold sy_n3 at h
  split at h
  · rename_i ho
    obtain ⟨-, ho⟩ := ho
    split at h
    · rename_i b a r hst
      split at h
      · rename_i hc
        obtain ⟨c1, c2, c3, c4, c5, c6, c7, c8⟩ := hc
        subst c1
        have hb : b.2 = [] := List.isEmpty_iff.mp c4
        have get : ∀ (ρ : Nat → Int) (τ : Nat → Int64) (w : px_W) (Z : Int32), sy_mem q S.1 ρ τ w → (-2147483648 ≤ sy_e ρ a ∧ sy_e ρ a ≤ 2147483647) → px_bin i (Int32.ofInt (sy_e ρ a)) (Int32.ofInt (sy_e ρ b)) = some Z → 0 ≤ sy_e ρ (sy_add a (sy_c 2147483648)) ∧ sy_get w (sy_oc i * 8589934592 + (b.1 + 2147483648).toNat) (sy_e ρ (sy_add a (sy_c 2147483648))).toNat = some (.int Z) := by
          intro ρ τ w Z hm ha hz
          rw [sy_e_nil hb] at hz
          have h1 := sy_px_ok ho ha ⟨c6, c7⟩ hz
          have h2 : w[sy_oc i * 8589934592 + (b.1 + 2147483648).toNat]? = none := List.getElem?_eq_none (by have := hm.2.2.2.2.1.1; omega)
          rw [sy_add_e, sy_c_e]
          refine ⟨by omega, ?_⟩
          unfold sy_get
          rw [h2]
          exact h1
        split at h
        · rename_i p rg hp hrg
          split at h
          · rename_i hc2
            have hfit : ∀ (ρ : Nat → Int) (τ : Nat → Int64) (w : px_W), sy_mem q S.1 ρ τ w → -2147483648 ≤ sy_e ρ a ∧ sy_e ρ a ≤ 2147483647 := by
              intro ρ τ w hm
              obtain ⟨p1, p2⟩ := sy_b_e hm.2.1 hp
              have := hc2.1
              replace this := sy_fit_iff this
              omega
            split at h
            · rename_i k fx e hfind
              cases h
              have hmm := List.mem_of_find?_eq_some hfind
              have hpp := List.find?_some hfind
              rw [Bool.and_eq_true] at hpp
              refine sy_goD hM (fun ρ τ w lc cf d hm _ => ?_) (hG _ List.mem_cons_self)
              obtain ⟨Z, z1, z2, z3⟩ := sy_bn_ok hm.2.1 hrg
              have g1 := (get ρ τ w Z hm (hfit ρ τ w hm) z1).2
              have g2 := (hm.2.2.2.1 _ hmm).2
              have hk : k = sy_oc i * 8589934592 + (b.1 + 2147483648).toNat := eq_of_beq hpp.1
              have he : sy_e ρ fx = sy_e ρ (sy_add a (sy_c 2147483648)) := sy_eq_e hm.2.1 hpp.2
              dsimp only at g2
              rw [hk, he, g1] at g2
              have g3 : Value.int Z = sy_v ρ τ (.inl e) := Option.some.inj g2
              have hs := sy_bstep (x := x) (τ := τ) (w := w) (lc := lc) (scr := pf_scr x.2.2.2.1 cf) (d := d) hq c3 hst z1
              rw [g3] at hs
              exact hs
            · cases h
              refine sy_goFa (pre := [.inl b, .inl a]) c2 hc2.2 hM hst (fun ρ τ w lc cf d hm _ => ?_) (hG _ List.mem_cons_self)
              obtain ⟨Z, z1, z2, z3⟩ := sy_bn_ok hm.2.1 hrg
              obtain ⟨g1, g2⟩ := get ρ τ w Z hm (hfit ρ τ w hm) z1
              exact ⟨Z, z2, z3, g1, g2, sy_bstep hq c3 hst z1⟩
          · cases h
        · cases h
      · cases h
    · cases h
  · cases h
def sy_uN (A : List sy_Ce) (i : Instr) (len : Nat) (S : sy_S) : Option (List sy_S) := px_or (sy_n1 i len S) (px_or (sy_n2 i len S) (sy_n3 A i len S))
theorem sy_uN_ok (hM : q.1[S.2.1.1]? = some M) (hq : px_look M.2.1 S.2.1.2.1 = some (i, len)) (h : sy_uN q.2.1 i len S = some l) : sy_S1 x q S l := by
  unfold sy_uN at h
  rcases px_or_some h with h | h
  · exact sy_n1_ok hM hq h
  rcases px_or_some h with h | h
  · exact sy_n2_ok hM hq h
  · exact sy_n3_ok hM hq h
end RE

end
