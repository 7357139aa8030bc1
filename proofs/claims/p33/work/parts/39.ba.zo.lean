noncomputable section
/-! THE LAW'S LOOP, WITH WHAT IT READ OF THE SCRIPT KEPT IN MIND -/
section LT
variable {x : sy_X} {q : sy_Q} {S : sy_S} {M : px_M} {i : Instr} {len : Nat} {l : List sy_S}
/-- splits at chosen places: 1 one by one, 2 below, above, equal, 3 a shift by a constant -/
def sy_zp1 (S : sy_S) : Option (List sy_S) := match S.2.1.2.2.2 with
  | .inl e :: _ => (match e.2.find? (fun t => match S.1.1[t.1]? with
      | some p => decide (p.1 < p.2)
      | none => false) with
    | some t => (match S.1.1[t.1]? with
      | some p => if p.2 - p.1 ≤ 300 then some (sy_spl S t.1 p.1 (p.2 - p.1 + 1).toNat) else none
      | none => none)
    | none => none)
  | _ => none
theorem sy_zp1_ok (h : sy_zp1 S = some l) : sy_S1 x q S l := by
  intro hG
  unfold sy_zp1 at h
  split at h
  · split at h
    · split at h
      · rename_i p hp
        split at h
        · cases h
          exact sy_goSpl hp hG
        · cases h
      · cases h
    · cases h
  · cases h
def sy_zp2 (i : Instr) (S : sy_S) : Option (List sy_S) := match i, S.2.1.2.2.2 with
  | .ifCond _ _, .inl a :: _ => if sy_dec S.1.1 S.1.2.2.1 a = true then none else some (sy_3 S a)
  | .if_icmp _ _, .inl b :: .inl a :: _ => if sy_dec S.1.1 S.1.2.2.1 (sy_sub a b) = true then none else some (sy_3 S (sy_sub a b))
  | _, _ => none
theorem sy_zp2_ok (h : sy_zp2 i S = some l) : sy_S1 x q S l := by
  intro hG
  unfold sy_zp2 at h
  split at h
  · split at h
    · cases h
    · cases h
      exact sy_go3 hG
  · split at h
    · cases h
    · cases h
      exact sy_go3 hG
  · cases h
def sy_zp3 (i : Instr) (len : Nat) (S : sy_S) : Option (List sy_S) := match i, S.2.1.2.2.2 with
  | .ishr, .inl b :: .inl a :: r => if len = 1 ∧ sy_wS S = true then (match sy_b S.1.1 a, sy_b S.1.1 b with
    | some p, some s => if sy_fit p = true ∧ s.1 = s.2 ∧ 0 ≤ s.1 ∧ s.1 ≤ 30 then some [sy_at S (S.1.1 ++ [(p.1 / ((2 ^ s.1.toNat : Nat) : Int), p.2 / ((2 ^ s.1.toNat : Nat) : Int))], S.1.2.1, [] ++ S.1.2.2.1, S.1.2.2.2) (S.2.1.2.1 + 1) S.2.1.2.2.1 (.inl (sy_x S.1.1.length) :: r)] else none
    | _, _ => none) else none
  | _, _ => none
theorem sy_zp3_ok (hM : q.1[S.2.1.1]? = some M) (hq : px_look M.2.1 S.2.1.2.1 = some (i, len)) (h : sy_zp3 i len S = some l) : sy_S1 x q S l := by
  intro hG
  unfold sy_zp3 at h
  split at h
  · rename_i b a r hst
    split at h
    · rename_i hc
      obtain ⟨c1, c2⟩ := hc
      subst c1
      split at h
      · rename_i p s hp hs
        split at h
        · rename_i hc
          obtain ⟨d1, d2, d3, d4⟩ := hc
          cases h
          refine sy_goFc (pre := [.inl b, .inl a]) (cs := []) c2 hM hst (fun ρ τ w lc cf d hm _ => ?_) (hG _ List.mem_cons_self)
          obtain ⟨p1, p2⟩ := sy_b_e hm.2.1 hp
          obtain ⟨s1, s2⟩ := sy_b_e hm.2.1 hs
          have es : sy_e ρ b = s.1 := by omega
          have ex := sy_fit_e d1 p1 p2
          have hz := sy_sh (X := Int32.ofInt (sy_e ρ a)) (z := sy_e ρ b) (by omega) (by omega)
          rw [ex, es] at hz
          have hpos : (0 : Int) < ((2 ^ s.1.toNat : Nat) : Int) := by
            have : 0 < 2 ^ s.1.toNat := Nat.pow_pos (by decide)
            omega
          refine ⟨_, ?_, ?_, fun ρ' a1 a2 => fun z hz2 => absurd hz2 List.not_mem_nil, sy_bstep hq rfl hst rfl⟩
          · show p.1 / _ ≤ _
            rw [es, hz]
            exact Int.ediv_le_ediv hpos p1
          · show _ ≤ p.2 / _
            rw [es, hz]
            exact Int.ediv_le_ediv hpos p2
        · cases h
      · cases h
    · cases h
  · cases h
/-- the number on top is at most 0, at most 200, or above -/
def sy_zp4 (S : sy_S) : Option (List sy_S) := match S.2.1.2.2.2 with
  | .inl (0, [(y, 1)]) :: _ => (match S.1.1[y]? with
    | some p => ([0, 200] : List Int).findSome? (fun b => if p.1 ≤ b ∧ b < p.2 then some [(sy_rng S.1 y (p.1, b), S.2), (sy_rng S.1 y (b + 1, p.2), S.2)] else none)
    | none => none)
  | _ => none
theorem sy_zp4_ok (h : sy_zp4 S = some l) : sy_S1 x q S l := by
  intro hG
  unfold sy_zp4 at h
  split at h
  · rename_i y rest hst
    split at h
    · rename_i p hp
      obtain ⟨b, -, h1⟩ := List.exists_of_findSome?_eq_some h
      split at h1
      · cases h1
        intro ρ τ w c cf k hR hd
        obtain ⟨h2, h3⟩ := hR.1.2.1 y p hp
        by_cases h4 : ρ y ≤ b
        · exact hG _ List.mem_cons_self ρ τ w c cf k ⟨sy_rng_ok hR.1 h2 h4, hR.2⟩ hd
        · exact hG _ (List.mem_cons_of_mem _ List.mem_cons_self) ρ τ w c cf k ⟨sy_rng_ok hR.1 (by show b + 1 ≤ _; omega) h3, hR.2⟩ hd
      · cases h1
    · cases h
  · cases h
def sy_zp (zs : List (Nat × Nat × Nat)) (i : Instr) (len : Nat) (S : sy_S) : Option (List sy_S) := match zs.find? (fun p => p.1 == S.2.1.1 && p.2.1 == S.2.1.2.1) with
  | some p => if p.2.2 = 1 then sy_zp1 S else if p.2.2 = 2 then sy_zp2 i S else if p.2.2 = 4 then sy_zp4 S else if p.2.2 = 3 then sy_zp3 i len S else none
  | none => none
theorem sy_zp_ok {zs : List (Nat × Nat × Nat)} (hM : q.1[S.2.1.1]? = some M) (hq : px_look M.2.1 S.2.1.2.1 = some (i, len)) (h : sy_zp zs i len S = some l) : sy_S1 x q S l := by
  unfold sy_zp at h
  split at h
  · split at h
    · exact sy_zp1_ok h
    · split at h
      · exact sy_zp2_ok h
      · split at h
        · exact sy_zp4_ok h
        · split at h
          · exact sy_zp3_ok hM hq h
          · cases h
  · cases h
/-- a state that can't be -/
def sy_dead (g : sy_G) : Bool := g.1.any (fun r => decide (r.2 < r.1)) || g.2.2.1.any (fun c => sy_pos g.1 g.2.2.1 (sy_sub (sy_c (-1)) c))
theorem sy_dead_ok (h : sy_dead S.1 = true) : sy_Good x q S := by
  intro ρ τ w c cf d hR _
  exfalso
  obtain ⟨-, m2, m3, -⟩ := hR.1
  unfold sy_dead at h
  rw [Bool.or_eq_true] at h
  rcases h with h | h
  · obtain ⟨r, hr, h1⟩ := List.any_eq_true.mp h
    obtain ⟨k, hk⟩ := List.mem_iff_getElem?.mp hr
    have := m2 k r hk
    have := of_decide_eq_true h1
    omega
  · obtain ⟨e, he, h1⟩ := List.any_eq_true.mp h
    have h2 := sy_pos_e m2 m3 h1
    have h3 := m3 e he
    rw [sy_sub_e, sy_c_e] at h2
    omega
/-! RULES AT CHOSEN PLACES: reads on both sides, names kept in mind, shelves by table 8 -/
/-- one new symbol, with constraints and facts -/
def sz_add (S : sy_S) (rg : Int × Int) (cs : List sy_L) (F : List sy_Fa) : sy_S := ((S.1.1 ++ [rg], S.1.2.1, cs ++ S.1.2.2.1, F ++ S.1.2.2.2), S.2)
theorem sz_go {ρ : Nat → Int} {τ : Nat → Int64} {w : px_W} {c : pf_F} {cf : List pf_F} {d : Nat} {rg : Int × Int} {cs : List sy_L} {F : List sy_Fa} (hw : sy_wS S = true) (hR : sy_Rel q S ρ τ w c cf) (hd : d + cf.length = x.2.2.2.2.2.2) {v : Int} (h1 : rg.1 ≤ v) (h2 : v ≤ rg.2) (hC : ∀ ρ' : Nat → Int, (∀ i, i < S.1.1.length → ρ' i = ρ i) → ρ' S.1.1.length = v → (∀ e ∈ cs, 0 ≤ sy_e ρ' e) ∧ ∀ f ∈ F, 0 ≤ sy_e ρ' f.2.1 ∧ sy_get w f.1 (sy_e ρ' f.2.1).toNat = some (sy_v ρ' τ f.2.2)) (hG : sy_Good x q (sz_add S rg cs F)) : pf_Fin x.1 x.2.1 x.2.2.1 x.2.2.2.1 x.2.2.2.2.1 x.2.2.2.2.2.1 cf d c.1 c.2.1 c.2.2.1 c.2.2.2 w := by
  obtain ⟨ρ', e1, e2, ⟨m1, m2, m3, m4, m5, m6⟩, hf'⟩ := sy_fresh hw hR (v := v) (r := rg) h1 h2
  obtain ⟨k1, k2⟩ := hC ρ' e1 e2
  refine hG ρ' τ w c cf d ⟨⟨m1, m2, fun e he => ?_, fun f hf => ?_, m5, m6⟩, hf'⟩ hd
  · rcases List.mem_append.mp he with he | he
    · exact k1 e he
    · exact m3 e he
  · rcases List.mem_append.mp hf with hf | hf
    · exact k2 f hf
    · exact m4 f hf
/-- what a place holds, by the facts -/
def sz_qf (F : List sy_Fa) (k : Nat) (j : Int) : Option sy_L := match qx_find F (fun f => cond (Nat.beq f.1 k) (qy_leq f.2.1 (sy_c j)) false) with
  | some (_, _, .inl v) => some v
  | _ => none
theorem sz_qf_ok {F : List sy_Fa} {k : Nat} {j : Int} {v : sy_L} (h : sz_qf F k j = some v) : (k, sy_c j, .inl v) ∈ F := by
  unfold sz_qf at h
  split at h
  · rename_i k' p' v' hf
    cases h
    rw [qx_find_e] at hf
    have h1 := List.mem_of_find?_eq_some hf
    have h2 := qx_and (List.find?_some (p := fun f : sy_Fa => cond (Nat.beq f.1 k) (qy_leq f.2.1 (sy_c j)) false) hf)
    have h3 : k' = k := Nat.eq_of_beq_eq_true h2.1
    have h4 : p' = sy_c j := qy_leq_e h2.2
    rw [h3, h4] at h1
    exact h1
  · cases h
theorem sz_qf_get {ρ : Nat → Int} {τ : Nat → Int64} {w : px_W} {F : List sy_Fa} {k : Nat} {j : Int} {v : sy_L} (hF : sy_fok ρ τ w F) (h : sz_qf F k j = some v) : sy_get w k j.toNat = some (.int (Int32.ofInt (sy_e ρ v))) := by
  have h1 := (hF _ (sz_qf_ok h)).2
  dsimp only at h1
  rw [sy_c_e] at h1
  exact h1
/-- both sides hold the same at a place: its range -/
def sz_one (R : sy_T) (F : List sy_Fa) (kA kB : Nat) (o s j : Int) : Option (Int × Int) := match sz_qf F kA j, sz_qf F kB (o + s * j) with
  | some v, some u => cond (qy_leq v u) (match sy_b R v with
    | some p => cond (sy_fit p) (some p) none
    | none => none) none
  | _, _ => none
theorem sz_cn {α : Type} {b : Bool} {a : Option α} {r : α} (h : cond b a none = some r) : b = true ∧ a = some r := by
  cases b with
  | true => exact ⟨rfl, h⟩
  | false => cases h
theorem sz_one_ok {R : sy_T} {F : List sy_Fa} {kA kB : Nat} {o s j : Int} {p : Int × Int} (h : sz_one R F kA kB o s j = some p) : ∃ v, sz_qf F kA j = some v ∧ sz_qf F kB (o + s * j) = some v ∧ sy_b R v = some p ∧ sy_fit p = true := by
  unfold sz_one at h
  split at h
  · rename_i v u hv hu
    obtain ⟨h1, h2⟩ := sz_cn h
    split at h2
    · rename_i p' hp
      obtain ⟨h3, h4⟩ := sz_cn h2
      cases h4
      refine ⟨v, hv, ?_, hp, h3⟩
      rw [hu, qy_leq_e h1]
    · cases h2
  · cases h
def sz_un (R : sy_T) (F : List sy_Fa) (kA kB : Nat) (o s : Int) : Nat → Int → Option (Int × Int)
  | 0, j => sz_one R F kA kB o s j
  | n + 1, j => match sz_one R F kA kB o s j, sz_un R F kA kB o s n (j + 1) with
    | some p, some r => some (min p.1 r.1, max p.2 r.2)
    | _, _ => none
theorem sz_un_ok {R : sy_T} {F : List sy_Fa} {kA kB : Nat} {o s : Int} : ∀ (n : Nat) (j : Int) (r : Int × Int), sz_un R F kA kB o s n j = some r → ∀ k : Nat, k ≤ n → ∃ p, sz_one R F kA kB o s (j + k) = some p ∧ r.1 ≤ p.1 ∧ p.2 ≤ r.2
  | 0, j, r, h, k, hk => by
    have : k = 0 := by omega
    subst this
    refine ⟨r, ?_, Int.le_refl _, Int.le_refl _⟩
    rw [show j + ((0 : Nat) : Int) = j by omega]
    exact h
  | n + 1, j, r, h, k, hk => by
    unfold sz_un at h
    split at h
    · rename_i p r' hp hr
      cases h
      cases k with
      | zero =>
        refine ⟨p, ?_, Int.min_le_left _ _, Int.le_max_left _ _⟩
        rw [show j + ((0 : Nat) : Int) = j by omega]
        exact hp
      | succ k =>
        obtain ⟨p', e1, e2, e3⟩ := sz_un_ok n (j + 1) r' hr k (by omega)
        refine ⟨p', ?_, Int.le_trans (Int.min_le_right _ _) e2, Int.le_trans e3 (Int.le_max_right _ _)⟩
        rw [show j + ((k + 1 : Nat) : Int) = j + 1 + (k : Int) by omega]
        exact e1
    · cases h
/-- a read of a place that is not known, of cells that are the same on both sides -/
def sz_6 (kB : Nat) (o s : Int) (S : sy_S) : Option (List sy_S) := match S.2.1.2.2.2 with
  | .inl ix :: .inr (.inl a) :: _ => (match sy_b S.1.1 ix with
    | some b => cond (cond (qi_le 0 b.1) (cond (qi_le b.2 300) (cond (qi_le 0 s) (cond (qi_le 0 o) (qi_le b.1 b.2) false) false) false) false) (cond (qx_any S.1.2.2.2 (fun f => cond (Nat.beq f.1 (Nat.sub a 64)) (sy_eq S.1.1 f.2.1 ix) false)) none (cond (sy_wS S) (match sz_un S.1.1 S.1.2.2.2 (Nat.sub a 64) kB o s (b.2 - b.1).toNat b.1 with
      | some r => some [sz_add S r [] [(Nat.sub a 64, ix, .inl (sy_x S.1.1.length)), (kB, sy_add (sy_scl s ix) (sy_c o), .inl (sy_x S.1.1.length))]]
      | none => none) none)) none
    | none => none)
  | _ => none
theorem sz_no {α : Type} {b : Bool} {a : Option α} {r : α} (h : cond b none a = some r) : b = false ∧ a = some r := by
  cases b with
  | false => exact ⟨rfl, h⟩
  | true => cases h
theorem sz_6_ok {kB : Nat} {o s : Int} (h : sz_6 kB o s S = some l) : sy_S1 x q S l := by
  intro hG
  unfold sz_6 at h
  split at h
  · rename_i ix a rest hst
    split at h
    · rename_i b hb
      obtain ⟨h1, h2⟩ := sz_cn h
      obtain ⟨a1, h1⟩ := qx_and h1
      obtain ⟨a2, h1⟩ := qx_and h1
      obtain ⟨a3, h1⟩ := qx_and h1
      obtain ⟨a4, a5⟩ := qx_and h1
      have a1 := qi_le_e.mp a1
      have a3 := qi_le_e.mp a3
      have a4 := qi_le_e.mp a4
      have a5 := qi_le_e.mp a5
      obtain ⟨-, h2⟩ := sz_no h2
      obtain ⟨hw, h2⟩ := sz_cn h2
      split at h2
      · rename_i r hr
        cases h2
        intro ρ τ w c cf d hR hd
        obtain ⟨b1, b2⟩ := sy_b_e hR.1.2.1 hb
        have hwx : sy_wl S.1.1.length ix = true := sy_wst hw (by rw [hst]; exact List.mem_cons_self)
        obtain ⟨p, e1, e2, e3⟩ := sz_un_ok _ _ _ hr (sy_e ρ ix - b.1).toNat (by omega)
        rw [show b.1 + (((sy_e ρ ix - b.1).toNat : Nat) : Int) = sy_e ρ ix by omega] at e1
        obtain ⟨v, v1, v2, v3, v4⟩ := sz_one_ok e1
        obtain ⟨p1, p2⟩ := sy_b_e hR.1.2.1 v3
        have g1 := sz_qf_get hR.1.2.2.2.1 v1
        have g2 := sz_qf_get hR.1.2.2.2.1 v2
        refine sz_go (cs := []) hw hR hd (v := sy_e ρ v) (by omega) (by omega) (fun ρ' k1 k2 => ⟨fun e he => absurd he List.not_mem_nil, fun f hf => ?_⟩) (hG _ List.mem_cons_self)
        have ex := sy_ext_l k1 hwx
        rcases List.mem_cons.mp hf with rfl | hf
        · show 0 ≤ sy_e ρ' ix ∧ sy_get w (Nat.sub a 64) (sy_e ρ' ix).toNat = some (.int (Int32.ofInt (sy_e ρ' (sy_x S.1.1.length))))
          rw [ex, sy_x_e, k2]
          exact ⟨by omega, g1⟩
        · rw [List.mem_singleton.mp hf]
          show 0 ≤ sy_e ρ' (sy_add (sy_scl s ix) (sy_c o)) ∧ sy_get w kB (sy_e ρ' (sy_add (sy_scl s ix) (sy_c o))).toNat = some (.int (Int32.ofInt (sy_e ρ' (sy_x S.1.1.length))))
          rw [sy_add_e, sy_scl_e, sy_c_e, ex, sy_x_e, k2, show s * sy_e ρ ix + o = o + s * sy_e ρ ix by omega]
          refine ⟨?_, g2⟩
          have : 0 ≤ s * sy_e ρ ix := Int.mul_nonneg a3 (by omega)
          omega
      · cases h2
    · cases h
  · cases h
/-- the top under a name that is kept in mind -/
def sz_7 (A : List sy_Ce) (S : sy_S) : Option (List sy_S) := match S.2.1.2.2.2 with
  | .inl e :: r => cond (sy_pl e) none (match sy_b S.1.1 e with
    | some p => cond (cond (sy_fit p) (cond (Nat.ble A.length 8589934592) (cond (sy_wS S) (sy_l0 S.1.1 (sy_add e (sy_c 1099511627776))) false) false) false) (match qx_find S.1.2.2.2 (fun f => cond (Nat.beq f.1 34359738368) (sy_eq S.1.1 f.2.1 (sy_add e (sy_c 1099511627776))) false) with
      | some (_, _, .inl v) => some [(S.1, (S.2.1.1, S.2.1.2.1, S.2.1.2.2.1, .inl v :: r), S.2.2)]
      | some _ => none
      | none => cond (sy_eq (S.1.1 ++ [p]) (sy_add e (sy_c 1099511627776)) (sy_add e (sy_c 1099511627776))) (some [((S.1.1 ++ [p], S.1.2.1, [sy_sub (sy_x S.1.1.length) e, sy_sub e (sy_x S.1.1.length)] ++ S.1.2.2.1, [(34359738368, sy_add e (sy_c 1099511627776), .inl (sy_x S.1.1.length))] ++ S.1.2.2.2), (S.2.1.1, S.2.1.2.1, S.2.1.2.2.1, .inl (sy_x S.1.1.length) :: r), S.2.2)]) none) none
    | none => none)
  | _ => none
theorem sz_7_ok (h : sz_7 q.2.1 S = some l) : sy_S1 x q S l := by
  intro hG
  unfold sz_7 at h
  split at h
  · rename_i e r hst
    obtain ⟨-, h⟩ := sz_no h
    split at h
    · rename_i p hp
      obtain ⟨h1, h2⟩ := sz_cn h
      obtain ⟨a1, h1⟩ := qx_and h1
      obtain ⟨a2, h1⟩ := qx_and h1
      obtain ⟨hw, hlo⟩ := qx_and h1
      have hA := Nat.le_of_ble_eq_true a2
      split at h2
      · rename_i k' ix v hf
        cases h2
        rw [qx_find_e] at hf
        have g1 := List.mem_of_find?_eq_some hf
        have g2 := qx_and (List.find?_some (p := fun f : sy_Fa => cond (Nat.beq f.1 34359738368) (sy_eq S.1.1 f.2.1 (sy_add e (sy_c 1099511627776))) false) hf)
        have g3 : k' = 34359738368 := Nat.eq_of_beq_eq_true g2.1
        rw [g3] at g1
        exact sy_goNam3 hA hst g1 g2.2 (hG _ List.mem_cons_self)
      · cases h2
      · obtain ⟨hq, h2⟩ := sz_cn h2
        cases h2
        have hwe : sy_wl S.1.1.length e = true := sy_wst hw (by rw [hst]; exact List.mem_cons_self)
        have hS : sy_Good x q (sz_add S p [sy_sub (sy_x S.1.1.length) e, sy_sub e (sy_x S.1.1.length)] [(34359738368, sy_add e (sy_c 1099511627776), .inl (sy_x S.1.1.length))]) := sy_goNam3 (S := sz_add S p [sy_sub (sy_x S.1.1.length) e, sy_sub e (sy_x S.1.1.length)] [(34359738368, sy_add e (sy_c 1099511627776), .inl (sy_x S.1.1.length))]) hA hst List.mem_cons_self hq (hG _ List.mem_cons_self)
        intro ρ τ w c cf d hR hd
        obtain ⟨p1, p2⟩ := sy_b_e hR.1.2.1 hp
        have h0 := sy_l0_e hR.1.2.1 hlo
        rw [sy_add_e, sy_c_e] at h0
        refine sz_go hw hR hd (v := sy_e ρ e) p1 p2 (fun ρ' k1 k2 => ⟨fun z hz => ?_, fun f hf => ?_⟩) hS
        · have ex := sy_ext_l k1 hwe
          rcases List.mem_cons.mp hz with rfl | hz
          · rw [sy_sub_e, sy_x_e, k2, ex]; omega
          · rw [List.mem_singleton.mp hz, sy_sub_e, sy_x_e, k2, ex]; omega
        · have ex := sy_ext_l k1 hwe
          rw [List.mem_singleton.mp hf]
          show 0 ≤ sy_e ρ' (sy_add e (sy_c 1099511627776)) ∧ sy_get w 34359738368 (sy_e ρ' (sy_add e (sy_c 1099511627776))).toNat = some (.int (Int32.ofInt (sy_e ρ' (sy_x S.1.1.length))))
          rw [sy_add_e, sy_c_e, sy_x_e, k2, ex]
          refine ⟨h0, ?_⟩
          have h2 : w[34359738368]? = none := List.getElem?_eq_none (by have := hR.1.2.2.2.2.1.1; omega)
          unfold sy_get
          rw [h2]
          show some (Value.int (Int32.ofInt (((sy_e ρ e + 1099511627776).toNat : Int) - 1099511627776))) = _
          rw [show (((sy_e ρ e + 1099511627776).toNat : Nat) : Int) - 1099511627776 = sy_e ρ e by omega]
    · cases h
  · cases h
/-- a local one by one -/
def sz_10 (k : Nat) (S : sy_S) : Option (List sy_S) := match px_look S.2.1.2.2.1 k with
  | some (.inl e) => (match e.2.find? (fun t => match S.1.1[t.1]? with
      | some p => decide (p.1 < p.2)
      | none => false) with
    | some t => (match S.1.1[t.1]? with
      | some p => if p.2 - p.1 ≤ 300 then some (sy_spl S t.1 p.1 (p.2 - p.1 + 1).toNat) else none
      | none => none)
    | none => none)
  | _ => none
theorem sz_10_ok {k : Nat} (h : sz_10 k S = some l) : sy_S1 x q S l := by
  intro hG
  unfold sz_10 at h
  split at h
  · split at h
    · split at h
      · rename_i p hp
        split at h
        · cases h
          exact sy_goSpl hp hG
        · cases h
      · cases h
    · cases h
  · cases h
/-! shelves: what a shelf holds on both sides, as one number of table 8 -/
def sz_pl (h s o n t : sy_L) : sy_L := sy_add (sy_add (sy_add h (sy_scl 8 s)) (sy_add (sy_scl 64 o) (sy_scl 1024 (sy_add t (sy_c 1))))) (sy_scl 8192 (sy_add (sy_sub o n) (sy_c 1099511627776)))
theorem sz_pl_e (ρ : Nat → Int) (h s o n t : sy_L) : sy_e ρ (sz_pl h s o n t) = sy_e ρ h + 8 * sy_e ρ s + (64 * sy_e ρ o + 1024 * (sy_e ρ t + 1)) + 8192 * (sy_e ρ o - sy_e ρ n + 1099511627776) := by
  unfold sz_pl
  rw [sy_add_e, sy_add_e, sy_add_e, sy_add_e, sy_scl_e, sy_scl_e, sy_scl_e, sy_scl_e, sy_add_e, sy_add_e, sy_sub_e, sy_c_e, sy_c_e]
theorem sz_bl {a b : Nat} : Nat.ble a b = true ↔ a ≤ b := ⟨Nat.le_of_ble_eq_true, Nat.ble_eq_true_of_le⟩
theorem sz_br : ∀ a : Nat, Nat.beq a a = true
  | 0 => rfl
  | a + 1 => sz_br a
theorem sz_be {a b : Nat} : Nat.beq a b = true ↔ a = b := ⟨Nat.eq_of_beq_eq_true, fun h => by subst h; exact sz_br a⟩
theorem sz_nb {a b : Nat} : (!(Nat.beq a b)) = true ↔ ¬ a = b := by
  cases h : Nat.beq a b with
  | true => exact ⟨fun h1 => (by cases h1), fun h1 => absurd (sz_be.mp h) h1⟩
  | false => exact ⟨fun _ h1 => (by rw [sz_be.mpr h1] at h; cases h), fun _ => rfl⟩
theorem sz_rel_of {H S' O T' D : Nat} (h1 : H < 8) (h2 : S' < 8) (h3 : O < 16) (h4 : T' < 8) : sz_rel (H + 8 * S' + (64 * O + 1024 * T') + 8192 * D) = ((Nat.ble H 4 && (Nat.beq S' (H + 1) && (Nat.beq D 1099511627776 && (!(Nat.beq H 0) || Nat.ble O 7)))) || (Nat.ble 5 H && ((Nat.beq S' 0 || Nat.beq S' 6) && (!(Nat.beq H 5) || Nat.ble 1 T')))) := by
  unfold sz_rel
  rw [show (H + 8 * S' + (64 * O + 1024 * T') + 8192 * D) % 8 = H by omega, show (H + 8 * S' + (64 * O + 1024 * T') + 8192 * D) / 8 % 8 = S' by omega, show (H + 8 * S' + (64 * O + 1024 * T') + 8192 * D) / 64 % 16 = O by omega, show (H + 8 * S' + (64 * O + 1024 * T') + 8192 * D) / 1024 % 8 = T' by omega, show (H + 8 * S' + (64 * O + 1024 * T') + 8192 * D) / 8192 = D by omega]
def sz_sh (F : List sy_Fa) (j : Int) : Option (sy_L × sy_L × sy_L × sy_L × sy_L) := match sz_qf F 144 j, sz_qf F 145 j, sz_qf F 176 j, sz_qf F 177 j, sz_qf F 146 j with
  | some h, some n, some s, some o, some t => some (h, n, s, o, t)
  | _, _, _, _, _ => none
theorem sz_sh_ok {F : List sy_Fa} {j : Int} {z : sy_L × sy_L × sy_L × sy_L × sy_L} (h : sz_sh F j = some z) : sz_qf F 144 j = some z.1 ∧ sz_qf F 145 j = some z.2.1 ∧ sz_qf F 176 j = some z.2.2.1 ∧ sz_qf F 177 j = some z.2.2.2.1 ∧ sz_qf F 146 j = some z.2.2.2.2 := by
  unfold sz_sh at h
  split at h
  · rename_i a b c d e h1 h2 h3 h4 h5
    cases h
    exact ⟨h1, h2, h3, h4, h5⟩
  · cases h
/-- the ranges of a shelf's five -/
def sz_rs (R : sy_T) (z : sy_L × sy_L × sy_L × sy_L × sy_L) : Bool := match sy_b R z.1, sy_b R z.2.1, sy_b R z.2.2.1, sy_b R z.2.2.2.1, sy_b R z.2.2.2.2 with
  | some h, some n, some s, some o, some t => cond (qi_le 0 h.1) (cond (qi_le h.2 6) (cond (sy_fit n) (cond (qi_le 0 s.1) (cond (qi_le s.2 6) (cond (qi_le 0 o.1) (cond (qi_le o.2 11) (cond (qi_le (-1) t.1) (qi_le t.2 4) false) false) false) false) false) false) false) false
  | _, _, _, _, _ => false
theorem sz_rs_ok {ρ : Nat → Int} {R : sy_T} {z : sy_L × sy_L × sy_L × sy_L × sy_L} (hR : sy_ok ρ R) (h : sz_rs R z = true) : (0 ≤ sy_e ρ z.1 ∧ sy_e ρ z.1 ≤ 6) ∧ (-2147483648 ≤ sy_e ρ z.2.1 ∧ sy_e ρ z.2.1 ≤ 2147483647) ∧ (0 ≤ sy_e ρ z.2.2.1 ∧ sy_e ρ z.2.2.1 ≤ 6) ∧ (0 ≤ sy_e ρ z.2.2.2.1 ∧ sy_e ρ z.2.2.2.1 ≤ 11) ∧ (-1 ≤ sy_e ρ z.2.2.2.2 ∧ sy_e ρ z.2.2.2.2 ≤ 4) := by
  unfold sz_rs at h
  split at h
  · rename_i h' n s o t e1 e2 e3 e4 e5
    obtain ⟨a1, h⟩ := qx_and h
    obtain ⟨a2, h⟩ := qx_and h
    obtain ⟨a3, h⟩ := qx_and h
    obtain ⟨a4, h⟩ := qx_and h
    obtain ⟨a5, h⟩ := qx_and h
    obtain ⟨a6, h⟩ := qx_and h
    obtain ⟨a7, h⟩ := qx_and h
    obtain ⟨a8, a9⟩ := qx_and h
    have a1 := qi_le_e.mp a1
    have a2 := qi_le_e.mp a2
    have a3 := sy_fit_iff a3
    have a4 := qi_le_e.mp a4
    have a5 := qi_le_e.mp a5
    have a6 := qi_le_e.mp a6
    have a7 := qi_le_e.mp a7
    have a8 := qi_le_e.mp a8
    have a9 := qi_le_e.mp a9
    have b1 := sy_b_e hR e1
    have b2 := sy_b_e hR e2
    have b3 := sy_b_e hR e3
    have b4 := sy_b_e hR e4
    have b5 := sy_b_e hR e5
    omega
  · cases h
theorem sz_get8 {w : px_W} {i : Nat} (h : w.length ≤ 8589934592) : sy_get w 68719476736 i = some (.int (if sz_rel i = true then 1 else 0)) := by
  have h2 : w[68719476736]? = none := List.getElem?_eq_none (by omega)
  unfold sy_get
  rw [h2]
  rfl
def sz_k8 (F : List sy_Fa) (p : sy_L) : Bool := qx_any F (fun f => cond (Nat.beq f.1 68719476736) (cond (qy_leq f.2.1 p) (match f.2.2 with
  | .inl e => qy_leq e (sy_c 1)
  | _ => false) false) false)
theorem sz_k8_ok {F : List sy_Fa} {p : sy_L} (h : sz_k8 F p = true) : (68719476736, p, .inl (sy_c 1)) ∈ F := by
  unfold sz_k8 at h
  rw [qx_any_e] at h
  obtain ⟨f, hf, h⟩ := List.any_eq_true.mp h
  obtain ⟨h1, h⟩ := qx_and h
  obtain ⟨h2, h3⟩ := qx_and h
  obtain ⟨k, p', v⟩ := f
  dsimp only at h1 h2 h3
  split at h3
  · rename_i e
    rw [Nat.eq_of_beq_eq_true h1, qy_leq_e h2, qy_leq_e h3] at hf
    exact hf
  · cases h3
/-- the word of table 8 in numbers -/
theorem sz_word {ρ : Nat → Int} {τ : Nat → Int64} {w : px_W} {F : List sy_Fa} {R : sy_T} {z : sy_L × sy_L × sy_L × sy_L × sy_L} (hlen : w.length ≤ 8589934592) (hR : sy_ok ρ R) (hF : sy_fok ρ τ w F) (hr : sz_rs R z = true) (hk : sz_k8 F (sz_pl z.1 z.2.2.1 z.2.2.2.1 z.2.1 z.2.2.2.2) = true) : (sy_e ρ z.1 ≤ 4 ∧ sy_e ρ z.2.2.1 = sy_e ρ z.1 + 1 ∧ sy_e ρ z.2.1 = sy_e ρ z.2.2.2.1 ∧ (sy_e ρ z.1 = 0 → sy_e ρ z.2.2.2.1 ≤ 7)) ∨ (5 ≤ sy_e ρ z.1 ∧ (sy_e ρ z.2.2.1 = 0 ∨ sy_e ρ z.2.2.1 = 6) ∧ (sy_e ρ z.1 = 5 → 0 ≤ sy_e ρ z.2.2.2.2)) := by
  obtain ⟨b1, b2, b3, b4, b5⟩ := sz_rs_ok hR hr
  obtain ⟨g1, g2⟩ := hF _ (sz_k8_ok hk)
  dsimp only at g1 g2
  rw [sz_get8 hlen] at g2
  have g3 : (if sz_rel (sy_e ρ (sz_pl z.1 z.2.2.1 z.2.2.2.1 z.2.1 z.2.2.2.2)).toNat = true then (1 : Int32) else 0) = Int32.ofInt (sy_e ρ (sy_c 1)) := by
    have := Option.some.inj g2
    injection this
  have g4 : sz_rel (sy_e ρ (sz_pl z.1 z.2.2.1 z.2.2.2.1 z.2.1 z.2.2.2.2)).toNat = true := by
    cases hb : sz_rel (sy_e ρ (sz_pl z.1 z.2.2.1 z.2.2.2.1 z.2.1 z.2.2.2.2)).toNat with
    | true => rfl
    | false =>
      rw [hb, sy_c_e] at g3
      exact absurd g3 (by decide)
  rw [sz_pl_e] at g4
  generalize sy_e ρ z.1 = H at *
  generalize sy_e ρ z.2.1 = N at *
  generalize sy_e ρ z.2.2.1 = S' at *
  generalize sy_e ρ z.2.2.2.1 = O at *
  generalize sy_e ρ z.2.2.2.2 = T' at *
  have e : (H + 8 * S' + (64 * O + 1024 * (T' + 1)) + 8192 * (O - N + 1099511627776)).toNat = H.toNat + 8 * S'.toNat + (64 * O.toNat + 1024 * (T' + 1).toNat) + 8192 * (O - N + 1099511627776).toNat := by omega
  rw [e, sz_rel_of (by omega) (by omega) (by omega) (by omega)] at g4
  simp only [Bool.or_eq_true, Bool.and_eq_true, sz_bl, sz_be, sz_nb] at g4
  rcases g4 with ⟨c1, c2, c3, c4⟩ | ⟨c1, c2, c3⟩
  · left
    exact ⟨by omega, by omega, by omega, fun h0 => by omega⟩
  · right
    exact ⟨by omega, by omega, fun h0 => by omega⟩
def sz_ok8 (R : sy_T) (F : List sy_Fa) (j : Int) : Bool := match sz_sh F j with
  | some z => cond (sz_rs R z) (sz_k8 F (sz_pl z.1 z.2.2.1 z.2.2.2.1 z.2.1 z.2.2.2.2)) false
  | none => false
/-- facts that are looked at behind it -/
def sz_rl (rel : sy_Wr) (f : sy_Fa) : Bool := qx_any rel (fun q => cond (Nat.beq q.1 f.1) (match f.2.1.2 with
  | [] => cond (Nat.ble q.2.1 f.2.1.1.toNat) (Nat.ble (Nat.succ f.2.1.1.toNat) q.2.2) false
  | _ => true) false)
def sz_kc (c : Int) : sy_Wr := [(149, 0, 4096), (150, 0, 4096), (151, 0, 4096), (178, 0, 4096)] ++ cond (qi_eq c 0) [(2, 0, 8), (152, 16, 24)] (cond (qi_eq c 1) [(15, 10, 11), (24, 0, 8), (27, 0, 8), (152, 5, 6), (152, 216, 248)] (cond (qi_eq c 2) [(29, 7, 8), (35, 0, 10), (152, 7, 8), (152, 284, 294)] (cond (qi_eq c 3) [(29, 9, 10), (36, 0, 8), (152, 8, 9), (152, 294, 318)] (cond (qi_eq c 4) [(39, 1, 2), (41, 0, 12), (152, 9, 10), (152, 318, 354)] []))))
def sz_addD (S : sy_S) (rg : Int × Int) (rel : sy_Wr) (F : List sy_Fa) : sy_S := ((S.1.1 ++ [rg], S.1.2.1, S.1.2.2.1, F ++ qx_filter S.1.2.2.2 (sz_rl rel)), S.2)
theorem sz_goD {ρ : Nat → Int} {τ : Nat → Int64} {w : px_W} {c : pf_F} {cf : List pf_F} {d : Nat} {rg : Int × Int} {rel : sy_Wr} {F : List sy_Fa} (hw : sy_wS S = true) (hR : sy_Rel q S ρ τ w c cf) (hd : d + cf.length = x.2.2.2.2.2.2) {v : Int} (h1 : rg.1 ≤ v) (h2 : v ≤ rg.2) (hC : ∀ ρ' : Nat → Int, (∀ i, i < S.1.1.length → ρ' i = ρ i) → ρ' S.1.1.length = v → ∀ f ∈ F, 0 ≤ sy_e ρ' f.2.1 ∧ sy_get w f.1 (sy_e ρ' f.2.1).toNat = some (sy_v ρ' τ f.2.2)) (hG : sy_Good x q (sz_addD S rg rel F)) : pf_Fin x.1 x.2.1 x.2.2.1 x.2.2.2.1 x.2.2.2.2.1 x.2.2.2.2.2.1 cf d c.1 c.2.1 c.2.2.1 c.2.2.2 w := by
  obtain ⟨ρ', e1, e2, ⟨m1, m2, m3, m4, m5, m6⟩, hf'⟩ := sy_fresh hw hR (v := v) (r := rg) h1 h2
  have k2 := hC ρ' e1 e2
  refine hG ρ' τ w c cf d ⟨⟨m1, m2, m3, fun f hf => ?_, m5, m6⟩, hf'⟩ hd
  rcases List.mem_append.mp hf with hf | hf
  · exact k2 f hf
  · rw [qx_filter_e] at hf
    exact m4 f (List.mem_filter.mp hf).1
def sz_tA (S : sy_S) (e : sy_L) (c : Int) : sy_S := sz_addD S (0, cond (qi_z c) 7 11) (sz_kc c) [(144, e, .inl (sy_c c)), (145, e, .inl (sy_x S.1.1.length)), (176, e, .inl (sy_c (c + 1))), (177, e, .inl (sy_x S.1.1.length))]
def sz_tB (S : sy_S) (e : sy_L) (c u : Int) : sy_S := sz_addD S (cond (qi_eq c 5) 0 (-1), 4) (sz_kc c) [(144, e, .inl (sy_c c)), (176, e, .inl (sy_c u)), (146, e, .inl (sy_x S.1.1.length))]
/-- what is on a shelf: a thing of one of five sorts, the same on both sides, or none -/
def sz_8 (A : List sy_Ce) (S : sy_S) : Option (List sy_S) := match px_look S.2.1.2.2.1 1 with
  | some (.inl e) => (match sy_b S.1.1 e with
    | some b => cond (cond (qi_le 0 b.1) (cond (qi_le b.2 3) (cond (Nat.ble A.length 8589934592) (cond (sy_wS S) (cond (sz_ok8 S.1.1 S.1.2.2.2 0) (cond (sz_ok8 S.1.1 S.1.2.2.2 1) (cond (sz_ok8 S.1.1 S.1.2.2.2 2) (sz_ok8 S.1.1 S.1.2.2.2 3) false) false) false) false) false) false) false) (cond (qx_any S.1.2.2.2 (fun f => cond (Nat.beq f.1 144) (sy_eq S.1.1 f.2.1 e) false)) none (some [sz_tA S e 0, sz_tA S e 1, sz_tA S e 2, sz_tA S e 3, sz_tA S e 4, sz_tB S e 5 0, sz_tB S e 5 6, sz_tB S e 6 0, sz_tB S e 6 6])) none
    | none => none)
  | _ => none
theorem sz_tA_go {ρ : Nat → Int} {τ : Nat → Int64} {w : px_W} {cc : pf_F} {cf : List pf_F} {d : Nat} {e : sy_L} {c n : Int} {z : sy_L × sy_L × sy_L × sy_L × sy_L} (hw : sy_wS S = true) (hwe : sy_wl S.1.1.length e = true) (hR : sy_Rel q S ρ τ w cc cf) (hd : d + cf.length = x.2.2.2.2.2.2) (h0 : 0 ≤ sy_e ρ e) (hz : sz_sh S.1.2.2.2 (sy_e ρ e) = some z) (h1 : sy_e ρ z.1 = c) (h2 : sy_e ρ z.2.2.1 = c + 1) (h3 : sy_e ρ z.2.1 = n) (h4 : sy_e ρ z.2.2.2.1 = n) (h5 : 0 ≤ n) (h6 : n ≤ 11) (h7 : c = 0 → n ≤ 7) (hG : sy_Good x q (sz_tA S e c)) : pf_Fin x.1 x.2.1 x.2.2.1 x.2.2.2.1 x.2.2.2.2.1 x.2.2.2.2.2.1 cf d cc.1 cc.2.1 cc.2.2.1 cc.2.2.2 w := by
  obtain ⟨q1, q2, q3, q4, q5⟩ := sz_sh_ok hz
  have g1 := sz_qf_get hR.1.2.2.2.1 q1
  have g2 := sz_qf_get hR.1.2.2.2.1 q2
  have g3 := sz_qf_get hR.1.2.2.2.1 q3
  have g4 := sz_qf_get hR.1.2.2.2.1 q4
  rw [h1] at g1
  rw [h3] at g2
  rw [h2] at g3
  rw [h4] at g4
  refine sz_goD hw hR hd (v := n) h5 ?_ (fun ρ' k1 k2 f hf => ?_) hG
  · show n ≤ cond (qi_z c) 7 11
    cases hq : qi_z c with
    | true => exact h7 (qi_z_e.mp hq)
    | false => exact h6
  · have ex := sy_ext_l k1 hwe
    simp only [List.mem_cons, List.not_mem_nil, or_false] at hf
    rcases hf with rfl | rfl | rfl | rfl
    · show 0 ≤ sy_e ρ' e ∧ sy_get w 144 (sy_e ρ' e).toNat = some (.int (Int32.ofInt (sy_e ρ' (sy_c c))))
      rw [ex, sy_c_e]
      exact ⟨h0, g1⟩
    · show 0 ≤ sy_e ρ' e ∧ sy_get w 145 (sy_e ρ' e).toNat = some (.int (Int32.ofInt (sy_e ρ' (sy_x S.1.1.length))))
      rw [ex, sy_x_e, k2]
      exact ⟨h0, g2⟩
    · show 0 ≤ sy_e ρ' e ∧ sy_get w 176 (sy_e ρ' e).toNat = some (.int (Int32.ofInt (sy_e ρ' (sy_c (c + 1)))))
      rw [ex, sy_c_e]
      exact ⟨h0, g3⟩
    · show 0 ≤ sy_e ρ' e ∧ sy_get w 177 (sy_e ρ' e).toNat = some (.int (Int32.ofInt (sy_e ρ' (sy_x S.1.1.length))))
      rw [ex, sy_x_e, k2]
      exact ⟨h0, g4⟩
theorem sz_tB_go {ρ : Nat → Int} {τ : Nat → Int64} {w : px_W} {cc : pf_F} {cf : List pf_F} {d : Nat} {e : sy_L} {c u t : Int} {z : sy_L × sy_L × sy_L × sy_L × sy_L} (hw : sy_wS S = true) (hwe : sy_wl S.1.1.length e = true) (hR : sy_Rel q S ρ τ w cc cf) (hd : d + cf.length = x.2.2.2.2.2.2) (h0 : 0 ≤ sy_e ρ e) (hz : sz_sh S.1.2.2.2 (sy_e ρ e) = some z) (h1 : sy_e ρ z.1 = c) (h2 : sy_e ρ z.2.2.1 = u) (h3 : sy_e ρ z.2.2.2.2 = t) (h4 : -1 ≤ t) (h5 : t ≤ 4) (h6 : c = 5 → 0 ≤ t) (hG : sy_Good x q (sz_tB S e c u)) : pf_Fin x.1 x.2.1 x.2.2.1 x.2.2.2.1 x.2.2.2.2.1 x.2.2.2.2.2.1 cf d cc.1 cc.2.1 cc.2.2.1 cc.2.2.2 w := by
  obtain ⟨q1, q2, q3, q4, q5⟩ := sz_sh_ok hz
  have g1 := sz_qf_get hR.1.2.2.2.1 q1
  have g3 := sz_qf_get hR.1.2.2.2.1 q3
  have g5 := sz_qf_get hR.1.2.2.2.1 q5
  rw [h1] at g1
  rw [h2] at g3
  rw [h3] at g5
  refine sz_goD hw hR hd (v := t) ?_ h5 (fun ρ' k1 k2 f hf => ?_) hG
  · show cond (qi_eq c 5) 0 (-1) ≤ t
    cases hq : qi_eq c 5 with
    | true => exact h6 (qi_eq_e.mp hq)
    | false => exact h4
  · have ex := sy_ext_l k1 hwe
    simp only [List.mem_cons, List.not_mem_nil, or_false] at hf
    rcases hf with rfl | rfl | rfl
    · show 0 ≤ sy_e ρ' e ∧ sy_get w 144 (sy_e ρ' e).toNat = some (.int (Int32.ofInt (sy_e ρ' (sy_c c))))
      rw [ex, sy_c_e]
      exact ⟨h0, g1⟩
    · show 0 ≤ sy_e ρ' e ∧ sy_get w 176 (sy_e ρ' e).toNat = some (.int (Int32.ofInt (sy_e ρ' (sy_c u))))
      rw [ex, sy_c_e]
      exact ⟨h0, g3⟩
    · show 0 ≤ sy_e ρ' e ∧ sy_get w 146 (sy_e ρ' e).toNat = some (.int (Int32.ofInt (sy_e ρ' (sy_x S.1.1.length))))
      rw [ex, sy_x_e, k2]
      exact ⟨h0, g5⟩
theorem sz_8_ok (h : sz_8 q.2.1 S = some l) : sy_S1 x q S l := by
  intro hG
  unfold sz_8 at h
  split at h
  · rename_i e he
    split at h
    · rename_i b hb
      obtain ⟨h1, h2⟩ := sz_cn h
      obtain ⟨a1, h1⟩ := qx_and h1
      obtain ⟨a2, h1⟩ := qx_and h1
      obtain ⟨a3, h1⟩ := qx_and h1
      obtain ⟨hw, h1⟩ := qx_and h1
      obtain ⟨o0, h1⟩ := qx_and h1
      obtain ⟨o1, h1⟩ := qx_and h1
      obtain ⟨o2, o3⟩ := qx_and h1
      have a1 := qi_le_e.mp a1
      have a2 := qi_le_e.mp a2
      have a3 := Nat.le_of_ble_eq_true a3
      obtain ⟨-, h2⟩ := sz_no h2
      cases h2
      have hwe : sy_wl S.1.1.length e = true := by
        have c1 := hw
        rw [sy_wS_eq] at c1
        unfold sy_wS0 sy_wf at c1
        simp only [Bool.and_eq_true] at c1
        have hm := px_look_mem he
        exact List.all_eq_true.mp c1.2.1.1 _ hm
      intro ρ τ w c cf d hR hd
      have hlen : w.length ≤ 8589934592 := by rw [hR.1.2.2.2.2.1.1]; exact a3
      obtain ⟨b1, b2⟩ := sy_b_e hR.1.2.1 hb
      have hj : sz_ok8 S.1.1 S.1.2.2.2 (sy_e ρ e) = true := by
        have : sy_e ρ e = 0 ∨ sy_e ρ e = 1 ∨ sy_e ρ e = 2 ∨ sy_e ρ e = 3 := by omega
        rcases this with hh | hh | hh | hh <;> rw [hh] <;> assumption
      unfold sz_ok8 at hj
      split at hj
      · rename_i z hz
        obtain ⟨r1, r2⟩ := qx_and hj
        obtain ⟨c1, c2, c3, c4, c5⟩ := sz_rs_ok hR.1.2.1 r1
        have hG' : ∀ S' ∈ [sz_tA S e 0, sz_tA S e 1, sz_tA S e 2, sz_tA S e 3, sz_tA S e 4, sz_tB S e 5 0, sz_tB S e 5 6, sz_tB S e 6 0, sz_tB S e 6 6], sy_Good x q S' := hG
        simp only [List.forall_mem_cons] at hG'
        obtain ⟨G0, G1, G2, G3, G4, G5, G6, G7, G8, -⟩ := hG'
        rcases sz_word hlen hR.1.2.1 hR.1.2.2.2.1 r1 r2 with ⟨d1, d2, d3, d4⟩ | ⟨d1, d2, d3⟩
        · have hc : sy_e ρ z.1 = 0 ∨ sy_e ρ z.1 = 1 ∨ sy_e ρ z.1 = 2 ∨ sy_e ρ z.1 = 3 ∨ sy_e ρ z.1 = 4 := by omega
          rcases hc with hc | hc | hc | hc | hc
          · exact sz_tA_go hw hwe hR hd (by omega) hz hc (by rw [d2, hc]) d3 rfl (by omega) (by omega) (fun _ => d4 hc) G0
          · exact sz_tA_go hw hwe hR hd (by omega) hz hc (by rw [d2, hc]) d3 rfl (by omega) (by omega) (fun h => by omega) G1
          · exact sz_tA_go hw hwe hR hd (by omega) hz hc (by rw [d2, hc]) d3 rfl (by omega) (by omega) (fun h => by omega) G2
          · exact sz_tA_go hw hwe hR hd (by omega) hz hc (by rw [d2, hc]) d3 rfl (by omega) (by omega) (fun h => by omega) G3
          · exact sz_tA_go hw hwe hR hd (by omega) hz hc (by rw [d2, hc]) d3 rfl (by omega) (by omega) (fun h => by omega) G4
        · have hc : sy_e ρ z.1 = 5 ∨ sy_e ρ z.1 = 6 := by omega
          rcases hc with hc | hc
          · rcases d2 with d2 | d2
            · exact sz_tB_go hw hwe hR hd (by omega) hz hc d2 rfl (by omega) (by omega) (fun _ => d3 hc) G5
            · exact sz_tB_go hw hwe hR hd (by omega) hz hc d2 rfl (by omega) (by omega) (fun _ => d3 hc) G6
          · rcases d2 with d2 | d2
            · exact sz_tB_go hw hwe hR hd (by omega) hz hc d2 rfl (by omega) (by omega) (fun h => by omega) G7
            · exact sz_tB_go hw hwe hR hd (by omega) hz hc d2 rfl (by omega) (by omega) (fun h => by omega) G8
      · cases hj
    · cases h
  · cases h
/-- the word of a shelf that was laid anew -/
def sz_can (R : sy_T) (z : sy_L × sy_L × sy_L × sy_L × sy_L) : Bool := match sy_b R z.1, sy_b R z.2.2.1, sy_b R z.2.2.2.1, sy_b R z.2.2.2.2 with
  | some a, some b, some o, some t => cond (cond (qi_eq a.1 a.2) (cond (qi_eq b.1 b.2) (cond (qi_le a.1 4) (cond (qi_eq b.1 (qi_add a.1 1)) (cond (sy_eq R z.2.2.2.1 z.2.1) (cond (qi_z a.1) (qi_le o.2 7) true) false) false) false) false) false) true (cond (cond (qi_eq a.1 6) true (cond (qi_eq a.1 5) (cond (qi_eq a.2 5) (qi_le 0 t.1) false) false)) (cond (qi_eq b.1 b.2) (cond (qi_z b.1) true (qi_eq b.1 6)) false) false)
  | _, _, _, _ => false
theorem sz_can_ok {ρ : Nat → Int} {R : sy_T} {z : sy_L × sy_L × sy_L × sy_L × sy_L} (hR : sy_ok ρ R) (h1 : sz_rs R z = true) (h : sz_can R z = true) : 0 ≤ sy_e ρ (sz_pl z.1 z.2.2.1 z.2.2.2.1 z.2.1 z.2.2.2.2) ∧ sz_rel (sy_e ρ (sz_pl z.1 z.2.2.1 z.2.2.2.1 z.2.1 z.2.2.2.2)).toNat = true := by
  obtain ⟨c1, c2, c3, c4, c5⟩ := sz_rs_ok hR h1
  unfold sz_can at h
  split at h
  · rename_i a b o t e1 e2 e3 e4
    have b1 := sy_b_e hR e1
    have b2 := sy_b_e hR e2
    have b3 := sy_b_e hR e3
    have b4 := sy_b_e hR e4
    have key : (sy_e ρ z.1 ≤ 4 ∧ sy_e ρ z.2.2.1 = sy_e ρ z.1 + 1 ∧ sy_e ρ z.2.2.2.1 = sy_e ρ z.2.1 ∧ (sy_e ρ z.1 ≠ 0 ∨ sy_e ρ z.2.2.2.1 ≤ 7)) ∨ (5 ≤ sy_e ρ z.1 ∧ (sy_e ρ z.2.2.1 = 0 ∨ sy_e ρ z.2.2.1 = 6) ∧ (sy_e ρ z.1 ≠ 5 ∨ 0 ≤ sy_e ρ z.2.2.2.2)) := by
      rcases qx_or h with h | h
      · left
        obtain ⟨k1, h⟩ := qx_and h
        obtain ⟨k2, h⟩ := qx_and h
        obtain ⟨k3, h⟩ := qx_and h
        obtain ⟨k4, h⟩ := qx_and h
        obtain ⟨k5, k6⟩ := qx_and h
        have k1 := qi_eq_e.mp k1
        have k2 := qi_eq_e.mp k2
        have k3 := qi_le_e.mp k3
        have k4 := qi_eq_e.mp k4
        rw [qi_add_e] at k4
        have k5 := sy_eq_e hR k5
        refine ⟨by omega, by omega, k5, ?_⟩
        cases hz : qi_z a.1 with
        | true =>
          rw [hz] at k6
          right
          have k6 : qi_le o.2 7 = true := k6
          have := qi_le_e.mp k6
          omega
        | false =>
          left
          have := qi_z_n hz
          omega
      · right
        obtain ⟨k1, h⟩ := qx_and h
        obtain ⟨k2, k3⟩ := qx_and h
        have k2 := qi_eq_e.mp k2
        have k3' : b.1 = 0 ∨ b.1 = 6 := by
          rcases qx_or k3 with k3 | k3
          · left; exact qi_z_e.mp k3
          · right; exact qi_eq_e.mp k3
        rcases qx_or k1 with k1 | k1
        · have k1 := qi_eq_e.mp k1
          refine ⟨by omega, by omega, ?_⟩
          left; omega
        · obtain ⟨k1, k4⟩ := qx_and k1
          obtain ⟨k4, k5⟩ := qx_and k4
          have k1 := qi_eq_e.mp k1
          have k4 := qi_eq_e.mp k4
          have k5 := qi_le_e.mp k5
          refine ⟨by omega, by omega, ?_⟩
          right; omega
    rw [sz_pl_e]
    generalize sy_e ρ z.1 = H at *
    generalize sy_e ρ z.2.1 = N at *
    generalize sy_e ρ z.2.2.1 = S' at *
    generalize sy_e ρ z.2.2.2.1 = O at *
    generalize sy_e ρ z.2.2.2.2 = T' at *
    have e : (H + 8 * S' + (64 * O + 1024 * (T' + 1)) + 8192 * (O - N + 1099511627776)).toNat = H.toNat + 8 * S'.toNat + (64 * O.toNat + 1024 * (T' + 1).toNat) + 8192 * (O - N + 1099511627776).toNat := by omega
    refine ⟨by omega, ?_⟩
    rw [e, sz_rel_of (by omega) (by omega) (by omega) (by omega)]
    simp only [Bool.or_eq_true, Bool.and_eq_true, sz_bl, sz_be, sz_nb]
    rcases key with ⟨d1, d2, d3, d4⟩ | ⟨d1, d2, d3⟩
    · left
      exact ⟨by omega, by omega, by omega, by omega⟩
    · right
      exact ⟨by omega, by omega, by omega⟩
  · cases h
def sz_in (R : sy_T) (F : List sy_Fa) : List Int → Option sy_L
  | [] => none
  | j :: r => match sz_sh F j with
    | some z => cond (qx_any F (fun f => cond (Nat.beq f.1 68719476736) (sy_eq R f.2.1 (sz_pl z.1 z.2.2.1 z.2.2.2.1 z.2.1 z.2.2.2.2)) false)) (sz_in R F r) (cond (sz_rs R z) (cond (sz_can R z) (some (sz_pl z.1 z.2.2.1 z.2.2.2.1 z.2.1 z.2.2.2.2)) none) none)
    | none => none
theorem sz_in_ok {ρ : Nat → Int} {R : sy_T} {F : List sy_Fa} {p : sy_L} (hR : sy_ok ρ R) : ∀ l : List Int, sz_in R F l = some p → 0 ≤ sy_e ρ p ∧ sz_rel (sy_e ρ p).toNat = true
  | [], h => by cases h
  | j :: r, h => by
    unfold sz_in at h
    split at h
    · rename_i z hz
      rcases px_cond h with h | h
      · exact sz_in_ok hR r h
      · obtain ⟨h1, h⟩ := sz_cn h
        obtain ⟨h2, h⟩ := sz_cn h
        cases h
        exact sz_can_ok hR h1 h2
    · cases h
def sz_9 (A : List sy_Ce) (S : sy_S) : Option (List sy_S) := cond (sy_dead S.1) (some []) (cond (Nat.ble A.length 8589934592) (match sz_in S.1.1 S.1.2.2.2 [0, 1, 2, 3] with
  | some p => some [((S.1.1, S.1.2.1, S.1.2.2.1, (68719476736, p, .inl (sy_c 1)) :: S.1.2.2.2), S.2)]
  | none => none) none)
theorem sz_9_ok (h : sz_9 q.2.1 S = some l) : sy_S1 x q S l := by
  intro hG
  unfold sz_9 at h
  cases hd : sy_dead S.1 with
  | true => exact sy_dead_ok hd
  | false =>
    rw [hd] at h
    obtain ⟨h1, h⟩ := sz_cn h
    have h1 := Nat.le_of_ble_eq_true h1
    split at h
    · rename_i p hp
      cases h
      intro ρ τ w c cf d hR hd
      obtain ⟨p1, p2⟩ := sz_in_ok hR.1.2.1 _ hp
      refine hG _ List.mem_cons_self ρ τ w c cf d ⟨⟨hR.1.1, hR.1.2.1, hR.1.2.2.1, fun f hf => ?_, hR.1.2.2.2.2⟩, hR.2⟩ hd
      rcases List.mem_cons.mp hf with rfl | hf
      · refine ⟨p1, ?_⟩
        show sy_get w 68719476736 (sy_e ρ p).toNat = some (.int (Int32.ofInt (sy_e ρ (sy_c 1))))
        rw [sz_get8 (by rw [hR.1.2.2.2.2.1.1]; exact h1), p2, sy_c_e]
        rfl
      · exact hR.1.2.2.2.1 f hf
    · cases h
/-- a local as a place of cells that are the same on both sides -/
def sz_11 (kA kB : Nat) (o s : Int) (S : sy_S) : Option (List sy_S) := match px_look S.2.1.2.2.1 1 with
  | some (.inl ix) => (match sy_b S.1.1 ix with
    | some b => cond (cond (qi_le 0 b.1) (cond (qi_le b.2 300) (cond (qi_le 0 s) (cond (qi_le 0 o) (qi_le b.1 b.2) false) false) false) false) (cond (qx_any S.1.2.2.2 (fun f => cond (Nat.beq f.1 kA) (sy_eq S.1.1 f.2.1 ix) false)) none (cond (sy_wS S) (match sz_un S.1.1 S.1.2.2.2 kA kB o s (b.2 - b.1).toNat b.1 with
      | some r => some [sz_add S r [] [(kA, ix, .inl (sy_x S.1.1.length)), (kB, sy_add (sy_scl s ix) (sy_c o), .inl (sy_x S.1.1.length))]]
      | none => none) none)) none
    | none => none)
  | _ => none
theorem sz_11_ok {kA kB : Nat} {o s : Int} (h : sz_11 kA kB o s S = some l) : sy_S1 x q S l := by
  intro hG
  unfold sz_11 at h
  split at h
  · rename_i ix hlk
    split at h
    · rename_i b hb
      obtain ⟨h1, h2⟩ := sz_cn h
      obtain ⟨a1, h1⟩ := qx_and h1
      obtain ⟨a2, h1⟩ := qx_and h1
      obtain ⟨a3, h1⟩ := qx_and h1
      obtain ⟨a4, a5⟩ := qx_and h1
      have a1 := qi_le_e.mp a1
      have a3 := qi_le_e.mp a3
      have a4 := qi_le_e.mp a4
      have a5 := qi_le_e.mp a5
      obtain ⟨-, h2⟩ := sz_no h2
      obtain ⟨hw, h2⟩ := sz_cn h2
      split at h2
      · rename_i r hr
        cases h2
        intro ρ τ w c cf d hR hd
        obtain ⟨b1, b2⟩ := sy_b_e hR.1.2.1 hb
        have hwx : sy_wl S.1.1.length ix = true := by
          have c1 := hw
          rw [sy_wS_eq] at c1
          unfold sy_wS0 sy_wf at c1
          simp only [Bool.and_eq_true] at c1
          have hm := px_look_mem hlk
          exact List.all_eq_true.mp c1.2.1.1 _ hm
        obtain ⟨p, e1, e2, e3⟩ := sz_un_ok _ _ _ hr (sy_e ρ ix - b.1).toNat (by omega)
        rw [show b.1 + (((sy_e ρ ix - b.1).toNat : Nat) : Int) = sy_e ρ ix by omega] at e1
        obtain ⟨v, v1, v2, v3, v4⟩ := sz_one_ok e1
        obtain ⟨p1, p2⟩ := sy_b_e hR.1.2.1 v3
        have g1 := sz_qf_get hR.1.2.2.2.1 v1
        have g2 := sz_qf_get hR.1.2.2.2.1 v2
        refine sz_go (cs := []) hw hR hd (v := sy_e ρ v) (by omega) (by omega) (fun ρ' k1 k2 => ⟨fun e he => absurd he List.not_mem_nil, fun f hf => ?_⟩) (hG _ List.mem_cons_self)
        have ex := sy_ext_l k1 hwx
        rcases List.mem_cons.mp hf with rfl | hf
        · show 0 ≤ sy_e ρ' ix ∧ sy_get w kA (sy_e ρ' ix).toNat = some (.int (Int32.ofInt (sy_e ρ' (sy_x S.1.1.length))))
          rw [ex, sy_x_e, k2]
          exact ⟨by omega, g1⟩
        · rw [List.mem_singleton.mp hf]
          show 0 ≤ sy_e ρ' (sy_add (sy_scl s ix) (sy_c o)) ∧ sy_get w kB (sy_e ρ' (sy_add (sy_scl s ix) (sy_c o))).toNat = some (.int (Int32.ofInt (sy_e ρ' (sy_x S.1.1.length))))
          rw [sy_add_e, sy_scl_e, sy_c_e, ex, sy_x_e, k2, show s * sy_e ρ ix + o = o + s * sy_e ρ ix by omega]
          refine ⟨?_, g2⟩
          have : 0 ≤ s * sy_e ρ ix := Int.mul_nonneg a3 (by omega)
          omega
      · cases h2
    · cases h
  · cases h
/-! how many bits a number has: by the sum of its bits, and by halves (numbers below 4096) -/
def sz_us (x n : Int32) : Int32 := (x.toUInt32 >>> (n.toUInt32 &&& Int32.toUInt32 31)).toInt32
def sz_bc5 (i : Int32) : Int32 := (i + sz_us i 16) &&& 63
def sz_bc4 (i : Int32) : Int32 := sz_bc5 (i + sz_us i 8)
def sz_bc3 (i : Int32) : Int32 := sz_bc4 ((i + sz_us i 4) &&& 252645135)
def sz_bc2 (i : Int32) : Int32 := sz_bc3 ((i &&& 858993459) + (sz_us i 2 &&& 858993459))
def sz_bc (x : Int32) : Int32 := sz_bc2 (x - (sz_us x 1 &&& 1431655765))
def sz_on (x : Int32) : Nat → Int32
  | 0 => 0
  | n + 1 => sz_on x n + ((x >>> (Int32.ofInt (n : Int) &&& 31)) &&& 1)
def sz_rg (k n : Nat) : Bool := Nat.rec (motive := fun _ => Bool) true (fun j ih => cond (decide (sz_bc (Int32.ofInt ((k + j : Nat) : Int)) = sz_on (Int32.ofInt ((k + j : Nat) : Int)) 30)) ih false) n
theorem sz_rg_ok {k : Nat} : ∀ n : Nat, sz_rg k n = true → ∀ j, j < n → sz_bc (Int32.ofInt ((k + j : Nat) : Int)) = sz_on (Int32.ofInt ((k + j : Nat) : Int)) 30
  | 0, _, j, hj => absurd hj (Nat.not_lt_zero j)
  | n + 1, h, j, hj => by
    have h' : cond (decide (sz_bc (Int32.ofInt ((k + n : Nat) : Int)) = sz_on (Int32.ofInt ((k + n : Nat) : Int)) 30)) (sz_rg k n) false = true := h
    obtain ⟨h1, h2⟩ := qx_and h'
    by_cases e : j = n
    · rw [e]
      exact of_decide_eq_true h1
    · exact sz_rg_ok n h2 j (by omega)
set_option maxRecDepth 100000 in
theorem sz_rg0 : sz_rg 0 1024 = true := by decide +kernel
set_option maxRecDepth 100000 in
theorem sz_rg1 : sz_rg 1024 1024 = true := by decide +kernel
set_option maxRecDepth 100000 in
theorem sz_rg2 : sz_rg 2048 1024 = true := by decide +kernel
set_option maxRecDepth 100000 in
theorem sz_rg3 : sz_rg 3072 1024 = true := by decide +kernel
theorem sz_pop {v : Int} (h0 : 0 ≤ v) (h1 : v ≤ 4095) : sz_bc (Int32.ofInt v) = sz_on (Int32.ofInt v) 30 := by
  have key : ∀ n : Nat, n < 4096 → sz_bc (Int32.ofInt (n : Int)) = sz_on (Int32.ofInt (n : Int)) 30 := fun n hn => by
    by_cases a : n < 1024
    · have := sz_rg_ok _ sz_rg0 n a
      rw [Nat.zero_add] at this
      exact this
    · by_cases b : n < 2048
      · have := sz_rg_ok _ sz_rg1 (n - 1024) (by omega)
        rw [show 1024 + (n - 1024) = n by omega] at this
        exact this
      · by_cases c : n < 3072
        · have := sz_rg_ok _ sz_rg2 (n - 2048) (by omega)
          rw [show 2048 + (n - 2048) = n by omega] at this
          exact this
        · have := sz_rg_ok _ sz_rg3 (n - 3072) (by omega)
          rw [show 3072 + (n - 3072) = n by omega] at this
          exact this
  have := key v.toNat (by omega)
  rw [show ((v.toNat : Nat) : Int) = v by omega] at this
  exact this
def sz_lk (F : List sy_Fa) (k : Nat) (e : sy_L) : Option sy_L := match qx_find F (fun f => cond (Nat.beq f.1 k) (qy_leq f.2.1 e) false) with
  | some (_, _, .inl v) => some v
  | _ => none
theorem sz_lk_ok {F : List sy_Fa} {k : Nat} {e v : sy_L} (h : sz_lk F k e = some v) : (k, e, .inl v) ∈ F := by
  unfold sz_lk at h
  split at h
  · rename_i k' p' v' hf
    cases h
    rw [qx_find_e] at hf
    have h1 := List.mem_of_find?_eq_some hf
    have h2 := qx_and (List.find?_some (p := fun f : sy_Fa => cond (Nat.beq f.1 k) (qy_leq f.2.1 e) false) hf)
    have h3 : k' = k := Nat.eq_of_beq_eq_true h2.1
    have h4 : p' = e := qy_leq_e h2.2
    rw [h3, h4] at h1
    exact h1
  · cases h
def sz_st (F : List sy_Fa) (o c : Nat) (e : sy_L) : Option sy_L := sz_lk F (o * 8589934592 + 2147483648 + c) (sy_add e (sy_c 2147483648))
def sz_nd (F : List sy_Fa) (e : sy_L) : sy_L := match sz_lk F 34359738368 (sy_add e (sy_c 1099511627776)) with
  | some v => v
  | none => e
section ZB
variable {ρ : Nat → Int} {τ : Nat → Int64} {w : px_W} {F : List sy_Fa}
theorem sz_gp {k i : Nat} (hlen : w.length ≤ 8589934592) (hk : 8589934592 ≤ k) : sy_get w k i = sy_px k i := by
  have h2 : w[k]? = none := List.getElem?_eq_none (by omega)
  unfold sy_get
  rw [h2]
theorem sz_st_1 {c : Nat} {e v : sy_L} (hlen : w.length ≤ 8589934592) (hF : sy_fok ρ τ w F) (hc : c < 2147483648) (h : sz_st F 1 c e = some v) : Int32.ofInt (sy_e ρ v) = Int32.ofInt (sy_e ρ e) >>> (Int32.ofInt (c : Int) &&& 31) := by
  obtain ⟨g1, g2⟩ := hF _ (sz_lk_ok h)
  dsimp only at g1 g2
  rw [sy_add_e, sy_c_e] at g1 g2
  rw [sz_gp hlen (by omega)] at g2
  unfold sy_px at g2
  rw [show (1 * 8589934592 + 2147483648 + c) / 8589934592 = 1 by omega, show (1 * 8589934592 + 2147483648 + c) % 8589934592 = 2147483648 + c by omega] at g2
  rw [show (((sy_e ρ e + 2147483648).toNat : Nat) : Int) - 2147483648 = sy_e ρ e by omega, show (((2147483648 + c : Nat) : Int) - 2147483648) = (c : Int) by omega] at g2
  have g3 := Option.some.inj g2
  injection g3 with g3
  exact g3.symm
theorem sz_st_2 {c : Nat} {e v : sy_L} (hlen : w.length ≤ 8589934592) (hF : sy_fok ρ τ w F) (hc : c < 2147483648) (h : sz_st F 2 c e = some v) : Int32.ofInt (sy_e ρ v) = Int32.ofInt (sy_e ρ e) &&& Int32.ofInt (c : Int) := by
  obtain ⟨g1, g2⟩ := hF _ (sz_lk_ok h)
  dsimp only at g1 g2
  rw [sy_add_e, sy_c_e] at g1 g2
  rw [sz_gp hlen (by omega)] at g2
  unfold sy_px at g2
  rw [show (2 * 8589934592 + 2147483648 + c) / 8589934592 = 2 by omega, show (2 * 8589934592 + 2147483648 + c) % 8589934592 = 2147483648 + c by omega] at g2
  rw [show (((sy_e ρ e + 2147483648).toNat : Nat) : Int) - 2147483648 = sy_e ρ e by omega, show (((2147483648 + c : Nat) : Int) - 2147483648) = (c : Int) by omega] at g2
  have g3 := Option.some.inj g2
  injection g3 with g3
  exact g3.symm
theorem sz_st_3 {c : Nat} {e v : sy_L} (hlen : w.length ≤ 8589934592) (hF : sy_fok ρ τ w F) (hc : c < 2147483648) (h : sz_st F 3 c e = some v) : Int32.ofInt (sy_e ρ v) = sz_us (Int32.ofInt (sy_e ρ e)) (Int32.ofInt (c : Int)) := by
  obtain ⟨g1, g2⟩ := hF _ (sz_lk_ok h)
  dsimp only at g1 g2
  rw [sy_add_e, sy_c_e] at g1 g2
  rw [sz_gp hlen (by omega)] at g2
  unfold sy_px at g2
  rw [show (3 * 8589934592 + 2147483648 + c) / 8589934592 = 3 by omega, show (3 * 8589934592 + 2147483648 + c) % 8589934592 = 2147483648 + c by omega] at g2
  rw [show (((sy_e ρ e + 2147483648).toNat : Nat) : Int) - 2147483648 = sy_e ρ e by omega, show (((2147483648 + c : Nat) : Int) - 2147483648) = (c : Int) by omega] at g2
  have g3 := Option.some.inj g2
  injection g3 with g3
  exact g3.symm
theorem sz_nd_ok {e : sy_L} (hlen : w.length ≤ 8589934592) (hF : sy_fok ρ τ w F) : Int32.ofInt (sy_e ρ (sz_nd F e)) = Int32.ofInt (sy_e ρ e) := by
  unfold sz_nd
  split
  · rename_i v h
    obtain ⟨g1, g2⟩ := hF _ (sz_lk_ok h)
    dsimp only at g1 g2
    rw [sy_add_e, sy_c_e] at g1 g2
    rw [sz_gp hlen (by omega)] at g2
    have g3 : some (Value.int (Int32.ofInt (((sy_e ρ e + 1099511627776).toNat : Int) - 1099511627776))) = some (sy_v ρ τ (.inl v)) := g2
    rw [show (((sy_e ρ e + 1099511627776).toNat : Nat) : Int) - 1099511627776 = sy_e ρ e by omega] at g3
    have g4 := Option.some.inj g3
    injection g4 with g4
    exact g4.symm
  · rfl
def sz_bcf (F : List sy_Fa) (v : sy_L) : Option sy_L := match sz_st F 3 1 v with
  | some a1 => (match sz_st F 2 1431655765 a1 with
    | some a2 => (match sz_st F 2 858993459 (sz_nd F (sy_sub v a2)), sz_st F 3 2 (sz_nd F (sy_sub v a2)) with
      | some a3, some a4 => (match sz_st F 2 858993459 a4 with
        | some a5 => (match sz_st F 3 4 (sz_nd F (sy_add a3 a5)) with
          | some a6 => (match sz_st F 2 252645135 (sz_nd F (sy_add (sz_nd F (sy_add a3 a5)) a6)) with
            | some a7 => (match sz_st F 3 8 a7 with
              | some a8 => (match sz_st F 3 16 (sz_nd F (sy_add a7 a8)) with
                | some a9 => sz_st F 2 63 (sz_nd F (sy_add (sz_nd F (sy_add a7 a8)) a9))
                | none => none)
              | none => none)
            | none => none)
          | none => none)
        | none => none)
      | _, _ => none)
    | none => none)
  | none => none
theorem sz_bcf_ok {v r : sy_L} (hlen : w.length ≤ 8589934592) (hF : sy_fok ρ τ w F) (h : sz_bcf F v = some r) : Int32.ofInt (sy_e ρ r) = sz_bc (Int32.ofInt (sy_e ρ v)) := by
  unfold sz_bcf at h
  split at h
  · rename_i a1 h1
    split at h
    · rename_i a2 h2
      split at h
      · rename_i a3 a4 h3 h4
        split at h
        · rename_i a5 h5
          split at h
          · rename_i a6 h6
            split at h
            · rename_i a7 h7
              split at h
              · rename_i a8 h8
                split at h
                · rename_i a9 h9
                  have e1 := sz_st_3 hlen hF (by decide) h1
                  have e2 := sz_st_2 hlen hF (by decide) h2
                  have e3 := sz_st_2 hlen hF (by decide) h3
                  have e4 := sz_st_3 hlen hF (by decide) h4
                  have e5 := sz_st_2 hlen hF (by decide) h5
                  have e6 := sz_st_3 hlen hF (by decide) h6
                  have e7 := sz_st_2 hlen hF (by decide) h7
                  have e8 := sz_st_3 hlen hF (by decide) h8
                  have e9 := sz_st_3 hlen hF (by decide) h9
                  have e10 := sz_st_2 hlen hF (by decide) h
                  rw [sz_nd_ok hlen hF, sy_sub_e, Int32.ofInt_sub] at e3 e4
                  rw [sz_nd_ok hlen hF, sy_add_e, Int32.ofInt_add] at e6 e7 e9 e10
                  rw [sz_nd_ok hlen hF, sy_add_e, Int32.ofInt_add] at e7 e10
                  rw [e10, e9, e8, e7, e6, e5, e4, e3, e2, e1]
                  rfl
                · cases h
              · cases h
            · cases h
          · cases h
        · cases h
      · cases h
    · cases h
  · cases h
def sz_onf (F : List sy_Fa) (v : sy_L) : Nat → Option sy_L
  | 0 => some (sy_c 0)
  | n + 1 => match sz_onf F v n, sz_st F 1 n v with
    | some s, some t => (match sz_st F 2 1 t with
      | some u => some (sy_add s u)
      | none => none)
    | _, _ => none
theorem sz_onf_ok {v : sy_L} (hlen : w.length ≤ 8589934592) (hF : sy_fok ρ τ w F) : ∀ (n : Nat) (r : sy_L), n ≤ 31 → sz_onf F v n = some r → Int32.ofInt (sy_e ρ r) = sz_on (Int32.ofInt (sy_e ρ v)) n
  | 0, r, _, h => by
    cases h
    rw [sy_c_e]
    rfl
  | n + 1, r, hn, h => by
    unfold sz_onf at h
    split at h
    · rename_i s t hs ht
      split at h
      · rename_i u hu
        cases h
        have e1 := sz_st_1 hlen hF (by omega) ht
        have e2 := sz_st_2 hlen hF (by decide) hu
        have e3 := sz_onf_ok hlen hF n s (by omega) hs
        rw [sy_add_e, Int32.ofInt_add, e3, e2, e1]
        rfl
      · cases h
    · cases h
end ZB
def sz_t12 (R : sy_T) (F : List sy_Fa) (a b v : sy_L) : Bool := match sy_b R v with
  | some p => cond (qi_le 0 p.1) (cond (qi_le p.2 4095) (match sz_bcf F v, sz_onf F v 30 with
    | some x, some y => cond (qy_leq x a) (qy_leq y b) false
    | _, _ => false) false) false
  | none => false
/-- the same number of bits -/
def sz_12 (A : List sy_Ce) (S : sy_S) : Option (List sy_S) := match S.2.1.2.2.2 with
  | .inl b :: .inl a :: r => cond (qy_leq a b) none (cond (Nat.ble A.length 8589934592) (cond (qx_any S.1.2.2.2 (fun f => cond (Nat.beq f.1 27917287425) (sz_t12 S.1.1 S.1.2.2.2 a b (sy_sub f.2.1 (sy_c 2147483648))) false)) (some [(S.1, (S.2.1.1, S.2.1.2.1, S.2.1.2.2.1, .inl a :: .inl a :: r), S.2.2)]) none) none)
  | _ => none
theorem sz_12_ok (h : sz_12 q.2.1 S = some l) : sy_S1 x q S l := by
  intro hG
  unfold sz_12 at h
  split at h
  · rename_i b a r hst
    obtain ⟨-, h⟩ := sz_no h
    obtain ⟨h1, h⟩ := sz_cn h
    obtain ⟨h2, h⟩ := sz_cn h
    have h1 := Nat.le_of_ble_eq_true h1
    cases h
    rw [qx_any_e] at h2
    obtain ⟨f, hf, h2⟩ := List.any_eq_true.mp h2
    obtain ⟨-, h2⟩ := qx_and h2
    unfold sz_t12 at h2
    split at h2
    · rename_i p hp
      obtain ⟨a1, h2⟩ := qx_and h2
      obtain ⟨a2, h2⟩ := qx_and h2
      split at h2
      · rename_i y z hy hz
        obtain ⟨b1, b2⟩ := qx_and h2
        have b1 := qy_leq_e b1
        have b2 := qy_leq_e b2
        rw [b1] at hy
        rw [b2] at hz
        have a1 := qi_le_e.mp a1
        have a2 := qi_le_e.mp a2
        intro ρ τ w c cf d hR hd
        have hlen : w.length ≤ 8589934592 := by rw [hR.1.2.2.2.2.1.1]; exact h1
        have pb := sy_b_e hR.1.2.1 hp
        have k1 := sz_bcf_ok hlen hR.1.2.2.2.1 hy
        have k2 := sz_onf_ok hlen hR.1.2.2.2.1 30 _ (by omega) hz
        have k3 := sz_pop (v := sy_e ρ (sy_sub f.2.1 (sy_c 2147483648))) (by omega) (by omega)
        have k4 : Int32.ofInt (sy_e ρ b) = Int32.ofInt (sy_e ρ a) := by rw [k1, k2, k3]
        refine hG _ List.mem_cons_self ρ τ w c cf d ⟨hR.1, ⟨hR.2.1.1, hR.2.1.2.1, hR.2.1.2.2.1, ?_⟩, hR.2.2⟩ hd
        have f4 : c.2.2.2 = S.2.1.2.2.2.map (sy_v ρ τ) := hR.2.1.2.2.2
        rw [hst, List.map_cons, List.map_cons] at f4
        show c.2.2.2 = (.inl a :: .inl a :: r).map (sy_v ρ τ)
        rw [List.map_cons, List.map_cons, f4]
        congr 1
        show Value.int (Int32.ofInt (sy_e ρ b)) = Value.int (Int32.ofInt (sy_e ρ a))
        rw [k4]
      · cases h2
    · cases h2
  · cases h
/-- rules at chosen places, the number of a place: the rule, and 16 times what goes with it -/
def sy_zq (A : List sy_Ce) (zs : List (Nat × Nat × Nat)) (i : Instr) (len : Nat) (S : sy_S) : Option (List sy_S) := match qx_find zs (fun p => cond (Nat.beq p.1 S.2.1.1) (Nat.beq p.2.1 S.2.1.2.1) false) with
  | some p => cond (Nat.ble p.2.2 5) (sy_zp zs i len S) (cond (Nat.beq (p.2.2 % 16) 6) (sz_6 (p.2.2 / 16 % 256) ((p.2.2 / 65536 : Nat) : Int) ((p.2.2 / 4096 % 16 : Nat) : Int) S) (cond (Nat.beq (p.2.2 % 16) 7) (sz_7 A S) (cond (Nat.beq (p.2.2 % 16) 12) (sz_12 A S) (cond (Nat.beq (p.2.2 % 16) 8) (sz_8 A S) (cond (Nat.beq (p.2.2 % 16) 9) (sz_9 A S) (cond (Nat.beq (p.2.2 % 16) 11) (sz_11 (p.2.2 / 16 % 256) (p.2.2 / 4096 % 256) ((p.2.2 / 16777216 : Nat) : Int) ((p.2.2 / 1048576 % 16 : Nat) : Int) S) (sz_10 (p.2.2 / 16) S)))))))
  | none => none
theorem sy_zq_ok {zs : List (Nat × Nat × Nat)} (hM : q.1[S.2.1.1]? = some M) (hq : px_look M.2.1 S.2.1.2.1 = some (i, len)) (h : sy_zq q.2.1 zs i len S = some l) : sy_S1 x q S l := by
  unfold sy_zq at h
  split at h
  · rcases px_cond h with h | h
    · exact sy_zp_ok hM hq h
    rcases px_cond h with h | h
    · exact sz_6_ok h
    rcases px_cond h with h | h
    · exact sz_7_ok h
    rcases px_cond h with h | h
    · exact sz_12_ok h
    rcases px_cond h with h | h
    · exact sz_8_ok h
    rcases px_cond h with h | h
    · exact sz_9_ok h
    rcases px_cond h with h | h
    · exact sz_11_ok h
    · exact sz_10_ok h
  · cases h
theorem sy_wl_mono {N N' : Nat} (h : N ≤ N') {e : sy_L} (hw : sy_wl N e = true) : sy_wl N' e = true := by
  unfold sy_wl at hw ⊢
  refine List.all_eq_true.mpr (fun t ht => ?_)
  have := of_decide_eq_true (List.all_eq_true.mp hw t ht)
  exact decide_eq_true (by omega)
/-- sums that are kept in mind -/
def sy_bo : Nat → Instr
  | 0 => .iand
  | 1 => .ior
  | 2 => .ixor
  | 3 => .imul
  | 4 => .idiv
  | 5 => .irem
  | 6 => .ishl
  | 7 => .ishr
  | _ => .iushr
def sy_ob (i : Instr) : Option Nat := match i with
  | .iand => some 0
  | .ior => some 1
  | .ixor => some 2
  | .imul => some 3
  | .idiv => some 4
  | .irem => some 5
  | .ishl => some 6
  | .ishr => some 7
  | .iushr => some 8
  | _ => none
theorem sy_ob_ok {i : Instr} {k : Nat} (h : sy_ob i = some k) : i = sy_bo k ∧ px_so1 i = 1 := by
  unfold sy_ob at h
  split at h <;> first | (cases h; exact ⟨rfl, rfl⟩) | (cases h)
/-- what was read or done: 0 and a place of the script, or what was done and with which two; the symbol for it -/
abbrev sy_Me : Type := Nat × sy_L × sy_L × Nat
def sy_tk (xs : List Int32) (ρs : Nat → Int) (t : sy_Me) : Prop := match t.1 with
  | 0 => xs.getD (sy_e ρs t.2.1).toNat 0 = Int32.ofInt (ρs t.2.2.2)
  | k + 1 => px_bin (sy_bo k) (Int32.ofInt (sy_e ρs t.2.1)) (Int32.ofInt (sy_e ρs t.2.2.1)) = some (Int32.ofInt (ρs t.2.2.2))
theorem sy_tk_ext {xs : List Int32} {ρ ρ' : Nat → Int} {N : Nat} (h : ∀ i, i < N → ρ' i = ρ i) {t : sy_Me} (h1 : sy_wl N t.2.1 = true) (h2 : sy_wl N t.2.2.1 = true) (h3 : t.2.2.2 < N) (ht : sy_tk xs ρ t) : sy_tk xs ρ' t := by
  obtain ⟨k, a, b, s⟩ := t
  dsimp only at h1 h2 h3
  cases k with
  | zero =>
    show xs.getD (sy_e ρ' a).toNat 0 = Int32.ofInt (ρ' s)
    rw [sy_ext_l h h1, h s h3]
    exact ht
  | succ k =>
    show px_bin (sy_bo k) (Int32.ofInt (sy_e ρ' a)) (Int32.ofInt (sy_e ρ' b)) = some (Int32.ofInt (ρ' s))
    rw [sy_ext_l h h1, sy_ext_l h h2, h s h3]
    exact ht
/-- what is kept in mind; how many symbols are fixed; the state -/
abbrev sy_St : Type := List sy_Me × Nat × sy_S
def sy_tv (xs : List Int32) (ρc : Nat → Int) (Nc : Nat) (T : List sy_Me) (N : Nat) (ρs : Nat → Int) : Prop := (Nc ≤ N ∧ ∀ i, i < Nc → ρs i = ρc i) ∧ ∀ t ∈ T, sy_wl N t.2.1 = true ∧ sy_wl N t.2.2.1 = true ∧ t.2.2.2 < N ∧ sy_tk xs ρs t
abbrev sy_Q4 : Type := List px_M × List sy_Ce × sy_Wr × px_W
def sy_q6 (q : sy_Q4) (ρs : Nat → Int) (N : Nat) : sy_Q := (q.1, q.2.1, q.2.2.1, q.2.2.2, ρs, N)
def sy_GT (x : sy_X) (q : sy_Q4) (xs : List Int32) (ρc : Nat → Int) (Nc : Nat) (z : sy_St) : Prop := ∀ ρs : Nat → Int, sy_tv xs ρc Nc z.1 z.2.1 ρs → sy_Good x (sy_q6 q ρs z.2.1) z.2.2
def sy_lift (z : sy_St) (o : Option (List sy_S)) : Option (List sy_St) := o.map (fun l => l.map (fun s => (z.1, z.2.1, s)))
theorem sy_lift_ok {q : sy_Q4} {xs : List Int32} {ρc : Nat → Int} {Nc : Nat} {z : sy_St} {o : Option (List sy_S)} {l' : List sy_St} (h : sy_lift z o = some l') (hS : ∀ l, o = some l → ∀ ρs, sy_S1 x (sy_q6 q ρs z.2.1) z.2.2 l) (hG : ∀ z' ∈ l', sy_GT x q xs ρc Nc z') : sy_GT x q xs ρc Nc z := by
  obtain ⟨l, hl, rfl⟩ := Option.map_eq_some_iff.mp h
  intro ρs hv
  exact hS l hl ρs (fun S' hS' => hG (z.1, z.2.1, S') (List.mem_map.mpr ⟨S', hS', rfl⟩) ρs hv)
/-- reads of the script -/
def sy_uT (i : Instr) (len : Nat) (z : sy_St) : Option (List sy_St) := match i, z.2.2.2.1.2.2.2 with
  | .arraylength, .inr (.inl 0) :: _ => sy_lift z (sy_uQ i len z.2.2)
  | .iaload, .inl ix :: .inr (.inl 0) :: r => if len = 1 ∧ z.2.2.2.2 = [] ∧ sy_wS z.2.2 = true ∧ sy_pos z.2.2.1.1 z.2.2.1.2.2.1 ix = true ∧ sy_pos z.2.2.1.1 z.2.2.1.2.2.1 (sy_add (sy_sub (sy_x 0) ix) (sy_c (-1))) = true then (match z.1.find? (fun t => decide (t.1 = 0) && decide (t.2.1 = ix)) with
    | some t => some [(z.1, z.2.1, sy_at z.2.2 z.2.2.1 (z.2.2.2.1.2.1 + 1) z.2.2.2.1.2.2.1 (.inl (sy_x t.2.2.2) :: r))]
    | none => some [((0, ix, ix, z.2.2.1.1.length) :: z.1, z.2.2.1.1.length + 1, sy_at z.2.2 (sy_new z.2.2.1 sy_full) (z.2.2.2.1.2.1 + 1) z.2.2.2.1.2.2.1 (.inl (sy_x z.2.2.1.1.length) :: r))]) else none
  | _, _ => none
theorem sy_uT_ok {q : sy_Q4} {xs : List Int32} {ρc : Nat → Int} {Nc : Nat} {z : sy_St} {l' : List sy_St} (hx : x.2.2.2.1 = some xs) (hlen : xs.length ≤ 3072) (hN : 1 ≤ Nc ∧ ρc 0 = xs.length) (hM : q.1[z.2.2.2.1.1]? = some M) (hq : px_look M.2.1 z.2.2.2.1.2.1 = some (i, len)) (h : sy_uT i len z = some l') (hG : ∀ z' ∈ l', sy_GT x q xs ρc Nc z') : sy_GT x q xs ρc Nc z := by
  unfold sy_uT at h
  split at h
  · rename_i r hst
    intro ρs hv
    obtain ⟨l, hl, rfl⟩ := Option.map_eq_some_iff.mp h
    exact sy_uQ_ok (q := sy_q6 q ρs z.2.1) hx hlen ⟨Nat.le_trans hN.1 hv.1.1, by show ρs 0 = _; rw [hv.1.2 0 (by omega)]; exact hN.2⟩ hM hq hl (fun S' hS' => hG (z.1, z.2.1, S') (List.mem_map.mpr ⟨S', hS', rfl⟩) ρs hv)
  · rename_i ix r hst
    split at h
    · rename_i hc
      obtain ⟨h1, hfs, hw, p1, p2⟩ := hc
      subst h1
      have hwx : sy_wl z.2.2.1.1.length ix = true := sy_wst hw (by rw [hst]; exact List.mem_cons_self)
      split at h
      · rename_i t ht
        cases h
        have htm := List.mem_of_find?_eq_some ht
        have hte0 := List.find?_some (p := fun t : sy_Me => decide (t.1 = 0) && decide (t.2.1 = ix)) ht
        rw [Bool.and_eq_true] at hte0
        have hte1 : t.1 = 0 := of_decide_eq_true hte0.1
        have hte : t.2.1 = ix := of_decide_eq_true hte0.2
        intro ρs hv
        obtain ⟨t1, -, t2, t4⟩ := hv.2 t htm
        have t3 : xs.getD (sy_e ρs t.2.1).toNat 0 = Int32.ofInt (ρs t.2.2.2) := by
          unfold sy_tk at t4
          rw [hte1] at t4
          exact t4
        refine sy_open (S := z.2.2) (q := sy_q6 q ρs z.2.1) (fun ρ τ w lc cf d hm hl hf hd => ?_) hM
        have hcf : cf = [] := by rw [hfs] at hf; exact sy_frs_nil hf
        have hag : ∀ i, i < z.2.1 → ρ i = ρs i := hm.1.2
        have h0 : ρ 0 = xs.length := by rw [hag 0 (by have := hv.1.1; omega), hv.1.2 0 (by omega)]; exact hN.2
        have a1 := sy_pos_e hm.2.1 hm.2.2.1 p1
        have a2 := sy_pos_e hm.2.1 hm.2.2.1 p2
        rw [sy_add_e, sy_sub_e, sy_x_e, sy_c_e, h0] at a2
        obtain ⟨x1, x2⟩ := px_ix_of (z := sy_e ρ ix) (n := xs.length) a1 (by omega) (by omega)
        have e5 : xs.getD (sy_e ρ ix).toNat 0 = Int32.ofInt (ρ t.2.2.2) := by
          rw [← hte, sy_ext_l hag t1, t3, hag t.2.2.2 t2]
        have hu := sy_use (S := z.2.2) (q := sy_q6 q ρs z.2.1) (hG _ List.mem_cons_self ρs hv) hM hm hl hf hd
        have e3 : (.inl (sy_x t.2.2.2) :: r : List sy_A).map (sy_v ρ τ) = .int (xs.getD (sy_e ρ ix).toNat 0) :: r.map (sy_v ρ τ) := by
          show Value.int (Int32.ofInt (sy_e ρ (sy_x t.2.2.2))) :: r.map (sy_v ρ τ) = _
          rw [sy_x_e, e5]
        rw [e3] at hu
        refine (fun hs : px_s2 x.1 x.2.1 .iaload 1 (pf_scr x.2.2.2.1 cf) M.1.1.name M.1.1.cls M.2.2 (z.2.2.2.1.2.2.2.map (sy_v ρ τ)) w = some (.int (xs.getD (sy_e ρ ix).toNat 0) :: r.map (sy_v ρ τ), w, 0, 0) => pf_next (px_step_2 hq rfl hs) hu) ?_
        rw [hst, hcf, hx]
        show (if px_ix (Int32.ofInt (sy_e ρ ix)) xs.length = true then some (Value.int (xs.getD (Int32.ofInt (sy_e ρ ix)).toNatClampNeg 0) :: r.map (sy_v ρ τ), w, 0, 0) else none) = _
        rw [if_pos x1, x2]
      · cases h
        intro ρs hv
        refine sy_open (S := z.2.2) (q := sy_q6 q ρs z.2.1) (fun ρ τ w lc cf d hm hl hf hd => ?_) hM
        have hcf : cf = [] := by rw [hfs] at hf; exact sy_frs_nil hf
        have hag : ∀ i, i < z.2.1 → ρ i = ρs i := hm.1.2
        have hNl : z.2.1 ≤ z.2.2.1.1.length := hm.1.1
        have h0 : ρ 0 = xs.length := by rw [hag 0 (by have := hv.1.1; omega), hv.1.2 0 (by omega)]; exact hN.2
        have a1 := sy_pos_e hm.2.1 hm.2.2.1 p1
        have a2 := sy_pos_e hm.2.1 hm.2.2.1 p2
        rw [sy_add_e, sy_sub_e, sy_x_e, sy_c_e, h0] at a2
        obtain ⟨x1, x2⟩ := px_ix_of (z := sy_e ρ ix) (n := xs.length) a1 (by omega) (by omega)
        have hb := sy_full_in (xs.getD (sy_e ρ ix).toNat 0)
        obtain ⟨ρ', e1, e2, hm', ⟨f1, f2, f3, f4⟩, hf'⟩ := sy_fresh (S := z.2.2) (q := sy_q6 q ρs z.2.1) (c := (M, z.2.2.2.1.2.1, lc, z.2.2.2.1.2.2.2.map (sy_v ρ τ))) hw ⟨hm, ⟨hM, rfl, hl, rfl⟩, hf⟩ hb.1 hb.2
        have f4' : z.2.2.2.1.2.2.2.map (sy_v ρ τ) = z.2.2.2.1.2.2.2.map (sy_v ρ' τ) := f4
        rw [hst] at f4'
        have hr : r.map (sy_v ρ τ) = r.map (sy_v ρ' τ) := (List.cons.inj (List.cons.inj f4').2).2
        have hag2 : ∀ i, i < z.2.1 → ρ' i = ρs i := fun i hi => by rw [e1 i (by omega)]; exact hag i hi
        have hv' : sy_tv xs ρc Nc ((0, ix, ix, z.2.2.1.1.length) :: z.1) (z.2.2.1.1.length + 1) ρ' := by
          refine ⟨⟨by have := hv.1.1; omega, fun i hi => by rw [hag2 i (by have := hv.1.1; omega)]; exact hv.1.2 i hi⟩, fun t ht => ?_⟩
          rcases List.mem_cons.mp ht with rfl | ht
          · refine ⟨sy_wl_mono (Nat.le_succ _) hwx, sy_wl_mono (Nat.le_succ _) hwx, Nat.lt_succ_self _, ?_⟩
            show xs.getD (sy_e ρ' ix).toNat 0 = Int32.ofInt (ρ' z.2.2.1.1.length)
            rw [sy_ext_l e1 hwx, e2, Int32.ofInt_toInt]
          · obtain ⟨t1, t2, t3, t4⟩ := hv.2 t ht
            exact ⟨sy_wl_mono (by omega) t1, sy_wl_mono (by omega) t2, by omega, sy_tk_ext hag2 t1 t2 t3 t4⟩
        have hm2 : sy_mem (sy_q6 q ρ' (z.2.2.1.1.length + 1)) (sy_new z.2.2.1 sy_full) ρ' τ w := ⟨⟨by show _ ≤ (z.2.2.1.1 ++ [sy_full]).length; rw [List.length_append]; exact Nat.le_refl _, fun _ _ => rfl⟩, hm'.2⟩
        have hu := sy_use (S := z.2.2) (q := sy_q6 q ρ' (z.2.2.1.1.length + 1)) (hG _ List.mem_cons_self ρ' hv') hM hm2 f3 hf' hd
        have e3 : (.inl (sy_x z.2.2.1.1.length) :: r : List sy_A).map (sy_v ρ' τ) = .int (xs.getD (sy_e ρ ix).toNat 0) :: r.map (sy_v ρ τ) := by
          show Value.int (Int32.ofInt (sy_e ρ' (sy_x z.2.2.1.1.length))) :: r.map (sy_v ρ' τ) = _
          rw [sy_x_e, e2, Int32.ofInt_toInt, hr]
        rw [e3] at hu
        refine (fun hs : px_s2 x.1 x.2.1 .iaload 1 (pf_scr x.2.2.2.1 cf) M.1.1.name M.1.1.cls M.2.2 (z.2.2.2.1.2.2.2.map (sy_v ρ τ)) w = some (.int (xs.getD (sy_e ρ ix).toNat 0) :: r.map (sy_v ρ τ), w, 0, 0) => pf_next (px_step_2 hq rfl hs) hu) ?_
        rw [hst, hcf, hx]
        show (if px_ix (Int32.ofInt (sy_e ρ ix)) xs.length = true then some (Value.int (xs.getD (Int32.ofInt (sy_e ρ ix)).toNatClampNeg 0) :: r.map (sy_v ρ τ), w, 0, 0) else none) = _
        rw [if_pos x1, x2]
    · cases h
  · cases h
/-- a sum that is kept in mind, at chosen places -/
def sy_uO (zs : List (Nat × Nat × Nat)) (i : Instr) (len : Nat) (z : sy_St) : Option (List sy_St) := if zs.any (fun p => p.1 == z.2.2.2.1.1 && (p.2.1 == z.2.2.2.1.2.1 && p.2.2 == 5)) = true then (match sy_ob i, z.2.2.2.1.2.2.2 with
  | some k, .inl b :: .inl a :: r => if len = 1 ∧ sy_wS z.2.2 = true then (match z.1.find? (fun t => decide (t.1 = k + 1) && (decide (t.2.1 = a) && decide (t.2.2.1 = b))) with
    | some t => some [(z.1, z.2.1, sy_at z.2.2 z.2.2.1 (z.2.2.2.1.2.1 + 1) z.2.2.2.1.2.2.1 (.inl (sy_x t.2.2.2) :: r))]
    | none => (match sy_bn z.2.2.1.1 i a b with
      | some rg => some [((k + 1, a, b, z.2.2.1.1.length) :: z.1, z.2.2.1.1.length + 1, sy_at z.2.2 (sy_new z.2.2.1 rg) (z.2.2.2.1.2.1 + 1) z.2.2.2.1.2.2.1 (.inl (sy_x z.2.2.1.1.length) :: r))]
      | none => none)) else none
  | _, _ => none) else none
theorem sy_uO_ok {q : sy_Q4} {xs : List Int32} {ρc : Nat → Int} {Nc : Nat} {zs : List (Nat × Nat × Nat)} {z : sy_St} {l' : List sy_St} (hM : q.1[z.2.2.2.1.1]? = some M) (hq : px_look M.2.1 z.2.2.2.1.2.1 = some (i, len)) (h : sy_uO zs i len z = some l') (hG : ∀ z' ∈ l', sy_GT x q xs ρc Nc z') : sy_GT x q xs ρc Nc z := by
  unfold sy_uO at h
  split at h
  · split at h
    · rename_i k b a r hk hst
      obtain ⟨hi, h1⟩ := sy_ob_ok hk
      split at h
      · rename_i hc
        obtain ⟨hl1, hw⟩ := hc
        subst hl1
        have hwa : sy_wl z.2.2.1.1.length a = true := sy_wst hw (by rw [hst]; exact List.mem_cons_of_mem _ List.mem_cons_self)
        have hwb : sy_wl z.2.2.1.1.length b = true := sy_wst hw (by rw [hst]; exact List.mem_cons_self)
        split at h
        · rename_i t ht
          cases h
          have htm := List.mem_of_find?_eq_some ht
          have hte0 := List.find?_some (p := fun t : sy_Me => decide (t.1 = k + 1) && (decide (t.2.1 = a) && decide (t.2.2.1 = b))) ht
          rw [Bool.and_eq_true, Bool.and_eq_true] at hte0
          have hte1 : t.1 = k + 1 := of_decide_eq_true hte0.1
          have hte2 : t.2.1 = a := of_decide_eq_true hte0.2.1
          have hte3 : t.2.2.1 = b := of_decide_eq_true hte0.2.2
          intro ρs hv
          obtain ⟨t1, t2, t3, t4⟩ := hv.2 t htm
          have t5 : px_bin i (Int32.ofInt (sy_e ρs a)) (Int32.ofInt (sy_e ρs b)) = some (Int32.ofInt (ρs t.2.2.2)) := by
            unfold sy_tk at t4
            rw [hte1] at t4
            rw [hi, ← hte2, ← hte3]
            exact t4
          rw [hte2] at t1
          rw [hte3] at t2
          refine sy_open (S := z.2.2) (q := sy_q6 q ρs z.2.1) (fun ρ τ w lc cf d hm hl hf hd => ?_) hM
          have hag : ∀ i, i < z.2.1 → ρ i = ρs i := hm.1.2
          have t6 : px_bin i (Int32.ofInt (sy_e ρ a)) (Int32.ofInt (sy_e ρ b)) = some (Int32.ofInt (sy_e ρ (sy_x t.2.2.2))) := by
            rw [sy_ext_l hag t1, sy_ext_l hag t2, sy_x_e, hag t.2.2.2 t3]
            exact t5
          have hu := sy_use (S := z.2.2) (q := sy_q6 q ρs z.2.1) (hG _ List.mem_cons_self ρs hv) hM hm hl hf hd
          exact pf_next (sy_bstep hq h1 hst t6) hu
        · split at h
          · rename_i rg hrg
            cases h
            intro ρs hv
            refine sy_open (S := z.2.2) (q := sy_q6 q ρs z.2.1) (fun ρ τ w lc cf d hm hl hf hd => ?_) hM
            have hag : ∀ i, i < z.2.1 → ρ i = ρs i := hm.1.2
            have hNl : z.2.1 ≤ z.2.2.1.1.length := hm.1.1
            obtain ⟨Z, z1, z2, z3⟩ := sy_bn_ok hm.2.1 hrg
            obtain ⟨ρ', e1, e2, hm', ⟨f1, f2, f3, f4⟩, hf'⟩ := sy_fresh (S := z.2.2) (q := sy_q6 q ρs z.2.1) (c := (M, z.2.2.2.1.2.1, lc, z.2.2.2.1.2.2.2.map (sy_v ρ τ))) hw ⟨hm, ⟨hM, rfl, hl, rfl⟩, hf⟩ z2 z3
            have f4' : z.2.2.2.1.2.2.2.map (sy_v ρ τ) = z.2.2.2.1.2.2.2.map (sy_v ρ' τ) := f4
            rw [hst] at f4'
            have hr : r.map (sy_v ρ τ) = r.map (sy_v ρ' τ) := (List.cons.inj (List.cons.inj f4').2).2
            have hag2 : ∀ i, i < z.2.1 → ρ' i = ρs i := fun i hi => by rw [e1 i (by omega)]; exact hag i hi
            have hv' : sy_tv xs ρc Nc ((k + 1, a, b, z.2.2.1.1.length) :: z.1) (z.2.2.1.1.length + 1) ρ' := by
              refine ⟨⟨by have := hv.1.1; omega, fun i hi => by rw [hag2 i (by have := hv.1.1; omega)]; exact hv.1.2 i hi⟩, fun t ht => ?_⟩
              rcases List.mem_cons.mp ht with rfl | ht
              · refine ⟨sy_wl_mono (Nat.le_succ _) hwa, sy_wl_mono (Nat.le_succ _) hwb, Nat.lt_succ_self _, ?_⟩
                show px_bin (sy_bo k) (Int32.ofInt (sy_e ρ' a)) (Int32.ofInt (sy_e ρ' b)) = some (Int32.ofInt (ρ' z.2.2.1.1.length))
                rw [sy_ext_l e1 hwa, sy_ext_l e1 hwb, e2, Int32.ofInt_toInt, ← hi]
                exact z1
              · obtain ⟨t1, t2, t3, t4⟩ := hv.2 t ht
                exact ⟨sy_wl_mono (by omega) t1, sy_wl_mono (by omega) t2, by omega, sy_tk_ext hag2 t1 t2 t3 t4⟩
            have hm2 : sy_mem (sy_q6 q ρ' (z.2.2.1.1.length + 1)) (sy_new z.2.2.1 rg) ρ' τ w := ⟨⟨by show _ ≤ (z.2.2.1.1 ++ [rg]).length; rw [List.length_append]; exact Nat.le_refl _, fun _ _ => rfl⟩, hm'.2⟩
            have hu := sy_use (S := z.2.2) (q := sy_q6 q ρ' (z.2.2.1.1.length + 1)) (hG _ List.mem_cons_self ρ' hv') hM hm2 f3 hf' hd
            have e3 : (.inl (sy_x z.2.2.1.1.length) :: r : List sy_A).map (sy_v ρ' τ) = .int Z :: r.map (sy_v ρ τ) := by
              show Value.int (Int32.ofInt (sy_e ρ' (sy_x z.2.2.1.1.length))) :: r.map (sy_v ρ' τ) = _
              rw [sy_x_e, e2, Int32.ofInt_toInt, hr]
            rw [e3] at hu
            exact pf_next (sy_bstep hq h1 hst z1) hu
          · cases h
      · cases h
    · cases h
  · cases h
theorem sy_uC_ok2 {D : Nat} (hD : D ≤ x.2.2.2.2.2.2) (hP : ∀ (j : Nat) (M : px_M), x.2.2.1[j]? = some M → q.1[j]? = some M) (hM : q.1[S.2.1.1]? = some M) (hq : px_look M.2.1 S.2.1.2.1 = some (i, len)) (h : sy_uC x.1 x.2.2.1 q.2.1 D M i len S = some l) : sy_S1 x q S l := by
  intro hG
  obtain ⟨z, hz, h1⟩ := Option.bind_eq_some_iff.mp h
  obtain ⟨M', hM', h2⟩ := Option.bind_eq_some_iff.mp h1
  split at h2
  · rename_i hc
    cases h2
    exact sy_goCall hM hq hz hM' (hP _ _ hM') hc.1 (by omega) (hG _ List.mem_cons_self)
  · cases h2
/-- a step of the law's frame, or of one that it calls in place -/
def sy_sucT (cl : List vw_C) (lt : List (List Int32)) (P PM : List px_M) (G : Nat → Nat → Option (px_M × Instr × Nat)) (H : Nat → Option (px_M × Nat)) (An : Nat → Option sy_Ce) (A : List sy_Ce) (Wr : sy_Wr) (Cs : List sy_Co) (D : Nat) (zs : List (Nat × Nat × Nat)) (z : sy_St) : Option (List sy_St) := match G z.2.2.2.1.1 z.2.2.2.1.2.1 with
  | none => none
  | some (M, i, len) => px_or (sy_lift z (px_or (sy_zq A zs i len z.2.2) (cond (sy_top z.2.2.2.1.2.2.2) none (px_or (sy_p0 A z.2.2) (sy_p1 z.2.2))))) (px_or (sy_uT i len z) (px_or (sy_uO zs i len z) (sy_lift z (px_or (cond (Nat.beq (sy_pq z.2.2.2.1.1 z.2.2.2.1.2.1) 0) (ty_tg cl An H A Wr Cs D M i len z.2.2 (sy_tag i)) none) (px_or (sy_pre A Wr M i z.2.2) (px_or (sy_uN A i len z.2.2) (px_or (sy_u1 M i len z.2.2) (px_or (sy_uB i len z.2.2) (px_or (sy_uR A M i len z.2.2) (px_or (sy_uW cl A Wr M i len z.2.2) (px_or (sy_uK lt A M i len z.2.2) (px_or (sy_uA i len z.2.2) (px_or (sy_uV M i len z.2.2) (px_or (sy_uX D M i len z.2.2) (px_or (sy_uL lt A Wr M i len z.2.2) (px_or (sy_uY A Wr D M i len z.2.2) (match sy_cl cl A P i len M.2.2 z.2.2.2.1.2.2.2 with
      | some y => if Cs.any (fun C => C.1 == y.1) = true then sy_uM P Wr D z.2.2 y Cs else sy_uC cl P A D M i len z.2.2
      | none => none)))))))))))))))))
theorem sy_sucT_ok {q : sy_Q4} {G : Nat → Nat → Option (px_M × Instr × Nat)} {H : Nat → Option (px_M × Nat)} {An : Nat → Option sy_Ce} {D : Nat} {Cs : List sy_Co} {xs : List Int32} {ρc : Nat → Int} {Nc : Nat} {zs : List (Nat × Nat × Nat)} {z : sy_St} {l' : List sy_St} (hGo : px_Gok q.1 G) (hH : px_Hok x.1 x.2.2.1 H) (hA : An = fun k => q.2.1[k]?) (hcl : ∀ (k : Nat) (o : Nat × List ((Int × Int) ⊕ Nat)), q.2.1[k]? = some (.inr (.inr o)) → o.1 < x.1.length) (hP : ∀ (j : Nat) (M : px_M), x.2.2.1[j]? = some M → q.1[j]? = some M) (hx : x.2.2.2.1 = some xs) (hlen : xs.length ≤ 3072) (hN : 1 ≤ Nc ∧ ρc 0 = xs.length) (hCs : ∀ C ∈ Cs, sy_Met x.1 x.2.1 x.2.2.1 q.2.1 x.2.2.2.2.1 C) (hD : D ≤ x.2.2.2.2.2.2) (h : sy_sucT x.1 x.2.1 x.2.2.1 q.1 G H An q.2.1 q.2.2.1 Cs D zs z = some l') (hG : ∀ z' ∈ l', sy_GT x q xs ρc Nc z') : sy_GT x q xs ρc Nc z := by
  unfold sy_sucT at h
  split at h
  · cases h
  · rename_i M i len hg
    obtain ⟨hM, hq⟩ := hGo _ _ _ _ _ hg
    rcases px_or_some h with h | h
    · refine sy_lift_ok h (fun l hl ρs => ?_) hG
      rcases px_or_some hl with hl | hl
      · exact sy_zq_ok (q := sy_q6 q ρs z.2.1) hM hq hl
      · rcases px_cond hl with hl | hl
        · cases hl
        rcases px_or_some hl with hl | hl
        · exact sy_p0_ok (q := sy_q6 q ρs z.2.1) hl
        · exact sy_p1_ok hl
    rcases px_or_some h with h | h
    · exact sy_uT_ok hx hlen hN hM hq h hG
    rcases px_or_some h with h | h
    · exact sy_uO_ok hM hq h hG
    refine sy_lift_ok h (fun l h ρs => ?_) hG
    rcases px_or_some h with h | h
    · rcases px_cond h with h | h
      · rw [hA] at h
        exact ty_tg_ok (q := sy_q6 q ρs z.2.1) hH hcl hCs hD hP hM hq h
      · cases h
    rcases px_or_some h with h | h
    · exact sy_pre_ok (q := sy_q6 q ρs z.2.1) h
    rcases px_or_some h with h | h
    · exact sy_uN_ok (q := sy_q6 q ρs z.2.1) hM hq h
    rcases px_or_some h with h | h
    · exact sy_u1_ok (q := sy_q6 q ρs z.2.1) hM hq h
    rcases px_or_some h with h | h
    · exact sy_uB_ok (q := sy_q6 q ρs z.2.1) hM hq h
    rcases px_or_some h with h | h
    · exact sy_uR_ok (q := sy_q6 q ρs z.2.1) hM hq h
    rcases px_or_some h with h | h
    · exact sy_uW_ok (q := sy_q6 q ρs z.2.1) hM hq h
    rcases px_or_some h with h | h
    · exact sy_uK_ok (q := sy_q6 q ρs z.2.1) hM hq h
    rcases px_or_some h with h | h
    · exact sy_uA_ok (q := sy_q6 q ρs z.2.1) hM hq h
    rcases px_or_some h with h | h
    · exact sy_uV_ok (q := sy_q6 q ρs z.2.1) hM hq h
    rcases px_or_some h with h | h
    · exact sy_uX_ok (q := sy_q6 q ρs z.2.1) hD hM hq h
    rcases px_or_some h with h | h
    · exact sy_uL_ok (q := sy_q6 q ρs z.2.1) hM hq h
    rcases px_or_some h with h | h
    · exact sy_uY_ok (q := sy_q6 q ρs z.2.1) hD hM hq h
    split at h
    · rename_i y hy
      split at h
      · exact sy_uM_ok (q := sy_q6 q ρs z.2.1) hD hM hq hy Cs hCs h
      · exact sy_uC_ok2 (q := sy_q6 q ρs z.2.1) hD hP hM hq h
    · cases h
def ty_haltL (G : Nat → Nat → Option (px_M × Instr × Nat)) (j N0 : Nat) (cuts : List sy_Cut) (m : sy_L) (S : sy_S) : Option Bool := match S.2.2 with
  | _ :: _ => none
  | [] => cond (S.2.1.2.2.2.isEmpty && (Nat.beq S.2.1.1 j && cuts.any (fun c => Nat.beq c.1 S.2.1.2.1))) (some (cuts.any (fun c => Nat.beq c.1 S.2.1.2.1 && (sy_qk S.2.1.2.2.1 c.2.2.1 && sy_atC N0 m S c)))) (match G S.2.1.1 S.2.1.2.1 with
    | some (M, i, len) => cond (Nat.beq (sy_tag i) 1) none (match sy_rt S.1.1 i len M.1.2.2.2.1 S.2.1.2.2.2 with
        | some v => some (decide (v = some (.inl (sy_c 1))))
        | none => none)
    | none => none)
theorem ty_haltL_ok {G : Nat → Nat → Option (px_M × Instr × Nat)} {cuts : List sy_Cut} {j N0 : Nat} {ρ0 : Nat → Int} {m : sy_L} (hGo : px_Gok q.1 G) (hMC : q.1[j]? = some M) (hI : sy_I x q.2.1 q.2.2.1 q.2.2.2.1 ρ0 N0 M cuts (sy_e q.2.2.2.2.1 m)) (hN : N0 ≤ q.2.2.2.2.2 ∧ ∀ i, i < N0 → q.2.2.2.2.1 i = ρ0 i) (hmw : sy_wl q.2.2.2.2.2 m = true) (hK : x.2.2.2.2.2.1 = fun v _ => v = some (.int 1)) (h : ty_haltL G j N0 cuts m S = some true) : sy_Good x q S := by
  unfold ty_haltL at h
  split at h
  · cases h
  · rename_i hfs
    cases hc : (S.2.1.2.2.2.isEmpty && (Nat.beq S.2.1.1 j && cuts.any (fun c => Nat.beq c.1 S.2.1.2.1))) with
    | true =>
      rw [hc, px_c1] at h
      have h0 : some (cuts.any (fun c => Nat.beq c.1 S.2.1.2.1 && (sy_qk S.2.1.2.2.1 c.2.2.1 && sy_atC N0 m S c))) = some true := h
      rw [Bool.and_eq_true, Bool.and_eq_true] at hc
      obtain ⟨c, hcc, h1⟩ := List.any_eq_true.mp (Option.some.inj h0)
      rw [Bool.and_eq_true, Bool.and_eq_true] at h1
      exact sy_atC_ok hI hN hmw (by rw [Nat.eq_of_beq_eq_true hc.2.1]; exact hMC) hcc h1.2.2
    | false =>
      rw [hc, px_c0] at h
      split at h
      · rename_i M2 i len hg
        obtain ⟨hM2, hq⟩ := hGo _ _ _ _ _ hg
        rcases px_cond h with h | h
        · cases h
        split at h
        · rename_i v hv
          have h1 : v = some (.inl (sy_c 1)) := of_decide_eq_true (Option.some.inj h)
          refine sy_goEnd hM2 hq hv hfs (fun ρ τ w hm => ?_)
          rw [hK, h1]
          show some (Value.int (Int32.ofInt (sy_e ρ (sy_c 1)))) = _
          rw [sy_c_e]
          rfl
        · cases h
      · cases h
/-! what a case doesn't write stays -/
theorem sy_br : ∀ a : Nat, Nat.beq a a = true
  | 0 => rfl
  | a + 1 => sy_br a
def sy_hF (Ff : List sy_Fa) (S : sy_S) : sy_S := ((S.1.1, S.1.2.1, S.1.2.2.1, S.1.2.2.2 ++ Ff), S.2)
def sy_Fst (Wr : sy_Wr) (w0 : px_W) (ρc : Nat → Int) (Nc : Nat) (Ff : List sy_Fa) : Prop := ∀ f ∈ Ff, sy_wl Nc f.2.1 = true ∧ sy_wa Nc 0 f.2.2 = true ∧ 0 ≤ sy_e ρc f.2.1 ∧ sy_may Wr f.1 (sy_e ρc f.2.1).toNat = false ∧ sy_get w0 f.1 (sy_e ρc f.2.1).toNat = some (sy_v ρc (fun _ => 0) f.2.2)
theorem sy_wa_mono {N N' : Nat} (h : N ≤ N') {a : sy_A} (hw : sy_wa N 0 a = true) : sy_wa N' 0 a = true := by
  match a, hw with
  | .inl e, hw => exact sy_wl_mono h hw
  | .inr (.inl _), _ => rfl
  | .inr (.inr s), hw => exact hw
theorem sy_Fr_mono {Wr : sy_Wr} {w0 : px_W} {ρc ρ3 : Nat → Int} {Nc N3 : Nat} {Ff : List sy_Fa} (h : sy_Fst Wr w0 ρc Nc Ff) (hN : Nc ≤ N3) (ag : ∀ i, i < Nc → ρ3 i = ρc i) : sy_Fst Wr w0 ρ3 N3 Ff := by
  intro f hf
  obtain ⟨a1, a2, a3, a4, a5⟩ := h f hf
  rw [sy_ext_l ag a1, sy_ext_a (τ' := fun _ => 0) (τ := fun _ => 0) ag (fun _ _ => rfl) a2]
  exact ⟨sy_wl_mono hN a1, sy_wa_mono hN a2, a3, a4, a5⟩
theorem sy_hF_ok {Ff : List sy_Fa} {ρc : Nat → Int} {Nc : Nat} (hF : sy_Fst q.2.2.1 q.2.2.2.1 ρc Nc Ff) (hN : Nc ≤ q.2.2.2.2.2 ∧ ∀ i, i < Nc → q.2.2.2.2.1 i = ρc i) (h : sy_Good x q (sy_hF Ff S)) : sy_Good x q S := by
  intro ρ τ w c cf d hR hd
  obtain ⟨⟨⟨m1, m1'⟩, m2, m3, m4, m5, m6⟩, f1, f2⟩ := hR
  refine h ρ τ w c cf d ⟨⟨⟨m1, m1'⟩, m2, m3, fun f hf => ?_, m5, m6⟩, f1, f2⟩ hd
  rcases List.mem_append.mp hf with hf | hf
  · exact m4 f hf
  · obtain ⟨a1, a2, a3, a4, a5⟩ := hF f hf
    have ag : ∀ i, i < Nc → ρ i = ρc i := fun i hi => by rw [m1' i (Nat.lt_of_lt_of_le hi hN.1)]; exact hN.2 i hi
    rw [sy_ext_l ag a1, sy_ext_a (τ' := τ) (τ := fun _ => 0) ag (fun i hi => absurd hi (Nat.not_lt_zero i)) a2, m6.1 _ _ a4]
    exact ⟨a3, a5⟩
def qy_may (Wr : sy_Wr) (k i : Nat) : Bool := qx_any Wr (fun q => cond (Nat.beq q.1 k) (cond (Nat.ble q.2.1 i) (Nat.ble (Nat.succ i) q.2.2) false) false)
theorem qy_may_f {Wr : sy_Wr} {k i : Nat} (h : qy_may Wr k i = false) : sy_may Wr k i = false := by
  cases hm : sy_may Wr k i with
  | false => rfl
  | true =>
    obtain ⟨p, hp, h1⟩ := List.any_eq_true.mp hm
    simp only [Bool.and_eq_true, decide_eq_true_eq] at h1
    have h2 : qy_may Wr k i = true := by
      unfold qy_may
      rw [qx_any_e]
      refine List.any_eq_true.mpr ⟨p, hp, ?_⟩
      show cond (Nat.beq p.1 k) (cond (Nat.ble p.2.1 i) (Nat.ble (Nat.succ i) p.2.2) false) false = true
      rw [h1.1, sy_br, Nat.ble_eq_true_of_le h1.2.1, Nat.ble_eq_true_of_le h1.2.2]
      rfl
    rw [h] at h2
    cases h2
/-- facts that stay, if no more than Wr is written -/
def sy_pf (Wr : sy_Wr) (N : Nat) (f : sy_Fa) : Bool := cond (qy_wl N f.2.1) (cond (qy_wa N 0 f.2.2) (cond (qx_any Wr (fun q => Nat.beq q.1 f.1)) (match f.2.1.2 with
  | [] => cond (qy_may Wr f.1 f.2.1.1.toNat) false true
  | _ => false) true) false) false
def sy_Ff (Wr : sy_Wr) (c : sy_Cut) : List sy_Fa := qx_filter c.2.1.2.2.2 (sy_pf Wr c.2.1.1.length)
def sy_kF (Wr : sy_Wr) (N : Nat) (k : sy_Cut) : sy_Cut := (k.1, (k.2.1.1, k.2.1.2.1, k.2.1.2.2.1, qx_filter k.2.1.2.2.2 (fun f => cond (sy_pf Wr N f) false true)), k.2.2)
def sy_id1 (σ : List sy_L) (l : List (Nat × Int)) : Bool := qx_all l (fun t => Option.rec (motive := fun _ => Bool) false (fun e => qy_leq e (sy_x t.1)) (qx_nth σ t.1))
def sy_ids (σ : List sy_L) (f : sy_Fa) : Bool := cond (sy_id1 σ f.2.1.2) (match f.2.2 with
  | .inl e => sy_id1 σ e.2
  | .inr (.inl _) => true
  | _ => false) false
theorem sy_s_ext {ρ ρ' : Nat → Int} : ∀ l : List (Nat × Int), (∀ t ∈ l, ρ t.1 = ρ' t.1) → sy_s ρ l = sy_s ρ' l
  | [], _ => rfl
  | t :: r, h => by
    show t.2 * ρ t.1 + sy_s ρ r = t.2 * ρ' t.1 + sy_s ρ' r
    rw [h t List.mem_cons_self, sy_s_ext r (fun u hu => h u (List.mem_cons_of_mem _ hu))]
theorem sy_id1_ok {σ : List sy_L} {ρ : Nat → Int} {l : List (Nat × Int)} (h : sy_id1 σ l = true) : sy_s (sy_ρ ρ σ) l = sy_s ρ l := by
  unfold sy_id1 at h
  rw [qx_all_e] at h
  refine sy_s_ext l (fun t ht => ?_)
  have h1 := List.all_eq_true.mp h t ht
  rw [qx_nth_ok] at h1
  cases hs : σ[t.1]? with
  | none =>
    rw [hs] at h1
    cases h1
  | some e =>
    rw [hs] at h1
    have h2 : e = sy_x t.1 := qy_leq_e h1
    unfold sy_ρ
    rw [hs, h2]
    exact sy_x_e ρ t.1
theorem sy_ids_ok {σ : List sy_L} {ρ : Nat → Int} {τ τ' : Nat → Int64} {f : sy_Fa} (h : sy_ids σ f = true) : sy_e (sy_ρ ρ σ) f.2.1 = sy_e ρ f.2.1 ∧ sy_v (sy_ρ ρ σ) τ' f.2.2 = sy_v ρ τ f.2.2 := by
  unfold sy_ids at h
  obtain ⟨h1, h2⟩ := qx_and h
  refine ⟨?_, ?_⟩
  · unfold sy_e
    rw [sy_id1_ok h1]
  · split at h2
    · rename_i e he
      rw [he]
      show Value.int (Int32.ofInt (e.1 + sy_s (sy_ρ ρ σ) e.2)) = Value.int (Int32.ofInt (e.1 + sy_s ρ e.2))
      rw [sy_id1_ok h2]
    · rename_i a he
      rw [he]
      rfl
    · cases h2
theorem sy_goCutF {cuts : List sy_Cut} {ρ0 ρc : Nat → Int} {N0 : Nat} {k c0 : sy_Cut} {σ : List sy_L} {σL : List Nat} {m : sy_L} (hI : sy_I x q.2.1 q.2.2.1 q.2.2.2.1 ρ0 N0 M cuts (sy_e q.2.2.2.2.1 m)) (hN : N0 ≤ q.2.2.2.2.2 ∧ ∀ i, i < N0 → q.2.2.2.2.1 i = ρ0 i) (hmw : sy_wl q.2.2.2.2.2 m = true) (hM : q.1[S.2.1.1]? = some M) (hc : k ∈ cuts) (hFf : sy_Fst q.2.2.1 q.2.2.2.1 ρc c0.2.1.1.length (sy_Ff q.2.2.1 c0)) (hNc : c0.2.1.1.length ≤ q.2.2.2.2.2 ∧ ∀ i, i < c0.2.1.1.length → q.2.2.2.2.1 i = ρc i) (hFe : k.2.1.2.2.2 = c0.2.1.2.2.2) (hids : qx_all k.2.1.2.2.2 (fun f => cond (sy_pf q.2.2.1 c0.2.1.1.length f) (sy_ids σ f) true) = true) (hfit : sy_fitC N0 S (sy_kF q.2.2.1 c0.2.1.1.length k) σ σL m = true) : sy_Good x q S := by
  refine sy_open (fun ρ τ w lc cf d hm hl hf hd => ?_) hM
  obtain ⟨⟨m1, m1'⟩, m2, m3, m4, m5, m6⟩ := hm
  obtain ⟨⟨f1, f2, f3, f4⟩, g1, g2, g3, g4, g5, g6, g7⟩ := sy_fitC_ok hfit m2 m3 m4 hl
  rw [f1] at hf
  cases cf with
  | cons c2 cf => exact hf.elim
  | nil =>
    have em : sy_e ρ m = sy_e q.2.2.2.2.1 m := sy_ext_l m1' hmw
    rw [em] at g7
    have g4' : sy_fok (sy_ρ ρ σ) (sy_τ τ σL) w k.2.1.2.2.2 := fun f hf1 => by
      cases hp : sy_pf q.2.2.1 c0.2.1.1.length f with
      | true =>
        rw [qx_all_e] at hids
        have hid := List.all_eq_true.mp hids f hf1
        rw [hp] at hid
        have hid' : sy_ids σ f = true := hid
        have hmf : f ∈ sy_Ff q.2.2.1 c0 := by
          unfold sy_Ff
          rw [qx_filter_e]
          exact List.mem_filter.mpr ⟨by rw [← hFe]; exact hf1, hp⟩
        obtain ⟨a1, a2, a3, a4, a5⟩ := hFf f hmf
        have ag : ∀ i, i < c0.2.1.1.length → ρ i = ρc i := fun i hi => by rw [m1' i (Nat.lt_of_lt_of_le hi hNc.1)]; exact hNc.2 i hi
        obtain ⟨i1, i2⟩ := sy_ids_ok (ρ := ρ) (τ := τ) (τ' := sy_τ τ σL) hid'
        rw [i1, i2, sy_ext_l ag a1, sy_ext_a (τ' := τ) (τ := fun _ => 0) ag (fun i hi => absurd hi (Nat.not_lt_zero i)) a2, m6.1 _ _ a4]
        exact ⟨a3, a5⟩
      | false =>
        refine g4 f ?_
        show f ∈ qx_filter k.2.1.2.2.2 (fun f => cond (sy_pf q.2.2.1 c0.2.1.1.length f) false true)
        rw [qx_filter_e]
        refine List.mem_filter.mpr ⟨hf1, ?_⟩
        rw [hp]
        rfl
    have h0 := hI k hc (sy_ρ ρ σ) (sy_τ τ σL) w lc ⟨f4, fun i hi => by rw [g1 i hi, m1' i (by omega)]; exact hN.2 i hi⟩ g2 g3 g4' m5 m6 g5 g6 g7
    rw [f2, f3]
    have hd' : d = x.2.2.2.2.2.2 := by simpa using hd
    rw [hd']
    exact h0
/-- lists of facts that are the same -/
def qy_aq (a b : sy_A) : Bool := match a, b with
  | .inl e, .inl f => qy_leq e f
  | .inr (.inl m), .inr (.inl n) => Nat.beq m n
  | .inr (.inr m), .inr (.inr n) => Nat.beq m n
  | _, _ => false
theorem qy_aq_e {a b : sy_A} (h : qy_aq a b = true) : a = b := by
  match a, b, h with
  | .inl e, .inl f, h => rw [qy_leq_e h]
  | .inr (.inl m), .inr (.inl n), h => rw [Nat.eq_of_beq_eq_true h]
  | .inr (.inr m), .inr (.inr n), h => rw [Nat.eq_of_beq_eq_true h]
def qy_Feq : List sy_Fa → List sy_Fa → Bool
  | [], [] => true
  | f :: r, g :: t => cond (Nat.beq f.1 g.1) (cond (qy_leq f.2.1 g.2.1) (cond (qy_aq f.2.2 g.2.2) (qy_Feq r t) false) false) false
  | _, _ => false
theorem qy_Feq_e : ∀ {l l' : List sy_Fa}, qy_Feq l l' = true → l = l'
  | [], [], _ => rfl
  | f :: r, g :: t, h => by
    obtain ⟨h1, h⟩ := qx_and h
    obtain ⟨h2, h⟩ := qx_and h
    obtain ⟨h3, h4⟩ := qx_and h
    obtain ⟨a, b, c⟩ := f
    obtain ⟨a', b', c'⟩ := g
    have e1 : a = a' := Nat.eq_of_beq_eq_true h1
    have e2 : b = b' := qy_leq_e h2
    have e3 : c = c' := qy_aq_e h3
    rw [e1, e2, e3, qy_Feq_e h4]
  | [], _ :: _, h => by cases h
  | _ :: _, [], h => by cases h
def sy_fσI (T : sy_T) (u : sy_Un) : List sy_L := (List.range T.length).map (fun i => (px_look u.1 i).getD (sy_x i))
def sy_atF (Wr : sy_Wr) (c0 : sy_Cut) (N0 : Nat) (m : sy_L) (S : sy_S) (k : sy_Cut) : Bool := cond (qy_Feq k.2.1.2.2.2 c0.2.1.2.2.2) (
  let k' := sy_kF Wr c0.2.1.1.length k
  let u := k'.2.1.2.2.2.foldl (sy_unF S.1.1 S.1.2.2.2) (sy_unL S.2.1.2.2.1 (sy_idσ N0, []) k.2.2.1)
  cond (sy_fitC N0 S k' (sy_fσI k.2.1.1 u) (sy_fσL k.2.1.2.1 u) m) (qx_all k.2.1.2.2.2 (fun f => cond (sy_pf Wr c0.2.1.1.length f) (sy_ids (sy_fσI k.2.1.1 u) f) true)) false) false
def ty_haltF (Wr : sy_Wr) (c0 : sy_Cut) (G : Nat → Nat → Option (px_M × Instr × Nat)) (j N0 : Nat) (cuts : List sy_Cut) (m : sy_L) (S : sy_S) : Option Bool := match S.2.2 with
  | _ :: _ => none
  | [] => cond (S.2.1.2.2.2.isEmpty && (Nat.beq S.2.1.1 j && cuts.any (fun c => Nat.beq c.1 S.2.1.2.1))) (some (cuts.any (fun c => Nat.beq c.1 S.2.1.2.1 && (sy_qk S.2.1.2.2.1 c.2.2.1 && sy_atF Wr c0 N0 m S c)) || cuts.any (fun c => Nat.beq c.1 S.2.1.2.1 && (sy_qk S.2.1.2.2.1 c.2.2.1 && sy_atC N0 m (sy_hF (sy_Ff Wr c0) S) c)))) (match G S.2.1.1 S.2.1.2.1 with
    | some (M, i, len) => cond (Nat.beq (sy_tag i) 1) none (match sy_rt S.1.1 i len M.1.2.2.2.1 S.2.1.2.2.2 with
        | some v => some (decide (v = some (.inl (sy_c 1))))
        | none => none)
    | none => none)
theorem ty_haltF_ok {G : Nat → Nat → Option (px_M × Instr × Nat)} {cuts : List sy_Cut} {c0 : sy_Cut} {j N0 : Nat} {ρ0 ρc : Nat → Int} {m : sy_L} (hFf : sy_Fst q.2.2.1 q.2.2.2.1 ρc c0.2.1.1.length (sy_Ff q.2.2.1 c0)) (hNc : c0.2.1.1.length ≤ q.2.2.2.2.2 ∧ ∀ i, i < c0.2.1.1.length → q.2.2.2.2.1 i = ρc i) (hGo : px_Gok q.1 G) (hMC : q.1[j]? = some M) (hI : sy_I x q.2.1 q.2.2.1 q.2.2.2.1 ρ0 N0 M cuts (sy_e q.2.2.2.2.1 m)) (hN : N0 ≤ q.2.2.2.2.2 ∧ ∀ i, i < N0 → q.2.2.2.2.1 i = ρ0 i) (hmw : sy_wl q.2.2.2.2.2 m = true) (hK : x.2.2.2.2.2.1 = fun v _ => v = some (.int 1)) (h : ty_haltF q.2.2.1 c0 G j N0 cuts m S = some true) : sy_Good x q S := by
  unfold ty_haltF at h
  split at h
  · cases h
  · rename_i hfs
    cases hc : (S.2.1.2.2.2.isEmpty && (Nat.beq S.2.1.1 j && cuts.any (fun c => Nat.beq c.1 S.2.1.2.1))) with
    | true =>
      rw [hc, px_c1] at h
      have h0 : some (cuts.any (fun c => Nat.beq c.1 S.2.1.2.1 && (sy_qk S.2.1.2.2.1 c.2.2.1 && sy_atF q.2.2.1 c0 N0 m S c)) || cuts.any (fun c => Nat.beq c.1 S.2.1.2.1 && (sy_qk S.2.1.2.2.1 c.2.2.1 && sy_atC N0 m (sy_hF (sy_Ff q.2.2.1 c0) S) c))) = some true := h
      rw [Bool.and_eq_true, Bool.and_eq_true] at hc
      have h0' := Option.some.inj h0
      rw [Bool.or_eq_true] at h0'
      rcases h0' with h0' | h0'
      · obtain ⟨c, hcc, h1⟩ := List.any_eq_true.mp h0'
        rw [Bool.and_eq_true, Bool.and_eq_true] at h1
        have h2 := h1.2.2
        unfold sy_atF at h2
        obtain ⟨h3, h4⟩ := qx_and h2
        obtain ⟨h5, h6⟩ := qx_and h4
        exact sy_goCutF hI hN hmw (by rw [Nat.eq_of_beq_eq_true hc.2.1]; exact hMC) hcc hFf hNc (qy_Feq_e h3) h6 h5
      · obtain ⟨c, hcc, h1⟩ := List.any_eq_true.mp h0'
        rw [Bool.and_eq_true, Bool.and_eq_true] at h1
        exact sy_hF_ok hFf hNc (sy_atC_ok (S := sy_hF (sy_Ff q.2.2.1 c0) S) hI hN hmw (by show q.1[S.2.1.1]? = some M; rw [Nat.eq_of_beq_eq_true hc.2.1]; exact hMC) hcc h1.2.2)
    | false =>
      rw [hc, px_c0] at h
      split at h
      · rename_i M2 i len hg
        obtain ⟨hM2, hq⟩ := hGo _ _ _ _ _ hg
        rcases px_cond h with h | h
        · cases h
        split at h
        · rename_i v hv
          have h1 : v = some (.inl (sy_c 1)) := of_decide_eq_true (Option.some.inj h)
          refine sy_goEnd hM2 hq hv hfs (fun ρ τ w hm => ?_)
          rw [hK, h1]
          show some (Value.int (Int32.ofInt (sy_e ρ (sy_c 1)))) = _
          rw [sy_c_e]
          rfl
        · cases h
      · cases h
def sy_allT (cl : List vw_C) (lt : List (List Int32)) (P PM : List px_M) (G : Nat → Nat → Option (px_M × Instr × Nat)) (H : Nat → Option (px_M × Nat)) (An : Nat → Option sy_Ce) (A : List sy_Ce) (Wr : sy_Wr) (Cs : List sy_Co) (D : Nat) (zs : List (Nat × Nat × Nat)) (j N0 : Nat) (cuts : List sy_Cut) (c0 : sy_Cut) (m : sy_L) : Nat → List sy_St → Bool
  | 0, _ => false
  | _ + 1, [] => true
  | n + 1, z :: r => match ty_haltF Wr c0 G j N0 cuts m z.2.2 with
    | some b => (b || sy_dead z.2.2.1) && sy_allT cl lt P PM G H An A Wr Cs D zs j N0 cuts c0 m n r
    | none => (match sy_sucT cl lt P PM G H An A Wr Cs D zs z with
      | some l => sy_allT cl lt P PM G H An A Wr Cs D zs j N0 cuts c0 m n (l ++ r)
      | none => false)
theorem sy_allT_ok {q : sy_Q4} {G : Nat → Nat → Option (px_M × Instr × Nat)} {H : Nat → Option (px_M × Nat)} {An : Nat → Option sy_Ce} {cuts : List sy_Cut} {c0 : sy_Cut} {Cs : List sy_Co} {D j N0 : Nat} {zs : List (Nat × Nat × Nat)} {ρ0 ρc : Nat → Int} {Nc : Nat} {m : sy_L} {xs : List Int32} (hGo : px_Gok q.1 G) (hH : px_Hok x.1 x.2.2.1 H) (hA : An = fun k => q.2.1[k]?) (hcl : ∀ (k : Nat) (o : Nat × List ((Int × Int) ⊕ Nat)), q.2.1[k]? = some (.inr (.inr o)) → o.1 < x.1.length) (hP : ∀ (j : Nat) (M : px_M), x.2.2.1[j]? = some M → q.1[j]? = some M) (hx : x.2.2.2.1 = some xs) (hlen : xs.length ≤ 3072) (hFf : sy_Fst q.2.2.1 q.2.2.2 ρc c0.2.1.1.length (sy_Ff q.2.2.1 c0) ∧ c0.2.1.1.length ≤ Nc) (hN1 : 1 ≤ Nc ∧ ρc 0 = xs.length) (hCs : ∀ C ∈ Cs, sy_Met x.1 x.2.1 x.2.2.1 q.2.1 x.2.2.2.2.1 C) (hD : D ≤ x.2.2.2.2.2.2) (hMC : q.1[j]? = some M) (hI : sy_I x q.2.1 q.2.2.1 q.2.2.2 ρ0 N0 M cuts (sy_e ρc m)) (hN : N0 ≤ Nc ∧ ∀ i, i < N0 → ρc i = ρ0 i) (hmw : sy_wl Nc m = true) (hK : x.2.2.2.2.2.1 = (fun v _ => v = some (.int 1))) : ∀ (n : Nat) (l : List sy_St), sy_allT x.1 x.2.1 x.2.2.1 q.1 G H An q.2.1 q.2.2.1 Cs D zs j N0 cuts c0 m n l = true → ∀ z ∈ l, sy_GT x q xs ρc Nc z
  | 0, l, h => by cases h
  | n + 1, [], _ => fun z hz => absurd hz List.not_mem_nil
  | n + 1, z0 :: r, h => by
    unfold sy_allT at h
    intro z hz
    split at h
    · rename_i b hb
      rw [Bool.and_eq_true] at h
      rcases List.mem_cons.mp hz with rfl | hz
      · intro ρs hv
        have h1 := h.1
        rw [Bool.or_eq_true] at h1
        rcases h1 with h1 | h1
        · rw [h1] at hb
          refine ty_haltF_ok (q := sy_q6 q ρs z.2.1) (ρ0 := ρ0) (ρc := ρc) hFf.1 ⟨Nat.le_trans hFf.2 hv.1.1, fun i hi => hv.1.2 i (Nat.lt_of_lt_of_le hi hFf.2)⟩ hGo hMC ?_ ⟨Nat.le_trans hN.1 hv.1.1, fun i hi => ?_⟩ (sy_wl_mono hv.1.1 hmw) hK hb
          · show sy_I x q.2.1 q.2.2.1 q.2.2.2 ρ0 N0 M cuts (sy_e ρs m)
            rw [sy_ext_l hv.1.2 hmw]
            exact hI
          · show ρs i = ρ0 i
            rw [hv.1.2 i (by have := hN.1; omega)]
            exact hN.2 i hi
        · exact sy_dead_ok h1
      · exact sy_allT_ok hGo hH hA hcl hP hx hlen hFf hN1 hCs hD hMC hI hN hmw hK n r h.2 z hz
    · split at h
      · rename_i l0 hl
        have ih := sy_allT_ok hGo hH hA hcl hP hx hlen hFf hN1 hCs hD hMC hI hN hmw hK n (l0 ++ r) h
        rcases List.mem_cons.mp hz with rfl | hz
        · exact sy_sucT_ok hGo hH hA hcl hP hx hlen hN1 hCs hD hl (fun z' h' => ih z' (List.mem_append_left _ h'))
        · exact ih z (List.mem_append_right _ hz)
      · cases h
def sy_rndT (cl : List vw_C) (lt : List (List Int32)) (P PM : List px_M) (G : Nat → Nat → Option (px_M × Instr × Nat)) (H : Nat → Option (px_M × Nat)) (An : Nat → Option sy_Ce) (A : List sy_Ce) (Wr : sy_Wr) (Cs : List sy_Co) (D : Nat) (zs : List (Nat × Nat × Nat)) (j N0 : Nat) (cuts : List sy_Cut) (m : sy_L) : List sy_St → Option (List sy_St)
  | [] => some []
  | z :: r => match sy_rndT cl lt P PM G H An A Wr Cs D zs j N0 cuts m r with
    | none => none
    | some t => (match ty_haltL G j N0 cuts m z.2.2 with
      | some _ => some (z :: t)
      | none => (match sy_sucT cl lt P PM G H An A Wr Cs D zs z with
        | some l => some (l ++ t)
        | none => none))
theorem sy_rndT_ok {q : sy_Q4} {G : Nat → Nat → Option (px_M × Instr × Nat)} {H : Nat → Option (px_M × Nat)} {An : Nat → Option sy_Ce} {cuts : List sy_Cut} {Cs : List sy_Co} {D j N0 : Nat} {zs : List (Nat × Nat × Nat)} {ρc : Nat → Int} {Nc : Nat} {m : sy_L} {xs : List Int32} (hGo : px_Gok q.1 G) (hH : px_Hok x.1 x.2.2.1 H) (hA : An = fun k => q.2.1[k]?) (hcl : ∀ (k : Nat) (o : Nat × List ((Int × Int) ⊕ Nat)), q.2.1[k]? = some (.inr (.inr o)) → o.1 < x.1.length) (hP : ∀ (j : Nat) (M : px_M), x.2.2.1[j]? = some M → q.1[j]? = some M) (hx : x.2.2.2.1 = some xs) (hlen : xs.length ≤ 3072) (hN1 : 1 ≤ Nc ∧ ρc 0 = xs.length) (hCs : ∀ C ∈ Cs, sy_Met x.1 x.2.1 x.2.2.1 q.2.1 x.2.2.2.2.1 C) (hD : D ≤ x.2.2.2.2.2.2) : ∀ (l l' : List sy_St), sy_rndT x.1 x.2.1 x.2.2.1 q.1 G H An q.2.1 q.2.2.1 Cs D zs j N0 cuts m l = some l' → (∀ z ∈ l', sy_GT x q xs ρc Nc z) → ∀ z ∈ l, sy_GT x q xs ρc Nc z
  | [], _, _, _ => fun z hz => absurd hz List.not_mem_nil
  | z0 :: r, l', h, hG => by
    unfold sy_rndT at h
    split at h
    · cases h
    · rename_i t ht
      split at h
      · cases h
        have ih := sy_rndT_ok hGo hH hA hcl hP hx hlen hN1 hCs hD r t ht (fun z hz => hG z (List.mem_cons_of_mem _ hz))
        intro z hz
        rcases List.mem_cons.mp hz with rfl | hz
        · exact hG z List.mem_cons_self
        · exact ih z hz
      · split at h
        · rename_i l0 hl
          cases h
          have ih := sy_rndT_ok hGo hH hA hcl hP hx hlen hN1 hCs hD r t ht (fun z hz => hG z (List.mem_append_right _ hz))
          intro z hz
          rcases List.mem_cons.mp hz with rfl | hz
          · exact sy_sucT_ok hGo hH hA hcl hP hx hlen hN1 hCs hD hl (fun z' h' => hG z' (List.mem_append_left _ h'))
          · exact ih z hz
        · cases h
def sy_rndsT (cl : List vw_C) (lt : List (List Int32)) (P PM : List px_M) (G : Nat → Nat → Option (px_M × Instr × Nat)) (H : Nat → Option (px_M × Nat)) (An : Nat → Option sy_Ce) (A : List sy_Ce) (Wr : sy_Wr) (Cs : List sy_Co) (D : Nat) (zs : List (Nat × Nat × Nat)) (j N0 : Nat) (cuts : List sy_Cut) (m : sy_L) : Nat → List sy_St → Option (List sy_St)
  | 0, l => some l
  | n + 1, l => match sy_rndT cl lt P PM G H An A Wr Cs D zs j N0 cuts m l with
    | some l' => sy_rndsT cl lt P PM G H An A Wr Cs D zs j N0 cuts m n l'
    | none => none
theorem sy_rndsT_ok {q : sy_Q4} {G : Nat → Nat → Option (px_M × Instr × Nat)} {H : Nat → Option (px_M × Nat)} {An : Nat → Option sy_Ce} {cuts : List sy_Cut} {Cs : List sy_Co} {D j N0 : Nat} {zs : List (Nat × Nat × Nat)} {ρc : Nat → Int} {Nc : Nat} {m : sy_L} {xs : List Int32} (hGo : px_Gok q.1 G) (hH : px_Hok x.1 x.2.2.1 H) (hA : An = fun k => q.2.1[k]?) (hcl : ∀ (k : Nat) (o : Nat × List ((Int × Int) ⊕ Nat)), q.2.1[k]? = some (.inr (.inr o)) → o.1 < x.1.length) (hP : ∀ (j : Nat) (M : px_M), x.2.2.1[j]? = some M → q.1[j]? = some M) (hx : x.2.2.2.1 = some xs) (hlen : xs.length ≤ 3072) (hN1 : 1 ≤ Nc ∧ ρc 0 = xs.length) (hCs : ∀ C ∈ Cs, sy_Met x.1 x.2.1 x.2.2.1 q.2.1 x.2.2.2.2.1 C) (hD : D ≤ x.2.2.2.2.2.2) : ∀ (n : Nat) (l l' : List sy_St), sy_rndsT x.1 x.2.1 x.2.2.1 q.1 G H An q.2.1 q.2.2.1 Cs D zs j N0 cuts m n l = some l' → (∀ z ∈ l', sy_GT x q xs ρc Nc z) → ∀ z ∈ l, sy_GT x q xs ρc Nc z
  | 0, l, l', h, hG => by
    unfold sy_rndsT at h
    cases h
    exact hG
  | n + 1, l, l', h, hG => by
    unfold sy_rndsT at h
    split at h
    · rename_i l1 h1
      exact sy_rndT_ok hGo hH hA hcl hP hx hlen hN1 hCs hD l l1 h1 (sy_rndsT_ok hGo hH hA hcl hP hx hlen hN1 hCs hD n l1 l' h hG)
    · cases h
def sy_pcT : List Nat → Nat → List sy_St → List sy_St
  | [], _, l => l
  | s :: _, 0, l => l.take s
  | s :: r, j + 1, l => sy_pcT r j (l.drop s)
theorem sy_pcT_ok {p : sy_St → Prop} : ∀ (ss : List Nat) (l : List sy_St), (∀ j, j ≤ ss.length → ∀ z ∈ sy_pcT ss j l, p z) → ∀ z ∈ l, p z
  | [], l, h => h 0 (Nat.le_refl _)
  | s :: r, l, h => fun z hz => by
    have h1 : z ∈ l.take s ++ l.drop s := by rw [List.take_append_drop]; exact hz
    rcases List.mem_append.mp h1 with h2 | h2
    · exact h 0 (Nat.zero_le _) z h2
    · exact sy_pcT_ok r (l.drop s) (fun j hj => h (j + 1) (by rw [List.length_cons]; omega)) z h2
def sy_rel1 (rel : sy_Wr) (f : sy_Fa) : Bool := qx_any rel (fun q => cond (Nat.beq q.1 f.1) (match f.2.1.2 with
  | [] => cond (Nat.ble q.2.1 f.2.1.1.toNat) (Nat.ble (Nat.succ f.2.1.1.toNat) q.2.2) false
  | _ => true) false)
def sy_cF (rel : sy_Wr) (c : sy_Cut) : sy_Cut := (c.1, (c.2.1.1, c.2.1.2.1, c.2.1.2.2.1, qx_filter c.2.1.2.2.2 (sy_rel1 rel)), c.2.2)
def sy_sbW (Wc Wr : sy_Wr) : Bool := decide (sy_js Wc = sy_js Wr) && Wc.all (fun p => Wr.any (fun q => Nat.beq q.1 p.1 && (Nat.ble q.2.1 p.2.1 && Nat.ble p.2.2 q.2.2)))
theorem sy_sbW_may {Wc Wr : sy_Wr} (h : sy_sbW Wc Wr = true) {k i : Nat} (hm : sy_may Wr k i = false) : sy_may Wc k i = false := by
  cases hc : sy_may Wc k i with
  | false => rfl
  | true =>
    unfold sy_sbW at h
    rw [Bool.and_eq_true] at h
    obtain ⟨p, hp, h1⟩ := List.any_eq_true.mp hc
    obtain ⟨r, hr, h2⟩ := List.any_eq_true.mp (List.all_eq_true.mp h.2 p hp)
    simp only [Bool.and_eq_true, decide_eq_true_eq] at h1 h2
    have e1 := Nat.eq_of_beq_eq_true h2.1
    have e2 := Nat.le_of_ble_eq_true h2.2.1
    have e3 := Nat.le_of_ble_eq_true h2.2.2
    have : sy_may Wr k i = true := List.any_eq_true.mpr ⟨r, hr, by
      simp only [Bool.and_eq_true, decide_eq_true_eq]
      exact ⟨by omega, by omega, by omega⟩⟩
    rw [hm] at this
    cases this
theorem sy_pf_ok {Wr : sy_Wr} {N : Nat} {f : sy_Fa} (h : sy_pf Wr N f = true) (ρ : Nat → Int) : sy_wl N f.2.1 = true ∧ sy_wa N 0 f.2.2 = true ∧ sy_may Wr f.1 (sy_e ρ f.2.1).toNat = false := by
  unfold sy_pf at h
  obtain ⟨h1, h⟩ := qx_and h
  obtain ⟨h2, h⟩ := qx_and h
  rw [qy_wl_e] at h1
  rw [qy_wa_e] at h2
  refine ⟨h1, h2, ?_⟩
  cases hq : qx_any Wr (fun q => Nat.beq q.1 f.1) with
  | false =>
    cases hm : sy_may Wr f.1 (sy_e ρ f.2.1).toNat with
    | false => rfl
    | true =>
      obtain ⟨p, hp, h3⟩ := List.any_eq_true.mp hm
      simp only [Bool.and_eq_true, decide_eq_true_eq] at h3
      rw [qx_any_e] at hq
      have h4 : (Wr.any fun q => Nat.beq q.1 f.1) = true := List.any_eq_true.mpr ⟨p, hp, by
        show Nat.beq p.1 f.1 = true
        rw [h3.1]
        exact sy_br _⟩
      rw [hq] at h4
      cases h4
  | true =>
    rw [hq] at h
    have h' : (match f.2.1.2 with
      | [] => cond (qy_may Wr f.1 f.2.1.1.toNat) false true
      | _ => false) = true := h
    split at h'
    · rename_i he
      have e : sy_e ρ f.2.1 = f.2.1.1 := by
        unfold sy_e
        rw [he]
        show f.2.1.1 + 0 = f.2.1.1
        omega
      rw [e]
      refine qy_may_f ?_
      cases hm : qy_may Wr f.1 f.2.1.1.toNat with
      | false => rfl
      | true =>
        rw [hm] at h'
        cases h'
    · cases h'
/-- a case by what it reads and writes -/
theorem sy_frame {PM : List px_M} {A : List sy_Ce} {Wc Wr : sy_Wr} {w : px_W} {ρ0 ρs : Nat → Int} {N0 j : Nat} {M : px_M} {cuts : List sy_Cut} {c : sy_Cut} {rel : sy_Wr} {m : Int} (hWc : sy_sbW Wc Wr = true) (hI : sy_I x A Wr w ρ0 N0 M cuts m) (h : ∀ w1 : px_W, sy_Fst Wc w1 ρs c.2.1.1.length (sy_Ff Wc c) → sy_I x A Wc w1 ρ0 N0 M cuts m → sy_Good x (PM, A, Wc, w1, ρs, c.2.1.1.length) (sy_cS j (sy_cF rel c))) : sy_Good x (PM, A, Wr, w, ρs, c.2.1.1.length) (sy_cS j c) := by
  intro ρ τ w1 cc cf d hR hd
  obtain ⟨⟨⟨m1, m1'⟩, m2, m3, m4, m5, m6⟩, f1, f2⟩ := hR
  have hj : sy_js Wc = sy_js Wr := by
    have h1 := hWc
    unfold sy_sbW at h1
    rw [Bool.and_eq_true] at h1
    exact of_decide_eq_true h1.1
  have hfj : sy_fj Wc w1 := by
    unfold sy_fj
    rw [hj]
    exact m6.2
  refine h w1 (fun f hf => ?_) (fun c2 hc2 ρ2 τ2 w2 lc2 r2 a1 a2 a3 a4 a5 a6 a7 a8 => hI c2 hc2 ρ2 τ2 w2 lc2 r2 a1 a2 a3 a4 ⟨fun k i hm => ?_, ?_⟩ a6 a7 a8) ρ τ w1 cc cf d ⟨⟨⟨m1, m1'⟩, m2, m3, fun f hf => ?_, m5, ⟨fun _ _ _ => rfl, hfj⟩⟩, f1, f2⟩ hd
  · unfold sy_Ff at hf
    rw [qx_filter_e] at hf
    obtain ⟨g1, g2⟩ := List.mem_filter.mp hf
    obtain ⟨p1, p2, p3⟩ := sy_pf_ok g2 ρs
    obtain ⟨k1, k2⟩ := m4 f g1
    rw [sy_ext_l m1' p1] at k1 k2
    rw [sy_ext_a (τ' := τ) (τ := fun _ => 0) m1' (fun i hi => absurd hi (Nat.not_lt_zero i)) p2] at k2
    exact ⟨p1, p2, k1, p3, k2⟩
  · rw [a5.1 k i (sy_sbW_may hWc hm)]
    exact m6.1 k i hm
  · have h5 := a5.2
    unfold sy_fj at h5 ⊢
    rw [← hj]
    exact h5
  · have hf' : f ∈ qx_filter c.2.1.2.2.2 (sy_rel1 rel) := hf
    rw [qx_filter_e] at hf'
    exact m4 f (List.mem_filter.mp hf').1
/-- a cut in pieces: k rounds of steps, then piece i of what stands there -/
def sy_ckT (cl : List vw_C) (lt : List (List Int32)) (P PM : List px_M) (G : Nat → Nat → Option (px_M × Instr × Nat)) (H : Nat → Option (px_M × Nat)) (An : Nat → Option sy_Ce) (A : List sy_Ce) (Wr : sy_Wr) (Cs : List sy_Co) (D : Nat) (zs : List (Nat × Nat × Nat)) (j : Nat) (cuts : List sy_Cut) (n : Nat) (c : sy_Cut) (rel : sy_Wr) (k : Nat) (ss : List Nat) (i : Nat) : Bool := decide (1 ≤ c.2.1.1.length) && (sy_wl c.2.1.1.length c.2.2.2 && (match sy_sucT cl lt P PM G H An A Wr Cs D zs ([], c.2.1.1.length, sy_cS j (sy_cF rel c)) with
  | some l => (match sy_rndsT cl lt P PM G H An A Wr Cs D zs j 1 cuts c.2.2.2 k l with
    | some l' => sy_allT cl lt P PM G H An A Wr Cs D zs j 1 cuts c c.2.2.2 n (sy_pcT ss i l')
    | none => false)
  | none => false))
theorem sy_ckT_ok {cl : List vw_C} {lt : List (List Int32)} {P PM : List px_M} {G : Nat → Nat → Option (px_M × Instr × Nat)} {H : Nat → Option (px_M × Nat)} {An : Nat → Option sy_Ce} {A : List sy_Ce} {Wr Wc : sy_Wr} {Cs : List sy_Co} {D d j k n : Nat} {ss : List Nat} {rel : sy_Wr} {zs : List (Nat × Nat × Nat)} {M : px_M} {cuts : List sy_Cut} {c : sy_Cut} {xs : List Int32} {w : px_W} {ρ0 ρs : Nat → Int} (hGo : px_Gok PM G) (hH : px_Hok cl P H) (hA : An = fun k => A[k]?) (hcl : ∀ (k : Nat) (o : Nat × List ((Int × Int) ⊕ Nat)), A[k]? = some (.inr (.inr o)) → o.1 < cl.length) (hlen : xs.length ≤ 3072) (hPM : PM[j]? = some M) (hP : ∀ (j : Nat) (M : px_M), P[j]? = some M → PM[j]? = some M) (hCs : ∀ C ∈ Cs, sy_Met cl lt P A (0, 0) C) (hD : D ≤ d) (h0 : ρ0 0 = xs.length) (hWc : sy_sbW Wc Wr = true) (hks : ∀ i, i ≤ ss.length → sy_ckT cl lt P PM G H An A Wc Cs D zs j cuts n c rel k ss i = true) (hr : 1 ≤ c.2.1.1.length ∧ ∀ i, i < 1 → ρs i = ρ0 i) (hI0 : sy_I (cl, lt, P, some xs, (0, 0), (fun v _ => v = some (.int 1)), d) A Wr w ρ0 1 M cuts (sy_e ρs c.2.2.2)) : sy_Good (cl, lt, P, some xs, (0, 0), (fun v _ => v = some (.int 1)), d) (PM, A, Wr, w, ρs, c.2.1.1.length) (sy_cS j c) := by
  refine sy_frame (x := (cl, lt, P, some xs, (0, 0), (fun v _ => v = some (.int 1)), d)) (rel := rel) hWc hI0 (fun w1 hFf hI => ?_)
  have h1 := hks 0 (Nat.zero_le _)
  unfold sy_ckT at h1
  rw [Bool.and_eq_true, Bool.and_eq_true] at h1
  obtain ⟨h2, h3, h4⟩ := h1
  have hN1 : ρs 0 = xs.length := by rw [hr.2 0 (by omega)]; exact h0
  have hG : sy_GT (cl, lt, P, some xs, (0, 0), (fun v _ => v = some (.int 1)), d) (PM, A, Wc, w1) xs ρs c.2.1.1.length ([], c.2.1.1.length, sy_cS j (sy_cF rel c)) := by
    split at h4
    · rename_i l hl
      split at h4
      · rename_i l' hl'
        have ih : ∀ z ∈ l', sy_GT (cl, lt, P, some xs, (0, 0), (fun v _ => v = some (.int 1)), d) (PM, A, Wc, w1) xs ρs c.2.1.1.length z := by
          refine sy_pcT_ok ss l' (fun i hi => ?_)
          have h5 := hks i hi
          unfold sy_ckT at h5
          rw [Bool.and_eq_true, Bool.and_eq_true, hl] at h5
          have h6 := h5.2.2
          simp only [hl'] at h6
          exact sy_allT_ok (x := (cl, lt, P, some xs, (0, 0), (fun v _ => v = some (.int 1)), d)) (q := (PM, A, Wc, w1)) (ρ0 := ρ0) (ρc := ρs) (Nc := c.2.1.1.length) hGo hH hA hcl hP rfl hlen ⟨hFf, Nat.le_refl _⟩ ⟨of_decide_eq_true h2, hN1⟩ hCs hD hPM hI hr h3 rfl n _ h6
        have ih2 := sy_rndsT_ok (x := (cl, lt, P, some xs, (0, 0), (fun v _ => v = some (.int 1)), d)) (q := (PM, A, Wc, w1)) hGo hH hA hcl hP rfl hlen ⟨of_decide_eq_true h2, hN1⟩ hCs hD k l l' hl' ih
        exact sy_sucT_ok (x := (cl, lt, P, some xs, (0, 0), (fun v _ => v = some (.int 1)), d)) (q := (PM, A, Wc, w1)) hGo hH hA hcl hP rfl hlen ⟨of_decide_eq_true h2, hN1⟩ hCs hD hl ih2
      · cases h4
    · cases h4
  exact hG ρs ⟨⟨Nat.le_refl _, fun _ _ => rfl⟩, fun t ht => absurd ht List.not_mem_nil⟩
end LT
theorem sy_law2 {cl : List vw_C} {lt : List (List Int32)} {P PM : List px_M} {G : Nat → Nat → Option (px_M × Instr × Nat)} {H : Nat → Option (px_M × Nat)} {An : Nat → Option sy_Ce} {A : List sy_Ce} {Wr : sy_Wr} {Cs : List sy_Co} {D d j : Nat} {zs : List (Nat × Nat × Nat)} {M : px_M} {cuts : List sy_Cut} {xs : List Int32} (n : Nat) (hGo : px_Gok PM G) (hH : px_Hok cl P H) (hA : An = fun k => A[k]?) (hcl : ∀ (k : Nat) (o : Nat × List ((Int × Int) ⊕ Nat)), A[k]? = some (.inr (.inr o)) → o.1 < cl.length) (hlen : xs.length ≤ 3072) (hPM : PM[j]? = some M) (hP : ∀ (j : Nat) (M : px_M), P[j]? = some M → PM[j]? = some M) (hCs : ∀ C ∈ Cs, sy_Met cl lt P A (0, 0) C) (hD : D ≤ d) (hc : ∀ c ∈ cuts, ∃ (Wc : sy_Wr) (rel : sy_Wr) (k : Nat) (ss : List Nat), sy_sbW Wc Wr = true ∧ ∀ i, i ≤ ss.length → sy_ckT cl lt P PM G H An A Wc Cs D zs j cuts n c rel k ss i = true) {w : px_W} {ρ0 : Nat → Int} (h0 : ρ0 0 = xs.length) : ∀ m : Nat, sy_I (cl, lt, P, some xs, (0, 0), (fun v _ => v = some (.int 1)), d) A Wr w ρ0 1 M cuts (m : Int) := by
  refine sy_floyd hPM (fun c hcc ρs hr hI => ?_)
  obtain ⟨Wc, rel, k, ss, hWc, hks⟩ := hc c hcc
  exact sy_ckT_ok hGo hH hA hcl hlen hPM hP hCs hD h0 hWc hks hr hI

end
