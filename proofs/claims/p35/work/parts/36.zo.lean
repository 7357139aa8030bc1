noncomputable section
/-! THE LAW'S LOOP, WITH WHAT IT READ OF THE SCRIPT KEPT IN MIND -/
section LT
variable {x : sy_X} {q : sy_Q} {S : sy_S} {M : px_M} {i : Instr} {len : Nat} {l : List sy_S}
/-- splits at chosen places: 1 one by one, 2 below, above, equal, 3 a shift by a constant -/
def sy_zp1 (S : sy_S) : Option (List sy_S) := match S.2.1.2.2.2 with
  | .inl e :: _ => (match e.2.find? (fun t => match S.1.1[t.1]? with
      | some p => decide (p.1 < p.2)
      | none => false) with
    | some t => (match S.1.1[t.1]? with
      | some p => if p.2 - p.1 ≤ 300 then some (sy_spl S t.1 p.1 (p.2 - p.1 + 1).toNat) else none
      | none => none)
    | none => none)
  | _ => none
theorem sy_zp1_ok (h : sy_zp1 S = some l) : sy_S1 x q S l := by
  intro hG
  unfold sy_zp1 at h
  split at h
  · split at h
    · split at h
      · rename_i p hp
        split at h
        · cases h
          exact sy_goSpl hp hG
        · cases h
      · cases h
    · cases h
  · cases h
def sy_zp2 (i : Instr) (S : sy_S) : Option (List sy_S) := match i, S.2.1.2.2.2 with
  | .ifCond _ _, .inl a :: _ => if sy_dec S.1.1 S.1.2.2.1 a = true then none else some (sy_3 S a)
  | .if_icmp _ _, .inl b :: .inl a :: _ => if sy_dec S.1.1 S.1.2.2.1 (sy_sub a b) = true then none else some (sy_3 S (sy_sub a b))
  | _, _ => none
theorem sy_zp2_ok (h : sy_zp2 i S = some l) : sy_S1 x q S l := by
  intro hG
  unfold sy_zp2 at h
  split at h
  · split at h
    · cases h
    · cases h
      exact sy_go3 hG
  · split at h
    · cases h
    · cases h
      exact sy_go3 hG
  · cases h
def sy_zp3 (i : Instr) (len : Nat) (S : sy_S) : Option (List sy_S) := match i, S.2.1.2.2.2 with
  | .ishr, .inl b :: .inl a :: r => if len = 1 ∧ sy_wS S = true then (match sy_b S.1.1 a, sy_b S.1.1 b with
    | some p, some s => if sy_fit p = true ∧ s.1 = s.2 ∧ 0 ≤ s.1 ∧ s.1 ≤ 30 then some [sy_at S (S.1.1 ++ [(p.1 / ((2 ^ s.1.toNat : Nat) : Int), p.2 / ((2 ^ s.1.toNat : Nat) : Int))], S.1.2.1, [] ++ S.1.2.2.1, S.1.2.2.2) (S.2.1.2.1 + 1) S.2.1.2.2.1 (.inl (sy_x S.1.1.length) :: r)] else none
    | _, _ => none) else none
  | _, _ => none
theorem sy_zp3_ok (hM : q.1[S.2.1.1]? = some M) (hq : px_look M.2.1 S.2.1.2.1 = some (i, len)) (h : sy_zp3 i len S = some l) : sy_S1 x q S l := by
  intro hG
  unfold sy_zp3 at h
  split at h
  · rename_i b a r hst
    split at h
    · rename_i hc
      obtain ⟨c1, c2⟩ := hc
      subst c1
      split at h
      · rename_i p s hp hs
        split at h
        · rename_i hc
          obtain ⟨d1, d2, d3, d4⟩ := hc
          cases h
          refine sy_goFc (pre := [.inl b, .inl a]) (cs := []) c2 hM hst (fun ρ τ w lc cf d hm _ => ?_) (hG _ List.mem_cons_self)
          obtain ⟨p1, p2⟩ := sy_b_e hm.2.1 hp
          obtain ⟨s1, s2⟩ := sy_b_e hm.2.1 hs
          have es : sy_e ρ b = s.1 := by omega
          have ex := sy_fit_e d1 p1 p2
          have hz := sy_sh (X := Int32.ofInt (sy_e ρ a)) (z := sy_e ρ b) (by omega) (by omega)
          rw [ex, es] at hz
          have hpos : (0 : Int) < ((2 ^ s.1.toNat : Nat) : Int) := by
            have : 0 < 2 ^ s.1.toNat := Nat.pow_pos (by decide)
            omega
          refine ⟨_, ?_, ?_, fun ρ' a1 a2 => fun z hz2 => absurd hz2 List.not_mem_nil, sy_bstep hq rfl hst rfl⟩
          · show p.1 / _ ≤ _
            rw [es, hz]
            exact Int.ediv_le_ediv hpos p1
          · show _ ≤ p.2 / _
            rw [es, hz]
            exact Int.ediv_le_ediv hpos p2
        · cases h
      · cases h
    · cases h
  · cases h
/-- the number on top is at most 0, at most 200, or above -/
def sy_zp4 (S : sy_S) : Option (List sy_S) := match S.2.1.2.2.2 with
  | .inl (0, [(y, 1)]) :: _ => (match S.1.1[y]? with
    | some p => ([0, 200] : List Int).findSome? (fun b => if p.1 ≤ b ∧ b < p.2 then some [(sy_rng S.1 y (p.1, b), S.2), (sy_rng S.1 y (b + 1, p.2), S.2)] else none)
    | none => none)
  | _ => none
theorem sy_zp4_ok (h : sy_zp4 S = some l) : sy_S1 x q S l := by
  intro hG
  unfold sy_zp4 at h
  split at h
  · rename_i y rest hst
    split at h
    · rename_i p hp
      obtain ⟨b, -, h1⟩ := List.exists_of_findSome?_eq_some h
      split at h1
      · cases h1
        intro ρ τ w c cf k hR hd
        obtain ⟨h2, h3⟩ := hR.1.2.1 y p hp
        by_cases h4 : ρ y ≤ b
        · exact hG _ List.mem_cons_self ρ τ w c cf k ⟨sy_rng_ok hR.1 h2 h4, hR.2⟩ hd
        · exact hG _ (List.mem_cons_of_mem _ List.mem_cons_self) ρ τ w c cf k ⟨sy_rng_ok hR.1 (by show b + 1 ≤ _; omega) h3, hR.2⟩ hd
      · cases h1
    · cases h
  · cases h
def sy_zp (zs : List (Nat × Nat × Nat)) (i : Instr) (len : Nat) (S : sy_S) : Option (List sy_S) := match zs.find? (fun p => p.1 == S.2.1.1 && p.2.1 == S.2.1.2.1) with
  | some p => if p.2.2 = 1 then sy_zp1 S else if p.2.2 = 2 then sy_zp2 i S else if p.2.2 = 4 then sy_zp4 S else if p.2.2 = 3 then sy_zp3 i len S else none
  | none => none
theorem sy_zp_ok {zs : List (Nat × Nat × Nat)} (hM : q.1[S.2.1.1]? = some M) (hq : px_look M.2.1 S.2.1.2.1 = some (i, len)) (h : sy_zp zs i len S = some l) : sy_S1 x q S l := by
  unfold sy_zp at h
  split at h
  · split at h
    · exact sy_zp1_ok h
    · split at h
      · exact sy_zp2_ok h
      · split at h
        · exact sy_zp4_ok h
        · split at h
          · exact sy_zp3_ok hM hq h
          · cases h
  · cases h
/-- a state that can't be -/
def sy_dead (g : sy_G) : Bool := g.1.any (fun r => decide (r.2 < r.1)) || g.2.2.1.any (fun c => sy_pos g.1 g.2.2.1 (sy_sub (sy_c (-1)) c))
theorem sy_dead_ok (h : sy_dead S.1 = true) : sy_Good x q S := by
  intro ρ τ w c cf d hR _
  exfalso
  obtain ⟨-, m2, m3, -⟩ := hR.1
  unfold sy_dead at h
  rw [Bool.or_eq_true] at h
  rcases h with h | h
  · obtain ⟨r, hr, h1⟩ := List.any_eq_true.mp h
    obtain ⟨k, hk⟩ := List.mem_iff_getElem?.mp hr
    have := m2 k r hk
    have := of_decide_eq_true h1
    omega
  · obtain ⟨e, he, h1⟩ := List.any_eq_true.mp h
    have h2 := sy_pos_e m2 m3 h1
    have h3 := m3 e he
    rw [sy_sub_e, sy_c_e] at h2
    omega
theorem sy_wl_mono {N N' : Nat} (h : N ≤ N') {e : sy_L} (hw : sy_wl N e = true) : sy_wl N' e = true := by
  unfold sy_wl at hw ⊢
  refine List.all_eq_true.mpr (fun t ht => ?_)
  have := of_decide_eq_true (List.all_eq_true.mp hw t ht)
  exact decide_eq_true (by omega)
/-- sums that are kept in mind -/
def sy_bo : Nat → Instr
  | 0 => .iand
  | 1 => .ior
  | 2 => .ixor
  | 3 => .imul
  | 4 => .idiv
  | 5 => .irem
  | 6 => .ishl
  | 7 => .ishr
  | _ => .iushr
def sy_ob (i : Instr) : Option Nat := match i with
  | .iand => some 0
  | .ior => some 1
  | .ixor => some 2
  | .imul => some 3
  | .idiv => some 4
  | .irem => some 5
  | .ishl => some 6
  | .ishr => some 7
  | .iushr => some 8
  | _ => none
theorem sy_ob_ok {i : Instr} {k : Nat} (h : sy_ob i = some k) : i = sy_bo k ∧ px_so1 i = 1 := by
  unfold sy_ob at h
  split at h <;> first | (cases h; exact ⟨rfl, rfl⟩) | (cases h)
/-- what was read or done: 0 and a place of the script, or what was done and with which two; the symbol for it -/
abbrev sy_Me : Type := Nat × sy_L × sy_L × Nat
def sy_tk (xs : List Int32) (ρs : Nat → Int) (t : sy_Me) : Prop := match t.1 with
  | 0 => xs.getD (sy_e ρs t.2.1).toNat 0 = Int32.ofInt (ρs t.2.2.2)
  | k + 1 => px_bin (sy_bo k) (Int32.ofInt (sy_e ρs t.2.1)) (Int32.ofInt (sy_e ρs t.2.2.1)) = some (Int32.ofInt (ρs t.2.2.2))
theorem sy_tk_ext {xs : List Int32} {ρ ρ' : Nat → Int} {N : Nat} (h : ∀ i, i < N → ρ' i = ρ i) {t : sy_Me} (h1 : sy_wl N t.2.1 = true) (h2 : sy_wl N t.2.2.1 = true) (h3 : t.2.2.2 < N) (ht : sy_tk xs ρ t) : sy_tk xs ρ' t := by
  obtain ⟨k, a, b, s⟩ := t
  dsimp only at h1 h2 h3
  cases k with
  | zero =>
    show xs.getD (sy_e ρ' a).toNat 0 = Int32.ofInt (ρ' s)
    rw [sy_ext_l h h1, h s h3]
    exact ht
  | succ k =>
    show px_bin (sy_bo k) (Int32.ofInt (sy_e ρ' a)) (Int32.ofInt (sy_e ρ' b)) = some (Int32.ofInt (ρ' s))
    rw [sy_ext_l h h1, sy_ext_l h h2, h s h3]
    exact ht
/-- what is kept in mind; how many symbols are fixed; the state -/
abbrev sy_St : Type := List sy_Me × Nat × sy_S
def sy_tv (xs : List Int32) (ρc : Nat → Int) (Nc : Nat) (T : List sy_Me) (N : Nat) (ρs : Nat → Int) : Prop := (Nc ≤ N ∧ ∀ i, i < Nc → ρs i = ρc i) ∧ ∀ t ∈ T, sy_wl N t.2.1 = true ∧ sy_wl N t.2.2.1 = true ∧ t.2.2.2 < N ∧ sy_tk xs ρs t
abbrev sy_Q4 : Type := List px_M × List sy_Ce × sy_Wr × px_W
def sy_q6 (q : sy_Q4) (ρs : Nat → Int) (N : Nat) : sy_Q := (q.1, q.2.1, q.2.2.1, q.2.2.2, ρs, N)
def sy_GT (x : sy_X) (q : sy_Q4) (xs : List Int32) (ρc : Nat → Int) (Nc : Nat) (z : sy_St) : Prop := ∀ ρs : Nat → Int, sy_tv xs ρc Nc z.1 z.2.1 ρs → sy_Good x (sy_q6 q ρs z.2.1) z.2.2
def sy_lift (z : sy_St) (o : Option (List sy_S)) : Option (List sy_St) := o.map (fun l => l.map (fun s => (z.1, z.2.1, s)))
theorem sy_lift_ok {q : sy_Q4} {xs : List Int32} {ρc : Nat → Int} {Nc : Nat} {z : sy_St} {o : Option (List sy_S)} {l' : List sy_St} (h : sy_lift z o = some l') (hS : ∀ l, o = some l → ∀ ρs, sy_S1 x (sy_q6 q ρs z.2.1) z.2.2 l) (hG : ∀ z' ∈ l', sy_GT x q xs ρc Nc z') : sy_GT x q xs ρc Nc z := by
  obtain ⟨l, hl, rfl⟩ := Option.map_eq_some_iff.mp h
  intro ρs hv
  exact hS l hl ρs (fun S' hS' => hG (z.1, z.2.1, S') (List.mem_map.mpr ⟨S', hS', rfl⟩) ρs hv)
/-- reads of the script -/
def sy_uT (i : Instr) (len : Nat) (z : sy_St) : Option (List sy_St) := match i, z.2.2.2.1.2.2.2 with
  | .arraylength, .inr (.inl 0) :: _ => sy_lift z (sy_uQ i len z.2.2)
  | .iaload, .inl ix :: .inr (.inl 0) :: r => if len = 1 ∧ z.2.2.2.2 = [] ∧ sy_wS z.2.2 = true ∧ sy_pos z.2.2.1.1 z.2.2.1.2.2.1 ix = true ∧ sy_pos z.2.2.1.1 z.2.2.1.2.2.1 (sy_add (sy_sub (sy_x 0) ix) (sy_c (-1))) = true then (match z.1.find? (fun t => decide (t.1 = 0) && decide (t.2.1 = ix)) with
    | some t => some [(z.1, z.2.1, sy_at z.2.2 z.2.2.1 (z.2.2.2.1.2.1 + 1) z.2.2.2.1.2.2.1 (.inl (sy_x t.2.2.2) :: r))]
    | none => some [((0, ix, ix, z.2.2.1.1.length) :: z.1, z.2.2.1.1.length + 1, sy_at z.2.2 (sy_new z.2.2.1 sy_full) (z.2.2.2.1.2.1 + 1) z.2.2.2.1.2.2.1 (.inl (sy_x z.2.2.1.1.length) :: r))]) else none
  | _, _ => none
theorem sy_uT_ok {q : sy_Q4} {xs : List Int32} {ρc : Nat → Int} {Nc : Nat} {z : sy_St} {l' : List sy_St} (hx : x.2.2.2.1 = some xs) (hlen : xs.length ≤ 3072) (hN : 1 ≤ Nc ∧ ρc 0 = xs.length) (hM : q.1[z.2.2.2.1.1]? = some M) (hq : px_look M.2.1 z.2.2.2.1.2.1 = some (i, len)) (h : sy_uT i len z = some l') (hG : ∀ z' ∈ l', sy_GT x q xs ρc Nc z') : sy_GT x q xs ρc Nc z := by
  unfold sy_uT at h
  split at h
  · rename_i r hst
    intro ρs hv
    obtain ⟨l, hl, rfl⟩ := Option.map_eq_some_iff.mp h
    exact sy_uQ_ok (q := sy_q6 q ρs z.2.1) hx hlen ⟨Nat.le_trans hN.1 hv.1.1, by show ρs 0 = _; rw [hv.1.2 0 (by omega)]; exact hN.2⟩ hM hq hl (fun S' hS' => hG (z.1, z.2.1, S') (List.mem_map.mpr ⟨S', hS', rfl⟩) ρs hv)
  · rename_i ix r hst
    split at h
    · rename_i hc
      obtain ⟨h1, hfs, hw, p1, p2⟩ := hc
      subst h1
      have hwx : sy_wl z.2.2.1.1.length ix = true := sy_wst hw (by rw [hst]; exact List.mem_cons_self)
      split at h
      · rename_i t ht
        cases h
        have htm := List.mem_of_find?_eq_some ht
        have hte0 := List.find?_some (p := fun t : sy_Me => decide (t.1 = 0) && decide (t.2.1 = ix)) ht
        rw [Bool.and_eq_true] at hte0
        have hte1 : t.1 = 0 := of_decide_eq_true hte0.1
        have hte : t.2.1 = ix := of_decide_eq_true hte0.2
        intro ρs hv
        obtain ⟨t1, -, t2, t4⟩ := hv.2 t htm
        have t3 : xs.getD (sy_e ρs t.2.1).toNat 0 = Int32.ofInt (ρs t.2.2.2) := by
          unfold sy_tk at t4
          rw [hte1] at t4
          exact t4
        refine sy_open (S := z.2.2) (q := sy_q6 q ρs z.2.1) (fun ρ τ w lc cf d hm hl hf hd => ?_) hM
        have hcf : cf = [] := by rw [hfs] at hf; exact sy_frs_nil hf
        have hag : ∀ i, i < z.2.1 → ρ i = ρs i := hm.1.2
        have h0 : ρ 0 = xs.length := by rw [hag 0 (by have := hv.1.1; omega), hv.1.2 0 (by omega)]; exact hN.2
        have a1 := sy_pos_e hm.2.1 hm.2.2.1 p1
        have a2 := sy_pos_e hm.2.1 hm.2.2.1 p2
        rw [sy_add_e, sy_sub_e, sy_x_e, sy_c_e, h0] at a2
        obtain ⟨x1, x2⟩ := px_ix_of (z := sy_e ρ ix) (n := xs.length) a1 (by omega) (by omega)
        have e5 : xs.getD (sy_e ρ ix).toNat 0 = Int32.ofInt (ρ t.2.2.2) := by
          rw [← hte, sy_ext_l hag t1, t3, hag t.2.2.2 t2]
        have hu := sy_use (S := z.2.2) (q := sy_q6 q ρs z.2.1) (hG _ List.mem_cons_self ρs hv) hM hm hl hf hd
        have e3 : (.inl (sy_x t.2.2.2) :: r : List sy_A).map (sy_v ρ τ) = .int (xs.getD (sy_e ρ ix).toNat 0) :: r.map (sy_v ρ τ) := by
          show Value.int (Int32.ofInt (sy_e ρ (sy_x t.2.2.2))) :: r.map (sy_v ρ τ) = _
          rw [sy_x_e, e5]
        rw [e3] at hu
        refine (fun hs : px_s2 x.1 x.2.1 .iaload 1 (pf_scr x.2.2.2.1 cf) M.1.1.name M.1.1.cls M.2.2 (z.2.2.2.1.2.2.2.map (sy_v ρ τ)) w = some (.int (xs.getD (sy_e ρ ix).toNat 0) :: r.map (sy_v ρ τ), w, 0, 0) => pf_next (px_step_2 hq rfl hs) hu) ?_
        rw [hst, hcf, hx]
        show (if px_ix (Int32.ofInt (sy_e ρ ix)) xs.length = true then some (Value.int (xs.getD (Int32.ofInt (sy_e ρ ix)).toNatClampNeg 0) :: r.map (sy_v ρ τ), w, 0, 0) else none) = _
        rw [if_pos x1, x2]
      · cases h
        intro ρs hv
        refine sy_open (S := z.2.2) (q := sy_q6 q ρs z.2.1) (fun ρ τ w lc cf d hm hl hf hd => ?_) hM
        have hcf : cf = [] := by rw [hfs] at hf; exact sy_frs_nil hf
        have hag : ∀ i, i < z.2.1 → ρ i = ρs i := hm.1.2
        have hNl : z.2.1 ≤ z.2.2.1.1.length := hm.1.1
        have h0 : ρ 0 = xs.length := by rw [hag 0 (by have := hv.1.1; omega), hv.1.2 0 (by omega)]; exact hN.2
        have a1 := sy_pos_e hm.2.1 hm.2.2.1 p1
        have a2 := sy_pos_e hm.2.1 hm.2.2.1 p2
        rw [sy_add_e, sy_sub_e, sy_x_e, sy_c_e, h0] at a2
        obtain ⟨x1, x2⟩ := px_ix_of (z := sy_e ρ ix) (n := xs.length) a1 (by omega) (by omega)
        have hb := sy_full_in (xs.getD (sy_e ρ ix).toNat 0)
        obtain ⟨ρ', e1, e2, hm', ⟨f1, f2, f3, f4⟩, hf'⟩ := sy_fresh (S := z.2.2) (q := sy_q6 q ρs z.2.1) (c := (M, z.2.2.2.1.2.1, lc, z.2.2.2.1.2.2.2.map (sy_v ρ τ))) hw ⟨hm, ⟨hM, rfl, hl, rfl⟩, hf⟩ hb.1 hb.2
        have f4' : z.2.2.2.1.2.2.2.map (sy_v ρ τ) = z.2.2.2.1.2.2.2.map (sy_v ρ' τ) := f4
        rw [hst] at f4'
        have hr : r.map (sy_v ρ τ) = r.map (sy_v ρ' τ) := (List.cons.inj (List.cons.inj f4').2).2
        have hag2 : ∀ i, i < z.2.1 → ρ' i = ρs i := fun i hi => by rw [e1 i (by omega)]; exact hag i hi
        have hv' : sy_tv xs ρc Nc ((0, ix, ix, z.2.2.1.1.length) :: z.1) (z.2.2.1.1.length + 1) ρ' := by
          refine ⟨⟨by have := hv.1.1; omega, fun i hi => by rw [hag2 i (by have := hv.1.1; omega)]; exact hv.1.2 i hi⟩, fun t ht => ?_⟩
          rcases List.mem_cons.mp ht with rfl | ht
          · refine ⟨sy_wl_mono (Nat.le_succ _) hwx, sy_wl_mono (Nat.le_succ _) hwx, Nat.lt_succ_self _, ?_⟩
            show xs.getD (sy_e ρ' ix).toNat 0 = Int32.ofInt (ρ' z.2.2.1.1.length)
            rw [sy_ext_l e1 hwx, e2, Int32.ofInt_toInt]
          · obtain ⟨t1, t2, t3, t4⟩ := hv.2 t ht
            exact ⟨sy_wl_mono (by omega) t1, sy_wl_mono (by omega) t2, by omega, sy_tk_ext hag2 t1 t2 t3 t4⟩
        have hm2 : sy_mem (sy_q6 q ρ' (z.2.2.1.1.length + 1)) (sy_new z.2.2.1 sy_full) ρ' τ w := ⟨⟨by show _ ≤ (z.2.2.1.1 ++ [sy_full]).length; rw [List.length_append]; exact Nat.le_refl _, fun _ _ => rfl⟩, hm'.2⟩
        have hu := sy_use (S := z.2.2) (q := sy_q6 q ρ' (z.2.2.1.1.length + 1)) (hG _ List.mem_cons_self ρ' hv') hM hm2 f3 hf' hd
        have e3 : (.inl (sy_x z.2.2.1.1.length) :: r : List sy_A).map (sy_v ρ' τ) = .int (xs.getD (sy_e ρ ix).toNat 0) :: r.map (sy_v ρ τ) := by
          show Value.int (Int32.ofInt (sy_e ρ' (sy_x z.2.2.1.1.length))) :: r.map (sy_v ρ' τ) = _
          rw [sy_x_e, e2, Int32.ofInt_toInt, hr]
        rw [e3] at hu
        refine (fun hs : px_s2 x.1 x.2.1 .iaload 1 (pf_scr x.2.2.2.1 cf) M.1.1.name M.1.1.cls M.2.2 (z.2.2.2.1.2.2.2.map (sy_v ρ τ)) w = some (.int (xs.getD (sy_e ρ ix).toNat 0) :: r.map (sy_v ρ τ), w, 0, 0) => pf_next (px_step_2 hq rfl hs) hu) ?_
        rw [hst, hcf, hx]
        show (if px_ix (Int32.ofInt (sy_e ρ ix)) xs.length = true then some (Value.int (xs.getD (Int32.ofInt (sy_e ρ ix)).toNatClampNeg 0) :: r.map (sy_v ρ τ), w, 0, 0) else none) = _
        rw [if_pos x1, x2]
    · cases h
  · cases h
/-- a sum that is kept in mind, at chosen places -/
def sy_uO (zs : List (Nat × Nat × Nat)) (i : Instr) (len : Nat) (z : sy_St) : Option (List sy_St) := if zs.any (fun p => p.1 == z.2.2.2.1.1 && (p.2.1 == z.2.2.2.1.2.1 && p.2.2 == 5)) = true then (match sy_ob i, z.2.2.2.1.2.2.2 with
  | some k, .inl b :: .inl a :: r => if len = 1 ∧ sy_wS z.2.2 = true then (match z.1.find? (fun t => decide (t.1 = k + 1) && (decide (t.2.1 = a) && decide (t.2.2.1 = b))) with
    | some t => some [(z.1, z.2.1, sy_at z.2.2 z.2.2.1 (z.2.2.2.1.2.1 + 1) z.2.2.2.1.2.2.1 (.inl (sy_x t.2.2.2) :: r))]
    | none => (match sy_bn z.2.2.1.1 i a b with
      | some rg => some [((k + 1, a, b, z.2.2.1.1.length) :: z.1, z.2.2.1.1.length + 1, sy_at z.2.2 (sy_new z.2.2.1 rg) (z.2.2.2.1.2.1 + 1) z.2.2.2.1.2.2.1 (.inl (sy_x z.2.2.1.1.length) :: r))]
      | none => none)) else none
  | _, _ => none) else none
theorem sy_uO_ok {q : sy_Q4} {xs : List Int32} {ρc : Nat → Int} {Nc : Nat} {zs : List (Nat × Nat × Nat)} {z : sy_St} {l' : List sy_St} (hM : q.1[z.2.2.2.1.1]? = some M) (hq : px_look M.2.1 z.2.2.2.1.2.1 = some (i, len)) (h : sy_uO zs i len z = some l') (hG : ∀ z' ∈ l', sy_GT x q xs ρc Nc z') : sy_GT x q xs ρc Nc z := by
  unfold sy_uO at h
  split at h
  · split at h
    · rename_i k b a r hk hst
      obtain ⟨hi, h1⟩ := sy_ob_ok hk
      split at h
      · rename_i hc
        obtain ⟨hl1, hw⟩ := hc
        subst hl1
        have hwa : sy_wl z.2.2.1.1.length a = true := sy_wst hw (by rw [hst]; exact List.mem_cons_of_mem _ List.mem_cons_self)
        have hwb : sy_wl z.2.2.1.1.length b = true := sy_wst hw (by rw [hst]; exact List.mem_cons_self)
        split at h
        · rename_i t ht
          cases h
          have htm := List.mem_of_find?_eq_some ht
          have hte0 := List.find?_some (p := fun t : sy_Me => decide (t.1 = k + 1) && (decide (t.2.1 = a) && decide (t.2.2.1 = b))) ht
          rw [Bool.and_eq_true, Bool.and_eq_true] at hte0
          have hte1 : t.1 = k + 1 := of_decide_eq_true hte0.1
          have hte2 : t.2.1 = a := of_decide_eq_true hte0.2.1
          have hte3 : t.2.2.1 = b := of_decide_eq_true hte0.2.2
          intro ρs hv
          obtain ⟨t1, t2, t3, t4⟩ := hv.2 t htm
          have t5 : px_bin i (Int32.ofInt (sy_e ρs a)) (Int32.ofInt (sy_e ρs b)) = some (Int32.ofInt (ρs t.2.2.2)) := by
            unfold sy_tk at t4
            rw [hte1] at t4
            rw [hi, ← hte2, ← hte3]
            exact t4
          rw [hte2] at t1
          rw [hte3] at t2
          refine sy_open (S := z.2.2) (q := sy_q6 q ρs z.2.1) (fun ρ τ w lc cf d hm hl hf hd => ?_) hM
          have hag : ∀ i, i < z.2.1 → ρ i = ρs i := hm.1.2
          have t6 : px_bin i (Int32.ofInt (sy_e ρ a)) (Int32.ofInt (sy_e ρ b)) = some (Int32.ofInt (sy_e ρ (sy_x t.2.2.2))) := by
            rw [sy_ext_l hag t1, sy_ext_l hag t2, sy_x_e, hag t.2.2.2 t3]
            exact t5
          have hu := sy_use (S := z.2.2) (q := sy_q6 q ρs z.2.1) (hG _ List.mem_cons_self ρs hv) hM hm hl hf hd
          exact pf_next (sy_bstep hq h1 hst t6) hu
        · split at h
          · rename_i rg hrg
            cases h
            intro ρs hv
            refine sy_open (S := z.2.2) (q := sy_q6 q ρs z.2.1) (fun ρ τ w lc cf d hm hl hf hd => ?_) hM
            have hag : ∀ i, i < z.2.1 → ρ i = ρs i := hm.1.2
            have hNl : z.2.1 ≤ z.2.2.1.1.length := hm.1.1
            obtain ⟨Z, z1, z2, z3⟩ := sy_bn_ok hm.2.1 hrg
            obtain ⟨ρ', e1, e2, hm', ⟨f1, f2, f3, f4⟩, hf'⟩ := sy_fresh (S := z.2.2) (q := sy_q6 q ρs z.2.1) (c := (M, z.2.2.2.1.2.1, lc, z.2.2.2.1.2.2.2.map (sy_v ρ τ))) hw ⟨hm, ⟨hM, rfl, hl, rfl⟩, hf⟩ z2 z3
            have f4' : z.2.2.2.1.2.2.2.map (sy_v ρ τ) = z.2.2.2.1.2.2.2.map (sy_v ρ' τ) := f4
            rw [hst] at f4'
            have hr : r.map (sy_v ρ τ) = r.map (sy_v ρ' τ) := (List.cons.inj (List.cons.inj f4').2).2
            have hag2 : ∀ i, i < z.2.1 → ρ' i = ρs i := fun i hi => by rw [e1 i (by omega)]; exact hag i hi
            have hv' : sy_tv xs ρc Nc ((k + 1, a, b, z.2.2.1.1.length) :: z.1) (z.2.2.1.1.length + 1) ρ' := by
              refine ⟨⟨by have := hv.1.1; omega, fun i hi => by rw [hag2 i (by have := hv.1.1; omega)]; exact hv.1.2 i hi⟩, fun t ht => ?_⟩
              rcases List.mem_cons.mp ht with rfl | ht
              · refine ⟨sy_wl_mono (Nat.le_succ _) hwa, sy_wl_mono (Nat.le_succ _) hwb, Nat.lt_succ_self _, ?_⟩
                show px_bin (sy_bo k) (Int32.ofInt (sy_e ρ' a)) (Int32.ofInt (sy_e ρ' b)) = some (Int32.ofInt (ρ' z.2.2.1.1.length))
                rw [sy_ext_l e1 hwa, sy_ext_l e1 hwb, e2, Int32.ofInt_toInt, ← hi]
                exact z1
              · obtain ⟨t1, t2, t3, t4⟩ := hv.2 t ht
                exact ⟨sy_wl_mono (by omega) t1, sy_wl_mono (by omega) t2, by omega, sy_tk_ext hag2 t1 t2 t3 t4⟩
            have hm2 : sy_mem (sy_q6 q ρ' (z.2.2.1.1.length + 1)) (sy_new z.2.2.1 rg) ρ' τ w := ⟨⟨by show _ ≤ (z.2.2.1.1 ++ [rg]).length; rw [List.length_append]; exact Nat.le_refl _, fun _ _ => rfl⟩, hm'.2⟩
            have hu := sy_use (S := z.2.2) (q := sy_q6 q ρ' (z.2.2.1.1.length + 1)) (hG _ List.mem_cons_self ρ' hv') hM hm2 f3 hf' hd
            have e3 : (.inl (sy_x z.2.2.1.1.length) :: r : List sy_A).map (sy_v ρ' τ) = .int Z :: r.map (sy_v ρ τ) := by
              show Value.int (Int32.ofInt (sy_e ρ' (sy_x z.2.2.1.1.length))) :: r.map (sy_v ρ' τ) = _
              rw [sy_x_e, e2, Int32.ofInt_toInt, hr]
            rw [e3] at hu
            exact pf_next (sy_bstep hq h1 hst z1) hu
          · cases h
      · cases h
    · cases h
  · cases h
theorem sy_uC_ok2 {D : Nat} (hD : D ≤ x.2.2.2.2.2.2) (hP : ∀ (j : Nat) (M : px_M), x.2.2.1[j]? = some M → q.1[j]? = some M) (hM : q.1[S.2.1.1]? = some M) (hq : px_look M.2.1 S.2.1.2.1 = some (i, len)) (h : sy_uC x.1 x.2.2.1 q.2.1 D M i len S = some l) : sy_S1 x q S l := by
  intro hG
  obtain ⟨z, hz, h1⟩ := Option.bind_eq_some_iff.mp h
  obtain ⟨M', hM', h2⟩ := Option.bind_eq_some_iff.mp h1
  split at h2
  · rename_i hc
    cases h2
    exact sy_goCall hM hq hz hM' (hP _ _ hM') hc.1 (by omega) (hG _ List.mem_cons_self)
  · cases h2
/-- a step of the law's frame, or of one that it calls in place -/
def sy_sucT (cl : List vw_C) (lt : List (List Int32)) (P PM : List px_M) (G : Nat → Nat → Option (px_M × Instr × Nat)) (H : Nat → Option (px_M × Nat)) (An : Nat → Option sy_Ce) (A : List sy_Ce) (Wr : sy_Wr) (Cs : List sy_Co) (D : Nat) (zs : List (Nat × Nat × Nat)) (z : sy_St) : Option (List sy_St) := match G z.2.2.2.1.1 z.2.2.2.1.2.1 with
  | none => none
  | some (M, i, len) => px_or (sy_lift z (px_or (sy_zp zs i len z.2.2) (cond (sy_top z.2.2.2.1.2.2.2) none (px_or (sy_p0 A z.2.2) (sy_p1 z.2.2))))) (px_or (sy_uT i len z) (px_or (sy_uO zs i len z) (sy_lift z (px_or (cond (Nat.beq (sy_pq z.2.2.2.1.1 z.2.2.2.1.2.1) 0) (ty_tg cl An H A Wr Cs D M i len z.2.2 (sy_tag i)) none) (px_or (sy_pre A Wr M i z.2.2) (px_or (sy_uN A i len z.2.2) (px_or (sy_u1 M i len z.2.2) (px_or (sy_uB i len z.2.2) (px_or (sy_uR A M i len z.2.2) (px_or (sy_uW cl A Wr M i len z.2.2) (px_or (sy_uK lt A M i len z.2.2) (px_or (sy_uA i len z.2.2) (px_or (sy_uV M i len z.2.2) (px_or (sy_uX D M i len z.2.2) (px_or (sy_uL lt A Wr M i len z.2.2) (px_or (sy_uY A Wr D M i len z.2.2) (match sy_cl cl A P i len M.2.2 z.2.2.2.1.2.2.2 with
      | some y => if Cs.any (fun C => C.1 == y.1) = true then sy_uM P Wr D z.2.2 y Cs else sy_uC cl P A D M i len z.2.2
      | none => none)))))))))))))))))
theorem sy_sucT_ok {q : sy_Q4} {G : Nat → Nat → Option (px_M × Instr × Nat)} {H : Nat → Option (px_M × Nat)} {An : Nat → Option sy_Ce} {D : Nat} {Cs : List sy_Co} {xs : List Int32} {ρc : Nat → Int} {Nc : Nat} {zs : List (Nat × Nat × Nat)} {z : sy_St} {l' : List sy_St} (hGo : px_Gok q.1 G) (hH : px_Hok x.1 x.2.2.1 H) (hA : An = fun k => q.2.1[k]?) (hcl : ∀ (k : Nat) (o : Nat × List ((Int × Int) ⊕ Nat)), q.2.1[k]? = some (.inr (.inr o)) → o.1 < x.1.length) (hP : ∀ (j : Nat) (M : px_M), x.2.2.1[j]? = some M → q.1[j]? = some M) (hx : x.2.2.2.1 = some xs) (hlen : xs.length ≤ 3072) (hN : 1 ≤ Nc ∧ ρc 0 = xs.length) (hCs : ∀ C ∈ Cs, sy_Met x.1 x.2.1 x.2.2.1 q.2.1 x.2.2.2.2.1 C) (hD : D ≤ x.2.2.2.2.2.2) (h : sy_sucT x.1 x.2.1 x.2.2.1 q.1 G H An q.2.1 q.2.2.1 Cs D zs z = some l') (hG : ∀ z' ∈ l', sy_GT x q xs ρc Nc z') : sy_GT x q xs ρc Nc z := by
  unfold sy_sucT at h
  split at h
  · cases h
  · rename_i M i len hg
    obtain ⟨hM, hq⟩ := hGo _ _ _ _ _ hg
    rcases px_or_some h with h | h
    · refine sy_lift_ok h (fun l hl ρs => ?_) hG
      rcases px_or_some hl with hl | hl
      · exact sy_zp_ok (q := sy_q6 q ρs z.2.1) hM hq hl
      · rcases px_cond hl with hl | hl
        · cases hl
        rcases px_or_some hl with hl | hl
        · exact sy_p0_ok (q := sy_q6 q ρs z.2.1) hl
        · exact sy_p1_ok hl
    rcases px_or_some h with h | h
    · exact sy_uT_ok hx hlen hN hM hq h hG
    rcases px_or_some h with h | h
    · exact sy_uO_ok hM hq h hG
    refine sy_lift_ok h (fun l h ρs => ?_) hG
    rcases px_or_some h with h | h
    · rcases px_cond h with h | h
      · rw [hA] at h
        exact ty_tg_ok (q := sy_q6 q ρs z.2.1) hH hcl hCs hD hP hM hq h
      · cases h
    rcases px_or_some h with h | h
    · exact sy_pre_ok (q := sy_q6 q ρs z.2.1) h
    rcases px_or_some h with h | h
    · exact sy_uN_ok (q := sy_q6 q ρs z.2.1) hM hq h
    rcases px_or_some h with h | h
    · exact sy_u1_ok (q := sy_q6 q ρs z.2.1) hM hq h
    rcases px_or_some h with h | h
    · exact sy_uB_ok (q := sy_q6 q ρs z.2.1) hM hq h
    rcases px_or_some h with h | h
    · exact sy_uR_ok (q := sy_q6 q ρs z.2.1) hM hq h
    rcases px_or_some h with h | h
    · exact sy_uW_ok (q := sy_q6 q ρs z.2.1) hM hq h
    rcases px_or_some h with h | h
    · exact sy_uK_ok (q := sy_q6 q ρs z.2.1) hM hq h
    rcases px_or_some h with h | h
    · exact sy_uA_ok (q := sy_q6 q ρs z.2.1) hM hq h
    rcases px_or_some h with h | h
    · exact sy_uV_ok (q := sy_q6 q ρs z.2.1) hM hq h
    rcases px_or_some h with h | h
    · exact sy_uX_ok (q := sy_q6 q ρs z.2.1) hD hM hq h
    rcases px_or_some h with h | h
    · exact sy_uL_ok (q := sy_q6 q ρs z.2.1) hM hq h
    rcases px_or_some h with h | h
    · exact sy_uY_ok (q := sy_q6 q ρs z.2.1) hD hM hq h
    split at h
    · rename_i y hy
      split at h
      · exact sy_uM_ok (q := sy_q6 q ρs z.2.1) hD hM hq hy Cs hCs h
      · exact sy_uC_ok2 (q := sy_q6 q ρs z.2.1) hD hP hM hq h
    · cases h
def ty_haltL (G : Nat → Nat → Option (px_M × Instr × Nat)) (j N0 : Nat) (cuts : List sy_Cut) (m : sy_L) (S : sy_S) : Option Bool := match S.2.2 with
  | _ :: _ => none
  | [] => cond (S.2.1.2.2.2.isEmpty && (Nat.beq S.2.1.1 j && cuts.any (fun c => Nat.beq c.1 S.2.1.2.1))) (some (cuts.any (fun c => Nat.beq c.1 S.2.1.2.1 && (sy_qk S.2.1.2.2.1 c.2.2.1 && sy_atC N0 m S c)))) (match G S.2.1.1 S.2.1.2.1 with
    | some (M, i, len) => cond (Nat.beq (sy_tag i) 1) none (match sy_rt S.1.1 i len M.1.2.2.2.1 S.2.1.2.2.2 with
        | some v => some (decide (v = some (.inl (sy_c 1))))
        | none => none)
    | none => none)
theorem ty_haltL_ok {G : Nat → Nat → Option (px_M × Instr × Nat)} {cuts : List sy_Cut} {j N0 : Nat} {ρ0 : Nat → Int} {m : sy_L} (hGo : px_Gok q.1 G) (hMC : q.1[j]? = some M) (hI : sy_I x q.2.1 q.2.2.1 q.2.2.2.1 ρ0 N0 M cuts (sy_e q.2.2.2.2.1 m)) (hN : N0 ≤ q.2.2.2.2.2 ∧ ∀ i, i < N0 → q.2.2.2.2.1 i = ρ0 i) (hmw : sy_wl q.2.2.2.2.2 m = true) (hK : x.2.2.2.2.2.1 = fun v _ => v = some (.int 1)) (h : ty_haltL G j N0 cuts m S = some true) : sy_Good x q S := by
  unfold ty_haltL at h
  split at h
  · cases h
  · rename_i hfs
    cases hc : (S.2.1.2.2.2.isEmpty && (Nat.beq S.2.1.1 j && cuts.any (fun c => Nat.beq c.1 S.2.1.2.1))) with
    | true =>
      rw [hc, px_c1] at h
      have h0 : some (cuts.any (fun c => Nat.beq c.1 S.2.1.2.1 && (sy_qk S.2.1.2.2.1 c.2.2.1 && sy_atC N0 m S c))) = some true := h
      rw [Bool.and_eq_true, Bool.and_eq_true] at hc
      obtain ⟨c, hcc, h1⟩ := List.any_eq_true.mp (Option.some.inj h0)
      rw [Bool.and_eq_true, Bool.and_eq_true] at h1
      exact sy_atC_ok hI hN hmw (by rw [Nat.eq_of_beq_eq_true hc.2.1]; exact hMC) hcc h1.2.2
    | false =>
      rw [hc, px_c0] at h
      split at h
      · rename_i M2 i len hg
        obtain ⟨hM2, hq⟩ := hGo _ _ _ _ _ hg
        rcases px_cond h with h | h
        · cases h
        split at h
        · rename_i v hv
          have h1 : v = some (.inl (sy_c 1)) := of_decide_eq_true (Option.some.inj h)
          refine sy_goEnd hM2 hq hv hfs (fun ρ τ w hm => ?_)
          rw [hK, h1]
          show some (Value.int (Int32.ofInt (sy_e ρ (sy_c 1)))) = _
          rw [sy_c_e]
          rfl
        · cases h
      · cases h
def sy_allT (cl : List vw_C) (lt : List (List Int32)) (P PM : List px_M) (G : Nat → Nat → Option (px_M × Instr × Nat)) (H : Nat → Option (px_M × Nat)) (An : Nat → Option sy_Ce) (A : List sy_Ce) (Wr : sy_Wr) (Cs : List sy_Co) (D : Nat) (zs : List (Nat × Nat × Nat)) (j N0 : Nat) (cuts : List sy_Cut) (m : sy_L) : Nat → List sy_St → Bool
  | 0, _ => false
  | _ + 1, [] => true
  | n + 1, z :: r => match ty_haltL G j N0 cuts m z.2.2 with
    | some b => (b || sy_dead z.2.2.1) && sy_allT cl lt P PM G H An A Wr Cs D zs j N0 cuts m n r
    | none => (match sy_sucT cl lt P PM G H An A Wr Cs D zs z with
      | some l => sy_allT cl lt P PM G H An A Wr Cs D zs j N0 cuts m n (l ++ r)
      | none => false)
theorem sy_allT_ok {q : sy_Q4} {G : Nat → Nat → Option (px_M × Instr × Nat)} {H : Nat → Option (px_M × Nat)} {An : Nat → Option sy_Ce} {cuts : List sy_Cut} {Cs : List sy_Co} {D j N0 : Nat} {zs : List (Nat × Nat × Nat)} {ρ0 ρc : Nat → Int} {Nc : Nat} {m : sy_L} {xs : List Int32} (hGo : px_Gok q.1 G) (hH : px_Hok x.1 x.2.2.1 H) (hA : An = fun k => q.2.1[k]?) (hcl : ∀ (k : Nat) (o : Nat × List ((Int × Int) ⊕ Nat)), q.2.1[k]? = some (.inr (.inr o)) → o.1 < x.1.length) (hP : ∀ (j : Nat) (M : px_M), x.2.2.1[j]? = some M → q.1[j]? = some M) (hx : x.2.2.2.1 = some xs) (hlen : xs.length ≤ 3072) (hN1 : 1 ≤ Nc ∧ ρc 0 = xs.length) (hCs : ∀ C ∈ Cs, sy_Met x.1 x.2.1 x.2.2.1 q.2.1 x.2.2.2.2.1 C) (hD : D ≤ x.2.2.2.2.2.2) (hMC : q.1[j]? = some M) (hI : sy_I x q.2.1 q.2.2.1 q.2.2.2 ρ0 N0 M cuts (sy_e ρc m)) (hN : N0 ≤ Nc ∧ ∀ i, i < N0 → ρc i = ρ0 i) (hmw : sy_wl Nc m = true) (hK : x.2.2.2.2.2.1 = (fun v _ => v = some (.int 1))) : ∀ (n : Nat) (l : List sy_St), sy_allT x.1 x.2.1 x.2.2.1 q.1 G H An q.2.1 q.2.2.1 Cs D zs j N0 cuts m n l = true → ∀ z ∈ l, sy_GT x q xs ρc Nc z
  | 0, l, h => by cases h
  | n + 1, [], _ => fun z hz => absurd hz List.not_mem_nil
  | n + 1, z0 :: r, h => by
    unfold sy_allT at h
    intro z hz
    split at h
    · rename_i b hb
      rw [Bool.and_eq_true] at h
      rcases List.mem_cons.mp hz with rfl | hz
      · intro ρs hv
        have h1 := h.1
        rw [Bool.or_eq_true] at h1
        rcases h1 with h1 | h1
        · rw [h1] at hb
          refine ty_haltL_ok (q := sy_q6 q ρs z.2.1) (ρ0 := ρ0) hGo hMC ?_ ⟨Nat.le_trans hN.1 hv.1.1, fun i hi => ?_⟩ (sy_wl_mono hv.1.1 hmw) hK hb
          · show sy_I x q.2.1 q.2.2.1 q.2.2.2 ρ0 N0 M cuts (sy_e ρs m)
            rw [sy_ext_l hv.1.2 hmw]
            exact hI
          · show ρs i = ρ0 i
            rw [hv.1.2 i (by have := hN.1; omega)]
            exact hN.2 i hi
        · exact sy_dead_ok h1
      · exact sy_allT_ok hGo hH hA hcl hP hx hlen hN1 hCs hD hMC hI hN hmw hK n r h.2 z hz
    · split at h
      · rename_i l0 hl
        have ih := sy_allT_ok hGo hH hA hcl hP hx hlen hN1 hCs hD hMC hI hN hmw hK n (l0 ++ r) h
        rcases List.mem_cons.mp hz with rfl | hz
        · exact sy_sucT_ok hGo hH hA hcl hP hx hlen hN1 hCs hD hl (fun z' h' => ih z' (List.mem_append_left _ h'))
        · exact ih z (List.mem_append_right _ hz)
      · cases h
def sy_rndT (cl : List vw_C) (lt : List (List Int32)) (P PM : List px_M) (G : Nat → Nat → Option (px_M × Instr × Nat)) (H : Nat → Option (px_M × Nat)) (An : Nat → Option sy_Ce) (A : List sy_Ce) (Wr : sy_Wr) (Cs : List sy_Co) (D : Nat) (zs : List (Nat × Nat × Nat)) (j N0 : Nat) (cuts : List sy_Cut) (m : sy_L) : List sy_St → Option (List sy_St)
  | [] => some []
  | z :: r => match sy_rndT cl lt P PM G H An A Wr Cs D zs j N0 cuts m r with
    | none => none
    | some t => (match ty_haltL G j N0 cuts m z.2.2 with
      | some _ => some (z :: t)
      | none => (match sy_sucT cl lt P PM G H An A Wr Cs D zs z with
        | some l => some (l ++ t)
        | none => none))
theorem sy_rndT_ok {q : sy_Q4} {G : Nat → Nat → Option (px_M × Instr × Nat)} {H : Nat → Option (px_M × Nat)} {An : Nat → Option sy_Ce} {cuts : List sy_Cut} {Cs : List sy_Co} {D j N0 : Nat} {zs : List (Nat × Nat × Nat)} {ρc : Nat → Int} {Nc : Nat} {m : sy_L} {xs : List Int32} (hGo : px_Gok q.1 G) (hH : px_Hok x.1 x.2.2.1 H) (hA : An = fun k => q.2.1[k]?) (hcl : ∀ (k : Nat) (o : Nat × List ((Int × Int) ⊕ Nat)), q.2.1[k]? = some (.inr (.inr o)) → o.1 < x.1.length) (hP : ∀ (j : Nat) (M : px_M), x.2.2.1[j]? = some M → q.1[j]? = some M) (hx : x.2.2.2.1 = some xs) (hlen : xs.length ≤ 3072) (hN1 : 1 ≤ Nc ∧ ρc 0 = xs.length) (hCs : ∀ C ∈ Cs, sy_Met x.1 x.2.1 x.2.2.1 q.2.1 x.2.2.2.2.1 C) (hD : D ≤ x.2.2.2.2.2.2) : ∀ (l l' : List sy_St), sy_rndT x.1 x.2.1 x.2.2.1 q.1 G H An q.2.1 q.2.2.1 Cs D zs j N0 cuts m l = some l' → (∀ z ∈ l', sy_GT x q xs ρc Nc z) → ∀ z ∈ l, sy_GT x q xs ρc Nc z
  | [], _, _, _ => fun z hz => absurd hz List.not_mem_nil
  | z0 :: r, l', h, hG => by
    unfold sy_rndT at h
    split at h
    · cases h
    · rename_i t ht
      split at h
      · cases h
        have ih := sy_rndT_ok hGo hH hA hcl hP hx hlen hN1 hCs hD r t ht (fun z hz => hG z (List.mem_cons_of_mem _ hz))
        intro z hz
        rcases List.mem_cons.mp hz with rfl | hz
        · exact hG z List.mem_cons_self
        · exact ih z hz
      · split at h
        · rename_i l0 hl
          cases h
          have ih := sy_rndT_ok hGo hH hA hcl hP hx hlen hN1 hCs hD r t ht (fun z hz => hG z (List.mem_append_right _ hz))
          intro z hz
          rcases List.mem_cons.mp hz with rfl | hz
          · exact sy_sucT_ok hGo hH hA hcl hP hx hlen hN1 hCs hD hl (fun z' h' => hG z' (List.mem_append_left _ h'))
          · exact ih z hz
        · cases h
def sy_rndsT (cl : List vw_C) (lt : List (List Int32)) (P PM : List px_M) (G : Nat → Nat → Option (px_M × Instr × Nat)) (H : Nat → Option (px_M × Nat)) (An : Nat → Option sy_Ce) (A : List sy_Ce) (Wr : sy_Wr) (Cs : List sy_Co) (D : Nat) (zs : List (Nat × Nat × Nat)) (j N0 : Nat) (cuts : List sy_Cut) (m : sy_L) : Nat → List sy_St → Option (List sy_St)
  | 0, l => some l
  | n + 1, l => match sy_rndT cl lt P PM G H An A Wr Cs D zs j N0 cuts m l with
    | some l' => sy_rndsT cl lt P PM G H An A Wr Cs D zs j N0 cuts m n l'
    | none => none
theorem sy_rndsT_ok {q : sy_Q4} {G : Nat → Nat → Option (px_M × Instr × Nat)} {H : Nat → Option (px_M × Nat)} {An : Nat → Option sy_Ce} {cuts : List sy_Cut} {Cs : List sy_Co} {D j N0 : Nat} {zs : List (Nat × Nat × Nat)} {ρc : Nat → Int} {Nc : Nat} {m : sy_L} {xs : List Int32} (hGo : px_Gok q.1 G) (hH : px_Hok x.1 x.2.2.1 H) (hA : An = fun k => q.2.1[k]?) (hcl : ∀ (k : Nat) (o : Nat × List ((Int × Int) ⊕ Nat)), q.2.1[k]? = some (.inr (.inr o)) → o.1 < x.1.length) (hP : ∀ (j : Nat) (M : px_M), x.2.2.1[j]? = some M → q.1[j]? = some M) (hx : x.2.2.2.1 = some xs) (hlen : xs.length ≤ 3072) (hN1 : 1 ≤ Nc ∧ ρc 0 = xs.length) (hCs : ∀ C ∈ Cs, sy_Met x.1 x.2.1 x.2.2.1 q.2.1 x.2.2.2.2.1 C) (hD : D ≤ x.2.2.2.2.2.2) : ∀ (n : Nat) (l l' : List sy_St), sy_rndsT x.1 x.2.1 x.2.2.1 q.1 G H An q.2.1 q.2.2.1 Cs D zs j N0 cuts m n l = some l' → (∀ z ∈ l', sy_GT x q xs ρc Nc z) → ∀ z ∈ l, sy_GT x q xs ρc Nc z
  | 0, l, l', h, hG => by
    unfold sy_rndsT at h
    cases h
    exact hG
  | n + 1, l, l', h, hG => by
    unfold sy_rndsT at h
    split at h
    · rename_i l1 h1
      exact sy_rndT_ok hGo hH hA hcl hP hx hlen hN1 hCs hD l l1 h1 (sy_rndsT_ok hGo hH hA hcl hP hx hlen hN1 hCs hD n l1 l' h hG)
    · cases h
def sy_pcT : List Nat → Nat → List sy_St → List sy_St
  | [], _, l => l
  | s :: _, 0, l => l.take s
  | s :: r, j + 1, l => sy_pcT r j (l.drop s)
theorem sy_pcT_ok {p : sy_St → Prop} : ∀ (ss : List Nat) (l : List sy_St), (∀ j, j ≤ ss.length → ∀ z ∈ sy_pcT ss j l, p z) → ∀ z ∈ l, p z
  | [], l, h => h 0 (Nat.le_refl _)
  | s :: r, l, h => fun z hz => by
    have h1 : z ∈ l.take s ++ l.drop s := by rw [List.take_append_drop]; exact hz
    rcases List.mem_append.mp h1 with h2 | h2
    · exact h 0 (Nat.zero_le _) z h2
    · exact sy_pcT_ok r (l.drop s) (fun j hj => h (j + 1) (by rw [List.length_cons]; omega)) z h2
/-- a cut in pieces: k rounds of steps, then piece i of what stands there -/
def sy_ckT (cl : List vw_C) (lt : List (List Int32)) (P PM : List px_M) (G : Nat → Nat → Option (px_M × Instr × Nat)) (H : Nat → Option (px_M × Nat)) (An : Nat → Option sy_Ce) (A : List sy_Ce) (Wr : sy_Wr) (Cs : List sy_Co) (D : Nat) (zs : List (Nat × Nat × Nat)) (j : Nat) (cuts : List sy_Cut) (n : Nat) (c : sy_Cut) (k : Nat) (ss : List Nat) (i : Nat) : Bool := decide (1 ≤ c.2.1.1.length) && (sy_wl c.2.1.1.length c.2.2.2 && (match sy_sucT cl lt P PM G H An A Wr Cs D zs ([], c.2.1.1.length, sy_cS j c) with
  | some l => (match sy_rndsT cl lt P PM G H An A Wr Cs D zs j 1 cuts c.2.2.2 k l with
    | some l' => sy_allT cl lt P PM G H An A Wr Cs D zs j 1 cuts c.2.2.2 n (sy_pcT ss i l')
    | none => false)
  | none => false))
end LT
theorem sy_law2 {cl : List vw_C} {lt : List (List Int32)} {P PM : List px_M} {G : Nat → Nat → Option (px_M × Instr × Nat)} {H : Nat → Option (px_M × Nat)} {An : Nat → Option sy_Ce} {A : List sy_Ce} {Wr : sy_Wr} {Cs : List sy_Co} {D d j : Nat} {zs : List (Nat × Nat × Nat)} {M : px_M} {cuts : List sy_Cut} {xs : List Int32} (n : Nat) (hGo : px_Gok PM G) (hH : px_Hok cl P H) (hA : An = fun k => A[k]?) (hcl : ∀ (k : Nat) (o : Nat × List ((Int × Int) ⊕ Nat)), A[k]? = some (.inr (.inr o)) → o.1 < cl.length) (hlen : xs.length ≤ 3072) (hPM : PM[j]? = some M) (hP : ∀ (j : Nat) (M : px_M), P[j]? = some M → PM[j]? = some M) (hCs : ∀ C ∈ Cs, sy_Met cl lt P A (0, 0) C) (hD : D ≤ d) (hc : ∀ c ∈ cuts, ∃ (k : Nat) (ss : List Nat), ∀ i, i ≤ ss.length → sy_ckT cl lt P PM G H An A Wr Cs D zs j cuts n c k ss i = true) {w : px_W} {ρ0 : Nat → Int} (h0 : ρ0 0 = xs.length) : ∀ m : Nat, sy_I (cl, lt, P, some xs, (0, 0), (fun v _ => v = some (.int 1)), d) A Wr w ρ0 1 M cuts (m : Int) := by
  refine sy_floyd hPM (fun c hcc ρs hr hI => ?_)
  obtain ⟨k, ss, hks⟩ := hc c hcc
  have h1 := hks 0 (Nat.zero_le _)
  unfold sy_ckT at h1
  rw [Bool.and_eq_true, Bool.and_eq_true] at h1
  obtain ⟨h2, h3, h4⟩ := h1
  have hN1 : ρs 0 = xs.length := by rw [hr.2 0 (by omega)]; exact h0
  have hG : sy_GT (cl, lt, P, some xs, (0, 0), (fun v _ => v = some (.int 1)), d) (PM, A, Wr, w) xs ρs c.2.1.1.length ([], c.2.1.1.length, sy_cS j c) := by
    split at h4
    · rename_i l hl
      split at h4
      · rename_i l' hl'
        have ih : ∀ z ∈ l', sy_GT (cl, lt, P, some xs, (0, 0), (fun v _ => v = some (.int 1)), d) (PM, A, Wr, w) xs ρs c.2.1.1.length z := by
          refine sy_pcT_ok ss l' (fun i hi => ?_)
          have h5 := hks i hi
          unfold sy_ckT at h5
          rw [Bool.and_eq_true, Bool.and_eq_true, hl] at h5
          have h6 := h5.2.2
          simp only [hl'] at h6
          exact sy_allT_ok (x := (cl, lt, P, some xs, (0, 0), (fun v _ => v = some (.int 1)), d)) (q := (PM, A, Wr, w)) (ρ0 := ρ0) (ρc := ρs) (Nc := c.2.1.1.length) hGo hH hA hcl hP rfl hlen ⟨of_decide_eq_true h2, hN1⟩ hCs hD hPM hI hr h3 rfl n _ h6
        have ih2 := sy_rndsT_ok (x := (cl, lt, P, some xs, (0, 0), (fun v _ => v = some (.int 1)), d)) (q := (PM, A, Wr, w)) hGo hH hA hcl hP rfl hlen ⟨of_decide_eq_true h2, hN1⟩ hCs hD k l l' hl' ih
        exact sy_sucT_ok (x := (cl, lt, P, some xs, (0, 0), (fun v _ => v = some (.int 1)), d)) (q := (PM, A, Wr, w)) hGo hH hA hcl hP rfl hlen ⟨of_decide_eq_true h2, hN1⟩ hCs hD hl ih2
      · cases h4
    · cases h4
  exact hG ρs ⟨⟨Nat.le_refl _, fun _ _ => rfl⟩, fun t ht => absurd ht List.not_mem_nil⟩

end
