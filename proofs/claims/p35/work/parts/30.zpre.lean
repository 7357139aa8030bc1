noncomputable section
/-! A STATE BY OTHERS, WITHOUT A STEP -/
/-- points of the program: 1 the number on top is split into its values, 2 a comparison in three, 3 a shift with what it tells -/
def sy_PT : List (Nat × Nat × Nat) := [(240, 17, 1), (225, 48, 1), (226, 121, 1), (10, 17, 2), (285, 15, 2), (161, 47, 2), (226, 11, 3), (84, 14, 4), (84, 27, 4), (279, 66, 4), (279, 84, 4), (235, 31, 5), (227, 85, 1), (277, 20, 1), (277, 159, 1), (273, 44, 1), (272, 1, 6)]
def sy_pt (m pc : Nat) : Nat := match sy_PT.find? (fun p => p.1 == m && p.2.1 == pc) with
  | some p => p.2.2
  | none => 0
section PR
variable {x : sy_X} {q : sy_Q} {S : sy_S} {M : px_M} {i : Instr} {len : Nat} {l : List sy_S}
def sy_nam (S : sy_S) (pre r : List sy_A) (rg : Int × Int) (cs : List sy_L) : sy_S := ((S.1.1 ++ [rg], S.1.2.1, cs ++ S.1.2.2.1, S.1.2.2.2), (S.2.1.1, S.2.1.2.1, S.2.1.2.2.1, pre ++ .inl (sy_x S.1.1.length) :: r), S.2.2)
theorem sy_goNam {e : sy_L} {pre r : List sy_A} {rg : Int × Int} {cs : List sy_L} (hw : sy_wS S = true) (hst : S.2.1.2.2.2 = pre ++ .inl e :: r) (hv : ∀ (ρ : Nat → Int) (τ : Nat → Int64) (w : px_W), sy_mem q S.1 ρ τ w → ∃ v : Int, rg.1 ≤ v ∧ v ≤ rg.2 ∧ Int32.ofInt v = Int32.ofInt (sy_e ρ e) ∧ ∀ ρ' : Nat → Int, (∀ i, i < S.1.1.length → ρ' i = ρ i) → ρ' S.1.1.length = v → sy_cok ρ' cs) (hG : sy_Good x q (sy_nam S pre r rg cs)) : sy_Good x q S := by
  intro ρ τ w c cf d hR hd
  obtain ⟨v, v1, v2, v3, v4⟩ := hv ρ τ w hR.1
  obtain ⟨ρ', e1, e2, ⟨m1, m2, m3, m4⟩, ⟨f1, f2, f3, f4⟩, hf'⟩ := sy_fresh hw hR v1 v2
  refine hG ρ' τ w c cf d ⟨⟨m1, m2, fun z hz => ?_, m4⟩, ⟨f1, f2, f3, ?_⟩, hf'⟩ hd
  · rcases List.mem_append.mp hz with hz | hz
    · exact v4 ρ' e1 e2 z hz
    · exact m3 z hz
  · have g4 : c.2.2.2 = S.2.1.2.2.2.map (sy_v ρ τ) := hR.2.1.2.2.2
    have f4' : c.2.2.2 = S.2.1.2.2.2.map (sy_v ρ' τ) := f4
    show c.2.2.2 = (pre ++ .inl (sy_x S.1.1.length) :: r).map (sy_v ρ' τ)
    rw [hst, List.map_append, List.map_cons] at g4 f4'
    have hh := g4.symm.trans f4'
    have hl := List.append_inj hh (by rw [List.length_map, List.length_map])
    have he : sy_v ρ τ (.inl e) = sy_v ρ' τ (.inl e) := (List.cons.inj hl.2).1
    have he2 : sy_v ρ' τ (.inl (sy_x S.1.1.length)) = sy_v ρ' τ (.inl e) := by
      rw [← he]
      show Value.int (Int32.ofInt (sy_e ρ' (sy_x S.1.1.length))) = Value.int (Int32.ofInt (sy_e ρ e))
      rw [sy_x_e, e2, v3]
    rw [List.map_append, List.map_cons, he2]
    exact f4'
def sy_opg (S : sy_S) (g : Option sy_G) : List sy_S := match g with
  | some g' => [(g', S.2)]
  | none => []
theorem sy_opg_mem {g : Option sy_G} {g' : sy_G} (h : g = some g') : (g', S.2) ∈ sy_opg S g := by
  subst h
  exact List.mem_cons_self
/-- cases by the sign of a form -/
def sy_3 (S : sy_S) (d : sy_L) : List sy_S := sy_opg S (sy_asm S.1 (sy_add d (sy_c (-1)))) ++ (sy_opg S (sy_asm S.1 (sy_add (sy_scl (-1) d) (sy_c (-1)))) ++ sy_opg S (sy_asms S.1 [d, sy_scl (-1) d]))
theorem sy_go3 {d : sy_L} (hG : ∀ S' ∈ sy_3 S d, sy_Good x q S') : sy_Good x q S := by
  intro ρ τ w c cf k hR hd
  rcases Int.lt_trichotomy (sy_e ρ d) 0 with h | h | h
  · obtain ⟨g', h1, h2⟩ := sy_asm_ok hR.1 (e := sy_add (sy_scl (-1) d) (sy_c (-1))) (by rw [sy_add_e, sy_scl_e, sy_c_e]; omega)
    exact hG _ (List.mem_append_right _ (List.mem_append_left _ (sy_opg_mem h1))) ρ τ w c cf k ⟨h2, hR.2⟩ hd
  · obtain ⟨g', h1, h2⟩ := sy_asms_ok (l := [d, sy_scl (-1) d]) hR.1 (fun e he => by
      rcases List.mem_cons.mp he with rfl | he
      · omega
      · rw [List.mem_singleton.mp he, sy_scl_e]; omega)
    exact hG _ (List.mem_append_right _ (List.mem_append_right _ (sy_opg_mem h1))) ρ τ w c cf k ⟨h2, hR.2⟩ hd
  · obtain ⟨g', h1, h2⟩ := sy_asm_ok hR.1 (e := sy_add d (sy_c (-1))) (by rw [sy_add_e, sy_c_e]; omega)
    exact hG _ (List.mem_append_left _ (sy_opg_mem h1)) ρ τ w c cf k ⟨h2, hR.2⟩ hd
/-- a symbol split into its values -/
def sy_spl (S : sy_S) (y : Nat) (a : Int) : Nat → List sy_S
  | 0 => []
  | n + 1 => (sy_rng S.1 y (a, a), S.2) :: sy_spl S y (a + 1) n
theorem sy_spl_mem (S : sy_S) (y : Nat) : ∀ (n k : Nat) (a : Int), k < n → (sy_rng S.1 y (a + (k : Int), a + (k : Int)), S.2) ∈ sy_spl S y a n
  | n + 1, 0, a, _ => by
    rw [show a + ((0 : Nat) : Int) = a by omega]
    exact List.mem_cons_self
  | n + 1, k + 1, a, h => by
    have := sy_spl_mem S y n k (a + 1) (by omega)
    rw [show a + 1 + (k : Int) = a + ((k + 1 : Nat) : Int) by omega] at this
    exact List.mem_cons_of_mem _ this
theorem sy_goSpl {y : Nat} {p : Int × Int} (hy : S.1.1[y]? = some p) (hG : ∀ S' ∈ sy_spl S y p.1 (p.2 - p.1 + 1).toNat, sy_Good x q S') : sy_Good x q S := by
  intro ρ τ w c cf k hR hd
  obtain ⟨h1, h2⟩ := hR.1.2.1 y p hy
  have hm := sy_spl_mem S y (p.2 - p.1 + 1).toNat (ρ y - p.1).toNat p.1 (by omega)
  rw [show p.1 + (((ρ y - p.1).toNat : Nat) : Int) = ρ y by omega] at hm
  exact hG _ hm ρ τ w c cf k ⟨sy_rng_ok hR.1 (Int.le_refl _) (Int.le_refl _), hR.2⟩ hd
/-- is the sign of a form known -/
def sy_dec (R : sy_T) (cs : List sy_L) (d : sy_L) : Bool := sy_pos R cs (sy_add d (sy_c (-1))) || (sy_pos R cs (sy_add (sy_scl (-1) d) (sy_c (-1))) || (sy_pos R cs d && sy_pos R cs (sy_scl (-1) d)))
/-- a form on the stack under a name with this range -/
def sy_rn (S : sy_S) (pre : List sy_A) (e : sy_L) (r : List sy_A) (rg : Int × Int) : Option (List sy_S) := if sy_wS S = true ∧ sy_pos S.1.1 S.1.2.2.1 (sy_add e (sy_c (-rg.1))) = true ∧ sy_pos S.1.1 S.1.2.2.1 (sy_sub (sy_c rg.2) e) = true then some [sy_nam S pre r rg [sy_sub (sy_x S.1.1.length) e, sy_sub e (sy_x S.1.1.length)]] else none
theorem sy_rn_ok {pre r : List sy_A} {e : sy_L} {rg : Int × Int} (hst : S.2.1.2.2.2 = pre ++ .inl e :: r) (h : sy_rn S pre e r rg = some l) : sy_S1 x q S l := by
  intro hG
  unfold sy_rn at h
  split at h
  · rename_i hc
    obtain ⟨c1, c2, c3⟩ := hc
    cases h
    refine sy_goNam c1 hst (fun ρ τ w hm => ?_) (hG _ List.mem_cons_self)
    have p1 := sy_pos_e hm.2.1 hm.2.2.1 c2
    have p2 := sy_pos_e hm.2.1 hm.2.2.1 c3
    rw [sy_add_e, sy_c_e] at p1
    rw [sy_sub_e, sy_c_e] at p2
    refine ⟨sy_e ρ e, by omega, by omega, rfl, fun ρ' a1 a2 => ?_⟩
    have hwe : sy_wl S.1.1.length e = true := by
      rw [sy_wS_eq] at c1
      unfold sy_wS0 sy_wf at c1
      simp only [Bool.and_eq_true] at c1
      have := List.all_eq_true.mp c1.2.1.2 (.inl e) (by rw [hst]; exact List.mem_append_right _ List.mem_cons_self)
      exact this
    have he := sy_ext_l a1 hwe
    intro z hz
    rcases List.mem_cons.mp hz with rfl | hz
    · rw [sy_sub_e, sy_x_e, a2, he]; omega
    · rw [List.mem_singleton.mp hz, sy_sub_e, sy_x_e, a2, he]; omega
  · cases h
/-- methods in which the same number and constant give the same -/
def sy_mm (m : Nat) : Bool := m == 200 || m == 226 || m == 294 || m == 141 || m == 227
/-- a form beyond the ints, named once -/
def sy_nam2 (S : sy_S) (r : List sy_A) (ix : sy_L) : sy_S := ((S.1.1 ++ [sy_full], S.1.2.1, S.1.2.2.1, (34359738368, ix, .inl (sy_x S.1.1.length)) :: S.1.2.2.2), (S.2.1.1, S.2.1.2.1, S.2.1.2.2.1, .inl (sy_x S.1.1.length) :: r), S.2.2)
theorem sy_goNam2 {e : sy_L} {r : List sy_A} (hw : sy_wS S = true) (hA : q.2.1.length ≤ 8589934592) (hst : S.2.1.2.2.2 = .inl e :: r) (hlo : sy_l0 S.1.1 (sy_add e (sy_c 1099511627776)) = true) (hG : sy_Good x q (sy_nam2 S r (sy_add e (sy_c 1099511627776)))) : sy_Good x q S := by
  intro ρ τ w c cf d hR hd
  obtain ⟨ρ', e1, e2, ⟨m1, m2, m3, m4, m5, m6⟩, ⟨f1, f2, f3, f4⟩, hf'⟩ := sy_fresh hw hR (v := (Int32.ofInt (sy_e ρ e)).toInt) (r := sy_full) (sy_full_in _).1 (sy_full_in _).2
  have hwe : sy_wl S.1.1.length e = true := by
    have c1 := hw
    rw [sy_wS_eq] at c1
    unfold sy_wS0 sy_wf at c1
    simp only [Bool.and_eq_true] at c1
    exact List.all_eq_true.mp c1.2.1.2 (.inl e) (by rw [hst]; exact List.mem_cons_self)
  have he := sy_ext_l e1 hwe
  have h0 := sy_l0_e hR.1.2.1 hlo
  rw [sy_add_e, sy_c_e] at h0
  refine hG ρ' τ w c cf d ⟨⟨m1, m2, m3, fun f hf => ?_, m5, m6⟩, ⟨f1, f2, f3, ?_⟩, hf'⟩ hd
  · rcases List.mem_cons.mp hf with rfl | hf
    · show 0 ≤ sy_e ρ' (sy_add e (sy_c 1099511627776)) ∧ sy_get w 34359738368 (sy_e ρ' (sy_add e (sy_c 1099511627776))).toNat = some (.int (Int32.ofInt (sy_e ρ' (sy_x S.1.1.length))))
      rw [sy_add_e, sy_c_e, sy_x_e, e2, he, Int32.ofInt_toInt]
      refine ⟨h0, ?_⟩
      have h2 : w[34359738368]? = none := List.getElem?_eq_none (by have := m5.1; omega)
      unfold sy_get
      rw [h2]
      show some (Value.int (Int32.ofInt (((sy_e ρ e + 1099511627776).toNat : Int) - 1099511627776))) = _
      rw [show (((sy_e ρ e + 1099511627776).toNat : Nat) : Int) - 1099511627776 = sy_e ρ e by omega]
    · exact m4 f hf
  · have f4' : c.2.2.2 = S.2.1.2.2.2.map (sy_v ρ' τ) := f4
    rw [hst, List.map_cons] at f4'
    show c.2.2.2 = (.inl (sy_x S.1.1.length) :: r).map (sy_v ρ' τ)
    rw [List.map_cons, f4']
    congr 1
    show Value.int (Int32.ofInt (sy_e ρ' e)) = Value.int (Int32.ofInt (sy_e ρ' (sy_x S.1.1.length)))
    rw [sy_x_e, e2, he, Int32.ofInt_toInt]
theorem sy_goNam3 {e v ix : sy_L} {r : List sy_A} (hA : q.2.1.length ≤ 8589934592) (hst : S.2.1.2.2.2 = .inl e :: r) (hF : (34359738368, ix, .inl v) ∈ S.1.2.2.2) (he : sy_eq S.1.1 ix (sy_add e (sy_c 1099511627776)) = true) (hG : sy_Good x q (S.1, (S.2.1.1, S.2.1.2.1, S.2.1.2.2.1, .inl v :: r), S.2.2)) : sy_Good x q S := by
  intro ρ τ w c cf d hR hd
  refine hG ρ τ w c cf d ⟨hR.1, ⟨hR.2.1.1, hR.2.1.2.1, hR.2.1.2.2.1, ?_⟩, hR.2.2⟩ hd
  have f4 : c.2.2.2 = S.2.1.2.2.2.map (sy_v ρ τ) := hR.2.1.2.2.2
  rw [hst, List.map_cons] at f4
  show c.2.2.2 = (.inl v :: r).map (sy_v ρ τ)
  rw [List.map_cons, f4]
  congr 1
  obtain ⟨g1, g2⟩ := hR.1.2.2.2.1 _ hF
  have h1 := sy_eq_e hR.1.2.1 he
  dsimp only at g1 g2
  rw [h1, sy_add_e, sy_c_e] at g1 g2
  have h2 : w[34359738368]? = none := List.getElem?_eq_none (by have := hR.1.2.2.2.2.1.1; omega)
  unfold sy_get at g2
  rw [h2] at g2
  have g3 : some (Value.int (Int32.ofInt (((sy_e ρ e + 1099511627776).toNat : Int) - 1099511627776))) = some (sy_v ρ τ (.inl v)) := g2
  rw [show (((sy_e ρ e + 1099511627776).toNat : Nat) : Int) - 1099511627776 = sy_e ρ e by omega] at g3
  exact Option.some.inj g3
def sy_p0 (A : List sy_Ce) (S : sy_S) : Option (List sy_S) := if sy_mm S.2.1.1 = true ∧ A.length ≤ 8589934592 then (match S.2.1.2.2.2 with
  | .inl e :: r => (match sy_b S.1.1 e with
    | some b => if sy_fit b = false ∧ sy_wS S = true ∧ sy_l0 S.1.1 (sy_add e (sy_c 1099511627776)) = true then (match S.1.2.2.2.find? (fun f => f.1 == 34359738368 && sy_eq S.1.1 f.2.1 (sy_add e (sy_c 1099511627776))) with
      | some (_, _, .inl v) => some [(S.1, (S.2.1.1, S.2.1.2.1, S.2.1.2.2.1, .inl v :: r), S.2.2)]
      | _ => some [sy_nam2 S r (sy_add e (sy_c 1099511627776))]) else none
    | none => none)
  | _ => none) else none
theorem sy_p0_ok (h : sy_p0 q.2.1 S = some l) : sy_S1 x q S l := by
  intro hG
  unfold sy_p0 at h
  split at h
  · rename_i h0
    split at h
    · rename_i e r hst
      split at h
      · split at h
        · rename_i hc
          split at h
          · rename_i k fx v hfind
            cases h
            have hmm := List.mem_of_find?_eq_some hfind
            have hpp := List.find?_some hfind
            rw [Bool.and_eq_true] at hpp
            have hk : k = 34359738368 := eq_of_beq hpp.1
            subst hk
            exact sy_goNam3 h0.2 hst hmm hpp.2 (hG _ List.mem_cons_self)
          · cases h
            exact sy_goNam2 hc.2.1 h0.2 hst hc.2.2 (hG _ List.mem_cons_self)
        · cases h
      · cases h
    · cases h
  · cases h
def sy_p1 (S : sy_S) : Option (List sy_S) := match S.2.1.2.2.2 with
  | .inl e :: r => (match sy_b S.1.1 e with
    | some b => if sy_fit b = false ∧ sy_wS S = true then some [sy_nam S [] r sy_full []] else none
    | none => none)
  | _ => none
theorem sy_p1_ok (h : sy_p1 S = some l) : sy_S1 x q S l := by
  intro hG
  unfold sy_p1 at h
  split at h
  · rename_i e r hst
    split at h
    · split at h
      · rename_i hc
        cases h
        refine sy_goNam (pre := []) hc.2 hst (fun ρ τ w hm => ⟨(Int32.ofInt (sy_e ρ e)).toInt, (sy_full_in _).1, (sy_full_in _).2, Int32.ofInt_toInt _, fun ρ' _ _ z hz => ?_⟩) (hG _ List.mem_cons_self)
        cases hz
      · cases h
    · cases h
  · cases h
def sy_p2 (S : sy_S) : Option (List sy_S) := match sy_pt S.2.1.1 S.2.1.2.1, S.2.1.2.2.2 with
  | 1, .inl e :: _ => (match e.2.find? (fun t => match S.1.1[t.1]? with
      | some p => decide (p.1 < p.2)
      | none => false) with
    | some t => (match S.1.1[t.1]? with
      | some p => if p.2 - p.1 ≤ 300 then some (sy_spl S t.1 p.1 (p.2 - p.1 + 1).toNat) else none
      | none => none)
    | none => none)
  | _, _ => none
theorem sy_p2_ok (h : sy_p2 S = some l) : sy_S1 x q S l := by
  intro hG
  unfold sy_p2 at h
  split at h
  · split at h
    · split at h
      · rename_i p hp
        split at h
        · cases h
          exact sy_goSpl hp hG
        · cases h
      · cases h
    · cases h
  · cases h
def sy_p3 (i : Instr) (S : sy_S) : Option (List sy_S) := if sy_pt S.2.1.1 S.2.1.2.1 = 2 then (match i, S.2.1.2.2.2 with
  | .ifCond _ _, .inl a :: _ => if sy_dec S.1.1 S.1.2.2.1 a = true then none else some (sy_3 S a)
  | .if_icmp _ _, .inl b :: .inl a :: _ => if sy_dec S.1.1 S.1.2.2.1 (sy_sub a b) = true then none else some (sy_3 S (sy_sub a b))
  | _, _ => none) else none
theorem sy_p3_ok (h : sy_p3 i S = some l) : sy_S1 x q S l := by
  intro hG
  unfold sy_p3 at h
  split at h
  · split at h
    · split at h
      · cases h
      · cases h
        exact sy_go3 hG
    · split at h
      · cases h
      · cases h
        exact sy_go3 hG
    · cases h
  · cases h
def sy_cv (a : sy_A) : Bool := match a with
  | .inl e => e.2.isEmpty
  | _ => false
def sy_p4 (i : Instr) (S : sy_S) : Option (List sy_S) := match i, S.2.1.2.2.2 with
  | .iaload, .inl ix :: .inr (.inl a) :: _ => if sy_spr S.2.1.1 (a - 64) = true then (match S.1.2.2.2.find? (fun f => f.1 == a - 64 && ((sy_cv f.2.2 || !(f.1 == 139)) && !(sy_dec S.1.1 S.1.2.2.1 (sy_sub f.2.1 ix)))) with
    | some f => some (sy_3 S (sy_sub f.2.1 ix))
    | none => none) else none
  | .iastore, _ :: .inl ix :: .inr (.inl a) :: _ => if S.2.1.1 == 77 && (47 ≤ a - 64 && a - 64 ≤ 49) then (match S.1.2.2.2.find? (fun f => f.1 == a - 64 && !(sy_dec S.1.1 S.1.2.2.1 (sy_sub f.2.1 ix))) with
    | some f => some (sy_3 S (sy_sub f.2.1 ix))
    | none => none) else none
  | _, _ => none
theorem sy_p4_ok (h : sy_p4 i S = some l) : sy_S1 x q S l := by
  intro hG
  unfold sy_p4 at h
  split at h
  · split at h
    · split at h
      · cases h
        exact sy_go3 hG
      · cases h
    · cases h
  · split at h
    · split at h
      · cases h
        exact sy_go3 hG
      · cases h
    · cases h
  · cases h
def sy_inx (R : sy_T) (n : Nat) (ix : sy_L) : Bool := match sy_b R ix with
  | some b => decide (0 ≤ b.1) && decide (b.2 < (n : Int))
  | none => false
/-- the range that all places give -/
def sy_cm (sg : sy_Sg) (s c : Int) : Nat → Int × Int
  | 0 => sy_seg sg s.toNat
  | n + 1 => (max (sy_seg sg (s + c * ((n + 1 : Nat) : Int)).toNat).1 (sy_cm sg s c n).1, min (sy_seg sg (s + c * ((n + 1 : Nat) : Int)).toNat).2 (sy_cm sg s c n).2)
def sy_p5 (A : List sy_Ce) (Wr : sy_Wr) (M : px_M) (i : Instr) (S : sy_S) : Option (List sy_S) := match i, S.2.1.2.2.2 with
  | .iaload, .inl ix :: .inr (.inl a) :: r => if 64 ≤ a then (match A[a - 64]? with
    | some (.inl (n, _)) => if sy_inx S.1.1 n ix = true ∨ S.1.2.2.2.any (fun f => f.1 == a - 64 && sy_eq S.1.1 f.2.1 ix) = true then none else sy_rn S [] ix (.inr (.inl a) :: r) (0, (n : Int) - 1)
    | _ => none) else none
  | .laload, .inl ix :: .inr (.inl a) :: r => if 64 ≤ a then (match A[a - 64]? with
    | some (.inr (.inl n)) => if sy_inx S.1.1 n ix = true then none else sy_rn S [] ix (.inr (.inl a) :: r) (0, (n : Int) - 1)
    | _ => none) else none
  | .iastore, .inl e :: .inl ix :: .inr (.inl a) :: r => if 64 ≤ a then (match A[a - 64]? with
    | some (.inl (n, sg)) => if sy_inx S.1.1 n ix = true then (if sy_wr S.1.1 sg ix (sy_vb S.1.1 e) = true ∨ sy_same A S.1.1 S.1.2.2.2 sg ix e = true ∨ sy_sm4 Wr S.1.1 S.1.2.2.2 sg ix e = true then none else (match sy_pr S.1.1 ix with
        | some z => if z.2.2 ≤ 3000 then sy_rn S [] e (.inl ix :: .inr (.inl a) :: r) (sy_cm sg z.1 z.2.1 z.2.2) else none
        | none => none)) else sy_rn S [.inl e] ix (.inr (.inl a) :: r) (0, (n : Int) - 1)
    | _ => none) else none
  | .putfield idx, .inl e :: .inr (.inl a) :: r => if 64 ≤ a then (match A[a - 64]?, px_look M.2.2.1 idx with
    | some (.inr (.inr (_, sl))), some (_, s0) => (match sl[s0]? with
      | some (.inl rg) => if rg.1 ≤ (sy_vb S.1.1 e).1 ∧ (sy_vb S.1.1 e).2 ≤ rg.2 then none else sy_rn S [] e (.inr (.inl a) :: r) rg
      | _ => none)
    | _, _ => none) else none
  | .idiv, .inl b :: r => (match sy_b S.1.1 b with
    | some p => if p.1 ≤ 0 ∧ 0 ≤ p.2 then px_or (sy_rn S [] b r (1, p.2)) (sy_rn S [] b r (p.1, -1)) else none
    | none => none)
  | _, _ => none
theorem sy_p5_ok {A : List sy_Ce} {Wr : sy_Wr} (h : sy_p5 A Wr M i S = some l) : sy_S1 x q S l := by
  unfold sy_p5 at h
  split at h
  · rename_i ix a r hst
    split at h
    · split at h
      · split at h
        · cases h
        · exact sy_rn_ok (pre := []) hst h
      · cases h
    · cases h
  · rename_i ix a r hst
    split at h
    · split at h
      · split at h
        · cases h
        · exact sy_rn_ok (pre := []) hst h
      · cases h
    · cases h
  · rename_i e ix a r hst
    split at h
    · split at h
      · split at h
        · split at h
          · cases h
          · split at h
            · split at h
              · exact sy_rn_ok (pre := []) hst h
              · cases h
            · cases h
        · exact sy_rn_ok (pre := [.inl e]) hst h
      · cases h
    · cases h
  · rename_i idx e a r hst
    split at h
    · split at h
      · split at h
        · split at h
          · cases h
          · exact sy_rn_ok (pre := []) hst h
        · cases h
      · cases h
    · cases h
  · rename_i b r hst
    split at h
    · split at h
      · rcases px_or_some h with h | h
        · exact sy_rn_ok (pre := []) hst h
        · exact sy_rn_ok (pre := []) hst h
      · cases h
    · cases h
  · cases h
/-- what the lasting words tell: word, cell, its value there, other cell, range, places -/
def sy_JT : List (Nat × Nat × Int × Nat × (Int × Int) × Int) := [(0, 47, 2, 48, (0, 64), 56), (0, 47, 2, 49, (0, 64), 56), (3, 176, 6, 177, (0, 7), 4)]
theorem sy_JT_ok {t : Nat × Nat × Int × Nat × (Int × Int) × Int} (ht : t ∈ sy_JT) {w : px_W} (hj : sy_jp t.1 w) {k : Nat} (hk : (k : Int) < t.2.2.2.2.2) (h1 : sy_get w t.2.1 k = some (.int (Int32.ofInt t.2.2.1))) : sy_ji (sy_get w t.2.2.2.1 k) t.2.2.2.2.1 := by
  simp only [sy_JT, List.mem_cons, List.not_mem_nil, or_false] at ht
  rcases ht with rfl | rfl | rfl
  · exact (hj k (by dsimp only at hk; omega) h1).1
  · exact (hj k (by dsimp only at hk; omega) h1).2
  · exact hj k (by dsimp only at hk; omega) h1
def sy_sr (R : sy_T) (s : Nat) : Bool := match R[s]? with
  | some b => decide (0 ≤ b.1) && decide (b.2 < 6)
  | none => false
def sy_cnt (R : sy_T) (cs : List sy_L) (a : sy_A) (s : Nat) : Bool := match a with
  | .inl e => (match sy_b R e with
    | some p => sy_fit p
    | none => false) && sy_pos R cs (sy_add (sy_sub e (sy_x s)) (sy_c (-1)))
  | _ => false
/-- the number on top stands at a place of which a lasting word tells -/
def sy_p6 (Wr : sy_Wr) (S : sy_S) : Option (List sy_S) := if sy_pt S.2.1.1 S.2.1.2.1 = 4 then (match S.2.1.2.2.2 with
  | .inl (0, [(y, 1)]) :: _ => (match S.1.1[y]? with
    | some r => (sy_JT.findSome? (fun t => if (sy_js Wr).contains t.1 = true ∧ sy_fit r = true ∧ ¬ (t.2.2.2.2.1.1 ≤ r.1 ∧ r.2 ≤ t.2.2.2.2.1.2) then (S.1.2.2.2.findSome? (fun f => if f.1 = t.2.2.2.1 ∧ f.2.2 = .inl (0, [(y, 1)]) ∧ sy_ub S.1.1 f.2.1 t.2.2.2.2.2 = true ∧ S.1.2.2.2.any (fun g => decide (g.1 = t.2.1) && (sy_eq S.1.1 g.2.1 f.2.1 && sy_isK S.1.1 g.2.2 t.2.2.1)) = true then some (max r.1 t.2.2.2.2.1.1, min r.2 t.2.2.2.2.1.2) else none)) else none)).map (fun p => [(sy_rng S.1 y p, S.2)])
    | none => none)
  | _ => none) else none
theorem sy_p6_ok (h : sy_p6 q.2.2.1 S = some l) : sy_S1 x q S l := by
  intro hG
  unfold sy_p6 at h
  split at h
  · split at h
    · rename_i y rest hst
      split at h
      · rename_i r hr
        obtain ⟨p, hp, rfl⟩ := Option.map_eq_some_iff.mp h
        obtain ⟨t, ht, h1⟩ := List.exists_of_findSome?_eq_some hp
        split at h1
        · rename_i hc
          obtain ⟨c1, c2, c3⟩ := hc
          obtain ⟨f, hf, h2⟩ := List.exists_of_findSome?_eq_some h1
          split at h2
          · rename_i hd
            obtain ⟨d1, d2, d3, d4⟩ := hd
            cases h2
            intro ρ τ w c cf d hR hdd
            obtain ⟨m1, m2, m3, m4, m5, m6⟩ := id hR.1
            obtain ⟨g, hg, h3⟩ := List.any_eq_true.mp d4
            simp only [Bool.and_eq_true, decide_eq_true_eq] at h3
            obtain ⟨e1, e2, e3⟩ := h3
            have hgf := sy_eq_e m2 e2
            obtain ⟨f1, f2⟩ := m4 f hf
            obtain ⟨g1, g2⟩ := m4 g hg
            rw [hgf, e1] at g2
            have hsrc : sy_get w t.2.1 (sy_e ρ f.2.1).toNat = some (.int (Int32.ofInt t.2.2.1)) := by
              rw [g2]
              unfold sy_isK at e3
              split at e3
              · rename_i e he
                rw [he]
                have := sy_b_e m2 (of_decide_eq_true e3)
                show some (Value.int (Int32.ofInt (sy_e ρ e))) = _
                rw [show sy_e ρ e = t.2.2.1 by dsimp only at this; omega]
              · cases e3
            have hk : (((sy_e ρ f.2.1).toNat : Nat) : Int) < t.2.2.2.2.2 := by
              unfold sy_ub at d3
              split at d3
              · rename_i b hb
                have := sy_b_e m2 hb
                have := of_decide_eq_true d3
                omega
              · cases d3
            obtain ⟨z, z1, z2⟩ := sy_JT_ok ht (m6.2 t.1 (by simpa using c1)) hk hsrc
            rw [d1, z1, d2] at f2
            have hz : z = Int32.ofInt (sy_e ρ (0, [(y, 1)])) := by
              have f3 : Value.int z = Value.int (Int32.ofInt (sy_e ρ (0, [(y, 1)]))) := Option.some.inj f2
              injection f3
            have hy : sy_e ρ (0, [(y, 1)]) = ρ y := sy_x_e ρ y
            obtain ⟨r1, r2⟩ := m2 y r hr
            rw [hy] at hz
            have hzi : z.toInt = ρ y := by rw [hz]; exact sy_fit_e c2 r1 r2
            unfold sy_in at z2
            rw [hzi] at z2
            refine hG _ List.mem_cons_self ρ τ w c cf d ⟨sy_rng_ok hR.1 ?_ ?_, hR.2⟩ hdd
            · show max _ _ ≤ _; omega
            · show _ ≤ min _ _; omega
          · cases h2
        · cases h1
      · cases h
    · cases h
  · cases h
/-- the number on top is the speed of a ship that is there -/
def sy_p7 (Wr : sy_Wr) (S : sy_S) : Option (List sy_S) := if sy_pt S.2.1.1 S.2.1.2.1 = 5 ∧ (sy_js Wr).contains 2 = true then (match S.2.1.2.2.2 with
  | .inl (0, [(y, 1)]) :: _ => (match S.1.1[y]? with
    | some r => if sy_fit r = true ∧ ¬ (1 ≤ r.1 ∧ r.2 ≤ 40) then (S.1.2.2.2.findSome? (fun f => match f.2.1.2 with
      | [(s, 6)] => if f.1 = 152 ∧ f.2.2 = .inl (0, [(y, 1)]) ∧ f.2.1.1 = 250 ∧ sy_sr S.1.1 s = true ∧ S.1.2.2.2.any (fun g => decide (g.1 = 152) && (decide (g.2.1 = sy_c 6) && sy_cnt S.1.1 S.1.2.2.1 g.2.2 s)) = true then some (max r.1 1, min r.2 40) else none
      | _ => none)).map (fun p => [(sy_rng S.1 y p, S.2)]) else none
    | none => none)
  | _ => none) else none
theorem sy_p7_ok (h : sy_p7 q.2.2.1 S = some l) : sy_S1 x q S l := by
  intro hG
  unfold sy_p7 at h
  split at h
  · rename_i hc0
    split at h
    · rename_i y rest hst
      split at h
      · rename_i r hr
        split at h
        · rename_i hc
          obtain ⟨c2, c3⟩ := hc
          obtain ⟨p, hp, rfl⟩ := Option.map_eq_some_iff.mp h
          obtain ⟨f, hf, h2⟩ := List.exists_of_findSome?_eq_some hp
          split at h2
          · rename_i s hs
            split at h2
            · rename_i hd
              obtain ⟨d1, d2, d3, d4, d5⟩ := hd
              cases h2
              intro ρ τ w c cf d hR hdd
              obtain ⟨m1, m2, m3, m4, m5, m6⟩ := id hR.1
              obtain ⟨g, hg, h3⟩ := List.any_eq_true.mp d5
              simp only [Bool.and_eq_true, decide_eq_true_eq] at h3
              obtain ⟨e1, e2, e3⟩ := h3
              obtain ⟨f1, f2⟩ := m4 f hf
              obtain ⟨g1, g2⟩ := m4 g hg
              have hsb : 0 ≤ ρ s ∧ ρ s < 6 := by
                unfold sy_sr at d4
                split at d4
                · rename_i b hb
                  have := m2 s b hb
                  rw [Bool.and_eq_true, decide_eq_true_eq, decide_eq_true_eq] at d4
                  omega
                · cases d4
              unfold sy_cnt at e3
              split at e3
              · rename_i e he
                rw [Bool.and_eq_true] at e3
                rw [e1, e2, sy_c_e, he] at g2
                have g3 : sy_get w 152 6 = some (.int (Int32.ofInt (sy_e ρ e))) := g2
                have hfit : (Int32.ofInt (sy_e ρ e)).toInt = sy_e ρ e := by
                  have e4 := e3.1
                  split at e4
                  · rename_i p hp2
                    obtain ⟨p1, p2⟩ := sy_b_e m2 hp2
                    exact sy_fit_e e4 p1 p2
                  · cases e4
                have hpos := sy_pos_e m2 m3 e3.2
                rw [sy_add_e, sy_sub_e, sy_x_e, sy_c_e] at hpos
                have hix : sy_e ρ f.2.1 = 250 + 6 * ρ s := by
                  unfold sy_e
                  rw [d3, hs]
                  simp [sy_s]
                obtain ⟨z, z1, z2⟩ := (m6.2 2 (by simpa using hc0.2) : sy_jp 2 w) (ρ s).toNat (by omega) _ g3 (by rw [hfit]; omega)
                rw [d1, hix, d2, show (250 + 6 * ρ s).toNat = 250 + 6 * (ρ s).toNat by omega, z1] at f2
                have hz : z = Int32.ofInt (sy_e ρ (0, [(y, 1)])) := by
                  have f3 : Value.int z = Value.int (Int32.ofInt (sy_e ρ (0, [(y, 1)]))) := Option.some.inj f2
                  injection f3
                have hy : sy_e ρ (0, [(y, 1)]) = ρ y := sy_x_e ρ y
                obtain ⟨r1, r2⟩ := m2 y r hr
                rw [hy] at hz
                have hzi : z.toInt = ρ y := by rw [hz]; exact sy_fit_e c2 r1 r2
                unfold sy_in at z2
                rw [hzi] at z2
                refine hG _ List.mem_cons_self ρ τ w c cf d ⟨sy_rng_ok hR.1 ?_ ?_, hR.2⟩ hdd
                · show max _ _ ≤ _; omega
                · show _ ≤ min _ _; omega
              · cases e3
            · cases h2
          · cases h2
        · cases h
      · cases h
    · cases h
  · cases h
/-- a place is read ahead -/
theorem sy_goIntro {k j n : Nat} {sg : sy_Sg} (hw : sy_wS S = true) (hA : q.2.1[k]? = some (.inl (n, sg))) (hj : j < n) (hG : sy_Good x q ((S.1.1 ++ [sy_seg sg j], S.1.2.1, S.1.2.2.1, (k, sy_c (j : Int), .inl (sy_x S.1.1.length)) :: S.1.2.2.2), S.2)) : sy_Good x q S := by
  intro ρ τ w c cf d hR hd
  obtain ⟨l0, l1, l2, l3⟩ := sy_cell_i hR.1.2.2.2.2.1 hA
  have hg : l0[j]? = some l0[j] := List.getElem?_eq_getElem (by omega)
  have hin := l3 _ _ hg
  obtain ⟨ρ', e1, e2, ⟨m1, m2, m3, m4, m5, m6⟩, hf'⟩ := sy_fresh hw hR (v := l0[j].toInt) (r := sy_seg sg j) hin.1 hin.2
  refine hG ρ' τ w c cf d ⟨⟨m1, m2, m3, fun f hf => ?_, m5, m6⟩, hf'⟩ hd
  rcases List.mem_cons.mp hf with rfl | hf
  · show 0 ≤ sy_e ρ' (sy_c (j : Int)) ∧ sy_get w k (sy_e ρ' (sy_c (j : Int))).toNat = some (.int (Int32.ofInt (sy_e ρ' (sy_x S.1.1.length))))
    rw [sy_c_e, sy_x_e, e2, Int32.ofInt_toInt, sy_getI l1]
    refine ⟨by omega, ?_⟩
    rw [show ((j : Int)).toNat = j by omega, hg]
    rfl
  · exact m4 f hf
def sy_p8 (A : List sy_Ce) (S : sy_S) : Option (List sy_S) := if sy_pt S.2.1.1 S.2.1.2.1 = 6 then ([(172, 0), (172, 1), (172, 2), (172, 3), (176, 0), (176, 1), (176, 2), (176, 3), (177, 0), (177, 1), (177, 2), (177, 3)].findSome? (fun p : Nat × Nat => if S.1.2.2.2.any (fun f => f.1 == p.1 && decide (f.2.1 = sy_c (p.2 : Int))) = true then none else (match A[p.1]? with
  | some (.inl (n, sg)) => if p.2 < n ∧ sy_wS S = true then some [((S.1.1 ++ [sy_seg sg p.2], S.1.2.1, S.1.2.2.1, (p.1, sy_c (p.2 : Int), .inl (sy_x S.1.1.length)) :: S.1.2.2.2), S.2)] else none
  | _ => none))) else none
theorem sy_p8_ok (h : sy_p8 q.2.1 S = some l) : sy_S1 x q S l := by
  intro hG
  unfold sy_p8 at h
  split at h
  · obtain ⟨p, hp, h1⟩ := List.exists_of_findSome?_eq_some h
    split at h1
    · cases h1
    · split at h1
      · rename_i n sg hA
        split at h1
        · rename_i hc
          cases h1
          exact sy_goIntro hc.2 hA hc.1 (hG _ List.mem_cons_self)
        · cases h1
      · cases h1
  · cases h
def sy_pre (A : List sy_Ce) (Wr : sy_Wr) (M : px_M) (i : Instr) (S : sy_S) : Option (List sy_S) := px_or (sy_p0 A S) (px_or (sy_p1 S) (px_or (sy_p2 S) (px_or (sy_p3 i S) (px_or (sy_p4 i S) (px_or (sy_p6 Wr S) (px_or (sy_p7 Wr S) (px_or (sy_p8 A S) (sy_p5 A Wr M i S))))))))
theorem sy_pre_ok (h : sy_pre q.2.1 q.2.2.1 M i S = some l) : sy_S1 x q S l := by
  unfold sy_pre at h
  rcases px_or_some h with h | h
  · exact sy_p0_ok h
  rcases px_or_some h with h | h
  · exact sy_p1_ok h
  rcases px_or_some h with h | h
  · exact sy_p2_ok h
  rcases px_or_some h with h | h
  · exact sy_p3_ok h
  rcases px_or_some h with h | h
  · exact sy_p4_ok h
  rcases px_or_some h with h | h
  · exact sy_p6_ok h
  rcases px_or_some h with h | h
  · exact sy_p7_ok h
  rcases px_or_some h with h | h
  · exact sy_p8_ok h
  · exact sy_p5_ok h
end PR

end
