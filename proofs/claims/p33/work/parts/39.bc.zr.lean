noncomputable section
/-! TWO METHODS, STEP BY STEP, OVER THE SAME CELLS -/
section PR
variable {x : sy_X} {q : sy_Q} {S : sy_S} {M : px_M} {i : Instr} {len : Nat} {l : List sy_S}
/-- or with nothing -/
def sy_uI (i : Instr) (len : Nat) (S : sy_S) : Option (List sy_S) := match i, S.2.1.2.2.2 with
  | .ior, .inl b :: .inl a :: r => if len = 1 ∧ b = sy_c 0 then some [sy_at S S.1 (S.2.1.2.1 + 1) S.2.1.2.2.1 (.inl a :: r)] else none
  | _, _ => none
theorem sy_uI_ok (hM : q.1[S.2.1.1]? = some M) (hq : px_look M.2.1 S.2.1.2.1 = some (i, len)) (h : sy_uI i len S = some l) : sy_S1 x q S l := by
  intro hG
  unfold sy_uI at h
  split at h
  · rename_i b a r hst
    split at h
    · rename_i hc
      obtain ⟨h1, h2⟩ := hc
      subst h1 h2
      cases h
      refine sy_goD hM (fun ρ τ w lc cf d hm hd => ?_) (hG _ List.mem_cons_self)
      refine sy_bstep hq rfl hst ?_
      show some (Int32.ofInt (sy_e ρ a) ||| Int32.ofInt (sy_e ρ (sy_c 0))) = some (Int32.ofInt (sy_e ρ a))
      rw [sy_c_e]
      exact congrArg some Int32.or_zero
    · cases h
  · cases h
/-- a step of a method, with what was done kept in mind -/
def sy_sucP (cl : List vw_C) (lt : List (List Int32)) (P : List px_M) (G : Nat → Nat → Option (px_M × Instr × Nat)) (H : Nat → Option (px_M × Nat)) (An : Nat → Option sy_Ce) (A : List sy_Ce) (Wr : sy_Wr) (Cs : List sy_Co) (D : Nat) (zs : List (Nat × Nat × Nat)) (z : sy_St) : Option (List sy_St) := match G z.2.2.2.1.1 z.2.2.2.1.2.1 with
  | none => none
  | some (M, i, len) => px_or (sy_lift z (px_or (sy_zp zs i len z.2.2) (px_or (sy_uI i len z.2.2) (cond (sy_top z.2.2.2.1.2.2.2) none (px_or (sy_p0 A z.2.2) (sy_p1 z.2.2)))))) (px_or (sy_uO zs i len z) (sy_lift z (px_or (cond (Nat.beq (sy_pq z.2.2.2.1.1 z.2.2.2.1.2.1) 0) (ty_tg cl An H A Wr Cs D M i len z.2.2 (sy_tag i)) none) (ty_ch cl lt P A Wr Cs D M i len z.2.2))))
theorem sy_sucP_ok {q : sy_Q4} {G : Nat → Nat → Option (px_M × Instr × Nat)} {H : Nat → Option (px_M × Nat)} {An : Nat → Option sy_Ce} {D : Nat} {Cs : List sy_Co} {xs : List Int32} {ρc : Nat → Int} {Nc : Nat} {zs : List (Nat × Nat × Nat)} {z : sy_St} {l' : List sy_St} (hGo : px_Gok x.2.2.1 G) (hH : px_Hok x.1 x.2.2.1 H) (hA : An = fun k => q.2.1[k]?) (hcl : ∀ (k : Nat) (o : Nat × List ((Int × Int) ⊕ Nat)), q.2.1[k]? = some (.inr (.inr o)) → o.1 < x.1.length) (hP : q.1 = x.2.2.1) (hCs : ∀ C ∈ Cs, sy_Met x.1 x.2.1 x.2.2.1 q.2.1 x.2.2.2.2.1 C) (hD : D ≤ x.2.2.2.2.2.2) (h : sy_sucP x.1 x.2.1 x.2.2.1 G H An q.2.1 q.2.2.1 Cs D zs z = some l') (hG : ∀ z' ∈ l', sy_GT x q xs ρc Nc z') : sy_GT x q xs ρc Nc z := by
  unfold sy_sucP at h
  split at h
  · cases h
  · rename_i M i len hg
    obtain ⟨hM, hq⟩ := hGo _ _ _ _ _ hg
    rw [← hP] at hM
    rcases px_or_some h with h | h
    · refine sy_lift_ok h (fun l hl ρs => ?_) hG
      rcases px_or_some hl with hl | hl
      · exact sy_zp_ok (q := sy_q6 q ρs z.2.1) hM hq hl
      rcases px_or_some hl with hl | hl
      · exact sy_uI_ok (q := sy_q6 q ρs z.2.1) hM hq hl
      · rcases px_cond hl with hl | hl
        · cases hl
        rcases px_or_some hl with hl | hl
        · exact sy_p0_ok (q := sy_q6 q ρs z.2.1) hl
        · exact sy_p1_ok hl
    rcases px_or_some h with h | h
    · exact sy_uO_ok hM hq h hG
    refine sy_lift_ok h (fun l h ρs => ?_) hG
    rcases px_or_some h with h | h
    · rcases px_cond h with h | h
      · rw [hA] at h
        exact ty_tg_ok (q := sy_q6 q ρs z.2.1) hH hcl hCs hD (fun j M h => by show q.1[j]? = some M; rw [hP]; exact h) hM hq h
      · cases h
    · exact ty_ch_ok (q := sy_q6 q ρs z.2.1) hCs hD hP hM hq h
/-- all that comes of some states, up to those that halt -/
def sy_colP (cl : List vw_C) (lt : List (List Int32)) (P : List px_M) (G : Nat → Nat → Option (px_M × Instr × Nat)) (H : Nat → Option (px_M × Nat)) (An : Nat → Option sy_Ce) (A : List sy_Ce) (Wr : sy_Wr) (Cs : List sy_Co) (D : Nat) (zs : List (Nat × Nat × Nat)) (hp : sy_S → Bool) : Nat → List sy_St → Option (List sy_St)
  | 0, _ => none
  | _ + 1, [] => some []
  | n + 1, z :: r => cond (hp z.2.2) (match sy_colP cl lt P G H An A Wr Cs D zs hp n r with
    | some t => some (z :: t)
    | none => none) (match sy_sucP cl lt P G H An A Wr Cs D zs z with
    | some l => sy_colP cl lt P G H An A Wr Cs D zs hp n (l ++ r)
    | none => none)
theorem sy_colP_ok {q : sy_Q4} {G : Nat → Nat → Option (px_M × Instr × Nat)} {H : Nat → Option (px_M × Nat)} {An : Nat → Option sy_Ce} {D : Nat} {Cs : List sy_Co} {xs : List Int32} {ρc : Nat → Int} {Nc : Nat} {zs : List (Nat × Nat × Nat)} {hp : sy_S → Bool} (hGo : px_Gok x.2.2.1 G) (hH : px_Hok x.1 x.2.2.1 H) (hA : An = fun k => q.2.1[k]?) (hcl : ∀ (k : Nat) (o : Nat × List ((Int × Int) ⊕ Nat)), q.2.1[k]? = some (.inr (.inr o)) → o.1 < x.1.length) (hP : q.1 = x.2.2.1) (hCs : ∀ C ∈ Cs, sy_Met x.1 x.2.1 x.2.2.1 q.2.1 x.2.2.2.2.1 C) (hD : D ≤ x.2.2.2.2.2.2) : ∀ (n : Nat) (l l' : List sy_St), sy_colP x.1 x.2.1 x.2.2.1 G H An q.2.1 q.2.2.1 Cs D zs hp n l = some l' → (∀ z ∈ l', hp z.2.2 = true → sy_GT x q xs ρc Nc z) → (∀ z ∈ l', hp z.2.2 = true) ∧ ∀ z ∈ l, sy_GT x q xs ρc Nc z
  | 0, _, _, h, _ => by cases h
  | n + 1, [], l', h, _ => by
    cases h
    exact ⟨fun z hz => absurd hz List.not_mem_nil, fun z hz => absurd hz List.not_mem_nil⟩
  | n + 1, z0 :: r, l', h, hG => by
    unfold sy_colP at h
    cases hc : hp z0.2.2 with
    | true =>
      rw [hc, px_c1] at h
      split at h
      · rename_i t ht
        cases h
        have ih := sy_colP_ok hGo hH hA hcl hP hCs hD n r t ht (fun z hz => hG z (List.mem_cons_of_mem _ hz))
        refine ⟨fun z hz => ?_, fun z hz => ?_⟩
        · rcases List.mem_cons.mp hz with rfl | hz
          · exact hc
          · exact ih.1 z hz
        · rcases List.mem_cons.mp hz with rfl | hz
          · exact hG _ List.mem_cons_self hc
          · exact ih.2 z hz
      · cases h
    | false =>
      rw [hc, px_c0] at h
      split at h
      · rename_i l0 hl
        have ih := sy_colP_ok hGo hH hA hcl hP hCs hD n (l0 ++ r) l' h hG
        refine ⟨ih.1, fun z hz => ?_⟩
        rcases List.mem_cons.mp hz with rfl | hz
        · exact sy_sucP_ok hGo hH hA hcl hP hCs hD hl (fun z' h' => ih.2 z' (List.mem_append_left _ h'))
        · exact ih.2 z (List.mem_append_right _ hz)
      · cases h
end PR
/-! nothing may be written: the cells stay -/
def sy_pure (Wr : sy_Wr) : Bool := Wr.all (fun p => decide (p.2.2 ≤ p.2.1))
theorem sy_pure_may {Wr : sy_Wr} (h : sy_pure Wr = true) (k i : Nat) : sy_may Wr k i = false := by
  cases hm : sy_may Wr k i with
  | false => rfl
  | true =>
    obtain ⟨p, hp, h1⟩ := List.any_eq_true.mp hm
    have h2 := of_decide_eq_true (List.all_eq_true.mp h p hp)
    simp only [Bool.and_eq_true, decide_eq_true_eq] at h1
    omega
theorem sy_map_int {a b : Option Int32} (h : a.map Value.int = b.map Value.int) : a = b := by
  cases a <;> cases b <;> simp_all
theorem sy_map_long {a b : Option Int64} (h : a.map Value.long = b.map Value.long) : a = b := by
  cases a <;> cases b <;> simp_all
theorem sy_still {A : List sy_Ce} {Wr : sy_Wr} {w0 w : px_W} (hp : sy_pure Wr = true) (h0 : sy_W A w0) (h1 : sy_W A w) (hf : sy_fr Wr w0 w) : w = w0 := by
  have hg : ∀ k i, sy_get w k i = sy_get w0 k i := fun k i => hf.1 k i (sy_pure_may hp k i)
  refine List.ext_getElem? (fun k => ?_)
  by_cases hk : k < A.length
  · have ha : A[k]? = some A[k] := List.getElem?_eq_getElem hk
    obtain ⟨c, hc, e1⟩ := h1.2 k _ ha
    obtain ⟨c0, hc0, e0⟩ := h0.2 k _ ha
    rw [hc, hc0]
    have hgk : ∀ i, sy_get w k i = sy_get w0 k i := hg k
    unfold sy_get at hgk
    rw [hc, hc0] at hgk
    generalize A[k] = a at e1 e0
    match a, c, c0, e1, e0, hgk with
    | .inl (n, sg), .inl l1, .inl l2, _, _, hgk =>
      have : l1 = l2 := List.ext_getElem? (fun i => sy_map_int (hgk i))
      rw [this]
    | .inr (.inl n), .inr (.inl l1), .inr (.inl l2), _, _, hgk =>
      have : l1 = l2 := List.ext_getElem? (fun i => sy_map_long (hgk i))
      rw [this]
    | .inr (.inr (n, sl)), .inr (.inr (k1, l1)), .inr (.inr (k2, l2)), e1, e0, hgk =>
      have h3 : l1 = l2 := List.ext_getElem? (fun i => hgk i)
      have h4 : k1 = n := e1.1
      have h5 : k2 = n := e0.1
      rw [h3, h4, h5]
  · rw [List.getElem?_eq_none (by rw [h1.1]; omega), List.getElem?_eq_none (by rw [h0.1]; omega)]
/-! two methods that answer alike: a pair of ends is one number of a range, or two constants -/
abbrev sy_Pe : Type := (Int × Int) ⊕ (Int × Int)
def sy_PE (E : List sy_Pe) (a b : Value) : Prop := ∃ e ∈ E, match e with
  | .inl r => ∃ v : Int, r.1 ≤ v ∧ v ≤ r.2 ∧ a = .int (Int32.ofInt v) ∧ b = .int (Int32.ofInt v)
  | .inr c => a = .int (Int32.ofInt c.1) ∧ b = .int (Int32.ofInt c.2)
/-- the methods, what holds at the start (with what the first reads), arguments of both, lasting words, depth, ends, what the second reads -/
abbrev sy_P2 : Type := (Nat × Nat) × sy_G × (List sy_A × List sy_A) × sy_Wr × Nat × List sy_Pe × List sy_Fa
def sy_Pm (cl : List vw_C) (lt : List (List Int32)) (P : List px_M) (A : List sy_Ce) (C : sy_P2) : Prop := ∀ (MA MB : px_M), P[C.1.1]? = some MA → P[C.1.2]? = some MB → ∀ (ρ : Nat → Int) (τ : Nat → Int64) (wA wB : px_W) (dA dB : Nat), sy_ok ρ C.2.1.1 → sy_cok ρ C.2.1.2.2.1 → sy_fok ρ τ wA C.2.1.2.2.2 → sy_fok ρ τ wB C.2.2.2.2.2.2 → sy_W A wA → sy_fj C.2.2.2.1 wA → sy_W A wB → sy_fj C.2.2.2.1 wB → C.2.2.2.2.1 ≤ dA → C.2.2.2.2.1 ≤ dB → ∃ (a b : Value), sy_PE C.2.2.2.2.2.1 a b ∧ (∃ n, px_exec cl lt P n dA none MA 0 (lv_args 0 (C.2.2.1.1.map (sy_v ρ τ))) [] wA (0, 0) = some (some a, wA, (0, 0))) ∧ (∃ n, px_exec cl lt P n dB none MB 0 (lv_args 0 (C.2.2.1.2.map (sy_v ρ τ))) [] wB (0, 0) = some (some b, wB, (0, 0)))
/-- a cut of both (its facts are not looked at: what both read stands beside) -/
abbrev sy_Pc : Type := sy_G × (Nat × List (Nat × sy_A)) × (Nat × List (Nat × sy_A)) × sy_L
def sy_En (cl : List vw_C) (lt : List (List Int32)) (P : List px_M) (w0 : px_W) (d : Nat) (M : px_M) (pc : Nat) (lc : List (Nat × Value)) (st : List Value) (a : Value) : Prop := pf_Fin cl lt P none (0, 0) (fun v w => v = some a ∧ w = w0) [] d M pc lc st w0
theorem sy_En_to {cl : List vw_C} {lt : List (List Int32)} {P : List px_M} {w0 : px_W} {d : Nat} {M : px_M} {pc : Nat} {lc : List (Nat × Value)} {st : List Value} {a : Value} {K : Option Value → px_W → Prop} (h : sy_En cl lt P w0 d M pc lc st a) (hK : K (some a) w0) : pf_Fin cl lt P none (0, 0) K [] d M pc lc st w0 := by
  obtain ⟨n, v, w', h1, h2, h3⟩ := h
  subst h2 h3
  exact ⟨n, _, _, h1, hK⟩
theorem sy_En_of {cl : List vw_C} {lt : List (List Int32)} {P : List px_M} {w0 : px_W} {d : Nat} {M : px_M} {pc : Nat} {lc : List (Nat × Value)} {st : List Value} {K : Value → Prop} (h : pf_Fin cl lt P none (0, 0) (fun v w => ∃ a, v = some a ∧ w = w0 ∧ K a) [] d M pc lc st w0) : ∃ a, sy_En cl lt P w0 d M pc lc st a ∧ K a := by
  obtain ⟨n, v, w', h1, a, h2, h3, h4⟩ := h
  exact ⟨a, ⟨n, v, w', h1, h2, h3⟩, h4⟩
/-- where a method halts: at a cut of its own, or at its return -/
def sy_hpP (G : Nat → Nat → Option (px_M × Instr × Nat)) (j : Nat) (pcs : List Nat) (S : sy_S) : Bool := match S.2.2 with
  | _ :: _ => false
  | [] => (S.2.1.2.2.2.isEmpty && (Nat.beq S.2.1.1 j && pcs.any (fun p => Nat.beq p S.2.1.2.1))) || (match G S.2.1.1 S.2.1.2.1 with
    | some (_, i, _) => Nat.beq (sy_tag i) 8
    | none => false)
def sy_retP (G : Nat → Nat → Option (px_M × Instr × Nat)) (R : sy_T) (f : sy_Fr) : Option sy_A := match G f.1 f.2.1 with
  | some (M, i, len) => (match sy_rt R i len M.1.2.2.2.1 f.2.2.2 with
    | some (some v) => some v
    | _ => none)
  | none => none
def sy_eP (R : sy_T) (cs : List sy_L) (a b : sy_A) (e : sy_Pe) : Bool := match a, b, e with
  | .inl a, .inl b, .inl r => sy_eq R a b && (sy_pos R cs (sy_sub a (sy_c r.1)) && sy_pos R cs (sy_sub (sy_c r.2) a))
  | .inl a, .inl b, .inr c => sy_eq R a (sy_c c.1) && sy_eq R b (sy_c c.2)
  | _, _, _ => false
def sy_prC (N0 : Nat) (m : sy_L) (g : sy_G) (fa fb : sy_Fr) (c : sy_Pc) : Bool := Nat.beq c.2.1.1 fa.2.1 && (Nat.beq c.2.2.1.1 fb.2.1 && (
  let u := sy_unL fb.2.2.1 (sy_unL fa.2.2.1 (sy_idσ N0, []) c.2.1.2) c.2.2.1.2
  sy_fitC N0 (g, fa, []) (c.2.1.1, (c.1.1, 0, c.1.2.2.1, []), c.2.1.2, c.2.2.2) (sy_fσ c.1.1 u) [] m && sy_fitC N0 (g, fb, []) (c.2.2.1.1, (c.1.1, 0, c.1.2.2.1, []), c.2.2.1.2, c.2.2.2) (sy_fσ c.1.1 u) [] m))
def sy_prK (G : Nat → Nat → Option (px_M × Instr × Nat)) (jA jB : Nat) (N0 : Nat) (E : List sy_Pe) (cuts : List sy_Pc) (m : sy_L) (fa : sy_Fr) (zb : sy_St) : Bool := (match sy_retP G zb.2.2.1.1 fa, sy_retP G zb.2.2.1.1 zb.2.2.2.1 with
  | some a, some b => E.any (sy_eP zb.2.2.1.1 zb.2.2.1.2.2.1 a b)
  | _, _ => Nat.beq fa.1 jA && (Nat.beq zb.2.2.2.1.1 jB && cuts.any (sy_prC N0 m zb.2.2.1 fa zb.2.2.2.1))) || sy_dead zb.2.2.1
/-- a cut of both is checked -/
def sy_ckP (cl : List vw_C) (lt : List (List Int32)) (P : List px_M) (G : Nat → Nat → Option (px_M × Instr × Nat)) (H : Nat → Option (px_M × Nat)) (An : Nat → Option sy_Ce) (A : List sy_Ce) (Wr : sy_Wr) (Cs : List sy_Co) (D : Nat) (zs : List (Nat × Nat × Nat)) (jA jB : Nat) (N0 : Nat) (E : List sy_Pe) (FA FB : List sy_Fa) (cuts : List sy_Pc) (n : Nat) (c : sy_Pc) : Bool :=
  (sy_wl c.1.1.length c.2.2.2 && sy_wf c.1.1.length 0 (jB, c.2.2.1.1, c.2.2.1.2, [])) && (match sy_sucP cl lt P G H An A Wr Cs D zs ([], c.1.1.length, ((c.1.1, 0, c.1.2.2.1, FA), (jA, c.2.1.1, c.2.1.2, []), [])) with
    | some l => (match sy_colP cl lt P G H An A Wr Cs D zs (sy_hpP G jA (cuts.map (fun c => c.2.1.1))) n l with
      | some la => la.all (fun za => sy_wf za.2.2.1.1.length 0 za.2.2.2.1 && (match sy_sucP cl lt P G H An A Wr Cs D zs (za.1, za.2.2.1.1.length, ((za.2.2.1.1, 0, za.2.2.1.2.2.1, FB), (jB, c.2.2.1.1, c.2.2.1.2, []), [])) with
        | some l2 => (match sy_colP cl lt P G H An A Wr Cs D zs (sy_hpP G jB (cuts.map (fun c => c.2.2.1.1))) n l2 with
          | some lb => lb.all (sy_prK G jA jB N0 E cuts c.2.2.2 za.2.2.2.1)
          | none => false)
        | none => false))
      | none => false)
    | none => false)
def sy_wFs (N : Nat) (F : List sy_Fa) : Bool := F.all (fun f => sy_wl N f.2.1 && sy_wa N 0 f.2.2)
theorem sy_ext_F {ρ ρ' : Nat → Int} {τ τ' : Nat → Int64} {N : Nat} {w : px_W} {F : List sy_Fa} (h : ∀ i, i < N → ρ' i = ρ i) (hw : sy_wFs N F = true) (hF : sy_fok ρ τ w F) : sy_fok ρ' τ' w F := by
  intro f hf
  have h1 := List.all_eq_true.mp hw f hf
  rw [Bool.and_eq_true] at h1
  obtain ⟨h2, h3⟩ := hF f hf
  rw [sy_ext_l h h1.1, sy_ext_a h (fun i hi => absurd hi (Nat.not_lt_zero i)) h1.2]
  exact ⟨h2, h3⟩
theorem sy_hpP_nil {G : Nat → Nat → Option (px_M × Instr × Nat)} {j : Nat} {pcs : List Nat} {S : sy_S} (h : sy_hpP G j pcs S = true) : S.2.2 = [] := by
  unfold sy_hpP at h
  split at h
  · cases h
  · rename_i e
    exact e
theorem sy_eP_ok {R : sy_T} {cs : List sy_L} {a b : sy_A} {E : List sy_Pe} {ρ : Nat → Int} {τ : Nat → Int64} (h : E.any (sy_eP R cs a b) = true) (h1 : sy_ok ρ R) (h2 : sy_cok ρ cs) : sy_PE E (sy_v ρ τ a) (sy_v ρ τ b) := by
  obtain ⟨e, he, h3⟩ := List.any_eq_true.mp h
  refine ⟨e, he, ?_⟩
  unfold sy_eP at h3
  split at h3
  · rename_i a b r
    rw [Bool.and_eq_true, Bool.and_eq_true] at h3
    have e1 := sy_eqA_e (τ := τ) (a := .inl a) (b := .inl b) h1 h3.1
    have e2 := sy_pos_e h1 h2 h3.2.1
    have e3 := sy_pos_e h1 h2 h3.2.2
    rw [sy_sub_e, sy_c_e] at e2 e3
    exact ⟨sy_e ρ a, by omega, by omega, rfl, e1.symm⟩
  · rename_i a b c
    rw [Bool.and_eq_true] at h3
    have e1 := sy_eqA_e (τ := τ) (a := .inl a) (b := .inl (sy_c c.1)) h1 h3.1
    have e2 := sy_eqA_e (τ := τ) (a := .inl b) (b := .inl (sy_c c.2)) h1 h3.2
    refine ⟨e1.trans ?_, e2.trans ?_⟩
    · show Value.int (Int32.ofInt (sy_e ρ (sy_c c.1))) = _
      rw [sy_c_e]
    · show Value.int (Int32.ofInt (sy_e ρ (sy_c c.2))) = _
      rw [sy_c_e]
  · cases h3
section PR2
variable {cl : List vw_C} {lt : List (List Int32)} {P : List px_M} {G : Nat → Nat → Option (px_M × Instr × Nat)} {H : Nat → Option (px_M × Nat)} {An : Nat → Option sy_Ce} {A : List sy_Ce} {Wr : sy_Wr} {Cs : List sy_Co} {D : Nat} {zs : List (Nat × Nat × Nat)} {jA jB : Nat} {E : List sy_Pe} {cuts : List sy_Pc} {MA MB : px_M} {w0 wA wB : px_W} {dA dB : Nat}
theorem sy_retE {R : sy_T} {f : sy_Fr} {v : sy_A} {ρ : Nat → Int} {τ : Nat → Int64} {c : pf_F} {d : Nat} (hGo : px_Gok P G) (hr : sy_retP G R f = some v) (h1 : sy_ok ρ R) (hf : sy_frok ρ τ P f c) : sy_En cl lt P w0 d c.1 c.2.1 c.2.2.1 c.2.2.2 (sy_v ρ τ v) := by
  unfold sy_retP at hr
  split at hr
  · rename_i M i len hg
    obtain ⟨hM, hq⟩ := hGo _ _ _ _ _ hg
    split at hr
    · rename_i v' hv
      cases hr
      obtain ⟨f1, f2, f3, f4⟩ := hf
      rw [hM] at f1
      have f1' := Option.some.inj f1
      obtain ⟨h0, h5⟩ := sy_rt_ok (ρ := ρ) (τ := τ) h1 hv
      rw [f2, f4, ← f1']
      exact pf_end (px_step_5 hq h0 h5) ⟨rfl, rfl⟩
    · cases hr
  · cases hr
def sy_PF (cl : List vw_C) (lt : List (List Int32)) (P : List px_M) (wA wB : px_W) (dA dB : Nat) (MA MB : px_M) (E : List sy_Pe) (pa : Nat) (la : List (Nat × Value)) (pb : Nat) (lb : List (Nat × Value)) : Prop := ∃ a b, sy_En cl lt P wA dA MA pa la [] a ∧ sy_En cl lt P wB dB MB pb lb [] b ∧ sy_PE E a b
def sy_PI (cl : List vw_C) (lt : List (List Int32)) (P : List px_M) (wA wB : px_W) (dA dB : Nat) (MA MB : px_M) (E : List sy_Pe) (N0 : Nat) (ρ0 : Nat → Int) (cuts : List sy_Pc) (m : Int) : Prop := ∀ c ∈ cuts, ∀ (ρ : Nat → Int) (τ : Nat → Int64) (la lb : List (Nat × Value)), (N0 ≤ c.1.1.length ∧ ∀ i, i < N0 → ρ i = ρ0 i) → sy_ok ρ c.1.1 → sy_cok ρ c.1.2.2.1 → sy_lvok ρ τ c.2.1.2 la → sy_lvok ρ τ c.2.2.1.2 lb → 0 ≤ sy_e ρ c.2.2.2 → sy_e ρ c.2.2.2 < m → sy_PF cl lt P wA wB dA dB MA MB E c.2.1.1 la c.2.2.1.1 lb
theorem sy_pstep {n N0 : Nat} {ρ0 : Nat → Int} {τ0 : Nat → Int64} {FA FB : List sy_Fa} {c : sy_Pc} (hGo : px_Gok P G) (hH : px_Hok cl P H) (hA : An = fun k => A[k]?) (hcl : ∀ (k : Nat) (o : Nat × List ((Int × Int) ⊕ Nat)), A[k]? = some (.inr (.inr o)) → o.1 < cl.length) (hCs : ∀ C ∈ Cs, sy_Met cl lt P A (0, 0) C) (hpu : sy_pure Wr = true) (hMA : P[jA]? = some MA) (hMB : P[jB]? = some MB) (hdA : D ≤ dA) (hdB : D ≤ dB) (hWA : sy_W A wA) (hJA : sy_fj Wr wA) (hWB : sy_W A wB) (hJB : sy_fj Wr wB) (hwA : sy_wFs N0 FA = true) (hwB : sy_wFs N0 FB = true) (hFA : sy_fok ρ0 τ0 wA FA) (hFB : sy_fok ρ0 τ0 wB FB) (hck : sy_ckP cl lt P G H An A Wr Cs D zs jA jB N0 E FA FB cuts n c = true) {ρ : Nat → Int} {τ : Nat → Int64} {la lb : List (Nat × Value)} (hr : N0 ≤ c.1.1.length ∧ ∀ i, i < N0 → ρ i = ρ0 i) (h1 : sy_ok ρ c.1.1) (h2 : sy_cok ρ c.1.2.2.1) (h4 : sy_lvok ρ τ c.2.1.2 la) (h5 : sy_lvok ρ τ c.2.2.1.2 lb) (hI : sy_PI cl lt P wA wB dA dB MA MB E N0 ρ0 cuts (sy_e ρ c.2.2.2)) : sy_PF cl lt P wA wB dA dB MA MB E c.2.1.1 la c.2.2.1.1 lb := by
  unfold sy_ckP at hck
  rw [Bool.and_eq_true, Bool.and_eq_true] at hck
  obtain ⟨⟨hwm, hwb⟩, hck⟩ := hck
  have hfrA : sy_fr Wr wA wA := ⟨fun _ _ _ => rfl, hJA⟩
  have hfrB : sy_fr Wr wB wB := ⟨fun _ _ _ => rfl, hJB⟩
  split at hck
  · rename_i l hl
    split at hck
    · rename_i lA hlA
      have hA0 : sy_GT (cl, lt, P, none, (0, 0), (fun v w => ∃ a, v = some a ∧ w = wA ∧ ∃ b, sy_En cl lt P wB dB MB c.2.2.1.1 lb [] b ∧ sy_PE E a b), dA) (P, A, Wr, wA) [] ρ c.1.1.length ([], c.1.1.length, ((c.1.1, 0, c.1.2.2.1, FA), (jA, c.2.1.1, c.2.1.2, []), [])) := by
        refine sy_sucP_ok (x := (cl, lt, P, none, (0, 0), _, dA)) (q := (P, A, Wr, wA)) hGo hH hA hcl rfl hCs hdA hl ((sy_colP_ok (x := (cl, lt, P, none, (0, 0), _, dA)) (q := (P, A, Wr, wA)) hGo hH hA hcl rfl hCs hdA n l lA hlA (fun za hza hpa => ?_)).2)
        have hz := List.all_eq_true.mp hck za hza
        rw [Bool.and_eq_true] at hz
        obtain ⟨hwa, hz⟩ := hz
        split at hz
        · rename_i l2 hl2
          split at hz
          · rename_i lB hlB
            intro ρ1 hv1 ρ2 τ2 w cA cf d hR hd
            obtain ⟨⟨⟨m0, m0'⟩, m1, m2, m3, m4, m5⟩, hfr, hfs⟩ := hR
            have hw : w = wA := sy_still hpu hWA m4 m5
            have hfs0 : za.2.2.2.2 = [] := sy_hpP_nil hpa
            rw [hfs0] at hfs
            have hcf := sy_frs_nil hfs
            rw [hcf] at hd ⊢
            have hd0 : d = dA := by simpa using hd
            rw [hw, hd0]
            have agA : ∀ i, i < c.1.1.length → ρ2 i = ρ i := fun i hi => by rw [m0' i (Nat.lt_of_lt_of_le hi hv1.1.1)]; exact hv1.1.2 i hi
            have hlen : c.1.1.length ≤ za.2.2.1.1.length := Nat.le_trans hv1.1.1 m0
            have ag0 : ∀ i, i < N0 → ρ2 i = ρ0 i := fun i hi => by rw [agA i (Nat.lt_of_lt_of_le hi hr.1)]; exact hr.2 i hi
            have hB0 : sy_GT (cl, lt, P, none, (0, 0), (fun v w => ∃ b, v = some b ∧ w = wB ∧ ∃ a, sy_En cl lt P wA dA cA.1 cA.2.1 cA.2.2.1 cA.2.2.2 a ∧ sy_PE E a b), dB) (P, A, Wr, wB) [] ρ2 za.2.2.1.1.length (za.1, za.2.2.1.1.length, ((za.2.2.1.1, 0, za.2.2.1.2.2.1, FB), (jB, c.2.2.1.1, c.2.2.1.2, []), [])) := by
              refine sy_sucP_ok (x := (cl, lt, P, none, (0, 0), _, dB)) (q := (P, A, Wr, wB)) hGo hH hA hcl rfl hCs hdB hl2 ((sy_colP_ok (x := (cl, lt, P, none, (0, 0), _, dB)) (q := (P, A, Wr, wB)) hGo hH hA hcl rfl hCs hdB n l2 lB hlB (fun zb hzb hpb => ?_)).2)
              have hk := List.all_eq_true.mp hz zb hzb
              unfold sy_prK at hk
              rw [Bool.or_eq_true] at hk
              intro ρ3 hv3
              rcases hk with hk | hk
              · intro ρ4 τ4 w' cB cf' d' hR' hd'
                obtain ⟨⟨⟨k0, k0'⟩, k1, k2, k3, k4, k5⟩, gfr, gfs⟩ := hR'
                have hw' : w' = wB := sy_still hpu hWB k4 k5
                have hfs1 : zb.2.2.2.2 = [] := sy_hpP_nil hpb
                rw [hfs1] at gfs
                have hcf' := sy_frs_nil gfs
                rw [hcf'] at hd' ⊢
                have hd1 : d' = dB := by simpa using hd'
                rw [hw'] at k3 ⊢
                rw [hd1]
                have ag4 : ∀ i, i < za.2.2.1.1.length → ρ4 i = ρ2 i := fun i hi => by rw [k0' i (Nat.lt_of_lt_of_le hi hv3.1.1)]; exact hv3.1.2 i hi
                have hfA : sy_frok ρ4 τ4 P za.2.2.2.1 cA := sy_ext_f ag4 (fun i hi => absurd hi (Nat.not_lt_zero i)) hwa hfr
                split at hk
                · rename_i va vb hra hrb
                  have EA : sy_En cl lt P wA dA cA.1 cA.2.1 cA.2.2.1 cA.2.2.2 (sy_v ρ4 τ4 va) := sy_retE hGo hra k1 hfA
                  have EB : sy_En cl lt P wB dB cB.1 cB.2.1 cB.2.2.1 cB.2.2.2 (sy_v ρ4 τ4 vb) := sy_retE hGo hrb k1 gfr
                  exact sy_En_to EB ⟨_, rfl, rfl, _, EA, sy_eP_ok hk k1 k2⟩
                · rw [Bool.and_eq_true, Bool.and_eq_true] at hk
                  obtain ⟨hja, hjb, hk⟩ := hk
                  obtain ⟨c2, hc2, hk⟩ := List.any_eq_true.mp hk
                  unfold sy_prC at hk
                  simp only [Bool.and_eq_true] at hk
                  obtain ⟨-, -, hkA, hkB⟩ := hk
                  obtain ⟨a1, a2, a3, a4⟩ := hfA
                  obtain ⟨b1, b2, b3, b4⟩ := gfr
                  obtain ⟨⟨f1, f2, f3, f4⟩, g1, g2, g3, g4, g5, g6, g7⟩ := sy_fitC_ok (S := (zb.2.2.1, za.2.2.2.1, [])) hkA k1 k2 k3 a3
                  obtain ⟨⟨f1', f2', f3', f4'⟩, -, -, -, -, g5', -, -⟩ := sy_fitC_ok (S := (zb.2.2.1, zb.2.2.2.1, [])) hkB k1 k2 k3 b3
                  dsimp only at f2 f3 f2' f3' f4 g1 g2 g3 g5 g6 g7 g5'
                  have em : sy_e ρ4 c.2.2.2 = sy_e ρ c.2.2.2 := sy_ext_l (fun i hi => by rw [ag4 i (Nat.lt_of_lt_of_le hi hlen)]; exact agA i hi) hwm
                  rw [em] at g7
                  obtain ⟨a, b, EA, EB, hPE⟩ := hI c2 hc2 _ _ cA.2.2.1 cB.2.2.1 ⟨f4, fun i hi => by
                    rw [g1 i hi, ag4 i (Nat.lt_of_lt_of_le hi (Nat.le_trans hr.1 hlen))]
                    exact ag0 i hi⟩ g2 g3 g5 g5' g6 g7
                  have hja' := Nat.eq_of_beq_eq_true hja
                  have hjb' := Nat.eq_of_beq_eq_true hjb
                  rw [hja', hMA] at a1
                  replace b1 : P[zb.2.2.2.1.1]? = some cB.1 := b1
                  rw [hjb', hMB] at b1
                  have ea := Option.some.inj a1
                  have eb := Option.some.inj b1
                  rw [f2] at a4
                  rw [f2'] at b4
                  rw [b4, b2, f3', ← eb]
                  refine sy_En_to EB ⟨_, rfl, rfl, a, ?_, hPE⟩
                  rw [a4, a2, f3, ← ea]
                  exact EA
              · exact sy_dead_ok hk
            have hvB : sy_tv [] ρ2 za.2.2.1.1.length za.1 za.2.2.1.1.length ρ2 := ⟨⟨Nat.le_refl _, fun _ _ => rfl⟩, fun t ht => by
              obtain ⟨t1, t2, t3, t4⟩ := hv1.2 t ht
              exact ⟨sy_wl_mono m0 t1, sy_wl_mono m0 t2, Nat.lt_of_lt_of_le t3 m0, sy_tk_ext m0' t1 t2 t3 t4⟩⟩
            have hfB : sy_frok ρ2 τ2 P (jB, c.2.2.1.1, c.2.2.1.2, []) (MB, c.2.2.1.1, lb, []) := sy_ext_f (ρ := ρ) (τ := τ) agA (fun i hi => absurd hi (Nat.not_lt_zero i)) hwb ⟨hMB, rfl, h5, rfl⟩
            have hfin := hB0 ρ2 hvB ρ2 τ2 wB (MB, c.2.2.1.1, lb, []) [] dB ⟨⟨⟨Nat.le_refl _, fun _ _ => rfl⟩, m1, m2, sy_ext_F ag0 hwB hFB, hWB, hfrB⟩, hfB, trivial⟩ rfl
            obtain ⟨b, EB, a, EA, hPE⟩ := sy_En_of hfin
            exact sy_En_to EA ⟨_, rfl, rfl, b, EB, hPE⟩
          · cases hz
        · cases hz
      have hfin := hA0 ρ ⟨⟨Nat.le_refl _, fun _ _ => rfl⟩, fun t ht => absurd ht List.not_mem_nil⟩ ρ τ wA (MA, c.2.1.1, la, []) [] dA ⟨⟨⟨Nat.le_refl _, fun _ _ => rfl⟩, h1, h2, sy_ext_F hr.2 hwA hFA, hWA, hfrA⟩, ⟨hMA, rfl, h4, rfl⟩, trivial⟩ rfl
      obtain ⟨a, EA, b, EB, hPE⟩ := sy_En_of hfin
      exact ⟨a, b, EA, EB, hPE⟩
    · cases hck
  · cases hck
/-- two methods answer alike, if their cuts are checked -/
theorem sy_pair {C : sy_P2} {m0 : sy_L} (n : Nat) (hGo : px_Gok P G) (hH : px_Hok cl P H) (hA : An = fun k => A[k]?) (hcl : ∀ (k : Nat) (o : Nat × List ((Int × Int) ⊕ Nat)), A[k]? = some (.inr (.inr o)) → o.1 < cl.length) (hCs : ∀ C ∈ Cs, sy_Met cl lt P A (0, 0) C) (hpu : sy_pure C.2.2.2.1 = true) (hwA : sy_wFs C.2.1.1.length C.2.1.2.2.2 = true) (hwB : sy_wFs C.2.1.1.length C.2.2.2.2.2.2 = true) (h0 : (C.2.1, (0, sy_args 0 C.2.2.1.1), (0, sy_args 0 C.2.2.1.2), m0) ∈ cuts) (hm0 : sy_pos C.2.1.1 C.2.1.2.2.1 m0 = true) (hc : ∀ c ∈ cuts, sy_ckP cl lt P G H An A C.2.2.2.1 Cs C.2.2.2.2.1 zs C.1.1 C.1.2 C.2.1.1.length C.2.2.2.2.2.1 C.2.1.2.2.2 C.2.2.2.2.2.2 cuts n c = true) : sy_Pm cl lt P A C := by
  intro MA MB hMA hMB ρ τ wA wB dA dB h1 h2 h3 h3b h4 h4j h5 h5j hdA hdB
  have hI : ∀ k : Nat, sy_PI cl lt P wA wB dA dB MA MB C.2.2.2.2.2.1 C.2.1.1.length ρ cuts (k : Int) := by
    intro k
    induction k with
    | zero =>
      intro c _ ρ τ la lb _ _ _ _ _ a7 a8
      omega
    | succ k ih =>
      intro c hcc ρ2 τ2 la lb a0 a1 a2 a4 a5 a6 a7
      exact sy_pstep hGo hH hA hcl hCs hpu hMA hMB hdA hdB h4 h4j h5 h5j hwA hwB h3 h3b (hc c hcc) a0 a1 a2 a4 a5 (fun c2 hc2 ρ3 τ3 la2 lb2 b0 b1 b2 b4 b5 b6 b7 => ih c2 hc2 ρ3 τ3 la2 lb2 b0 b1 b2 b4 b5 b6 (by omega))
  have hpos := sy_pos_e h1 h2 hm0
  obtain ⟨a, b, ⟨n1, v1, w1, e1, e2, e3⟩, ⟨n2, v2, w2, e4, e5, e6⟩, hPE⟩ := hI ((sy_e ρ m0).toNat + 1) _ h0 ρ τ (lv_args 0 (C.2.2.1.1.map (sy_v ρ τ))) (lv_args 0 (C.2.2.1.2.map (sy_v ρ τ))) ⟨Nat.le_refl _, fun _ _ => rfl⟩ h1 h2 (sy_args_ok _) (sy_args_ok _) hpos (by show sy_e ρ m0 < _; omega)
  rw [e2, e3] at e1
  rw [e5, e6] at e4
  exact ⟨a, b, hPE, ⟨n1, e1⟩, ⟨n2, e4⟩⟩
end PR2

end
