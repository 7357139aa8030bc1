noncomputable section
/-! THE LAW FROM ITS ENTRY TO ITS LOOP -/
def px_nq (i : Instr) : Bool := match i with
  | .iaload => false
  | .arraylength => false
  | _ => true
section GO
variable {cl : List vw_C} {lt : List (List Int32)} {P : List px_M} {scr : Option (List Int32)} {d f : Nat} {M : px_M} {pc : Nat} {lv : List (Nat × Value)} {st : List Value} {w : px_W}
theorem px_s2_nq {i : Instr} {len : Nat} {nm own : String} {L : px_L} (h : px_nq i = true) : px_s2 cl lt i len scr nm own L st w = px_s2 cl lt i len none nm own L st w := by
  cases scr with
  | none => rfl
  | some xs =>
    unfold px_s2
    split <;> first | rfl | (cases h)
theorem px_step_nq {q : Instr × Nat} (hq : px_look M.2.1 pc = some q) (h : px_nq q.1 = true) : px_step cl lt P d scr M pc lv st w = px_step cl lt P d none M pc lv st w := by
  unfold px_step
  rw [hq]
  simp only [Option.bind_some]
  rw [px_s2_nq (scr := scr) h]
def px_go (cl : List vw_C) (lt : List (List Int32)) (P : List px_M) (d f : Nat) (M : px_M) : Nat → Nat → List (Nat × Value) → List Value → px_W → Nat × Nat → Option (Nat × List (Nat × Value) × List Value × px_W × (Nat × Nat))
  | 0, pc, lv, st, w, b => some (pc, lv, st, w, b)
  | k + 1, pc, lv, st, w, b => match px_look M.2.1 pc with
    | none => none
    | some q => if px_nq q.1 = true then (match px_step cl lt P (d + 1) none M pc lv st w with
      | none => none
      | some (.inl z) => if z.2.2.2.2.1 ≤ b.1 ∧ z.2.2.2.2.2 ≤ b.2 then px_go cl lt P d f M k z.1 z.2.1 z.2.2.1 z.2.2.2.1 (b.1 - z.2.2.2.2.1, b.2 - z.2.2.2.2.2) else none
      | some (.inr (.inl _)) => none
      | some (.inr (.inr q)) => (match P[q.1]? with
        | none => none
        | some M' => if (lg_sl q.2.1).length ≤ M'.1.2.2.1 then (match px_exec cl lt P f d none M' 0 (lv_args 0 q.2.1) [] w b with
          | none => none
          | some r => px_go cl lt P d f M k (pc + 3) lv (r.1.toList ++ q.2.2) r.2.1 r.2.2) else none)) else none
theorem px_go_ok : ∀ (k pc : Nat) (lv : List (Nat × Value)) (st : List Value) (w : px_W) (b : Nat × Nat) (z : Nat × List (Nat × Value) × List Value × px_W × (Nat × Nat)), px_go cl lt P d f M k pc lv st w b = some z → ∀ (n : Nat) (r : Option Value × px_W × (Nat × Nat)), px_exec cl lt P n (d + 1) scr M z.1 z.2.1 z.2.2.1 z.2.2.2.1 z.2.2.2.2 = some r → ∃ n', px_exec cl lt P n' (d + 1) scr M pc lv st w b = some r
  | 0, pc, lv, st, w, b, z, h, n, r, hr => by
    unfold px_go at h
    cases h
    exact ⟨n, hr⟩
  | k + 1, pc, lv, st, w, b, z, h, n, r, hr => by
    unfold px_go at h
    split at h
    · cases h
    · rename_i q hq
      split at h
      · rename_i hn
        have e := px_step_nq (cl := cl) (lt := lt) (P := P) (scr := scr) (d := d + 1) (lv := lv) (st := st) (w := w) hq hn
        split at h
        · cases h
        · rename_i z1 hs
          split at h
          · rename_i hb
            obtain ⟨n', h'⟩ := px_go_ok k _ _ _ _ _ z h n r hr
            refine ⟨n' + 1, ?_⟩
            rw [px_exec_succ, e, hs]
            simp only
            rw [if_pos hb]
            exact h'
          · cases h
        · cases h
        · rename_i q1 hs
          split at h
          · cases h
          · rename_i M' hM
            split at h
            · rename_i hf
              split at h
              · cases h
              · rename_i r1 hx
                obtain ⟨n', h'⟩ := px_go_ok k _ _ _ _ _ z h n r hr
                refine ⟨max f n' + 1, ?_⟩
                rw [px_exec_succ, e, hs]
                simp only [hM]
                rw [if_pos hf, px_more hx (Nat.le_max_left f n')]
                exact px_more h' (Nat.le_max_right f n')
            · cases h
      · cases h
end GO
/-- the lasting words, where all is empty -/
def sy_j0 (w : px_W) (a : Nat) (n : Nat) (y : Int) : Bool := (List.range n).all (fun k => match sy_get w a k with
  | some (.int x) => decide (x.toInt ≠ y)
  | _ => true)
theorem sy_j0_ok {w : px_W} {a n k : Nat} {y : Int32} (h : sy_j0 w a n y.toInt = true) (hk : k < n) (he : sy_get w a k = some (.int y)) : False := by
  have h1 := List.all_eq_true.mp h k (List.mem_range.mpr hk)
  simp only [he] at h1
  exact of_decide_eq_true h1 rfl
def sy_jB (w : px_W) : Bool := sy_j0 w 47 56 2 && (sy_j0 w 105 56 2 && (sy_j0 w 176 4 6 && ((match sy_get w 151 2 with
  | some (.int x) => decide (x.toInt ≠ 1)
  | _ => true) && (match sy_get w 152 6 with
  | some (.int x) => decide (x.toInt ≤ 0)
  | _ => true))))
theorem sy_jB_ok {w : px_W} (h : sy_jB w = true) : ∀ j, sy_jp j w := by
  unfold sy_jB at h
  simp only [Bool.and_eq_true] at h
  obtain ⟨h0, h1, h3, h4, h2⟩ := h
  intro j
  match j with
  | 0 => exact fun k hk e => (sy_j0_ok (y := 2) h0 hk e).elim
  | 1 => exact fun k hk e => (sy_j0_ok (y := 2) h1 hk e).elim
  | 2 =>
    intro s hs n e hn
    simp only [e] at h2
    have := of_decide_eq_true h2
    omega
  | 3 => exact fun k hk e => (sy_j0_ok (y := 6) h3 hk e).elim
  | 4 =>
    intro e
    simp only [e] at h4
    exact absurd rfl (of_decide_eq_true h4)
  | _ + 5 => exact trivial
def hb_lk (lv : List (Nat × Value)) (k a : Nat) : Bool := match px_look lv k with
  | some (.ref x) => decide (x = a)
  | _ => false
theorem hb_lk_ok {lv : List (Nat × Value)} {k a : Nat} (h : hb_lk lv k a = true) : px_look lv k = some (.ref a) := by
  unfold hb_lk at h
  split at h
  · rename_i x e
    rw [e, of_decide_eq_true h]
  · cases h
/-- facts of the first world -/
def hb_fB (vals : List Int) (w : px_W) (f : sy_Fa) : Bool := decide (f.2.1 = sy_c f.2.1.1) && (decide (0 ≤ f.2.1.1) && (match f.2.2 with
  | .inl e => (match sy_get w f.1 f.2.1.1.toNat with
    | some (.int x) => decide (e = sy_c x.toInt) || (List.range vals.length).any (fun i => decide (e = sy_x (i + 2)) && decide (vals.getD i 0 = x.toInt))
    | _ => false)
  | _ => false))
theorem hb_fB_ok {vals : List Int} {w : px_W} {f : sy_Fa} (h : hb_fB vals w f = true) {ρ : Nat → Int} (hρ : ∀ i, i < vals.length → ρ (i + 2) = vals.getD i 0) (τ : Nat → Int64) : 0 ≤ sy_e ρ f.2.1 ∧ sy_get w f.1 (sy_e ρ f.2.1).toNat = some (sy_v ρ τ f.2.2) := by
  unfold hb_fB at h
  rw [Bool.and_eq_true, Bool.and_eq_true] at h
  obtain ⟨h1, h2, h3⟩ := h
  have e0 : sy_e ρ f.2.1 = f.2.1.1 := by rw [of_decide_eq_true h1, sy_c_e]; rfl
  rw [e0]
  refine ⟨of_decide_eq_true h2, ?_⟩
  split at h3
  · rename_i e he
    split at h3
    · rename_i x hx
      rw [hx, he]
      show _ = some (Value.int (Int32.ofInt (sy_e ρ e)))
      rw [Bool.or_eq_true] at h3
      rcases h3 with h3 | h3
      · rw [of_decide_eq_true h3, sy_c_e, Int32.ofInt_toInt]
      · obtain ⟨i, hi, h4⟩ := List.any_eq_true.mp h3
        rw [Bool.and_eq_true] at h4
        rw [of_decide_eq_true h4.1, sy_x_e, hρ i (List.mem_range.mp hi), of_decide_eq_true h4.2, Int32.ofInt_toInt]
    · cases h3
  · cases h3
def hb_z (A : List sy_Ce) (F : List sy_Fa) (vals : List Int) (z : Nat × List (Nat × Value) × List Value × px_W × (Nat × Nat)) : Bool := decide (z.1 = 18) && (hb_lk z.2.1 0 0 && (hb_lk z.2.1 1 64 && (hb_lk z.2.1 2 215 && ((match px_look z.2.1 3 with
  | some (.int x) => decide (x = 0)
  | _ => false) && (z.2.2.1.isEmpty && (sy_WB A z.2.2.2.1 && (sy_jB z.2.2.2.1 && F.all (hb_fB vals z.2.2.2.1))))))))
def hb_zB (A : List sy_Ce) (F : List sy_Fa) (vals : List Int) : Bool := match px_go hb_cl hb_lt hb_P 39 5000 hb_m302 10 0 [(0, .ref 0)] [] [] (600000, 7302250) with
  | some z => hb_z A F vals z
  | none => false
set_option maxRecDepth 100000 in
theorem hb_zB_ok : hb_zB hb_A hb_FA hb_V0 = true := by decide +kernel
/-- the law stands at its loop -/
theorem hb_head : ∃ z, px_go hb_cl hb_lt hb_P 39 5000 hb_m302 10 0 [(0, .ref 0)] [] [] (600000, 7302250) = some z ∧ z.1 = 18 ∧ px_look z.2.1 0 = some (.ref 0) ∧ px_look z.2.1 1 = some (.ref 64) ∧ px_look z.2.1 2 = some (.ref 215) ∧ px_look z.2.1 3 = some (.int 0) ∧ z.2.2.1 = [] ∧ sy_W hb_A z.2.2.2.1 ∧ (∀ j, sy_jp j z.2.2.2.1) ∧ ∀ f ∈ hb_FA, hb_fB hb_V0 z.2.2.2.1 f = true := by
  have h := hb_zB_ok
  unfold hb_zB at h
  split at h
  · rename_i z hz
    unfold hb_z at h
    simp only [Bool.and_eq_true] at h
    obtain ⟨h1, h2, h3, h4, h5, h6, h7, h8, h9⟩ := h
    refine ⟨z, hz, of_decide_eq_true h1, hb_lk_ok h2, hb_lk_ok h3, hb_lk_ok h4, ?_, List.isEmpty_iff.mp h6, sy_WB_ok h7, sy_jB_ok h8, List.all_eq_true.mp h9⟩
    split at h5
    · rename_i x e
      rw [e, of_decide_eq_true h5]
    · cases h5
  · cases h

end
