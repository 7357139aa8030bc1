noncomputable section
/-! A CALL THAT ENDS KEEPS ITS CONTRACT -/
theorem ec_det {cl : List vw_C} {lt : List (List Int32)} {P : List px_M} {n k d : Nat} {scr : Option (List Int32)} {M : px_M} {pc : Nat} {lv : List (Nat × Value)} {st : List Value} {w : px_W} {b : Nat × Nat} {r r' : Option Value × px_W × (Nat × Nat)} (h : px_exec cl lt P n d scr M pc lv st w b = some r) (h' : px_exec cl lt P k d scr M pc lv st w b = some r') : r = r' := by
  have h1 := px_more h (Nat.le_max_left n k)
  have h2 := px_more h' (Nat.le_max_right n k)
  rw [h1] at h2
  exact Option.some.inj h2
theorem ec_s3_d {i : Instr} {len d : Nat} {L : px_L} {st : List Value} {w : px_W} : px_s3 i len (d + 1) L st w = px_s3 i len (d + 2) L st w := by
  have e1 : ∀ k : Nat, (1 ≤ k + 1) = True := fun k => by simp
  have e2 : (1 ≤ d + 2) = True := e1 (d + 1)
  unfold px_s3
  simp only [e1, e2]
theorem ec_s6_d {i : Instr} {len d : Nat} {L : px_L} {st : List Value} : px_s6 i len (d + 1) L st = px_s6 i len (d + 2) L st := by
  have e1 : ∀ k : Nat, (1 ≤ k + 1) = True := fun k => by simp
  have e2 : (1 ≤ d + 2) = True := e1 (d + 1)
  unfold px_s6
  simp only [e1, e2]
theorem ec_step_d {cl : List vw_C} {lt : List (List Int32)} {P : List px_M} {d : Nat} {scr : Option (List Int32)} {M : px_M} {pc : Nat} {lv : List (Nat × Value)} {st : List Value} {w : px_W} : px_step cl lt P (d + 1) scr M pc lv st w = px_step cl lt P (d + 2) scr M pc lv st w := by
  unfold px_step
  cases px_look M.2.1 pc with
  | none => rfl
  | some q =>
    show px_or _ (px_or _ (px_or _ (px_or ((px_s3 q.1 q.2 (d + 1) M.2.2 st w).map _) (px_or ((px_s6 q.1 q.2 (d + 1) M.2.2 st).map _) _)))) = px_or _ (px_or _ (px_or _ (px_or ((px_s3 q.1 q.2 (d + 2) M.2.2 st w).map _) (px_or ((px_s6 q.1 q.2 (d + 2) M.2.2 st).map _) _))))
    rw [ec_s3_d, ec_s6_d]
theorem ec_s3_0 {i : Instr} {len : Nat} {L : px_L} {st : List Value} {w : px_W} : px_s3 i len 0 L st w = none := by
  unfold px_s3
  split
  · rw [if_neg (fun e => by omega)]
  · rw [if_neg (fun e => by omega)]
  · rfl
theorem ec_s6_0 {i : Instr} {len : Nat} {L : px_L} {st : List Value} : px_s6 i len 0 L st = none := by
  unfold px_s6
  split
  · rw [if_neg (fun e => by omega)]
  · rfl
/-- a step that is no call needs no depth -/
theorem ec_step_0 {cl : List vw_C} {lt : List (List Int32)} {P : List px_M} {scr : Option (List Int32)} {M : px_M} {pc : Nat} {lv : List (Nat × Value)} {st : List Value} {w : px_W} {z : px_R} (h : px_step cl lt P 0 scr M pc lv st w = some z) (hz : ∀ q, z ≠ .inr (.inr q)) : px_step cl lt P 1 scr M pc lv st w = some z := by
  unfold px_step at h ⊢
  cases hq : px_look M.2.1 pc with
  | none =>
    rw [hq] at h
    cases h
  | some q =>
    rw [hq] at h
    have h' : px_or ((px_s1 q.1 q.2 pc M.1.2.2.1 lv st).map (fun z => (.inl (z.1, z.2.1, z.2.2, w, 0, 0) : px_R))) (px_or ((px_s2 cl lt q.1 q.2 scr M.1.1.name M.1.1.cls M.2.2 st w).map (fun z => .inl (pc + q.2, lv, z.1, z.2.1, z.2.2))) (px_or ((px_s5 q.1 q.2 M.1.2.2.2.1 st).map (fun z => .inr (.inl z))) (px_or ((px_s3 q.1 q.2 0 M.2.2 st w).map (fun z => .inl (pc + 3, lv, z.1, z.2, 0, 0))) (px_or ((px_s6 q.1 q.2 0 M.2.2 st).map (fun z => .inl (pc + 3, lv, z, w, 0, 0))) ((px_s4 cl P q.1 q.2 M.2.2 st w).map (fun z => .inr (.inr z))))))) = some z := h
    show px_or ((px_s1 q.1 q.2 pc M.1.2.2.1 lv st).map (fun z => (.inl (z.1, z.2.1, z.2.2, w, 0, 0) : px_R))) (px_or ((px_s2 cl lt q.1 q.2 scr M.1.1.name M.1.1.cls M.2.2 st w).map (fun z => .inl (pc + q.2, lv, z.1, z.2.1, z.2.2))) (px_or ((px_s5 q.1 q.2 M.1.2.2.2.1 st).map (fun z => .inr (.inl z))) _)) = some z
    rw [ec_s3_0, ec_s6_0] at h'
    cases h1 : (px_s1 q.1 q.2 pc M.1.2.2.1 lv st).map (fun z => (.inl (z.1, z.2.1, z.2.2, w, 0, 0) : px_R)) with
    | some y =>
      rw [h1] at h'
      exact h'
    | none =>
      rw [h1] at h'
      cases h2 : (px_s2 cl lt q.1 q.2 scr M.1.1.name M.1.1.cls M.2.2 st w).map (fun z => (.inl (pc + q.2, lv, z.1, z.2.1, z.2.2) : px_R)) with
      | some y =>
        rw [h2] at h'
        exact h'
      | none =>
        rw [h2] at h'
        cases h5 : (px_s5 q.1 q.2 M.1.2.2.2.1 st).map (fun z => (.inr (.inl z) : px_R)) with
        | some y =>
          rw [h5] at h'
          exact h'
        | none =>
          rw [h5] at h'
          have h6 : (px_s4 cl P q.1 q.2 M.2.2 st w).map (fun z => (.inr (.inr z) : px_R)) = some z := h'
          cases h4 : px_s4 cl P q.1 q.2 M.2.2 st w with
          | none =>
            rw [h4] at h6
            cases h6
          | some y =>
            rw [h4] at h6
            cases h6
            exact absurd rfl (hz y)
theorem ec_deep1 {cl : List vw_C} {lt : List (List Int32)} {P : List px_M} : ∀ (n d : Nat) (scr : Option (List Int32)) (M : px_M) (pc : Nat) (lv : List (Nat × Value)) (st : List Value) (w : px_W) (b : Nat × Nat) (r : Option Value × px_W × (Nat × Nat)), px_exec cl lt P n d scr M pc lv st w b = some r → px_exec cl lt P n (d + 1) scr M pc lv st w b = some r
  | 0, _, _, _, _, _, _, _, _, _, h => by cases h
  | n + 1, d, scr, M, pc, lv, st, w, b, r, h => by
    rw [px_exec_succ] at h ⊢
    cases hs : px_step cl lt P d scr M pc lv st w with
    | none =>
      rw [hs] at h
      cases h
    | some z =>
      have hs' : px_step cl lt P (d + 1) scr M pc lv st w = some z := by
        cases d with
        | succ d => rw [← ec_step_d]; exact hs
        | zero =>
          refine ec_step_0 hs (fun q e => ?_)
          rw [hs, e] at h
          cases h
      rw [hs] at h
      rw [hs']
      match z with
      | .inl z =>
        simp only at h ⊢
        split at h
        · rename_i hb
          rw [if_pos hb]
          exact ec_deep1 n _ _ _ _ _ _ _ _ _ h
        · cases h
      | .inr (.inl v) => exact h
      | .inr (.inr q) =>
        simp only at h ⊢
        split at h
        · rename_i d' M' hM'
          rw [hM']
          dsimp only
          split at h
          · rename_i hf
            rw [if_pos hf]
            split at h
            · cases h
            · rename_i r2 hr2
              rw [ec_deep1 n _ _ _ _ _ _ _ _ _ hr2]
              exact ec_deep1 n _ _ _ _ _ _ _ _ _ h
          · cases h
        · cases h
theorem ec_deep {cl : List vw_C} {lt : List (List Int32)} {P : List px_M} {n d : Nat} {scr : Option (List Int32)} {M : px_M} {pc : Nat} {lv : List (Nat × Value)} {st : List Value} {w : px_W} {b : Nat × Nat} {r : Option Value × px_W × (Nat × Nat)} (h : px_exec cl lt P n d scr M pc lv st w b = some r) : ∀ k, px_exec cl lt P n (d + k) scr M pc lv st w b = some r
  | 0 => h
  | k + 1 => ec_deep1 _ _ _ _ _ _ _ _ _ _ (ec_deep h k)
/-- what a contract says of a call that ends -/
theorem ec_use {X : ec_X} {C : sy_Co} (hC : sy_Met X.1 X.2.1 X.2.2.1 X.2.2.2.2.1 (0, 0) C) {n : Nat} {as : List ec_V} {w w1 : px_W} {v : Option Value} (h : ec_F X n C.1 as w (v, w1)) (ρ : Nat → Int) (τ : Nat → Int64) (hargs : C.2.2.1.map (sy_v ρ τ) = as.map ec_v) (h1 : sy_ok ρ C.2.1.1) (h2 : sy_cok ρ C.2.1.2.2.1) (h3 : sy_fok ρ τ w C.2.1.2.2.2) (h4 : sy_W X.2.2.2.2.1 w) (h5 : sy_fj C.2.2.2.1 w) : sy_K X.2.2.2.2.1 C w ρ v w1 := by
  obtain ⟨hW, M, d, b, b', hP, hx⟩ := h
  obtain ⟨n2, v2, w2, e1, e2⟩ := hC M hP ρ τ w (d + C.2.2.2.2.1) h1 h2 h3 h4 h5 (Nat.le_add_left _ _)
  rw [hargs] at e1
  have e3 := px_room b _ _ _ _ _ _ _ _ _ _ _ e1
  have e4 := ec_det e3 (ec_deep hx C.2.2.2.2.1)
  injection e4 with e4 e5
  injection e5 with e5 e6
  have e4' : v2 = v := e4
  have e5' : w2 = w1 := e5
  rw [← e4', ← e5']
  exact e2
/-- what lasts at the law's head -/
def hb_I0 (w : px_W) : Prop := sy_W hb_A w ∧ sy_fj hb_LW w
/-- a public method's contract: full ranges, no facts, an int for an answer -/
def hb_cp (C : sy_Co) : Bool := C.2.1.2.2.1.isEmpty && (C.2.1.2.2.2.isEmpty && (sy_jc C.2.2.2.1 hb_LW && (C.2.1.1.all (fun q => decide (q = sy_full)) && C.2.2.2.2.2.all (fun p => match p.2 with
  | some (.inl _) => true
  | _ => false))))
theorem hb_use {xs : List Int32} {C : sy_Co} (hC : sy_Met hb_cl hb_lt hb_P hb_A (0, 0) C) (hcp : hb_cp C = true) {n : Nat} {as : List ec_V} {w w1 : px_W} {v : Option Value} (h : ec_F (hb_XL xs) n C.1 as w (v, w1)) (ρ : Nat → Int) (τ : Nat → Int64) (hargs : C.2.2.1.map (sy_v ρ τ) = as.map ec_v) (hρ : ∀ i, -2147483648 ≤ ρ i ∧ ρ i ≤ 2147483647) (hI : hb_I0 w) : (∃ x : Int, v = ec_R x) ∧ ec_W hb_A w1 ∧ hb_I0 w1 ∧ ∀ k i : Nat, sy_may C.2.2.2.1 k i = false → sy_get w1 k i = sy_get w k i := by
  unfold hb_cp at hcp
  simp only [Bool.and_eq_true] at hcp
  obtain ⟨c1, c2, c3, c4, c5⟩ := hcp
  have hK := ec_use (X := hb_XL xs) hC h ρ τ hargs (fun i p hp => by
    have := of_decide_eq_true (List.all_eq_true.mp c4 p (List.mem_of_getElem? hp))
    rw [this]
    exact hρ i) (fun e he => by rw [List.isEmpty_iff.mp c1] at he; exact absurd he List.not_mem_nil) (fun f hf => by rw [List.isEmpty_iff.mp c2] at hf; exact absurd hf List.not_mem_nil) hI.1 (sy_jc_pre c3 hI.2)
  obtain ⟨k1, k2, p, hp, ρ', τ', _, _, _, _, k3⟩ := hK
  refine ⟨?_, ec_W_of k1, ⟨k1, sy_jc_ok c3 hI.2 k2⟩, k2.1⟩
  have := List.all_eq_true.mp c5 p hp
  split at this
  · rename_i e he
    exact ⟨sy_e ρ' e, by rw [k3, he]; rfl⟩
  · cases this

end
