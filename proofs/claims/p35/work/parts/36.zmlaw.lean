noncomputable section
/-! THE LAW'S LOOP ENDS WITH 1 -/
def sy_ckL (cl : List vw_C) (lt : List (List Int32)) (P PM : List px_M) (A : List sy_Ce) (Wr : sy_Wr) (Cs : List sy_Co) (D j : Nat) (cuts : List sy_Cut) (n : Nat) (c : sy_Cut) : Bool := decide (1 ≤ c.2.1.1.length) && (sy_wl c.2.1.1.length c.2.2.2 && (match sy_sucL cl lt P PM A Wr Cs D (sy_cS j c) with
  | some l => sy_allL cl lt P PM A Wr Cs D j 1 cuts c.2.2.2 n l
  | none => false))
theorem sy_law {cl : List vw_C} {lt : List (List Int32)} {P PM : List px_M} {A : List sy_Ce} {Wr : sy_Wr} {Cs : List sy_Co} {D d j : Nat} {M : px_M} {cuts : List sy_Cut} {xs : List Int32} (n : Nat) (hlen : xs.length ≤ 3072) (hPM : PM[j]? = some M) (hCs : ∀ C ∈ Cs, sy_Met cl lt P A (0, 0) C) (hD : D ≤ d) (hc : cuts.all (sy_ckL cl lt P PM A Wr Cs D j cuts n) = true) {w : px_W} {ρ0 : Nat → Int} (h0 : ρ0 0 = xs.length) : ∀ m : Nat, sy_I (cl, lt, P, some xs, (0, 0), (fun v _ => v = some (.int 1)), d) A Wr w ρ0 1 M cuts (m : Int) := by
  refine sy_floyd hPM (fun c hcc ρs hr hI => ?_)
  have h1 := List.all_eq_true.mp hc c hcc
  unfold sy_ckL at h1
  rw [Bool.and_eq_true, Bool.and_eq_true] at h1
  obtain ⟨h2, h3, h4⟩ := h1
  have hN1 : ρs 0 = xs.length := by rw [hr.2 0 (by omega)]; exact h0
  split at h4
  · rename_i l hl
    have ih := sy_allL_ok (x := (cl, lt, P, some xs, (0, 0), (fun v _ => v = some (.int 1)), d)) (q := (PM, A, Wr, w, ρs, c.2.1.1.length)) (ρ0 := ρ0) rfl hlen ⟨of_decide_eq_true h2, hN1⟩ hCs hD hPM hI hr h3 rfl n l h4
    exact sy_sucL_ok (x := (cl, lt, P, some xs, (0, 0), (fun v _ => v = some (.int 1)), d)) (q := (PM, A, Wr, w, ρs, c.2.1.1.length)) rfl hlen ⟨of_decide_eq_true h2, hN1⟩ hCs hD hl ih
  · cases h4
/-- a run that needs no room is a run in any room -/
theorem px_room {cl : List vw_C} {lt : List (List Int32)} {P : List px_M} (b : Nat × Nat) : ∀ (n d : Nat) (scr : Option (List Int32)) (M : px_M) (pc : Nat) (lv : List (Nat × Value)) (st : List Value) (w : px_W) (v : Option Value) (w' : px_W) (b' : Nat × Nat), px_exec cl lt P n d scr M pc lv st w (0, 0) = some (v, w', b') → px_exec cl lt P n d scr M pc lv st w b = some (v, w', b)
  | 0, _, _, _, _, _, _, _, _, _, _, h => by simp [px_exec] at h
  | n + 1, d, scr, M, pc, lv, st, w, v, w', b', h => by
    rw [px_exec_succ] at h ⊢
    cases hs : px_step cl lt P d scr M pc lv st w with
    | none => rw [hs] at h; cases h
    | some z =>
      rw [hs] at h
      match z with
      | .inl z =>
        simp only at h ⊢
        split at h
        · rename_i hb
          have h1 : z.2.2.2.2.1 = 0 := by have := hb.1; omega
          have h2 : z.2.2.2.2.2 = 0 := by have := hb.2; omega
          rw [h1, h2] at h ⊢
          rw [if_pos ⟨Nat.zero_le _, Nat.zero_le _⟩]
          exact px_room b n _ _ _ _ _ _ _ _ _ _ h
        · cases h
      | .inr (.inl v2) =>
        simp only at h ⊢
        cases h
        rfl
      | .inr (.inr q) =>
        simp only at h ⊢
        split at h
        · rename_i d' M' hM'
          split at h
          · rename_i hf
            rw [if_pos hf]
            split at h
            · cases h
            · rename_i r2 hr2
              obtain ⟨v2, w2, b2⟩ := r2
              have hb2 := px_mono _ _ _ _ _ _ _ _ _ _ hr2
              have hb3 : b2 = (0, 0) := by
                obtain ⟨x1, x2⟩ := b2
                dsimp only at hb2
                have e1 : x1 = 0 := by omega
                have e2 : x2 = 0 := by omega
                rw [e1, e2]
              subst hb3
              rw [px_room b n _ _ _ _ _ _ _ _ _ _ hr2]
              exact px_room b n _ _ _ _ _ _ _ _ _ _ h
          · cases h
        · cases h

end
