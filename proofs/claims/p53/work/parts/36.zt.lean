noncomputable section
/-! THE LAW, SOME CUTS WITH TWO METHODS THAT ANSWER ALIKE -/
theorem sy_law3 {cl : List vw_C} {lt : List (List Int32)} {P PM : List px_M} {G : Nat → Nat → Option (px_M × Instr × Nat)} {H : Nat → Option (px_M × Nat)} {An : Nat → Option sy_Ce} {A : List sy_Ce} {Wr : sy_Wr} {Cs : List sy_Co} {D d j : Nat} {zs : List (Nat × Nat × Nat)} {M : px_M} {cuts : List sy_Cut} {xs : List Int32} (n : Nat) (hGo : px_Gok PM G) (hH : px_Hok cl P H) (hA : An = fun k => A[k]?) (hcl : ∀ (k : Nat) (o : Nat × List ((Int × Int) ⊕ Nat)), A[k]? = some (.inr (.inr o)) → o.1 < cl.length) (hlen : xs.length ≤ 3072) (hPM : PM[j]? = some M) (hP : ∀ (j : Nat) (M : px_M), P[j]? = some M → PM[j]? = some M) (hCs : ∀ C ∈ Cs, sy_Met cl lt P A (0, 0) C) (hD : D ≤ d) (hc : ∀ c ∈ cuts, (∃ (k : Nat) (ss : List Nat), ∀ i, i ≤ ss.length → sy_ckT cl lt P PM G H An A Wr Cs D zs j cuts n c k ss i = true) ∨ ∃ (CA : sy_Co) (C : sy_P2) (fB n' : Nat), sy_Met cl lt P A (0, 0) CA ∧ sy_pure CA.2.2.2.1 = true ∧ sy_Pm cl lt P A C ∧ sy_ckQ cl lt P PM G H An A Wr Cs D zs j cuts n' CA C fB c = true) {w : px_W} {ρ0 : Nat → Int} (h0 : ρ0 0 = xs.length) : ∀ m : Nat, sy_I (cl, lt, P, some xs, (0, 0), (fun v _ => v = some (.int 1)), d) A Wr w ρ0 1 M cuts (m : Int) := by
  refine sy_floyd hPM (fun c hcc ρs hr hI => ?_)
  rcases hc c hcc with ⟨k, ss, hks⟩ | ⟨CA, C, fB, n', p1, p2, p3, p4⟩
  · have h1 := hks 0 (Nat.zero_le _)
    unfold sy_ckT at h1
    rw [Bool.and_eq_true, Bool.and_eq_true] at h1
    obtain ⟨h2, h3, h4⟩ := h1
    have hN1 : ρs 0 = xs.length := by rw [hr.2 0 (by omega)]; exact h0
    have hG : sy_GT (cl, lt, P, some xs, (0, 0), (fun v _ => v = some (.int 1)), d) (PM, A, Wr, w) xs ρs c.2.1.1.length ([], c.2.1.1.length, sy_cS j c) := by
      split at h4
      · rename_i l hl
        split at h4
        · rename_i l' hl'
          have ih : ∀ z ∈ l', sy_GT (cl, lt, P, some xs, (0, 0), (fun v _ => v = some (.int 1)), d) (PM, A, Wr, w) xs ρs c.2.1.1.length z := by
            refine sy_pcT_ok ss l' (fun i hi => ?_)
            have h5 := hks i hi
            unfold sy_ckT at h5
            rw [Bool.and_eq_true, Bool.and_eq_true, hl] at h5
            have h6 := h5.2.2
            simp only [hl'] at h6
            exact sy_allT_ok (x := (cl, lt, P, some xs, (0, 0), (fun v _ => v = some (.int 1)), d)) (q := (PM, A, Wr, w)) (ρ0 := ρ0) (ρc := ρs) (Nc := c.2.1.1.length) hGo hH hA hcl hP rfl hlen ⟨of_decide_eq_true h2, hN1⟩ hCs hD hPM hI hr h3 rfl n _ h6
          have ih2 := sy_rndsT_ok (x := (cl, lt, P, some xs, (0, 0), (fun v _ => v = some (.int 1)), d)) (q := (PM, A, Wr, w)) hGo hH hA hcl hP rfl hlen ⟨of_decide_eq_true h2, hN1⟩ hCs hD k l l' hl' ih
          exact sy_sucT_ok (x := (cl, lt, P, some xs, (0, 0), (fun v _ => v = some (.int 1)), d)) (q := (PM, A, Wr, w)) hGo hH hA hcl hP rfl hlen ⟨of_decide_eq_true h2, hN1⟩ hCs hD hl ih2
        · cases h4
      · cases h4
    exact hG ρs ⟨⟨Nat.le_refl _, fun _ _ => rfl⟩, fun t ht => absurd ht List.not_mem_nil⟩
  · exact sy_ckQ_ok hGo hH hA hcl hlen hPM hP hCs hD p1 p2 p3 h0 p4 hr hI

end
