noncomputable section
/-! TWO CONTRACTS OF ONE METHOD: the ends of the one, and what the other keeps -/
def sy_jnd (C C' : sy_Co) : sy_Co := (C.1, C.2.1, C.2.2.1, C'.2.2.2.1, max C.2.2.2.2.1 C'.2.2.2.2.1, C.2.2.2.2.2)
def sy_sub2 (R R' : sy_T) : Bool := (List.range R'.length).all (fun i => match R[i]?, R'[i]? with
  | some p, some p' => decide (p'.1 ≤ p.1) && decide (p.2 ≤ p'.2)
  | _, _ => false)
theorem sy_sub2_ok {ρ : Nat → Int} {R R' : sy_T} (h : sy_sub2 R R' = true) (hR : sy_ok ρ R) : sy_ok ρ R' := by
  intro i p' hp'
  have hi := (List.getElem?_eq_some_iff.mp hp').1
  have h1 := List.all_eq_true.mp h i (List.mem_range.mpr hi)
  rw [hp'] at h1
  split at h1
  · rename_i p p2 hp e
    cases e
    rw [Bool.and_eq_true, decide_eq_true_eq, decide_eq_true_eq] at h1
    have := hR i p hp
    omega
  · cases h1
theorem sy_both {cl : List vw_C} {lt : List (List Int32)} {P : List px_M} {A : List sy_Ce} {b : Nat × Nat} {C C' : sy_Co} (h : sy_Met cl lt P A b C) (h' : sy_Met cl lt P A b C') (hm : C'.1 = C.1) (ha : C'.2.2.1 = C.2.2.1) (hR : sy_sub2 C.2.1.1 C'.2.1.1 = true) (hc : C'.2.1.2.2.1 = []) (hF : C'.2.1.2.2.2 = []) (hJ : sy_js C.2.2.2.1 = []) : sy_Met cl lt P A b (sy_jnd C C') := by
  intro M hM ρ τ w d a1 a2 a3 a4 a5 a6
  have a6' : max C.2.2.2.2.1 C'.2.2.2.2.1 ≤ d := a6
  obtain ⟨n, v, w', hx, k1, -, k3⟩ := h M hM ρ τ w d a1 a2 a3 a4 (by intro j hj; rw [hJ] at hj; cases hj) (by omega)
  obtain ⟨n2, v2, w2, hx2, -, l2, -⟩ := h' M (by rw [hm]; exact hM) ρ τ w d (sy_sub2_ok hR a1) (by rw [hc]; intro c hc; cases hc) (by rw [hF]; intro f hf; cases hf) a4 a5 (by omega)
  rw [ha] at hx2
  have e := px_det hx hx2
  cases e
  exact ⟨n, v, w', hx, k1, l2, k3⟩

end
