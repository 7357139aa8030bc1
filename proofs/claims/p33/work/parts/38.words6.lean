noncomputable section
/-! TWO CONTRACTS OF ONE METHOD: all of the one, and the lasting words of the other -/
def sy_jo (W : sy_Wr) : sy_Wr := W.filter (fun p => decide (1099511627776 ≤ p.1))
def sy_jn2 (C C' : sy_Co) : sy_Co := (C.1, C.2.1, C.2.2.1, sy_jo C'.2.2.2.1 ++ C.2.2.2.1, max C.2.2.2.2.1 C'.2.2.2.2.1, C.2.2.2.2.2)
theorem sy_both2 {cl : List vw_C} {lt : List (List Int32)} {P : List px_M} {A : List sy_Ce} {b : Nat × Nat} {C C' : sy_Co} (h : sy_Met cl lt P A b C) (h' : sy_Met cl lt P A b C') (hm : C'.1 = C.1) (ha : C'.2.2.1 = C.2.2.1) (hR : sy_sub2 C.2.1.1 C'.2.1.1 = true) (hc : C'.2.1.2.2.1 = []) (hF : C'.2.1.2.2.2 = []) (hJ : sy_js C.2.2.2.1 = []) (hjs : sy_js (sy_jo C'.2.2.2.1 ++ C.2.2.2.1) = sy_js C'.2.2.2.1) : sy_Met cl lt P A b (sy_jn2 C C') := by
  intro M hM ρ τ w d a1 a2 a3 a4 a5 a6
  have a6' : max C.2.2.2.2.1 C'.2.2.2.2.1 ≤ d := a6
  have a5' : sy_fj C'.2.2.2.1 w := fun j hj => a5 j (by show j ∈ sy_js (sy_jo C'.2.2.2.1 ++ C.2.2.2.1); rw [hjs]; exact hj)
  obtain ⟨n, v, w', hx, k1, k2, k3⟩ := h M hM ρ τ w d a1 a2 a3 a4 (by intro j hj; rw [hJ] at hj; cases hj) (by omega)
  obtain ⟨n2, v2, w2, hx2, -, l2, -⟩ := h' M (by rw [hm]; exact hM) ρ τ w d (sy_sub2_ok hR a1) (by rw [hc]; intro c hc; cases hc) (by rw [hF]; intro f hf; cases hf) a4 a5' (by omega)
  rw [ha] at hx2
  have e := px_det hx hx2
  cases e
  refine ⟨n, v, w', hx, k1, ⟨fun k i hki => k2.1 k i ?_, fun j hj => l2.2 j ?_⟩, k3⟩
  · have hki' : sy_may (sy_jo C'.2.2.2.1 ++ C.2.2.2.1) k i = false := hki
    unfold sy_may at hki' ⊢
    rw [List.any_append, Bool.or_eq_false_iff] at hki'
    exact hki'.2
  · have hj' : j ∈ sy_js (sy_jo C'.2.2.2.1 ++ C.2.2.2.1) := hj
    rw [hjs] at hj'
    exact hj'

end
