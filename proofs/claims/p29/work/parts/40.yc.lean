noncomputable section
/-! THE WHOLE LAW -/
theorem hb_get0f {w : px_W} {k f ci : Nat} {sl : List ((Int × Int) ⊕ Nat)} {x : Int32} (hW : ec_W hb_A w) (ha : hb_A[k]? = some (.inr (.inr (ci, sl)))) (h : sy_get w k f = some (.int x)) : ec_fd w k f = x.toInt := by
  obtain ⟨o, ho, _⟩ := ec_W_obj hW ha
  unfold sy_get at h
  rw [ho] at h
  have h1 : o.2[f]? = some (.int x) := h
  unfold ec_fd
  rw [ho]
  dsimp only
  rw [h1]
theorem hb_get0a {w : px_W} {k n p : Nat} {sg : sy_Sg} {x : Int32} (hW : ec_W hb_A w) (ha : hb_A[k]? = some (.inl (n, sg))) (h : sy_get w k p = some (.int x)) : ef_a w k p = x.toInt := by
  obtain ⟨l, hl, _⟩ := ec_W_row hW ha
  unfold sy_get at h
  rw [hl] at h
  have h1 : (l[p]?).map Value.int = some (.int x) := h
  unfold ef_a ec_rd
  rw [hl]
  dsimp only
  rw [Int.toNat_natCast, List.getD_eq_getElem?_getD]
  cases e : l[p]? with
  | none =>
    rw [e] at h1
    cases h1
  | some y =>
    rw [e] at h1
    cases h1
    rfl
def hb_T0 : List (Nat × Nat × Int) := [(29, 1, 0), (152, 6, 0), (29, 7, 0), (152, 7, 0), (0, 14, 0), (151, 2, 0), (29, 0, 10), (152, 12, 10), (29, 9, 0), (152, 8, 0)]
theorem hb_T0_FS : hb_T0.map (fun q => ((q.1, ((q.2.1 : Int), []), .inl (q.2.2, [])) : sy_Fa)) = hb_FS := by rfl
theorem hb_f0v {w : px_W} (h : ∀ f ∈ hb_FS, hb_fB hb_V0 w f = true) {k p : Nat} {v : Int} (hm : (k, p, v) ∈ hb_T0) : sy_get w k p = some (.int (Int32.ofInt v)) := by
  have hm2 : ((k, ((p : Int), []), .inl (v, [])) : sy_Fa) ∈ hb_FS := by
    rw [← hb_T0_FS]
    exact List.mem_map.mpr ⟨(k, p, v), hm, rfl⟩
  have h1 := (hb_fB_ok (h _ hm2) (ρ := fun _ => 0) (fun i hi => absurd hi (by simp [hb_V0])) (fun _ => 0)).2
  have e : (sy_e (fun _ => 0) ((p : Int), [])).toNat = p := by
    show ((p : Int) + 0).toNat = p
    omega
  have e2 : sy_e (fun _ => 0) ((v : Int), []) = v := by
    show v + 0 = v
    omega
  rw [e] at h1
  have h3 : sy_get w k p = some (.int (Int32.ofInt (sy_e (fun _ => 0) ((v : Int), [])))) := h1
  rw [e2] at h3
  exact h3
theorem hb_rr0 {w : px_W} (hW : ec_W hb_A w) (h : ∀ f ∈ hb_FS, hb_fB hb_V0 w f = true) : es_RR w := by
  have f0 : ec_fd w 29 0 = 10 := hb_get0f (k := 29) hW rfl (hb_f0v h (by decide +kernel : (29, 0, (10 : Int)) ∈ hb_T0))
  have d0 : ef_a w 152 12 = 10 := hb_get0a (k := 152) hW rfl (hb_f0v h (by decide +kernel : (152, 12, (10 : Int)) ∈ hb_T0))
  refine ⟨⟨⟨⟨0, by decide, hb_get0f (k := 29) hW rfl (hb_f0v h (by decide +kernel : (29, 1, (0 : Int)) ∈ hb_T0)), hb_get0a (k := 152) hW rfl (hb_f0v h (by decide +kernel : (152, 6, (0 : Int)) ∈ hb_T0)), fun i hi => absurd hi (Nat.not_lt_zero _)⟩, 0, by decide, hb_get0f (k := 29) hW rfl (hb_f0v h (by decide +kernel : (29, 7, (0 : Int)) ∈ hb_T0)), hb_get0a (k := 152) hW rfl (hb_f0v h (by decide +kernel : (152, 7, (0 : Int)) ∈ hb_T0)), fun i hi => absurd hi (Nat.not_lt_zero _)⟩, .inl ⟨hb_get0f (k := 0) hW rfl (hb_f0v h (by decide +kernel : (0, 14, (0 : Int)) ∈ hb_T0)), hb_get0f (k := 151) hW rfl (hb_f0v h (by decide +kernel : (151, 2, (0 : Int)) ∈ hb_T0))⟩⟩, ⟨⟨0, by decide, hb_get0a (k := 152) hW rfl (hb_f0v h (by decide +kernel : (152, 6, (0 : Int)) ∈ hb_T0)), fun i hi => absurd hi (Nat.not_lt_zero _)⟩, ⟨f0.trans d0.symm, ?_⟩, 0, by decide, hb_get0f (k := 29) hW rfl (hb_f0v h (by decide +kernel : (29, 9, (0 : Int)) ∈ hb_T0)), hb_get0a (k := 152) hW rfl (hb_f0v h (by decide +kernel : (152, 8, (0 : Int)) ∈ hb_T0)), fun i hi => absurd hi (Nat.not_lt_zero _)⟩, .inl ⟨hb_get0f (k := 0) hW rfl (hb_f0v h (by decide +kernel : (0, 14, (0 : Int)) ∈ hb_T0)), hb_get0f (k := 151) hW rfl (hb_f0v h (by decide +kernel : (151, 2, (0 : Int)) ∈ hb_T0))⟩⟩
  show 0 ≤ ef_a w 152 12 ∧ ef_a w 152 12 ≤ 60
  rw [d0]
  decide
theorem hb_whole (xs : List Int32) (hlen : xs.length ≤ 3072) : ∃ (n : Nat) (r : Option Value × px_W × (Nat × Nat)), px_exec hb_cl hb_lt hb_P n 40 (some xs) hb_m302 0 [(0, .ref 0)] [] [] (600000, 7302250) = some r ∧ r.1 = some (.int 1) := hb_runT 636 hb_Cs_ok (by decide) (fun f hf => absurd hf List.not_mem_nil) List.mem_cons_self hb_tall xs hlen (fun w hW hJ hF n r h => hb_pc hlen 3100 n 0 w r (by omega) (by omega) (by omega) ⟨hW, fun j _ => hJ j⟩ (hb_rr0 (ec_W_of hW) hF) h)

end
