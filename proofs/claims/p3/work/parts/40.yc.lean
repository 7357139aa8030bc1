noncomputable section
/-! THE WHOLE LAW -/
theorem hb_get0f {w : px_W} {k f ci : Nat} {sl : List ((Int × Int) ⊕ Nat)} {x : Int32} (hW : ec_W hb_A w) (ha : hb_A[k]? = some (.inr (.inr (ci, sl)))) (h : sy_get w k f = some (.int x)) : ec_fd w k f = x.toInt := by
  obtain ⟨o, ho, _⟩ := ec_W_obj hW ha
  unfold sy_get at h
  rw [ho] at h
  have h1 : o.2[f]? = some (.int x) := h
  unfold ec_fd
  rw [ho]
  dsimp only
  rw [h1]
theorem hb_get0a {w : px_W} {k n p : Nat} {sg : sy_Sg} {x : Int32} (hW : ec_W hb_A w) (ha : hb_A[k]? = some (.inl (n, sg))) (h : sy_get w k p = some (.int x)) : ef_a w k p = x.toInt := by
  obtain ⟨l, hl, _⟩ := ec_W_row hW ha
  unfold sy_get at h
  rw [hl] at h
  have h1 : (l[p]?).map Value.int = some (.int x) := h
  unfold ef_a ec_rd
  rw [hl]
  dsimp only
  rw [Int.toNat_natCast, List.getD_eq_getElem?_getD]
  cases e : l[p]? with
  | none =>
    rw [e] at h1
    cases h1
  | some y =>
    rw [e] at h1
    cases h1
    rfl
def hb_T0 : List (Nat × Nat × Int) := [(1, 0, 0), (1, 1, (-3)), (1, 8, 0), (1, 9, 0), (0, 14, 0), (151, 2, 0), (152, 0, 0), (152, 1, (-1)), (2, 0, 100), (152, 16, 100), (2, 1, 100), (152, 17, 100), (2, 2, 100), (152, 18, 100), (2, 3, 100), (152, 19, 100), (2, 4, 100), (152, 20, 100), (2, 5, 100), (152, 21, 100), (2, 6, 100), (152, 22, 100), (2, 7, 100), (152, 23, 100), (3, 0, 0), (152, 24, 0), (3, 1, 0), (152, 25, 0), (3, 2, 0), (152, 26, 0), (3, 3, 0), (152, 27, 0), (3, 4, 0), (152, 28, 0), (3, 5, 0), (152, 29, 0), (3, 6, 0), (152, 30, 0), (3, 7, 0), (152, 31, 0), (4, 0, 0), (152, 32, 0), (4, 1, 0), (152, 33, 0), (4, 2, 0), (152, 34, 0), (4, 3, 0), (152, 35, 0), (4, 4, 0), (152, 36, 0), (4, 5, 0), (152, 37, 0), (4, 6, 0), (152, 38, 0), (4, 7, 0), (152, 39, 0), (5, 0, 0), (152, 40, 0), (5, 1, 0), (152, 41, 0), (5, 2, 0), (152, 42, 0), (5, 3, 0), (152, 43, 0), (5, 4, 0), (152, 44, 0), (5, 5, 0), (152, 45, 0), (5, 6, 0), (152, 46, 0), (5, 7, 0), (152, 47, 0), (6, 0, 100), (152, 48, 100), (6, 1, 100), (152, 49, 100), (6, 2, 100), (152, 50, 100), (6, 3, 100), (152, 51, 100), (6, 4, 100), (152, 52, 100), (6, 5, 100), (152, 53, 100), (6, 6, 100), (152, 54, 100), (7, 0, 0), (152, 56, 0), (7, 1, 0), (152, 57, 0), (7, 2, 0), (152, 58, 0), (7, 3, 0), (152, 59, 0), (7, 4, 0), (152, 60, 0), (7, 5, 0), (152, 61, 0), (7, 6, 0), (152, 62, 0)]
theorem hb_T0_FS : hb_T0.map (fun q => ((q.1, ((q.2.1 : Int), []), .inl (q.2.2, [])) : sy_Fa)) = hb_FS := by rfl
theorem hb_f0v {w : px_W} (h : ∀ f ∈ hb_FS, hb_fB hb_V0 w f = true) {k p : Nat} {v : Int} (hm : (k, p, v) ∈ hb_T0) : sy_get w k p = some (.int (Int32.ofInt v)) := by
  have hm2 : ((k, ((p : Int), []), .inl (v, [])) : sy_Fa) ∈ hb_FS := by
    rw [← hb_T0_FS]
    exact List.mem_map.mpr ⟨(k, p, v), hm, rfl⟩
  have h1 := (hb_fB_ok (h _ hm2) (ρ := fun _ => 0) (fun i hi => absurd hi (by simp [hb_V0])) (fun _ => 0)).2
  have e : (sy_e (fun _ => 0) ((p : Int), [])).toNat = p := by
    show ((p : Int) + 0).toNat = p
    omega
  have e2 : sy_e (fun _ => 0) ((v : Int), []) = v := by
    show v + 0 = v
    omega
  rw [e] at h1
  have h3 : sy_get w k p = some (.int (Int32.ofInt (sy_e (fun _ => 0) ((v : Int), [])))) := h1
  rw [e2] at h3
  exact h3
theorem hb_rr0 {w : px_W} (hW : ec_W hb_A w) (h : ∀ f ∈ hb_FS, hb_fB hb_V0 w f = true) : eh_RR w := by
  have f1 : ∀ p v, (1, p, v) ∈ hb_T0 → ec_fd w 1 p = ec_tw v := fun p v hm => hb_get0f (k := 1) hW rfl (hb_f0v h hm)
  have d : ∀ p v, (152, p, v) ∈ hb_T0 → ef_a w 152 p = ec_tw v := fun p v hm => hb_get0a (k := 152) hW rfl (hb_f0v h hm)
  have r2 : ∀ c, c < 8 → ef_a w 2 c = 100 := fun c hc => hb_get0a (k := 2) hW rfl (hb_f0v h ((by decide +kernel : ∀ c, c < 8 → (2, c, (100 : Int)) ∈ hb_T0) c hc))
  have d2 : ∀ c, c < 8 → ef_a w 152 (16 + c) = 100 := fun c hc => d (16 + c) 100 ((by decide +kernel : ∀ c, c < 8 → (152, 16 + c, (100 : Int)) ∈ hb_T0) c hc)
  have r3 : ∀ c, c < 8 → ef_a w 3 c = 0 := fun c hc => hb_get0a (k := 3) hW rfl (hb_f0v h ((by decide +kernel : ∀ c, c < 8 → (3, c, (0 : Int)) ∈ hb_T0) c hc))
  have d3 : ∀ c, c < 8 → ef_a w 152 (24 + c) = 0 := fun c hc => d (24 + c) 0 ((by decide +kernel : ∀ c, c < 8 → (152, 24 + c, (0 : Int)) ∈ hb_T0) c hc)
  have r4 : ∀ c, c < 8 → ef_a w 4 c = 0 := fun c hc => hb_get0a (k := 4) hW rfl (hb_f0v h ((by decide +kernel : ∀ c, c < 8 → (4, c, (0 : Int)) ∈ hb_T0) c hc))
  have d4 : ∀ c, c < 8 → ef_a w 152 (32 + c) = 0 := fun c hc => d (32 + c) 0 ((by decide +kernel : ∀ c, c < 8 → (152, 32 + c, (0 : Int)) ∈ hb_T0) c hc)
  have r5 : ∀ c, c < 8 → ef_a w 5 c = 0 := fun c hc => hb_get0a (k := 5) hW rfl (hb_f0v h ((by decide +kernel : ∀ c, c < 8 → (5, c, (0 : Int)) ∈ hb_T0) c hc))
  have d5 : ∀ c, c < 8 → ef_a w 152 (40 + c) = 0 := fun c hc => d (40 + c) 0 ((by decide +kernel : ∀ c, c < 8 → (152, 40 + c, (0 : Int)) ∈ hb_T0) c hc)
  have r6 : ∀ c, c < 7 → ef_a w 6 c = 100 := fun c hc => hb_get0a (k := 6) hW rfl (hb_f0v h ((by decide +kernel : ∀ c, c < 7 → (6, c, (100 : Int)) ∈ hb_T0) c hc))
  have d6 : ∀ c, c < 7 → ef_a w 152 (48 + c) = 100 := fun c hc => d (48 + c) 100 ((by decide +kernel : ∀ c, c < 7 → (152, 48 + c, (100 : Int)) ∈ hb_T0) c hc)
  have r7 : ∀ c, c < 7 → ef_a w 7 c = 0 := fun c hc => hb_get0a (k := 7) hW rfl (hb_f0v h ((by decide +kernel : ∀ c, c < 7 → (7, c, (0 : Int)) ∈ hb_T0) c hc))
  have d7 : ∀ c, c < 7 → ef_a w 152 (56 + c) = 0 := fun c hc => d (56 + c) 0 ((by decide +kernel : ∀ c, c < 7 → (152, 56 + c, (0 : Int)) ∈ hb_T0) c hc)
  have z : ∀ c, c < 8 → ef_a w 3 c = 0 := r3
  have al : eh_al (ef_a w 3) = 0 := (eh_al_cg (V := fun _ => 0) z).trans rfl
  have tl : eh_tl (ef_a w 3) = 0 := (eh_tl_cg (V := fun _ => 0) z).trans (by decide +kernel)
  have m0 : ec_fd w 0 14 = 0 := hb_get0f (k := 0) hW rfl (hb_f0v h (by decide +kernel : (0, 14, (0 : Int)) ∈ hb_T0))
  have m1 : ec_fd w 151 2 = 0 := hb_get0f (k := 151) hW rfl (hb_f0v h (by decide +kernel : (151, 2, (0 : Int)) ∈ hb_T0))
  have n0 : ec_fd w 1 0 = 0 := f1 0 0 (by decide +kernel)
  have n1 : ec_fd w 1 1 = -3 := (f1 1 (-3) (by decide +kernel)).trans (show ec_tw (-3) = -3 from rfl)
  have n8 : ec_fd w 1 8 = 0 := f1 8 0 (by decide +kernel)
  have n9 : ec_fd w 1 9 = 0 := f1 9 0 (by decide +kernel)
  have e0 : ef_a w 152 0 = 0 := d 0 0 (by decide +kernel)
  have e1 : ef_a w 152 1 = -1 := (d 1 (-1) (by decide +kernel)).trans (show ec_tw (-1) = -1 from rfl)
  refine ⟨⟨?_, ?_, ?_, ?_⟩, ⟨n8.trans al.symm, n9.trans tl.symm⟩, .inl ⟨m0, m1⟩⟩
  · intro j c j1 j2 hc h7
    have hj : j = 1 ∨ j = 2 ∨ j = 3 ∨ j = 4 ∨ j = 5 ∨ j = 6 := by omega
    rcases hj with rfl | rfl | rfl | rfl | rfl | rfl
    · exact (d2 c hc).trans (r2 c hc).symm
    · exact (d3 c hc).trans (r3 c hc).symm
    · exact (d4 c hc).trans (r4 c hc).symm
    · exact (d5 c hc).trans (r5 c hc).symm
    · exact (d6 c (h7 (by decide))).trans (r6 c (h7 (by decide))).symm
    · exact (d7 c (h7 (by decide))).trans (r7 c (h7 (by decide))).symm
  · intro c hc
    show (0 ≤ ef_a w 3 c ∧ ef_a w 3 c ≤ ef_a w 2 c) ∧ (10 ≤ ef_a w 2 c ∧ ef_a w 2 c ≤ 999) ∧ (0 ≤ ef_a w 4 c ∧ ef_a w 4 c ≤ 9) ∧ (0 ≤ ef_a w 5 c ∧ ef_a w 5 c ≤ 9)
    rw [r2 c hc, r3 c hc, r4 c hc, r5 c hc]
    decide
  · rw [e0, n0]
    decide
  · rw [e1, n1]
    decide
theorem hb_whole (xs : List Int32) (hlen : xs.length ≤ 3072) : ∃ (n : Nat) (r : Option Value × px_W × (Nat × Nat)), px_exec hb_cl hb_lt hb_P n 40 (some xs) hb_m302 0 [(0, .ref 0)] [] [] (600000, 7302250) = some r ∧ r.1 = some (.int 1) := hb_runT 636 hb_Cs_ok (by decide) (fun f hf => absurd hf List.not_mem_nil) List.mem_cons_self hb_tall xs hlen (fun w hW hJ hF n r h => hb_pc hlen 3100 n 0 w r (by omega) (by omega) (by omega) ⟨hW, fun j _ => hJ j⟩ (hb_rr0 (ec_W_of hW) hF) h)

end
