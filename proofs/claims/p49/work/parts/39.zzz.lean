noncomputable section
/-! A CONTRACT WITH ITS FIRST NUMBER FIXED -/
theorem sy_fix {cl : List vw_C} {lt : List (List Int32)} {P : List px_M} {A : List sy_Ce} {b : Nat × Nat} {j r D : Nat} {Wr : sy_Wr} (h : sy_Met cl lt P A b (j, ([sy_full, sy_full, sy_full], 0, [], []), [.inr (.inl r), .inl (0, [(0, 1)]), .inl (0, [(1, 1)]), .inl (0, [(2, 1)])], Wr, D, [(([sy_full, sy_full, sy_full, sy_full], 0, [], []), some (.inl (0, [(3, 1)])))])) (k : Int) (hk : -2147483648 ≤ k ∧ k ≤ 2147483647) : sy_Met cl lt P A b (j, ([sy_full, sy_full], 0, [], []), [.inr (.inl r), .inl (k, []), .inl (0, [(0, 1)]), .inl (0, [(1, 1)])], Wr, D, [(([sy_full, sy_full, sy_full], 0, [], []), some (.inl (0, [(2, 1)])))]) := by
  intro M hM ρ τ w d h1 _ _ h4 hJ h5
  have ok : sy_ok (fun i => if i = 0 then k else ρ (i - 1)) [sy_full, sy_full, sy_full] := by
    intro i q hq
    cases i with
    | zero =>
      have e : sy_full = q := Option.some.inj hq
      rw [← e]
      exact hk
    | succ i =>
      cases i with
      | zero => exact h1 0 q hq
      | succ i =>
        cases i with
        | zero => exact h1 1 q hq
        | succ i =>
          have e : (none : Option (Int × Int)) = some q := hq
          cases e
  have eA : ([.inr (.inl r), .inl (0, [(0, 1)]), .inl (0, [(1, 1)]), .inl (0, [(2, 1)])] : List sy_A).map (sy_v (fun i => if i = 0 then k else ρ (i - 1)) τ) = ([.inr (.inl r), .inl (k, []), .inl (0, [(0, 1)]), .inl (0, [(1, 1)])] : List sy_A).map (sy_v ρ τ) := by
    show [Value.ref r, Value.int (Int32.ofInt (sy_e (fun i => if i = 0 then k else ρ (i - 1)) (sy_x 0))), Value.int (Int32.ofInt (sy_e (fun i => if i = 0 then k else ρ (i - 1)) (sy_x 1))), Value.int (Int32.ofInt (sy_e (fun i => if i = 0 then k else ρ (i - 1)) (sy_x 2)))] = [Value.ref r, Value.int (Int32.ofInt (k + 0)), Value.int (Int32.ofInt (sy_e ρ (sy_x 0))), Value.int (Int32.ofInt (sy_e ρ (sy_x 1)))]
    rw [sy_x_e, sy_x_e, sy_x_e, sy_x_e, sy_x_e, Int.add_zero]
    rfl
  obtain ⟨n, v, w', hx, k1, k2, p, hp, ρ', τ', r1, r2, _, _, hv⟩ := h M hM (fun i => if i = 0 then k else ρ (i - 1)) τ w d ok (fun c hc => absurd hc List.not_mem_nil) (fun f hf => absurd hf List.not_mem_nil) h4 hJ h5
  have hx' : px_exec cl lt P n d none M 0 (lv_args 0 (([.inr (.inl r), .inl (k, []), .inl (0, [(0, 1)]), .inl (0, [(1, 1)])] : List sy_A).map (sy_v ρ τ))) [] w b = some (v, w', b) := by
    rw [← eA]
    exact hx
  have hp' := List.mem_singleton.mp hp
  rw [hp'] at r2 hv
  refine ⟨n, v, w', hx', k1, k2, _, List.mem_singleton.mpr rfl, fun i => ρ' (i + 1), τ', fun i hi => ?_, fun i q hq => r2 (i + 1) q hq, fun c hc => absurd hc List.not_mem_nil, fun f hf => absurd hf List.not_mem_nil, ?_⟩
  · have hi' : i < 2 := hi
    have e : ρ' (i + 1) = (if i + 1 = 0 then k else ρ (i + 1 - 1)) := r1 (i + 1) (show i + 1 < 3 by omega)
    rw [if_neg (Nat.succ_ne_zero i)] at e
    exact e
  · rw [hv]
    show some (Value.int (Int32.ofInt (sy_e ρ' (sy_x 3)))) = some (Value.int (Int32.ofInt (sy_e (fun i => ρ' (i + 1)) (sy_x 2))))
    rw [sy_x_e, sy_x_e]
def hb_M277_0 : sy_Co := (277, ([sy_full, sy_full], 0, [], []), [.inr (.inl 215), .inl (0, []), .inl (0, [(0, 1)]), .inl (0, [(1, 1)])], [(1099511627779, 0, 0), (176, 0, 4), (177, 0, 4)], 2, [(([sy_full, sy_full, sy_full], 0, [], []), some (.inl (0, [(2, 1)])))])
theorem hb_M277_0_ok : sy_Met hb_cl hb_lt hb_P hb_A (0, 0) hb_M277_0 := sy_fix hb_L277_ok 0 (by decide)
def hb_M277_1 : sy_Co := (277, ([sy_full, sy_full], 0, [], []), [.inr (.inl 215), .inl (1, []), .inl (0, [(0, 1)]), .inl (0, [(1, 1)])], [(1099511627779, 0, 0), (176, 0, 4), (177, 0, 4)], 2, [(([sy_full, sy_full, sy_full], 0, [], []), some (.inl (0, [(2, 1)])))])
theorem hb_M277_1_ok : sy_Met hb_cl hb_lt hb_P hb_A (0, 0) hb_M277_1 := sy_fix hb_L277_ok 1 (by decide)
def hb_M277_2 : sy_Co := (277, ([sy_full, sy_full], 0, [], []), [.inr (.inl 215), .inl (2, []), .inl (0, [(0, 1)]), .inl (0, [(1, 1)])], [(1099511627779, 0, 0), (176, 0, 4), (177, 0, 4)], 2, [(([sy_full, sy_full, sy_full], 0, [], []), some (.inl (0, [(2, 1)])))])
theorem hb_M277_2_ok : sy_Met hb_cl hb_lt hb_P hb_A (0, 0) hb_M277_2 := sy_fix hb_L277_ok 2 (by decide)
def hb_M277_3 : sy_Co := (277, ([sy_full, sy_full], 0, [], []), [.inr (.inl 215), .inl (3, []), .inl (0, [(0, 1)]), .inl (0, [(1, 1)])], [(1099511627779, 0, 0), (176, 0, 4), (177, 0, 4)], 2, [(([sy_full, sy_full, sy_full], 0, [], []), some (.inl (0, [(2, 1)])))])
theorem hb_M277_3_ok : sy_Met hb_cl hb_lt hb_P hb_A (0, 0) hb_M277_3 := sy_fix hb_L277_ok 3 (by decide)

end
