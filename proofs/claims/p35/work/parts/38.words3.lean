noncomputable section
/-! shelf keeps the word of the shelves -/
set_option maxRecDepth 100000 in
theorem hb_A176 : hb_A[176]? = some (.inl (4, [(0, 4, [(0, 6)])])) := rfl
set_option maxRecDepth 100000 in
theorem hb_A177 : hb_A[177]? = some (.inl (4, [(0, 4, [(0, 11)])])) := rfl
theorem sy_jp_3 {w w' : px_W} (j3 : sy_jp 3 w) (hh : ∀ h : Nat, h < 4 → (sy_get w' 176 h = sy_get w 176 h ∧ sy_get w' 177 h = sy_get w 177 h) ∨ (∃ z : Int, sy_get w' 176 h = some (.int (Int32.ofInt z)) ∧ 0 ≤ z ∧ z ≤ 5) ∨ sy_ji (sy_get w' 177 h) (0, 7)) : sy_jp 3 w' := by
  intro h hlt h6
  rcases hh h hlt with ⟨a, b⟩ | ⟨z, a, b, c⟩ | a
  · rw [a] at h6
    rw [b]
    exact j3 h hlt h6
  · rw [a] at h6
    have h3 : Int32.ofInt z = 6 := by
      have h4 := Option.some.inj h6
      injection h4
    have h5 : (Int32.ofInt z).toInt = z := Int32.toInt_ofInt_of_le (by omega) (by omega)
    rw [h3] at h5
    have : (6 : Int32).toInt = 6 := rfl
    omega
  · exact a
set_option maxRecDepth 100000 in
theorem hb_L277_ok : sy_Met hb_cl hb_lt hb_P hb_A (0, 0) hb_L277 := by
  intro M hM ρ τ w d h1 _ _ h4 hJ h5
  have j3 : sy_jp 3 w := hJ 3 (by decide +kernel)
  have g6 : ∀ k, k < 4 → sy_get w 176 k = some (.int (Int32.ofInt (sy_at0 w 176 k))) := fun k hk => (sy_at0_ok h4 hb_A176 hk).1
  have g7 : ∀ k, k < 4 → sy_get w 177 k = some (.int (Int32.ofInt (sy_at0 w 177 k))) := fun k hk => (sy_at0_ok h4 hb_A177 hk).1
  have b0 := (sy_at0_ok h4 hb_A176 (show 0 < 4 by omega)).2
  rw [show sy_seg [(0, 4, [(0, 6)])] 0 = (0, 6) by decide +kernel] at b0
  have c0 := (sy_at0_ok h4 hb_A177 (show 0 < 4 by omega)).2
  rw [show sy_seg [(0, 4, [(0, 11)])] 0 = (0, 11) by decide +kernel] at c0
  have b1 := (sy_at0_ok h4 hb_A176 (show 1 < 4 by omega)).2
  rw [show sy_seg [(0, 4, [(0, 6)])] 1 = (0, 6) by decide +kernel] at b1
  have c1 := (sy_at0_ok h4 hb_A177 (show 1 < 4 by omega)).2
  rw [show sy_seg [(0, 4, [(0, 11)])] 1 = (0, 11) by decide +kernel] at c1
  have b2 := (sy_at0_ok h4 hb_A176 (show 2 < 4 by omega)).2
  rw [show sy_seg [(0, 4, [(0, 6)])] 2 = (0, 6) by decide +kernel] at b2
  have c2 := (sy_at0_ok h4 hb_A177 (show 2 < 4 by omega)).2
  rw [show sy_seg [(0, 4, [(0, 11)])] 2 = (0, 11) by decide +kernel] at c2
  have b3 := (sy_at0_ok h4 hb_A176 (show 3 < 4 by omega)).2
  rw [show sy_seg [(0, 4, [(0, 6)])] 3 = (0, 6) by decide +kernel] at b3
  have c3 := (sy_at0_ok h4 hb_A177 (show 3 < 4 by omega)).2
  rw [show sy_seg [(0, 4, [(0, 11)])] 3 = (0, 11) by decide +kernel] at c3
  obtain ⟨n, v, w', hx, k1, k2, p, hp, ρ', τ', r1, r2, r3, r4, hv⟩ := hb_G277_ok M hM (sy_lst [ρ 0, ρ 1, ρ 2, sy_at0 w 176 0, sy_at0 w 176 1, sy_at0 w 176 2, sy_at0 w 176 3, sy_at0 w 177 0, sy_at0 w 177 1, sy_at0 w 177 2, sy_at0 w 177 3]) τ w d
    (sy_lst_ok (fun i hi => by
      match i, hi with
      | 0, _ => exact h1 0 sy_full rfl
      | 1, _ => exact h1 1 sy_full rfl
      | 2, _ => exact h1 2 sy_full rfl
      | 3, _ => exact b0
      | 4, _ => exact b1
      | 5, _ => exact b2
      | 6, _ => exact b3
      | 7, _ => exact c0
      | 8, _ => exact c1
      | 9, _ => exact c2
      | 10, _ => exact c3))
    (fun c hc => absurd hc List.not_mem_nil)
    (fun f hf => by
      simp only [hb_G277, List.mem_cons, List.not_mem_nil, or_false] at hf
      rcases hf with rfl | rfl | rfl | rfl | rfl | rfl | rfl | rfl
      · exact sy_f0 (k := 176) (c := 0) (i := 3) (g6 0 (by omega))
      · exact sy_f0 (k := 176) (c := 1) (i := 4) (g6 1 (by omega))
      · exact sy_f0 (k := 176) (c := 2) (i := 5) (g6 2 (by omega))
      · exact sy_f0 (k := 176) (c := 3) (i := 6) (g6 3 (by omega))
      · exact sy_f0 (k := 177) (c := 0) (i := 7) (g7 0 (by omega))
      · exact sy_f0 (k := 177) (c := 1) (i := 8) (g7 1 (by omega))
      · exact sy_f0 (k := 177) (c := 2) (i := 9) (g7 2 (by omega))
      · exact sy_f0 (k := 177) (c := 3) (i := 10) (g7 3 (by omega)))
    h4 (by intro j hj; rw [show sy_js hb_G277.2.2.2.1 = [] by decide +kernel] at hj; cases hj) h5
  have gf : ∀ (b c i : Nat), (b, ((c : Int), []), .inl (0, [(i, 1)])) ∈ p.1.2.2.2 → sy_get w' b c = some (.int (Int32.ofInt (ρ' i))) := by
    intro b c i h
    have h2 := (r4 _ h).2
    have e1 : sy_e ρ' ((c : Int), []) = (c : Int) := sy_c_e ρ' c
    have e2 : sy_e ρ' (0, [(i, 1)]) = ρ' i := sy_x_e ρ' i
    simp only [sy_v_i, e1, e2] at h2
    rw [show ((c : Int)).toNat = c by omega] at h2
    exact h2
  have q3 : ρ' 3 = sy_at0 w 176 0 := r1 3 (by decide)
  have q7 : ρ' 7 = sy_at0 w 177 0 := r1 7 (by decide)
  have q4 : ρ' 4 = sy_at0 w 176 1 := r1 4 (by decide)
  have q8 : ρ' 8 = sy_at0 w 177 1 := r1 8 (by decide)
  have q5 : ρ' 5 = sy_at0 w 176 2 := r1 5 (by decide)
  have q9 : ρ' 9 = sy_at0 w 177 2 := r1 9 (by decide)
  have q6 : ρ' 6 = sy_at0 w 176 3 := r1 6 (by decide)
  have q10 : ρ' 10 = sy_at0 w 177 3 := r1 10 (by decide)
  have hJ3 : sy_jp 3 w' := by
    simp only [hb_G277, List.mem_cons, List.not_mem_nil, or_false] at hp
    rcases hp with rfl | rfl | rfl | rfl | rfl | rfl | rfl | rfl | rfl
    · refine sy_jp_3 j3 (fun h hlt => ?_)
      match h, hlt with
      | 0, _ => exact .inl ⟨by rw [gf 176 0 3 (by simp), q3, ← g6 0 (by omega)], by rw [gf 177 0 7 (by simp), q7, ← g7 0 (by omega)]⟩
      | 1, _ => exact .inl ⟨by rw [gf 176 1 4 (by simp), q4, ← g6 1 (by omega)], by rw [gf 177 1 8 (by simp), q8, ← g7 1 (by omega)]⟩
      | 2, _ => exact .inl ⟨by rw [gf 176 2 5 (by simp), q5, ← g6 2 (by omega)], by rw [gf 177 2 9 (by simp), q9, ← g7 2 (by omega)]⟩
      | 3, _ => exact .inl ⟨by rw [gf 176 3 6 (by simp), q6, ← g6 3 (by omega)], by rw [gf 177 3 10 (by simp), q10, ← g7 3 (by omega)]⟩
    · have z1 := r2 12 (0, 5) rfl
      have z2 := r2 13 (0, 11) rfl
      dsimp only at z1 z2
      refine sy_jp_3 j3 (fun h hlt => ?_)
      match h, hlt with
      | 0, _ => exact .inr (.inl ⟨ρ' 12, gf 176 0 12 (by simp), z1.1, z1.2⟩)
      | 1, _ => exact .inl ⟨by rw [gf 176 1 4 (by simp), q4, ← g6 1 (by omega)], by rw [gf 177 1 8 (by simp), q8, ← g7 1 (by omega)]⟩
      | 2, _ => exact .inl ⟨by rw [gf 176 2 5 (by simp), q5, ← g6 2 (by omega)], by rw [gf 177 2 9 (by simp), q9, ← g7 2 (by omega)]⟩
      | 3, _ => exact .inl ⟨by rw [gf 176 3 6 (by simp), q6, ← g6 3 (by omega)], by rw [gf 177 3 10 (by simp), q10, ← g7 3 (by omega)]⟩
    · have z1 := r2 12 (6, 6) rfl
      have z2 := r2 13 (0, 7) rfl
      dsimp only at z1 z2
      refine sy_jp_3 j3 (fun h hlt => ?_)
      match h, hlt with
      | 0, _ => exact .inr (.inr ⟨_, gf 177 0 13 (by simp), by unfold sy_in; rw [Int32.toInt_ofInt_of_le (by omega) (by omega)]; exact z2⟩)
      | 1, _ => exact .inl ⟨by rw [gf 176 1 4 (by simp), q4, ← g6 1 (by omega)], by rw [gf 177 1 8 (by simp), q8, ← g7 1 (by omega)]⟩
      | 2, _ => exact .inl ⟨by rw [gf 176 2 5 (by simp), q5, ← g6 2 (by omega)], by rw [gf 177 2 9 (by simp), q9, ← g7 2 (by omega)]⟩
      | 3, _ => exact .inl ⟨by rw [gf 176 3 6 (by simp), q6, ← g6 3 (by omega)], by rw [gf 177 3 10 (by simp), q10, ← g7 3 (by omega)]⟩
    · have z1 := r2 12 (0, 5) rfl
      have z2 := r2 13 (0, 11) rfl
      dsimp only at z1 z2
      refine sy_jp_3 j3 (fun h hlt => ?_)
      match h, hlt with
      | 0, _ => exact .inl ⟨by rw [gf 176 0 3 (by simp), q3, ← g6 0 (by omega)], by rw [gf 177 0 7 (by simp), q7, ← g7 0 (by omega)]⟩
      | 1, _ => exact .inr (.inl ⟨ρ' 12, gf 176 1 12 (by simp), z1.1, z1.2⟩)
      | 2, _ => exact .inl ⟨by rw [gf 176 2 5 (by simp), q5, ← g6 2 (by omega)], by rw [gf 177 2 9 (by simp), q9, ← g7 2 (by omega)]⟩
      | 3, _ => exact .inl ⟨by rw [gf 176 3 6 (by simp), q6, ← g6 3 (by omega)], by rw [gf 177 3 10 (by simp), q10, ← g7 3 (by omega)]⟩
    · have z1 := r2 12 (6, 6) rfl
      have z2 := r2 13 (0, 7) rfl
      dsimp only at z1 z2
      refine sy_jp_3 j3 (fun h hlt => ?_)
      match h, hlt with
      | 0, _ => exact .inl ⟨by rw [gf 176 0 3 (by simp), q3, ← g6 0 (by omega)], by rw [gf 177 0 7 (by simp), q7, ← g7 0 (by omega)]⟩
      | 1, _ => exact .inr (.inr ⟨_, gf 177 1 13 (by simp), by unfold sy_in; rw [Int32.toInt_ofInt_of_le (by omega) (by omega)]; exact z2⟩)
      | 2, _ => exact .inl ⟨by rw [gf 176 2 5 (by simp), q5, ← g6 2 (by omega)], by rw [gf 177 2 9 (by simp), q9, ← g7 2 (by omega)]⟩
      | 3, _ => exact .inl ⟨by rw [gf 176 3 6 (by simp), q6, ← g6 3 (by omega)], by rw [gf 177 3 10 (by simp), q10, ← g7 3 (by omega)]⟩
    · have z1 := r2 12 (0, 5) rfl
      have z2 := r2 13 (0, 11) rfl
      dsimp only at z1 z2
      refine sy_jp_3 j3 (fun h hlt => ?_)
      match h, hlt with
      | 0, _ => exact .inl ⟨by rw [gf 176 0 3 (by simp), q3, ← g6 0 (by omega)], by rw [gf 177 0 7 (by simp), q7, ← g7 0 (by omega)]⟩
      | 1, _ => exact .inl ⟨by rw [gf 176 1 4 (by simp), q4, ← g6 1 (by omega)], by rw [gf 177 1 8 (by simp), q8, ← g7 1 (by omega)]⟩
      | 2, _ => exact .inr (.inl ⟨ρ' 12, gf 176 2 12 (by simp), z1.1, z1.2⟩)
      | 3, _ => exact .inl ⟨by rw [gf 176 3 6 (by simp), q6, ← g6 3 (by omega)], by rw [gf 177 3 10 (by simp), q10, ← g7 3 (by omega)]⟩
    · have z1 := r2 12 (6, 6) rfl
      have z2 := r2 13 (0, 7) rfl
      dsimp only at z1 z2
      refine sy_jp_3 j3 (fun h hlt => ?_)
      match h, hlt with
      | 0, _ => exact .inl ⟨by rw [gf 176 0 3 (by simp), q3, ← g6 0 (by omega)], by rw [gf 177 0 7 (by simp), q7, ← g7 0 (by omega)]⟩
      | 1, _ => exact .inl ⟨by rw [gf 176 1 4 (by simp), q4, ← g6 1 (by omega)], by rw [gf 177 1 8 (by simp), q8, ← g7 1 (by omega)]⟩
      | 2, _ => exact .inr (.inr ⟨_, gf 177 2 13 (by simp), by unfold sy_in; rw [Int32.toInt_ofInt_of_le (by omega) (by omega)]; exact z2⟩)
      | 3, _ => exact .inl ⟨by rw [gf 176 3 6 (by simp), q6, ← g6 3 (by omega)], by rw [gf 177 3 10 (by simp), q10, ← g7 3 (by omega)]⟩
    · have z1 := r2 12 (0, 5) rfl
      have z2 := r2 13 (0, 11) rfl
      dsimp only at z1 z2
      refine sy_jp_3 j3 (fun h hlt => ?_)
      match h, hlt with
      | 0, _ => exact .inl ⟨by rw [gf 176 0 3 (by simp), q3, ← g6 0 (by omega)], by rw [gf 177 0 7 (by simp), q7, ← g7 0 (by omega)]⟩
      | 1, _ => exact .inl ⟨by rw [gf 176 1 4 (by simp), q4, ← g6 1 (by omega)], by rw [gf 177 1 8 (by simp), q8, ← g7 1 (by omega)]⟩
      | 2, _ => exact .inl ⟨by rw [gf 176 2 5 (by simp), q5, ← g6 2 (by omega)], by rw [gf 177 2 9 (by simp), q9, ← g7 2 (by omega)]⟩
      | 3, _ => exact .inr (.inl ⟨ρ' 12, gf 176 3 12 (by simp), z1.1, z1.2⟩)
    · have z1 := r2 12 (6, 6) rfl
      have z2 := r2 13 (0, 7) rfl
      dsimp only at z1 z2
      refine sy_jp_3 j3 (fun h hlt => ?_)
      match h, hlt with
      | 0, _ => exact .inl ⟨by rw [gf 176 0 3 (by simp), q3, ← g6 0 (by omega)], by rw [gf 177 0 7 (by simp), q7, ← g7 0 (by omega)]⟩
      | 1, _ => exact .inl ⟨by rw [gf 176 1 4 (by simp), q4, ← g6 1 (by omega)], by rw [gf 177 1 8 (by simp), q8, ← g7 1 (by omega)]⟩
      | 2, _ => exact .inl ⟨by rw [gf 176 2 5 (by simp), q5, ← g6 2 (by omega)], by rw [gf 177 2 9 (by simp), q9, ← g7 2 (by omega)]⟩
      | 3, _ => exact .inr (.inr ⟨_, gf 177 3 13 (by simp), by unfold sy_in; rw [Int32.toInt_ofInt_of_le (by omega) (by omega)]; exact z2⟩)
  have hvv : ∃ z : Int32, v = some (.int z) := by
    simp only [hb_G277, List.mem_cons, List.not_mem_nil, or_false] at hp
    rcases hp with rfl | rfl | rfl | rfl | rfl | rfl | rfl | rfl | rfl <;> exact ⟨_, hv⟩
  obtain ⟨z, hz⟩ := hvv
  refine ⟨n, v, w', ?_, k1, ⟨fun k i h => k2.1 k i (sy_may_cons h), fun j hj => ?_⟩, _, List.mem_cons_self, fun i => if i < 3 then ρ i else z.toInt, τ, fun i hi => if_pos hi, fun i q hq => ?_, fun c hc => absurd hc List.not_mem_nil, fun f hf => absurd hf List.not_mem_nil, ?_⟩
  · rw [← hx]
    rfl
  · rw [show sy_js hb_L277.2.2.2.1 = [3] by decide +kernel] at hj
    rw [List.mem_singleton.mp hj]
    exact hJ3
  · show q.1 ≤ (if i < 3 then ρ i else z.toInt) ∧ (if i < 3 then ρ i else z.toInt) ≤ q.2
    by_cases hi : i < 3
    · rw [if_pos hi]
      refine h1 i q ?_
      match i, hi with
      | 0, _ => exact hq
      | 1, _ => exact hq
      | 2, _ => exact hq
    · rw [if_neg hi]
      have h9 := (List.getElem?_eq_some_iff.mp hq).1
      have h10 : i = 3 := by
        have : i < 4 := h9
        omega
      subst h10
      cases hq
      exact sy_int_bounds z
  · rw [hz]
    show _ = some (Value.int (Int32.ofInt (sy_e (fun i => if i < 3 then ρ i else z.toInt) (0, [(3, 1)]))))
    rw [show sy_e (fun i => if i < 3 then ρ i else z.toInt) (0, [(3, 1)]) = z.toInt from sy_x_e _ 3, Int32.ofInt_toInt]

end
