noncomputable section
/-! ship keeps the word of the speeds -/
theorem sy_f0 {ρ : Nat → Int} {τ : Nat → Int64} {w : px_W} {k c i : Nat} (h : sy_get w k c = some (.int (Int32.ofInt (ρ i)))) : 0 ≤ sy_e ρ ((c : Int), []) ∧ sy_get w k (sy_e ρ ((c : Int), [])).toNat = some (sy_v ρ τ (.inl (0, [(i, 1)]))) := by
  have e1 : sy_e ρ ((c : Int), []) = (c : Int) := sy_c_e ρ c
  have e2 : sy_e ρ (0, [(i, 1)]) = ρ i := sy_x_e ρ i
  rw [e1, sy_v_i, e2, show ((c : Int)).toNat = c by omega]
  exact ⟨by omega, h⟩
theorem hb_J2n {w w' : px_W} (n : Nat) (hn : n < 6) (j2 : sy_jp 2 w) (ha : sy_get w 152 6 = some (.int (Int32.ofInt (n : Int)))) (h6 : sy_get w' 152 6 = some (.int (Int32.ofInt ((n : Int) + 1)))) (hs : ∀ s : Nat, s < 6 → s ≠ n → sy_get w' 152 (250 + 6 * s) = sy_get w 152 (250 + 6 * s)) (hz : sy_ji (sy_get w' 152 (250 + 6 * n)) (1, 40)) : sy_jp 2 w' := by
  intro s hs6 m hm hlt
  rw [h6] at hm
  have hm2 : m = Int32.ofInt ((n : Int) + 1) := by
    have h3 := Option.some.inj hm
    injection h3 with h3
    exact h3.symm
  have hmi : m.toInt = (n : Int) + 1 := by rw [hm2]; exact Int32.toInt_ofInt_of_le (by omega) (by omega)
  rw [hmi] at hlt
  by_cases he : s = n
  · subst he
    exact hz
  · rw [hs s hs6 he]
    exact j2 s hs6 _ ha (by rw [Int32.toInt_ofInt_of_le (by omega) (by omega)]; omega)
theorem sy_jp_s {w w' : px_W} (j2 : sy_jp 2 w) (h6 : sy_get w' 152 6 = sy_get w 152 6) (hs : ∀ s : Nat, s < 6 → sy_get w' 152 (250 + 6 * s) = sy_get w 152 (250 + 6 * s)) : sy_jp 2 w' := by
  intro s h n h1 h2
  rw [h6] at h1
  rw [hs s h]
  exact j2 s h n h1 h2
set_option maxRecDepth 100000 in
theorem hb_L227_ok : sy_Met hb_cl hb_lt hb_P hb_A (0, 0) hb_L227 := by
  intro M hM ρ τ w d h1 _ _ h4 hJ h5
  have j2 : sy_jp 2 w := hJ 2 (by decide +kernel)
  have g : ∀ k, k < 1580 → sy_get w 152 k = some (.int (Int32.ofInt (sy_at0 w 152 k))) := fun k hk => (sy_at0_ok h4 hb_A152 hk).1
  have b6 := (sy_at0_ok h4 hb_A152 (show 6 < 1580 by omega)).2
  rw [show sy_seg sy_D 6 = (0, 6) by decide +kernel] at b6
  obtain ⟨n, v, w', hx, k1, k2, p, hp, ρ', τ', r1, r2, r3, r4, hv⟩ := hb_G227_ok M hM (sy_lst [ρ 0, ρ 1, ρ 2, ρ 3, sy_at0 w 152 6, sy_at0 w 152 250, sy_at0 w 152 256, sy_at0 w 152 262, sy_at0 w 152 268, sy_at0 w 152 274, sy_at0 w 152 280]) τ w d
    (sy_lst_ok (fun i hi => by
      match i, hi with
      | 0, _ => exact h1 0 sy_full rfl
      | 1, _ => exact h1 1 sy_full rfl
      | 2, _ => exact h1 2 sy_full rfl
      | 3, _ => exact h1 3 sy_full rfl
      | 4, _ => exact b6
      | 5, _ => exact sy_at0_b _ _ _
      | 6, _ => exact sy_at0_b _ _ _
      | 7, _ => exact sy_at0_b _ _ _
      | 8, _ => exact sy_at0_b _ _ _
      | 9, _ => exact sy_at0_b _ _ _
      | 10, _ => exact sy_at0_b _ _ _))
    (fun c hc => absurd hc List.not_mem_nil)
    (fun f hf => by
      simp only [hb_G227, List.mem_cons, List.not_mem_nil, or_false] at hf
      rcases hf with rfl | rfl | rfl | rfl | rfl | rfl | rfl
      · exact sy_f0 (k := 152) (c := 6) (i := 4) (g 6 (by omega))
      · exact sy_f0 (k := 152) (c := 250) (i := 5) (g 250 (by omega))
      · exact sy_f0 (k := 152) (c := 256) (i := 6) (g 256 (by omega))
      · exact sy_f0 (k := 152) (c := 262) (i := 7) (g 262 (by omega))
      · exact sy_f0 (k := 152) (c := 268) (i := 8) (g 268 (by omega))
      · exact sy_f0 (k := 152) (c := 274) (i := 9) (g 274 (by omega))
      · exact sy_f0 (k := 152) (c := 280) (i := 10) (g 280 (by omega)))
    h4 (by intro j hj; rw [show sy_js hb_G227.2.2.2.1 = [] by decide +kernel] at hj; cases hj) h5
  have gf : ∀ (c : Nat) (e : sy_L), (152, ((c : Int), []), .inl e) ∈ p.1.2.2.2 → sy_get w' 152 c = some (.int (Int32.ofInt (sy_e ρ' e))) := by
    intro c e h
    have h2 := (r4 _ h).2
    have e1 : sy_e ρ' ((c : Int), []) = (c : Int) := sy_c_e ρ' c
    simp only [sy_v_i, e1] at h2
    rw [show ((c : Int)).toNat = c by omega] at h2
    exact h2
  have ex : ∀ i : Nat, sy_e ρ' (0, [(i, 1)]) = ρ' i := fun i => sy_x_e ρ' i
  have same : ∀ (c i : Nat), c < 1580 → ρ' i = sy_at0 w 152 c → (152, ((c : Int), []), .inl (0, [(i, 1)])) ∈ p.1.2.2.2 → sy_get w' 152 c = sy_get w 152 c := by
    intro c i hc hi h
    rw [gf c _ h, ex, hi, ← g c hc]
  have q4 : ρ' 4 = sy_at0 w 152 6 := r1 4 (by decide)
  have q5 : ρ' 5 = sy_at0 w 152 250 := r1 5 (by decide)
  have q6 : ρ' 6 = sy_at0 w 152 256 := r1 6 (by decide)
  have q7 : ρ' 7 = sy_at0 w 152 262 := r1 7 (by decide)
  have q8 : ρ' 8 = sy_at0 w 152 268 := r1 8 (by decide)
  have q9 : ρ' 9 = sy_at0 w 152 274 := r1 9 (by decide)
  have q10 : ρ' 10 = sy_at0 w 152 280 := r1 10 (by decide)
  have hJ2 : sy_jp 2 w' := by
    simp only [hb_G227, List.mem_cons, List.not_mem_nil, or_false] at hp
    rcases hp with rfl | rfl | rfl | rfl | rfl | rfl | rfl
    · refine sy_jp_s j2 (same 6 4 (by omega) q4 (by simp)) (fun s hs => ?_)
      match s, hs with
      | 0, _ => exact same 250 5 (by omega) q5 (by simp)
      | 1, _ => exact same 256 6 (by omega) q6 (by simp)
      | 2, _ => exact same 262 7 (by omega) q7 (by simp)
      | 3, _ => exact same 268 8 (by omega) q8 (by simp)
      | 4, _ => exact same 274 9 (by omega) q9 (by simp)
      | 5, _ => exact same 280 10 (by omega) q10 (by simp)
    · have hn : ρ' 4 = 0 := by
        have := r2 4 (0, 0) rfl
        dsimp only at this
        omega
      have ha : sy_get w 152 6 = some (.int (Int32.ofInt ((0 : Nat) : Int))) := by
        rw [g 6 (by omega), ← q4, hn]
        rfl
      have h6 : sy_get w' 152 6 = some (.int (Int32.ofInt (((0 : Nat) : Int) + 1))) := by
        rw [gf 6 (1, []) (by simp), show sy_e ρ' (1, []) = 1 from sy_c_e ρ' 1]
        rfl
      have hz := r2 12 (1, 40) rfl
      dsimp only at hz
      refine hb_J2n 0 (by omega) j2 ha h6 (fun s hs hne => ?_) ⟨_, gf 250 (0, [(12, 1)]) (by simp), ?_⟩
      · match s, hs, hne with
        | 0, _, h => exact absurd rfl h
        | 1, _, _ => exact same 256 6 (by omega) q6 (by simp)
        | 2, _, _ => exact same 262 7 (by omega) q7 (by simp)
        | 3, _, _ => exact same 268 8 (by omega) q8 (by simp)
        | 4, _, _ => exact same 274 9 (by omega) q9 (by simp)
        | 5, _, _ => exact same 280 10 (by omega) q10 (by simp)
      · unfold sy_in
        rw [ex, Int32.toInt_ofInt_of_le (by omega) (by omega)]
        exact hz
    · have hn : ρ' 4 = 1 := by
        have := r2 4 (1, 1) rfl
        dsimp only at this
        omega
      have ha : sy_get w 152 6 = some (.int (Int32.ofInt ((1 : Nat) : Int))) := by
        rw [g 6 (by omega), ← q4, hn]
        rfl
      have h6 : sy_get w' 152 6 = some (.int (Int32.ofInt (((1 : Nat) : Int) + 1))) := by
        rw [gf 6 (2, []) (by simp), show sy_e ρ' (2, []) = 2 from sy_c_e ρ' 2]
        rfl
      have hz := r2 12 (1, 40) rfl
      dsimp only at hz
      refine hb_J2n 1 (by omega) j2 ha h6 (fun s hs hne => ?_) ⟨_, gf 256 (0, [(12, 1)]) (by simp), ?_⟩
      · match s, hs, hne with
        | 0, _, _ => exact same 250 5 (by omega) q5 (by simp)
        | 1, _, h => exact absurd rfl h
        | 2, _, _ => exact same 262 7 (by omega) q7 (by simp)
        | 3, _, _ => exact same 268 8 (by omega) q8 (by simp)
        | 4, _, _ => exact same 274 9 (by omega) q9 (by simp)
        | 5, _, _ => exact same 280 10 (by omega) q10 (by simp)
      · unfold sy_in
        rw [ex, Int32.toInt_ofInt_of_le (by omega) (by omega)]
        exact hz
    · have hn : ρ' 4 = 2 := by
        have := r2 4 (2, 2) rfl
        dsimp only at this
        omega
      have ha : sy_get w 152 6 = some (.int (Int32.ofInt ((2 : Nat) : Int))) := by
        rw [g 6 (by omega), ← q4, hn]
        rfl
      have h6 : sy_get w' 152 6 = some (.int (Int32.ofInt (((2 : Nat) : Int) + 1))) := by
        rw [gf 6 (3, []) (by simp), show sy_e ρ' (3, []) = 3 from sy_c_e ρ' 3]
        rfl
      have hz := r2 12 (1, 40) rfl
      dsimp only at hz
      refine hb_J2n 2 (by omega) j2 ha h6 (fun s hs hne => ?_) ⟨_, gf 262 (0, [(12, 1)]) (by simp), ?_⟩
      · match s, hs, hne with
        | 0, _, _ => exact same 250 5 (by omega) q5 (by simp)
        | 1, _, _ => exact same 256 6 (by omega) q6 (by simp)
        | 2, _, h => exact absurd rfl h
        | 3, _, _ => exact same 268 8 (by omega) q8 (by simp)
        | 4, _, _ => exact same 274 9 (by omega) q9 (by simp)
        | 5, _, _ => exact same 280 10 (by omega) q10 (by simp)
      · unfold sy_in
        rw [ex, Int32.toInt_ofInt_of_le (by omega) (by omega)]
        exact hz
    · have hn : ρ' 4 = 3 := by
        have := r2 4 (3, 3) rfl
        dsimp only at this
        omega
      have ha : sy_get w 152 6 = some (.int (Int32.ofInt ((3 : Nat) : Int))) := by
        rw [g 6 (by omega), ← q4, hn]
        rfl
      have h6 : sy_get w' 152 6 = some (.int (Int32.ofInt (((3 : Nat) : Int) + 1))) := by
        rw [gf 6 (4, []) (by simp), show sy_e ρ' (4, []) = 4 from sy_c_e ρ' 4]
        rfl
      have hz := r2 12 (1, 40) rfl
      dsimp only at hz
      refine hb_J2n 3 (by omega) j2 ha h6 (fun s hs hne => ?_) ⟨_, gf 268 (0, [(12, 1)]) (by simp), ?_⟩
      · match s, hs, hne with
        | 0, _, _ => exact same 250 5 (by omega) q5 (by simp)
        | 1, _, _ => exact same 256 6 (by omega) q6 (by simp)
        | 2, _, _ => exact same 262 7 (by omega) q7 (by simp)
        | 3, _, h => exact absurd rfl h
        | 4, _, _ => exact same 274 9 (by omega) q9 (by simp)
        | 5, _, _ => exact same 280 10 (by omega) q10 (by simp)
      · unfold sy_in
        rw [ex, Int32.toInt_ofInt_of_le (by omega) (by omega)]
        exact hz
    · have hn : ρ' 4 = 4 := by
        have := r2 4 (4, 4) rfl
        dsimp only at this
        omega
      have ha : sy_get w 152 6 = some (.int (Int32.ofInt ((4 : Nat) : Int))) := by
        rw [g 6 (by omega), ← q4, hn]
        rfl
      have h6 : sy_get w' 152 6 = some (.int (Int32.ofInt (((4 : Nat) : Int) + 1))) := by
        rw [gf 6 (5, []) (by simp), show sy_e ρ' (5, []) = 5 from sy_c_e ρ' 5]
        rfl
      have hz := r2 12 (1, 40) rfl
      dsimp only at hz
      refine hb_J2n 4 (by omega) j2 ha h6 (fun s hs hne => ?_) ⟨_, gf 274 (0, [(12, 1)]) (by simp), ?_⟩
      · match s, hs, hne with
        | 0, _, _ => exact same 250 5 (by omega) q5 (by simp)
        | 1, _, _ => exact same 256 6 (by omega) q6 (by simp)
        | 2, _, _ => exact same 262 7 (by omega) q7 (by simp)
        | 3, _, _ => exact same 268 8 (by omega) q8 (by simp)
        | 4, _, h => exact absurd rfl h
        | 5, _, _ => exact same 280 10 (by omega) q10 (by simp)
      · unfold sy_in
        rw [ex, Int32.toInt_ofInt_of_le (by omega) (by omega)]
        exact hz
    · have hn : ρ' 4 = 5 := by
        have := r2 4 (5, 5) rfl
        dsimp only at this
        omega
      have ha : sy_get w 152 6 = some (.int (Int32.ofInt ((5 : Nat) : Int))) := by
        rw [g 6 (by omega), ← q4, hn]
        rfl
      have h6 : sy_get w' 152 6 = some (.int (Int32.ofInt (((5 : Nat) : Int) + 1))) := by
        rw [gf 6 (6, []) (by simp), show sy_e ρ' (6, []) = 6 from sy_c_e ρ' 6]
        rfl
      have hz := r2 12 (1, 40) rfl
      dsimp only at hz
      refine hb_J2n 5 (by omega) j2 ha h6 (fun s hs hne => ?_) ⟨_, gf 280 (0, [(12, 1)]) (by simp), ?_⟩
      · match s, hs, hne with
        | 0, _, _ => exact same 250 5 (by omega) q5 (by simp)
        | 1, _, _ => exact same 256 6 (by omega) q6 (by simp)
        | 2, _, _ => exact same 262 7 (by omega) q7 (by simp)
        | 3, _, _ => exact same 268 8 (by omega) q8 (by simp)
        | 4, _, _ => exact same 274 9 (by omega) q9 (by simp)
        | 5, _, h => exact absurd rfl h
      · unfold sy_in
        rw [ex, Int32.toInt_ofInt_of_le (by omega) (by omega)]
        exact hz
  have hvv : ∃ z : Int32, v = some (.int z) := by
    simp only [hb_G227, List.mem_cons, List.not_mem_nil, or_false] at hp
    rcases hp with rfl | rfl | rfl | rfl | rfl | rfl | rfl <;> exact ⟨_, hv⟩
  obtain ⟨z, hz⟩ := hvv
  refine ⟨n, v, w', ?_, k1, ⟨fun k i h => k2.1 k i (sy_may_cons h), fun j hj => ?_⟩, _, List.mem_cons_self, fun i => if i < 4 then ρ i else z.toInt, τ, fun i hi => if_pos hi, fun i q hq => ?_, fun c hc => absurd hc List.not_mem_nil, fun f hf => absurd hf List.not_mem_nil, ?_⟩
  · rw [← hx]
    rfl
  · rw [show sy_js hb_L227.2.2.2.1 = [2] by decide +kernel] at hj
    rw [List.mem_singleton.mp hj]
    exact hJ2
  · show q.1 ≤ (if i < 4 then ρ i else z.toInt) ∧ (if i < 4 then ρ i else z.toInt) ≤ q.2
    by_cases hi : i < 4
    · rw [if_pos hi]
      refine h1 i q ?_
      match i, hi with
      | 0, _ => exact hq
      | 1, _ => exact hq
      | 2, _ => exact hq
      | 3, _ => exact hq
    · rw [if_neg hi]
      have h9 := (List.getElem?_eq_some_iff.mp hq).1
      have h10 : i = 4 := by
        have : i < 5 := h9
        omega
      subst h10
      cases hq
      exact sy_int_bounds z
  · rw [hz]
    show _ = some (Value.int (Int32.ofInt (sy_e (fun i => if i < 4 then ρ i else z.toInt) (0, [(4, 1)]))))
    rw [show sy_e (fun i => if i < 4 then ρ i else z.toInt) (0, [(4, 1)]) = z.toInt from sy_x_e _ 4, Int32.ofInt_toInt]

end
