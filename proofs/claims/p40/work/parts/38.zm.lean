noncomputable section
/-! RULES: the reference joins conditions -/
section ER8
variable {N : Nat} {t : Nat → Int} {H : Bool} {M : Nat → Int} {C V : Nat → Int}
theorem er_and1 : ∀ a b : Bool, ec_and (if a = true then 1 else 0) (if b = true then 1 else 0) = (if and a b = true then 1 else 0) := by decide +kernel
theorem ew_lpE {one : Nat → er_R} {o : Int} (hN : N ≤ 200) (hb : ∀ i, i < N → 0 ≤ t i ∧ t i ≤ 255) (hC : ∀ j, C j = er_co t N (er_p t N j)) (ho1 : er_EC t N H M 255 one o) (hov : ∀ j, er_ov C j (one j).1) : ∀ (f n j : Nat) (s : List Int) (b : Bool) (w w1 : px_W) (v : Option Value), 200 ≤ f + j → er_Z w t N H M j → ec_fd w 151 31 = o → ec_E hb_X n 256 5 [(0, .inr (.inl 215)), (1, .inl (if b = true then 1 else 0))] [] w (v, w1) → ∃ z : Int, v = ec_R z ∧ er_Q t N H M w w1 z (er_lp C one 321 4 and f j s b) := by
  have cw : er_cc 7 = 321 := rfl
  have t0 : ec_tw 0 = 0 := rfl
  -- it goes no further
  have stop : ∀ (n j : Nat) (s : List Int) (b : Bool) (w w1 : px_W) (v : Option Value), ¬ C j = 321 → er_Z w t N H M j → ec_E hb_X n 256 5 [(0, .inr (.inl 215)), (1, .inl (if b = true then 1 else 0))] [] w (v, w1) → ∃ z : Int, v = ec_R z ∧ er_Q t N H M w w1 z (j, some (s, b)) := by
    intro n j s b w w1 v hne hZ h
    obtain ⟨_, u, w2, a1, a2⟩ := eg256_151_5_0 h
    obtain ⟨i1, W1, e1⟩ := ew_isw1 (k := 7) hb (by decide) hZ a1
    rw [← i1] at a2 W1
    rw [cw, ← hC j, if_neg hne] at e1
    obtain ⟨_, hr, hW⟩ := eg256_151_13_0 (a2 _ e1 W1) rfl
    injection hr with e3 e4
    rw [e4]
    exact ⟨_, e3, hW, er_fr_r, rfl, hZ, rfl⟩
  intro f
  induction f with
  | zero =>
    intro n j s b w w1 v hf hZ ho h
    refine stop n j s b w w1 v (fun e => ?_) hZ h
    have := (er_C_lt hN hb (j := j) (by rw [← hC j, e]; decide)).2
    omega
  | succ f ih =>
    intro n j s b w w1 v hf hZ ho h
    have elp : er_lp C one 321 4 and (f + 1) j s b = if C j = 321 then (match one (j + 1) with
      | (a, none) => (a, none)
      | (a, some q) => er_lp C one 321 4 and f a (s ++ q.1 ++ [4]) (and b q.2)) else (j, some (s, b)) := rfl
    rw [elp]
    by_cases q : C j = 321
    · rw [if_pos q]
      obtain ⟨_, u, w2, a1, a2⟩ := eg256_151_5_0 h
      obtain ⟨i1, W1, e1⟩ := ew_isw1 (k := 7) hb (by decide) hZ a1
      rw [← i1] at a2 W1
      rw [cw, ← hC j, if_pos q] at e1
      obtain ⟨_, u3, w3, a3, a4⟩ := eg256_151_13_1 (a2 _ e1 W1) (by decide)
      obtain ⟨e3, W3, fr3, Z3, f313⟩ := ew_nxt hN hb hZ (by rw [← hC j, q]; decide) a3
      obtain ⟨_, u4, w4, a5, a6⟩ := eg256_151_20_0 (a4 e3 W3)
      obtain ⟨z4, e4, W4, fr4, f314, m4⟩ := ho1 n (j + 1) w3 w4 u4 Z3 (f313.trans ho) a5
      have h5 := (eg256_151_24_0 (a6 _ e4 W4)).2
      have ov := hov (j + 1)
      cases e : one (j + 1) with
      | mk a r =>
        rw [e] at m4 ov
        cases r with
        | none =>
          have h30 : ec_fd w4 151 30 = (er_p t N a : Int) := m4
          obtain ⟨_, u5, w5, a7, a8⟩ := eg256_151_5_0 h5
          obtain ⟨i5, W5, e5⟩ := ew_isf (by rw [h30]; omega) a7
          rw [← i5] at a8 W5
          obtain ⟨_, hr, hW⟩ := eg256_151_13_0 (a8 _ e5 W5) rfl
          injection hr with e6 e7
          rw [e7]
          exact ⟨_, e6, hW, er_fr_t fr3 fr4, f314.trans f313, h30⟩
        | some r =>
          obtain ⟨Z4, ez⟩ : er_Z w4 t N H M a ∧ z4 = (if r.2 = true then 1 else 0) := m4
          rw [ez, er_and1] at h5
          have ge : j + 1 ≤ a := ov.1
          obtain ⟨z, hv, hW, hfr, h31, hm⟩ := ih n a (s ++ r.1 ++ [4]) (and b r.2) w4 w1 v (by omega) Z4 (f314.trans (f313.trans ho)) h5
          exact ⟨z, hv, hW, er_fr_t (er_fr_t fr3 fr4) hfr, h31.trans (f314.trans f313), hm⟩
    · rw [if_neg q]
      exact stop n j s b w w1 v q hZ h
theorem er_or1 : ∀ a b : Bool, ec_or (if a = true then 1 else 0) (if b = true then 1 else 0) = (if or a b = true then 1 else 0) := by decide +kernel
theorem ew_lpC {one : Nat → er_R} {o : Int} (hN : N ≤ 200) (hb : ∀ i, i < N → 0 ≤ t i ∧ t i ≤ 255) (hC : ∀ j, C j = er_co t N (er_p t N j)) (ho1 : er_EC t N H M 256 one o) (hov : ∀ j, er_ov C j (one j).1) : ∀ (f n j : Nat) (s : List Int) (b : Bool) (w w1 : px_W) (v : Option Value), 200 ≤ f + j → er_Z w t N H M j → ec_fd w 151 31 = o → ec_E hb_X n 257 5 [(0, .inr (.inl 215)), (1, .inl (if b = true then 1 else 0))] [] w (v, w1) → ∃ z : Int, v = ec_R z ∧ er_Q t N H M w w1 z (er_lp C one 320 5 or f j s b) := by
  have cw : er_cc 6 = 320 := rfl
  have t0 : ec_tw 0 = 0 := rfl
  -- it goes no further
  have stop : ∀ (n j : Nat) (s : List Int) (b : Bool) (w w1 : px_W) (v : Option Value), ¬ C j = 320 → er_Z w t N H M j → ec_E hb_X n 257 5 [(0, .inr (.inl 215)), (1, .inl (if b = true then 1 else 0))] [] w (v, w1) → ∃ z : Int, v = ec_R z ∧ er_Q t N H M w w1 z (j, some (s, b)) := by
    intro n j s b w w1 v hne hZ h
    obtain ⟨_, u, w2, a1, a2⟩ := eg257_151_5_0 h
    obtain ⟨i1, W1, e1⟩ := ew_isw1 (k := 6) hb (by decide) hZ a1
    rw [← i1] at a2 W1
    rw [cw, ← hC j, if_neg hne] at e1
    obtain ⟨_, hr, hW⟩ := eg257_151_13_0 (a2 _ e1 W1) rfl
    injection hr with e3 e4
    rw [e4]
    exact ⟨_, e3, hW, er_fr_r, rfl, hZ, rfl⟩
  intro f
  induction f with
  | zero =>
    intro n j s b w w1 v hf hZ ho h
    refine stop n j s b w w1 v (fun e => ?_) hZ h
    have := (er_C_lt hN hb (j := j) (by rw [← hC j, e]; decide)).2
    omega
  | succ f ih =>
    intro n j s b w w1 v hf hZ ho h
    have elp : er_lp C one 320 5 or (f + 1) j s b = if C j = 320 then (match one (j + 1) with
      | (a, none) => (a, none)
      | (a, some q) => er_lp C one 320 5 or f a (s ++ q.1 ++ [5]) (or b q.2)) else (j, some (s, b)) := rfl
    rw [elp]
    by_cases q : C j = 320
    · rw [if_pos q]
      obtain ⟨_, u, w2, a1, a2⟩ := eg257_151_5_0 h
      obtain ⟨i1, W1, e1⟩ := ew_isw1 (k := 6) hb (by decide) hZ a1
      rw [← i1] at a2 W1
      rw [cw, ← hC j, if_pos q] at e1
      obtain ⟨_, u3, w3, a3, a4⟩ := eg257_151_13_1 (a2 _ e1 W1) (by decide)
      obtain ⟨e3, W3, fr3, Z3, f313⟩ := ew_nxt hN hb hZ (by rw [← hC j, q]; decide) a3
      obtain ⟨_, u4, w4, a5, a6⟩ := eg257_151_20_0 (a4 e3 W3)
      obtain ⟨z4, e4, W4, fr4, f314, m4⟩ := ho1 n (j + 1) w3 w4 u4 Z3 (f313.trans ho) a5
      have h5 := (eg257_151_24_0 (a6 _ e4 W4)).2
      have ov := hov (j + 1)
      cases e : one (j + 1) with
      | mk a r =>
        rw [e] at m4 ov
        cases r with
        | none =>
          have h30 : ec_fd w4 151 30 = (er_p t N a : Int) := m4
          obtain ⟨_, u5, w5, a7, a8⟩ := eg257_151_5_0 h5
          obtain ⟨i5, W5, e5⟩ := ew_isf (by rw [h30]; omega) a7
          rw [← i5] at a8 W5
          obtain ⟨_, hr, hW⟩ := eg257_151_13_0 (a8 _ e5 W5) rfl
          injection hr with e6 e7
          rw [e7]
          exact ⟨_, e6, hW, er_fr_t fr3 fr4, f314.trans f313, h30⟩
        | some r =>
          obtain ⟨Z4, ez⟩ : er_Z w4 t N H M a ∧ z4 = (if r.2 = true then 1 else 0) := m4
          rw [ez, er_or1] at h5
          have ge : j + 1 ≤ a := ov.1
          obtain ⟨z, hv, hW, hfr, h31, hm⟩ := ih n a (s ++ r.1 ++ [5]) (or b r.2) w4 w1 v (by omega) Z4 (f314.trans (f313.trans ho)) h5
          exact ⟨z, hv, hW, er_fr_t (er_fr_t fr3 fr4) hfr, h31.trans (f314.trans f313), hm⟩
    · rw [if_neg q]
      exact stop n j s b w w1 v q hZ h
theorem ew_evy {g : Option (Nat → er_R)} {o : Int} (hN : N ≤ 200) (hb : ∀ i, i < N → 0 ≤ t i ∧ t i ≤ 255) (hC : ∀ j, C j = er_co t N (er_p t N j)) (ho1 : er_EC t N H M 255 (er_on C V H M g) o) (hov : ∀ j, er_ov C j (er_on C V H M g j).1) : er_EC t N H M 256 (er_al C V H M g) o := by
  intro n j w w1 v hZ ho h
  obtain ⟨_, u, w2, a1, a2⟩ := eg256_151_0_0 h
  obtain ⟨z2, e2, W2, fr2, f312, m2⟩ := ho1 n j w w2 u hZ ho a1
  have h5 := (eg256_151_4_0 (a2 _ e2 W2)).2
  have edef : er_al C V H M g j = (match er_on C V H M g j with
    | (a, none) => (a, none)
    | (a, some q) => er_lp C (er_on C V H M g) 321 4 and 200 a q.1 q.2) := rfl
  rw [edef]
  cases e : er_on C V H M g j with
  | mk a r =>
    rw [e] at m2
    cases r with
    | none =>
      have h30 : ec_fd w2 151 30 = (er_p t N a : Int) := m2
      obtain ⟨_, u5, w5, a7, a8⟩ := eg256_151_5_0 h5
      obtain ⟨i5, W5, e5⟩ := ew_isf (by rw [h30]; omega) a7
      rw [← i5] at a8 W5
      obtain ⟨_, hr, hW⟩ := eg256_151_13_0 (a8 _ e5 W5) rfl
      injection hr with e6 e7
      rw [e7]
      exact ⟨_, e6, hW, fr2, f312, h30⟩
    | some r =>
      obtain ⟨Z2, ez⟩ : er_Z w2 t N H M a ∧ z2 = (if r.2 = true then 1 else 0) := m2
      rw [ez] at h5
      obtain ⟨z, hv, hW, hfr, h31, hm⟩ := ew_lpE hN hb hC ho1 hov 200 n a r.1 r.2 w2 w1 v (by omega) Z2 (f312.trans ho) h5
      exact ⟨z, hv, hW, er_fr_t fr2 hfr, h31.trans f312, hm⟩
theorem ew_cnd {g : Option (Nat → er_R)} {o : Int} (hN : N ≤ 200) (hb : ∀ i, i < N → 0 ≤ t i ∧ t i ≤ 255) (hC : ∀ j, C j = er_co t N (er_p t N j)) (ho1 : er_EC t N H M 256 (er_al C V H M g) o) (hov : ∀ j, er_ov C j (er_al C V H M g j).1) : er_EC t N H M 257 (er_co2 C V H M g) o := by
  intro n j w w1 v hZ ho h
  obtain ⟨_, u, w2, a1, a2⟩ := eg257_151_0_0 h
  obtain ⟨z2, e2, W2, fr2, f312, m2⟩ := ho1 n j w w2 u hZ ho a1
  have h5 := (eg257_151_4_0 (a2 _ e2 W2)).2
  have edef : er_co2 C V H M g j = (match er_al C V H M g j with
    | (a, none) => (a, none)
    | (a, some q) => er_lp C (er_al C V H M g) 320 5 or 200 a q.1 q.2) := rfl
  rw [edef]
  cases e : er_al C V H M g j with
  | mk a r =>
    rw [e] at m2
    cases r with
    | none =>
      have h30 : ec_fd w2 151 30 = (er_p t N a : Int) := m2
      obtain ⟨_, u5, w5, a7, a8⟩ := eg257_151_5_0 h5
      obtain ⟨i5, W5, e5⟩ := ew_isf (by rw [h30]; omega) a7
      rw [← i5] at a8 W5
      obtain ⟨_, hr, hW⟩ := eg257_151_13_0 (a8 _ e5 W5) rfl
      injection hr with e6 e7
      rw [e7]
      exact ⟨_, e6, hW, fr2, f312, h30⟩
    | some r =>
      obtain ⟨Z2, ez⟩ : er_Z w2 t N H M a ∧ z2 = (if r.2 = true then 1 else 0) := m2
      rw [ez] at h5
      obtain ⟨z, hv, hW, hfr, h31, hm⟩ := ew_lpC hN hb hC ho1 hov 200 n a r.1 r.2 w2 w1 v (by omega) Z2 (f312.trans ho) h5
      exact ⟨z, hv, hW, er_fr_t fr2 hfr, h31.trans f312, hm⟩
/-- a condition when 4 - l are open -/
theorem ew_cdl (hN : N ≤ 200) (hb : ∀ i, i < N → 0 ≤ t i ∧ t i ≤ 255) (hC : ∀ j, C j = er_co t N (er_p t N j)) (hV : ∀ j, V j = er_va t N (er_p t N j)) : ∀ l : Nat, l ≤ 4 → er_EC t N H M 257 (er_cd C V H M l) (4 - (l : Int))
  | 0, _ => by
    have hg : ∀ f : Nat → er_R, (none : Option (Nat → er_R)) = some f → ∀ j, er_ov C j (f j).1 := fun f hf => by cases hf
    exact ew_cnd hN hb hC (ew_evy hN hb hC (ew_sgl hN hb hC hV (.inl ⟨rfl, rfl⟩)) (er_on_ov hg)) (er_al_ov hg)
  | l + 1, h => by
    have ih := ew_cdl hN hb hC hV l (by omega)
    have hg : ∀ f : Nat → er_R, some (er_cd C V H M l) = some f → ∀ j, er_ov C j (f j).1 := fun f hf => by
      injection hf with hf
      rw [← hf]
      exact fun j => er_cd_ov l j
    have eo : (4 - ((l + 1 : Nat) : Int)) + 1 = 4 - (l : Int) := by omega
    exact ew_cnd hN hb hC (ew_evy hN hb hC (ew_sgl hN hb hC hV (.inr ⟨_, rfl, by omega, by omega, by rw [eo]; exact ih⟩)) (er_on_ov hg)) (er_al_ov hg)
/-- behind a FAULT a condition is read without an effect -/
theorem ew_cdF {n : Nat} {w w1 : px_W} {v : Option Value} (hf : 0 ≤ ec_fd w 151 30) (h : ec_E hb_X n 257 0 [(0, .inr (.inl 215))] [] w (v, w1)) : ∃ z : Int, v = ec_R z ∧ ec_W hb_A w1 ∧ er_fr w w1 ∧ ec_fd w1 151 30 = ec_fd w 151 30 ∧ ec_fd w1 151 31 = ec_fd w 151 31 := by
  have t0 : ec_tw 0 = 0 := rfl
  have sgl : ∀ (n : Nat) (w w1 : px_W) (v : Option Value), 0 ≤ ec_fd w 151 30 → ec_E hb_X n 255 0 [(0, .inr (.inl 215))] [] w (v, w1) → ∃ z : Int, v = ec_R z ∧ ec_W hb_A w1 ∧ er_fr w w1 ∧ ec_fd w1 151 30 = ec_fd w 151 30 ∧ ec_fd w1 151 31 = ec_fd w 151 31 := by
    intro n w w1 v hf h
    obtain ⟨_, u, w2, a1, a2⟩ := eg255_151_2_0 (eg255_151_0_0 h).2
    obtain ⟨i2, W2, e2⟩ := ew_isf hf a1
    rw [← i2] at a2 W2
    have l := eg255_151_30_0 (eg255_151_10_0 (a2 _ e2 W2) rfl).2
    rw [ec_tw_fd, t0] at l
    obtain ⟨_, u3, w3, a3, a4⟩ := eg255_151_125_0 (l hf).2
    obtain ⟨i3, W3, e3⟩ := ew_isf hf a3
    rw [← i3] at a4 W3
    obtain ⟨_, u4, w4, a5, a6⟩ := eg255_151_133_0 (a4 _ e3 W3) rfl
    obtain ⟨i4, W4, e4⟩ := ew_isf hf a5
    rw [← i4] at a6 W4
    obtain ⟨_, u5, w5, a7, a8⟩ := eg255_151_156_0 (a6 _ e4 W4) rfl
    obtain ⟨e5, W5, fr5, f30, f31⟩ := ew_wrf hf a7
    obtain ⟨e6, W6, e7⟩ := ew_288 (a8 e5 W5)
    rw [e6]
    exact ⟨_, e7, W6, fr5, f30, f31⟩
  have evy : ∀ (n : Nat) (w w1 : px_W) (v : Option Value), 0 ≤ ec_fd w 151 30 → ec_E hb_X n 256 0 [(0, .inr (.inl 215))] [] w (v, w1) → ∃ z : Int, v = ec_R z ∧ ec_W hb_A w1 ∧ er_fr w w1 ∧ ec_fd w1 151 30 = ec_fd w 151 30 ∧ ec_fd w1 151 31 = ec_fd w 151 31 := by
    intro n w w1 v hf h
    obtain ⟨_, u, w2, a1, a2⟩ := eg256_151_0_0 h
    obtain ⟨z2, e2, W2, fr2, f30, f31⟩ := sgl n w w2 u hf a1
    obtain ⟨_, u3, w3, a3, a4⟩ := eg256_151_5_0 (eg256_151_4_0 (a2 _ e2 W2)).2
    obtain ⟨i3, W3, e3⟩ := ew_isf (by rw [f30]; exact hf) a3
    rw [← i3] at a4 W3
    obtain ⟨_, hr, hW⟩ := eg256_151_13_0 (a4 _ e3 W3) rfl
    injection hr with e4 e5
    rw [e5]
    exact ⟨_, e4, hW, fr2, f30, f31⟩
  obtain ⟨_, u, w2, a1, a2⟩ := eg257_151_0_0 h
  obtain ⟨z2, e2, W2, fr2, f30, f31⟩ := evy n w w2 u hf a1
  obtain ⟨_, u3, w3, a3, a4⟩ := eg257_151_5_0 (eg257_151_4_0 (a2 _ e2 W2)).2
  obtain ⟨i3, W3, e3⟩ := ew_isf (by rw [f30]; exact hf) a3
  rw [← i3] at a4 W3
  obtain ⟨_, hr, hW⟩ := eg257_151_13_0 (a4 _ e3 W3) rfl
  injection hr with e4 e5
  rw [e5]
  exact ⟨_, e4, hW, fr2, f30, f31⟩
end ER8

end
