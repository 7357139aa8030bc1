noncomputable section
/-! MOST, at the law's head; the first of the sums of seats is 0 for good -/
def eq_RR (w : px_W) : Prop := ef_RC w ∧ ef_a w 134 0 = 0
def eq_dc : List (Nat × Nat × Nat) := (134, 0, 1) :: ef_dc
theorem eq_dc_st {w w' : px_W} (hW : ec_W hb_A w) (hW' : ec_W hb_A w') (h : ∀ p ∈ eq_dc, ∀ i, p.2.1 ≤ i → i < p.2.2 → sy_get w' p.1 i = sy_get w p.1 i) (hR : eq_RR w) : eq_RR w' := by
  have h1 : sy_get w' 134 0 = sy_get w 134 0 := h (134, 0, 1) List.mem_cons_self 0 (Nat.le_refl _) Nat.one_pos
  exact ⟨ef_dc_st hW hW' (fun p hp => h p (List.mem_cons_of_mem _ hp)) hR.1, (ef_get_a (k := 134) hW hW' rfl h1).trans hR.2⟩
theorem eq_134 {Wr : sy_Wr} {w w1 : px_W} (hd : hb_dj Wr [(134, 0, 1)] = true) (hW : ec_W hb_A w) (hW1 : ec_W hb_A w1) (f : ∀ k i : Nat, sy_may Wr k i = false → sy_get w1 k i = sy_get w k i) (h : ef_a w 134 0 = 0) : ef_a w1 134 0 = 0 := by
  have h1 : sy_get w1 134 0 = sy_get w 134 0 := f 134 0 (hb_dj_ok (p := (134, 0, 1)) hd List.mem_cons_self (i := 0) (Nat.le_refl _) Nat.one_pos)
  exact (ef_get_a (k := 134) hW hW1 rfl h1).trans h
theorem eq_frC {Wr : sy_Wr} {w w1 : px_W} (hd : hb_dj Wr ef_dc = true) (hW : ec_W hb_A w) (hW1 : ec_W hb_A w1) (f : ∀ k i : Nat, sy_may Wr k i = false → sy_get w1 k i = sy_get w k i) (hR : ef_RC w) : ef_RC w1 := ef_dc_st hW hW1 (fun p hp i h1 h2 => f p.1 i (hb_dj_ok hd hp h1 h2)) hR
theorem hb_FX {n j : Nat} {as : List ec_V} {w : px_W} {r : Option Value × px_W} (h : ec_F hb_X n j as w r) : ec_E hb_X n j 0 (ec_args 0 as) [] w r := ec_FE h
theorem ef_ss_0 {Se : Nat → Int} : ∀ k, ef_ss Se k 0 = 0
  | 0 => rfl
  | k + 1 => by
    show ef_ss Se k 0 + (if Nat.testBit 0 k then Se k else 0) = 0
    rw [ef_ss_0 k, Nat.zero_testBit]
    rfl
theorem ew_withinF {n : Nat} {w w1 : px_W} {v : Option Value} {x0 x1 x2 : Int} (h : ec_E hb_X n 173 0 [(0, .inl x0), (1, .inl x1), (2, .inl x2)] [] w (v, w1)) : w = w1 ∧ ec_W hb_A w1 ∧ ∃ z : Int, v = ec_R z := by
  obtain ⟨e, W⟩ := ew_within h
  injection e with e1 e2
  rw [e2]
  exact ⟨rfl, W, _, e1⟩
theorem ew_load134 {n : Nat} {w w1 : px_W} {v : Option Value} (hR : eq_RR w) (h : ec_E hb_X n 98 0 [(0, .inr (.inl 190)), (1, .inr (.inl 79))] [] w (v, w1)) : v = none ∧ ec_W hb_A w1 ∧ ef_a w1 134 0 = 0 ∧ ∃ gn bn : Nat, gn ≤ 10 ∧ bn ≤ 8 ∧ ec_fd w1 126 5 = (gn : Int) ∧ ec_fd w1 126 6 = (bn : Int) := by
  obtain ⟨c, gn, bn, A, B, Pl, Bp, Mi, Ti, To, ⟨hD, hDA, hDB⟩, ⟨hG, hGA, hGB⟩, ⟨hbn, hbA, hbB⟩, hb, hg⟩ := ef_data hR.1
  obtain ⟨w1', e1, W1, s1, ⟨f5, f6⟩, _, _, _, r134, _⟩ := ew_load hD hDA hG hGA hbn hbA (fun b hb' => ⟨(hb b hb').1.1, (hb b hb').1.2.1⟩) (fun b hb' => ⟨by have := (hb b hb').2.2.2.2.1; omega, (hb b hb').2.2.2.2.2⟩) hR.2 h
  injection e1 with e1 i1
  rw [i1]
  exact ⟨e1, W1, by rw [r134 0 (Nat.two_pow_pos bn), ef_ss_0], gn, bn, hG.1, hbn, f5, f6⟩
theorem ew_most2 {xs : List Int32} {n : Nat} {w wA wB : px_W} {vA vB : Option Value} (hR : eq_RR w) (hA : ec_F (hb_XL xs) n 135 [.inr (.inl 64)] w (vA, wA)) (hB : ec_F (hb_XL xs) n 218 [.inr (.inl 215)] wA (vB, wB)) : vA = vB ∧ eq_RR wB := by
  obtain ⟨c, gn, bn, A, B, Pl, Bp, Mi, Ti, To, ⟨hD, hDA, hDB⟩, ⟨hG, hGA, hGB⟩, ⟨hbn, hbA, hbB⟩, hb, hg⟩ := ef_data hR.1
  have g10 := hG.1
  have hS : ∀ b, b < bn → 0 ≤ ef_a w 24 b ∧ ef_a w 24 b ≤ 65 := fun b hb' => ⟨by have := (hb b hb').2.2.2.2.1; omega, (hb b hb').2.2.2.2.2⟩
  have hP : ∀ g, g < gn → 0 ≤ ef_a w 20 g ∧ ef_a w 20 g ≤ 50 := fun g hg' => ⟨by have := (hg g hg').2.2.1; omega, (hg g hg').2.2.2⟩
  obtain ⟨_, v1, w1, a1, a2⟩ := eg135_0_0_0 (hb_FE hA)
  obtain ⟨w1', e1, W1, s1, ⟨f5, f6⟩, _, ⟨r130, r131, r132⟩, _, r134, r128⟩ := ew_load hD hDA hG hGA hbn hbA (fun b hb' => ⟨(hb b hb').1.1, (hb b hb').1.2.1⟩) hS hR.2 a1
  injection e1 with e1 i1
  subst i1
  have hMS : ew_MS gn bn (fun g => eq_M (ef_er (ef_rf A B Mi Ti c Pl To) (ef_a w 27) (ef_a w 21) Bp g) (ef_a w 26) bn) (ef_a w 20) (ef_a w 24) w1 := ⟨⟨g10, hbn⟩, f5, f6, fun g hg' => ⟨by rw [r128 g hg', ef_cb_M hbn], eq_M_lt⟩, fun g hg' => ⟨by rw [r130], hP g hg'⟩, r134, hS⟩
  obtain ⟨_, v2, w2, a3, a4⟩ := eg135_0_11_0 (a2 e1 W1)
  obtain ⟨w2', e2, W2, s2, _⟩ := ew_mostA hMS a3
  injection e2 with e2 i2
  subst i2
  obtain ⟨_, hr, hW⟩ := eg135_0_18_0 (a4 _ e2 W2)
  injection hr with hr1 hr2
  have hr2 := hr2.symm
  subst hr2
  have d1 : ef_a w2 152 = ef_a w 152 := (ef_s_a s2 (by decide)).trans (ef_s_a s1 (by decide))
  obtain ⟨_, u1, y1, m1, m2⟩ := eg218_151_0_0 (hb_FE hB)
  obtain ⟨y1', e3, W3, s3, f3⟩ := ew_layB (bn := bn) hbn (by rw [d1]; exact hbB) m1
  injection e3 with e3 i3
  subst i3
  obtain ⟨_, u2, y2, m3, m4⟩ := eg218_151_4_0 (m2 e3 W3)
  have d2 : ef_a y1 152 = ef_a w 152 := (ef_s_a s3 (by decide)).trans d1
  obtain ⟨y2', e4, W4, s4, f4, f4'⟩ := ew_findCan (bn := bn) (Bp := Bp) (Lo := ef_a w 26) hD (by unfold ef_DB; rw [d2]; exact hDB) hG (by unfold ef_GB; rw [d2]; exact hGB) hbn (by rw [d2]; exact hbB) (fun b hb' => by rw [d2]; exact ⟨(hb b hb').1.2.2, (hb b hb').1.2.1⟩) (fun b hb' => ⟨by rw [f3 b hb', d1]; exact (hb b hb').2.1.1.symm, Int.le_trans (hb b hb').2.1.2.2 (by decide)⟩) (fun g hg' => by rw [d2, ← (hg g hg').1.1]; exact (hg g hg').1.2.2) m3
  injection e4 with e4 i4
  subst i4
  have d3 : ef_a y2 152 = ef_a w 152 := (ef_s_a s4 (by decide)).trans d2
  have hMO : ew_MO gn bn (fun g => eq_M (ef_er (ef_rf A B Mi Ti c Pl To) (ef_a w 27) (ef_a w 21) Bp g) (ef_a w 26) bn) (ef_a w 20) (ef_a w 24) y2 := by
    refine ⟨⟨g10, hbn⟩, by rw [d3]; exact hGB.1, by rw [d3]; exact hbB, fun g hg' => ⟨?_, eq_M_lt⟩, fun g hg' => ⟨?_, hP g hg'⟩, fun b hb' => ⟨?_, hS b hb'⟩⟩
    · rw [(f4 g hg').1, d2, ← ef_cb_M hbn]
      symm
      refine ef_cb_cg bn 0 0 (fun j _ hj => ?_)
      have hj' := hb j (by omega)
      have hg'' := hg g hg'
      unfold ef_er
      rw [hj'.2.2.1.1, hg''.1.1]
    · rw [(f4 g hg').2, d2]
      exact (hg g hg').2.1.symm
    · rw [f4' b hb', d2]
      exact (hb b hb').2.2.2.1.symm
  obtain ⟨_, u3, y3, m5, m6⟩ := eg218_151_8_0 (m4 e4 W4)
  obtain ⟨e5, W5⟩ := ew_mostB hMO m5
  injection e5 with e5 i5
  have i5 := i5.symm
  subst i5
  obtain ⟨_, hr', hW'⟩ := eg218_151_12_0 (m6 _ e5 W5)
  injection hr' with hr3 hr4
  have hr4 := hr4.symm
  subst hr4
  refine ⟨?_, ef_RC_s s4 (by decide) (ef_RC_s s3 (by decide) (ef_RC_s s2 (by decide) (ef_RC_s s1 (by decide) hR.1))), ?_⟩
  · rw [hr1, hr3, eq_same hbn g10 hS hP (fun g _ => eq_M_lt)]
  · rw [ef_s_a s4 (by decide), ef_s_a s3 (by decide), ef_s_a s2 (by decide), r134 0 (Nat.two_pow_pos bn), ef_ss_0]
/-! can, seat, judge: load is all that writes there -/
theorem ew_can134 {xs : List Int32} {n : Nat} {w wA : px_W} {vA : Option Value} {x1 : Int} (hR : eq_RR w) (hA : ec_F (hb_XL xs) n 134 [.inr (.inl 64), .inl x1] w (vA, wA)) : ef_a wA 134 0 = 0 := by
  obtain ⟨_, v1, w1, a1, a2⟩ := eg134_0_0_0 (hb_FE hA)
  obtain ⟨i1, W1, z1, e1⟩ := ew_withinF a1
  subst i1
  have a3 := a2 z1 e1 W1
  by_cases c1 : ec_tw z1 = ec_tw 0
  · obtain ⟨_, hr, _⟩ := eg134_0_14_1 a3 c1
    injection hr with _ hr2
    rw [hr2]
    exact hR.2
  · obtain ⟨_, v2, w2, a4, a5⟩ := eg134_0_14_0 a3 c1
    obtain ⟨e2, W2, q2, _⟩ := ew_load134 hR a4
    obtain ⟨_, hr, _⟩ := eg134_0_30_0 (a5 e2 W2)
    injection hr with _ hr2
    rw [hr2]
    exact q2
def hb_cpG (C : sy_Co) : Bool := C.2.1.2.2.1.isEmpty && (C.2.1.2.2.2.isEmpty && (sy_jc C.2.2.2.1 hb_LW && C.2.1.1.isEmpty))
theorem hb_useG {C : sy_Co} (hC : sy_Met hb_cl hb_lt hb_P hb_A (0, 0) C) (hcp : hb_cpG C = true) {n : Nat} {as : List ec_V} {w w1 : px_W} {v : Option Value} (h : ec_F hb_X n C.1 as w (v, w1)) (hargs : C.2.2.1.map (sy_v (fun _ => 0) (fun _ => 0)) = as.map ec_v) (hI : hb_I0 w) : ec_W hb_A w1 ∧ hb_I0 w1 ∧ (∃ p ∈ C.2.2.2.2.2, ∃ (ρ' : Nat → Int) (τ' : Nat → Int64), v = p.2.map (sy_v ρ' τ')) ∧ ∀ k i : Nat, sy_may C.2.2.2.1 k i = false → sy_get w1 k i = sy_get w k i := by
  unfold hb_cpG at hcp
  simp only [Bool.and_eq_true] at hcp
  obtain ⟨c1, c2, c3, c4⟩ := hcp
  have hK := ec_use (X := hb_X) hC h (fun _ => 0) (fun _ => 0) hargs (fun i p hp => by
    rw [List.isEmpty_iff.mp c4] at hp
    simp at hp) (fun e he => by rw [List.isEmpty_iff.mp c1] at he; exact absurd he List.not_mem_nil) (fun f hf => by rw [List.isEmpty_iff.mp c2] at hf; exact absurd hf List.not_mem_nil) hI.1 (sy_jc_pre c3 hI.2)
  obtain ⟨k1, k2, p, hp, ρ', τ', _, _, _, _, k3⟩ := hK
  exact ⟨ec_W_of k1, ⟨k1, sy_jc_ok c3 hI.2 k2⟩, ⟨p, hp, ρ', τ', k3⟩, k2.1⟩
theorem ew_seat134 {xs : List Int32} {n : Nat} {w wA : px_W} {vA : Option Value} (hI : hb_I0 w) (hR : eq_RR w) (hA : ec_F (hb_XL xs) n 136 [.inr (.inl 64)] w (vA, wA)) : ef_a wA 134 0 = 0 := by
  obtain ⟨_, v1, w1, a1, a2⟩ := ex136_0_0_0 (hb_FE hA)
  obtain ⟨_, I1, _, _⟩ := hb_useG (C := hb_K98_82) hb_K98_82_ok (by decide +kernel) a1 rfl hI
  obtain ⟨e1, W1, q1, _⟩ := ew_load134 hR (hb_FX a1)
  obtain ⟨_, v2, w2, a3, a4⟩ := ex136_0_11_0 (a2 e1 W1)
  obtain ⟨W2, _, ⟨p, hp, ρ', τ', e2⟩, f2⟩ := hb_useG (C := hb_K101_108) hb_K101_108_ok (by decide +kernel) a3 rfl I1
  have hp2 := List.mem_singleton.mp hp
  rw [hp2] at e2
  obtain ⟨_, hr, _⟩ := ex136_0_18_0 (a4 (sy_e ρ' (0, [(0, 1)])) e2 W2)
  injection hr with _ hr2
  rw [hr2]
  exact eq_134 (by decide +kernel) W1 W2 f2 q1
theorem ew_judge134 {xs : List Int32} {n : Nat} {w wA : px_W} {vA : Option Value} (hI : hb_I0 w) (hR : eq_RR w) (hA : ec_F (hb_XL xs) n 139 [.inr (.inl 64)] w (vA, wA)) : ef_a wA 134 0 = 0 := by
  obtain ⟨_, v1, w1, a1, a2⟩ := ex139_0_0_0 (hb_FE hA)
  obtain ⟨_, I1, _, _⟩ := hb_useG (C := hb_K98_82) hb_K98_82_ok (by decide +kernel) a1 rfl hI
  obtain ⟨e1, W1, q1, _⟩ := ew_load134 hR (hb_FX a1)
  obtain ⟨_, v2, w2, a3, a4⟩ := ex139_0_11_0 (a2 e1 W1)
  obtain ⟨W2, _, ⟨p, hp, ρ', τ', e2⟩, f2⟩ := hb_useG (C := hb_K104_112) hb_K104_112_ok (by decide +kernel) a3 rfl I1
  have hp2 := List.mem_singleton.mp hp
  rw [hp2] at e2
  obtain ⟨_, hr, _⟩ := ex139_0_18_0 (a4 (sy_e ρ' (0, [(0, 1)])) e2 W2)
  injection hr with _ hr2
  rw [hr2]
  exact eq_134 (by decide +kernel) W1 W2 f2 q1
/-! how many bits, as it is computed -/
def eq_bc (x : Int) : Int := ec_and (((ec_and (((ec_and (x - (ec_and (ec_ush x 1) 1431655765)) 858993459) + (ec_and (ec_ush (x - (ec_and (ec_ush x 1) 1431655765)) 2) 858993459)) + (ec_ush ((ec_and (x - (ec_and (ec_ush x 1) 1431655765)) 858993459) + (ec_and (ec_ush (x - (ec_and (ec_ush x 1) 1431655765)) 2) 858993459)) 4)) 252645135) + (ec_ush (ec_and (((ec_and (x - (ec_and (ec_ush x 1) 1431655765)) 858993459) + (ec_and (ec_ush (x - (ec_and (ec_ush x 1) 1431655765)) 2) 858993459)) + (ec_ush ((ec_and (x - (ec_and (ec_ush x 1) 1431655765)) 858993459) + (ec_and (ec_ush (x - (ec_and (ec_ush x 1) 1431655765)) 2) 858993459)) 4)) 252645135) 8)) + (ec_ush ((ec_and (((ec_and (x - (ec_and (ec_ush x 1) 1431655765)) 858993459) + (ec_and (ec_ush (x - (ec_and (ec_ush x 1) 1431655765)) 2) 858993459)) + (ec_ush ((ec_and (x - (ec_and (ec_ush x 1) 1431655765)) 858993459) + (ec_and (ec_ush (x - (ec_and (ec_ush x 1) 1431655765)) 2) 858993459)) 4)) 252645135) + (ec_ush (ec_and (((ec_and (x - (ec_and (ec_ush x 1) 1431655765)) 858993459) + (ec_and (ec_ush (x - (ec_and (ec_ush x 1) 1431655765)) 2) 858993459)) + (ec_ush ((ec_and (x - (ec_and (ec_ush x 1) 1431655765)) 858993459) + (ec_and (ec_ush (x - (ec_and (ec_ush x 1) 1431655765)) 2) 858993459)) 4)) 252645135) 8)) 16)) 63
theorem ew_bc {n : Nat} {w w1 : px_W} {v : Option Value} {x0 : Int} (h : ec_E hb_X n 294 0 [(0, .inl x0)] [] w (v, w1)) : w = w1 ∧ ec_W hb_A w1 ∧ v = ec_R (eq_bc x0) := by
  obtain ⟨_, e, W⟩ := eg294_0_0 h
  injection e with e1 e2
  rw [e2]
  exact ⟨rfl, W, e1⟩
/-! order: its search writes elsewhere -/
section EW6
variable {gn bn : Nat}
theorem ew_msF36 (hgn : gn ≤ 10) : ∀ (k n g : Nat) (x1 x2 x3 : Int) (w : px_W) (r : Option Value × px_W), ec_fd w 126 5 = (gn : Int) → g + k = gn → ec_E hb_X n 100 36 [(0, .inr (.inl 190)), (1, .inl x1), (2, .inl x2), (3, .inl x3), (4, .inl (g : Int))] [] w r → ∃ y1 y3 : Int, ec_E hb_X n 100 16 [(0, .inr (.inl 190)), (1, .inl y1), (2, .inl (x2 + 1))] [] (ec_wr w 135 (ec_tw x2) y3) r := by
  intro k
  induction k with
  | zero =>
    intro n g x1 x2 x3 w r h5 hgk h
    have hg : g = gn := by omega
    subst hg
    have k0 := eg100_126_36_0 h
    rw [h5] at k0
    exact ⟨_, _, (k0 (Int.le_refl _)).2⟩
  | succ k ih =>
    intro n g x1 x2 x3 w r h5 hgk h
    have eg : ec_tw (g : Int) = g := ec_twn (by omega)
    have tg : ec_tw (gn : Int) = gn := ec_twn (by omega)
    have hl : ec_tw (g : Int) < ec_tw (ec_fd w 126 5) := by
      rw [h5, eg, tg]
      omega
    by_cases q : ec_tw (ec_and (ec_rd w 128 (ec_tw (g : Int))) (ec_xor x2 (-1))) = ec_tw 0
    · exact ih n (g + 1) _ _ _ w r h5 (by omega) (eg100_126_36_1 h hl q).2
    · exact ih n (g + 1) _ _ _ w r h5 (by omega) (eg100_126_36_2 h hl q).2
theorem ew_msF (hgn : gn ≤ 10) (hbn : bn ≤ 8) : ∀ (k n x : Nat) (x1 : Int) (w : px_W) (r : Option Value × px_W), ec_fd w 126 5 = (gn : Int) → ec_fd w 126 6 = (bn : Int) → x + k = 2 ^ bn → ec_E hb_X n 100 16 [(0, .inr (.inl 190)), (1, .inl x1), (2, .inl (x : Int))] [] w r → ∃ (z : Int) (w' : px_W), r = (ec_R z, w') ∧ ec_W hb_A w' ∧ ef_s [135] w w' := by
  intro k
  induction k with
  | zero =>
    intro n x x1 w r h5 h6 hxk h
    have hx : x = 2 ^ bn := by omega
    subst hx
    have k0 := eg100_126_16_0 h
    rw [h6, ec_shl1 bn (by omega)] at k0
    obtain ⟨_, hr, hW⟩ := k0 (Int.le_refl _)
    exact ⟨_, w, hr, hW, ef_s_refl⟩
  | succ k ih =>
    intro n x x1 w r h5 h6 hxk h
    have hp := eq_pw hbn
    have k1 := eg100_126_16_1 h
    rw [h6, ec_shl1 bn (by omega), ec_twn (n := x) (by omega), ec_twn (n := 2 ^ bn) (by omega)] at k1
    obtain ⟨y1, y3, h3⟩ := ew_msF36 hgn gn n 0 _ _ _ w r h5 (by omega) (k1 (by omega)).2
    obtain ⟨z, w', hr, hW, s⟩ := ih n (x + 1) y1 _ r ((ec_fd_wr_o (by decide)).trans h5) ((ec_fd_wr_o (by decide)).trans h6) (by omega) h3
    exact ⟨z, w', hr, hW, ef_s_trans (ef_s_wr List.mem_cons_self) s⟩
theorem ew_lbF {x0 : Int} : ∀ (k n i : Nat) (w w1 : px_W) (v : Option Value), i + k = 31 → ec_E hb_X n 175 2 [(0, .inl x0), (1, .inl (i : Int))] [] w (v, w1) → w = w1 ∧ ec_W hb_A w1 ∧ ∃ z : Int, v = ec_R z := by
  intro k
  induction k with
  | zero =>
    intro n i w w1 v hik h
    have hi : i = 31 := by omega
    subst hi
    obtain ⟨_, hr, hW⟩ := eg175_2_0 h (Int.le_refl _)
    injection hr with e1 e2
    rw [e2]
    exact ⟨rfl, hW, _, e1⟩
  | succ k ih =>
    intro n i w w1 v hik h
    have hl : ec_tw (i : Int) < ec_tw 31 := by
      rw [ec_twn (n := i) (by omega)]
      have : ec_tw 31 = 31 := rfl
      omega
    by_cases q : ec_tw (ec_and (ec_shr x0 (i : Int)) 1) = ec_tw 0
    · exact ih n (i + 1) w w1 v (by omega) (eg175_2_2 h hl q).2
    · obtain ⟨_, hr, hW⟩ := eg175_2_1 h hl q
      injection hr with e1 e2
      rw [e2]
      exact ⟨rfl, hW, _, e1⟩
def eq_S6 : List Nat := [126, 128, 129, 132, 135, 136]
/-- ahead of the choice -/
theorem ew_pnP {n : Nat} {x1 x2 : Int} {w : px_W} {r : Option Value × px_W} (hgn : gn ≤ 10) (hbn : bn ≤ 8) (h5 : ec_fd w 126 5 = (gn : Int)) (h6 : ec_fd w 126 6 = (bn : Int)) (h : ec_E hb_X n 107 0 [(0, .inr (.inl 190)), (1, .inl x1), (2, .inl x2)] [] w r) : ∃ (z : Int) (w' : px_W), ec_W hb_A w' ∧ ef_s [128, 135] w w' ∧ ec_E hb_X n 107 8 [(0, .inr (.inl 190)), (1, .inl x1), (2, .inl x2)] [.inl z] w' r := by
  obtain ⟨_, v1, w1, a1, a2⟩ := eg107_126_0_0 h
  obtain ⟨w1', e1, W1, s1, _⟩ := ew_fb2 hgn hbn gn n 0 w _ (by omega) h5 h6 (eg99_126_0_0 a1).2
  injection e1 with e1 i1
  subst i1
  obtain ⟨_, v2, w2, a3, a4⟩ := eg107_126_4_0 (a2 e1 W1)
  obtain ⟨z, w2', e2, W2, s2⟩ := ew_msF hgn hbn (2 ^ bn) n 0 _ w1 _ ((ef_s_f s1 (by decide) 5).trans h5) ((ef_s_f s1 (by decide) 6).trans h6) (by omega) (eg100_126_0_0 a3).2
  injection e2 with e2 i2
  subst i2
  exact ⟨z, w2, W2, ef_s_trans (ef_s_mono s1 (by decide)) (ef_s_mono s2 (by decide)), a4 z e2 W2⟩
theorem ew_pnF (hgn : gn ≤ 10) (hbn : bn ≤ 8) : ∀ (k n d : Nat) (x2 : Int) (w : px_W) (r : Option Value × px_W), d + k < 2147483648 → ec_fd w 126 5 = (gn : Int) → ec_fd w 126 6 = (bn : Int) → ec_fd w 126 14 ≤ ((d + k : Nat) : Int) → ec_E hb_X n 107 0 [(0, .inr (.inl 190)), (1, .inl (d : Int)), (2, .inl x2)] [] w r → ∃ w' : px_W, r = (none, w') ∧ ec_W hb_A w' ∧ ef_s eq_S6 w w' ∧ ∀ f, f ≠ 3 → ec_fd w' 126 f = ec_fd w 126 f := by
  intro k
  induction k with
  | zero =>
    intro n d x2 w r hd h5 h6 h14 h
    obtain ⟨z, w2, W2, s2, a⟩ := ew_pnP hgn hbn h5 h6 h
    have e14 : ec_fd w2 126 14 = ec_fd w 126 14 := ef_s_f s2 (by decide) 14
    have fin : r = (none, w2) → ∃ w' : px_W, r = (none, w') ∧ ec_W hb_A w' ∧ ef_s eq_S6 w w' ∧ ∀ f, f ≠ 3 → ec_fd w' 126 f = ec_fd w 126 f := fun e => ⟨w2, e, W2, ef_s_mono s2 (by decide), fun f _ => ef_s_f s2 (by decide) f⟩
    by_cases c1 : ec_tw z ≤ ec_tw (ec_fd w2 126 3)
    · exact fin (eg107_126_8_0 a c1).2.1
    · exact fin (eg107_126_8_3 a (by omega) (by rw [ec_tw_fd, e14, ec_twn (n := d) (by omega)]; omega)).2.1
  | succ k ih =>
    intro n d x2 w r hd h5 h6 h14 h
    obtain ⟨z, w2, W2, s2, a⟩ := ew_pnP hgn hbn h5 h6 h
    have e14 : ec_fd w2 126 14 = ec_fd w 126 14 := ef_s_f s2 (by decide) 14
    have ed : ec_tw (d : Int) = d := ec_twn (by omega)
    have in14 := ec_fd_in w2 126 14
    have fin : r = (none, w2) → ∃ w' : px_W, r = (none, w') ∧ ec_W hb_A w' ∧ ef_s eq_S6 w w' ∧ ∀ f, f ≠ 3 → ec_fd w' 126 f = ec_fd w 126 f := fun e => ⟨w2, e, W2, ef_s_mono s2 (by decide), fun f _ => ef_s_f s2 (by decide) f⟩
    by_cases c1 : ec_tw z ≤ ec_tw (ec_fd w2 126 3)
    · exact fin (eg107_126_8_0 a c1).2.1
    · by_cases c2 : ec_fd w2 126 14 ≤ (d : Int)
      · exact fin (eg107_126_8_3 a (by omega) (by rw [ec_tw_fd, ed]; exact c2)).2.1
      · have t1 : ec_tw (ec_fd w2 126 14 - 1) = ec_fd w2 126 14 - 1 := ec_tw_id (by omega) (by omega)
        by_cases c3 : (d : Int) = ec_fd w2 126 14 - 1
        · obtain ⟨_, v3, w3, a3, a4⟩ := eg107_126_8_2 a (by omega) (by rw [ec_tw_fd, ed]; omega) (by rw [t1, ed]; exact c3)
          obtain ⟨i3, W3, z3, e3⟩ := ew_lbF 31 n 0 w2 w3 v3 (by omega) (eg175_0_0 a3).2
          subst i3
          obtain ⟨_, v4, w4, a5, a6⟩ := eg107_126_45_0 (a4 z3 e3 W3)
          obtain ⟨w4', e4, W4, s4, _⟩ := ew_cp136_129 a5
          injection e4 with e4 i4
          subst i4
          obtain ⟨_, hr, _⟩ := eg107_126_62_0 (a6 e4 W4)
          refine ⟨w4, hr, W4, ef_s_trans (ef_s_mono s2 (by decide)) (ef_s_trans (ef_s_trans (ef_s_wr (by decide)) (ef_s_pf (by decide))) (ef_s_mono s4 (by decide))), fun f hf => ?_⟩
          rw [ef_s_f s4 (by decide) f, ec_fd_pf (k := 126) (f := 3) (ec_W_wr W2) rfl (by decide), if_neg hf, ec_fd_wr_o (by decide), ef_s_f s2 (by decide) f]
        · have h8 := (eg107_126_8_1 a (by omega) (by rw [ec_tw_fd, ed]; omega) (by rw [t1, ed]; exact c3)).2
          have lp : ∀ (j n b : Nat) (w : px_W) (r : Option Value × px_W), b + j = bn → ec_fd w 126 5 = (gn : Int) → ec_fd w 126 6 = (bn : Int) → ec_fd w 126 14 ≤ ((d + (k + 1) : Nat) : Int) → ec_E hb_X n 107 66 [(0, .inr (.inl 190)), (1, .inl (d : Int)), (2, .inl x2), (3, .inl z), (4, .inl (b : Int))] [] w r → ∃ w' : px_W, r = (none, w') ∧ ec_W hb_A w' ∧ ef_s eq_S6 w w' ∧ ∀ f, f ≠ 3 → ec_fd w' 126 f = ec_fd w 126 f := by
            intro j
            induction j with
            | zero =>
              intro n b w r hbj h5 h6 h14 h
              have hb : b = bn := by omega
              obtain ⟨_, hr, hW⟩ := eg107_126_66_0 h (by rw [h6, hb]; exact Int.le_refl _)
              exact ⟨w, hr, hW, ef_s_refl, fun _ _ => rfl⟩
            | succ j ihj =>
              intro n b w r hbj h5 h6 h14 h
              have eb : ec_tw (b : Int) = b := ec_twn (by omega)
              have hl : ec_tw (b : Int) < ec_tw (ec_fd w 126 6) := by
                rw [h6, eb, ec_twn (n := bn) (by omega)]
                omega
              by_cases q1 : ec_tw z ≤ ec_tw (ec_fd w 126 3)
              · obtain ⟨_, hr, hW⟩ := eg107_126_66_1 h hl q1
                exact ⟨w, hr, hW, ef_s_refl, fun _ _ => rfl⟩
              · by_cases q2 : ec_tw (ec_and (ec_shr x2 (b : Int)) 1) = ec_tw 1
                · obtain ⟨_, v5, w5, b1, b2⟩ := eg107_126_66_3 h hl (by omega) q2
                  obtain ⟨w5', e5, W5, s5, f5⟩ := ih n (d + 1) _ _ _ (by omega) (by rw [ec_fd_wr_o (by decide), ec_fd_wr_o (by decide)]; exact h5) (by rw [ec_fd_wr_o (by decide), ec_fd_wr_o (by decide)]; exact h6) (by rw [ec_fd_wr_o (by decide), ec_fd_wr_o (by decide)]; omega) b1
                  injection e5 with e5 i5
                  subst i5
                  have b3 := (eg107_126_136_0 (b2 e5 W5)).2
                  have g5 : ∀ f, f ≠ 3 → ec_fd w5 126 f = ec_fd w 126 f := fun f hf => by rw [f5 f hf, ec_fd_wr_o (by decide), ec_fd_wr_o (by decide)]
                  obtain ⟨w6, hr, W6, s6, f6⟩ := ihj n (b + 1) _ r (by omega) (by rw [ec_fd_wr_o (by decide), g5 5 (by decide)]; exact h5) (by rw [ec_fd_wr_o (by decide), g5 6 (by decide)]; exact h6) (by rw [ec_fd_wr_o (by decide), g5 14 (by decide)]; exact h14) b3
                  refine ⟨w6, hr, W6, ef_s_trans (ef_s_trans (ef_s_wr (by decide)) (ef_s_wr (by decide))) (ef_s_trans s5 (ef_s_trans (ef_s_wr (by decide)) s6)), fun f hf => ?_⟩
                  rw [f6 f hf, ec_fd_wr_o (by decide), g5 f hf]
                · exact ihj n (b + 1) w r (by omega) h5 h6 h14 (eg107_126_66_2 h hl (by omega) q2).2
          obtain ⟨w', hr, hW, s, f⟩ := lp bn n 0 w2 r (by omega) ((ef_s_f s2 (by decide) 5).trans h5) ((ef_s_f s2 (by decide) 6).trans h6) (by rw [e14]; exact h14) h8
          exact ⟨w', hr, hW, ef_s_trans (ef_s_mono s2 (by decide)) s, fun f' hf => (f f' hf).trans (ef_s_f s2 (by decide) f')⟩
theorem ew_foF {n : Nat} {x1 x2 x3 : Int} {w : px_W} {r : Option Value × px_W} (hgn : gn ≤ 10) (hbn : bn ≤ 8) (h5 : ec_fd w 126 5 = (gn : Int)) (h6 : ec_fd w 126 6 = (bn : Int)) (h : ec_E hb_X n 106 0 [(0, .inr (.inl 190)), (1, .inl x1), (2, .inl x2), (3, .inl x3)] [] w r) : ∃ w' : px_W, r = (none, w') ∧ ec_W hb_A w' ∧ ef_s eq_S6 w w' := by
  obtain ⟨_, v1, w1, a1, a2⟩ := eg106_126_0_0 h
  obtain ⟨i1, W1, e1⟩ := ew_bc a1
  subst i1
  have a3 := (eg106_126_5_0 (a2 _ e1 W1)).2
  have lp : ∀ (j n b : Nat) (w : px_W) (r : Option Value × px_W), b + j = bn → ec_fd w 126 5 = (gn : Int) → ec_fd w 126 6 = (bn : Int) → ec_E hb_X n 106 26 [(0, .inr (.inl 190)), (1, .inl x1), (2, .inl x2), (3, .inl x3), (4, .inl (b : Int))] [] w r → ∃ w' : px_W, r = (none, w') ∧ ec_W hb_A w' ∧ ef_s eq_S6 w w' := by
    intro j
    induction j with
    | zero =>
      intro n b w r hbj h5 h6 h
      have hb : b = bn := by omega
      obtain ⟨_, v2, w2, b1, b2⟩ := eg106_126_26_0 h (by rw [h6, hb]; exact Int.le_refl _)
      have in14 := ec_fd_in w 126 14
      obtain ⟨w2', e2, W2, s2, _⟩ := ew_pnF hgn hbn (ec_fd w 126 14).toNat n 0 x1 w _ (by omega) h5 h6 (by omega) b1
      injection e2 with e2 i2
      subst i2
      obtain ⟨_, hr, _⟩ := eg106_126_72_0 (b2 e2 W2)
      exact ⟨w2, hr, W2, s2⟩
    | succ j ihj =>
      intro n b w r hbj h5 h6 h
      have hl : ec_tw (b : Int) < ec_tw (ec_fd w 126 6) := by
        rw [h6, ec_twn (n := b) (by omega), ec_twn (n := bn) (by omega)]
        omega
      by_cases q2 : ec_tw (ec_and (ec_shr x1 (b : Int)) 1) = ec_tw 1
      · obtain ⟨w', hr, hW, s⟩ := ihj n (b + 1) _ r (by omega) ((ec_fd_wr_o (by decide)).trans h5) ((ec_fd_wr_o (by decide)).trans h6) (eg106_126_26_2 h hl q2).2
        exact ⟨w', hr, hW, ef_s_trans (ef_s_wr (by decide)) s⟩
      · exact ihj n (b + 1) w r (by omega) h5 h6 (eg106_126_26_1 h hl q2).2
  have P1 : ∀ {w : px_W} {f : Nat} {z : Int}, ec_W hb_A w → (f = 14 ∨ f = 15 ∨ f = 16 ∨ f = 3) → ec_W hb_A (ec_pf w 126 f z) ∧ ec_fd (ec_pf w 126 f z) 126 5 = ec_fd w 126 5 ∧ ec_fd (ec_pf w 126 f z) 126 6 = ec_fd w 126 6 := by
    intro w f z hW hf
    rcases hf with rfl | rfl | rfl | rfl
    · exact ⟨ec_W_pf (k := 126) (f := 14) rfl rfl hW, by rw [ec_fd_pf (k := 126) (f := 14) hW rfl (by decide), if_neg (by decide)], by rw [ec_fd_pf (k := 126) (f := 14) hW rfl (by decide), if_neg (by decide)]⟩
    · exact ⟨ec_W_pf (k := 126) (f := 15) rfl rfl hW, by rw [ec_fd_pf (k := 126) (f := 15) hW rfl (by decide), if_neg (by decide)], by rw [ec_fd_pf (k := 126) (f := 15) hW rfl (by decide), if_neg (by decide)]⟩
    · exact ⟨ec_W_pf (k := 126) (f := 16) rfl rfl hW, by rw [ec_fd_pf (k := 126) (f := 16) hW rfl (by decide), if_neg (by decide)], by rw [ec_fd_pf (k := 126) (f := 16) hW rfl (by decide), if_neg (by decide)]⟩
    · exact ⟨ec_W_pf (k := 126) (f := 3) rfl rfl hW, by rw [ec_fd_pf (k := 126) (f := 3) hW rfl (by decide), if_neg (by decide)], by rw [ec_fd_pf (k := 126) (f := 3) hW rfl (by decide), if_neg (by decide)]⟩
  obtain ⟨w', hr, hW, s⟩ := lp bn n 0 _ r (by omega) (by
    rw [(P1 (P1 (P1 (P1 W1 (.inl rfl)).1 (.inr (.inl rfl))).1 (.inr (.inr (.inl rfl)))).1 (.inr (.inr (.inr rfl)))).2.1, (P1 (P1 (P1 W1 (.inl rfl)).1 (.inr (.inl rfl))).1 (.inr (.inr (.inl rfl)))).2.1, (P1 (P1 W1 (.inl rfl)).1 (.inr (.inl rfl))).2.1, (P1 W1 (.inl rfl)).2.1]
    exact h5) (by
    rw [(P1 (P1 (P1 (P1 W1 (.inl rfl)).1 (.inr (.inl rfl))).1 (.inr (.inr (.inl rfl)))).1 (.inr (.inr (.inr rfl)))).2.2, (P1 (P1 (P1 W1 (.inl rfl)).1 (.inr (.inl rfl))).1 (.inr (.inr (.inl rfl)))).2.2, (P1 (P1 W1 (.inl rfl)).1 (.inr (.inl rfl))).2.2, (P1 W1 (.inl rfl)).2.2]
    exact h6) a3
  exact ⟨w', hr, hW, ef_s_trans (ef_s_trans (ef_s_trans (ef_s_trans (ef_s_pf (by decide)) (ef_s_pf (by decide))) (ef_s_pf (by decide))) (ef_s_pf (by decide))) s⟩
end EW6
theorem ew_order134 {xs : List Int32} {n : Nat} {w wA : px_W} {vA : Option Value} {x1 x2 x3 : Int} (hR : eq_RR w) (hA : ec_F (hb_XL xs) n 140 [.inr (.inl 64), .inl x1, .inl x2, .inl x3] w (vA, wA)) : ef_a wA 134 0 = 0 := by
  obtain ⟨_, v1, w1, a1, a2⟩ := eg140_0_0_0 (hb_FE hA)
  obtain ⟨i1, W1, z1, e1⟩ := ew_withinF a1
  subst i1
  have a3 := a2 z1 e1 W1
  have fin : ∀ z : Int, (vA, wA) = (ec_R z, w) → ef_a wA 134 0 = 0 := by
    intro z hr
    injection hr with _ hr2
    rw [hr2]
    exact hR.2
  by_cases c1 : ec_tw z1 = ec_tw 0
  · exact fin _ (eg140_0_16_0 a3 c1).2.1
  · obtain ⟨_, v2, w2, a4, a5⟩ := eg140_0_16_1 a3 c1
    obtain ⟨i2, W2, z2, e2⟩ := ew_withinF a4
    subst i2
    have a6 := a5 z2 e2 W2
    by_cases c2 : ec_tw z2 = ec_tw 0
    · exact fin _ (eg140_0_26_0 a6 c2).2.1
    · by_cases c3 : ec_tw (-1) ≤ ec_tw x3
      · obtain ⟨_, v3, w3, a7, a8⟩ := eg140_0_26_1 a6 c2 c3
        obtain ⟨i3, W3, e3⟩ := ew_bc a7
        subst i3
        have a9 := a8 _ e3 W3
        by_cases c4 : ec_tw 6 < ec_tw (eq_bc x1)
        · exact fin _ (eg140_0_40_2 a9 c4).2.1
        · have j0 := eg140_0_40_0 a9 (by omega)
          have j1 := eg140_0_40_1 a9 (by omega)
          by_cases c5 : ec_tw x3 < ec_tw (eq_bc x1)
          · obtain ⟨_, v4, w4, b1, b2⟩ := j0 c5
            obtain ⟨e4, W4, q4, gn, bn, g10, b8, f5, f6⟩ := ew_load134 hR b1
            obtain ⟨_, v5, w5, b3, b4⟩ := eg140_0_72_0 (b2 e4 W4)
            obtain ⟨w5', e5, W5, s5⟩ := ew_foF g10 b8 f5 f6 b3
            injection e5 with e5 i5
            subst i5
            have q5 : ef_a w5 134 0 = 0 := (congrFun (ef_s_a s5 (by decide)) 0).trans q4
            have fin2 : ∀ z : Int, (vA, wA) = (ec_R z, w5) → ef_a wA 134 0 = 0 := by
              intro z hr
              injection hr with _ hr2
              rw [hr2]
              exact q5
            by_cases c6 : ec_tw x3 = ec_tw (-1)
            · exact fin2 _ (eg140_0_88_1 (b4 e5 W5) c6).2.1
            · exact fin2 _ (eg140_0_88_0 (b4 e5 W5) c6).2.1
          · exact fin _ (j1 (by omega)).2.1
      · exact fin _ (eg140_0_26_2 a6 c2 (by omega)).2.1

end
