noncomputable section
/-! ROWS, at the law's head -/
def es_RR (w : px_W) : Prop := eq_RR w ∧ es_R w
def es_pl : List (Nat × Nat × Nat) := [(126, 0, 1), (127, 0, 240), (151, 19, 20), (164, 0, 240)]
def es_dc : List (Nat × Nat × Nat) := es_pl ++ eq_dc
theorem es_R_of {w w' : px_W} (h1 : ec_fd w' 126 0 = ec_fd w 126 0) (h2 : ec_fd w' 151 19 = ec_fd w 151 19) (h3 : ∀ p, p < 240 → ef_a w' 127 p = ef_a w 127 p) (h4 : ∀ p, p < 240 → ef_a w' 164 p = ef_a w 164 p) (h : es_R w) : es_R w' := by
  obtain ⟨k, k1, k2, k3, k4⟩ := h
  refine ⟨k, k1, h1.trans k2, h2.trans k3, fun i hi => ?_⟩
  rw [h3 i (by omega), h4 i (by omega)]
  exact k4 i hi
theorem es_st {w w' : px_W} (hW : ec_W hb_A w) (hW' : ec_W hb_A w') (h : ∀ p ∈ es_pl, ∀ i, p.2.1 ≤ i → i < p.2.2 → sy_get w' p.1 i = sy_get w p.1 i) (hR : es_R w) : es_R w' := by
  have g1 : sy_get w' 126 0 = sy_get w 126 0 := h (126, 0, 1) (by decide) 0 (by decide) (by decide)
  have g2 : sy_get w' 151 19 = sy_get w 151 19 := h (151, 19, 20) (by decide) 19 (by decide) (by decide)
  have g3 : ∀ p, p < 240 → sy_get w' 127 p = sy_get w 127 p := fun p hp => h (127, 0, 240) (by decide) p (Nat.zero_le _) hp
  have g4 : ∀ p, p < 240 → sy_get w' 164 p = sy_get w 164 p := fun p hp => h (164, 0, 240) (by decide) p (Nat.zero_le _) hp
  exact es_R_of (ef_get_f (k := 126) hW hW' rfl g1) (ef_get_f (k := 151) hW hW' rfl g2) (fun p hp => ef_get_a (k := 127) hW hW' rfl (g3 p hp)) (fun p hp => ef_get_a (k := 164) hW hW' rfl (g4 p hp)) hR
theorem es_dc_st {w w' : px_W} (hW : ec_W hb_A w) (hW' : ec_W hb_A w') (h : ∀ p ∈ es_dc, ∀ i, p.2.1 ≤ i → i < p.2.2 → sy_get w' p.1 i = sy_get w p.1 i) (hR : es_RR w) : es_RR w' := ⟨eq_dc_st hW hW' (fun p hp => h p (List.mem_append_right _ hp)) hR.1, es_st hW hW' (fun p hp => h p (List.mem_append_left _ hp)) hR.2⟩
theorem es_fr {Wr : sy_Wr} {w w1 : px_W} (hd : hb_dj Wr es_pl = true) (hW : ec_W hb_A w) (hW1 : ec_W hb_A w1) (f : ∀ k i : Nat, sy_may Wr k i = false → sy_get w1 k i = sy_get w k i) (hR : es_R w) : es_R w1 := es_st hW hW1 (fun p hp i h1 h2 => f p.1 i (hb_dj_ok hd hp h1 h2)) hR
theorem ew_isRow {n k : Nat} {w : px_W} {r : Option Value × px_W} {x1 x2 : Int} (hk : k ≤ 80) (h0 : ec_fd w 151 19 = (k : Int)) (r1 : -2147483648 ≤ x1 ∧ x1 ≤ 2147483647) (r2 : -2147483648 ≤ x2 ∧ x2 ≤ 2147483647) (h : ec_E hb_X n 221 0 [(0, .inr (.inl 215)), (1, .inl x1), (2, .inl x2)] [] w r) : r = (ec_R (if (0 ≤ x1 ∧ x1 ≤ (k : Int) - 1) ∧ 0 ≤ x2 ∧ x2 ≤ 2 then 1 else 0), w) ∧ ec_W hb_A w := by
  have t0 : ec_tw 0 = 0 := rfl
  have t2 : ec_tw 2 = 2 := rfl
  have tx1 : ec_tw x1 = x1 := ec_tw_id r1.1 r1.2
  have tx2 : ec_tw x2 = x2 := ec_tw_id r2.1 r2.2
  have tk : ec_tw ((k : Int) - 1) = (k : Int) - 1 := ec_tw_id (by omega) (by omega)
  obtain ⟨_, v1, w1, a1, a2⟩ := eg221_151_0_0 h
  obtain ⟨e1, W1⟩ := ew_in a1
  rw [tx1, t0, h0, tk] at e1
  injection e1 with e1 i1
  have i1 := i1.symm
  subst i1
  have a3 := a2 _ e1 W1
  by_cases p1 : 0 ≤ x1 ∧ x1 ≤ (k : Int) - 1
  · rw [if_pos p1] at a3
    obtain ⟨_, v2, w2, a4, a5⟩ := eg221_151_11_1 a3 (by decide)
    obtain ⟨e2, W2⟩ := ew_in a4
    rw [tx2, t0, t2] at e2
    injection e2 with e2 i2
    have i2 := i2.symm
    subst i2
    have a6 := a5 _ e2 W2
    by_cases p2 : 0 ≤ x2 ∧ x2 ≤ 2
    · rw [if_pos p2] at a6
      rw [if_pos ⟨p1, p2⟩]
      exact (eg221_151_28_0 (eg221_151_20_1 a6 (by decide)).2).2
    · rw [if_neg p2] at a6
      rw [if_neg (fun e => p2 e.2)]
      exact (eg221_151_28_0 (eg221_151_20_0 a6 rfl).2).2
  · rw [if_neg p1] at a3
    rw [if_neg (fun e => p1 e.1)]
    exact (eg221_151_28_0 (eg221_151_11_0 a3 rfl).2).2
theorem es_row2 {xs : List Int32} {n : Nat} {w wA wB : px_W} {vA vB : Option Value} {x1 x2 : Int} (hR : es_RR w) (r1 : -2147483648 ≤ x1 ∧ x1 ≤ 2147483647) (r2 : -2147483648 ≤ x2 ∧ x2 ≤ 2147483647) (hA : ec_F (hb_XL xs) n 137 [.inr (.inl 64), .inl x1, .inl x2] w (vA, wA)) (hB : ec_F (hb_XL xs) n 222 [.inr (.inl 215), .inl x1, .inl x2] wA (vB, wB)) : vA = vB ∧ es_RR wB := by
  obtain ⟨k, hk, k1, k2, k3⟩ := hR.2
  have t0 : ec_tw 0 = 0 := rfl
  have t2 : ec_tw 2 = 2 := rfl
  have tx1 : ec_tw x1 = x1 := ec_tw_id r1.1 r1.2
  have tx2 : ec_tw x2 = x2 := ec_tw_id r2.1 r2.2
  have tk : ec_tw ((k : Int) - 1) = (k : Int) - 1 := ec_tw_id (by omega) (by omega)
  have cA : (vA, wA) = (ec_R (if (0 ≤ x1 ∧ x1 ≤ (k : Int) - 1) ∧ 0 ≤ x2 ∧ x2 ≤ 2 then ef_a w 127 (x1 * 3 + x2).toNat else -9), w) := by
    obtain ⟨_, v1, w1, a1, a2⟩ := eg137_0_0_0 (hb_FE hA)
    obtain ⟨e1, W1⟩ := ew_within a1
    rw [tx1, t0, k1, tk] at e1
    injection e1 with e1 i1
    have i1 := i1.symm
    subst i1
    have a3 := a2 _ e1 W1
    by_cases p1 : 0 ≤ x1 ∧ x1 ≤ (k : Int) - 1
    · rw [if_pos p1] at a3
      obtain ⟨_, v2, w2, a4, a5⟩ := eg137_0_14_1 a3 (by decide)
      obtain ⟨e2, W2⟩ := ew_within a4
      rw [tx2, t0, t2] at e2
      injection e2 with e2 i2
      have i2 := i2.symm
      subst i2
      have a6 := a5 _ e2 W2
      by_cases p2 : 0 ≤ x2 ∧ x2 ≤ 2
      · rw [if_pos p2] at a6
        rw [if_pos ⟨p1, p2⟩]
        have q := (eg137_0_23_0 a6 (by decide)).2.1
        have ti : ec_tw (x1 * 3 + x2) = (((x1 * 3 + x2).toNat : Nat) : Int) := by
          rw [ec_tw_id (by omega) (by omega)]
          omega
        rw [ti, ef_rd] at q
        exact q
      · rw [if_neg p2] at a6
        rw [if_neg (fun e => p2 e.2)]
        exact (eg137_0_23_1 a6 rfl).2.1
    · rw [if_neg p1] at a3
      rw [if_neg (fun e => p1 e.1)]
      exact (eg137_0_14_0 a3 rfl).2.1
  injection cA with cA1 cA2
  rw [cA2] at hB
  have cB : (vB, wB) = (ec_R (if (0 ≤ x1 ∧ x1 ≤ (k : Int) - 1) ∧ 0 ≤ x2 ∧ x2 ≤ 2 then ef_a w 127 (x1 * 3 + x2).toNat else -9), w) := by
    obtain ⟨_, v1, w1, a1, a2⟩ := eg222_151_0_0 (hb_FE hB)
    obtain ⟨e1, W1⟩ := ew_isRow hk k2 r1 r2 a1
    injection e1 with e1 i1
    have i1 := i1.symm
    subst i1
    have a3 := a2 _ e1 W1
    by_cases p : (0 ≤ x1 ∧ x1 ≤ (k : Int) - 1) ∧ 0 ≤ x2 ∧ x2 ≤ 2
    · rw [if_pos p] at a3
      rw [if_pos p]
      have q := (eg222_151_24_0 (eg222_151_6_1 a3 (by decide)).2).2.1
      have ti : ec_tw (3 * x1 + x2) = (((x1 * 3 + x2).toNat : Nat) : Int) := by
        rw [ec_tw_id (by omega) (by omega)]
        omega
      rw [ti, ef_rd, ← k3 _ (by omega)] at q
      exact q
    · rw [if_neg p] at a3
      rw [if_neg p]
      exact (eg222_151_24_0 (eg222_151_6_0 a3 rfl).2).2.1
  injection cB with cB1 cB2
  refine ⟨cA1.trans cB1.symm, ?_⟩
  rw [cB2]
  exact hR
theorem es_alter2 {xs : List Int32} {n : Nat} {w wA wB : px_W} {vA vB : Option Value} {x1 x2 x3 : Int} (hR : es_RR w) (r1 : -2147483648 ≤ x1 ∧ x1 ≤ 2147483647) (r2 : -2147483648 ≤ x2 ∧ x2 ≤ 2147483647) (r3 : -2147483648 ≤ x3 ∧ x3 ≤ 2147483647) (hA : ec_F (hb_XL xs) n 138 [.inr (.inl 64), .inl x1, .inl x2, .inl x3] w (vA, wA)) (hB : ec_F (hb_XL xs) n 223 [.inr (.inl 215), .inl x1, .inl x2, .inl x3] wA (vB, wB)) : vA = vB ∧ es_RR wB := by
  obtain ⟨k, hk, k1, k2, k3⟩ := hR.2
  have W0 := hA.1
  have t0 : ec_tw 0 = 0 := rfl
  have t2 : ec_tw 2 = 2 := rfl
  have tx1 : ec_tw x1 = x1 := ec_tw_id r1.1 r1.2
  have tx2 : ec_tw x2 = x2 := ec_tw_id r2.1 r2.2
  have tk : ec_tw ((k : Int) - 1) = (k : Int) - 1 := ec_tw_id (by omega) (by omega)
  by_cases p : (0 ≤ x1 ∧ x1 ≤ (k : Int) - 1) ∧ 0 ≤ x2 ∧ x2 ≤ 2
  · obtain ⟨j, hj⟩ : ∃ j : Nat, j = (x1 * 3 + x2).toNat := ⟨_, rfl⟩
    have j1 : ec_tw (x1 * 3 + x2) = (j : Int) := by
      rw [ec_tw_id (by omega) (by omega)]
      omega
    have j2 : ec_tw (3 * x1 + x2) = (j : Int) := by
      rw [ec_tw_id (by omega) (by omega)]
      omega
    have jl : j < 3 * k := by omega
    obtain ⟨_, v1, w1, a1, a2⟩ := eg138_0_0_0 (hb_FE hA)
    obtain ⟨e1, W1⟩ := ew_within a1
    rw [tx1, t0, k1, tk, if_pos p.1] at e1
    injection e1 with e1 i1
    have i1 := i1.symm
    subst i1
    obtain ⟨_, v2, w2, a4, a5⟩ := eg138_0_14_1 (a2 _ e1 W1) (by decide)
    obtain ⟨e2, W2⟩ := ew_within a4
    rw [tx2, t0, t2, if_pos p.2] at e2
    injection e2 with e2 i2
    have i2 := i2.symm
    subst i2
    obtain ⟨_, q, WA⟩ := eg138_0_23_0 (a5 _ e2 W2) (by decide)
    rw [j1, ef_rd] at q
    rw [j1] at WA
    injection q with q1 q2
    rw [q2] at hB
    have sA : ef_s [127] w (ec_wr w 127 (j : Int) x3) := ef_s_wr List.mem_cons_self
    have b2 : ec_fd (ec_wr w 127 (j : Int) x3) 151 19 = (k : Int) := (ef_s_f sA (by decide) 19).trans k2
    obtain ⟨_, v3, w3, b3, b4⟩ := eg223_151_0_0 (hb_FE hB)
    obtain ⟨e3, W3⟩ := ew_isRow hk b2 r1 r2 b3
    rw [if_pos p] at e3
    injection e3 with e3 i3
    have i3 := i3.symm
    subst i3
    obtain ⟨_, z, WB⟩ := eg223_151_6_0 (b4 _ e3 W3) (by decide)
    rw [j2, ef_rd] at z
    rw [j2] at WB
    injection z with z1 z2
    have sB : ef_s [164] (ec_wr w 127 (j : Int) x3) (ec_wr (ec_wr w 127 (j : Int) x3) 164 (j : Int) x3) := ef_s_wr List.mem_cons_self
    have sAB : ef_s [127, 164] w (ec_wr (ec_wr w 127 (j : Int) x3) 164 (j : Int) x3) := ef_s_trans (ef_s_mono sA (by decide)) (ef_s_mono sB (by decide))
    refine ⟨?_, ?_⟩
    · rw [q1, z1, ef_s_a sA (by decide), k3 j jl]
    · rw [z2]
      refine ⟨⟨ef_RC_s sAB (by decide) hR.1.1, ?_⟩, k, hk, (ef_s_f sAB (by decide) 0).trans k1, (ef_s_f sAB (by decide) 19).trans k2, fun i hi => ?_⟩
      · rw [ef_s_a sAB (by decide)]
        exact hR.1.2
      · rw [ef_s_a sB (by decide), ef_a_wr (n := 240) W0 rfl (by omega) (by omega), ef_a_wr (n := 240) W3 rfl (by omega) (by omega), ef_s_a sA (by decide)]
        unfold ef_u
        rw [Int.toNat_natCast]
        split
        · rfl
        · exact k3 i hi
  · have cA : (vA, wA) = (ec_R (-9), w) := by
      obtain ⟨_, v1, w1, a1, a2⟩ := eg138_0_0_0 (hb_FE hA)
      obtain ⟨e1, W1⟩ := ew_within a1
      rw [tx1, t0, k1, tk] at e1
      injection e1 with e1 i1
      have i1 := i1.symm
      subst i1
      have a3 := a2 _ e1 W1
      by_cases p1 : 0 ≤ x1 ∧ x1 ≤ (k : Int) - 1
      · rw [if_pos p1] at a3
        obtain ⟨_, v2, w2, a4, a5⟩ := eg138_0_14_1 a3 (by decide)
        obtain ⟨e2, W2⟩ := ew_within a4
        rw [tx2, t0, t2, if_neg (fun e => p ⟨p1, e⟩)] at e2
        injection e2 with e2 i2
        have i2 := i2.symm
        subst i2
        exact (eg138_0_23_1 (a5 _ e2 W2) rfl).2.1
      · rw [if_neg p1] at a3
        exact (eg138_0_14_0 a3 rfl).2.1
    injection cA with cA1 cA2
    rw [cA2] at hB
    obtain ⟨_, v3, w3, b3, b4⟩ := eg223_151_0_0 (hb_FE hB)
    obtain ⟨e3, W3⟩ := ew_isRow hk k2 r1 r2 b3
    rw [if_neg p] at e3
    injection e3 with e3 i3
    have i3 := i3.symm
    subst i3
    have z := (eg223_151_6_1 (b4 _ e3 W3) rfl).2.1
    injection z with z1 z2
    refine ⟨cA1.trans z1.symm, ?_⟩
    rw [z2]
    exact hR
theorem ew_seat3 {xs : List Int32} {n : Nat} {w wA wB : px_W} {vA vB : Option Value} (hR : eq_RR w) (hA : ec_F (hb_XL xs) n 136 [.inr (.inl 64)] w (vA, wA)) (hB : ec_F (hb_XL xs) n 220 [.inr (.inl 215)] wA (vB, wB)) : es_RR wB := (ew_seatG hR hA hB).2

end
