noncomputable section
/-! THE ORDER: at the law's head -/
def eo_RR (w : px_W) : Prop := eq_RR w ∧ eh_RR w
def eo_dc : List (Nat × Nat × Nat) := eq_dc ++ eh_dc
theorem eo_dc_st {w w' : px_W} (hW : ec_W hb_A w) (hW' : ec_W hb_A w') (h : ∀ p ∈ eo_dc, ∀ i, p.2.1 ≤ i → i < p.2.2 → sy_get w' p.1 i = sy_get w p.1 i) (hR : eo_RR w) : eo_RR w' := ⟨eq_dc_st hW hW' (fun p hp => h p (List.mem_append_left _ hp)) hR.1, eh_dc_st hW hW' (fun p hp => h p (List.mem_append_right _ hp)) hR.2⟩
theorem eo_frQ {Wr : sy_Wr} {w w1 : px_W} (hd : hb_dj Wr eq_dc = true) (hW : ec_W hb_A w) (hW1 : ec_W hb_A w1) (f : ∀ k i : Nat, sy_may Wr k i = false → sy_get w1 k i = sy_get w k i) (hR : eq_RR w) : eq_RR w1 := eq_dc_st hW hW1 (fun p hp i h1 h2 => f p.1 i (hb_dj_ok hd hp h1 h2)) hR
theorem eo_frH {Wr : sy_Wr} {w w1 : px_W} (hd : hb_dj Wr eh_dc = true) (hW : ec_W hb_A w) (hW1 : ec_W hb_A w1) (f : ∀ k i : Nat, sy_may Wr k i = false → sy_get w1 k i = sy_get w k i) (hR : eh_RR w) : eh_RR w1 := eh_dc_st hW hW1 (fun p hp i h1 h2 => f p.1 i (hb_dj_ok hd hp h1 h2)) hR
theorem eo_frS {S : List Nat} {w w1 : px_W} (hS : ∀ p ∈ eh_dc, p.1 ∉ S) (hW : ec_W hb_A w) (hW1 : ec_W hb_A w1) (s : ef_s S w w1) (hR : eh_RR w) : eh_RR w1 := eh_dc_st hW hW1 (fun p hp i _ _ => by
  unfold sy_get
  rw [s p.1 (hS p hp)]) hR
/-- the reference's most, whenever the boats are lowered -/
theorem eo_val {c gn bn : Nat} {A B Pl Bp : Nat → Nat} {Mi Ti To : Nat → Int} {w0 : px_W} (hD : ef_D c A B Mi Ti) (hDB : ef_DB w0 c A B Mi Ti) (hG : ef_G gn Pl To) (hGB : ef_GB w0 gn Pl To) (hbn : bn ≤ 8) (hbB : ef_a w0 152 5 = (bn : Int)) (hb : ∀ b, b < bn → (ef_a w0 25 b = (Bp b : Int) ∧ Bp b < 8 ∧ ef_a w0 152 (216 + 4 * b + 1) = (Bp b : Int)) ∧ (ef_a w0 26 b = ef_a w0 152 (216 + 4 * b + 2) ∧ 0 ≤ ef_a w0 26 b ∧ ef_a w0 26 b ≤ 999) ∧ (ef_a w0 27 b = ef_a w0 152 (216 + 4 * b + 3) ∧ 0 ≤ ef_a w0 27 b ∧ ef_a w0 27 b ≤ 1) ∧ ef_a w0 24 b = ef_a w0 152 (216 + 4 * b) ∧ 1 ≤ ef_a w0 24 b ∧ ef_a w0 24 b ≤ 65) (hg : ∀ g, g < gn → (ef_a w0 21 g = ef_a w0 152 (176 + 4 * g + 1) ∧ 0 ≤ ef_a w0 21 g ∧ ef_a w0 21 g ≤ 2) ∧ ef_a w0 20 g = ef_a w0 152 (176 + 4 * g) ∧ 1 ≤ ef_a w0 20 g ∧ ef_a w0 20 g ≤ 50) (n : Nat) (y : px_W) (v : Option Value) (y2 : px_W) (L : Nat → Int) (d2 : ef_a y 152 = ef_a w0 152) (hL : ∀ b, b < bn → ef_a y 160 b = L b ∧ L b ≤ 99999) (m3 : ec_E hb_X n 215 0 [(0, .inr (.inl 215))] [] y (v, y2)) : v = none ∧ ec_W hb_A y2 ∧ ef_s ef_S5 y y2 ∧ ∀ (n : Nat) (v' : Option Value) (y3 : px_W), ec_E hb_X n 217 0 [(0, .inr (.inl 215))] [] y2 (v', y3) → v' = ec_R (eo_V (ef_er (ef_rf A B Mi Ti c Pl To) (ef_a w0 27) (ef_a w0 21) Bp) (ef_a w0 20) (ef_a w0 24) bn gn L) ∧ y2 = y3 ∧ ec_W hb_A y3 := by
  have g10 := hG.1
  have hS : ∀ b, b < bn → 0 ≤ ef_a w0 24 b ∧ ef_a w0 24 b ≤ 65 := fun b hb' => ⟨by have := (hb b hb').2.2.2.2.1; omega, (hb b hb').2.2.2.2.2⟩
  have hP : ∀ g, g < gn → 0 ≤ ef_a w0 20 g ∧ ef_a w0 20 g ≤ 50 := fun g hg' => ⟨by have := (hg g hg').2.2.1; omega, (hg g hg').2.2.2⟩
  obtain ⟨y2', e4, W4, s4, f4, f4'⟩ := ew_findCan (bn := bn) (Bp := Bp) (Lo := L) hD (by unfold ef_DB; rw [d2]; exact hDB) hG (by unfold ef_GB; rw [d2]; exact hGB) hbn (by rw [d2]; exact hbB) (fun b hb' => by rw [d2]; exact ⟨(hb b hb').1.2.2, (hb b hb').1.2.1⟩) hL (fun g hg' => by rw [d2, ← (hg g hg').1.1]; exact (hg g hg').1.2.2) m3
  injection e4 with e4 i4
  subst i4
  have d3 : ef_a y2 152 = ef_a w0 152 := (ef_s_a s4 (by decide)).trans d2
  have hMO : ew_MO gn bn (fun g => eq_M (ef_er (ef_rf A B Mi Ti c Pl To) (ef_a w0 27) (ef_a w0 21) Bp g) L bn) (ef_a w0 20) (ef_a w0 24) y2 := by
    refine ⟨⟨g10, hbn⟩, by rw [d3]; exact hGB.1, by rw [d3]; exact hbB, fun g hg' => ⟨?_, eq_M_lt⟩, fun g hg' => ⟨?_, hP g hg'⟩, fun b hb' => ⟨?_, hS b hb'⟩⟩
    · rw [(f4 g hg').1, d2, ← ef_cb_M hbn]
      symm
      refine ef_cb_cg bn 0 0 (fun j _ hj => ?_)
      have hj' := hb j (by omega)
      have hg'' := hg g hg'
      unfold ef_er
      rw [hj'.2.2.1.1, hg''.1.1]
    · rw [(f4 g hg').2, d2]
      exact (hg g hg').2.1.symm
    · rw [f4' b hb', d2]
      exact (hb b hb').2.2.2.1.symm
  refine ⟨e4, W4, s4, fun n v' y3 m5 => ?_⟩
  obtain ⟨e5, W5⟩ := ew_mostB hMO m5
  injection e5 with e5 i5
  have i5 := i5.symm
  subst i5
  refine ⟨?_, rfl, W5⟩
  rw [e5]
  unfold eo_V
  rw [eq_same hbn g10 hS hP (fun g _ => eq_M_lt)]
theorem ew_order2 {xs : List Int32} {n : Nat} {w wA wB : px_W} {vA vB : Option Value} {x1 x2 x3 : Int} (hR : eo_RR w) (r1 : -2147483648 ≤ x1 ∧ x1 ≤ 2147483647) (r2 : -2147483648 ≤ x2 ∧ x2 ≤ 2147483647) (r3 : -2147483648 ≤ x3 ∧ x3 ≤ 2147483647) (hA : ec_F (hb_XL xs) n 140 [.inr (.inl 64), .inl x1, .inl x2, .inl x3] w (vA, wA)) (hB : ec_F (hb_XL xs) n 226 [.inr (.inl 215), .inl x1, .inl x2, .inl x3] wA (vB, wB)) : vA = vB ∧ eo_RR wB := by
  have hW0 : ec_W hb_A w := hA.1
  obtain ⟨c, gn, bn, A, B, Pl, Bp, Mi, Ti, To, ⟨hD, hDA, hDB⟩, ⟨hG, hGA, hGB⟩, ⟨hbn, hbA, hbB⟩, hb, hg⟩ := ef_data hR.1.1
  obtain ⟨_, _, ⟨hn1, hn2, hn3⟩, _⟩ := hR.2.1
  have g10 := hG.1
  have hS : ∀ b, b < bn → 0 ≤ ef_a w 24 b ∧ ef_a w 24 b ≤ 65 := fun b hb' => ⟨by have := (hb b hb').2.2.2.2.1; omega, (hb b hb').2.2.2.2.2⟩
  have hP : ∀ g, g < gn → 0 ≤ ef_a w 20 g ∧ ef_a w 20 g ≤ 50 := fun g hg' => ⟨by have := (hg g hg').2.2.1; omega, (hg g hg').2.2.2⟩
  have p8 := eq_pw hbn
  have pp : 0 < 2 ^ bn := Nat.two_pow_pos bn
  have tx1 : ec_tw x1 = x1 := ec_tw_id r1.1 r1.2
  have tx2 : ec_tw x2 = x2 := ec_tw_id r2.1 r2.2
  have tx3 : ec_tw x3 = x3 := ec_tw_id r3.1 r3.2
  have t0 : ec_tw 0 = 0 := rfl
  have t1 : ec_tw 1 = 1 := rfl
  have t6 : ec_tw 6 = 6 := rfl
  have t30 : ec_tw 30 = 30 := rfl
  have tm : ec_tw (-1) = -1 := rfl
  have tp : ec_tw (((2 ^ bn : Nat) : Int) - 1) = ((2 ^ bn : Nat) : Int) - 1 := ec_tw_id (by omega) (by omega)
  -- both leave at once
  have bad : ∀ (z : Int), (vA, wA) = (ec_R z, w) → (vB, wB) = (ec_R z, wA) → vA = vB ∧ eo_RR wB := by
    intro z h1 h2
    injection h1 with h1 i1
    injection h2 with h2 i2
    rw [h1, h2, i2, i1]
    exact ⟨rfl, hR⟩
  obtain ⟨_, v1, w1, a1, a2⟩ := eg140_0_0_0 (hb_FE hA)
  rw [hbA, ec_shl1 bn (by omega)] at a1
  obtain ⟨e1, W1⟩ := ew_within a1
  rw [tx1, t1, tp] at e1
  injection e1 with e1 i1
  have i1 := i1.symm
  subst i1
  have a3 := a2 _ e1 W1
  have hB' := hb_FE hB
  by_cases c1 : 1 ≤ x1 ∧ x1 ≤ ((2 ^ bn : Nat) : Int) - 1
  · rw [if_pos c1] at a3
    obtain ⟨_, v2, w2, a4, a5⟩ := eg140_0_16_1 a3 (by decide)
    obtain ⟨e2, W2⟩ := ew_within a4
    rw [tx2, t1, t30] at e2
    injection e2 with e2 i2
    have i2 := i2.symm
    subst i2
    have a6 := a5 _ e2 W2
    obtain ⟨m, hm⟩ : ∃ m : Nat, x1 = (m : Int) := ⟨x1.toNat, by omega⟩
    subst hm
    have hm2 : m < 2 ^ bn := by omega
    -- the reference's first question, in a world that is as w on its row
    have refIn : ∀ y : px_W, ef_a y 152 = ef_a w 152 → ec_E hb_X n 226 0 [(0, .inr (.inl 215)), (1, .inl (m : Int)), (2, .inl x2), (3, .inl x3)] [] y (vB, wB) → ∃ zz : Int, zz = (if 1 ≤ x2 ∧ x2 ≤ 30 then 1 else 0) ∧ ec_E hb_X n 226 22 [(0, .inr (.inl 215)), (1, .inl (m : Int)), (2, .inl x2), (3, .inl x3)] [.inl zz] y (vB, wB) := by
      intro y dy hy
      have e5 : ec_rd y 152 (ec_tw 5) = (bn : Int) := by
        show ef_a y 152 5 = _
        rw [dy]
        exact hbB
      have l := eg226_151_0_2 hy
      rw [e5, tx1, t0, ec_shrN (by omega) (by omega), Nat.div_eq_of_lt hm2] at l
      obtain ⟨_, u, y1, b1, b2⟩ := l (by omega) rfl
      obtain ⟨e, W⟩ := ew_in b1
      rw [tx2, t1, t30] at e
      injection e with e i
      have i := i.symm
      subst i
      exact ⟨_, rfl, b2 _ e W⟩
    by_cases c2 : 1 ≤ x2 ∧ x2 ≤ 30
    · rw [if_pos c2] at a6
      by_cases c3 : -1 ≤ x3
      · obtain ⟨_, v3, w3, a7, a8⟩ := eg140_0_26_1 a6 (by decide) (by rw [tm, tx3]; exact c3)
        obtain ⟨i3, W3, e3⟩ := ew_bc a7
        subst i3
        have a9 := a8 _ e3 W3
        have eN : eq_bc (m : Int) = (eo_cn m bn : Int) := by rw [eo_bc m (by omega), eo_cn_ge hm2 8 hbn]
        rw [eN] at a9
        obtain ⟨N, hN⟩ : ∃ N, eo_cn m bn = N := ⟨_, rfl⟩
        rw [hN] at a9
        have hN8 : N ≤ bn := by
          have le : ∀ k, eo_cn m k ≤ k := by
            intro k
            induction k with
            | zero => exact Nat.le_refl _
            | succ k ih =>
              show eo_cn m k + (if Nat.testBit m k = true then 1 else 0) ≤ k + 1
              split <;> omega
          rw [← hN]
          exact le bn
        have hN1 : 1 ≤ N := by
          by_cases q : ∃ j, j < bn ∧ Nat.testBit m j = true
          · obtain ⟨j, j1, j2⟩ := q
            have := eo_cn_lt j2 j1
            omega
          · have hz : m = 0 := Nat.eq_of_testBit_eq (fun j => by
              rw [Nat.zero_testBit]
              by_cases hj : j < bn
              · exact et_bf (fun t => q ⟨j, hj, t⟩)
              · exact Nat.testBit_lt_two_pow (Nat.lt_of_lt_of_le hm2 (Nat.pow_le_pow_right (by decide) (by omega))))
            omega
        have tN : ec_tw (N : Int) = N := ec_twn (by omega)
        -- the reference counts as well
        have refN : ∀ y : px_W, ef_a y 152 = ef_a w 152 → ec_E hb_X n 226 0 [(0, .inr (.inl 215)), (1, .inl (m : Int)), (2, .inl x2), (3, .inl x3)] [] y (vB, wB) → ec_E hb_X n 226 36 [(0, .inr (.inl 215)), (1, .inl (m : Int)), (2, .inl x2), (3, .inl x3)] [.inl (N : Int)] y (vB, wB) := by
          intro y dy hy
          obtain ⟨zz, hz, b1⟩ := refIn y dy hy
          rw [if_pos c2] at hz
          subst hz
          have b2 := (eg226_151_22_1 b1 (by decide) (by rw [tm, tx3]; exact c3)).2
          obtain ⟨_, u, y1, b3, b4⟩ := eg226_151_32_0 b2
          obtain ⟨i, W, e⟩ := ew_ones (by omega) b3
          subst i
          rw [eo_cn_ge hm2 30 (by omega), hN] at e
          exact b4 _ e W
        by_cases c4 : N ≤ 6
        · -- the reference's answer
          have refB : ∀ y : px_W, ec_W hb_A y → ef_a y 152 = ef_a w 152 → ec_E hb_X n 226 0 [(0, .inr (.inl 215)), (1, .inl (m : Int)), (2, .inl x2), (3, .inl x3)] [] y (vB, wB) → ∃ q : Nat → Int, vB = ec_R (if x3 < 0 then (eo_fo (eo_F (eo_V (ef_er (ef_rf A B Mi Ti c Pl To) (ef_a w 27) (ef_a w 21) Bp) (ef_a w 20) (ef_a w 24) bn gn) (fun i => ec_fd w 1 0 + (i : Int) * x2) N bn N (ef_a w 26) (fun _ => 0) m) 0 (eo_f N) (-1, q)).1 else if x3 < (N : Int) then (eo_fo (eo_F (eo_V (ef_er (ef_rf A B Mi Ti c Pl To) (ef_a w 27) (ef_a w 21) Bp) (ef_a w 20) (ef_a w 24) bn gn) (fun i => ec_fd w 1 0 + (i : Int) * x2) N bn N (ef_a w 26) (fun _ => 0) m) 0 (eo_f N) (-1, q)).2 x3.toNat else -3) ∧ ec_W hb_A wB ∧ ef_s eo_SB y wB := by
            intro y Wy dy hy
            have b := refN y dy hy
            have l := eg226_151_36_0 b
            rw [tN, t6] at l
            have b57 := (l (by omega)).2
            obtain ⟨y1, Wy1, s1, q1, b109⟩ := ew_or57 (N := N) hbn hm2 hN c4 bn n 0 y _ (by omega) Wy (by rw [dy]; exact hbB) (fun a ha => absurd ha (Nat.not_lt_zero _)) b57
            have d1 : ef_a y1 152 = ef_a w 152 := (ef_s_a s1 (by decide)).trans dy
            obtain ⟨y2, hz, Wy2, s2⟩ := ew_or109 (V := eo_V (ef_er (ef_rf A B Mi Ti c Pl To) (ef_a w 27) (ef_a w 21) Bp) (ef_a w 20) (ef_a w 24) bn gn) (T := fun i => ec_fd w 1 0 + (i : Int) * x2) (Lo := ef_a w 26) (pk := fun _ => 0) (b0 := (-1, ef_a y1 167)) (now := ec_fd w 1 0) hbn c4 hN1 hm2 hN ⟨hn2, hn3⟩ c2 (fun i => rfl) (eo_V_in hbn g10 hP hS) rfl hbB hn1 (fun b hb' => ⟨(hb b hb').2.1.1.symm, Int.le_trans (hb b hb').2.1.2.2 (by decide)⟩) r3 (eo_val hD hDB hG hGB hbn hbB hb hg) (eo_f N) n 0 y1 _ (by omega) Wy1 d1 q1 (fun i _ => rfl) b109
            injection hz with hz1 hz2
            rw [hz2]
            exact ⟨_, hz1, Wy2, ef_s_trans (ef_s_mono s1 (by decide)) s2⟩
          by_cases c5 : x3 < (N : Int)
          · obtain ⟨_, v4, w4, b1, b2⟩ := eg140_0_40_0 a9 (by rw [tN, t6]; omega) (by rw [tN, tx3]; exact c5)
            obtain ⟨w4', e4, W4, s4, ⟨f5, f6⟩, _, ⟨r130, r131, r132⟩, r133, r134, _⟩ := ew_load hD hDA hG hGA hbn hbA (fun b hb' => ⟨(hb b hb').1.1, (hb b hb').1.2.1⟩) hS hR.1.2 b1
            injection e4 with e4 i4
            subst i4
            obtain ⟨_, v5, w5, b3, b4⟩ := eg140_0_72_0 (b2 e4 W4)
            rw [ef_s_f s4 (by decide) 0] at b3
            obtain ⟨w5', e5, W5, s5, pk, q, g3, g129⟩ := ew_foA (N := N) (E := ef_er (ef_rf A B Mi Ti c Pl To) (ef_a w 27) (ef_a w 21) Bp) (p := ef_a w 20) (Se := ef_a w 24) (T := fun i => ec_fd w 1 0 + (i : Int) * x2) (Lo0 := ef_a w 26) hbn g10 c4 hN1 hP hS ⟨hn2, hn3⟩ c2 (fun i => rfl) hm2 hN f5 f6 r133 (fun g _ => by rw [r130]) r134 (fun i _ => by rw [r132]) b3
            injection e5 with e5 i5
            subst i5
            rw [eo_tr_fo hbn N _ _ m _ hm2 hN] at g3 g129
            have sAB : ef_s [28, 126, 128, 129, 130, 131, 132, 133, 134, 135, 136] w w5 := ef_s_trans (ef_s_mono s4 (by decide)) (ef_s_mono s5 (by decide))
            have hlast := b4 e5 W5
            have hWA : wA = w5 ∧ vA = ec_R (if x3 < 0 then ec_fd w5 126 3 else ef_a w5 129 x3.toNat) := by
              by_cases c6 : x3 = -1
              · obtain ⟨_, hr, _⟩ := eg140_0_88_1 hlast (by rw [tx3, tm]; exact c6)
                injection hr with hr1 hr2
                rw [if_pos (by omega)]
                exact ⟨hr2, hr1⟩
              · have l := eg140_0_88_0 hlast
                rw [tx3, tm] at l
                obtain ⟨_, hr, _⟩ := l c6
                injection hr with hr1 hr2
                have ex : x3 = ((x3.toNat : Nat) : Int) := by omega
                have er : ec_rd w5 129 x3 = ef_a w5 129 x3.toNat := by
                  rw [← ef_rd, ← ex]
                rw [if_neg (by omega), ← er]
                exact ⟨hr2, hr1⟩
            obtain ⟨iA, evA⟩ := hWA
            subst iA
            obtain ⟨q', evB, WB, sB⟩ := refB wA W5 (ef_s_a sAB (by decide)) hB'
            have sim := eo_fo_sim (V := eo_V (ef_er (ef_rf A B Mi Ti c Pl To) (ef_a w 27) (ef_a w 21) Bp) (ef_a w 20) (ef_a w 24) bn gn) (T := fun i => ec_fd w 1 0 + (i : Int) * x2) (Lo := fun i => if Nat.testBit m i = true then ec_fd w 1 0 + (N : Int) * x2 else ef_a w 26 i) (Lo2 := ef_a w 26) (pk := pk) (pk2 := fun _ => 0) (m := m) (by omega) hN (fun L => (eo_V_in hbn g10 hP hS L).1) (fun L L' h => eo_V_cg (fun g hg' => (hP g hg').1) h) (fun j hj => by
              by_cases t : Nat.testBit m j = true
              · exact .inl t
              · exact .inr (if_neg t)) (eo_f N) (-1, q) (-1, q') (Nat.le_refl _) ⟨rfl, fun h => by
              have h' : (0 : Int) ≤ -1 := h
              omega⟩
            have pos := eo_fo_0 (V := eo_V (ef_er (ef_rf A B Mi Ti c Pl To) (ef_a w 27) (ef_a w 21) Bp) (ef_a w 20) (ef_a w 24) bn gn) (T := fun i => ec_fd w 1 0 + (i : Int) * x2) (N := N) (bn := bn) (Lo := fun i => if Nat.testBit m i = true then ec_fd w 1 0 + (N : Int) * x2 else ef_a w 26 i) (pk := pk) (m := m) (fun L => (eo_V_in hbn g10 hP hS L).1) (eo_f N) (-1, q) (eo_f_pos N)
            refine ⟨?_, ⟨ef_RC_s sB (by decide) (ef_RC_s sAB (by decide) hR.1.1), ?_⟩, eo_frS (by decide) W5 WB sB (eo_frS (by decide) hW0 W5 sAB hR.2)⟩
            · rw [evA, evB]
              by_cases c7 : x3 < 0
              · rw [if_pos c7, if_pos c7, g3]
                exact congrArg ec_R sim.1
              · rw [if_neg c7, if_neg c7, if_pos c5, g129 x3.toNat (by omega)]
                exact congrArg ec_R (sim.2 pos x3.toNat (by omega))
            · rw [ef_s_a sB (by decide), ef_s_a s5 (by decide), r134 0 pp, ef_ss_0]
          · obtain ⟨_, hr, _⟩ := eg140_0_40_1 a9 (by rw [tN, t6]; omega) (by rw [tN, tx3]; omega)
            injection hr with hr1 hr2
            have hr2 := hr2.symm
            subst hr2
            obtain ⟨q', evB, WB, sB⟩ := refB w hW0 rfl hB'
            rw [if_neg (by omega), if_neg c5] at evB
            refine ⟨by rw [hr1, evB], ⟨ef_RC_s sB (by decide) hR.1.1, ?_⟩, eo_frS (by decide) hW0 WB sB hR.2⟩
            rw [ef_s_a sB (by decide)]
            exact hR.1.2
        · obtain ⟨_, hr, _⟩ := eg140_0_40_2 a9 (by rw [tN, t6]; omega)
          have iA : wA = w := (Prod.mk.inj hr).2
          have b := refN wA (by rw [iA]) hB'
          obtain ⟨_, hr2, _⟩ := eg226_151_36_1 b (by rw [tN, t6]; omega)
          exact bad _ hr hr2
      · obtain ⟨_, hr, _⟩ := eg140_0_26_2 a6 (by decide) (by rw [tm, tx3]; omega)
        have iA : wA = w := (Prod.mk.inj hr).2
        obtain ⟨zz, hz, b1⟩ := refIn wA (by rw [iA]) hB'
        rw [if_pos c2] at hz
        subst hz
        obtain ⟨_, hr2, _⟩ := eg226_151_22_2 b1 (by decide) (by rw [tm, tx3]; omega)
        exact bad _ hr hr2
    · rw [if_neg c2] at a6
      obtain ⟨_, hr, _⟩ := eg140_0_26_0 a6 (by decide)
      have iA : wA = w := (Prod.mk.inj hr).2
      obtain ⟨zz, hz, b1⟩ := refIn wA (by rw [iA]) hB'
      rw [if_neg c2] at hz
      subst hz
      obtain ⟨_, hr2, _⟩ := eg226_151_22_0 b1 (by decide)
      exact bad _ hr hr2
  · rw [if_neg c1] at a3
    obtain ⟨_, hr, _⟩ := eg140_0_16_0 a3 (by decide)
    have iA : wA = w := (Prod.mk.inj hr).2
    by_cases c2 : x1 ≤ 0
    · obtain ⟨_, hr2, _⟩ := eg226_151_0_0 hB' (by rw [tx1, t0]; exact c2)
      exact bad _ hr hr2
    · obtain ⟨m, hm⟩ : ∃ m : Nat, x1 = (m : Int) := ⟨x1.toNat, by omega⟩
      subst hm
      have e5 : ec_rd wA 152 (ec_tw 5) = (bn : Int) := by
        show ef_a wA 152 5 = _
        rw [iA]
        exact hbB
      have l := eg226_151_0_1 hB'
      have dv : 0 < m / 2 ^ bn := Nat.div_pos (by omega) pp
      have dl : m / 2 ^ bn ≤ m := Nat.div_le_self _ _
      rw [e5, tx1, t0, ec_shrN (by omega) (by omega), ec_twn (n := m / 2 ^ bn) (by omega)] at l
      obtain ⟨_, hr2, _⟩ := l (by omega) (by omega)
      exact bad _ hr hr2

end
