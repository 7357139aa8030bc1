noncomputable section
/-! can, at the law's head -/
theorem ef_data {w : px_W} (hR : ef_RC w) : ∃ (c gn bn : Nat) (A B Pl Bp : Nat → Nat) (Mi Ti To : Nat → Int), (ef_D c A B Mi Ti ∧ ef_DA w c A B Mi Ti ∧ ef_DB w c A B Mi Ti) ∧ (ef_G gn Pl To ∧ ef_GA w gn Pl To ∧ ef_GB w gn Pl To) ∧ (bn ≤ 8 ∧ ec_fd w 15 10 = (bn : Int) ∧ ef_a w 152 5 = (bn : Int)) ∧ (∀ b, b < bn → (ef_a w 25 b = (Bp b : Int) ∧ Bp b < 8 ∧ ef_a w 152 (216 + 4 * b + 1) = (Bp b : Int)) ∧ (ef_a w 26 b = ef_a w 152 (216 + 4 * b + 2) ∧ 0 ≤ ef_a w 26 b ∧ ef_a w 26 b ≤ 999) ∧ (ef_a w 27 b = ef_a w 152 (216 + 4 * b + 3) ∧ 0 ≤ ef_a w 27 b ∧ ef_a w 27 b ≤ 1) ∧ ef_a w 24 b = ef_a w 152 (216 + 4 * b) ∧ 1 ≤ ef_a w 24 b ∧ ef_a w 24 b ≤ 65) ∧ ∀ g, g < gn → (ef_a w 21 g = ef_a w 152 (176 + 4 * g + 1) ∧ 0 ≤ ef_a w 21 g ∧ ef_a w 21 g ≤ 2) ∧ ef_a w 20 g = ef_a w 152 (176 + 4 * g) ∧ 1 ≤ ef_a w 20 g ∧ ef_a w 20 g ≤ 50 := by
  obtain ⟨c, c1, c2, c3, c4⟩ := hR.1.1
  obtain ⟨g, g1, g2, g3, g4⟩ := hR.1.2.1
  obtain ⟨b, b1, b2, b3, b4⟩ := hR.1.2.2
  have q4 : ∀ i, i < c → (0 ≤ ef_a w 16 i ∧ ef_a w 16 i ≤ 7 ∧ ef_a w 16 i = ef_a w 152 (128 + 4 * i)) ∧ (0 ≤ ef_a w 17 i ∧ ef_a w 17 i ≤ 7 ∧ ef_a w 17 i = ef_a w 152 (128 + 4 * i + 1)) ∧ (1 ≤ ef_a w 18 i ∧ ef_a w 18 i ≤ 20 ∧ ef_a w 18 i = ef_a w 152 (128 + 4 * i + 2)) ∧ (0 ≤ ef_a w 19 i ∧ ef_a w 19 i ≤ 999 ∧ ef_a w 19 i = ef_a w 152 (128 + 4 * i + 3)) := by
    intro i hi
    have e0 := c4 i hi 0 (by decide)
    have e1 := c4 i hi 1 (by decide)
    have e2 := c4 i hi 2 (by decide)
    have e3 := c4 i hi 3 (by decide)
    exact ⟨⟨e0.2.1, e0.2.2, e0.1⟩, ⟨e1.2.1, e1.2.2, e1.1⟩, ⟨e2.2.1, e2.2.2, e2.1⟩, ⟨e3.2.1, e3.2.2, e3.1⟩⟩
  have p4 : ∀ i, i < g → (1 ≤ ef_a w 20 i ∧ ef_a w 20 i ≤ 50 ∧ ef_a w 20 i = ef_a w 152 (176 + 4 * i)) ∧ (0 ≤ ef_a w 21 i ∧ ef_a w 21 i ≤ 2 ∧ ef_a w 21 i = ef_a w 152 (176 + 4 * i + 1)) ∧ (0 ≤ ef_a w 22 i ∧ ef_a w 22 i ≤ 7 ∧ ef_a w 22 i = ef_a w 152 (176 + 4 * i + 2)) ∧ (0 ≤ ef_a w 23 i ∧ ef_a w 23 i ≤ 999 ∧ ef_a w 23 i = ef_a w 152 (176 + 4 * i + 3)) := by
    intro i hi
    have e0 := g4 i hi 0 (by decide)
    have e1 := g4 i hi 1 (by decide)
    have e2 := g4 i hi 2 (by decide)
    have e3 := g4 i hi 3 (by decide)
    exact ⟨⟨e0.2.1, e0.2.2, e0.1⟩, ⟨e1.2.1, e1.2.2, e1.1⟩, ⟨e2.2.1, e2.2.2, e2.1⟩, ⟨e3.2.1, e3.2.2, e3.1⟩⟩
  have r4 : ∀ i, i < b → (1 ≤ ef_a w 24 i ∧ ef_a w 24 i ≤ 65 ∧ ef_a w 24 i = ef_a w 152 (216 + 4 * i)) ∧ (0 ≤ ef_a w 25 i ∧ ef_a w 25 i ≤ 7 ∧ ef_a w 25 i = ef_a w 152 (216 + 4 * i + 1)) ∧ (0 ≤ ef_a w 26 i ∧ ef_a w 26 i ≤ 999 ∧ ef_a w 26 i = ef_a w 152 (216 + 4 * i + 2)) ∧ (0 ≤ ef_a w 27 i ∧ ef_a w 27 i ≤ 1 ∧ ef_a w 27 i = ef_a w 152 (216 + 4 * i + 3)) := by
    intro i hi
    have e0 := b4 i hi 0 (by decide)
    have e1 := b4 i hi 1 (by decide)
    have e2 := b4 i hi 2 (by decide)
    have e3 := b4 i hi 3 (by decide)
    exact ⟨⟨e0.2.1, e0.2.2, e0.1⟩, ⟨e1.2.1, e1.2.2, e1.1⟩, ⟨e2.2.1, e2.2.2, e2.1⟩, ⟨e3.2.1, e3.2.2, e3.1⟩⟩
  refine ⟨c, g, b, fun i => (ef_a w 16 i).toNat, fun i => (ef_a w 17 i).toNat, fun i => (ef_a w 22 i).toNat, fun i => (ef_a w 25 i).toNat, ef_a w 18, ef_a w 19, ef_a w 23, ⟨⟨c1, fun i hi => ?_⟩, ⟨c2, fun i hi => ?_⟩, ⟨c3, fun i hi => ?_⟩⟩, ⟨⟨g1, fun i hi => ?_⟩, ⟨g2, fun i hi => ?_⟩, ⟨g3, fun i hi => ?_⟩⟩, ⟨b1, b2, b3⟩, fun i hi => ?_, fun i hi => ?_⟩
  · obtain ⟨a1, a2, a3, a4⟩ := q4 i hi
    refine ⟨?_, ?_, ⟨by omega, a3.2.1⟩, a4.1, a4.2.1⟩
    · show (ef_a w 16 i).toNat < 8
      omega
    · show (ef_a w 17 i).toNat < 8
      omega
  · obtain ⟨a1, a2, a3, a4⟩ := q4 i hi
    refine ⟨?_, ?_, rfl, rfl⟩
    · show ef_a w 16 i = ((ef_a w 16 i).toNat : Int)
      omega
    · show ef_a w 17 i = ((ef_a w 17 i).toNat : Int)
      omega
  · obtain ⟨a1, a2, a3, a4⟩ := q4 i hi
    refine ⟨?_, ?_, a3.2.2.symm, a4.2.2.symm⟩
    · show ef_a w 152 (128 + 4 * i) = ((ef_a w 16 i).toNat : Int)
      omega
    · show ef_a w 152 (128 + 4 * i + 1) = ((ef_a w 17 i).toNat : Int)
      omega
  · obtain ⟨a0, a1, a2, a3⟩ := p4 i hi
    refine ⟨?_, a3.1, a3.2.1⟩
    show (ef_a w 22 i).toNat < 8
    omega
  · obtain ⟨a0, a1, a2, a3⟩ := p4 i hi
    refine ⟨?_, rfl⟩
    show ef_a w 22 i = ((ef_a w 22 i).toNat : Int)
    omega
  · obtain ⟨a0, a1, a2, a3⟩ := p4 i hi
    refine ⟨?_, a3.2.2.symm⟩
    show ef_a w 152 (176 + 4 * i + 2) = ((ef_a w 22 i).toNat : Int)
    omega
  · obtain ⟨a0, a1, a2, a3⟩ := r4 i hi
    refine ⟨⟨?_, ?_, ?_⟩, ⟨a2.2.2, a2.1, a2.2.1⟩, ⟨a3.2.2, a3.1, a3.2.1⟩, a0.2.2, a0.1, a0.2.1⟩
    · show ef_a w 25 i = ((ef_a w 25 i).toNat : Int)
      omega
    · show (ef_a w 25 i).toNat < 8
      omega
    · show ef_a w 152 (216 + 4 * i + 1) = ((ef_a w 25 i).toNat : Int)
      omega
  · obtain ⟨a0, a1, a2, a3⟩ := p4 i hi
    exact ⟨⟨a1.2.2, a1.1, a1.2.1⟩, a0.2.2, a0.1, a0.2.1⟩
theorem ew_can2 {xs : List Int32} {n : Nat} {w wA wB : px_W} {vA vB : Option Value} {x1 : Int} (hR : ef_RC w) (r1 : -2147483648 ≤ x1 ∧ x1 ≤ 2147483647) (hA : ec_F (hb_XL xs) n 134 [.inr (.inl 64), .inl x1] w (vA, wA)) (hB : ec_F (hb_XL xs) n 216 [.inr (.inl 215), .inl x1] wA (vB, wB)) : vA = vB ∧ ef_RC wB := by
  obtain ⟨c, gn, bn, A, B, Pl, Bp, Mi, Ti, To, ⟨hD, hDA, hDB⟩, ⟨hG, hGA, hGB⟩, ⟨hbn, hbA, hbB⟩, hb, hg⟩ := ef_data hR
  have g10 := hG.1
  have t0 : ec_tw 0 = 0 := rfl
  have tg : ec_tw ((gn : Int) - 1) = (gn : Int) - 1 := ec_tw_id (by omega) (by omega)
  have tx : ec_tw x1 = x1 := ec_tw_id r1.1 r1.2
  obtain ⟨_, v1, w1, a1, a2⟩ := eg134_0_0_0 (hb_FE hA)
  obtain ⟨e1, W1⟩ := ew_within a1
  rw [hGA.1, tg, t0, tx] at e1
  injection e1 with e1 i1
  have i1 := i1.symm
  subst i1
  have a3 := a2 _ e1 W1
  by_cases cg : 0 ≤ x1 ∧ x1 ≤ (gn : Int) - 1
  · rw [if_pos cg] at a3
    obtain ⟨_, v2, w2, a4, a5⟩ := eg134_0_14_0 a3 (by decide)
    obtain ⟨w2', e2, W2, s2, _, _, _, _, f2⟩ := ew_loadf hD hDA hG hGA hbn hbA (fun b hb' => ⟨(hb b hb').1.1, (hb b hb').1.2.1⟩) a4
    injection e2 with e2 i2
    subst i2
    obtain ⟨g, rfl⟩ : ∃ g : Nat, x1 = g := ⟨x1.toNat, by omega⟩
    have k1 := eg134_0_30_0 (a5 e2 W2)
    rw [tx, ef_rd, f2 g (by omega)] at k1
    obtain ⟨_, hr, hW⟩ := k1
    injection hr with hr1 hr2
    have hr2 := hr2.symm
    subst hr2
    have d1 : ef_a w2 152 = ef_a w 152 := ef_s_a s2 (by decide)
    obtain ⟨_, u1, y1, m1, m2⟩ := eg216_151_0_0 (hb_FE hB)
    obtain ⟨e3, W3⟩ := ew_isGroup m1
    rw [d1, hGB.1, tg, tx] at e3
    injection e3 with e3 i3
    have i3 := i3.symm
    subst i3
    have m3 := m2 _ e3 W3
    rw [if_pos cg] at m3
    obtain ⟨_, u2, y2, m4, m5⟩ := eg216_151_5_0 m3 (by decide)
    obtain ⟨y2', e4, W4, s4, f4⟩ := ew_layB (bn := bn) hbn (by rw [d1]; exact hbB) m4
    injection e4 with e4 i4
    subst i4
    obtain ⟨_, u3, y3, m6, m7⟩ := eg216_151_14_0 (m5 e4 W4)
    have d2 : ef_a y2 152 = ef_a w 152 := (ef_s_a s4 (by decide)).trans d1
    obtain ⟨y3', e5, W5, s5, f5, _⟩ := ew_findCan (bn := bn) (Bp := Bp) (Lo := ef_a w 26) hD (by unfold ef_DB; rw [d2]; exact hDB) hG (by unfold ef_GB; rw [d2]; exact hGB) hbn (by rw [d2]; exact hbB) (fun b hb' => by rw [d2]; exact ⟨(hb b hb').1.2.2, (hb b hb').1.2.1⟩) (fun b hb' => ⟨by rw [f4 b hb', d1]; exact (hb b hb').2.1.1.symm, Int.le_trans (hb b hb').2.1.2.2 (by decide)⟩) (fun g hg' => by rw [d2, ← (hg g hg').1.1]; exact (hg g hg').1.2.2) m6
    injection e5 with e5 i5
    subst i5
    have k2 := eg216_151_18_0 (m7 e5 W5)
    rw [tx, ef_rd, (f5 g (by omega)).1, d2] at k2
    obtain ⟨_, hr, hW'⟩ := k2
    injection hr with hr3 hr4
    have hr4 := hr4.symm
    subst hr4
    refine ⟨?_, ef_RC_s s5 (by decide) (ef_RC_s s4 (by decide) (ef_RC_s s2 (by decide) hR))⟩
    rw [hr1, hr3]
    congr 1
    refine ef_cb_cg bn 0 0 (fun j _ hj => ?_)
    have hj' := hb j (by omega)
    have hg' := hg g (by omega)
    unfold ef_er
    rw [hj'.2.2.1.1, hg'.1.1]
  · rw [if_neg cg] at a3
    obtain ⟨_, hr, hW⟩ := eg134_0_14_1 a3 rfl
    injection hr with hr1 hr2
    have hr2 := hr2.symm
    subst hr2
    obtain ⟨_, u1, y1, m1, m2⟩ := eg216_151_0_0 (hb_FE hB)
    obtain ⟨e3, W3⟩ := ew_isGroup m1
    rw [hGB.1, tg, tx] at e3
    injection e3 with e3 i3
    have i3 := i3.symm
    subst i3
    have m3 := m2 _ e3 W3
    rw [if_neg cg] at m3
    obtain ⟨_, hr, hW'⟩ := eg216_151_5_1 m3 rfl
    injection hr with hr3 hr4
    rw [hr1, hr3, hr4]
    exact ⟨rfl, hR⟩

end
