noncomputable section
/-! RULES: version on both sides -/
theorem ek_ver2 {xs : List Int32} {n : Nat} {w wA wB : px_W} {vA vB : Option Value} {x1 x2 : Int} (hI : hb_I0 w) (hR : ek_RR w) (r1 : -2147483648 ≤ x1 ∧ x1 ≤ 2147483647) (r2 : -2147483648 ≤ x2 ∧ x2 ≤ 2147483647) (hA : ec_F (hb_XL xs) n 156 [.inr (.inl 64), .inl x1, .inl x2] w (vA, wA)) (hB : ec_F (hb_XL xs) n 262 [.inr (.inl 215), .inl x1, .inl x2] wA (vB, wB)) : vA = vB ∧ ek_RR wB := by
  obtain ⟨c, hc6, h44', h10', hv⟩ := hR.2.1.1
  have h44 : ec_fd w 44 0 = (c : Int) := h44'
  have h10 : ef_a w 152 10 = (c : Int) := h10'
  have tx1 : ec_tw x1 = x1 := ec_tw_id r1.1 r1.2
  have tx2 : ec_tw x2 = x2 := ec_tw_id r2.1 r2.2
  have t0 : ec_tw 0 = 0 := rfl
  have t1 : ec_tw 1 = 1 := rfl
  have t10 : ec_tw 10 = 10 := rfl
  have t10' : ec_tw 10 = ((10 : Nat) : Int) := rfl
  have tc : ec_tw ((c : Int) - 1) = (c : Int) - 1 := ec_tw_id (by omega) (by omega)
  obtain ⟨_, u1, w1, a1, a2⟩ := eg156_0_0_0 (hb_FE hA)
  obtain ⟨e1, W1⟩ := ew_within a1
  rw [h44, tx1, t0, tc] at e1
  injection e1 with e1 i1
  rw [i1] at a2
  have a3 := a2 _ e1 W1
  -- the reference's first question
  have refQ : ∀ y : px_W, ef_a y 152 = ef_a w 152 → ec_E hb_X n 262 0 [(0, .inr (.inl 215)), (1, .inl x1), (2, .inl x2)] [] y (vB, wB) → ec_E hb_X n 262 14 [(0, .inr (.inl 215)), (1, .inl x1), (2, .inl x2)] [.inl (if 0 ≤ x1 ∧ x1 ≤ (c : Int) - 1 then 1 else 0)] y (vB, wB) := by
    intro y dy hy
    have d10 : ec_rd y 152 ((10 : Nat) : Int) = (c : Int) := (congrFun dy 10).trans h10
    obtain ⟨_, u, y1, b1, b2⟩ := eg262_151_0_0 hy
    rw [t10', d10] at b1
    obtain ⟨e, W⟩ := ew_in b1
    rw [tx1, t0, tc] at e
    injection e with e i
    rw [i] at b2
    exact b2 _ e W
  by_cases p : 0 ≤ x1 ∧ x1 ≤ (c : Int) - 1
  · rw [if_pos p] at a3
    obtain ⟨v, hv'⟩ : ∃ v : Nat, x1 = (v : Int) := ⟨x1.toNat, by omega⟩
    subst hv'
    have hvc : v < c := by omega
    obtain ⟨q45', N, t, hN, hS, ht, hrd⟩ := hv v hvc
    have q45 : ef_a w 45 v = ef_a w 152 (368 + v) := q45'
    have hS' : ef_a w 152 (374 + v) = (N : Int) := hS
    have ht' : ∀ y, y < N → ef_a w 152 (380 + 200 * v + y) = t y ∧ 0 ≤ t y ∧ t y ≤ 255 := ht
    obtain ⟨H0, eH⟩ : ∃ H : Bool, ec_fd w 151 32 = (if H = true then 1 else 0) := ⟨_, ev_h32 hI⟩
    obtain ⟨a, q, erd, kl, _⟩ := hrd H0 (ef_a w 169)
    have hl8 : q.1.length ≤ 8 := er_rd_len 8 0 [] [] a q erd
    have l46 : ef_a w 46 v = (q.1.length : Int) := kl.1
    have l47 : ∀ i, i < q.1.length → ef_a w 47 (v * 8 + i) = (q.1.map (fun q => q.1)).getD i 0 := fun i hi => (kl.2 i hi).1
    have tv : ec_tw (v : Int) = v := ec_twn (by omega)
    -- the reference, behind the class
    have ref : wA = w → ∃ w2 : px_W, ek_RR w2 ∧ er_RS w2 q.1 ∧ ef_a w2 152 = ef_a w 152 ∧ ec_E hb_X n 262 42 [(0, .inr (.inl 215)), (1, .inl (v : Int)), (2, .inl x2)] [] w2 (vB, wB) := by
      intro ew
      have hB' := hb_FE hB
      rw [ew] at hB'
      have b := refQ w rfl hB'
      rw [if_pos p] at b
      have l := eg262_151_14_0 b (by decide)
      have ep : 374 + (v : Int) = ((374 + v : Nat) : Int) := by omega
      have ep2 : 380 + 200 * (v : Int) = ((380 + 200 * v : Nat) : Int) := by omega
      rw [ep, ec_twn (n := 374 + v) (by omega), ef_rd w 152 (374 + v), hS', ep2] at l
      obtain ⟨_, u, w2, b1, b2⟩ := l
      obtain ⟨g1, g2, g3, g4, g5⟩ := ew_rv hN (by omega) ht' hR.2.2.2 eH rfl rfl erd b1
      exact ⟨w2, ek_f g3 g4 hR, g5, ef_s_a g3 (by decide), b2 g1 g2⟩
    by_cases p0 : x2 = 0
    · have l := eg156_0_14_2 a3 (by decide)
      rw [tx2, t0, tv, ef_rd w 46 v, l46] at l
      obtain ⟨_, hr, hW⟩ := l p0
      injection hr with f1 g1
      obtain ⟨w2, R2, S2, d2, h42⟩ := ref g1
      have m := eg262_151_42_1 h42
      rw [tx2, t0, S2.1.1] at m
      obtain ⟨_, hr2, _⟩ := m p0 p0
      injection hr2 with f2 g2
      rw [g2]
      exact ⟨f1.trans f2.symm, R2⟩
    · by_cases p1 : x2 = 1
      · have l := eg156_0_14_1 a3 (by decide)
        rw [tx2, t0, t1, tv, ef_rd w 45 v, q45] at l
        obtain ⟨_, hr, hW⟩ := l p0 p1
        injection hr with f1 g1
        obtain ⟨w2, R2, S2, d2, h42⟩ := ref g1
        have m := eg262_151_42_3 h42
        have ep : 368 + (v : Int) = ((368 + v : Nat) : Int) := by omega
        rw [tx2, t0, t1, ep, ec_twn (n := 368 + v) (by omega), ef_rd w2 152 (368 + v), d2] at m
        obtain ⟨_, hr2, _⟩ := m p0 p1 p0
        injection hr2 with f2 g2
        rw [g2]
        exact ⟨f1.trans f2.symm, R2⟩
      · have l := eg156_0_14_0 a3 (by decide)
        rw [tx2, t0, t1, tv, ef_rd w 46 v, l46] at l
        obtain ⟨_, u2, w3, b1, b2⟩ := l p0 p1
        have tl : ec_tw (9 + (q.1.length : Int)) = 9 + (q.1.length : Int) := ec_tw_id (by omega) (by omega)
        obtain ⟨e3, W3⟩ := ew_within b1
        rw [tx2, t10, tl] at e3
        injection e3 with e3 i3
        rw [i3] at b2
        have b3 := b2 _ e3 W3
        -- the reference's second question
        have refR : wA = w → ∃ w2 : px_W, ek_RR w2 ∧ er_RS w2 q.1 ∧ ec_E hb_X n 262 86 [(0, .inr (.inl 215)), (1, .inl (v : Int)), (2, .inl x2)] [.inl (if 10 ≤ x2 ∧ x2 ≤ 9 + (q.1.length : Int) then 1 else 0)] w2 (vB, wB) := by
          intro ew
          obtain ⟨w2, R2, S2, d2, h42⟩ := ref ew
          have m := eg262_151_42_2 h42
          rw [tx2, t0, t1, S2.1.1] at m
          obtain ⟨_, u4, w4, c1, c2⟩ := m p0 p1
          obtain ⟨e4, W4⟩ := ew_in c1
          rw [tx2, t10, tl] at e4
          injection e4 with e4 i4
          rw [i4] at c2
          exact ⟨w2, R2, S2, c2 _ e4 W4⟩
        by_cases p2 : 10 ≤ x2 ∧ x2 ≤ 9 + (q.1.length : Int)
        · rw [if_pos p2] at b3
          obtain ⟨i, hi⟩ : ∃ i : Nat, x2 = 10 + (i : Int) := ⟨(x2 - 10).toNat, by omega⟩
          have hil : i < q.1.length := by omega
          have l := eg156_0_66_1 b3 (by decide)
          have ep : (v : Int) * 8 + x2 - 10 = ((v * 8 + i : Nat) : Int) := by omega
          rw [ep, ec_twn (n := v * 8 + i) (by omega), ef_rd w 47 (v * 8 + i), l47 i hil] at l
          obtain ⟨_, hr, _⟩ := l
          injection hr with f1 g1
          obtain ⟨w2, R2, S2, h86⟩ := refR g1
          rw [if_pos p2] at h86
          have m := eg262_151_86_1 h86 (by decide)
          have ep2 : x2 - 10 = ((i : Nat) : Int) := by omega
          rw [ep2, ec_twn (n := i) (by omega), ef_rd w2 170 i, S2.1.2 i hil] at m
          obtain ⟨_, hr2, _⟩ := m
          injection hr2 with f2 g2
          rw [g2]
          exact ⟨f1.trans f2.symm, R2⟩
        · rw [if_neg p2] at b3
          obtain ⟨_, hr, _⟩ := eg156_0_66_0 b3 rfl
          injection hr with f1 g1
          obtain ⟨w2, R2, S2, h86⟩ := refR g1
          rw [if_neg p2] at h86
          obtain ⟨_, hr2, _⟩ := eg262_151_86_0 h86 rfl
          injection hr2 with f2 g2
          rw [g2]
          exact ⟨f1.trans f2.symm, R2⟩
  · rw [if_neg p] at a3
    obtain ⟨_, hr, _⟩ := eg156_0_14_3 a3 rfl
    injection hr with f1 g1
    have hB' := hb_FE hB
    rw [g1] at hB'
    have b := refQ w rfl hB'
    rw [if_neg p] at b
    obtain ⟨_, hr2, _⟩ := eg262_151_14_1 b rfl
    injection hr2 with f2 g2
    rw [g2]
    exact ⟨f1.trans f2.symm, hR⟩

end
