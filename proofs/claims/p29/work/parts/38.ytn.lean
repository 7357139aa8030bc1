noncomputable section
/-! SURE on both sides -/
theorem es_bs_nat (h : Nat → Bool) : ∀ s : Nat, s ≤ 6 → ∃ m : Nat, m < 2 ^ s ∧ es_bs h s = (m : Int)
  | 0, _ => ⟨0, by decide, rfl⟩
  | s + 1, hs => by
    obtain ⟨m, hm, e⟩ := es_bs_nat h s (by omega)
    have p : 2 ^ (s + 1) = 2 ^ s + 2 ^ s := by
      rw [Nat.pow_succ]
      omega
    have b : 2 ^ s ≤ 2 ^ 6 := Nat.pow_le_pow_right (n := 2) (by decide) (by omega)
    have b6 : (2 : Nat) ^ 6 = 64 := rfl
    rw [es_bs_s, e]
    by_cases q : h s = true
    · rw [if_pos q, ec_shl1 s (by omega), ec_or1 s (by omega) m hm]
      exact ⟨m + 2 ^ s, by omega, rfl⟩
    · rw [if_neg q, ec_or_0]
      exact ⟨m, by omega, ec_twn (by omega)⟩
def eo_cn (m : Nat) : Nat → Nat
  | 0 => 0
  | j + 1 => eo_cn m j + (if Nat.testBit m j = true then 1 else 0)
def eq_bc (x : Int) : Int := ec_and (((ec_and (((ec_and (x - (ec_and (ec_ush x 1) 1431655765)) 858993459) + (ec_and (ec_ush (x - (ec_and (ec_ush x 1) 1431655765)) 2) 858993459)) + (ec_ush ((ec_and (x - (ec_and (ec_ush x 1) 1431655765)) 858993459) + (ec_and (ec_ush (x - (ec_and (ec_ush x 1) 1431655765)) 2) 858993459)) 4)) 252645135) + (ec_ush (ec_and (((ec_and (x - (ec_and (ec_ush x 1) 1431655765)) 858993459) + (ec_and (ec_ush (x - (ec_and (ec_ush x 1) 1431655765)) 2) 858993459)) + (ec_ush ((ec_and (x - (ec_and (ec_ush x 1) 1431655765)) 858993459) + (ec_and (ec_ush (x - (ec_and (ec_ush x 1) 1431655765)) 2) 858993459)) 4)) 252645135) 8)) + (ec_ush ((ec_and (((ec_and (x - (ec_and (ec_ush x 1) 1431655765)) 858993459) + (ec_and (ec_ush (x - (ec_and (ec_ush x 1) 1431655765)) 2) 858993459)) + (ec_ush ((ec_and (x - (ec_and (ec_ush x 1) 1431655765)) 858993459) + (ec_and (ec_ush (x - (ec_and (ec_ush x 1) 1431655765)) 2) 858993459)) 4)) 252645135) + (ec_ush (ec_and (((ec_and (x - (ec_and (ec_ush x 1) 1431655765)) 858993459) + (ec_and (ec_ush (x - (ec_and (ec_ush x 1) 1431655765)) 2) 858993459)) + (ec_ush ((ec_and (x - (ec_and (ec_ush x 1) 1431655765)) 858993459) + (ec_and (ec_ush (x - (ec_and (ec_ush x 1) 1431655765)) 2) 858993459)) 4)) 252645135) 8)) 16)) 63
theorem ew_bc {n : Nat} {w w1 : px_W} {v : Option Value} {x0 : Int} (h : ec_E hb_X n 294 0 [(0, .inl x0)] [] w (v, w1)) : w = w1 ∧ ec_W hb_A w1 ∧ v = ec_R (eq_bc x0) := by
  obtain ⟨_, e, W⟩ := eg294_0_0 h
  injection e with e1 e2
  rw [e2]
  exact ⟨rfl, W, e1⟩
theorem ew_on4 {m : Nat} (hm : m < 256) : ∀ (k n j : Nat) (w w1 : px_W) (v : Option Value), j + k = 30 → ec_E hb_X n 200 4 [(0, .inl (m : Int)), (1, .inl (eo_cn m j : Int)), (2, .inl (j : Int))] [] w (v, w1) → w = w1 ∧ ec_W hb_A w1 ∧ v = ec_R (eo_cn m 30 : Int) := by
  intro k
  induction k with
  | zero =>
    intro n j w w1 v hj h
    have ej : j = 30 := by omega
    rw [ej] at h
    obtain ⟨_, hr, hW⟩ := eg200_4_0 h (Int.le_refl _)
    injection hr with e1 e2
    rw [e2]
    exact ⟨rfl, hW, e1⟩
  | succ k ih =>
    intro n j w w1 v hj h
    have t30 : ec_tw 30 = 30 := rfl
    have l := eg200_4_1 h
    rw [ec_bit (by omega) (by omega), ec_twn (n := j) (by omega), t30] at l
    have h2 := (l (by omega)).2
    have e : (eo_cn m j : Int) + (if Nat.testBit m j = true then 1 else 0) = (eo_cn m (j + 1) : Int) := by
      show _ = ((eo_cn m j + (if Nat.testBit m j = true then 1 else 0) : Nat) : Int)
      by_cases q : Nat.testBit m j = true
      · rw [if_pos q, if_pos q]
        omega
      · rw [if_neg q, if_neg q]
        omega
    rw [e] at h2
    exact ih n (j + 1) w w1 v (by omega) h2
theorem ew_ones {n m : Nat} {w w1 : px_W} {v : Option Value} (hm : m < 256) (h : ec_E hb_X n 200 0 [(0, .inl (m : Int))] [] w (v, w1)) : w = w1 ∧ ec_W hb_A w1 ∧ v = ec_R (eo_cn m 30 : Int) := ew_on4 hm 30 n 0 w w1 v (by omega) (eg200_0_0 h).2
theorem es_one : ∀ m : Nat, m < 64 → eq_bc (m : Int) = (eo_cn m 30 : Int) ∧ eo_cn m 30 ≤ 30 ∧ (eo_cn m 30 = 1 → m = 1 ∨ m = 2 ∨ m = 4 ∨ m = 8 ∨ m = 16 ∨ m = 32) := by decide +kernel
theorem es_pw {m : Nat} (hm : m < 64) (h : eo_cn m 30 = 1) : ∃ j : Nat, j < 6 ∧ m = 2 ^ j := by
  rcases (es_one m hm).2.2 h with e | e | e | e | e | e
  · exact ⟨0, by decide, e⟩
  · exact ⟨1, by decide, e⟩
  · exact ⟨2, by decide, e⟩
  · exact ⟨3, by decide, e⟩
  · exact ⟨4, by decide, e⟩
  · exact ⟨5, by decide, e⟩
theorem es_b1 : ∀ j : Nat, j < 6 → ∀ i : Nat, i < j → ec_tw (ec_and (ec_shr ((2 ^ j : Nat) : Int) (i : Int)) 1) = ec_tw 0 ∧ ec_tw (ec_shr ((2 ^ j : Nat) : Int) (i : Int)) ≠ ec_tw 1 := by decide +kernel
theorem es_b2 : ∀ j : Nat, j < 6 → ec_tw (ec_and (ec_shr ((2 ^ j : Nat) : Int) (j : Int)) 1) ≠ ec_tw 0 ∧ ec_tw (ec_shr ((2 ^ j : Nat) : Int) (j : Int)) = ec_tw 1 := by decide +kernel
section ES5
variable {n s k l L j : Nat} {w w1 : px_W} {v : Option Value}
theorem ew_low (hj : j < 6) (h : ec_E hb_X n 175 0 [(0, .inl ((2 ^ j : Nat) : Int))] [] w (v, w1)) : (v, w1) = (ec_R (j : Int), w) ∧ ec_W hb_A w := by
  have t31 : ec_tw 31 = 31 := rfl
  have lp : ∀ (d i : Nat), i + d = j → ec_E hb_X n 175 2 [(0, .inl ((2 ^ j : Nat) : Int)), (1, .inl (i : Int))] [] w (v, w1) → (v, w1) = (ec_R (j : Int), w) ∧ ec_W hb_A w := by
    intro d
    induction d with
    | zero =>
      intro i hi h
      have e : i = j := by omega
      rw [e] at h
      have l1 := eg175_2_1 h
      rw [ec_twn (n := j) (by omega), t31] at l1
      obtain ⟨_, hr, hW⟩ := l1 (by omega) (es_b2 j hj).1
      exact ⟨hr, hW⟩
    | succ d ih =>
      intro i hi h
      have l1 := eg175_2_2 h
      rw [ec_twn (n := i) (by omega), t31] at l1
      exact ih (i + 1) (by omega) (l1 (by omega) (es_b1 j hj i (by omega)).1).2
  exact lp j 0 (by omega) (eg175_0_0 h).2
theorem ew_su29 {x1 : Int} (hj : j < 6) (h : ec_E hb_X n 240 29 [(0, .inr (.inl 215)), (1, .inl x1), (2, .inl ((2 ^ j : Nat) : Int)), (3, .inl 0)] [] w (v, w1)) : (v, w1) = (ec_R (j : Int), w) ∧ ec_W hb_A w := by
  have lp : ∀ (d i : Nat), i + d = j → ec_E hb_X n 240 29 [(0, .inr (.inl 215)), (1, .inl x1), (2, .inl ((2 ^ j : Nat) : Int)), (3, .inl (i : Int))] [] w (v, w1) → (v, w1) = (ec_R (j : Int), w) ∧ ec_W hb_A w := by
    intro d
    induction d with
    | zero =>
      intro i hi h
      have e : i = j := by omega
      rw [e] at h
      obtain ⟨_, hr, hW⟩ := eg240_151_29_0 h (es_b2 j hj).2
      exact ⟨hr, hW⟩
    | succ d ih =>
      intro i hi h
      exact ih (i + 1) (by omega) (eg240_151_29_1 h (es_b1 j hj i (by omega)).2).2
  exact lp j 0 (by omega) h
/-- what a set of SHIPS, as bits, is SURE of -/
def es_su (m : Nat) : Int := if eo_cn m 30 = 1 then (Nat.log2 m : Int) else -3
theorem es_su1 : ∀ j : Nat, j < 6 → es_su (2 ^ j) = (j : Int) := by decide +kernel
theorem ew_sureA {x1 : Int} (r1 : -2147483648 ≤ x1 ∧ x1 ≤ 2147483647) (hS : es_S w s k) (hT : es_T w s L) (h : ec_E hb_X n 148 0 [(0, .inr (.inl 64)), (1, .inl x1)] [] w (v, w1)) : w1 = w ∧ ((¬ (0 ≤ x1 ∧ x1 ≤ (L : Int) - 1) ∧ v = ec_R (-1)) ∨ ((0 ≤ x1 ∧ x1 ≤ (L : Int) - 1) ∧ ∃ m : Nat, m < 64 ∧ es_bs (es_mb w k x1.toNat) s = (m : Int) ∧ v = ec_R (es_su m))) := by
  have hs := hS.1
  have hL := hT.2.2.1
  have h1 := hT.2.2.2.1
  have t0 : ec_tw 0 = 0 := rfl
  have t1 : ec_tw 1 = 1 := rfl
  have tx : ec_tw x1 = x1 := ec_tw_id r1.1 r1.2
  have ts : ec_tw ((L : Int) - 1) = (L : Int) - 1 := ec_tw_id (by omega) (by omega)
  obtain ⟨_, u, y, a1, a2⟩ := eg148_0_0_0 h
  obtain ⟨e, W⟩ := ew_within a1
  rw [h1, t0, tx, ts] at e
  injection e with e iy
  rw [iy] at a2
  have b := a2 _ e W
  by_cases p : 0 ≤ x1 ∧ x1 ≤ (L : Int) - 1
  · rw [if_pos p] at b
    obtain ⟨_, u2, y2, a3, a4⟩ := eg148_0_14_0 b (by decide)
    have ex : x1 = ((x1.toNat : Nat) : Int) := by omega
    have a3' : ec_E hb_X n 95 0 [(0, .inr (.inl 93)), (1, .inl ((x1.toNat : Nat) : Int))] [] w (u2, y2) := by
      rw [← ex]
      exact a3
    obtain ⟨e3, W3⟩ := ew_soA hS hT (by omega) a3'
    injection e3 with e3 i3
    rw [i3] at a4
    obtain ⟨m, hm', em⟩ := es_bs_nat (es_mb w k x1.toNat) s hs
    have b6 : 2 ^ s ≤ 2 ^ 6 := Nat.pow_le_pow_right (n := 2) (by decide) hs
    have b7 : (2 : Nat) ^ 6 = 64 := rfl
    have hm : m < 64 := by omega
    rw [em] at e3
    obtain ⟨_, u4, y4, a5, a6⟩ := eg148_0_27_0 (a4 _ e3 W3)
    obtain ⟨i5, W5, e5⟩ := ew_bc a5
    rw [← i5] at a6 W5
    obtain ⟨o1, o2, o3⟩ := es_one m hm
    rw [o1] at e5
    have b5 := a6 _ e5 W5
    have k0 := eg148_0_32_0 b5
    have k1 := eg148_0_32_1 b5
    rw [ec_twn (n := eo_cn m 30) (by omega), t1] at k0 k1
    by_cases q : eo_cn m 30 = 1
    · obtain ⟨j, hj, ej⟩ := es_pw hm q
      obtain ⟨_, u6, y6, a7, a8⟩ := k1 (by omega)
      rw [ej] at a7
      obtain ⟨e7, W7⟩ := ew_low hj a7
      injection e7 with e7 i7
      rw [i7] at a8
      obtain ⟨_, hr, _⟩ := eg148_0_40_0 (a8 _ e7 W7)
      injection hr with f1 f2
      refine ⟨f2, .inr ⟨p, m, hm, em, ?_⟩⟩
      rw [ej, es_su1 j hj]
      exact f1
    · obtain ⟨_, hr, _⟩ := k0 (by omega)
      injection hr with f1 f2
      refine ⟨f2, .inr ⟨p, m, hm, em, ?_⟩⟩
      unfold es_su
      rw [if_neg q]
      exact f1
  · rw [if_neg p] at b
    obtain ⟨_, hr, _⟩ := eg148_0_14_1 b rfl
    injection hr with f1 f2
    exact ⟨f2, .inl ⟨p, f1⟩⟩
theorem ew_sureB {x1 : Int} (r1 : -2147483648 ≤ x1 ∧ x1 ≤ 2147483647) (hS : es_S w s k) (hT : es_T w s L) (h : ec_E hb_X n 240 0 [(0, .inr (.inl 215)), (1, .inl x1)] [] w (v, w1)) : w1 = w ∧ ((¬ (0 ≤ x1 ∧ x1 ≤ (L : Int) - 1) ∧ v = ec_R (-1)) ∨ ((0 ≤ x1 ∧ x1 ≤ (L : Int) - 1) ∧ ∃ m : Nat, m < 64 ∧ es_bs (es_mb w k x1.toNat) s = (m : Int) ∧ v = ec_R (es_su m))) := by
  have hs := hS.1
  have hL := hT.2.2.1
  have t1 : ec_tw 1 = 1 := rfl
  obtain ⟨_, u, y, a1, a2⟩ := eg240_151_0_0 h
  obtain ⟨iy, W, e⟩ := ew_isLB hL hT.2.2.2.2.1 r1 a1
  rw [← iy] at a2 W
  have b := a2 _ e W
  by_cases p : 0 ≤ x1 ∧ x1 ≤ (L : Int) - 1
  · rw [if_pos p] at b
    obtain ⟨_, u2, y2, a3, a4⟩ := eg240_151_5_0 b (by decide)
    have ex : x1 = ((x1.toNat : Nat) : Int) := by omega
    have a3' : ec_E hb_X n 238 0 [(0, .inr (.inl 215)), (1, .inl ((x1.toNat : Nat) : Int))] [] w (u2, y2) := by
      rw [← ex]
      exact a3
    obtain ⟨e3, W3⟩ := ew_soB hS hT (by omega) a3'
    injection e3 with e3 i3
    rw [i3] at a4
    obtain ⟨m, hm', em⟩ := es_bs_nat (es_mb w k x1.toNat) s hs
    have b6 : 2 ^ s ≤ 2 ^ 6 := Nat.pow_le_pow_right (n := 2) (by decide) hs
    have b7 : (2 : Nat) ^ 6 = 64 := rfl
    have hm : m < 64 := by omega
    rw [em] at e3
    obtain ⟨_, u4, y4, a5, a6⟩ := eg240_151_15_0 (a4 _ e3 W3)
    obtain ⟨i5, W5, e5⟩ := ew_ones (by omega) a5
    rw [← i5] at a6 W5
    obtain ⟨o1, o2, o3⟩ := es_one m hm
    have b5 := a6 _ e5 W5
    have k0 := eg240_151_20_0 b5
    have k1 := eg240_151_20_1 b5
    rw [ec_twn (n := eo_cn m 30) (by omega), t1] at k0 k1
    by_cases q : eo_cn m 30 = 1
    · obtain ⟨j, hj, ej⟩ := es_pw hm q
      have c0 := (k0 (by omega)).2
      rw [ej] at c0
      obtain ⟨hr, _⟩ := ew_su29 hj c0
      injection hr with f1 f2
      refine ⟨f2, .inr ⟨p, m, hm, em, ?_⟩⟩
      rw [ej, es_su1 j hj]
      exact f1
    · obtain ⟨_, hr, _⟩ := k1 (by omega)
      injection hr with f1 f2
      refine ⟨f2, .inr ⟨p, m, hm, em, ?_⟩⟩
      unfold es_su
      rw [if_neg q]
      exact f1
  · rw [if_neg p] at b
    obtain ⟨_, hr, _⟩ := eg240_151_5_1 b rfl
    injection hr with f1 f2
    exact ⟨f2, .inl ⟨p, f1⟩⟩
end ES5
theorem es_sure2 {xs : List Int32} {n : Nat} {w wA wB : px_W} {vA vB : Option Value} {x1 : Int} (hR : es_RR w) (r1 : -2147483648 ≤ x1 ∧ x1 ≤ 2147483647) (hA : ec_F (hb_XL xs) n 148 [.inr (.inl 64), .inl x1] w (vA, wA)) (hB : ec_F (hb_XL xs) n 240 [.inr (.inl 215), .inl x1] wA (vB, wB)) : vA = vB ∧ es_RR wB := by
  obtain ⟨s, k, l, hS, hT⟩ := es_T_of hR
  obtain ⟨eA, fA⟩ := ew_sureA r1 hS hT (hb_FE hA)
  rw [eA] at hB
  obtain ⟨eB, fB⟩ := ew_sureB r1 hS hT (hb_FE hB)
  rw [eB]
  refine ⟨?_, hR⟩
  rcases fA with ⟨pA, eA⟩ | ⟨pA, m, _, qA, eA⟩
  · rcases fB with ⟨_, eB⟩ | ⟨pB, _⟩
    · exact eA.trans eB.symm
    · exact absurd pB pA
  · rcases fB with ⟨pB, _⟩ | ⟨_, m', _, qB, eB⟩
    · exact absurd pA pB
    · have e : m = m' := by
        rw [qA] at qB
        omega
      rw [eA, eB, e]

end
