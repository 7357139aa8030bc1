noncomputable section
/-! reach, at the law's head -/
theorem ef_RC_s {S : List Nat} {w w' : px_W} (hs : ef_s S w w') (hS : ∀ k ∈ S, (k ≠ 0 ∧ k ≠ 151 ∧ k ≠ 152 ∧ k ≠ 153) ∧ (k < 15 ∨ 27 < k) ∧ (k < 73 ∨ 85 < k)) (h : ef_RC w) : ef_RC w' := ⟨ef_cr_s hs (fun k hk e => by have := (hS _ e).2.1; omega) (fun e => (hS 152 e).1.2.2.1 rfl) h.1, ef_kc_s hs (fun k hk => ⟨⟨(hS k hk).1.1, (hS k hk).1.2.1, (hS k hk).1.2.2.2⟩, (hS k hk).2.2⟩) h.2⟩
theorem ew_reach2 {xs : List Int32} {n : Nat} {w wA wB : px_W} {vA vB : Option Value} {x1 x2 : Int} (hR : ef_RC w) (r1 : -2147483648 ≤ x1 ∧ x1 ≤ 2147483647) (r2 : -2147483648 ≤ x2 ∧ x2 ≤ 2147483647) (hA : ec_F (hb_XL xs) n 132 [.inr (.inl 64), .inl x1, .inl x2] w (vA, wA)) (hB : ec_F (hb_XL xs) n 211 [.inr (.inl 215), .inl x1, .inl x2] wA (vB, wB)) : vA = vB ∧ ef_RC wB := by
  obtain ⟨c, c1, c2, c3, c4⟩ := hR.1.1
  obtain ⟨g, g1, g2, g3, g4⟩ := hR.1.2.1
  have q4 : ∀ i, i < c → (0 ≤ ef_a w 16 i ∧ ef_a w 16 i ≤ 7 ∧ ef_a w 16 i = ef_a w 152 (128 + 4 * i)) ∧ (0 ≤ ef_a w 17 i ∧ ef_a w 17 i ≤ 7 ∧ ef_a w 17 i = ef_a w 152 (128 + 4 * i + 1)) ∧ (1 ≤ ef_a w 18 i ∧ ef_a w 18 i ≤ 20 ∧ ef_a w 18 i = ef_a w 152 (128 + 4 * i + 2)) ∧ (0 ≤ ef_a w 19 i ∧ ef_a w 19 i ≤ 999 ∧ ef_a w 19 i = ef_a w 152 (128 + 4 * i + 3)) := by
    intro i hi
    have e0 := c4 i hi 0 (by decide)
    have e1 := c4 i hi 1 (by decide)
    have e2 := c4 i hi 2 (by decide)
    have e3 := c4 i hi 3 (by decide)
    exact ⟨⟨e0.2.1, e0.2.2, e0.1⟩, ⟨e1.2.1, e1.2.2, e1.1⟩, ⟨e2.2.1, e2.2.2, e2.1⟩, ⟨e3.2.1, e3.2.2, e3.1⟩⟩
  have p4 : ∀ i, i < g → (0 ≤ ef_a w 22 i ∧ ef_a w 22 i ≤ 7 ∧ ef_a w 22 i = ef_a w 152 (176 + 4 * i + 2)) ∧ (0 ≤ ef_a w 23 i ∧ ef_a w 23 i ≤ 999 ∧ ef_a w 23 i = ef_a w 152 (176 + 4 * i + 3)) := by
    intro i hi
    have e2 := g4 i hi 2 (by decide)
    have e3 := g4 i hi 3 (by decide)
    exact ⟨⟨e2.2.1, e2.2.2, e2.1⟩, ⟨e3.2.1, e3.2.2, e3.1⟩⟩
  have hD : ef_D c (fun i => (ef_a w 16 i).toNat) (fun i => (ef_a w 17 i).toNat) (ef_a w 18) (ef_a w 19) := ⟨c1, fun i hi => by
    obtain ⟨a1, a2, a3, a4⟩ := q4 i hi
    refine ⟨?_, ?_, ⟨by omega, a3.2.1⟩, a4.1, a4.2.1⟩
    · show (ef_a w 16 i).toNat < 8
      omega
    · show (ef_a w 17 i).toNat < 8
      omega⟩
  have hDA : ef_DA w c (fun i => (ef_a w 16 i).toNat) (fun i => (ef_a w 17 i).toNat) (ef_a w 18) (ef_a w 19) := ⟨c2, fun i hi => by
    obtain ⟨a1, a2, a3, a4⟩ := q4 i hi
    refine ⟨?_, ?_, rfl, rfl⟩
    · show ef_a w 16 i = ((ef_a w 16 i).toNat : Int)
      omega
    · show ef_a w 17 i = ((ef_a w 17 i).toNat : Int)
      omega⟩
  have hDB : ef_DB w c (fun i => (ef_a w 16 i).toNat) (fun i => (ef_a w 17 i).toNat) (ef_a w 18) (ef_a w 19) := ⟨c3, fun i hi => by
    obtain ⟨a1, a2, a3, a4⟩ := q4 i hi
    refine ⟨?_, ?_, a3.2.2.symm, a4.2.2.symm⟩
    · show ef_a w 152 (128 + 4 * i) = ((ef_a w 16 i).toNat : Int)
      omega
    · show ef_a w 152 (128 + 4 * i + 1) = ((ef_a w 17 i).toNat : Int)
      omega⟩
  have hG : ef_G g (fun i => (ef_a w 22 i).toNat) (ef_a w 23) := ⟨g1, fun i hi => by
    obtain ⟨a1, a2⟩ := p4 i hi
    refine ⟨?_, a2.1, a2.2.1⟩
    show (ef_a w 22 i).toNat < 8
    omega⟩
  have hGA : ef_GA w g (fun i => (ef_a w 22 i).toNat) (ef_a w 23) := ⟨g2, fun i hi => by
    obtain ⟨a1, a2⟩ := p4 i hi
    refine ⟨?_, rfl⟩
    show ef_a w 22 i = ((ef_a w 22 i).toNat : Int)
    omega⟩
  have hGB : ef_GB w g (fun i => (ef_a w 22 i).toNat) (ef_a w 23) := ⟨g3, fun i hi => by
    obtain ⟨a1, a2⟩ := p4 i hi
    refine ⟨?_, a2.2.2.symm⟩
    show ef_a w 152 (176 + 4 * i + 2) = ((ef_a w 22 i).toNat : Int)
    omega⟩
  obtain ⟨w1, e1, W1, s1⟩ := ew_reachA hD hDA hG hGA r1 r2 (hb_FE hA)
  injection e1 with e1 e1'
  subst e1'
  have d1 : ef_a wA 152 = ef_a w 152 := ef_s_a s1 (by decide)
  obtain ⟨w2, e2, W2, s2⟩ := ew_reachB hD (ef_DB_s hDB s1 (by decide)) hG (by unfold ef_GB; rw [d1]; exact hGB) r1 r2 (hb_FE hB)
  injection e2 with e2 e2'
  subst e2'
  exact ⟨e1.trans e2.symm, ef_RC_s s2 (by decide) (ef_RC_s s1 (by decide) hR)⟩

end
