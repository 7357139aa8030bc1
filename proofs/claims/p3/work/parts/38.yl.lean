noncomputable section
/-! ONE MORE WAY, GROUP, BOAT ON BOTH SIDES -/
theorem ef_a_pf_o {w : px_W} {k k' f : Nat} {z : Int} (h : k ≠ k') : ef_a (ec_pf w k f z) k' = ef_a w k' := funext (fun p => ec_rd_pf_o h)
def ef_X (x1 x2 x3 x4 : Int) (j : Nat) : Int := if j = 0 then ec_tw x1 else if j = 1 then ec_tw x2 else if j = 2 then ec_tw x3 else ec_tw x4
theorem hb_FE {xs : List Int32} {n j : Nat} {as : List ec_V} {w : px_W} {r : Option Value × px_W} (h : ec_F (hb_XL xs) n j as w r) : ec_E hb_X n j 0 (ec_args 0 as) [] w r := ec_FE h
/-- class and reference, one behind the other, at the law's head -/
def hb_ok (xs : List Int32) (RR : px_W → Prop) (mA mB : Nat) (asA asB : List ec_V) (cmp : Bool) : Prop := ∀ (n : Nat) (w wA : px_W) (vA : Option Value), hb_I0 w → RR w → ec_F (hb_XL xs) n mA asA w (vA, wA) → ∃ x : Int, vA = ec_R x ∧ ec_W hb_A wA ∧ ∀ (vB : Option Value) (wB : px_W), ec_F (hb_XL xs) n mB asB wA (vB, wB) → ∃ y : Int, vB = ec_R y ∧ ec_W hb_A wB ∧ hb_I0 wB ∧ RR wB ∧ (cmp = true → ec_tw x = ec_tw y)
theorem ef_cr_s {S : List Nat} {w w' : px_W} {o dc : Nat} (hs : ef_s S w w') (ho : ∀ k, k ≤ 12 → o + k ∉ S) (hd : dc ∉ S) (h : ef_cr w o dc) : ef_cr w' o dc := ef_cr_st (fun f _ => ef_s_f hs (ho 0 (by omega)) f) (fun k p h1 h2 _ => congrFun (ef_s_a hs (ho k h2)) p) (fun p _ _ _ => congrFun (ef_s_a hs hd) p) h
theorem ef_kc_s {S : List Nat} {w w' : px_W} (hs : ef_s S w w') (hS : ∀ k ∈ S, (k ≠ 0 ∧ k ≠ 151 ∧ k ≠ 153) ∧ (k < 73 ∨ 85 < k)) (h : ef_kc w) : ef_kc w' := by
  have k1 : ec_fd w' 0 14 = ec_fd w 0 14 := ef_s_f hs (fun e => (hS 0 e).1.1 rfl) 14
  have k2 : ec_fd w' 151 2 = ec_fd w 151 2 := ef_s_f hs (fun e => (hS 151 e).1.2.1 rfl) 2
  rcases h with ⟨h1, h2⟩ | ⟨h1, h2, h3⟩
  · exact .inl ⟨k1.trans h1, k2.trans h2⟩
  · exact .inr ⟨k1.trans h1, k2.trans h2, ef_cr_s hs (fun k hk e => by have := (hS _ e).2; omega) (fun e => (hS 153 e).1.2.2 rfl) h3⟩
theorem ef_copy_kept {w w' : px_W} (h : ef_kept w w') : (∀ f, (f = 0 ∨ f = 5 ∨ f = 10) → ec_fd w' 73 f = ec_fd w 15 f) ∧ ∀ k, 1 ≤ k → k ≤ 12 → ef_a w' (73 + k) = ef_a w (15 + k) := by
  obtain ⟨_, q0, q1, q2, q3, q4, q5, q6, q7, q8, q9, q10, q11, q12, q13, q14, q15, q16, q17, q18, q19, q20, q21, q22, q23, q24, q25, q26, q27, q28, q29, q30, q31, q32, q33, q34, q35, q36, q37, q38, q39, q40, q41, q42, q43, q44, q45, q46, q47, q48, q49, q50, q51, q52, q53, q54, q55, q56⟩ := h
  refine ⟨fun f hf => ?_, fun k h1 h2 => ?_⟩
  · rcases hf with rfl | rfl | rfl
    · exact q25
    · exact q26
    · exact q27
  · have hk : k = 1 ∨ k = 2 ∨ k = 3 ∨ k = 4 ∨ k = 5 ∨ k = 6 ∨ k = 7 ∨ k = 8 ∨ k = 9 ∨ k = 10 ∨ k = 11 ∨ k = 12 := by omega
    rcases hk with rfl | rfl | rfl | rfl | rfl | rfl | rfl | rfl | rfl | rfl | rfl | rfl
    · exact q13
    · exact q14
    · exact q15
    · exact q16
    · exact q17
    · exact q18
    · exact q19
    · exact q20
    · exact q21
    · exact q22
    · exact q23
    · exact q24
theorem ef_copy_back {w w' : px_W} (h : ef_back w w') : (∀ f, (f = 0 ∨ f = 5 ∨ f = 10) → ec_fd w' 15 f = ec_fd w 73 f) ∧ ∀ k, 1 ≤ k → k ≤ 12 → ef_a w' (15 + k) = ef_a w (73 + k) := by
  obtain ⟨_, q0, q1, q2, q3, q4, q5, q6, q7, q8, q9, q10, q11, q12, q13, q14, q15, q16, q17, q18, q19, q20, q21, q22, q23, q24, q25, q26, q27, q28, q29, q30, q31, q32, q33, q34, q35, q36, q37, q38, q39, q40, q41, q42, q43, q44, q45, q46, q47, q48, q49, q50, q51, q52, q53, q54, q55, q56⟩ := h
  refine ⟨fun f hf => ?_, fun k h1 h2 => ?_⟩
  · rcases hf with rfl | rfl | rfl
    · exact q25
    · exact q26
    · exact q27
  · have hk : k = 1 ∨ k = 2 ∨ k = 3 ∨ k = 4 ∨ k = 5 ∨ k = 6 ∨ k = 7 ∨ k = 8 ∨ k = 9 ∨ k = 10 ∨ k = 11 ∨ k = 12 := by omega
    rcases hk with rfl | rfl | rfl | rfl | rfl | rfl | rfl | rfl | rfl | rfl | rfl | rfl
    · exact q13
    · exact q14
    · exact q15
    · exact q16
    · exact q17
    · exact q18
    · exact q19
    · exact q20
    · exact q21
    · exact q22
    · exact q23
    · exact q24
theorem ef_addway_ok {w : px_W} {c : Nat} {x1 x2 x3 x4 : Int} (hW : ec_W hb_A w) (hc : c < 12) : ef_s [15, 16, 17, 18, 19] w (ef_addwayA w (c : Int) x1 x2 x3 x4) ∧ (∀ g, ec_fd (ef_addwayA w (c : Int) x1 x2 x3 x4) 15 g = if g = 0 then (c : Int) + 1 else ec_fd w 15 g) ∧ ∀ j i, j < 4 → ef_a (ef_addwayA w (c : Int) x1 x2 x3 x4) (16 + j) i = if i = c then ef_X x1 x2 x3 x4 j else ef_a w (16 + j) i := by
  unfold ef_addwayA
  have W0 := hW
  have W1 : ec_W hb_A (ec_wr (w) 16 (c : Int) x1) := ec_W_wr W0
  have W2 : ec_W hb_A (ec_wr (ec_wr (w) 16 (c : Int) x1) 17 (c : Int) x2) := ec_W_wr W1
  have W3 : ec_W hb_A (ec_wr (ec_wr (ec_wr (w) 16 (c : Int) x1) 17 (c : Int) x2) 18 (c : Int) x3) := ec_W_wr W2
  have W4 : ec_W hb_A (ec_wr (ec_wr (ec_wr (ec_wr (w) 16 (c : Int) x1) 17 (c : Int) x2) 18 (c : Int) x3) 19 (c : Int) x4) := ec_W_wr W3
  refine ⟨ef_s_trans (ef_s_trans (ef_s_trans (ef_s_trans (ef_s_trans (ef_s_refl) (ef_s_wr (by decide))) (ef_s_wr (by decide))) (ef_s_wr (by decide))) (ef_s_wr (by decide))) (ef_s_pf (by decide)), fun g => ?_, fun j i hj => ?_⟩
  · rw [ec_fd_pf (k := 15) (f := 0) W4 rfl (by decide), ec_tw_id (by omega) (by omega), ec_fd_wr_o (by decide), ec_fd_wr_o (by decide), ec_fd_wr_o (by decide), ec_fd_wr_o (by decide)]
  · have hj4 : j = 0 ∨ j = 1 ∨ j = 2 ∨ j = 3 := by omega
    rcases hj4 with rfl | rfl | rfl | rfl
    · show ef_a _ 16 i = if i = c then ec_tw x1 else ef_a w 16 i
      rw [ef_a_pf_o (by decide), ef_a_wr_o (by decide), ef_a_wr_o (by decide), ef_a_wr_o (by decide), ef_a_wr (n := 12) W0 rfl (by omega) (by omega)]
      rfl
    · show ef_a _ 17 i = if i = c then ec_tw x2 else ef_a w 17 i
      rw [ef_a_pf_o (by decide), ef_a_wr_o (by decide), ef_a_wr_o (by decide), ef_a_wr (n := 12) W1 rfl (by omega) (by omega), ef_a_wr_o (by decide)]
      rfl
    · show ef_a _ 18 i = if i = c then ec_tw x3 else ef_a w 18 i
      rw [ef_a_pf_o (by decide), ef_a_wr_o (by decide), ef_a_wr (n := 12) W2 rfl (by omega) (by omega), ef_a_wr_o (by decide), ef_a_wr_o (by decide)]
      rfl
    · show ef_a _ 19 i = if i = c then ec_tw x4 else ef_a w 19 i
      rw [ef_a_pf_o (by decide), ef_a_wr (n := 12) W3 rfl (by omega) (by omega), ef_a_wr_o (by decide), ef_a_wr_o (by decide), ef_a_wr_o (by decide)]
      rfl
theorem ew_way2 {xs : List Int32} {x1 x2 x3 x4 : Int} {n : Nat} {w wA wB : px_W} {vA vB : Option Value} (hR : ef_RC w) (hA : ec_F (hb_XL xs) n 130 [.inr (.inl 64), .inl x1, .inl x2, .inl x3, .inl x4] w (vA, wA)) (hB : ec_F (hb_XL xs) n 206 [.inr (.inl 215), .inl x1, .inl x2, .inl x3, .inl x4] wA (vB, wB)) : ef_RC wB := by
  obtain ⟨c, c1, c2, c3, c4⟩ := hR.1.1
  have hWw := hA.1
  obtain ⟨v, w', e, hW, hcase⟩ := ew_wayA (hb_FE hA)
  injection e with e e'
  subst e'
  rw [c2] at hcase
  rcases hcase with ⟨n1, n2⟩ | ⟨n1, n2⟩
  · have n3 := n2.symm
    subst n3
    obtain ⟨v2, w2, e2, hW2, hcase2⟩ := ew_wayB c3 c1 (hb_FE hB)
    injection e2 with e2 e2'
    subst e2'
    rcases hcase2 with ⟨m1, m2⟩ | ⟨m1, m2⟩
    · rw [m2]
      exact hR
    · exact absurd ⟨m1.1, by omega⟩ n1
  · obtain ⟨s1, f1, r1⟩ := ef_addway_ok (w := w) (c := c) (x1 := x1) (x2 := x2) (x3 := x3) (x4 := x4) hWw (by omega)
    rw [← n2] at s1 f1 r1
    have d1 : ef_a wA 152 = ef_a w 152 := ef_s_a s1 (by decide)
    obtain ⟨v2, w2, e2, hW2, hcase2⟩ := ew_wayB (c := c) (by rw [d1]; exact c3) c1 (hb_FE hB)
    injection e2 with e2 e2'
    subst e2'
    rcases hcase2 with ⟨m1, m2⟩ | ⟨m1, s2, p2⟩
    · exact absurd ⟨n1.1, by omega⟩ m1
    · have ok := m1.1
      unfold ef_okway at ok
      have g3 : ∀ p, ef_a wB 152 p = if p = 3 then (c : Int) + 1 else if 128 + 4 * c ≤ p ∧ p < 128 + 4 * c + 4 then ef_X x1 x2 x3 x4 (p - (128 + 4 * c)) else ef_a w 152 p := by
        intro p
        rw [p2 p, d1]
        unfold ef_X
        by_cases q0 : p = 3
        · rw [if_pos q0, if_pos q0]
        · rw [if_neg q0, if_neg q0]
          by_cases q1 : p = 128 + 4 * c
          · rw [if_pos q1, if_pos (by omega), if_pos (by omega)]
          · rw [if_neg q1]
            by_cases q2 : p = 128 + 4 * c + 1
            · rw [if_pos q2, if_pos (by omega), if_neg (by omega), if_pos (by omega)]
            · rw [if_neg q2]
              by_cases q3 : p = 128 + 4 * c + 2
              · rw [if_pos q3, if_pos (by omega), if_neg (by omega), if_neg (by omega), if_pos (by omega)]
              · rw [if_neg q3]
                by_cases q4 : p = 128 + 4 * c + 3
                · rw [if_pos q4, if_pos (by omega), if_neg (by omega), if_neg (by omega), if_neg (by omega)]
                · rw [if_neg q4, if_neg (by omega)]
      have g1 : ∀ g, ec_fd wB 15 g = if g = 0 then (c : Int) + 1 else ec_fd w 15 g := fun g => (ef_s_f s2 (by decide) g).trans (f1 g)
      have g2 : ∀ j i, j < 4 → ef_a wB (16 + j) i = if i = c then ef_X x1 x2 x3 x4 j else ef_a w (16 + j) i := fun j i hj => (congrFun (ef_s_a s2 (by simp only [List.mem_singleton]; omega)) i).trans (r1 j i hj)
      have hX : ∀ j, j < 4 → (ef_Rw j).1 ≤ ef_X x1 x2 x3 x4 j ∧ ef_X x1 x2 x3 x4 j ≤ (ef_Rw j).2 := by
        intro j hj
        have hj4 : j = 0 ∨ j = 1 ∨ j = 2 ∨ j = 3 := by omega
        unfold ef_Rw ef_4 ef_X
        rcases hj4 with rfl | rfl | rfl | rfl
        · show 0 ≤ ec_tw x1 ∧ ec_tw x1 ≤ 7
          omega
        · show 0 ≤ ec_tw x2 ∧ ec_tw x2 ≤ 7
          omega
        · show 1 ≤ ec_tw x3 ∧ ec_tw x3 ≤ 20
          omega
        · show 0 ≤ ec_tw x4 ∧ ec_tw x4 ≤ 999
          omega
      exact ⟨⟨ef_tb_add (f := 0) (rb := 16) (mx := 12) (cn := 3) (bs := 128) (w1 := w) c2 (by omega) hX (by rw [g1, if_pos rfl]) g2 g3 (by decide) ⟨c, c1, c2, c3, c4⟩, ef_tb_ot (f := 0) (rb := 16) (mx := 12) (cn := 3) (bs := 128) (by rw [g1, if_neg (by decide)]) (fun j i hj => congrFun ((ef_s_a s2 (by simp only [List.mem_singleton]; omega)).trans (ef_s_a s1 (by simp only [List.mem_cons, List.not_mem_nil, or_false]; omega))) i) g3 (by omega) (by decide) (by decide) (by decide) (by decide) (by decide) (by decide) hR.1.2.1, ef_tb_ot (f := 0) (rb := 16) (mx := 12) (cn := 3) (bs := 128) (by rw [g1, if_neg (by decide)]) (fun j i hj => congrFun ((ef_s_a s2 (by simp only [List.mem_singleton]; omega)).trans (ef_s_a s1 (by simp only [List.mem_cons, List.not_mem_nil, or_false]; omega))) i) g3 (by omega) (by decide) (by decide) (by decide) (by decide) (by decide) (by decide) hR.1.2.2⟩, ef_kc_s s2 (by decide) (ef_kc_s s1 (by decide) hR.2)⟩
theorem ef_addgroup_ok {w : px_W} {c : Nat} {x1 x2 x3 x4 : Int} (hW : ec_W hb_A w) (hc : c < 10) : ef_s [15, 20, 21, 22, 23] w (ef_addgroupA w (c : Int) x1 x2 x3 x4) ∧ (∀ g, ec_fd (ef_addgroupA w (c : Int) x1 x2 x3 x4) 15 g = if g = 5 then (c : Int) + 1 else ec_fd w 15 g) ∧ ∀ j i, j < 4 → ef_a (ef_addgroupA w (c : Int) x1 x2 x3 x4) (20 + j) i = if i = c then ef_X x1 x2 x3 x4 j else ef_a w (20 + j) i := by
  unfold ef_addgroupA
  have W0 := hW
  have W1 : ec_W hb_A (ec_wr (w) 20 (c : Int) x1) := ec_W_wr W0
  have W2 : ec_W hb_A (ec_wr (ec_wr (w) 20 (c : Int) x1) 21 (c : Int) x2) := ec_W_wr W1
  have W3 : ec_W hb_A (ec_wr (ec_wr (ec_wr (w) 20 (c : Int) x1) 21 (c : Int) x2) 22 (c : Int) x3) := ec_W_wr W2
  have W4 : ec_W hb_A (ec_wr (ec_wr (ec_wr (ec_wr (w) 20 (c : Int) x1) 21 (c : Int) x2) 22 (c : Int) x3) 23 (c : Int) x4) := ec_W_wr W3
  refine ⟨ef_s_trans (ef_s_trans (ef_s_trans (ef_s_trans (ef_s_trans (ef_s_refl) (ef_s_wr (by decide))) (ef_s_wr (by decide))) (ef_s_wr (by decide))) (ef_s_wr (by decide))) (ef_s_pf (by decide)), fun g => ?_, fun j i hj => ?_⟩
  · rw [ec_fd_pf (k := 15) (f := 5) W4 rfl (by decide), ec_tw_id (by omega) (by omega), ec_fd_wr_o (by decide), ec_fd_wr_o (by decide), ec_fd_wr_o (by decide), ec_fd_wr_o (by decide)]
  · have hj4 : j = 0 ∨ j = 1 ∨ j = 2 ∨ j = 3 := by omega
    rcases hj4 with rfl | rfl | rfl | rfl
    · show ef_a _ 20 i = if i = c then ec_tw x1 else ef_a w 20 i
      rw [ef_a_pf_o (by decide), ef_a_wr_o (by decide), ef_a_wr_o (by decide), ef_a_wr_o (by decide), ef_a_wr (n := 10) W0 rfl (by omega) (by omega)]
      rfl
    · show ef_a _ 21 i = if i = c then ec_tw x2 else ef_a w 21 i
      rw [ef_a_pf_o (by decide), ef_a_wr_o (by decide), ef_a_wr_o (by decide), ef_a_wr (n := 10) W1 rfl (by omega) (by omega), ef_a_wr_o (by decide)]
      rfl
    · show ef_a _ 22 i = if i = c then ec_tw x3 else ef_a w 22 i
      rw [ef_a_pf_o (by decide), ef_a_wr_o (by decide), ef_a_wr (n := 10) W2 rfl (by omega) (by omega), ef_a_wr_o (by decide), ef_a_wr_o (by decide)]
      rfl
    · show ef_a _ 23 i = if i = c then ec_tw x4 else ef_a w 23 i
      rw [ef_a_pf_o (by decide), ef_a_wr (n := 10) W3 rfl (by omega) (by omega), ef_a_wr_o (by decide), ef_a_wr_o (by decide), ef_a_wr_o (by decide)]
      rfl
theorem ew_group2 {xs : List Int32} {x1 x2 x3 x4 : Int} {n : Nat} {w wA wB : px_W} {vA vB : Option Value} (hR : ef_RC w) (hA : ec_F (hb_XL xs) n 131 [.inr (.inl 64), .inl x1, .inl x2, .inl x3, .inl x4] w (vA, wA)) (hB : ec_F (hb_XL xs) n 207 [.inr (.inl 215), .inl x1, .inl x2, .inl x3, .inl x4] wA (vB, wB)) : ef_RC wB := by
  obtain ⟨c, c1, c2, c3, c4⟩ := hR.1.2.1
  have hWw := hA.1
  obtain ⟨v, w', e, hW, hcase⟩ := ew_groupA (hb_FE hA)
  injection e with e e'
  subst e'
  rw [c2] at hcase
  rcases hcase with ⟨n1, n2⟩ | ⟨n1, n2⟩
  · have n3 := n2.symm
    subst n3
    obtain ⟨v2, w2, e2, hW2, hcase2⟩ := ew_groupB c3 c1 (hb_FE hB)
    injection e2 with e2 e2'
    subst e2'
    rcases hcase2 with ⟨m1, m2⟩ | ⟨m1, m2⟩
    · rw [m2]
      exact hR
    · exact absurd ⟨m1.1, by omega⟩ n1
  · obtain ⟨s1, f1, r1⟩ := ef_addgroup_ok (w := w) (c := c) (x1 := x1) (x2 := x2) (x3 := x3) (x4 := x4) hWw (by omega)
    rw [← n2] at s1 f1 r1
    have d1 : ef_a wA 152 = ef_a w 152 := ef_s_a s1 (by decide)
    obtain ⟨v2, w2, e2, hW2, hcase2⟩ := ew_groupB (c := c) (by rw [d1]; exact c3) c1 (hb_FE hB)
    injection e2 with e2 e2'
    subst e2'
    rcases hcase2 with ⟨m1, m2⟩ | ⟨m1, s2, p2⟩
    · exact absurd ⟨n1.1, by omega⟩ m1
    · have ok := m1.1
      unfold ef_okgroup at ok
      have g3 : ∀ p, ef_a wB 152 p = if p = 4 then (c : Int) + 1 else if 176 + 4 * c ≤ p ∧ p < 176 + 4 * c + 4 then ef_X x1 x2 x3 x4 (p - (176 + 4 * c)) else ef_a w 152 p := by
        intro p
        rw [p2 p, d1]
        unfold ef_X
        by_cases q0 : p = 4
        · rw [if_pos q0, if_pos q0]
        · rw [if_neg q0, if_neg q0]
          by_cases q1 : p = 176 + 4 * c
          · rw [if_pos q1, if_pos (by omega), if_pos (by omega)]
          · rw [if_neg q1]
            by_cases q2 : p = 176 + 4 * c + 1
            · rw [if_pos q2, if_pos (by omega), if_neg (by omega), if_pos (by omega)]
            · rw [if_neg q2]
              by_cases q3 : p = 176 + 4 * c + 2
              · rw [if_pos q3, if_pos (by omega), if_neg (by omega), if_neg (by omega), if_pos (by omega)]
              · rw [if_neg q3]
                by_cases q4 : p = 176 + 4 * c + 3
                · rw [if_pos q4, if_pos (by omega), if_neg (by omega), if_neg (by omega), if_neg (by omega)]
                · rw [if_neg q4, if_neg (by omega)]
      have g1 : ∀ g, ec_fd wB 15 g = if g = 5 then (c : Int) + 1 else ec_fd w 15 g := fun g => (ef_s_f s2 (by decide) g).trans (f1 g)
      have g2 : ∀ j i, j < 4 → ef_a wB (20 + j) i = if i = c then ef_X x1 x2 x3 x4 j else ef_a w (20 + j) i := fun j i hj => (congrFun (ef_s_a s2 (by simp only [List.mem_singleton]; omega)) i).trans (r1 j i hj)
      have hX : ∀ j, j < 4 → (ef_Rg j).1 ≤ ef_X x1 x2 x3 x4 j ∧ ef_X x1 x2 x3 x4 j ≤ (ef_Rg j).2 := by
        intro j hj
        have hj4 : j = 0 ∨ j = 1 ∨ j = 2 ∨ j = 3 := by omega
        unfold ef_Rg ef_4 ef_X
        rcases hj4 with rfl | rfl | rfl | rfl
        · show 1 ≤ ec_tw x1 ∧ ec_tw x1 ≤ 50
          omega
        · show 0 ≤ ec_tw x2 ∧ ec_tw x2 ≤ 2
          omega
        · show 0 ≤ ec_tw x3 ∧ ec_tw x3 ≤ 7
          omega
        · show 0 ≤ ec_tw x4 ∧ ec_tw x4 ≤ 999
          omega
      exact ⟨⟨ef_tb_ot (f := 5) (rb := 20) (mx := 10) (cn := 4) (bs := 176) (by rw [g1, if_neg (by decide)]) (fun j i hj => congrFun ((ef_s_a s2 (by simp only [List.mem_singleton]; omega)).trans (ef_s_a s1 (by simp only [List.mem_cons, List.not_mem_nil, or_false]; omega))) i) g3 (by omega) (by decide) (by decide) (by decide) (by decide) (by decide) (by decide) hR.1.1, ef_tb_add (f := 5) (rb := 20) (mx := 10) (cn := 4) (bs := 176) (w1 := w) c2 (by omega) hX (by rw [g1, if_pos rfl]) g2 g3 (by decide) ⟨c, c1, c2, c3, c4⟩, ef_tb_ot (f := 5) (rb := 20) (mx := 10) (cn := 4) (bs := 176) (by rw [g1, if_neg (by decide)]) (fun j i hj => congrFun ((ef_s_a s2 (by simp only [List.mem_singleton]; omega)).trans (ef_s_a s1 (by simp only [List.mem_cons, List.not_mem_nil, or_false]; omega))) i) g3 (by omega) (by decide) (by decide) (by decide) (by decide) (by decide) (by decide) hR.1.2.2⟩, ef_kc_s s2 (by decide) (ef_kc_s s1 (by decide) hR.2)⟩
theorem ef_addboat_ok {w : px_W} {c : Nat} {x1 x2 x3 x4 : Int} (hW : ec_W hb_A w) (hc : c < 8) : ef_s [15, 24, 25, 26, 27] w (ef_addboatA w (c : Int) x1 x2 x3 x4) ∧ (∀ g, ec_fd (ef_addboatA w (c : Int) x1 x2 x3 x4) 15 g = if g = 10 then (c : Int) + 1 else ec_fd w 15 g) ∧ ∀ j i, j < 4 → ef_a (ef_addboatA w (c : Int) x1 x2 x3 x4) (24 + j) i = if i = c then ef_X x1 x2 x3 x4 j else ef_a w (24 + j) i := by
  unfold ef_addboatA
  have W0 := hW
  have W1 : ec_W hb_A (ec_wr (w) 24 (c : Int) x1) := ec_W_wr W0
  have W2 : ec_W hb_A (ec_wr (ec_wr (w) 24 (c : Int) x1) 25 (c : Int) x2) := ec_W_wr W1
  have W3 : ec_W hb_A (ec_wr (ec_wr (ec_wr (w) 24 (c : Int) x1) 25 (c : Int) x2) 26 (c : Int) x3) := ec_W_wr W2
  have W4 : ec_W hb_A (ec_wr (ec_wr (ec_wr (ec_wr (w) 24 (c : Int) x1) 25 (c : Int) x2) 26 (c : Int) x3) 27 (c : Int) x4) := ec_W_wr W3
  refine ⟨ef_s_trans (ef_s_trans (ef_s_trans (ef_s_trans (ef_s_trans (ef_s_refl) (ef_s_wr (by decide))) (ef_s_wr (by decide))) (ef_s_wr (by decide))) (ef_s_wr (by decide))) (ef_s_pf (by decide)), fun g => ?_, fun j i hj => ?_⟩
  · rw [ec_fd_pf (k := 15) (f := 10) W4 rfl (by decide), ec_tw_id (by omega) (by omega), ec_fd_wr_o (by decide), ec_fd_wr_o (by decide), ec_fd_wr_o (by decide), ec_fd_wr_o (by decide)]
  · have hj4 : j = 0 ∨ j = 1 ∨ j = 2 ∨ j = 3 := by omega
    rcases hj4 with rfl | rfl | rfl | rfl
    · show ef_a _ 24 i = if i = c then ec_tw x1 else ef_a w 24 i
      rw [ef_a_pf_o (by decide), ef_a_wr_o (by decide), ef_a_wr_o (by decide), ef_a_wr_o (by decide), ef_a_wr (n := 8) W0 rfl (by omega) (by omega)]
      rfl
    · show ef_a _ 25 i = if i = c then ec_tw x2 else ef_a w 25 i
      rw [ef_a_pf_o (by decide), ef_a_wr_o (by decide), ef_a_wr_o (by decide), ef_a_wr (n := 8) W1 rfl (by omega) (by omega), ef_a_wr_o (by decide)]
      rfl
    · show ef_a _ 26 i = if i = c then ec_tw x3 else ef_a w 26 i
      rw [ef_a_pf_o (by decide), ef_a_wr_o (by decide), ef_a_wr (n := 8) W2 rfl (by omega) (by omega), ef_a_wr_o (by decide), ef_a_wr_o (by decide)]
      rfl
    · show ef_a _ 27 i = if i = c then ec_tw x4 else ef_a w 27 i
      rw [ef_a_pf_o (by decide), ef_a_wr (n := 8) W3 rfl (by omega) (by omega), ef_a_wr_o (by decide), ef_a_wr_o (by decide), ef_a_wr_o (by decide)]
      rfl
theorem ew_boat2 {xs : List Int32} {x1 x2 x3 x4 : Int} {n : Nat} {w wA wB : px_W} {vA vB : Option Value} (hR : ef_RC w) (hA : ec_F (hb_XL xs) n 133 [.inr (.inl 64), .inl x1, .inl x2, .inl x3, .inl x4] w (vA, wA)) (hB : ec_F (hb_XL xs) n 212 [.inr (.inl 215), .inl x1, .inl x2, .inl x3, .inl x4] wA (vB, wB)) : ef_RC wB := by
  obtain ⟨c, c1, c2, c3, c4⟩ := hR.1.2.2
  have hWw := hA.1
  obtain ⟨v, w', e, hW, hcase⟩ := ew_boatA (hb_FE hA)
  injection e with e e'
  subst e'
  rw [c2] at hcase
  rcases hcase with ⟨n1, n2⟩ | ⟨n1, n2⟩
  · have n3 := n2.symm
    subst n3
    obtain ⟨v2, w2, e2, hW2, hcase2⟩ := ew_boatB c3 c1 (hb_FE hB)
    injection e2 with e2 e2'
    subst e2'
    rcases hcase2 with ⟨m1, m2⟩ | ⟨m1, m2⟩
    · rw [m2]
      exact hR
    · exact absurd ⟨m1.1, by omega⟩ n1
  · obtain ⟨s1, f1, r1⟩ := ef_addboat_ok (w := w) (c := c) (x1 := x1) (x2 := x2) (x3 := x3) (x4 := x4) hWw (by omega)
    rw [← n2] at s1 f1 r1
    have d1 : ef_a wA 152 = ef_a w 152 := ef_s_a s1 (by decide)
    obtain ⟨v2, w2, e2, hW2, hcase2⟩ := ew_boatB (c := c) (by rw [d1]; exact c3) c1 (hb_FE hB)
    injection e2 with e2 e2'
    subst e2'
    rcases hcase2 with ⟨m1, m2⟩ | ⟨m1, s2, p2⟩
    · exact absurd ⟨n1.1, by omega⟩ m1
    · have ok := m1.1
      unfold ef_okboat at ok
      have g3 : ∀ p, ef_a wB 152 p = if p = 5 then (c : Int) + 1 else if 216 + 4 * c ≤ p ∧ p < 216 + 4 * c + 4 then ef_X x1 x2 x3 x4 (p - (216 + 4 * c)) else ef_a w 152 p := by
        intro p
        rw [p2 p, d1]
        unfold ef_X
        by_cases q0 : p = 5
        · rw [if_pos q0, if_pos q0]
        · rw [if_neg q0, if_neg q0]
          by_cases q1 : p = 216 + 4 * c
          · rw [if_pos q1, if_pos (by omega), if_pos (by omega)]
          · rw [if_neg q1]
            by_cases q2 : p = 216 + 4 * c + 1
            · rw [if_pos q2, if_pos (by omega), if_neg (by omega), if_pos (by omega)]
            · rw [if_neg q2]
              by_cases q3 : p = 216 + 4 * c + 2
              · rw [if_pos q3, if_pos (by omega), if_neg (by omega), if_neg (by omega), if_pos (by omega)]
              · rw [if_neg q3]
                by_cases q4 : p = 216 + 4 * c + 3
                · rw [if_pos q4, if_pos (by omega), if_neg (by omega), if_neg (by omega), if_neg (by omega)]
                · rw [if_neg q4, if_neg (by omega)]
      have g1 : ∀ g, ec_fd wB 15 g = if g = 10 then (c : Int) + 1 else ec_fd w 15 g := fun g => (ef_s_f s2 (by decide) g).trans (f1 g)
      have g2 : ∀ j i, j < 4 → ef_a wB (24 + j) i = if i = c then ef_X x1 x2 x3 x4 j else ef_a w (24 + j) i := fun j i hj => (congrFun (ef_s_a s2 (by simp only [List.mem_singleton]; omega)) i).trans (r1 j i hj)
      have hX : ∀ j, j < 4 → (ef_Rb j).1 ≤ ef_X x1 x2 x3 x4 j ∧ ef_X x1 x2 x3 x4 j ≤ (ef_Rb j).2 := by
        intro j hj
        have hj4 : j = 0 ∨ j = 1 ∨ j = 2 ∨ j = 3 := by omega
        unfold ef_Rb ef_4 ef_X
        rcases hj4 with rfl | rfl | rfl | rfl
        · show 1 ≤ ec_tw x1 ∧ ec_tw x1 ≤ 65
          omega
        · show 0 ≤ ec_tw x2 ∧ ec_tw x2 ≤ 7
          omega
        · show 0 ≤ ec_tw x3 ∧ ec_tw x3 ≤ 999
          omega
        · show 0 ≤ ec_tw x4 ∧ ec_tw x4 ≤ 1
          omega
      exact ⟨⟨ef_tb_ot (f := 10) (rb := 24) (mx := 8) (cn := 5) (bs := 216) (by rw [g1, if_neg (by decide)]) (fun j i hj => congrFun ((ef_s_a s2 (by simp only [List.mem_singleton]; omega)).trans (ef_s_a s1 (by simp only [List.mem_cons, List.not_mem_nil, or_false]; omega))) i) g3 (by omega) (by decide) (by decide) (by decide) (by decide) (by decide) (by decide) hR.1.1, ef_tb_ot (f := 10) (rb := 24) (mx := 8) (cn := 5) (bs := 216) (by rw [g1, if_neg (by decide)]) (fun j i hj => congrFun ((ef_s_a s2 (by simp only [List.mem_singleton]; omega)).trans (ef_s_a s1 (by simp only [List.mem_cons, List.not_mem_nil, or_false]; omega))) i) g3 (by omega) (by decide) (by decide) (by decide) (by decide) (by decide) (by decide) hR.1.2.1, ef_tb_add (f := 10) (rb := 24) (mx := 8) (cn := 5) (bs := 216) (w1 := w) c2 (by omega) hX (by rw [g1, if_pos rfl]) g2 g3 (by decide) ⟨c, c1, c2, c3, c4⟩⟩, ef_kc_s s2 (by decide) (ef_kc_s s1 (by decide) hR.2)⟩
theorem ew_keep2 {xs : List Int32} {n : Nat} {w wA wB : px_W} {vA vB : Option Value} (hR : ef_RC w) (hA : ec_F (hb_XL xs) n 171 [.inr (.inl 64)] w (vA, wA)) (hB : ec_F (hb_XL xs) n 292 [.inr (.inl 215)] wA (vB, wB)) : ef_RC wB := by
  obtain ⟨w1, e, hW, k1, hk⟩ := ew_keepA (hb_FE hA)
  injection e with e e'
  subst e'
  obtain ⟨w2, e2, hW2, s2, d2, f2⟩ := ew_keepB (hb_FE hB)
  injection e2 with e2 e2'
  subst e2'
  have s1 := hk.1
  have hc := ef_copy_kept hk
  refine ⟨ef_cr_s s2 (fun k hk e => by simp only [List.mem_cons, List.not_mem_nil, or_false] at e; omega) (by decide) (ef_cr_s s1 (fun k hk e => by simp only [List.mem_cons, List.not_mem_nil, or_false] at e; omega) (by decide) hR.1), .inr ⟨?_, ?_, ?_⟩⟩
  · rw [ef_s_f s2 (by decide)]
    exact k1
  · rw [f2, if_pos rfl]
  · refine ef_cr_st (w := w) (o := 15) (dc := 152) (fun f hf => ?_) (fun k p h1 h2 _ => ?_) (fun p _ _ _ => ?_) hR.1
    · rw [ef_s_f s2 (by decide)]
      exact hc.1 f hf
    · rw [congrFun (ef_s_a s2 (by simp only [List.mem_cons, List.not_mem_nil, or_false]; omega)) p]
      exact congrFun (hc.2 k h1 h2) p
    · rw [d2, ef_s_a s1 (by decide)]
theorem ew_again2 {xs : List Int32} {n : Nat} {w wA wB : px_W} {vA vB : Option Value} (hR : ef_RC w) (hA : ec_F (hb_XL xs) n 172 [.inr (.inl 64)] w (vA, wA)) (hB : ec_F (hb_XL xs) n 293 [.inr (.inl 215)] wA (vB, wB)) : ef_RC wB := by
  rcases ew_againA (hb_FE hA) with ⟨q0, e, hW⟩ | ⟨q0, w1, e, hW, hk⟩
  · injection e with e e'
    have e'' := e'.symm
    subst e''
    rcases hR.2 with ⟨h1, h2⟩ | ⟨h1, h2, h3⟩
    · rcases ew_againB (hb_FE hB) with ⟨p0, e2, hW2⟩ | ⟨p0, _⟩
      · injection e2 with e2 e2'
        rw [e2']
        exact hR
      · exact absurd h2 p0
    · omega
  · injection e with e e'
    subst e'
    have s1 := hk.1
    rcases hR.2 with ⟨h1, h2⟩ | ⟨h1, h2, h3⟩
    · omega
    · have h2' : ec_fd wA 151 2 = 1 := (ef_s_f s1 (by decide) 2).trans h2
      rcases ew_againB (hb_FE hB) with ⟨p0, _⟩ | ⟨p0, w2, e2, hW2, s2, d2⟩
      · omega
      · injection e2 with e2 e2'
        subst e2'
        have hc := ef_copy_back hk
        have kk : ef_kc wA := .inr ⟨(ef_s_f s1 (by decide) 14).trans h1, h2', ef_cr_s s1 (fun k hk e => by simp only [List.mem_cons, List.not_mem_nil, or_false] at e; omega) (by decide) h3⟩
        refine ⟨ef_cr_st (w := w) (o := 73) (dc := 153) (fun f hf => ?_) (fun k p h1 h2 _ => ?_) (fun p _ _ _ => ?_) h3, ef_kc_s s2 (by decide) kk⟩
        · rw [ef_s_f s2 (by decide)]
          exact hc.1 f hf
        · rw [congrFun (ef_s_a s2 (by simp only [List.mem_singleton]; omega)) p]
          exact congrFun (hc.2 k h1 h2) p
        · rw [d2, ef_s_a s1 (by decide)]

end
