noncomputable section
/-! SUNK AND CELL -/
theorem ew_sunk2 {xs : List Int32} {n : Nat} {w wA wB : px_W} {vA vB : Option Value} (hR : eh_RR w) (hA : ec_F (hb_XL xs) n 126 [.inr (.inl 64)] w (vA, wA)) (hB : ec_F (hb_XL xs) n 197 [.inr (.inl 215)] wA (vB, wB)) : vA = vB ∧ eh_RR wB := by
  obtain ⟨_, hr, hW⟩ := eg126_0_0_0 (hb_FE hA)
  injection hr with e1 e2
  have e3 := e2.symm
  subst e3
  have t0 : ec_tw 0 = 0 := rfl
  have d1 : ec_rd w 152 (ec_tw 1) = ef_a w 152 1 := rfl
  rcases hR.1.2.2.2 with ⟨h1, h2⟩ | ⟨h1, h2⟩
  · obtain ⟨_, hr2, _⟩ := eg197_151_0_1 (hb_FE hB) (by rw [d1, ef_tw, h2, t0]; decide)
    injection hr2 with f1 f2
    rw [f2]
    exact ⟨by rw [e1, f1, h1], hR⟩
  · obtain ⟨_, hr2, _⟩ := eg197_151_0_0 (hb_FE hB) (by rw [d1, ef_tw, h2, t0]; exact h1)
    injection hr2 with f1 f2
    rw [f2]
    exact ⟨by rw [e1, f1, d1, h2], hR⟩
theorem ew_isCell {n : Nat} {w : px_W} {r : Option Value × px_W} {x0 : Int} (h : ec_E hb_X n 184 0 [(0, .inl x0)] [] w r) : r = (ec_R (if 0 ≤ ec_tw x0 ∧ ec_tw x0 ≤ 7 then 1 else 0), w) ∧ ec_W hb_A w := by
  obtain ⟨_, v, w1, h1, h2⟩ := eg184_0_0 h
  obtain ⟨h3, h4⟩ := ew_in h1
  injection h3 with h3 h5
  subst h5
  exact (eg184_7_0 (h2 _ h3 h4)).2
theorem ew_isWall {n : Nat} {w : px_W} {r : Option Value × px_W} {x0 : Int} (h : ec_E hb_X n 193 0 [(0, .inl x0)] [] w r) : r = (ec_R (if 0 ≤ ec_tw x0 ∧ ec_tw x0 ≤ 6 then 1 else 0), w) ∧ ec_W hb_A w := by
  obtain ⟨_, v, w1, h1, h2⟩ := eg193_0_0 h
  obtain ⟨h3, h4⟩ := ew_in h1
  injection h3 with h3 h5
  subst h5
  exact (eg193_7_0 (h2 _ h3 h4)).2
def eh_okc (x1 x2 : Int) : Prop := (0 ≤ ec_tw x1 ∧ ec_tw x1 ≤ 7) ∧ (0 ≤ ec_tw x2 ∧ ec_tw x2 ≤ 2)
def eh_ce (W R : Nat → Int) (c : Nat) (x2 v : Int) : Prop := (ec_tw x2 = 0 ∧ v = W c) ∨ (ec_tw x2 = 1 ∧ v = eh_lv W R c) ∨ (ec_tw x2 = 2 ∧ v = eh_ou (eh_al W) (eh_tl W) (c : Int))
theorem eh_ce_f {W R : Nat → Int} {c : Nat} {x2 v v' : Int} (h : eh_ce W R c x2 v) (h' : eh_ce W R c x2 v') : v = v' := by
  unfold eh_ce at h h'
  rcases h with ⟨a, b⟩ | ⟨a, b⟩ | ⟨a, b⟩ <;> rcases h' with ⟨a', b'⟩ | ⟨a', b'⟩ | ⟨a', b'⟩ <;> first | exact b.trans b'.symm | omega
theorem ew_cellA {W R : Nat → Int} {n : Nat} {w : px_W} {r : Option Value × px_W} {x1 x2 : Int} (r1 : -2147483648 ≤ x1 ∧ x1 ≤ 2147483647) (hw : ef_a w 3 = W) (hr : ef_a w 2 = R) (hb : ∀ c, c < 8 → 10 ≤ R c) (ha : ec_fd w 1 8 = eh_al W) (ht : ec_fd w 1 9 = eh_tl W) (h : ec_E hb_X n 125 0 [(0, .inr (.inl 64)), (1, .inl x1), (2, .inl x2)] [] w r) : ∃ v : Int, r = (ec_R v, w) ∧ ((¬ eh_okc x1 x2 ∧ v = -1) ∨ (eh_okc x1 x2 ∧ eh_ce W R x1.toNat x2 v)) := by
  have t0 : ec_tw 0 = 0 := rfl
  have t1 : ec_tw 1 = 1 := rfl
  have t2 : ec_tw 2 = 2 := rfl
  have t7 : ec_tw 7 = 7 := rfl
  have tx : ec_tw x1 = x1 := ec_tw_id r1.1 r1.2
  obtain ⟨_, v, w1, q1, q2⟩ := eg125_0_0_0 h
  obtain ⟨e1, W1⟩ := ew_within q1
  injection e1 with e1 i1
  have i2 := i1.symm
  subst i2
  have q3 := q2 _ e1 W1
  rw [t0, t7] at q3
  by_cases g1 : 0 ≤ ec_tw x1 ∧ ec_tw x1 ≤ 7
  · rw [if_pos g1] at q3
    obtain ⟨_, v, w1, q4, q5⟩ := eg125_0_7_1 q3 (by decide)
    obtain ⟨e2, W2⟩ := ew_within q4
    injection e2 with e2 j1
    have j2 := j1.symm
    subst j2
    have q6 := q5 _ e2 W2
    rw [t0, t2] at q6
    by_cases g2 : 0 ≤ ec_tw x2 ∧ ec_tw x2 ≤ 2
    · rw [if_pos g2] at q6
      have ex : x1 = (x1.toNat : Int) := by omega
      have hc : x1.toNat < 8 := by omega
      rcases (show ec_tw x2 = 0 ∨ ec_tw x2 = 1 ∨ ec_tw x2 = 2 by omega) with k | k | k
      · obtain ⟨_, hr2, _⟩ := eg125_0_16_2 q6 (by decide) (by rw [k, t0])
        rw [tx, ex, ef_rd, hw] at hr2
        exact ⟨_, hr2, .inr ⟨⟨g1, g2⟩, .inl ⟨k, rfl⟩⟩⟩
      · obtain ⟨_, v, w1, q7, q8⟩ := eg125_0_16_1 q6 (by decide) (by rw [k, t0]; decide) (by rw [k, t1])
        rw [ex] at q7
        obtain ⟨e3, W3⟩ := ew_lvA_1 hw hr hc (hb _ hc) q7
        injection e3 with e3 k1
        have k2 := k1.symm
        subst k2
        obtain ⟨_, hr2, _⟩ := eg125_0_48_0 (q8 _ e3 W3)
        exact ⟨_, hr2, .inr ⟨⟨g1, g2⟩, .inr (.inl ⟨k, rfl⟩)⟩⟩
      · obtain ⟨_, v, w1, q7, q8⟩ := eg125_0_16_0 q6 (by decide) (by rw [k, t0]; decide) (by rw [k, t1]; decide)
        obtain ⟨e3, W3⟩ := ew_ouA_1 q7
        injection e3 with e3 k1
        have k2 := k1.symm
        subst k2
        obtain ⟨_, hr2, _⟩ := eg125_0_59_0 (q8 _ e3 W3)
        exact ⟨_, hr2, .inr ⟨⟨g1, g2⟩, .inr (.inr ⟨k, by rw [ha, ht, ← ex]⟩)⟩⟩
    · rw [if_neg g2] at q6
      obtain ⟨_, hr2, _⟩ := eg125_0_16_3 q6 rfl
      exact ⟨_, hr2, .inl ⟨fun e => g2 e.2, rfl⟩⟩
  · rw [if_neg g1] at q3
    obtain ⟨_, hr2, _⟩ := eg125_0_7_0 q3 rfl
    exact ⟨_, hr2, .inl ⟨fun e => g1 e.1, rfl⟩⟩
theorem ew_cellB {W R : Nat → Int} {n : Nat} {w : px_W} {r : Option Value × px_W} {x1 x2 : Int} (r1 : -2147483648 ≤ x1 ∧ x1 ≤ 2147483647) (hw : ∀ c, c < 8 → ef_a w 152 (24 + c) = W c) (hr : ∀ c, c < 8 → ef_a w 152 (16 + c) = R c) (h : ec_E hb_X n 196 0 [(0, .inr (.inl 215)), (1, .inl x1), (2, .inl x2)] [] w r) : ∃ (v : Int) (w' : px_W), r = (ec_R v, w') ∧ ef_s [151, 155, 156, 157] w w' ∧ (∀ f, f ≠ 9 → f ≠ 10 → ec_fd w' 151 f = ec_fd w 151 f) ∧ ((¬ eh_okc x1 x2 ∧ v = -1) ∨ (eh_okc x1 x2 ∧ eh_ce W R x1.toNat x2 v)) := by
  have t0 : ec_tw 0 = 0 := rfl
  have t1 : ec_tw 1 = 1 := rfl
  have t2 : ec_tw 2 = 2 := rfl
  have tx : ec_tw x1 = x1 := ec_tw_id r1.1 r1.2
  obtain ⟨_, v, w1, q1, q2⟩ := eg196_151_0_0 h
  obtain ⟨e1, W1⟩ := ew_isCell q1
  injection e1 with e1 i1
  have i2 := i1.symm
  subst i2
  have q3 := q2 _ e1 W1
  by_cases g1 : 0 ≤ ec_tw x1 ∧ ec_tw x1 ≤ 7
  · rw [if_pos g1] at q3
    obtain ⟨_, v, w1, q4, q5⟩ := eg196_151_4_1 q3 (by decide)
    obtain ⟨e2, W2⟩ := ew_in q4
    injection e2 with e2 j1
    have j2 := j1.symm
    subst j2
    have q6 := q5 _ e2 W2
    rw [t0, t2] at q6
    by_cases g2 : 0 ≤ ec_tw x2 ∧ ec_tw x2 ≤ 2
    · rw [if_pos g2] at q6
      have ex : x1 = (x1.toNat : Int) := by omega
      have hc : x1.toNat < 8 := by omega
      obtain ⟨_, v, w1, q7, q8⟩ := eg196_151_13_0 q6 (by decide)
      obtain ⟨y1, e3, W3, s3, f3⟩ := ew_loB q7
      injection e3 with e3 k1
      subst k1
      obtain ⟨_, v2, w2, q9, q10⟩ := eg196_151_22_0 (q8 e3 W3)
      obtain ⟨y2, e4, W4, s4, f4, a4, b4⟩ := ew_ftB (W := W) (fun c hc => (f3 c hc).1.trans (hw c hc)) q9
      injection e4 with e4 k2
      subst k2
      have q11 := q10 e4 W4
      have sT : ef_s [151, 155, 156, 157] w w2 := ef_s_trans (ef_s_mono s3 (by decide)) (ef_s_mono s4 (by decide))
      have fT : ∀ f, f ≠ 9 → f ≠ 10 → ec_fd w2 151 f = ec_fd w 151 f := fun f k1 k2 => (f4 f k1 k2).trans (ef_s_f s3 (by decide) f)
      have rw_ : ef_a w2 155 x1.toNat = W x1.toNat := (congrFun (ef_s_a s4 (by decide)) _).trans ((f3 _ hc).1.trans (hw _ hc))
      have rr_ : ef_a w2 152 (16 + x1.toNat) = R x1.toNat := (congrFun (ef_s_a sT (by decide)) _).trans (hr _ hc)
      rcases (show ec_tw x2 = 0 ∨ ec_tw x2 = 1 ∨ ec_tw x2 = 2 by omega) with k | k | k
      · obtain ⟨_, hr2, _⟩ := eg196_151_26_2 q11 (by rw [k, t0])
        have ez : ec_rd w2 155 (ec_tw x1) = W x1.toNat := by
          rw [tx, ex, ef_rd, Int.toNat_natCast]
          exact rw_
        rw [ez] at hr2
        exact ⟨_, _, hr2, sT, fT, .inr ⟨⟨g1, g2⟩, .inl ⟨k, rfl⟩⟩⟩
      · obtain ⟨_, v3, w3, q12, q13⟩ := eg196_151_26_1 q11 (by rw [k, t0]; decide) (by rw [k, t1])
        rw [ex] at q12
        obtain ⟨e5, W5⟩ := ew_lvB hc rw_ rr_ q12
        injection e5 with e5 k3
        have k4 := k3.symm
        subst k4
        obtain ⟨_, hr2, _⟩ := eg196_151_49_0 (q13 _ e5 W5)
        exact ⟨_, _, hr2, sT, fT, .inr ⟨⟨g1, g2⟩, .inr (.inl ⟨k, rfl⟩)⟩⟩
      · obtain ⟨_, v3, w3, q12, q13⟩ := eg196_151_26_0 q11 (by rw [k, t0]; decide) (by rw [k, t1]; decide)
        obtain ⟨e5, W5⟩ := ew_ouB a4 b4 q12
        injection e5 with e5 k3
        have k4 := k3.symm
        subst k4
        obtain ⟨_, hr2, _⟩ := eg196_151_57_0 (q13 _ e5 W5)
        exact ⟨_, _, hr2, sT, fT, .inr ⟨⟨g1, g2⟩, .inr (.inr ⟨k, by rw [← ex]⟩)⟩⟩
    · rw [if_neg g2] at q6
      obtain ⟨_, hr2, _⟩ := eg196_151_13_1 q6 rfl
      exact ⟨_, _, hr2, ef_s_refl, fun _ _ _ => rfl, .inl ⟨fun e => g2 e.2, rfl⟩⟩
  · rw [if_neg g1] at q3
    obtain ⟨_, hr2, _⟩ := eg196_151_4_0 q3 rfl
    exact ⟨_, _, hr2, ef_s_refl, fun _ _ _ => rfl, .inl ⟨fun e => g1 e.1, rfl⟩⟩
theorem eh_RR_s {S : List Nat} {w w' : px_W} (hs : ef_s S w w') (hS : ∀ k ∈ S, (k ≠ 0 ∧ k ≠ 152 ∧ k ≠ 153) ∧ 7 < k ∧ (k < 59 ∨ 65 < k)) (k2 : ec_fd w' 151 2 = ec_fd w 151 2) (h : eh_RR w) : eh_RR w' := by
  have n : ∀ k, k ≤ 7 → k ∉ S := fun k hk e => by have := (hS k e).2.1; omega
  exact ⟨eh_hu_s hs (fun k hk => n (1 + k) (by omega)) (fun e => (hS 152 e).1.2.1 rfl) h.1, eh_wd_st (ef_s_f hs (n 1 (by decide)) 8) (ef_s_f hs (n 1 (by decide)) 9) (fun p _ => congrFun (ef_s_a hs (n 3 (by decide))) p) h.2.1, eh_kp_s hs (fun k hk => ⟨⟨(hS k hk).1.1, (hS k hk).1.2.2⟩, (hS k hk).2.2⟩) k2 h.2.2⟩
theorem ew_cell2 {xs : List Int32} {x1 x2 : Int} {n : Nat} {w wA wB : px_W} {vA vB : Option Value} (hR : eh_RR w) (r1 : -2147483648 ≤ x1 ∧ x1 ≤ 2147483647) (r2 : -2147483648 ≤ x2 ∧ x2 ≤ 2147483647) (hA : ec_F (hb_XL xs) n 125 [.inr (.inl 64), .inl x1, .inl x2] w (vA, wA)) (hB : ec_F (hb_XL xs) n 196 [.inr (.inl 215), .inl x1, .inl x2] wA (vB, wB)) : vA = vB ∧ eh_RR wB := by
  obtain ⟨v, e, hv⟩ := ew_cellA r1 rfl rfl (fun c hc => (hR.1.2.1 c hc).2.1.1) hR.2.1.1 hR.2.1.2 (hb_FE hA)
  injection e with e1 e2
  have e3 := e2.symm
  subst e3
  have hrr := hR.1.1
  obtain ⟨v', w', e', s, f, hv'⟩ := ew_cellB (W := ef_a w 3) (R := ef_a w 2) r1 (fun c hc => hrr 2 c (by decide) (by decide) hc (fun e => absurd e (by decide))) (fun c hc => hrr 1 c (by decide) (by decide) hc (fun e => absurd e (by decide))) (hb_FE hB)
  injection e' with f1 f2
  subst f2
  refine ⟨?_, eh_RR_s s (by decide) (f 2 (by decide) (by decide)) hR⟩
  rw [e1, f1]
  rcases hv with ⟨a, b⟩ | ⟨a, b⟩ <;> rcases hv' with ⟨a', b'⟩ | ⟨a', b'⟩
  · rw [b, b']
  · exact absurd a' a
  · exact absurd a a'
  · rw [eh_ce_f b b']
/-! WALL AND DOOR -/
theorem eh_up {w wA wB : px_W} {k c : Nat} {v : Int} (hk : k = 5 ∨ k = 6) (hc : c < 7) (sA : ef_s [1 + k, 10] w wA) (rA : ∀ p, ef_a wA (1 + k) p = if p = c then v else ef_a w (1 + k) p) (sB : ef_s [152] wA wB) (dB : ∀ p, ef_a wB 152 p = if p = 8 + 8 * k + c then v else ef_a wA 152 p) (hR : eh_RR w) : eh_RR wB := by
  have m1 : ∀ j, j ≤ 6 → j ≠ k → 1 + j ∉ [1 + k, 10] := by
    intro j h1 h2 e
    simp only [List.mem_cons, List.not_mem_nil, or_false] at e
    omega
  have rows : ∀ j p, 1 ≤ j → j ≤ 6 → ef_a wB (1 + j) p = if j = k ∧ p = c then v else ef_a w (1 + j) p := by
    intro j p h1 h2
    have hB : ef_a wB (1 + j) = ef_a wA (1 + j) := ef_s_a sB (by simp only [List.mem_singleton]; omega)
    rw [hB]
    by_cases hj : j = k
    · subst hj
      rw [rA p]
      by_cases hp : p = c
      · rw [if_pos hp, if_pos ⟨rfl, hp⟩]
      · rw [if_neg hp, if_neg (fun e => hp e.2)]
    · rw [if_neg (fun e => hj e.1), ef_s_a sA (m1 j h2 hj)]
  have d152 : ef_a wA 152 = ef_a w 152 := ef_s_a sA (by simp only [List.mem_cons, List.not_mem_nil, or_false]; omega)
  have fl : ∀ f, ec_fd wB 1 f = ec_fd w 1 f := fun f => (ef_s_f sB (by decide) f).trans (ef_s_f sA (by simp only [List.mem_cons, List.not_mem_nil, or_false]; omega) f)
  obtain ⟨⟨h1, h2, h3, h4⟩, hw, hkp⟩ := hR
  have r14 : ∀ j, 1 ≤ j → j ≤ 4 → ∀ p, ef_a wB (1 + j) p = ef_a w (1 + j) p := by
    intro j j1 j2 p
    rw [rows j p j1 (by omega), if_neg (by omega)]
  refine ⟨⟨eh_r_cg (fun j p j1 j2 _ => rows j p j1 j2) (fun p _ _ => ?_) (eh_r_up (k := k) (c := c) (v := v) (by omega) h1), fun c' hc' => ?_, ?_, ?_⟩, ?_, ?_⟩
  · rw [dB p, d152]
  · rw [r14 1 (by decide) (by decide), r14 2 (by decide) (by decide), r14 3 (by decide) (by decide), r14 4 (by decide) (by decide)]
    exact h2 c' hc'
  · rw [dB 0, if_neg (by omega), d152, fl]
    exact h3
  · rw [dB 1, if_neg (by omega), d152, fl]
    exact h4
  · exact eh_wd_st (fl 8) (fl 9) (fun p _ => r14 2 (by decide) (by decide) p) hw
  · exact eh_kp_s sB (by decide) (ef_s_f sB (by decide) 2) (eh_kp_s sA (by intro q hq; simp only [List.mem_cons, List.not_mem_nil, or_false] at hq; omega) (ef_s_f sA (by simp only [List.mem_cons, List.not_mem_nil, or_false]; omega) 2) hkp)
def eh_okw (x1 x2 : Int) : Prop := (0 ≤ ec_tw x1 ∧ ec_tw x1 ≤ 6) ∧ (0 ≤ ec_tw x2 ∧ ec_tw x2 ≤ 100)
theorem ew_wallA {n : Nat} {w : px_W} {r : Option Value × px_W} {x1 x2 : Int} (h : ec_E hb_X n 123 0 [(0, .inr (.inl 64)), (1, .inl x1), (2, .inl x2)] [] w r) : (¬ eh_okw x1 x2 ∧ r.2 = w) ∨ (eh_okw x1 x2 ∧ r.2 = ec_pf (ec_wr w 6 (ec_tw x1) x2) 10 3 0) := by
  have t0 : ec_tw 0 = 0 := rfl
  have t6 : ec_tw 6 = 6 := rfl
  have t100 : ec_tw 100 = 100 := rfl
  obtain ⟨_, v, w1, q1, q2⟩ := eg123_0_0_0 h
  obtain ⟨e1, W1⟩ := ew_within q1
  injection e1 with e1 i1
  have i2 := i1.symm
  subst i2
  have q3 := q2 _ e1 W1
  rw [t0, t6] at q3
  by_cases g1 : 0 ≤ ec_tw x1 ∧ ec_tw x1 ≤ 6
  · rw [if_pos g1] at q3
    obtain ⟨_, v, w1, q4, q5⟩ := eg123_0_7_1 q3 (by decide)
    obtain ⟨e2, W2⟩ := ew_within q4
    injection e2 with e2 j1
    have j2 := j1.symm
    subst j2
    have q6 := q5 _ e2 W2
    rw [t0, t100] at q6
    by_cases g2 : 0 ≤ ec_tw x2 ∧ ec_tw x2 ≤ 100
    · rw [if_pos g2] at q6
      obtain ⟨_, v, w1, q7, q8⟩ := eg123_0_17_0 q6 (by decide)
      obtain ⟨_, e3, W3⟩ := eg110_10_0_0 q7
      injection e3 with e3 k1
      have k2 := k1.symm
      subst k2
      obtain ⟨_, hr, _⟩ := eg123_0_49_0 (q8 e3 W3)
      rw [hr]
      exact .inr ⟨⟨g1, g2⟩, rfl⟩
    · rw [if_neg g2] at q6
      obtain ⟨_, hr, _⟩ := eg123_0_17_1 q6 rfl
      rw [hr]
      exact .inl ⟨fun e => g2 e.2, rfl⟩
  · rw [if_neg g1] at q3
    obtain ⟨_, hr, _⟩ := eg123_0_7_0 q3 rfl
    rw [hr]
    exact .inl ⟨fun e => g1 e.1, rfl⟩
theorem ew_wallB {n : Nat} {w : px_W} {r : Option Value × px_W} {x1 x2 : Int} (h : ec_E hb_X n 194 0 [(0, .inr (.inl 215)), (1, .inl x1), (2, .inl x2)] [] w r) : (¬ eh_okw x1 x2 ∧ r.2 = w) ∨ (eh_okw x1 x2 ∧ r.2 = ec_wr w 152 (ec_tw (48 + x1)) x2) := by
  have t0 : ec_tw 0 = 0 := rfl
  have t100 : ec_tw 100 = 100 := rfl
  obtain ⟨_, v, w1, q1, q2⟩ := eg194_151_0_0 h
  obtain ⟨e1, W1⟩ := ew_isWall q1
  injection e1 with e1 i1
  have i2 := i1.symm
  subst i2
  have q3 := q2 _ e1 W1
  by_cases g1 : 0 ≤ ec_tw x1 ∧ ec_tw x1 ≤ 6
  · rw [if_pos g1] at q3
    obtain ⟨_, v, w1, q4, q5⟩ := eg194_151_4_1 q3 (by decide)
    obtain ⟨e2, W2⟩ := ew_in q4
    injection e2 with e2 j1
    have j2 := j1.symm
    subst j2
    have q6 := q5 _ e2 W2
    rw [t0, t100] at q6
    by_cases g2 : 0 ≤ ec_tw x2 ∧ ec_tw x2 ≤ 100
    · rw [if_pos g2] at q6
      obtain ⟨_, hr, _⟩ := eg194_151_14_0 q6 (by decide)
      rw [hr]
      exact .inr ⟨⟨g1, g2⟩, rfl⟩
    · rw [if_neg g2] at q6
      obtain ⟨_, hr, _⟩ := eg194_151_14_1 q6 rfl
      rw [hr]
      exact .inl ⟨fun e => g2 e.2, rfl⟩
  · rw [if_neg g1] at q3
    obtain ⟨_, hr, _⟩ := eg194_151_4_0 q3 rfl
    rw [hr]
    exact .inl ⟨fun e => g1 e.1, rfl⟩
theorem ew_doorA {n : Nat} {w : px_W} {r : Option Value × px_W} {x1 x2 : Int} (h : ec_E hb_X n 124 0 [(0, .inr (.inl 64)), (1, .inl x1), (2, .inl x2)] [] w r) : (¬ (0 ≤ ec_tw x1 ∧ ec_tw x1 ≤ 6) ∧ r.2 = w) ∨ ((0 ≤ ec_tw x1 ∧ ec_tw x1 ≤ 6) ∧ r.2 = ec_pf (ec_wr w 7 (ec_tw x1) (if ec_tw x2 = 0 then 0 else 1)) 10 3 0) := by
  have t0 : ec_tw 0 = 0 := rfl
  have t6 : ec_tw 6 = 6 := rfl
  obtain ⟨_, v, w1, q1, q2⟩ := eg124_0_0_0 h
  obtain ⟨e1, W1⟩ := ew_within q1
  injection e1 with e1 i1
  have i2 := i1.symm
  subst i2
  have q3 := q2 _ e1 W1
  rw [t0, t6] at q3
  by_cases g1 : 0 ≤ ec_tw x1 ∧ ec_tw x1 ≤ 6
  · rw [if_pos g1] at q3
    by_cases g2 : ec_tw x2 = 0
    · obtain ⟨_, v, w1, q7, q8⟩ := eg124_0_7_0 q3 (by decide) (by rw [g2, t0])
      obtain ⟨_, e3, W3⟩ := eg110_10_0_0 q7
      injection e3 with e3 k1
      have k2 := k1.symm
      subst k2
      obtain ⟨_, hr, _⟩ := eg124_0_47_0 (q8 e3 W3)
      rw [hr, if_pos g2]
      exact .inr ⟨g1, rfl⟩
    · obtain ⟨_, v, w1, q7, q8⟩ := eg124_0_7_1 q3 (by decide) (by rw [t0]; exact g2)
      obtain ⟨_, e3, W3⟩ := eg110_10_0_0 q7
      injection e3 with e3 k1
      have k2 := k1.symm
      subst k2
      obtain ⟨_, hr, _⟩ := eg124_0_47_0 (q8 e3 W3)
      rw [hr, if_neg g2]
      exact .inr ⟨g1, rfl⟩
  · rw [if_neg g1] at q3
    obtain ⟨_, hr, _⟩ := eg124_0_7_2 q3 rfl
    rw [hr]
    exact .inl ⟨g1, rfl⟩
theorem ew_doorB {n : Nat} {w : px_W} {r : Option Value × px_W} {x1 x2 : Int} (h : ec_E hb_X n 195 0 [(0, .inr (.inl 215)), (1, .inl x1), (2, .inl x2)] [] w r) : (¬ (0 ≤ ec_tw x1 ∧ ec_tw x1 ≤ 6) ∧ r.2 = w) ∨ ((0 ≤ ec_tw x1 ∧ ec_tw x1 ≤ 6) ∧ r.2 = ec_wr w 152 (ec_tw (56 + x1)) (if ec_tw x2 = 0 then 0 else 1)) := by
  have t0 : ec_tw 0 = 0 := rfl
  obtain ⟨_, v, w1, q1, q2⟩ := eg195_151_0_0 h
  obtain ⟨e1, W1⟩ := ew_isWall q1
  injection e1 with e1 i1
  have i2 := i1.symm
  subst i2
  have q3 := q2 _ e1 W1
  by_cases g1 : 0 ≤ ec_tw x1 ∧ ec_tw x1 ≤ 6
  · rw [if_pos g1] at q3
    by_cases g2 : ec_tw x2 = 0
    · have q4 := (eg195_151_4_0 q3 (by decide) (by rw [g2, t0])).2
      obtain ⟨_, hr, _⟩ := eg195_151_36_0 q4
      rw [hr, if_pos g2]
      exact .inr ⟨g1, rfl⟩
    · have q4 := (eg195_151_4_1 q3 (by decide) (by rw [t0]; exact g2)).2
      obtain ⟨_, hr, _⟩ := eg195_151_36_0 q4
      rw [hr, if_neg g2]
      exact .inr ⟨g1, rfl⟩
  · rw [if_neg g1] at q3
    obtain ⟨_, hr, _⟩ := eg195_151_4_2 q3 rfl
    rw [hr]
    exact .inl ⟨g1, rfl⟩
theorem ew_wall2 {xs : List Int32} {x1 x2 : Int} {n : Nat} {w wA wB : px_W} {vA vB : Option Value} (hR : eh_RR w) (hA : ec_F (hb_XL xs) n 123 [.inr (.inl 64), .inl x1, .inl x2] w (vA, wA)) (hB : ec_F (hb_XL xs) n 194 [.inr (.inl 215), .inl x1, .inl x2] wA (vB, wB)) : eh_RR wB := by
  have hWw := hA.1
  rcases ew_wallA (hb_FE hA) with ⟨g1, g2⟩ | ⟨g1, g2⟩
  · have g3 : wA = w := g2
    rw [g3] at hB
    rcases ew_wallB (hb_FE hB) with ⟨k1, k2⟩ | ⟨k1, _⟩
    · have k3 : wB = w := k2
      rw [k3]
      exact hR
    · exact absurd k1 g1
  · have g3 : wA = ec_pf (ec_wr w 6 (ec_tw x1) x2) 10 3 0 := g2
    have hWA := hB.1
    rcases ew_wallB (hb_FE hB) with ⟨k1, _⟩ | ⟨_, k2⟩
    · exact absurd g1 k1
    · have k3 : wB = ec_wr wA 152 (ec_tw (48 + x1)) x2 := k2
      have b1 : 0 ≤ ec_tw x1 ∧ ec_tw x1 ≤ 6 := g1.1
      have ex : ec_tw (48 + x1) = 48 + ec_tw x1 := by
        rw [← ec_tw_addr]
        exact ec_tw_id (by omega) (by omega)
      have sA : ef_s [6, 10] w wA := by
        rw [g3]
        exact ef_s_trans (ef_s_wr (by decide)) (ef_s_pf (by decide))
      have rA : ∀ p, ef_a wA 6 p = if p = (ec_tw x1).toNat then ec_tw x2 else ef_a w 6 p := by
        intro p
        rw [g3, ef_a_pf_o (by decide), ef_a_wr (n := 7) hWw rfl b1.1 (by omega)]
        rfl
      have sB : ef_s [152] wA wB := by
        rw [k3]
        exact ef_s_wr (by decide)
      have dB : ∀ p, ef_a wB 152 p = if p = 8 + 8 * 5 + (ec_tw x1).toNat then ec_tw x2 else ef_a wA 152 p := by
        intro p
        rw [k3, ef_a_wr (n := 1580) hWA rfl (by omega) (by omega), ex]
        have e : (48 + ec_tw x1).toNat = 8 + 8 * 5 + (ec_tw x1).toNat := by omega
        rw [e]
        rfl
      exact eh_up (k := 5) (c := (ec_tw x1).toNat) (v := ec_tw x2) (by omega) (by omega) sA rA sB dB hR
theorem ew_door2 {xs : List Int32} {x1 x2 : Int} {n : Nat} {w wA wB : px_W} {vA vB : Option Value} (hR : eh_RR w) (hA : ec_F (hb_XL xs) n 124 [.inr (.inl 64), .inl x1, .inl x2] w (vA, wA)) (hB : ec_F (hb_XL xs) n 195 [.inr (.inl 215), .inl x1, .inl x2] wA (vB, wB)) : eh_RR wB := by
  have hWw := hA.1
  rcases ew_doorA (hb_FE hA) with ⟨g1, g2⟩ | ⟨g1, g2⟩
  · have g3 : wA = w := g2
    rw [g3] at hB
    rcases ew_doorB (hb_FE hB) with ⟨k1, k2⟩ | ⟨k1, _⟩
    · have k3 : wB = w := k2
      rw [k3]
      exact hR
    · exact absurd k1 g1
  · have g3 : wA = ec_pf (ec_wr w 7 (ec_tw x1) (if ec_tw x2 = 0 then 0 else 1)) 10 3 0 := g2
    have hWA := hB.1
    rcases ew_doorB (hb_FE hB) with ⟨k1, _⟩ | ⟨_, k2⟩
    · exact absurd g1 k1
    · have k3 : wB = ec_wr wA 152 (ec_tw (56 + x1)) (if ec_tw x2 = 0 then 0 else 1) := k2
      have b1 : 0 ≤ ec_tw x1 ∧ ec_tw x1 ≤ 6 := g1
      have ex : ec_tw (56 + x1) = 56 + ec_tw x1 := by
        rw [← ec_tw_addr]
        exact ec_tw_id (by omega) (by omega)
      have sA : ef_s [7, 10] w wA := by
        rw [g3]
        exact ef_s_trans (ef_s_wr (by decide)) (ef_s_pf (by decide))
      have rA : ∀ p, ef_a wA 7 p = if p = (ec_tw x1).toNat then ec_tw (if ec_tw x2 = 0 then 0 else 1) else ef_a w 7 p := by
        intro p
        rw [g3, ef_a_pf_o (by decide), ef_a_wr (n := 7) hWw rfl b1.1 (by omega)]
        rfl
      have sB : ef_s [152] wA wB := by
        rw [k3]
        exact ef_s_wr (by decide)
      have dB : ∀ p, ef_a wB 152 p = if p = 8 + 8 * 6 + (ec_tw x1).toNat then ec_tw (if ec_tw x2 = 0 then 0 else 1) else ef_a wA 152 p := by
        intro p
        rw [k3, ef_a_wr (n := 1580) hWA rfl (by omega) (by omega), ex]
        have e : (56 + ec_tw x1).toNat = 8 + 8 * 6 + (ec_tw x1).toNat := by omega
        rw [e]
        rfl
      exact eh_up (k := 6) (c := (ec_tw x1).toNat) (v := ec_tw (if ec_tw x2 = 0 then 0 else 1)) (by omega) (by omega) sA rA sB dB hR
/-! KEEP AND AGAIN -/
theorem ew_hkeep2 {xs : List Int32} {n : Nat} {w wA wB : px_W} {vA vB : Option Value} (hR : eh_RR w) (hA : ec_F (hb_XL xs) n 171 [.inr (.inl 64)] w (vA, wA)) (hB : ec_F (hb_XL xs) n 292 [.inr (.inl 215)] wA (vB, wB)) : eh_RR wB := by
  obtain ⟨w1, e, hW, k1, hk⟩ := ew_keepA (hb_FE hA)
  injection e with e e'
  subst e'
  obtain ⟨w2, e2, hW2, s2, d2, f2⟩ := ew_keepB (hb_FE hB)
  injection e2 with e2 e2'
  subst e2'
  have s1 := hk.1
  have hc := eh_copy_kept hk
  have lo : ∀ k, k ≤ 7 → k ∉ ([153, 151] : List Nat) := by
    intro k hk e
    simp only [List.mem_cons, List.not_mem_nil, or_false] at e
    omega
  refine ⟨eh_hu_s s2 (fun k hk => lo _ (by omega)) (by decide) (eh_hu_s s1 (fun k hk e => by simp only [List.mem_cons, List.not_mem_nil, or_false] at e; omega) (by decide) hR.1), ?_, .inr ⟨?_, ?_, ?_⟩⟩
  · exact eh_wd_st ((ef_s_f s2 (by decide) 8).trans (ef_s_f s1 (by decide) 8)) ((ef_s_f s2 (by decide) 9).trans (ef_s_f s1 (by decide) 9)) (fun p _ => (congrFun (ef_s_a s2 (by decide)) p).trans (congrFun (ef_s_a s1 (by decide)) p)) hR.2.1
  · rw [ef_s_f s2 (by decide)]
    exact k1
  · rw [f2, if_pos rfl]
  · refine eh_hu_st (w := w) (o := 1) (dc := 152) (fun f hf => ?_) (fun k p h1 h2 _ => ?_) (fun p _ _ => ?_) hR.1
    · rw [ef_s_f s2 (by decide)]
      exact hc.1 f hf
    · rw [congrFun (ef_s_a s2 (by simp only [List.mem_cons, List.not_mem_nil, or_false]; omega)) p]
      exact congrFun (hc.2 k h1 h2) p
    · rw [d2, ef_s_a s1 (by decide)]
theorem ew_hagain2 {xs : List Int32} {n : Nat} {w wA wB : px_W} {vA vB : Option Value} (hR : eh_RR w) (hA : ec_F (hb_XL xs) n 172 [.inr (.inl 64)] w (vA, wA)) (hB : ec_F (hb_XL xs) n 293 [.inr (.inl 215)] wA (vB, wB)) : eh_RR wB := by
  have hWd := fun c => ew_againW c (hb_FE hA)
  rcases ew_againA (hb_FE hA) with ⟨q0, e, hW⟩ | ⟨q0, w1, e, hW, hk⟩
  · injection e with e e'
    have e'' := e'.symm
    subst e''
    rcases hR.2.2 with ⟨h1, h2⟩ | ⟨h1, h2, h3⟩
    · rcases ew_againB (hb_FE hB) with ⟨p0, e2, hW2⟩ | ⟨p0, _⟩
      · injection e2 with e2 e2'
        rw [e2']
        exact hR
      · exact absurd h2 p0
    · omega
  · injection e with e e'
    subst e'
    have s1 := hk.1
    have wd : eh_wd wA 1 := hWd q0
    rcases hR.2.2 with ⟨h1, h2⟩ | ⟨h1, h2, h3⟩
    · omega
    · have h2' : ec_fd wA 151 2 = 1 := (ef_s_f s1 (by decide) 2).trans h2
      rcases ew_againB (hb_FE hB) with ⟨p0, _⟩ | ⟨p0, w2, e2, hW2, s2, d2⟩
      · omega
      · injection e2 with e2 e2'
        subst e2'
        have hc := eh_copy_back hk
        have kk : eh_kp wA := .inr ⟨(ef_s_f s1 (by decide) 14).trans h1, h2', eh_hu_s s1 (fun k hk e => by simp only [List.mem_cons, List.not_mem_nil, or_false] at e; omega) (by decide) h3⟩
        refine ⟨eh_hu_st (w := w) (o := 59) (dc := 153) (fun f hf => ?_) (fun k p h1 h2 _ => ?_) (fun p _ _ => ?_) h3, ?_, eh_kp_s s2 (by decide) (ef_s_f s2 (by decide) 2) kk⟩
        · rw [ef_s_f s2 (by decide)]
          exact hc.1 f hf
        · rw [congrFun (ef_s_a s2 (by simp only [List.mem_singleton]; omega)) p]
          exact congrFun (hc.2 k h1 h2) p
        · rw [d2, ef_s_a s1 (by decide)]
        · exact eh_wd_st (ef_s_f s2 (by decide) 8) (ef_s_f s2 (by decide) 9) (fun p _ => congrFun (ef_s_a s2 (by decide)) p) wd

end
