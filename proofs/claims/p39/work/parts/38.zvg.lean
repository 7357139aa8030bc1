noncomputable section
/-! RULES: rank on both sides -/
def er_dt : Nat → Int → Int
  | 0, x => x
  | f + 1, x => er_dt f (ec_dv x 10)
theorem er_rkd : ∀ x : Nat, x < 1000 → ec_rm (er_dt 0 (x : Int)) 10 = ((x % 10 : Nat) : Int) ∧ ec_rm (er_dt 1 (x : Int)) 10 = ((x / 10 % 10 : Nat) : Int) ∧ ec_rm (er_dt 2 (x : Int)) 10 = ((x / 100 : Nat) : Int) := by decide +kernel
theorem er_rkx {w : px_W} {x : Int} {k : Nat} (hk : k < 3) (h : er_RK w x) : ec_rm (er_dt k x) 10 = ef_a w 171 k := by
  obtain ⟨e, b⟩ := h
  have b0 := b 0 (by decide)
  have b1 := b 1 (by decide)
  have b2 := b 2 (by decide)
  obtain ⟨y, hy⟩ : ∃ y : Nat, x = (y : Int) := ⟨x.toNat, by omega⟩
  obtain ⟨d0, d1, d2⟩ := er_rkd y (by omega)
  rw [hy]
  have q : k = 0 ∨ k = 1 ∨ k = 2 := by omega
  rcases q with rfl | rfl | rfl
  · rw [d0]
    omega
  · rw [d1]
    omega
  · rw [d2]
    omega
theorem er_rk9 {w : px_W} {k : Nat} (hk : k < 3) (h : er_RK w 999) : ef_a w 171 k = 9 := by
  obtain ⟨e, b⟩ := h
  have b0 := b 0 (by decide)
  have b1 := b 1 (by decide)
  have b2 := b 2 (by decide)
  have q : k = 0 ∨ k = 1 ∨ k = 2 := by omega
  rcases q with rfl | rfl | rfl <;> omega
theorem ek_rank2 {xs : List Int32} {n : Nat} {w wA wB : px_W} {vA vB : Option Value} {x1 x2 : Int} (hI : hb_I0 w) (hR : ek_RR w) (r1 : -2147483648 ≤ x1 ∧ x1 ≤ 2147483647) (r2 : -2147483648 ≤ x2 ∧ x2 ≤ 2147483647) (hA : ec_F (hb_XL xs) n 158 [.inr (.inl 64), .inl x1, .inl x2] w (vA, wA)) (hB : ec_F (hb_XL xs) n 266 [.inr (.inl 215), .inl x1, .inl x2] wA (vB, wB)) : vA = vB ∧ ek_RR wB := by
  obtain ⟨c, hc6, h44', h10', hv⟩ := hR.2.1.1
  have h44 : ec_fd w 44 0 = (c : Int) := h44'
  have h10 : ef_a w 152 10 = (c : Int) := h10'
  have tx1 : ec_tw x1 = x1 := ec_tw_id r1.1 r1.2
  have tx2 : ec_tw x2 = x2 := ec_tw_id r2.1 r2.2
  have t0 : ec_tw 0 = 0 := rfl
  have t1 : ec_tw 1 = 1 := rfl
  have t2 : ec_tw 2 = 2 := rfl
  -- the class's two questions
  obtain ⟨_, u1, w1, a1, a2⟩ := eg158_0_0_0 (hb_FE hA)
  obtain ⟨e1, W1⟩ := ew_within a1
  rw [tx1, t0, t2] at e1
  injection e1 with e1 i1
  rw [i1] at a2
  have a3 := a2 _ e1 W1
  -- the reference's
  have refQ : wA = w → ec_E hb_X n 266 6 [(0, .inr (.inl 215)), (1, .inl x1), (2, .inl x2)] [.inl (if 0 ≤ x1 ∧ x1 ≤ 2 then 1 else 0)] w (vB, wB) := by
    intro ew
    have hB' := hb_FE hB
    rw [ew] at hB'
    obtain ⟨_, u, y1, b1, b2⟩ := eg266_151_0_0 hB'
    obtain ⟨e, W⟩ := ew_in b1
    rw [tx1, t0, t2] at e
    injection e with e i
    rw [i] at b2
    exact b2 _ e W
  have bad : ∀ z : Int, (vA, wA) = (ec_R z, w) → (vB, wB) = (ec_R z, w) → vA = vB ∧ ek_RR wB := by
    intro z h1 h2
    injection h1 with h1 i1
    injection h2 with h2 i2
    rw [h1, h2, i2]
    exact ⟨rfl, hR⟩
  by_cases p : 0 ≤ x1 ∧ x1 ≤ 2
  · rw [if_pos p] at a3 refQ
    obtain ⟨_, u2, w2, a4, a5⟩ := eg158_0_6_1 a3 (by decide)
    obtain ⟨i2, W2, e2⟩ := ew_ismA a4
    rw [← i2] at a5 W2
    rw [tx2] at e2
    have a6 := a5 _ e2 W2
    have refM : wA = w → ec_E hb_X n 266 13 [(0, .inr (.inl 215)), (1, .inl x1), (2, .inl x2)] [.inl (if 0 ≤ x2 ∧ x2 ≤ 999 then 1 else 0)] w (vB, wB) := by
      intro ew
      obtain ⟨_, u, y1, b1, b2⟩ := eg266_151_6_1 (refQ ew) (by decide)
      obtain ⟨i, W, e⟩ := ew_ismB b1
      rw [← i] at b2 W
      rw [tx2] at e
      exact b2 _ e W
    by_cases pm : 0 ≤ x2 ∧ x2 ≤ 999
    · rw [if_pos pm] at a6 refM
      obtain ⟨_, u3, w3, a7, a8⟩ := eg158_0_13_0 a6 (by decide)
      obtain ⟨k, hk⟩ : ∃ k : Nat, x1 = (k : Int) := ⟨x1.toNat, by omega⟩
      subst hk
      have hk3 : k < 3 := by omega
      obtain ⟨H0, eH⟩ : ∃ H : Bool, ec_fd w 151 32 = (if H = true then 1 else 0) := ⟨_, ev_h32 hI⟩
      have q45 : ∀ u, u < c → ef_a w 45 u = ef_a w 152 (368 + u) := fun u hu => (hv u hu).1
      -- how many lines each VERSION has
      have hln : ∀ u, u < c → ef_a w 46 u = (((ef_a w 46 u).toNat : Nat) : Int) ∧ (ef_a w 46 u).toNat ≤ 8 := by
        intro u hu
        obtain ⟨_, N, t, _, _, _, hrd⟩ := hv u hu
        obtain ⟨a, q, erd, kl, _⟩ := hrd H0 (ef_a w 169)
        have hl8 : q.1.length ≤ 8 := er_rd_len 8 0 [] [] a q erd
        have l46 : ef_a w 46 u = (q.1.length : Int) := kl.1
        omega
      -- the reference reads
      have ref : wA = w → ∃ w4 : px_W, ek_RR w4 ∧ vB = ec_R (ef_a w4 171 k) ∧ wB = w4 ∧ ∃ q : List er_L × List Int, er_RS w4 q.1 ∧ ((er_vm (fun u => ef_a w 152 (368 + u)) x2 c = none ∧ q = ([], [])) ∨ ∃ u, u < c ∧ er_vm (fun u => ef_a w 152 (368 + u)) x2 c = some u ∧ q.1.length ≤ 8 ∧ er_KLp (fun k p => ef_a w (k + 0) p) u q.1) := by
        intro ew
        obtain ⟨_, u, w4, b1, b2⟩ := eg266_151_13_0 (refM ew) (by decide)
        obtain ⟨g1, g2, g3, g4, q, g5, g6⟩ := ew_rdf hc6 h10 (fun u hu => (hv u hu).2) hR.2.2.2 eH b1
        have m := eg266_151_23_0 (b2 g1 g2)
        rw [ec_twn (n := k) (by omega), ef_rd w4 171 k] at m
        obtain ⟨_, hr, _⟩ := m
        injection hr with f1 f2
        rw [tx2] at g6
        refine ⟨w4, ek_f g3 g4 hR, f1, f2, q, g5, ?_⟩
        rcases g6 with g6 | ⟨u, m1, m2, m3, m4, _⟩
        · exact .inl g6
        · exact .inr ⟨u, m1, m2, m3, m4⟩
      -- the class
      obtain ⟨_, u4, w4, b1, b2⟩ := eg80_44_0_0 a7
      obtain ⟨i4, W4, m4⟩ := ew_lln (Ln := fun u => (ef_a w 46 u).toNat) hc6 h44 hln b1
      rw [← i4] at b2 W4
      rw [tx2, t1] at m4
      have evm : er_vm (ef_a w 45) x2 c = er_vm (fun u => ef_a w 152 (368 + u)) x2 c := er_vm_cg c q45
      rw [evm] at m4
      have m4 : (er_vm (fun u => ef_a w 152 (368 + u)) x2 c = none ∧ u4 = ec_R (-1)) ∨ ∃ u, er_vm (fun u => ef_a w 152 (368 + u)) x2 c = some u ∧ u < c ∧ u4 = ec_R (er_ol u (er_ll (fun i => ef_a w 47 (u * 8 + i)) 1 (ef_a w 46 u).toNat)) := m4
      -- its division
      have dl : ∀ (f i : Nat) (x3 x4 : Int), i + f = k → ec_E hb_X n 80 25 [(0, .inr (.inl 108)), (1, .inl (k : Int)), (2, .inl x2), (3, .inl x3), (4, .inl x4), (5, .inl (i : Int))] [] w (u3, w3) → (u3, w3) = (ec_R (ec_rm (er_dt f x4) 10), w) ∧ ec_W hb_A w := by
        intro f
        induction f with
        | zero =>
          intro i x3 x4 hi h
          have l := eg80_44_25_0 h
          rw [ec_twn (n := k) (by omega), ec_twn (n := i) (by omega)] at l
          obtain ⟨_, hr, hW⟩ := eg80_44_44_0 (l (by omega)).2
          exact ⟨hr, hW⟩
        | succ f ih =>
          intro i x3 x4 hi h
          have l := eg80_44_25_1 h
          rw [ec_twn (n := k) (by omega), ec_twn (n := i) (by omega)] at l
          exact ih (i + 1) x3 (ec_dv x4 10) (by omega) (l (by omega)).2
      have fin : ∀ z : Int, u3 = ec_R z → w3 = w → ec_W hb_A w → (∀ w5 : px_W, wA = w → vB = ec_R (ef_a w5 171 k) → (∃ q : List er_L × List Int, er_RS w5 q.1 ∧ ((er_vm (fun u => ef_a w 152 (368 + u)) x2 c = none ∧ q = ([], [])) ∨ ∃ u, u < c ∧ er_vm (fun u => ef_a w 152 (368 + u)) x2 c = some u ∧ q.1.length ≤ 8 ∧ er_KLp (fun k p => ef_a w (k + 0) p) u q.1)) → z = ef_a w5 171 k) → vA = vB ∧ ek_RR wB := by
        intro z e3 i3 W3 hz
        rw [i3] at a8
        obtain ⟨_, hr, _⟩ := eg158_0_27_0 (a8 _ e3 W3)
        injection hr with f1 g1
        obtain ⟨w5, R5, v5, i5, q5⟩ := ref g1
        refine ⟨?_, by rw [i5]; exact R5⟩
        rw [f1, v5, hz w5 g1 v5 q5]
      rcases m4 with ⟨m5, e4⟩ | ⟨u, m5, hu, e4⟩
      · obtain ⟨_, hr, hW⟩ := eg80_44_6_1 (b2 _ e4 W4) (by decide)
        injection hr with f1 f2
        refine fin 9 f1 f2 hW (fun w5 _ _ q5 => ?_)
        obtain ⟨q, g5, g6⟩ := q5
        rcases g6 with ⟨_, g6⟩ | ⟨u, _, g6, _⟩
        · rw [g6] at g5
          exact (er_rk9 hk3 g5.2.2.1).symm
        · rw [m5] at g6
          cases g6
      · -- the lines of VERSION u, as the reference reads them
        obtain ⟨_, N, t, _, _, _, hrd⟩ := hv u hu
        obtain ⟨a, q0, erd0, kl0, _⟩ := hrd H0 (ef_a w 169)
        have b3 := b2 _ e4 W4
        have go : ∀ q : List er_L, er_KLp (fun k p => ef_a w (k + 0) p) u q → q.length ≤ 8 → (ef_a w 46 u).toNat = q.length ∧ er_ll (fun i => ef_a w 47 (u * 8 + i)) 1 (ef_a w 46 u).toNat = er_ll (fun i => (q.map (fun q => q.1)).getD i 0) 1 q.length := by
          intro q kq _
          have l46 : ef_a w 46 u = (q.length : Int) := kq.1
          have el : (ef_a w 46 u).toNat = q.length := by omega
          rw [el]
          exact ⟨rfl, er_ll_cg q.length (fun i hi => (kq.2 i hi).1)⟩
        have h8 : q0.1.length ≤ 8 := er_rd_len 8 0 [] [] a q0 erd0
        cases el : er_ll (fun i => ef_a w 47 (u * 8 + i)) 1 (ef_a w 46 u).toNat with
        | none =>
          rw [el] at b3
          have b4 : ec_E hb_X n 80 6 [(0, .inr (.inl 108)), (1, .inl (k : Int)), (2, .inl x2)] [.inl (-1)] w (u3, w3) := b3
          obtain ⟨_, hr, hW⟩ := eg80_44_6_1 b4 (by decide)
          injection hr with f1 f2
          refine fin 9 f1 f2 hW (fun w5 _ _ q5 => ?_)
          obtain ⟨q, g5, g6⟩ := q5
          rcases g6 with ⟨g6, _⟩ | ⟨u', _, g6, g7, g8⟩
          · rw [m5] at g6
            cases g6
          · rw [m5] at g6
            cases g6
            obtain ⟨_, go2⟩ := go q.1 g8 g7
            rw [el] at go2
            rcases er_lst er_rkl 1 999 (fun q => q.2.1) rfl er_rkl_s q.1 with ⟨_, g⟩ | ⟨i, _, g, _⟩
            · have rk := g5.2.2.1
              rw [g] at rk
              exact (er_rk9 hk3 rk).symm
            · rw [g] at go2
              cases go2
        | some i =>
          rw [el] at b3
          obtain ⟨el0, go0⟩ := go q0.1 kl0 h8
          rw [el] at go0
          have hi8 : i < 8 := by
            rcases er_lst er_rkl 1 999 (fun q => q.2.1) rfl er_rkl_s q0.1 with ⟨g, _⟩ | ⟨i', _, g, g2, _⟩
            · rw [g] at go0
              cases go0
            · rw [g] at go0
              cases go0
              omega
          have b4 : ec_E hb_X n 80 6 [(0, .inr (.inl 108)), (1, .inl (k : Int)), (2, .inl x2)] [.inl ((u * 8 + i : Nat) : Int)] w (u3, w3) := b3
          have l := eg80_44_6_0 b4
          rw [t0, ec_twn (n := u * 8 + i) (by omega), ef_rd w 48 (u * 8 + i)] at l
          obtain ⟨hr, hW⟩ := dl k 0 _ _ (by omega) (l (by omega)).2
          injection hr with f1 f2
          refine fin _ f1 f2 hW (fun w5 _ _ q5 => ?_)
          obtain ⟨q, g5, g6⟩ := q5
          rcases g6 with ⟨g6, _⟩ | ⟨u', _, g6, g7, g8⟩
          · rw [m5] at g6
            cases g6
          · rw [m5] at g6
            cases g6
            obtain ⟨_, go2⟩ := go q.1 g8 g7
            rw [el] at go2
            rcases er_lst er_rkl 1 999 (fun q => q.2.1) rfl er_rkl_s q.1 with ⟨g, _⟩ | ⟨i', ql, g, gi, gq, g1, gv⟩
            · rw [g] at go2
              cases go2
            · rw [g] at go2
              cases go2
              have o1 : ef_a w 48 (u * 8 + i) = (q.1.map er_o1).getD i 0 := (g8.2 i gi).2.1
              rw [er_mg gq] at o1
              have o2 : er_o1 ql = ql.2.1 := by
                unfold er_o1
                rw [if_neg (by omega)]
              have rk := g5.2.2.1
              rw [gv] at rk
              rw [o1, o2]
              exact er_rkx hk3 rk
    · rw [if_neg pm] at a6 refM
      obtain ⟨_, hr, _⟩ := eg158_0_13_1 a6 rfl
      have ew : wA = w := (Prod.mk.inj hr).2
      obtain ⟨_, hr2, _⟩ := eg266_151_13_1 (refM ew) rfl
      exact bad _ hr hr2
  · rw [if_neg p] at a3 refQ
    obtain ⟨_, hr, _⟩ := eg158_0_6_0 a3 rfl
    have ew : wA = w := (Prod.mk.inj hr).2
    obtain ⟨_, hr2, _⟩ := eg266_151_6_0 (refQ ew) rfl
    exact bad _ hr hr2

end
