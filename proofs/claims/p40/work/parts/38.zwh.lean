noncomputable section
/-! RULES: bids, and must at the law's head -/
section EM4
variable {n i k : Nat} {w w1 : px_W} {v : Option Value} {m : Int} {H : Bool} {M : Nat → Int}
theorem ew_bid {c u : Nat} {ls : List er_L} {ss : List Int} (hc : c ≤ 6) (h44 : ec_fd w 44 0 = (c : Int)) (hu : u < c) (evm : er_vm (ef_a w 45) m c = some u) (hK : em_K w i k m H M) (h8 : ls.length ≤ 8) (h50 : ss.length ≤ 50) (kl : er_KLp (fun k p => ef_a w (k + 0) p) u ls) (ks : er_Csp (fun k p => ef_a w (k + 0) p) u ss) (hLS : ∀ l ∈ ls, er_LS H M l ss) (h : ec_E hb_X n 81 0 [(0, .inr (.inl 108)), (1, .inr (.inl 93)), (2, .inl (i : Int)), (3, .inl m)] [] w (v, w1)) : w = w1 ∧ ec_W hb_A w1 ∧ v = ec_R (if ls.any (fun q => q.2.2.2.2) = true then 1 else 0) := by
  have t0 : ec_tw 0 = 0 := rfl
  have t2 : ec_tw 2 = 2 := rfl
  have hm := hK.2.1
  have tm : ec_tw m = m := ec_tw_id (by omega) (by omega)
  obtain ⟨_, u2, w2, a1, a2⟩ := eg81_44_0_0 h
  obtain ⟨i2, W2, e2⟩ := ew_vat hc h44 a1
  rw [← i2] at a2 W2
  rw [tm, evm] at e2
  have e2' : u2 = ec_R (u : Int) := e2
  have k0 := eg81_44_5_0 (a2 _ e2' W2)
  rw [t0, ec_twn (n := u) (by omega)] at k0
  have l46 : ef_a w 46 u = (ls.length : Int) := kl.1
  have lp : ∀ (d x : Nat), x + d = ls.length → ec_E hb_X n 81 17 [(0, .inr (.inl 108)), (1, .inr (.inl 93)), (2, .inl (i : Int)), (3, .inl m), (4, .inl (u : Int)), (5, .inl (x : Int))] [] w (v, w1) → (v, w1) = (ec_R (if (ls.drop x).any (fun q => q.2.2.2.2) = true then 1 else 0), w) ∧ ec_W hb_A w := by
    intro d
    induction d with
    | zero =>
      intro x hx h
      have l := eg81_44_17_0 h
      rw [ec_twn (n := u) (by omega), ec_twn (n := x) (by omega), ef_rd w 46 u, l46, ec_twn (n := ls.length) (by omega)] at l
      obtain ⟨_, hr, hW⟩ := l (by omega)
      rw [List.drop_eq_nil_of_le (by omega)]
      exact ⟨hr, hW⟩
    | succ d ih =>
      intro x hx h
      have hxl : x < ls.length := by omega
      obtain ⟨l, hl⟩ : ∃ l, ls[x] = l := ⟨_, rfl⟩
      have hgx : ls[x]? = some l := by
        rw [List.getElem?_eq_getElem hxl, hl]
      have hmem : l ∈ ls := List.mem_of_getElem? hgx
      rw [List.drop_eq_getElem_cons hxl, hl, List.any_cons]
      obtain ⟨s47', s48', s49'⟩ := kl.2 x hxl
      have s47 : ef_a w 47 (u * 8 + x) = l.1 := s47'.trans (er_mg hgx _ _)
      have s48 : ef_a w 48 (u * 8 + x) = er_o1 l := s48'.trans (er_mg hgx _ _)
      have s49 : ef_a w 49 (u * 8 + x) = er_o2 l := s49'.trans (er_mg hgx _ _)
      have tl : ec_tw l.1 = l.1 := by
        rw [← s47]
        exact ef_tw _ _ _
      have ep : (u : Int) * 8 + (x : Int) = ((u * 8 + x : Nat) : Int) := by omega
      have k1 := eg81_44_17_1 h
      have k2 := eg81_44_17_2 h
      rw [ec_twn (n := u) (by omega), ec_twn (n := x) (by omega), ef_rd w 46 u, l46, ec_twn (n := ls.length) (by omega), ep, ec_twn (n := u * 8 + x) (by omega), ef_rd w 47 (u * 8 + x), s47, tl, t2] at k1 k2
      obtain ⟨g1, g2⟩ := hLS l hmem
      have ih' := ih (x + 1) (by omega)
      by_cases c2 : l.1 = 2
      · obtain ⟨n0, q1, q2, q3, q4, q5⟩ := g2 c2
        have o1 : er_o1 l = (n0 : Int) := by
          unfold er_o1
          rw [if_pos c2, q1]
          omega
        have o2 : er_o2 l = ((n0 + l.2.2.2.1.length : Nat) : Int) := by
          unfold er_o2
          rw [if_pos c2, q2]
          omega
        obtain ⟨_, u3, w3, b1, b2⟩ := k2 (by omega) c2
        have hst : ∀ y, y < l.2.2.2.1.length → ef_a w 50 (u * 64 + (n0 + y)) = l.2.2.2.1.getD y 0 := fun y hy => (ks.2 (n0 + y) (by omega)).trans (q4 y hy)
        obtain ⟨i3, W3, e3⟩ := ew_hld (st := l.2.2.2.1) (b := l.2.2.2.2) (by omega) (by omega) hK (s48.trans o1) (s49.trans o2) (by omega) hst q5 b1
        rw [← i3] at b2 W3
        have b3 := b2 _ e3 W3
        by_cases T : l.2.2.2.2 = true
        · rw [if_pos T] at b3
          obtain ⟨_, hr, hW⟩ := eg81_44_57_1 b3 (by decide)
          rw [T, Bool.true_or, if_pos rfl]
          exact ⟨hr, hW⟩
        · rw [if_neg T] at b3
          have T' : l.2.2.2.2 = false := by
            cases e : l.2.2.2.2 with
            | true => exact absurd e T
            | false => rfl
          rw [T', Bool.false_or]
          exact ih' (eg81_44_62_0 (eg81_44_57_0 b3 rfl).2).2
      · rw [g1 c2, Bool.false_or]
        exact ih' (eg81_44_62_0 (k1 (by omega) c2).2).2
  obtain ⟨hr, hW⟩ := lp ls.length 0 (by omega) (k0 (by omega)).2
  injection hr with f1 f2
  rw [f2]
  exact ⟨rfl, hW, f1⟩
theorem ew_bid0 {c : Nat} (hc : c ≤ 6) (h44 : ec_fd w 44 0 = (c : Int)) (tm : ec_tw m = m) (evm : er_vm (ef_a w 45) m c = none) (h : ec_E hb_X n 81 0 [(0, .inr (.inl 108)), (1, .inr (.inl 93)), (2, .inl (i : Int)), (3, .inl m)] [] w (v, w1)) : w = w1 ∧ ec_W hb_A w1 ∧ v = ec_R 0 := by
  obtain ⟨_, u2, w2, a1, a2⟩ := eg81_44_0_0 h
  obtain ⟨i2, W2, e2⟩ := ew_vat hc h44 a1
  rw [← i2] at a2 W2
  rw [tm, evm] at e2
  have e2' : u2 = ec_R (-1) := e2
  obtain ⟨_, hr, hW⟩ := eg81_44_5_1 (a2 _ e2' W2) (by decide)
  injection hr with f1 f2
  rw [f2]
  exact ⟨rfl, hW, f1⟩
end EM4
def em_RR (w : px_W) : Prop := ek_RR w ∧ em_R w
def em_dc : List (Nat × Nat × Nat) := ek_dc ++ em_dcS
theorem em_dc_st {w w' : px_W} (hW : ec_W hb_A w) (hW' : ec_W hb_A w') (h : ∀ p ∈ em_dc, ∀ i, p.2.1 ≤ i → i < p.2.2 → sy_get w' p.1 i = sy_get w p.1 i) (hR : em_RR w) : em_RR w' := ⟨ek_dc_st hW hW' (fun p hp => h p (List.mem_append_left _ hp)) hR.1, em_dcS_st hW hW' (fun p hp => h p (List.mem_append_right _ hp)) hR.2⟩
theorem em_frK {Wr : sy_Wr} {w w1 : px_W} (hd : hb_dj Wr ek_dc = true) (hW : ec_W hb_A w) (hW1 : ec_W hb_A w1) (f : ∀ k i : Nat, sy_may Wr k i = false → sy_get w1 k i = sy_get w k i) (hR : ek_RR w) : ek_RR w1 := ek_dc_st hW hW1 (fun p hp i h1 h2 => f p.1 i (hb_dj_ok hd hp h1 h2)) hR
theorem em_frS {Wr : sy_Wr} {w w1 : px_W} (hd : hb_dj Wr em_dcS = true) (hW : ec_W hb_A w) (hW1 : ec_W hb_A w1) (f : ∀ k i : Nat, sy_may Wr k i = false → sy_get w1 k i = sy_get w k i) (hR : em_R w) : em_R w1 := em_dcS_st hW hW1 (fun p hp i h1 h2 => f p.1 i (hb_dj_ok hd hp h1 h2)) hR
theorem em_must2 {xs : List Int32} {n : Nat} {w wA wB : px_W} {vA vB : Option Value} {x1 x2 : Int} (hR : em_RR w) (r1 : -2147483648 ≤ x1 ∧ x1 ≤ 2147483647) (r2 : -2147483648 ≤ x2 ∧ x2 ≤ 2147483647) (hA : ec_F (hb_XL xs) n 159 [.inr (.inl 64), .inl x1, .inl x2] w (vA, wA)) (hB : ec_F (hb_XL xs) n 267 [.inr (.inl 215), .inl x1, .inl x2] wA (vB, wB)) : vA = vB ∧ em_RR wB := by
  obtain ⟨c, hc6, h44', h10', hv⟩ := hR.1.2.1.1
  have h44 : ec_fd w 44 0 = (c : Int) := h44'
  have h10 : ef_a w 152 10 = (c : Int) := h10'
  obtain ⟨⟨s, hs, hs1', hs2', hs3'⟩, k, hk, hk1', hk2', hk3'⟩ := hR.2.1
  have hs1 : ec_fd w 29 1 = (s : Int) := hs1'
  have hs2 : ef_a w 152 6 = (s : Int) := hs2'
  have hk1 : ec_fd w 29 7 = (k : Int) := hk1'
  have hk2 : ef_a w 152 7 = (k : Int) := hk2'
  have hk3 : ∀ c, c < k → ef_a w 35 c = ef_a w 152 (284 + c) ∧ 0 ≤ ef_a w 35 c ∧ ef_a w 35 c ≤ 999 := hk3'
  have tx1 : ec_tw x1 = x1 := ec_tw_id r1.1 r1.2
  have tx2 : ec_tw x2 = x2 := ec_tw_id r2.1 r2.2
  have t0 : ec_tw 0 = 0 := rfl
  have t1' : ec_tw 1 = ((1 : Nat) : Int) := rfl
  have t2' : ec_tw 2 = ((2 : Nat) : Int) := rfl
  have t0' : ec_tw 0 = ((0 : Nat) : Int) := rfl
  have t6 : ec_tw 6 = ((6 : Nat) : Int) := rfl
  have ts : ec_tw ((s : Int) - 1) = (s : Int) - 1 := ec_tw_id (by omega) (by omega)
  -- the class's questions
  obtain ⟨_, u1, w1, a1, a2⟩ := eg159_0_0_0 (hb_FE hA)
  obtain ⟨e1, W1⟩ := ew_within a1
  rw [hs1, tx1, t0, ts] at e1
  injection e1 with e1 i1
  rw [i1] at a2
  have a3 := a2 _ e1 W1
  have refQ : wA = w → ec_E hb_X n 267 5 [(0, .inr (.inl 215)), (1, .inl x1), (2, .inl x2)] [.inl (if 0 ≤ x1 ∧ x1 ≤ (s : Int) - 1 then 1 else 0)] w (vB, wB) := by
    intro ew
    have hB' := hb_FE hB
    rw [ew] at hB'
    obtain ⟨_, u, y1, b1, b2⟩ := eg267_151_0_0 hB'
    have l := eg228_151_0_0 b1
    rw [t6, ef_rd w 152 6, hs2] at l
    obtain ⟨_, u3, y3, d1, d2⟩ := l
    obtain ⟨e, W⟩ := ew_in d1
    rw [tx1, t0, ts] at e
    injection e with e i
    rw [i] at d2
    obtain ⟨_, hr, hW⟩ := eg228_151_14_0 (d2 _ e W)
    injection hr with f1 f2
    rw [f2] at b2
    exact b2 _ f1 hW
  have bad : ∀ z : Int, (vA, wA) = (ec_R z, w) → (vB, wB) = (ec_R z, w) → vA = vB ∧ em_RR wB := by
    intro z h1 h2
    injection h1 with h1 i1
    injection h2 with h2 i2
    rw [h1, h2, i2]
    exact ⟨rfl, hR⟩
  by_cases p : 0 ≤ x1 ∧ x1 ≤ (s : Int) - 1
  · rw [if_pos p] at a3 refQ
    obtain ⟨_, u2, w2, a4, a5⟩ := eg159_0_14_1 a3 (by decide)
    obtain ⟨i2, W2, e2⟩ := ew_ismA a4
    rw [← i2] at a5 W2
    rw [tx2] at e2
    have a6 := a5 _ e2 W2
    have refM : wA = w → ec_E hb_X n 267 12 [(0, .inr (.inl 215)), (1, .inl x1), (2, .inl x2)] [.inl (if 0 ≤ x2 ∧ x2 ≤ 999 then 1 else 0)] w (vB, wB) := by
      intro ew
      obtain ⟨_, u, y1, b1, b2⟩ := eg267_151_5_1 (refQ ew) (by decide)
      obtain ⟨i, W, e⟩ := ew_ismB b1
      rw [← i] at b2 W
      rw [tx2] at e
      exact b2 _ e W
    by_cases pm : 0 ≤ x2 ∧ x2 ≤ 999
    · rw [if_pos pm] at a6 refM
      obtain ⟨i, hi⟩ : ∃ i : Nat, x1 = (i : Int) := ⟨x1.toNat, by omega⟩
      subst hi
      have his : i < s := by omega
      obtain ⟨⟨ra, rb⟩, q30', q31', q32', q33', q34'⟩ := hs3' i his
      have q30 : ef_a w 30 i = em_far (ef_a w 152 (248 + 6 * i)) (ef_a w 152 (248 + 6 * i + 1)) := q30'
      have q31 : ef_a w 31 i = ef_a w 152 (248 + 6 * i + 2) := q31'
      have q32 : ef_a w 32 i = ef_a w 152 (248 + 6 * i + 3) := q32'
      have q33 : ef_a w 33 i = ef_a w 152 (248 + 6 * i + 4) := q33'
      have q34 : ef_a w 34 i = ef_a w 152 (248 + 6 * i + 5) := q34'
      obtain ⟨F, hF⟩ : ∃ F, em_fh (fun c => em_hr (ef_a w 32 i) (ef_a w 33 i) (ef_a w 30 i) (ef_a w 34 i) (ef_a w 35 c)) (ef_a w 35) k = F := ⟨_, rfl⟩
      have bF : ∀ f, F = some f → 0 ≤ f ∧ f ≤ 999 := fun f e => em_fh_in k f (fun x hx => (hk3 x hx).2) (hF.trans e)
      obtain ⟨_, u3, w3, a7, a8⟩ := eg159_0_21_0 a6 (by decide)
      have q45 : ∀ u, u < c → ef_a w 45 u = ef_a w 152 (368 + u) := fun u hu => (hv u hu).1
      have evm : er_vm (ef_a w 45) x2 c = er_vm (fun u => ef_a w 152 (368 + u)) x2 c := er_vm_cg c q45
      have mkK : ∀ M : Nat → Int, M 0 = ef_a w 30 i → M 1 = ef_a w 31 i → M 2 = x2 → em_K w i k x2 (em_H F x2) M := fun M m0 m1 m2 => ⟨⟨by omega, hk, hk1, fun c hc => (hk3 c hc).2⟩, pm, by rw [hF], m0, m1, m2⟩
      -- the class, with lines that fit
      have cls : ∀ (M : Nat → Int) (u : Nat) (q : List er_L × List Int), M 0 = ef_a w 30 i → M 1 = ef_a w 31 i → M 2 = x2 → u < c → er_vm (ef_a w 45) x2 c = some u → er_KLp (fun k p => ef_a w (k + 0) p) u q.1 → er_Csp (fun k p => ef_a w (k + 0) p) u q.2 → (∃ (N : Nat) (t : Nat → Int) (a : Nat), N ≤ 200 ∧ (∀ y, y < N → 0 ≤ t y ∧ t y ≤ 255) ∧ er_rd (fun j => er_co t N (er_p t N j)) (fun j => er_va t N (er_p t N j)) (em_H F x2) M 8 0 [] [] = (a, some q)) → w = w3 ∧ ec_W hb_A w3 ∧ u3 = ec_R (if q.1.any (fun q => q.2.2.2.2) = true then 1 else 0) := by
        intro M u q m0 m1 m2 hu ev kl ks hN
        obtain ⟨N, t, a, hN, hb, erd⟩ := hN
        exact ew_bid hc6 h44 hu ev (mkK M m0 m1 m2) (er_rd_len 8 0 [] [] a q erd) (er_rd_50 hN hb erd) kl ks (er_rd_LS (fun j => er_va_r hb _) 8 0 [] [] a q (fun l hl => absurd hl List.not_mem_nil) erd) a7
      -- the world is as it was
      have same : w = w3 ∧ ec_W hb_A w3 ∧ ∃ z : Int, u3 = ec_R z := by
        cases ev : er_vm (ef_a w 45) x2 c with
        | none =>
          obtain ⟨y1, y2, y3⟩ := ew_bid0 hc6 h44 tx2 ev a7
          exact ⟨y1, y2, 0, y3⟩
        | some u =>
          have hu := er_vm_lt c u ev
          obtain ⟨_, N, t, hN, hS, ht, hrd⟩ := hv u hu
          obtain ⟨a, q, erd, kl, ks⟩ := hrd (em_H F x2) (fun j => if j = 0 then ef_a w 30 i else if j = 1 then ef_a w 31 i else x2)
          obtain ⟨y1, y2, y3⟩ := cls (fun j => if j = 0 then ef_a w 30 i else if j = 1 then ef_a w 31 i else x2) u q rfl rfl rfl hu ev kl ks ⟨N, t, a, hN, fun y hy => (ht y hy).2, erd⟩
          exact ⟨y1, y2, _, y3⟩
      obtain ⟨i3, W3, z3, e3⟩ := same
      rw [← i3] at a8 W3
      have b39 := a8 _ e3 W3
      have ew : wA = w := by
        by_cases cz : ec_tw z3 = ec_tw 0
        · obtain ⟨_, hr, _⟩ := eg159_0_39_0 b39 cz
          exact (Prod.mk.inj hr).2
        · obtain ⟨_, hr, _⟩ := eg159_0_39_1 b39 cz
          exact (Prod.mk.inj hr).2
      -- the reference
      obtain ⟨_, u4, w4, c1, c2⟩ := eg267_151_12_0 (refM ew) (by decide)
      obtain ⟨i4, W4, e4⟩ := ew_eaB (cm := ef_a w 35) (by omega) hk hk2 (fun c hc => ⟨(hk3 c hc).1.symm, (hk3 c hc).2⟩) rfl rfl ra rb q32.symm q33.symm q34.symm c1
      rw [← i4] at c2 W4
      rw [← q30, hF] at e4
      have b23 := c2 _ e4 W4
      have b32 : ec_E hb_X n 267 32 [(0, .inr (.inl 215)), (1, .inl (i : Int)), (2, .inl x2)] [.inl (if em_H F x2 = true then 1 else 0), .inr (.inl 215)] w (vB, wB) := by
        have l0 := eg267_151_23_0 b23
        have l1 := eg267_151_23_1 b23
        cases F with
        | none =>
          have tF : ec_tw (em_oz 1000000 none) = 1000000 := rfl
          rw [tF, tx2] at l0
          exact (l0 (by omega)).2
        | some f =>
          have bf := bF f rfl
          have tF : ec_tw (em_oz 1000000 (some f)) = f := ec_tw_id (a := f) (by omega) (by omega)
          rw [tF, tx2] at l0 l1
          show ec_E hb_X n 267 32 [(0, .inr (.inl 215)), (1, .inl (i : Int)), (2, .inl x2)] [.inl (if decide (f ≤ x2) = true then 1 else 0), .inr (.inl 215)] w (vB, wB)
          by_cases cf : f ≤ x2
          · rw [if_pos (decide_eq_true cf)]
            exact (l1 cf).2
          · rw [if_neg (fun z => cf (of_decide_eq_true z))]
            exact (l0 (by omega)).2
      obtain ⟨_, u5, w5, c3, c4⟩ := eg267_151_32_0 b32
      have Wp : ec_W hb_A (ec_pf w 151 32 (if em_H F x2 = true then 1 else 0)) := ec_W_pf (k := 151) (f := 32) rfl rfl W4
      obtain ⟨y, hy⟩ : ∃ y, y = ec_pf w 151 32 (if em_H F x2 = true then 1 else 0) := ⟨_, rfl⟩
      have sy : ef_s [151] w y := by
        rw [hy]
        exact ef_s_pf List.mem_cons_self
      have fy : ∀ g, ec_fd y 151 g = if g = 32 then (if em_H F x2 = true then 1 else 0) else ec_fd w 151 g := by
        intro g
        rw [hy, ec_fd_pf (k := 151) (f := 32) W4 rfl (by decide)]
        have et : ec_tw (if em_H F x2 = true then 1 else 0) = if em_H F x2 = true then 1 else 0 := by
          split <;> rfl
        rw [et]
      rw [← hy] at c3 Wp
      have dy : ef_a y 152 = ef_a w 152 := ef_s_a sy (by decide)
      obtain ⟨i5, W5, e5⟩ := ew_farB (w := y) (a := ef_a w 152 (248 + 6 * i)) (b := ef_a w 152 (248 + 6 * i + 1)) (by omega) (by rw [dy]) (by rw [dy]) ra rb c3
      rw [← i5] at c4 W5
      rw [← q30] at e5
      have l45 := eg267_151_45_0 (c4 _ e5 W5)
      have p2 : 248 + 6 * (i : Int) + 2 = ((248 + 6 * i + 2 : Nat) : Int) := by omega
      have g152 : ∀ (j z : Int), ec_rd (ec_wr y 169 j z) 152 ((248 + 6 * i + 2 : Nat) : Int) = ef_a w 31 i := fun j z => (ec_rd_wr_o (by decide)).trans ((congrFun dy (248 + 6 * i + 2)).trans q31.symm)
      rw [p2, ec_twn (n := 248 + 6 * i + 2) (by omega), g152, t0', t1', t2'] at l45
      obtain ⟨_, u6, w6, c5, c6⟩ := l45
      obtain ⟨V1, m1, n1⟩ := em_w1 (k := 169) (n := 3) (p := 0) (z := ef_a w 30 i) W5 rfl (by decide)
      obtain ⟨y1, hy1⟩ : ∃ y', y' = ec_wr y 169 ((0 : Nat) : Int) (ef_a w 30 i) := ⟨_, rfl⟩
      rw [← hy1] at c5 V1 m1 n1
      obtain ⟨V2, m2, n2⟩ := em_w1 (k := 169) (n := 3) (p := 1) (z := ef_a w 31 i) V1 rfl (by decide)
      obtain ⟨y2, hy2⟩ : ∃ y', y' = ec_wr y1 169 ((1 : Nat) : Int) (ef_a w 31 i) := ⟨_, rfl⟩
      rw [← hy2] at c5 V2 m2 n2
      obtain ⟨V3, m3, n3⟩ := em_w1 (k := 169) (n := 3) (p := 2) (z := x2) V2 rfl (by decide)
      obtain ⟨y3, hy3⟩ : ∃ y', y' = ec_wr y2 169 ((2 : Nat) : Int) x2 := ⟨_, rfl⟩
      rw [← hy3] at c5 V3 m3 n3
      have s3 : ef_s [169] y y3 := ef_s_trans (ef_s_trans m1 m2) m3
      have sw : ef_s [151, 169, 170, 171] w y3 := ef_s_trans (ef_s_mono sy (by decide)) (ef_s_mono s3 (by decide))
      have fw : ∀ g, g < 24 → ec_fd y3 151 g = ec_fd w 151 g := fun g hg => by
        rw [ef_s_f s3 (by decide), fy g, if_neg (by omega)]
      have M0 : ef_a y3 169 0 = ef_a w 30 i := by
        rw [n3 0, if_neg (by decide), n2 0, if_neg (by decide), n1 0, if_pos rfl]
        exact ef_tw _ _ _
      have M1 : ef_a y3 169 1 = ef_a w 31 i := by
        rw [n3 1, if_neg (by decide), n2 1, if_pos rfl]
        exact ef_tw _ _ _
      have M2 : ef_a y3 169 2 = x2 := by
        rw [n3 2, if_pos rfl]
        exact tx2
      have R3 : em_RR y3 := ⟨ek_f sw fw hR.1, em_f sw fw hR.2⟩
      have d3 : ef_a y3 152 = ef_a w 152 := ef_s_a sw (by decide)
      have rows : ∀ k, k < 52 → ef_a y3 k = ef_a w k := fun k hk => ef_s_a sw (fun z => by
        simp only [List.mem_cons, List.not_mem_nil, or_false] at z
        omega)
      have hv3 : ∀ u, u < c → er_VS (fun k p => ef_a y3 (k + 0) p) (fun p => ef_a y3 152 p) u := fun u hu => er_VS_of (R := fun k p => ef_a w (k + 0) p) (D := fun p => ef_a w 152 p) (congrFun (rows 46 (by decide)) u) (congrFun (rows 51 (by decide)) u) (fun j _ => ⟨congrFun (rows 47 (by decide)) _, congrFun (rows 48 (by decide)) _, congrFun (rows 49 (by decide)) _⟩) (fun j _ => congrFun (rows 50 (by decide)) _) (congrFun d3 _) (fun j _ => congrFun d3 _) (hv u hu).2
      obtain ⟨g1, g2, g3, g4, q, g5, g6⟩ := ew_rdf (H := em_H F x2) hc6 (by rw [d3]; exact h10) hv3 R3.1.2.2.2 (by rw [ef_s_f s3 (by decide), fy 32, if_pos rfl]) c5
      have b79 := c6 g1 g2
      have R6 : em_RR w6 := ⟨ek_f g3 g4 R3.1, em_f g3 g4 R3.2⟩
      rw [tx2, d3, ← evm] at g6
      -- the class's answer is that of these lines
      have ans : u3 = ec_R (if er_dc q.1 = true then 1 else 0) := by
        rw [er_dc_any]
        rcases g6 with ⟨ev, eq⟩ | ⟨u, hu, ev, _, kl, ks, N, t, a, hN, hb, erd⟩
        · rw [eq]
          exact (ew_bid0 hc6 h44 tx2 ev a7).2.2
        · have kl' : er_KLp (fun k p => ef_a w (k + 0) p) u q.1 := by
            refine ⟨(congrFun (rows 46 (by decide)) u).symm.trans kl.1, fun j hj => ?_⟩
            obtain ⟨z1, z2, z3⟩ := kl.2 j hj
            exact ⟨(congrFun (rows 47 (by decide)) _).symm.trans z1, (congrFun (rows 48 (by decide)) _).symm.trans z2, (congrFun (rows 49 (by decide)) _).symm.trans z3⟩
          have ks' : er_Csp (fun k p => ef_a w (k + 0) p) u q.2 := ⟨(congrFun (rows 51 (by decide)) u).symm.trans ks.1, fun j hj => (congrFun (rows 50 (by decide)) _).symm.trans (ks.2 j hj)⟩
          exact (cls (ef_a y3 169) u q M0 M1 M2 hu ev kl' ks' ⟨N, t, a, hN, hb, erd⟩).2.2
      have g39 : ec_fd w6 151 39 = (if er_dc q.1 = true then 1 else 0) := g5.2.2.2
      have eb : ec_E hb_X n 159 39 [(0, .inr (.inl 64)), (1, .inl (i : Int)), (2, .inl x2)] [.inl (if er_dc q.1 = true then 1 else 0)] w (vA, wA) := a8 _ ans W3
      have j0 := eg267_151_79_0 b79
      have j1 := eg267_151_79_1 b79
      rw [ec_tw_fd, g39] at j0 j1
      by_cases cd : er_dc q.1 = true
      · rw [if_pos cd] at eb j1
        obtain ⟨_, hr, _⟩ := eg159_0_39_1 eb (by decide)
        obtain ⟨_, hr2, _⟩ := j1 (by decide)
        injection hr with f1 _
        injection hr2 with f2 i6
        rw [i6]
        exact ⟨f1.trans f2.symm, R6⟩
      · rw [if_neg cd] at eb j0
        obtain ⟨_, hr, _⟩ := eg159_0_39_0 eb rfl
        obtain ⟨_, hr2, _⟩ := j0 rfl
        injection hr with f1 _
        injection hr2 with f2 i6
        rw [i6]
        exact ⟨f1.trans f2.symm, R6⟩
    · rw [if_neg pm] at a6 refM
      obtain ⟨_, hr, _⟩ := eg159_0_21_1 a6 rfl
      have ew : wA = w := (Prod.mk.inj hr).2
      obtain ⟨_, hr2, _⟩ := eg267_151_12_1 (refM ew) rfl
      exact bad _ hr hr2
  · rw [if_neg p] at a3 refQ
    obtain ⟨_, hr, _⟩ := eg159_0_14_0 a3 rfl
    have ew : wA = w := (Prod.mk.inj hr).2
    obtain ⟨_, hr2, _⟩ := eg267_151_5_0 (refQ ew) rfl
    exact bad _ hr hr2

end
