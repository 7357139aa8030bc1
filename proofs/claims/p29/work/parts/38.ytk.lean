noncomputable section
/-! COMES on both sides -/
/-- SHIPS and CALLS, as words on the world -/
def es_S (w : px_W) (s k : Nat) : Prop := s ≤ 6 ∧ k ≤ 10 ∧ ec_fd w 29 1 = (s : Int) ∧ ef_a w 152 6 = (s : Int) ∧ ec_fd w 29 7 = (k : Int) ∧ ef_a w 152 7 = (k : Int) ∧ (∀ i, i < s → ((0 ≤ ef_a w 152 (248 + 6 * i) ∧ ef_a w 152 (248 + 6 * i) ≤ 99) ∧ 0 ≤ ef_a w 152 (248 + 6 * i + 1) ∧ ef_a w 152 (248 + 6 * i + 1) ≤ 99) ∧ ef_a w 30 i = em_far (ef_a w 152 (248 + 6 * i)) (ef_a w 152 (248 + 6 * i + 1)) ∧ ef_a w 31 i = ef_a w 152 (248 + 6 * i + 2) ∧ ef_a w 32 i = ef_a w 152 (248 + 6 * i + 3) ∧ ef_a w 33 i = ef_a w 152 (248 + 6 * i + 4) ∧ ef_a w 34 i = ef_a w 152 (248 + 6 * i + 5)) ∧ ∀ c, c < k → ef_a w 35 c = ef_a w 152 (284 + c) ∧ 0 ≤ ef_a w 35 c ∧ ef_a w 35 c ≤ 999
def es_T (w : px_W) (s l : Nat) : Prop := (∀ i, i < s → 1 ≤ ef_a w 31 i ∧ ef_a w 31 i ≤ 40) ∧ (ec_fd w 29 0 = ef_a w 152 12 ∧ 0 ≤ ef_a w 152 12 ∧ ef_a w 152 12 ≤ 60) ∧ l ≤ 8 ∧ ec_fd w 29 9 = (l : Int) ∧ ef_a w 152 8 = (l : Int) ∧ ∀ i, i < l → (ef_a w 36 i = ef_a w 152 (294 + 3 * i) ∧ ef_a w 37 i = ef_a w 152 (294 + 3 * i + 1) ∧ ef_a w 38 i = ef_a w 152 (294 + 3 * i + 2)) ∧ 0 ≤ ef_a w 152 (294 + 3 * i) ∧ ef_a w 152 (294 + 3 * i) ≤ 999
theorem es_T_of {w : px_W} (hR : es_RR w) : ∃ s k l : Nat, es_S w s k ∧ es_T w s l := by
  obtain ⟨⟨s, hs, h1, h2, h3⟩, k, hk, g1, g2, g3⟩ := hR.1.1
  obtain ⟨⟨s', hs', e1, e2⟩, r, l, hl, l1, l2, l3⟩ := hR.2.1
  have hS : es_S w s k := ⟨hs, hk, h1, h2, g1, g2, h3, g3⟩
  have q1 : ef_a w 152 6 = (s : Int) := h2
  have q2 : ef_a w 152 6 = (s' : Int) := e1
  have es : s' = s := by omega
  refine ⟨s, k, l, hS, fun i hi => ?_, r, hl, l1, l2, l3⟩
  have m1 : 1 ≤ ef_a w 152 (248 + 6 * i + 2) ∧ ef_a w 152 (248 + 6 * i + 2) ≤ 40 := e2 i (by omega)
  have m2 : ef_a w 31 i = ef_a w 152 (248 + 6 * i + 2) := (hS.2.2.2.2.2.2.1 i hi).2.2.1
  rw [m2]
  exact m1
/-- the MINUTE of the earliest CALL that a SHIP HEARS -/
def es_f (w : px_W) (k i : Nat) : Option Int := em_fh (fun c => em_hr (ef_a w 32 i) (ef_a w 33 i) (ef_a w 30 i) (ef_a w 34 i) (ef_a w 35 c)) (ef_a w 35) k
theorem es_f_in {w : px_W} {s k i : Nat} (hS : es_S w s k) {m : Int} (e : es_f w k i = some m) : 0 ≤ m ∧ m ≤ 999 := em_fh_in k m (fun x hx => (hS.2.2.2.2.2.2.2 x hx).2) e
def es_cm (o : Option Int) (rd fr sp : Int) : Int := match o with
  | none => -3
  | some m => (m + rd) + ec_dv (((10 * fr) + sp) - 1) sp
section ES3
variable {n s k i : Nat} {w w1 : px_W} {v : Option Value}
theorem ew_fhS (hS : es_S w s k) (hi : i < s) (h : ec_E hb_X n 93 0 [(0, .inr (.inl 93)), (1, .inl (i : Int))] [] w (v, w1)) : w = w1 ∧ ec_W hb_A w1 ∧ v = ec_R (em_oz (-3) (es_f w k i)) := ew_fhA (by have := hS.1; omega) hS.2.1 hS.2.2.2.2.1 (fun c hc => (hS.2.2.2.2.2.2.2 c hc).2) h
theorem ew_farS (hS : es_S w s k) (hi : i < s) (h : ec_E hb_X n 229 0 [(0, .inr (.inl 215)), (1, .inl (i : Int))] [] w (v, w1)) : w = w1 ∧ ec_W hb_A w1 ∧ v = ec_R (ef_a w 30 i) := by
  obtain ⟨⟨b1, b2⟩, b3, _⟩ := hS.2.2.2.2.2.2.1 i hi
  rw [b3]
  exact ew_farB (by have := hS.1; omega) rfl rfl b1 b2 h
theorem ew_eaS (hS : es_S w s k) (hi : i < s) (h : ec_E hb_X n 234 0 [(0, .inr (.inl 215)), (1, .inl (i : Int))] [] w (v, w1)) : w = w1 ∧ ec_W hb_A w1 ∧ v = ec_R (em_oz 1000000 (es_f w k i)) := by
  obtain ⟨⟨b1, b2⟩, b3, _, b5, b6, b7⟩ := hS.2.2.2.2.2.2.1 i hi
  unfold es_f
  rw [b3]
  exact ew_eaB (cm := ef_a w 35) (by have := hS.1; omega) hS.2.1 hS.2.2.2.2.2.1 (fun c hc => ⟨(hS.2.2.2.2.2.2.2 c hc).1.symm, (hS.2.2.2.2.2.2.2 c hc).2⟩) rfl rfl b1 b2 b5.symm b6.symm b7.symm h
theorem ew_cmA {l : Nat} (hS : es_S w s k) (hT : es_T w s l) (hi : i < s) (h : ec_E hb_X n 94 0 [(0, .inr (.inl 93)), (1, .inl (i : Int))] [] w (v, w1)) : (v, w1) = (ec_R (es_cm (es_f w k i) (ef_a w 152 12) (ef_a w 30 i) (ef_a w 31 i)), w) ∧ ec_W hb_A w := by
  have hs := hS.1
  have t0 : ec_tw 0 = 0 := rfl
  have tm : ec_tw (-3) = -3 := rfl
  have ti : ec_tw (i : Int) = i := ec_twn (by omega)
  obtain ⟨_, u, y, a1, a2⟩ := eg94_29_0_0 h
  obtain ⟨iy, W, e⟩ := ew_fhS hS hi a1
  rw [← iy] at a2 W
  have b := a2 _ e W
  cases q : es_f w k i with
  | none =>
    rw [q] at b
    obtain ⟨_, hr, hW⟩ := eg94_29_5_0 b rfl
    exact ⟨hr, hW⟩
  | some m =>
    rw [q] at b
    have b' : ec_E hb_X n 94 5 [(0, .inr (.inl 93)), (1, .inl (i : Int))] [.inl m] w (v, w1) := b
    have bm := es_f_in hS q
    have em : ec_tw m = m := ec_tw_id (by omega) (by omega)
    have l := eg94_29_5_1 b'
    rw [ti, ef_rd w 31 i, ef_rd w 30 i, ef_tw w 31 i, em, tm, t0, hT.2.1.1] at l
    have sp := hT.1 i hi
    obtain ⟨_, hr, hW⟩ := l (by omega) (by omega)
    exact ⟨hr, hW⟩
theorem ew_isShB (hs : s ≤ 6) (h2 : ef_a w 152 6 = (s : Int)) {x1 : Int} (r1 : -2147483648 ≤ x1 ∧ x1 ≤ 2147483647) (h : ec_E hb_X n 228 0 [(0, .inr (.inl 215)), (1, .inl x1)] [] w (v, w1)) : w = w1 ∧ ec_W hb_A w1 ∧ v = ec_R (if 0 ≤ x1 ∧ x1 ≤ (s : Int) - 1 then 1 else 0) := by
  have t0 : ec_tw 0 = 0 := rfl
  have t6 : ec_tw 6 = ((6 : Nat) : Int) := rfl
  have tx : ec_tw x1 = x1 := ec_tw_id r1.1 r1.2
  have ts : ec_tw ((s : Int) - 1) = (s : Int) - 1 := ec_tw_id (by omega) (by omega)
  obtain ⟨_, u, y, a1, a2⟩ := eg228_151_0_0 h
  obtain ⟨e, W⟩ := ew_in a1
  rw [t6, ef_rd w 152 6, h2, t0, tx, ts] at e
  injection e with e iy
  rw [iy] at a2
  obtain ⟨_, hr, hW⟩ := eg228_151_14_0 (a2 _ e W)
  injection hr with f1 f2
  rw [f2]
  exact ⟨rfl, hW, f1⟩
theorem ew_comesA {l : Nat} {x1 : Int} (r1 : -2147483648 ≤ x1 ∧ x1 ≤ 2147483647) (hS : es_S w s k) (hT : es_T w s l) (h : ec_E hb_X n 145 0 [(0, .inr (.inl 64)), (1, .inl x1)] [] w (v, w1)) : w1 = w ∧ v = ec_R (if 0 ≤ x1 ∧ x1 ≤ (s : Int) - 1 then es_cm (es_f w k x1.toNat) (ef_a w 152 12) (ef_a w 30 x1.toNat) (ef_a w 31 x1.toNat) else -1) := by
  have hs := hS.1
  have h1 := hS.2.2.1
  have t0 : ec_tw 0 = 0 := rfl
  have tx : ec_tw x1 = x1 := ec_tw_id r1.1 r1.2
  have ts : ec_tw ((s : Int) - 1) = (s : Int) - 1 := ec_tw_id (by omega) (by omega)
  obtain ⟨_, u, y, a1, a2⟩ := eg145_0_0_0 h
  obtain ⟨e, W⟩ := ew_within a1
  rw [h1, t0, tx, ts] at e
  injection e with e iy
  rw [iy] at a2
  have b := a2 _ e W
  by_cases p : 0 ≤ x1 ∧ x1 ≤ (s : Int) - 1
  · rw [if_pos p] at b
    rw [if_pos p]
    obtain ⟨_, u2, y2, a3, a4⟩ := eg145_0_14_1 b (by decide)
    have ex : x1 = ((x1.toNat : Nat) : Int) := by omega
    have a3' : ec_E hb_X n 94 0 [(0, .inr (.inl 93)), (1, .inl ((x1.toNat : Nat) : Int))] [] w (u2, y2) := by
      rw [← ex]
      exact a3
    obtain ⟨e3, W3⟩ := ew_cmA hS hT (by omega) a3'
    injection e3 with e3 i3
    rw [i3] at a4
    obtain ⟨_, hr, _⟩ := eg145_0_25_0 (a4 _ e3 W3)
    injection hr with f1 f2
    exact ⟨f2, f1⟩
  · rw [if_neg p] at b
    rw [if_neg p]
    obtain ⟨_, hr, _⟩ := eg145_0_14_0 b rfl
    injection hr with f1 f2
    exact ⟨f2, f1⟩
theorem ew_comesB {l : Nat} {x1 : Int} (r1 : -2147483648 ≤ x1 ∧ x1 ≤ 2147483647) (hS : es_S w s k) (hT : es_T w s l) (h : ec_E hb_X n 235 0 [(0, .inr (.inl 215)), (1, .inl x1)] [] w (v, w1)) : w1 = w ∧ v = ec_R (if 0 ≤ x1 ∧ x1 ≤ (s : Int) - 1 then es_cm (es_f w k x1.toNat) (ef_a w 152 12) (ef_a w 30 x1.toNat) (ef_a w 31 x1.toNat) else -1) := by
  have hs := hS.1
  have tF : ec_tw 1000000 = 1000000 := rfl
  have t12 : ec_tw 12 = ((12 : Nat) : Int) := rfl
  obtain ⟨_, u, y, a1, a2⟩ := eg235_151_0_0 h
  obtain ⟨iy, W, e⟩ := ew_isShB hs hS.2.2.2.1 r1 a1
  rw [← iy] at a2 W
  have b := a2 _ e W
  by_cases p : 0 ≤ x1 ∧ x1 ≤ (s : Int) - 1
  · rw [if_pos p] at b
    rw [if_pos p]
    obtain ⟨_, u2, y2, a3, a4⟩ := eg235_151_5_0 b (by decide)
    obtain ⟨i, hi⟩ : ∃ i : Nat, i = x1.toNat := ⟨_, rfl⟩
    have ex : x1 = (i : Int) := by omega
    rw [← hi]
    rw [ex] at a3 a4
    have his : i < s := by omega
    obtain ⟨i3, W3, e3⟩ := ew_eaS hS his a3
    rw [← i3] at a4 W3
    have b2 := a4 _ e3 W3
    have sp : ef_a w 31 i = ef_a w 152 (248 + 6 * i + 2) := (hS.2.2.2.2.2.2.1 i his).2.2.1
    have ep : 248 + 6 * (i : Int) + 2 = ((248 + 6 * i + 2 : Nat) : Int) := by omega
    cases q : es_f w k i with
    | none =>
      rw [q] at b2
      obtain ⟨_, hr, _⟩ := eg235_151_15_1 b2 rfl
      injection hr with f1 f2
      exact ⟨f2, f1⟩
    | some m =>
      rw [q] at b2
      have b3 : ec_E hb_X n 235 15 [(0, .inr (.inl 215)), (1, .inl (i : Int))] [.inl m] w (v, w1) := b2
      have bm := es_f_in hS q
      have em : ec_tw m = m := ec_tw_id (by omega) (by omega)
      have l := eg235_151_15_0 b3
      rw [em, tF, ep, ec_twn (n := 248 + 6 * i + 2) (by omega), ef_rd w 152 (248 + 6 * i + 2), ← sp, t12, ef_rd w 152 12] at l
      obtain ⟨_, u5, y5, a5, a6⟩ := l (by omega)
      obtain ⟨i5, W5, e5⟩ := ew_farS hS his a5
      rw [← i5] at a6 W5
      obtain ⟨_, hr, _⟩ := eg235_151_59_0 (a6 _ e5 W5)
      injection hr with f1 f2
      exact ⟨f2, f1⟩
  · rw [if_neg p] at b
    rw [if_neg p]
    obtain ⟨_, hr, _⟩ := eg235_151_5_1 b rfl
    injection hr with f1 f2
    exact ⟨f2, f1⟩
end ES3
theorem es_comes2 {xs : List Int32} {n : Nat} {w wA wB : px_W} {vA vB : Option Value} {x1 : Int} (hR : es_RR w) (r1 : -2147483648 ≤ x1 ∧ x1 ≤ 2147483647) (hA : ec_F (hb_XL xs) n 145 [.inr (.inl 64), .inl x1] w (vA, wA)) (hB : ec_F (hb_XL xs) n 235 [.inr (.inl 215), .inl x1] wA (vB, wB)) : vA = vB ∧ es_RR wB := by
  obtain ⟨s, k, l, hS, hT⟩ := es_T_of hR
  obtain ⟨eA, fA⟩ := ew_comesA r1 hS hT (hb_FE hA)
  rw [eA] at hB
  obtain ⟨eB, fB⟩ := ew_comesB r1 hS hT (hb_FE hB)
  rw [eB]
  exact ⟨fA.trans fB.symm, hR⟩

end
