noncomputable section
/-! HEARS on both sides -/
def es_bs (h : Nat → Bool) : Nat → Int
  | 0 => 0
  | i + 1 => ec_or (es_bs h i) (if h i = true then ec_shl 1 (i : Int) else 0)
theorem es_bs_cg {h h' : Nat → Bool} : ∀ s : Nat, (∀ i, i < s → h i = h' i) → es_bs h s = es_bs h' s
  | 0, _ => rfl
  | s + 1, e => by
    have e1 := es_bs_cg s (fun i hi => e i (by omega))
    have e2 := e s (by omega)
    show ec_or (es_bs h s) (if h s = true then ec_shl 1 (s : Int) else 0) = ec_or (es_bs h' s) (if h' s = true then ec_shl 1 (s : Int) else 0)
    rw [e1, e2]
theorem es_bs_s (h : Nat → Bool) (i : Nat) : es_bs h (i + 1) = ec_or (es_bs h i) (if h i = true then ec_shl 1 (i : Int) else 0) := rfl
def es_hA (w : px_W) (m : Int) (i : Nat) : Bool := em_hr (ef_a w 32 i) (ef_a w 33 i) (ef_a w 30 i) (ef_a w 34 i) m
def es_hB (w : px_W) (m : Int) (i : Nat) : Bool := em_hr (ef_a w 152 (248 + 6 * i + 3)) (ef_a w 152 (248 + 6 * i + 4)) (em_far (ef_a w 152 (248 + 6 * i)) (ef_a w 152 (248 + 6 * i + 1))) (ef_a w 152 (248 + 6 * i + 5)) m
section ES1
variable {n s k : Nat} {w w1 : px_W} {v : Option Value}
theorem ew_heA {c : Nat} (hs : s ≤ 6) (hc : c < 10) (h1 : ec_fd w 29 1 = (s : Int)) (h : ec_E hb_X n 91 0 [(0, .inr (.inl 93)), (1, .inl (c : Int))] [] w (v, w1)) : (v, w1) = (ec_R (es_bs (es_hA w (ef_a w 35 c)) s), w) ∧ ec_W hb_A w := by
  have lp : ∀ (d i : Nat), i + d = s → ec_E hb_X n 91 4 [(0, .inr (.inl 93)), (1, .inl (c : Int)), (2, .inl (es_bs (es_hA w (ef_a w 35 c)) i)), (3, .inl (i : Int))] [] w (v, w1) → (v, w1) = (ec_R (es_bs (es_hA w (ef_a w 35 c)) s), w) ∧ ec_W hb_A w := by
    intro d
    induction d with
    | zero =>
      intro i hi h
      have l := eg91_29_4_0 h
      rw [h1, ec_twn (n := s) (by omega), ec_twn (n := i) (by omega)] at l
      obtain ⟨_, hr, hW⟩ := l (by omega)
      have e : i = s := by omega
      rw [e] at hr
      exact ⟨hr, hW⟩
    | succ d ih =>
      intro i hi h
      have l := eg91_29_4_1 h
      rw [h1, ec_twn (n := s) (by omega), ec_twn (n := i) (by omega)] at l
      obtain ⟨_, u, y, a1, a2⟩ := l (by omega)
      obtain ⟨iy, W, e⟩ := ew_ishA (by omega) hc a1
      have e' : u = ec_R (if es_hA w (ef_a w 35 c) i = true then 1 else 0) := e
      rw [← iy] at a2 W
      have b := a2 _ e' W
      have ih' := ih (i + 1) (by omega)
      rw [es_bs_s] at ih'
      by_cases q : es_hA w (ef_a w 35 c) i = true
      · rw [if_pos q] at b ih'
        exact ih' (eg91_29_29_0 (eg91_29_19_1 b (by decide)).2).2
      · rw [if_neg q] at b ih'
        exact ih' (eg91_29_29_0 (eg91_29_19_0 b rfl).2).2
  exact lp s 0 (by omega) (eg91_29_0_0 h).2
theorem ew_heB {c : Nat} (hs : s ≤ 6) (hc : c < 10) (h2 : ef_a w 152 6 = (s : Int)) (hd : ∀ i, i < s → (0 ≤ ef_a w 152 (248 + 6 * i) ∧ ef_a w 152 (248 + 6 * i) ≤ 99) ∧ 0 ≤ ef_a w 152 (248 + 6 * i + 1) ∧ ef_a w 152 (248 + 6 * i + 1) ≤ 99) (h : ec_E hb_X n 233 23 [(0, .inr (.inl 215)), (1, .inl (c : Int)), (2, .inl 0), (3, .inl 0)] [] w (v, w1)) : (v, w1) = (ec_R (es_bs (es_hB w (ef_a w 152 (284 + c))) s), w) ∧ ec_W hb_A w := by
  have t6 : ec_tw 6 = ((6 : Nat) : Int) := rfl
  have ep : 284 + (c : Int) = ((284 + c : Nat) : Int) := by omega
  have lp : ∀ (d i : Nat), i + d = s → ec_E hb_X n 233 23 [(0, .inr (.inl 215)), (1, .inl (c : Int)), (2, .inl (es_bs (es_hB w (ef_a w 152 (284 + c))) i)), (3, .inl (i : Int))] [] w (v, w1) → (v, w1) = (ec_R (es_bs (es_hB w (ef_a w 152 (284 + c))) s), w) ∧ ec_W hb_A w := by
    intro d
    induction d with
    | zero =>
      intro i hi h
      have l := eg233_151_23_0 h
      rw [t6, ef_rd w 152 6, h2, ec_twn (n := s) (by omega), ec_twn (n := i) (by omega)] at l
      obtain ⟨_, hr, hW⟩ := l (by omega)
      have e : i = s := by omega
      rw [e] at hr
      exact ⟨hr, hW⟩
    | succ d ih =>
      intro i hi h
      have l := eg233_151_23_1 h
      rw [t6, ef_rd w 152 6, h2, ec_twn (n := s) (by omega), ec_twn (n := i) (by omega), ep, ec_twn (n := 284 + c) (by omega), ef_rd w 152 (284 + c)] at l
      obtain ⟨_, u, y, a1, a2⟩ := l (by omega)
      obtain ⟨hd1, hd2⟩ := hd i (by omega)
      obtain ⟨iy, W, e⟩ := ew_dhB (by omega) (ef_in w 152 (284 + c)) rfl rfl hd1 hd2 rfl rfl rfl a1
      have e' : u = ec_R (if es_hB w (ef_a w 152 (284 + c)) i = true then 1 else 0) := e
      rw [← iy] at a2 W
      have b := a2 _ e' W
      have ih' := ih (i + 1) (by omega)
      rw [es_bs_s] at ih'
      by_cases q : es_hB w (ef_a w 152 (284 + c)) i = true
      · rw [if_pos q] at b ih'
        exact ih' (eg233_151_60_0 (eg233_151_50_1 b (by decide)).2).2
      · rw [if_neg q] at b ih'
        exact ih' (eg233_151_60_0 (eg233_151_50_0 b rfl).2).2
  exact lp s 0 (by omega) h
theorem ew_hearsA {x1 : Int} (r1 : -2147483648 ≤ x1 ∧ x1 ≤ 2147483647) (hs : s ≤ 6) (hk : k ≤ 10) (h1 : ec_fd w 29 1 = (s : Int)) (g1 : ec_fd w 29 7 = (k : Int)) (h : ec_E hb_X n 144 0 [(0, .inr (.inl 64)), (1, .inl x1)] [] w (v, w1)) : w1 = w ∧ v = ec_R (if 0 ≤ x1 ∧ x1 ≤ (k : Int) - 1 then es_bs (es_hA w (ef_a w 35 x1.toNat)) s else -1) := by
  have t0 : ec_tw 0 = 0 := rfl
  have tx : ec_tw x1 = x1 := ec_tw_id r1.1 r1.2
  have tk : ec_tw ((k : Int) - 1) = (k : Int) - 1 := ec_tw_id (by omega) (by omega)
  obtain ⟨_, u, y, a1, a2⟩ := eg144_0_0_0 h
  obtain ⟨e, W⟩ := ew_within a1
  rw [g1, t0, tx, tk] at e
  injection e with e iy
  rw [iy] at a2
  have b := a2 _ e W
  by_cases p : 0 ≤ x1 ∧ x1 ≤ (k : Int) - 1
  · rw [if_pos p] at b
    rw [if_pos p]
    obtain ⟨_, u2, y2, a3, a4⟩ := eg144_0_14_1 b (by decide)
    have ex : x1 = ((x1.toNat : Nat) : Int) := by omega
    have a3' : ec_E hb_X n 91 0 [(0, .inr (.inl 93)), (1, .inl ((x1.toNat : Nat) : Int))] [] w (u2, y2) := by
      rw [← ex]
      exact a3
    obtain ⟨e3, W3⟩ := ew_heA hs (by omega) h1 a3'
    injection e3 with e3 i3
    rw [i3] at a4
    obtain ⟨_, hr, _⟩ := eg144_0_25_0 (a4 _ e3 W3)
    injection hr with f1 f2
    exact ⟨f2, f1⟩
  · rw [if_neg p] at b
    rw [if_neg p]
    obtain ⟨_, hr, _⟩ := eg144_0_14_0 b rfl
    injection hr with f1 f2
    exact ⟨f2, f1⟩
theorem ew_hearsB {x1 : Int} (r1 : -2147483648 ≤ x1 ∧ x1 ≤ 2147483647) (hs : s ≤ 6) (hk : k ≤ 10) (h2 : ef_a w 152 6 = (s : Int)) (g2 : ef_a w 152 7 = (k : Int)) (hd : ∀ i, i < s → (0 ≤ ef_a w 152 (248 + 6 * i) ∧ ef_a w 152 (248 + 6 * i) ≤ 99) ∧ 0 ≤ ef_a w 152 (248 + 6 * i + 1) ∧ ef_a w 152 (248 + 6 * i + 1) ≤ 99) (h : ec_E hb_X n 233 0 [(0, .inr (.inl 215)), (1, .inl x1)] [] w (v, w1)) : w1 = w ∧ v = ec_R (if 0 ≤ x1 ∧ x1 ≤ (k : Int) - 1 then es_bs (es_hB w (ef_a w 152 (284 + x1.toNat))) s else -1) := by
  have t0 : ec_tw 0 = 0 := rfl
  have t7 : ec_tw 7 = ((7 : Nat) : Int) := rfl
  have tx : ec_tw x1 = x1 := ec_tw_id r1.1 r1.2
  have tk : ec_tw ((k : Int) - 1) = (k : Int) - 1 := ec_tw_id (by omega) (by omega)
  obtain ⟨_, u, y, a1, a2⟩ := eg233_151_0_0 h
  obtain ⟨e, W⟩ := ew_in a1
  rw [t7, ef_rd w 152 7, g2, t0, tx, tk] at e
  injection e with e iy
  rw [iy] at a2
  have b := a2 _ e W
  by_cases p : 0 ≤ x1 ∧ x1 ≤ (k : Int) - 1
  · rw [if_pos p] at b
    rw [if_pos p]
    have a3 := (eg233_151_14_0 b (by decide)).2
    have ex : x1 = ((x1.toNat : Nat) : Int) := by omega
    have a3' : ec_E hb_X n 233 23 [(0, .inr (.inl 215)), (1, .inl ((x1.toNat : Nat) : Int)), (2, .inl 0), (3, .inl 0)] [] w (v, w1) := by
      rw [← ex]
      exact a3
    obtain ⟨hr, _⟩ := ew_heB hs (by omega) h2 hd a3'
    injection hr with f1 f2
    exact ⟨f2, f1⟩
  · rw [if_neg p] at b
    rw [if_neg p]
    obtain ⟨_, hr, _⟩ := eg233_151_14_1 b rfl
    injection hr with f1 f2
    exact ⟨f2, f1⟩
end ES1
theorem es_hears2 {xs : List Int32} {n : Nat} {w wA wB : px_W} {vA vB : Option Value} {x1 : Int} (hR : em_R w) (r1 : -2147483648 ≤ x1 ∧ x1 ≤ 2147483647) (hA : ec_F (hb_XL xs) n 144 [.inr (.inl 64), .inl x1] w (vA, wA)) (hB : ec_F (hb_XL xs) n 233 [.inr (.inl 215), .inl x1] wA (vB, wB)) : vA = vB ∧ em_R wB := by
  obtain ⟨⟨s, hs, h1', h2', h3'⟩, k, hk, g1', g2', g3'⟩ := hR.1
  have h1 : ec_fd w 29 1 = (s : Int) := h1'
  have h2 : ef_a w 152 6 = (s : Int) := h2'
  have g1 : ec_fd w 29 7 = (k : Int) := g1'
  have g2 : ef_a w 152 7 = (k : Int) := g2'
  obtain ⟨eA, fA⟩ := ew_hearsA r1 hs hk h1 g1 (hb_FE hA)
  rw [eA] at hB
  obtain ⟨eB, fB⟩ := ew_hearsB r1 hs hk h2 g2 (fun i hi => (h3' i hi).1) (hb_FE hB)
  rw [eB]
  refine ⟨?_, hR⟩
  rw [fA, fB]
  by_cases p : 0 ≤ x1 ∧ x1 ≤ (k : Int) - 1
  · rw [if_pos p, if_pos p]
    have e1 : ef_a w 35 x1.toNat = ef_a w 152 (284 + x1.toNat) := (g3' x1.toNat (by omega)).1
    rw [e1, es_bs_cg (h := es_hA w (ef_a w 152 (284 + x1.toNat))) (h' := es_hB w (ef_a w 152 (284 + x1.toNat))) s (fun i hi => ?_)]
    obtain ⟨_, q0, _, q2, q3, q4⟩ := h3' i hi
    have q0' : ef_a w 30 i = em_far (ef_a w 152 (248 + 6 * i)) (ef_a w 152 (248 + 6 * i + 1)) := q0
    have q2' : ef_a w 32 i = ef_a w 152 (248 + 6 * i + 3) := q2
    have q3' : ef_a w 33 i = ef_a w 152 (248 + 6 * i + 4) := q3
    have q4' : ef_a w 34 i = ef_a w 152 (248 + 6 * i + 5) := q4
    unfold es_hA es_hB
    rw [q0', q2', q3', q4']
  · rw [if_neg p, if_neg p]

end
