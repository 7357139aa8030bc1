noncomputable section
/-! SHELVES: what is on them, on both sides; shelf -/
theorem ea_rg {w : px_W} {k n i : Nat} {sg : sy_Sg} {lo hi : Int} (hI : hb_I0 w) (ha : hb_A[k]? = some (.inl (n, sg))) (hn : i < n) (hs : sy_seg sg i = (lo, hi)) : lo ≤ ef_a w k i ∧ ef_a w k i ≤ hi := by
  obtain ⟨c, hc, h2⟩ := hI.1.2 k _ ha
  cases c with
  | inl l =>
    obtain ⟨h3, h4⟩ := h2
    have hl : l[i]? = some (l[i]'(by omega)) := List.getElem?_eq_getElem _
    have h5 := h4 i _ hl
    rw [hs] at h5
    have e : ef_a w k i = (l[i]'(by omega)).toInt := by
      unfold ef_a ec_rd
      rw [hc]
      dsimp only
      rw [Int.toNat_natCast, List.getD_eq_getElem?_getD, hl]
      rfl
    rw [e]
    exact h5
  | inr c =>
    cases c with
    | inl _ => exact h2.elim
    | inr _ => exact h2.elim
def ea_H (w : px_W) : Prop := ∀ h, h < 4 → ((0 ≤ ef_a w 144 h ∧ ef_a w 144 h ≤ 4 ∧ ef_a w 176 h = ef_a w 144 h + 1 ∧ ef_a w 177 h = ef_a w 145 h ∧ 0 ≤ ef_a w 145 h ∧ ef_a w 145 h ≤ 11 ∧ (ef_a w 144 h = 0 → ef_a w 145 h ≤ 7)) ∨ ((ef_a w 144 h = 6 ∨ (ef_a w 144 h = 5 ∧ 0 ≤ ef_a w 146 h ∧ ef_a w 146 h ≤ 4)) ∧ (ef_a w 176 h = 0 ∨ ef_a w 176 h = 6)))
def ea_dcH : List (Nat × Nat × Nat) := [(144, 0, 4), (145, 0, 4), (146, 0, 4), (176, 0, 4), (177, 0, 4)]
theorem ea_H_cg {w w' : px_W} (h : ∀ k i, (k = 144 ∨ k = 145 ∨ k = 146 ∨ k = 176 ∨ k = 177) → i < 4 → ef_a w' k i = ef_a w k i) (hH : ea_H w) : ea_H w' := by
  intro i hi
  have z := hH i hi
  rw [h 144 i (by decide) hi, h 145 i (by decide) hi, h 146 i (by decide) hi, h 176 i (by decide) hi, h 177 i (by decide) hi]
  exact z
theorem ea_H_st {w w' : px_W} (hW : ec_W hb_A w) (hW' : ec_W hb_A w') (h : ∀ p ∈ ea_dcH, ∀ i, p.2.1 ≤ i → i < p.2.2 → sy_get w' p.1 i = sy_get w p.1 i) (hR : ea_H w) : ea_H w' := by
  refine ea_H_cg (fun k i hk hi => ?_) hR
  rcases hk with rfl | rfl | rfl | rfl | rfl
  · exact ef_get_a (k := 144) hW hW' rfl (h (144, 0, 4) (by decide) i (Nat.zero_le _) hi)
  · exact ef_get_a (k := 145) hW hW' rfl (h (145, 0, 4) (by decide) i (Nat.zero_le _) hi)
  · exact ef_get_a (k := 146) hW hW' rfl (h (146, 0, 4) (by decide) i (Nat.zero_le _) hi)
  · exact ef_get_a (k := 176) hW hW' rfl (h (176, 0, 4) (by decide) i (Nat.zero_le _) hi)
  · exact ef_get_a (k := 177) hW hW' rfl (h (177, 0, 4) (by decide) i (Nat.zero_le _) hi)
theorem ea_frH {Wr : sy_Wr} {w w1 : px_W} (hd : hb_dj Wr ea_dcH = true) (hW : ec_W hb_A w) (hW1 : ec_W hb_A w1) (f : ∀ k i : Nat, sy_may Wr k i = false → sy_get w1 k i = sy_get w k i) (hR : ea_H w) : ea_H w1 := ea_H_st hW hW1 (fun p hp i h1 h2 => f p.1 i (hb_dj_ok hd hp h1 h2)) hR
/-- all that is the same on both sides -/
def ea_RR (w : px_W) : Prop := ed_RR w ∧ es_RR w ∧ eb_R w ∧ ea_H w
def ea_dc : List (Nat × Nat × Nat) := ed_dc ++ (es_dc ++ (eb_dc ++ ea_dcH))
theorem ea_dc_st {w w' : px_W} (hW : ec_W hb_A w) (hW' : ec_W hb_A w') (h : ∀ p ∈ ea_dc, ∀ i, p.2.1 ≤ i → i < p.2.2 → sy_get w' p.1 i = sy_get w p.1 i) (hR : ea_RR w) : ea_RR w' := ⟨ed_dc_st hW hW' (fun p hp => h p (List.mem_append_left _ hp)) hR.1, es_dc_st hW hW' (fun p hp => h p (List.mem_append_right _ (List.mem_append_left _ hp))) hR.2.1, eb_dc_st hW hW' (fun p hp => h p (List.mem_append_right _ (List.mem_append_right _ (List.mem_append_left _ hp)))) hR.2.2.1, ea_H_st hW hW' (fun p hp => h p (List.mem_append_right _ (List.mem_append_right _ (List.mem_append_right _ hp)))) hR.2.2.2⟩
theorem ea_frD {Wr : sy_Wr} {w w1 : px_W} (hd : hb_dj Wr ed_dc = true) (hW : ec_W hb_A w) (hW1 : ec_W hb_A w1) (f : ∀ k i : Nat, sy_may Wr k i = false → sy_get w1 k i = sy_get w k i) (hR : ed_RR w) : ed_RR w1 := ed_dc_st hW hW1 (fun p hp i h1 h2 => f p.1 i (hb_dj_ok hd hp h1 h2)) hR
theorem ea_frS {Wr : sy_Wr} {w w1 : px_W} (hd : hb_dj Wr es_dc = true) (hW : ec_W hb_A w) (hW1 : ec_W hb_A w1) (f : ∀ k i : Nat, sy_may Wr k i = false → sy_get w1 k i = sy_get w k i) (hR : es_RR w) : es_RR w1 := es_dc_st hW hW1 (fun p hp i h1 h2 => f p.1 i (hb_dj_ok hd hp h1 h2)) hR
/-- how many there are -/
def ea_C (w : px_W) (b k l m : Nat) : Prop := b ≤ 8 ∧ k ≤ 10 ∧ l ≤ 8 ∧ m ≤ 12 ∧ (ec_fd w 15 10 = (b : Int) ∧ ef_a w 152 5 = (b : Int)) ∧ (ec_fd w 29 7 = (k : Int) ∧ ef_a w 152 7 = (k : Int)) ∧ (ec_fd w 29 9 = (l : Int) ∧ ef_a w 152 8 = (l : Int)) ∧ (ec_fd w 39 1 = (m : Int) ∧ ef_a w 152 9 = (m : Int))
theorem ea_C_of {w : px_W} (hR : ea_RR w) : ∃ b k l m : Nat, ea_C w b k l m ∧ (∀ c, c < 8 → ef_a w 152 (16 + c) = ef_a w 2 c) ∧ (∀ i, i < b → ef_a w 24 i = ef_a w 152 (216 + 4 * i) ∧ ef_a w 27 i = ef_a w 152 (216 + 4 * i + 3)) ∧ (∀ i, i < k → ef_a w 35 i = ef_a w 152 (284 + i)) ∧ (∀ i, i < l → ef_a w 36 i = ef_a w 152 (294 + 3 * i)) ∧ ∀ i, i < m → ef_a w 41 i = ef_a w 152 (318 + 3 * i + 1) := by
  obtain ⟨⟨hH, hW⟩, ⟨hM, hS⟩, hB, _⟩ := hR
  obtain ⟨b, hb, b1, b2, b3⟩ := hB.1
  obtain ⟨_, k, hk, k1, k2, k3⟩ := hM.1
  obtain ⟨_, _, l, hl, l1, l2, l3⟩ := hS.1
  obtain ⟨m, hm, m1, m2, m3⟩ := hW.1
  refine ⟨b, k, l, m, ⟨hb, hk, hl, hm, ⟨b1, b2⟩, ⟨k1, k2⟩, ⟨l1, l2⟩, ⟨m1, m2⟩⟩, fun c hc => ?_, b3, fun i hi => (k3 i hi).1, fun i hi => (l3 i hi).1.1, fun i hi => (m3 i hi).2.1⟩
  exact hH.1.1 1 c (by decide) (by decide) hc (fun z => absurd z (by decide))
def ea_cn (b k l m : Nat) (x : Int) : Int := if x = 0 then 8 else if x = 1 then (b : Int) else if x = 2 then (k : Int) else if x = 3 then (l : Int) else if x = 4 then (m : Int) else if x = 5 then 4 else 0
theorem ea_cn_in {b k l m : Nat} {x : Int} (hb : b ≤ 8) (hk : k ≤ 10) (hl : l ≤ 8) (hm : m ≤ 12) : 0 ≤ ea_cn b k l m x ∧ ea_cn b k l m x ≤ 12 := by
  unfold ea_cn
  split
  · omega
  · split
    · omega
    · split
      · omega
      · split
        · omega
        · split
          · omega
          · split <;> omega
section EA3
variable {n b k l m : Nat} {w w1 : px_W} {v : Option Value} {x x1 x2 x3 : Int}
theorem ew_oneA (h : ec_E hb_X n 23 0 [(0, .inl x)] [] w (v, w1)) : (v, w1) = (ec_R (if 0 ≤ ec_tw x ∧ ec_tw x < 4 then 1 else 0), w) ∧ ec_W hb_A w := by
  have t0 : ec_tw 0 = 0 := rfl
  have t4 : ec_tw 4 = 4 := rfl
  have k0 := eg23_0_0 h
  have k1 := eg23_0_1 h
  have k2 := eg23_0_2 h
  rw [t0] at k0 k1 k2
  rw [t4] at k1 k2
  by_cases p : 0 ≤ ec_tw x
  · by_cases q : ec_tw x < 4
    · rw [if_pos ⟨p, q⟩]
      exact (k2 p q).2
    · rw [if_neg (fun z => q z.2)]
      exact (k1 p (by omega)).2
  · rw [if_neg (fun z => p z.1)]
    exact (k0 (by omega)).2
theorem ew_fourB (h : ec_E hb_X n 271 0 [(0, .inl x)] [] w (v, w1)) : (v, w1) = (ec_R (if 0 ≤ ec_tw x ∧ ec_tw x < 4 then 1 else 0), w) ∧ ec_W hb_A w := by
  have t0 : ec_tw 0 = 0 := rfl
  have t3 : ec_tw 3 = 3 := rfl
  obtain ⟨_, u, y, a1, a2⟩ := eg271_0_0 h
  obtain ⟨e, W⟩ := ew_in a1
  rw [t0, t3] at e
  injection e with e iy
  rw [iy] at a2
  obtain ⟨_, hr, hW⟩ := eg271_6_0 (a2 _ e W)
  rw [hr]
  refine ⟨?_, hW⟩
  by_cases p : 0 ≤ ec_tw x ∧ ec_tw x ≤ 3
  · rw [if_pos p, if_pos ⟨p.1, by omega⟩]
  · rw [if_neg p, if_neg (fun z => p ⟨z.1, by omega⟩)]
theorem ew_hmA (hC : ea_C w b k l m) (tx : ec_tw x = x) (h : ec_E hb_X n 177 0 [(0, .inr (.inl 64)), (1, .inl x)] [] w (v, w1)) : (v, w1) = (ec_R (ea_cn b k l m x), w) ∧ ec_W hb_A w := by
  obtain ⟨_, _, _, _, ⟨b1, _⟩, ⟨k1, _⟩, ⟨l1, _⟩, m1, _⟩ := hC
  have g0 := eg177_0_0_0 h
  have g1 := eg177_0_0_1 h
  have g2 := eg177_0_0_2 h
  have g3 := eg177_0_0_3 h
  have g4 := eg177_0_0_4 h
  have g5 := eg177_0_0_5 h
  have g6 := eg177_0_0_6 h
  rw [tx] at g0 g1 g2 g3 g4 g5 g6
  rw [b1] at g1
  rw [k1] at g2
  rw [l1] at g3
  rw [m1] at g4
  unfold ea_cn
  by_cases c0 : x = 0
  · rw [if_pos c0]
    exact (g0 c0).2
  · rw [if_neg c0]
    by_cases c1 : x = 1
    · rw [if_pos c1]
      exact (g1 c1).2
    · rw [if_neg c1]
      by_cases c2 : x = 2
      · rw [if_pos c2]
        exact (g2 c2).2
      · rw [if_neg c2]
        by_cases c3 : x = 3
        · rw [if_pos c3]
          exact (g3 c3).2
        · rw [if_neg c3]
          by_cases c4 : x = 4
          · rw [if_pos c4]
            exact (g4 c4).2
          · rw [if_neg c4]
            by_cases c5 : x = 5
            · rw [if_pos c5]
              exact (g5 c5).2
            · rw [if_neg c5]
              exact (g6 (by omega)).2
def ea_ok (b k l m : Nat) (x1 x2 x3 : Int) : Prop := (0 ≤ x1 ∧ x1 < 4) ∧ (0 ≤ x2 ∧ x2 ≤ 6) ∧ (x2 = 6 ∨ (0 ≤ x3 ∧ x3 ≤ ea_cn b k l m x2 - 1))
theorem ew_shA (hC : ea_C w b k l m) (t1 : ec_tw x1 = x1) (t2 : ec_tw x2 = x2) (t3 : ec_tw x3 = x3) (h : ec_E hb_X n 166 0 [(0, .inr (.inl 64)), (1, .inl x1), (2, .inl x2), (3, .inl x3)] [] w (v, w1)) : (¬ ea_ok b k l m x1 x2 x3 ∧ w1 = w) ∨ (ea_ok b k l m x1 x2 x3 ∧ ∃ u : Option Value, ec_E hb_X n 30 0 [(0, .inr (.inl 206)), (1, .inl x1), (2, .inl x2), (3, .inl x3)] [] w (u, w1)) := by
  have z0 : ec_tw 0 = 0 := rfl
  have z6 : ec_tw 6 = 6 := rfl
  have out : ∀ z : Int, (v, w1) = (ec_R z, w) → w1 = w := fun z e => (Prod.mk.inj e).2
  have fin : ec_E hb_X n 166 42 [(0, .inr (.inl 64)), (1, .inl x1), (2, .inl x2), (3, .inl x3)] [] w (v, w1) → (∀ (u : Option Value) (y : px_W), ec_E hb_X n 30 0 [(0, .inr (.inl 206)), (1, .inl x1), (2, .inl x2), (3, .inl x3)] [] w (u, y) → u = none ∧ ec_W hb_A y) → ∃ u : Option Value, ec_E hb_X n 30 0 [(0, .inr (.inl 206)), (1, .inl x1), (2, .inl x2), (3, .inl x3)] [] w (u, w1) := by
    intro h42 vo
    obtain ⟨_, u, y, a1, a2⟩ := eg166_0_42_0 h42
    obtain ⟨q1, q2⟩ := vo u y a1
    have ey : w1 = y := (Prod.mk.inj (eg166_0_52_0 (a2 q1 q2)).2.1).2
    rw [ey]
    exact ⟨u, a1⟩
  have vo : ∀ (u : Option Value) (y : px_W), ec_E hb_X n 30 0 [(0, .inr (.inl 206)), (1, .inl x1), (2, .inl x2), (3, .inl x3)] [] w (u, y) → u = none ∧ ec_W hb_A y := by
    intro u y hp
    have e39 : ∀ (x4 : Int) (w' : px_W), ec_E hb_X n 30 39 [(0, .inr (.inl 206)), (1, .inl x1), (2, .inl x2), (3, .inl x3), (4, .inl x4)] [] w' (u, y) → u = none ∧ ec_W hb_A y := by
      intro x4 w' h39
      have e60 : ∀ w'' : px_W, ec_E hb_X n 30 60 [(0, .inr (.inl 206)), (1, .inl x1), (2, .inl x2), (3, .inl x3), (4, .inl x4)] [] w'' (u, y) → u = none ∧ ec_W hb_A y := by
        intro w'' h60
        by_cases c : ec_tw x2 = ec_tw 5
        · obtain ⟨_, hr, hW⟩ := eg30_142_60_1 h60 c
          injection hr with f1 f2
          rw [f2]
          exact ⟨f1, hW⟩
        · obtain ⟨_, hr, hW⟩ := eg30_142_60_0 h60 c
          injection hr with f1 f2
          rw [f2]
          exact ⟨f1, hW⟩
      by_cases c : ec_tw x2 = ec_tw 5
      · exact e60 _ (eg30_142_39_1 h39 c).2
      · exact e60 _ (eg30_142_39_0 h39 c).2
    have e22 : ∀ x4 : Int, ec_E hb_X n 30 22 [(0, .inr (.inl 206)), (1, .inl x1), (2, .inl x2), (3, .inl x3), (4, .inl x4)] [] w (u, y) → u = none ∧ ec_W hb_A y := by
      intro x4 h22
      by_cases c : ec_tw x4 = ec_tw 0
      · exact e39 _ _ (eg30_142_22_0 h22 c).2
      · exact e39 _ _ (eg30_142_22_1 h22 c).2
    by_cases c : ec_tw x2 = ec_tw 5
    · by_cases d : ec_tw (ec_rd w 143 (ec_tw x3)) = ec_tw (-1)
      · exact e22 _ (eg30_142_0_2 hp c d).2
      · exact e22 _ (eg30_142_0_1 hp c d).2
    · exact e22 _ (eg30_142_0_0 hp c).2
  obtain ⟨_, u, y, a1, a2⟩ := eg166_0_0_0 h
  obtain ⟨e, W⟩ := ew_oneA a1
  rw [t1] at e
  injection e with e i
  rw [i] at a2
  have b1 := a2 _ e W
  clear a1 a2 e i
  by_cases p1 : 0 ≤ x1 ∧ x1 < 4
  · rw [if_pos p1] at b1
    obtain ⟨_, u, y, a1, a2⟩ := eg166_0_4_1 b1 (by decide)
    obtain ⟨e, W⟩ := ew_within a1
    rw [z0, z6, t2] at e
    injection e with e i
    rw [i] at a2
    have b2 := a2 _ e W
    clear a1 a2 e i
    by_cases p2 : 0 ≤ x2 ∧ x2 ≤ 6
    · rw [if_pos p2] at b2
      have g0 := eg166_0_14_0 b2 (by decide)
      have g1 := eg166_0_14_1 b2 (by decide)
      rw [t2, z6] at g0 g1
      by_cases p3 : x2 = 6
      · exact .inr ⟨⟨p1, p2, .inl p3⟩, fin (g0 p3).2 vo⟩
      · obtain ⟨_, u, y, a1, a2⟩ := g1 p3
        obtain ⟨e, W⟩ := ew_hmA hC t2 a1
        injection e with e i
        rw [i] at a2
        have b3 := a2 _ e W
        clear a1 a2 e i
        obtain ⟨_, u, y, a1, a2⟩ := eg166_0_32_0 b3
        obtain ⟨e, W⟩ := ew_within a1
        have bc := ea_cn_in (b := b) (k := k) (l := l) (m := m) (x := x2) hC.1 hC.2.1 hC.2.2.1 hC.2.2.2.1
        have tc : ec_tw (ea_cn b k l m x2 - 1) = ea_cn b k l m x2 - 1 := ec_tw_id (by omega) (by omega)
        rw [z0, t3, tc] at e
        injection e with e i
        rw [i] at a2
        have b4 := a2 _ e W
        by_cases p4 : 0 ≤ x3 ∧ x3 ≤ ea_cn b k l m x2 - 1
        · rw [if_pos p4] at b4
          exact .inr ⟨⟨p1, p2, .inr p4⟩, fin (eg166_0_37_0 b4 (by decide)).2 vo⟩
        · rw [if_neg p4] at b4
          obtain ⟨_, hr, _⟩ := eg166_0_37_1 b4 rfl
          refine .inl ⟨fun z => ?_, out _ hr⟩
          rcases z.2.2 with z | z
          · exact p3 z
          · exact p4 z
    · rw [if_neg p2] at b2
      obtain ⟨_, hr, _⟩ := eg166_0_14_2 b2 rfl
      exact .inl ⟨fun z => p2 z.2.1, out _ hr⟩
  · rw [if_neg p1] at b1
    obtain ⟨_, hr, _⟩ := eg166_0_4_0 b1 rfl
    exact .inl ⟨fun z => p1 z.1, out _ hr⟩
theorem ew_plA {h0 : Nat} (hh : h0 < 4) (t2 : ec_tw x2 = x2) (t3 : ec_tw x3 = x3) (p3 : x2 = 5 → 0 ≤ x3 ∧ x3 < 4) (h : ec_E hb_X n 30 0 [(0, .inr (.inl 206)), (1, .inl (h0 : Int)), (2, .inl x2), (3, .inl x3)] [] w (v, w1)) : ef_s [144, 145, 146] w w1 ∧ (∀ i, i ≠ h0 → ef_a w1 144 i = ef_a w 144 i ∧ ef_a w1 145 i = ef_a w 145 i ∧ ef_a w1 146 i = ef_a w 146 i) ∧ (x2 ≠ 5 → ef_a w1 144 h0 = x2 ∧ ef_a w1 145 h0 = x3) ∧ (x2 = 5 → ef_a w1 144 h0 = 6 ∨ (ef_a w1 144 h0 = 5 ∧ ef_a w1 146 h0 = ef_a w 143 x3.toNat ∧ ef_a w 143 x3.toNat ≠ -1)) := by
  have z0 : ec_tw 0 = 0 := rfl
  have z5 : ec_tw 5 = 5 := rfl
  have z6 : ec_tw 6 = 6 := rfl
  have zn : ec_tw (-1) = -1 := rfl
  have th : ec_tw (h0 : Int) = h0 := ec_twn (by omega)
  -- the three writes
  have rest : ∀ x4 z : Int, ec_E hb_X n 30 39 [(0, .inr (.inl 206)), (1, .inl (h0 : Int)), (2, .inl x2), (3, .inl x3), (4, .inl x4)] [] (ec_wr w 144 (h0 : Int) z) (v, w1) → ec_tw z = z → ef_s [144, 145, 146] w w1 ∧ (∀ i, i ≠ h0 → ef_a w1 144 i = ef_a w 144 i ∧ ef_a w1 145 i = ef_a w 145 i ∧ ef_a w1 146 i = ef_a w 146 i) ∧ ef_a w1 144 h0 = z ∧ (x2 ≠ 5 → ef_a w1 145 h0 = x3) ∧ (x2 = 5 → ef_a w1 146 h0 = ef_a w 143 x3.toNat) := by
    intro x4 z h39 tz
    obtain ⟨W1, s1, r1⟩ := ea_w1 (k := 144) (n := 4) (p := h0) (z := z) h.1 rfl hh
    obtain ⟨y1, hy1⟩ : ∃ y, y = ec_wr w 144 (h0 : Int) z := ⟨_, rfl⟩
    rw [← hy1] at h39 W1 s1 r1
    have go : ∀ c2 c3 : Int, ec_E hb_X n 30 60 [(0, .inr (.inl 206)), (1, .inl (h0 : Int)), (2, .inl x2), (3, .inl x3), (4, .inl x4)] [] (ec_wr y1 145 (h0 : Int) c2) (v, w1) → (ec_wr (ec_wr y1 145 (h0 : Int) c2) 146 (h0 : Int) c3 = w1) → ef_s [144, 145, 146] w w1 ∧ (∀ i, i ≠ h0 → ef_a w1 144 i = ef_a w 144 i ∧ ef_a w1 145 i = ef_a w 145 i ∧ ef_a w1 146 i = ef_a w 146 i) ∧ ef_a w1 144 h0 = z ∧ ef_a w1 145 h0 = ec_tw c2 ∧ ef_a w1 146 h0 = ec_tw c3 := by
      intro c2 c3 _ ew
      obtain ⟨W2, s2, r2⟩ := ea_w1 (k := 145) (n := 4) (p := h0) (z := c2) W1 rfl hh
      obtain ⟨y2, hy2⟩ : ∃ y, y = ec_wr y1 145 (h0 : Int) c2 := ⟨_, rfl⟩
      rw [← hy2] at ew W2 s2 r2
      obtain ⟨W3, s3, r3⟩ := ea_w1 (k := 146) (n := 4) (p := h0) (z := c3) W2 rfl hh
      rw [ew] at W3 s3 r3
      refine ⟨ef_s_trans (ef_s_trans (ef_s_mono s1 (by decide)) (ef_s_mono s2 (by decide))) (ef_s_mono s3 (by decide)), fun i hi => ⟨?_, ?_, ?_⟩, ?_, ?_, ?_⟩
      · rw [ef_s_a s3 (by decide), ef_s_a s2 (by decide), r1 i, if_neg hi]
      · rw [ef_s_a s3 (by decide), r2 i, if_neg hi, ef_s_a s1 (by decide)]
      · rw [r3 i, if_neg hi, ef_s_a s2 (by decide), ef_s_a s1 (by decide)]
      · rw [ef_s_a s3 (by decide), ef_s_a s2 (by decide), r1 h0, if_pos rfl, tz]
      · rw [ef_s_a s3 (by decide), r2 h0, if_pos rfl]
      · rw [r3 h0, if_pos rfl]
    by_cases c : x2 = 5
    · have p4 := p3 c
      have ex : x3 = ((x3.toNat : Nat) : Int) := by omega
      have c' : ec_tw x2 = ec_tw 5 := by rw [t2, z5, c]
      have h60 := (eg30_142_39_1 h39 c').2
      rw [th] at h60
      obtain ⟨_, hr, _⟩ := eg30_142_60_1 h60 c'
      rw [th] at hr
      injection hr with f1 f2
      obtain ⟨g1, g2, g3, g4, g5⟩ := go _ _ h60 f2.symm
      refine ⟨g1, g2, g3, fun z' => absurd c z', fun _ => ?_⟩
      have e143 : ec_rd (ec_wr y1 145 (h0 : Int) (ec_rd y1 147 (ec_tw x3))) 143 (ec_tw x3) = ef_a w 143 x3.toNat := by
        rw [t3]
        have q1 : ec_rd (ec_wr y1 145 (h0 : Int) (ec_rd y1 147 x3)) 143 x3 = ec_rd y1 143 x3 := ec_rd_wr_o (by decide)
        rw [q1]
        have q2 : ec_rd y1 143 ((x3.toNat : Nat) : Int) = ef_a w 143 x3.toNat := congrFun (ef_s_a s1 (by decide)) _
        rw [← ex] at q2
        exact q2
      rw [g5, e143, ef_tw]
    · have c' : ec_tw x2 ≠ ec_tw 5 := by
        rw [t2, z5]
        exact c
      have h60 := (eg30_142_39_0 h39 c').2
      rw [th] at h60
      obtain ⟨_, hr, _⟩ := eg30_142_60_0 h60 c'
      rw [th] at hr
      injection hr with f1 f2
      obtain ⟨g1, g2, g3, g4, g5⟩ := go _ _ h60 f2.symm
      exact ⟨g1, g2, g3, fun _ => g4.trans t3, fun z' => absurd z' c⟩
  by_cases c : x2 = 5
  · have c' : ec_tw x2 = ec_tw 5 := by rw [t2, z5, c]
    have p4 := p3 c
    have ex : x3 = ((x3.toNat : Nat) : Int) := by omega
    have k1 := eg30_142_0_1 h c'
    have k2 := eg30_142_0_2 h c'
    have e143 : ec_tw (ec_rd w 143 (ec_tw x3)) = ef_a w 143 x3.toNat := by
      rw [t3]
      have q2 : ec_tw (ec_rd w 143 ((x3.toNat : Nat) : Int)) = ef_a w 143 x3.toNat := ef_tw w 143 x3.toNat
      rw [← ex] at q2
      exact q2
    rw [e143, zn] at k1 k2
    by_cases d : ef_a w 143 x3.toNat = -1
    · have h39 := (eg30_142_22_1 (k2 d).2 (by decide)).2
      rw [th] at h39
      obtain ⟨g1, g2, g3, g4, g5⟩ := rest _ _ h39 z6
      exact ⟨g1, g2, fun z => absurd c z, fun _ => .inl g3⟩
    · have h39 := (eg30_142_22_0 (k1 d).2 rfl).2
      rw [th] at h39
      obtain ⟨g1, g2, g3, g4, g5⟩ := rest _ _ h39 t2
      exact ⟨g1, g2, fun z => absurd c z, fun _ => .inr ⟨g3.trans c, g5 c, d⟩⟩
  · have c' : ec_tw x2 ≠ ec_tw 5 := by
      rw [t2, z5]
      exact c
    have h39 := (eg30_142_22_0 (eg30_142_0_0 h c').2 rfl).2
    rw [th] at h39
    obtain ⟨g1, g2, g3, g4, g5⟩ := rest _ _ h39 t2
    exact ⟨g1, g2, fun _ => ⟨g3, g4 c⟩, fun z => absurd z c⟩
theorem ea_cellB (t3 : ec_tw x = x) (h : ec_E hb_X n 184 0 [(0, .inl x)] [] w (v, w1)) : (v, w1) = (ec_R (if 0 ≤ x ∧ x ≤ 7 then 1 else 0), w) ∧ ec_W hb_A w := by
  have t0 : ec_tw 0 = 0 := rfl
  have t7 : ec_tw 7 = 7 := rfl
  obtain ⟨_, u, y, a1, a2⟩ := eg184_0_0 h
  obtain ⟨e, W⟩ := ew_in a1
  rw [t0, t7, t3] at e
  injection e with e iy
  rw [iy] at a2
  exact (eg184_7_0 (a2 _ e W)).2
theorem ew_boB (hb : b ≤ 8) (b2 : ef_a w 152 5 = (b : Int)) (t3 : ec_tw x = x) (h : ec_E hb_X n 213 0 [(0, .inr (.inl 215)), (1, .inl x)] [] w (v, w1)) : (v, w1) = (ec_R (if 0 ≤ x ∧ x ≤ (b : Int) - 1 then 1 else 0), w) ∧ ec_W hb_A w := by
  have t0 : ec_tw 0 = 0 := rfl
  have t5 : ec_tw 5 = ((5 : Nat) : Int) := rfl
  have tb : ec_tw ((b : Int) - 1) = (b : Int) - 1 := ec_tw_id (by omega) (by omega)
  obtain ⟨_, u, y, a1, a2⟩ := eg213_151_0_0 h
  obtain ⟨e, W⟩ := ew_in a1
  rw [t5, ef_rd w 152 5, b2, t0, t3, tb] at e
  injection e with e iy
  rw [iy] at a2
  exact (eg213_151_13_0 (a2 _ e W)).2
theorem ew_liB (hl : l ≤ 8) (l2 : ef_a w 152 8 = (l : Int)) (t3 : ec_tw x = x) (h : ec_E hb_X n 237 0 [(0, .inr (.inl 215)), (1, .inl x)] [] w (v, w1)) : (v, w1) = (ec_R (if 0 ≤ x ∧ x ≤ (l : Int) - 1 then 1 else 0), w) ∧ ec_W hb_A w := by
  have t0 : ec_tw 0 = 0 := rfl
  have t8 : ec_tw 8 = ((8 : Nat) : Int) := rfl
  have tb : ec_tw ((l : Int) - 1) = (l : Int) - 1 := ec_tw_id (by omega) (by omega)
  obtain ⟨_, u, y, a1, a2⟩ := eg237_151_0_0 h
  obtain ⟨e, W⟩ := ew_in a1
  rw [t8, ef_rd w 152 8, l2, t0, t3, tb] at e
  injection e with e iy
  rw [iy] at a2
  exact (eg237_151_14_0 (a2 _ e W)).2
theorem ew_sh19 (hC : ea_C w b k l m) (t2 : ec_tw x2 = x2) (t3 : ec_tw x3 = x3) (p2 : 0 ≤ x2 ∧ x2 ≤ 6) {r : Option Value × px_W} (h : ec_E hb_X n 277 19 [(0, .inr (.inl 215)), (1, .inl x1), (2, .inl x2), (3, .inl x3)] [] w r) : ec_E hb_X n 277 118 [(0, .inr (.inl 215)), (1, .inl x1), (2, .inl x2), (3, .inl x3)] [.inl (if x2 = 6 ∨ (0 ≤ x3 ∧ x3 ≤ ea_cn b k l m x2 - 1) then 1 else 0)] w r := by
  obtain ⟨hb, hk, hl, hm, ⟨_, b2⟩, ⟨_, k2⟩, ⟨_, l2⟩, _, m2⟩ := hC
  have z0 : ec_tw 0 = 0 := rfl
  have z1 : ec_tw 1 = 1 := rfl
  have z2 : ec_tw 2 = 2 := rfl
  have z3 : ec_tw 3 = 3 := rfl
  have z4 : ec_tw 4 = 4 := rfl
  have z6 : ec_tw 6 = 6 := rfl
  have n7 : ec_tw 7 = ((7 : Nat) : Int) := rfl
  have n9 : ec_tw 9 = ((9 : Nat) : Int) := rfl
  have tk : ec_tw ((k : Int) - 1) = (k : Int) - 1 := ec_tw_id (by omega) (by omega)
  have tm : ec_tw ((m : Int) - 1) = (m : Int) - 1 := ec_tw_id (by omega) (by omega)
  have cases7 : x2 = 0 ∨ x2 = 1 ∨ x2 = 2 ∨ x2 = 3 ∨ x2 = 4 ∨ x2 = 5 ∨ x2 = 6 := by omega
  have iff6 : ∀ (y : Int), x2 ≠ 6 → ea_cn b k l m x2 = y → (if x2 = 6 ∨ (0 ≤ x3 ∧ x3 ≤ ea_cn b k l m x2 - 1) then (1 : Int) else 0) = if 0 ≤ x3 ∧ x3 ≤ y - 1 then 1 else 0 := by
    intro y n6 ey
    rw [ey]
    by_cases p : 0 ≤ x3 ∧ x3 ≤ y - 1
    · rw [if_pos p, if_pos (.inr p)]
    · rw [if_neg p, if_neg (fun z => by rcases z with z | z; exact n6 z; exact p z)]
  rcases cases7 with c | c | c | c | c | c | c
  · have l0 := eg277_151_19_6 h
    rw [t2, z0] at l0
    obtain ⟨_, u, y, a1, a2⟩ := l0 c
    obtain ⟨e, W⟩ := ea_cellB t3 a1
    injection e with e i
    rw [i] at a2
    rw [iff6 8 (by omega) (by rw [c]; rfl)]
    exact (eg277_151_27_0 (a2 _ e W)).2
  · have l0 := eg277_151_19_5 h
    rw [t2, z0, z1] at l0
    obtain ⟨_, u, y, a1, a2⟩ := l0 (by omega) c
    obtain ⟨e, W⟩ := ew_boB hb b2 t3 a1
    injection e with e i
    rw [i] at a2
    rw [iff6 b (by omega) (by rw [c]; rfl)]
    exact (eg277_151_40_0 (a2 _ e W)).2
  · have l0 := eg277_151_19_4 h
    rw [t2, z0, z1, z2, n7, ef_rd w 152 7, k2] at l0
    obtain ⟨_, u, y, a1, a2⟩ := l0 (by omega) (by omega) c
    obtain ⟨e, W⟩ := ew_in a1
    rw [z0, t3, tk] at e
    injection e with e i
    rw [i] at a2
    rw [iff6 k (by omega) (by rw [c]; rfl)]
    exact (eg277_151_62_0 (a2 _ e W)).2
  · have l0 := eg277_151_19_3 h
    rw [t2, z0, z1, z2, z3] at l0
    obtain ⟨_, u, y, a1, a2⟩ := l0 (by omega) (by omega) (by omega) c
    obtain ⟨e, W⟩ := ew_liB hl l2 t3 a1
    injection e with e i
    rw [i] at a2
    rw [iff6 l (by omega) (by rw [c]; rfl)]
    exact (eg277_151_75_0 (a2 _ e W)).2
  · have l0 := eg277_151_19_2 h
    rw [t2, z0, z1, z2, z3, z4, n9, ef_rd w 152 9, m2] at l0
    obtain ⟨_, u, y, a1, a2⟩ := l0 (by omega) (by omega) (by omega) (by omega) c
    obtain ⟨e, W⟩ := ew_in a1
    rw [z0, t3, tm] at e
    injection e with e i
    rw [i] at a2
    rw [iff6 m (by omega) (by rw [c]; rfl)]
    exact (eg277_151_97_0 (a2 _ e W)).2
  · have l0 := eg277_151_19_1 h
    rw [t2, z0, z1, z2, z3, z4, z6] at l0
    obtain ⟨_, u, y, a1, a2⟩ := l0 (by omega) (by omega) (by omega) (by omega) (by omega) (by omega)
    obtain ⟨e, W⟩ := ew_fourB a1
    rw [t3] at e
    injection e with e i
    rw [i] at a2
    have bb := a2 _ e W
    rw [iff6 4 (by omega) (by rw [c]; rfl)]
    by_cases p : 0 ≤ x3 ∧ x3 < 4
    · rw [if_pos p] at bb
      rw [if_pos ⟨p.1, by omega⟩]
      exact (eg277_151_110_1 bb (by decide)).2
    · rw [if_neg p] at bb
      rw [if_neg (fun z => p ⟨z.1, by omega⟩)]
      exact (eg277_151_110_0 bb rfl).2
  · have l0 := eg277_151_19_0 h
    rw [t2, z0, z1, z2, z3, z4, z6] at l0
    rw [if_pos (.inl c)]
    exact (l0 (by omega) (by omega) (by omega) (by omega) (by omega) c).2
theorem ew_shB (hC : ea_C w b k l m) (t1 : ec_tw x1 = x1) (t2 : ec_tw x2 = x2) (t3 : ec_tw x3 = x3) (h : ec_E hb_X n 277 0 [(0, .inr (.inl 215)), (1, .inl x1), (2, .inl x2), (3, .inl x3)] [] w (v, w1)) : (¬ ea_ok b k l m x1 x2 x3 ∧ w1 = w) ∨ (ea_ok b k l m x1 x2 x3 ∧ ef_s [176, 177] w w1 ∧ (∀ i, i ≠ x1.toNat → ef_a w1 176 i = ef_a w 176 i ∧ ef_a w1 177 i = ef_a w 177 i) ∧ (x2 ≤ 4 → ef_a w1 176 x1.toNat = x2 + 1 ∧ ef_a w1 177 x1.toNat = x3) ∧ (5 ≤ x2 → ef_a w1 176 x1.toNat = 0 ∨ ef_a w1 176 x1.toNat = 6)) := by
  have z0 : ec_tw 0 = 0 := rfl
  have z5 : ec_tw 5 = 5 := rfl
  have z6 : ec_tw 6 = 6 := rfl
  have out : ∀ z : Int, (v, w1) = (ec_R z, w) → w1 = w := fun z e => (Prod.mk.inj e).2
  obtain ⟨_, u, y, a1, a2⟩ := eg277_151_0_0 h
  obtain ⟨e, W⟩ := ew_fourB a1
  rw [t1] at e
  injection e with e i
  rw [i] at a2
  have b1 := a2 _ e W
  clear a1 a2 e i
  by_cases p1 : 0 ≤ x1 ∧ x1 < 4
  · rw [if_pos p1] at b1
    obtain ⟨_, u, y, a1, a2⟩ := eg277_151_4_1 b1 (by decide)
    obtain ⟨e, W⟩ := ew_in a1
    rw [z0, z6, t2] at e
    injection e with e i
    rw [i] at a2
    have b2 := a2 _ e W
    clear a1 a2 e i
    by_cases p2 : 0 ≤ x2 ∧ x2 ≤ 6
    · rw [if_pos p2] at b2
      have b3 := ew_sh19 hC t2 t3 p2 (eg277_151_14_0 b2 (by decide)).2
      by_cases p3 : x2 = 6 ∨ (0 ≤ x3 ∧ x3 ≤ ea_cn b k l m x2 - 1)
      · rw [if_pos p3] at b3
        refine .inr ⟨⟨p1, p2, p3⟩, ?_⟩
        have h127 := (eg277_151_118_0 b3 (by decide)).2
        obtain ⟨h0, hh⟩ : ∃ h0 : Nat, h0 = x1.toNat := ⟨_, rfl⟩
        have ex : x1 = (h0 : Int) := by omega
        rw [← hh]
        have th : ec_tw x1 = (h0 : Int) := t1.trans ex
        -- the two writes
        have go : ∀ z1 z2 : Int, ec_wr (ec_wr w 176 (h0 : Int) z1) 177 (h0 : Int) z2 = w1 → ef_s [176, 177] w w1 ∧ (∀ i, i ≠ h0 → ef_a w1 176 i = ef_a w 176 i ∧ ef_a w1 177 i = ef_a w 177 i) ∧ ef_a w1 176 h0 = ec_tw z1 ∧ ef_a w1 177 h0 = ec_tw z2 := by
          intro z1 z2 ew
          obtain ⟨W1, s1, r1⟩ := ea_w1 (k := 176) (n := 4) (p := h0) (z := z1) W rfl (by omega)
          obtain ⟨y1, hy1⟩ : ∃ y, y = ec_wr w 176 (h0 : Int) z1 := ⟨_, rfl⟩
          rw [← hy1] at ew W1 s1 r1
          obtain ⟨W2, s2, r2⟩ := ea_w1 (k := 177) (n := 4) (p := h0) (z := z2) W1 rfl (by omega)
          rw [ew] at s2 r2
          refine ⟨ef_s_trans (ef_s_mono s1 (by decide)) (ef_s_mono s2 (by decide)), fun i hi => ⟨?_, ?_⟩, ?_, ?_⟩
          · rw [ef_s_a s2 (by decide), r1 i, if_neg hi]
          · rw [r2 i, if_neg hi, ef_s_a s1 (by decide)]
          · rw [ef_s_a s2 (by decide), r1 h0, if_pos rfl]
          · rw [r2 h0, if_pos rfl]
        -- nothing there
        have no : ∀ (x4 x5 : Int), ec_tw x5 ≠ ec_tw 0 → ec_E hb_X n 277 154 [(0, .inr (.inl 215)), (1, .inl x1), (2, .inl x2), (3, .inl x3), (4, .inl x4), (5, .inl x5)] [] w (v, w1) → ef_s [176, 177] w w1 ∧ (∀ i, i ≠ h0 → ef_a w1 176 i = ef_a w 176 i ∧ ef_a w1 177 i = ef_a w 177 i) ∧ ef_a w1 176 h0 = 0 := by
          intro x4 x5 n5 h154
          have h172 := (eg277_151_154_1 h154 n5).2
          rw [th] at h172
          obtain ⟨_, hr, _⟩ := eg277_151_172_2 h172 n5
          rw [th] at hr
          injection hr with f1 f2
          obtain ⟨g1, g2, g3, _⟩ := go _ _ f2.symm
          exact ⟨g1, g2, g3⟩
        by_cases c6 : x2 = 6
        · have l0 := eg277_151_127_0 h127
          rw [t2, z6] at l0
          obtain ⟨g1, g2, g3⟩ := no _ _ (by decide) (l0 c6).2
          exact ⟨g1, g2, fun z => by omega, fun _ => .inl g3⟩
        · by_cases c5 : x2 = 5
          · have l2 := eg277_151_127_2 h127
            have l3 := eg277_151_127_3 h127
            rw [t2, z6, z5] at l2 l3
            by_cases d : ec_tw (ec_rd w 172 (ec_tw x3)) < ec_tw 0
            · obtain ⟨g1, g2, g3⟩ := no _ _ (by decide) (l3 c6 c5 d).2
              exact ⟨g1, g2, fun z => by omega, fun _ => .inl g3⟩
            · have h154 := (l2 c6 c5 (Int.not_lt.mp d)).2
              have h172 := (eg277_151_154_0 h154 rfl).2
              rw [th] at h172
              have k1 := eg277_151_172_1 h172 rfl
              rw [t2, z5] at k1
              obtain ⟨_, hr, _⟩ := k1 c5
              rw [th] at hr
              injection hr with f1 f2
              obtain ⟨g1, g2, g3, _⟩ := go _ _ f2.symm
              refine ⟨g1, g2, fun z => by omega, fun _ => .inr ?_⟩
              rw [g3, c5]
              rfl
          · have l1 := eg277_151_127_1 h127
            rw [t2, z6, z5] at l1
            have h154 := (l1 c6 c5).2
            have h172 := (eg277_151_154_0 h154 rfl).2
            rw [th] at h172
            have k0 := eg277_151_172_0 h172 rfl
            rw [t2, z5] at k0
            obtain ⟨_, hr, _⟩ := k0 c5
            rw [th] at hr
            injection hr with f1 f2
            obtain ⟨g1, g2, g3, g4⟩ := go _ _ f2.symm
            have tx : ec_tw (x2 + 1) = x2 + 1 := ec_tw_id (by omega) (by omega)
            exact ⟨g1, g2, fun _ => ⟨g3.trans tx, g4.trans t3⟩, fun z => by omega⟩
      · rw [if_neg p3] at b3
        obtain ⟨_, hr, _⟩ := eg277_151_118_1 b3 rfl
        exact .inl ⟨fun z => p3 z.2.2, out _ hr⟩
    · rw [if_neg p2] at b2
      obtain ⟨_, hr, _⟩ := eg277_151_14_1 b2 rfl
      exact .inl ⟨fun z => p2 z.2.1, out _ hr⟩
  · rw [if_neg p1] at b1
    obtain ⟨_, hr, _⟩ := eg277_151_4_0 b1 rfl
    exact .inl ⟨fun z => p1 z.1, out _ hr⟩
end EA3
theorem ea_C_cg {w w' : px_W} {b k l m : Nat} (h5 : ec_fd w' 15 10 = ec_fd w 15 10) (h7 : ec_fd w' 29 7 = ec_fd w 29 7) (h9 : ec_fd w' 29 9 = ec_fd w 29 9) (h1 : ec_fd w' 39 1 = ec_fd w 39 1) (hd : ef_a w' 152 = ef_a w 152) (hC : ea_C w b k l m) : ea_C w' b k l m := by
  unfold ea_C
  rw [h5, h7, h9, h1, hd]
  exact hC
theorem ea_s143 : ∀ i : Nat, i < 4 → sy_seg [(0, 4, [((-1), 4)])] i = ((-1 : Int), (4 : Int)) := by decide +kernel
theorem ea_shelf2 {xs : List Int32} {n : Nat} {w wA wB : px_W} {vA vB : Option Value} {x1 x2 x3 : Int} (hI : hb_I0 w) (hR : ea_RR w) (r1 : -2147483648 ≤ x1 ∧ x1 ≤ 2147483647) (r2 : -2147483648 ≤ x2 ∧ x2 ≤ 2147483647) (r3 : -2147483648 ≤ x3 ∧ x3 ≤ 2147483647) (hA : ec_F (hb_XL xs) n 166 [.inr (.inl 64), .inl x1, .inl x2, .inl x3] w (vA, wA)) (hB : ec_F (hb_XL xs) n 277 [.inr (.inl 215), .inl x1, .inl x2, .inl x3] wA (vB, wB)) : ea_H wB := by
  obtain ⟨b, k, l, m, hC, _⟩ := ea_C_of hR
  have t1 : ec_tw x1 = x1 := ec_tw_id r1.1 r1.2
  have t2 : ec_tw x2 = x2 := ec_tw_id r2.1 r2.2
  have t3 : ec_tw x3 = x3 := ec_tw_id r3.1 r3.2
  have hH := hR.2.2.2
  rcases ew_shA hC t1 t2 t3 (hb_FE hA) with ⟨p, eA⟩ | ⟨p, u, hE⟩
  · rw [eA] at hB
    rcases ew_shB hC t1 t2 t3 (hb_FE hB) with ⟨_, eB⟩ | ⟨p2, _⟩
    · rw [eB]
      exact hH
    · exact absurd p2 p
  · obtain ⟨o1, o2, o3⟩ := p
    have ex : x1 = ((x1.toNat : Nat) : Int) := by omega
    have bc := ea_cn_in (b := b) (k := k) (l := l) (m := m) (x := x2) hC.1 hC.2.1 hC.2.2.1 hC.2.2.2.1
    have c5 : x2 = 5 → 0 ≤ x3 ∧ x3 < 4 := by
      intro c
      rcases o3 with z | z
      · omega
      · rw [c] at z
        have e4 : ea_cn b k l m 5 = 4 := rfl
        rw [e4] at z
        omega
    have hE' : ec_E hb_X n 30 0 [(0, .inr (.inl 206)), (1, .inl ((x1.toNat : Nat) : Int)), (2, .inl x2), (3, .inl x3)] [] w (u, wA) := by
      rw [← ex]
      exact hE
    obtain ⟨sA, g1, g2, g3⟩ := ew_plA (by omega) t2 t3 c5 hE'
    have hC' : ea_C wA b k l m := ea_C_cg (ef_s_f sA (by decide) 10) (ef_s_f sA (by decide) 7) (ef_s_f sA (by decide) 9) (ef_s_f sA (by decide) 1) (ef_s_a sA (by decide)) hC
    rcases ew_shB hC' t1 t2 t3 (hb_FE hB) with ⟨p2, _⟩ | ⟨_, sB, q1, q2, q3⟩
    · exact absurd ⟨o1, o2, o3⟩ p2
    · intro i hi
      rw [ef_s_a sB (k := 144) (by decide), ef_s_a sB (k := 145) (by decide), ef_s_a sB (k := 146) (by decide)]
      by_cases c : i = x1.toNat
      · rw [c]
        by_cases c4 : x2 ≤ 4
        · obtain ⟨u1, u2⟩ := g2 (by omega)
          obtain ⟨u3, u4⟩ := q2 c4
          have o4 : 0 ≤ x3 ∧ x3 ≤ ea_cn b k l m x2 - 1 := by
            rcases o3 with z | z
            · omega
            · exact z
          refine .inl ?_
          rw [u1, u2, u3, u4]
          refine ⟨o2.1, c4, rfl, rfl, o4.1, by omega, fun z => ?_⟩
          rw [z] at o4
          have e8 : ea_cn b k l m 0 = 8 := rfl
          rw [e8] at o4
          omega
        · refine .inr ⟨?_, q3 (by omega)⟩
          by_cases d : x2 = 5
          · rcases g3 d with z | ⟨z1, z2, z3⟩
            · exact .inl z
            · have p3 := c5 d
              have hs := ea_rg (k := 143) (n := 4) (i := x3.toNat) hI rfl (by omega) (ea_s143 x3.toNat (by omega))
              refine .inr ⟨z1, ?_, ?_⟩
              · rw [z2]
                omega
              · rw [z2]
                exact hs.2
          · obtain ⟨u1, _⟩ := g2 d
            exact .inl (u1.trans (by omega))
      · obtain ⟨u1, u2, u3⟩ := g1 i c
        obtain ⟨u4, u5⟩ := q1 i c
        rw [u1, u2, u3, u4, u5, ef_s_a sA (k := 176) (by decide), ef_s_a sA (k := 177) (by decide)]
        exact hH i hi

end
