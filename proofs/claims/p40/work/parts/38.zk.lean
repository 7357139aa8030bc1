noncomputable section
/-! RULES: the class lays its tokens -/
theorem ew_isL {n : Nat} {w w1 : px_W} {v : Option Value} {x0 : Int} (hx : ec_tw x0 = x0) (h : ec_E hb_X n 56 0 [(0, .inl x0)] [] w (v, w1)) : w = w1 ∧ ec_W hb_A w1 ∧ v = ec_R (if er_lt x0 = true then 1 else 0) := by
  have ta : ec_tw 97 = 97 := rfl
  have tb : ec_tw 122 = 122 := rfl
  have fin : ∀ z : Int, (v, w1) = (ec_R z, w) → ec_W hb_A w → z = (if er_lt x0 = true then 1 else 0) → w = w1 ∧ ec_W hb_A w1 ∧ v = ec_R (if er_lt x0 = true then 1 else 0) := by
    intro z hr hW hz
    injection hr with e1 e2
    rw [e2, ← hz]
    exact ⟨rfl, hW, e1⟩
  have k0 := eg56_0_0 h
  have k1 := eg56_0_1 h
  have k2 := eg56_0_2 h
  rw [hx, ta] at k0 k1 k2
  rw [tb] at k1 k2
  by_cases c1 : x0 < 97
  · obtain ⟨_, hr, hW⟩ := k0 c1
    exact fin _ hr hW (by rw [if_neg (fun e => by have := er_lt_ok.mp e; omega)])
  · by_cases c2 : 122 < x0
    · obtain ⟨_, hr, hW⟩ := k1 (by omega) c2
      exact fin _ hr hW (by rw [if_neg (fun e => by have := er_lt_ok.mp e; omega)])
    · obtain ⟨_, hr, hW⟩ := k2 (by omega) (by omega)
      exact fin _ hr hW (by rw [if_pos (er_lt_ok.mpr ⟨by omega, by omega⟩)])
theorem ew_isD {n : Nat} {w w1 : px_W} {v : Option Value} {x0 : Int} (hx : ec_tw x0 = x0) (h : ec_E hb_X n 57 0 [(0, .inl x0)] [] w (v, w1)) : w = w1 ∧ ec_W hb_A w1 ∧ v = ec_R (if er_dg x0 = true then 1 else 0) := by
  have ta : ec_tw 48 = 48 := rfl
  have tb : ec_tw 57 = 57 := rfl
  have fin : ∀ z : Int, (v, w1) = (ec_R z, w) → ec_W hb_A w → z = (if er_dg x0 = true then 1 else 0) → w = w1 ∧ ec_W hb_A w1 ∧ v = ec_R (if er_dg x0 = true then 1 else 0) := by
    intro z hr hW hz
    injection hr with e1 e2
    rw [e2, ← hz]
    exact ⟨rfl, hW, e1⟩
  have k0 := eg57_0_0 h
  have k1 := eg57_0_1 h
  have k2 := eg57_0_2 h
  rw [hx, ta] at k0 k1 k2
  rw [tb] at k1 k2
  by_cases c1 : x0 < 48
  · obtain ⟨_, hr, hW⟩ := k0 c1
    exact fin _ hr hW (by rw [if_neg (fun e => by have := er_dg_ok.mp e; omega)])
  · by_cases c2 : 57 < x0
    · obtain ⟨_, hr, hW⟩ := k1 (by omega) c2
      exact fin _ hr hW (by rw [if_neg (fun e => by have := er_dg_ok.mp e; omega)])
    · obtain ⟨_, hr, hW⟩ := k2 (by omega) (by omega)
      exact fin _ hr hW (by rw [if_pos (er_dg_ok.mpr ⟨by omega, by omega⟩)])
def er_S4 : List Nat := [137, 139, 140, 141]
theorem ew_at {n j : Nat} {w : px_W} {r : Option Value × px_W} {x1 x2 x3 : Int} (hj : j ≤ 200) (h5 : ec_fd w 137 5 = (j : Int)) (h : ec_E hb_X n 55 0 [(0, .inr (.inl 201)), (1, .inl x1), (2, .inl x2), (3, .inl x3)] [] w r) : ∃ w' : px_W, r = (none, w') ∧ ec_W hb_A w' ∧ ef_s er_S4 w w' ∧ ec_fd w' 137 5 = ((j + 1 : Nat) : Int) ∧ (∀ f, f ≠ 5 → ec_fd w' 137 f = ec_fd w 137 f) ∧ (∀ p, ef_a w' 139 p = if p = j then ec_tw x1 else ef_a w 139 p) ∧ (∀ p, ef_a w' 140 p = if p = j then ec_tw x2 else ef_a w 140 p) ∧ ∀ p, ef_a w' 141 p = if p = j then ec_tw x3 else ef_a w 141 p := by
  have hW : ec_W hb_A w := h.1
  have tj : ec_tw (j : Int) = j := ec_twn (by omega)
  have t2 : ec_tw 200 = 200 := rfl
  have g1 : ∀ (w : px_W) (i z : Int), ec_fd (ec_wr w 139 i z) 137 5 = ec_fd w 137 5 := fun _ _ _ => ec_fd_wr_o (by decide)
  have g2 : ∀ (w : px_W) (i z : Int), ec_fd (ec_wr w 140 i z) 137 5 = ec_fd w 137 5 := fun _ _ _ => ec_fd_wr_o (by decide)
  have g3 : ∀ (w : px_W) (i z : Int), ec_fd (ec_wr w 141 i z) 137 5 = ec_fd w 137 5 := fun _ _ _ => ec_fd_wr_o (by decide)
  have k := eg55_137_0_1 h
  simp only [g1, g2, g3, h5, tj, t2] at k
  obtain ⟨_, hr, hW'⟩ := k (by omega)
  have Wa : ec_W hb_A (ec_wr w 139 (j : Int) x1) := ec_W_wr hW
  have Wb : ec_W hb_A (ec_wr (ec_wr w 139 (j : Int) x1) 140 (j : Int) x2) := ec_W_wr Wa
  have Wc : ec_W hb_A (ec_wr (ec_wr (ec_wr w 139 (j : Int) x1) 140 (j : Int) x2) 141 (j : Int) x3) := ec_W_wr Wb
  refine ⟨_, hr, hW', ef_s_trans (ef_s_trans (ef_s_trans (ef_s_wr (by decide)) (ef_s_wr (by decide))) (ef_s_wr (by decide))) (ef_s_pf (by decide)), ?_, fun f hf => ?_, fun p => ?_, fun p => ?_, fun p => ?_⟩
  · rw [ec_fd_pf (k := 137) (f := 5) Wc rfl (by decide), if_pos rfl]
    exact ec_twn (n := j + 1) (by omega)
  · rw [ec_fd_pf (k := 137) (f := 5) Wc rfl (by decide), if_neg hf, ec_fd_wr_o (by decide), ec_fd_wr_o (by decide), ec_fd_wr_o (by decide)]
  · rw [ef_s_a (ef_s_pf (S := [137]) List.mem_cons_self) (by decide), ef_a_wr_o (by decide), ef_a_wr_o (by decide), ef_a_wr (n := 201) hW rfl (by omega) (by omega)]
    unfold ef_u
    rw [Int.toNat_natCast]
  · rw [ef_s_a (ef_s_pf (S := [137]) List.mem_cons_self) (by decide), ef_a_wr_o (by decide), ef_a_wr (n := 201) Wa rfl (by omega) (by omega), ef_a_wr_o (by decide)]
    unfold ef_u
    rw [Int.toNat_natCast]
  · rw [ef_s_a (ef_s_pf (S := [137]) List.mem_cons_self) (by decide), ef_a_wr (n := 201) Wb rfl (by omega) (by omega), ef_a_wr_o (by decide), ef_a_wr_o (by decide)]
    unfold ef_u
    rw [Int.toNat_natCast]
section ER1
variable {N : Nat} {t : Nat → Int}
theorem ew_na {i e n : Nat} {w w1 : px_W} {v : Option Value} (hN : N ≤ 200) (hie : i < e) (he : e ≤ N) (ht : ∀ y, y < N → ef_a w 138 y = t y) (h : ec_E hb_X n 58 0 [(0, .inr (.inl 201)), (1, .inl (i : Int)), (2, .inl (e : Int))] [] w (v, w1)) : w = w1 ∧ ec_W hb_A w1 ∧ v = ec_R (if 3 < e - i then -1 else er_nb t i (e - i)) := by
  have es : (e : Int) - (i : Int) = ((e - i : Nat) : Int) := by omega
  have t3 : ec_tw 3 = 3 := rfl
  have k0 := eg58_137_0_0 h
  have k1 := eg58_137_0_1 h
  rw [es, ec_twn (n := e - i) (by omega), t3] at k0 k1
  by_cases c : 3 < e - i
  · obtain ⟨_, hr, hW⟩ := k1 (by omega)
    injection hr with e1 e2
    rw [e2, if_pos c]
    exact ⟨rfl, hW, e1⟩
  · have lp : ∀ (k n c : Nat) (r : Option Value × px_W), i + c + k = e → ec_E hb_X n 58 14 [(0, .inr (.inl 201)), (1, .inl (i : Int)), (2, .inl (e : Int)), (3, .inl (er_nb t i c)), (4, .inl ((i + c : Nat) : Int))] [] w r → r = (ec_R (er_nb t i (e - i)), w) ∧ ec_W hb_A w := by
      intro k
      induction k with
      | zero =>
        intro n c r hc h
        have ec' : c = e - i := by omega
        have l := eg58_137_14_0 h
        rw [ec_twn (n := i + c) (by omega), ec_twn (n := e) (by omega)] at l
        obtain ⟨_, hr, hW⟩ := l (by omega)
        rw [ec'] at hr
        exact ⟨hr, hW⟩
      | succ k ih =>
        intro n c r hc h
        have l := eg58_137_14_1 h
        rw [ec_twn (n := i + c) (by omega), ec_twn (n := e) (by omega), ef_rd w 138 (i + c), ht (i + c) (by omega)] at l
        exact ih n (c + 1) r (by omega) (l (by omega)).2
    obtain ⟨hr, hW⟩ := lp (e - i) n 0 _ (by omega) (k0 (by omega)).2
    injection hr with e1 e2
    rw [e2, if_neg c]
    exact ⟨rfl, hW, e1⟩
theorem ew_sc31 {x : Int} (hN : N ≤ 200) : ∀ (k n e : Nat) (w : px_W) (r : Option Value × px_W), e + k = N → ec_fd w 137 0 = (N : Int) → (∀ y, y < N → ef_a w 138 y = t y) → ec_E hb_X n 54 31 [(0, .inr (.inl 201)), (1, .inl x), (2, .inl (e : Int))] [] w r → ∃ (v : Option Value) (w1 : px_W), ec_E hb_X n 59 0 [(0, .inr (.inl 201)), (1, .inl x), (2, .inl (er_end (fun i => er_lt (t i)) N e : Int))] [] w (v, w1) ∧ ∀ zz : Int, v = ec_R zz → ec_W hb_A w1 → ec_E hb_X n 54 64 [(0, .inr (.inl 201)), (1, .inl x), (2, .inl (er_end (fun i => er_lt (t i)) N e : Int))] [.inl zz, .inr (.inl 201)] w1 r := by
  intro k
  induction k with
  | zero =>
    intro n e w r hk h0 ht h
    have ee : er_end (fun i => er_lt (t i)) N e = e := er_end_n (fun q => by omega)
    rw [ee]
    have l := eg54_137_31_0 h
    rw [h0, ec_twn (n := N) (by omega), ec_twn (n := e) (by omega)] at l
    exact (l (by omega)).2
  | succ k ih =>
    intro n e w r hk h0 ht h
    have l := eg54_137_31_1 h
    rw [h0, ec_twn (n := N) (by omega), ec_twn (n := e) (by omega), ef_rd w 138 e, ht e (by omega)] at l
    obtain ⟨_, u, w1, a1, a2⟩ := l (by omega)
    have te : ec_tw (t e) = t e := by
      rw [← ht e (by omega)]
      exact ef_tw _ _ _
    obtain ⟨i1, W1, e1⟩ := ew_isL te a1
    rw [← i1] at a2 W1
    have b := a2 _ e1 W1
    by_cases q : er_lt (t e) = true
    · rw [if_pos q] at b
      have h2 := (eg54_137_48_1 b (by decide)).2
      rw [er_end_y (p := fun i => er_lt (t i)) (by omega) q]
      exact ih n (e + 1) w r (by omega) h0 ht h2
    · rw [if_neg q] at b
      rw [er_end_n (p := fun i => er_lt (t i)) (fun _ => by
        cases tt : er_lt (t e) with
        | false => rfl
        | true => exact absurd tt q)]
      exact (eg54_137_48_0 b rfl).2
theorem ew_sc84 {x : Int} (hN : N ≤ 200) : ∀ (k n e : Nat) (w : px_W) (r : Option Value × px_W), e + k = N → ec_fd w 137 0 = (N : Int) → (∀ y, y < N → ef_a w 138 y = t y) → ec_E hb_X n 54 84 [(0, .inr (.inl 201)), (1, .inl x), (2, .inl (e : Int))] [] w r → ∃ (v : Option Value) (w1 : px_W), ec_E hb_X n 58 0 [(0, .inr (.inl 201)), (1, .inl x), (2, .inl (er_end (fun i => er_dg (t i)) N e : Int))] [] w (v, w1) ∧ ∀ zz : Int, v = ec_R zz → ec_W hb_A w1 → ec_E hb_X n 54 121 [(0, .inr (.inl 201)), (1, .inl x), (2, .inl (er_end (fun i => er_dg (t i)) N e : Int))] [.inl zz, .inl x, .inl 301, .inr (.inl 201)] w1 r := by
  intro k
  induction k with
  | zero =>
    intro n e w r hk h0 ht h
    have ee : er_end (fun i => er_dg (t i)) N e = e := er_end_n (fun q => by omega)
    rw [ee]
    have l := eg54_137_84_0 h
    rw [h0, ec_twn (n := N) (by omega), ec_twn (n := e) (by omega)] at l
    exact (l (by omega)).2
  | succ k ih =>
    intro n e w r hk h0 ht h
    have l := eg54_137_84_1 h
    rw [h0, ec_twn (n := N) (by omega), ec_twn (n := e) (by omega), ef_rd w 138 e, ht e (by omega)] at l
    obtain ⟨_, u, w1, a1, a2⟩ := l (by omega)
    have te : ec_tw (t e) = t e := by
      rw [← ht e (by omega)]
      exact ef_tw _ _ _
    obtain ⟨i1, W1, e1⟩ := ew_isD te a1
    rw [← i1] at a2 W1
    have b := a2 _ e1 W1
    by_cases q : er_dg (t e) = true
    · rw [if_pos q] at b
      have h2 := (eg54_137_101_1 b (by decide)).2
      rw [er_end_y (p := fun i => er_dg (t i)) (by omega) q]
      exact ih n (e + 1) w r (by omega) h0 ht h2
    · rw [if_neg q] at b
      rw [er_end_n (p := fun i => er_dg (t i)) (fun _ => by
        cases tt : er_dg (t e) with
        | false => rfl
        | true => exact absurd tt q)]
      exact (eg54_137_101_0 b rfl).2
/-- the first j tokens are laid -/
def er_Tk (t : Nat → Int) (N : Nat) (w : px_W) (j : Nat) : Prop := ∀ j', j' < j → ef_a w 139 j' = er_co t N (er_p t N j') ∧ ef_a w 140 j' = (er_p t N j' : Int) ∧ ef_a w 141 j' = er_va t N (er_p t N j')
theorem er_Tk_s {w w' : px_W} {j : Nat} {x1 x2 x3 : Int} (h : er_Tk t N w j) (a1 : ∀ p, ef_a w' 139 p = if p = j then ec_tw x1 else ef_a w 139 p) (a2 : ∀ p, ef_a w' 140 p = if p = j then ec_tw x2 else ef_a w 140 p) (a3 : ∀ p, ef_a w' 141 p = if p = j then ec_tw x3 else ef_a w 141 p) (b1 : ec_tw x1 = er_co t N (er_p t N j)) (b2 : ec_tw x2 = (er_p t N j : Int)) (b3 : ec_tw x3 = er_va t N (er_p t N j)) : er_Tk t N w' (j + 1) := by
  intro j' hj
  by_cases e : j' = j
  · rw [a1 j', a2 j', a3 j', if_pos e, if_pos e, if_pos e, e]
    exact ⟨b1, b2, b3⟩
  · rw [a1 j', a2 j', a3 j', if_neg e, if_neg e, if_neg e]
    exact h j' (by omega)
theorem ew_sc7 (hN : N ≤ 200) (hb : ∀ i, i < N → 0 ≤ t i ∧ t i ≤ 255) : ∀ (k n i j : Nat) (w : px_W) (r : Option Value × px_W), N - i ≤ k → i ≤ N → j ≤ i → er_sk t N i = er_p t N j → (∀ j', j' < j → er_p t N j' < N) → ec_fd w 137 0 = (N : Int) → (∀ y, y < N → ef_a w 138 y = t y) → ec_fd w 137 5 = (j : Int) → er_Tk t N w j → ec_E hb_X n 54 7 [(0, .inr (.inl 201)), (1, .inl (i : Int))] [] w r → ∃ (w' : px_W) (J : Nat), r = (none, w') ∧ ec_W hb_A w' ∧ ef_s er_S4 w w' ∧ (∀ f, f ≠ 5 → ec_fd w' 137 f = ec_fd w 137 f) ∧ J ≤ N ∧ er_p t N J = N ∧ (∀ j', j' < J → er_p t N j' < N) ∧ er_Tk t N w' (J + 1) := by
  have fin : ∀ (n j : Nat) (w : px_W) (r : Option Value × px_W), j ≤ N → er_sk t N N = er_p t N j → (∀ j', j' < j → er_p t N j' < N) → ec_fd w 137 0 = (N : Int) → ec_fd w 137 5 = (j : Int) → er_Tk t N w j → ec_E hb_X n 54 7 [(0, .inr (.inl 201)), (1, .inl (N : Int))] [] w r → ∃ (w' : px_W) (J : Nat), r = (none, w') ∧ ec_W hb_A w' ∧ ef_s er_S4 w w' ∧ (∀ f, f ≠ 5 → ec_fd w' 137 f = ec_fd w 137 f) ∧ J ≤ N ∧ er_p t N J = N ∧ (∀ j', j' < J → er_p t N j' < N) ∧ er_Tk t N w' (J + 1) := by
    intro n j w r hj hs hp h0 h5 hT h
    have l := eg54_137_7_0 h
    rw [h0] at l
    obtain ⟨_, u, w1, a1, a2⟩ := l (Int.le_refl _)
    obtain ⟨w1', e1, W1, s1, f5, fo, c1, c2, c3⟩ := ew_at (by omega) h5 a1
    injection e1 with e1 i1
    subst i1
    obtain ⟨_, hr, _⟩ := eg54_137_167_0 (a2 e1 W1)
    have pN : er_p t N j = N := by
      rw [← hs]
      exact er_end_n (fun q => absurd q (Nat.lt_irrefl _))
    refine ⟨w1, j, hr, W1, s1, fo, hj, pN, hp, er_Tk_s hT c1 c2 c3 ?_ ?_ ?_⟩
    · rw [pN]
      unfold er_co
      rw [if_neg (Nat.lt_irrefl _)]
      rfl
    · rw [pN]
      exact ec_twn (by omega)
    · rw [pN]
      unfold er_va
      rw [if_neg (fun x => absurd x.1 (Nat.lt_irrefl _))]
      rfl
  intro k
  induction k with
  | zero =>
    intro n i j w r hk hi hj hs hp h0 ht h5 hT h
    have ei : i = N := by omega
    rw [ei] at h hs hj
    exact fin n j w r hj hs hp h0 h5 hT h
  | succ k ih =>
    intro n i j w r hk hi hj hs hp h0 ht h5 hT h
    by_cases ei : i = N
    · rw [ei] at h hs hj
      exact fin n j w r hj hs hp h0 h5 hT h
    · have hiN : i < N := by omega
      have bi := hb i hiN
      have ti : ec_tw (t i) = t i := ec_tw_id (by omega) (by omega)
      have tii : ec_tw (i : Int) = i := ec_twn (by omega)
      have l := eg54_137_7_1 h
      rw [h0, ec_twn (n := N) (by omega), tii, ef_rd w 138 i, ht i hiN] at l
      obtain ⟨_, u, w1, a1, a2⟩ := l (by omega)
      obtain ⟨i1, W1, e1⟩ := ew_isL ti a1
      rw [← i1] at a2 W1
      have b := a2 _ e1 W1
      -- a token was laid, the next begins behind it
      have go : ∀ (x1 x3 : Int) (n : Nat) (u : Option Value) (w2 : px_W), ¬ t i = 32 → ec_tw x1 = er_co t N i → ec_tw x3 = er_va t N i → ec_E hb_X n 55 0 [(0, .inr (.inl 201)), (1, .inl x1), (2, .inl (i : Int)), (3, .inl x3)] [] w (u, w2) → (u = none → ec_W hb_A w2 → ec_E hb_X n 54 7 [(0, .inr (.inl 201)), (1, .inl (er_en t N i : Int))] [] w2 r) → ∃ (w' : px_W) (J : Nat), r = (none, w') ∧ ec_W hb_A w' ∧ ef_s er_S4 w w' ∧ (∀ f, f ≠ 5 → ec_fd w' 137 f = ec_fd w 137 f) ∧ J ≤ N ∧ er_p t N J = N ∧ (∀ j', j' < J → er_p t N j' < N) ∧ er_Tk t N w' (J + 1) := by
        intro x1 x3 n u w2 hsp hx1 hx3 a1 a2
        have pj : er_p t N j = i := by
          rw [← hs]
          exact er_end_n (fun _ => decide_eq_false hsp)
        obtain ⟨w2', e2, W2, s2, f5, fo, c1, c2, c3⟩ := ew_at (by omega) h5 a1
        injection e2 with e2 i2
        subst i2
        have eb := er_en_b (t := t) hiN
        have hps : er_sk t N (er_en t N i) = er_p t N (j + 1) := by
          rw [er_p_s (by omega), pj]
        obtain ⟨w', J, q1, q2, q3, q4, q5, q6, q7, q8⟩ := ih n (er_en t N i) (j + 1) w2 r (by omega) eb.2 (by omega) hps (fun j' hj' => by
          by_cases e : j' = j
          · rw [e, pj]
            exact hiN
          · exact hp j' (by omega)) ((fo 0 (by decide)).trans h0) (fun y hy => by rw [ef_s_a s2 (by decide)]; exact ht y hy) f5 (er_Tk_s hT c1 c2 c3 (by rw [pj]; exact hx1) (by rw [pj]; exact tii) (by rw [pj]; exact hx3)) (a2 e2 W2)
        exact ⟨w', J, q1, q2, ef_s_trans s2 q3, fun f hf => (q4 f hf).trans (fo f hf), q5, q6, q7, q8⟩
      by_cases qL : er_lt (t i) = true
      · rw [if_pos qL] at b
        have hl := er_lt_ok.mp qL
        have h31 := (eg54_137_28_1 b (by decide)).2
        have een : er_en t N i = er_end (fun i => er_lt (t i)) N (i + 1) := by
          unfold er_en
          rw [if_pos qL]
        obtain ⟨v2, w2, b1, b2⟩ := ew_sc31 (t := t) hN (N - (i + 1)) n (i + 1) w r (by omega) h0 ht h31
        rw [← een] at b1 b2
        have eb := er_en_b (t := t) hiN
        obtain ⟨i2, W2, e2⟩ := ew_wa hN eb.1 eb.2 h0 ht b1
        rw [← i2] at b2 W2
        obtain ⟨_, u3, w3, b3, b4⟩ := eg54_137_64_0 (b2 _ e2 W2)
        have kin := er_cc_in _ (er_wk_lt (er_bs t i (er_en t N i)))
        refine go _ _ n u3 w3 (by omega) ?_ ?_ b3 (fun e3 W3 => (eg54_137_69_0 (b4 e3 W3)).2)
        · unfold er_co
          rw [if_pos hiN, if_pos qL]
          exact ec_tw_id (by omega) (by omega)
        · unfold er_va
          rw [if_neg (fun x => by
            have := er_dg_ok.mp x.2
            omega)]
          rfl
      · rw [if_neg qL] at b
        have l2 := eg54_137_28_0 b rfl
        rw [tii, ef_rd w 138 i, ht i hiN] at l2
        obtain ⟨_, u2, w2, a3, a4⟩ := l2
        obtain ⟨i2, W2, e2⟩ := ew_isD ti a3
        rw [← i2] at a4 W2
        have b2 := a4 _ e2 W2
        by_cases qD : er_dg (t i) = true
        · rw [if_pos qD] at b2
          have hd := er_dg_ok.mp qD
          have h84 := (eg54_137_81_2 b2 (by decide)).2
          have een : er_en t N i = er_end (fun i => er_dg (t i)) N (i + 1) := by
            unfold er_en
            rw [if_neg qL, if_pos qD]
          obtain ⟨v3, w3, b3, b4⟩ := ew_sc84 (t := t) hN (N - (i + 1)) n (i + 1) w r (by omega) h0 ht h84
          rw [← een] at b3 b4
          have eb := er_en_b (t := t) hiN
          obtain ⟨i3, W3, e3⟩ := ew_na hN eb.1 eb.2 ht b3
          rw [← i3] at b4 W3
          obtain ⟨_, u5, w5, b5, b6⟩ := eg54_137_121_0 (b4 _ e3 W3)
          refine go _ _ n u5 w5 (by omega) ?_ ?_ b5 (fun e3 W3 => (eg54_137_124_0 (b6 e3 W3)).2)
          · unfold er_co
            rw [if_pos hiN, if_neg qL, if_pos qD]
            rfl
          · have e4 : er_va t N i = if 3 < er_en t N i - i then -1 else er_nb t i (er_en t N i - i) := by
              unfold er_va
              rw [if_pos (show i < N ∧ er_dg (t i) = true from ⟨hiN, qD⟩)]
            rw [e4]
            by_cases c3 : 3 < er_en t N i - i
            · rw [if_pos c3]
              rfl
            · rw [if_neg c3]
              have nin := er_nb_in hb (i := i) (er_en t N i - i) (by omega) (by omega)
              exact ec_tw_id (by omega) (by omega)
        · rw [if_neg qD] at b2
          have een : er_en t N i = i + 1 := by
            unfold er_en
            rw [if_neg qL, if_neg qD]
          have k0 := eg54_137_81_0 b2 rfl
          have k1 := eg54_137_81_1 b2 rfl
          have t32 : ec_tw 32 = 32 := rfl
          rw [tii, ef_rd w 138 i, ht i hiN, ti, t32] at k0 k1
          by_cases qS : t i = 32
          · have hs2 : er_sk t N (i + 1) = er_p t N j := by
              rw [← hs]
              exact (er_end_y hiN (decide_eq_true qS)).symm
            exact ih n (i + 1) j w r (by omega) (by omega) (by omega) hs2 hp h0 ht h5 hT (k0 qS).2
          · obtain ⟨_, u3, w3, b3, b4⟩ := k1 qS
            refine go _ _ n u3 w3 qS ?_ ?_ b3 (fun e3 W3 => by
              rw [een]
              exact (eg54_137_150_0 (b4 e3 W3)).2)
            · unfold er_co
              rw [if_pos hiN, if_neg qL, if_neg qD]
              exact ti
            · unfold er_va
              rw [if_neg (fun x => qD x.2)]
              rfl
theorem ew_scan {n : Nat} {w w1 : px_W} {v : Option Value} (hN : N ≤ 200) (hb : ∀ i, i < N → 0 ≤ t i ∧ t i ≤ 255) (h0 : ec_fd w 137 0 = (N : Int)) (ht : ∀ y, y < N → ef_a w 138 y = t y) (h : ec_E hb_X n 54 0 [(0, .inr (.inl 201))] [] w (v, w1)) : v = none ∧ ec_W hb_A w1 ∧ ef_s er_S4 w w1 ∧ (∀ f, f ≠ 5 → ec_fd w1 137 f = ec_fd w 137 f) ∧ ∃ J : Nat, J ≤ N ∧ er_p t N J = N ∧ (∀ j', j' < J → er_p t N j' < N) ∧ er_Tk t N w1 (J + 1) := by
  have hW : ec_W hb_A w := h.1
  have a := (eg54_137_0_0 h).2
  have F : ∀ f, ec_fd (ec_pf w 137 5 0) 137 f = if f = 5 then ec_tw 0 else ec_fd w 137 f := fun f => ec_fd_pf (k := 137) (f := 5) hW rfl (by decide)
  have s0 : ef_s er_S4 w (ec_pf w 137 5 0) := ef_s_pf (by decide)
  obtain ⟨w', J, q1, q2, q3, q4, q5, q6, q7, q8⟩ := ew_sc7 hN hb N n 0 0 _ _ (by omega) (Nat.zero_le _) (Nat.le_refl _) rfl (fun j' hj' => absurd hj' (Nat.not_lt_zero _)) (by rw [F 0, if_neg (by decide)]; exact h0) (fun y hy => by rw [ef_s_a s0 (by decide)]; exact ht y hy) (by rw [F 5, if_pos rfl]; rfl) (fun j' hj' => absurd hj' (Nat.not_lt_zero _)) a
  injection q1 with e1 i1
  subst i1
  exact ⟨e1, q2, ef_s_trans s0 q3, fun f hf => (q4 f hf).trans (by rw [F f, if_neg hf]), J, q5, q6, q7, q8⟩
end ER1

end
