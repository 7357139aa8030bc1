noncomputable section
/-! RULES: the reference reads a TEXT -/
section ER13
variable {N : Nat} {t : Nat → Int} {H : Bool} {M : Nat → Int} {C V : Nat → Int}
theorem er_tk_l (hb : ∀ i, i < N → 0 ≤ t i ∧ t i ≤ 255) {i : Nat} : (er_tk t N i = 2 ∧ 0 ≤ er_tt t N i ∧ er_tt t N i ≤ 2) ↔ (er_co t N i = 310 ∨ er_co t N i = 312 ∨ er_co t N i = 314) := by
  have w0 := er_tk_w (i := i) hb (k := 0) (by decide)
  have w1 := er_tk_w (i := i) hb (k := 1) (by decide)
  have w2 := er_tk_w (i := i) hb (k := 2) (by decide)
  have c0 : er_cc 0 = 310 := rfl
  have c1 : er_cc 1 = 312 := rfl
  have c2 : er_cc 2 = 314 := rfl
  rw [c0] at w0
  rw [c1] at w1
  rw [c2] at w2
  constructor
  · rintro ⟨h1, h2, h3⟩
    have q : er_tt t N i = 0 ∨ er_tt t N i = 1 ∨ er_tt t N i = 2 := by omega
    rcases q with q | q | q
    · exact .inl (w0.mp ⟨h1, q⟩)
    · exact .inr (.inl (w1.mp ⟨h1, q⟩))
    · exact .inr (.inr (w2.mp ⟨h1, q⟩))
  · rintro (q | q | q)
    · have a := w0.mpr q
      exact ⟨a.1, by have := a.2; omega, by have := a.2; omega⟩
    · have a := w1.mpr q
      exact ⟨a.1, by have := a.2; omega, by have := a.2; omega⟩
    · have a := w2.mpr q
      exact ⟨a.1, by have := a.2; omega, by have := a.2; omega⟩
theorem ew_rd70 (hN : N ≤ 200) (hb : ∀ i, i < N → 0 ≤ t i ∧ t i ≤ 255) (hC : ∀ j, C j = er_co t N (er_p t N j)) (hV : ∀ j, V j = er_va t N (er_p t N j)) {x1 x2 : Int} : ∀ (f n j : Nat) (ls : List er_L) (ss : List Int) (w w1 : px_W) (v : Option Value), f + ls.length = 8 → er_Z w t N H M j → er_RS w ls → ec_fd w 151 31 = 0 → ec_E hb_X n 260 70 [(0, .inr (.inl 215)), (1, .inl x1), (2, .inl x2)] [] w (v, w1) → v = none ∧ ec_W hb_A w1 ∧ er_f2 w w1 ∧ (match er_rd C V H M f j ls ss with
    | (a, none) => ec_fd w1 151 30 = (er_p t N a : Int)
    | (_, some q) => ec_fd w1 151 30 = -1 ∧ er_RS w1 q.1) := by
  have t0 : ec_tw 0 = 0 := rfl
  have t8 : ec_tw 8 = 8 := rfl
  -- behind a FAULT it ends
  have fin : ∀ (n a : Nat) (w y w1 : px_W) (v : Option Value), er_f2 w y → ec_fd y 151 30 = (er_p t N a : Int) → ec_E hb_X n 260 70 [(0, .inr (.inl 215)), (1, .inl x1), (2, .inl x2)] [] y (v, w1) → v = none ∧ ec_W hb_A w1 ∧ er_f2 w w1 ∧ ec_fd w1 151 30 = (er_p t N a : Int) := by
    intro n a w y w1 v hf h30 h
    have l := eg260_151_70b_0 h
    rw [ec_tw_fd, t0, h30] at l
    obtain ⟨_, hr, hW⟩ := l (by omega)
    injection hr with e1 e2
    rw [e2]
    exact ⟨e1, hW, hf, h30⟩
  -- a FAULT here
  have bad : ∀ (n j : Nat) (w w1 : px_W) (v : Option Value), er_Z w t N H M j → ec_E hb_X n 260 109 [(0, .inr (.inl 215)), (1, .inl x1), (2, .inl x2)] [] w (v, w1) → v = none ∧ ec_W hb_A w1 ∧ er_f2 w w1 ∧ ec_fd w1 151 30 = (er_p t N j : Int) := by
    intro n j w w1 v hZ h
    obtain ⟨_, u, w2, a1, a2⟩ := eg260_151_109_0 h
    obtain ⟨e2, W2, fr2, f30, _⟩ := ew_wrg hZ.2.2 a1
    exact fin n j w w2 w1 v (er_f2_of fr2) (f30.trans hZ.2.1.1) (eg260_151_113_0 (a2 e2 W2)).2
  have ask : ∀ (n j : Nat) (w w1 : px_W) (v : Option Value), er_Z w t N H M j → ec_E hb_X n 260 70 [(0, .inr (.inl 215)), (1, .inl x1), (2, .inl x2)] [] w (v, w1) → (C j = 300 ∧ v = none ∧ w1 = w ∧ ec_W hb_A w) ∨ (C j ≠ 300 ∧ ec_E hb_X n 260 90 [(0, .inr (.inl 215)), (1, .inl x1), (2, .inl x2)] [.inl (if C j = 310 ∨ C j = 312 ∨ C j = 314 then 1 else 0)] w (v, w1)) := by
    intro n j w w1 v hZ h
    have g30 := hZ.2.2
    have g28 := hZ.2.1.2.2.1
    have iff : er_tk t N (er_p t N j) = 0 ↔ C j = 300 := by
      rw [hC j]
      exact er_tk_e hb
    have tt : ec_tw (er_tk t N (er_p t N j)) = er_tk t N (er_p t N j) := by
      rw [← g28]
      exact ec_tw_fd _ _ _
    by_cases q : C j = 300
    · have l := eg260_151_70b_1 h
      rw [g30, g28, iff.mpr q] at l
      obtain ⟨_, hr, hW⟩ := l (by decide) rfl
      injection hr with e1 e2
      exact .inl ⟨q, e1, e2, hW⟩
    · have l := eg260_151_70b_2 h
      rw [g30, g28, tt, t0] at l
      obtain ⟨_, u, w2, a1, a2⟩ := l (by decide) (fun z => q (iff.mp z))
      obtain ⟨i2, W2, e2⟩ := ew_isw hZ (lo := 0) (hi := 2) rfl rfl a1
      rw [← i2] at a2 W2
      have il := er_tk_l hb (i := er_p t N j)
      rw [← hC j] at il
      have b := a2 _ e2 W2
      refine .inr ⟨q, ?_⟩
      by_cases p : C j = 310 ∨ C j = 312 ∨ C j = 314
      · rw [if_pos p]
        rw [if_pos (il.mpr p)] at b
        exact b
      · rw [if_neg p]
        rw [if_neg (fun z => p (il.mp z))] at b
        exact b
  intro f
  induction f with
  | zero =>
    intro n j ls ss w w1 v hf hZ hS h31 h
    have erd : er_rd C V H M 0 j ls ss = if C j = 300 then (j, some (ls, ss)) else (j, none) := rfl
    rw [erd]
    rcases ask n j w w1 v hZ h with ⟨q, e1, e2, hW⟩ | ⟨q, b⟩
    · rw [if_pos q, e2]
      exact ⟨e1, hW, er_f2_r, hZ.2.2, hS⟩
    · rw [if_neg q]
      by_cases p : C j = 310 ∨ C j = 312 ∨ C j = 314
      · rw [if_pos p] at b
        have l := eg260_151_90b_1 b
        rw [ec_tw_fd, hS.1.1, t8] at l
        exact bad n j w w1 v hZ (l (by decide) (by omega)).2
      · rw [if_neg p] at b
        exact bad n j w w1 v hZ (eg260_151_90b_0 b rfl).2
  | succ f ih =>
    intro n j ls ss w w1 v hf hZ hS h31 h
    have erd : er_rd C V H M (f + 1) j ls ss = if C j = 300 then (j, some (ls, ss)) else (match er_li C V H M ss.length j with
      | (a, none) => (a, none)
      | (a, some q) => er_rd C V H M f a (ls ++ [q]) (ss ++ q.2.2.2.1)) := rfl
    rw [erd]
    rcases ask n j w w1 v hZ h with ⟨q, e1, e2, hW⟩ | ⟨q, b⟩
    · rw [if_pos q, e2]
      exact ⟨e1, hW, er_f2_r, hZ.2.2, hS⟩
    · rw [if_neg q]
      by_cases p : C j = 310 ∨ C j = 312 ∨ C j = 314
      · rw [if_pos p] at b
        have l := eg260_151_90b_2 b
        rw [ec_tw_fd, hS.1.1, t8] at l
        obtain ⟨_, u2, w2, a1, a2⟩ := l (by decide) (by omega)
        obtain ⟨e2, W2, f22, m2⟩ := ew_lin (n0 := ss.length) hN hb hC hV p (by omega) hZ h31 hS a1
        have h70 := (eg260_151_106b_0 (a2 e2 W2)).2
        cases e : er_li C V H M ss.length j with
        | mk a s =>
          rw [e] at m2
          cases s with
          | none => exact fin n a w w2 w1 v f22 m2 h70
          | some s =>
            obtain ⟨Z2, S2, f312⟩ : er_Z w2 t N H M a ∧ er_RS w2 (ls ++ [s]) ∧ ec_fd w2 151 31 = 0 := m2
            have ll : (ls ++ [s]).length = ls.length + 1 := by
              rw [List.length_append]
              rfl
            obtain ⟨y1, y2, y3, y4⟩ := ih n a (ls ++ [s]) (ss ++ s.2.2.2.1) w2 w1 v (by omega) Z2 S2 f312 h70
            exact ⟨y1, y2, er_f2_t f22 y3, y4⟩
      · rw [if_neg p] at b
        have eli : er_li C V H M ss.length j = (j, none) := by
          unfold er_li
          rw [if_neg (fun z => p (.inl z)), if_neg (fun z => p (.inr (.inl z))), if_neg (fun z => p (.inr (.inr z)))]
        rw [eli]
        exact bad n j w w1 v hZ (eg260_151_90b_0 b rfl).2
/-- what may change while it reads anew -/
def er_f3 (w w' : px_W) : Prop := ef_s [151, 170, 171] w w' ∧ ∀ f, f < 24 ∨ (31 < f ∧ f < 35) ∨ f = 38 ∨ 39 < f → ec_fd w' 151 f = ec_fd w 151 f
theorem ew_reads {n : Nat} {w w1 : px_W} {v : Option Value} {x1 : Int} (hN : N ≤ 200) (hb : ∀ i, i < N → 0 ≤ t i ∧ t i ≤ 255) (hC : ∀ j, C j = er_co t N (er_p t N j)) (hV : ∀ j, V j = er_va t N (er_p t N j)) (hL : er_Le w) (hsrc : (x1 = -1 ∧ ∀ y, y < N → ef_a w 154 y = t y) ∨ ∃ f : Nat, x1 = (f : Int) ∧ f ≤ 1380 ∧ ∀ y, y < N → ef_a w 152 (f + y) = t y) (hH : ec_fd w 151 32 = (if H = true then 1 else 0)) (hM : ∀ q, q < 3 → ef_a w 169 q = M q) (h : ec_E hb_X n 260 0 [(0, .inr (.inl 215)), (1, .inl x1), (2, .inl (N : Int))] [] w (v, w1)) : v = none ∧ ec_W hb_A w1 ∧ er_f3 w w1 ∧ (match er_rd C V H M 8 0 [] [] with
    | (a, none) => ec_fd w1 151 30 = (er_p t N a : Int)
    | (_, some q) => ec_fd w1 151 30 = -1 ∧ er_RS w1 q.1) := by
  have hW := h.1
  have t3 : ec_tw 3 = 3 := rfl
  have t9 : ec_tw 9 = 9 := rfl
  have a0 := (eg260_151_0_0 h).2
  have P : ∀ {w : px_W} {f : Nat} {z : Int}, ec_W hb_A w → (f = 24 ∨ f = 25 ∨ f = 26 ∨ f = 30 ∨ f = 31 ∨ f = 35 ∨ f = 36 ∨ f = 37 ∨ f = 39) → (z = 0 ∨ z = 1 ∨ f ≠ 39) → ec_W hb_A (ec_pf w 151 f z) ∧ ∀ g, ec_fd (ec_pf w 151 f z) 151 g = if g = f then ec_tw z else ec_fd w 151 g := by
    intro w f z hW hf _
    rcases hf with rfl | rfl | rfl | rfl | rfl | rfl | rfl | rfl | rfl
    · exact ⟨ec_W_pf (k := 151) (f := 24) rfl rfl hW, fun g => ec_fd_pf (k := 151) (f := 24) hW rfl (by decide)⟩
    · exact ⟨ec_W_pf (k := 151) (f := 25) rfl rfl hW, fun g => ec_fd_pf (k := 151) (f := 25) hW rfl (by decide)⟩
    · exact ⟨ec_W_pf (k := 151) (f := 26) rfl rfl hW, fun g => ec_fd_pf (k := 151) (f := 26) hW rfl (by decide)⟩
    · exact ⟨ec_W_pf (k := 151) (f := 30) rfl rfl hW, fun g => ec_fd_pf (k := 151) (f := 30) hW rfl (by decide)⟩
    · exact ⟨ec_W_pf (k := 151) (f := 31) rfl rfl hW, fun g => ec_fd_pf (k := 151) (f := 31) hW rfl (by decide)⟩
    · exact ⟨ec_W_pf (k := 151) (f := 35) rfl rfl hW, fun g => ec_fd_pf (k := 151) (f := 35) hW rfl (by decide)⟩
    · exact ⟨ec_W_pf (k := 151) (f := 36) rfl rfl hW, fun g => ec_fd_pf (k := 151) (f := 36) hW rfl (by decide)⟩
    · exact ⟨ec_W_pf (k := 151) (f := 37) rfl rfl hW, fun g => ec_fd_pf (k := 151) (f := 37) hW rfl (by decide)⟩
    · exact ⟨ec_W_pf (k := 151) (f := 39) rfl rfl hW, fun g => ec_fd_pf (k := 151) (f := 39) hW rfl (by decide)⟩
  obtain ⟨W1, F1⟩ := P (f := 24) (z := x1) hW (by omega) (by omega)
  obtain ⟨W2, F2⟩ := P (f := 25) (z := (N : Int)) W1 (by omega) (by omega)
  obtain ⟨W3, F3⟩ := P (f := 26) (z := 0) W2 (by omega) (by omega)
  obtain ⟨W4, F4⟩ := P (f := 30) (z := -1) W3 (by omega) (by omega)
  obtain ⟨W5, F5⟩ := P (f := 31) (z := 0) W4 (by omega) (by omega)
  obtain ⟨W6, F6⟩ := P (f := 35) (z := 0) W5 (by omega) (by omega)
  obtain ⟨W7, F7⟩ := P (f := 36) (z := 0) W6 (by omega) (by omega)
  obtain ⟨W8, F8⟩ := P (f := 37) (z := 1) W7 (by omega) (by omega)
  obtain ⟨W9, F9⟩ := P (f := 39) (z := 0) W8 (by omega) (by omega)
  have s0 : ef_s [151] w (ec_pf (ec_pf (ec_pf (ec_pf (ec_pf (ec_pf (ec_pf (ec_pf (ec_pf w 151 24 x1) 151 25 (N : Int)) 151 26 0) 151 30 (-1)) 151 31 0) 151 35 0) 151 36 0) 151 37 1) 151 39 0) := ef_s_trans (ef_s_trans (ef_s_trans (ef_s_trans (ef_s_trans (ef_s_trans (ef_s_trans (ef_s_trans (ef_s_pf (by decide)) (ef_s_pf (by decide))) (ef_s_pf (by decide))) (ef_s_pf (by decide))) (ef_s_pf (by decide))) (ef_s_pf (by decide))) (ef_s_pf (by decide))) (ef_s_pf (by decide))) (ef_s_pf (by decide))
  obtain ⟨y, hy⟩ : ∃ y, y = ec_pf (ec_pf (ec_pf (ec_pf (ec_pf (ec_pf (ec_pf (ec_pf (ec_pf w 151 24 x1) 151 25 (N : Int)) 151 26 0) 151 30 (-1)) 151 31 0) 151 35 0) 151 36 0) 151 37 1) 151 39 0 := ⟨_, rfl⟩
  have G : ∀ g, ec_fd y 151 g = if g = 39 then ec_tw 0 else if g = 37 then ec_tw 1 else if g = 36 then ec_tw 0 else if g = 35 then ec_tw 0 else if g = 31 then ec_tw 0 else if g = 30 then ec_tw (-1) else if g = 26 then ec_tw 0 else if g = 25 then ec_tw (N : Int) else if g = 24 then ec_tw x1 else ec_fd w 151 g := by
    intro g
    rw [hy, F9 g, F8 g, F7 g, F6 g, F5 g, F4 g, F3 g, F2 g, F1 g]
  rw [← hy] at a0 s0 W9
  have lp : ∀ (k n i : Nat) (z : px_W), i + k = 3 → ec_W hb_A z → ef_s [171] y z → (∀ q, q < i → ef_a z 171 q = 9) → ec_E hb_X n 260 47 [(0, .inr (.inl 215)), (1, .inl x1), (2, .inl (N : Int)), (3, .inl (i : Int))] [] z (v, w1) → ∃ z' : px_W, ec_W hb_A z' ∧ ef_s [171] y z' ∧ (∀ q, q < 3 → ef_a z' 171 q = 9) ∧ ∃ (u : Option Value) (w2 : px_W), ec_E hb_X n 249 0 [(0, .inr (.inl 215))] [] z' (u, w2) ∧ (u = none → ec_W hb_A w2 → ec_E hb_X n 260 70 [(0, .inr (.inl 215)), (1, .inl x1), (2, .inl (N : Int))] [] w2 (v, w1)) := by
    intro k
    induction k with
    | zero =>
      intro n i z hi hW s h9 h
      have l := eg260_151_47_0 h
      rw [ec_twn (n := i) (by omega), t3] at l
      obtain ⟨_, u, w2, a1, a2⟩ := l (by omega)
      refine ⟨z, hW, s, fun q hq => h9 q (by omega), u, w2, a1, fun e W => ec_sub (a2 e W) (fun q hq => ?_)⟩
      simp only [List.mem_cons, List.not_mem_nil, or_false] at hq ⊢
      rcases hq with hq | hq | hq
      · exact .inl hq
      · exact .inr (.inl hq)
      · exact .inr (.inr (.inl hq))
    | succ k ih =>
      intro n i z hi hW s h9 h
      have l := eg260_151_47_1 h
      rw [ec_twn (n := i) (by omega), t3] at l
      refine ih n (i + 1) _ (by omega) (ec_W_wr hW) (ef_s_trans s (ef_s_wr List.mem_cons_self)) (fun q hq => ?_) (l (by omega)).2
      rw [ef_a_wr (n := 3) hW rfl (by omega) (by omega), t9]
      unfold ef_u
      rw [Int.toNat_natCast]
      by_cases e : q = i
      · rw [if_pos e]
      · rw [if_neg e]
        exact h9 q (by omega)
  obtain ⟨z, Wz, sz, z9, u, w2, a1, a2⟩ := lp 3 n 0 y (by omega) W9 ef_s_refl (fun q hq => absurd hq (Nat.not_lt_zero _)) a0
  have Fz : ∀ f, ec_fd z 151 f = ec_fd y 151 f := fun f => ef_s_f sz (by decide) f
  have az : ∀ k, k ∉ [151, 171] → ef_a z k = ef_a w k := fun k hk => by
    rw [ef_s_a sz (fun e => hk (by rw [List.mem_singleton.mp e]; decide)), ef_s_a s0 (fun e => hk (by rw [List.mem_singleton.mp e]; decide))]
  have hLz : er_Le z := fun x hx => by
    rw [az 168 (by decide)]
    exact hL x hx
  have hSz : er_Sr z N t := by
    refine ⟨by rw [Fz 25, G 25, if_neg (by decide), if_neg (by decide), if_neg (by decide), if_neg (by decide), if_neg (by decide), if_neg (by decide), if_neg (by decide), if_pos rfl]; exact ec_twn (by omega), ?_⟩
    have g24 : ec_fd z 151 24 = ec_tw x1 := by
      rw [Fz 24, G 24, if_neg (by decide), if_neg (by decide), if_neg (by decide), if_neg (by decide), if_neg (by decide), if_neg (by decide), if_neg (by decide), if_neg (by decide), if_pos rfl]
    rcases hsrc with ⟨e, d⟩ | ⟨f, e, b, d⟩
    · refine .inl ⟨by rw [g24, e]; decide, ?_⟩
      rw [az 154 (by decide)]
      exact d
    · refine .inr ⟨f, by rw [g24, e]; exact ec_twn (by omega), b, ?_⟩
      rw [az 152 (by decide)]
      exact d
  have f26 : ec_fd z 151 26 = ((0 : Nat) : Int) := by
    rw [Fz 26, G 26, if_neg (by decide), if_neg (by decide), if_neg (by decide), if_neg (by decide), if_neg (by decide), if_neg (by decide), if_pos rfl]
    rfl
  obtain ⟨e2, Wn, s2, F2', At⟩ := ew_next hN hb (Nat.zero_le N) hLz hSz f26 a1
  have At0 : er_At w2 t N (er_p t N 0) := At
  have k2 : ∀ f, f < 26 ∨ 29 < f → ec_fd w2 151 f = ec_fd y 151 f := fun f hf => (F2' f (by omega) (by omega) (by omega) (by omega)).trans (Fz f)
  have g32 : ec_fd y 151 32 = ec_fd w 151 32 := by
    rw [G 32, if_neg (by decide), if_neg (by decide), if_neg (by decide), if_neg (by decide), if_neg (by decide), if_neg (by decide), if_neg (by decide), if_neg (by decide), if_neg (by decide)]
  have g30 : ec_fd w2 151 30 = -1 := by
    rw [k2 30 (by omega), G 30, if_neg (by decide), if_neg (by decide), if_neg (by decide), if_neg (by decide), if_neg (by decide), if_pos rfl]
    rfl
  have Z2 : er_Z w2 t N H M 0 := by
    refine ⟨⟨fun x hx => ?_, er_Sr_s hSz s2 (F2' 25 (by decide) (by decide) (by decide) (by decide)) (F2' 24 (by decide) (by decide) (by decide) (by decide)), ?_, fun q hq => ?_⟩, At0, g30⟩
    · rw [ef_s_a s2 (by decide)]
      exact hLz x hx
    · rw [k2 32 (by omega), g32]
      exact hH
    · rw [ef_s_a s2 (by decide), az 169 (by decide)]
      exact hM q hq
  have a171 : ∀ q, q < 3 → ef_a w2 171 q = 9 := fun q hq => by
    rw [ef_s_a s2 (by decide)]
    exact z9 q hq
  have S2 : er_RS w2 [] := by
    refine ⟨⟨?_, fun i hi => absurd hi (Nat.not_lt_zero _)⟩, ⟨?_, ?_⟩, ⟨?_, fun q hq => ?_⟩, ?_⟩
    · rw [k2 35 (by omega), G 35, if_neg (by decide), if_neg (by decide), if_neg (by decide), if_pos rfl]
      rfl
    · rw [k2 36 (by omega), G 36, if_neg (by decide), if_neg (by decide), if_pos rfl]
      rfl
    · rw [k2 37 (by omega), G 37, if_neg (by decide), if_pos rfl]
      rfl
    · rw [a171 0 (by decide), a171 1 (by decide), a171 2 (by decide)]
      rfl
    · rw [a171 q hq]
      decide
    · rw [k2 39 (by omega), G 39, if_pos rfl]
      rfl
  have o2 : ec_fd w2 151 31 = 0 := by
    rw [k2 31 (by omega), G 31, if_neg (by decide), if_neg (by decide), if_neg (by decide), if_neg (by decide), if_pos rfl]
    rfl
  obtain ⟨y1, y2, y3, y4⟩ := ew_rd70 hN hb hC hV 8 n 0 [] [] w2 w1 v rfl Z2 S2 o2 (a2 e2 Wn)
  refine ⟨y1, y2, ⟨ef_s_trans (ef_s_trans (ef_s_mono s0 (by decide)) (ef_s_mono sz (by decide))) (ef_s_trans (ef_s_mono s2 (by decide)) y3.1), fun f hf => ?_⟩, y4⟩
  rw [y3.2 f (by omega), k2 f (by omega), G f, if_neg (by omega), if_neg (by omega), if_neg (by omega), if_neg (by omega), if_neg (by omega), if_neg (by omega), if_neg (by omega), if_neg (by omega), if_neg (by omega)]
end ER13

end
