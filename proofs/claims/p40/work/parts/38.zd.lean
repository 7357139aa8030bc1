noncomputable section
/-! RULES: the reference's next token -/
def er_sp (c : Int) : Bool := decide (c = 59) || (decide (c = 40) || (decide (c = 41) || (decide (c = 60) || (decide (c = 61) || decide (c = 62)))))
def er_tk (t : Nat → Int) (N i : Nat) : Int := if i < N then (if er_dg (t i) = true then (if 3 < er_en t N i - i then 1 else 3) else if er_lt (t i) = true then (if er_wk (er_bs t i (er_en t N i)) < 16 then 2 else 1) else if er_sp (t i) = true then t i else 1) else 0
def er_tt (t : Nat → Int) (N i : Nat) : Int := if er_dg (t i) = true then er_nb t i (er_en t N i - i) else (er_wk (er_bs t i (er_en t N i)) : Int)
def er_af (t : Nat → Int) (N i : Nat) : Nat := if i < N then er_en t N i else N
/-- it stands at the token that begins at i -/
def er_At (w : px_W) (t : Nat → Int) (N i : Nat) : Prop := ec_fd w 151 27 = (i : Int) ∧ ec_fd w 151 26 = (er_af t N i : Int) ∧ ec_fd w 151 28 = er_tk t N i ∧ ((er_tk t N i = 2 ∨ er_tk t N i = 3) → ec_fd w 151 29 = er_tt t N i)
section ER4
variable {N : Nat} {t : Nat → Int}
theorem ew_nx0 (hN : N ≤ 200) (hb : ∀ i, i < N → 0 ≤ t i ∧ t i ≤ 255) : ∀ (k n a : Nat) (w : px_W) (r : Option Value × px_W), a + k = N → ec_W hb_A w → er_Sr w N t → ec_fd w 151 26 = (a : Int) → ec_E hb_X n 249 0 [(0, .inr (.inl 215))] [] w r → ∃ w' : px_W, ec_W hb_A w' ∧ ef_s [151] w w' ∧ (∀ f, f ≠ 26 → f ≠ 27 → ec_fd w' 151 f = ec_fd w 151 f) ∧ ec_fd w' 151 26 = (er_sk t N a : Int) ∧ ec_fd w' 151 27 = (er_sk t N a : Int) ∧ ec_E hb_X n 249 42 [(0, .inr (.inl 215))] [.inl (if er_sk t N a < N then t (er_sk t N a) else -1)] w' r := by
  have t32 : ec_tw 32 = 32 := rfl
  have stop : ∀ (n a : Nat) (w : px_W) (r : Option Value × px_W) (z : Int), a ≤ N → ec_tw z ≠ 32 → er_sk t N a = a → ec_W hb_A w → er_Sr w N t → ec_fd w 151 26 = (a : Int) → ec_E hb_X n 249 8 [(0, .inr (.inl 215))] [.inl z] w r → ∃ w' : px_W, ec_W hb_A w' ∧ ef_s [151] w w' ∧ (∀ f, f ≠ 26 → f ≠ 27 → ec_fd w' 151 f = ec_fd w 151 f) ∧ ec_fd w' 151 26 = (er_sk t N a : Int) ∧ ec_fd w' 151 27 = (er_sk t N a : Int) ∧ ec_E hb_X n 249 42 [(0, .inr (.inl 215))] [.inl (if er_sk t N a < N then t (er_sk t N a) else -1)] w' r := by
    intro n a w r z ha hz hs hW hS f26 h
    have l := eg249_151_8_0 h
    rw [t32, f26] at l
    obtain ⟨_, u, w1, a1, a2⟩ := l hz
    have Wa : ec_W hb_A (ec_pf w 151 27 (a : Int)) := ec_W_pf (k := 151) (f := 27) rfl rfl hW
    have F : ∀ g, ec_fd (ec_pf w 151 27 (a : Int)) 151 g = if g = 27 then ec_tw (a : Int) else ec_fd w 151 g := fun g => ec_fd_pf (k := 151) (f := 27) hW rfl (by decide)
    have s0 : ef_s [151] w (ec_pf w 151 27 (a : Int)) := ef_s_pf (by decide)
    have Fo : ∀ f, f ≠ 27 → ec_fd (ec_pf w 151 27 (a : Int)) 151 f = ec_fd w 151 f := fun f hf => by rw [F f, if_neg hf]
    rw [Fo 26 (by decide), f26] at a1
    obtain ⟨i1, W1, e1⟩ := ew_by hN (by omega) (er_Sr_s hS s0 (Fo 25 (by decide)) (Fo 24 (by decide))) a1
    rw [← i1] at a2 W1
    rw [hs]
    exact ⟨_, Wa, s0, fun f _ hf => Fo f hf, (Fo 26 (by decide)).trans f26, by rw [F 27, if_pos rfl]; exact ec_twn (by omega), a2 _ e1 W1⟩
  intro k
  induction k with
  | zero =>
    intro n a w r hk hW hS f26 h
    obtain ⟨_, u, w1, a1, a2⟩ := eg249_151_0_0 h
    rw [f26] at a1
    obtain ⟨i1, W1, e1⟩ := ew_by hN (by omega) hS a1
    rw [← i1] at a2 W1
    rw [if_neg (by omega)] at e1
    exact stop n a w r _ (by omega) (by decide) (er_end_n (fun q => by omega)) hW hS f26 (a2 _ e1 W1)
  | succ k ih =>
    intro n a w r hk hW hS f26 h
    obtain ⟨_, u, w1, a1, a2⟩ := eg249_151_0_0 h
    rw [f26] at a1
    obtain ⟨i1, W1, e1⟩ := ew_by hN (by omega) hS a1
    rw [← i1] at a2 W1
    rw [if_pos (by omega)] at e1
    have ba := hb a (by omega)
    have ta : ec_tw (t a) = t a := ec_tw_id (by omega) (by omega)
    have b := a2 _ e1 W1
    by_cases q : t a = 32
    · have l := eg249_151_8_1 b
      rw [ta, t32, f26] at l
      have h2 := (l q).2
      have Wa : ec_W hb_A (ec_pf w 151 26 ((a : Int) + 1)) := ec_W_pf (k := 151) (f := 26) rfl rfl hW
      have F : ∀ g, ec_fd (ec_pf w 151 26 ((a : Int) + 1)) 151 g = if g = 26 then ec_tw ((a : Int) + 1) else ec_fd w 151 g := fun g => ec_fd_pf (k := 151) (f := 26) hW rfl (by decide)
      have s0 : ef_s [151] w (ec_pf w 151 26 ((a : Int) + 1)) := ef_s_pf (by decide)
      have Fo : ∀ f, f ≠ 26 → ec_fd (ec_pf w 151 26 ((a : Int) + 1)) 151 f = ec_fd w 151 f := fun f hf => by rw [F f, if_neg hf]
      have es : er_sk t N a = er_sk t N (a + 1) := er_end_y (by omega) (decide_eq_true q)
      obtain ⟨w', q1, q2, q3, q4, q5, q6⟩ := ih n (a + 1) _ r (by omega) Wa (er_Sr_s hS s0 (Fo 25 (by decide)) (Fo 24 (by decide))) (by rw [F 26, if_pos rfl]; exact ec_twn (n := a + 1) (by omega)) h2
      rw [es]
      exact ⟨w', q1, ef_s_trans s0 q2, fun f a1 a2 => (q3 f a1 a2).trans (Fo f a1), q4, q5, q6⟩
    · exact stop n a w r _ (by omega) (by rw [ta]; exact q) (er_end_n (fun _ => decide_eq_false q)) hW hS f26 b
theorem ew_nx71 {i : Nat} {x1 : Int} (hN : N ≤ 200) (hb : ∀ i, i < N → 0 ≤ t i ∧ t i ≤ 255) : ∀ (k n c : Nat) (w : px_W) (r : Option Value × px_W), i + c + k = N → ec_W hb_A w → er_Sr w N t → ec_fd w 151 26 = ((i + c : Nat) : Int) → ec_fd w 151 27 = (i : Int) → ec_fd w 151 29 = er_nb t i (min c 3) → ec_E hb_X n 249 71 [(0, .inr (.inl 215)), (1, .inl x1)] [] w r → ∃ w' : px_W, r = (none, w') ∧ ec_W hb_A w' ∧ ef_s [151] w w' ∧ (∀ f, f ≠ 26 → f ≠ 28 → f ≠ 29 → ec_fd w' 151 f = ec_fd w 151 f) ∧ ec_fd w' 151 26 = (er_end (fun i => er_dg (t i)) N (i + c) : Int) ∧ ec_fd w' 151 28 = (if 3 < er_end (fun i => er_dg (t i)) N (i + c) - i then 1 else 3) ∧ (¬ 3 < er_end (fun i => er_dg (t i)) N (i + c) - i → ec_fd w' 151 29 = er_nb t i (er_end (fun i => er_dg (t i)) N (i + c) - i)) := by
  have t0 : ec_tw 0 = 0 := rfl
  have t3 : ec_tw 3 = 3 := rfl
  have t48 : ec_tw 48 = 48 := rfl
  have t57 : ec_tw 57 = 57 := rfl
  have stop : ∀ (n c : Nat) (w : px_W) (r : Option Value × px_W), i + c ≤ N → er_end (fun i => er_dg (t i)) N (i + c) = i + c → ec_W hb_A w → ec_fd w 151 26 = ((i + c : Nat) : Int) → ec_fd w 151 27 = (i : Int) → ec_fd w 151 29 = er_nb t i (min c 3) → ec_E hb_X n 249 86 [(0, .inr (.inl 215)), (1, .inl x1)] [.inl 0] w r → ∃ w' : px_W, r = (none, w') ∧ ec_W hb_A w' ∧ ef_s [151] w w' ∧ (∀ f, f ≠ 26 → f ≠ 28 → f ≠ 29 → ec_fd w' 151 f = ec_fd w 151 f) ∧ ec_fd w' 151 26 = (er_end (fun i => er_dg (t i)) N (i + c) : Int) ∧ ec_fd w' 151 28 = (if 3 < er_end (fun i => er_dg (t i)) N (i + c) - i then 1 else 3) ∧ (¬ 3 < er_end (fun i => er_dg (t i)) N (i + c) - i → ec_fd w' 151 29 = er_nb t i (er_end (fun i => er_dg (t i)) N (i + c) - i)) := by
    intro n c w r hc he hW f26 f27 f29 h
    rw [he]
    have ecc : i + c - i = c := by omega
    rw [ecc]
    have es : ((i + c : Nat) : Int) - (i : Int) = ((c : Nat) : Int) := by omega
    have k0 := eg249_151_86_0 h
    have k1 := eg249_151_86_1 h
    rw [t0, f26, f27, es, ec_twn (n := c) (by omega), t3] at k0 k1
    by_cases q : 3 < c
    · obtain ⟨_, hr, hW'⟩ := k1 rfl (by omega)
      have F : ∀ g, ec_fd (ec_pf w 151 28 1) 151 g = if g = 28 then ec_tw 1 else ec_fd w 151 g := fun g => ec_fd_pf (k := 151) (f := 28) hW rfl (by decide)
      rw [if_pos q]
      exact ⟨_, hr, hW', ef_s_pf (by decide), fun f _ a _ => by rw [F f, if_neg a], by rw [F 26, if_neg (by decide)]; exact f26, by rw [F 28, if_pos rfl]; rfl, fun z => absurd q z⟩
    · obtain ⟨_, hr, hW'⟩ := k0 rfl (by omega)
      have F : ∀ g, ec_fd (ec_pf w 151 28 3) 151 g = if g = 28 then ec_tw 3 else ec_fd w 151 g := fun g => ec_fd_pf (k := 151) (f := 28) hW rfl (by decide)
      have em : min c 3 = c := by omega
      rw [em] at f29
      rw [if_neg q]
      exact ⟨_, hr, hW', ef_s_pf (by decide), fun f _ a _ => by rw [F f, if_neg a], by rw [F 26, if_neg (by decide)]; exact f26, by rw [F 28, if_pos rfl]; rfl, fun _ => by rw [F 29, if_neg (by decide)]; exact f29⟩
  -- the next byte, and whether it is a digit
  have hd : ∀ (n c : Nat) (w : px_W) (r : Option Value × px_W), i + c ≤ N → er_Sr w N t → ec_fd w 151 26 = ((i + c : Nat) : Int) → ec_E hb_X n 249 71 [(0, .inr (.inl 215)), (1, .inl x1)] [] w r → ec_E hb_X n 249 86 [(0, .inr (.inl 215)), (1, .inl x1)] [.inl (if i + c < N ∧ er_dg (t (i + c)) = true then 1 else 0)] w r := by
    intro n c w r hc hS f26 h
    obtain ⟨_, u, w1, a1, a2⟩ := eg249_151_71_0 h
    rw [f26] at a1
    obtain ⟨i1, W1, e1⟩ := ew_by hN (by omega) hS a1
    rw [← i1] at a2 W1
    obtain ⟨_, u2, w2, a3, a4⟩ := eg249_151_79_0 (a2 _ e1 W1)
    obtain ⟨e2, W2⟩ := ew_in a3
    injection e2 with e2 i2
    rw [i2] at a4
    have b := a4 _ e2 W2
    rw [t48, t57] at b
    by_cases q : i + c < N
    · have bb := hb (i + c) q
      rw [if_pos q, ec_tw_id (a := t (i + c)) (by omega) (by omega)] at b
      by_cases qd : er_dg (t (i + c)) = true
      · rw [if_pos ⟨q, qd⟩]
        rw [if_pos (er_dg_ok.mp qd)] at b
        exact b
      · rw [if_neg (fun x => qd x.2)]
        rw [if_neg (fun x => qd (er_dg_ok.mpr x))] at b
        exact b
    · rw [if_neg q] at b
      rw [if_neg (fun x => q x.1)]
      have tm : ec_tw (-1) = -1 := rfl
      rw [tm, if_neg (fun x => absurd x.1 (by decide))] at b
      exact b
  intro k
  induction k with
  | zero =>
    intro n c w r hk hW hS f26 f27 f29 h
    have b := hd n c w r (by omega) hS f26 h
    rw [if_neg (fun x => by have := x.1; omega)] at b
    exact stop n c w r (by omega) (er_end_n (fun q => by omega)) hW f26 f27 f29 b
  | succ k ih =>
    intro n c w r hk hW hS f26 f27 f29 h
    have b := hd n c w r (by omega) hS f26 h
    by_cases qd : er_dg (t (i + c)) = true
    · rw [if_pos ⟨by omega, qd⟩] at b
      have ee : er_end (fun i => er_dg (t i)) N (i + c) = er_end (fun i => er_dg (t i)) N (i + (c + 1)) := er_end_y (by omega) qd
      rw [ee]
      have es : ((i + c : Nat) : Int) - (i : Int) = ((c : Nat) : Int) := by omega
      -- one digit more
      have nx : ∀ z : Int, ec_tw z = er_nb t i (min (c + 1) 3) → ec_E hb_X n 249 129 [(0, .inr (.inl 215)), (1, .inl x1)] [.inl z, .inr (.inl 215)] w r → ∃ w' : px_W, r = (none, w') ∧ ec_W hb_A w' ∧ ef_s [151] w w' ∧ (∀ f, f ≠ 26 → f ≠ 28 → f ≠ 29 → ec_fd w' 151 f = ec_fd w 151 f) ∧ ec_fd w' 151 26 = (er_end (fun i => er_dg (t i)) N (i + (c + 1)) : Int) ∧ ec_fd w' 151 28 = (if 3 < er_end (fun i => er_dg (t i)) N (i + (c + 1)) - i then 1 else 3) ∧ (¬ 3 < er_end (fun i => er_dg (t i)) N (i + (c + 1)) - i → ec_fd w' 151 29 = er_nb t i (er_end (fun i => er_dg (t i)) N (i + (c + 1)) - i)) := by
        intro z hz h2
        have h3 := (eg249_151_129_0 h2).2
        have Wa : ec_W hb_A (ec_pf w 151 29 z) := ec_W_pf (k := 151) (f := 29) rfl rfl hW
        have F1 : ∀ g, ec_fd (ec_pf w 151 29 z) 151 g = if g = 29 then ec_tw z else ec_fd w 151 g := fun g => ec_fd_pf (k := 151) (f := 29) hW rfl (by decide)
        rw [F1 26, if_neg (by decide), f26] at h3
        have Wb : ec_W hb_A (ec_pf (ec_pf w 151 29 z) 151 26 (((i + c : Nat) : Int) + 1)) := ec_W_pf (k := 151) (f := 26) rfl rfl Wa
        have F2 : ∀ g, ec_fd (ec_pf (ec_pf w 151 29 z) 151 26 (((i + c : Nat) : Int) + 1)) 151 g = if g = 26 then ec_tw (((i + c : Nat) : Int) + 1) else if g = 29 then ec_tw z else ec_fd w 151 g := by
          intro g
          rw [ec_fd_pf (k := 151) (f := 26) Wa rfl (by decide), F1 g]
        have s0 : ef_s [151] w (ec_pf (ec_pf w 151 29 z) 151 26 (((i + c : Nat) : Int) + 1)) := ef_s_trans (ef_s_pf (by decide)) (ef_s_pf (by decide))
        have Fo : ∀ f, f ≠ 26 → f ≠ 29 → ec_fd (ec_pf (ec_pf w 151 29 z) 151 26 (((i + c : Nat) : Int) + 1)) 151 f = ec_fd w 151 f := fun f a1 a2 => by rw [F2 f, if_neg a1, if_neg a2]
        obtain ⟨w', q1, q2, q3, q4, q5, q6, q7⟩ := ih n (c + 1) _ r (by omega) Wb (er_Sr_s hS s0 (Fo 25 (by decide) (by decide)) (Fo 24 (by decide) (by decide))) (by rw [F2 26, if_pos rfl]; exact ec_twn (n := i + c + 1) (by omega)) ((Fo 27 (by decide) (by decide)).trans f27) (by rw [F2 29, if_neg (by decide), if_pos rfl]; exact hz) h3
        exact ⟨w', q1, q2, ef_s_trans s0 q3, fun f a1 a2 a3 => (q4 f a1 a2 a3).trans (Fo f a1 a3), q5, q6, q7⟩
      have k2 := eg249_151_86_2 b
      have k3 := eg249_151_86_3 b
      rw [f26, f27, es, ec_twn (n := c) (by omega), t3] at k2 k3
      by_cases q3 : c < 3
      · obtain ⟨_, u, w1, a1, a2⟩ := k3 (by decide) (by omega)
        obtain ⟨i1, W1, e1⟩ := ew_by hN (by omega) hS a1
        rw [← i1] at a2 W1
        rw [if_pos (by omega)] at e1
        have h4 := (eg249_151_118_0 (a2 _ e1 W1)).2
        have em : min c 3 = c := by omega
        have em2 : min (c + 1) 3 = c + 1 := by omega
        rw [em] at f29
        rw [f29] at h4
        have nin := er_nb_in hb (i := i) (c + 1) (by omega) (by omega)
        have ev : 10 * er_nb t i c + t (i + c) - 48 = er_nb t i (c + 1) := by
          show _ = er_nb t i c * 10 + t (i + c) - 48
          rw [Int.mul_comm]
        rw [ev] at h4
        exact nx _ (by rw [em2]; exact ec_tw_id (by omega) (by omega)) h4
      · have h4 := (k2 (by decide) (by omega)).2
        have em2 : min (c + 1) 3 = min c 3 := by omega
        exact nx _ (by rw [em2, ec_tw_fd]; exact f29) h4
    · rw [if_neg (fun x => qd x.2)] at b
      exact stop n c w r (by omega) (er_end_n (fun _ => by
        cases tt : er_dg (t (i + c)) with
        | false => rfl
        | true => exact absurd tt qd)) hW f26 f27 f29 b
theorem ew_nx181 {x1 : Int} (hN : N ≤ 200) (hb : ∀ i, i < N → 0 ≤ t i ∧ t i ≤ 255) : ∀ (k n e : Nat) (w : px_W) (r : Option Value × px_W), e + k = N → ec_W hb_A w → er_Sr w N t → ec_fd w 151 26 = (e : Int) → ec_E hb_X n 249 181 [(0, .inr (.inl 215)), (1, .inl x1)] [] w r → ∃ w' : px_W, ec_W hb_A w' ∧ ef_s [151] w w' ∧ (∀ f, f ≠ 26 → ec_fd w' 151 f = ec_fd w 151 f) ∧ ec_fd w' 151 26 = (er_end (fun i => er_lt (t i)) N e : Int) ∧ ∃ (v : Option Value) (w1 : px_W), ec_E hb_X n 250 0 [(0, .inr (.inl 215))] [] w' (v, w1) ∧ (v = none → ec_W hb_A w1 → ec_E hb_X n 249 216 [(0, .inr (.inl 215)), (1, .inl x1)] [] w1 r) := by
  have t0 : ec_tw 0 = 0 := rfl
  have ta : ec_tw 97 = 97 := rfl
  have tz : ec_tw 122 = 122 := rfl
  have hd : ∀ (n e : Nat) (w : px_W) (r : Option Value × px_W), e ≤ N → er_Sr w N t → ec_fd w 151 26 = (e : Int) → ec_E hb_X n 249 181 [(0, .inr (.inl 215)), (1, .inl x1)] [] w r → ec_E hb_X n 249 196 [(0, .inr (.inl 215)), (1, .inl x1)] [.inl (if e < N ∧ er_lt (t e) = true then 1 else 0)] w r := by
    intro n e w r hc hS f26 h
    obtain ⟨_, u, w1, a1, a2⟩ := eg249_151_181_0 h
    rw [f26] at a1
    obtain ⟨i1, W1, e1⟩ := ew_by hN (by omega) hS a1
    rw [← i1] at a2 W1
    obtain ⟨_, u2, w2, a3, a4⟩ := eg249_151_189_0 (a2 _ e1 W1)
    obtain ⟨e2, W2⟩ := ew_in a3
    injection e2 with e2 i2
    rw [i2] at a4
    have b := a4 _ e2 W2
    rw [ta, tz] at b
    by_cases q : e < N
    · have bb := hb e q
      rw [if_pos q, ec_tw_id (a := t e) (by omega) (by omega)] at b
      by_cases qd : er_lt (t e) = true
      · rw [if_pos ⟨q, qd⟩]
        rw [if_pos (er_lt_ok.mp qd)] at b
        exact b
      · rw [if_neg (fun x => qd x.2)]
        rw [if_neg (fun x => qd (er_lt_ok.mpr x))] at b
        exact b
    · rw [if_neg q] at b
      rw [if_neg (fun x => q x.1)]
      have tm : ec_tw (-1) = -1 := rfl
      rw [tm, if_neg (fun x => absurd x.1 (by decide))] at b
      exact b
  intro k
  induction k with
  | zero =>
    intro n e w r hk hW hS f26 h
    have b := hd n e w r (by omega) hS f26 h
    rw [if_neg (fun x => by have := x.1; omega)] at b
    rw [er_end_n (p := fun i => er_lt (t i)) (fun q => by omega)]
    exact ⟨w, hW, ef_s_refl, fun _ _ => rfl, f26, (eg249_151_196_0 b rfl).2⟩
  | succ k ih =>
    intro n e w r hk hW hS f26 h
    have b := hd n e w r (by omega) hS f26 h
    by_cases qd : er_lt (t e) = true
    · rw [if_pos ⟨by omega, qd⟩] at b
      have h2 := (eg249_151_196_1 b (by decide)).2
      rw [f26] at h2
      have Wa : ec_W hb_A (ec_pf w 151 26 ((e : Int) + 1)) := ec_W_pf (k := 151) (f := 26) rfl rfl hW
      have F : ∀ g, ec_fd (ec_pf w 151 26 ((e : Int) + 1)) 151 g = if g = 26 then ec_tw ((e : Int) + 1) else ec_fd w 151 g := fun g => ec_fd_pf (k := 151) (f := 26) hW rfl (by decide)
      have s0 : ef_s [151] w (ec_pf w 151 26 ((e : Int) + 1)) := ef_s_pf (by decide)
      have Fo : ∀ f, f ≠ 26 → ec_fd (ec_pf w 151 26 ((e : Int) + 1)) 151 f = ec_fd w 151 f := fun f hf => by rw [F f, if_neg hf]
      rw [er_end_y (p := fun i => er_lt (t i)) (by omega) qd]
      obtain ⟨w', q1, q2, q3, q4, q5⟩ := ih n (e + 1) _ r (by omega) Wa (er_Sr_s hS s0 (Fo 25 (by decide)) (Fo 24 (by decide))) (by rw [F 26, if_pos rfl]; exact ec_twn (n := e + 1) (by omega)) h2
      exact ⟨w', q1, ef_s_trans s0 q2, fun f hf => (q3 f hf).trans (Fo f hf), q4, q5⟩
    · rw [if_neg (fun x => qd x.2)] at b
      rw [er_end_n (p := fun i => er_lt (t i)) (fun _ => by
        cases tt : er_lt (t e) with
        | false => rfl
        | true => exact absurd tt qd)]
      exact ⟨w, hW, ef_s_refl, fun _ _ => rfl, f26, (eg249_151_196_0 b rfl).2⟩
theorem ew_next {a n : Nat} {w w1 : px_W} {v : Option Value} (hN : N ≤ 200) (hb : ∀ i, i < N → 0 ≤ t i ∧ t i ≤ 255) (ha : a ≤ N) (hL : er_Le w) (hS : er_Sr w N t) (f26 : ec_fd w 151 26 = (a : Int)) (h : ec_E hb_X n 249 0 [(0, .inr (.inl 215))] [] w (v, w1)) : v = none ∧ ec_W hb_A w1 ∧ ef_s [151] w w1 ∧ (∀ f, f ≠ 26 → f ≠ 27 → f ≠ 28 → f ≠ 29 → ec_fd w1 151 f = ec_fd w 151 f) ∧ er_At w1 t N (er_sk t N a) := by
  have t0 : ec_tw 0 = 0 := rfl
  obtain ⟨w2, W2, s2, F2, g26, g27, h42⟩ := ew_nx0 hN hb (N - a) n a w _ (by omega) h.1 hS f26 h
  obtain ⟨i, hi⟩ : ∃ i, er_sk t N a = i := ⟨_, rfl⟩
  have hiN := (er_sk_b (t := t) ha).2
  rw [hi] at g26 g27 h42 hiN ⊢
  have hS2 : er_Sr w2 N t := er_Sr_s hS s2 (F2 25 (by decide) (by decide)) (F2 24 (by decide) (by decide))
  have hL2 : er_Le w2 := fun y hy => by
    rw [ef_s_a s2 (by decide)]
    exact hL y hy
  by_cases c : i < N
  · rw [if_pos c] at h42
    have bi := hb i c
    have ti : ec_tw (t i) = t i := ec_tw_id (by omega) (by omega)
    have l := eg249_151_42_0 h42
    rw [ti, t0] at l
    obtain ⟨_, u, w3, a1, a2⟩ := l (by omega)
    obtain ⟨e1, W1⟩ := ew_in a1
    injection e1 with e1 i1
    rw [i1] at a2
    have b := a2 _ e1 W1
    have t48 : ec_tw 48 = 48 := rfl
    have t57 : ec_tw 57 = 57 := rfl
    rw [ti, t48, t57] at b
    have eaf : er_af t N i = er_en t N i := if_pos c
    by_cases qD : er_dg (t i) = true
    · rw [if_pos (er_dg_ok.mp qD)] at b
      have h71 := (eg249_151_63_1 b (by decide)).2
      have nL : ¬ er_lt (t i) = true := fun e => by
        have h1 := er_lt_ok.mp e
        have h2 := er_dg_ok.mp qD
        omega
      have een : er_en t N i = er_end (fun i => er_dg (t i)) N (i + 0) := by
        unfold er_en
        rw [if_neg nL, if_pos qD, Nat.add_zero]
        exact (er_end_y c qD).symm
      have Wa : ec_W hb_A (ec_pf w2 151 29 0) := ec_W_pf (k := 151) (f := 29) rfl rfl W2
      have F : ∀ g, ec_fd (ec_pf w2 151 29 0) 151 g = if g = 29 then ec_tw 0 else ec_fd w2 151 g := fun g => ec_fd_pf (k := 151) (f := 29) W2 rfl (by decide)
      have s0 : ef_s [151] w2 (ec_pf w2 151 29 0) := ef_s_pf (by decide)
      have Fo : ∀ f, f ≠ 29 → ec_fd (ec_pf w2 151 29 0) 151 f = ec_fd w2 151 f := fun f hf => by rw [F f, if_neg hf]
      obtain ⟨w4, q1, q2, q3, q4, q5, q6, q7⟩ := ew_nx71 hN hb (N - i) n 0 _ _ (by omega) Wa (er_Sr_s hS2 s0 (Fo 25 (by decide)) (Fo 24 (by decide))) ((Fo 26 (by decide)).trans g26) ((Fo 27 (by decide)).trans g27) (by rw [F 29, if_pos rfl]; rfl) h71
      rw [← een] at q5 q6 q7
      injection q1 with e2 i2
      subst i2
      refine ⟨e2, q2, ef_s_trans s2 (ef_s_trans s0 q3), fun f a1 a2 a3 a4 => (q4 f a1 a3 a4).trans ((Fo f a4).trans (F2 f a1 a2)), (q4 27 (by decide) (by decide) (by decide)).trans ((Fo 27 (by decide)).trans g27), by rw [eaf]; exact q5, ?_, fun hk => ?_⟩
      · unfold er_tk
        rw [if_pos c, if_pos qD]
        exact q6
      · unfold er_tt
        rw [if_pos qD]
        refine q7 (fun z => ?_)
        unfold er_tk at hk
        rw [if_pos c, if_pos qD, if_pos z] at hk
        rcases hk with hk | hk
        · exact absurd hk (by decide)
        · exact absurd hk (by decide)
    · rw [if_neg (fun x => qD (er_dg_ok.mpr x))] at b
      obtain ⟨_, u2, w3, a3, a4⟩ := eg249_151_63_0 b rfl
      obtain ⟨e2, W3⟩ := ew_in a3
      injection e2 with e2 i2
      rw [i2] at a4
      have b2 := a4 _ e2 W3
      have t97 : ec_tw 97 = 97 := rfl
      have t122 : ec_tw 122 = 122 := rfl
      rw [ti, t97, t122] at b2
      by_cases qL : er_lt (t i) = true
      · rw [if_pos (er_lt_ok.mp qL)] at b2
        have h181 := (eg249_151_178_7 b2 (by decide)).2
        have een : er_en t N i = er_end (fun i => er_lt (t i)) N i := by
          unfold er_en
          rw [if_pos qL]
          exact (er_end_y c qL).symm
        obtain ⟨w4, q1, q2, q3, q4, v5, w5, q5, q6⟩ := ew_nx181 hN hb (N - i) n i w2 _ (by omega) W2 hS2 g26 h181
        rw [← een] at q4
        have eb := er_en_b (t := t) c
        obtain ⟨y1, y2, y3, y4, y5, y6⟩ := ew_word (b := i) (e := er_en t N i) hN (by omega) eb.2 (fun y hy => by rw [ef_s_a q2 (by decide)]; exact hL2 y hy) (er_Sr_s hS2 q2 (q3 25 (by decide)) (q3 24 (by decide))) q4 ((q3 27 (by decide)).trans g27) q5
        obtain ⟨_, hr, _⟩ := eg249_151_216_0 (q6 y1 y2)
        injection hr with e3 i3
        rw [i3]
        refine ⟨e3, y2, ef_s_trans s2 (ef_s_trans q2 y3), fun f a1 a2 a3 a4 => (y4 f a3 a4).trans ((q3 f a1).trans (F2 f a1 a2)), (y4 27 (by decide) (by decide)).trans ((q3 27 (by decide)).trans g27), by rw [eaf]; exact (y4 26 (by decide) (by decide)).trans q4, ?_, fun hk => ?_⟩
        · unfold er_tk
          rw [if_pos c, if_neg qD, if_pos qL]
          exact y5
        · unfold er_tt
          rw [if_neg qD]
          refine y6 ?_
          unfold er_tk at hk
          rw [if_pos c, if_neg qD, if_pos qL] at hk
          by_cases z : er_wk (er_bs t i (er_en t N i)) < 16
          · exact z
          · rw [if_neg z] at hk
            rcases hk with hk | hk
            · exact absurd hk (by decide)
            · exact absurd hk (by decide)
      · rw [if_neg (fun x => qL (er_lt_ok.mpr x))] at b2
        have een : er_en t N i = i + 1 := by
          unfold er_en
          rw [if_neg qL, if_neg qD]
        have Wa : ec_W hb_A (ec_pf w2 151 26 ((i : Int) + 1)) := ec_W_pf (k := 151) (f := 26) rfl rfl W2
        have F1 : ∀ g, ec_fd (ec_pf w2 151 26 ((i : Int) + 1)) 151 g = if g = 26 then ec_tw ((i : Int) + 1) else ec_fd w2 151 g := fun g => ec_fd_pf (k := 151) (f := 26) W2 rfl (by decide)
        have fin : ∀ z : Int, ec_tw z = (if er_sp (t i) = true then t i else 1) → ec_E hb_X n 249 271 [(0, .inr (.inl 215)), (1, .inl (t i))] [.inl z, .inr (.inl 215)] (ec_pf w2 151 26 ((i : Int) + 1)) (v, w1) → v = none ∧ ec_W hb_A w1 ∧ ef_s [151] w w1 ∧ (∀ f, f ≠ 26 → f ≠ 27 → f ≠ 28 → f ≠ 29 → ec_fd w1 151 f = ec_fd w 151 f) ∧ er_At w1 t N i := by
          intro z hz h2
          obtain ⟨_, hr, hW'⟩ := eg249_151_271_0 h2
          injection hr with e3 i3
          have F : ∀ g, ec_fd (ec_pf (ec_pf w2 151 26 ((i : Int) + 1)) 151 28 z) 151 g = if g = 28 then ec_tw z else if g = 26 then ec_tw ((i : Int) + 1) else ec_fd w2 151 g := by
            intro g
            rw [ec_fd_pf (k := 151) (f := 28) Wa rfl (by decide), F1 g]
          have etk : er_tk t N i = (if er_sp (t i) = true then t i else 1) := by
            unfold er_tk
            rw [if_pos c, if_neg qD, if_neg qL]
          rw [i3]
          refine ⟨e3, hW', ef_s_trans s2 (ef_s_trans (ef_s_pf (by decide)) (ef_s_pf (by decide))), fun f a1 a2 a3 _ => by rw [F f, if_neg a3, if_neg a1]; exact F2 f a1 a2, by rw [F 27, if_neg (by decide), if_neg (by decide)]; exact g27, ?_, by rw [F 28, if_pos rfl, etk]; exact hz, fun hk => ?_⟩
          · rw [F 26, if_neg (by decide), if_pos rfl, eaf, een]
            exact ec_twn (n := i + 1) (by omega)
          · rw [etk] at hk
            by_cases z2 : er_sp (t i) = true
            · rw [if_pos z2] at hk
              unfold er_sp at z2
              simp only [Bool.or_eq_true, decide_eq_true_eq] at z2
              omega
            · rw [if_neg z2] at hk
              omega
        have spec : er_sp (t i) = true → ec_E hb_X n 249 266 [(0, .inr (.inl 215)), (1, .inl (t i))] [.inr (.inl 215)] (ec_pf w2 151 26 ((i : Int) + 1)) (v, w1) → v = none ∧ ec_W hb_A w1 ∧ ef_s [151] w w1 ∧ (∀ f, f ≠ 26 → f ≠ 27 → f ≠ 28 → f ≠ 29 → ec_fd w1 151 f = ec_fd w 151 f) ∧ er_At w1 t N i := fun hs h2 => fin (t i) (by rw [if_pos hs]; exact ti) (eg249_151_266_0 h2).2
        have k0 := eg249_151_178_0 b2 rfl
        have k1 := eg249_151_178_1 b2 rfl
        have k2 := eg249_151_178_2 b2 rfl
        have k3 := eg249_151_178_3 b2 rfl
        have k4 := eg249_151_178_4 b2 rfl
        have k5 := eg249_151_178_5 b2 rfl
        have k6 := eg249_151_178_6 b2 rfl
        have u59 : ec_tw 59 = 59 := rfl
        have u40 : ec_tw 40 = 40 := rfl
        have u41 : ec_tw 41 = 41 := rfl
        have u60 : ec_tw 60 = 60 := rfl
        have u61 : ec_tw 61 = 61 := rfl
        have u62 : ec_tw 62 = 62 := rfl
        rw [ti, u59, g26] at k0
        rw [ti, u59, u40, g26] at k1
        rw [ti, u59, u40, u41, g26] at k2
        rw [ti, u59, u40, u41, u60, g26] at k3
        rw [ti, u59, u40, u41, u60, u61, g26] at k4
        rw [ti, u59, u40, u41, u60, u61, u62, g26] at k5 k6
        have mk : t i = 59 ∨ t i = 40 ∨ t i = 41 ∨ t i = 60 ∨ t i = 61 ∨ t i = 62 → er_sp (t i) = true := by
          intro z
          unfold er_sp
          simp only [Bool.or_eq_true, decide_eq_true_eq]
          exact z
        by_cases z1 : t i = 59
        · exact spec (mk (by omega)) (k0 z1).2
        · by_cases z2 : t i = 40
          · exact spec (mk (by omega)) (k1 z1 z2).2
          · by_cases z3 : t i = 41
            · exact spec (mk (by omega)) (k2 z1 z2 z3).2
            · by_cases z4 : t i = 60
              · exact spec (mk (by omega)) (k3 z1 z2 z3 z4).2
              · by_cases z5 : t i = 61
                · exact spec (mk (by omega)) (k4 z1 z2 z3 z4 z5).2
                · by_cases z6 : t i = 62
                  · exact spec (mk (by omega)) (k6 z1 z2 z3 z4 z5 z6).2
                  · refine fin 1 ?_ (k5 z1 z2 z3 z4 z5 z6).2
                    rw [if_neg (fun e => by
                      unfold er_sp at e
                      simp only [Bool.or_eq_true, decide_eq_true_eq] at e
                      omega)]
                    rfl
  · rw [if_neg c] at h42
    obtain ⟨_, hr, hW'⟩ := eg249_151_42_1 h42 (by decide)
    injection hr with e1 i1
    have F : ∀ g, ec_fd (ec_pf w2 151 28 0) 151 g = if g = 28 then ec_tw 0 else ec_fd w2 151 g := fun g => ec_fd_pf (k := 151) (f := 28) W2 rfl (by decide)
    have eiN : i = N := by omega
    have etk : er_tk t N i = 0 := by
      unfold er_tk
      rw [if_neg c]
    rw [i1]
    refine ⟨e1, hW', ef_s_trans s2 (ef_s_pf (by decide)), fun f a1 a2 a3 _ => by rw [F f, if_neg a3]; exact F2 f a1 a2, by rw [F 27, if_neg (by decide)]; exact g27, ?_, by rw [F 28, if_pos rfl, etk]; rfl, fun hk => ?_⟩
    · rw [F 26, if_neg (by decide), g26]
      unfold er_af
      rw [if_neg c, eiN]
    · rw [etk] at hk
      omega
end ER4

end
