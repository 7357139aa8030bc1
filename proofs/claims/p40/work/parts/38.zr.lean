noncomputable section
/-! RULES: the reference reads a LINE, a TEXT -/
def er_se (ls : List er_L) : Int × Int := ls.foldl (fun a q => if q.1 = 0 then (q.2.1, q.2.2.1) else a) (0, 1)
def er_rkl (ls : List er_L) : Int := ls.foldl (fun a q => if q.1 = 1 then q.2.1 else a) 999
def er_dc (ls : List er_L) : Bool := ls.foldl (fun a q => a || q.2.2.2.2) false
theorem er_se_s (ls : List er_L) (q : er_L) : er_se (ls ++ [q]) = if q.1 = 0 then (q.2.1, q.2.2.1) else er_se ls := by
  unfold er_se
  rw [List.foldl_append]
  rfl
theorem er_rkl_s (ls : List er_L) (q : er_L) : er_rkl (ls ++ [q]) = if q.1 = 1 then q.2.1 else er_rkl ls := by
  unfold er_rkl
  rw [List.foldl_append]
  rfl
theorem er_dc_s (ls : List er_L) (q : er_L) : er_dc (ls ++ [q]) = (er_dc ls || q.2.2.2.2) := by
  unfold er_dc
  rw [List.foldl_append]
  rfl
/-- what the reference knows of the lines so far -/
def er_RS (w : px_W) (ls : List er_L) : Prop := (ec_fd w 151 35 = (ls.length : Int) ∧ ∀ i, i < ls.length → ef_a w 170 i = (ls.map (fun q => q.1)).getD i 0) ∧ (ec_fd w 151 36 = (er_se ls).1 ∧ ec_fd w 151 37 = (er_se ls).2) ∧ er_RK w (er_rkl ls) ∧ ec_fd w 151 39 = (if er_dc ls = true then 1 else 0)
section ER12
variable {N : Nat} {t : Nat → Int} {H : Bool} {M : Nat → Int} {C V : Nat → Int}
theorem ew_tks {j n k : Nat} {w w1 : px_W} {v : Option Value} (hN : N ≤ 200) (hb : ∀ i, i < N → 0 ≤ t i ∧ t i ≤ 255) (hC : ∀ j, C j = er_co t N (er_p t N j)) (hk : k < 16) (hZ : er_Z w t N H M j) (h : ec_E hb_X n 253 0 [(0, .inr (.inl 215)), (1, .inl (k : Int))] [] w (v, w1)) : v = none ∧ ec_W hb_A w1 ∧ er_fr w w1 ∧ (C j = er_cc k → er_Z w1 t N H M (j + 1)) ∧ (C j ≠ er_cc k → ec_fd w1 151 30 = (er_p t N j : Int)) ∧ ec_fd w1 151 31 = ec_fd w 151 31 := by
  obtain ⟨_, u, w2, a1, a2⟩ := eg253_151_0_0 h
  obtain ⟨i2, W2, e2⟩ := ew_isw1 hb hk hZ a1
  rw [← i2] at a2 W2
  rw [← hC j] at e2
  have b := a2 _ e2 W2
  have kin := er_cc_in k (by omega)
  by_cases q : C j = er_cc k
  · rw [if_pos q] at b
    obtain ⟨_, u3, w3, a3, a4⟩ := eg253_151_6_1 b (by decide)
    obtain ⟨e3, W3, fr3, Z3, f31⟩ := ew_nxt hN hb hZ (by rw [← hC j]; omega) a3
    obtain ⟨_, hr, hW⟩ := eg253_151_13_0 (a4 e3 W3)
    injection hr with e4 e5
    rw [e5]
    exact ⟨e4, hW, fr3, fun _ => Z3, fun z => absurd q z, f31⟩
  · rw [if_neg q] at b
    obtain ⟨_, u3, w3, a3, a4⟩ := eg253_151_6_0 b rfl
    obtain ⟨e3, W3, fr3, f30, f31⟩ := ew_wrg hZ.2.2 a3
    obtain ⟨_, hr, hW⟩ := eg253_151_20_0 (a4 e3 W3)
    injection hr with e4 e5
    rw [e5]
    exact ⟨e4, hW, fr3, fun z => absurd z q, fun _ => f30.trans hZ.2.1.1, f31⟩
theorem ew_tkF {n : Nat} {w w1 : px_W} {v : Option Value} {x : Int} (hf : 0 ≤ ec_fd w 151 30) (h : ec_E hb_X n 253 0 [(0, .inr (.inl 215)), (1, .inl x)] [] w (v, w1)) : v = none ∧ ec_W hb_A w1 ∧ er_fr w w1 ∧ ec_fd w1 151 30 = ec_fd w 151 30 := by
  obtain ⟨_, u, w2, a1, a2⟩ := eg253_151_0_0 h
  obtain ⟨i2, W2, e2⟩ := ew_isf hf a1
  rw [← i2] at a2 W2
  obtain ⟨_, u3, w3, a3, a4⟩ := eg253_151_6_0 (a2 _ e2 W2) rfl
  obtain ⟨e3, W3, fr3, f30, _⟩ := ew_wrf hf a3
  obtain ⟨_, hr, hW⟩ := eg253_151_20_0 (a4 e3 W3)
  injection hr with e4 e5
  rw [e5]
  exact ⟨e4, hW, fr3, f30⟩
theorem ew_nmF {n : Nat} {w w1 : px_W} {v : Option Value} {x : Int} (hf : 0 ≤ ec_fd w 151 30) (h : ec_E hb_X n 254 0 [(0, .inr (.inl 215)), (1, .inl x)] [] w (v, w1)) : ∃ z : Int, v = ec_R z ∧ ec_W hb_A w1 ∧ er_fr w w1 ∧ ec_fd w1 151 30 = ec_fd w 151 30 := by
  have t0 : ec_tw 0 = 0 := rfl
  obtain ⟨_, u, w2, a1, a2⟩ := eg254_151_25_0 (eg254_151_0_0 h (by rw [ec_tw_fd, t0]; exact hf)).2
  obtain ⟨e3, W3, fr3, f30, _⟩ := ew_wrf hf a1
  obtain ⟨_, hr, hW⟩ := eg254_151_29_0 (a2 e3 W3)
  injection hr with e4 e5
  rw [e5]
  exact ⟨_, e4, hW, fr3, f30⟩
/-- the end of a LINE: behind a FAULT -/
theorem ew_l86F {n : Nat} {w w1 : px_W} {v : Option Value} {x1 : Int} (hf : 0 ≤ ec_fd w 151 30) (h : ec_E hb_X n 259 86 [(0, .inr (.inl 215)), (1, .inl x1)] [] w (v, w1)) : v = none ∧ ec_W hb_A w1 ∧ er_f2 w w1 ∧ ec_fd w1 151 30 = ec_fd w 151 30 := by
  have t0 : ec_tw 0 = 0 := rfl
  have W := h.1
  have l1 := eg259_151_86_0 h
  rw [ec_tw_fd, t0] at l1
  have l2 := eg259_151_106_0 (l1 hf).2
  rw [ec_tw_fd, t0] at l2
  obtain ⟨_, hr, hW⟩ := eg259_151_117_0 (l2 hf).2
  injection hr with e4 e5
  have F : ∀ g, ec_fd (ec_pf (ec_wr w 170 (ec_tw (ec_fd w 151 35)) x1) 151 35 (ec_fd (ec_wr w 170 (ec_tw (ec_fd w 151 35)) x1) 151 35 + 1)) 151 g = if g = 35 then ec_tw (ec_fd (ec_wr w 170 (ec_tw (ec_fd w 151 35)) x1) 151 35 + 1) else ec_fd w 151 g := by
    intro g
    rw [ec_fd_pf (k := 151) (f := 35) (ec_W_wr W) rfl (by decide)]
    by_cases q : g = 35
    · rw [if_pos q, if_pos q]
    · rw [if_neg q, if_neg q, ec_fd_wr_o (by decide)]
  rw [e5]
  exact ⟨e4, hW, ⟨ef_s_trans (ef_s_wr (by decide)) (ef_s_pf (by decide)), fun f hf' => by rw [F f, if_neg (by omega)]⟩, by rw [F 30, if_neg (by decide)]⟩
/-- the end of a LINE that was read up to token a -/
theorem ew_l86 {n a i : Nat} {w w1 : px_W} {v : Option Value} {x1 : Int} (hN : N ≤ 200) (hb : ∀ i, i < N → 0 ≤ t i ∧ t i ≤ 255) (hC : ∀ j, C j = er_co t N (er_p t N j)) (tx : ec_tw x1 = x1) (hZ : er_Z w t N H M a) (h35 : ec_fd w 151 35 = (i : Int)) (hi : i < 8) (h : ec_E hb_X n 259 86 [(0, .inr (.inl 215)), (1, .inl x1)] [] w (v, w1)) : v = none ∧ ec_W hb_A w1 ∧ er_f2 w w1 ∧ (C a = 59 → er_Z w1 t N H M (a + 1) ∧ ec_fd w1 151 35 = ((i + 1 : Nat) : Int) ∧ (∀ p, ef_a w1 170 p = if p = i then x1 else ef_a w 170 p) ∧ ef_a w1 171 = ef_a w 171 ∧ ec_fd w1 151 36 = ec_fd w 151 36 ∧ ec_fd w1 151 37 = ec_fd w 151 37 ∧ ec_fd w1 151 39 = ec_fd w 151 39 ∧ ec_fd w1 151 31 = ec_fd w 151 31) ∧ (C a ≠ 59 → ec_fd w1 151 30 = (er_p t N a : Int)) := by
  have t0 : ec_tw 0 = 0 := rfl
  have t59 : ec_tw 59 = 59 := rfl
  have g30 := hZ.2.2
  have g28 := hZ.2.1.2.2.1
  have iff : er_tk t N (er_p t N a) = 59 ↔ C a = 59 := by
    rw [hC a]
    exact er_tk_s hb (by omega)
  by_cases q : C a = 59
  · have l1 := eg259_151_86_1 h
    rw [g30, g28, iff.mpr q] at l1
    have l2 := eg259_151_106_1 (l1 (by decide) rfl).2
    rw [g30] at l2
    obtain ⟨_, u3, w3, a3, a4⟩ := l2 (by decide)
    obtain ⟨e3, W3, fr3, Z3, f313⟩ := ew_nxt hN hb hZ (by rw [← hC a, q]; decide) a3
    obtain ⟨_, hr, hW⟩ := eg259_151_117_0 (a4 e3 W3)
    injection hr with e4 e5
    have h353 : ec_fd w3 151 35 = (i : Int) := (fr3.2 35 (by decide) (by decide) (by decide) (by decide) (by decide) (by decide)).trans h35
    rw [ec_tw_fd, ec_fd_wr_o (by decide), h353] at e5 hW
    have F : ∀ g, ec_fd (ec_pf (ec_wr w3 170 (i : Int) x1) 151 35 ((i : Int) + 1)) 151 g = if g = 35 then ec_tw ((i : Int) + 1) else ec_fd w3 151 g := by
      intro g
      rw [ec_fd_pf (k := 151) (f := 35) (ec_W_wr W3) rfl (by decide)]
      by_cases q : g = 35
      · rw [if_pos q, if_pos q]
      · rw [if_neg q, if_neg q, ec_fd_wr_o (by decide)]
    have f2 : er_f2 w3 (ec_pf (ec_wr w3 170 (i : Int) x1) 151 35 ((i : Int) + 1)) := ⟨ef_s_trans (ef_s_wr (by decide)) (ef_s_pf (by decide)), fun f hf' => by rw [F f, if_neg (by omega)]⟩
    have Fo : ∀ g, g ≠ 35 → ec_fd (ec_pf (ec_wr w3 170 (i : Int) x1) 151 35 ((i : Int) + 1)) 151 g = ec_fd w3 151 g := fun g hg => by rw [F g, if_neg hg]
    have s5 : ef_s [151] (ec_wr w3 170 (i : Int) x1) (ec_pf (ec_wr w3 170 (i : Int) x1) 151 35 ((i : Int) + 1)) := ef_s_pf (by decide)
    rw [e5]
    refine ⟨e4, hW, er_f2_t (er_f2_of fr3) f2, fun _ => ⟨er_Z_2 Z3 f2 (er_At_s Z3.2.1 (Fo 26 (by decide)) (Fo 27 (by decide)) (Fo 28 (by decide)) (Fo 29 (by decide))) ((Fo 30 (by decide)).trans Z3.2.2), ?_, fun p => ?_, ?_, ?_, ?_, ?_, (Fo 31 (by decide)).trans f313⟩, fun z => absurd q z⟩
    · rw [F 35, if_pos rfl]
      exact ec_twn (n := i + 1) (by omega)
    · rw [ef_s_a s5 (by decide), ef_a_wr (n := 8) W3 rfl (by omega) (by omega), tx, ef_s_a fr3.1 (by decide)]
      unfold ef_u
      rw [Int.toNat_natCast]
    · rw [ef_s_a s5 (by decide), ef_a_wr_o (by decide), ef_s_a fr3.1 (by decide)]
    · rw [Fo 36 (by decide)]
      exact fr3.2 36 (by decide) (by decide) (by decide) (by decide) (by decide) (by decide)
    · rw [Fo 37 (by decide)]
      exact fr3.2 37 (by decide) (by decide) (by decide) (by decide) (by decide) (by decide)
    · rw [Fo 39 (by decide)]
      exact fr3.2 39 (by decide) (by decide) (by decide) (by decide) (by decide) (by decide)
  · have tt : ec_tw (er_tk t N (er_p t N a)) = er_tk t N (er_p t N a) := by
      rw [← g28]
      exact ec_tw_fd _ _ _
    have l1 := eg259_151_86_2 h
    rw [g30, g28, tt, t59] at l1
    obtain ⟨_, u3, w3, a3, a4⟩ := l1 (by decide) (fun z => q (iff.mp z))
    obtain ⟨e3, W3, fr3, f30, _⟩ := ew_wrg g30 a3
    have h303 : ec_fd w3 151 30 = (er_p t N a : Int) := f30.trans hZ.2.1.1
    have l2 := eg259_151_106_0 (a4 e3 W3)
    rw [ec_tw_fd, t0, h303] at l2
    have h117 := (l2 (by omega)).2
    obtain ⟨_, hr, hW⟩ := eg259_151_117_0 h117
    injection hr with e4 e5
    have F : ∀ g, ec_fd (ec_pf (ec_wr w3 170 (ec_tw (ec_fd w3 151 35)) x1) 151 35 (ec_fd (ec_wr w3 170 (ec_tw (ec_fd w3 151 35)) x1) 151 35 + 1)) 151 g = if g = 35 then ec_tw (ec_fd (ec_wr w3 170 (ec_tw (ec_fd w3 151 35)) x1) 151 35 + 1) else ec_fd w3 151 g := by
      intro g
      rw [ec_fd_pf (k := 151) (f := 35) (ec_W_wr W3) rfl (by decide)]
      by_cases q : g = 35
      · rw [if_pos q, if_pos q]
      · rw [if_neg q, if_neg q, ec_fd_wr_o (by decide)]
    rw [e5]
    exact ⟨e4, hW, er_f2_t (er_f2_of fr3) ⟨ef_s_trans (ef_s_wr (by decide)) (ef_s_pf (by decide)), fun f hf' => by rw [F f, if_neg (by omega)]⟩, fun z => absurd z q, fun _ => by rw [F 30, if_neg (by decide)]; exact h303⟩
theorem er_pf_Z {w : px_W} {f j : Nat} {x : Int} (hf : f = 36 ∨ f = 37 ∨ f = 39) (hW : ec_W hb_A w) (hZ : er_Z w t N H M j) : ec_W hb_A (ec_pf w 151 f x) ∧ er_f2 w (ec_pf w 151 f x) ∧ er_Z (ec_pf w 151 f x) t N H M j ∧ ∀ g, ec_fd (ec_pf w 151 f x) 151 g = if g = f then ec_tw x else ec_fd w 151 g := by
  have base : ec_W hb_A (ec_pf w 151 f x) ∧ ∀ g, ec_fd (ec_pf w 151 f x) 151 g = if g = f then ec_tw x else ec_fd w 151 g := by
    rcases hf with rfl | rfl | rfl
    · exact ⟨ec_W_pf (k := 151) (f := 36) rfl rfl hW, fun g => ec_fd_pf (k := 151) (f := 36) hW rfl (by decide)⟩
    · exact ⟨ec_W_pf (k := 151) (f := 37) rfl rfl hW, fun g => ec_fd_pf (k := 151) (f := 37) hW rfl (by decide)⟩
    · exact ⟨ec_W_pf (k := 151) (f := 39) rfl rfl hW, fun g => ec_fd_pf (k := 151) (f := 39) hW rfl (by decide)⟩
  have F := base.2
  have f2 : er_f2 w (ec_pf w 151 f x) := ⟨ef_s_pf (by decide), fun g hg => by rw [F g, if_neg (by omega)]⟩
  refine ⟨base.1, f2, er_Z_2 hZ f2 (er_At_s hZ.2.1 ?_ ?_ ?_ ?_) ?_, F⟩
  · rw [F 26, if_neg (by omega)]
  · rw [F 27, if_neg (by omega)]
  · rw [F 28, if_neg (by omega)]
  · rw [F 29, if_neg (by omega)]
  · rw [F 30, if_neg (by omega)]
    exact hZ.2.2
/-- a line more -/
theorem er_RS_s {w w1 : px_W} {ls : List er_L} {q : er_L} (hS : er_RS w ls) (h35 : ec_fd w1 151 35 = ((ls.length + 1 : Nat) : Int)) (h170 : ∀ p, ef_a w1 170 p = if p = ls.length then q.1 else ef_a w 170 p) (hse : ec_fd w1 151 36 = (if q.1 = 0 then (q.2.1, q.2.2.1) else er_se ls).1 ∧ ec_fd w1 151 37 = (if q.1 = 0 then (q.2.1, q.2.2.1) else er_se ls).2) (hrk : er_RK w1 (if q.1 = 1 then q.2.1 else er_rkl ls)) (hdc : ec_fd w1 151 39 = (if (er_dc ls || q.2.2.2.2) = true then 1 else 0)) : er_RS w1 (ls ++ [q]) := by
  have ll : (ls ++ [q]).length = ls.length + 1 := by
    rw [List.length_append]
    rfl
  refine ⟨⟨by rw [ll]; exact h35, fun i hi => ?_⟩, ?_, ?_, ?_⟩
  · rw [ll] at hi
    rw [h170 i, List.map_append, List.getD_eq_getElem?_getD]
    by_cases e : i = ls.length
    · rw [if_pos e, e, List.getElem?_append_right (by rw [List.length_map]; exact Nat.le_refl _), List.length_map, Nat.sub_self]
      rfl
    · rw [if_neg e, hS.1.2 i (by omega), List.getD_eq_getElem?_getD, List.getElem?_append_left (by rw [List.length_map]; omega)]
  · rw [er_se_s]
    exact hse
  · rw [er_rkl_s]
    exact hrk
  · rw [er_dc_s]
    exact hdc
theorem ew_lin {n j n0 : Nat} {ls : List er_L} {w w1 : px_W} {v : Option Value} (hN : N ≤ 200) (hb : ∀ i, i < N → 0 ≤ t i ∧ t i ≤ 255) (hC : ∀ j, C j = er_co t N (er_p t N j)) (hV : ∀ j, V j = er_va t N (er_p t N j)) (hs : C j = 310 ∨ C j = 312 ∨ C j = 314) (hl : ls.length < 8) (hZ : er_Z w t N H M j) (h31 : ec_fd w 151 31 = 0) (hS : er_RS w ls) (h : ec_E hb_X n 259 0 [(0, .inr (.inl 215))] [] w (v, w1)) : v = none ∧ ec_W hb_A w1 ∧ er_f2 w w1 ∧ (match er_li C V H M n0 j with
    | (a, none) => ec_fd w1 151 30 = (er_p t N a : Int)
    | (a, some q) => er_Z w1 t N H M a ∧ er_RS w1 (ls ++ [q]) ∧ ec_fd w1 151 31 = 0) := by
  have t0 : ec_tw 0 = 0 := rfl
  have t1 : ec_tw 1 = 1 := rfl
  have t2 : ec_tw 2 = 2 := rfl
  obtain ⟨_, u2, w2, a1, a2⟩ := eg259_151_0_0 h
  obtain ⟨e2, W2, fr2, Z2, f312⟩ := ew_nxt hN hb hZ (by rw [← hC j]; omega) a1
  have b := a2 e2 W2
  have keep : ∀ {x y : px_W}, er_fr x y → ec_fd y 151 35 = ec_fd x 151 35 ∧ ec_fd y 151 36 = ec_fd x 151 36 ∧ ec_fd y 151 37 = ec_fd x 151 37 ∧ ec_fd y 151 39 = ec_fd x 151 39 ∧ ef_a y 170 = ef_a x 170 ∧ ef_a y 171 = ef_a x 171 := fun hf => ⟨hf.2 35 (by decide) (by decide) (by decide) (by decide) (by decide) (by decide), hf.2 36 (by decide) (by decide) (by decide) (by decide) (by decide) (by decide), hf.2 37 (by decide) (by decide) (by decide) (by decide) (by decide) (by decide), hf.2 39 (by decide) (by decide) (by decide) (by decide) (by decide) (by decide), ef_s_a hf.1 (by decide), ef_s_a hf.1 (by decide)⟩
  obtain ⟨k35, k36, k37, k39, k170, k171⟩ := keep fr2
  -- a FAULT at token a: the rest goes by
  have flt : ∀ (a : Nat) (y : px_W) (x : Int), er_f2 w y → ec_fd y 151 30 = (er_p t N a : Int) → ec_E hb_X n 259 86 [(0, .inr (.inl 215)), (1, .inl x)] [] y (v, w1) → v = none ∧ ec_W hb_A w1 ∧ er_f2 w w1 ∧ ec_fd w1 151 30 = (er_p t N a : Int) := by
    intro a y x hf h30 h86
    obtain ⟨e, W, f2, f30⟩ := ew_l86F (by rw [h30]; omega) h86
    exact ⟨e, W, er_f2_t hf f2, f30.trans h30⟩
  rcases hs with q0 | q0 | q0
  · -- seats
    have tw := (er_tk_w (i := er_p t N j) hb (k := 0) (by decide)).mpr (by rw [← hC j]; exact q0)
    have g29 : ec_fd w 151 29 = 0 := (hZ.2.1.2.2.2 (.inl tw.1)).trans tw.2
    rw [g29] at b
    obtain ⟨_, u3, w3, a3, a4⟩ := eg259_151_9_2 b rfl
    obtain ⟨x, e3, W3, fr3, f313, hy, hn⟩ := ew_num hN hb (Int.le_refl 0) rfl Z2 a3
    rw [← hC (j + 1), ← hV (j + 1)] at hy hn
    obtain ⟨_, u4, w4, a5, a6⟩ := eg259_151_19_0 (a4 _ e3 W3)
    have W3p : ec_W hb_A (ec_pf w3 151 36 x) := a5.1
    have F3 : ∀ g, ec_fd (ec_pf w3 151 36 x) 151 g = if g = 36 then ec_tw x else ec_fd w3 151 g := fun g => ec_fd_pf (k := 151) (f := 36) W3 rfl (by decide)
    have f23 : er_f2 w3 (ec_pf w3 151 36 x) := ⟨ef_s_pf (by decide), fun g hg => by rw [F3 g, if_neg (by omega)]⟩
    have f2w3 : er_f2 w (ec_pf w3 151 36 x) := er_f2_t (er_f2_of fr2) (er_f2_t (er_f2_of fr3) f23)
    have eli : er_li C V H M n0 j = (if C (j + 1) = 301 ∧ 0 ≤ V (j + 1) then (if C (j + 2) = 311 then (if C (j + 3) = 301 ∧ 1 ≤ V (j + 3) then (if C (j + 4) = 59 then (j + 5, some (0, V (j + 1), V (j + 3), [], false)) else (j + 4, none)) else (j + 3, none)) else (j + 2, none)) else (j + 1, none)) := by
      unfold er_li
      rw [if_pos q0]
    rw [eli]
    -- the rest behind a FAULT
    have rest : ∀ (a : Nat) (y : px_W) (u : Option Value) (y4 : px_W), er_f2 w y → ec_fd y 151 30 = (er_p t N a : Int) → ec_E hb_X n 253 0 [(0, .inr (.inl 215)), (1, .inl 3)] [] y (u, y4) → (u = none → ec_W hb_A y4 → ec_E hb_X n 259 27 [(0, .inr (.inl 215)), (1, .inl 0)] [] y4 (v, w1)) → v = none ∧ ec_W hb_A w1 ∧ er_f2 w w1 ∧ ec_fd w1 151 30 = (er_p t N a : Int) := by
      intro a y u y4 hf h30 h253 hc
      obtain ⟨e4, W4, fr4, f304⟩ := ew_tkF (by rw [h30]; omega) h253
      obtain ⟨_, u5, y5, c1, c2⟩ := eg259_151_27_0 (hc e4 W4)
      obtain ⟨z, e5, W5, fr5, f305⟩ := ew_nmF (by rw [f304, h30]; omega) c1
      have h86 := (eg259_151_33_0 (c2 _ e5 W5)).2
      have F5 : ∀ g, ec_fd (ec_pf y5 151 37 z) 151 g = if g = 37 then ec_tw z else ec_fd y5 151 g := fun g => ec_fd_pf (k := 151) (f := 37) W5 rfl (by decide)
      refine flt a _ _ (er_f2_t hf (er_f2_t (er_f2_of fr4) (er_f2_t (er_f2_of fr5) ⟨ef_s_pf (by decide), fun g hg => by rw [F5 g, if_neg (by omega)]⟩))) ?_ h86
      rw [F5 30, if_neg (by decide), f305, f304]
      exact h30
    by_cases q1 : C (j + 1) = 301 ∧ 0 ≤ V (j + 1)
    · rw [if_pos q1]
      obtain ⟨ex, Z3⟩ := hy q1
      obtain ⟨_, _, Z3p, _⟩ := er_pf_Z (f := 36) (x := x) (.inl rfl) W3 Z3
      obtain ⟨e4, W4, fr4, ty, tn, f314⟩ := ew_tks (k := 3) hN hb hC (by decide) Z3p a5
      have c3 : er_cc 3 = 311 := rfl
      rw [c3] at ty tn
      obtain ⟨_, u5, w5, a7, a8⟩ := eg259_151_27_0 (a6 e4 W4)
      by_cases q2 : C (j + 2) = 311
      · rw [if_pos q2]
        have Z4 := ty q2
        obtain ⟨y, e5, W5, fr5, f315, hy5, hn5⟩ := ew_num hN hb (z := 1) (by decide) rfl Z4 a7
        rw [← hC (j + 2 + 1), ← hV (j + 2 + 1)] at hy5 hn5
        have h86 := (eg259_151_33_0 (a8 _ e5 W5)).2
        by_cases q3 : C (j + 3) = 301 ∧ 1 ≤ V (j + 3)
        · rw [if_pos q3]
          obtain ⟨ey, Z5⟩ := hy5 q3
          obtain ⟨_, f2p, Z5p, F5⟩ := er_pf_Z (f := 37) (x := y) (.inr (.inl rfl)) W5 Z5
          obtain ⟨m35, m36, m37, m39, m170, m171⟩ := keep fr3
          obtain ⟨r35, r36, r37, r39, r170, r171⟩ := keep fr4
          obtain ⟨s35, s36, s37, s39, s170, s171⟩ := keep fr5
          have g35 : ec_fd (ec_pf w5 151 37 y) 151 35 = (ls.length : Int) := by
            rw [F5 35, if_neg (by decide), s35, r35, F3 35, if_neg (by decide), m35, k35]
            exact hS.1.1
          obtain ⟨z1, z2, z3, z4, z5⟩ := ew_l86 hN hb hC t0 Z5p g35 hl h86
          have f2all : er_f2 w (ec_pf w5 151 37 y) := er_f2_t f2w3 (er_f2_t (er_f2_of fr4) (er_f2_t (er_f2_of fr5) f2p))
          by_cases q4 : C (j + 4) = 59
          · rw [if_pos q4]
            obtain ⟨y1, y2, y3, y4, y5, y6, y7, y8⟩ := z4 q4
            have tV1 : ec_tw (V (j + 1)) = V (j + 1) := by
              have tk3 := (er_tk_n (i := er_p t N (j + 1)) hb (Int.le_refl 0)).mpr ⟨by rw [← hC (j + 1)]; exact q1.1, by rw [← hV (j + 1)]; exact q1.2⟩
              rw [hV (j + 1), ← er_tt_v hb tk3.1, ← Z2.2.1.2.2.2 (.inr tk3.1)]
              exact ec_tw_fd _ _ _
            have tV3 : ec_tw (V (j + 3)) = V (j + 3) := by
              have tk3 := (er_tk_n (i := er_p t N (j + 3)) hb (z := 1) (by decide)).mpr ⟨by rw [← hC (j + 3)]; exact q3.1, by rw [← hV (j + 3)]; exact q3.2⟩
              rw [hV (j + 3), ← er_tt_v hb tk3.1, ← Z4.2.1.2.2.2 (.inr tk3.1)]
              exact ec_tw_fd _ _ _
            refine ⟨z1, z2, er_f2_t f2all z3, y1, er_RS_s hS y2 (fun p => ?_) ⟨?_, ?_⟩ ?_ ?_, ?_⟩
            · rw [y3 p, ef_s_a (ef_s_pf (S := [151]) List.mem_cons_self) (by decide), s170, r170, ef_s_a (ef_s_pf (S := [151]) List.mem_cons_self) (by decide), m170, k170]
            · rw [y5, F5 36, if_neg (by decide), s36, r36, F3 36, if_pos rfl, ex]
              exact tV1
            · rw [y6, F5 37, if_pos rfl, ey]
              exact tV3
            · have e171 : ef_a w1 171 = ef_a w 171 := by
                rw [y4, ef_s_a (ef_s_pf (S := [151]) List.mem_cons_self) (by decide), s171, r171, ef_s_a (ef_s_pf (S := [151]) List.mem_cons_self) (by decide), m171, k171]
              have hrk := hS.2.2.1
              unfold er_RK at hrk ⊢
              rw [e171]
              exact hrk
            · rw [y7, F5 39, if_neg (by decide), s39, r39, F3 39, if_neg (by decide), m39, k39, hS.2.2.2, Bool.or_false]
            · rw [y8, F5 31, if_neg (by decide), f315]
              rw [f314, F3 31, if_neg (by decide), f313, f312]
              exact h31
          · rw [if_neg q4]
            exact ⟨z1, z2, er_f2_t f2all z3, z5 q4⟩
        · rw [if_neg q3]
          have h30 := hn5 q3
          have F5 : ∀ g, ec_fd (ec_pf w5 151 37 y) 151 g = if g = 37 then ec_tw y else ec_fd w5 151 g := fun g => ec_fd_pf (k := 151) (f := 37) W5 rfl (by decide)
          exact flt (j + 3) _ _ (er_f2_t f2w3 (er_f2_t (er_f2_of fr4) (er_f2_t (er_f2_of fr5) ⟨ef_s_pf (by decide), fun g hg => by rw [F5 g, if_neg (by omega)]⟩))) (by rw [F5 30, if_neg (by decide)]; exact h30) h86
      · rw [if_neg q2]
        have h30 := tn q2
        obtain ⟨z, e5, W5, fr5, f305⟩ := ew_nmF (by rw [h30]; omega) a7
        have h86 := (eg259_151_33_0 (a8 _ e5 W5)).2
        have F5 : ∀ g, ec_fd (ec_pf w5 151 37 z) 151 g = if g = 37 then ec_tw z else ec_fd w5 151 g := fun g => ec_fd_pf (k := 151) (f := 37) W5 rfl (by decide)
        exact flt (j + 2) _ _ (er_f2_t f2w3 (er_f2_t (er_f2_of fr4) (er_f2_t (er_f2_of fr5) ⟨ef_s_pf (by decide), fun g hg => by rw [F5 g, if_neg (by omega)]⟩))) (by rw [F5 30, if_neg (by decide), f305]; exact h30) h86
    · rw [if_neg q1]
      have h30 := hn q1
      exact rest (j + 1) _ u4 w4 f2w3 (by rw [F3 30, if_neg (by decide)]; exact h30) a5 a6
  · -- first
    have tw := (er_tk_w (i := er_p t N j) hb (k := 1) (by decide)).mpr (by rw [← hC j]; exact q0)
    have g29 : ec_fd w 151 29 = 1 := (hZ.2.1.2.2.2 (.inl tw.1)).trans tw.2
    rw [g29] at b
    obtain ⟨_, u3, w3, a3, a4⟩ := eg259_151_9_1 b (by decide) rfl
    obtain ⟨e3, W3, f23, fo3, e170, m3⟩ := ew_fst hN hb hC Z2 a3
    have h86 := (eg259_151_48_0 (a4 e3 W3)).2
    have eli : er_li C V H M n0 j = (match er_fi C 4 0 0 999 (j + 1) with
      | (a, none) => (a, none)
      | (a, some rk) => if C a = 59 then (a + 1, some (1, rk, 0, [], false)) else (a, none)) := by
      unfold er_li
      rw [if_neg (by omega), if_pos q0]
      rfl
    rw [eli]
    have f2w3 : er_f2 w w3 := er_f2_t (er_f2_of fr2) f23
    cases e : er_fi C 4 0 0 999 (j + 1) with
    | mk a s =>
      rw [e] at m3
      cases s with
      | none => exact flt a _ _ f2w3 m3 h86
      | some x =>
        obtain ⟨Z3, R3⟩ : er_Z w3 t N H M a ∧ er_RK w3 x := m3
        have g35 : ec_fd w3 151 35 = (ls.length : Int) := by
          rw [fo3 35 (by decide), k35]
          exact hS.1.1
        obtain ⟨z1, z2, z3, z4, z5⟩ := ew_l86 hN hb hC t1 Z3 g35 hl h86
        dsimp only
        by_cases q4 : C a = 59
        · rw [if_pos q4]
          obtain ⟨y1, y2, y3, y4, y5, y6, y7, y8⟩ := z4 q4
          refine ⟨z1, z2, er_f2_t f2w3 z3, y1, er_RS_s hS y2 (fun p => ?_) ⟨?_, ?_⟩ ?_ ?_, ?_⟩
          · rw [y3 p, e170, k170]
          · rw [y5, fo3 36 (by decide), k36]
            exact hS.2.1.1
          · rw [y6, fo3 37 (by decide), k37]
            exact hS.2.1.2
          · show er_RK w1 x
            unfold er_RK at R3 ⊢
            rw [y4]
            exact R3
          · rw [y7, fo3 39 (by decide), k39, hS.2.2.2, Bool.or_false]
          · rw [y8, fo3 31 (by decide), f312]
            exact h31
        · rw [if_neg q4]
          exact ⟨z1, z2, er_f2_t f2w3 z3, z5 q4⟩
  · -- come
    have tw := (er_tk_w (i := er_p t N j) hb (k := 2) (by decide)).mpr (by rw [← hC j]; exact q0)
    have g29 : ec_fd w 151 29 = 2 := (hZ.2.1.2.2.2 (.inl tw.1)).trans tw.2
    rw [g29] at b
    obtain ⟨_, u3, w3, a3, a4⟩ := eg259_151_9_0 b (by decide) (by decide)
    obtain ⟨e3, W3, fr3, ty, tn, f313⟩ := ew_tks (k := 5) hN hb hC (by decide) Z2 a3
    have c5 : er_cc 5 = 315 := rfl
    rw [c5] at ty tn
    obtain ⟨_, u4, w4, a5, a6⟩ := eg259_151_56_0 (a4 e3 W3)
    have eli : er_li C V H M n0 j = (if C (j + 1) = 315 then (match er_cd C V H M 4 (j + 2) with
      | (a, none) => (a, none)
      | (a, some q) => if C a = 59 then (a + 1, some ((2 : Int), (n0 : Int), ((n0 + q.1.length : Nat) : Int), q.1, q.2)) else (a, none)) else (j + 1, none)) := by
      unfold er_li
      rw [if_neg (by omega), if_neg (by omega), if_pos q0]
      rfl
    rw [eli]
    have F : ∀ (y : px_W) (x : Int), ec_W hb_A y → ∀ g, ec_fd (ec_pf y 151 39 x) 151 g = if g = 39 then ec_tw x else ec_fd y 151 g := fun y x hW g => ec_fd_pf (k := 151) (f := 39) hW rfl (by decide)
    by_cases q1 : C (j + 1) = 315
    · rw [if_pos q1]
      have Z3 := ty q1
      have op : ec_fd w3 151 31 = 4 - ((4 : Nat) : Int) := by
        rw [f313, f312]
        exact h31
      obtain ⟨z4, e4, W4, fr4, f314, m4⟩ := ew_cdl (H := H) (M := M) hN hb hC hV 4 (Nat.le_refl _) n (j + 2) w3 w4 u4 Z3 op a5
      have b4 := a6 _ e4 W4
      have fall : er_fr w w4 := er_fr_t fr2 (er_fr_t fr3 fr4)
      cases e : er_cd C V H M 4 (j + 2) with
      | mk a s =>
        rw [e] at m4
        cases s with
        | none =>
          have h30 : ec_fd w4 151 30 = (er_p t N a : Int) := m4
          have l := eg259_151_60_0 b4
          rw [ec_tw_fd, t0, h30] at l
          have h86 := (eg259_151_82_0 (eg259_151_81_0 (l (by omega)).2).2).2
          exact flt a _ _ (er_f2_t (er_f2_of fall) ⟨ef_s_pf (by decide), fun g hg => by rw [F _ _ W4 g, if_neg (by omega)]⟩) (by rw [F _ _ W4 30, if_neg (by decide)]; exact h30) h86
        | some q =>
          obtain ⟨Z4, ez⟩ : er_Z w4 t N H M a ∧ z4 = (if q.2 = true then 1 else 0) := m4
          have g30 := Z4.2.2
          obtain ⟨s35, s36, s37, s39, s170, s171⟩ := keep fall
          have h86 : ec_E hb_X n 259 86 [(0, .inr (.inl 215)), (1, .inl 2)] [] (ec_pf w4 151 39 (ec_or (ec_fd w4 151 39) (if q.2 = true then 1 else 0))) (v, w1) := by
            cases hq : q.2 with
            | false =>
              rw [ez, hq] at b4
              have l := eg259_151_60_1 b4
              rw [g30] at l
              exact (eg259_151_82_0 (eg259_151_81_0 (l (by decide) rfl).2).2).2
            | true =>
              rw [ez, hq] at b4
              have l := eg259_151_60_2 b4
              rw [g30] at l
              exact (eg259_151_82_0 (l (by decide) (by decide)).2).2
          rw [s39, hS.2.2.2, er_or1] at h86
          obtain ⟨_, f2p, Z4p, F4⟩ := er_pf_Z (f := 39) (x := if or (er_dc ls) q.2 = true then 1 else 0) (.inr (.inr rfl)) W4 Z4
          have g35 : ec_fd (ec_pf w4 151 39 (if or (er_dc ls) q.2 = true then 1 else 0)) 151 35 = (ls.length : Int) := by
            rw [F4 35, if_neg (by decide), s35]
            exact hS.1.1
          obtain ⟨z1, z2, z3, z4', z5⟩ := ew_l86 hN hb hC t2 Z4p g35 hl h86
          have f2all : er_f2 w (ec_pf w4 151 39 (if or (er_dc ls) q.2 = true then 1 else 0)) := er_f2_t (er_f2_of fall) f2p
          dsimp only
          by_cases q4 : C a = 59
          · rw [if_pos q4]
            obtain ⟨y1, y2, y3, y4, y5, y6, y7, y8⟩ := z4' q4
            refine ⟨z1, z2, er_f2_t f2all z3, y1, er_RS_s hS y2 (fun p => ?_) ⟨?_, ?_⟩ ?_ ?_, ?_⟩
            · rw [y3 p, ef_s_a (ef_s_pf (S := [151]) List.mem_cons_self) (by decide), s170]
            · rw [y5, F4 36, if_neg (by decide), s36]
              exact hS.2.1.1
            · rw [y6, F4 37, if_neg (by decide), s37]
              exact hS.2.1.2
            · have e171 : ef_a w1 171 = ef_a w 171 := by
                rw [y4, ef_s_a (ef_s_pf (S := [151]) List.mem_cons_self) (by decide), s171]
              have hrk := hS.2.2.1
              show er_RK w1 (er_rkl ls)
              unfold er_RK at hrk ⊢
              rw [e171]
              exact hrk
            · rw [y7, F4 39, if_pos rfl]
              cases or (er_dc ls) q.2 <;> rfl
            · rw [y8, F4 31, if_neg (by decide), f314, f313, f312]
              exact h31
          · rw [if_neg q4]
            exact ⟨z1, z2, er_f2_t f2all z3, z5 q4⟩
    · rw [if_neg q1]
      have h30 := tn q1
      obtain ⟨z4, e4, W4, fr4, f304, f314⟩ := ew_cdF (by rw [h30]; omega) a5
      have l := eg259_151_60_0 (a6 _ e4 W4)
      have h304 : ec_fd w4 151 30 = (er_p t N (j + 1) : Int) := f304.trans h30
      rw [ec_tw_fd, t0, h304] at l
      have h86 := (eg259_151_82_0 (eg259_151_81_0 (l (by omega)).2).2).2
      exact flt (j + 1) _ _ (er_f2_t (er_f2_of (er_fr_t fr2 (er_fr_t fr3 fr4))) ⟨ef_s_pf (by decide), fun g hg => by rw [F _ _ W4 g, if_neg (by omega)]⟩) (by rw [F _ _ W4 30, if_neg (by decide)]; exact h304) h86
end ER12

end
