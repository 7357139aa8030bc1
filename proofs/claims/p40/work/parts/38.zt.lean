noncomputable section
/-! RULES: the class reads a LINE -/
/-- as the class keeps them: steps beyond 64 are not kept -/
def er_o1 (q : er_L) : Int := if q.1 = 2 then min 64 q.2.1 else q.2.1
def er_o2 (q : er_L) : Int := if q.1 = 2 then min 64 q.2.2.1 else q.2.2.1
/-- the lines of slot c -/
def er_KL (w : px_W) (c : Nat) (ls : List er_L) : Prop := ef_a w 46 c = (ls.length : Int) ∧ ∀ i, i < ls.length → ef_a w 47 (c * 8 + i) = (ls.map (fun q => q.1)).getD i 0 ∧ ef_a w 48 (c * 8 + i) = (ls.map er_o1).getD i 0 ∧ ef_a w 49 (c * 8 + i) = (ls.map er_o2).getD i 0
/-- what may change while a TEXT is read into slot c -/
def er_k2 (c : Nat) (w w' : px_W) : Prop := ef_s [137, 46, 47, 48, 49, 50, 51] w w' ∧ (∀ f, f ≠ 6 → f ≠ 7 → ec_fd w' 137 f = ec_fd w 137 f) ∧ (∀ v, v ≠ c → ef_a w' 51 v = ef_a w 51 v ∧ ef_a w' 46 v = ef_a w 46 v) ∧ (∀ i, (i < c * 64 ∨ c * 64 + 64 ≤ i) → ef_a w' 50 i = ef_a w 50 i) ∧ ∀ i, (i < c * 8 ∨ c * 8 + 8 ≤ i) → ef_a w' 47 i = ef_a w 47 i ∧ ef_a w' 48 i = ef_a w 48 i ∧ ef_a w' 49 i = ef_a w 49 i
theorem er_k2_r {c : Nat} {w : px_W} : er_k2 c w w := ⟨ef_s_refl, fun _ _ _ => rfl, fun _ _ => ⟨rfl, rfl⟩, fun _ _ => rfl, fun _ _ => ⟨rfl, rfl, rfl⟩⟩
theorem er_k2_t {c : Nat} {w w1 w2 : px_W} (h1 : er_k2 c w w1) (h2 : er_k2 c w1 w2) : er_k2 c w w2 := by
  refine ⟨ef_s_trans h1.1 h2.1, fun f a b => (h2.2.1 f a b).trans (h1.2.1 f a b), fun v a => ⟨(h2.2.2.1 v a).1.trans (h1.2.2.1 v a).1, (h2.2.2.1 v a).2.trans (h1.2.2.1 v a).2⟩, fun i a => (h2.2.2.2.1 i a).trans (h1.2.2.2.1 i a), fun i a => ?_⟩
  obtain ⟨p1, p2, p3⟩ := h1.2.2.2.2 i a
  obtain ⟨r1, r2, r3⟩ := h2.2.2.2.2 i a
  exact ⟨r1.trans p1, r2.trans p2, r3.trans p3⟩
theorem er_k2_of {c : Nat} {w w' : px_W} (h : er_kf c w w') : er_k2 c w w' := ⟨ef_s_mono h.1 (by decide), h.2.1, fun v a => ⟨h.2.2.1 v a, congrFun (ef_s_a h.1 (by decide)) v⟩, h.2.2.2, fun i _ => ⟨congrFun (ef_s_a h.1 (by decide)) i, congrFun (ef_s_a h.1 (by decide)) i, congrFun (ef_s_a h.1 (by decide)) i⟩⟩
theorem er_KL_s {w w' : px_W} {c : Nat} {ls : List er_L} (h : er_KL w c ls) (hf : ef_s [137, 50, 51] w w') : er_KL w' c ls := by
  unfold er_KL
  rw [ef_s_a hf (by decide), ef_s_a hf (by decide), ef_s_a hf (by decide), ef_s_a hf (by decide)]
  exact h
section ER14
variable {C V : Nat → Int} {P : Nat → Nat} {J c : Nat} {H : Bool} {M : Nat → Int}
theorem ew_aln {n j : Nat} {L : List Int} {ls : List er_L} {q : er_L} {w w1 : px_W} {v : Option Value} {x1 x2 x3 : Int} (hc6 : c ≤ 6) (hl : ls.length < 8) (hK : er_K w C V P J c L j) (hS : er_KL w c ls) (e1 : ec_tw x1 = q.1) (e2 : ec_tw x2 = er_o1 q) (e3 : ec_tw x3 = er_o2 q) (h : ec_E hb_X n 77 0 [(0, .inr (.inl 108)), (1, .inl x1), (2, .inl x2), (3, .inl x3)] [] w (v, w1)) : v = none ∧ ec_W hb_A w1 ∧ er_k2 c w w1 ∧ er_K w1 C V P J c L j ∧ er_KL w1 c (ls ++ [q]) := by
  have hW := h.1
  have tc : ec_tw (ec_fd w 44 0) = (c : Int) := by
    rw [ec_tw_fd]
    exact hK.1.2
  have t8 : ec_tw 8 = 8 := rfl
  have r46 : ec_rd w 46 (c : Int) = (ls.length : Int) := hS.1
  have k1 := eg77_44_0_1 h
  have g1 : ∀ (w : px_W) (i z : Int), ec_fd (ec_wr w 47 i z) 44 0 = ec_fd w 44 0 := fun _ _ _ => ec_fd_wr_o (by decide)
  have g2 : ∀ (w : px_W) (i z : Int), ec_fd (ec_wr w 48 i z) 44 0 = ec_fd w 44 0 := fun _ _ _ => ec_fd_wr_o (by decide)
  have g3 : ∀ (w : px_W) (i z : Int), ec_fd (ec_wr w 49 i z) 44 0 = ec_fd w 44 0 := fun _ _ _ => ec_fd_wr_o (by decide)
  have m1 : ∀ (w : px_W) (i z y : Int), ec_rd (ec_wr w 47 i z) 46 y = ec_rd w 46 y := fun _ _ _ _ => ec_rd_wr_o (by decide)
  have m2 : ∀ (w : px_W) (i z y : Int), ec_rd (ec_wr w 48 i z) 46 y = ec_rd w 46 y := fun _ _ _ _ => ec_rd_wr_o (by decide)
  have m3 : ∀ (w : px_W) (i z y : Int), ec_rd (ec_wr w 49 i z) 46 y = ec_rd w 46 y := fun _ _ _ _ => ec_rd_wr_o (by decide)
  have ep : ec_fd w 44 0 * 8 + (ls.length : Int) = ((c * 8 + ls.length : Nat) : Int) := by
    rw [hK.1.2]
    omega
  simp only [g1, g2, g3, m1, m2, m3, tc, r46, t8, ep] at k1
  rw [ec_twn (n := ls.length) (by omega), ec_twn (n := c * 8 + ls.length) (by omega)] at k1
  obtain ⟨_, hr, hW'⟩ := k1 (by omega)
  injection hr with f1 f2
  obtain ⟨p, hp⟩ : ∃ p, c * 8 + ls.length = p := ⟨_, rfl⟩
  rw [hp] at f2 hW'
  have Wa : ec_W hb_A (ec_wr w 47 (p : Int) x1) := ec_W_wr hW
  have Wb : ec_W hb_A (ec_wr (ec_wr w 47 (p : Int) x1) 48 (p : Int) x2) := ec_W_wr Wa
  have Wc : ec_W hb_A (ec_wr (ec_wr (ec_wr w 47 (p : Int) x1) 48 (p : Int) x2) 49 (p : Int) x3) := ec_W_wr Wb
  obtain ⟨y, hy⟩ : ∃ y, y = ec_wr (ec_wr (ec_wr (ec_wr w 47 (p : Int) x1) 48 (p : Int) x2) 49 (p : Int) x3) 46 (c : Int) ((ls.length : Int) + 1) := ⟨_, rfl⟩
  have sy : ef_s [46, 47, 48, 49] w y := by
    rw [hy]
    exact ef_s_trans (ef_s_trans (ef_s_trans (ef_s_wr (by decide)) (ef_s_wr (by decide))) (ef_s_wr (by decide))) (ef_s_wr (by decide))
  have r47 : ∀ i, ef_a y 47 i = if i = p then q.1 else ef_a w 47 i := by
    intro i
    rw [hy, ef_a_wr_o (by decide), ef_a_wr_o (by decide), ef_a_wr_o (by decide), ef_a_wr (n := 56) hW rfl (by omega) (by omega), e1]
    unfold ef_u
    rw [Int.toNat_natCast]
  have r48 : ∀ i, ef_a y 48 i = if i = p then er_o1 q else ef_a w 48 i := by
    intro i
    rw [hy, ef_a_wr_o (by decide), ef_a_wr_o (by decide), ef_a_wr (n := 56) Wa rfl (by omega) (by omega), e2, ef_a_wr_o (by decide)]
    unfold ef_u
    rw [Int.toNat_natCast]
  have r49 : ∀ i, ef_a y 49 i = if i = p then er_o2 q else ef_a w 49 i := by
    intro i
    rw [hy, ef_a_wr_o (by decide), ef_a_wr (n := 56) Wb rfl (by omega) (by omega), e3, ef_a_wr_o (by decide), ef_a_wr_o (by decide)]
    unfold ef_u
    rw [Int.toNat_natCast]
  have r46' : ∀ i, ef_a y 46 i = if i = c then ((ls.length + 1 : Nat) : Int) else ef_a w 46 i := by
    intro i
    have ev : ec_tw ((ls.length : Int) + 1) = ((ls.length + 1 : Nat) : Int) := ec_twn (n := ls.length + 1) (by omega)
    rw [hy, ef_a_wr (n := 7) Wc rfl (by omega) (by omega), ev, ef_a_wr_o (by decide), ef_a_wr_o (by decide), ef_a_wr_o (by decide)]
    unfold ef_u
    rw [Int.toNat_natCast]
  rw [← hy] at f2 hW'
  rw [f2]
  have ll : (ls ++ [q]).length = ls.length + 1 := by
    rw [List.length_append]
    rfl
  have gd : ∀ {α : Type} (g : er_L → α) (d : α) (i : Nat), i < ls.length + 1 → ((ls ++ [q]).map g).getD i d = if i = ls.length then g q else (ls.map g).getD i d := by
    intro α g d i hi
    rw [List.map_append, List.getD_eq_getElem?_getD]
    by_cases e : i = ls.length
    · rw [if_pos e, e, List.getElem?_append_right (by rw [List.length_map]; exact Nat.le_refl _), List.length_map, Nat.sub_self]
      rfl
    · rw [if_neg e, List.getElem?_append_left (by rw [List.length_map]; omega), List.getD_eq_getElem?_getD]
  refine ⟨f1, hW', ⟨ef_s_mono sy (by decide), fun f _ _ => ef_s_f sy (by decide) f, fun v hv => ⟨congrFun (ef_s_a sy (by decide)) v, by rw [r46' v, if_neg hv]⟩, fun i _ => congrFun (ef_s_a sy (by decide)) i, fun i hi => ⟨by rw [r47 i, if_neg (by omega)], by rw [r48 i, if_neg (by omega)], by rw [r49 i, if_neg (by omega)]⟩⟩, ⟨⟨fun j hj => ?_, (ef_s_f sy (by decide) 0).trans hK.1.2⟩, (ef_s_f sy (by decide) 6).trans hK.2.1, hK.2.2.1, (ef_s_f sy (by decide) 7).trans hK.2.2.2.1, ?_⟩, by rw [r46' c, if_pos rfl, ll], fun i hi => ?_⟩
  · rw [ef_s_a sy (by decide), ef_s_a sy (by decide), ef_s_a sy (by decide)]
    exact hK.1.1 j hj
  · unfold er_Cs
    rw [ef_s_a sy (by decide), ef_s_a sy (by decide)]
    exact hK.2.2.2.2
  · rw [ll] at hi
    rw [gd (fun q => q.1) 0 i hi, gd er_o1 0 i hi, gd er_o2 0 i hi, r47, r48, r49]
    by_cases e : i = ls.length
    · have e' : c * 8 + i = p := by omega
      rw [if_pos e', if_pos e', if_pos e', if_pos e, if_pos e, if_pos e]
      exact ⟨rfl, rfl, rfl⟩
    · have e' : ¬ c * 8 + i = p := by omega
      rw [if_neg e', if_neg e', if_neg e', if_neg e, if_neg e, if_neg e]
      exact hS.2 i (by omega)
/-- seats -/
theorem ew_rse {n j n0 : Nat} {L : List Int} {ls : List er_L} {w w1 : px_W} {v : Option Value} (hJ2 : J ≤ 200) (hJ : C J = 300) (hc6 : c ≤ 6) (hVr : ∀ j, -100000 ≤ V j ∧ V j ≤ 100000) (hs : C j = 310) (hl : ls.length < 8) (hK : er_K w C V P J c L j) (hS : er_KL w c ls) (h : ec_E hb_X n 64 0 [(0, .inr (.inl 201)), (1, .inr (.inl 108))] [] w (v, w1)) : v = none ∧ ec_W hb_A w1 ∧ er_k2 c w w1 ∧ (match er_li C V H M n0 j with
    | (a, none) => ec_fd w1 137 7 = (P a : Int)
    | (a, some q) => er_K w1 C V P J c (L ++ q.2.2.2.1) a ∧ er_KL w1 c (ls ++ [q])) := by
  have tm : ec_tw (-1) = -1 := rfl
  have eli : er_li C V H M n0 j = (if C (j + 1) = 301 ∧ 0 ≤ V (j + 1) then (if C (j + 2) = 311 then (if C (j + 3) = 301 ∧ 1 ≤ V (j + 3) then (if C (j + 4) = 59 then (j + 5, some (0, V (j + 1), V (j + 3), [], false)) else (j + 4, none)) else (j + 3, none)) else (j + 2, none)) else (j + 1, none)) := by
    unfold er_li
    rw [if_pos hs]
  rw [eli]
  obtain ⟨Wa, kfa, Ka⟩ := ew_adv hJ2 hJ h.1 hK (by rw [hs]; decide)
  obtain ⟨_, u2, w2, a1, a2⟩ := eg64_137_0_0 h
  obtain ⟨x, e2, W2, kf2, hy, hn⟩ := ew_tnm hJ2 hJ Ka (z := 0) rfl a1
  have b2 := a2 _ e2 W2
  have v1 := hVr (j + 1)
  have v3 := hVr (j + 3)
  by_cases q1 : C (j + 1) = 301 ∧ 0 ≤ V (j + 1)
  · rw [if_pos q1]
    obtain ⟨ex, K2⟩ := hy q1
    rw [ex] at b2
    have tV1 : ec_tw (V (j + 1)) = V (j + 1) := ec_tw_id (by omega) (by omega)
    have l2 := eg64_137_15_1 b2
    rw [tV1, tm] at l2
    obtain ⟨_, u3, w3, a3, a4⟩ := l2 (by omega)
    obtain ⟨z3, e3, W3, kf3, ty, tn⟩ := ew_tkn hJ2 hJ K2 (x := 311) rfl (by decide) a3
    have b3 := a4 _ e3 W3
    by_cases q2 : C (j + 2) = 311
    · rw [if_pos q2]
      obtain ⟨ez, K3⟩ := ty q2
      rw [ez] at b3
      obtain ⟨_, u4, w4, a5, a6⟩ := eg64_137_28_0 b3 (by decide)
      obtain ⟨y, e4, W4, kf4, hy4, hn4⟩ := ew_tnm hJ2 hJ K3 (z := 1) rfl a5
      have b4 := a6 _ e4 W4
      by_cases q3 : C (j + 3) = 301 ∧ 1 ≤ V (j + 3)
      · rw [if_pos q3]
        obtain ⟨ey, K4⟩ := hy4 q3
        rw [ey] at b4
        have tV3 : ec_tw (V (j + 3)) = V (j + 3) := ec_tw_id (by omega) (by omega)
        have l4 := eg64_137_37_1 b4
        rw [tV3, tm] at l4
        obtain ⟨_, u5, w5, a7, a8⟩ := l4 (by omega)
        obtain ⟨z5, e5, W5, kf5, ty5, tn5⟩ := ew_tkn hJ2 hJ K4 (x := 59) rfl (by decide) a7
        have b5 := a8 _ e5 W5
        have kall : er_kf c w w5 := er_kf_t kfa (er_kf_t kf2 (er_kf_t kf3 (er_kf_t kf4 kf5)))
        by_cases q4 : C (j + 4) = 59
        · rw [if_pos q4]
          obtain ⟨ez5, K5⟩ := ty5 q4
          rw [ez5] at b5
          obtain ⟨_, u6, w6, a9, a10⟩ := eg64_137_49_1 b5 (by decide)
          obtain ⟨e6, W6, k6, K6, S6⟩ := ew_aln (q := (0, V (j + 1), V (j + 3), [], false)) hc6 hl K5 (er_KL_s hS kall.1) rfl tV1 tV3 a9
          obtain ⟨_, hr, hW⟩ := eg64_137_59_0 (a10 e6 W6)
          injection hr with f1 f2
          rw [f2]
          refine ⟨f1, hW, er_k2_t (er_k2_of kall) k6, ?_, S6⟩
          rw [List.append_nil]
          exact K6
        · rw [if_neg q4]
          obtain ⟨ez5, h7⟩ := tn5 q4
          rw [ez5] at b5
          obtain ⟨_, hr, hW⟩ := eg64_137_49_0 b5 rfl
          injection hr with f1 f2
          rw [f2]
          exact ⟨f1, hW, er_k2_of kall, h7⟩
      · rw [if_neg q3]
        obtain ⟨ey, h7⟩ := hn4 q3
        rw [ey] at b4
        obtain ⟨_, hr, hW⟩ := eg64_137_37_0 b4 rfl
        injection hr with f1 f2
        rw [f2]
        exact ⟨f1, hW, er_k2_of (er_kf_t kfa (er_kf_t kf2 (er_kf_t kf3 kf4))), h7⟩
    · rw [if_neg q2]
      obtain ⟨ez, h7⟩ := tn q2
      rw [ez] at b3
      obtain ⟨_, hr, hW⟩ := eg64_137_28_1 b3 rfl
      injection hr with f1 f2
      rw [f2]
      exact ⟨f1, hW, er_k2_of (er_kf_t kfa (er_kf_t kf2 kf3)), h7⟩
  · rw [if_neg q1]
    obtain ⟨ex, h7⟩ := hn q1
    rw [ex] at b2
    obtain ⟨_, hr, hW⟩ := eg64_137_15_0 b2 rfl
    injection hr with f1 f2
    rw [f2]
    exact ⟨f1, hW, er_k2_of (er_kf_t kfa kf2), h7⟩
/-- come -/
theorem ew_rcm {n j : Nat} {L : List Int} {ls : List er_L} {w w1 : px_W} {v : Option Value} (hJ2 : J ≤ 200) (hJ : C J = 300) (hc6 : c ≤ 6) (hCr : ∀ j, 0 ≤ C j ∧ C j ≤ 400) (hVr : ∀ j, -100000 ≤ V j ∧ V j ≤ 100000) (hs : C j = 314) (hl : ls.length < 8) (hK : er_K w C V P J c L j) (hS : er_KL w c ls) (h : ec_E hb_X n 66 0 [(0, .inr (.inl 201)), (1, .inr (.inl 108))] [] w (v, w1)) : v = none ∧ ec_W hb_A w1 ∧ er_k2 c w w1 ∧ (match er_li C V H M L.length j with
    | (a, none) => ec_fd w1 137 7 = (P a : Int)
    | (a, some q) => er_K w1 C V P J c (L ++ q.2.2.2.1) a ∧ er_KL w1 c (ls ++ [q])) := by
  have eli : er_li C V H M L.length j = (if C (j + 1) = 315 then (match er_cd C V H M 4 (j + 2) with
      | (a, none) => (a, none)
      | (a, some q) => if C a = 59 then (a + 1, some ((2 : Int), (L.length : Int), ((L.length + q.1.length : Nat) : Int), q.1, q.2)) else (a, none)) else (j + 1, none)) := by
    unfold er_li
    rw [if_neg (by omega), if_neg (by omega), if_pos hs]
    rfl
  rw [eli]
  have sof : ∀ (n : Nat) (y y1 : px_W) (u : Option Value) (X : List Int) (k : Nat), er_K y C V P J c X k → ec_E hb_X n 75 0 [(0, .inr (.inl 108))] [] y (u, y1) → y = y1 ∧ ec_W hb_A y1 ∧ u = ec_R ((min 64 X.length : Nat) : Int) := by
    intro n y y1 u X k hk h75
    obtain ⟨_, hr, hW⟩ := eg75_44_0_0 h75
    have tc : ec_tw (ec_fd y 44 0) = (c : Int) := by
      rw [ec_tw_fd]
      exact hk.1.2
    have r51 : ec_rd y 51 (c : Int) = ((min 64 X.length : Nat) : Int) := hk.2.2.2.2.1
    rw [tc, r51] at hr
    injection hr with f1 f2
    rw [f2]
    exact ⟨rfl, hW, f1⟩
  obtain ⟨Wa, kfa, Ka⟩ := ew_adv hJ2 hJ h.1 hK (by rw [hs]; decide)
  obtain ⟨_, u2, w2, a1, a2⟩ := eg66_137_0_0 h
  obtain ⟨i2, W2, e2⟩ := sof n _ w2 u2 L (j + 1) Ka a1
  rw [← i2] at a2 W2
  obtain ⟨_, u3, w3, a3, a4⟩ := eg66_137_14_0 (a2 _ e2 W2)
  obtain ⟨z3, e3, W3, kf3, ty, tn⟩ := ew_tkn hJ2 hJ Ka (x := 315) rfl (by decide) a3
  have b3 := a4 _ e3 W3
  by_cases q1 : C (j + 1) = 315
  · rw [if_pos q1]
    obtain ⟨ez, K3⟩ := ty q1
    rw [ez] at b3
    obtain ⟨_, u4, w4, a5, a6⟩ := eg66_137_22_1 b3 (by decide)
    obtain ⟨z4, e4, W4, kf4, m4⟩ := ew_rcd (H := H) (M := M) hJ2 hJ hc6 hCr hVr 4 (Nat.le_refl _) n (j + 2) L w3 w4 u4 K3 a5
    have b4 := a6 _ e4 W4
    have k4 : er_kf c w w4 := er_kf_t kfa (er_kf_t kf3 kf4)
    cases e : er_cd C V H M 4 (j + 2) with
    | mk a s =>
      rw [e] at m4
      cases s with
      | none =>
        obtain ⟨ez4, h7⟩ : z4 = 0 ∧ ec_fd w4 137 7 = (P a : Int) := m4
        rw [ez4] at b4
        obtain ⟨_, hr, hW⟩ := eg66_137_31_0 b4 rfl
        injection hr with f1 f2
        rw [f2]
        exact ⟨f1, hW, er_k2_of k4, h7⟩
      | some q =>
        obtain ⟨ez4, K4⟩ : z4 = 1 ∧ er_K w4 C V P J c (L ++ q.1) a := m4
        rw [ez4] at b4
        obtain ⟨_, u5, w5, a7, a8⟩ := eg66_137_31_1 b4 (by decide)
        obtain ⟨z5, e5, W5, kf5, ty5, tn5⟩ := ew_tkn hJ2 hJ K4 (x := 59) rfl (by decide) a7
        have b5 := a8 _ e5 W5
        have k5 : er_kf c w w5 := er_kf_t k4 kf5
        dsimp only
        by_cases q4 : C a = 59
        · rw [if_pos q4]
          obtain ⟨ez5, K5⟩ := ty5 q4
          rw [ez5] at b5
          obtain ⟨_, u6, w6, a9, a10⟩ := eg66_137_40_1 b5 (by decide)
          obtain ⟨i6, W6, e6⟩ := sof n _ w6 u6 (L ++ q.1) (a + 1) K5 a9
          rw [← i6] at a10 W6
          obtain ⟨_, u7, w7, a11, a12⟩ := eg66_137_50_0 (a10 _ e6 W6)
          have o1 : ec_tw ((min 64 L.length : Nat) : Int) = er_o1 (2, (L.length : Int), ((L.length + q.1.length : Nat) : Int), q.1, q.2) := by
            rw [ec_twn (n := min 64 L.length) (by omega)]
            show ((min 64 L.length : Nat) : Int) = min 64 (L.length : Int)
            omega
          have o2 : ec_tw ((min 64 (L ++ q.1).length : Nat) : Int) = er_o2 (2, (L.length : Int), ((L.length + q.1.length : Nat) : Int), q.1, q.2) := by
            rw [ec_twn (n := min 64 (L ++ q.1).length) (by omega), List.length_append]
            show ((min 64 (L.length + q.1.length) : Nat) : Int) = min 64 ((L.length + q.1.length : Nat) : Int)
            omega
          obtain ⟨e7, W7, k7, K7, S7⟩ := ew_aln (q := (2, (L.length : Int), ((L.length + q.1.length : Nat) : Int), q.1, q.2)) hc6 hl K5 (er_KL_s hS k5.1) rfl o1 o2 a11
          obtain ⟨_, hr, hW⟩ := eg66_137_53_0 (a12 e7 W7)
          injection hr with f1 f2
          rw [f2]
          exact ⟨f1, hW, er_k2_t (er_k2_of k5) k7, K7, S7⟩
        · rw [if_neg q4]
          obtain ⟨ez5, h7⟩ := tn5 q4
          rw [ez5] at b5
          obtain ⟨_, hr, hW⟩ := eg66_137_40_0 b5 rfl
          injection hr with f1 f2
          rw [f2]
          exact ⟨f1, hW, er_k2_of k5, h7⟩
  · rw [if_neg q1]
    obtain ⟨ez, h7⟩ := tn q1
    rw [ez] at b3
    obtain ⟨_, hr, hW⟩ := eg66_137_22_0 b3 rfl
    injection hr with f1 f2
    rw [f2]
    exact ⟨f1, hW, er_k2_of (er_kf_t kfa kf3), h7⟩
end ER14

end
