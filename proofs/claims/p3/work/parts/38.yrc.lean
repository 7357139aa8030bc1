noncomputable section
/-! A MINUTE IN THE CLASS'S HULL -/
theorem ew_wxl_1 {W : Nat → Int} : ∀ (k n i : Nat) (w : px_W) (x1 : Int) (r : Option Value × px_W), i + k = 8 → ef_a w 3 = W → ec_fd w 1 8 = ec_tw (eh_all W i) → x1 = eh_mom W i → ec_E hb_X n 40 9 [(0, .inr (.inl 65)), (1, .inl x1), (2, .inl (i : Int))] [] w r → ∃ w' : px_W, r = (none, w') ∧ ec_fd w' 1 8 = eh_al W ∧ ec_fd w' 1 9 = eh_tl W := by
  intro k
  induction k with
  | zero =>
    intro n i w x1 r hik hw h8 hx h
    have hi : i = 8 := by omega
    subst hi
    obtain ⟨_, hr, hW⟩ := eg40_1_9_0 h (Int.le_refl _)
    refine ⟨_, hr, ?_, ?_⟩
    · rw [ec_fd_pf (k := 1) (f := 9) h.1 rfl (by decide), if_neg (by decide)]
      exact h8
    · rw [ec_fd_pf (k := 1) (f := 9) h.1 rfl (by decide), if_pos rfl, ec_tw_dv, hx]
      rfl
  | succ k ih =>
    intro n i w x1 r hik hw h8 hx h
    have ei : ec_tw (i : Int) = i := ec_twn (by omega)
    have t8 : ec_tw 8 = 8 := rfl
    have h1 := (eg40_1_9_1 h (by omega)).2
    rw [ei, ec_rd_pf_o (by decide), ef_rd, hw] at h1
    refine ih n (i + 1) _ _ r (by omega) ?_ ?_ ?_ h1
    · exact (ef_s_a (ef_s_pf (S := [1]) List.mem_cons_self) (by decide)).trans hw
    · rw [ec_fd_pf (k := 1) (f := 8) h.1 rfl (by decide), if_pos rfl, h8, ec_tw_addl]
      rfl
    · rw [hx]
      rfl
theorem ew_wx_1 {n : Nat} {w : px_W} {r : Option Value × px_W} (h : ec_E hb_X n 40 0 [(0, .inr (.inl 65))] [] w r) : ∃ w' : px_W, r = (none, w') ∧ ec_fd w' 1 8 = eh_al (ef_a w 3) ∧ ec_fd w' 1 9 = eh_tl (ef_a w 3) := by
  have h1 := (eg40_1_0_0 h).2
  refine ew_wxl_1 8 n 0 _ _ r rfl ?_ ?_ ?_ h1
  · exact ef_s_a (ef_s_pf (S := [1]) List.mem_cons_self) (by decide)
  · rw [ec_fd_pf (k := 1) (f := 8) h.1 rfl (by decide), if_pos rfl]
    rfl
  · rfl
theorem ew_lvA_1 {n : Nat} {w : px_W} {r : Option Value × px_W} {W R : Nat → Int} {c : Nat} (hw : ef_a w 3 = W) (hr : ef_a w 2 = R) (hc : c < 8) (hb : 10 ≤ R c) (h : ec_E hb_X n 36 0 [(0, .inr (.inl 65)), (1, .inl (c : Int))] [] w r) : r = (ec_R (eh_lv W R c), w) ∧ ec_W hb_A w := by
  have tc : ec_tw (c : Int) = c := ec_twn (by omega)
  have t0 : ec_tw 0 = 0 := rfl
  have q := (eg36_1_0_0 h (by rw [tc, ef_rd, ef_tw, hr, t0]; omega)).2
  rw [tc, ef_rd, ef_rd, hw, hr] at q
  exact q
theorem ew_ouA_1 {n : Nat} {w : px_W} {r : Option Value × px_W} {x : Int} (h : ec_E hb_X n 37 0 [(0, .inr (.inl 65)), (1, .inl x)] [] w r) : r = (ec_R (eh_ou (ec_fd w 1 8) (ec_fd w 1 9) x), w) ∧ ec_W hb_A w := by
  obtain ⟨_, hr, hW⟩ := eg37_1_0_0 h
  refine ⟨?_, hW⟩
  have o := eh_ou_in (ec_fd w 1 8) (ec_fd w 1 9) x
  have eo : ec_tw (eh_ou (ec_fd w 1 8) (ec_fd w 1 9) x) = eh_ou (ec_fd w 1 8) (ec_fd w 1 9) x := ec_tw_id (by omega) (by omega)
  have e : ec_R (ec_mx 0 (ec_mn 100 (40 + ec_dv (ec_fd w 1 8) 20 + ec_dv (ec_fd w 1 9 * (7 - 2 * x)) 7))) = ec_R (eh_ou (ec_fd w 1 8) (ec_fd w 1 9) x) := ec_R_cg (by
    rw [eh_cl, eo]
    rfl)
  rw [hr, e]
theorem eh_two_1 {w : px_W} {i : Nat} {z1 z2 : Int} (hW : ec_W hb_A w) (hi : i < 8) : ef_s [8, 9] w (ec_wr (ec_wr w 8 (i : Int) z1) 9 (i : Int) z2) ∧ ef_a (ec_wr (ec_wr w 8 (i : Int) z1) 9 (i : Int) z2) 8 = ef_u (ef_a w 8) i (ec_tw z1) ∧ ef_a (ec_wr (ec_wr w 8 (i : Int) z1) 9 (i : Int) z2) 9 = ef_u (ef_a w 9) i (ec_tw z2) ∧ ec_W hb_A (ec_wr (ec_wr w 8 (i : Int) z1) 9 (i : Int) z2) := by
  have W1 : ec_W hb_A (ec_wr w 8 (i : Int) z1) := ec_W_wr hW
  refine ⟨ef_s_trans (ef_s_wr (by decide)) (ef_s_wr (by decide)), ?_, ?_, ec_W_wr W1⟩
  · rw [ef_a_wr_o (by decide), ef_a_wr (n := 8) hW rfl (by omega) (by omega), Int.toNat_natCast]
  · rw [ef_a_wr (n := 8) W1 rfl (by omega) (by omega), ef_a_wr_o (by decide), Int.toNat_natCast]
theorem ew_fg1_1 {W R H P : Nat → Int} {a t : Int} (hD : eh_D W R H P) : ∀ (k n i : Nat) (w : px_W) (r : Option Value × px_W), i + k = 8 → ef_a w 2 = R → ef_a w 3 = W → ef_a w 4 = H → ef_a w 5 = P → ec_fd w 1 8 = a → ec_fd w 1 9 = t → (∀ c, c < i → ef_a w 8 c = eh_lv W R c ∧ ef_a w 9 c = eh_g0 W R H P a t c) → ec_E hb_X n 41 2 [(0, .inr (.inl 65)), (1, .inl (i : Int))] [] w r → ∃ w' : px_W, ec_E hb_X n 41 84 [(0, .inr (.inl 65)), (1, .inl 0)] [] w' r ∧ ef_s [8, 9] w w' ∧ ∀ c, c < 8 → ef_a w' 8 c = eh_lv W R c ∧ ef_a w' 9 c = eh_g0 W R H P a t c := by
  intro k
  induction k with
  | zero =>
    intro n i w r hik h1 h2 h3 h4 h5 h6 hc h
    have hi : i = 8 := by omega
    subst hi
    exact ⟨w, (eg41_1_2_0 h (Int.le_refl _)).2, ef_s_refl, hc⟩
  | succ k ih =>
    intro n i w r hik h1 h2 h3 h4 h5 h6 hc h
    have ei : ec_tw (i : Int) = i := ec_twn (by omega)
    have t0 : ec_tw 0 = 0 := rfl
    have t8 : ec_tw 8 = 8 := rfl
    obtain ⟨d1, d2, d3, d4⟩ := hD i (by omega)
    have l := eh_lv_in hD (c := i) (by omega)
    have o := eh_ou_in a t (i : Int)
    obtain ⟨_, v, w1, q1, q2⟩ := eg41_1_2_1 h (by omega)
    obtain ⟨e1, W1⟩ := ew_lvA_1 h2 h1 (by omega) d2.1 q1
    injection e1 with e1 e2
    have e3 := e2.symm
    subst e3
    have q3 := q2 _ e1 W1
    have tl : ec_tw (eh_lv W R i) = eh_lv W R i := ec_tw_id (by omega) (by omega)
    obtain ⟨s1, f7, f8, W2⟩ := eh_two_1 (w := w) (i := i) (z1 := eh_lv W R i) (z2 := -(P i)) W1 (by omega)
    have ex : ec_rd (ec_wr w 8 (ec_tw (i : Int)) (eh_lv W R i)) 5 (ec_tw (i : Int)) = P i := by
      rw [ec_rd_wr_o (by decide), ei, ef_rd, h4]
    have ey : ec_tw (ec_rd (ec_wr (ec_wr w 8 (ec_tw (i : Int)) (eh_lv W R i)) 9 (ec_tw (i : Int)) (-(ec_rd (ec_wr w 8 (ec_tw (i : Int)) (eh_lv W R i)) 5 (ec_tw (i : Int))))) 4 (ec_tw (i : Int))) = H i := by
      rw [ec_rd_wr_o (by decide), ec_rd_wr_o (by decide), ei, ef_rd, ef_tw, h3]
    have fin : ∀ y : px_W, ef_s [8, 9] w y → ef_a y 8 = ef_u (ef_a w 8) i (eh_lv W R i) → ef_a y 9 = ef_u (ef_a w 9) i (eh_g0 W R H P a t i) → ec_E hb_X n 41 2 [(0, .inr (.inl 65)), (1, .inl ((i : Int) + 1))] [] y r → ∃ w' : px_W, ec_E hb_X n 41 84 [(0, .inr (.inl 65)), (1, .inl 0)] [] w' r ∧ ef_s [8, 9] w w' ∧ ∀ c, c < 8 → ef_a w' 8 c = eh_lv W R c ∧ ef_a w' 9 c = eh_g0 W R H P a t c := by
      intro y sy y7 y8 hy
      obtain ⟨w', g1, g2, g3⟩ := ih n (i + 1) y r (by omega) ((ef_s_a sy (by decide)).trans h1) ((ef_s_a sy (by decide)).trans h2) ((ef_s_a sy (by decide)).trans h3) ((ef_s_a sy (by decide)).trans h4) ((ef_s_f sy (by decide) 8).trans h5) ((ef_s_f sy (by decide) 9).trans h6) (fun c hc2 => by
        rw [y7, y8]
        unfold ef_u
        by_cases hci : c = i
        · rw [if_pos hci, if_pos hci, hci]
          exact ⟨rfl, rfl⟩
        · rw [if_neg hci, if_neg hci]
          exact hc c (by omega)) hy
      exact ⟨w', g1, ef_s_trans sy g2, g3⟩
    by_cases hh : 0 < H i
    · obtain ⟨_, v2, w2, q4, q5⟩ := eg41_1_18_1 q3 (by rw [ey, t0]; exact hh)
      obtain ⟨e4, W3⟩ := ew_ouA_1 q4
      injection e4 with e4 e5
      have e6 := e5.symm
      subst e6
      have q6 := q5 _ e4 W3
      have q7 := (eg41_1_60_0 q6).2
      rw [ex, ei] at q7
      obtain ⟨Y, hY⟩ : ∃ Y : px_W, Y = ec_wr (ec_wr w 8 (i : Int) (eh_lv W R i)) 9 (i : Int) (-(P i)) := ⟨_, rfl⟩
      rw [← hY] at q7 s1 f7 f8 W2
      have y8 : ec_rd Y 9 (i : Int) = -(P i) := by
        rw [ef_rd, f8]
        unfold ef_u
        rw [if_pos rfl]
        exact ec_tw_id (by omega) (by omega)
      have y7 : ec_rd Y 8 (i : Int) = eh_lv W R i := by
        rw [ef_rd, f7]
        unfold ef_u
        rw [if_pos rfl, tl]
      have y3 : ec_rd Y 4 (i : Int) = H i := by
        rw [ef_rd, ef_s_a s1 (by decide), h3]
      have ya : ec_fd Y 1 8 = a := (ef_s_f s1 (by decide) 8).trans h5
      have yt : ec_fd Y 1 9 = t := (ef_s_f s1 (by decide) 9).trans h6
      rw [y8, y7, y3, ya, yt, eh_in_mx (b := eh_ou a t (i : Int) - eh_lv W R i) d3.1 d3.2 (by omega) (by omega)] at q7
      refine fin _ (ef_s_trans s1 (ef_s_wr (by decide))) ?_ ?_ q7
      · rw [ef_a_wr_o (by decide), f7, tl]
      · rw [ef_a_wr (n := 8) W2 rfl (by omega) (by omega), f8, Int.toNat_natCast]
        funext c
        unfold ef_u
        by_cases hci : c = i
        · rw [if_pos hci, if_pos hci]
          have g := eh_g0_in (a := a) (t := t) hD (c := i) (by omega)
          unfold eh_g0 at g ⊢
          rw [ec_tw_id (by omega) (by omega)]
          omega
        · rw [if_neg hci, if_neg hci, if_neg hci]
    · have hz : H i = 0 := by omega
      have q4 := (eg41_1_18_0 q3 (by rw [ey, t0]; omega)).2
      rw [ex, ei] at q4
      refine fin _ s1 (by rw [f7, tl]) ?_ q4
      rw [f8]
      funext c
      unfold ef_u
      by_cases hci : c = i
      · rw [if_pos hci, if_pos hci]
        unfold eh_g0
        rw [hz, eh_in_0, ec_tw_id (by omega) (by omega)]
        omega
      · rw [if_neg hci, if_neg hci]
theorem eh_93_1 {w : px_W} {r : Option Value × px_W} {i n : Nat} {x2 x3 z : Int} {G : Nat → Int} (hi : i < 7) (h8 : ∀ c, c < 8 → ef_a w 9 c = G c) (hG : ∀ c, c < 8 → -1000 ≤ G c ∧ G c ≤ 1000) (hz : -1000 ≤ z ∧ z ≤ 1000) (h : ec_E hb_X n 42 93 [(0, .inr (.inl 65)), (1, .inl (i : Int)), (2, .inl x2), (3, .inl x3)] [.inl z] w r) : ∃ w' : px_W, r = (none, w') ∧ ec_W hb_A w' ∧ ef_s [9] w w' ∧ ∀ c, c < 8 → ef_a w' 9 c = if c = i then G c - z else if c = i + 1 then G c + z else G c := by
  have ei : ec_tw (i : Int) = i := ec_twn (by omega)
  have ei1 : ec_tw ((i : Int) + 1) = ((i + 1 : Nat) : Int) := (ec_tw_id (by omega) (by omega)).trans (by omega)
  obtain ⟨_, hr, hW⟩ := eg42_1_93_0 h
  have b0 := hG i (by omega)
  have b1 := hG (i + 1) (by omega)
  have g0 : ec_rd w 9 (i : Int) = G i := h8 i (by omega)
  have Wa : ec_W hb_A (ec_wr w 9 (i : Int) (G i - z)) := ec_W_wr h.1
  have g1 : ec_rd (ec_wr w 9 (i : Int) (G i - z)) 9 ((i + 1 : Nat) : Int) = G (i + 1) := by
    rw [ec_rd_wr (n := 8) h.1 rfl (by omega) (by omega) (by omega), if_neg (by omega)]
    exact h8 (i + 1) (by omega)
  rw [ei, ei1, g0, g1] at hr hW
  refine ⟨_, hr, hW, ef_s_trans (ef_s_wr (by decide)) (ef_s_wr (by decide)), fun c hc => ?_⟩
  rw [ef_a_wr (n := 8) Wa rfl (by omega) (by omega), ef_a_wr (n := 8) h.1 rfl (by omega) (by omega), Int.toNat_natCast, Int.toNat_natCast]
  unfold ef_u
  by_cases c1 : c = i
  · rw [if_neg (by omega), if_pos c1, if_pos c1, c1]
    exact ec_tw_id (by omega) (by omega)
  · by_cases c2 : c = i + 1
    · rw [if_pos c2, if_neg c1, if_pos c2, c2]
      exact ec_tw_id (by omega) (by omega)
    · rw [if_neg c2, if_neg c1, if_neg c1, if_neg c2]
      exact h8 c hc
theorem ew_pw_1 {w : px_W} {r : Option Value × px_W} {L S D G : Nat → Int} {i n : Nat} (hi : i < 7) (hL : ∀ c, c < 8 → 0 ≤ L c ∧ L c ≤ 100) (hG : ∀ c, c < 8 → -1000 ≤ G c ∧ G c ≤ 1000) (h5 : ef_a w 6 = S) (h6 : ef_a w 7 = D) (h7 : ∀ c, c < 8 → ef_a w 8 c = L c) (h8 : ∀ c, c < 8 → ef_a w 9 c = G c) (hne : L i ≠ L (i + 1)) (h : ec_E hb_X n 42 0 [(0, .inr (.inl 65)), (1, .inl (i : Int))] [] w r) : ∃ w' : px_W, r = (none, w') ∧ ec_W hb_A w' ∧ ef_s [9] w w' ∧ ∀ c, c < 8 → ef_a w' 9 c = eh_st L S D G i c := by
  have ei : ec_tw (i : Int) = i := ec_twn (by omega)
  have ei1 : ec_tw ((i : Int) + 1) = ((i + 1 : Nat) : Int) := (ec_tw_id (by omega) (by omega)).trans (by omega)
  have t0 : ec_tw 0 = 0 := rfl
  have t1 : ec_tw 1 = 1 := rfl
  have li := hL i (by omega)
  have lj := hL (i + 1) (by omega)
  have go := eh_go_in (S := S) (D := D) li lj
  have c7 : ec_rd w 8 (ec_tw (i : Int)) = L i := by
    rw [ei]
    exact h7 i (by omega)
  have c7' : ec_rd w 8 (ec_tw ((i : Int) + 1)) = L (i + 1) := by
    rw [ei1]
    exact h7 (i + 1) (by omega)
  have sl : ∃ s : Int, s = (if D i = 1 then 0 else S i) ∧ (-2147483648 ≤ s ∧ s ≤ 2147483647) ∧ ec_E hb_X n 42 20 [(0, .inr (.inl 65)), (1, .inl (i : Int))] [.inl s] w r := by
    by_cases hd : D i = 1
    · exact ⟨0, by rw [if_pos hd], by decide, (eg42_1_0_1 h (by rw [ei, ef_rd, ef_tw, h6, hd, t1])).2⟩
    · have q := (eg42_1_0_0 h (by rw [ei, ef_rd, ef_tw, h6, t1]; exact hd)).2
      have b := ef_in w 6 i
      rw [ei, ef_rd, h5] at q
      rw [h5] at b
      exact ⟨S i, by rw [if_neg hd], b, q⟩
  obtain ⟨s, hs, sr, q1⟩ := sl
  have q2 := (eg42_1_20_0 q1).2
  have lx : -2147483648 ≤ L i ∧ L i ≤ 2147483647 := by omega
  have ly : -2147483648 ≤ L (i + 1) ∧ L (i + 1) ≤ 2147483647 := by omega
  rw [c7, c7', ec_mn_min lx ly, ec_mx_max lx ly, ec_mx_max (a := s) (b := min (L i) (L (i + 1))) sr (by omega)] at q2
  have hv : eh_go L S D i = if max s (min (L i) (L (i + 1))) < max (L i) (L (i + 1)) then ec_dv (max (L i) (L (i + 1)) - max s (min (L i) (L (i + 1)))) 4 else 0 := by
    rw [hs]
    rfl
  have tv : ec_tw (max (L i) (L (i + 1)) - max s (min (L i) (L (i + 1)))) = max (L i) (L (i + 1)) - max s (min (L i) (L (i + 1))) := ec_tw_id (by omega) (by omega)
  by_cases ho : max s (min (L i) (L (i + 1))) < max (L i) (L (i + 1))
  · rw [if_pos ho] at hv
    by_cases hl : L i ≤ L (i + 1)
    · have q3 := (eg42_1_61_0 q2 (by rw [tv, t0]; omega) (by rw [c7, c7', ec_tw_id lx.1 lx.2, ec_tw_id ly.1 ly.2]; exact hl)).2
      rw [← hv] at q3
      obtain ⟨w', r1, r2, r3, r4⟩ := eh_93_1 hi h8 hG (by omega) q3
      refine ⟨w', r1, r2, r3, fun c hc => ?_⟩
      rw [r4 c hc]
      unfold eh_st
      rw [if_pos (show L i < L (i + 1) by omega), if_pos (show L i < L (i + 1) by omega)]
      by_cases c1 : c = i
      · rw [if_pos c1, if_pos c1]
        omega
      · rw [if_neg c1, if_neg c1]
    · have q3 := (eg42_1_61_1 q2 (by rw [tv, t0]; omega) (by rw [c7, c7', ec_tw_id lx.1 lx.2, ec_tw_id ly.1 ly.2]; omega)).2
      rw [← hv] at q3
      obtain ⟨w', r1, r2, r3, r4⟩ := eh_93_1 hi h8 hG (by omega) q3
      refine ⟨w', r1, r2, r3, fun c hc => ?_⟩
      rw [r4 c hc]
      unfold eh_st
      rw [if_neg (show ¬ L i < L (i + 1) by omega), if_neg (show ¬ L i < L (i + 1) by omega)]
      by_cases c1 : c = i
      · rw [if_pos c1, if_pos c1]
        omega
      · rw [if_neg c1, if_neg c1]
  · rw [if_neg ho] at hv
    obtain ⟨_, r1, r2⟩ := eg42_1_61_2 q2 (by rw [tv, t0]; omega)
    exact ⟨w, r1, r2, ef_s_refl, fun c hc => by rw [eh_st_0 hv]; exact h8 c hc⟩
theorem ew_fg2_1 {L S D G : Nat → Int} (hL : ∀ c, c < 8 → 0 ≤ L c ∧ L c ≤ 100) (hF : ∀ k, k ≤ 7 → ∀ c, c < 8 → -1000 ≤ eh_fl L S D G k c ∧ eh_fl L S D G k c ≤ 1000) : ∀ (k n i : Nat) (w : px_W) (r : Option Value × px_W), i + k = 7 → ef_a w 6 = S → ef_a w 7 = D → (∀ c, c < 8 → ef_a w 8 c = L c) → (∀ c, c < 8 → ef_a w 9 c = eh_fl L S D G i c) → ec_E hb_X n 41 84 [(0, .inr (.inl 65)), (1, .inl (i : Int))] [] w r → ∃ w' : px_W, r = (none, w') ∧ ec_W hb_A w' ∧ ef_s [9] w w' ∧ ∀ c, c < 8 → ef_a w' 9 c = eh_fl L S D G 7 c := by
  intro k
  induction k with
  | zero =>
    intro n i w r hik h5 h6 h7 h8 h
    have hi : i = 7 := by omega
    subst hi
    obtain ⟨_, hr, hW⟩ := eg41_1_84_0 h (Int.le_refl _)
    exact ⟨w, hr, hW, ef_s_refl, h8⟩
  | succ k ih =>
    intro n i w r hik h5 h6 h7 h8 h
    have ei : ec_tw (i : Int) = i := ec_twn (by omega)
    have ei1 : ec_tw ((i : Int) + 1) = ((i + 1 : Nat) : Int) := (ec_tw_id (by omega) (by omega)).trans (by omega)
    have t7 : ec_tw 7 = 7 := rfl
    have c7 : ec_tw (ec_rd w 8 (ec_tw (i : Int))) = L i := by
      rw [ei, ef_rd, ef_tw]
      exact h7 i (by omega)
    have c7' : ec_tw (ec_rd w 8 (ec_tw ((i : Int) + 1))) = L (i + 1) := by
      rw [ei1, ef_rd, ef_tw]
      exact h7 (i + 1) (by omega)
    by_cases he : L i = L (i + 1)
    · have q := (eg41_1_84_1 h (by omega) (by rw [c7, c7']; exact he)).2
      exact ih n (i + 1) w r (by omega) h5 h6 h7 (fun c hc => by
        rw [h8 c hc]
        exact (eh_st_0 (eh_go_eq he)).symm) q
    · obtain ⟨_, v, w1, q1, q2⟩ := eg41_1_84_2 h (by omega) (by rw [c7, c7']; exact he)
      obtain ⟨w', e1, W1, s1, f1⟩ := ew_pw_1 (by omega) hL (hF i (by omega)) h5 h6 h7 h8 he q1
      injection e1 with e1 e2
      subst e2
      have q3 := (eg41_1_112_0 (q2 e1 W1)).2
      obtain ⟨w2, e3, W2, s2, f2⟩ := ih n (i + 1) w1 r (by omega) ((ef_s_a s1 (by decide)).trans h5) ((ef_s_a s1 (by decide)).trans h6) (fun c hc => (congrFun (ef_s_a s1 (by decide)) c).trans (h7 c hc)) f1 q3
      exact ⟨w2, e3, W2, ef_s_trans s1 s2, f2⟩
theorem ew_fgA_1 {W R H P S D : Nat → Int} {a t : Int} {n : Nat} {w : px_W} {r : Option Value × px_W} (hD : eh_D W R H P) (h1 : ef_a w 2 = R) (h2 : ef_a w 3 = W) (h3 : ef_a w 4 = H) (h4 : ef_a w 5 = P) (h5 : ef_a w 6 = S) (h6 : ef_a w 7 = D) (ha : ec_fd w 1 8 = a) (ht : ec_fd w 1 9 = t) (h : ec_E hb_X n 41 0 [(0, .inr (.inl 65))] [] w r) : ∃ w' : px_W, r = (none, w') ∧ ec_W hb_A w' ∧ ef_s [8, 9] w w' ∧ ∀ c, c < 8 → ef_a w' 9 c = eh_fl (eh_lv W R) S D (eh_g0 W R H P a t) 7 c := by
  obtain ⟨w1, q1, s1, f1⟩ := ew_fg1_1 hD 8 n 0 w r rfl h1 h2 h3 h4 ha ht (fun c hc => absurd hc (Nat.not_lt_zero _)) (eg41_1_0_0 h).2
  obtain ⟨w2, e2, W2, s2, f2⟩ := ew_fg2_1 (L := eh_lv W R) (S := S) (D := D) (G := eh_g0 W R H P a t) (fun c hc => eh_lv_in hD hc) (fun k hk c hc => by have := eh_f7_in (S := S) (D := D) (a := a) (t := t) hD hk hc; omega) 7 n 0 w1 r rfl ((ef_s_a s1 (by decide)).trans h5) ((ef_s_a s1 (by decide)).trans h6) (fun c hc => (f1 c hc).1) (fun c hc => (f1 c hc).2) q1
  exact ⟨w2, e2, W2, ef_s_trans s1 (ef_s_mono s2 (by decide)), f2⟩
theorem ew_tgl_1 {W R F : Nat → Int} (hWR : ∀ c, c < 8 → (0 ≤ W c ∧ W c ≤ R c) ∧ R c ≤ 999) (hF : ∀ c, c < 8 → -1000 ≤ F c ∧ F c ≤ 1000) : ∀ (k n i : Nat) (w : px_W) (x1 : Int) (r : Option Value × px_W), i + k = 8 → ef_a w 2 = R → (∀ c, c < 8 → ef_a w 9 c = F c) → (∀ c, c < 8 → ef_a w 3 c = if c < i then eh_nw W R F c else W c) → (x1 = 0 ∨ x1 = 1) → (x1 = 0 → ∀ c, c < i → eh_nw W R F c = W c) → ec_E hb_X n 43 4 [(0, .inr (.inl 65)), (1, .inl x1), (2, .inl (i : Int))] [] w r → ∃ (y : px_W) (x : Int), ec_E hb_X n 43 4 [(0, .inr (.inl 65)), (1, .inl x), (2, .inl 8)] [] y r ∧ ef_s [3] w y ∧ (∀ c, c < 8 → ef_a y 3 c = eh_nw W R F c) ∧ (x = 0 ∨ x = 1) ∧ (x = 0 → ∀ c, c < 8 → eh_nw W R F c = W c) := by
  intro k
  induction k with
  | zero =>
    intro n i w x1 r hik h1 h8 h2 hx hxz h
    have hi : i = 8 := by omega
    subst hi
    exact ⟨w, x1, h, ef_s_refl, fun c hc => by rw [h2 c hc, if_pos hc], hx, hxz⟩
  | succ k ih =>
    intro n i w x1 r hik h1 h8 h2 hx hxz h
    have ei : ec_tw (i : Int) = i := ec_twn (by omega)
    have t0 : ec_tw 0 = 0 := rfl
    have t1 : ec_tw 1 = 1 := rfl
    have t8 : ec_tw 8 = 8 := rfl
    obtain ⟨⟨b1, b2⟩, b3⟩ := hWR i (by omega)
    have b4 := hF i (by omega)
    have c8 : ec_tw (ec_rd w 9 (ec_tw (i : Int))) = F i := by
      rw [ei, ef_rd, ef_tw]
      exact h8 i (by omega)
    have c2 : ec_tw (ec_rd w 3 (ec_tw (i : Int))) = W i := by
      rw [ei, ef_rd, ef_tw, h2 i (by omega), if_neg (Nat.lt_irrefl i)]
    have nb : 0 ≤ eh_nw W R F i ∧ eh_nw W R F i ≤ 999 := by
      unfold eh_nw
      omega
    have nt : ec_tw (eh_nw W R F i) = eh_nw W R F i := ec_tw_id (by omega) (by omega)
    have nv : ec_mx 0 (ec_mn (ec_rd w 2 (ec_tw (i : Int))) ((ec_rd w 3 (ec_tw (i : Int))) + (ec_rd w 9 (ec_tw (i : Int))))) = eh_nw W R F i := by
      rw [ei, ef_rd, ef_rd, ef_rd, h1, h2 i (by omega), if_neg (Nat.lt_irrefl i), h8 i (by omega), ec_mn_min (a := R i) (b := W i + F i) (by omega) (by omega), ec_mx_max (a := 0) (b := min (R i) (W i + F i)) (by omega) (by omega)]
      rfl
    have fin : ∀ x' : Int, (x' = 0 ∨ x' = 1) → (x' = 0 → x1 = 0 ∧ eh_nw W R F i = W i) → ec_E hb_X n 43 4 [(0, .inr (.inl 65)), (1, .inl x'), (2, .inl ((i : Int) + 1))] [] (ec_wr w 3 (i : Int) (eh_nw W R F i)) r → ∃ (y : px_W) (x : Int), ec_E hb_X n 43 4 [(0, .inr (.inl 65)), (1, .inl x), (2, .inl 8)] [] y r ∧ ef_s [3] w y ∧ (∀ c, c < 8 → ef_a y 3 c = eh_nw W R F c) ∧ (x = 0 ∨ x = 1) ∧ (x = 0 → ∀ c, c < 8 → eh_nw W R F c = W c) := by
      intro x' hx' hx0 q
      have sw : ef_s [3] w (ec_wr w 3 (i : Int) (eh_nw W R F i)) := ef_s_wr (by decide)
      obtain ⟨y, x, y1, y2, y3, y4, y5⟩ := ih n (i + 1) _ x' r (by omega) ((ef_s_a sw (by decide)).trans h1) (fun c hc => (congrFun (ef_s_a sw (by decide)) c).trans (h8 c hc)) (fun c hc => by
        rw [ef_a_wr (n := 8) h.1 rfl (by omega) (by omega), Int.toNat_natCast, nt]
        unfold ef_u
        by_cases hci : c = i
        · rw [if_pos hci, if_pos (by omega), hci]
        · rw [if_neg hci, h2 c hc]
          by_cases hlt : c < i
          · rw [if_pos hlt, if_pos (by omega)]
          · rw [if_neg hlt, if_neg (by omega)]) hx' (fun h0 c hc => by
        by_cases hci : c = i
        · rw [hci]
          exact (hx0 h0).2
        · exact hxz (hx0 h0).1 c (by omega)) q
      exact ⟨y, x, y1, ef_s_trans sw y2, y3, y4, y5⟩
    by_cases hz : F i = 0
    · have q := (eg43_1_4_2 h (by omega) (by rw [c8, t0]; exact hz)).2
      have nz : eh_nw W R F i = W i := by
        unfold eh_nw
        omega
      exact ih n (i + 1) w x1 r (by omega) h1 h8 (fun c hc => by
        rw [h2 c hc]
        by_cases hci : c = i
        · rw [if_neg (by omega), if_pos (by omega), hci, nz]
        · by_cases hlt : c < i
          · rw [if_pos hlt, if_pos (by omega)]
          · rw [if_neg hlt, if_neg (by omega)]) hx (fun h0 c hc => by
        by_cases hci : c = i
        · rw [hci]
          exact nz
        · exact hxz h0 c (by omega)) q
    · have cz : ec_tw (ec_rd w 9 (ec_tw (i : Int))) ≠ ec_tw 0 := by
        rw [c8, t0]
        exact hz
      rcases hx with hx | hx
      · by_cases he : eh_nw W R F i = W i
        · have q := (eg43_1_4_4 h (by omega) cz (by rw [hx]) (by rw [nv, nt, c2]; exact he)).2
          rw [nv, ei] at q
          exact fin 0 (.inl rfl) (fun _ => ⟨hx, he⟩) q
        · have q := (eg43_1_4_5 h (by omega) cz (by rw [hx]) (by rw [nv, nt, c2]; exact he)).2
          rw [nv, ei] at q
          exact fin 1 (.inr rfl) (fun e => absurd e (by decide)) q
      · have q := (eg43_1_4_3 h (by omega) cz (by rw [hx]; decide)).2
        rw [nv, ei] at q
        exact fin 1 (.inr rfl) (fun e => absurd e (by decide)) q
theorem ew_tgA_1 {W R F : Nat → Int} {n : Nat} {w : px_W} {r : Option Value × px_W} (hWR : ∀ c, c < 8 → (0 ≤ W c ∧ W c ≤ R c) ∧ R c ≤ 999) (hF : ∀ c, c < 8 → -1000 ≤ F c ∧ F c ≤ 1000) (h1 : ef_a w 2 = R) (h2 : ef_a w 3 = W) (h8 : ∀ c, c < 8 → ef_a w 9 c = F c) (ha : ec_fd w 1 8 = eh_al W) (ht : ec_fd w 1 9 = eh_tl W) (h : ec_E hb_X n 43 0 [(0, .inr (.inl 65))] [] w r) : ∃ (v : Int) (w' : px_W), r = (ec_R v, w') ∧ ec_W hb_A w' ∧ ef_s [1, 3] w w' ∧ (∀ f, f ≠ 8 → f ≠ 9 → ec_fd w' 1 f = ec_fd w 1 f) ∧ (∀ c, c < 8 → ef_a w' 3 c = eh_nw W R F c) ∧ ec_fd w' 1 8 = eh_al (eh_nw W R F) ∧ ec_fd w' 1 9 = eh_tl (eh_nw W R F) ∧ (v = 0 ∨ v = 1) ∧ (v = 0 → ∀ c, c < 8 → eh_nw W R F c = W c) := by
  obtain ⟨y, x, y1, y2, y3, y4, y5⟩ := ew_tgl_1 hWR hF 8 n 0 w 0 r rfl h1 h8 (fun c hc => by rw [h2, if_neg (Nat.not_lt_zero _)]) (.inl rfl) (fun _ c hc => absurd hc (Nat.not_lt_zero _)) (eg43_1_0_0 h).2
  rcases y4 with hx | hx
  · obtain ⟨_, hr, hW⟩ := eg43_1_4_0 y1 (Int.le_refl _) (by rw [hx])
    have ez := y5 hx
    refine ⟨x, y, hr, hW, ef_s_mono y2 (by decide), fun f _ _ => ef_s_f y2 (by decide) f, y3, ?_, ?_, .inl hx, y5⟩
    · rw [ef_s_f y2 (by decide), ha, eh_al_cg ez]
    · rw [ef_s_f y2 (by decide), ht, eh_tl_cg ez]
  · obtain ⟨_, v, w1, q1, q2⟩ := eg43_1_4_1 y1 (Int.le_refl _) (by rw [hx]; decide)
    obtain ⟨w2, e2, W2, s2, f2⟩ := ew_weigh_1 q1
    obtain ⟨w3, e3, a3, t3⟩ := ew_wx_1 q1
    injection e2 with e2 i2
    subst i2
    injection e3 with e3 i3
    subst i3
    obtain ⟨_, hr, hW⟩ := eg43_1_87_0 (q2 e2 W2)
    refine ⟨x, _, hr, hW, ef_s_trans (ef_s_mono y2 (by decide)) (ef_s_mono s2 (by decide)), fun f g1 g2 => (f2 f g1 g2).trans (ef_s_f y2 (by decide) f), fun c hc => (congrFun (ef_s_a s2 (by decide)) c).trans (y3 c hc), ?_, ?_, .inr hx, y5⟩
    · rw [a3]
      exact eh_al_cg y3
    · rw [t3]
      exact eh_tl_cg y3
/-- a minute of the class -/
def eh_pm_1 (W R H P S D : Nat → Int) (w : px_W) (v : Int) (w' : px_W) : Prop := ef_s [1, 3, 8, 9] w w' ∧ ec_fd w' 1 0 = ec_fd w 1 0 + 1 ∧ (v = 0 ∨ v = 1) ∧ ((ec_fd w 1 1 ≠ -3 ∧ v = 0 ∧ ec_fd w' 1 1 = ec_fd w 1 1 ∧ (∀ c, c < 8 → ef_a w' 3 c = W c) ∧ ec_fd w' 1 8 = eh_al W ∧ ec_fd w' 1 9 = eh_tl W) ∨ (ec_fd w 1 1 = -3 ∧ (∀ c, c < 8 → ef_a w' 3 c = eh_nx W R H P S D (eh_al W) (eh_tl W) c) ∧ ec_fd w' 1 8 = eh_al (eh_nx W R H P S D (eh_al W) (eh_tl W)) ∧ ec_fd w' 1 9 = eh_tl (eh_nx W R H P S D (eh_al W) (eh_tl W)) ∧ (v = 0 → ∀ c, c < 8 → eh_nx W R H P S D (eh_al W) (eh_tl W) c = W c) ∧ ((eh_sk (eh_al (eh_nx W R H P S D (eh_al W) (eh_tl W))) (eh_tl (eh_nx W R H P S D (eh_al W) (eh_tl W))) ∧ ec_fd w' 1 1 = ec_fd w 1 0 + 1) ∨ (¬ eh_sk (eh_al (eh_nx W R H P S D (eh_al W) (eh_tl W))) (eh_tl (eh_nx W R H P S D (eh_al W) (eh_tl W))) ∧ ec_fd w' 1 1 = -3))))
theorem ew_pmA_1 {W R H P S D : Nat → Int} {n : Nat} {w : px_W} {r : Option Value × px_W} (hD : eh_D W R H P) (h1 : ef_a w 2 = R) (h2 : ef_a w 3 = W) (h3 : ef_a w 4 = H) (h4 : ef_a w 5 = P) (h5 : ef_a w 6 = S) (h6 : ef_a w 7 = D) (ha : ec_fd w 1 8 = eh_al W) (ht : ec_fd w 1 9 = eh_tl W) (hn : 0 ≤ ec_fd w 1 0 ∧ ec_fd w 1 0 ≤ 998) (h : ec_E hb_X n 39 0 [(0, .inr (.inl 65))] [] w r) : ∃ (v : Int) (w' : px_W), r = (ec_R v, w') ∧ ec_W hb_A w' ∧ eh_pm_1 W R H P S D w v w' := by
  have t3 : ec_tw (-3) = -3 := rfl
  have t100 : ec_tw 100 = 100 := rfl
  have hW := h.1
  have pf : ∀ f, ec_fd (ec_pf w 1 0 (ec_fd w 1 0 + 1)) 1 f = if f = 0 then ec_fd w 1 0 + 1 else ec_fd w 1 f := by
    intro f
    rw [ec_fd_pf (k := 1) (f := 0) hW rfl (by decide), ec_tw_id (by omega) (by omega)]
  have s0 : ef_s [1] w (ec_pf w 1 0 (ec_fd w 1 0 + 1)) := ef_s_pf List.mem_cons_self
  have p1 : ec_tw (ec_fd (ec_pf w 1 0 (ec_fd w 1 0 + 1)) 1 1) = ec_fd w 1 1 := by
    rw [ec_tw_fd, pf, if_neg (by decide)]
  by_cases hs : ec_fd w 1 1 = -3
  · obtain ⟨_, v1, w1, q1, q2⟩ := eg39_1_0_0 h (by rw [p1, t3]; exact hs)
    obtain ⟨y1, e1, W1, s1, f1⟩ := ew_fgA_1 hD ((ef_s_a s0 (by decide)).trans h1) ((ef_s_a s0 (by decide)).trans h2) ((ef_s_a s0 (by decide)).trans h3) ((ef_s_a s0 (by decide)).trans h4) ((ef_s_a s0 (by decide)).trans h5) ((ef_s_a s0 (by decide)).trans h6) ((pf 8).trans ((if_neg (by decide)).trans ha)) ((pf 9).trans ((if_neg (by decide)).trans ht)) q1
    injection e1 with e1 i1
    subst i1
    obtain ⟨_, v2, w2, q3, q4⟩ := eg39_1_25_0 (q2 e1 W1)
    have g1 : ∀ f, ec_fd w1 1 f = if f = 0 then ec_fd w 1 0 + 1 else ec_fd w 1 f := fun f => (ef_s_f s1 (by decide) f).trans (pf f)
    obtain ⟨x, y2, e2, W2, s2, f2, r2, a2, t2, x2, z2⟩ := ew_tgA_1 (W := W) (R := R) (F := eh_fl (eh_lv W R) S D (eh_g0 W R H P (eh_al W) (eh_tl W)) 7) (fun c hc => ⟨(hD c hc).1, (hD c hc).2.1.2⟩) (fun c hc => by have := eh_f7_in (S := S) (D := D) (a := eh_al W) (t := eh_tl W) hD (Nat.le_refl 7) hc; omega) ((ef_s_a s1 (by decide)).trans ((ef_s_a s0 (by decide)).trans h1)) ((ef_s_a s1 (by decide)).trans ((ef_s_a s0 (by decide)).trans h2)) f1 ((g1 8).trans ((if_neg (by decide)).trans ha)) ((g1 9).trans ((if_neg (by decide)).trans ht)) q3
    injection e2 with e2 i2
    subst i2
    have g2 : ∀ f, f ≠ 8 → f ≠ 9 → ec_fd w2 1 f = if f = 0 then ec_fd w 1 0 + 1 else ec_fd w 1 f := fun f k1 k2 => (f2 f k1 k2).trans (g1 f)
    have n2 : ec_fd w2 1 0 = ec_fd w 1 0 + 1 := (g2 0 (by decide) (by decide)).trans (if_pos rfl)
    have k2 : ec_fd w2 1 1 = -3 := (g2 1 (by decide) (by decide)).trans ((if_neg (by decide)).trans hs)
    have sT : ef_s [1, 3, 8, 9] w w2 := ef_s_trans (ef_s_mono s0 (by decide)) (ef_s_trans (ef_s_mono s1 (by decide)) (ef_s_mono s2 (by decide)))
    have A2 : ec_fd w2 1 8 = eh_al (eh_nx W R H P S D (eh_al W) (eh_tl W)) := a2
    have B2 : ec_fd w2 1 9 = eh_tl (eh_nx W R H P S D (eh_al W) (eh_tl W)) := t2
    obtain ⟨_, v3, w3, q5, q6⟩ := eg39_1_29_0 (q4 x e2 W2)
    obtain ⟨e3, W3⟩ := ew_ouA_1 q5
    injection e3 with e3 i3
    have i3' := i3.symm
    subst i3'
    have q7 := q6 _ e3 W3
    rw [A2, B2] at q7
    have o0 := eh_ou_in (eh_al (eh_nx W R H P S D (eh_al W) (eh_tl W))) (eh_tl (eh_nx W R H P S D (eh_al W) (eh_tl W))) 0
    have o7 := eh_ou_in (eh_al (eh_nx W R H P S D (eh_al W) (eh_tl W))) (eh_tl (eh_nx W R H P S D (eh_al W) (eh_tl W))) 7
    have u0 : ec_tw (eh_ou (eh_al (eh_nx W R H P S D (eh_al W) (eh_tl W))) (eh_tl (eh_nx W R H P S D (eh_al W) (eh_tl W))) 0) = eh_ou (eh_al (eh_nx W R H P S D (eh_al W) (eh_tl W))) (eh_tl (eh_nx W R H P S D (eh_al W) (eh_tl W))) 0 := ec_tw_id (by omega) (by omega)
    have u7 : ec_tw (eh_ou (eh_al (eh_nx W R H P S D (eh_al W) (eh_tl W))) (eh_tl (eh_nx W R H P S D (eh_al W) (eh_tl W))) 7) = eh_ou (eh_al (eh_nx W R H P S D (eh_al W) (eh_tl W))) (eh_tl (eh_nx W R H P S D (eh_al W) (eh_tl W))) 7 := ec_tw_id (by omega) (by omega)
    have pg : ∀ f, ec_fd (ec_pf w2 1 1 (ec_fd w2 1 0)) 1 f = if f = 1 then ec_fd w 1 0 + 1 else ec_fd w2 1 f := by
      intro f
      rw [ec_fd_pf (k := 1) (f := 1) W2 rfl (by decide), ec_tw_fd, n2]
    have sg : ef_s [1, 3, 8, 9] w (ec_pf w2 1 1 (ec_fd w2 1 0)) := ef_s_trans sT (ef_s_pf (by decide))
    have sunk : eh_sk (eh_al (eh_nx W R H P S D (eh_al W) (eh_tl W))) (eh_tl (eh_nx W R H P S D (eh_al W) (eh_tl W))) → ec_W hb_A (ec_pf w2 1 1 (ec_fd w2 1 0)) → r = (ec_R x, ec_pf w2 1 1 (ec_fd w2 1 0)) → ∃ (v : Int) (w' : px_W), r = (ec_R v, w') ∧ ec_W hb_A w' ∧ eh_pm_1 W R H P S D w v w' := by
      intro k1 k2 k3
      refine ⟨x, _, k3, k2, ?_⟩
      unfold eh_pm_1
      exact ⟨sg, (pg 0).trans ((if_neg (by decide)).trans n2), x2, .inr ⟨hs, fun c hc => (congrFun (ef_a_pf_o (by decide)) c).trans (r2 c hc), (pg 8).trans ((if_neg (by decide)).trans A2), (pg 9).trans ((if_neg (by decide)).trans B2), z2, .inl ⟨k1, (pg 1).trans (if_pos rfl)⟩⟩⟩
    by_cases d0 : eh_ou (eh_al (eh_nx W R H P S D (eh_al W) (eh_tl W))) (eh_tl (eh_nx W R H P S D (eh_al W) (eh_tl W))) 0 = 100
    · obtain ⟨_, hr, hW'⟩ := eg39_1_35_0 q7 (by rw [u0, t100]; exact d0)
      exact sunk (.inl d0) hW' hr
    · obtain ⟨_, v4, w4, q8, q9⟩ := eg39_1_35_1 q7 (by rw [u0, t100]; exact d0)
      obtain ⟨e4, W4⟩ := ew_ouA_1 q8
      injection e4 with e4 i4
      have i4' := i4.symm
      subst i4'
      have q10 := q9 _ e4 W4
      rw [A2, B2] at q10
      by_cases d7 : eh_ou (eh_al (eh_nx W R H P S D (eh_al W) (eh_tl W))) (eh_tl (eh_nx W R H P S D (eh_al W) (eh_tl W))) 7 = 100
      · obtain ⟨_, hr, hW'⟩ := eg39_1_46_1 q10 (by rw [u7, t100]; exact d7)
        exact sunk (.inr d7) hW' hr
      · obtain ⟨_, hr, hW'⟩ := eg39_1_46_0 q10 (by rw [u7, t100]; exact d7)
        refine ⟨x, _, hr, hW', ?_⟩
        unfold eh_pm_1
        exact ⟨sT, n2, x2, .inr ⟨hs, r2, A2, B2, z2, .inr ⟨fun e => e.elim d0 d7, k2⟩⟩⟩
  · obtain ⟨_, hr, hW'⟩ := eg39_1_0_1 h (by rw [p1, t3]; exact hs)
    refine ⟨0, _, hr, hW', ?_⟩
    unfold eh_pm_1
    refine ⟨ef_s_mono s0 (by decide), (pf 0).trans (if_pos rfl), .inl rfl, .inl ⟨hs, rfl, (pf 1).trans (if_neg (by decide)), fun c hc => ?_, (pf 8).trans ((if_neg (by decide)).trans ha), (pf 9).trans ((if_neg (by decide)).trans ht)⟩⟩
    rw [ef_s_a s0 (by decide), h2]

end
