noncomputable section
/-! A MINUTE OF THE REFERENCE -/
theorem ew_witB {n : Nat} {w : px_W} {r : Option Value × px_W} {x0 x1 x2 : Int} (h12 : ec_tw x1 ≤ ec_tw x2) (h : ec_E hb_X n 185 0 [(0, .inl x0), (1, .inl x1), (2, .inl x2)] [] w r) : ∃ v : Int, r = (ec_R v, w) ∧ ec_W hb_A w ∧ ec_tw v = max (ec_tw x1) (min (ec_tw x2) (ec_tw x0)) := by
  by_cases h1 : ec_tw x1 ≤ ec_tw x0
  · by_cases h2 : ec_tw x0 ≤ ec_tw x2
    · obtain ⟨_, hr, hW⟩ := eg185_0_0 h h1 h2
      exact ⟨x0, hr, hW, by omega⟩
    · obtain ⟨_, hr, hW⟩ := eg185_0_1 h h1 (by omega)
      exact ⟨x2, hr, hW, by omega⟩
  · obtain ⟨_, hr, hW⟩ := eg185_0_2 h (by omega)
    exact ⟨x1, hr, hW, by omega⟩
theorem ew_ouB {n : Nat} {w : px_W} {r : Option Value × px_W} {a t c : Int} (h9 : ec_fd w 151 9 = ec_tw (40 + ec_dv a 20)) (h10 : ec_fd w 151 10 = t) (h : ec_E hb_X n 188 0 [(0, .inr (.inl 215)), (1, .inl c)] [] w r) : r = (ec_R (eh_ou a t c), w) ∧ ec_W hb_A w := by
  have t0 : ec_tw 0 = 0 := rfl
  have t1 : ec_tw 100 = 100 := rfl
  obtain ⟨_, v, w1, q1, q2⟩ := eg188_151_0_0 h
  obtain ⟨v', e1, W1, f1⟩ := ew_witB (by rw [t0, t1]; decide) q1
  injection e1 with e1 i1
  have i2 := i1.symm
  subst i2
  obtain ⟨_, hr, hW⟩ := eg188_151_25_0 (q2 v' e1 W1)
  refine ⟨?_, hW⟩
  rw [h9, h10, ec_tw_addl, t0, t1] at f1
  have o := eh_ou_in a t c
  have eo : ec_tw (eh_ou a t c) = eh_ou a t c := ec_tw_id (by omega) (by omega)
  have e : ec_R v' = ec_R (eh_ou a t c) := ec_R_cg (by
    rw [f1, eo]
    rfl)
  rw [hr, e]
theorem ew_lvB {n : Nat} {w : px_W} {r : Option Value × px_W} {W R : Nat → Int} {c : Nat} (hc : c < 8) (hw : ef_a w 155 c = W c) (hr : ef_a w 152 (16 + c) = R c) (h : ec_E hb_X n 189 0 [(0, .inr (.inl 215)), (1, .inl (c : Int))] [] w r) : r = (ec_R (eh_lv W R c), w) ∧ ec_W hb_A w := by
  have tc : ec_tw (c : Int) = c := ec_twn (by omega)
  have te : ec_tw (16 + (c : Int)) = ((16 + c : Nat) : Int) := (ec_tw_id (by omega) (by omega)).trans (by omega)
  have q := (eg189_151_0_0 h).2
  rw [tc, te, ef_rd, ef_rd, hw, hr] at q
  exact q
theorem ew_ftl {W : Nat → Int} : ∀ (k n i : Nat) (w : px_W) (x1 x2 : Int) (r : Option Value × px_W), i + k = 8 → (∀ c, c < 8 → ef_a w 155 c = W c) → x1 = eh_all W i → x2 = eh_mom W i → ec_E hb_X n 187 6 [(0, .inr (.inl 215)), (1, .inl x1), (2, .inl x2), (3, .inl (i : Int))] [] w r → r = (none, ec_pf (ec_pf w 151 9 (40 + (ec_dv (eh_all W 8) 20))) 151 10 (ec_dv (eh_mom W 8) 100)) ∧ ec_W hb_A (ec_pf (ec_pf w 151 9 (40 + (ec_dv (eh_all W 8) 20))) 151 10 (ec_dv (eh_mom W 8) 100)) := by
  intro k
  induction k with
  | zero =>
    intro n i w x1 x2 r hik hw hx hy h
    have hi : i = 8 := by omega
    subst hi
    have q := (eg187_151_6_0 h (Int.le_refl _)).2
    rw [hx, hy] at q
    exact q
  | succ k ih =>
    intro n i w x1 x2 r hik hw hx hy h
    have ei : ec_tw (i : Int) = i := ec_twn (by omega)
    have t8 : ec_tw 8 = 8 := rfl
    have q := (eg187_151_6_1 h (by omega)).2
    rw [ei, ef_rd, hw i (by omega)] at q
    exact ih n (i + 1) w _ _ r (by omega) hw (by rw [hx]; rfl) (by rw [hy]; rfl) q
theorem ew_ftB {W : Nat → Int} {n : Nat} {w : px_W} {r : Option Value × px_W} (hw : ∀ c, c < 8 → ef_a w 155 c = W c) (h : ec_E hb_X n 187 0 [(0, .inr (.inl 215))] [] w r) : ∃ w' : px_W, r = (none, w') ∧ ec_W hb_A w' ∧ ef_s [151] w w' ∧ (∀ f, f ≠ 9 → f ≠ 10 → ec_fd w' 151 f = ec_fd w 151 f) ∧ ec_fd w' 151 9 = ec_tw (40 + ec_dv (eh_al W) 20) ∧ ec_fd w' 151 10 = eh_tl W := by
  obtain ⟨hr, hW⟩ := ew_ftl 8 n 0 w 0 0 r rfl hw rfl rfl (eg187_151_0_0 h).2
  have W1 : ec_W hb_A (ec_pf w 151 9 (40 + (ec_dv (eh_all W 8) 20))) := ec_W_pf (k := 151) (f := 9) rfl rfl h.1
  have g : ∀ f, ec_fd (ec_pf (ec_pf w 151 9 (40 + (ec_dv (eh_all W 8) 20))) 151 10 (ec_dv (eh_mom W 8) 100)) 151 f = if f = 10 then ec_tw (ec_dv (eh_mom W 8) 100) else if f = 9 then ec_tw (40 + (ec_dv (eh_all W 8) 20)) else ec_fd w 151 f := by
    intro f
    rw [ec_fd_pf (k := 151) (f := 10) W1 rfl (by decide), ec_fd_pf (k := 151) (f := 9) h.1 rfl (by decide)]
  refine ⟨_, hr, hW, ef_s_trans (ef_s_pf List.mem_cons_self) (ef_s_pf List.mem_cons_self), fun f h1 h2 => ?_, ?_, ?_⟩
  · rw [g, if_neg h2, if_neg h1]
  · rw [g, if_neg (by decide), if_pos rfl]
    unfold eh_al
    rw [ec_dv_tw]
  · rw [g, if_pos rfl, ec_tw_dv]
    rfl
/-- what lies in the reference's rows -/
def eh_B (w : px_W) (W R H P S D : Nat → Int) : Prop := ∀ c, c < 8 → ef_a w 155 c = W c ∧ ef_a w 156 c = H c ∧ ef_a w 152 (16 + c) = R c ∧ ef_a w 152 (40 + c) = P c ∧ (c < 7 → ef_a w 157 c = S c ∧ ef_a w 152 (56 + c) = D c)
theorem eh_B_s {T : List Nat} {w w' : px_W} {W R H P S D : Nat → Int} (hs : ef_s T w w') (h5 : 155 ∉ T) (h6 : 156 ∉ T) (h7 : 157 ∉ T) (h2 : 152 ∉ T) (h : eh_B w W R H P S D) : eh_B w' W R H P S D := by
  intro c hc
  rw [ef_s_a hs h5, ef_s_a hs h6, ef_s_a hs h7, ef_s_a hs h2]
  exact h c hc
theorem eh_wr2 {w : px_W} {i : Nat} {x : Int} (hW : ec_W hb_A w) (hi : i < 8) : ef_s [158] w (ec_wr (ec_wr w 158 (i : Int) x) 158 (i : Int) ((ec_rd (ec_wr w 158 (i : Int) x) 158 (i : Int)) - (ec_rd (ec_wr w 158 (i : Int) x) 152 ((40 + i : Nat) : Int)))) ∧ ef_a (ec_wr (ec_wr w 158 (i : Int) x) 158 (i : Int) ((ec_rd (ec_wr w 158 (i : Int) x) 158 (i : Int)) - (ec_rd (ec_wr w 158 (i : Int) x) 152 ((40 + i : Nat) : Int)))) 158 = ef_u (ef_a w 158) i (ec_tw (ec_tw x - ef_a w 152 (40 + i))) := by
  have W1 : ec_W hb_A (ec_wr w 158 (i : Int) x) := ec_W_wr hW
  refine ⟨ef_s_trans (ef_s_wr (by decide)) (ef_s_wr (by decide)), ?_⟩
  have a1 : ec_rd (ec_wr w 158 (i : Int) x) 158 (i : Int) = ec_tw x := by
    rw [ec_rd_wr (n := 8) hW rfl (by omega) (by omega) (by omega), if_pos rfl]
  have a2 : ec_rd (ec_wr w 158 (i : Int) x) 152 ((40 + i : Nat) : Int) = ef_a w 152 (40 + i) := ec_rd_wr_o (by decide)
  rw [a1, a2, ef_a_wr (n := 8) W1 rfl (by omega) (by omega), ef_a_wr (n := 8) hW rfl (by omega) (by omega), Int.toNat_natCast]
  funext c
  unfold ef_u
  by_cases h : c = i
  · rw [if_pos h, if_pos h]
  · rw [if_neg h, if_neg h, if_neg h]
theorem ew_pa1 {W R H P S D : Nat → Int} {a t : Int} (hD : eh_D W R H P) : ∀ (k n i : Nat) (w : px_W) (r : Option Value × px_W), i + k = 8 → eh_B w W R H P S D → ec_fd w 151 9 = ec_tw (40 + ec_dv a 20) → ec_fd w 151 10 = t → (∀ c, c < i → ef_a w 158 c = eh_g0 W R H P a t c) → ec_E hb_X n 190 6 [(0, .inr (.inl 215)), (1, .inl (i : Int))] [] w r → ∃ w' : px_W, ec_E hb_X n 190 75 [(0, .inr (.inl 215)), (1, .inl 0)] [] w' r ∧ ef_s [158] w w' ∧ ∀ c, c < 8 → ef_a w' 158 c = eh_g0 W R H P a t c := by
  intro k
  induction k with
  | zero =>
    intro n i w r hik hB h9 h10 hc h
    have hi : i = 8 := by omega
    subst hi
    exact ⟨w, (eg190_151_6_0 h (Int.le_refl _)).2, ef_s_refl, hc⟩
  | succ k ih =>
    intro n i w r hik hB h9 h10 hc h
    have ei : ec_tw (i : Int) = i := ec_twn (by omega)
    have e40 : ec_tw (40 + (i : Int)) = ((40 + i : Nat) : Int) := (ec_tw_id (by omega) (by omega)).trans (by omega)
    have t0 : ec_tw 0 = 0 := rfl
    have t8 : ec_tw 8 = 8 := rfl
    obtain ⟨d1, d2, d3, d4⟩ := hD i (by omega)
    obtain ⟨b1, b2, b3, b4, _⟩ := hB i (by omega)
    have l := eh_lv_in hD (c := i) (by omega)
    have o := eh_ou_in a t (i : Int)
    have g := eh_g0_in (a := a) (t := t) hD (c := i) (by omega)
    obtain ⟨_, v, w1, q1, q2⟩ := eg190_151_6_1 h (by omega)
    obtain ⟨e1, W1⟩ := ew_ouB h9 h10 q1
    injection e1 with e1 i1
    have i2 := i1.symm
    subst i2
    obtain ⟨_, v2, w2, q3, q4⟩ := eg190_151_17_0 (q2 _ e1 W1)
    obtain ⟨e2, W2⟩ := ew_lvB (by omega) b1 b3 q3
    injection e2 with e2 j1
    have j2 := j1.symm
    subst j2
    have q5 := q4 _ e2 W2
    have tb : ec_tw (eh_ou a t (i : Int) - eh_lv W R i) = eh_ou a t (i : Int) - eh_lv W R i := ec_tw_id (by omega) (by omega)
    have fin : ∀ x : Int, ec_tw x = eh_in (H i) (eh_ou a t (i : Int) - eh_lv W R i) → ec_E hb_X n 190 6 [(0, .inr (.inl 215)), (1, .inl ((i : Int) + 1))] [] (ec_wr (ec_wr w 158 (i : Int) x) 158 (i : Int) ((ec_rd (ec_wr w 158 (i : Int) x) 158 (i : Int)) - (ec_rd (ec_wr w 158 (i : Int) x) 152 ((40 + i : Nat) : Int)))) r → ∃ w' : px_W, ec_E hb_X n 190 75 [(0, .inr (.inl 215)), (1, .inl 0)] [] w' r ∧ ef_s [158] w w' ∧ ∀ c, c < 8 → ef_a w' 158 c = eh_g0 W R H P a t c := by
      intro x hx q
      obtain ⟨s1, f1⟩ := eh_wr2 (w := w) (i := i) (x := x) h.1 (by omega)
      obtain ⟨w', g1, g2, g3⟩ := ih n (i + 1) _ r (by omega) (eh_B_s s1 (by decide) (by decide) (by decide) (by decide) hB) ((ef_s_f s1 (by decide) 9).trans h9) ((ef_s_f s1 (by decide) 10).trans h10) (fun c hc2 => by
        rw [f1, hx, b4]
        unfold ef_u
        by_cases hci : c = i
        · rw [if_pos hci, hci]
          unfold eh_g0 at g ⊢
          exact ec_tw_id (by omega) (by omega)
        · rw [if_neg hci]
          exact hc c (by omega)) q
      exact ⟨w', g1, ef_s_trans s1 g2, g3⟩
    by_cases hb : 0 < eh_ou a t (i : Int) - eh_lv W R i
    · have q6 := (eg190_151_22_1 q5 (by rw [tb, t0]; exact hb)).2
      rw [ei, e40, ef_rd w 156 i, b2] at q6
      exact fin _ (by
        rw [ec_tw_dv]
        unfold eh_in
        rw [if_pos hb]) q6
    · have q6 := (eg190_151_22_0 q5 (by rw [tb, t0]; omega)).2
      rw [ei, e40] at q6
      exact fin _ (by
        rw [t0]
        unfold eh_in
        rw [if_neg hb]) q6
theorem eh_wr3 {w : px_W} {i : Nat} {z z' : Int} {G : Nat → Int} (hW : ec_W hb_A w) (hi : i < 7) (hG : ∀ c, c < 8 → -1000 ≤ G c ∧ G c ≤ 1000) (hz : -1000 ≤ z ∧ z ≤ 1000) (hz' : -1000 ≤ z' ∧ z' ≤ 1000) (h8 : ∀ c, c < 8 → ef_a w 158 c = G c) : ef_s [158] w (ec_wr (ec_wr w 158 (i : Int) (G i + z)) 158 ((i + 1 : Nat) : Int) (G (i + 1) + z')) ∧ (ec_rd (ec_wr w 158 (i : Int) (G i + z)) 158 ((i + 1 : Nat) : Int) = G (i + 1)) ∧ ∀ c, c < 8 → ef_a (ec_wr (ec_wr w 158 (i : Int) (G i + z)) 158 ((i + 1 : Nat) : Int) (G (i + 1) + z')) 158 c = if c = i then G c + z else if c = i + 1 then G c + z' else G c := by
  have W1 : ec_W hb_A (ec_wr w 158 (i : Int) (G i + z)) := ec_W_wr hW
  have b0 := hG i (by omega)
  have b1 := hG (i + 1) (by omega)
  refine ⟨ef_s_trans (ef_s_wr (by decide)) (ef_s_wr (by decide)), ?_, fun c hc => ?_⟩
  · rw [ec_rd_wr (n := 8) hW rfl (by omega) (by omega) (by omega), if_neg (by omega)]
    exact h8 (i + 1) (by omega)
  · rw [ef_a_wr (n := 8) W1 rfl (by omega) (by omega), ef_a_wr (n := 8) hW rfl (by omega) (by omega), Int.toNat_natCast, Int.toNat_natCast]
    unfold ef_u
    by_cases c1 : c = i
    · rw [if_neg (by omega), if_pos c1, if_pos c1, c1]
      exact ec_tw_id (by omega) (by omega)
    · by_cases c2 : c = i + 1
      · rw [if_pos c2, if_neg c1, if_pos c2, c2]
        exact ec_tw_id (by omega) (by omega)
      · rw [if_neg c2, if_neg c1, if_neg c1, if_neg c2]
        exact h8 c hc
theorem ew_pwB {w : px_W} {r : Option Value × px_W} {L S D G : Nat → Int} {i n : Nat} (hi : i < 7) (hL : ∀ c, c < 8 → 0 ≤ L c ∧ L c ≤ 100) (hG : ∀ c, c < 8 → -1000 ≤ G c ∧ G c ≤ 1000) (h5 : ef_a w 157 i = S i) (h6 : ef_a w 152 (56 + i) = D i) (h8 : ∀ c, c < 8 → ef_a w 158 c = G c) (h : ec_E hb_X n 190 94 [(0, .inr (.inl 215)), (1, .inl (i : Int)), (2, .inl (L i))] [.inl (L (i + 1))] w r) : ∃ w' : px_W, ec_E hb_X n 190 75 [(0, .inr (.inl 215)), (1, .inl ((i : Int) + 1))] [] w' r ∧ ef_s [158] w w' ∧ ∀ c, c < 8 → ef_a w' 158 c = eh_st L S D G i c := by
  have ei : ec_tw (i : Int) = i := ec_twn (by omega)
  have ei1 : ec_tw ((i : Int) + 1) = ((i + 1 : Nat) : Int) := (ec_tw_id (by omega) (by omega)).trans (by omega)
  have e56 : ec_tw (56 + (i : Int)) = ((56 + i : Nat) : Int) := (ec_tw_id (by omega) (by omega)).trans (by omega)
  have t0 : ec_tw 0 = 0 := rfl
  have t1 : ec_tw 1 = 1 := rfl
  have li := hL i (by omega)
  have lj := hL (i + 1) (by omega)
  have go := eh_go_in (S := S) (D := D) li lj
  have ti : ec_tw (L i) = L i := ec_tw_id (by omega) (by omega)
  have tj : ec_tw (L (i + 1)) = L (i + 1) := ec_tw_id (by omega) (by omega)
  have sl : ∃ s : Int, s = (if D i = 1 then 0 else S i) ∧ (-2147483648 ≤ s ∧ s ≤ 2147483647) ∧ ec_E hb_X n 190 118 [(0, .inr (.inl 215)), (1, .inl (i : Int)), (2, .inl (L i)), (3, .inl (L (i + 1)))] [.inl s] w r := by
    by_cases hd : D i = 1
    · exact ⟨0, by rw [if_pos hd], by decide, (eg190_151_94_1 h (by rw [e56, ef_rd, ef_tw, h6, hd, t1])).2⟩
    · have q := (eg190_151_94_0 h (by rw [e56, ef_rd, ef_tw, h6, t1]; exact hd)).2
      have b := ef_in w 157 i
      rw [ei, ef_rd, h5] at q
      rw [h5] at b
      exact ⟨S i, by rw [if_neg hd], b, q⟩
  obtain ⟨s, hs, sr, q1⟩ := sl
  have ts : ec_tw s = s := ec_tw_id sr.1 sr.2
  have q2 : ec_E hb_X n 190 130 [(0, .inr (.inl 215)), (1, .inl (i : Int)), (2, .inl (L i)), (3, .inl (L (i + 1))), (4, .inl s)] [.inl (min (L i) (L (i + 1)))] w r := by
    by_cases hl : L i < L (i + 1)
    · have e : min (L i) (L (i + 1)) = L i := by omega
      rw [e]
      exact (eg190_151_118_1 q1 (by rw [ti, tj]; exact hl)).2
    · have e : min (L i) (L (i + 1)) = L (i + 1) := by omega
      rw [e]
      exact (eg190_151_118_0 q1 (by rw [ti, tj]; omega)).2
  have q3 : ec_E hb_X n 190 142 [(0, .inr (.inl 215)), (1, .inl (i : Int)), (2, .inl (L i)), (3, .inl (L (i + 1))), (4, .inl s), (5, .inl (min (L i) (L (i + 1))))] [.inl (max (L i) (L (i + 1)))] w r := by
    by_cases hl : L i < L (i + 1)
    · have e : max (L i) (L (i + 1)) = L (i + 1) := by omega
      rw [e]
      exact (eg190_151_130_1 q2 (by rw [ti, tj]; exact hl)).2
    · have e : max (L i) (L (i + 1)) = L i := by omega
      rw [e]
      exact (eg190_151_130_0 q2 (by rw [ti, tj]; omega)).2
  have tm : ec_tw (min (L i) (L (i + 1))) = min (L i) (L (i + 1)) := ec_tw_id (by omega) (by omega)
  have tx : ec_tw (max (L i) (L (i + 1))) = max (L i) (L (i + 1)) := ec_tw_id (by omega) (by omega)
  have q4 : ec_E hb_X n 190 158 [(0, .inr (.inl 215)), (1, .inl (i : Int)), (2, .inl (L i)), (3, .inl (L (i + 1))), (4, .inl s), (5, .inl (min (L i) (L (i + 1)))), (6, .inl (max (L i) (L (i + 1))))] [.inl (max s (min (L i) (L (i + 1))))] w r := by
    by_cases hl : s ≤ min (L i) (L (i + 1))
    · have e : max s (min (L i) (L (i + 1))) = min (L i) (L (i + 1)) := by omega
      rw [e]
      exact (eg190_151_142_0 q3 (by rw [ts, tm]; exact hl)).2
    · have e : max s (min (L i) (L (i + 1))) = s := by omega
      rw [e]
      exact (eg190_151_142_1 q3 (by rw [ts, tm]; omega)).2
  have tb : ec_tw (max s (min (L i) (L (i + 1)))) = max s (min (L i) (L (i + 1))) := ec_tw_id (by omega) (by omega)
  have hv : eh_go L S D i = if max s (min (L i) (L (i + 1))) < max (L i) (L (i + 1)) then ec_dv (max (L i) (L (i + 1)) - max s (min (L i) (L (i + 1)))) 4 else 0 := by
    rw [hs]
    rfl
  have q5 : ec_E hb_X n 190 178 [(0, .inr (.inl 215)), (1, .inl (i : Int)), (2, .inl (L i)), (3, .inl (L (i + 1))), (4, .inl s), (5, .inl (min (L i) (L (i + 1)))), (6, .inl (max (L i) (L (i + 1)))), (7, .inl (max s (min (L i) (L (i + 1)))))] [.inl (eh_go L S D i)] w r := by
    by_cases ho : max s (min (L i) (L (i + 1))) < max (L i) (L (i + 1))
    · rw [hv, if_pos ho]
      exact (eg190_151_158_1 q4 (by rw [tb, tx]; exact ho)).2
    · rw [hv, if_neg ho]
      exact (eg190_151_158_0 q4 (by rw [tb, tx]; omega)).2
  have g0 : ec_rd w 158 (i : Int) = G i := h8 i (by omega)
  by_cases hl : L i < L (i + 1)
  · have q6 := (eg190_151_178_1 q5 (by rw [ti, tj]; exact hl)).2
    have q7 := (eg190_151_200_1 q6 (by rw [ti, tj]; exact hl)).2
    have q8 := (eg190_151_224_0 q7).2
    obtain ⟨s3, r3, f3⟩ := eh_wr3 (w := w) (i := i) (z := eh_go L S D i) (z' := -(eh_go L S D i)) h.1 hi hG (by omega) (by omega) h8
    rw [ei, ei1, g0, r3] at q8
    refine ⟨_, q8, s3, fun c hc => ?_⟩
    rw [f3 c hc]
    unfold eh_st
    rw [if_pos hl, if_pos hl]
  · have q6 := (eg190_151_178_0 q5 (by rw [ti, tj]; omega)).2
    have q7 := (eg190_151_200_0 q6 (by rw [ti, tj]; omega)).2
    have q8 := (eg190_151_224_0 q7).2
    obtain ⟨s3, r3, f3⟩ := eh_wr3 (w := w) (i := i) (z := -(eh_go L S D i)) (z' := eh_go L S D i) h.1 hi hG (by omega) (by omega) h8
    rw [ei, ei1, g0, r3] at q8
    refine ⟨_, q8, s3, fun c hc => ?_⟩
    rw [f3 c hc]
    unfold eh_st
    rw [if_neg hl, if_neg hl]
theorem ew_pa2 {W R H P S D G : Nat → Int} (hL : ∀ c, c < 8 → 0 ≤ eh_lv W R c ∧ eh_lv W R c ≤ 100) (hF : ∀ k, k ≤ 7 → ∀ c, c < 8 → -1000 ≤ eh_fl (eh_lv W R) S D G k c ∧ eh_fl (eh_lv W R) S D G k c ≤ 1000) : ∀ (k n i : Nat) (w : px_W) (r : Option Value × px_W), i + k = 7 → eh_B w W R H P S D → (∀ c, c < 8 → ef_a w 158 c = eh_fl (eh_lv W R) S D G i c) → ec_E hb_X n 190 75 [(0, .inr (.inl 215)), (1, .inl (i : Int))] [] w r → ∃ w' : px_W, ec_E hb_X n 190 234 [(0, .inr (.inl 215)), (1, .inl 0)] [] w' r ∧ ef_s [158] w w' ∧ ∀ c, c < 8 → ef_a w' 158 c = eh_fl (eh_lv W R) S D G 7 c := by
  intro k
  induction k with
  | zero =>
    intro n i w r hik hB h8 h
    have hi : i = 7 := by omega
    subst hi
    exact ⟨w, (eg190_151_75_0 h (Int.le_refl _)).2, ef_s_refl, h8⟩
  | succ k ih =>
    intro n i w r hik hB h8 h
    have ei : ec_tw (i : Int) = i := ec_twn (by omega)
    have t7 : ec_tw 7 = 7 := rfl
    obtain ⟨b1, b2, b3, b4, b5⟩ := hB i (by omega)
    obtain ⟨c1, c2, c3, c4, _⟩ := hB (i + 1) (by omega)
    obtain ⟨_, v, w1, q1, q2⟩ := eg190_151_75_1 h (by omega)
    obtain ⟨e1, W1⟩ := ew_lvB (by omega) b1 b3 q1
    injection e1 with e1 i1
    have i2 := i1.symm
    subst i2
    obtain ⟨_, v2, w2, q3, q4⟩ := eg190_151_86_0 (q2 _ e1 W1)
    obtain ⟨e2, W2⟩ := ew_lvB (c := i + 1) (by omega) c1 c3 q3
    injection e2 with e2 j1
    have j2 := j1.symm
    subst j2
    obtain ⟨w', g1, g2, g3⟩ := ew_pwB (L := eh_lv W R) (S := S) (D := D) (by omega) hL (hF i (by omega)) (b5 (by omega)).1 (b5 (by omega)).2 h8 (q4 _ e2 W2)
    obtain ⟨w3, k1, k2, k3⟩ := ih n (i + 1) w' r (by omega) (eh_B_s g2 (by decide) (by decide) (by decide) (by decide) hB) g3 g1
    exact ⟨w3, k1, ef_s_trans g2 k2, k3⟩
theorem ew_pa3 {W R F : Nat → Int} (hWR : ∀ c, c < 8 → (0 ≤ W c ∧ W c ≤ R c) ∧ R c ≤ 999) (hF : ∀ c, c < 8 → -1000 ≤ F c ∧ F c ≤ 1000) : ∀ (k n i : Nat) (w : px_W) (r : Option Value × px_W), i + k = 8 → (∀ c, c < 8 → ef_a w 152 (16 + c) = R c) → (∀ c, c < 8 → ef_a w 158 c = F c) → (∀ c, c < 8 → ef_a w 155 c = if c < i then eh_nw W R F c else W c) → ec_E hb_X n 190 234 [(0, .inr (.inl 215)), (1, .inl (i : Int))] [] w r → ∃ y : px_W, ec_E hb_X n 190 234 [(0, .inr (.inl 215)), (1, .inl 8)] [] y r ∧ ef_s [155] w y ∧ ∀ c, c < 8 → ef_a y 155 c = eh_nw W R F c := by
  intro k
  induction k with
  | zero =>
    intro n i w r hik h1 h8 h2 h
    have hi : i = 8 := by omega
    subst hi
    exact ⟨w, h, ef_s_refl, fun c hc => by rw [h2 c hc, if_pos hc]⟩
  | succ k ih =>
    intro n i w r hik h1 h8 h2 h
    have ei : ec_tw (i : Int) = i := ec_twn (by omega)
    have e16 : ec_tw (16 + (i : Int)) = ((16 + i : Nat) : Int) := (ec_tw_id (by omega) (by omega)).trans (by omega)
    have t0 : ec_tw 0 = 0 := rfl
    have t8 : ec_tw 8 = 8 := rfl
    obtain ⟨⟨b1, b2⟩, b3⟩ := hWR i (by omega)
    have b4 := hF i (by omega)
    obtain ⟨_, v, w1, q1, q2⟩ := eg190_151_234_1 h (by omega)
    have x1 : ec_rd w 155 (ec_tw (i : Int)) + ec_rd w 158 (ec_tw (i : Int)) = W i + F i := by
      rw [ei, ef_rd, ef_rd, h2 i (by omega), if_neg (Nat.lt_irrefl i), h8 i (by omega)]
    have x2 : ec_rd w 152 (ec_tw (16 + (i : Int))) = R i := by
      rw [e16, ef_rd, h1 i (by omega)]
    rw [x1, x2] at q1
    have tr : ec_tw (R i) = R i := ec_tw_id (by omega) (by omega)
    have tf : ec_tw (W i + F i) = W i + F i := ec_tw_id (by omega) (by omega)
    obtain ⟨z, e1, W1, f1⟩ := ew_witB (by rw [t0, tr]; omega) q1
    injection e1 with e1 i1
    have i2 := i1.symm
    subst i2
    rw [t0, tr, tf] at f1
    have q3 := (eg190_151_271_0 (q2 z e1 W1)).2
    rw [ei] at q3
    have sw : ef_s [155] w (ec_wr w 155 (i : Int) z) := ef_s_wr (by decide)
    obtain ⟨y, y1, y2, y3⟩ := ih n (i + 1) _ r (by omega) (fun c hc => (congrFun (ef_s_a sw (by decide)) _).trans (h1 c hc)) (fun c hc => (congrFun (ef_s_a sw (by decide)) c).trans (h8 c hc)) (fun c hc => by
      rw [ef_a_wr (n := 8) h.1 rfl (by omega) (by omega), Int.toNat_natCast, f1]
      unfold ef_u
      by_cases hci : c = i
      · rw [if_pos hci, if_pos (by omega), hci]
        rfl
      · rw [if_neg hci, h2 c hc]
        by_cases hlt : c < i
        · rw [if_pos hlt, if_pos (by omega)]
        · rw [if_neg hlt, if_neg (by omega)]) q3
    exact ⟨y, y1, ef_s_trans sw y2, y3⟩
theorem ew_paB {W R H P S D : Nat → Int} {n : Nat} {w : px_W} {r : Option Value × px_W} (hD : eh_D W R H P) (hB : eh_B w W R H P S D) (h : ec_E hb_X n 190 0 [(0, .inr (.inl 215))] [] w r) : ∃ (v : Int) (w' : px_W), r = (ec_R v, w') ∧ ec_W hb_A w' ∧ ef_s [151, 155, 158] w w' ∧ (∀ f, f ≠ 9 → f ≠ 10 → ec_fd w' 151 f = ec_fd w 151 f) ∧ (∀ c, c < 8 → ef_a w' 155 c = eh_nx W R H P S D (eh_al W) (eh_tl W) c) ∧ ((eh_sk (eh_al (eh_nx W R H P S D (eh_al W) (eh_tl W))) (eh_tl (eh_nx W R H P S D (eh_al W) (eh_tl W))) ∧ v = 1) ∨ (¬ eh_sk (eh_al (eh_nx W R H P S D (eh_al W) (eh_tl W))) (eh_tl (eh_nx W R H P S D (eh_al W) (eh_tl W))) ∧ v = 0)) := by
  have t100 : ec_tw 100 = 100 := rfl
  obtain ⟨_, v1, w1, q1, q2⟩ := eg190_151_0_0 h
  obtain ⟨y1, e1, W1, s1, f1, a1, t1⟩ := ew_ftB (W := W) (fun c hc => (hB c hc).1) q1
  injection e1 with e1 i1
  subst i1
  have q3 := (eg190_151_4_0 (q2 e1 W1)).2
  have hB1 := eh_B_s s1 (by decide) (by decide) (by decide) (by decide) hB
  obtain ⟨w2, q4, s2, f2⟩ := ew_pa1 hD 8 n 0 w1 r rfl hB1 a1 t1 (fun c hc => absurd hc (Nat.not_lt_zero _)) q3
  have hB2 := eh_B_s s2 (by decide) (by decide) (by decide) (by decide) hB1
  obtain ⟨w3, q5, s3, f3⟩ := ew_pa2 (G := eh_g0 W R H P (eh_al W) (eh_tl W)) (fun c hc => eh_lv_in hD hc) (fun k hk c hc => by have := eh_f7_in (S := S) (D := D) (a := eh_al W) (t := eh_tl W) hD hk hc; omega) 7 n 0 w2 r rfl hB2 f2 q4
  have hB3 := eh_B_s s3 (by decide) (by decide) (by decide) (by decide) hB2
  obtain ⟨w4, q6, s4, f4⟩ := ew_pa3 (W := W) (R := R) (F := eh_fl (eh_lv W R) S D (eh_g0 W R H P (eh_al W) (eh_tl W)) 7) (fun c hc => ⟨(hD c hc).1, (hD c hc).2.1.2⟩) (fun c hc => by have := eh_f7_in (S := S) (D := D) (a := eh_al W) (t := eh_tl W) hD (Nat.le_refl 7) hc; omega) 8 n 0 w3 r rfl (fun c hc => (hB3 c hc).2.2.1) f3 (fun c hc => by rw [if_neg (Nat.not_lt_zero _)]; exact (hB3 c hc).1) q5
  obtain ⟨_, v5, w5, q7, q8⟩ := eg190_151_234_0 q6 (Int.le_refl _)
  obtain ⟨y5, e5, W5, s5, f5, a5, t5⟩ := ew_ftB (W := eh_nx W R H P S D (eh_al W) (eh_tl W)) f4 q7
  injection e5 with e5 i5
  subst i5
  have sT : ef_s [151, 155, 158] w w5 := ef_s_trans (ef_s_mono s1 (by decide)) (ef_s_trans (ef_s_mono s2 (by decide)) (ef_s_trans (ef_s_mono s3 (by decide)) (ef_s_trans (ef_s_mono s4 (by decide)) (ef_s_mono s5 (by decide)))))
  have fT : ∀ f, f ≠ 9 → f ≠ 10 → ec_fd w5 151 f = ec_fd w 151 f := fun f k1 k2 => (f5 f k1 k2).trans ((ef_s_f s4 (by decide) f).trans ((ef_s_f s3 (by decide) f).trans ((ef_s_f s2 (by decide) f).trans (f1 f k1 k2))))
  have rT : ∀ c, c < 8 → ef_a w5 155 c = eh_nx W R H P S D (eh_al W) (eh_tl W) c := fun c hc => (congrFun (ef_s_a s5 (by decide)) c).trans (f4 c hc)
  have q9 := q8 e5 W5
  have o0 := eh_ou_in (eh_al (eh_nx W R H P S D (eh_al W) (eh_tl W))) (eh_tl (eh_nx W R H P S D (eh_al W) (eh_tl W))) 0
  have o7 := eh_ou_in (eh_al (eh_nx W R H P S D (eh_al W) (eh_tl W))) (eh_tl (eh_nx W R H P S D (eh_al W) (eh_tl W))) 7
  have u0 : ec_tw (eh_ou (eh_al (eh_nx W R H P S D (eh_al W) (eh_tl W))) (eh_tl (eh_nx W R H P S D (eh_al W) (eh_tl W))) 0) = eh_ou (eh_al (eh_nx W R H P S D (eh_al W) (eh_tl W))) (eh_tl (eh_nx W R H P S D (eh_al W) (eh_tl W))) 0 := ec_tw_id (by omega) (by omega)
  have u7 : ec_tw (eh_ou (eh_al (eh_nx W R H P S D (eh_al W) (eh_tl W))) (eh_tl (eh_nx W R H P S D (eh_al W) (eh_tl W))) 7) = eh_ou (eh_al (eh_nx W R H P S D (eh_al W) (eh_tl W))) (eh_tl (eh_nx W R H P S D (eh_al W) (eh_tl W))) 7 := ec_tw_id (by omega) (by omega)
  obtain ⟨_, v6, w6, q10, q11⟩ := eg190_151_282_0 q9
  obtain ⟨e6, W6⟩ := ew_ouB a5 t5 q10
  injection e6 with e6 i6
  have i6' := i6.symm
  subst i6'
  have q12 := q11 _ e6 W6
  by_cases d0 : eh_ou (eh_al (eh_nx W R H P S D (eh_al W) (eh_tl W))) (eh_tl (eh_nx W R H P S D (eh_al W) (eh_tl W))) 0 = 100
  · obtain ⟨_, hr, hW⟩ := eg190_151_287_0 q12 (by rw [u0, t100]; exact d0)
    exact ⟨1, _, hr, hW, sT, fT, rT, .inl ⟨.inl d0, rfl⟩⟩
  · obtain ⟨_, v7, w7, q13, q14⟩ := eg190_151_287_1 q12 (by rw [u0, t100]; exact d0)
    obtain ⟨e7, W7⟩ := ew_ouB a5 t5 q13
    injection e7 with e7 i7
    have i7' := i7.symm
    subst i7'
    have q15 := q14 _ e7 W7
    by_cases d7 : eh_ou (eh_al (eh_nx W R H P S D (eh_al W) (eh_tl W))) (eh_tl (eh_nx W R H P S D (eh_al W) (eh_tl W))) 7 = 100
    · obtain ⟨_, hr, hW⟩ := eg190_151_298_1 q15 (by rw [u7, t100]; exact d7)
      exact ⟨1, _, hr, hW, sT, fT, rT, .inl ⟨.inr d7, rfl⟩⟩
    · obtain ⟨_, hr, hW⟩ := eg190_151_298_0 q15 (by rw [u7, t100]; exact d7)
      exact ⟨0, _, hr, hW, sT, fT, rT, .inr ⟨fun e => e.elim d0 d7, rfl⟩⟩
theorem ew_lol : ∀ (k n i : Nat) (w : px_W) (r : Option Value × px_W), i + k = 8 → ec_E hb_X n 186 2 [(0, .inr (.inl 215)), (1, .inl (i : Int))] [] w r → ∃ w' : px_W, r = (none, w') ∧ ec_W hb_A w' ∧ ef_s [155, 156, 157] w w' ∧ ∀ c, c < 8 → ef_a w' 155 c = (if i ≤ c then ef_a w 152 (24 + c) else ef_a w 155 c) ∧ ef_a w' 156 c = (if i ≤ c then ef_a w 152 (32 + c) else ef_a w 156 c) ∧ ef_a w' 157 c = (if i ≤ c then ef_a w 152 (48 + c) else ef_a w 157 c) := by
  intro k
  induction k with
  | zero =>
    intro n i w r hik h
    have hi : i = 8 := by omega
    subst hi
    obtain ⟨_, hr, hW⟩ := eg186_151_2_0 h (Int.le_refl _)
    exact ⟨w, hr, hW, ef_s_refl, fun c hc => by rw [if_neg (by omega), if_neg (by omega), if_neg (by omega)]; exact ⟨rfl, rfl, rfl⟩⟩
  | succ k ih =>
    intro n i w r hik h
    have ei : ec_tw (i : Int) = i := ec_twn (by omega)
    have e24 : ec_tw (24 + (i : Int)) = ((24 + i : Nat) : Int) := (ec_tw_id (by omega) (by omega)).trans (by omega)
    have e32 : ec_tw (32 + (i : Int)) = ((32 + i : Nat) : Int) := (ec_tw_id (by omega) (by omega)).trans (by omega)
    have e48 : ec_tw (48 + (i : Int)) = ((48 + i : Nat) : Int) := (ec_tw_id (by omega) (by omega)).trans (by omega)
    have t8 : ec_tw 8 = 8 := rfl
    have q := (eg186_151_2_1 h (by omega)).2
    rw [ei, e24, e32, e48, ec_rd_wr_o (k := 156) (by decide), ec_rd_wr_o (k := 155) (by decide), ec_rd_wr_o (k := 155) (by decide), ef_rd, ef_rd, ef_rd] at q
    have W1 : ec_W hb_A (ec_wr w 155 (i : Int) (ef_a w 152 (24 + i))) := ec_W_wr h.1
    have W2 : ec_W hb_A (ec_wr (ec_wr w 155 (i : Int) (ef_a w 152 (24 + i))) 156 (i : Int) (ef_a w 152 (32 + i))) := ec_W_wr W1
    have sw : ef_s [155, 156, 157] w (ec_wr (ec_wr (ec_wr w 155 (i : Int) (ef_a w 152 (24 + i))) 156 (i : Int) (ef_a w 152 (32 + i))) 157 (i : Int) (ef_a w 152 (48 + i))) := ef_s_trans (ef_s_wr (by decide)) (ef_s_trans (ef_s_wr (by decide)) (ef_s_wr (by decide)))
    obtain ⟨w', hr, hW, s1, f1⟩ := ih n (i + 1) _ r (by omega) q
    have g5 : ∀ c, ef_a (ec_wr (ec_wr (ec_wr w 155 (i : Int) (ef_a w 152 (24 + i))) 156 (i : Int) (ef_a w 152 (32 + i))) 157 (i : Int) (ef_a w 152 (48 + i))) 155 c = if c = i then ef_a w 152 (24 + i) else ef_a w 155 c := by
      intro c
      rw [ef_a_wr_o (by decide), ef_a_wr_o (by decide), ef_a_wr (n := 8) h.1 rfl (by omega) (by omega), ef_tw, Int.toNat_natCast]
      rfl
    have g6 : ∀ c, ef_a (ec_wr (ec_wr (ec_wr w 155 (i : Int) (ef_a w 152 (24 + i))) 156 (i : Int) (ef_a w 152 (32 + i))) 157 (i : Int) (ef_a w 152 (48 + i))) 156 c = if c = i then ef_a w 152 (32 + i) else ef_a w 156 c := by
      intro c
      rw [ef_a_wr_o (by decide), ef_a_wr (n := 8) W1 rfl (by omega) (by omega), ef_a_wr_o (by decide), ef_tw, Int.toNat_natCast]
      rfl
    have g7 : ∀ c, ef_a (ec_wr (ec_wr (ec_wr w 155 (i : Int) (ef_a w 152 (24 + i))) 156 (i : Int) (ef_a w 152 (32 + i))) 157 (i : Int) (ef_a w 152 (48 + i))) 157 c = if c = i then ef_a w 152 (48 + i) else ef_a w 157 c := by
      intro c
      rw [ef_a_wr (n := 8) W2 rfl (by omega) (by omega), ef_a_wr_o (by decide), ef_a_wr_o (by decide), ef_tw, Int.toNat_natCast]
      rfl
    refine ⟨w', hr, hW, ef_s_trans sw s1, fun c hc => ?_⟩
    obtain ⟨k1, k2, k3⟩ := f1 c hc
    rw [g5, ef_s_a sw (by decide)] at k1
    rw [g6, ef_s_a sw (by decide)] at k2
    rw [g7, ef_s_a sw (by decide)] at k3
    rw [k1, k2, k3]
    by_cases h3 : i + 1 ≤ c
    · rw [if_pos h3, if_pos h3, if_pos h3, if_pos (by omega), if_pos (by omega), if_pos (by omega)]
      exact ⟨rfl, rfl, rfl⟩
    · rw [if_neg h3, if_neg h3, if_neg h3]
      by_cases h4 : c = i
      · rw [if_pos h4, if_pos h4, if_pos h4, if_pos (by omega), if_pos (by omega), if_pos (by omega), h4]
        exact ⟨rfl, rfl, rfl⟩
      · rw [if_neg h4, if_neg h4, if_neg h4, if_neg (by omega), if_neg (by omega), if_neg (by omega)]
        exact ⟨rfl, rfl, rfl⟩
theorem ew_loB {n : Nat} {w : px_W} {r : Option Value × px_W} (h : ec_E hb_X n 186 0 [(0, .inr (.inl 215))] [] w r) : ∃ w' : px_W, r = (none, w') ∧ ec_W hb_A w' ∧ ef_s [155, 156, 157] w w' ∧ ∀ c, c < 8 → ef_a w' 155 c = ef_a w 152 (24 + c) ∧ ef_a w' 156 c = ef_a w 152 (32 + c) ∧ ef_a w' 157 c = ef_a w 152 (48 + c) := by
  obtain ⟨w', hr, hW, s1, f1⟩ := ew_lol 8 n 0 w r rfl (eg186_151_0_0 h).2
  refine ⟨w', hr, hW, s1, fun c hc => ?_⟩
  have := f1 c hc
  rw [if_pos (Nat.zero_le c), if_pos (Nat.zero_le c), if_pos (Nat.zero_le c)] at this
  exact this

end
