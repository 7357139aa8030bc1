noncomputable section
/-! THE RUN: the class's search -/
section ER2
variable {N : Nat} {lim : Int} {mi ic Fe Le : Nat → Int}
def er_H (N : Nat) (lim : Int) (mi ic Fe Le : Nat → Int) : Prop := N ≤ 7 ∧ (0 ≤ lim ∧ lim ≤ 9999) ∧ (∀ i, i < N → (1 ≤ mi i ∧ mi i ≤ 99) ∧ 0 ≤ ic i ∧ ic i ≤ 9) ∧ (Fe N = 0 ∧ Le N = 0) ∧ (∀ i, i < N → Fe i = Fe (i + 1) + er_Mi mi i 4 ∧ Le i = Le (i + 1) + er_Ri mi ic i 1) ∧ ∀ i, i ≤ N → (0 ≤ Fe i ∧ Fe i ≤ 9000) ∧ 0 ≤ Le i ∧ Le i ≤ 100000
def er_SI (N : Nat) (lim : Int) (mi ic Fe Le : Nat → Int) (w : px_W) : Prop := ec_fd w 52 0 = (N : Int) ∧ ec_fd w 52 10 = lim ∧ (∀ i, i < N → ef_a w 54 i = mi i ∧ ef_a w 55 i = ic i) ∧ ∀ i, i ≤ N → ef_a w 57 i = Fe i ∧ ef_a w 58 i = Le i
def er_RB (N : Nat) (w : px_W) (b : er_B) : Prop := match b with
  | none => ec_fd w 52 9 = 0
  | some q => ec_fd w 52 9 = 1 ∧ ec_fd w 52 1 = q.1 ∧ ec_fd w 52 2 = q.2.1 ∧ ∀ j, j < N → ef_a w 53 j = er_dg N q.2.2 j
theorem er_SI_s {w w' : px_W} (h : er_SI N lim mi ic Fe Le w) (hs : ef_s [52, 53, 56] w w') (hf : ∀ f, f ≠ 1 → f ≠ 2 → f ≠ 9 → ec_fd w' 52 f = ec_fd w 52 f) : er_SI N lim mi ic Fe Le w' := by
  obtain ⟨h1, h2, h3, h4⟩ := h
  refine ⟨(hf 0 (by decide) (by decide) (by decide)).trans h1, (hf 10 (by decide) (by decide) (by decide)).trans h2, ?_, ?_⟩
  · rw [ef_s_a hs (by decide), ef_s_a hs (by decide)]
    exact h3
  · rw [ef_s_a hs (by decide), ef_s_a hs (by decide)]
    exact h4
theorem er_RB_s {w w' : px_W} {b : er_B} (hf : ∀ f, ec_fd w' 52 f = ec_fd w 52 f) (ha : ef_a w' 53 = ef_a w 53) (h : er_RB N w b) : er_RB N w' b := by
  match b, h with
  | none, h => exact (hf 9).trans h
  | some q, h =>
    obtain ⟨h1, h2, h3, h4⟩ := h
    refine ⟨(hf 9).trans h1, (hf 1).trans h2, (hf 2).trans h3, ?_⟩
    rw [ha]
    exact h4
theorem ew_minOf {n l s : Nat} {w : px_W} {z : Option Value × px_W} (hl : l < 7) (h1 : 1 ≤ s) (h2 : s ≤ 4) (hm : ef_a w 54 l = mi l) (h3 : 1 ≤ mi l) (h4 : mi l ≤ 99) (h : ec_E hb_X n 48 0 [(0, .inr (.inl 116)), (1, .inl (l : Int)), (2, .inl (s : Int))] [] w z) : z = (ec_R (er_Mi mi l s), w) ∧ ec_W hb_A w := by
  have ts : ec_tw (s : Int) = s := ec_twn (by omega)
  have t0 : ec_tw 0 = 0 := rfl
  have k := eg48_52_0_0 h
  rw [ec_twn (n := l) (by omega), ts, t0, ef_rd, hm, ec_dv_nn (by omega) (by omega) (by omega) (by omega)] at k
  exact (k (by omega)).2
theorem ew_riskOf {n l s : Nat} {w : px_W} {z : Option Value × px_W} (hl : l < 7) (hm : ef_a w 54 l = mi l) (hi : ef_a w 55 l = ic l) (h : ec_E hb_X n 49 0 [(0, .inr (.inl 116)), (1, .inl (l : Int)), (2, .inl (s : Int))] [] w z) : z = (ec_R (er_Ri mi ic l s), w) ∧ ec_W hb_A w := by
  have k := eg49_52_0_0 h
  rw [ec_twn (n := l) (by omega), ef_rd, ef_rd, hm, hi] at k
  exact k.2
def er_Q (N : Nat) (w w' : px_W) (l : Nat) (b : er_B) : Prop := ec_W hb_A w' ∧ ef_s [52, 53, 56] w w' ∧ (∀ f, f ≠ 1 → f ≠ 2 → f ≠ 9 → ec_fd w' 52 f = ec_fd w 52 f) ∧ (∀ j, j < l → ef_a w' 56 j = ef_a w 56 j) ∧ er_RB N w' b
theorem ew_sail (H : er_H N lim mi ic Fe Le) : ∀ (k n l v : Nat) (m r : Int) (b : er_B) (w : px_W) (z : Option Value × px_W), l + k = N → er_SI N lim mi ic Fe Le w → er_RB N w b → (∀ j, j < l → ef_a w 56 j = er_dg l v j) → (0 ≤ m ∧ m ≤ 1188 * (l : Int)) → (0 ≤ r ∧ r ≤ 14256 * (l : Int)) → ec_E hb_X n 50 0 [(0, .inr (.inl 116)), (1, .inl (l : Int)), (2, .inl m), (3, .inl r)] [] w z → ∃ w' : px_W, z = (none, w') ∧ er_Q N w w' l (er_tr (er_Mi mi) (er_Ri mi ic) lim k l m r v b) := by
  obtain ⟨H7, HL, Hm, ⟨F0, L0⟩, Hs, Hr⟩ := H
  have hF : ∀ l s, l < N → 1 ≤ s → s ≤ 4 → Fe l ≤ Fe (l + 1) + er_Mi mi l s := fun l s h1 h2 h3 => by
    have a := (Hs l h1).1
    have b := (er_Mi_in h2 h3 (Hm l h1).1.1 (Hm l h1).1.2).2.2
    omega
  have hL : ∀ l s, l < N → 1 ≤ s → s ≤ 4 → Le l ≤ Le (l + 1) + er_Ri mi ic l s := fun l s h1 h2 h3 => by
    have a := (Hs l h1).2
    have b := (er_Ri_in h2 h3 (Hm l h1).1.1 (Hm l h1).1.2 (Hm l h1).2.1 (Hm l h1).2.2).2.2
    omega
  intro k
  induction k with
  | zero =>
    intro n l v m r b w z hl hS hB hd hm hr h
    have hlN : l = N := by omega
    have el : ec_tw (l : Int) = l := ec_twn (by omega)
    have t0 : ec_tw 0 = 0 := rfl
    obtain ⟨s1, s2, s3, s4⟩ := hS
    obtain ⟨⟨f1, f2⟩, f3, f4⟩ := Hr l (by omega)
    obtain ⟨c1, c2⟩ := s4 l (by omega)
    have tm : ec_tw (m + Fe l) = m + Fe l := ec_tw_id (by omega) (by omega)
    have tr : ec_tw (r + Le l) = r + Le l := ec_tw_id (by omega) (by omega)
    have tl : ec_tw lim = lim := ec_tw_id (by omega) (by omega)
    have j0 := eg50_52_0_0 h
    have j1 := eg50_52_0_1 h
    have j2 := eg50_52_0_2 h
    have j3 := eg50_52_0_3 h
    have j4 := eg50_52_0_4 h
    have j5 := eg50_52_0_5 h
    rw [el, ef_rd, ef_rd, c1, c2, tm, s2, tl, t0, ec_tw_fd] at j0
    rw [el, ef_rd, ef_rd, c1, c2, tm, tr, s2, tl, t0, ec_tw_fd, ec_tw_fd] at j1 j2
    rw [el, ef_rd, ef_rd, c1, c2, tm, tr, s2, tl, t0, ec_tw_fd, ec_tw_fd, ec_tw_fd] at j3 j4
    rw [el, ef_rd, c1, tm, s2, tl] at j5
    have stay : er_tr (er_Mi mi) (er_Ri mi ic) lim 0 l m r v b = b → z = (none, w) ∧ ec_W hb_A w → ∃ w' : px_W, z = (none, w') ∧ er_Q N w w' l (er_tr (er_Mi mi) (er_Ri mi ic) lim 0 l m r v b) := fun e q => ⟨w, q.1, q.2, ef_s_refl, fun _ _ _ _ => rfl, fun _ _ => rfl, by rw [e]; exact hB⟩
    by_cases p1 : lim < m + Fe l
    · exact stay (er_no1 F0 hF 0 l m r v b hl p1) (j5 p1).2
    · have on : er_ls b m r = true → ec_E hb_X n 50 65 [(0, .inr (.inl 116)), (1, .inl (l : Int)), (2, .inl m), (3, .inl r), (4, .inl (r + Le l)), (5, .inl (m + Fe l))] [] w z → ∃ w' : px_W, z = (none, w') ∧ er_Q N w w' l (er_tr (er_Mi mi) (er_Ri mi ic) lim 0 l m r v b) := by
        intro hu h65
        have k1 := eg50_52_65_1 h65
        rw [s1, el, ec_twn (n := N) (by omega)] at k1
        obtain ⟨_, v1, w1, a1, a2⟩ := k1 (by omega)
        obtain ⟨w1', e1, W1, q1, p⟩ := ew_cp56_53 a1
        injection e1 with e1 i1
        subst i1
        obtain ⟨_, hz, _⟩ := eg50_52_99_0 (a2 e1 W1)
        have Wa : ec_W hb_A (ec_pf w 52 9 1) := ec_W_pf (k := 52) (f := 9) rfl rfl h.1
        have Wb : ec_W hb_A (ec_pf (ec_pf w 52 9 1) 52 1 r) := ec_W_pf (k := 52) (f := 1) rfl rfl Wa
        have fx : ∀ f, ec_fd w1 52 f = if f = 2 then m else if f = 1 then r else if f = 9 then 1 else ec_fd w 52 f := by
          intro f
          rw [ef_s_f q1 (by decide) f, ec_fd_pf (k := 52) (f := 2) Wb rfl (by decide), ec_fd_pf (k := 52) (f := 1) Wa rfl (by decide), ec_fd_pf (k := 52) (f := 9) h.1 rfl (by decide), ec_tw_id (a := m) (by omega) (by omega), ec_tw_id (a := r) (by omega) (by omega)]
          rfl
        have e56 : ef_a (ec_pf (ec_pf (ec_pf w 52 9 1) 52 1 r) 52 2 m) 56 = ef_a w 56 := ef_s_a (S := [52]) (ef_s_trans (ef_s_trans (ef_s_pf List.mem_cons_self) (ef_s_pf List.mem_cons_self)) (ef_s_pf List.mem_cons_self)) (by decide)
        have eu : er_tr (er_Mi mi) (er_Ri mi ic) lim 0 l m r v b = some (r, m, v) := by
          show er_up lim b m r v = some (r, m, v)
          unfold er_up
          have F0' : Fe l = 0 := by rw [hlN]; exact F0
          rw [if_pos ⟨by omega, hu⟩]
        refine ⟨w1, hz, W1, ef_s_trans (ef_s_trans (ef_s_trans (ef_s_pf (by decide)) (ef_s_pf (by decide))) (ef_s_pf (by decide))) (ef_s_mono q1 (by decide)), fun f n1 n2 n9 => by rw [fx f, if_neg n2, if_neg n1, if_neg n9], fun j _ => ?_, ?_⟩
        · rw [ef_s_a q1 (by decide), e56]
        · rw [eu]
          refine ⟨by rw [fx 9]; rfl, by rw [fx 1]; rfl, by rw [fx 2]; rfl, fun j hj => ?_⟩
          rw [p, e56, ← hlN]
          exact hd j (by omega)
      match b, hB, on, stay with
      | none, hB, on, stay => exact on rfl (j0 (by omega) hB).2
      | some q, hB, on, stay =>
        obtain ⟨b1, b2, b3, _⟩ := hB
        have F0' : Fe l = 0 := by rw [hlN]; exact F0
        have L0' : Le l = 0 := by rw [hlN]; exact L0
        rw [b1, b2] at j1 j2
        rw [b1, b2, b3] at j3 j4
        by_cases p2 : q.1 < r + Le l
        · exact stay (er_no2 F0 L0 hF hL 0 l m r v q hl (.inl p2)) (j1 (by omega) (by decide) p2).2
        · by_cases p3 : r + Le l = q.1
          · by_cases p4 : q.2.1 ≤ m + Fe l
            · exact stay (er_no2 F0 L0 hF hL 0 l m r v q hl (.inr ⟨p3.symm, p4⟩)) (j4 (by omega) (by decide) (by omega) p3 p4).2
            · exact on (er_ls_t (by omega)) (j3 (by omega) (by decide) (by omega) p3 (by omega)).2
          · exact on (er_ls_t (by omega)) (j2 (by omega) (by decide) (by omega) p3).2
  | succ k ihk =>
    intro n l v m r b w z hl hS hB hd hm hr h
    have el : ec_tw (l : Int) = l := ec_twn (by omega)
    have t0 : ec_tw 0 = 0 := rfl
    have t4 : ec_tw 4 = 4 := rfl
    have hS0 := hS
    obtain ⟨s1, s2, s3, s4⟩ := hS
    obtain ⟨⟨f1, f2⟩, f3, f4⟩ := Hr l (by omega)
    obtain ⟨c1, c2⟩ := s4 l (by omega)
    obtain ⟨⟨g1, g2⟩, g3, g4⟩ := Hm l (by omega)
    have tm : ec_tw (m + Fe l) = m + Fe l := ec_tw_id (by omega) (by omega)
    have tr : ec_tw (r + Le l) = r + Le l := ec_tw_id (by omega) (by omega)
    have tl : ec_tw lim = lim := ec_tw_id (by omega) (by omega)
    have j0 := eg50_52_0_0 h
    have j1 := eg50_52_0_1 h
    have j2 := eg50_52_0_2 h
    have j3 := eg50_52_0_3 h
    have j4 := eg50_52_0_4 h
    have j5 := eg50_52_0_5 h
    rw [el, ef_rd, ef_rd, c1, c2, tm, s2, tl, t0, ec_tw_fd] at j0
    rw [el, ef_rd, ef_rd, c1, c2, tm, tr, s2, tl, t0, ec_tw_fd, ec_tw_fd] at j1 j2
    rw [el, ef_rd, ef_rd, c1, c2, tm, tr, s2, tl, t0, ec_tw_fd, ec_tw_fd, ec_tw_fd] at j3 j4
    rw [el, ef_rd, c1, tm, s2, tl] at j5
    have stay : er_tr (er_Mi mi) (er_Ri mi ic) lim (k + 1) l m r v b = b → z = (none, w) ∧ ec_W hb_A w → ∃ w' : px_W, z = (none, w') ∧ er_Q N w w' l (er_tr (er_Mi mi) (er_Ri mi ic) lim (k + 1) l m r v b) := fun e q => ⟨w, q.1, q.2, ef_s_refl, fun _ _ _ _ => rfl, fun _ _ => rfl, by rw [e]; exact hB⟩
    have lp : ∀ (i n j : Nat) (y : px_W) (z : Option Value × px_W) (x4 x5 : Int), j + i = 4 → er_SI N lim mi ic Fe Le y → (∀ j, j < l → ef_a y 56 j = er_dg l v j) → er_RB N y (er_c (er_Mi mi) (er_Ri mi ic) (er_tr (er_Mi mi) (er_Ri mi ic) lim k) l m r v b j) → ec_E hb_X n 50 103 [(0, .inr (.inl 116)), (1, .inl (l : Int)), (2, .inl m), (3, .inl r), (4, .inl x4), (5, .inl x5), (6, .inl (((j + 1 : Nat)) : Int))] [] y z → ∃ w' : px_W, z = (none, w') ∧ er_Q N y w' l (er_c (er_Mi mi) (er_Ri mi ic) (er_tr (er_Mi mi) (er_Ri mi ic) lim k) l m r v b 4) := by
      intro i
      induction i with
      | zero =>
        intro n j y z x4 x5 hj hS hd hB h
        have ej : j = 4 := by omega
        subst ej
        obtain ⟨_, hz, hW⟩ := eg50_52_103_0 h (by decide)
        exact ⟨y, hz, hW, ef_s_refl, fun _ _ _ _ => rfl, fun _ _ => rfl, hB⟩
      | succ i ihi =>
        intro n j y z x4 x5 hj hS hd hB h
        have hS0' := hS
        obtain ⟨_, _, y3, _⟩ := hS
        have tj : ec_tw ((j + 1 : Nat) : Int) = ((j + 1 : Nat) : Int) := ec_twn (by omega)
        have k1 := eg50_52_103_1 h
        rw [tj, el, t4] at k1
        obtain ⟨_, v1, w1, a1, a2⟩ := k1 (by omega)
        have S0 : ef_s [56] y (ec_wr y 56 (l : Int) ((j + 1 : Nat) : Int)) := ef_s_wr List.mem_cons_self
        obtain ⟨e1, W1⟩ := ew_minOf (mi := mi) (s := j + 1) (by omega) (by omega) (by omega) (by rw [ef_a_wr_o (by decide)]; exact (y3 l (by omega)).1) g1 g2 a1
        injection e1 with e1 i1
        have i1 := i1.symm
        subst i1
        obtain ⟨_, v2, w2, a3, a4⟩ := eg50_52_129_0 (a2 _ e1 W1)
        obtain ⟨e2, W2⟩ := ew_riskOf (mi := mi) (ic := ic) (s := j + 1) (by omega) (by rw [ef_a_wr_o (by decide)]; exact (y3 l (by omega)).1) (by rw [ef_a_wr_o (by decide)]; exact (y3 l (by omega)).2) a3
        injection e2 with e2 i2
        have i2 := i2.symm
        subst i2
        obtain ⟨_, v3, w3, a5, a6⟩ := eg50_52_138_0 (a4 _ e2 W2)
        have u56 : ∀ p, ef_a (ec_wr y 56 (l : Int) ((j + 1 : Nat) : Int)) 56 p = if p = l then ((j + 1 : Nat) : Int) else ef_a y 56 p := by
          intro p
          rw [ef_a_wr (n := 7) h.1 rfl (by omega) (by omega), tj]
          unfold ef_u
          rw [Int.toNat_natCast]
        have mb := er_Mi_in (mi := mi) (l := l) (s := j + 1) (by omega) (by omega) g1 g2
        have rb := er_Ri_in (mi := mi) (ic := ic) (l := l) (s := j + 1) (by omega) (by omega) g1 g2 g3 g4
        obtain ⟨w3', e3, Q3⟩ := ihk n (l + 1) (4 * v + j) (m + er_Mi mi l (j + 1)) (r + er_Ri mi ic l (j + 1)) _ _ _ (by omega) (er_SI_s hS0' (ef_s_mono S0 (by decide)) (fun f _ _ _ => ec_fd_wr_o (by decide))) (er_RB_s (fun f => ec_fd_wr_o (by decide)) (ef_a_wr_o (by decide)) hB) (fun p hp => by
          rw [u56 p]
          by_cases q : p = l
          · rw [if_pos q, q, er_dg_eq (by omega)]
            rfl
          · rw [if_neg q, er_dg_lt (by omega) (by omega)]
            exact hd p (by omega)) (by omega) (by omega) a5
        injection e3 with e3 i3
        subst i3
        obtain ⟨W3, S3, f3', d3, B3⟩ := Q3
        have h9 := (eg50_52_142_0 (a6 e3 W3)).2
        have S30 : ef_s [52, 53, 56] y w3 := ef_s_trans (ef_s_mono S0 (by decide)) S3
        have f30 : ∀ f, f ≠ 1 → f ≠ 2 → f ≠ 9 → ec_fd w3 52 f = ec_fd y 52 f := fun f n1 n2 n9 => (f3' f n1 n2 n9).trans (ec_fd_wr_o (by decide))
        have d30 : ∀ p, p < l → ef_a w3 56 p = ef_a y 56 p := fun p hp => by
          rw [d3 p (by omega), u56 p, if_neg (by omega)]
        obtain ⟨w4, hz, W4, S4, f4', d4, B4⟩ := ihi n (j + 1) w3 z x4 x5 (by omega) (er_SI_s hS0' S30 f30) (fun p hp => (d30 p hp).trans (hd p hp)) B3 h9
        exact ⟨w4, hz, W4, ef_s_trans S30 S4, fun f n1 n2 n9 => (f4' f n1 n2 n9).trans (f30 f n1 n2 n9), fun p hp => (d4 p hp).trans (d30 p hp), B4⟩
    have on : ec_E hb_X n 50 65 [(0, .inr (.inl 116)), (1, .inl (l : Int)), (2, .inl m), (3, .inl r), (4, .inl (r + Le l)), (5, .inl (m + Fe l))] [] w z → ∃ w' : px_W, z = (none, w') ∧ er_Q N w w' l (er_tr (er_Mi mi) (er_Ri mi ic) lim (k + 1) l m r v b) := by
      intro h65
      have k1 := eg50_52_65_0 h65
      rw [s1, el, ec_twn (n := N) (by omega)] at k1
      exact lp 4 n 0 w z _ _ (by omega) hS0 hd hB (k1 (by omega)).2
    by_cases p1 : lim < m + Fe l
    · exact stay (er_no1 F0 hF (k + 1) l m r v b hl p1) (j5 p1).2
    · match b, hB, on, stay with
      | none, hB, on, stay => exact on (j0 (by omega) hB).2
      | some q, hB, on, stay =>
        obtain ⟨b1, b2, b3, _⟩ := hB
        rw [b1, b2] at j1 j2
        rw [b1, b2, b3] at j3 j4
        by_cases p2 : q.1 < r + Le l
        · exact stay (er_no2 F0 L0 hF hL (k + 1) l m r v q hl (.inl p2)) (j1 (by omega) (by decide) p2).2
        · by_cases p3 : r + Le l = q.1
          · by_cases p4 : q.2.1 ≤ m + Fe l
            · exact stay (er_no2 F0 L0 hF hL (k + 1) l m r v q hl (.inr ⟨p3.symm, p4⟩)) (j4 (by omega) (by decide) (by omega) p3 p4).2
            · exact on (j3 (by omega) (by decide) (by omega) p3 (by omega)).2
          · exact on (j2 (by omega) (by decide) (by omega) p3).2
end ER2

end
